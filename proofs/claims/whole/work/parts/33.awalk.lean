section
variable {p : Program} {l : Launch} {e : Env} {s : State} {m : MethodId} {args : Array Value} {below : List Frame} {meth : Method} {c : Code}
variable {D : va_G} {G : Nat → ClassId} {ad : Nat → Nat} {r : sR} {n : Nat} {x : Int64 × UInt64}
abbrev rmX1_init (c s : Nat) : Room := { frames := 1, cells := c, slots := s, locals := 24 }
set_option maxRecDepth 100000 in
set_option maxHeartbeats 4000000 in
theorem mX1_init (l : Launch) (K : Nat) (D : va_G) (G : Nat → ClassId) (ad : Nat → Nat) (r : sR) (v : sV) (n : Nat) (x : Int64 × UInt64) (tq : Nat) (hkt : sks tq = (3, 2)) (hdt : lv r n tq) : sMAv l yX1_init (.code yX1_init cX1_init 1 none :: wsL_law) rmX1_init D G ad r v n x [.ref (ad tq)] (fX1_init K tq r v n) := by
  intro sz0 q0 hf
  obtain ⟨fin, he⟩ : ∃ fin, fin = fz n q0 := ⟨_, rfl⟩
  rw [← he]
  refine Met.ofW (cc := cX1_init) (maxL := 1) (ret := none) (by decide) rfl ?_
  intro p e s m args below meth c s₁ B hml hv
  obtain ⟨hargs, rfl, hU, hP, hD⟩ := hv
  have hx := B.exec
  have hb := B.bytes
  have hrt := B.returns
  have hts : ∀ w ∈ wsL_law, w.before args s = true := fun w hw => atoms_spec (ws := .code yX1_init cX1_init 1 none :: wsL_law) B.pre w (List.mem_cons_of_mem _ hw)
  have hlocks := B.notSynchronized
  have hin9 : meth.name = "<init>" := (name_of_methodNamed B.named B.method).1
  have E : CallFix p m c cX1_init 1 s args wsL_law RX1 := ⟨hx, hb, hml, findClass_of_methodNamed B.named, hts⟩
  have hB : sB D G (sA ad r n s.heap.size) s.heap ad r v n x s.heap [] := ⟨hP, sD_self hD, va_S.rf⟩
  have hgo : sGo r n ad r n ad := sGo.rf
  have h0 : n ≤ n := Nat.le_refl n
  have hl := lv_entry ([.ref (ad tq)]) (n := 1) (Nat.le_of_ble_eq_true rfl)
  refine W.eq (g2 := F0 m 0 ((lg_sl ([.ref (ad tq)]) ++ List.replicate (1 - (lg_sl ([.ref (ad tq)])).length) Slot.unset).toArray) []) (by rw [hargs]; exact lg_entry_eq _ _ _) ?_
  generalize (lg_sl ([.ref (ad tq)]) ++ List.replicate (1 - (lg_sl ([.ref (ad tq)])).length) Slot.unset).toArray = ls at hl ⊢
  have hl : lv_has ls 1 [(0, .ref (ad tq))] := hl
  refine W_00 (n := n) ?_
  have hf := (fX1_init.eq_1 ..).symm.trans hf
  refine lv_aload_n hx hb dX1_init_0 rfl (lv_at hl 0 rfl) ?_
  refine s_obj E hl.1 wmX1_3 wobi wobc dX1_init_1 (Nat.le_of_ble_eq_true rfl) (Nat.le_of_ble_eq_true rfl) ?_
  refine lv_aload_n hx hb dX1_init_4 rfl (lv_at hl 0 rfl) ?_
  refine lv_sipush (v := 140) hx hb dX1_init_5 rfl ?_
  refine s_newA 0 .int .int E hU hB (fun q h => Or.inr h) h0 ⟨Nat.le_refl _, Nat.le_refl _⟩ (fun _ => rfl) rfl (fun _ _ h => h) warr_int (fun _ => rfl) (by decide) (by decide) rfl (by decide) dX1_init_8 hf he (fun rr1 v1 n1 rez hd1 hf he ad1 hg1 h0 hkn1 H hB => ?_)
  rw [← (hg1.2 (tq) hdt).2]
  have hl : lv_has ls 1 [(0, .ref (ad1 tq))] := by rw [(hg1.2 (tq) hdt).2]; exact hl
  have hgo := hgo.trans hg1
  have hdt := (hg1.2 _ hdt).1
  refine s_putR (k := 0) (t := n) (ty1 := .array .int) E hU hB sc3 hdt hkt inlX1 (Nat.le_of_ble_eq_true rfl) rfl rfl wkX1_9 rfl hin9 rfl rfl rfl rfl dX1_init_10 hf (fun rr2 hf hg9 H locs hB => ?_)
  have hgo := hgo.trans hg9
  have hdt := (hg9.2 _ hdt).1
  refine lv_aload_n hx hb dX1_init_13 rfl (lv_at hl 0 rfl) ?_
  obtain ⟨⟨hr9, hdq3⟩, hf⟩ := ck_e hf
  refine s_getR (k := 0) (t := n) E hU hB.1 sc3 hdt hkt inlX1 (Nat.le_of_ble_eq_true rfl) rfl rfl wkX1_9 hr9 dX1_init_14 ?_
  refine lv_iconst (v := (-1)) hx hb dX1_init_17 rfl ?_
  refine sc_V hB (fun q h => Or.inr h) hf (fun q9 h9 => rS_W (As := [.ref (ad1 n), .int (-1)]) (rest := []) E hU hB ((mJ7_fill_53178 l K D G ad1 rr2 _ n1 x n 140 hkn1 hdq3 (-1)) _ _ h9) (cwGS 2 okJ7_fill_53178 wmX1_15 hts rfl rfl ⟨Nat.le_of_ble_eq_true rfl, Nat.le_of_ble_eq_true rfl⟩) rfl hl.1 (Nat.le_of_ble_eq_true rfl) dX1_init_18 (aC he (Nat.le_refl _) (Nat.le_refl _)) rfl) (fun v4 hf H locs hB => ?_)
  refine lv_aload_n hx hb dX1_init_21 rfl (lv_at hl 0 rfl) ?_
  refine lv_iconst (v := 0) hx hb dX1_init_22 rfl ?_
  refine s_putI (k := 1) (ty1 := .boolean) E hU hB sc3 hdt hkt inlX1 (Nat.le_of_ble_eq_true rfl) rfl rfl wkX1_21 rfl rfl rfl rfl dX1_init_23 hf (fun v5 hf H locs hB => ?_)
  exact s_vretA E hrt hlocks hB hgo hf he dX1_init_26
abbrev rmX5_init (c s : Nat) : Room := { frames := 1, cells := c, slots := s, locals := 24 }
set_option maxRecDepth 100000 in
set_option maxHeartbeats 4000000 in
theorem mX5_init (l : Launch) (K : Nat) (D : va_G) (G : Nat → ClassId) (ad : Nat → Nat) (r : sR) (v : sV) (n : Nat) (x : Int64 × UInt64) (tq : Nat) (hkt : sks tq = (7, 13)) (hdt : lv r n tq) : sMAv l yX5_init (.code yX5_init cX5_init 1 none :: wsL_law) rmX5_init D G ad r v n x [.ref (ad tq)] (fX5_init K tq r v n) := by
  intro sz0 q0 hf
  obtain ⟨fin, he⟩ : ∃ fin, fin = fz n q0 := ⟨_, rfl⟩
  rw [← he]
  refine Met.ofW (cc := cX5_init) (maxL := 1) (ret := none) (by decide) rfl ?_
  intro p e s m args below meth c s₁ B hml hv
  obtain ⟨hargs, rfl, hU, hP, hD⟩ := hv
  have hx := B.exec
  have hb := B.bytes
  have hrt := B.returns
  have hts : ∀ w ∈ wsL_law, w.before args s = true := fun w hw => atoms_spec (ws := .code yX5_init cX5_init 1 none :: wsL_law) B.pre w (List.mem_cons_of_mem _ hw)
  have hlocks := B.notSynchronized
  have hin9 : meth.name = "<init>" := (name_of_methodNamed B.named B.method).1
  have E : CallFix p m c cX5_init 1 s args wsL_law RX5 := ⟨hx, hb, hml, findClass_of_methodNamed B.named, hts⟩
  have hB : sB D G (sA ad r n s.heap.size) s.heap ad r v n x s.heap [] := ⟨hP, sD_self hD, va_S.rf⟩
  have hgo : sGo r n ad r n ad := sGo.rf
  have h0 : n ≤ n := Nat.le_refl n
  have hl := lv_entry ([.ref (ad tq)]) (n := 1) (Nat.le_of_ble_eq_true rfl)
  refine W.eq (g2 := F0 m 0 ((lg_sl ([.ref (ad tq)]) ++ List.replicate (1 - (lg_sl ([.ref (ad tq)])).length) Slot.unset).toArray) []) (by rw [hargs]; exact lg_entry_eq _ _ _) ?_
  generalize (lg_sl ([.ref (ad tq)]) ++ List.replicate (1 - (lg_sl ([.ref (ad tq)])).length) Slot.unset).toArray = ls at hl ⊢
  have hl : lv_has ls 1 [(0, .ref (ad tq))] := hl
  refine W_00 (n := n) ?_
  have hf := (fX5_init.eq_1 ..).symm.trans hf
  refine lv_aload_n hx hb dX5_init_0 rfl (lv_at hl 0 rfl) ?_
  refine s_obj E hl.1 wmX5_3 wobi wobc dX5_init_1 (Nat.le_of_ble_eq_true rfl) (Nat.le_of_ble_eq_true rfl) ?_
  refine lv_aload_n hx hb dX5_init_4 rfl (lv_at hl 0 rfl) ?_
  refine lv_sipush (v := 140) hx hb dX5_init_5 rfl ?_
  refine s_newA 0 .int .int E hU hB (fun q h => Or.inr h) h0 ⟨Nat.le_refl _, Nat.le_refl _⟩ (fun _ => rfl) rfl (fun _ _ h => h) warr_int (fun _ => rfl) (by decide) (by decide) rfl (by decide) dX5_init_8 hf he (fun rr1 v1 n1 rez hd1 hf he ad1 hg1 h0 hkn1 H hB => ?_)
  rw [← (hg1.2 (tq) hdt).2]
  have hl : lv_has ls 1 [(0, .ref (ad1 tq))] := by rw [(hg1.2 (tq) hdt).2]; exact hl
  have hgo := hgo.trans hg1
  have hdt := (hg1.2 _ hdt).1
  refine s_putR (k := 0) (t := n) (ty1 := .array .int) E hU hB sc7 hdt hkt inlX5 (Nat.le_of_ble_eq_true rfl) rfl rfl wkX5_9 rfl hin9 rfl rfl rfl rfl dX5_init_10 hf (fun rr2 hf hg9 H locs hB => ?_)
  have hgo := hgo.trans hg9
  have hdt := (hg9.2 _ hdt).1
  refine lv_aload_n hx hb dX5_init_13 rfl (lv_at hl 0 rfl) ?_
  refine lv_sipush (v := 140) hx hb dX5_init_14 rfl ?_
  refine s_newA 0 .int .int E hU hB (fun q h => Or.inr h) h0 ⟨Nat.le_refl _, Nat.le_refl _⟩ (fun _ => rfl) rfl (fun _ _ h => h) warr_int (fun _ => rfl) (by decide) (by decide) rfl (by decide) dX5_init_17 hf he (fun rr3 v3 n3 rez hd3 hf he ad3 hg3 h0 hkn3 H hB => ?_)
  rw [← (hg3.2 (tq) hdt).2]
  have hl : lv_has ls 1 [(0, .ref (ad3 tq))] := by rw [(hg3.2 (tq) hdt).2]; exact hl
  have hgo := hgo.trans hg3
  have hdt := (hg3.2 _ hdt).1
  refine s_putR (k := 1) (t := n1) (ty1 := .array .int) E hU hB sc7 hdt hkt inlX5 (Nat.le_of_ble_eq_true rfl) rfl rfl wkX5_15 rfl hin9 rfl rfl rfl rfl dX5_init_19 hf (fun rr4 hf hg9 H locs hB => ?_)
  have hgo := hgo.trans hg9
  have hdt := (hg9.2 _ hdt).1
  refine lv_aload_n hx hb dX5_init_22 rfl (lv_at hl 0 rfl) ?_
  refine lv_iconst (v := 4) hx hb dX5_init_23 rfl ?_
  refine s_newA 0 .int .int E hU hB (fun q h => Or.inr h) h0 ⟨Nat.le_refl _, Nat.le_refl _⟩ (fun _ => rfl) rfl (fun _ _ h => h) warr_int (fun _ => rfl) (by decide) (by decide) rfl (by decide) dX5_init_24 hf he (fun rr5 v5 n5 rez hd5 hf he ad5 hg5 h0 hkn5 H hB => ?_)
  rw [← (hg5.2 (tq) hdt).2]
  have hl : lv_has ls 1 [(0, .ref (ad5 tq))] := by rw [(hg5.2 (tq) hdt).2]; exact hl
  have hgo := hgo.trans hg5
  have hdt := (hg5.2 _ hdt).1
  refine s_putR (k := 2) (t := n3) (ty1 := .array .int) E hU hB sc7 hdt hkt inlX5 (Nat.le_of_ble_eq_true rfl) rfl rfl wkX5_18 rfl hin9 rfl rfl rfl rfl dX5_init_26 hf (fun rr6 hf hg9 H locs hB => ?_)
  have hgo := hgo.trans hg9
  have hdt := (hg9.2 _ hdt).1
  refine lv_aload_n hx hb dX5_init_29 rfl (lv_at hl 0 rfl) ?_
  refine lv_bipush (v := 16) hx hb dX5_init_30 rfl ?_
  refine s_newA 0 .int .int E hU hB (fun q h => Or.inr h) h0 ⟨Nat.le_refl _, Nat.le_refl _⟩ (fun _ => rfl) rfl (fun _ _ h => h) warr_int (fun _ => rfl) (by decide) (by decide) rfl (by decide) dX5_init_32 hf he (fun rr7 v7 n7 rez hd7 hf he ad7 hg7 h0 hkn7 H hB => ?_)
  rw [← (hg7.2 (tq) hdt).2]
  have hl : lv_has ls 1 [(0, .ref (ad7 tq))] := by rw [(hg7.2 (tq) hdt).2]; exact hl
  have hgo := hgo.trans hg7
  have hdt := (hg7.2 _ hdt).1
  refine s_putR (k := 3) (t := n5) (ty1 := .array .int) E hU hB sc7 hdt hkt inlX5 (Nat.le_of_ble_eq_true rfl) rfl rfl wkX5_21 rfl hin9 rfl rfl rfl rfl dX5_init_34 hf (fun rr8 hf hg9 H locs hB => ?_)
  have hgo := hgo.trans hg9
  have hdt := (hg9.2 _ hdt).1
  refine lv_aload_n hx hb dX5_init_37 rfl (lv_at hl 0 rfl) ?_
  refine lv_bipush (v := 16) hx hb dX5_init_38 rfl ?_
  refine s_newA 0 .int .int E hU hB (fun q h => Or.inr h) h0 ⟨Nat.le_refl _, Nat.le_refl _⟩ (fun _ => rfl) rfl (fun _ _ h => h) warr_int (fun _ => rfl) (by decide) (by decide) rfl (by decide) dX5_init_40 hf he (fun rr9 v9 n9 rez hd9 hf he ad9 hg9 h0 hkn9 H hB => ?_)
  rw [← (hg9.2 (tq) hdt).2]
  have hl : lv_has ls 1 [(0, .ref (ad9 tq))] := by rw [(hg9.2 (tq) hdt).2]; exact hl
  have hgo := hgo.trans hg9
  have hdt := (hg9.2 _ hdt).1
  refine s_putR (k := 4) (t := n7) (ty1 := .array .int) E hU hB sc7 hdt hkt inlX5 (Nat.le_of_ble_eq_true rfl) rfl rfl wkX5_24 rfl hin9 rfl rfl rfl rfl dX5_init_42 hf (fun rr10 hf hg9 H locs hB => ?_)
  have hgo := hgo.trans hg9
  have hdt := (hg9.2 _ hdt).1
  refine lv_aload_n hx hb dX5_init_45 rfl (lv_at hl 0 rfl) ?_
  refine lv_bipush (v := 16) hx hb dX5_init_46 rfl ?_
  refine s_newA 0 .int .int E hU hB (fun q h => Or.inr h) h0 ⟨Nat.le_refl _, Nat.le_refl _⟩ (fun _ => rfl) rfl (fun _ _ h => h) warr_int (fun _ => rfl) (by decide) (by decide) rfl (by decide) dX5_init_48 hf he (fun rr11 v11 n11 rez hd11 hf he ad11 hg11 h0 hkn11 H hB => ?_)
  rw [← (hg11.2 (tq) hdt).2]
  have hl : lv_has ls 1 [(0, .ref (ad11 tq))] := by rw [(hg11.2 (tq) hdt).2]; exact hl
  have hgo := hgo.trans hg11
  have hdt := (hg11.2 _ hdt).1
  refine s_putR (k := 5) (t := n9) (ty1 := .array .int) E hU hB sc7 hdt hkt inlX5 (Nat.le_of_ble_eq_true rfl) rfl rfl wkX5_27 rfl hin9 rfl rfl rfl rfl dX5_init_50 hf (fun rr12 hf hg9 H locs hB => ?_)
  have hgo := hgo.trans hg9
  have hdt := (hg9.2 _ hdt).1
  refine lv_aload_n hx hb dX5_init_53 rfl (lv_at hl 0 rfl) ?_
  refine lv_bipush (v := 16) hx hb dX5_init_54 rfl ?_
  refine s_newA 0 .int .int E hU hB (fun q h => Or.inr h) h0 ⟨Nat.le_refl _, Nat.le_refl _⟩ (fun _ => rfl) rfl (fun _ _ h => h) warr_int (fun _ => rfl) (by decide) (by decide) rfl (by decide) dX5_init_56 hf he (fun rr13 v13 n13 rez hd13 hf he ad13 hg13 h0 hkn13 H hB => ?_)
  rw [← (hg13.2 (tq) hdt).2]
  have hl : lv_has ls 1 [(0, .ref (ad13 tq))] := by rw [(hg13.2 (tq) hdt).2]; exact hl
  have hgo := hgo.trans hg13
  have hdt := (hg13.2 _ hdt).1
  refine s_putR (k := 6) (t := n11) (ty1 := .array .int) E hU hB sc7 hdt hkt inlX5 (Nat.le_of_ble_eq_true rfl) rfl rfl wkX5_30 rfl hin9 rfl rfl rfl rfl dX5_init_58 hf (fun rr14 hf hg9 H locs hB => ?_)
  have hgo := hgo.trans hg9
  have hdt := (hg9.2 _ hdt).1
  refine lv_aload_n hx hb dX5_init_61 rfl (lv_at hl 0 rfl) ?_
  refine lv_bipush (v := 16) hx hb dX5_init_62 rfl ?_
  refine s_newA 0 .int .int E hU hB (fun q h => Or.inr h) h0 ⟨Nat.le_refl _, Nat.le_refl _⟩ (fun _ => rfl) rfl (fun _ _ h => h) warr_int (fun _ => rfl) (by decide) (by decide) rfl (by decide) dX5_init_64 hf he (fun rr15 v15 n15 rez hd15 hf he ad15 hg15 h0 hkn15 H hB => ?_)
  rw [← (hg15.2 (tq) hdt).2]
  have hl : lv_has ls 1 [(0, .ref (ad15 tq))] := by rw [(hg15.2 (tq) hdt).2]; exact hl
  have hgo := hgo.trans hg15
  have hdt := (hg15.2 _ hdt).1
  refine s_putR (k := 7) (t := n13) (ty1 := .array .int) E hU hB sc7 hdt hkt inlX5 (Nat.le_of_ble_eq_true rfl) rfl rfl wkX5_33 rfl hin9 rfl rfl rfl rfl dX5_init_66 hf (fun rr16 hf hg9 H locs hB => ?_)
  have hgo := hgo.trans hg9
  have hdt := (hg9.2 _ hdt).1
  refine lv_aload_n hx hb dX5_init_69 rfl (lv_at hl 0 rfl) ?_
  refine lv_bipush (v := 16) hx hb dX5_init_70 rfl ?_
  refine s_newA 0 .int .int E hU hB (fun q h => Or.inr h) h0 ⟨Nat.le_refl _, Nat.le_refl _⟩ (fun _ => rfl) rfl (fun _ _ h => h) warr_int (fun _ => rfl) (by decide) (by decide) rfl (by decide) dX5_init_72 hf he (fun rr17 v17 n17 rez hd17 hf he ad17 hg17 h0 hkn17 H hB => ?_)
  rw [← (hg17.2 (tq) hdt).2]
  have hl : lv_has ls 1 [(0, .ref (ad17 tq))] := by rw [(hg17.2 (tq) hdt).2]; exact hl
  have hgo := hgo.trans hg17
  have hdt := (hg17.2 _ hdt).1
  refine s_putR (k := 8) (t := n15) (ty1 := .array .int) E hU hB sc7 hdt hkt inlX5 (Nat.le_of_ble_eq_true rfl) rfl rfl wkX5_36 rfl hin9 rfl rfl rfl rfl dX5_init_74 hf (fun rr18 hf hg9 H locs hB => ?_)
  have hgo := hgo.trans hg9
  have hdt := (hg9.2 _ hdt).1
  refine lv_aload_n hx hb dX5_init_77 rfl (lv_at hl 0 rfl) ?_
  refine lv_bipush (v := 16) hx hb dX5_init_78 rfl ?_
  refine s_newA 0 .int .int E hU hB (fun q h => Or.inr h) h0 ⟨Nat.le_refl _, Nat.le_refl _⟩ (fun _ => rfl) rfl (fun _ _ h => h) warr_int (fun _ => rfl) (by decide) (by decide) rfl (by decide) dX5_init_80 hf he (fun rr19 v19 n19 rez hd19 hf he ad19 hg19 h0 hkn19 H hB => ?_)
  rw [← (hg19.2 (tq) hdt).2]
  have hl : lv_has ls 1 [(0, .ref (ad19 tq))] := by rw [(hg19.2 (tq) hdt).2]; exact hl
  have hgo := hgo.trans hg19
  have hdt := (hg19.2 _ hdt).1
  refine s_putR (k := 9) (t := n17) (ty1 := .array .int) E hU hB sc7 hdt hkt inlX5 (Nat.le_of_ble_eq_true rfl) rfl rfl wkX5_39 rfl hin9 rfl rfl rfl rfl dX5_init_82 hf (fun rr20 hf hg9 H locs hB => ?_)
  have hgo := hgo.trans hg9
  have hdt := (hg9.2 _ hdt).1
  refine lv_aload_n hx hb dX5_init_85 rfl (lv_at hl 0 rfl) ?_
  refine lv_bipush (v := 16) hx hb dX5_init_86 rfl ?_
  refine s_newA 0 .int .int E hU hB (fun q h => Or.inr h) h0 ⟨Nat.le_refl _, Nat.le_refl _⟩ (fun _ => rfl) rfl (fun _ _ h => h) warr_int (fun _ => rfl) (by decide) (by decide) rfl (by decide) dX5_init_88 hf he (fun rr21 v21 n21 rez hd21 hf he ad21 hg21 h0 hkn21 H hB => ?_)
  rw [← (hg21.2 (tq) hdt).2]
  have hl : lv_has ls 1 [(0, .ref (ad21 tq))] := by rw [(hg21.2 (tq) hdt).2]; exact hl
  have hgo := hgo.trans hg21
  have hdt := (hg21.2 _ hdt).1
  refine s_putR (k := 10) (t := n19) (ty1 := .array .int) E hU hB sc7 hdt hkt inlX5 (Nat.le_of_ble_eq_true rfl) rfl rfl wkX5_42 rfl hin9 rfl rfl rfl rfl dX5_init_90 hf (fun rr22 hf hg9 H locs hB => ?_)
  have hgo := hgo.trans hg9
  have hdt := (hg9.2 _ hdt).1
  refine lv_aload_n hx hb dX5_init_93 rfl (lv_at hl 0 rfl) ?_
  refine lv_iconst (v := 5) hx hb dX5_init_94 rfl ?_
  refine s_newA 0 .int .int E hU hB (fun q h => Or.inr h) h0 ⟨Nat.le_refl _, Nat.le_refl _⟩ (fun _ => rfl) rfl (fun _ _ h => h) warr_int (fun _ => rfl) (by decide) (by decide) rfl (by decide) dX5_init_95 hf he (fun rr23 v23 n23 rez hd23 hf he ad23 hg23 h0 hkn23 H hB => ?_)
  rw [← (hg23.2 (tq) hdt).2]
  have hl : lv_has ls 1 [(0, .ref (ad23 tq))] := by rw [(hg23.2 (tq) hdt).2]; exact hl
  have hgo := hgo.trans hg23
  have hdt := (hg23.2 _ hdt).1
  refine s_putR (k := 11) (t := n21) (ty1 := .array .int) E hU hB sc7 hdt hkt inlX5 (Nat.le_of_ble_eq_true rfl) rfl rfl wkX5_45 rfl hin9 rfl rfl rfl rfl dX5_init_97 hf (fun rr24 hf hg9 H locs hB => ?_)
  have hgo := hgo.trans hg9
  have hdt := (hg9.2 _ hdt).1
  refine lv_aload_n hx hb dX5_init_100 rfl (lv_at hl 0 rfl) ?_
  refine lv_iconst (v := 3) hx hb dX5_init_101 rfl ?_
  refine s_putI (k := 12) (ty1 := .int) E hU hB sc7 hdt hkt inlX5 (Nat.le_of_ble_eq_true rfl) rfl rfl wkX5_48 rfl rfl rfl rfl dX5_init_102 hf (fun v25 hf H locs hB => ?_)
  refine lv_aload_n hx hb dX5_init_105 rfl (lv_at hl 0 rfl) ?_
  obtain ⟨⟨hr9, hdq26⟩, hf⟩ := ck_e hf
  refine s_getR (k := 0) (t := n) E hU hB.1 sc7 hdt hkt inlX5 (Nat.le_of_ble_eq_true rfl) rfl rfl wkX5_9 hr9 dX5_init_106 ?_
  refine lv_iconst (v := 1) hx hb dX5_init_109 rfl ?_
  refine sc_V hB (fun q h => Or.inr h) hf (fun q9 h9 => rS_W (As := [.ref (ad23 n), .int 1]) (rest := []) E hU hB ((mJ7_fill_53178 l K D G ad23 rr24 _ n23 x n 140 hkn1 hdq26 1) _ _ h9) (cwGS 2 okJ7_fill_53178 wmX5_52 hts rfl rfl ⟨Nat.le_of_ble_eq_true rfl, Nat.le_of_ble_eq_true rfl⟩) rfl hl.1 (Nat.le_of_ble_eq_true rfl) dX5_init_110 (aC he (Nat.le_refl _) (Nat.le_refl _)) rfl) (fun v27 hf H locs hB => ?_)
  refine lv_aload_n hx hb dX5_init_113 rfl (lv_at hl 0 rfl) ?_
  obtain ⟨⟨hr9, hdq28⟩, hf⟩ := ck_e hf
  refine s_getR (k := 2) (t := n3) E hU hB.1 sc7 hdt hkt inlX5 (Nat.le_of_ble_eq_true rfl) rfl rfl wkX5_18 hr9 dX5_init_114 ?_
  refine lv_iconst (v := (-1)) hx hb dX5_init_117 rfl ?_
  refine sc_V hB (fun q h => Or.inr h) hf (fun q9 h9 => rS_W (As := [.ref (ad23 n3), .int (-1)]) (rest := []) E hU hB ((mJ7_fill_53178 l K D G ad23 rr24 _ n23 x n3 4 hkn5 hdq28 (-1)) _ _ h9) (cwGS 2 okJ7_fill_53178 wmX5_52 hts rfl rfl ⟨Nat.le_of_ble_eq_true rfl, Nat.le_of_ble_eq_true rfl⟩) rfl hl.1 (Nat.le_of_ble_eq_true rfl) dX5_init_118 (aC he (Nat.le_refl _) (Nat.le_refl _)) rfl) (fun v29 hf H locs hB => ?_)
  refine lv_aload_n hx hb dX5_init_121 rfl (lv_at hl 0 rfl) ?_
  obtain ⟨⟨hr9, hdq30⟩, hf⟩ := ck_e hf
  refine s_getR (k := 3) (t := n5) E hU hB.1 sc7 hdt hkt inlX5 (Nat.le_of_ble_eq_true rfl) rfl rfl wkX5_21 hr9 dX5_init_122 ?_
  refine lv_iconst (v := (-1)) hx hb dX5_init_125 rfl ?_
  refine sc_V hB (fun q h => Or.inr h) hf (fun q9 h9 => rS_W (As := [.ref (ad23 n5), .int (-1)]) (rest := []) E hU hB ((mJ7_fill_53178 l K D G ad23 rr24 _ n23 x n5 16 hkn7 hdq30 (-1)) _ _ h9) (cwGS 2 okJ7_fill_53178 wmX5_52 hts rfl rfl ⟨Nat.le_of_ble_eq_true rfl, Nat.le_of_ble_eq_true rfl⟩) rfl hl.1 (Nat.le_of_ble_eq_true rfl) dX5_init_126 (aC he (Nat.le_refl _) (Nat.le_refl _)) rfl) (fun v31 hf H locs hB => ?_)
  refine lv_aload_n hx hb dX5_init_129 rfl (lv_at hl 0 rfl) ?_
  obtain ⟨⟨hr9, hdq32⟩, hf⟩ := ck_e hf
  refine s_getR (k := 4) (t := n7) E hU hB.1 sc7 hdt hkt inlX5 (Nat.le_of_ble_eq_true rfl) rfl rfl wkX5_24 hr9 dX5_init_130 ?_
  refine lv_iconst (v := (-1)) hx hb dX5_init_133 rfl ?_
  refine sc_V hB (fun q h => Or.inr h) hf (fun q9 h9 => rS_W (As := [.ref (ad23 n7), .int (-1)]) (rest := []) E hU hB ((mJ7_fill_53178 l K D G ad23 rr24 _ n23 x n7 16 hkn9 hdq32 (-1)) _ _ h9) (cwGS 2 okJ7_fill_53178 wmX5_52 hts rfl rfl ⟨Nat.le_of_ble_eq_true rfl, Nat.le_of_ble_eq_true rfl⟩) rfl hl.1 (Nat.le_of_ble_eq_true rfl) dX5_init_134 (aC he (Nat.le_refl _) (Nat.le_refl _)) rfl) (fun v33 hf H locs hB => ?_)
  refine lv_aload_n hx hb dX5_init_137 rfl (lv_at hl 0 rfl) ?_
  obtain ⟨⟨hr9, hdq34⟩, hf⟩ := ck_e hf
  refine s_getR (k := 8) (t := n15) E hU hB.1 sc7 hdt hkt inlX5 (Nat.le_of_ble_eq_true rfl) rfl rfl wkX5_36 hr9 dX5_init_138 ?_
  refine lv_iconst (v := (-1)) hx hb dX5_init_141 rfl ?_
  refine sc_V hB (fun q h => Or.inr h) hf (fun q9 h9 => rS_W (As := [.ref (ad23 n15), .int (-1)]) (rest := []) E hU hB ((mJ7_fill_53178 l K D G ad23 rr24 _ n23 x n15 16 hkn17 hdq34 (-1)) _ _ h9) (cwGS 2 okJ7_fill_53178 wmX5_52 hts rfl rfl ⟨Nat.le_of_ble_eq_true rfl, Nat.le_of_ble_eq_true rfl⟩) rfl hl.1 (Nat.le_of_ble_eq_true rfl) dX5_init_142 (aC he (Nat.le_refl _) (Nat.le_refl _)) rfl) (fun v35 hf H locs hB => ?_)
  exact s_vretA E hrt hlocks hB hgo hf he dX5_init_145
abbrev rmX2_init (c s : Nat) : Room := { frames := 2, cells := c, slots := s, locals := 44 }
set_option maxRecDepth 100000 in
set_option maxHeartbeats 4000000 in
theorem mX2_init (l : Launch) (K : Nat) (D : va_G) (G : Nat → ClassId) (ad : Nat → Nat) (r : sR) (v : sV) (n : Nat) (x : Int64 × UInt64) (tq : Nat) (hkt : sks tq = (4, 4)) (hdt : lv r n tq) : sMAv l yX2_init (.code yX2_init cX2_init 1 none :: wsL_law) rmX2_init D G ad r v n x [.ref (ad tq)] (fX2_init K tq r v n) := by
  intro sz0 q0 hf
  obtain ⟨fin, he⟩ : ∃ fin, fin = fz n q0 := ⟨_, rfl⟩
  rw [← he]
  refine Met.ofW (cc := cX2_init) (maxL := 1) (ret := none) (by decide) rfl ?_
  intro p e s m args below meth c s₁ B hml hv
  obtain ⟨hargs, rfl, hU, hP, hD⟩ := hv
  have hx := B.exec
  have hb := B.bytes
  have hrt := B.returns
  have hts : ∀ w ∈ wsL_law, w.before args s = true := fun w hw => atoms_spec (ws := .code yX2_init cX2_init 1 none :: wsL_law) B.pre w (List.mem_cons_of_mem _ hw)
  have hlocks := B.notSynchronized
  have hin9 : meth.name = "<init>" := (name_of_methodNamed B.named B.method).1
  have E : CallFix p m c cX2_init 1 s args wsL_law RX2 := ⟨hx, hb, hml, findClass_of_methodNamed B.named, hts⟩
  have hB : sB D G (sA ad r n s.heap.size) s.heap ad r v n x s.heap [] := ⟨hP, sD_self hD, va_S.rf⟩
  have hgo : sGo r n ad r n ad := sGo.rf
  have h0 : n ≤ n := Nat.le_refl n
  have hl := lv_entry ([.ref (ad tq)]) (n := 1) (Nat.le_of_ble_eq_true rfl)
  refine W.eq (g2 := F0 m 0 ((lg_sl ([.ref (ad tq)]) ++ List.replicate (1 - (lg_sl ([.ref (ad tq)])).length) Slot.unset).toArray) []) (by rw [hargs]; exact lg_entry_eq _ _ _) ?_
  generalize (lg_sl ([.ref (ad tq)]) ++ List.replicate (1 - (lg_sl ([.ref (ad tq)])).length) Slot.unset).toArray = ls at hl ⊢
  have hl : lv_has ls 1 [(0, .ref (ad tq))] := hl
  refine W_00 (n := n) ?_
  have hf := (fX2_init.eq_1 ..).symm.trans hf
  refine lv_aload_n hx hb dX2_init_0 rfl (lv_at hl 0 rfl) ?_
  refine s_obj E hl.1 wmX2_3 wobi wobc dX2_init_1 (Nat.le_of_ble_eq_true rfl) (Nat.le_of_ble_eq_true rfl) ?_
  refine lv_aload_n hx hb dX2_init_4 rfl (lv_at hl 0 rfl) ?_
  refine lv_sipush (v := 140) hx hb dX2_init_5 rfl ?_
  refine s_newQ (kd := 15) E hU hB (fun q h => Or.inr h) h0 ⟨Nat.le_refl _, Nat.le_refl _⟩ (by decide) rfl wclX2_9 hU.2.2.1.1 (by decide) rfl (by decide) dX2_init_8 hf he (fun rr1 v1 n1 rez hd1 hf he ad1 hg1 h0 hkn1 H hB => ?_)
  rw [← (hg1.2 (tq) hdt).2]
  have hl : lv_has ls 1 [(0, .ref (ad1 tq))] := by rw [(hg1.2 (tq) hdt).2]; exact hl
  have hgo := hgo.trans hg1
  have hdt := (hg1.2 _ hdt).1
  refine s_putR (k := 0) (t := n) (ty1 := .array (.object "CrowdSimulator$Field")) E hU hB sc4 hdt hkt inlX2 (Nat.le_of_ble_eq_true rfl) rfl rfl wkX2_11 rfl hin9 rfl rfl rfl rfl dX2_init_11 hf (fun rr2 hf hg9 H locs hB => ?_)
  have hgo := hgo.trans hg9
  have hdt := (hg9.2 _ hdt).1
  refine lv_aload_n hx hb dX2_init_14 rfl (lv_at hl 0 rfl) ?_
  refine s_new (ci := 3) E hU hB (fun q h => Or.inr h) h0 ⟨Nat.le_refl _, Nat.le_refl _⟩ sc3 inlX1 wclX2_9 winsX1 winiX1 hdef3 dX2_init_15 hf he (fun rr3 v3 n3 rez hd3 hf he ad3 hg3 h0 hkn3 H hB => ?_)
  rw [← (hg3.2 (tq) hdt).2]
  have hl : lv_has ls 1 [(0, .ref (ad3 tq))] := by rw [(hg3.2 (tq) hdt).2]; exact hl
  have hgo := hgo.trans hg3
  have hdt := (hg3.2 _ hdt).1
  refine lv_dup hx hb dX2_init_18 rfl ?_
  refine sc_Av hB (fun q h => Or.inr h) h0 ⟨Nat.le_refl _, Nat.le_refl _⟩ hf he (fun q9 h9 hc9 => rI_A (As := []) (rest := [.ref (ad3 n1), .ref (ad3 tq)]) (q := n1) E hU hB (mX1_init l K D G ad3 rr3 _ n3 x n1 hkn3 hd3 _ _ h9) (cwGI 0 okX1_init wmX2_17 hts rfl rfl ⟨Nat.le_of_ble_eq_true rfl, Nat.le_of_ble_eq_true rfl⟩) rfl hl.1 (Nat.le_of_ble_eq_true rfl) dX2_init_19 hc9 rfl) (fun rr4 v4 n4 rez hf he ad4 hg4 h0 H locs hB => ?_)
  rw [← (hg4.2 (tq) hdt).2]
  rw [← (hg4.2 (n1) hd3).2]
  have hl : lv_has ls 1 [(0, .ref (ad4 tq))] := by rw [(hg4.2 (tq) hdt).2]; exact hl
  have hgo := hgo.trans hg4
  have hdt := (hg4.2 _ hdt).1
  have hd3 := (hg4.2 _ hd3).1
  refine s_putR (k := 1) (t := n1) (ty1 := .object "CrowdSimulator$Field") E hU hB sc4 hdt hkt inlX2 (Nat.le_of_ble_eq_true rfl) rfl rfl wkX2_18 rfl hin9 rfl rfl rfl rfl dX2_init_22 hf (fun rr5 hf hg9 H locs hB => ?_)
  have hgo := hgo.trans hg9
  have hdt := (hg9.2 _ hdt).1
  refine lv_aload_n hx hb dX2_init_25 rfl (lv_at hl 0 rfl) ?_
  refine lv_bipush (v := 10) hx hb dX2_init_26 rfl ?_
  refine s_newA 0 .int .int E hU hB (fun q h => Or.inr h) h0 ⟨Nat.le_refl _, Nat.le_refl _⟩ (fun _ => rfl) rfl (fun _ _ h => h) warr_int (fun _ => rfl) (by decide) (by decide) rfl (by decide) dX2_init_28 hf he (fun rr6 v6 n6 rez hd6 hf he ad6 hg6 h0 hkn6 H hB => ?_)
  rw [← (hg6.2 (tq) hdt).2]
  have hl : lv_has ls 1 [(0, .ref (ad6 tq))] := by rw [(hg6.2 (tq) hdt).2]; exact hl
  have hgo := hgo.trans hg6
  have hdt := (hg6.2 _ hdt).1
  refine s_putR (k := 2) (t := n4) (ty1 := .array .int) E hU hB sc4 hdt hkt inlX2 (Nat.le_of_ble_eq_true rfl) rfl rfl wkX2_22 rfl hin9 rfl rfl rfl rfl dX2_init_30 hf (fun rr7 hf hg9 H locs hB => ?_)
  have hgo := hgo.trans hg9
  have hdt := (hg9.2 _ hdt).1
  refine lv_aload_n hx hb dX2_init_33 rfl (lv_at hl 0 rfl) ?_
  refine lv_sipush (v := 140) hx hb dX2_init_34 rfl ?_
  refine s_newA 0 .int .int E hU hB (fun q h => Or.inr h) h0 ⟨Nat.le_refl _, Nat.le_refl _⟩ (fun _ => rfl) rfl (fun _ _ h => h) warr_int (fun _ => rfl) (by decide) (by decide) rfl (by decide) dX2_init_37 hf he (fun rr8 v8 n8 rez hd8 hf he ad8 hg8 h0 hkn8 H hB => ?_)
  rw [← (hg8.2 (tq) hdt).2]
  have hl : lv_has ls 1 [(0, .ref (ad8 tq))] := by rw [(hg8.2 (tq) hdt).2]; exact hl
  have hgo := hgo.trans hg8
  have hdt := (hg8.2 _ hdt).1
  refine s_putR (k := 3) (t := n6) (ty1 := .array .int) E hU hB sc4 hdt hkt inlX2 (Nat.le_of_ble_eq_true rfl) rfl rfl wkX2_26 rfl hin9 rfl rfl rfl rfl dX2_init_39 hf (fun rr9 hf hg9 H locs hB => ?_)
  have hgo := hgo.trans hg9
  have hdt := (hg9.2 _ hdt).1
  exact s_vretA E hrt hlocks hB hgo hf he dX2_init_42
abbrev rmX0_init (c s : Nat) : Room := { frames := 1, cells := c, slots := s, locals := 24 }
set_option maxRecDepth 100000 in
set_option maxHeartbeats 4000000 in
theorem mX0_init (l : Launch) (D : va_G) (G : Nat → ClassId) (ad : Nat → Nat) (r : sR) (v : sV) (n : Nat) (x : Int64 × UInt64) (tq : Nat) (a1 : Nat) (a2 : Nat) (hkt : sks tq = (2, 3)) (hdt : lv r n tq) : sMAv l yX0_init (.code yX0_init cX0_init 3 none :: wsL_law) rmX0_init D G ad r v n x [.ref (ad tq), .ref (ad a1), .ref (ad a2)] (fX0_init tq a1 a2 r v n) := by
  intro sz0 q0 hf
  obtain ⟨fin, he⟩ : ∃ fin, fin = fz n q0 := ⟨_, rfl⟩
  rw [← he]
  refine Met.ofW (cc := cX0_init) (maxL := 3) (ret := none) (by decide) rfl ?_
  intro p e s m args below meth c s₁ B hml hv
  obtain ⟨hargs, rfl, hU, hP, hD⟩ := hv
  have hx := B.exec
  have hb := B.bytes
  have hrt := B.returns
  have hts : ∀ w ∈ wsL_law, w.before args s = true := fun w hw => atoms_spec (ws := .code yX0_init cX0_init 3 none :: wsL_law) B.pre w (List.mem_cons_of_mem _ hw)
  have hlocks := B.notSynchronized
  have hin9 : meth.name = "<init>" := (name_of_methodNamed B.named B.method).1
  have E : CallFix p m c cX0_init 3 s args wsL_law RX0 := ⟨hx, hb, hml, findClass_of_methodNamed B.named, hts⟩
  have hB : sB D G (sA ad r n s.heap.size) s.heap ad r v n x s.heap [] := ⟨hP, sD_self hD, va_S.rf⟩
  have hgo : sGo r n ad r n ad := sGo.rf
  have h0 : n ≤ n := Nat.le_refl n
  have hl := lv_entry ([.ref (ad tq), .ref (ad a1), .ref (ad a2)]) (n := 3) (Nat.le_of_ble_eq_true rfl)
  refine W.eq (g2 := F0 m 0 ((lg_sl ([.ref (ad tq), .ref (ad a1), .ref (ad a2)]) ++ List.replicate (3 - (lg_sl ([.ref (ad tq), .ref (ad a1), .ref (ad a2)])).length) Slot.unset).toArray) []) (by rw [hargs]; exact lg_entry_eq _ _ _) ?_
  generalize (lg_sl ([.ref (ad tq), .ref (ad a1), .ref (ad a2)]) ++ List.replicate (3 - (lg_sl ([.ref (ad tq), .ref (ad a1), .ref (ad a2)])).length) Slot.unset).toArray = ls at hl ⊢
  have hl : lv_has ls 3 [(0, .ref (ad tq)), (1, .ref (ad a1)), (2, .ref (ad a2))] := hl
  refine W_00 (n := n) ?_
  have hf := (fX0_init.eq_1 ..).symm.trans hf
  refine lv_aload_n hx hb dX0_init_0 rfl (lv_at hl 0 rfl) ?_
  refine s_obj E hl.1 wmX0_3 wobi wobc dX0_init_1 (Nat.le_of_ble_eq_true rfl) (Nat.le_of_ble_eq_true rfl) ?_
  refine lv_aload_n hx hb dX0_init_4 rfl (lv_at hl 0 rfl) ?_
  refine lv_aload_n hx hb dX0_init_5 rfl (lv_at hl 1 rfl) ?_
  refine s_putR (k := 0) (t := a1) (ty1 := .object "CrowdSimulator$State") E hU hB sc2 hdt hkt inlX0 (Nat.le_of_ble_eq_true rfl) rfl rfl wkX0_9 rfl hin9 rfl rfl rfl rfl dX0_init_6 hf (fun rr1 hf hg9 H locs hB => ?_)
  have hgo := hgo.trans hg9
  have hdt := (hg9.2 _ hdt).1
  refine lv_aload_n hx hb dX0_init_9 rfl (lv_at hl 0 rfl) ?_
  refine lv_aload_n hx hb dX0_init_10 rfl (lv_at hl 2 rfl) ?_
  refine s_putR (k := 1) (t := a2) (ty1 := .object "CrowdSimulator$Fields") E hU hB sc2 hdt hkt inlX0 (Nat.le_of_ble_eq_true rfl) rfl rfl wkX0_15 rfl hin9 rfl rfl rfl rfl dX0_init_11 hf (fun rr2 hf hg9 H locs hB => ?_)
  have hgo := hgo.trans hg9
  have hdt := (hg9.2 _ hdt).1
  exact s_vretA E hrt hlocks hB hgo hf he dX0_init_14
abbrev rmX3_init (c s : Nat) : Room := { frames := 1, cells := c, slots := s, locals := 24 }
set_option maxRecDepth 100000 in
set_option maxHeartbeats 4000000 in
theorem mX3_init (l : Launch) (D : va_G) (G : Nat → ClassId) (ad : Nat → Nat) (r : sR) (v : sV) (n : Nat) (x : Int64 × UInt64) (tq : Nat) (hkt : sks tq = (5, 3)) (hdt : lv r n tq) : sMAv l yX3_init (.code yX3_init cX3_init 1 none :: wsL_law) rmX3_init D G ad r v n x [.ref (ad tq)] (fX3_init tq r v n) := by
  intro sz0 q0 hf
  obtain ⟨fin, he⟩ : ∃ fin, fin = fz n q0 := ⟨_, rfl⟩
  rw [← he]
  refine Met.ofW (cc := cX3_init) (maxL := 1) (ret := none) (by decide) rfl ?_
  intro p e s m args below meth c s₁ B hml hv
  obtain ⟨hargs, rfl, hU, hP, hD⟩ := hv
  have hx := B.exec
  have hb := B.bytes
  have hrt := B.returns
  have hts : ∀ w ∈ wsL_law, w.before args s = true := fun w hw => atoms_spec (ws := .code yX3_init cX3_init 1 none :: wsL_law) B.pre w (List.mem_cons_of_mem _ hw)
  have hlocks := B.notSynchronized
  have hin9 : meth.name = "<init>" := (name_of_methodNamed B.named B.method).1
  have E : CallFix p m c cX3_init 1 s args wsL_law RX3 := ⟨hx, hb, hml, findClass_of_methodNamed B.named, hts⟩
  have hB : sB D G (sA ad r n s.heap.size) s.heap ad r v n x s.heap [] := ⟨hP, sD_self hD, va_S.rf⟩
  have hgo : sGo r n ad r n ad := sGo.rf
  have h0 : n ≤ n := Nat.le_refl n
  have hl := lv_entry ([.ref (ad tq)]) (n := 1) (Nat.le_of_ble_eq_true rfl)
  refine W.eq (g2 := F0 m 0 ((lg_sl ([.ref (ad tq)]) ++ List.replicate (1 - (lg_sl ([.ref (ad tq)])).length) Slot.unset).toArray) []) (by rw [hargs]; exact lg_entry_eq _ _ _) ?_
  generalize (lg_sl ([.ref (ad tq)]) ++ List.replicate (1 - (lg_sl ([.ref (ad tq)])).length) Slot.unset).toArray = ls at hl ⊢
  have hl : lv_has ls 1 [(0, .ref (ad tq))] := hl
  refine W_00 (n := n) ?_
  have hf := (fX3_init.eq_1 ..).symm.trans hf
  refine lv_aload_n hx hb dX3_init_0 rfl (lv_at hl 0 rfl) ?_
  refine s_obj E hl.1 wmX3_3 wobi wobc dX3_init_1 (Nat.le_of_ble_eq_true rfl) (Nat.le_of_ble_eq_true rfl) ?_
  refine lv_aload_n hx hb dX3_init_4 rfl (lv_at hl 0 rfl) ?_
  refine lv_bipush (v := 8) hx hb dX3_init_5 rfl ?_
  refine s_newQ (kd := 16) E hU hB (fun q h => Or.inr h) h0 ⟨Nat.le_refl _, Nat.le_refl _⟩ (by decide) rfl wclX3_9 hU.2.2.1.2 (by decide) rfl (by decide) dX3_init_7 hf he (fun rr1 v1 n1 rez hd1 hf he ad1 hg1 h0 hkn1 H hB => ?_)
  rw [← (hg1.2 (tq) hdt).2]
  have hl : lv_has ls 1 [(0, .ref (ad1 tq))] := by rw [(hg1.2 (tq) hdt).2]; exact hl
  have hgo := hgo.trans hg1
  have hdt := (hg1.2 _ hdt).1
  refine s_putR (k := 0) (t := n) (ty1 := .array (.object "CrowdSimulator$State")) E hU hB sc5 hdt hkt inlX3 (Nat.le_of_ble_eq_true rfl) rfl rfl wkX3_11 rfl hin9 rfl rfl rfl rfl dX3_init_10 hf (fun rr2 hf hg9 H locs hB => ?_)
  have hgo := hgo.trans hg9
  have hdt := (hg9.2 _ hdt).1
  exact s_vretA E hrt hlocks hB hgo hf he dX3_init_13
abbrev rmX4_init (c s : Nat) : Room := { frames := 1, cells := c, slots := s, locals := 24 }
set_option maxRecDepth 100000 in
set_option maxHeartbeats 4000000 in
theorem mX4_init (l : Launch) (D : va_G) (G : Nat → ClassId) (ad : Nat → Nat) (r : sR) (v : sV) (n : Nat) (x : Int64 × UInt64) (tq : Nat) (hkt : sks tq = (6, 3)) (hdt : lv r n tq) : sMAv l yX4_init (.code yX4_init cX4_init 1 none :: wsL_law) rmX4_init D G ad r v n x [.ref (ad tq)] (fX4_init tq r v n) := by
  intro sz0 q0 hf
  obtain ⟨fin, he⟩ : ∃ fin, fin = fz n q0 := ⟨_, rfl⟩
  rw [← he]
  refine Met.ofW (cc := cX4_init) (maxL := 1) (ret := none) (by decide) rfl ?_
  intro p e s m args below meth c s₁ B hml hv
  obtain ⟨hargs, rfl, hU, hP, hD⟩ := hv
  have hx := B.exec
  have hb := B.bytes
  have hrt := B.returns
  have hts : ∀ w ∈ wsL_law, w.before args s = true := fun w hw => atoms_spec (ws := .code yX4_init cX4_init 1 none :: wsL_law) B.pre w (List.mem_cons_of_mem _ hw)
  have hlocks := B.notSynchronized
  have hin9 : meth.name = "<init>" := (name_of_methodNamed B.named B.method).1
  have E : CallFix p m c cX4_init 1 s args wsL_law RX4 := ⟨hx, hb, hml, findClass_of_methodNamed B.named, hts⟩
  have hB : sB D G (sA ad r n s.heap.size) s.heap ad r v n x s.heap [] := ⟨hP, sD_self hD, va_S.rf⟩
  have hgo : sGo r n ad r n ad := sGo.rf
  have h0 : n ≤ n := Nat.le_refl n
  have hl := lv_entry ([.ref (ad tq)]) (n := 1) (Nat.le_of_ble_eq_true rfl)
  refine W.eq (g2 := F0 m 0 ((lg_sl ([.ref (ad tq)]) ++ List.replicate (1 - (lg_sl ([.ref (ad tq)])).length) Slot.unset).toArray) []) (by rw [hargs]; exact lg_entry_eq _ _ _) ?_
  generalize (lg_sl ([.ref (ad tq)]) ++ List.replicate (1 - (lg_sl ([.ref (ad tq)])).length) Slot.unset).toArray = ls at hl ⊢
  have hl : lv_has ls 1 [(0, .ref (ad tq))] := hl
  refine W_00 (n := n) ?_
  have hf := (fX4_init.eq_1 ..).symm.trans hf
  refine lv_aload_n hx hb dX4_init_0 rfl (lv_at hl 0 rfl) ?_
  refine s_obj E hl.1 wmX4_3 wobi wobc dX4_init_1 (Nat.le_of_ble_eq_true rfl) (Nat.le_of_ble_eq_true rfl) ?_
  refine lv_aload_n hx hb dX4_init_4 rfl (lv_at hl 0 rfl) ?_
  refine lv_sipush (v := 150) hx hb dX4_init_5 rfl ?_
  refine s_newA 2 .char .char E hU hB (fun q h => Or.inr h) h0 ⟨Nat.le_refl _, Nat.le_refl _⟩ (fun _ => rfl) rfl (fun _ _ h => h) warr_char (fun _ => rfl) (by decide) (by decide) rfl (by decide) dX4_init_8 hf he (fun rr1 v1 n1 rez hd1 hf he ad1 hg1 h0 hkn1 H hB => ?_)
  rw [← (hg1.2 (tq) hdt).2]
  have hl : lv_has ls 1 [(0, .ref (ad1 tq))] := by rw [(hg1.2 (tq) hdt).2]; exact hl
  have hgo := hgo.trans hg1
  have hdt := (hg1.2 _ hdt).1
  refine s_putR (k := 0) (t := n) (ty1 := .array .char) E hU hB sc6 hdt hkt inlX4 (Nat.le_of_ble_eq_true rfl) rfl rfl wkX4_9 rfl hin9 rfl rfl rfl rfl dX4_init_10 hf (fun rr2 hf hg9 H locs hB => ?_)
  have hgo := hgo.trans hg9
  have hdt := (hg9.2 _ hdt).1
  refine lv_aload_n hx hb dX4_init_13 rfl (lv_at hl 0 rfl) ?_
  refine lv_sipush (v := 140) hx hb dX4_init_14 rfl ?_
  refine s_newA 0 .int .int E hU hB (fun q h => Or.inr h) h0 ⟨Nat.le_refl _, Nat.le_refl _⟩ (fun _ => rfl) rfl (fun _ _ h => h) warr_int (fun _ => rfl) (by decide) (by decide) rfl (by decide) dX4_init_17 hf he (fun rr3 v3 n3 rez hd3 hf he ad3 hg3 h0 hkn3 H hB => ?_)
  rw [← (hg3.2 (tq) hdt).2]
  have hl : lv_has ls 1 [(0, .ref (ad3 tq))] := by rw [(hg3.2 (tq) hdt).2]; exact hl
  have hgo := hgo.trans hg3
  have hdt := (hg3.2 _ hdt).1
  refine s_putR (k := 2) (t := n1) (ty1 := .array .int) E hU hB sc6 hdt hkt inlX4 (Nat.le_of_ble_eq_true rfl) rfl rfl wkX4_15 rfl hin9 rfl rfl rfl rfl dX4_init_19 hf (fun rr4 hf hg9 H locs hB => ?_)
  have hgo := hgo.trans hg9
  have hdt := (hg9.2 _ hdt).1
  exact s_vretA E hrt hlocks hB hgo hf he dX4_init_22
abbrev rmX7_init (c s : Nat) : Room := { frames := 1, cells := c, slots := s, locals := 24 }
set_option maxRecDepth 100000 in
set_option maxHeartbeats 4000000 in
theorem lX7_init_136 {K : Nat} {tq : Nat} {ad0 : Nat → Nat} {r0 : sR} {n0 : Nat} {fin : (Unit × sR × sV × Nat)} (E : CallFix p m c cX7_init 2 s args wsL_law RX7) (hlocks : meth.locks = false) (hrt : meth.sig.returnType = none) (hU : sU D G s) (hin9 : meth.name = "<init>") :
    ∀ (k : Nat) (x1 : Int32) (r : sR) (v : sV) (n : Nat) (ad : Nat → Nat) (H : Heap) (locs : List Loc) (ls : Array Slot) (rez : (Unit × sR × sV × Nat)), sks tq = (9, 16) → lv r n tq → sGo r0 n0 ad0 r n ad → fx4 (gX7_init_136 K tq) k x1 r v n = some rez → fin = fz n rez → sB D G (sA ad0 r0 n0 s.heap.size) s.heap ad r v n x H locs → lv_has ls 2 [(0, .ref (ad tq)), (1, .int x1)] → W p l e (rmX7_init (fin.2.2.2 - n0) (sz fin.2.2.2 - sz n0)) s m args below meth c H locs (n - n0) (sz n - sz n0) (MQ below (sQAv D G ad0 r0 n0 x s.heap.size fin) args s (fin.2.2.2 - n0) (sz fin.2.2.2 - sz n0) (sA ad0 r0 n0 s.heap.size)) (F0 m 136 ls []) := by
  have hx := E.1
  have hb := E.2.1
  have hts := E.2.2.2.2
  intro k
  induction k with
  | zero =>
    intro x1 r v n ad H locs ls rez hkt hdt hgo hf he hB hl
    exact fx4_z hf
  | succ k ih =>
    intro x1 r v n ad H locs ls rez hkt hdt hgo hf he hB hl
    have h0 := hgo.1
    have hf := (gX7_init_136.eq_1 ..).symm.trans hf
    refine lv_iload_n hx hb dX7_init_136 rfl (lv_at hl 1 rfl) ?_
    refine lv_iconst (v := 4) hx hb dX7_init_137 rfl ?_
    refine lv_icmp_ge (tgt := 158) hx hb dX7_init_138 rfl (fun hc => ?_) (fun hc => ?_)
    · have hf := ite_t hf hc
      refine lv_aload_n hx hb dX7_init_158 rfl (lv_at hl 0 rfl) ?_
      obtain ⟨p25, -, hf⟩ := nm_x hf
      obtain ⟨⟨hr9, hkp25, hdp25⟩, hf⟩ := ck_e hf
      refine s_getR (k := 0) (t := p25) E hU hB.1 sc9 hdt hkt inlX7 (Nat.le_of_ble_eq_true rfl) rfl rfl wkX7_9 hr9 dX7_init_159 ?_
      refine lv_sipush (v := 284) hx hb dX7_init_162 rfl ?_
      refine lv_iconst (v := 3) hx hb dX7_init_165 rfl ?_
      refine s_iast E hU hB hdp25 hkp25 dX7_init_166 hf (fun v26 hf H locs hB => ?_)
      exact s_vretA E hrt hlocks hB hgo hf he dX7_init_167
    · have hf := ite_f hf hc
      refine lv_aload_n hx hb dX7_init_141 rfl (lv_at hl 0 rfl) ?_
      obtain ⟨p27, -, hf⟩ := nm_x hf
      obtain ⟨⟨hr9, hkp27, hdp27⟩, hf⟩ := ck_e hf
      refine s_getR (k := 0) (t := p27) E hU hB.1 sc9 hdt hkt inlX7 (Nat.le_of_ble_eq_true rfl) rfl rfl wkX7_9 hr9 dX7_init_142 ?_
      refine lv_sipush (v := 280) hx hb dX7_init_145 rfl ?_
      refine lv_iload_n hx hb dX7_init_148 rfl (lv_at hl 1 rfl) ?_
      refine lv_iadd hx hb dX7_init_149 ?_
      refine lv_iconst (v := (-1)) hx hb dX7_init_150 rfl ?_
      refine s_iast E hU hB hdp27 hkp27 dX7_init_151 hf (fun v28 hf H locs hB => ?_)
      obtain ⟨z29, ez9, hf⟩ := nm_x hf
      refine lv_iinc (v := z29) (lv' := [(1, .int z29), (0, .ref (ad tq))]) hx hb dX7_init_152 hl (k := 1) rfl (by rw [ez9]; rfl) (Nat.le_of_ble_eq_true rfl) rfl (fun ls hl => ?_)
      refine lv_goto (tgt := 136) hx hb dX7_init_155 rfl ?_
      exact ih _ _ _ _ _ _ _ _ _ hkt hdt hgo hf he hB (lv_sub hl [1, 0] rfl)
set_option maxRecDepth 100000 in
set_option maxHeartbeats 4000000 in
theorem lX7_init_112 {K : Nat} {tq : Nat} {ad0 : Nat → Nat} {r0 : sR} {n0 : Nat} {fin : (Unit × sR × sV × Nat)} (E : CallFix p m c cX7_init 2 s args wsL_law RX7) (hlocks : meth.locks = false) (hrt : meth.sig.returnType = none) (hU : sU D G s) (hin9 : meth.name = "<init>") :
    ∀ (k : Nat) (x1 : Int32) (r : sR) (v : sV) (n : Nat) (ad : Nat → Nat) (H : Heap) (locs : List Loc) (ls : Array Slot) (rez : (Unit × sR × sV × Nat)), sks tq = (9, 16) → lv r n tq → sGo r0 n0 ad0 r n ad → fx4 (gX7_init_112 K tq) k x1 r v n = some rez → fin = fz n rez → sB D G (sA ad0 r0 n0 s.heap.size) s.heap ad r v n x H locs → lv_has ls 2 [(0, .ref (ad tq)), (1, .int x1)] → W p l e (rmX7_init (fin.2.2.2 - n0) (sz fin.2.2.2 - sz n0)) s m args below meth c H locs (n - n0) (sz n - sz n0) (MQ below (sQAv D G ad0 r0 n0 x s.heap.size fin) args s (fin.2.2.2 - n0) (sz fin.2.2.2 - sz n0) (sA ad0 r0 n0 s.heap.size)) (F0 m 112 ls []) := by
  have hx := E.1
  have hb := E.2.1
  have hts := E.2.2.2.2
  intro k
  induction k with
  | zero =>
    intro x1 r v n ad H locs ls rez hkt hdt hgo hf he hB hl
    exact fx4_z hf
  | succ k ih =>
    intro x1 r v n ad H locs ls rez hkt hdt hgo hf he hB hl
    have h0 := hgo.1
    have hf := (gX7_init_112.eq_1 ..).symm.trans hf
    refine lv_iload_n hx hb dX7_init_112 rfl (lv_at hl 1 rfl) ?_
    refine lv_sipush (v := 140) hx hb dX7_init_113 rfl ?_
    refine lv_icmp_ge (tgt := 134) hx hb dX7_init_116 rfl (fun hc => ?_) (fun hc => ?_)
    · have hf := ite_t hf hc
      refine lv_iconst (v := 0) hx hb dX7_init_134 rfl ?_
      refine lv_istore_n (lv' := [(1, .int 0), (0, .ref (ad tq))]) hx hb dX7_init_135 rfl hl (Nat.le_of_ble_eq_true rfl) rfl (fun ls hl => ?_)
      exact lX7_init_136 E hlocks hrt hU hin9 _ _ _ _ _ _ _ _ _ _ hkt hdt hgo hf he hB (lv_sub hl [1, 0] rfl)
    · have hf := ite_f hf hc
      refine lv_aload_n hx hb dX7_init_119 rfl (lv_at hl 0 rfl) ?_
      obtain ⟨p30, -, hf⟩ := nm_x hf
      obtain ⟨⟨hr9, hkp30, hdp30⟩, hf⟩ := ck_e hf
      refine s_getR (k := 0) (t := p30) E hU hB.1 sc9 hdt hkt inlX7 (Nat.le_of_ble_eq_true rfl) rfl rfl wkX7_9 hr9 dX7_init_120 ?_
      refine lv_iconst (v := 0) hx hb dX7_init_123 rfl ?_
      refine lv_iload_n hx hb dX7_init_124 rfl (lv_at hl 1 rfl) ?_
      refine lv_iadd hx hb dX7_init_125 ?_
      refine lv_iconst (v := 1) hx hb dX7_init_126 rfl ?_
      refine s_iast E hU hB hdp30 hkp30 dX7_init_127 hf (fun v31 hf H locs hB => ?_)
      obtain ⟨z32, ez9, hf⟩ := nm_x hf
      refine lv_iinc (v := z32) (lv' := [(1, .int z32), (0, .ref (ad tq))]) hx hb dX7_init_128 hl (k := 1) rfl (by rw [ez9]; rfl) (Nat.le_of_ble_eq_true rfl) rfl (fun ls hl => ?_)
      refine lv_goto (tgt := 112) hx hb dX7_init_131 rfl ?_
      exact ih _ _ _ _ _ _ _ _ _ hkt hdt hgo hf he hB (lv_sub hl [1, 0] rfl)
set_option maxRecDepth 100000 in
set_option maxHeartbeats 4000000 in
theorem mX7_init (l : Launch) (K : Nat) (D : va_G) (G : Nat → ClassId) (ad : Nat → Nat) (r : sR) (v : sV) (n : Nat) (x : Int64 × UInt64) (tq : Nat) (hkt : sks tq = (9, 16)) (hdt : lv r n tq) : sMAv l yX7_init (.code yX7_init cX7_init 2 none :: wsL_law) rmX7_init D G ad r v n x [.ref (ad tq)] (fX7_init K tq r v n) := by
  intro sz0 q0 hf
  obtain ⟨fin, he⟩ : ∃ fin, fin = fz n q0 := ⟨_, rfl⟩
  rw [← he]
  refine Met.ofW (cc := cX7_init) (maxL := 2) (ret := none) (by decide) rfl ?_
  intro p e s m args below meth c s₁ B hml hv
  obtain ⟨hargs, rfl, hU, hP, hD⟩ := hv
  have hx := B.exec
  have hb := B.bytes
  have hrt := B.returns
  have hts : ∀ w ∈ wsL_law, w.before args s = true := fun w hw => atoms_spec (ws := .code yX7_init cX7_init 2 none :: wsL_law) B.pre w (List.mem_cons_of_mem _ hw)
  have hlocks := B.notSynchronized
  have hin9 : meth.name = "<init>" := (name_of_methodNamed B.named B.method).1
  have E : CallFix p m c cX7_init 2 s args wsL_law RX7 := ⟨hx, hb, hml, findClass_of_methodNamed B.named, hts⟩
  have hB : sB D G (sA ad r n s.heap.size) s.heap ad r v n x s.heap [] := ⟨hP, sD_self hD, va_S.rf⟩
  have hgo : sGo r n ad r n ad := sGo.rf
  have h0 : n ≤ n := Nat.le_refl n
  have hl := lv_entry ([.ref (ad tq)]) (n := 2) (Nat.le_of_ble_eq_true rfl)
  refine W.eq (g2 := F0 m 0 ((lg_sl ([.ref (ad tq)]) ++ List.replicate (2 - (lg_sl ([.ref (ad tq)])).length) Slot.unset).toArray) []) (by rw [hargs]; exact lg_entry_eq _ _ _) ?_
  generalize (lg_sl ([.ref (ad tq)]) ++ List.replicate (2 - (lg_sl ([.ref (ad tq)])).length) Slot.unset).toArray = ls at hl ⊢
  have hl : lv_has ls 2 [(0, .ref (ad tq))] := hl
  refine W_00 (n := n) ?_
  have hf := (fX7_init.eq_1 ..).symm.trans hf
  refine lv_aload_n hx hb dX7_init_0 rfl (lv_at hl 0 rfl) ?_
  refine s_obj E hl.1 wmX7_3 wobi wobc dX7_init_1 (Nat.le_of_ble_eq_true rfl) (Nat.le_of_ble_eq_true rfl) ?_
  refine lv_aload_n hx hb dX7_init_4 rfl (lv_at hl 0 rfl) ?_
  refine lv_sipush (v := 434) hx hb dX7_init_5 rfl ?_
  refine s_newA 0 .int .int E hU hB (fun q h => Or.inr h) h0 ⟨Nat.le_refl _, Nat.le_refl _⟩ (fun _ => rfl) rfl (fun _ _ h => h) warr_int (fun _ => rfl) (by decide) (by decide) rfl (by decide) dX7_init_8 hf he (fun rr1 v1 n1 rez hd1 hf he ad1 hg1 h0 hkn1 H hB => ?_)
  rw [← (hg1.2 (tq) hdt).2]
  have hl : lv_has ls 2 [(0, .ref (ad1 tq))] := by rw [(hg1.2 (tq) hdt).2]; exact hl
  have hgo := hgo.trans hg1
  have hdt := (hg1.2 _ hdt).1
  refine s_putR (k := 0) (t := n) (ty1 := .array .int) E hU hB sc9 hdt hkt inlX7 (Nat.le_of_ble_eq_true rfl) rfl rfl wkX7_9 rfl hin9 rfl rfl rfl rfl dX7_init_10 hf (fun rr2 hf hg9 H locs hB => ?_)
  have hgo := hgo.trans hg9
  have hdt := (hg9.2 _ hdt).1
  refine lv_aload_n hx hb dX7_init_13 rfl (lv_at hl 0 rfl) ?_
  refine lv_sipush (v := 434) hx hb dX7_init_14 rfl ?_
  refine s_newA 0 .int .int E hU hB (fun q h => Or.inr h) h0 ⟨Nat.le_refl _, Nat.le_refl _⟩ (fun _ => rfl) rfl (fun _ _ h => h) warr_int (fun _ => rfl) (by decide) (by decide) rfl (by decide) dX7_init_17 hf he (fun rr3 v3 n3 rez hd3 hf he ad3 hg3 h0 hkn3 H hB => ?_)
  rw [← (hg3.2 (tq) hdt).2]
  have hl : lv_has ls 2 [(0, .ref (ad3 tq))] := by rw [(hg3.2 (tq) hdt).2]; exact hl
  have hgo := hgo.trans hg3
  have hdt := (hg3.2 _ hdt).1
  refine s_putR (k := 1) (t := n1) (ty1 := .array .int) E hU hB sc9 hdt hkt inlX7 (Nat.le_of_ble_eq_true rfl) rfl rfl wkX7_13 rfl hin9 rfl rfl rfl rfl dX7_init_19 hf (fun rr4 hf hg9 H locs hB => ?_)
  have hgo := hgo.trans hg9
  have hdt := (hg9.2 _ hdt).1
  refine lv_aload_n hx hb dX7_init_22 rfl (lv_at hl 0 rfl) ?_
  refine lv_sipush (v := 434) hx hb dX7_init_23 rfl ?_
  refine s_newA 0 .int .int E hU hB (fun q h => Or.inr h) h0 ⟨Nat.le_refl _, Nat.le_refl _⟩ (fun _ => rfl) rfl (fun _ _ h => h) warr_int (fun _ => rfl) (by decide) (by decide) rfl (by decide) dX7_init_26 hf he (fun rr5 v5 n5 rez hd5 hf he ad5 hg5 h0 hkn5 H hB => ?_)
  rw [← (hg5.2 (tq) hdt).2]
  have hl : lv_has ls 2 [(0, .ref (ad5 tq))] := by rw [(hg5.2 (tq) hdt).2]; exact hl
  have hgo := hgo.trans hg5
  have hdt := (hg5.2 _ hdt).1
  refine s_putR (k := 2) (t := n3) (ty1 := .array .int) E hU hB sc9 hdt hkt inlX7 (Nat.le_of_ble_eq_true rfl) rfl rfl wkX7_16 rfl hin9 rfl rfl rfl rfl dX7_init_28 hf (fun rr6 hf hg9 H locs hB => ?_)
  have hgo := hgo.trans hg9
  have hdt := (hg9.2 _ hdt).1
  refine lv_aload_n hx hb dX7_init_31 rfl (lv_at hl 0 rfl) ?_
  refine lv_sipush (v := 3472) hx hb dX7_init_32 rfl ?_
  refine s_newA 0 .int .int E hU hB (fun q h => Or.inr h) h0 ⟨Nat.le_refl _, Nat.le_refl _⟩ (fun _ => rfl) rfl (fun _ _ h => h) warr_int (fun _ => rfl) (by decide) (by decide) rfl (by decide) dX7_init_35 hf he (fun rr7 v7 n7 rez hd7 hf he ad7 hg7 h0 hkn7 H hB => ?_)
  rw [← (hg7.2 (tq) hdt).2]
  have hl : lv_has ls 2 [(0, .ref (ad7 tq))] := by rw [(hg7.2 (tq) hdt).2]; exact hl
  have hgo := hgo.trans hg7
  have hdt := (hg7.2 _ hdt).1
  refine s_putR (k := 3) (t := n5) (ty1 := .array .int) E hU hB sc9 hdt hkt inlX7 (Nat.le_of_ble_eq_true rfl) rfl rfl wkX7_19 rfl hin9 rfl rfl rfl rfl dX7_init_37 hf (fun rr8 hf hg9 H locs hB => ?_)
  have hgo := hgo.trans hg9
  have hdt := (hg9.2 _ hdt).1
  refine lv_aload_n hx hb dX7_init_40 rfl (lv_at hl 0 rfl) ?_
  refine lv_sipush (v := 19600) hx hb dX7_init_41 rfl ?_
  refine s_newA 0 .int .int E hU hB (fun q h => Or.inr h) h0 ⟨Nat.le_refl _, Nat.le_refl _⟩ (fun _ => rfl) rfl (fun _ _ h => h) warr_int (fun _ => rfl) (by decide) (by decide) rfl (by decide) dX7_init_44 hf he (fun rr9 v9 n9 rez hd9 hf he ad9 hg9 h0 hkn9 H hB => ?_)
  rw [← (hg9.2 (tq) hdt).2]
  have hl : lv_has ls 2 [(0, .ref (ad9 tq))] := by rw [(hg9.2 (tq) hdt).2]; exact hl
  have hgo := hgo.trans hg9
  have hdt := (hg9.2 _ hdt).1
  refine s_putR (k := 7) (t := n7) (ty1 := .array .int) E hU hB sc9 hdt hkt inlX7 (Nat.le_of_ble_eq_true rfl) rfl rfl wkX7_22 rfl hin9 rfl rfl rfl rfl dX7_init_46 hf (fun rr10 hf hg9 H locs hB => ?_)
  have hgo := hgo.trans hg9
  have hdt := (hg9.2 _ hdt).1
  refine lv_aload_n hx hb dX7_init_49 rfl (lv_at hl 0 rfl) ?_
  refine lv_sipush (v := 140) hx hb dX7_init_50 rfl ?_
  refine s_newA 0 .int .int E hU hB (fun q h => Or.inr h) h0 ⟨Nat.le_refl _, Nat.le_refl _⟩ (fun _ => rfl) rfl (fun _ _ h => h) warr_int (fun _ => rfl) (by decide) (by decide) rfl (by decide) dX7_init_53 hf he (fun rr11 v11 n11 rez hd11 hf he ad11 hg11 h0 hkn11 H hB => ?_)
  rw [← (hg11.2 (tq) hdt).2]
  have hl : lv_has ls 2 [(0, .ref (ad11 tq))] := by rw [(hg11.2 (tq) hdt).2]; exact hl
  have hgo := hgo.trans hg11
  have hdt := (hg11.2 _ hdt).1
  refine s_putR (k := 8) (t := n9) (ty1 := .array .int) E hU hB sc9 hdt hkt inlX7 (Nat.le_of_ble_eq_true rfl) rfl rfl wkX7_25 rfl hin9 rfl rfl rfl rfl dX7_init_55 hf (fun rr12 hf hg9 H locs hB => ?_)
  have hgo := hgo.trans hg9
  have hdt := (hg9.2 _ hdt).1
  refine lv_aload_n hx hb dX7_init_58 rfl (lv_at hl 0 rfl) ?_
  refine lv_sipush (v := 140) hx hb dX7_init_59 rfl ?_
  refine s_newA 1 .boolean .boolean E hU hB (fun q h => Or.inr h) h0 ⟨Nat.le_refl _, Nat.le_refl _⟩ (fun _ => rfl) rfl (fun _ _ h => h) warr_boolean (fun _ => rfl) (by decide) (by decide) rfl (by decide) dX7_init_62 hf he (fun rr13 v13 n13 rez hd13 hf he ad13 hg13 h0 hkn13 H hB => ?_)
  rw [← (hg13.2 (tq) hdt).2]
  have hl : lv_has ls 2 [(0, .ref (ad13 tq))] := by rw [(hg13.2 (tq) hdt).2]; exact hl
  have hgo := hgo.trans hg13
  have hdt := (hg13.2 _ hdt).1
  refine s_putR (k := 9) (t := n11) (ty1 := .array .boolean) E hU hB sc9 hdt hkt inlX7 (Nat.le_of_ble_eq_true rfl) rfl rfl wkX7_28 rfl hin9 rfl rfl rfl rfl dX7_init_64 hf (fun rr14 hf hg9 H locs hB => ?_)
  have hgo := hgo.trans hg9
  have hdt := (hg9.2 _ hdt).1
  refine lv_aload_n hx hb dX7_init_67 rfl (lv_at hl 0 rfl) ?_
  refine lv_sipush (v := 140) hx hb dX7_init_68 rfl ?_
  refine s_newA 1 .boolean .boolean E hU hB (fun q h => Or.inr h) h0 ⟨Nat.le_refl _, Nat.le_refl _⟩ (fun _ => rfl) rfl (fun _ _ h => h) warr_boolean (fun _ => rfl) (by decide) (by decide) rfl (by decide) dX7_init_71 hf he (fun rr15 v15 n15 rez hd15 hf he ad15 hg15 h0 hkn15 H hB => ?_)
  rw [← (hg15.2 (tq) hdt).2]
  have hl : lv_has ls 2 [(0, .ref (ad15 tq))] := by rw [(hg15.2 (tq) hdt).2]; exact hl
  have hgo := hgo.trans hg15
  have hdt := (hg15.2 _ hdt).1
  refine s_putR (k := 10) (t := n13) (ty1 := .array .boolean) E hU hB sc9 hdt hkt inlX7 (Nat.le_of_ble_eq_true rfl) rfl rfl wkX7_32 rfl hin9 rfl rfl rfl rfl dX7_init_73 hf (fun rr16 hf hg9 H locs hB => ?_)
  have hgo := hgo.trans hg9
  have hdt := (hg9.2 _ hdt).1
  refine lv_aload_n hx hb dX7_init_76 rfl (lv_at hl 0 rfl) ?_
  refine lv_bipush (v := 16) hx hb dX7_init_77 rfl ?_
  refine s_newA 1 .boolean .boolean E hU hB (fun q h => Or.inr h) h0 ⟨Nat.le_refl _, Nat.le_refl _⟩ (fun _ => rfl) rfl (fun _ _ h => h) warr_boolean (fun _ => rfl) (by decide) (by decide) rfl (by decide) dX7_init_79 hf he (fun rr17 v17 n17 rez hd17 hf he ad17 hg17 h0 hkn17 H hB => ?_)
  rw [← (hg17.2 (tq) hdt).2]
  have hl : lv_has ls 2 [(0, .ref (ad17 tq))] := by rw [(hg17.2 (tq) hdt).2]; exact hl
  have hgo := hgo.trans hg17
  have hdt := (hg17.2 _ hdt).1
  refine s_putR (k := 11) (t := n15) (ty1 := .array .boolean) E hU hB sc9 hdt hkt inlX7 (Nat.le_of_ble_eq_true rfl) rfl rfl wkX7_35 rfl hin9 rfl rfl rfl rfl dX7_init_81 hf (fun rr18 hf hg9 H locs hB => ?_)
  have hgo := hgo.trans hg9
  have hdt := (hg9.2 _ hdt).1
  refine lv_aload_n hx hb dX7_init_84 rfl (lv_at hl 0 rfl) ?_
  refine lv_bipush (v := 16) hx hb dX7_init_85 rfl ?_
  refine s_newA 1 .boolean .boolean E hU hB (fun q h => Or.inr h) h0 ⟨Nat.le_refl _, Nat.le_refl _⟩ (fun _ => rfl) rfl (fun _ _ h => h) warr_boolean (fun _ => rfl) (by decide) (by decide) rfl (by decide) dX7_init_87 hf he (fun rr19 v19 n19 rez hd19 hf he ad19 hg19 h0 hkn19 H hB => ?_)
  rw [← (hg19.2 (tq) hdt).2]
  have hl : lv_has ls 2 [(0, .ref (ad19 tq))] := by rw [(hg19.2 (tq) hdt).2]; exact hl
  have hgo := hgo.trans hg19
  have hdt := (hg19.2 _ hdt).1
  refine s_putR (k := 12) (t := n17) (ty1 := .array .boolean) E hU hB sc9 hdt hkt inlX7 (Nat.le_of_ble_eq_true rfl) rfl rfl wkX7_38 rfl hin9 rfl rfl rfl rfl dX7_init_89 hf (fun rr20 hf hg9 H locs hB => ?_)
  have hgo := hgo.trans hg9
  have hdt := (hg9.2 _ hdt).1
  refine lv_aload_n hx hb dX7_init_92 rfl (lv_at hl 0 rfl) ?_
  refine lv_sipush (v := 150) hx hb dX7_init_93 rfl ?_
  refine s_newA 0 .int .int E hU hB (fun q h => Or.inr h) h0 ⟨Nat.le_refl _, Nat.le_refl _⟩ (fun _ => rfl) rfl (fun _ _ h => h) warr_int (fun _ => rfl) (by decide) (by decide) rfl (by decide) dX7_init_96 hf he (fun rr21 v21 n21 rez hd21 hf he ad21 hg21 h0 hkn21 H hB => ?_)
  rw [← (hg21.2 (tq) hdt).2]
  have hl : lv_has ls 2 [(0, .ref (ad21 tq))] := by rw [(hg21.2 (tq) hdt).2]; exact hl
  have hgo := hgo.trans hg21
  have hdt := (hg21.2 _ hdt).1
  refine s_putR (k := 13) (t := n19) (ty1 := .array .int) E hU hB sc9 hdt hkt inlX7 (Nat.le_of_ble_eq_true rfl) rfl rfl wkX7_41 rfl hin9 rfl rfl rfl rfl dX7_init_98 hf (fun rr22 hf hg9 H locs hB => ?_)
  have hgo := hgo.trans hg9
  have hdt := (hg9.2 _ hdt).1
  refine lv_aload_n hx hb dX7_init_101 rfl (lv_at hl 0 rfl) ?_
  refine lv_sipush (v := 140) hx hb dX7_init_102 rfl ?_
  refine s_newA 0 .int .int E hU hB (fun q h => Or.inr h) h0 ⟨Nat.le_refl _, Nat.le_refl _⟩ (fun _ => rfl) rfl (fun _ _ h => h) warr_int (fun _ => rfl) (by decide) (by decide) rfl (by decide) dX7_init_105 hf he (fun rr23 v23 n23 rez hd23 hf he ad23 hg23 h0 hkn23 H hB => ?_)
  rw [← (hg23.2 (tq) hdt).2]
  have hl : lv_has ls 2 [(0, .ref (ad23 tq))] := by rw [(hg23.2 (tq) hdt).2]; exact hl
  have hgo := hgo.trans hg23
  have hdt := (hg23.2 _ hdt).1
  refine s_putR (k := 14) (t := n21) (ty1 := .array .int) E hU hB sc9 hdt hkt inlX7 (Nat.le_of_ble_eq_true rfl) rfl rfl wkX7_44 rfl hin9 rfl rfl rfl rfl dX7_init_107 hf (fun rr24 hf hg9 H locs hB => ?_)
  have hgo := hgo.trans hg9
  have hdt := (hg9.2 _ hdt).1
  refine lv_iconst (v := 0) hx hb dX7_init_110 rfl ?_
  refine lv_istore_n (lv' := [(1, .int 0), (0, .ref (ad23 tq))]) hx hb dX7_init_111 rfl hl (Nat.le_of_ble_eq_true rfl) rfl (fun ls hl => ?_)
  exact lX7_init_112 E hlocks hrt hU hin9 _ _ _ _ _ _ _ _ _ _ hkt hdt hgo hf he hB (lv_sub hl [1, 0] rfl)
abbrev rmX6_init (c s : Nat) : Room := { frames := 3, cells := c, slots := s, locals := 64 }
set_option maxRecDepth 100000 in
set_option maxHeartbeats 4000000 in
theorem mX6_init (l : Launch) (K : Nat) (D : va_G) (G : Nat → ClassId) (ad : Nat → Nat) (r : sR) (v : sV) (n : Nat) (x : Int64 × UInt64) (tq : Nat) (hkt : sks tq = (8, 8)) (hdt : lv r n tq) : sMAv l yX6_init (.code yX6_init cX6_init 1 none :: wsL_law) rmX6_init D G ad r v n x [.ref (ad tq)] (fX6_init K tq r v n) := by
  intro sz0 q0 hf
  obtain ⟨fin, he⟩ : ∃ fin, fin = fz n q0 := ⟨_, rfl⟩
  rw [← he]
  refine Met.ofW (cc := cX6_init) (maxL := 1) (ret := none) (by decide) rfl ?_
  intro p e s m args below meth c s₁ B hml hv
  obtain ⟨hargs, rfl, hU, hP, hD⟩ := hv
  have hx := B.exec
  have hb := B.bytes
  have hrt := B.returns
  have hts : ∀ w ∈ wsL_law, w.before args s = true := fun w hw => atoms_spec (ws := .code yX6_init cX6_init 1 none :: wsL_law) B.pre w (List.mem_cons_of_mem _ hw)
  have hlocks := B.notSynchronized
  have hin9 : meth.name = "<init>" := (name_of_methodNamed B.named B.method).1
  have E : CallFix p m c cX6_init 1 s args wsL_law RX6 := ⟨hx, hb, hml, findClass_of_methodNamed B.named, hts⟩
  have hB : sB D G (sA ad r n s.heap.size) s.heap ad r v n x s.heap [] := ⟨hP, sD_self hD, va_S.rf⟩
  have hgo : sGo r n ad r n ad := sGo.rf
  have h0 : n ≤ n := Nat.le_refl n
  have hl := lv_entry ([.ref (ad tq)]) (n := 1) (Nat.le_of_ble_eq_true rfl)
  refine W.eq (g2 := F0 m 0 ((lg_sl ([.ref (ad tq)]) ++ List.replicate (1 - (lg_sl ([.ref (ad tq)])).length) Slot.unset).toArray) []) (by rw [hargs]; exact lg_entry_eq _ _ _) ?_
  generalize (lg_sl ([.ref (ad tq)]) ++ List.replicate (1 - (lg_sl ([.ref (ad tq)])).length) Slot.unset).toArray = ls at hl ⊢
  have hl : lv_has ls 1 [(0, .ref (ad tq))] := hl
  refine W_00 (n := n) ?_
  have hf := (fX6_init.eq_1 ..).symm.trans hf
  refine lv_aload_n hx hb dX6_init_0 rfl (lv_at hl 0 rfl) ?_
  refine s_obj E hl.1 wmX6_3 wobi wobc dX6_init_1 (Nat.le_of_ble_eq_true rfl) (Nat.le_of_ble_eq_true rfl) ?_
  refine lv_aload_n hx hb dX6_init_4 rfl (lv_at hl 0 rfl) ?_
  refine s_new (ci := 7) E hU hB (fun q h => Or.inr h) h0 ⟨Nat.le_refl _, Nat.le_refl _⟩ sc7 inlX5 wclX6_9 winsX5 winiX5 hdef7 dX6_init_5 hf he (fun rr1 v1 n1 rez hd1 hf he ad1 hg1 h0 hkn1 H hB => ?_)
  rw [← (hg1.2 (tq) hdt).2]
  have hl : lv_has ls 1 [(0, .ref (ad1 tq))] := by rw [(hg1.2 (tq) hdt).2]; exact hl
  have hgo := hgo.trans hg1
  have hdt := (hg1.2 _ hdt).1
  refine lv_dup hx hb dX6_init_8 rfl ?_
  refine sc_Av hB (fun q h => Or.inr h) h0 ⟨Nat.le_refl _, Nat.le_refl _⟩ hf he (fun q9 h9 hc9 => rI_A (As := []) (rest := [.ref (ad1 n), .ref (ad1 tq)]) (q := n) E hU hB (mX5_init l K D G ad1 rr1 _ n1 x n hkn1 hd1 _ _ h9) (cwGI 0 okX5_init wmX6_11 hts rfl rfl ⟨Nat.le_of_ble_eq_true rfl, Nat.le_of_ble_eq_true rfl⟩) rfl hl.1 (Nat.le_of_ble_eq_true rfl) dX6_init_9 hc9 rfl) (fun rr2 v2 n2 rez hf he ad2 hg2 h0 H locs hB => ?_)
  rw [← (hg2.2 (tq) hdt).2]
  rw [← (hg2.2 (n) hd1).2]
  have hl : lv_has ls 1 [(0, .ref (ad2 tq))] := by rw [(hg2.2 (tq) hdt).2]; exact hl
  have hgo := hgo.trans hg2
  have hdt := (hg2.2 _ hdt).1
  have hd1 := (hg2.2 _ hd1).1
  refine s_putR (k := 0) (t := n) (ty1 := .object "CrowdSimulator$State") E hU hB sc8 hdt hkt inlX6 (Nat.le_of_ble_eq_true rfl) rfl rfl wkX6_12 rfl hin9 rfl rfl rfl rfl dX6_init_12 hf (fun rr3 hf hg9 H locs hB => ?_)
  have hgo := hgo.trans hg9
  have hdt := (hg9.2 _ hdt).1
  refine lv_aload_n hx hb dX6_init_15 rfl (lv_at hl 0 rfl) ?_
  refine s_new (ci := 4) E hU hB (fun q h => Or.inr h) h0 ⟨Nat.le_refl _, Nat.le_refl _⟩ sc4 inlX2 wclX6_16 winsX2 winiX2 hdef4 dX6_init_16 hf he (fun rr4 v4 n4 rez hd4 hf he ad4 hg4 h0 hkn4 H hB => ?_)
  rw [← (hg4.2 (tq) hdt).2]
  have hl : lv_has ls 1 [(0, .ref (ad4 tq))] := by rw [(hg4.2 (tq) hdt).2]; exact hl
  have hgo := hgo.trans hg4
  have hdt := (hg4.2 _ hdt).1
  refine lv_dup hx hb dX6_init_19 rfl ?_
  refine sc_Av hB (fun q h => Or.inr h) h0 ⟨Nat.le_refl _, Nat.le_refl _⟩ hf he (fun q9 h9 hc9 => rIN_A (As := []) (rest := [.ref (ad4 n2), .ref (ad4 tq)]) (q := n2) E hU hB (mX2_init l K D G ad4 rr4 _ n4 x n2 hkn4 hd4 _ _ h9) (cwGIN 0 okX2_init (hU.2.1 _ (List.mem_of_getElem? (i := 0) rfl)) hts rfl rfl ⟨Nat.le_of_ble_eq_true rfl, Nat.le_of_ble_eq_true rfl⟩) rfl hl.1 (Nat.le_of_ble_eq_true rfl) dX6_init_20 hc9 rfl) (fun rr5 v5 n5 rez hf he ad5 hg5 h0 H locs hB => ?_)
  rw [← (hg5.2 (tq) hdt).2]
  rw [← (hg5.2 (n2) hd4).2]
  have hl : lv_has ls 1 [(0, .ref (ad5 tq))] := by rw [(hg5.2 (tq) hdt).2]; exact hl
  have hgo := hgo.trans hg5
  have hdt := (hg5.2 _ hdt).1
  have hd4 := (hg5.2 _ hd4).1
  refine s_putR (k := 1) (t := n2) (ty1 := .object "CrowdSimulator$Fields") E hU hB sc8 hdt hkt inlX6 (Nat.le_of_ble_eq_true rfl) rfl rfl wkX6_19 rfl hin9 rfl rfl rfl rfl dX6_init_23 hf (fun rr6 hf hg9 H locs hB => ?_)
  have hgo := hgo.trans hg9
  have hdt := (hg9.2 _ hdt).1
  refine lv_aload_n hx hb dX6_init_26 rfl (lv_at hl 0 rfl) ?_
  refine s_new (ci := 2) E hU hB (fun q h => Or.inr h) h0 ⟨Nat.le_refl _, Nat.le_refl _⟩ sc2 inlX0 wclX6_23 winsX0 winiX0 hdef2 dX6_init_27 hf he (fun rr7 v7 n7 rez hd7 hf he ad7 hg7 h0 hkn7 H hB => ?_)
  rw [← (hg7.2 (tq) hdt).2]
  have hl : lv_has ls 1 [(0, .ref (ad7 tq))] := by rw [(hg7.2 (tq) hdt).2]; exact hl
  have hgo := hgo.trans hg7
  have hdt := (hg7.2 _ hdt).1
  refine lv_dup hx hb dX6_init_30 rfl ?_
  refine lv_aload_n hx hb dX6_init_31 rfl (lv_at hl 0 rfl) ?_
  obtain ⟨⟨hr9, hdq8⟩, hf⟩ := ck_e hf
  refine s_getR (k := 0) (t := n) E hU hB.1 sc8 hdt hkt inlX6 (Nat.le_of_ble_eq_true rfl) rfl rfl wkX6_12 hr9 dX6_init_32 ?_
  refine lv_aload_n hx hb dX6_init_35 rfl (lv_at hl 0 rfl) ?_
  obtain ⟨⟨hr9, hdq9⟩, hf⟩ := ck_e hf
  refine s_getR (k := 1) (t := n2) E hU hB.1 sc8 hdt hkt inlX6 (Nat.le_of_ble_eq_true rfl) rfl rfl wkX6_19 hr9 dX6_init_36 ?_
  refine sc_Av hB (fun q h => Or.inr h) h0 ⟨Nat.le_refl _, Nat.le_refl _⟩ hf he (fun q9 h9 hc9 => rI_A (As := [.ref (ad7 n), .ref (ad7 n2)]) (rest := [.ref (ad7 n5), .ref (ad7 tq)]) (q := n5) E hU hB (mX0_init l D G ad7 rr7 _ n7 x n5 n n2 hkn7 hd7 _ _ h9) (cwGI 2 okX0_init wmX6_25 hts rfl rfl ⟨Nat.le_of_ble_eq_true rfl, Nat.le_of_ble_eq_true rfl⟩) rfl hl.1 (Nat.le_of_ble_eq_true rfl) dX6_init_39 hc9 rfl) (fun rr10 v10 n10 rez hf he ad10 hg10 h0 H locs hB => ?_)
  rw [← (hg10.2 (tq) hdt).2]
  rw [← (hg10.2 (n5) hd7).2]
  have hl : lv_has ls 1 [(0, .ref (ad10 tq))] := by rw [(hg10.2 (tq) hdt).2]; exact hl
  have hgo := hgo.trans hg10
  have hdt := (hg10.2 _ hdt).1
  have hd7 := (hg10.2 _ hd7).1
  refine s_putR (k := 2) (t := n5) (ty1 := .object "CrowdSimulator$Crowd") E hU hB sc8 hdt hkt inlX6 (Nat.le_of_ble_eq_true rfl) rfl rfl wkX6_28 rfl hin9 rfl rfl rfl rfl dX6_init_42 hf (fun rr11 hf hg9 H locs hB => ?_)
  have hgo := hgo.trans hg9
  have hdt := (hg9.2 _ hdt).1
  refine lv_aload_n hx hb dX6_init_45 rfl (lv_at hl 0 rfl) ?_
  refine s_new (ci := 2) E hU hB (fun q h => Or.inr h) h0 ⟨Nat.le_refl _, Nat.le_refl _⟩ sc2 inlX0 wclX6_23 winsX0 winiX0 hdef2 dX6_init_46 hf he (fun rr12 v12 n12 rez hd12 hf he ad12 hg12 h0 hkn12 H hB => ?_)
  rw [← (hg12.2 (tq) hdt).2]
  have hl : lv_has ls 1 [(0, .ref (ad12 tq))] := by rw [(hg12.2 (tq) hdt).2]; exact hl
  have hgo := hgo.trans hg12
  have hdt := (hg12.2 _ hdt).1
  refine lv_dup hx hb dX6_init_49 rfl ?_
  refine s_new (ci := 7) E hU hB (fun q h => Or.inr h) h0 ⟨Nat.le_refl _, Nat.le_refl _⟩ sc7 inlX5 wclX6_9 winsX5 winiX5 hdef7 dX6_init_50 hf he (fun rr13 v13 n13 rez hd13 hf he ad13 hg13 h0 hkn13 H hB => ?_)
  rw [← (hg13.2 (tq) hdt).2]
  rw [← (hg13.2 (n10) hd12).2]
  have hl : lv_has ls 1 [(0, .ref (ad13 tq))] := by rw [(hg13.2 (tq) hdt).2]; exact hl
  have hgo := hgo.trans hg13
  have hdt := (hg13.2 _ hdt).1
  have hd12 := (hg13.2 _ hd12).1
  refine lv_dup hx hb dX6_init_53 rfl ?_
  refine sc_Av hB (fun q h => Or.inr h) h0 ⟨Nat.le_refl _, Nat.le_refl _⟩ hf he (fun q9 h9 hc9 => rI_A (As := []) (rest := [.ref (ad13 n12), .ref (ad13 n10), .ref (ad13 n10), .ref (ad13 tq)]) (q := n12) E hU hB (mX5_init l K D G ad13 rr13 _ n13 x n12 hkn13 hd13 _ _ h9) (cwGI 0 okX5_init wmX6_11 hts rfl rfl ⟨Nat.le_of_ble_eq_true rfl, Nat.le_of_ble_eq_true rfl⟩) rfl hl.1 (Nat.le_of_ble_eq_true rfl) dX6_init_54 hc9 rfl) (fun rr14 v14 n14 rez hf he ad14 hg14 h0 H locs hB => ?_)
  rw [← (hg14.2 (tq) hdt).2]
  rw [← (hg14.2 (n10) hd12).2]
  rw [← (hg14.2 (n12) hd13).2]
  have hl : lv_has ls 1 [(0, .ref (ad14 tq))] := by rw [(hg14.2 (tq) hdt).2]; exact hl
  have hgo := hgo.trans hg14
  have hdt := (hg14.2 _ hdt).1
  have hd12 := (hg14.2 _ hd12).1
  have hd13 := (hg14.2 _ hd13).1
  refine lv_aload_n hx hb dX6_init_57 rfl (lv_at hl 0 rfl) ?_
  obtain ⟨⟨hr9, hdq15⟩, hf⟩ := ck_e hf
  refine s_getR (k := 1) (t := n2) E hU hB.1 sc8 hdt hkt inlX6 (Nat.le_of_ble_eq_true rfl) rfl rfl wkX6_19 hr9 dX6_init_58 ?_
  refine sc_Av hB (fun q h => Or.inr h) h0 ⟨Nat.le_refl _, Nat.le_refl _⟩ hf he (fun q9 h9 hc9 => rI_A (As := [.ref (ad14 n12), .ref (ad14 n2)]) (rest := [.ref (ad14 n10), .ref (ad14 tq)]) (q := n10) E hU hB (mX0_init l D G ad14 rr14 _ n14 x n10 n12 n2 hkn12 hd12 _ _ h9) (cwGI 2 okX0_init wmX6_25 hts rfl rfl ⟨Nat.le_of_ble_eq_true rfl, Nat.le_of_ble_eq_true rfl⟩) rfl hl.1 (Nat.le_of_ble_eq_true rfl) dX6_init_61 hc9 rfl) (fun rr16 v16 n16 rez hf he ad16 hg16 h0 H locs hB => ?_)
  rw [← (hg16.2 (tq) hdt).2]
  rw [← (hg16.2 (n10) hd12).2]
  have hl : lv_has ls 1 [(0, .ref (ad16 tq))] := by rw [(hg16.2 (tq) hdt).2]; exact hl
  have hgo := hgo.trans hg16
  have hdt := (hg16.2 _ hdt).1
  have hd12 := (hg16.2 _ hd12).1
  refine s_putR (k := 3) (t := n10) (ty1 := .object "CrowdSimulator$Crowd") E hU hB sc8 hdt hkt inlX6 (Nat.le_of_ble_eq_true rfl) rfl rfl wkX6_32 rfl hin9 rfl rfl rfl rfl dX6_init_64 hf (fun rr17 hf hg9 H locs hB => ?_)
  have hgo := hgo.trans hg9
  have hdt := (hg9.2 _ hdt).1
  refine lv_aload_n hx hb dX6_init_67 rfl (lv_at hl 0 rfl) ?_
  refine s_new (ci := 5) E hU hB (fun q h => Or.inr h) h0 ⟨Nat.le_refl _, Nat.le_refl _⟩ sc5 inlX3 wclX6_35 winsX3 winiX3 hdef5 dX6_init_68 hf he (fun rr18 v18 n18 rez hd18 hf he ad18 hg18 h0 hkn18 H hB => ?_)
  rw [← (hg18.2 (tq) hdt).2]
  have hl : lv_has ls 1 [(0, .ref (ad18 tq))] := by rw [(hg18.2 (tq) hdt).2]; exact hl
  have hgo := hgo.trans hg18
  have hdt := (hg18.2 _ hdt).1
  refine lv_dup hx hb dX6_init_71 rfl ?_
  refine sc_Av hB (fun q h => Or.inr h) h0 ⟨Nat.le_refl _, Nat.le_refl _⟩ hf he (fun q9 h9 hc9 => rIN_A (As := []) (rest := [.ref (ad18 n16), .ref (ad18 tq)]) (q := n16) E hU hB (mX3_init l D G ad18 rr18 _ n18 x n16 hkn18 hd18 _ _ h9) (cwGIN 0 okX3_init (hU.2.1 _ (List.mem_of_getElem? (i := 10) rfl)) hts rfl rfl ⟨Nat.le_of_ble_eq_true rfl, Nat.le_of_ble_eq_true rfl⟩) rfl hl.1 (Nat.le_of_ble_eq_true rfl) dX6_init_72 hc9 rfl) (fun rr19 v19 n19 rez hf he ad19 hg19 h0 H locs hB => ?_)
  rw [← (hg19.2 (tq) hdt).2]
  rw [← (hg19.2 (n16) hd18).2]
  have hl : lv_has ls 1 [(0, .ref (ad19 tq))] := by rw [(hg19.2 (tq) hdt).2]; exact hl
  have hgo := hgo.trans hg19
  have hdt := (hg19.2 _ hdt).1
  have hd18 := (hg19.2 _ hd18).1
  refine s_putR (k := 4) (t := n16) (ty1 := .object "CrowdSimulator$History") E hU hB sc8 hdt hkt inlX6 (Nat.le_of_ble_eq_true rfl) rfl rfl wkX6_38 rfl hin9 rfl rfl rfl rfl dX6_init_75 hf (fun rr20 hf hg9 H locs hB => ?_)
  have hgo := hgo.trans hg9
  have hdt := (hg9.2 _ hdt).1
  refine lv_aload_n hx hb dX6_init_78 rfl (lv_at hl 0 rfl) ?_
  refine s_jump hB h0 ⟨Nat.le_refl _, Nat.le_refl _⟩ hf he (fun rr21 n21 rez hf he hg9 h0 hB => ?_)
  have hgo := hgo.trans hg9
  have hdt := (hg9.2 _ hdt).1
  refine s_new (ci := 7) E hU hB (fun q h => Or.inr h) h0 ⟨Nat.le_refl _, Nat.le_refl _⟩ sc7 inlX5 wclX6_9 winsX5 winiX5 hdef7 dX6_init_79 hf he (fun rr22 v22 n22 rez hd22 hf he ad22 hg22 h0 hkn22 H hB => ?_)
  rw [← (hg22.2 (tq) hdt).2]
  have hl : lv_has ls 1 [(0, .ref (ad22 tq))] := by rw [(hg22.2 (tq) hdt).2]; exact hl
  have hgo := hgo.trans hg22
  have hdt := (hg22.2 _ hdt).1
  refine lv_dup hx hb dX6_init_82 rfl ?_
  refine sc_Av hB (fun q h => Or.inr h) h0 ⟨Nat.le_refl _, Nat.le_refl _⟩ hf he (fun q9 h9 hc9 => rI_A (As := []) (rest := [.ref (ad22 n21), .ref (ad22 tq)]) (q := n21) E hU hB (mX5_init l K D G ad22 rr22 _ n22 x n21 hkn22 hd22 _ _ h9) (cwGI 0 okX5_init wmX6_11 hts rfl rfl ⟨Nat.le_of_ble_eq_true rfl, Nat.le_of_ble_eq_true rfl⟩) rfl hl.1 (Nat.le_of_ble_eq_true rfl) dX6_init_83 hc9 rfl) (fun rr23 v23 n23 rez hf he ad23 hg23 h0 H locs hB => ?_)
  rw [← (hg23.2 (tq) hdt).2]
  rw [← (hg23.2 (n21) hd22).2]
  have hl : lv_has ls 1 [(0, .ref (ad23 tq))] := by rw [(hg23.2 (tq) hdt).2]; exact hl
  have hgo := hgo.trans hg23
  have hdt := (hg23.2 _ hdt).1
  have hd22 := (hg23.2 _ hd22).1
  refine s_putR (k := 5) (t := n21) (ty1 := .object "CrowdSimulator$State") E hU hB sc8 hdt hkt inlX6 (Nat.le_of_ble_eq_true rfl) rfl rfl wkX6_42 rfl hin9 rfl rfl rfl rfl dX6_init_86 hf (fun rr24 hf hg9 H locs hB => ?_)
  have hgo := hgo.trans hg9
  have hdt := (hg9.2 _ hdt).1
  refine lv_aload_n hx hb dX6_init_89 rfl (lv_at hl 0 rfl) ?_
  refine lv_iconst (v := 0) hx hb dX6_init_90 rfl ?_
  refine s_putI (k := 6) (ty1 := .boolean) E hU hB sc8 hdt hkt inlX6 (Nat.le_of_ble_eq_true rfl) rfl rfl wkX6_45 rfl rfl rfl rfl dX6_init_91 hf (fun v25 hf H locs hB => ?_)
  refine lv_aload_n hx hb dX6_init_94 rfl (lv_at hl 0 rfl) ?_
  refine s_new (ci := 6) E hU hB (fun q h => Or.inr h) h0 ⟨Nat.le_refl _, Nat.le_refl _⟩ sc6 inlX4 wclX6_49 winsX4 winiX4 hdef6 dX6_init_95 hf he (fun rr26 v26 n26 rez hd26 hf he ad26 hg26 h0 hkn26 H hB => ?_)
  rw [← (hg26.2 (tq) hdt).2]
  have hl : lv_has ls 1 [(0, .ref (ad26 tq))] := by rw [(hg26.2 (tq) hdt).2]; exact hl
  have hgo := hgo.trans hg26
  have hdt := (hg26.2 _ hdt).1
  refine lv_dup hx hb dX6_init_98 rfl ?_
  refine sc_Av hB (fun q h => Or.inr h) h0 ⟨Nat.le_refl _, Nat.le_refl _⟩ hf he (fun q9 h9 hc9 => rIN_A (As := []) (rest := [.ref (ad26 n23), .ref (ad26 tq)]) (q := n23) E hU hB (mX4_init l D G ad26 rr26 _ n26 x n23 hkn26 hd26 _ _ h9) (cwGIN 0 okX4_init (hU.2.1 _ (List.mem_of_getElem? (i := 1) rfl)) hts rfl rfl ⟨Nat.le_of_ble_eq_true rfl, Nat.le_of_ble_eq_true rfl⟩) rfl hl.1 (Nat.le_of_ble_eq_true rfl) dX6_init_99 hc9 rfl) (fun rr27 v27 n27 rez hf he ad27 hg27 h0 H locs hB => ?_)
  rw [← (hg27.2 (tq) hdt).2]
  rw [← (hg27.2 (n23) hd26).2]
  have hl : lv_has ls 1 [(0, .ref (ad27 tq))] := by rw [(hg27.2 (tq) hdt).2]; exact hl
  have hgo := hgo.trans hg27
  have hdt := (hg27.2 _ hdt).1
  have hd26 := (hg27.2 _ hd26).1
  refine s_putR (k := 7) (t := n23) (ty1 := .object "CrowdSimulator$MapText") E hU hB sc8 hdt hkt inlX6 (Nat.le_of_ble_eq_true rfl) rfl rfl wkX6_52 rfl hin9 rfl rfl rfl rfl dX6_init_102 hf (fun rr28 hf hg9 H locs hB => ?_)
  have hgo := hgo.trans hg9
  have hdt := (hg9.2 _ hdt).1
  exact s_vretA E hrt hlocks hB hgo hf he dX6_init_105
abbrev rmX2_forgetAll (c s : Nat) : Room := { frames := 0, cells := c, slots := s, locals := 0 }
set_option maxRecDepth 100000 in
set_option maxHeartbeats 4000000 in
theorem lX2_forgetAll_2 {K : Nat} {ad0 : Nat → Nat} {r0 : sR} {n0 : Nat} {fin : (Unit × sR × sV × Nat)} (E : CallFix p m c cX2_forgetAll 3 s args wsL_law RX2) (hlocks : meth.locks = false) (hrt : meth.sig.returnType = none) (hU : sU D G s) :
    ∀ (k : Nat) (x1 : Int32) (r : sR) (v : sV) (n : Nat) (ad : Nat → Nat) (H : Heap) (locs : List Loc) (ls : Array Slot) (rez : (Unit × sR × sV × Nat)), sSh r → 172 ≤ n → sGo r0 n0 ad0 r n ad → fx4 (gX2_forgetAll_2 K) k x1 r v n = some rez → fin = fz n rez → sB D G (sA ad0 r0 n0 s.heap.size) s.heap ad r v n x H locs → lv_has ls 3 [(0, .ref (ad 14)), (1, .int x1)] → W p l e (rmX2_forgetAll (fin.2.2.2 - n0) (sz fin.2.2.2 - sz n0)) s m args below meth c H locs (n - n0) (sz n - sz n0) (MQ below (sQAv D G ad0 r0 n0 x s.heap.size fin) args s (fin.2.2.2 - n0) (sz fin.2.2.2 - sz n0) (sA ad0 r0 n0 s.heap.size)) (F0 m 2 ls []) := by
  have hx := E.1
  have hb := E.2.1
  have hts := E.2.2.2.2
  intro k
  induction k with
  | zero =>
    intro x1 r v n ad H locs ls rez hsh hn hgo hf he hB hl
    exact fx4_z hf
  | succ k ih =>
    intro x1 r v n ad H locs ls rez hsh hn hgo hf he hB hl
    have h0 := hgo.1
    have hf := (gX2_forgetAll_2.eq_1 ..).symm.trans hf
    refine lv_iload_n hx hb dX2_forgetAll_2 rfl (lv_at hl 1 rfl) ?_
    refine lv_sipush (v := 140) hx hb dX2_forgetAll_3 rfl ?_
    refine lv_icmp_ge (tgt := 31) hx hb dX2_forgetAll_6 rfl (fun hc => ?_) (fun hc => ?_)
    · have hf := ite_t hf hc
      exact s_vretA E hrt hlocks hB hgo hf he dX2_forgetAll_31
    · have hf := ite_f hf hc
      refine lv_aload_n hx hb dX2_forgetAll_9 rfl (lv_at hl 0 rfl) ?_
      refine s_getR (k := 0) (t := 15) E hU hB.1 sc4 (slt hsh hn 14 rfl) rfl inlX2 (Nat.le_of_ble_eq_true rfl) rfl rfl wkX2_11 (hsh.1 14 0 15 rfl) dX2_forgetAll_10 ?_
      refine lv_iload_n hx hb dX2_forgetAll_13 rfl (lv_at hl 1 rfl) ?_
      refine s_aaldF E hU hB.1 hsh hn dX2_forgetAll_14 hf (fun hf => ?_) (fun f2 hf => ?_)
      · refine lv_astore_nN (lv' := [(2, .null), (0, .ref (ad 14)), (1, .int x1)]) hx hb dX2_forgetAll_15 rfl hl (Nat.le_of_ble_eq_true rfl) rfl (fun ls hl => ?_)
        refine lv_aload_nN hx hb dX2_forgetAll_16 rfl (lv_at hl 0 rfl) ?_
        refine lv_ifnullN (tgt := 25) hx hb dX2_forgetAll_17 rfl ?_
        obtain ⟨z1, ez9, hf⟩ := nm_x hf
        refine lv_iinc (v := z1) (lv' := [(1, .int z1), (2, .null), (0, .ref (ad 14))]) hx hb dX2_forgetAll_25 hl (k := 2) rfl (by rw [ez9]; rfl) (Nat.le_of_ble_eq_true rfl) rfl (fun ls hl => ?_)
        refine lv_goto (tgt := 2) hx hb dX2_forgetAll_28 rfl ?_
        exact ih _ _ _ _ _ _ _ _ _ hsh hn hgo hf he hB (lv_sub hl [2, 0] rfl)
      · obtain ⟨hf2, hf⟩ := ck_e hf
        refine lv_astore_n (lv' := [(2, .ref (ad f2)), (0, .ref (ad 14)), (1, .int x1)]) hx hb dX2_forgetAll_15 rfl hl (Nat.le_of_ble_eq_true rfl) rfl (fun ls hl => ?_)
        refine lv_aload_n hx hb dX2_forgetAll_16 rfl (lv_at hl 0 rfl) ?_
        refine lv_ifnull hx hb dX2_forgetAll_17 ?_
        refine lv_aload_n hx hb dX2_forgetAll_20 rfl (lv_at hl 0 rfl) ?_
        refine lv_iconst (v := 0) hx hb dX2_forgetAll_21 rfl ?_
        refine s_putI (k := 1) (ty1 := .boolean) E hU hB sc3 (okF_lt hf2) (okF_k hf2) inlX1 (Nat.le_of_ble_eq_true rfl) rfl rfl wkX2_29 rfl rfl rfl rfl dX2_forgetAll_22 hf (fun v3 hf H locs hB => ?_)
        obtain ⟨z4, ez9, hf⟩ := nm_x hf
        refine lv_iinc (v := z4) (lv' := [(1, .int z4), (2, .ref (ad f2)), (0, .ref (ad 14))]) hx hb dX2_forgetAll_25 hl (k := 2) rfl (by rw [ez9]; rfl) (Nat.le_of_ble_eq_true rfl) rfl (fun ls hl => ?_)
        refine lv_goto (tgt := 2) hx hb dX2_forgetAll_28 rfl ?_
        exact ih _ _ _ _ _ _ _ _ _ hsh hn hgo hf he hB (lv_sub hl [2, 0] rfl)
set_option maxRecDepth 100000 in
set_option maxHeartbeats 4000000 in
theorem mX2_forgetAll (l : Launch) (K : Nat) (D : va_G) (G : Nat → ClassId) (ad : Nat → Nat) (r : sR) (v : sV) (n : Nat) (x : Int64 × UInt64) (hsh : sSh r) (hn : 172 ≤ n) : sMAv l yX2_forgetAll (.code yX2_forgetAll cX2_forgetAll 3 none :: wsL_law) rmX2_forgetAll D G ad r v n x [.ref (ad 14)] (fX2_forgetAll K r v n) := by
  intro sz0 q0 hf
  obtain ⟨fin, he⟩ : ∃ fin, fin = fz n q0 := ⟨_, rfl⟩
  rw [← he]
  refine Met.ofW (cc := cX2_forgetAll) (maxL := 3) (ret := none) (by decide) rfl ?_
  intro p e s m args below meth c s₁ B hml hv
  obtain ⟨hargs, rfl, hU, hP, hD⟩ := hv
  have hx := B.exec
  have hb := B.bytes
  have hrt := B.returns
  have hts : ∀ w ∈ wsL_law, w.before args s = true := fun w hw => atoms_spec (ws := .code yX2_forgetAll cX2_forgetAll 3 none :: wsL_law) B.pre w (List.mem_cons_of_mem _ hw)
  have hlocks := B.notSynchronized
  have E : CallFix p m c cX2_forgetAll 3 s args wsL_law RX2 := ⟨hx, hb, hml, findClass_of_methodNamed B.named, hts⟩
  have hB : sB D G (sA ad r n s.heap.size) s.heap ad r v n x s.heap [] := ⟨hP, sD_self hD, va_S.rf⟩
  have hgo : sGo r n ad r n ad := sGo.rf
  have h0 : n ≤ n := Nat.le_refl n
  have hl := lv_entry ([.ref (ad 14)]) (n := 3) (Nat.le_of_ble_eq_true rfl)
  refine W.eq (g2 := F0 m 0 ((lg_sl ([.ref (ad 14)]) ++ List.replicate (3 - (lg_sl ([.ref (ad 14)])).length) Slot.unset).toArray) []) (by rw [hargs]; exact lg_entry_eq _ _ _) ?_
  generalize (lg_sl ([.ref (ad 14)]) ++ List.replicate (3 - (lg_sl ([.ref (ad 14)])).length) Slot.unset).toArray = ls at hl ⊢
  have hl : lv_has ls 3 [(0, .ref (ad 14))] := hl
  refine W_00 (n := n) ?_
  have hf := (fX2_forgetAll.eq_1 ..).symm.trans hf
  refine lv_iconst (v := 0) hx hb dX2_forgetAll_0 rfl ?_
  refine lv_istore_n (lv' := [(1, .int 0), (0, .ref (ad 14))]) hx hb dX2_forgetAll_1 rfl hl (Nat.le_of_ble_eq_true rfl) rfl (fun ls hl => ?_)
  exact lX2_forgetAll_2 E hlocks hrt hU _ _ _ _ _ _ _ _ _ _ hsh hn hgo hf he hB (lv_sub hl [1, 0] rfl)
abbrev rmX2_toward (c s : Nat) : Room := { frames := 2, cells := c, slots := s, locals := 52 }
set_option maxRecDepth 100000 in
set_option maxHeartbeats 4000000 in
theorem wX2_toward_48 {K : Nat} {a2 : Nat} {x1 : Int32} {f3 : Nat} {ad0 ad : Nat → Nat} {n0 n : Nat} {r0 r : sR} {v : sV} {H : Heap} {locs : List Loc} {ls : Array Slot} {fin rez : (Nat × sR × sV × Nat)} (E : CallFix p m c cX2_toward 4 s args wsL_law RX2) (hlocks : meth.locks = false) (hrt : meth.sig.returnType = (some (.object "CrowdSimulator$Field"))) (hU : sU D G s) (hsh : sSh r) (hn : 172 ≤ n) (hk2 : sks a2 = (10, 140)) (hl2 : lv r n a2) (hf3 : okF r n f3) (hgo : sGo r0 n0 ad0 r n ad) (hf : bX2_toward_48 K a2 x1 f3 r v n = some rez) (he : fin = fz n rez) (hB : sB D G (sA ad0 r0 n0 s.heap.size) s.heap ad r v n x H locs) (hl : lv_has ls 4 [(0, .ref (ad 14)), (1, .int x1), (2, .ref (ad a2)), (3, .ref (ad f3))]) :
    W p l e (rmX2_toward (fin.2.2.2 - n0) (sz fin.2.2.2 - sz n0)) s m args below meth c H locs (n - n0) (sz n - sz n0) (MQ below (sQAr D G ad0 r0 n0 x s.heap.size fin) args s (fin.2.2.2 - n0) (sz fin.2.2.2 - sz n0) (sA ad0 r0 n0 s.heap.size)) (F0 m 48 ls []) := by
  have hx := E.1
  have hb := E.2.1
  have hts := E.2.2.2.2
  have h0 := hgo.1
  have hf := (bX2_toward_48.eq_1 ..).symm.trans hf
  refine lv_aload_n hx hb dX2_toward_48 rfl (lv_at hl 3 rfl) ?_
  refine s_getI (k := 1) E hU hB.1 sc3 (okF_lt hf3) (okF_k hf3) inlX1 (Nat.le_of_ble_eq_true rfl) rfl rfl wkX2_29 dX2_toward_49 ?_
  refine lv_if_ne (tgt := 70) hx hb dX2_toward_52 rfl (fun hc => ?_) (fun hc => ?_)
  · have hf := ite_f hf hc
    refine lv_aload_n hx hb dX2_toward_70 rfl (lv_at hl 3 rfl) ?_
    exact s_aretA E hrt hlocks hB hgo hf he dX2_toward_71
  · have hf := ite_t hf hc
    refine lv_aload_n hx hb dX2_toward_55 rfl (lv_at hl 0 rfl) ?_
    refine lv_iload_n hx hb dX2_toward_56 rfl (lv_at hl 1 rfl) ?_
    refine lv_aload_n hx hb dX2_toward_57 rfl (lv_at hl 2 rfl) ?_
    refine lv_aload_n hx hb dX2_toward_58 rfl (lv_at hl 3 rfl) ?_
    refine s_getR (k := 0) (t := (f3 + 1)) E hU hB.1 sc3 (okF_lt hf3) (okF_k hf3) inlX1 (Nat.le_of_ble_eq_true rfl) rfl rfl wkX2_33 hf3.2.1 dX2_toward_59 ?_
    refine sc_V hB (fun q h => Or.inr h) hf (fun q9 h9 => rV_W (As := [.int x1, .ref (ad a2), .ref (ad (f3 + 1))]) (rest := []) E hU hB sc4 (slt hsh hn 14 rfl) rfl ((mX2_spread l K D G ad r _ n x hsh hn a2 (f3 + 1) hk2 hl2 (okF_k1 hf3) (okF_lt1 hf3) x1) _ _ h9) (cwGV 3 okX2_spread wmX2_36 hts rfl rfl ⟨Nat.le_of_ble_eq_true rfl, Nat.le_of_ble_eq_true rfl⟩) rfl hl.1 (Nat.le_of_ble_eq_true rfl) dX2_toward_62 (aC he (Nat.le_refl _) (Nat.le_refl _)) rfl) (fun v5 hf H locs hB => ?_)
    refine lv_aload_n hx hb dX2_toward_65 rfl (lv_at hl 3 rfl) ?_
    refine lv_iconst (v := 1) hx hb dX2_toward_66 rfl ?_
    refine s_putI (k := 1) (ty1 := .boolean) E hU hB sc3 (okF_lt hf3) (okF_k hf3) inlX1 (Nat.le_of_ble_eq_true rfl) rfl rfl wkX2_29 rfl rfl rfl rfl dX2_toward_67 hf (fun v6 hf H locs hB => ?_)
    refine lv_aload_n hx hb dX2_toward_70 rfl (lv_at hl 3 rfl) ?_
    exact s_aretA E hrt hlocks hB hgo hf he dX2_toward_71
set_option maxRecDepth 100000 in
set_option maxHeartbeats 4000000 in
theorem mX2_toward (l : Launch) (K : Nat) (D : va_G) (G : Nat → ClassId) (ad : Nat → Nat) (r : sR) (v : sV) (n : Nat) (x : Int64 × UInt64) (hsh : sSh r) (hn : 172 ≤ n) (a2 : Nat) (hk2 : sks a2 = (10, 140)) (hl2 : lv r n a2) (x1 : Int32) : sMAr l yX2_toward (.code yX2_toward cX2_toward 4 (some (.object "CrowdSimulator$Field")) :: wsL_law) rmX2_toward D G ad r v n x [.ref (ad 14), .int x1, .ref (ad a2)] (fX2_toward K a2 x1 r v n) := by
  intro sz0 q0 hf
  obtain ⟨fin, he⟩ : ∃ fin, fin = fz n q0 := ⟨_, rfl⟩
  rw [← he]
  refine Met.ofW (cc := cX2_toward) (maxL := 4) (ret := (some (.object "CrowdSimulator$Field"))) (by decide) rfl ?_
  intro p e s m args below meth c s₁ B hml hv
  obtain ⟨hargs, rfl, hU, hP, hD⟩ := hv
  have hx := B.exec
  have hb := B.bytes
  have hrt := B.returns
  have hts : ∀ w ∈ wsL_law, w.before args s = true := fun w hw => atoms_spec (ws := .code yX2_toward cX2_toward 4 (some (.object "CrowdSimulator$Field")) :: wsL_law) B.pre w (List.mem_cons_of_mem _ hw)
  have hlocks := B.notSynchronized
  have E : CallFix p m c cX2_toward 4 s args wsL_law RX2 := ⟨hx, hb, hml, findClass_of_methodNamed B.named, hts⟩
  have hB : sB D G (sA ad r n s.heap.size) s.heap ad r v n x s.heap [] := ⟨hP, sD_self hD, va_S.rf⟩
  have hgo : sGo r n ad r n ad := sGo.rf
  have h0 : n ≤ n := Nat.le_refl n
  have hl := lv_entry ([.ref (ad 14), .int x1, .ref (ad a2)]) (n := 4) (Nat.le_of_ble_eq_true rfl)
  refine W.eq (g2 := F0 m 0 ((lg_sl ([.ref (ad 14), .int x1, .ref (ad a2)]) ++ List.replicate (4 - (lg_sl ([.ref (ad 14), .int x1, .ref (ad a2)])).length) Slot.unset).toArray) []) (by rw [hargs]; exact lg_entry_eq _ _ _) ?_
  generalize (lg_sl ([.ref (ad 14), .int x1, .ref (ad a2)]) ++ List.replicate (4 - (lg_sl ([.ref (ad 14), .int x1, .ref (ad a2)])).length) Slot.unset).toArray = ls at hl ⊢
  have hl : lv_has ls 4 [(0, .ref (ad 14)), (1, .int x1), (2, .ref (ad a2))] := hl
  refine W_00 (n := n) ?_
  have hf := (fX2_toward.eq_1 ..).symm.trans hf
  refine lv_iload_n hx hb dX2_toward_0 rfl (lv_at hl 1 rfl) ?_
  refine lv_if_lt (tgt := 17) hx hb dX2_toward_1 rfl (fun hc => ?_) (fun hc => ?_)
  · have hf := ite_t hf hc
    refine lv_aload_n hx hb dX2_toward_17 rfl (lv_at hl 0 rfl) ?_
    refine s_getR (k := 1) (t := 16) E hU hB.1 sc4 (slt hsh hn 14 rfl) rfl inlX2 (Nat.le_of_ble_eq_true rfl) rfl rfl wkX2_18 (hsh.1 14 1 16 rfl) dX2_toward_18 ?_
    exact s_aretA E hrt hlocks hB hgo hf he dX2_toward_21
  · have hf := ite_f hf hc
    refine lv_iload_n hx hb dX2_toward_4 rfl (lv_at hl 1 rfl) ?_
    refine lv_sipush (v := 140) hx hb dX2_toward_5 rfl ?_
    refine lv_icmp_ge (tgt := 17) hx hb dX2_toward_8 rfl (fun hc => ?_) (fun hc => ?_)
    · have hf := ite_t hf hc
      refine lv_aload_n hx hb dX2_toward_17 rfl (lv_at hl 0 rfl) ?_
      refine s_getR (k := 1) (t := 16) E hU hB.1 sc4 (slt hsh hn 14 rfl) rfl inlX2 (Nat.le_of_ble_eq_true rfl) rfl rfl wkX2_18 (hsh.1 14 1 16 rfl) dX2_toward_18 ?_
      exact s_aretA E hrt hlocks hB hgo hf he dX2_toward_21
    · have hf := ite_f hf hc
      refine lv_aload_n hx hb dX2_toward_11 rfl (lv_at hl 2 rfl) ?_
      refine lv_iload_n hx hb dX2_toward_12 rfl (lv_at hl 1 rfl) ?_
      refine s_iald E hU hB.1 hl2 hk2 dX2_toward_13 hf (fun y1 hf => ?_)
      refine lv_if_ne (tgt := 22) hx hb dX2_toward_14 rfl (fun hc => ?_) (fun hc => ?_)
      · have hf := ite_f hf hc
        refine lv_aload_n hx hb dX2_toward_22 rfl (lv_at hl 0 rfl) ?_
        refine s_getR (k := 0) (t := 15) E hU hB.1 sc4 (slt hsh hn 14 rfl) rfl inlX2 (Nat.le_of_ble_eq_true rfl) rfl rfl wkX2_11 (hsh.1 14 0 15 rfl) dX2_toward_23 ?_
        refine lv_iload_n hx hb dX2_toward_26 rfl (lv_at hl 1 rfl) ?_
        refine s_aaldF E hU hB.1 hsh hn dX2_toward_27 hf (fun hf => ?_) (fun f7 hf => ?_)
        · refine lv_astore_nN (lv' := [(3, .null), (0, .ref (ad 14)), (1, .int x1), (2, .ref (ad a2))]) hx hb dX2_toward_28 rfl hl (Nat.le_of_ble_eq_true rfl) rfl (fun ls hl => ?_)
          refine lv_aload_nN hx hb dX2_toward_29 rfl (lv_at hl 0 rfl) ?_
          refine lv_ifnonnullN hx hb dX2_toward_30 ?_
          refine s_new (ci := 3) E hU hB (fun q h => Or.inr h) h0 ⟨Nat.le_refl _, Nat.le_refl _⟩ sc3 inlX1 wclX2_9 winsX1 winiX1 hdef3 dX2_toward_33 hf he (fun rr2 v2 n2 rez hd2 hf he ad2 hg2 h0 hkn2 H hB => ?_)
          have hl : lv_has ls 4 [(3, .null), (0, .ref (ad2 14)), (1, .int x1), (2, .ref (ad2 a2))] := by rw [(hg2.2 (14) (slt hsh hn 14 rfl)).2, (hg2.2 (a2) hl2).2]; exact hl
          have hn : 172 ≤ n2 := Nat.le_trans hn hg2.1
          have hgo := hgo.trans hg2
          have hl2 := (hg2.2 _ hl2).1
          obtain ⟨hsh, hf⟩ := ck_e hf
          refine lv_dup hx hb dX2_toward_36 rfl ?_
          refine sc_Av hB (fun q h => Or.inr h) h0 ⟨Nat.le_refl _, Nat.le_refl _⟩ hf he (fun q9 h9 hc9 => rI_A (As := []) (rest := [.ref (ad2 n)]) (q := n) E hU hB (mX1_init l K D G ad2 rr2 _ n2 x n hkn2 hd2 _ _ h9) (cwGI 0 okX1_init wmX2_17 hts rfl rfl ⟨Nat.le_of_ble_eq_true rfl, Nat.le_of_ble_eq_true rfl⟩) rfl hl.1 (Nat.le_of_ble_eq_true rfl) dX2_toward_37 hc9 rfl) (fun rr3 v3 n3 rez hf he ad3 hg3 h0 H locs hB => ?_)
          rw [← (hg3.2 (n) hd2).2]
          have hl : lv_has ls 4 [(3, .null), (0, .ref (ad3 14)), (1, .int x1), (2, .ref (ad3 a2))] := by rw [(hg3.2 (14) (slt hsh hn 14 rfl)).2, (hg3.2 (a2) hl2).2]; exact hl
          have hn : 172 ≤ n3 := Nat.le_trans hn hg3.1
          have hgo := hgo.trans hg3
          have hl2 := (hg3.2 _ hl2).1
          obtain ⟨⟨hsh, ho3⟩, hf⟩ := ck_e hf
          refine lv_astore_n (lv' := [(3, .ref (ad3 n)), (0, .ref (ad3 14)), (1, .int x1), (2, .ref (ad3 a2))]) hx hb dX2_toward_40 rfl hl (Nat.le_of_ble_eq_true rfl) rfl (fun ls hl => ?_)
          refine lv_aload_n hx hb dX2_toward_41 rfl (lv_at hl 1 rfl) ?_
          refine s_getR (k := 0) (t := 15) E hU hB.1 sc4 (slt hsh hn 14 rfl) rfl inlX2 (Nat.le_of_ble_eq_true rfl) rfl rfl wkX2_11 (hsh.1 14 0 15 rfl) dX2_toward_42 ?_
          refine lv_iload_n hx hb dX2_toward_45 rfl (lv_at hl 2 rfl) ?_
          refine lv_aload_n hx hb dX2_toward_46 rfl (lv_at hl 0 rfl) ?_
          refine s_aast (kd := 15) (t := n) E hU hB (by decide) (slt hsh hn 15 rfl) rfl sc3 (okF_lt ho3) (okF_k ho3) rfl dX2_toward_47 hf (fun rr4 hf hg9 H locs hB => ?_)
          have hgo := hgo.trans hg9
          have hl2 := (hg9.2 _ hl2).1
          obtain ⟨⟨hsh, ho3⟩, hf⟩ := ck_e hf
          exact wX2_toward_48 E hlocks hrt hU hsh hn hk2 hl2 ho3 hgo hf he hB (lv_sub hl [1, 2, 3, 0] rfl)
        · obtain ⟨hf7, hf⟩ := ck_e hf
          refine lv_astore_n (lv' := [(3, .ref (ad f7)), (0, .ref (ad 14)), (1, .int x1), (2, .ref (ad a2))]) hx hb dX2_toward_28 rfl hl (Nat.le_of_ble_eq_true rfl) rfl (fun ls hl => ?_)
          refine lv_aload_n hx hb dX2_toward_29 rfl (lv_at hl 0 rfl) ?_
          refine lv_ifnonnull (tgt := 48) hx hb dX2_toward_30 rfl ?_
          exact wX2_toward_48 E hlocks hrt hU hsh hn hk2 hl2 hf7 hgo hf he hB (lv_sub hl [1, 2, 3, 0] rfl)
      · have hf := ite_t hf hc
        refine lv_aload_n hx hb dX2_toward_17 rfl (lv_at hl 0 rfl) ?_
        refine s_getR (k := 1) (t := 16) E hU hB.1 sc4 (slt hsh hn 14 rfl) rfl inlX2 (Nat.le_of_ble_eq_true rfl) rfl rfl wkX2_18 (hsh.1 14 1 16 rfl) dX2_toward_18 ?_
        exact s_aretA E hrt hlocks hB hgo hf he dX2_toward_21
abbrev rmX0_distanceLeft (c s : Nat) : Room := { frames := 3, cells := c, slots := s, locals := 75 }
set_option maxRecDepth 100000 in
set_option maxHeartbeats 4000000 in
theorem mX0_distanceLeft (l : Launch) (K : Nat) (D : va_G) (G : Nat → ClassId) (ad : Nat → Nat) (r : sR) (v : sV) (n : Nat) (x : Int64 × UInt64) (hsh : sSh r) (hn : 172 ≤ n) (cq : Nat) (bq : Nat) (hcb : okC cq bq) (x1 : Int32) : sMAi l yX0_distanceLeft (.code yX0_distanceLeft cX0_distanceLeft 2 (some .int) :: wsL_law) rmX0_distanceLeft D G ad r v n x [.ref (ad cq), .int x1] (fX0_distanceLeft K cq bq x1 r v n) := by
  intro sz0 q0 hf
  obtain ⟨fin, he⟩ : ∃ fin, fin = fz n q0 := ⟨_, rfl⟩
  rw [← he]
  refine Met.ofW (cc := cX0_distanceLeft) (maxL := 2) (ret := (some .int)) (by decide) rfl ?_
  intro p e s m args below meth c s₁ B hml hv
  obtain ⟨hargs, rfl, hU, hP, hD⟩ := hv
  have hx := B.exec
  have hb := B.bytes
  have hrt := B.returns
  have hts : ∀ w ∈ wsL_law, w.before args s = true := fun w hw => atoms_spec (ws := .code yX0_distanceLeft cX0_distanceLeft 2 (some .int) :: wsL_law) B.pre w (List.mem_cons_of_mem _ hw)
  have hlocks := B.notSynchronized
  have E : CallFix p m c cX0_distanceLeft 2 s args wsL_law RX0 := ⟨hx, hb, hml, findClass_of_methodNamed B.named, hts⟩
  have hB : sB D G (sA ad r n s.heap.size) s.heap ad r v n x s.heap [] := ⟨hP, sD_self hD, va_S.rf⟩
  have hgo : sGo r n ad r n ad := sGo.rf
  have h0 : n ≤ n := Nat.le_refl n
  have hl := lv_entry ([.ref (ad cq), .int x1]) (n := 2) (Nat.le_of_ble_eq_true rfl)
  refine W.eq (g2 := F0 m 0 ((lg_sl ([.ref (ad cq), .int x1]) ++ List.replicate (2 - (lg_sl ([.ref (ad cq), .int x1])).length) Slot.unset).toArray) []) (by rw [hargs]; exact lg_entry_eq _ _ _) ?_
  generalize (lg_sl ([.ref (ad cq), .int x1]) ++ List.replicate (2 - (lg_sl ([.ref (ad cq), .int x1])).length) Slot.unset).toArray = ls at hl ⊢
  have hl : lv_has ls 2 [(0, .ref (ad cq)), (1, .int x1)] := hl
  refine W_00 (n := n) ?_
  have hf := (fX0_distanceLeft.eq_1 ..).symm.trans hf
  refine lv_aload_n hx hb dX0_distanceLeft_0 rfl (lv_at hl 0 rfl) ?_
  refine s_getR (k := 1) (t := 14) E hU hB.1 sc2 (okC_lt hsh hcb hn) (okC_k hcb) inlX0 (Nat.le_of_ble_eq_true rfl) rfl rfl wkX0_15 (hsh.1 _ _ _ (okC_r1 hcb)) dX0_distanceLeft_1 ?_
  refine lv_aload_n hx hb dX0_distanceLeft_4 rfl (lv_at hl 0 rfl) ?_
  refine lv_iload_n hx hb dX0_distanceLeft_5 rfl (lv_at hl 1 rfl) ?_
  refine sc_R hf (rV_R (As := [.int x1]) (rest := [.ref (ad 14)]) E hU hB.1 sc2 (okC_lt hsh hcb hn) (okC_k hcb) (mX0_targetOf l D G ad r _ n x hsh hn cq bq hcb x1) (cwGV 1 okX0_targetOf wmX0_76 hts rfl rfl ⟨Nat.le_of_ble_eq_true rfl, Nat.le_of_ble_eq_true rfl⟩) rfl hl.1 (Nat.le_of_ble_eq_true rfl) dX0_distanceLeft_6 (aC he (Nat.le_refl _) (Nat.le_refl _)) rfl) (fun y1 hf => ?_)
  refine lv_aload_n hx hb dX0_distanceLeft_9 rfl (lv_at hl 0 rfl) ?_
  refine s_getR (k := 0) (t := bq) E hU hB.1 sc2 (okC_lt hsh hcb hn) (okC_k hcb) inlX0 (Nat.le_of_ble_eq_true rfl) rfl rfl wkX0_9 (hsh.1 _ _ _ (okC_r0 hcb)) dX0_distanceLeft_10 ?_
  refine s_getR (k := 0) (t := (bq + 1)) E hU hB.1 sc7 (okS_lt0 hsh (okC_S hcb) hn) (okS_k hsh (okC_S hcb)) inlX5 (Nat.le_of_ble_eq_true rfl) rfl rfl wkX0_42 (okS_r hsh (okC_S hcb) 0 rfl) dX0_distanceLeft_13 ?_
  refine sc_Ar hB (fun q h => Or.inr h) h0 ⟨Nat.le_refl _, Nat.le_refl _⟩ hf he (fun q9 h9 hc9 => rV_A (As := [.int y1, .ref (ad (bq + 1))]) (rest := []) E hU hB sc4 (slt hsh hn 14 rfl) rfl (mX2_toward l K D G ad r _ n x hsh hn (bq + 1) (okS_kj hsh (okC_S hcb) 1 _ rfl) (okS_lt hsh (okC_S hcb) hn 1 rfl) y1 _ _ h9) (cwGV 2 okX2_toward wmX0_79 hts rfl rfl ⟨Nat.le_of_ble_eq_true rfl, Nat.le_of_ble_eq_true rfl⟩) rfl hl.1 (Nat.le_of_ble_eq_true rfl) dX0_distanceLeft_16 hc9 rfl) (fun y2 rr2 v2 n2 rez hf he ad2 hg2 h0 H locs hB => ?_)
  have hl : lv_has ls 2 [(0, .ref (ad2 cq)), (1, .int x1)] := by rw [(hg2.2 (cq) (okC_lt hsh hcb hn)).2]; exact hl
  have hn : 172 ≤ n2 := Nat.le_trans hn hg2.1
  have hgo := hgo.trans hg2
  obtain ⟨⟨hsh, hy2⟩, hf⟩ := ck_e hf
  refine lv_aload_n hx hb dX0_distanceLeft_19 rfl (lv_at hl 0 rfl) ?_
  refine s_getR (k := 0) (t := bq) E hU hB.1 sc2 (okC_lt hsh hcb hn) (okC_k hcb) inlX0 (Nat.le_of_ble_eq_true rfl) rfl rfl wkX0_9 (hsh.1 _ _ _ (okC_r0 hcb)) dX0_distanceLeft_20 ?_
  refine s_getR (k := 3) (t := (bq + 4)) E hU hB.1 sc7 (okS_lt0 hsh (okC_S hcb) hn) (okS_k hsh (okC_S hcb)) inlX5 (Nat.le_of_ble_eq_true rfl) rfl rfl wkX0_19 (okS_r hsh (okC_S hcb) 3 rfl) dX0_distanceLeft_23 ?_
  refine lv_iload_n hx hb dX0_distanceLeft_26 rfl (lv_at hl 1 rfl) ?_
  refine s_iald E hU hB.1 (okS_lt hsh (okC_S hcb) hn 4 rfl) (okS_kj hsh (okC_S hcb) 4 _ rfl) dX0_distanceLeft_27 hf (fun y3 hf => ?_)
  refine sc_R hf (rV_R (As := [.int y3]) (rest := []) E hU hB.1 sc3 (okF_lt hy2) (okF_k hy2) (mX1_distanceOf l D G ad2 rr2 _ n2 x hsh hn y2 hy2 y3) (cwGV 1 okX1_distanceOf wmX0_85 hts rfl rfl ⟨Nat.le_of_ble_eq_true rfl, Nat.le_of_ble_eq_true rfl⟩) rfl hl.1 (Nat.le_of_ble_eq_true rfl) dX0_distanceLeft_28 (aC he (Nat.le_refl _) (Nat.le_refl _)) rfl) (fun y4 hf => ?_)
  exact s_iretA E hrt hlocks hB hgo hf he dX0_distanceLeft_31
abbrev rmX0_pushAside (c s : Nat) : Room := { frames := 3, cells := c, slots := s, locals := 75 }
set_option maxRecDepth 100000 in
set_option maxHeartbeats 4000000 in
theorem mX0_pushAside (l : Launch) (K : Nat) (D : va_G) (G : Nat → ClassId) (ad : Nat → Nat) (r : sR) (v : sV) (n : Nat) (x : Int64 × UInt64) (hsh : sSh r) (hn : 172 ≤ n) (cq : Nat) (bq : Nat) (hcb : okC cq bq) (x1 : Int32) (x2 : Int32) : sMAi l yX0_pushAside (.code yX0_pushAside cX0_pushAside 5 (some .boolean) :: wsL_law) rmX0_pushAside D G ad r v n x [.ref (ad cq), .int x1, .int x2] (fX0_pushAside K cq bq x1 x2 r v n) := by
  intro sz0 q0 hf
  obtain ⟨fin, he⟩ : ∃ fin, fin = fz n q0 := ⟨_, rfl⟩
  rw [← he]
  refine Met.ofW (cc := cX0_pushAside) (maxL := 5) (ret := (some .boolean)) (by decide) rfl ?_
  intro p e s m args below meth c s₁ B hml hv
  obtain ⟨hargs, rfl, hU, hP, hD⟩ := hv
  have hx := B.exec
  have hb := B.bytes
  have hrt := B.returns
  have hts : ∀ w ∈ wsL_law, w.before args s = true := fun w hw => atoms_spec (ws := .code yX0_pushAside cX0_pushAside 5 (some .boolean) :: wsL_law) B.pre w (List.mem_cons_of_mem _ hw)
  have hlocks := B.notSynchronized
  have E : CallFix p m c cX0_pushAside 5 s args wsL_law RX0 := ⟨hx, hb, hml, findClass_of_methodNamed B.named, hts⟩
  have hB : sB D G (sA ad r n s.heap.size) s.heap ad r v n x s.heap [] := ⟨hP, sD_self hD, va_S.rf⟩
  have hgo : sGo r n ad r n ad := sGo.rf
  have h0 : n ≤ n := Nat.le_refl n
  have hl := lv_entry ([.ref (ad cq), .int x1, .int x2]) (n := 5) (Nat.le_of_ble_eq_true rfl)
  refine W.eq (g2 := F0 m 0 ((lg_sl ([.ref (ad cq), .int x1, .int x2]) ++ List.replicate (5 - (lg_sl ([.ref (ad cq), .int x1, .int x2])).length) Slot.unset).toArray) []) (by rw [hargs]; exact lg_entry_eq _ _ _) ?_
  generalize (lg_sl ([.ref (ad cq), .int x1, .int x2]) ++ List.replicate (5 - (lg_sl ([.ref (ad cq), .int x1, .int x2])).length) Slot.unset).toArray = ls at hl ⊢
  have hl : lv_has ls 5 [(0, .ref (ad cq)), (1, .int x1), (2, .int x2)] := hl
  refine W_00 (n := n) ?_
  have hf := (fX0_pushAside.eq_1 ..).symm.trans hf
  refine lv_aload_n hx hb dX0_pushAside_0 rfl (lv_at hl 0 rfl) ?_
  refine s_getR (k := 0) (t := bq) E hU hB.1 sc2 (okC_lt hsh hcb hn) (okC_k hcb) inlX0 (Nat.le_of_ble_eq_true rfl) rfl rfl wkX0_9 (hsh.1 _ _ _ (okC_r0 hcb)) dX0_pushAside_1 ?_
  refine s_getR (k := 5) (t := (bq + 6)) E hU hB.1 sc7 (okS_lt0 hsh (okC_S hcb) hn) (okS_k hsh (okC_S hcb)) inlX5 (Nat.le_of_ble_eq_true rfl) rfl rfl wkX0_106 (okS_r hsh (okC_S hcb) 5 rfl) dX0_pushAside_4 ?_
  refine lv_iload_n hx hb dX0_pushAside_7 rfl (lv_at hl 1 rfl) ?_
  refine s_iald E hU hB.1 (okS_lt hsh (okC_S hcb) hn 6 rfl) (okS_kj hsh (okC_S hcb) 6 _ rfl) dX0_pushAside_8 hf (fun y1 hf => ?_)
  refine lv_aload_n hx hb dX0_pushAside_9 rfl (lv_at hl 0 rfl) ?_
  refine s_getR (k := 0) (t := bq) E hU hB.1 sc2 (okC_lt hsh hcb hn) (okC_k hcb) inlX0 (Nat.le_of_ble_eq_true rfl) rfl rfl wkX0_9 (hsh.1 _ _ _ (okC_r0 hcb)) dX0_pushAside_10 ?_
  refine s_getR (k := 5) (t := (bq + 6)) E hU hB.1 sc7 (okS_lt0 hsh (okC_S hcb) hn) (okS_k hsh (okC_S hcb)) inlX5 (Nat.le_of_ble_eq_true rfl) rfl rfl wkX0_106 (okS_r hsh (okC_S hcb) 5 rfl) dX0_pushAside_13 ?_
  refine lv_iload_n hx hb dX0_pushAside_16 rfl (lv_at hl 2 rfl) ?_
  refine s_iald E hU hB.1 (okS_lt hsh (okC_S hcb) hn 6 rfl) (okS_kj hsh (okC_S hcb) 6 _ rfl) dX0_pushAside_17 hf (fun y2 hf => ?_)
  refine lv_icmp_ge (tgt := 32) hx hb dX0_pushAside_18 rfl (fun hc => ?_) (fun hc => ?_)
  · have hf := ite_t hf hc
    refine lv_iconst (v := 0) hx hb dX0_pushAside_32 rfl ?_
    exact s_zretA E hrt hlocks hB hgo rfl hf he dX0_pushAside_33
  · have hf := ite_f hf hc
    refine lv_aload_n hx hb dX0_pushAside_21 rfl (lv_at hl 0 rfl) ?_
    refine s_getI (k := 2) E hU hB.1 sc2 (okC_lt hsh hcb hn) (okC_k hcb) inlX0 (Nat.le_of_ble_eq_true rfl) rfl rfl wkX0_102 dX0_pushAside_22 ?_
    refine lv_iload_n hx hb dX0_pushAside_25 rfl (lv_at hl 1 rfl) ?_
    refine sc_R hf (rSN_S (As := [.int (v cq 2), .int x1]) (rest := []) E (mX6_isIn l (v cq 2) x1) (cwGN 2 okX6_isIn (hU.2.1 _ (List.mem_of_getElem? (i := 2) rfl)) hts rfl rfl ⟨Nat.le_of_ble_eq_true rfl, Nat.le_of_ble_eq_true rfl⟩) rfl hl.1 (Nat.le_of_ble_eq_true rfl) dX0_pushAside_26 (aC he (Nat.le_refl _) (Nat.le_refl _)) rfl) (fun y3 hf => ?_)
    refine lv_if_eq (tgt := 34) hx hb dX0_pushAside_29 rfl (fun hc => ?_) (fun hc => ?_)
    · have hf := ite_t hf hc
      refine lv_aload_n hx hb dX0_pushAside_34 rfl (lv_at hl 0 rfl) ?_
      refine s_getR (k := 1) (t := 14) E hU hB.1 sc2 (okC_lt hsh hcb hn) (okC_k hcb) inlX0 (Nat.le_of_ble_eq_true rfl) rfl rfl wkX0_15 (hsh.1 _ _ _ (okC_r1 hcb)) dX0_pushAside_35 ?_
      refine lv_aload_n hx hb dX0_pushAside_38 rfl (lv_at hl 0 rfl) ?_
      refine lv_iload_n hx hb dX0_pushAside_39 rfl (lv_at hl 1 rfl) ?_
      refine sc_R hf (rV_R (As := [.int x1]) (rest := [.ref (ad 14)]) E hU hB.1 sc2 (okC_lt hsh hcb hn) (okC_k hcb) (mX0_targetOf l D G ad r _ n x hsh hn cq bq hcb x1) (cwGV 1 okX0_targetOf wmX0_76 hts rfl rfl ⟨Nat.le_of_ble_eq_true rfl, Nat.le_of_ble_eq_true rfl⟩) rfl hl.1 (Nat.le_of_ble_eq_true rfl) dX0_pushAside_40 (aC he (Nat.le_refl _) (Nat.le_refl _)) rfl) (fun y4 hf => ?_)
      refine lv_aload_n hx hb dX0_pushAside_43 rfl (lv_at hl 0 rfl) ?_
      refine s_getR (k := 0) (t := bq) E hU hB.1 sc2 (okC_lt hsh hcb hn) (okC_k hcb) inlX0 (Nat.le_of_ble_eq_true rfl) rfl rfl wkX0_9 (hsh.1 _ _ _ (okC_r0 hcb)) dX0_pushAside_44 ?_
      refine s_getR (k := 0) (t := (bq + 1)) E hU hB.1 sc7 (okS_lt0 hsh (okC_S hcb) hn) (okS_k hsh (okC_S hcb)) inlX5 (Nat.le_of_ble_eq_true rfl) rfl rfl wkX0_42 (okS_r hsh (okC_S hcb) 0 rfl) dX0_pushAside_47 ?_
      refine sc_Ar hB (fun q h => Or.inr h) h0 ⟨Nat.le_refl _, Nat.le_refl _⟩ hf he (fun q9 h9 hc9 => rV_A (As := [.int y4, .ref (ad (bq + 1))]) (rest := []) E hU hB sc4 (slt hsh hn 14 rfl) rfl (mX2_toward l K D G ad r _ n x hsh hn (bq + 1) (okS_kj hsh (okC_S hcb) 1 _ rfl) (okS_lt hsh (okC_S hcb) hn 1 rfl) y4 _ _ h9) (cwGV 2 okX2_toward wmX0_79 hts rfl rfl ⟨Nat.le_of_ble_eq_true rfl, Nat.le_of_ble_eq_true rfl⟩) rfl hl.1 (Nat.le_of_ble_eq_true rfl) dX0_pushAside_50 hc9 rfl) (fun y5 rr5 v5 n5 rez hf he ad5 hg5 h0 H locs hB => ?_)
      have hl : lv_has ls 5 [(0, .ref (ad5 cq)), (1, .int x1), (2, .int x2)] := by rw [(hg5.2 (cq) (okC_lt hsh hcb hn)).2]; exact hl
      have hn : 172 ≤ n5 := Nat.le_trans hn hg5.1
      have hgo := hgo.trans hg5
      obtain ⟨⟨hsh, hy5⟩, hf⟩ := ck_e hf
      refine lv_astore_n (lv' := [(3, .ref (ad5 y5)), (0, .ref (ad5 cq)), (1, .int x1), (2, .int x2)]) hx hb dX0_pushAside_53 rfl hl (Nat.le_of_ble_eq_true rfl) rfl (fun ls hl => ?_)
      refine lv_aload_n hx hb dX0_pushAside_54 rfl (lv_at hl 1 rfl) ?_
      refine lv_aload_n hx hb dX0_pushAside_55 rfl (lv_at hl 1 rfl) ?_
      refine s_getR (k := 0) (t := bq) E hU hB.1 sc2 (okC_lt hsh hcb hn) (okC_k hcb) inlX0 (Nat.le_of_ble_eq_true rfl) rfl rfl wkX0_9 (hsh.1 _ _ _ (okC_r0 hcb)) dX0_pushAside_56 ?_
      refine s_getR (k := 3) (t := (bq + 4)) E hU hB.1 sc7 (okS_lt0 hsh (okC_S hcb) hn) (okS_k hsh (okC_S hcb)) inlX5 (Nat.le_of_ble_eq_true rfl) rfl rfl wkX0_19 (okS_r hsh (okC_S hcb) 3 rfl) dX0_pushAside_59 ?_
      refine lv_iload_n hx hb dX0_pushAside_62 rfl (lv_at hl 2 rfl) ?_
      refine s_iald E hU hB.1 (okS_lt hsh (okC_S hcb) hn 4 rfl) (okS_kj hsh (okC_S hcb) 4 _ rfl) dX0_pushAside_63 hf (fun y6 hf => ?_)
      refine lv_aload_n hx hb dX0_pushAside_64 rfl (lv_at hl 0 rfl) ?_
      refine lv_sipush (v := 9999) hx hb dX0_pushAside_65 rfl ?_
      refine sc_R hf (rV_R (As := [.int y6, .ref (ad5 y5), .int 9999]) (rest := []) E hU hB.1 sc2 (okC_lt hsh hcb hn) (okC_k hcb) (mX0_bestFreeDirection l K D G ad5 rr5 _ n5 x hsh hn cq bq y5 hcb hy5 y6 9999) (cwGV 3 okX0_bestFreeDirection wmX0_144 hts rfl rfl ⟨Nat.le_of_ble_eq_true rfl, Nat.le_of_ble_eq_true rfl⟩) rfl hl.1 (Nat.le_of_ble_eq_true rfl) dX0_pushAside_68 (aC he (Nat.le_refl _) (Nat.le_refl _)) rfl) (fun y7 hf => ?_)
      refine lv_istore (lv' := [(4, .int y7), (3, .ref (ad5 y5)), (0, .ref (ad5 cq)), (1, .int x1), (2, .int x2)]) hx hb dX0_pushAside_71 hl (Nat.le_of_ble_eq_true rfl) rfl (fun ls hl => ?_)
      refine lv_iload hx hb dX0_pushAside_73 (lv_at hl 0 rfl) ?_
      refine lv_iconst (v := (-1)) hx hb dX0_pushAside_75 rfl ?_
      refine lv_icmp_ne (tgt := 81) hx hb dX0_pushAside_76 rfl (fun hc => ?_) (fun hc => ?_)
      · have hf := ite_f hf hc
        refine lv_aload_n hx hb dX0_pushAside_81 rfl (lv_at hl 2 rfl) ?_
        refine lv_iload_n hx hb dX0_pushAside_82 rfl (lv_at hl 3 rfl) ?_
        refine lv_iload hx hb dX0_pushAside_83 (lv_at hl 0 rfl) ?_
        refine sc_V hB (fun q h => Or.inr h) hf (fun q9 h9 => rV_W (As := [.int x1, .int y7]) (rest := []) E hU hB sc2 (okC_lt hsh hcb hn) (okC_k hcb) ((mX0_shift l D G ad5 rr5 _ n5 x hsh hn cq bq hcb x1 y7) _ _ h9) (cwGV 2 okX0_shift wmX0_138 hts rfl rfl ⟨Nat.le_of_ble_eq_true rfl, Nat.le_of_ble_eq_true rfl⟩) rfl hl.1 (Nat.le_of_ble_eq_true rfl) dX0_pushAside_85 (aC he (Nat.le_refl _) (Nat.le_refl _)) rfl) (fun v8 hf H locs hB => ?_)
        refine lv_aload_n hx hb dX0_pushAside_88 rfl (lv_at hl 2 rfl) ?_
        refine lv_dup hx hb dX0_pushAside_89 rfl ?_
        refine s_getI (k := 2) E hU hB.1 sc2 (okC_lt hsh hcb hn) (okC_k hcb) inlX0 (Nat.le_of_ble_eq_true rfl) rfl rfl wkX0_102 dX0_pushAside_90 ?_
        refine lv_iconst (v := 1) hx hb dX0_pushAside_93 rfl ?_
        refine lv_iload_n hx hb dX0_pushAside_94 rfl (lv_at hl 3 rfl) ?_
        refine lv_ishl hx hb dX0_pushAside_95 ?_
        refine lv_ior hx hb dX0_pushAside_96 ?_
        refine s_putI (k := 2) (ty1 := .int) E hU hB sc2 (okC_lt hsh hcb hn) (okC_k hcb) inlX0 (Nat.le_of_ble_eq_true rfl) rfl rfl wkX0_102 rfl rfl rfl rfl dX0_pushAside_97 hf (fun v9 hf H locs hB => ?_)
        refine lv_aload_n hx hb dX0_pushAside_100 rfl (lv_at hl 2 rfl) ?_
        refine s_getR (k := 0) (t := bq) E hU hB.1 sc2 (okC_lt hsh hcb hn) (okC_k hcb) inlX0 (Nat.le_of_ble_eq_true rfl) rfl rfl wkX0_9 (hsh.1 _ _ _ (okC_r0 hcb)) dX0_pushAside_101 ?_
        refine s_getR (k := 11) (t := (bq + 12)) E hU hB.1 sc7 (okS_lt0 hsh (okC_S hcb) hn) (okS_k hsh (okC_S hcb)) inlX5 (Nat.le_of_ble_eq_true rfl) rfl rfl wkX0_99 (okS_r hsh (okC_S hcb) 11 rfl) dX0_pushAside_104 ?_
        refine lv_iconst (v := 2) hx hb dX0_pushAside_107 rfl ?_
        refine lv_dup2_11 hx hb dX0_pushAside_108 rfl rfl ?_
        refine s_iald E hU hB.1 (okS_lt hsh (okC_S hcb) hn 12 rfl) (okS_kj hsh (okC_S hcb) 12 _ rfl) dX0_pushAside_109 hf (fun y10 hf => ?_)
        refine lv_iconst (v := 1) hx hb dX0_pushAside_110 rfl ?_
        refine lv_iadd hx hb dX0_pushAside_111 ?_
        refine s_iast E hU hB (okS_lt hsh (okC_S hcb) hn 12 rfl) (okS_kj hsh (okC_S hcb) 12 _ rfl) dX0_pushAside_112 hf (fun v11 hf H locs hB => ?_)
        refine lv_iconst (v := 1) hx hb dX0_pushAside_113 rfl ?_
        exact s_zretA E hrt hlocks hB hgo rfl hf he dX0_pushAside_114
      · have hf := ite_t hf hc
        refine lv_iconst (v := 0) hx hb dX0_pushAside_79 rfl ?_
        exact s_zretA E hrt hlocks hB hgo rfl hf he dX0_pushAside_80
    · have hf := ite_f hf hc
      refine lv_iconst (v := 0) hx hb dX0_pushAside_32 rfl ?_
      exact s_zretA E hrt hlocks hB hgo rfl hf he dX0_pushAside_33
abbrev rmX0_takeTurn (c s : Nat) : Room := { frames := 4, cells := c, slots := s, locals := 99 }
set_option maxRecDepth 100000 in
set_option maxHeartbeats 4000000 in
theorem mX0_takeTurn (l : Launch) (K : Nat) (D : va_G) (G : Nat → ClassId) (ad : Nat → Nat) (r : sR) (v : sV) (n : Nat) (x : Int64 × UInt64) (hsh : sSh r) (hn : 172 ≤ n) (cq : Nat) (bq : Nat) (hcb : okC cq bq) (x1 : Int32) : sMAv l yX0_takeTurn (.code yX0_takeTurn cX0_takeTurn 8 none :: wsL_law) rmX0_takeTurn D G ad r v n x [.ref (ad cq), .int x1] (fX0_takeTurn K cq bq x1 r v n) := by
  intro sz0 q0 hf
  obtain ⟨fin, he⟩ : ∃ fin, fin = fz n q0 := ⟨_, rfl⟩
  rw [← he]
  refine Met.ofW (cc := cX0_takeTurn) (maxL := 8) (ret := none) (by decide) rfl ?_
  intro p e s m args below meth c s₁ B hml hv
  obtain ⟨hargs, rfl, hU, hP, hD⟩ := hv
  have hx := B.exec
  have hb := B.bytes
  have hrt := B.returns
  have hts : ∀ w ∈ wsL_law, w.before args s = true := fun w hw => atoms_spec (ws := .code yX0_takeTurn cX0_takeTurn 8 none :: wsL_law) B.pre w (List.mem_cons_of_mem _ hw)
  have hlocks := B.notSynchronized
  have E : CallFix p m c cX0_takeTurn 8 s args wsL_law RX0 := ⟨hx, hb, hml, findClass_of_methodNamed B.named, hts⟩
  have hB : sB D G (sA ad r n s.heap.size) s.heap ad r v n x s.heap [] := ⟨hP, sD_self hD, va_S.rf⟩
  have hgo : sGo r n ad r n ad := sGo.rf
  have h0 : n ≤ n := Nat.le_refl n
  have hl := lv_entry ([.ref (ad cq), .int x1]) (n := 8) (Nat.le_of_ble_eq_true rfl)
  refine W.eq (g2 := F0 m 0 ((lg_sl ([.ref (ad cq), .int x1]) ++ List.replicate (8 - (lg_sl ([.ref (ad cq), .int x1])).length) Slot.unset).toArray) []) (by rw [hargs]; exact lg_entry_eq _ _ _) ?_
  generalize (lg_sl ([.ref (ad cq), .int x1]) ++ List.replicate (8 - (lg_sl ([.ref (ad cq), .int x1])).length) Slot.unset).toArray = ls at hl ⊢
  have hl : lv_has ls 8 [(0, .ref (ad cq)), (1, .int x1)] := hl
  refine W_00 (n := n) ?_
  have hf := (fX0_takeTurn.eq_1 ..).symm.trans hf
  refine lv_aload_n hx hb dX0_takeTurn_0 rfl (lv_at hl 0 rfl) ?_
  refine lv_iload_n hx hb dX0_takeTurn_1 rfl (lv_at hl 1 rfl) ?_
  refine sc_R hf (rV_R (As := [.int x1]) (rest := []) E hU hB.1 sc2 (okC_lt hsh hcb hn) (okC_k hcb) (mX0_targetOf l D G ad r _ n x hsh hn cq bq hcb x1) (cwGV 1 okX0_targetOf wmX0_76 hts rfl rfl ⟨Nat.le_of_ble_eq_true rfl, Nat.le_of_ble_eq_true rfl⟩) rfl hl.1 (Nat.le_of_ble_eq_true rfl) dX0_takeTurn_2 (aC he (Nat.le_refl _) (Nat.le_refl _)) rfl) (fun y1 hf => ?_)
  refine lv_istore_n (lv' := [(2, .int y1), (0, .ref (ad cq)), (1, .int x1)]) hx hb dX0_takeTurn_5 rfl hl (Nat.le_of_ble_eq_true rfl) rfl (fun ls hl => ?_)
  refine lv_aload_n hx hb dX0_takeTurn_6 rfl (lv_at hl 1 rfl) ?_
  refine s_getR (k := 0) (t := bq) E hU hB.1 sc2 (okC_lt hsh hcb hn) (okC_k hcb) inlX0 (Nat.le_of_ble_eq_true rfl) rfl rfl wkX0_9 (hsh.1 _ _ _ (okC_r0 hcb)) dX0_takeTurn_7 ?_
  refine s_getR (k := 3) (t := (bq + 4)) E hU hB.1 sc7 (okS_lt0 hsh (okC_S hcb) hn) (okS_k hsh (okC_S hcb)) inlX5 (Nat.le_of_ble_eq_true rfl) rfl rfl wkX0_19 (okS_r hsh (okC_S hcb) 3 rfl) dX0_takeTurn_10 ?_
  refine lv_iload_n hx hb dX0_takeTurn_13 rfl (lv_at hl 2 rfl) ?_
  refine s_iald E hU hB.1 (okS_lt hsh (okC_S hcb) hn 4 rfl) (okS_kj hsh (okC_S hcb) 4 _ rfl) dX0_takeTurn_14 hf (fun y2 hf => ?_)
  refine lv_istore_n (lv' := [(3, .int y2), (2, .int y1), (0, .ref (ad cq)), (1, .int x1)]) hx hb dX0_takeTurn_15 rfl hl (Nat.le_of_ble_eq_true rfl) rfl (fun ls hl => ?_)
  refine lv_iload_n hx hb dX0_takeTurn_16 rfl (lv_at hl 1 rfl) ?_
  refine lv_iconst (v := (-1)) hx hb dX0_takeTurn_17 rfl ?_
  refine lv_icmp_eq (tgt := 26) hx hb dX0_takeTurn_18 rfl (fun hc => ?_) (fun hc => ?_)
  · have hf := ite_t hf hc
    refine lv_aload_n hx hb dX0_takeTurn_26 rfl (lv_at hl 2 rfl) ?_
    refine s_getR (k := 0) (t := bq) E hU hB.1 sc2 (okC_lt hsh hcb hn) (okC_k hcb) inlX0 (Nat.le_of_ble_eq_true rfl) rfl rfl wkX0_9 (hsh.1 _ _ _ (okC_r0 hcb)) dX0_takeTurn_27 ?_
    refine s_getR (k := 7) (t := (bq + 8)) E hU hB.1 sc7 (okS_lt0 hsh (okC_S hcb) hn) (okS_k hsh (okC_S hcb)) inlX5 (Nat.le_of_ble_eq_true rfl) rfl rfl wkX0_93 (okS_r hsh (okC_S hcb) 7 rfl) dX0_takeTurn_30 ?_
    refine lv_iload_n hx hb dX0_takeTurn_33 rfl (lv_at hl 3 rfl) ?_
    refine lv_iconst (v := 0) hx hb dX0_takeTurn_34 rfl ?_
    refine s_iast E hU hB (okS_lt hsh (okC_S hcb) hn 8 rfl) (okS_kj hsh (okC_S hcb) 8 _ rfl) dX0_takeTurn_35 hf (fun v3 hf H locs hB => ?_)
    exact s_vretA E hrt hlocks hB hgo hf he dX0_takeTurn_36
  · have hf := ite_f hf hc
    refine lv_iload_n hx hb dX0_takeTurn_21 rfl (lv_at hl 1 rfl) ?_
    refine lv_iload_n hx hb dX0_takeTurn_22 rfl (lv_at hl 0 rfl) ?_
    refine lv_icmp_ne (tgt := 37) hx hb dX0_takeTurn_23 rfl (fun hc => ?_) (fun hc => ?_)
    · have hf := ite_f hf hc
      refine lv_aload_n hx hb dX0_takeTurn_37 rfl (lv_at hl 2 rfl) ?_
      refine s_getI (k := 2) E hU hB.1 sc2 (okC_lt hsh hcb hn) (okC_k hcb) inlX0 (Nat.le_of_ble_eq_true rfl) rfl rfl wkX0_102 dX0_takeTurn_38 ?_
      refine lv_iload_n hx hb dX0_takeTurn_41 rfl (lv_at hl 3 rfl) ?_
      refine sc_R hf (rSN_S (As := [.int (v cq 2), .int x1]) (rest := []) E (mX6_isIn l (v cq 2) x1) (cwGN 2 okX6_isIn (hU.2.1 _ (List.mem_of_getElem? (i := 2) rfl)) hts rfl rfl ⟨Nat.le_of_ble_eq_true rfl, Nat.le_of_ble_eq_true rfl⟩) rfl hl.1 (Nat.le_of_ble_eq_true rfl) dX0_takeTurn_42 (aC he (Nat.le_refl _) (Nat.le_refl _)) rfl) (fun y4 hf => ?_)
      refine lv_if_eq (tgt := 49) hx hb dX0_takeTurn_45 rfl (fun hc => ?_) (fun hc => ?_)
      · have hf := ite_t hf hc
        refine lv_aload_n hx hb dX0_takeTurn_49 rfl (lv_at hl 2 rfl) ?_
        refine s_getR (k := 1) (t := 14) E hU hB.1 sc2 (okC_lt hsh hcb hn) (okC_k hcb) inlX0 (Nat.le_of_ble_eq_true rfl) rfl rfl wkX0_15 (hsh.1 _ _ _ (okC_r1 hcb)) dX0_takeTurn_50 ?_
        refine lv_iload_n hx hb dX0_takeTurn_53 rfl (lv_at hl 1 rfl) ?_
        refine lv_aload_n hx hb dX0_takeTurn_54 rfl (lv_at hl 2 rfl) ?_
        refine s_getR (k := 0) (t := bq) E hU hB.1 sc2 (okC_lt hsh hcb hn) (okC_k hcb) inlX0 (Nat.le_of_ble_eq_true rfl) rfl rfl wkX0_9 (hsh.1 _ _ _ (okC_r0 hcb)) dX0_takeTurn_55 ?_
        refine s_getR (k := 0) (t := (bq + 1)) E hU hB.1 sc7 (okS_lt0 hsh (okC_S hcb) hn) (okS_k hsh (okC_S hcb)) inlX5 (Nat.le_of_ble_eq_true rfl) rfl rfl wkX0_42 (okS_r hsh (okC_S hcb) 0 rfl) dX0_takeTurn_58 ?_
        refine sc_Ar hB (fun q h => Or.inr h) h0 ⟨Nat.le_refl _, Nat.le_refl _⟩ hf he (fun q9 h9 hc9 => rV_A (As := [.int y1, .ref (ad (bq + 1))]) (rest := []) E hU hB sc4 (slt hsh hn 14 rfl) rfl (mX2_toward l K D G ad r _ n x hsh hn (bq + 1) (okS_kj hsh (okC_S hcb) 1 _ rfl) (okS_lt hsh (okC_S hcb) hn 1 rfl) y1 _ _ h9) (cwGV 2 okX2_toward wmX0_79 hts rfl rfl ⟨Nat.le_of_ble_eq_true rfl, Nat.le_of_ble_eq_true rfl⟩) rfl hl.1 (Nat.le_of_ble_eq_true rfl) dX0_takeTurn_61 hc9 rfl) (fun y5 rr5 v5 n5 rez hf he ad5 hg5 h0 H locs hB => ?_)
        have hl : lv_has ls 8 [(3, .int y2), (2, .int y1), (0, .ref (ad5 cq)), (1, .int x1)] := by rw [(hg5.2 (cq) (okC_lt hsh hcb hn)).2]; exact hl
        have hn : 172 ≤ n5 := Nat.le_trans hn hg5.1
        have hgo := hgo.trans hg5
        obtain ⟨⟨hsh, hy5⟩, hf⟩ := ck_e hf
        refine lv_astore (lv' := [(4, .ref (ad5 y5)), (3, .int y2), (2, .int y1), (0, .ref (ad5 cq)), (1, .int x1)]) hx hb dX0_takeTurn_64 hl (Nat.le_of_ble_eq_true rfl) rfl (fun ls hl => ?_)
        refine lv_aload hx hb dX0_takeTurn_66 (lv_at hl 0 rfl) ?_
        refine lv_iload_n hx hb dX0_takeTurn_68 rfl (lv_at hl 1 rfl) ?_
        refine lv_aload_n hx hb dX0_takeTurn_69 rfl (lv_at hl 3 rfl) ?_
        refine s_getR (k := 0) (t := bq) E hU hB.1 sc2 (okC_lt hsh hcb hn) (okC_k hcb) inlX0 (Nat.le_of_ble_eq_true rfl) rfl rfl wkX0_9 (hsh.1 _ _ _ (okC_r0 hcb)) dX0_takeTurn_70 ?_
        refine s_getR (k := 0) (t := (bq + 1)) E hU hB.1 sc7 (okS_lt0 hsh (okC_S hcb) hn) (okS_k hsh (okC_S hcb)) inlX5 (Nat.le_of_ble_eq_true rfl) rfl rfl wkX0_42 (okS_r hsh (okC_S hcb) 0 rfl) dX0_takeTurn_73 ?_
        refine sc_R hf (rV_R (As := [.int y2, .ref (ad5 (bq + 1))]) (rest := []) E hU hB.1 sc3 (okF_lt hy5) (okF_k hy5) (mX1_flowOf l K D G ad5 rr5 _ n5 x hsh hn y5 (bq + 1) hy5 (okS_kj hsh (okC_S hcb) 1 _ rfl) (okS_lt hsh (okC_S hcb) hn 1 rfl) y2) (cwGV 2 okX1_flowOf wmX0_117 hts rfl rfl ⟨Nat.le_of_ble_eq_true rfl, Nat.le_of_ble_eq_true rfl⟩) rfl hl.1 (Nat.le_of_ble_eq_true rfl) dX0_takeTurn_76 (aC he (Nat.le_refl _) (Nat.le_refl _)) rfl) (fun y6 hf => ?_)
        refine lv_istore (lv' := [(5, .int y6), (4, .ref (ad5 y5)), (3, .int y2), (2, .int y1), (0, .ref (ad5 cq)), (1, .int x1)]) hx hb dX0_takeTurn_79 hl (Nat.le_of_ble_eq_true rfl) rfl (fun ls hl => ?_)
        refine lv_iload hx hb dX0_takeTurn_81 (lv_at hl 0 rfl) ?_
        refine lv_iconst (v := (-1)) hx hb dX0_takeTurn_83 rfl ?_
        refine lv_icmp_ne (tgt := 93) hx hb dX0_takeTurn_84 rfl (fun hc => ?_) (fun hc => ?_)
        · have hf := ite_f hf hc
          refine lv_aload_n hx hb dX0_takeTurn_93 rfl (lv_at hl 4 rfl) ?_
          refine lv_iload_n hx hb dX0_takeTurn_94 rfl (lv_at hl 2 rfl) ?_
          refine lv_iload hx hb dX0_takeTurn_95 (lv_at hl 0 rfl) ?_
          refine sc_R hf (rSN_S (As := [.int y2, .int y6]) (rest := [.ref (ad5 cq)]) E (mX6_neighborOf l y2 y6) (cwGN 2 okX6_neighborOf (hU.2.1 _ (List.mem_of_getElem? (i := 3) rfl)) hts rfl rfl ⟨Nat.le_of_ble_eq_true rfl, Nat.le_of_ble_eq_true rfl⟩) rfl hl.1 (Nat.le_of_ble_eq_true rfl) dX0_takeTurn_97 (aC he (Nat.le_refl _) (Nat.le_refl _)) rfl) (fun y7 hf => ?_)
          refine sc_R hf (rV_R (As := [.int y7]) (rest := []) E hU hB.1 sc2 (okC_lt hsh hcb hn) (okC_k hcb) (mX0_agentOn l K D G ad5 rr5 _ n5 x hsh hn cq bq hcb y7) (cwGV 1 okX0_agentOn wmX0_32 hts rfl rfl ⟨Nat.le_of_ble_eq_true rfl, Nat.le_of_ble_eq_true rfl⟩) rfl hl.1 (Nat.le_of_ble_eq_true rfl) dX0_takeTurn_100 (aC he (Nat.le_refl _) (Nat.le_refl _)) rfl) (fun y8 hf => ?_)
          refine lv_istore (lv' := [(6, .int y8), (5, .int y6), (4, .ref (ad5 y5)), (3, .int y2), (2, .int y1), (0, .ref (ad5 cq)), (1, .int x1)]) hx hb dX0_takeTurn_103 hl (Nat.le_of_ble_eq_true rfl) rfl (fun ls hl => ?_)
          refine lv_iload hx hb dX0_takeTurn_105 (lv_at hl 0 rfl) ?_
          refine lv_iconst (v := (-1)) hx hb dX0_takeTurn_107 rfl ?_
          refine lv_icmp_eq (tgt := 121) hx hb dX0_takeTurn_108 rfl (fun hc => ?_) (fun hc => ?_)
          · have hf := ite_t hf hc
            refine lv_aload_n hx hb dX0_takeTurn_121 rfl (lv_at hl 5 rfl) ?_
            refine lv_iload_n hx hb dX0_takeTurn_122 rfl (lv_at hl 6 rfl) ?_
            refine lv_iload hx hb dX0_takeTurn_123 (lv_at hl 1 rfl) ?_
            refine sc_V hB (fun q h => Or.inr h) hf (fun q9 h9 => rV_W (As := [.int x1, .int y6]) (rest := []) E hU hB sc2 (okC_lt hsh hcb hn) (okC_k hcb) ((mX0_advance l D G ad5 rr5 _ n5 x hsh hn cq bq hcb x1 y6) _ _ h9) (cwGV 2 okX0_advance wmX0_130 hts rfl rfl ⟨Nat.le_of_ble_eq_true rfl, Nat.le_of_ble_eq_true rfl⟩) rfl hl.1 (Nat.le_of_ble_eq_true rfl) dX0_takeTurn_125 (aC he (Nat.le_refl _) (Nat.le_refl _)) rfl) (fun v9 hf H locs hB => ?_)
            exact s_vretA E hrt hlocks hB hgo hf he dX0_takeTurn_128
          · have hf := ite_f hf hc
            refine lv_aload_n hx hb dX0_takeTurn_111 rfl (lv_at hl 5 rfl) ?_
            refine lv_iload hx hb dX0_takeTurn_112 (lv_at hl 0 rfl) ?_
            refine lv_iload_n hx hb dX0_takeTurn_114 rfl (lv_at hl 6 rfl) ?_
            refine sc_Ai hB (fun q h => Or.inr h) h0 ⟨Nat.le_refl _, Nat.le_refl _⟩ hf he (fun q9 h9 hc9 => rV_A (As := [.int y8, .int x1]) (rest := []) E hU hB sc2 (okC_lt hsh hcb hn) (okC_k hcb) (mX0_pushAside l K D G ad5 rr5 _ n5 x hsh hn cq bq hcb y8 x1 _ _ h9) (cwGV 2 okX0_pushAside wmX0_127 hts rfl rfl ⟨Nat.le_of_ble_eq_true rfl, Nat.le_of_ble_eq_true rfl⟩) rfl hl.1 (Nat.le_of_ble_eq_true rfl) dX0_takeTurn_115 hc9 rfl) (fun y10 rr10 v10 n10 rez hf he ad10 hg10 h0 H locs hB => ?_)
            have hl : lv_has ls 8 [(6, .int y8), (5, .int y6), (4, .ref (ad10 y5)), (3, .int y2), (2, .int y1), (0, .ref (ad10 cq)), (1, .int x1)] := by rw [(hg10.2 (y5) (okF_lt hy5)).2, (hg10.2 (cq) (okC_lt hsh hcb hn)).2]; exact hl
            have hn : 172 ≤ n10 := Nat.le_trans hn hg10.1
            have hgo := hgo.trans hg10
            obtain ⟨⟨hsh, hy5⟩, hf⟩ := ck_e hf
            refine lv_if_eq (tgt := 129) hx hb dX0_takeTurn_118 rfl (fun hc => ?_) (fun hc => ?_)
            · have hf := ite_t hf hc
              refine lv_aload_n hx hb dX0_takeTurn_129 rfl (lv_at hl 5 rfl) ?_
              refine lv_iload_n hx hb dX0_takeTurn_130 rfl (lv_at hl 6 rfl) ?_
              refine lv_aload hx hb dX0_takeTurn_131 (lv_at hl 2 rfl) ?_
              refine sc_R hf (rV_R (As := [.int x1, .ref (ad10 y5)]) (rest := []) E hU hB.1 sc2 (okC_lt hsh hcb hn) (okC_k hcb) (mX0_detourOf l K D G ad10 rr10 _ n10 x hsh hn cq bq y5 hcb hy5 x1) (cwGV 2 okX0_detourOf wmX0_134 hts rfl rfl ⟨Nat.le_of_ble_eq_true rfl, Nat.le_of_ble_eq_true rfl⟩) rfl hl.1 (Nat.le_of_ble_eq_true rfl) dX0_takeTurn_133 (aC he (Nat.le_refl _) (Nat.le_refl _)) rfl) (fun y11 hf => ?_)
              refine lv_istore (lv' := [(7, .int y11), (6, .int y8), (5, .int y6), (4, .ref (ad10 y5)), (3, .int y2), (2, .int y1), (0, .ref (ad10 cq)), (1, .int x1)]) hx hb dX0_takeTurn_136 hl (Nat.le_of_ble_eq_true rfl) rfl (fun ls hl => ?_)
              refine lv_iload hx hb dX0_takeTurn_138 (lv_at hl 0 rfl) ?_
              refine lv_iconst (v := (-1)) hx hb dX0_takeTurn_140 rfl ?_
              refine lv_icmp_ne (tgt := 150) hx hb dX0_takeTurn_141 rfl (fun hc => ?_) (fun hc => ?_)
              · have hf := ite_f hf hc
                refine lv_aload_n hx hb dX0_takeTurn_150 rfl (lv_at hl 6 rfl) ?_
                refine lv_iload_n hx hb dX0_takeTurn_151 rfl (lv_at hl 7 rfl) ?_
                refine lv_iload hx hb dX0_takeTurn_152 (lv_at hl 0 rfl) ?_
                refine sc_V hB (fun q h => Or.inr h) hf (fun q9 h9 => rV_W (As := [.int x1, .int y11]) (rest := []) E hU hB sc2 (okC_lt hsh hcb hn) (okC_k hcb) ((mX0_advance l D G ad10 rr10 _ n10 x hsh hn cq bq hcb x1 y11) _ _ h9) (cwGV 2 okX0_advance wmX0_130 hts rfl rfl ⟨Nat.le_of_ble_eq_true rfl, Nat.le_of_ble_eq_true rfl⟩) rfl hl.1 (Nat.le_of_ble_eq_true rfl) dX0_takeTurn_154 (aC he (Nat.le_refl _) (Nat.le_refl _)) rfl) (fun v12 hf H locs hB => ?_)
                refine lv_aload_n hx hb dX0_takeTurn_157 rfl (lv_at hl 6 rfl) ?_
                refine s_getR (k := 0) (t := bq) E hU hB.1 sc2 (okC_lt hsh hcb hn) (okC_k hcb) inlX0 (Nat.le_of_ble_eq_true rfl) rfl rfl wkX0_9 (hsh.1 _ _ _ (okC_r0 hcb)) dX0_takeTurn_158 ?_
                refine s_getR (k := 11) (t := (bq + 12)) E hU hB.1 sc7 (okS_lt0 hsh (okC_S hcb) hn) (okS_k hsh (okC_S hcb)) inlX5 (Nat.le_of_ble_eq_true rfl) rfl rfl wkX0_99 (okS_r hsh (okC_S hcb) 11 rfl) dX0_takeTurn_161 ?_
                refine lv_iconst (v := 3) hx hb dX0_takeTurn_164 rfl ?_
                refine lv_dup2_11 hx hb dX0_takeTurn_165 rfl rfl ?_
                refine s_iald E hU hB.1 (okS_lt hsh (okC_S hcb) hn 12 rfl) (okS_kj hsh (okC_S hcb) 12 _ rfl) dX0_takeTurn_166 hf (fun y13 hf => ?_)
                refine lv_iconst (v := 1) hx hb dX0_takeTurn_167 rfl ?_
                refine lv_iadd hx hb dX0_takeTurn_168 ?_
                refine s_iast E hU hB (okS_lt hsh (okC_S hcb) hn 12 rfl) (okS_kj hsh (okC_S hcb) 12 _ rfl) dX0_takeTurn_169 hf (fun v14 hf H locs hB => ?_)
                exact s_vretA E hrt hlocks hB hgo hf he dX0_takeTurn_170
              · have hf := ite_t hf hc
                refine lv_aload_n hx hb dX0_takeTurn_144 rfl (lv_at hl 6 rfl) ?_
                refine lv_iload_n hx hb dX0_takeTurn_145 rfl (lv_at hl 7 rfl) ?_
                refine sc_V hB (fun q h => Or.inr h) hf (fun q9 h9 => rV_W (As := [.int x1]) (rest := []) E hU hB sc2 (okC_lt hsh hcb hn) (okC_k hcb) ((mX0_delay l D G ad10 rr10 _ n10 x hsh hn cq bq hcb x1) _ _ h9) (cwGV 1 okX0_delay wmX0_121 hts rfl rfl ⟨Nat.le_of_ble_eq_true rfl, Nat.le_of_ble_eq_true rfl⟩) rfl hl.1 (Nat.le_of_ble_eq_true rfl) dX0_takeTurn_146 (aC he (Nat.le_refl _) (Nat.le_refl _)) rfl) (fun v15 hf H locs hB => ?_)
                exact s_vretA E hrt hlocks hB hgo hf he dX0_takeTurn_149
            · have hf := ite_f hf hc
              refine lv_aload_n hx hb dX0_takeTurn_121 rfl (lv_at hl 5 rfl) ?_
              refine lv_iload_n hx hb dX0_takeTurn_122 rfl (lv_at hl 6 rfl) ?_
              refine lv_iload hx hb dX0_takeTurn_123 (lv_at hl 1 rfl) ?_
              refine sc_V hB (fun q h => Or.inr h) hf (fun q9 h9 => rV_W (As := [.int x1, .int y6]) (rest := []) E hU hB sc2 (okC_lt hsh hcb hn) (okC_k hcb) ((mX0_advance l D G ad10 rr10 _ n10 x hsh hn cq bq hcb x1 y6) _ _ h9) (cwGV 2 okX0_advance wmX0_130 hts rfl rfl ⟨Nat.le_of_ble_eq_true rfl, Nat.le_of_ble_eq_true rfl⟩) rfl hl.1 (Nat.le_of_ble_eq_true rfl) dX0_takeTurn_125 (aC he (Nat.le_refl _) (Nat.le_refl _)) rfl) (fun v16 hf H locs hB => ?_)
              exact s_vretA E hrt hlocks hB hgo hf he dX0_takeTurn_128
        · have hf := ite_t hf hc
          refine lv_aload_n hx hb dX0_takeTurn_87 rfl (lv_at hl 4 rfl) ?_
          refine lv_iload_n hx hb dX0_takeTurn_88 rfl (lv_at hl 5 rfl) ?_
          refine sc_V hB (fun q h => Or.inr h) hf (fun q9 h9 => rV_W (As := [.int x1]) (rest := []) E hU hB sc2 (okC_lt hsh hcb hn) (okC_k hcb) ((mX0_delay l D G ad5 rr5 _ n5 x hsh hn cq bq hcb x1) _ _ h9) (cwGV 1 okX0_delay wmX0_121 hts rfl rfl ⟨Nat.le_of_ble_eq_true rfl, Nat.le_of_ble_eq_true rfl⟩) rfl hl.1 (Nat.le_of_ble_eq_true rfl) dX0_takeTurn_89 (aC he (Nat.le_refl _) (Nat.le_refl _)) rfl) (fun v17 hf H locs hB => ?_)
          exact s_vretA E hrt hlocks hB hgo hf he dX0_takeTurn_92
      · have hf := ite_f hf hc
        exact s_vretA E hrt hlocks hB hgo hf he dX0_takeTurn_48
    · have hf := ite_t hf hc
      refine lv_aload_n hx hb dX0_takeTurn_26 rfl (lv_at hl 2 rfl) ?_
      refine s_getR (k := 0) (t := bq) E hU hB.1 sc2 (okC_lt hsh hcb hn) (okC_k hcb) inlX0 (Nat.le_of_ble_eq_true rfl) rfl rfl wkX0_9 (hsh.1 _ _ _ (okC_r0 hcb)) dX0_takeTurn_27 ?_
      refine s_getR (k := 7) (t := (bq + 8)) E hU hB.1 sc7 (okS_lt0 hsh (okC_S hcb) hn) (okS_k hsh (okC_S hcb)) inlX5 (Nat.le_of_ble_eq_true rfl) rfl rfl wkX0_93 (okS_r hsh (okC_S hcb) 7 rfl) dX0_takeTurn_30 ?_
      refine lv_iload_n hx hb dX0_takeTurn_33 rfl (lv_at hl 3 rfl) ?_
      refine lv_iconst (v := 0) hx hb dX0_takeTurn_34 rfl ?_
      refine s_iast E hU hB (okS_lt hsh (okC_S hcb) hn 8 rfl) (okS_kj hsh (okC_S hcb) 8 _ rfl) dX0_takeTurn_35 hf (fun v18 hf H locs hB => ?_)
      exact s_vretA E hrt hlocks hB hgo hf he dX0_takeTurn_36
abbrev rmX0_passTick (c s : Nat) : Room := { frames := 5, cells := c, slots := s, locals := 126 }
set_option maxRecDepth 100000 in
set_option maxHeartbeats 4000000 in
theorem lX0_passTick_27 {K : Nat} {cq : Nat} {bq : Nat} {x1 : Int32} {k21 : Int32 → sR → sV → Nat → Option (Unit × sR × sV × Nat)} {ad0 : Nat → Nat} {r0 : sR} {n0 : Nat} {fin : (Unit × sR × sV × Nat)} (E : CallFix p m c cX0_passTick 3 s args wsL_law RX0) (hlocks : meth.locks = false) (hrt : meth.sig.returnType = none) (hU : sU D G s) (ih21 : ∀ (x1 : Int32) (r : sR) (v : sV) (n : Nat) (ad : Nat → Nat) (H : Heap) (locs : List Loc) (ls : Array Slot) (rez : (Unit × sR × sV × Nat)), sSh r → 172 ≤ n → okC cq bq → sGo r0 n0 ad0 r n ad → k21 x1 r v n = some rez → fin = fz n rez → sB D G (sA ad0 r0 n0 s.heap.size) s.heap ad r v n x H locs → lv_has ls 3 [(0, .ref (ad cq)), (1, .int x1)] → W p l e (rmX0_passTick (fin.2.2.2 - n0) (sz fin.2.2.2 - sz n0)) s m args below meth c H locs (n - n0) (sz n - sz n0) (MQ below (sQAv D G ad0 r0 n0 x s.heap.size fin) args s (fin.2.2.2 - n0) (sz fin.2.2.2 - sz n0) (sA ad0 r0 n0 s.heap.size)) (F0 m 21 ls [])) :
    ∀ (k : Nat) (x2 : Int32) (r : sR) (v : sV) (n : Nat) (ad : Nat → Nat) (H : Heap) (locs : List Loc) (ls : Array Slot) (rez : (Unit × sR × sV × Nat)), sSh r → 172 ≤ n → okC cq bq → sGo r0 n0 ad0 r n ad → fx4 (gX0_passTick_27 K cq bq k21 x1) k x2 r v n = some rez → fin = fz n rez → sB D G (sA ad0 r0 n0 s.heap.size) s.heap ad r v n x H locs → lv_has ls 3 [(0, .ref (ad cq)), (1, .int x1), (2, .int x2)] → W p l e (rmX0_passTick (fin.2.2.2 - n0) (sz fin.2.2.2 - sz n0)) s m args below meth c H locs (n - n0) (sz n - sz n0) (MQ below (sQAv D G ad0 r0 n0 x s.heap.size fin) args s (fin.2.2.2 - n0) (sz fin.2.2.2 - sz n0) (sA ad0 r0 n0 s.heap.size)) (F0 m 27 ls []) := by
  have hx := E.1
  have hb := E.2.1
  have hts := E.2.2.2.2
  intro k
  induction k with
  | zero =>
    intro x2 r v n ad H locs ls rez hsh hn hcb hgo hf he hB hl
    exact fx4_z hf
  | succ k ih =>
    intro x2 r v n ad H locs ls rez hsh hn hcb hgo hf he hB hl
    have h0 := hgo.1
    have hf := (gX0_passTick_27.eq_1 ..).symm.trans hf
    refine lv_iload_n hx hb dX0_passTick_27 rfl (lv_at hl 2 rfl) ?_
    refine lv_bipush (v := 16) hx hb dX0_passTick_28 rfl ?_
    refine lv_icmp_ge (tgt := 65) hx hb dX0_passTick_30 rfl (fun hc => ?_) (fun hc => ?_)
    · have hf := ite_t hf hc
      obtain ⟨z4, ez9, hf⟩ := nm_x hf
      refine lv_iinc (v := z4) (lv' := [(1, .int z4), (0, .ref (ad cq)), (2, .int x2)]) hx hb dX0_passTick_65 hl (k := 1) rfl (by rw [ez9]; rfl) (Nat.le_of_ble_eq_true rfl) rfl (fun ls hl => ?_)
      refine lv_goto (tgt := 21) hx hb dX0_passTick_68 rfl ?_
      exact ih21 _ _ _ _ _ _ _ _ _ hsh hn hcb hgo hf he hB (lv_sub hl [1, 0] rfl)
    · have hf := ite_f hf hc
      refine lv_aload_n hx hb dX0_passTick_33 rfl (lv_at hl 0 rfl) ?_
      refine lv_iload_n hx hb dX0_passTick_34 rfl (lv_at hl 2 rfl) ?_
      refine sc_R hf (rV_R (As := [.int x2]) (rest := []) E hU hB.1 sc2 (okC_lt hsh hcb hn) (okC_k hcb) (mX0_exists l D G ad r _ n x hsh hn cq bq hcb x2) (cwGV 1 okX0_exists wmX0_25 hts rfl rfl ⟨Nat.le_of_ble_eq_true rfl, Nat.le_of_ble_eq_true rfl⟩) rfl hl.1 (Nat.le_of_ble_eq_true rfl) dX0_passTick_35 (aC he (Nat.le_refl _) (Nat.le_refl _)) rfl) (fun y5 hf => ?_)
      refine lv_if_eq (tgt := 59) hx hb dX0_passTick_38 rfl (fun hc => ?_) (fun hc => ?_)
      · have hf := ite_t hf hc
        obtain ⟨z6, ez9, hf⟩ := nm_x hf
        refine lv_iinc (v := z6) (lv' := [(2, .int z6), (0, .ref (ad cq)), (1, .int x1)]) hx hb dX0_passTick_59 hl (k := 2) rfl (by rw [ez9]; rfl) (Nat.le_of_ble_eq_true rfl) rfl (fun ls hl => ?_)
        refine lv_goto (tgt := 27) hx hb dX0_passTick_62 rfl ?_
        exact ih _ _ _ _ _ _ _ _ _ hsh hn hcb hgo hf he hB (lv_sub hl [1, 2, 0] rfl)
      · have hf := ite_f hf hc
        refine lv_aload_n hx hb dX0_passTick_41 rfl (lv_at hl 0 rfl) ?_
        refine s_getR (k := 0) (t := bq) E hU hB.1 sc2 (okC_lt hsh hcb hn) (okC_k hcb) inlX0 (Nat.le_of_ble_eq_true rfl) rfl rfl wkX0_9 (hsh.1 _ _ _ (okC_r0 hcb)) dX0_passTick_42 ?_
        refine s_getR (k := 5) (t := (bq + 6)) E hU hB.1 sc7 (okS_lt0 hsh (okC_S hcb) hn) (okS_k hsh (okC_S hcb)) inlX5 (Nat.le_of_ble_eq_true rfl) rfl rfl wkX0_106 (okS_r hsh (okC_S hcb) 5 rfl) dX0_passTick_45 ?_
        refine lv_iload_n hx hb dX0_passTick_48 rfl (lv_at hl 2 rfl) ?_
        refine s_iald E hU hB.1 (okS_lt hsh (okC_S hcb) hn 6 rfl) (okS_kj hsh (okC_S hcb) 6 _ rfl) dX0_passTick_49 hf (fun y7 hf => ?_)
        refine lv_iload_n hx hb dX0_passTick_50 rfl (lv_at hl 1 rfl) ?_
        refine lv_icmp_ne (tgt := 59) hx hb dX0_passTick_51 rfl (fun hc => ?_) (fun hc => ?_)
        · have hf := ite_f hf hc
          obtain ⟨z8, ez9, hf⟩ := nm_x hf
          refine lv_iinc (v := z8) (lv' := [(2, .int z8), (0, .ref (ad cq)), (1, .int x1)]) hx hb dX0_passTick_59 hl (k := 2) rfl (by rw [ez9]; rfl) (Nat.le_of_ble_eq_true rfl) rfl (fun ls hl => ?_)
          refine lv_goto (tgt := 27) hx hb dX0_passTick_62 rfl ?_
          exact ih _ _ _ _ _ _ _ _ _ hsh hn hcb hgo hf he hB (lv_sub hl [1, 2, 0] rfl)
        · have hf := ite_t hf hc
          refine lv_aload_n hx hb dX0_passTick_54 rfl (lv_at hl 0 rfl) ?_
          refine lv_iload_n hx hb dX0_passTick_55 rfl (lv_at hl 2 rfl) ?_
          refine sc_Av hB (fun q h => Or.inr h) h0 ⟨Nat.le_refl _, Nat.le_refl _⟩ hf he (fun q9 h9 hc9 => rV_A (As := [.int x2]) (rest := []) E hU hB sc2 (okC_lt hsh hcb hn) (okC_k hcb) (mX0_takeTurn l K D G ad r _ n x hsh hn cq bq hcb x2 _ _ h9) (cwGV 1 okX0_takeTurn wmX0_109 hts rfl rfl ⟨Nat.le_of_ble_eq_true rfl, Nat.le_of_ble_eq_true rfl⟩) rfl hl.1 (Nat.le_of_ble_eq_true rfl) dX0_passTick_56 hc9 rfl) (fun rr9 v9 n9 rez hf he ad9 hg9 h0 H locs hB => ?_)
          have hl : lv_has ls 3 [(0, .ref (ad9 cq)), (1, .int x1), (2, .int x2)] := by rw [(hg9.2 (cq) (okC_lt hsh hcb hn)).2]; exact hl
          have hn : 172 ≤ n9 := Nat.le_trans hn hg9.1
          have hgo := hgo.trans hg9
          obtain ⟨hsh, hf⟩ := ck_e hf
          obtain ⟨z10, ez9, hf⟩ := nm_x hf
          refine lv_iinc (v := z10) (lv' := [(2, .int z10), (0, .ref (ad9 cq)), (1, .int x1)]) hx hb dX0_passTick_59 hl (k := 2) rfl (by rw [ez9]; rfl) (Nat.le_of_ble_eq_true rfl) rfl (fun ls hl => ?_)
          refine lv_goto (tgt := 27) hx hb dX0_passTick_62 rfl ?_
          exact ih _ _ _ _ _ _ _ _ _ hsh hn hcb hgo hf he hB (lv_sub hl [1, 2, 0] rfl)
set_option maxRecDepth 100000 in
set_option maxHeartbeats 4000000 in
theorem lX0_passTick_21 {K : Nat} {cq : Nat} {bq : Nat} {ad0 : Nat → Nat} {r0 : sR} {n0 : Nat} {fin : (Unit × sR × sV × Nat)} (E : CallFix p m c cX0_passTick 3 s args wsL_law RX0) (hlocks : meth.locks = false) (hrt : meth.sig.returnType = none) (hU : sU D G s) :
    ∀ (k : Nat) (x1 : Int32) (r : sR) (v : sV) (n : Nat) (ad : Nat → Nat) (H : Heap) (locs : List Loc) (ls : Array Slot) (rez : (Unit × sR × sV × Nat)), sSh r → 172 ≤ n → okC cq bq → sGo r0 n0 ad0 r n ad → fx4 (gX0_passTick_21 K cq bq) k x1 r v n = some rez → fin = fz n rez → sB D G (sA ad0 r0 n0 s.heap.size) s.heap ad r v n x H locs → lv_has ls 3 [(0, .ref (ad cq)), (1, .int x1)] → W p l e (rmX0_passTick (fin.2.2.2 - n0) (sz fin.2.2.2 - sz n0)) s m args below meth c H locs (n - n0) (sz n - sz n0) (MQ below (sQAv D G ad0 r0 n0 x s.heap.size fin) args s (fin.2.2.2 - n0) (sz fin.2.2.2 - sz n0) (sA ad0 r0 n0 s.heap.size)) (F0 m 21 ls []) := by
  have hx := E.1
  have hb := E.2.1
  have hts := E.2.2.2.2
  intro k
  induction k with
  | zero =>
    intro x1 r v n ad H locs ls rez hsh hn hcb hgo hf he hB hl
    exact fx4_z hf
  | succ k ih =>
    intro x1 r v n ad H locs ls rez hsh hn hcb hgo hf he hB hl
    have h0 := hgo.1
    have hf := (gX0_passTick_21.eq_1 ..).symm.trans hf
    refine lv_iload_n hx hb dX0_passTick_21 rfl (lv_at hl 1 rfl) ?_
    refine lv_if_lt (tgt := 71) hx hb dX0_passTick_22 rfl (fun hc => ?_) (fun hc => ?_)
    · have hf := ite_t hf hc
      exact s_vretA E hrt hlocks hB hgo hf he dX0_passTick_71
    · have hf := ite_f hf hc
      refine lv_iconst (v := 0) hx hb dX0_passTick_25 rfl ?_
      refine lv_istore_n (lv' := [(2, .int 0), (0, .ref (ad cq)), (1, .int x1)]) hx hb dX0_passTick_26 rfl hl (Nat.le_of_ble_eq_true rfl) rfl (fun ls hl => ?_)
      exact lX0_passTick_27 E hlocks hrt hU ih _ _ _ _ _ _ _ _ _ _ hsh hn hcb hgo hf he hB (lv_sub hl [1, 2, 0] rfl)
set_option maxRecDepth 100000 in
set_option maxHeartbeats 4000000 in
theorem mX0_passTick (l : Launch) (K : Nat) (D : va_G) (G : Nat → ClassId) (ad : Nat → Nat) (r : sR) (v : sV) (n : Nat) (x : Int64 × UInt64) (hsh : sSh r) (hn : 172 ≤ n) (cq : Nat) (bq : Nat) (hcb : okC cq bq) : sMAv l yX0_passTick (.code yX0_passTick cX0_passTick 3 none :: wsL_law) rmX0_passTick D G ad r v n x [.ref (ad cq)] (fX0_passTick K cq bq r v n) := by
  intro sz0 q0 hf
  obtain ⟨fin, he⟩ : ∃ fin, fin = fz n q0 := ⟨_, rfl⟩
  rw [← he]
  refine Met.ofW (cc := cX0_passTick) (maxL := 3) (ret := none) (by decide) rfl ?_
  intro p e s m args below meth c s₁ B hml hv
  obtain ⟨hargs, rfl, hU, hP, hD⟩ := hv
  have hx := B.exec
  have hb := B.bytes
  have hrt := B.returns
  have hts : ∀ w ∈ wsL_law, w.before args s = true := fun w hw => atoms_spec (ws := .code yX0_passTick cX0_passTick 3 none :: wsL_law) B.pre w (List.mem_cons_of_mem _ hw)
  have hlocks := B.notSynchronized
  have E : CallFix p m c cX0_passTick 3 s args wsL_law RX0 := ⟨hx, hb, hml, findClass_of_methodNamed B.named, hts⟩
  have hB : sB D G (sA ad r n s.heap.size) s.heap ad r v n x s.heap [] := ⟨hP, sD_self hD, va_S.rf⟩
  have hgo : sGo r n ad r n ad := sGo.rf
  have h0 : n ≤ n := Nat.le_refl n
  have hl := lv_entry ([.ref (ad cq)]) (n := 3) (Nat.le_of_ble_eq_true rfl)
  refine W.eq (g2 := F0 m 0 ((lg_sl ([.ref (ad cq)]) ++ List.replicate (3 - (lg_sl ([.ref (ad cq)])).length) Slot.unset).toArray) []) (by rw [hargs]; exact lg_entry_eq _ _ _) ?_
  generalize (lg_sl ([.ref (ad cq)]) ++ List.replicate (3 - (lg_sl ([.ref (ad cq)])).length) Slot.unset).toArray = ls at hl ⊢
  have hl : lv_has ls 3 [(0, .ref (ad cq))] := hl
  refine W_00 (n := n) ?_
  have hf := (fX0_passTick.eq_1 ..).symm.trans hf
  refine lv_aload_n hx hb dX0_passTick_0 rfl (lv_at hl 0 rfl) ?_
  refine s_getR (k := 0) (t := bq) E hU hB.1 sc2 (okC_lt hsh hcb hn) (okC_k hcb) inlX0 (Nat.le_of_ble_eq_true rfl) rfl rfl wkX0_9 (hsh.1 _ _ _ (okC_r0 hcb)) dX0_passTick_1 ?_
  refine s_getR (k := 11) (t := (bq + 12)) E hU hB.1 sc7 (okS_lt0 hsh (okC_S hcb) hn) (okS_k hsh (okC_S hcb)) inlX5 (Nat.le_of_ble_eq_true rfl) rfl rfl wkX0_99 (okS_r hsh (okC_S hcb) 11 rfl) dX0_passTick_4 ?_
  refine lv_iconst (v := 0) hx hb dX0_passTick_7 rfl ?_
  refine lv_dup2_11 hx hb dX0_passTick_8 rfl rfl ?_
  refine s_iald E hU hB.1 (okS_lt hsh (okC_S hcb) hn 12 rfl) (okS_kj hsh (okC_S hcb) 12 _ rfl) dX0_passTick_9 hf (fun y1 hf => ?_)
  refine lv_iconst (v := 1) hx hb dX0_passTick_10 rfl ?_
  refine lv_iadd hx hb dX0_passTick_11 ?_
  refine s_iast E hU hB (okS_lt hsh (okC_S hcb) hn 12 rfl) (okS_kj hsh (okC_S hcb) 12 _ rfl) dX0_passTick_12 hf (fun v2 hf H locs hB => ?_)
  refine lv_aload_n hx hb dX0_passTick_13 rfl (lv_at hl 0 rfl) ?_
  refine lv_iconst (v := 0) hx hb dX0_passTick_14 rfl ?_
  refine s_putI (k := 2) (ty1 := .int) E hU hB sc2 (okC_lt hsh hcb hn) (okC_k hcb) inlX0 (Nat.le_of_ble_eq_true rfl) rfl rfl wkX0_102 rfl rfl rfl rfl dX0_passTick_15 hf (fun v3 hf H locs hB => ?_)
  refine lv_bipush (v := 9) hx hb dX0_passTick_18 rfl ?_
  refine lv_istore_n (lv' := [(1, .int 9), (0, .ref (ad cq))]) hx hb dX0_passTick_20 rfl hl (Nat.le_of_ble_eq_true rfl) rfl (fun ls hl => ?_)
  exact lX0_passTick_21 E hlocks hrt hU _ _ _ _ _ _ _ _ _ _ hsh hn hcb hgo hf he hB (lv_sub hl [1, 0] rfl)
abbrev rmX5_initR (c s : Nat) : Room := { frames := 1, cells := c, slots := s, locals := 24 }
set_option maxRecDepth 100000 in
set_option maxHeartbeats 4000000 in
theorem mX5_initR (l : Launch) (K : Nat) (D : va_G) (G : Nat → ClassId) (ad : Nat → Nat) (r : sR) (v : sV) (n : Nat) (x : Int64 × UInt64) (tq : Nat) (hkt : sks tq = (7, 13)) (hdt : lv r n tq) : sMAv l yX5_init (.code yX5_init cX5_init 1 none :: wsL_law) rmX5_initR D G ad r v n x [.ref (ad tq)] (fX5_initR K tq r v n) := by
  intro sz0 q0 hf
  obtain ⟨fin, he⟩ : ∃ fin, fin = fz n q0 := ⟨_, rfl⟩
  rw [← he]
  refine Met.ofW (cc := cX5_init) (maxL := 1) (ret := none) (by decide) rfl ?_
  intro p e s m args below meth c s₁ B hml hv
  obtain ⟨hargs, rfl, hU, hP, hD⟩ := hv
  have hx := B.exec
  have hb := B.bytes
  have hrt := B.returns
  have hts : ∀ w ∈ wsL_law, w.before args s = true := fun w hw => atoms_spec (ws := .code yX5_init cX5_init 1 none :: wsL_law) B.pre w (List.mem_cons_of_mem _ hw)
  have hlocks := B.notSynchronized
  have hin9 : meth.name = "<init>" := (name_of_methodNamed B.named B.method).1
  have E : CallFix p m c cX5_init 1 s args wsL_law RX5 := ⟨hx, hb, hml, findClass_of_methodNamed B.named, hts⟩
  have hB : sB D G (sA ad r n s.heap.size) s.heap ad r v n x s.heap [] := ⟨hP, sD_self hD, va_S.rf⟩
  have hgo : sGo r n ad r n ad := sGo.rf
  have h0 : n ≤ n := Nat.le_refl n
  have hl := lv_entry ([.ref (ad tq)]) (n := 1) (Nat.le_of_ble_eq_true rfl)
  refine W.eq (g2 := F0 m 0 ((lg_sl ([.ref (ad tq)]) ++ List.replicate (1 - (lg_sl ([.ref (ad tq)])).length) Slot.unset).toArray) []) (by rw [hargs]; exact lg_entry_eq _ _ _) ?_
  generalize (lg_sl ([.ref (ad tq)]) ++ List.replicate (1 - (lg_sl ([.ref (ad tq)])).length) Slot.unset).toArray = ls at hl ⊢
  have hl : lv_has ls 1 [(0, .ref (ad tq))] := hl
  refine W_00 (n := n) ?_
  have hf := (fX5_initR.eq_1 ..).symm.trans hf
  refine lv_aload_n hx hb dX5_init_0 rfl (lv_at hl 0 rfl) ?_
  refine s_obj E hl.1 wmX5_3 wobi wobc dX5_init_1 (Nat.le_of_ble_eq_true rfl) (Nat.le_of_ble_eq_true rfl) ?_
  refine lv_aload_n hx hb dX5_init_4 rfl (lv_at hl 0 rfl) ?_
  refine lv_sipush (v := 140) hx hb dX5_init_5 rfl ?_
  refine s_newAP (pl := (tq + 1)) 0 .int .int E hU hB (fun q h => Or.inr h) h0 ⟨Nat.le_refl _, Nat.le_refl _⟩ (fun _ => rfl) rfl (fun _ _ h => h) warr_int (fun _ => rfl) (by decide) (by decide) rfl (by decide) (by decide) dX5_init_8 hf he (fun rr1 v1 n1 rez hd1 hf he ad1 hg1 h0 hkn1 H hB => ?_)
  rw [← (hg1.2 (tq) hdt).2]
  have hl : lv_has ls 1 [(0, .ref (ad1 tq))] := by rw [(hg1.2 (tq) hdt).2]; exact hl
  have hgo := hgo.trans hg1
  have hdt := (hg1.2 _ hdt).1
  refine s_putR (k := 0) (t := (tq + 1)) (ty1 := .array .int) E hU hB sc7 hdt hkt inlX5 (Nat.le_of_ble_eq_true rfl) rfl rfl wkX5_9 rfl hin9 rfl rfl rfl rfl dX5_init_10 hf (fun rr2 hf hg9 H locs hB => ?_)
  have hgo := hgo.trans hg9
  have hdt := (hg9.2 _ hdt).1
  refine lv_aload_n hx hb dX5_init_13 rfl (lv_at hl 0 rfl) ?_
  refine lv_sipush (v := 140) hx hb dX5_init_14 rfl ?_
  refine s_newAP (pl := (tq + 2)) 0 .int .int E hU hB (fun q h => Or.inr h) h0 ⟨Nat.le_refl _, Nat.le_refl _⟩ (fun _ => rfl) rfl (fun _ _ h => h) warr_int (fun _ => rfl) (by decide) (by decide) rfl (by decide) (by decide) dX5_init_17 hf he (fun rr3 v3 n3 rez hd3 hf he ad3 hg3 h0 hkn3 H hB => ?_)
  rw [← (hg3.2 (tq) hdt).2]
  have hl : lv_has ls 1 [(0, .ref (ad3 tq))] := by rw [(hg3.2 (tq) hdt).2]; exact hl
  have hgo := hgo.trans hg3
  have hdt := (hg3.2 _ hdt).1
  refine s_putR (k := 1) (t := (tq + 2)) (ty1 := .array .int) E hU hB sc7 hdt hkt inlX5 (Nat.le_of_ble_eq_true rfl) rfl rfl wkX5_15 rfl hin9 rfl rfl rfl rfl dX5_init_19 hf (fun rr4 hf hg9 H locs hB => ?_)
  have hgo := hgo.trans hg9
  have hdt := (hg9.2 _ hdt).1
  refine lv_aload_n hx hb dX5_init_22 rfl (lv_at hl 0 rfl) ?_
  refine lv_iconst (v := 4) hx hb dX5_init_23 rfl ?_
  refine s_newAP (pl := (tq + 3)) 0 .int .int E hU hB (fun q h => Or.inr h) h0 ⟨Nat.le_refl _, Nat.le_refl _⟩ (fun _ => rfl) rfl (fun _ _ h => h) warr_int (fun _ => rfl) (by decide) (by decide) rfl (by decide) (by decide) dX5_init_24 hf he (fun rr5 v5 n5 rez hd5 hf he ad5 hg5 h0 hkn5 H hB => ?_)
  rw [← (hg5.2 (tq) hdt).2]
  have hl : lv_has ls 1 [(0, .ref (ad5 tq))] := by rw [(hg5.2 (tq) hdt).2]; exact hl
  have hgo := hgo.trans hg5
  have hdt := (hg5.2 _ hdt).1
  refine s_putR (k := 2) (t := (tq + 3)) (ty1 := .array .int) E hU hB sc7 hdt hkt inlX5 (Nat.le_of_ble_eq_true rfl) rfl rfl wkX5_18 rfl hin9 rfl rfl rfl rfl dX5_init_26 hf (fun rr6 hf hg9 H locs hB => ?_)
  have hgo := hgo.trans hg9
  have hdt := (hg9.2 _ hdt).1
  refine lv_aload_n hx hb dX5_init_29 rfl (lv_at hl 0 rfl) ?_
  refine lv_bipush (v := 16) hx hb dX5_init_30 rfl ?_
  refine s_newAP (pl := (tq + 4)) 0 .int .int E hU hB (fun q h => Or.inr h) h0 ⟨Nat.le_refl _, Nat.le_refl _⟩ (fun _ => rfl) rfl (fun _ _ h => h) warr_int (fun _ => rfl) (by decide) (by decide) rfl (by decide) (by decide) dX5_init_32 hf he (fun rr7 v7 n7 rez hd7 hf he ad7 hg7 h0 hkn7 H hB => ?_)
  rw [← (hg7.2 (tq) hdt).2]
  have hl : lv_has ls 1 [(0, .ref (ad7 tq))] := by rw [(hg7.2 (tq) hdt).2]; exact hl
  have hgo := hgo.trans hg7
  have hdt := (hg7.2 _ hdt).1
  refine s_putR (k := 3) (t := (tq + 4)) (ty1 := .array .int) E hU hB sc7 hdt hkt inlX5 (Nat.le_of_ble_eq_true rfl) rfl rfl wkX5_21 rfl hin9 rfl rfl rfl rfl dX5_init_34 hf (fun rr8 hf hg9 H locs hB => ?_)
  have hgo := hgo.trans hg9
  have hdt := (hg9.2 _ hdt).1
  refine lv_aload_n hx hb dX5_init_37 rfl (lv_at hl 0 rfl) ?_
  refine lv_bipush (v := 16) hx hb dX5_init_38 rfl ?_
  refine s_newAP (pl := (tq + 5)) 0 .int .int E hU hB (fun q h => Or.inr h) h0 ⟨Nat.le_refl _, Nat.le_refl _⟩ (fun _ => rfl) rfl (fun _ _ h => h) warr_int (fun _ => rfl) (by decide) (by decide) rfl (by decide) (by decide) dX5_init_40 hf he (fun rr9 v9 n9 rez hd9 hf he ad9 hg9 h0 hkn9 H hB => ?_)
  rw [← (hg9.2 (tq) hdt).2]
  have hl : lv_has ls 1 [(0, .ref (ad9 tq))] := by rw [(hg9.2 (tq) hdt).2]; exact hl
  have hgo := hgo.trans hg9
  have hdt := (hg9.2 _ hdt).1
  refine s_putR (k := 4) (t := (tq + 5)) (ty1 := .array .int) E hU hB sc7 hdt hkt inlX5 (Nat.le_of_ble_eq_true rfl) rfl rfl wkX5_24 rfl hin9 rfl rfl rfl rfl dX5_init_42 hf (fun rr10 hf hg9 H locs hB => ?_)
  have hgo := hgo.trans hg9
  have hdt := (hg9.2 _ hdt).1
  refine lv_aload_n hx hb dX5_init_45 rfl (lv_at hl 0 rfl) ?_
  refine lv_bipush (v := 16) hx hb dX5_init_46 rfl ?_
  refine s_newAP (pl := (tq + 6)) 0 .int .int E hU hB (fun q h => Or.inr h) h0 ⟨Nat.le_refl _, Nat.le_refl _⟩ (fun _ => rfl) rfl (fun _ _ h => h) warr_int (fun _ => rfl) (by decide) (by decide) rfl (by decide) (by decide) dX5_init_48 hf he (fun rr11 v11 n11 rez hd11 hf he ad11 hg11 h0 hkn11 H hB => ?_)
  rw [← (hg11.2 (tq) hdt).2]
  have hl : lv_has ls 1 [(0, .ref (ad11 tq))] := by rw [(hg11.2 (tq) hdt).2]; exact hl
  have hgo := hgo.trans hg11
  have hdt := (hg11.2 _ hdt).1
  refine s_putR (k := 5) (t := (tq + 6)) (ty1 := .array .int) E hU hB sc7 hdt hkt inlX5 (Nat.le_of_ble_eq_true rfl) rfl rfl wkX5_27 rfl hin9 rfl rfl rfl rfl dX5_init_50 hf (fun rr12 hf hg9 H locs hB => ?_)
  have hgo := hgo.trans hg9
  have hdt := (hg9.2 _ hdt).1
  refine lv_aload_n hx hb dX5_init_53 rfl (lv_at hl 0 rfl) ?_
  refine lv_bipush (v := 16) hx hb dX5_init_54 rfl ?_
  refine s_newAP (pl := (tq + 7)) 0 .int .int E hU hB (fun q h => Or.inr h) h0 ⟨Nat.le_refl _, Nat.le_refl _⟩ (fun _ => rfl) rfl (fun _ _ h => h) warr_int (fun _ => rfl) (by decide) (by decide) rfl (by decide) (by decide) dX5_init_56 hf he (fun rr13 v13 n13 rez hd13 hf he ad13 hg13 h0 hkn13 H hB => ?_)
  rw [← (hg13.2 (tq) hdt).2]
  have hl : lv_has ls 1 [(0, .ref (ad13 tq))] := by rw [(hg13.2 (tq) hdt).2]; exact hl
  have hgo := hgo.trans hg13
  have hdt := (hg13.2 _ hdt).1
  refine s_putR (k := 6) (t := (tq + 7)) (ty1 := .array .int) E hU hB sc7 hdt hkt inlX5 (Nat.le_of_ble_eq_true rfl) rfl rfl wkX5_30 rfl hin9 rfl rfl rfl rfl dX5_init_58 hf (fun rr14 hf hg9 H locs hB => ?_)
  have hgo := hgo.trans hg9
  have hdt := (hg9.2 _ hdt).1
  refine lv_aload_n hx hb dX5_init_61 rfl (lv_at hl 0 rfl) ?_
  refine lv_bipush (v := 16) hx hb dX5_init_62 rfl ?_
  refine s_newAP (pl := (tq + 8)) 0 .int .int E hU hB (fun q h => Or.inr h) h0 ⟨Nat.le_refl _, Nat.le_refl _⟩ (fun _ => rfl) rfl (fun _ _ h => h) warr_int (fun _ => rfl) (by decide) (by decide) rfl (by decide) (by decide) dX5_init_64 hf he (fun rr15 v15 n15 rez hd15 hf he ad15 hg15 h0 hkn15 H hB => ?_)
  rw [← (hg15.2 (tq) hdt).2]
  have hl : lv_has ls 1 [(0, .ref (ad15 tq))] := by rw [(hg15.2 (tq) hdt).2]; exact hl
  have hgo := hgo.trans hg15
  have hdt := (hg15.2 _ hdt).1
  refine s_putR (k := 7) (t := (tq + 8)) (ty1 := .array .int) E hU hB sc7 hdt hkt inlX5 (Nat.le_of_ble_eq_true rfl) rfl rfl wkX5_33 rfl hin9 rfl rfl rfl rfl dX5_init_66 hf (fun rr16 hf hg9 H locs hB => ?_)
  have hgo := hgo.trans hg9
  have hdt := (hg9.2 _ hdt).1
  refine lv_aload_n hx hb dX5_init_69 rfl (lv_at hl 0 rfl) ?_
  refine lv_bipush (v := 16) hx hb dX5_init_70 rfl ?_
  refine s_newAP (pl := (tq + 9)) 0 .int .int E hU hB (fun q h => Or.inr h) h0 ⟨Nat.le_refl _, Nat.le_refl _⟩ (fun _ => rfl) rfl (fun _ _ h => h) warr_int (fun _ => rfl) (by decide) (by decide) rfl (by decide) (by decide) dX5_init_72 hf he (fun rr17 v17 n17 rez hd17 hf he ad17 hg17 h0 hkn17 H hB => ?_)
  rw [← (hg17.2 (tq) hdt).2]
  have hl : lv_has ls 1 [(0, .ref (ad17 tq))] := by rw [(hg17.2 (tq) hdt).2]; exact hl
  have hgo := hgo.trans hg17
  have hdt := (hg17.2 _ hdt).1
  refine s_putR (k := 8) (t := (tq + 9)) (ty1 := .array .int) E hU hB sc7 hdt hkt inlX5 (Nat.le_of_ble_eq_true rfl) rfl rfl wkX5_36 rfl hin9 rfl rfl rfl rfl dX5_init_74 hf (fun rr18 hf hg9 H locs hB => ?_)
  have hgo := hgo.trans hg9
  have hdt := (hg9.2 _ hdt).1
  refine lv_aload_n hx hb dX5_init_77 rfl (lv_at hl 0 rfl) ?_
  refine lv_bipush (v := 16) hx hb dX5_init_78 rfl ?_
  refine s_newAP (pl := (tq + 10)) 0 .int .int E hU hB (fun q h => Or.inr h) h0 ⟨Nat.le_refl _, Nat.le_refl _⟩ (fun _ => rfl) rfl (fun _ _ h => h) warr_int (fun _ => rfl) (by decide) (by decide) rfl (by decide) (by decide) dX5_init_80 hf he (fun rr19 v19 n19 rez hd19 hf he ad19 hg19 h0 hkn19 H hB => ?_)
  rw [← (hg19.2 (tq) hdt).2]
  have hl : lv_has ls 1 [(0, .ref (ad19 tq))] := by rw [(hg19.2 (tq) hdt).2]; exact hl
  have hgo := hgo.trans hg19
  have hdt := (hg19.2 _ hdt).1
  refine s_putR (k := 9) (t := (tq + 10)) (ty1 := .array .int) E hU hB sc7 hdt hkt inlX5 (Nat.le_of_ble_eq_true rfl) rfl rfl wkX5_39 rfl hin9 rfl rfl rfl rfl dX5_init_82 hf (fun rr20 hf hg9 H locs hB => ?_)
  have hgo := hgo.trans hg9
  have hdt := (hg9.2 _ hdt).1
  refine lv_aload_n hx hb dX5_init_85 rfl (lv_at hl 0 rfl) ?_
  refine lv_bipush (v := 16) hx hb dX5_init_86 rfl ?_
  refine s_newAP (pl := (tq + 11)) 0 .int .int E hU hB (fun q h => Or.inr h) h0 ⟨Nat.le_refl _, Nat.le_refl _⟩ (fun _ => rfl) rfl (fun _ _ h => h) warr_int (fun _ => rfl) (by decide) (by decide) rfl (by decide) (by decide) dX5_init_88 hf he (fun rr21 v21 n21 rez hd21 hf he ad21 hg21 h0 hkn21 H hB => ?_)
  rw [← (hg21.2 (tq) hdt).2]
  have hl : lv_has ls 1 [(0, .ref (ad21 tq))] := by rw [(hg21.2 (tq) hdt).2]; exact hl
  have hgo := hgo.trans hg21
  have hdt := (hg21.2 _ hdt).1
  refine s_putR (k := 10) (t := (tq + 11)) (ty1 := .array .int) E hU hB sc7 hdt hkt inlX5 (Nat.le_of_ble_eq_true rfl) rfl rfl wkX5_42 rfl hin9 rfl rfl rfl rfl dX5_init_90 hf (fun rr22 hf hg9 H locs hB => ?_)
  have hgo := hgo.trans hg9
  have hdt := (hg9.2 _ hdt).1
  refine lv_aload_n hx hb dX5_init_93 rfl (lv_at hl 0 rfl) ?_
  refine lv_iconst (v := 5) hx hb dX5_init_94 rfl ?_
  refine s_newAP (pl := (tq + 12)) 0 .int .int E hU hB (fun q h => Or.inr h) h0 ⟨Nat.le_refl _, Nat.le_refl _⟩ (fun _ => rfl) rfl (fun _ _ h => h) warr_int (fun _ => rfl) (by decide) (by decide) rfl (by decide) (by decide) dX5_init_95 hf he (fun rr23 v23 n23 rez hd23 hf he ad23 hg23 h0 hkn23 H hB => ?_)
  rw [← (hg23.2 (tq) hdt).2]
  have hl : lv_has ls 1 [(0, .ref (ad23 tq))] := by rw [(hg23.2 (tq) hdt).2]; exact hl
  have hgo := hgo.trans hg23
  have hdt := (hg23.2 _ hdt).1
  refine s_putR (k := 11) (t := (tq + 12)) (ty1 := .array .int) E hU hB sc7 hdt hkt inlX5 (Nat.le_of_ble_eq_true rfl) rfl rfl wkX5_45 rfl hin9 rfl rfl rfl rfl dX5_init_97 hf (fun rr24 hf hg9 H locs hB => ?_)
  have hgo := hgo.trans hg9
  have hdt := (hg9.2 _ hdt).1
  refine lv_aload_n hx hb dX5_init_100 rfl (lv_at hl 0 rfl) ?_
  refine lv_iconst (v := 3) hx hb dX5_init_101 rfl ?_
  refine s_putI (k := 12) (ty1 := .int) E hU hB sc7 hdt hkt inlX5 (Nat.le_of_ble_eq_true rfl) rfl rfl wkX5_48 rfl rfl rfl rfl dX5_init_102 hf (fun v25 hf H locs hB => ?_)
  refine lv_aload_n hx hb dX5_init_105 rfl (lv_at hl 0 rfl) ?_
  obtain ⟨⟨hr9, hdq26⟩, hf⟩ := ck_e hf
  refine s_getR (k := 0) (t := (tq + 1)) E hU hB.1 sc7 hdt hkt inlX5 (Nat.le_of_ble_eq_true rfl) rfl rfl wkX5_9 hr9 dX5_init_106 ?_
  refine lv_iconst (v := 1) hx hb dX5_init_109 rfl ?_
  refine sc_V hB (fun q h => Or.inr h) hf (fun q9 h9 => rS_W (As := [.ref (ad23 (tq + 1)), .int 1]) (rest := []) E hU hB ((mJ7_fill_53178 l K D G ad23 rr24 _ n23 x (tq + 1) 140 hkn1 hdq26 1) _ _ h9) (cwGS 2 okJ7_fill_53178 wmX5_52 hts rfl rfl ⟨Nat.le_of_ble_eq_true rfl, Nat.le_of_ble_eq_true rfl⟩) rfl hl.1 (Nat.le_of_ble_eq_true rfl) dX5_init_110 (aC he (Nat.le_refl _) (Nat.le_refl _)) rfl) (fun v27 hf H locs hB => ?_)
  refine lv_aload_n hx hb dX5_init_113 rfl (lv_at hl 0 rfl) ?_
  obtain ⟨⟨hr9, hdq28⟩, hf⟩ := ck_e hf
  refine s_getR (k := 2) (t := (tq + 3)) E hU hB.1 sc7 hdt hkt inlX5 (Nat.le_of_ble_eq_true rfl) rfl rfl wkX5_18 hr9 dX5_init_114 ?_
  refine lv_iconst (v := (-1)) hx hb dX5_init_117 rfl ?_
  refine sc_V hB (fun q h => Or.inr h) hf (fun q9 h9 => rS_W (As := [.ref (ad23 (tq + 3)), .int (-1)]) (rest := []) E hU hB ((mJ7_fill_53178 l K D G ad23 rr24 _ n23 x (tq + 3) 4 hkn5 hdq28 (-1)) _ _ h9) (cwGS 2 okJ7_fill_53178 wmX5_52 hts rfl rfl ⟨Nat.le_of_ble_eq_true rfl, Nat.le_of_ble_eq_true rfl⟩) rfl hl.1 (Nat.le_of_ble_eq_true rfl) dX5_init_118 (aC he (Nat.le_refl _) (Nat.le_refl _)) rfl) (fun v29 hf H locs hB => ?_)
  refine lv_aload_n hx hb dX5_init_121 rfl (lv_at hl 0 rfl) ?_
  obtain ⟨⟨hr9, hdq30⟩, hf⟩ := ck_e hf
  refine s_getR (k := 3) (t := (tq + 4)) E hU hB.1 sc7 hdt hkt inlX5 (Nat.le_of_ble_eq_true rfl) rfl rfl wkX5_21 hr9 dX5_init_122 ?_
  refine lv_iconst (v := (-1)) hx hb dX5_init_125 rfl ?_
  refine sc_V hB (fun q h => Or.inr h) hf (fun q9 h9 => rS_W (As := [.ref (ad23 (tq + 4)), .int (-1)]) (rest := []) E hU hB ((mJ7_fill_53178 l K D G ad23 rr24 _ n23 x (tq + 4) 16 hkn7 hdq30 (-1)) _ _ h9) (cwGS 2 okJ7_fill_53178 wmX5_52 hts rfl rfl ⟨Nat.le_of_ble_eq_true rfl, Nat.le_of_ble_eq_true rfl⟩) rfl hl.1 (Nat.le_of_ble_eq_true rfl) dX5_init_126 (aC he (Nat.le_refl _) (Nat.le_refl _)) rfl) (fun v31 hf H locs hB => ?_)
  refine lv_aload_n hx hb dX5_init_129 rfl (lv_at hl 0 rfl) ?_
  obtain ⟨⟨hr9, hdq32⟩, hf⟩ := ck_e hf
  refine s_getR (k := 4) (t := (tq + 5)) E hU hB.1 sc7 hdt hkt inlX5 (Nat.le_of_ble_eq_true rfl) rfl rfl wkX5_24 hr9 dX5_init_130 ?_
  refine lv_iconst (v := (-1)) hx hb dX5_init_133 rfl ?_
  refine sc_V hB (fun q h => Or.inr h) hf (fun q9 h9 => rS_W (As := [.ref (ad23 (tq + 5)), .int (-1)]) (rest := []) E hU hB ((mJ7_fill_53178 l K D G ad23 rr24 _ n23 x (tq + 5) 16 hkn9 hdq32 (-1)) _ _ h9) (cwGS 2 okJ7_fill_53178 wmX5_52 hts rfl rfl ⟨Nat.le_of_ble_eq_true rfl, Nat.le_of_ble_eq_true rfl⟩) rfl hl.1 (Nat.le_of_ble_eq_true rfl) dX5_init_134 (aC he (Nat.le_refl _) (Nat.le_refl _)) rfl) (fun v33 hf H locs hB => ?_)
  refine lv_aload_n hx hb dX5_init_137 rfl (lv_at hl 0 rfl) ?_
  obtain ⟨⟨hr9, hdq34⟩, hf⟩ := ck_e hf
  refine s_getR (k := 8) (t := (tq + 9)) E hU hB.1 sc7 hdt hkt inlX5 (Nat.le_of_ble_eq_true rfl) rfl rfl wkX5_36 hr9 dX5_init_138 ?_
  refine lv_iconst (v := (-1)) hx hb dX5_init_141 rfl ?_
  refine sc_V hB (fun q h => Or.inr h) hf (fun q9 h9 => rS_W (As := [.ref (ad23 (tq + 9)), .int (-1)]) (rest := []) E hU hB ((mJ7_fill_53178 l K D G ad23 rr24 _ n23 x (tq + 9) 16 hkn17 hdq34 (-1)) _ _ h9) (cwGS 2 okJ7_fill_53178 wmX5_52 hts rfl rfl ⟨Nat.le_of_ble_eq_true rfl, Nat.le_of_ble_eq_true rfl⟩) rfl hl.1 (Nat.le_of_ble_eq_true rfl) dX5_init_142 (aC he (Nat.le_refl _) (Nat.le_refl _)) rfl) (fun v35 hf H locs hB => ?_)
  exact s_vretA E hrt hlocks hB hgo hf he dX5_init_145
abbrev rmX3_record (c s : Nat) : Room := { frames := 2, cells := c, slots := s, locals := 81 }
set_option maxRecDepth 100000 in
set_option maxHeartbeats 4000000 in
theorem mX3_record (l : Launch) (K : Nat) (D : va_G) (G : Nat → ClassId) (ad : Nat → Nat) (r : sR) (v : sV) (n : Nat) (x : Int64 × UInt64) (hsh : sSh r) (hn : 172 ≤ n) (dq : Nat) (hdq : okS r dq) : sMAv l yX3_record (.code yX3_record cX3_record 3 none :: wsL_law) rmX3_record D G ad r v n x [.ref (ad 35), .ref (ad dq)] (fX3_record K dq r v n) := by
  intro sz0 q0 hf
  obtain ⟨fin, he⟩ : ∃ fin, fin = fz n q0 := ⟨_, rfl⟩
  rw [← he]
  refine Met.ofW (cc := cX3_record) (maxL := 3) (ret := none) (by decide) rfl ?_
  intro p e s m args below meth c s₁ B hml hv
  obtain ⟨hargs, rfl, hU, hP, hD⟩ := hv
  have hx := B.exec
  have hb := B.bytes
  have hrt := B.returns
  have hts : ∀ w ∈ wsL_law, w.before args s = true := fun w hw => atoms_spec (ws := .code yX3_record cX3_record 3 none :: wsL_law) B.pre w (List.mem_cons_of_mem _ hw)
  have hlocks := B.notSynchronized
  have E : CallFix p m c cX3_record 3 s args wsL_law RX3 := ⟨hx, hb, hml, findClass_of_methodNamed B.named, hts⟩
  have hB : sB D G (sA ad r n s.heap.size) s.heap ad r v n x s.heap [] := ⟨hP, sD_self hD, va_S.rf⟩
  have hgo : sGo r n ad r n ad := sGo.rf
  have h0 : n ≤ n := Nat.le_refl n
  have hl := lv_entry ([.ref (ad 35), .ref (ad dq)]) (n := 3) (Nat.le_of_ble_eq_true rfl)
  refine W.eq (g2 := F0 m 0 ((lg_sl ([.ref (ad 35), .ref (ad dq)]) ++ List.replicate (3 - (lg_sl ([.ref (ad 35), .ref (ad dq)])).length) Slot.unset).toArray) []) (by rw [hargs]; exact lg_entry_eq _ _ _) ?_
  generalize (lg_sl ([.ref (ad 35), .ref (ad dq)]) ++ List.replicate (3 - (lg_sl ([.ref (ad 35), .ref (ad dq)])).length) Slot.unset).toArray = ls at hl ⊢
  have hl : lv_has ls 3 [(0, .ref (ad 35)), (1, .ref (ad dq))] := hl
  refine W_00 (n := n) ?_
  have hf := (fX3_record.eq_1 ..).symm.trans hf
  refine lv_aload_n hx hb dX3_record_0 rfl (lv_at hl 0 rfl) ?_
  refine s_getR (k := 0) (t := 36) E hU hB.1 sc5 (slt hsh hn 35 rfl) rfl inlX3 (Nat.le_of_ble_eq_true rfl) rfl rfl wkX3_11 (hsh.1 35 0 36 rfl) dX3_record_1 ?_
  refine lv_aload_n hx hb dX3_record_4 rfl (lv_at hl 0 rfl) ?_
  refine s_getI (k := 1) E hU hB.1 sc5 (slt hsh hn 35 rfl) rfl inlX3 (Nat.le_of_ble_eq_true rfl) rfl rfl wkX3_17 dX3_record_5 ?_
  refine s_aaldS E hU hB.1 hsh hn dX3_record_8 hf (fun hf => ?_) (fun qs9 hqs9 hf => ?_)
  · refine lv_astore_nN (lv' := [(2, .null), (0, .ref (ad 35)), (1, .ref (ad dq))]) hx hb dX3_record_9 rfl hl (Nat.le_of_ble_eq_true rfl) rfl (fun ls hl => ?_)
    refine lv_aload_nN hx hb dX3_record_10 rfl (lv_at hl 0 rfl) ?_
    refine lv_ifnonnullN hx hb dX3_record_11 ?_
    obtain ⟨p1, -, hf⟩ := nm_x hf
    refine s_newP (pl := p1) (ci := 7) E hU hB (fun q h => Or.inr h) h0 ⟨Nat.le_refl _, Nat.le_refl _⟩ sc7 inlX5 wclX3_9 winsX5 winiX5 hdef7 (by decide) dX3_record_14 hf he (fun rr1 v1 n1 rez hd1 hf he ad1 hg1 h0 hkn1 H hB => ?_)
    have hl : lv_has ls 3 [(2, .null), (0, .ref (ad1 35)), (1, .ref (ad1 dq))] := by rw [(hg1.2 (35) (slt hsh hn 35 rfl)).2, (hg1.2 (dq) (okS_lt0 hsh hdq hn)).2]; exact hl
    have hn : 172 ≤ n1 := Nat.le_trans hn hg1.1
    have hgo := hgo.trans hg1
    obtain ⟨⟨hsh, hdq⟩, hf⟩ := ck_e hf
    refine lv_dup hx hb dX3_record_17 rfl ?_
    refine sc_Av hB (fun q h => Or.inr h) h0 ⟨Nat.le_refl _, Nat.le_refl _⟩ hf he (fun q9 h9 hc9 => rI_A (As := []) (rest := [.ref (ad1 p1)]) (q := p1) E hU hB (mX5_initR l K D G ad1 rr1 _ n1 x p1 hkn1 hd1 _ _ h9) (cwGI 0 okX5_init wmX3_21 hts rfl rfl ⟨Nat.le_of_ble_eq_true rfl, Nat.le_of_ble_eq_true rfl⟩) rfl hl.1 (Nat.le_of_ble_eq_true rfl) dX3_record_18 hc9 rfl) (fun rr2 v2 n2 rez hf he ad2 hg2 h0 H locs hB => ?_)
    rw [← (hg2.2 (p1) hd1).2]
    have hl : lv_has ls 3 [(2, .null), (0, .ref (ad2 35)), (1, .ref (ad2 dq))] := by rw [(hg2.2 (35) (slt hsh hn 35 rfl)).2, (hg2.2 (dq) (okS_lt0 hsh hdq hn)).2]; exact hl
    have hn : 172 ≤ n2 := Nat.le_trans hn hg2.1
    have hgo := hgo.trans hg2
    have hd1 := (hg2.2 _ hd1).1
    obtain ⟨⟨hsh, hdq⟩, hf⟩ := ck_e hf
    refine lv_astore_n (lv' := [(2, .ref (ad2 p1)), (0, .ref (ad2 35)), (1, .ref (ad2 dq))]) hx hb dX3_record_21 rfl hl (Nat.le_of_ble_eq_true rfl) rfl (fun ls hl => ?_)
    refine lv_aload_n hx hb dX3_record_22 rfl (lv_at hl 1 rfl) ?_
    refine s_getR (k := 0) (t := 36) E hU hB.1 sc5 (slt hsh hn 35 rfl) rfl inlX3 (Nat.le_of_ble_eq_true rfl) rfl rfl wkX3_11 (hsh.1 35 0 36 rfl) dX3_record_23 ?_
    refine lv_aload_n hx hb dX3_record_26 rfl (lv_at hl 1 rfl) ?_
    refine s_getI (k := 1) E hU hB.1 sc5 (slt hsh hn 35 rfl) rfl inlX3 (Nat.le_of_ble_eq_true rfl) rfl rfl wkX3_17 dX3_record_27 ?_
    refine lv_aload_n hx hb dX3_record_30 rfl (lv_at hl 0 rfl) ?_
    refine s_aast (kd := 16) (t := p1) E hU hB (by decide) (slt hsh hn 36 rfl) rfl sc7 hd1 hkn1 rfl dX3_record_31 hf (fun rr3 hf hg9 H locs hB => ?_)
    have hgo := hgo.trans hg9
    obtain ⟨⟨hsh, hs4, hdq⟩, hf⟩ := ck_e hf
    obtain ⟨vg5, ez9, hf⟩ := nm_x hf
    subst ez9
    have hB := s_gh (j := ((v2 35 1) : Int32).toNatClampNeg) (y := 1) hB
    refine lv_aload_n hx hb dX3_record_32 rfl (lv_at hl 0 rfl) ?_
    refine lv_aload_n hx hb dX3_record_33 rfl (lv_at hl 2 rfl) ?_
    refine sc_V hB (fun q h => Or.inr h) hf (fun q9 h9 => rV_W (As := [.ref (ad2 dq)]) (rest := []) E hU hB sc7 (okS_lt0 hsh hs4 hn) (okS_k hsh hs4) ((mX5_copyFrom l D G ad2 rr3 _ n2 x hsh hn p1 dq hs4 hdq) _ _ h9) (cwGV 1 okX5_copyFrom wmX3_22 hts rfl rfl ⟨Nat.le_of_ble_eq_true rfl, Nat.le_of_ble_eq_true rfl⟩) rfl hl.1 (Nat.le_of_ble_eq_true rfl) dX3_record_34 (aC he (Nat.le_refl _) (Nat.le_refl _)) rfl) (fun v6 hf H locs hB => ?_)
    refine lv_aload_n hx hb dX3_record_37 rfl (lv_at hl 1 rfl) ?_
    refine lv_aload_n hx hb dX3_record_38 rfl (lv_at hl 1 rfl) ?_
    refine s_getI (k := 1) E hU hB.1 sc5 (slt hsh hn 35 rfl) rfl inlX3 (Nat.le_of_ble_eq_true rfl) rfl rfl wkX3_17 dX3_record_39 ?_
    refine lv_iconst (v := 1) hx hb dX3_record_42 rfl ?_
    refine lv_iadd hx hb dX3_record_43 ?_
    refine lv_bipush (v := 8) hx hb dX3_record_44 rfl ?_
    refine lv_irem hx hb dX3_record_46 (by decide) ?_
    refine s_putI (k := 1) (ty1 := .int) E hU hB sc5 (slt hsh hn 35 rfl) rfl inlX3 (Nat.le_of_ble_eq_true rfl) rfl rfl wkX3_17 rfl rfl rfl rfl dX3_record_47 hf (fun v7 hf H locs hB => ?_)
    refine lv_aload_n hx hb dX3_record_50 rfl (lv_at hl 1 rfl) ?_
    refine lv_aload_n hx hb dX3_record_51 rfl (lv_at hl 1 rfl) ?_
    refine s_getI (k := 2) E hU hB.1 sc5 (slt hsh hn 35 rfl) rfl inlX3 (Nat.le_of_ble_eq_true rfl) rfl rfl wkX3_26 dX3_record_52 ?_
    refine lv_iconst (v := 1) hx hb dX3_record_55 rfl ?_
    refine lv_iadd hx hb dX3_record_56 ?_
    refine lv_bipush (v := 8) hx hb dX3_record_57 rfl ?_
    refine va_mmin hx hb (E.2.2.1.trans hl.1.symm) E.2.2.2.1 (hts _ wmX3_29) (hts _ wst_min) (hts _ wini_math) (hts _ wcd_min) (Nat.le_of_ble_eq_true rfl) (Nat.le_of_ble_eq_true rfl) (aC he (Nat.le_refl _) (Nat.le_refl _)).1 (aC he (Nat.le_refl _) (Nat.le_refl _)).2 dX3_record_59 ?_
    refine s_putI (k := 2) (ty1 := .int) E hU hB sc5 (slt hsh hn 35 rfl) rfl inlX3 (Nat.le_of_ble_eq_true rfl) rfl rfl wkX3_26 rfl rfl rfl rfl dX3_record_62 hf (fun v8 hf H locs hB => ?_)
    exact s_vretA E hrt hlocks hB hgo hf he dX3_record_65
  · refine lv_astore_n (lv' := [(2, .ref (ad qs9)), (0, .ref (ad 35)), (1, .ref (ad dq))]) hx hb dX3_record_9 rfl hl (Nat.le_of_ble_eq_true rfl) rfl (fun ls hl => ?_)
    refine lv_aload_n hx hb dX3_record_10 rfl (lv_at hl 0 rfl) ?_
    refine lv_ifnonnull (tgt := 32) hx hb dX3_record_11 rfl ?_
    refine lv_aload_n hx hb dX3_record_32 rfl (lv_at hl 0 rfl) ?_
    refine lv_aload_n hx hb dX3_record_33 rfl (lv_at hl 2 rfl) ?_
    refine sc_V hB (fun q h => Or.inr h) hf (fun q9 h9 => rV_W (As := [.ref (ad dq)]) (rest := []) E hU hB sc7 (okS_lt0 hsh hqs9 hn) (okS_k hsh hqs9) ((mX5_copyFrom l D G ad r _ n x hsh hn qs9 dq hqs9 hdq) _ _ h9) (cwGV 1 okX5_copyFrom wmX3_22 hts rfl rfl ⟨Nat.le_of_ble_eq_true rfl, Nat.le_of_ble_eq_true rfl⟩) rfl hl.1 (Nat.le_of_ble_eq_true rfl) dX3_record_34 (aC he (Nat.le_refl _) (Nat.le_refl _)) rfl) (fun v10 hf H locs hB => ?_)
    refine lv_aload_n hx hb dX3_record_37 rfl (lv_at hl 1 rfl) ?_
    refine lv_aload_n hx hb dX3_record_38 rfl (lv_at hl 1 rfl) ?_
    refine s_getI (k := 1) E hU hB.1 sc5 (slt hsh hn 35 rfl) rfl inlX3 (Nat.le_of_ble_eq_true rfl) rfl rfl wkX3_17 dX3_record_39 ?_
    refine lv_iconst (v := 1) hx hb dX3_record_42 rfl ?_
    refine lv_iadd hx hb dX3_record_43 ?_
    refine lv_bipush (v := 8) hx hb dX3_record_44 rfl ?_
    refine lv_irem hx hb dX3_record_46 (by decide) ?_
    refine s_putI (k := 1) (ty1 := .int) E hU hB sc5 (slt hsh hn 35 rfl) rfl inlX3 (Nat.le_of_ble_eq_true rfl) rfl rfl wkX3_17 rfl rfl rfl rfl dX3_record_47 hf (fun v11 hf H locs hB => ?_)
    refine lv_aload_n hx hb dX3_record_50 rfl (lv_at hl 1 rfl) ?_
    refine lv_aload_n hx hb dX3_record_51 rfl (lv_at hl 1 rfl) ?_
    refine s_getI (k := 2) E hU hB.1 sc5 (slt hsh hn 35 rfl) rfl inlX3 (Nat.le_of_ble_eq_true rfl) rfl rfl wkX3_26 dX3_record_52 ?_
    refine lv_iconst (v := 1) hx hb dX3_record_55 rfl ?_
    refine lv_iadd hx hb dX3_record_56 ?_
    refine lv_bipush (v := 8) hx hb dX3_record_57 rfl ?_
    refine va_mmin hx hb (E.2.2.1.trans hl.1.symm) E.2.2.2.1 (hts _ wmX3_29) (hts _ wst_min) (hts _ wini_math) (hts _ wcd_min) (Nat.le_of_ble_eq_true rfl) (Nat.le_of_ble_eq_true rfl) (aC he (Nat.le_refl _) (Nat.le_refl _)).1 (aC he (Nat.le_refl _) (Nat.le_refl _)).2 dX3_record_59 ?_
    refine s_putI (k := 2) (ty1 := .int) E hU hB sc5 (slt hsh hn 35 rfl) rfl inlX3 (Nat.le_of_ble_eq_true rfl) rfl rfl wkX3_26 rfl rfl rfl rfl dX3_record_62 hf (fun v12 hf H locs hB => ?_)
    exact s_vretA E hrt hlocks hB hgo hf he dX3_record_65
abbrev rmX3_takeBack (c s : Nat) : Room := { frames := 2, cells := c, slots := s, locals := 81 }
set_option maxRecDepth 100000 in
set_option maxHeartbeats 4000000 in
theorem mX3_takeBack (l : Launch) (D : va_G) (G : Nat → ClassId) (ad : Nat → Nat) (r : sR) (v : sV) (n : Nat) (x : Int64 × UInt64) (hsh : sSh r) (hn : 172 ≤ n) (dq : Nat) (hdq : okS r dq) : sMAv l yX3_takeBack (.code yX3_takeBack cX3_takeBack 4 none :: wsL_law) rmX3_takeBack D G ad r v n x [.ref (ad 35), .ref (ad dq)] (fX3_takeBack dq r v n) := by
  intro sz0 q0 hf
  obtain ⟨fin, he⟩ : ∃ fin, fin = fz n q0 := ⟨_, rfl⟩
  rw [← he]
  refine Met.ofW (cc := cX3_takeBack) (maxL := 4) (ret := none) (by decide) rfl ?_
  intro p e s m args below meth c s₁ B hml hv
  obtain ⟨hargs, rfl, hU, hP, hD⟩ := hv
  have hx := B.exec
  have hb := B.bytes
  have hrt := B.returns
  have hts : ∀ w ∈ wsL_law, w.before args s = true := fun w hw => atoms_spec (ws := .code yX3_takeBack cX3_takeBack 4 none :: wsL_law) B.pre w (List.mem_cons_of_mem _ hw)
  have hlocks := B.notSynchronized
  have E : CallFix p m c cX3_takeBack 4 s args wsL_law RX3 := ⟨hx, hb, hml, findClass_of_methodNamed B.named, hts⟩
  have hB : sB D G (sA ad r n s.heap.size) s.heap ad r v n x s.heap [] := ⟨hP, sD_self hD, va_S.rf⟩
  have hgo : sGo r n ad r n ad := sGo.rf
  have h0 : n ≤ n := Nat.le_refl n
  have hl := lv_entry ([.ref (ad 35), .ref (ad dq)]) (n := 4) (Nat.le_of_ble_eq_true rfl)
  refine W.eq (g2 := F0 m 0 ((lg_sl ([.ref (ad 35), .ref (ad dq)]) ++ List.replicate (4 - (lg_sl ([.ref (ad 35), .ref (ad dq)])).length) Slot.unset).toArray) []) (by rw [hargs]; exact lg_entry_eq _ _ _) ?_
  generalize (lg_sl ([.ref (ad 35), .ref (ad dq)]) ++ List.replicate (4 - (lg_sl ([.ref (ad 35), .ref (ad dq)])).length) Slot.unset).toArray = ls at hl ⊢
  have hl : lv_has ls 4 [(0, .ref (ad 35)), (1, .ref (ad dq))] := hl
  refine W_00 (n := n) ?_
  have hf := (fX3_takeBack.eq_1 ..).symm.trans hf
  refine lv_aload_n hx hb dX3_takeBack_0 rfl (lv_at hl 0 rfl) ?_
  refine s_getI (k := 1) E hU hB.1 sc5 (slt hsh hn 35 rfl) rfl inlX3 (Nat.le_of_ble_eq_true rfl) rfl rfl wkX3_17 dX3_takeBack_1 ?_
  refine lv_bipush (v := 8) hx hb dX3_takeBack_4 rfl ?_
  refine lv_iadd hx hb dX3_takeBack_6 ?_
  refine lv_iconst (v := 1) hx hb dX3_takeBack_7 rfl ?_
  refine lv_isub hx hb dX3_takeBack_8 ?_
  refine lv_bipush (v := 8) hx hb dX3_takeBack_9 rfl ?_
  refine lv_irem hx hb dX3_takeBack_11 (by decide) ?_
  refine s_nm hf (fun z1 hf => ?_)
  refine lv_istore_n (lv' := [(2, .int z1), (0, .ref (ad 35)), (1, .ref (ad dq))]) hx hb dX3_takeBack_12 rfl hl (Nat.le_of_ble_eq_true rfl) rfl (fun ls hl => ?_)
  refine lv_aload_n hx hb dX3_takeBack_13 rfl (lv_at hl 1 rfl) ?_
  refine s_getR (k := 0) (t := 36) E hU hB.1 sc5 (slt hsh hn 35 rfl) rfl inlX3 (Nat.le_of_ble_eq_true rfl) rfl rfl wkX3_11 (hsh.1 35 0 36 rfl) dX3_takeBack_14 ?_
  refine lv_iload_n hx hb dX3_takeBack_17 rfl (lv_at hl 0 rfl) ?_
  refine s_aaldS E hU hB.1 hsh hn dX3_takeBack_18 hf (fun hf => ?_) (fun qs2 hqs2 hf => ?_)
  · refine lv_astore_nN (lv' := [(3, .null), (2, .int z1), (0, .ref (ad 35)), (1, .ref (ad dq))]) hx hb dX3_takeBack_19 rfl hl (Nat.le_of_ble_eq_true rfl) rfl (fun ls hl => ?_)
    refine lv_aload_n hx hb dX3_takeBack_20 rfl (lv_at hl 2 rfl) ?_
    refine s_getI (k := 2) E hU hB.1 sc5 (slt hsh hn 35 rfl) rfl inlX3 (Nat.le_of_ble_eq_true rfl) rfl rfl wkX3_26 dX3_takeBack_21 ?_
    refine lv_if_le (tgt := 51) hx hb dX3_takeBack_24 rfl (fun hc => ?_) (fun hc => ?_)
    · have hf := ite_t hf hc
      exact s_vretA E hrt hlocks hB hgo hf he dX3_takeBack_51
    · have hf := ite_f hf hc
      refine lv_aload_nN hx hb dX3_takeBack_27 rfl (lv_at hl 0 rfl) ?_
      refine lv_ifnullN (tgt := 51) hx hb dX3_takeBack_28 rfl ?_
      exact s_vretA E hrt hlocks hB hgo hf he dX3_takeBack_51
  · refine lv_astore_n (lv' := [(3, .ref (ad qs2)), (2, .int z1), (0, .ref (ad 35)), (1, .ref (ad dq))]) hx hb dX3_takeBack_19 rfl hl (Nat.le_of_ble_eq_true rfl) rfl (fun ls hl => ?_)
    refine lv_aload_n hx hb dX3_takeBack_20 rfl (lv_at hl 2 rfl) ?_
    refine s_getI (k := 2) E hU hB.1 sc5 (slt hsh hn 35 rfl) rfl inlX3 (Nat.le_of_ble_eq_true rfl) rfl rfl wkX3_26 dX3_takeBack_21 ?_
    refine lv_if_le (tgt := 51) hx hb dX3_takeBack_24 rfl (fun hc => ?_) (fun hc => ?_)
    · have hf := ite_t hf hc
      exact s_vretA E hrt hlocks hB hgo hf he dX3_takeBack_51
    · have hf := ite_f hf hc
      refine lv_aload_n hx hb dX3_takeBack_27 rfl (lv_at hl 0 rfl) ?_
      refine lv_ifnull hx hb dX3_takeBack_28 ?_
      refine lv_aload_n hx hb dX3_takeBack_31 rfl (lv_at hl 3 rfl) ?_
      refine lv_aload_n hx hb dX3_takeBack_32 rfl (lv_at hl 0 rfl) ?_
      refine sc_V hB (fun q h => Or.inr h) hf (fun q9 h9 => rV_W (As := [.ref (ad qs2)]) (rest := []) E hU hB sc7 (okS_lt0 hsh hdq hn) (okS_k hsh hdq) ((mX5_copyFrom l D G ad r _ n x hsh hn dq qs2 hdq hqs2) _ _ h9) (cwGV 1 okX5_copyFrom wmX3_22 hts rfl rfl ⟨Nat.le_of_ble_eq_true rfl, Nat.le_of_ble_eq_true rfl⟩) rfl hl.1 (Nat.le_of_ble_eq_true rfl) dX3_takeBack_33 (aC he (Nat.le_refl _) (Nat.le_refl _)) rfl) (fun v3 hf H locs hB => ?_)
      refine lv_aload_n hx hb dX3_takeBack_36 rfl (lv_at hl 2 rfl) ?_
      refine lv_iload_n hx hb dX3_takeBack_37 rfl (lv_at hl 1 rfl) ?_
      refine s_putI (k := 1) (ty1 := .int) E hU hB sc5 (slt hsh hn 35 rfl) rfl inlX3 (Nat.le_of_ble_eq_true rfl) rfl rfl wkX3_17 rfl rfl rfl rfl dX3_takeBack_38 hf (fun v4 hf H locs hB => ?_)
      refine lv_aload_n hx hb dX3_takeBack_41 rfl (lv_at hl 2 rfl) ?_
      refine lv_dup hx hb dX3_takeBack_42 rfl ?_
      refine s_getI (k := 2) E hU hB.1 sc5 (slt hsh hn 35 rfl) rfl inlX3 (Nat.le_of_ble_eq_true rfl) rfl rfl wkX3_26 dX3_takeBack_43 ?_
      refine lv_iconst (v := 1) hx hb dX3_takeBack_46 rfl ?_
      refine lv_isub hx hb dX3_takeBack_47 ?_
      refine s_putI (k := 2) (ty1 := .int) E hU hB sc5 (slt hsh hn 35 rfl) rfl inlX3 (Nat.le_of_ble_eq_true rfl) rfl rfl wkX3_26 rfl rfl rfl rfl dX3_takeBack_48 hf (fun v5 hf H locs hB => ?_)
      exact s_vretA E hrt hlocks hB hgo hf he dX3_takeBack_51
end
