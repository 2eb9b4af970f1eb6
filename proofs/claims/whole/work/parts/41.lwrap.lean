set_option maxRecDepth 100000 in
set_option maxHeartbeats 4000000 in
theorem mL_setCell (l : Launch) (K : Nat) (hst : l.stackTraces = false) (D : va_G) (G : Nat → ClassId) (ad : Nat → Nat) (r : sR) (v : sV) (n : Nat) (x : Int64 × UInt64) (hsh : sSh r) (hn : 172 ≤ n) (x1 : Int32) (x2 : Int32) (x3 : Int32) : sML l yL_setCell (.codeWith yL_setCell cL_setCell 6 (some .int) [(0, 12, 15, 13), (0, 12, 19, 15), (0, 12, 23, 17)] :: wsL_law) rmL D G ad r v n x [.ref (ad 0), .int x1, .int x2, .int x3, .ref (ad 170)] (fL_setCell K x1 x2 x3 r v n x) := by
  intro sz0 q0 hf
  obtain ⟨fin, he⟩ : ∃ fin, fin = fz n q0 := ⟨_, rfl⟩
  rw [← he]
  refine vx_ofWH (cc := cL_setCell) (maxL := 6) (ret := (some .int)) (hh := [(0, 12, 15, 13), (0, 12, 19, 15), (0, 12, 23, 17)]) (by decide) rfl ?_
  intro p e s m args below meth c s₁ B hml hv
  obtain ⟨⟨hargs, rfl, hU, hP, hD, hZ⟩, hNc⟩ := hv
  have hx := B.exec
  have hb := B.bytes
  have hrt := B.returns
  have hts : ∀ w ∈ wsL_law, w.before args s = true := fun w hw => atoms_spec (ws := (.codeWith yL_setCell cL_setCell 6 (some .int) [(0, 12, 15, 13), (0, 12, 19, 15), (0, 12, 23, 17)] :: wsL_law)) B.pre w (List.mem_cons_of_mem _ hw)
  have htb : c.exceptionTable.toList = [⟨0, 12, 15, 13⟩, ⟨0, 12, 19, 15⟩, ⟨0, 12, 23, 17⟩] := vx_table (x := yL_setCell) B (atoms_spec (ws := (.codeWith yL_setCell cL_setCell 6 (some .int) [(0, 12, 15, 13), (0, 12, 19, 15), (0, 12, 23, 17)] :: wsL_law)) B.pre _ List.mem_cons_self)
  have hlocks := B.notSynchronized
  have E : CallFix p m c cL_setCell 6 s args wsL_law RL := ⟨hx, hb, hml, findClass_of_methodNamed B.named, hts⟩
  have hB : sB D G (sA ad r n s.heap.size) s.heap ad r v n x s.heap [] := ⟨hP, sD_self hD, va_S.rf⟩
  have hgo : sGo r n ad r n ad := sGo.rf
  have hl := lv_entry ([.ref (ad 0), .int x1, .int x2, .int x3, .ref (ad 170)]) (n := 6) (Nat.le_of_ble_eq_true rfl)
  refine W.eq (g2 := F0 m 0 ((lg_sl ([.ref (ad 0), .int x1, .int x2, .int x3, .ref (ad 170)]) ++ List.replicate (6 - (lg_sl ([.ref (ad 0), .int x1, .int x2, .int x3, .ref (ad 170)])).length) Slot.unset).toArray) []) (by rw [hargs]; exact lg_entry_eq _ _ _) ?_
  generalize (lg_sl ([.ref (ad 0), .int x1, .int x2, .int x3, .ref (ad 170)]) ++ List.replicate (6 - (lg_sl ([.ref (ad 0), .int x1, .int x2, .int x3, .ref (ad 170)])).length) Slot.unset).toArray = ls at hl ⊢
  have hl : lv_has ls 6 [(0, .ref (ad 0)), (1, .int x1), (2, .int x2), (3, .int x3), (4, .ref (ad 170))] := hl
  refine W_00 (n := n) ?_
  have hf := (fL_setCell.eq_1 ..).symm.trans hf
  refine lv_aload hx hb dL_setCell_0 (lv_at hl 4 rfl) ?_
  refine lv_iconst hx hb dL_setCell_2 rfl ?_
  refine lv_aload_n hx hb dL_setCell_3 rfl (lv_at hl 0 rfl) ?_
  refine lv_iload_n hx hb dL_setCell_4 rfl (lv_at hl 1 rfl) ?_
  refine lv_iload_n hx hb dL_setCell_5 rfl (lv_at hl 2 rfl) ?_
  refine lv_iload_n hx hb dL_setCell_6 rfl (lv_at hl 3 rfl) ?_
  refine sc_Ci hB hgo ⟨Nat.le_refl _, Nat.le_refl _⟩ hf he (fun q9 h9 hc9 => rV_T (As := [.int x1, .int x2, .int x3]) (rest := [.int 0, .ref (ad 170)]) E hU hZ (fun q h => Or.inr h) hB sc8 (slt hsh hn 0 rfl) rfl (mX6_setCell l K hst D G ad r v n x hsh hn x1 x2 x3 _ _ h9) (cwGV 3 okX6_setCell wmL_7 hts rfl rfl ⟨Nat.le_of_ble_eq_true rfl, Nat.le_of_ble_eq_true rfl⟩) rfl hl.1 (Nat.le_of_ble_eq_true rfl) dL_setCell_7 hc9 rfl) (fun ke b r v n1 hg he ad1 hgo1 hn1 cells slots hc hs H locs hB q9 ce hce hcv hcl => ?_) (fun y r v n1 rez hf he ad1 hg1 hn1 cells slots hc hs H locs hB => ?_)
  · by_cases hk1 : ke = 1
    · subst hk1
      have hg := ite_t hg rfl
      cases hg
      refine vx_catch (name := "java/lang/IndexOutOfBoundsException") E.2.2.2.1 [] ⟨0, 12, 15, 13⟩ [⟨0, 12, 19, 15⟩, ⟨0, 12, 23, 17⟩] htb (fun z hz => nomatch hz) (by decide) (by decide) (hts _ wcL_13) (va_Nw.use rfl (hU.2.2.2.2.1 (exn 1) (by decide))) hce hcv hcl ?_
      refine lv_astore hx hb dL_setCell_15 hl (Nat.le_of_ble_eq_true rfl) rfl (fun ls hl => ?_)
      refine lv_iconst hx hb dL_setCell_17 rfl ?_
      exact s_iretL E hrt hlocks hB hgo1 he hc hs dL_setCell_18
    · by_cases hk2 : ke = 2
      · subst hk2
        have hg := ite_f hg (by decide)
        have hg := ite_t hg rfl
        cases hg
        refine vx_catch (name := "java/lang/IllegalArgumentException") E.2.2.2.1 [⟨0, 12, 15, 13⟩] ⟨0, 12, 19, 15⟩ [⟨0, 12, 23, 17⟩] htb (by
          intro z hz
          simp only [List.mem_cons, List.not_mem_nil, or_false] at hz
          subst hz
          exact Or.inr ⟨(by decide), _, hts _ wcL_13, hNc (2, 1) (by decide)⟩) (by decide) (by decide) (hts _ wcL_15) (va_Nw.use rfl (hU.2.2.2.2.1 (exn 2) (by decide))) hce hcv hcl ?_
        refine lv_astore hx hb dL_setCell_19 hl (Nat.le_of_ble_eq_true rfl) rfl (fun ls hl => ?_)
        refine lv_iconst hx hb dL_setCell_21 rfl ?_
        exact s_iretL E hrt hlocks hB hgo1 he hc hs dL_setCell_22
      · by_cases hk3 : ke = 3
        · subst hk3
          have hg := ite_f hg (by decide)
          have hg := ite_f hg (by decide)
          have hg := ite_t hg rfl
          cases hg
          refine vx_catch (name := "java/lang/IllegalStateException") E.2.2.2.1 [⟨0, 12, 15, 13⟩, ⟨0, 12, 19, 15⟩] ⟨0, 12, 23, 17⟩ [] htb (by
            intro z hz
            simp only [List.mem_cons, List.not_mem_nil, or_false] at hz
            rcases hz with rfl | rfl
            · exact Or.inr ⟨(by decide), _, hts _ wcL_13, hNc (3, 1) (by decide)⟩
            · exact Or.inr ⟨(by decide), _, hts _ wcL_15, hNc (3, 2) (by decide)⟩) (by decide) (by decide) (hts _ wcL_17) (va_Nw.use rfl (hU.2.2.2.2.1 (exn 3) (by decide))) hce hcv hcl ?_
          refine lv_astore hx hb dL_setCell_23 hl (Nat.le_of_ble_eq_true rfl) rfl (fun ls hl => ?_)
          refine lv_iconst hx hb dL_setCell_25 rfl ?_
          exact s_iretL E hrt hlocks hB hgo1 he hc hs dL_setCell_26
        · have hg := ite_f hg hk1
          have hg := ite_f hg hk2
          have hg := ite_f hg hk3
          cases hg
  · rw [← (hg1.2 170 (slt hsh hn 170 rfl)).2]
    refine lv_i2l hx hb dL_setCell_10 rfl ?_
    refine s_last E hU hB (hg1.2 _ (slt hsh hn 170 rfl)).1 dL_setCell_11 (fun H locs hB => ?_)
    refine lv_goto hx hb dL_setCell_12 rfl ?_
    refine lv_iconst hx hb dL_setCell_27 rfl ?_
    cases hf
    exact s_iretL E hrt hlocks hB (hgo.trans hg1) he hc hs dL_setCell_28
set_option maxRecDepth 100000 in
set_option maxHeartbeats 4000000 in
theorem mL_cell (l : Launch) (K : Nat) (hst : l.stackTraces = false) (D : va_G) (G : Nat → ClassId) (ad : Nat → Nat) (r : sR) (v : sV) (n : Nat) (x : Int64 × UInt64) (hsh : sSh r) (hn : 172 ≤ n) (x1 : Int32) (x2 : Int32) (x3 : Int32) : sML l yL_cell (.codeWith yL_cell cL_cell 6 (some .int) [(0, 12, 15, 13), (0, 12, 19, 15)] :: wsL_law) rmL D G ad r v n x [.ref (ad 0), .int x1, .int x2, .int x3, .ref (ad 170)] (fL_cell K x1 x2 x3 r v n x) := by
  intro sz0 q0 hf
  obtain ⟨fin, he⟩ : ∃ fin, fin = fz n q0 := ⟨_, rfl⟩
  rw [← he]
  refine vx_ofWH (cc := cL_cell) (maxL := 6) (ret := (some .int)) (hh := [(0, 12, 15, 13), (0, 12, 19, 15)]) (by decide) rfl ?_
  intro p e s m args below meth c s₁ B hml hv
  obtain ⟨⟨hargs, rfl, hU, hP, hD, hZ⟩, hNc⟩ := hv
  have hx := B.exec
  have hb := B.bytes
  have hrt := B.returns
  have hts : ∀ w ∈ wsL_law, w.before args s = true := fun w hw => atoms_spec (ws := (.codeWith yL_cell cL_cell 6 (some .int) [(0, 12, 15, 13), (0, 12, 19, 15)] :: wsL_law)) B.pre w (List.mem_cons_of_mem _ hw)
  have htb : c.exceptionTable.toList = [⟨0, 12, 15, 13⟩, ⟨0, 12, 19, 15⟩] := vx_table (x := yL_cell) B (atoms_spec (ws := (.codeWith yL_cell cL_cell 6 (some .int) [(0, 12, 15, 13), (0, 12, 19, 15)] :: wsL_law)) B.pre _ List.mem_cons_self)
  have hlocks := B.notSynchronized
  have E : CallFix p m c cL_cell 6 s args wsL_law RL := ⟨hx, hb, hml, findClass_of_methodNamed B.named, hts⟩
  have hB : sB D G (sA ad r n s.heap.size) s.heap ad r v n x s.heap [] := ⟨hP, sD_self hD, va_S.rf⟩
  have hgo : sGo r n ad r n ad := sGo.rf
  have hl := lv_entry ([.ref (ad 0), .int x1, .int x2, .int x3, .ref (ad 170)]) (n := 6) (Nat.le_of_ble_eq_true rfl)
  refine W.eq (g2 := F0 m 0 ((lg_sl ([.ref (ad 0), .int x1, .int x2, .int x3, .ref (ad 170)]) ++ List.replicate (6 - (lg_sl ([.ref (ad 0), .int x1, .int x2, .int x3, .ref (ad 170)])).length) Slot.unset).toArray) []) (by rw [hargs]; exact lg_entry_eq _ _ _) ?_
  generalize (lg_sl ([.ref (ad 0), .int x1, .int x2, .int x3, .ref (ad 170)]) ++ List.replicate (6 - (lg_sl ([.ref (ad 0), .int x1, .int x2, .int x3, .ref (ad 170)])).length) Slot.unset).toArray = ls at hl ⊢
  have hl : lv_has ls 6 [(0, .ref (ad 0)), (1, .int x1), (2, .int x2), (3, .int x3), (4, .ref (ad 170))] := hl
  refine W_00 (n := n) ?_
  have hf := (fL_cell.eq_1 ..).symm.trans hf
  refine lv_aload hx hb dL_cell_0 (lv_at hl 4 rfl) ?_
  refine lv_iconst hx hb dL_cell_2 rfl ?_
  refine lv_aload_n hx hb dL_cell_3 rfl (lv_at hl 0 rfl) ?_
  refine lv_iload_n hx hb dL_cell_4 rfl (lv_at hl 1 rfl) ?_
  refine lv_iload_n hx hb dL_cell_5 rfl (lv_at hl 2 rfl) ?_
  refine lv_iload_n hx hb dL_cell_6 rfl (lv_at hl 3 rfl) ?_
  refine sc_Ci hB hgo ⟨Nat.le_refl _, Nat.le_refl _⟩ hf he (fun q9 h9 hc9 => rV_T (As := [.int x1, .int x2, .int x3]) (rest := [.int 0, .ref (ad 170)]) E hU hZ (fun q h => Or.inr h) hB sc8 (slt hsh hn 0 rfl) rfl (mX6_cell l K hst D G ad r v n x hsh hn x1 x2 x3 _ _ h9) (cwGV 3 okX6_cell wmL_19 hts rfl rfl ⟨Nat.le_of_ble_eq_true rfl, Nat.le_of_ble_eq_true rfl⟩) rfl hl.1 (Nat.le_of_ble_eq_true rfl) dL_cell_7 hc9 rfl) (fun ke b r v n1 hg he ad1 hgo1 hn1 cells slots hc hs H locs hB q9 ce hce hcv hcl => ?_) (fun y r v n1 rez hf he ad1 hg1 hn1 cells slots hc hs H locs hB => ?_)
  · by_cases hk1 : ke = 1
    · subst hk1
      have hg := ite_t hg rfl
      cases hg
      refine vx_catch (name := "java/lang/IndexOutOfBoundsException") E.2.2.2.1 [] ⟨0, 12, 15, 13⟩ [⟨0, 12, 19, 15⟩] htb (fun z hz => nomatch hz) (by decide) (by decide) (hts _ wcL_13) (va_Nw.use rfl (hU.2.2.2.2.1 (exn 1) (by decide))) hce hcv hcl ?_
      refine lv_astore hx hb dL_cell_15 hl (Nat.le_of_ble_eq_true rfl) rfl (fun ls hl => ?_)
      refine lv_iconst hx hb dL_cell_17 rfl ?_
      exact s_iretL E hrt hlocks hB hgo1 he hc hs dL_cell_18
    · by_cases hk2 : ke = 2
      · subst hk2
        have hg := ite_f hg (by decide)
        have hg := ite_t hg rfl
        cases hg
        refine vx_catch (name := "java/lang/IllegalArgumentException") E.2.2.2.1 [⟨0, 12, 15, 13⟩] ⟨0, 12, 19, 15⟩ [] htb (by
          intro z hz
          simp only [List.mem_cons, List.not_mem_nil, or_false] at hz
          subst hz
          exact Or.inr ⟨(by decide), _, hts _ wcL_13, hNc (2, 1) (by decide)⟩) (by decide) (by decide) (hts _ wcL_15) (va_Nw.use rfl (hU.2.2.2.2.1 (exn 2) (by decide))) hce hcv hcl ?_
        refine lv_astore hx hb dL_cell_19 hl (Nat.le_of_ble_eq_true rfl) rfl (fun ls hl => ?_)
        refine lv_iconst hx hb dL_cell_21 rfl ?_
        exact s_iretL E hrt hlocks hB hgo1 he hc hs dL_cell_22
      · have hg := ite_f hg hk1
        have hg := ite_f hg hk2
        cases hg
  · rw [← (hg1.2 170 (slt hsh hn 170 rfl)).2]
    refine lv_i2l hx hb dL_cell_10 rfl ?_
    refine s_last E hU hB (hg1.2 _ (slt hsh hn 170 rfl)).1 dL_cell_11 (fun H locs hB => ?_)
    refine lv_goto hx hb dL_cell_12 rfl ?_
    refine lv_iconst hx hb dL_cell_23 rfl ?_
    cases hf
    exact s_iretL E hrt hlocks hB (hgo.trans hg1) he hc hs dL_cell_24
set_option maxRecDepth 100000 in
set_option maxHeartbeats 4000000 in
theorem mL_setGoal (l : Launch) (K : Nat) (hst : l.stackTraces = false) (D : va_G) (G : Nat → ClassId) (ad : Nat → Nat) (r : sR) (v : sV) (n : Nat) (x : Int64 × UInt64) (hsh : sSh r) (hn : 172 ≤ n) (x1 : Int32) (x2 : Int32) (x3 : Int32) : sML l yL_setGoal (.codeWith yL_setGoal cL_setGoal 6 (some .int) [(0, 12, 15, 13), (0, 12, 19, 17)] :: wsL_law) rmL D G ad r v n x [.ref (ad 0), .int x1, .int x2, .int x3, .ref (ad 170)] (fL_setGoal K x1 x2 x3 r v n x) := by
  intro sz0 q0 hf
  obtain ⟨fin, he⟩ : ∃ fin, fin = fz n q0 := ⟨_, rfl⟩
  rw [← he]
  refine vx_ofWH (cc := cL_setGoal) (maxL := 6) (ret := (some .int)) (hh := [(0, 12, 15, 13), (0, 12, 19, 17)]) (by decide) rfl ?_
  intro p e s m args below meth c s₁ B hml hv
  obtain ⟨⟨hargs, rfl, hU, hP, hD, hZ⟩, hNc⟩ := hv
  have hx := B.exec
  have hb := B.bytes
  have hrt := B.returns
  have hts : ∀ w ∈ wsL_law, w.before args s = true := fun w hw => atoms_spec (ws := (.codeWith yL_setGoal cL_setGoal 6 (some .int) [(0, 12, 15, 13), (0, 12, 19, 17)] :: wsL_law)) B.pre w (List.mem_cons_of_mem _ hw)
  have htb : c.exceptionTable.toList = [⟨0, 12, 15, 13⟩, ⟨0, 12, 19, 17⟩] := vx_table (x := yL_setGoal) B (atoms_spec (ws := (.codeWith yL_setGoal cL_setGoal 6 (some .int) [(0, 12, 15, 13), (0, 12, 19, 17)] :: wsL_law)) B.pre _ List.mem_cons_self)
  have hlocks := B.notSynchronized
  have E : CallFix p m c cL_setGoal 6 s args wsL_law RL := ⟨hx, hb, hml, findClass_of_methodNamed B.named, hts⟩
  have hB : sB D G (sA ad r n s.heap.size) s.heap ad r v n x s.heap [] := ⟨hP, sD_self hD, va_S.rf⟩
  have hgo : sGo r n ad r n ad := sGo.rf
  have hl := lv_entry ([.ref (ad 0), .int x1, .int x2, .int x3, .ref (ad 170)]) (n := 6) (Nat.le_of_ble_eq_true rfl)
  refine W.eq (g2 := F0 m 0 ((lg_sl ([.ref (ad 0), .int x1, .int x2, .int x3, .ref (ad 170)]) ++ List.replicate (6 - (lg_sl ([.ref (ad 0), .int x1, .int x2, .int x3, .ref (ad 170)])).length) Slot.unset).toArray) []) (by rw [hargs]; exact lg_entry_eq _ _ _) ?_
  generalize (lg_sl ([.ref (ad 0), .int x1, .int x2, .int x3, .ref (ad 170)]) ++ List.replicate (6 - (lg_sl ([.ref (ad 0), .int x1, .int x2, .int x3, .ref (ad 170)])).length) Slot.unset).toArray = ls at hl ⊢
  have hl : lv_has ls 6 [(0, .ref (ad 0)), (1, .int x1), (2, .int x2), (3, .int x3), (4, .ref (ad 170))] := hl
  refine W_00 (n := n) ?_
  have hf := (fL_setGoal.eq_1 ..).symm.trans hf
  refine lv_aload hx hb dL_setGoal_0 (lv_at hl 4 rfl) ?_
  refine lv_iconst hx hb dL_setGoal_2 rfl ?_
  refine lv_aload_n hx hb dL_setGoal_3 rfl (lv_at hl 0 rfl) ?_
  refine lv_iload_n hx hb dL_setGoal_4 rfl (lv_at hl 1 rfl) ?_
  refine lv_iload_n hx hb dL_setGoal_5 rfl (lv_at hl 2 rfl) ?_
  refine lv_iload_n hx hb dL_setGoal_6 rfl (lv_at hl 3 rfl) ?_
  refine sc_Ci hB hgo ⟨Nat.le_refl _, Nat.le_refl _⟩ hf he (fun q9 h9 hc9 => rV_T (As := [.int x1, .int x2, .int x3]) (rest := [.int 0, .ref (ad 170)]) E hU hZ (fun q h => Or.inr h) hB sc8 (slt hsh hn 0 rfl) rfl (mX6_setGoal l K hst D G ad r v n x hsh hn x1 x2 x3 _ _ h9) (cwGV 3 okX6_setGoal wmL_22 hts rfl rfl ⟨Nat.le_of_ble_eq_true rfl, Nat.le_of_ble_eq_true rfl⟩) rfl hl.1 (Nat.le_of_ble_eq_true rfl) dL_setGoal_7 hc9 rfl) (fun ke b r v n1 hg he ad1 hgo1 hn1 cells slots hc hs H locs hB q9 ce hce hcv hcl => ?_) (fun y r v n1 rez hf he ad1 hg1 hn1 cells slots hc hs H locs hB => ?_)
  · by_cases hk1 : ke = 1
    · subst hk1
      have hg := ite_t hg rfl
      cases hg
      refine vx_catch (name := "java/lang/IndexOutOfBoundsException") E.2.2.2.1 [] ⟨0, 12, 15, 13⟩ [⟨0, 12, 19, 17⟩] htb (fun z hz => nomatch hz) (by decide) (by decide) (hts _ wcL_13) (va_Nw.use rfl (hU.2.2.2.2.1 (exn 1) (by decide))) hce hcv hcl ?_
      refine lv_astore hx hb dL_setGoal_15 hl (Nat.le_of_ble_eq_true rfl) rfl (fun ls hl => ?_)
      refine lv_iconst hx hb dL_setGoal_17 rfl ?_
      exact s_iretL E hrt hlocks hB hgo1 he hc hs dL_setGoal_18
    · by_cases hk3 : ke = 3
      · subst hk3
        have hg := ite_f hg (by decide)
        have hg := ite_t hg rfl
        cases hg
        refine vx_catch (name := "java/lang/IllegalStateException") E.2.2.2.1 [⟨0, 12, 15, 13⟩] ⟨0, 12, 19, 17⟩ [] htb (by
          intro z hz
          simp only [List.mem_cons, List.not_mem_nil, or_false] at hz
          subst hz
          exact Or.inr ⟨(by decide), _, hts _ wcL_13, hNc (3, 1) (by decide)⟩) (by decide) (by decide) (hts _ wcL_17) (va_Nw.use rfl (hU.2.2.2.2.1 (exn 3) (by decide))) hce hcv hcl ?_
        refine lv_astore hx hb dL_setGoal_19 hl (Nat.le_of_ble_eq_true rfl) rfl (fun ls hl => ?_)
        refine lv_iconst hx hb dL_setGoal_21 rfl ?_
        exact s_iretL E hrt hlocks hB hgo1 he hc hs dL_setGoal_22
      · have hg := ite_f hg hk1
        have hg := ite_f hg hk3
        cases hg
  · rw [← (hg1.2 170 (slt hsh hn 170 rfl)).2]
    refine lv_i2l hx hb dL_setGoal_10 rfl ?_
    refine s_last E hU hB (hg1.2 _ (slt hsh hn 170 rfl)).1 dL_setGoal_11 (fun H locs hB => ?_)
    refine lv_goto hx hb dL_setGoal_12 rfl ?_
    refine lv_iconst hx hb dL_setGoal_23 rfl ?_
    cases hf
    exact s_iretL E hrt hlocks hB (hgo.trans hg1) he hc hs dL_setGoal_24
set_option maxRecDepth 100000 in
set_option maxHeartbeats 4000000 in
theorem mL_dropGoal (l : Launch) (K : Nat) (hst : l.stackTraces = false) (D : va_G) (G : Nat → ClassId) (ad : Nat → Nat) (r : sR) (v : sV) (n : Nat) (x : Int64 × UInt64) (hsh : sSh r) (hn : 172 ≤ n) (x1 : Int32) : sML l yL_dropGoal (.codeWith yL_dropGoal cL_dropGoal 4 (some .int) [(0, 9, 12, 13), (0, 9, 15, 29)] :: wsL_law) rmL D G ad r v n x [.ref (ad 0), .int x1, .ref (ad 170)] (fL_dropGoal K x1 r v n x) := by
  intro sz0 q0 hf
  obtain ⟨fin, he⟩ : ∃ fin, fin = fz n q0 := ⟨_, rfl⟩
  rw [← he]
  refine vx_ofWH (cc := cL_dropGoal) (maxL := 4) (ret := (some .int)) (hh := [(0, 9, 12, 13), (0, 9, 15, 29)]) (by decide) rfl ?_
  intro p e s m args below meth c s₁ B hml hv
  obtain ⟨⟨hargs, rfl, hU, hP, hD, hZ⟩, hNc⟩ := hv
  have hx := B.exec
  have hb := B.bytes
  have hrt := B.returns
  have hts : ∀ w ∈ wsL_law, w.before args s = true := fun w hw => atoms_spec (ws := (.codeWith yL_dropGoal cL_dropGoal 4 (some .int) [(0, 9, 12, 13), (0, 9, 15, 29)] :: wsL_law)) B.pre w (List.mem_cons_of_mem _ hw)
  have htb : c.exceptionTable.toList = [⟨0, 9, 12, 13⟩, ⟨0, 9, 15, 29⟩] := vx_table (x := yL_dropGoal) B (atoms_spec (ws := (.codeWith yL_dropGoal cL_dropGoal 4 (some .int) [(0, 9, 12, 13), (0, 9, 15, 29)] :: wsL_law)) B.pre _ List.mem_cons_self)
  have hlocks := B.notSynchronized
  have E : CallFix p m c cL_dropGoal 4 s args wsL_law RL := ⟨hx, hb, hml, findClass_of_methodNamed B.named, hts⟩
  have hB : sB D G (sA ad r n s.heap.size) s.heap ad r v n x s.heap [] := ⟨hP, sD_self hD, va_S.rf⟩
  have hgo : sGo r n ad r n ad := sGo.rf
  have hl := lv_entry ([.ref (ad 0), .int x1, .ref (ad 170)]) (n := 4) (Nat.le_of_ble_eq_true rfl)
  refine W.eq (g2 := F0 m 0 ((lg_sl ([.ref (ad 0), .int x1, .ref (ad 170)]) ++ List.replicate (4 - (lg_sl ([.ref (ad 0), .int x1, .ref (ad 170)])).length) Slot.unset).toArray) []) (by rw [hargs]; exact lg_entry_eq _ _ _) ?_
  generalize (lg_sl ([.ref (ad 0), .int x1, .ref (ad 170)]) ++ List.replicate (4 - (lg_sl ([.ref (ad 0), .int x1, .ref (ad 170)])).length) Slot.unset).toArray = ls at hl ⊢
  have hl : lv_has ls 4 [(0, .ref (ad 0)), (1, .int x1), (2, .ref (ad 170))] := hl
  refine W_00 (n := n) ?_
  have hf := (fL_dropGoal.eq_1 ..).symm.trans hf
  refine lv_aload_n hx hb dL_dropGoal_0 rfl (lv_at hl 2 rfl) ?_
  refine lv_iconst hx hb dL_dropGoal_1 rfl ?_
  refine lv_aload_n hx hb dL_dropGoal_2 rfl (lv_at hl 0 rfl) ?_
  refine lv_iload_n hx hb dL_dropGoal_3 rfl (lv_at hl 1 rfl) ?_
  refine sc_Ci hB hgo ⟨Nat.le_refl _, Nat.le_refl _⟩ hf he (fun q9 h9 hc9 => rV_T (As := [.int x1]) (rest := [.int 0, .ref (ad 170)]) E hU hZ (fun q h => Or.inr h) hB sc8 (slt hsh hn 0 rfl) rfl (mX6_dropGoal l K hst D G ad r v n x hsh hn x1 _ _ h9) (cwGV 1 okX6_dropGoal wmL_25 hts rfl rfl ⟨Nat.le_of_ble_eq_true rfl, Nat.le_of_ble_eq_true rfl⟩) rfl hl.1 (Nat.le_of_ble_eq_true rfl) dL_dropGoal_4 hc9 rfl) (fun ke b r v n1 hg he ad1 hgo1 hn1 cells slots hc hs H locs hB q9 ce hce hcv hcl => ?_) (fun y r v n1 rez hf he ad1 hg1 hn1 cells slots hc hs H locs hB => ?_)
  · by_cases hk1 : ke = 1
    · subst hk1
      have hg := ite_t hg rfl
      cases hg
      refine vx_catch (name := "java/lang/IndexOutOfBoundsException") E.2.2.2.1 [] ⟨0, 9, 12, 13⟩ [⟨0, 9, 15, 29⟩] htb (fun z hz => nomatch hz) (by decide) (by decide) (hts _ wcL_13) (va_Nw.use rfl (hU.2.2.2.2.1 (exn 1) (by decide))) hce hcv hcl ?_
      refine lv_astore_n hx hb dL_dropGoal_12 rfl hl (Nat.le_of_ble_eq_true rfl) rfl (fun ls hl => ?_)
      refine lv_iconst hx hb dL_dropGoal_13 rfl ?_
      exact s_iretL E hrt hlocks hB hgo1 he hc hs dL_dropGoal_14
    · by_cases hk4 : ke = 4
      · subst hk4
        have hg := ite_f hg (by decide)
        have hg := ite_t hg rfl
        cases hg
        refine vx_catch (name := "java/util/NoSuchElementException") E.2.2.2.1 [⟨0, 9, 12, 13⟩] ⟨0, 9, 15, 29⟩ [] htb (by
          intro z hz
          simp only [List.mem_cons, List.not_mem_nil, or_false] at hz
          subst hz
          exact Or.inr ⟨(by decide), _, hts _ wcL_13, hNc (4, 1) (by decide)⟩) (by decide) (by decide) (hts _ wcL_29) (va_Nw.use rfl (hU.2.2.2.2.1 (exn 4) (by decide))) hce hcv hcl ?_
        refine lv_astore_n hx hb dL_dropGoal_15 rfl hl (Nat.le_of_ble_eq_true rfl) rfl (fun ls hl => ?_)
        refine lv_iconst hx hb dL_dropGoal_16 rfl ?_
        exact s_iretL E hrt hlocks hB hgo1 he hc hs dL_dropGoal_17
      · have hg := ite_f hg hk1
        have hg := ite_f hg hk4
        cases hg
  · rw [← (hg1.2 170 (slt hsh hn 170 rfl)).2]
    refine lv_i2l hx hb dL_dropGoal_7 rfl ?_
    refine s_last E hU hB (hg1.2 _ (slt hsh hn 170 rfl)).1 dL_dropGoal_8 (fun H locs hB => ?_)
    refine lv_goto hx hb dL_dropGoal_9 rfl ?_
    refine lv_iconst hx hb dL_dropGoal_18 rfl ?_
    cases hf
    exact s_iretL E hrt hlocks hB (hgo.trans hg1) he hc hs dL_dropGoal_19
set_option maxRecDepth 100000 in
set_option maxHeartbeats 4000000 in
theorem mL_distance (l : Launch) (K : Nat) (hst : l.stackTraces = false) (D : va_G) (G : Nat → ClassId) (ad : Nat → Nat) (r : sR) (v : sV) (n : Nat) (x : Int64 × UInt64) (hsh : sSh r) (hn : 172 ≤ n) (x1 : Int32) (x2 : Int32) (x3 : Int32) : sML l yL_distance (.codeWith yL_distance cL_distance 6 (some .int) [(0, 12, 15, 13), (0, 12, 19, 29)] :: wsL_law) rmL D G ad r v n x [.ref (ad 0), .int x1, .int x2, .int x3, .ref (ad 170)] (fL_distance K x1 x2 x3 r v n x) := by
  intro sz0 q0 hf
  obtain ⟨fin, he⟩ : ∃ fin, fin = fz n q0 := ⟨_, rfl⟩
  rw [← he]
  refine vx_ofWH (cc := cL_distance) (maxL := 6) (ret := (some .int)) (hh := [(0, 12, 15, 13), (0, 12, 19, 29)]) (by decide) rfl ?_
  intro p e s m args below meth c s₁ B hml hv
  obtain ⟨⟨hargs, rfl, hU, hP, hD, hZ⟩, hNc⟩ := hv
  have hx := B.exec
  have hb := B.bytes
  have hrt := B.returns
  have hts : ∀ w ∈ wsL_law, w.before args s = true := fun w hw => atoms_spec (ws := (.codeWith yL_distance cL_distance 6 (some .int) [(0, 12, 15, 13), (0, 12, 19, 29)] :: wsL_law)) B.pre w (List.mem_cons_of_mem _ hw)
  have htb : c.exceptionTable.toList = [⟨0, 12, 15, 13⟩, ⟨0, 12, 19, 29⟩] := vx_table (x := yL_distance) B (atoms_spec (ws := (.codeWith yL_distance cL_distance 6 (some .int) [(0, 12, 15, 13), (0, 12, 19, 29)] :: wsL_law)) B.pre _ List.mem_cons_self)
  have hlocks := B.notSynchronized
  have E : CallFix p m c cL_distance 6 s args wsL_law RL := ⟨hx, hb, hml, findClass_of_methodNamed B.named, hts⟩
  have hB : sB D G (sA ad r n s.heap.size) s.heap ad r v n x s.heap [] := ⟨hP, sD_self hD, va_S.rf⟩
  have hgo : sGo r n ad r n ad := sGo.rf
  have hl := lv_entry ([.ref (ad 0), .int x1, .int x2, .int x3, .ref (ad 170)]) (n := 6) (Nat.le_of_ble_eq_true rfl)
  refine W.eq (g2 := F0 m 0 ((lg_sl ([.ref (ad 0), .int x1, .int x2, .int x3, .ref (ad 170)]) ++ List.replicate (6 - (lg_sl ([.ref (ad 0), .int x1, .int x2, .int x3, .ref (ad 170)])).length) Slot.unset).toArray) []) (by rw [hargs]; exact lg_entry_eq _ _ _) ?_
  generalize (lg_sl ([.ref (ad 0), .int x1, .int x2, .int x3, .ref (ad 170)]) ++ List.replicate (6 - (lg_sl ([.ref (ad 0), .int x1, .int x2, .int x3, .ref (ad 170)])).length) Slot.unset).toArray = ls at hl ⊢
  have hl : lv_has ls 6 [(0, .ref (ad 0)), (1, .int x1), (2, .int x2), (3, .int x3), (4, .ref (ad 170))] := hl
  refine W_00 (n := n) ?_
  have hf := (fL_distance.eq_1 ..).symm.trans hf
  refine lv_aload hx hb dL_distance_0 (lv_at hl 4 rfl) ?_
  refine lv_iconst hx hb dL_distance_2 rfl ?_
  refine lv_aload_n hx hb dL_distance_3 rfl (lv_at hl 0 rfl) ?_
  refine lv_iload_n hx hb dL_distance_4 rfl (lv_at hl 1 rfl) ?_
  refine lv_iload_n hx hb dL_distance_5 rfl (lv_at hl 2 rfl) ?_
  refine lv_iload_n hx hb dL_distance_6 rfl (lv_at hl 3 rfl) ?_
  refine sc_Ci hB hgo ⟨Nat.le_refl _, Nat.le_refl _⟩ hf he (fun q9 h9 hc9 => rV_T (As := [.int x1, .int x2, .int x3]) (rest := [.int 0, .ref (ad 170)]) E hU hZ (fun q h => Or.inr h) hB sc8 (slt hsh hn 0 rfl) rfl (mX6_distance l K hst D G ad r v n x hsh hn x1 x2 x3 _ _ h9) (cwGV 3 okX6_distance wmL_31 hts rfl rfl ⟨Nat.le_of_ble_eq_true rfl, Nat.le_of_ble_eq_true rfl⟩) rfl hl.1 (Nat.le_of_ble_eq_true rfl) dL_distance_7 hc9 rfl) (fun ke b r v n1 hg he ad1 hgo1 hn1 cells slots hc hs H locs hB q9 ce hce hcv hcl => ?_) (fun y r v n1 rez hf he ad1 hg1 hn1 cells slots hc hs H locs hB => ?_)
  · by_cases hk1 : ke = 1
    · subst hk1
      have hg := ite_t hg rfl
      cases hg
      refine vx_catch (name := "java/lang/IndexOutOfBoundsException") E.2.2.2.1 [] ⟨0, 12, 15, 13⟩ [⟨0, 12, 19, 29⟩] htb (fun z hz => nomatch hz) (by decide) (by decide) (hts _ wcL_13) (va_Nw.use rfl (hU.2.2.2.2.1 (exn 1) (by decide))) hce hcv hcl ?_
      refine lv_astore hx hb dL_distance_15 hl (Nat.le_of_ble_eq_true rfl) rfl (fun ls hl => ?_)
      refine lv_iconst hx hb dL_distance_17 rfl ?_
      exact s_iretL E hrt hlocks hB hgo1 he hc hs dL_distance_18
    · by_cases hk4 : ke = 4
      · subst hk4
        have hg := ite_f hg (by decide)
        have hg := ite_t hg rfl
        cases hg
        refine vx_catch (name := "java/util/NoSuchElementException") E.2.2.2.1 [⟨0, 12, 15, 13⟩] ⟨0, 12, 19, 29⟩ [] htb (by
          intro z hz
          simp only [List.mem_cons, List.not_mem_nil, or_false] at hz
          subst hz
          exact Or.inr ⟨(by decide), _, hts _ wcL_13, hNc (4, 1) (by decide)⟩) (by decide) (by decide) (hts _ wcL_29) (va_Nw.use rfl (hU.2.2.2.2.1 (exn 4) (by decide))) hce hcv hcl ?_
        refine lv_astore hx hb dL_distance_19 hl (Nat.le_of_ble_eq_true rfl) rfl (fun ls hl => ?_)
        refine lv_iconst hx hb dL_distance_21 rfl ?_
        exact s_iretL E hrt hlocks hB hgo1 he hc hs dL_distance_22
      · have hg := ite_f hg hk1
        have hg := ite_f hg hk4
        cases hg
  · rw [← (hg1.2 170 (slt hsh hn 170 rfl)).2]
    refine lv_i2l hx hb dL_distance_10 rfl ?_
    refine s_last E hU hB (hg1.2 _ (slt hsh hn 170 rfl)).1 dL_distance_11 (fun H locs hB => ?_)
    refine lv_goto hx hb dL_distance_12 rfl ?_
    refine lv_iconst hx hb dL_distance_23 rfl ?_
    cases hf
    exact s_iretL E hrt hlocks hB (hgo.trans hg1) he hc hs dL_distance_24
set_option maxRecDepth 100000 in
set_option maxHeartbeats 4000000 in
theorem mL_flow (l : Launch) (K : Nat) (hst : l.stackTraces = false) (D : va_G) (G : Nat → ClassId) (ad : Nat → Nat) (r : sR) (v : sV) (n : Nat) (x : Int64 × UInt64) (hsh : sSh r) (hn : 172 ≤ n) (x1 : Int32) (x2 : Int32) (x3 : Int32) : sML l yL_flow (.codeWith yL_flow cL_flow 6 (some .int) [(0, 12, 15, 13), (0, 12, 19, 29)] :: wsL_law) rmL D G ad r v n x [.ref (ad 0), .int x1, .int x2, .int x3, .ref (ad 170)] (fL_flow K x1 x2 x3 r v n x) := by
  intro sz0 q0 hf
  obtain ⟨fin, he⟩ : ∃ fin, fin = fz n q0 := ⟨_, rfl⟩
  rw [← he]
  refine vx_ofWH (cc := cL_flow) (maxL := 6) (ret := (some .int)) (hh := [(0, 12, 15, 13), (0, 12, 19, 29)]) (by decide) rfl ?_
  intro p e s m args below meth c s₁ B hml hv
  obtain ⟨⟨hargs, rfl, hU, hP, hD, hZ⟩, hNc⟩ := hv
  have hx := B.exec
  have hb := B.bytes
  have hrt := B.returns
  have hts : ∀ w ∈ wsL_law, w.before args s = true := fun w hw => atoms_spec (ws := (.codeWith yL_flow cL_flow 6 (some .int) [(0, 12, 15, 13), (0, 12, 19, 29)] :: wsL_law)) B.pre w (List.mem_cons_of_mem _ hw)
  have htb : c.exceptionTable.toList = [⟨0, 12, 15, 13⟩, ⟨0, 12, 19, 29⟩] := vx_table (x := yL_flow) B (atoms_spec (ws := (.codeWith yL_flow cL_flow 6 (some .int) [(0, 12, 15, 13), (0, 12, 19, 29)] :: wsL_law)) B.pre _ List.mem_cons_self)
  have hlocks := B.notSynchronized
  have E : CallFix p m c cL_flow 6 s args wsL_law RL := ⟨hx, hb, hml, findClass_of_methodNamed B.named, hts⟩
  have hB : sB D G (sA ad r n s.heap.size) s.heap ad r v n x s.heap [] := ⟨hP, sD_self hD, va_S.rf⟩
  have hgo : sGo r n ad r n ad := sGo.rf
  have hl := lv_entry ([.ref (ad 0), .int x1, .int x2, .int x3, .ref (ad 170)]) (n := 6) (Nat.le_of_ble_eq_true rfl)
  refine W.eq (g2 := F0 m 0 ((lg_sl ([.ref (ad 0), .int x1, .int x2, .int x3, .ref (ad 170)]) ++ List.replicate (6 - (lg_sl ([.ref (ad 0), .int x1, .int x2, .int x3, .ref (ad 170)])).length) Slot.unset).toArray) []) (by rw [hargs]; exact lg_entry_eq _ _ _) ?_
  generalize (lg_sl ([.ref (ad 0), .int x1, .int x2, .int x3, .ref (ad 170)]) ++ List.replicate (6 - (lg_sl ([.ref (ad 0), .int x1, .int x2, .int x3, .ref (ad 170)])).length) Slot.unset).toArray = ls at hl ⊢
  have hl : lv_has ls 6 [(0, .ref (ad 0)), (1, .int x1), (2, .int x2), (3, .int x3), (4, .ref (ad 170))] := hl
  refine W_00 (n := n) ?_
  have hf := (fL_flow.eq_1 ..).symm.trans hf
  refine lv_aload hx hb dL_flow_0 (lv_at hl 4 rfl) ?_
  refine lv_iconst hx hb dL_flow_2 rfl ?_
  refine lv_aload_n hx hb dL_flow_3 rfl (lv_at hl 0 rfl) ?_
  refine lv_iload_n hx hb dL_flow_4 rfl (lv_at hl 1 rfl) ?_
  refine lv_iload_n hx hb dL_flow_5 rfl (lv_at hl 2 rfl) ?_
  refine lv_iload_n hx hb dL_flow_6 rfl (lv_at hl 3 rfl) ?_
  refine sc_Ci hB hgo ⟨Nat.le_refl _, Nat.le_refl _⟩ hf he (fun q9 h9 hc9 => rV_T (As := [.int x1, .int x2, .int x3]) (rest := [.int 0, .ref (ad 170)]) E hU hZ (fun q h => Or.inr h) hB sc8 (slt hsh hn 0 rfl) rfl (mX6_flow l K hst D G ad r v n x hsh hn x1 x2 x3 _ _ h9) (cwGV 3 okX6_flow wmL_34 hts rfl rfl ⟨Nat.le_of_ble_eq_true rfl, Nat.le_of_ble_eq_true rfl⟩) rfl hl.1 (Nat.le_of_ble_eq_true rfl) dL_flow_7 hc9 rfl) (fun ke b r v n1 hg he ad1 hgo1 hn1 cells slots hc hs H locs hB q9 ce hce hcv hcl => ?_) (fun y r v n1 rez hf he ad1 hg1 hn1 cells slots hc hs H locs hB => ?_)
  · by_cases hk1 : ke = 1
    · subst hk1
      have hg := ite_t hg rfl
      cases hg
      refine vx_catch (name := "java/lang/IndexOutOfBoundsException") E.2.2.2.1 [] ⟨0, 12, 15, 13⟩ [⟨0, 12, 19, 29⟩] htb (fun z hz => nomatch hz) (by decide) (by decide) (hts _ wcL_13) (va_Nw.use rfl (hU.2.2.2.2.1 (exn 1) (by decide))) hce hcv hcl ?_
      refine lv_astore hx hb dL_flow_15 hl (Nat.le_of_ble_eq_true rfl) rfl (fun ls hl => ?_)
      refine lv_iconst hx hb dL_flow_17 rfl ?_
      exact s_iretL E hrt hlocks hB hgo1 he hc hs dL_flow_18
    · by_cases hk4 : ke = 4
      · subst hk4
        have hg := ite_f hg (by decide)
        have hg := ite_t hg rfl
        cases hg
        refine vx_catch (name := "java/util/NoSuchElementException") E.2.2.2.1 [⟨0, 12, 15, 13⟩] ⟨0, 12, 19, 29⟩ [] htb (by
          intro z hz
          simp only [List.mem_cons, List.not_mem_nil, or_false] at hz
          subst hz
          exact Or.inr ⟨(by decide), _, hts _ wcL_13, hNc (4, 1) (by decide)⟩) (by decide) (by decide) (hts _ wcL_29) (va_Nw.use rfl (hU.2.2.2.2.1 (exn 4) (by decide))) hce hcv hcl ?_
        refine lv_astore hx hb dL_flow_19 hl (Nat.le_of_ble_eq_true rfl) rfl (fun ls hl => ?_)
        refine lv_iconst hx hb dL_flow_21 rfl ?_
        exact s_iretL E hrt hlocks hB hgo1 he hc hs dL_flow_22
      · have hg := ite_f hg hk1
        have hg := ite_f hg hk4
        cases hg
  · rw [← (hg1.2 170 (slt hsh hn 170 rfl)).2]
    refine lv_i2l hx hb dL_flow_10 rfl ?_
    refine s_last E hU hB (hg1.2 _ (slt hsh hn 170 rfl)).1 dL_flow_11 (fun H locs hB => ?_)
    refine lv_goto hx hb dL_flow_12 rfl ?_
    refine lv_iconst hx hb dL_flow_23 rfl ?_
    cases hf
    exact s_iretL E hrt hlocks hB (hgo.trans hg1) he hc hs dL_flow_24
set_option maxRecDepth 100000 in
set_option maxHeartbeats 4000000 in
theorem mL_steps (l : Launch) (K : Nat) (hst : l.stackTraces = false) (D : va_G) (G : Nat → ClassId) (ad : Nat → Nat) (r : sR) (v : sV) (n : Nat) (x : Int64 × UInt64) (hsh : sSh r) (hn : 172 ≤ n) (x1 : Int32) (x2 : Int32) (x3 : Int32) : sML l yL_steps (.codeWith yL_steps cL_steps 6 (some .int) [(0, 12, 15, 13), (0, 12, 19, 29)] :: wsL_law) rmL D G ad r v n x [.ref (ad 0), .int x1, .int x2, .int x3, .ref (ad 170)] (fL_steps K x1 x2 x3 r v n x) := by
  intro sz0 q0 hf
  obtain ⟨fin, he⟩ : ∃ fin, fin = fz n q0 := ⟨_, rfl⟩
  rw [← he]
  refine vx_ofWH (cc := cL_steps) (maxL := 6) (ret := (some .int)) (hh := [(0, 12, 15, 13), (0, 12, 19, 29)]) (by decide) rfl ?_
  intro p e s m args below meth c s₁ B hml hv
  obtain ⟨⟨hargs, rfl, hU, hP, hD, hZ⟩, hNc⟩ := hv
  have hx := B.exec
  have hb := B.bytes
  have hrt := B.returns
  have hts : ∀ w ∈ wsL_law, w.before args s = true := fun w hw => atoms_spec (ws := (.codeWith yL_steps cL_steps 6 (some .int) [(0, 12, 15, 13), (0, 12, 19, 29)] :: wsL_law)) B.pre w (List.mem_cons_of_mem _ hw)
  have htb : c.exceptionTable.toList = [⟨0, 12, 15, 13⟩, ⟨0, 12, 19, 29⟩] := vx_table (x := yL_steps) B (atoms_spec (ws := (.codeWith yL_steps cL_steps 6 (some .int) [(0, 12, 15, 13), (0, 12, 19, 29)] :: wsL_law)) B.pre _ List.mem_cons_self)
  have hlocks := B.notSynchronized
  have E : CallFix p m c cL_steps 6 s args wsL_law RL := ⟨hx, hb, hml, findClass_of_methodNamed B.named, hts⟩
  have hB : sB D G (sA ad r n s.heap.size) s.heap ad r v n x s.heap [] := ⟨hP, sD_self hD, va_S.rf⟩
  have hgo : sGo r n ad r n ad := sGo.rf
  have hl := lv_entry ([.ref (ad 0), .int x1, .int x2, .int x3, .ref (ad 170)]) (n := 6) (Nat.le_of_ble_eq_true rfl)
  refine W.eq (g2 := F0 m 0 ((lg_sl ([.ref (ad 0), .int x1, .int x2, .int x3, .ref (ad 170)]) ++ List.replicate (6 - (lg_sl ([.ref (ad 0), .int x1, .int x2, .int x3, .ref (ad 170)])).length) Slot.unset).toArray) []) (by rw [hargs]; exact lg_entry_eq _ _ _) ?_
  generalize (lg_sl ([.ref (ad 0), .int x1, .int x2, .int x3, .ref (ad 170)]) ++ List.replicate (6 - (lg_sl ([.ref (ad 0), .int x1, .int x2, .int x3, .ref (ad 170)])).length) Slot.unset).toArray = ls at hl ⊢
  have hl : lv_has ls 6 [(0, .ref (ad 0)), (1, .int x1), (2, .int x2), (3, .int x3), (4, .ref (ad 170))] := hl
  refine W_00 (n := n) ?_
  have hf := (fL_steps.eq_1 ..).symm.trans hf
  refine lv_aload hx hb dL_steps_0 (lv_at hl 4 rfl) ?_
  refine lv_iconst hx hb dL_steps_2 rfl ?_
  refine lv_aload_n hx hb dL_steps_3 rfl (lv_at hl 0 rfl) ?_
  refine lv_iload_n hx hb dL_steps_4 rfl (lv_at hl 1 rfl) ?_
  refine lv_iload_n hx hb dL_steps_5 rfl (lv_at hl 2 rfl) ?_
  refine lv_iload_n hx hb dL_steps_6 rfl (lv_at hl 3 rfl) ?_
  refine sc_Ci hB hgo ⟨Nat.le_refl _, Nat.le_refl _⟩ hf he (fun q9 h9 hc9 => rV_T (As := [.int x1, .int x2, .int x3]) (rest := [.int 0, .ref (ad 170)]) E hU hZ (fun q h => Or.inr h) hB sc8 (slt hsh hn 0 rfl) rfl (mX6_steps l K hst D G ad r v n x hsh hn x1 x2 x3 _ _ h9) (cwGV 3 okX6_steps wmL_37 hts rfl rfl ⟨Nat.le_of_ble_eq_true rfl, Nat.le_of_ble_eq_true rfl⟩) rfl hl.1 (Nat.le_of_ble_eq_true rfl) dL_steps_7 hc9 rfl) (fun ke b r v n1 hg he ad1 hgo1 hn1 cells slots hc hs H locs hB q9 ce hce hcv hcl => ?_) (fun y r v n1 rez hf he ad1 hg1 hn1 cells slots hc hs H locs hB => ?_)
  · by_cases hk1 : ke = 1
    · subst hk1
      have hg := ite_t hg rfl
      cases hg
      refine vx_catch (name := "java/lang/IndexOutOfBoundsException") E.2.2.2.1 [] ⟨0, 12, 15, 13⟩ [⟨0, 12, 19, 29⟩] htb (fun z hz => nomatch hz) (by decide) (by decide) (hts _ wcL_13) (va_Nw.use rfl (hU.2.2.2.2.1 (exn 1) (by decide))) hce hcv hcl ?_
      refine lv_astore hx hb dL_steps_15 hl (Nat.le_of_ble_eq_true rfl) rfl (fun ls hl => ?_)
      refine lv_iconst hx hb dL_steps_17 rfl ?_
      exact s_iretL E hrt hlocks hB hgo1 he hc hs dL_steps_18
    · by_cases hk4 : ke = 4
      · subst hk4
        have hg := ite_f hg (by decide)
        have hg := ite_t hg rfl
        cases hg
        refine vx_catch (name := "java/util/NoSuchElementException") E.2.2.2.1 [⟨0, 12, 15, 13⟩] ⟨0, 12, 19, 29⟩ [] htb (by
          intro z hz
          simp only [List.mem_cons, List.not_mem_nil, or_false] at hz
          subst hz
          exact Or.inr ⟨(by decide), _, hts _ wcL_13, hNc (4, 1) (by decide)⟩) (by decide) (by decide) (hts _ wcL_29) (va_Nw.use rfl (hU.2.2.2.2.1 (exn 4) (by decide))) hce hcv hcl ?_
        refine lv_astore hx hb dL_steps_19 hl (Nat.le_of_ble_eq_true rfl) rfl (fun ls hl => ?_)
        refine lv_iconst hx hb dL_steps_21 rfl ?_
        exact s_iretL E hrt hlocks hB hgo1 he hc hs dL_steps_22
      · have hg := ite_f hg hk1
        have hg := ite_f hg hk4
        cases hg
  · rw [← (hg1.2 170 (slt hsh hn 170 rfl)).2]
    refine lv_i2l hx hb dL_steps_10 rfl ?_
    refine s_last E hU hB (hg1.2 _ (slt hsh hn 170 rfl)).1 dL_steps_11 (fun H locs hB => ?_)
    refine lv_goto hx hb dL_steps_12 rfl ?_
    refine lv_iconst hx hb dL_steps_23 rfl ?_
    cases hf
    exact s_iretL E hrt hlocks hB (hgo.trans hg1) he hc hs dL_steps_24
set_option maxRecDepth 100000 in
set_option maxHeartbeats 4000000 in
theorem mL_setPatience (l : Launch) (K : Nat) (hst : l.stackTraces = false) (D : va_G) (G : Nat → ClassId) (ad : Nat → Nat) (r : sR) (v : sV) (n : Nat) (x : Int64 × UInt64) (hsh : sSh r) (hn : 172 ≤ n) (x1 : Int32) : sML l yL_setPatience (.codeWith yL_setPatience cL_setPatience 4 (some .int) [(0, 9, 12, 15)] :: wsL_law) rmL D G ad r v n x [.ref (ad 0), .int x1, .ref (ad 170)] (fL_setPatience K x1 r v n x) := by
  intro sz0 q0 hf
  obtain ⟨fin, he⟩ : ∃ fin, fin = fz n q0 := ⟨_, rfl⟩
  rw [← he]
  refine vx_ofWH (cc := cL_setPatience) (maxL := 4) (ret := (some .int)) (hh := [(0, 9, 12, 15)]) (by decide) rfl ?_
  intro p e s m args below meth c s₁ B hml hv
  obtain ⟨⟨hargs, rfl, hU, hP, hD, hZ⟩, hNc⟩ := hv
  have hx := B.exec
  have hb := B.bytes
  have hrt := B.returns
  have hts : ∀ w ∈ wsL_law, w.before args s = true := fun w hw => atoms_spec (ws := (.codeWith yL_setPatience cL_setPatience 4 (some .int) [(0, 9, 12, 15)] :: wsL_law)) B.pre w (List.mem_cons_of_mem _ hw)
  have htb : c.exceptionTable.toList = [⟨0, 9, 12, 15⟩] := vx_table (x := yL_setPatience) B (atoms_spec (ws := (.codeWith yL_setPatience cL_setPatience 4 (some .int) [(0, 9, 12, 15)] :: wsL_law)) B.pre _ List.mem_cons_self)
  have hlocks := B.notSynchronized
  have E : CallFix p m c cL_setPatience 4 s args wsL_law RL := ⟨hx, hb, hml, findClass_of_methodNamed B.named, hts⟩
  have hB : sB D G (sA ad r n s.heap.size) s.heap ad r v n x s.heap [] := ⟨hP, sD_self hD, va_S.rf⟩
  have hgo : sGo r n ad r n ad := sGo.rf
  have hl := lv_entry ([.ref (ad 0), .int x1, .ref (ad 170)]) (n := 4) (Nat.le_of_ble_eq_true rfl)
  refine W.eq (g2 := F0 m 0 ((lg_sl ([.ref (ad 0), .int x1, .ref (ad 170)]) ++ List.replicate (4 - (lg_sl ([.ref (ad 0), .int x1, .ref (ad 170)])).length) Slot.unset).toArray) []) (by rw [hargs]; exact lg_entry_eq _ _ _) ?_
  generalize (lg_sl ([.ref (ad 0), .int x1, .ref (ad 170)]) ++ List.replicate (4 - (lg_sl ([.ref (ad 0), .int x1, .ref (ad 170)])).length) Slot.unset).toArray = ls at hl ⊢
  have hl : lv_has ls 4 [(0, .ref (ad 0)), (1, .int x1), (2, .ref (ad 170))] := hl
  refine W_00 (n := n) ?_
  have hf := (fL_setPatience.eq_1 ..).symm.trans hf
  refine lv_aload_n hx hb dL_setPatience_0 rfl (lv_at hl 2 rfl) ?_
  refine lv_iconst hx hb dL_setPatience_1 rfl ?_
  refine lv_aload_n hx hb dL_setPatience_2 rfl (lv_at hl 0 rfl) ?_
  refine lv_iload_n hx hb dL_setPatience_3 rfl (lv_at hl 1 rfl) ?_
  refine sc_Ci hB hgo ⟨Nat.le_refl _, Nat.le_refl _⟩ hf he (fun q9 h9 hc9 => rV_T (As := [.int x1]) (rest := [.int 0, .ref (ad 170)]) E hU hZ (fun q h => Or.inr h) hB sc8 (slt hsh hn 0 rfl) rfl (mX6_setPatience l K hst D G ad r v n x hsh hn x1 _ _ h9) (cwGV 1 okX6_setPatience wmL_40 hts rfl rfl ⟨Nat.le_of_ble_eq_true rfl, Nat.le_of_ble_eq_true rfl⟩) rfl hl.1 (Nat.le_of_ble_eq_true rfl) dL_setPatience_4 hc9 rfl) (fun ke b r v n1 hg he ad1 hgo1 hn1 cells slots hc hs H locs hB q9 ce hce hcv hcl => ?_) (fun y r v n1 rez hf he ad1 hg1 hn1 cells slots hc hs H locs hB => ?_)
  · by_cases hk2 : ke = 2
    · subst hk2
      have hg := ite_t hg rfl
      cases hg
      refine vx_catch (name := "java/lang/IllegalArgumentException") E.2.2.2.1 [] ⟨0, 9, 12, 15⟩ [] htb (fun z hz => nomatch hz) (by decide) (by decide) (hts _ wcL_15) (va_Nw.use rfl (hU.2.2.2.2.1 (exn 2) (by decide))) hce hcv hcl ?_
      refine lv_astore_n hx hb dL_setPatience_12 rfl hl (Nat.le_of_ble_eq_true rfl) rfl (fun ls hl => ?_)
      refine lv_iconst hx hb dL_setPatience_13 rfl ?_
      exact s_iretL E hrt hlocks hB hgo1 he hc hs dL_setPatience_14
    · have hg := ite_f hg hk2
      cases hg
  · rw [← (hg1.2 170 (slt hsh hn 170 rfl)).2]
    refine lv_i2l hx hb dL_setPatience_7 rfl ?_
    refine s_last E hU hB (hg1.2 _ (slt hsh hn 170 rfl)).1 dL_setPatience_8 (fun H locs hB => ?_)
    refine lv_goto hx hb dL_setPatience_9 rfl ?_
    refine lv_iconst hx hb dL_setPatience_15 rfl ?_
    cases hf
    exact s_iretL E hrt hlocks hB (hgo.trans hg1) he hc hs dL_setPatience_16
set_option maxRecDepth 100000 in
set_option maxHeartbeats 4000000 in
theorem mL_add (l : Launch) (K : Nat) (hst : l.stackTraces = false) (D : va_G) (G : Nat → ClassId) (ad : Nat → Nat) (r : sR) (v : sV) (n : Nat) (x : Int64 × UInt64) (hsh : sSh r) (hn : 172 ≤ n) (x1 : Int32) (x2 : Int32) (x3 : Int32) (x4 : Int32) : sML l yL_add (.codeWith yL_add cL_add 7 (some .int) [(0, 14, 17, 13), (0, 14, 21, 15), (0, 14, 25, 17)] :: wsL_law) rmL D G ad r v n x [.ref (ad 0), .int x1, .int x2, .int x3, .int x4, .ref (ad 170)] (fL_add K x1 x2 x3 x4 r v n x) := by
  intro sz0 q0 hf
  obtain ⟨fin, he⟩ : ∃ fin, fin = fz n q0 := ⟨_, rfl⟩
  rw [← he]
  refine vx_ofWH (cc := cL_add) (maxL := 7) (ret := (some .int)) (hh := [(0, 14, 17, 13), (0, 14, 21, 15), (0, 14, 25, 17)]) (by decide) rfl ?_
  intro p e s m args below meth c s₁ B hml hv
  obtain ⟨⟨hargs, rfl, hU, hP, hD, hZ⟩, hNc⟩ := hv
  have hx := B.exec
  have hb := B.bytes
  have hrt := B.returns
  have hts : ∀ w ∈ wsL_law, w.before args s = true := fun w hw => atoms_spec (ws := (.codeWith yL_add cL_add 7 (some .int) [(0, 14, 17, 13), (0, 14, 21, 15), (0, 14, 25, 17)] :: wsL_law)) B.pre w (List.mem_cons_of_mem _ hw)
  have htb : c.exceptionTable.toList = [⟨0, 14, 17, 13⟩, ⟨0, 14, 21, 15⟩, ⟨0, 14, 25, 17⟩] := vx_table (x := yL_add) B (atoms_spec (ws := (.codeWith yL_add cL_add 7 (some .int) [(0, 14, 17, 13), (0, 14, 21, 15), (0, 14, 25, 17)] :: wsL_law)) B.pre _ List.mem_cons_self)
  have hlocks := B.notSynchronized
  have E : CallFix p m c cL_add 7 s args wsL_law RL := ⟨hx, hb, hml, findClass_of_methodNamed B.named, hts⟩
  have hB : sB D G (sA ad r n s.heap.size) s.heap ad r v n x s.heap [] := ⟨hP, sD_self hD, va_S.rf⟩
  have hgo : sGo r n ad r n ad := sGo.rf
  have hl := lv_entry ([.ref (ad 0), .int x1, .int x2, .int x3, .int x4, .ref (ad 170)]) (n := 7) (Nat.le_of_ble_eq_true rfl)
  refine W.eq (g2 := F0 m 0 ((lg_sl ([.ref (ad 0), .int x1, .int x2, .int x3, .int x4, .ref (ad 170)]) ++ List.replicate (7 - (lg_sl ([.ref (ad 0), .int x1, .int x2, .int x3, .int x4, .ref (ad 170)])).length) Slot.unset).toArray) []) (by rw [hargs]; exact lg_entry_eq _ _ _) ?_
  generalize (lg_sl ([.ref (ad 0), .int x1, .int x2, .int x3, .int x4, .ref (ad 170)]) ++ List.replicate (7 - (lg_sl ([.ref (ad 0), .int x1, .int x2, .int x3, .int x4, .ref (ad 170)])).length) Slot.unset).toArray = ls at hl ⊢
  have hl : lv_has ls 7 [(0, .ref (ad 0)), (1, .int x1), (2, .int x2), (3, .int x3), (4, .int x4), (5, .ref (ad 170))] := hl
  refine W_00 (n := n) ?_
  have hf := (fL_add.eq_1 ..).symm.trans hf
  refine lv_aload hx hb dL_add_0 (lv_at hl 5 rfl) ?_
  refine lv_iconst hx hb dL_add_2 rfl ?_
  refine lv_aload_n hx hb dL_add_3 rfl (lv_at hl 0 rfl) ?_
  refine lv_iload_n hx hb dL_add_4 rfl (lv_at hl 1 rfl) ?_
  refine lv_iload_n hx hb dL_add_5 rfl (lv_at hl 2 rfl) ?_
  refine lv_iload_n hx hb dL_add_6 rfl (lv_at hl 3 rfl) ?_
  refine lv_iload hx hb dL_add_7 (lv_at hl 4 rfl) ?_
  refine sc_Ci hB hgo ⟨Nat.le_refl _, Nat.le_refl _⟩ hf he (fun q9 h9 hc9 => rV_T (As := [.int x1, .int x2, .int x3, .int x4]) (rest := [.int 0, .ref (ad 170)]) E hU hZ (fun q h => Or.inr h) hB sc8 (slt hsh hn 0 rfl) rfl (mX6_add l K hst D G ad r v n x hsh hn x1 x2 x3 x4 _ _ h9) (cwGV 4 okX6_add wmL_43 hts rfl rfl ⟨Nat.le_of_ble_eq_true rfl, Nat.le_of_ble_eq_true rfl⟩) rfl hl.1 (Nat.le_of_ble_eq_true rfl) dL_add_9 hc9 rfl) (fun ke b r v n1 hg he ad1 hgo1 hn1 cells slots hc hs H locs hB q9 ce hce hcv hcl => ?_) (fun y r v n1 rez hf he ad1 hg1 hn1 cells slots hc hs H locs hB => ?_)
  · by_cases hk1 : ke = 1
    · subst hk1
      have hg := ite_t hg rfl
      cases hg
      refine vx_catch (name := "java/lang/IndexOutOfBoundsException") E.2.2.2.1 [] ⟨0, 14, 17, 13⟩ [⟨0, 14, 21, 15⟩, ⟨0, 14, 25, 17⟩] htb (fun z hz => nomatch hz) (by decide) (by decide) (hts _ wcL_13) (va_Nw.use rfl (hU.2.2.2.2.1 (exn 1) (by decide))) hce hcv hcl ?_
      refine lv_astore hx hb dL_add_17 hl (Nat.le_of_ble_eq_true rfl) rfl (fun ls hl => ?_)
      refine lv_iconst hx hb dL_add_19 rfl ?_
      exact s_iretL E hrt hlocks hB hgo1 he hc hs dL_add_20
    · by_cases hk2 : ke = 2
      · subst hk2
        have hg := ite_f hg (by decide)
        have hg := ite_t hg rfl
        cases hg
        refine vx_catch (name := "java/lang/IllegalArgumentException") E.2.2.2.1 [⟨0, 14, 17, 13⟩] ⟨0, 14, 21, 15⟩ [⟨0, 14, 25, 17⟩] htb (by
          intro z hz
          simp only [List.mem_cons, List.not_mem_nil, or_false] at hz
          subst hz
          exact Or.inr ⟨(by decide), _, hts _ wcL_13, hNc (2, 1) (by decide)⟩) (by decide) (by decide) (hts _ wcL_15) (va_Nw.use rfl (hU.2.2.2.2.1 (exn 2) (by decide))) hce hcv hcl ?_
        refine lv_astore hx hb dL_add_21 hl (Nat.le_of_ble_eq_true rfl) rfl (fun ls hl => ?_)
        refine lv_iconst hx hb dL_add_23 rfl ?_
        exact s_iretL E hrt hlocks hB hgo1 he hc hs dL_add_24
      · by_cases hk3 : ke = 3
        · subst hk3
          have hg := ite_f hg (by decide)
          have hg := ite_f hg (by decide)
          have hg := ite_t hg rfl
          cases hg
          refine vx_catch (name := "java/lang/IllegalStateException") E.2.2.2.1 [⟨0, 14, 17, 13⟩, ⟨0, 14, 21, 15⟩] ⟨0, 14, 25, 17⟩ [] htb (by
            intro z hz
            simp only [List.mem_cons, List.not_mem_nil, or_false] at hz
            rcases hz with rfl | rfl
            · exact Or.inr ⟨(by decide), _, hts _ wcL_13, hNc (3, 1) (by decide)⟩
            · exact Or.inr ⟨(by decide), _, hts _ wcL_15, hNc (3, 2) (by decide)⟩) (by decide) (by decide) (hts _ wcL_17) (va_Nw.use rfl (hU.2.2.2.2.1 (exn 3) (by decide))) hce hcv hcl ?_
          refine lv_astore hx hb dL_add_25 hl (Nat.le_of_ble_eq_true rfl) rfl (fun ls hl => ?_)
          refine lv_iconst hx hb dL_add_27 rfl ?_
          exact s_iretL E hrt hlocks hB hgo1 he hc hs dL_add_28
        · have hg := ite_f hg hk1
          have hg := ite_f hg hk2
          have hg := ite_f hg hk3
          cases hg
  · rw [← (hg1.2 170 (slt hsh hn 170 rfl)).2]
    refine lv_i2l hx hb dL_add_12 rfl ?_
    refine s_last E hU hB (hg1.2 _ (slt hsh hn 170 rfl)).1 dL_add_13 (fun H locs hB => ?_)
    refine lv_goto hx hb dL_add_14 rfl ?_
    refine lv_iconst hx hb dL_add_29 rfl ?_
    cases hf
    exact s_iretL E hrt hlocks hB (hgo.trans hg1) he hc hs dL_add_30
set_option maxRecDepth 100000 in
set_option maxHeartbeats 4000000 in
theorem mL_remove (l : Launch) (K : Nat) (hst : l.stackTraces = false) (D : va_G) (G : Nat → ClassId) (ad : Nat → Nat) (r : sR) (v : sV) (n : Nat) (x : Int64 × UInt64) (hsh : sSh r) (hn : 172 ≤ n) (x1 : Int32) : sML l yL_remove (.codeWith yL_remove cL_remove 4 (some .int) [(0, 9, 12, 13)] :: wsL_law) rmL D G ad r v n x [.ref (ad 0), .int x1, .ref (ad 170)] (fL_remove K x1 r v n x) := by
  intro sz0 q0 hf
  obtain ⟨fin, he⟩ : ∃ fin, fin = fz n q0 := ⟨_, rfl⟩
  rw [← he]
  refine vx_ofWH (cc := cL_remove) (maxL := 4) (ret := (some .int)) (hh := [(0, 9, 12, 13)]) (by decide) rfl ?_
  intro p e s m args below meth c s₁ B hml hv
  obtain ⟨⟨hargs, rfl, hU, hP, hD, hZ⟩, hNc⟩ := hv
  have hx := B.exec
  have hb := B.bytes
  have hrt := B.returns
  have hts : ∀ w ∈ wsL_law, w.before args s = true := fun w hw => atoms_spec (ws := (.codeWith yL_remove cL_remove 4 (some .int) [(0, 9, 12, 13)] :: wsL_law)) B.pre w (List.mem_cons_of_mem _ hw)
  have htb : c.exceptionTable.toList = [⟨0, 9, 12, 13⟩] := vx_table (x := yL_remove) B (atoms_spec (ws := (.codeWith yL_remove cL_remove 4 (some .int) [(0, 9, 12, 13)] :: wsL_law)) B.pre _ List.mem_cons_self)
  have hlocks := B.notSynchronized
  have E : CallFix p m c cL_remove 4 s args wsL_law RL := ⟨hx, hb, hml, findClass_of_methodNamed B.named, hts⟩
  have hB : sB D G (sA ad r n s.heap.size) s.heap ad r v n x s.heap [] := ⟨hP, sD_self hD, va_S.rf⟩
  have hgo : sGo r n ad r n ad := sGo.rf
  have hl := lv_entry ([.ref (ad 0), .int x1, .ref (ad 170)]) (n := 4) (Nat.le_of_ble_eq_true rfl)
  refine W.eq (g2 := F0 m 0 ((lg_sl ([.ref (ad 0), .int x1, .ref (ad 170)]) ++ List.replicate (4 - (lg_sl ([.ref (ad 0), .int x1, .ref (ad 170)])).length) Slot.unset).toArray) []) (by rw [hargs]; exact lg_entry_eq _ _ _) ?_
  generalize (lg_sl ([.ref (ad 0), .int x1, .ref (ad 170)]) ++ List.replicate (4 - (lg_sl ([.ref (ad 0), .int x1, .ref (ad 170)])).length) Slot.unset).toArray = ls at hl ⊢
  have hl : lv_has ls 4 [(0, .ref (ad 0)), (1, .int x1), (2, .ref (ad 170))] := hl
  refine W_00 (n := n) ?_
  have hf := (fL_remove.eq_1 ..).symm.trans hf
  refine lv_aload_n hx hb dL_remove_0 rfl (lv_at hl 2 rfl) ?_
  refine lv_iconst hx hb dL_remove_1 rfl ?_
  refine lv_aload_n hx hb dL_remove_2 rfl (lv_at hl 0 rfl) ?_
  refine lv_iload_n hx hb dL_remove_3 rfl (lv_at hl 1 rfl) ?_
  refine sc_Ci hB hgo ⟨Nat.le_refl _, Nat.le_refl _⟩ hf he (fun q9 h9 hc9 => rV_T (As := [.int x1]) (rest := [.int 0, .ref (ad 170)]) E hU hZ (fun q h => Or.inr h) hB sc8 (slt hsh hn 0 rfl) rfl (mX6_remove l K hst D G ad r v n x hsh hn x1 _ _ h9) (cwGV 1 okX6_remove wmL_47 hts rfl rfl ⟨Nat.le_of_ble_eq_true rfl, Nat.le_of_ble_eq_true rfl⟩) rfl hl.1 (Nat.le_of_ble_eq_true rfl) dL_remove_4 hc9 rfl) (fun ke b r v n1 hg he ad1 hgo1 hn1 cells slots hc hs H locs hB q9 ce hce hcv hcl => ?_) (fun y r v n1 rez hf he ad1 hg1 hn1 cells slots hc hs H locs hB => ?_)
  · by_cases hk1 : ke = 1
    · subst hk1
      have hg := ite_t hg rfl
      cases hg
      refine vx_catch (name := "java/lang/IndexOutOfBoundsException") E.2.2.2.1 [] ⟨0, 9, 12, 13⟩ [] htb (fun z hz => nomatch hz) (by decide) (by decide) (hts _ wcL_13) (va_Nw.use rfl (hU.2.2.2.2.1 (exn 1) (by decide))) hce hcv hcl ?_
      refine lv_astore_n hx hb dL_remove_12 rfl hl (Nat.le_of_ble_eq_true rfl) rfl (fun ls hl => ?_)
      refine lv_iconst hx hb dL_remove_13 rfl ?_
      exact s_iretL E hrt hlocks hB hgo1 he hc hs dL_remove_14
    · have hg := ite_f hg hk1
      cases hg
  · rw [← (hg1.2 170 (slt hsh hn 170 rfl)).2]
    refine lv_i2l hx hb dL_remove_7 rfl ?_
    refine s_last E hU hB (hg1.2 _ (slt hsh hn 170 rfl)).1 dL_remove_8 (fun H locs hB => ?_)
    refine lv_goto hx hb dL_remove_9 rfl ?_
    refine lv_iconst hx hb dL_remove_15 rfl ?_
    cases hf
    exact s_iretL E hrt hlocks hB (hgo.trans hg1) he hc hs dL_remove_16
set_option maxRecDepth 100000 in
set_option maxHeartbeats 4000000 in
theorem mL_change (l : Launch) (K : Nat) (hst : l.stackTraces = false) (D : va_G) (G : Nat → ClassId) (ad : Nat → Nat) (r : sR) (v : sV) (n : Nat) (x : Int64 × UInt64) (hsh : sSh r) (hn : 172 ≤ n) (x1 : Int32) (x2 : Int32) (x3 : Int32) : sML l yL_change (.codeWith yL_change cL_change 6 (some .int) [(0, 12, 15, 13), (0, 12, 19, 15)] :: wsL_law) rmL D G ad r v n x [.ref (ad 0), .int x1, .int x2, .int x3, .ref (ad 170)] (fL_change K x1 x2 x3 r v n x) := by
  intro sz0 q0 hf
  obtain ⟨fin, he⟩ : ∃ fin, fin = fz n q0 := ⟨_, rfl⟩
  rw [← he]
  refine vx_ofWH (cc := cL_change) (maxL := 6) (ret := (some .int)) (hh := [(0, 12, 15, 13), (0, 12, 19, 15)]) (by decide) rfl ?_
  intro p e s m args below meth c s₁ B hml hv
  obtain ⟨⟨hargs, rfl, hU, hP, hD, hZ⟩, hNc⟩ := hv
  have hx := B.exec
  have hb := B.bytes
  have hrt := B.returns
  have hts : ∀ w ∈ wsL_law, w.before args s = true := fun w hw => atoms_spec (ws := (.codeWith yL_change cL_change 6 (some .int) [(0, 12, 15, 13), (0, 12, 19, 15)] :: wsL_law)) B.pre w (List.mem_cons_of_mem _ hw)
  have htb : c.exceptionTable.toList = [⟨0, 12, 15, 13⟩, ⟨0, 12, 19, 15⟩] := vx_table (x := yL_change) B (atoms_spec (ws := (.codeWith yL_change cL_change 6 (some .int) [(0, 12, 15, 13), (0, 12, 19, 15)] :: wsL_law)) B.pre _ List.mem_cons_self)
  have hlocks := B.notSynchronized
  have E : CallFix p m c cL_change 6 s args wsL_law RL := ⟨hx, hb, hml, findClass_of_methodNamed B.named, hts⟩
  have hB : sB D G (sA ad r n s.heap.size) s.heap ad r v n x s.heap [] := ⟨hP, sD_self hD, va_S.rf⟩
  have hgo : sGo r n ad r n ad := sGo.rf
  have hl := lv_entry ([.ref (ad 0), .int x1, .int x2, .int x3, .ref (ad 170)]) (n := 6) (Nat.le_of_ble_eq_true rfl)
  refine W.eq (g2 := F0 m 0 ((lg_sl ([.ref (ad 0), .int x1, .int x2, .int x3, .ref (ad 170)]) ++ List.replicate (6 - (lg_sl ([.ref (ad 0), .int x1, .int x2, .int x3, .ref (ad 170)])).length) Slot.unset).toArray) []) (by rw [hargs]; exact lg_entry_eq _ _ _) ?_
  generalize (lg_sl ([.ref (ad 0), .int x1, .int x2, .int x3, .ref (ad 170)]) ++ List.replicate (6 - (lg_sl ([.ref (ad 0), .int x1, .int x2, .int x3, .ref (ad 170)])).length) Slot.unset).toArray = ls at hl ⊢
  have hl : lv_has ls 6 [(0, .ref (ad 0)), (1, .int x1), (2, .int x2), (3, .int x3), (4, .ref (ad 170))] := hl
  refine W_00 (n := n) ?_
  have hf := (fL_change.eq_1 ..).symm.trans hf
  refine lv_aload hx hb dL_change_0 (lv_at hl 4 rfl) ?_
  refine lv_iconst hx hb dL_change_2 rfl ?_
  refine lv_aload_n hx hb dL_change_3 rfl (lv_at hl 0 rfl) ?_
  refine lv_iload_n hx hb dL_change_4 rfl (lv_at hl 1 rfl) ?_
  refine lv_iload_n hx hb dL_change_5 rfl (lv_at hl 2 rfl) ?_
  refine lv_iload_n hx hb dL_change_6 rfl (lv_at hl 3 rfl) ?_
  refine sc_Ci hB hgo ⟨Nat.le_refl _, Nat.le_refl _⟩ hf he (fun q9 h9 hc9 => rV_T (As := [.int x1, .int x2, .int x3]) (rest := [.int 0, .ref (ad 170)]) E hU hZ (fun q h => Or.inr h) hB sc8 (slt hsh hn 0 rfl) rfl (mX6_change l K hst D G ad r v n x hsh hn x1 x2 x3 _ _ h9) (cwGV 3 okX6_change wmL_50 hts rfl rfl ⟨Nat.le_of_ble_eq_true rfl, Nat.le_of_ble_eq_true rfl⟩) rfl hl.1 (Nat.le_of_ble_eq_true rfl) dL_change_7 hc9 rfl) (fun ke b r v n1 hg he ad1 hgo1 hn1 cells slots hc hs H locs hB q9 ce hce hcv hcl => ?_) (fun y r v n1 rez hf he ad1 hg1 hn1 cells slots hc hs H locs hB => ?_)
  · by_cases hk1 : ke = 1
    · subst hk1
      have hg := ite_t hg rfl
      cases hg
      refine vx_catch (name := "java/lang/IndexOutOfBoundsException") E.2.2.2.1 [] ⟨0, 12, 15, 13⟩ [⟨0, 12, 19, 15⟩] htb (fun z hz => nomatch hz) (by decide) (by decide) (hts _ wcL_13) (va_Nw.use rfl (hU.2.2.2.2.1 (exn 1) (by decide))) hce hcv hcl ?_
      refine lv_astore hx hb dL_change_15 hl (Nat.le_of_ble_eq_true rfl) rfl (fun ls hl => ?_)
      refine lv_iconst hx hb dL_change_17 rfl ?_
      exact s_iretL E hrt hlocks hB hgo1 he hc hs dL_change_18
    · by_cases hk2 : ke = 2
      · subst hk2
        have hg := ite_f hg (by decide)
        have hg := ite_t hg rfl
        cases hg
        refine vx_catch (name := "java/lang/IllegalArgumentException") E.2.2.2.1 [⟨0, 12, 15, 13⟩] ⟨0, 12, 19, 15⟩ [] htb (by
          intro z hz
          simp only [List.mem_cons, List.not_mem_nil, or_false] at hz
          subst hz
          exact Or.inr ⟨(by decide), _, hts _ wcL_13, hNc (2, 1) (by decide)⟩) (by decide) (by decide) (hts _ wcL_15) (va_Nw.use rfl (hU.2.2.2.2.1 (exn 2) (by decide))) hce hcv hcl ?_
        refine lv_astore hx hb dL_change_19 hl (Nat.le_of_ble_eq_true rfl) rfl (fun ls hl => ?_)
        refine lv_iconst hx hb dL_change_21 rfl ?_
        exact s_iretL E hrt hlocks hB hgo1 he hc hs dL_change_22
      · have hg := ite_f hg hk1
        have hg := ite_f hg hk2
        cases hg
  · rw [← (hg1.2 170 (slt hsh hn 170 rfl)).2]
    refine lv_i2l hx hb dL_change_10 rfl ?_
    refine s_last E hU hB (hg1.2 _ (slt hsh hn 170 rfl)).1 dL_change_11 (fun H locs hB => ?_)
    refine lv_goto hx hb dL_change_12 rfl ?_
    refine lv_iconst hx hb dL_change_23 rfl ?_
    cases hf
    exact s_iretL E hrt hlocks hB (hgo.trans hg1) he hc hs dL_change_24
set_option maxRecDepth 100000 in
set_option maxHeartbeats 4000000 in
theorem mL_agent (l : Launch) (K : Nat) (hst : l.stackTraces = false) (D : va_G) (G : Nat → ClassId) (ad : Nat → Nat) (r : sR) (v : sV) (n : Nat) (x : Int64 × UInt64) (hsh : sSh r) (hn : 172 ≤ n) (x1 : Int32) (x2 : Int32) : sML l yL_agent (.codeWith yL_agent cL_agent 5 (some .int) [(0, 10, 13, 13), (0, 10, 17, 15)] :: wsL_law) rmL D G ad r v n x [.ref (ad 0), .int x1, .int x2, .ref (ad 170)] (fL_agent K x1 x2 r v n x) := by
  intro sz0 q0 hf
  obtain ⟨fin, he⟩ : ∃ fin, fin = fz n q0 := ⟨_, rfl⟩
  rw [← he]
  refine vx_ofWH (cc := cL_agent) (maxL := 5) (ret := (some .int)) (hh := [(0, 10, 13, 13), (0, 10, 17, 15)]) (by decide) rfl ?_
  intro p e s m args below meth c s₁ B hml hv
  obtain ⟨⟨hargs, rfl, hU, hP, hD, hZ⟩, hNc⟩ := hv
  have hx := B.exec
  have hb := B.bytes
  have hrt := B.returns
  have hts : ∀ w ∈ wsL_law, w.before args s = true := fun w hw => atoms_spec (ws := (.codeWith yL_agent cL_agent 5 (some .int) [(0, 10, 13, 13), (0, 10, 17, 15)] :: wsL_law)) B.pre w (List.mem_cons_of_mem _ hw)
  have htb : c.exceptionTable.toList = [⟨0, 10, 13, 13⟩, ⟨0, 10, 17, 15⟩] := vx_table (x := yL_agent) B (atoms_spec (ws := (.codeWith yL_agent cL_agent 5 (some .int) [(0, 10, 13, 13), (0, 10, 17, 15)] :: wsL_law)) B.pre _ List.mem_cons_self)
  have hlocks := B.notSynchronized
  have E : CallFix p m c cL_agent 5 s args wsL_law RL := ⟨hx, hb, hml, findClass_of_methodNamed B.named, hts⟩
  have hB : sB D G (sA ad r n s.heap.size) s.heap ad r v n x s.heap [] := ⟨hP, sD_self hD, va_S.rf⟩
  have hgo : sGo r n ad r n ad := sGo.rf
  have hl := lv_entry ([.ref (ad 0), .int x1, .int x2, .ref (ad 170)]) (n := 5) (Nat.le_of_ble_eq_true rfl)
  refine W.eq (g2 := F0 m 0 ((lg_sl ([.ref (ad 0), .int x1, .int x2, .ref (ad 170)]) ++ List.replicate (5 - (lg_sl ([.ref (ad 0), .int x1, .int x2, .ref (ad 170)])).length) Slot.unset).toArray) []) (by rw [hargs]; exact lg_entry_eq _ _ _) ?_
  generalize (lg_sl ([.ref (ad 0), .int x1, .int x2, .ref (ad 170)]) ++ List.replicate (5 - (lg_sl ([.ref (ad 0), .int x1, .int x2, .ref (ad 170)])).length) Slot.unset).toArray = ls at hl ⊢
  have hl : lv_has ls 5 [(0, .ref (ad 0)), (1, .int x1), (2, .int x2), (3, .ref (ad 170))] := hl
  refine W_00 (n := n) ?_
  have hf := (fL_agent.eq_1 ..).symm.trans hf
  refine lv_aload_n hx hb dL_agent_0 rfl (lv_at hl 3 rfl) ?_
  refine lv_iconst hx hb dL_agent_1 rfl ?_
  refine lv_aload_n hx hb dL_agent_2 rfl (lv_at hl 0 rfl) ?_
  refine lv_iload_n hx hb dL_agent_3 rfl (lv_at hl 1 rfl) ?_
  refine lv_iload_n hx hb dL_agent_4 rfl (lv_at hl 2 rfl) ?_
  refine sc_Ci hB hgo ⟨Nat.le_refl _, Nat.le_refl _⟩ hf he (fun q9 h9 hc9 => rV_T (As := [.int x1, .int x2]) (rest := [.int 0, .ref (ad 170)]) E hU hZ (fun q h => Or.inr h) hB sc8 (slt hsh hn 0 rfl) rfl (mX6_agent l K hst D G ad r v n x hsh hn x1 x2 _ _ h9) (cwGV 2 okX6_agent wmL_54 hts rfl rfl ⟨Nat.le_of_ble_eq_true rfl, Nat.le_of_ble_eq_true rfl⟩) rfl hl.1 (Nat.le_of_ble_eq_true rfl) dL_agent_5 hc9 rfl) (fun ke b r v n1 hg he ad1 hgo1 hn1 cells slots hc hs H locs hB q9 ce hce hcv hcl => ?_) (fun y r v n1 rez hf he ad1 hg1 hn1 cells slots hc hs H locs hB => ?_)
  · by_cases hk1 : ke = 1
    · subst hk1
      have hg := ite_t hg rfl
      cases hg
      refine vx_catch (name := "java/lang/IndexOutOfBoundsException") E.2.2.2.1 [] ⟨0, 10, 13, 13⟩ [⟨0, 10, 17, 15⟩] htb (fun z hz => nomatch hz) (by decide) (by decide) (hts _ wcL_13) (va_Nw.use rfl (hU.2.2.2.2.1 (exn 1) (by decide))) hce hcv hcl ?_
      refine lv_astore hx hb dL_agent_13 hl (Nat.le_of_ble_eq_true rfl) rfl (fun ls hl => ?_)
      refine lv_iconst hx hb dL_agent_15 rfl ?_
      exact s_iretL E hrt hlocks hB hgo1 he hc hs dL_agent_16
    · by_cases hk2 : ke = 2
      · subst hk2
        have hg := ite_f hg (by decide)
        have hg := ite_t hg rfl
        cases hg
        refine vx_catch (name := "java/lang/IllegalArgumentException") E.2.2.2.1 [⟨0, 10, 13, 13⟩] ⟨0, 10, 17, 15⟩ [] htb (by
          intro z hz
          simp only [List.mem_cons, List.not_mem_nil, or_false] at hz
          subst hz
          exact Or.inr ⟨(by decide), _, hts _ wcL_13, hNc (2, 1) (by decide)⟩) (by decide) (by decide) (hts _ wcL_15) (va_Nw.use rfl (hU.2.2.2.2.1 (exn 2) (by decide))) hce hcv hcl ?_
        refine lv_astore hx hb dL_agent_17 hl (Nat.le_of_ble_eq_true rfl) rfl (fun ls hl => ?_)
        refine lv_iconst hx hb dL_agent_19 rfl ?_
        exact s_iretL E hrt hlocks hB hgo1 he hc hs dL_agent_20
      · have hg := ite_f hg hk1
        have hg := ite_f hg hk2
        cases hg
  · rw [← (hg1.2 170 (slt hsh hn 170 rfl)).2]
    refine lv_i2l hx hb dL_agent_8 rfl ?_
    refine s_last E hU hB (hg1.2 _ (slt hsh hn 170 rfl)).1 dL_agent_9 (fun H locs hB => ?_)
    refine lv_goto hx hb dL_agent_10 rfl ?_
    refine lv_iconst hx hb dL_agent_21 rfl ?_
    cases hf
    exact s_iretL E hrt hlocks hB (hgo.trans hg1) he hc hs dL_agent_22
set_option maxRecDepth 100000 in
set_option maxHeartbeats 4000000 in
theorem mL_agents (l : Launch) (K : Nat) (hst : l.stackTraces = false) (D : va_G) (G : Nat → ClassId) (ad : Nat → Nat) (r : sR) (v : sV) (n : Nat) (x : Int64 × UInt64) (hsh : sSh r) (hn : 172 ≤ n) (x1 : Int32) : sML l yL_agents (.codeWith yL_agents cL_agents 4 (some .int) [(0, 9, 12, 15)] :: wsL_law) rmL D G ad r v n x [.ref (ad 0), .int x1, .ref (ad 170)] (fL_agents K x1 r v n x) := by
  intro sz0 q0 hf
  obtain ⟨fin, he⟩ : ∃ fin, fin = fz n q0 := ⟨_, rfl⟩
  rw [← he]
  refine vx_ofWH (cc := cL_agents) (maxL := 4) (ret := (some .int)) (hh := [(0, 9, 12, 15)]) (by decide) rfl ?_
  intro p e s m args below meth c s₁ B hml hv
  obtain ⟨⟨hargs, rfl, hU, hP, hD, hZ⟩, hNc⟩ := hv
  have hx := B.exec
  have hb := B.bytes
  have hrt := B.returns
  have hts : ∀ w ∈ wsL_law, w.before args s = true := fun w hw => atoms_spec (ws := (.codeWith yL_agents cL_agents 4 (some .int) [(0, 9, 12, 15)] :: wsL_law)) B.pre w (List.mem_cons_of_mem _ hw)
  have htb : c.exceptionTable.toList = [⟨0, 9, 12, 15⟩] := vx_table (x := yL_agents) B (atoms_spec (ws := (.codeWith yL_agents cL_agents 4 (some .int) [(0, 9, 12, 15)] :: wsL_law)) B.pre _ List.mem_cons_self)
  have hlocks := B.notSynchronized
  have E : CallFix p m c cL_agents 4 s args wsL_law RL := ⟨hx, hb, hml, findClass_of_methodNamed B.named, hts⟩
  have hB : sB D G (sA ad r n s.heap.size) s.heap ad r v n x s.heap [] := ⟨hP, sD_self hD, va_S.rf⟩
  have hgo : sGo r n ad r n ad := sGo.rf
  have hl := lv_entry ([.ref (ad 0), .int x1, .ref (ad 170)]) (n := 4) (Nat.le_of_ble_eq_true rfl)
  refine W.eq (g2 := F0 m 0 ((lg_sl ([.ref (ad 0), .int x1, .ref (ad 170)]) ++ List.replicate (4 - (lg_sl ([.ref (ad 0), .int x1, .ref (ad 170)])).length) Slot.unset).toArray) []) (by rw [hargs]; exact lg_entry_eq _ _ _) ?_
  generalize (lg_sl ([.ref (ad 0), .int x1, .ref (ad 170)]) ++ List.replicate (4 - (lg_sl ([.ref (ad 0), .int x1, .ref (ad 170)])).length) Slot.unset).toArray = ls at hl ⊢
  have hl : lv_has ls 4 [(0, .ref (ad 0)), (1, .int x1), (2, .ref (ad 170))] := hl
  refine W_00 (n := n) ?_
  have hf := (fL_agents.eq_1 ..).symm.trans hf
  refine lv_aload_n hx hb dL_agents_0 rfl (lv_at hl 2 rfl) ?_
  refine lv_iconst hx hb dL_agents_1 rfl ?_
  refine lv_aload_n hx hb dL_agents_2 rfl (lv_at hl 0 rfl) ?_
  refine lv_iload_n hx hb dL_agents_3 rfl (lv_at hl 1 rfl) ?_
  refine sc_Ci hB hgo ⟨Nat.le_refl _, Nat.le_refl _⟩ hf he (fun q9 h9 hc9 => rV_T (As := [.int x1]) (rest := [.int 0, .ref (ad 170)]) E hU hZ (fun q h => Or.inr h) hB sc8 (slt hsh hn 0 rfl) rfl (mX6_agents l K hst D G ad r v n x hsh hn x1 _ _ h9) (cwGV 1 okX6_agents wmL_58 hts rfl rfl ⟨Nat.le_of_ble_eq_true rfl, Nat.le_of_ble_eq_true rfl⟩) rfl hl.1 (Nat.le_of_ble_eq_true rfl) dL_agents_4 hc9 rfl) (fun ke b r v n1 hg he ad1 hgo1 hn1 cells slots hc hs H locs hB q9 ce hce hcv hcl => ?_) (fun y r v n1 rez hf he ad1 hg1 hn1 cells slots hc hs H locs hB => ?_)
  · by_cases hk2 : ke = 2
    · subst hk2
      have hg := ite_t hg rfl
      cases hg
      refine vx_catch (name := "java/lang/IllegalArgumentException") E.2.2.2.1 [] ⟨0, 9, 12, 15⟩ [] htb (fun z hz => nomatch hz) (by decide) (by decide) (hts _ wcL_15) (va_Nw.use rfl (hU.2.2.2.2.1 (exn 2) (by decide))) hce hcv hcl ?_
      refine lv_astore_n hx hb dL_agents_12 rfl hl (Nat.le_of_ble_eq_true rfl) rfl (fun ls hl => ?_)
      refine lv_iconst hx hb dL_agents_13 rfl ?_
      exact s_iretL E hrt hlocks hB hgo1 he hc hs dL_agents_14
    · have hg := ite_f hg hk2
      cases hg
  · rw [← (hg1.2 170 (slt hsh hn 170 rfl)).2]
    refine lv_i2l hx hb dL_agents_7 rfl ?_
    refine s_last E hU hB (hg1.2 _ (slt hsh hn 170 rfl)).1 dL_agents_8 (fun H locs hB => ?_)
    refine lv_goto hx hb dL_agents_9 rfl ?_
    refine lv_iconst hx hb dL_agents_15 rfl ?_
    cases hf
    exact s_iretL E hrt hlocks hB (hgo.trans hg1) he hc hs dL_agents_16
set_option maxRecDepth 100000 in
set_option maxHeartbeats 4000000 in
theorem mL_join (l : Launch) (K : Nat) (hst : l.stackTraces = false) (D : va_G) (G : Nat → ClassId) (ad : Nat → Nat) (r : sR) (v : sV) (n : Nat) (x : Int64 × UInt64) (hsh : sSh r) (hn : 172 ≤ n) (x1 : Int32) (x2 : Int32) (x3 : Int32) (x4 : Int32) : sML l yL_join (.codeWith yL_join cL_join 7 (some .int) [(0, 14, 17, 13), (0, 14, 21, 15), (0, 14, 25, 17)] :: wsL_law) rmL D G ad r v n x [.ref (ad 0), .int x1, .int x2, .int x3, .int x4, .ref (ad 170)] (fL_join K x1 x2 x3 x4 r v n x) := by
  intro sz0 q0 hf
  obtain ⟨fin, he⟩ : ∃ fin, fin = fz n q0 := ⟨_, rfl⟩
  rw [← he]
  refine vx_ofWH (cc := cL_join) (maxL := 7) (ret := (some .int)) (hh := [(0, 14, 17, 13), (0, 14, 21, 15), (0, 14, 25, 17)]) (by decide) rfl ?_
  intro p e s m args below meth c s₁ B hml hv
  obtain ⟨⟨hargs, rfl, hU, hP, hD, hZ⟩, hNc⟩ := hv
  have hx := B.exec
  have hb := B.bytes
  have hrt := B.returns
  have hts : ∀ w ∈ wsL_law, w.before args s = true := fun w hw => atoms_spec (ws := (.codeWith yL_join cL_join 7 (some .int) [(0, 14, 17, 13), (0, 14, 21, 15), (0, 14, 25, 17)] :: wsL_law)) B.pre w (List.mem_cons_of_mem _ hw)
  have htb : c.exceptionTable.toList = [⟨0, 14, 17, 13⟩, ⟨0, 14, 21, 15⟩, ⟨0, 14, 25, 17⟩] := vx_table (x := yL_join) B (atoms_spec (ws := (.codeWith yL_join cL_join 7 (some .int) [(0, 14, 17, 13), (0, 14, 21, 15), (0, 14, 25, 17)] :: wsL_law)) B.pre _ List.mem_cons_self)
  have hlocks := B.notSynchronized
  have E : CallFix p m c cL_join 7 s args wsL_law RL := ⟨hx, hb, hml, findClass_of_methodNamed B.named, hts⟩
  have hB : sB D G (sA ad r n s.heap.size) s.heap ad r v n x s.heap [] := ⟨hP, sD_self hD, va_S.rf⟩
  have hgo : sGo r n ad r n ad := sGo.rf
  have hl := lv_entry ([.ref (ad 0), .int x1, .int x2, .int x3, .int x4, .ref (ad 170)]) (n := 7) (Nat.le_of_ble_eq_true rfl)
  refine W.eq (g2 := F0 m 0 ((lg_sl ([.ref (ad 0), .int x1, .int x2, .int x3, .int x4, .ref (ad 170)]) ++ List.replicate (7 - (lg_sl ([.ref (ad 0), .int x1, .int x2, .int x3, .int x4, .ref (ad 170)])).length) Slot.unset).toArray) []) (by rw [hargs]; exact lg_entry_eq _ _ _) ?_
  generalize (lg_sl ([.ref (ad 0), .int x1, .int x2, .int x3, .int x4, .ref (ad 170)]) ++ List.replicate (7 - (lg_sl ([.ref (ad 0), .int x1, .int x2, .int x3, .int x4, .ref (ad 170)])).length) Slot.unset).toArray = ls at hl ⊢
  have hl : lv_has ls 7 [(0, .ref (ad 0)), (1, .int x1), (2, .int x2), (3, .int x3), (4, .int x4), (5, .ref (ad 170))] := hl
  refine W_00 (n := n) ?_
  have hf := (fL_join.eq_1 ..).symm.trans hf
  refine lv_aload hx hb dL_join_0 (lv_at hl 5 rfl) ?_
  refine lv_iconst hx hb dL_join_2 rfl ?_
  refine lv_aload_n hx hb dL_join_3 rfl (lv_at hl 0 rfl) ?_
  refine lv_iload_n hx hb dL_join_4 rfl (lv_at hl 1 rfl) ?_
  refine lv_iload_n hx hb dL_join_5 rfl (lv_at hl 2 rfl) ?_
  refine lv_iload_n hx hb dL_join_6 rfl (lv_at hl 3 rfl) ?_
  refine lv_iload hx hb dL_join_7 (lv_at hl 4 rfl) ?_
  refine sc_Ci hB hgo ⟨Nat.le_refl _, Nat.le_refl _⟩ hf he (fun q9 h9 hc9 => rV_T (As := [.int x1, .int x2, .int x3, .int x4]) (rest := [.int 0, .ref (ad 170)]) E hU hZ (fun q h => Or.inr h) hB sc8 (slt hsh hn 0 rfl) rfl (mX6_join l K hst D G ad r v n x hsh hn x1 x2 x3 x4 _ _ h9) (cwGV 4 okX6_join wmL_61 hts rfl rfl ⟨Nat.le_of_ble_eq_true rfl, Nat.le_of_ble_eq_true rfl⟩) rfl hl.1 (Nat.le_of_ble_eq_true rfl) dL_join_9 hc9 rfl) (fun ke b r v n1 hg he ad1 hgo1 hn1 cells slots hc hs H locs hB q9 ce hce hcv hcl => ?_) (fun y r v n1 rez hf he ad1 hg1 hn1 cells slots hc hs H locs hB => ?_)
  · by_cases hk1 : ke = 1
    · subst hk1
      have hg := ite_t hg rfl
      cases hg
      refine vx_catch (name := "java/lang/IndexOutOfBoundsException") E.2.2.2.1 [] ⟨0, 14, 17, 13⟩ [⟨0, 14, 21, 15⟩, ⟨0, 14, 25, 17⟩] htb (fun z hz => nomatch hz) (by decide) (by decide) (hts _ wcL_13) (va_Nw.use rfl (hU.2.2.2.2.1 (exn 1) (by decide))) hce hcv hcl ?_
      refine lv_astore hx hb dL_join_17 hl (Nat.le_of_ble_eq_true rfl) rfl (fun ls hl => ?_)
      refine lv_iconst hx hb dL_join_19 rfl ?_
      exact s_iretL E hrt hlocks hB hgo1 he hc hs dL_join_20
    · by_cases hk2 : ke = 2
      · subst hk2
        have hg := ite_f hg (by decide)
        have hg := ite_t hg rfl
        cases hg
        refine vx_catch (name := "java/lang/IllegalArgumentException") E.2.2.2.1 [⟨0, 14, 17, 13⟩] ⟨0, 14, 21, 15⟩ [⟨0, 14, 25, 17⟩] htb (by
          intro z hz
          simp only [List.mem_cons, List.not_mem_nil, or_false] at hz
          subst hz
          exact Or.inr ⟨(by decide), _, hts _ wcL_13, hNc (2, 1) (by decide)⟩) (by decide) (by decide) (hts _ wcL_15) (va_Nw.use rfl (hU.2.2.2.2.1 (exn 2) (by decide))) hce hcv hcl ?_
        refine lv_astore hx hb dL_join_21 hl (Nat.le_of_ble_eq_true rfl) rfl (fun ls hl => ?_)
        refine lv_iconst hx hb dL_join_23 rfl ?_
        exact s_iretL E hrt hlocks hB hgo1 he hc hs dL_join_24
      · by_cases hk3 : ke = 3
        · subst hk3
          have hg := ite_f hg (by decide)
          have hg := ite_f hg (by decide)
          have hg := ite_t hg rfl
          cases hg
          refine vx_catch (name := "java/lang/IllegalStateException") E.2.2.2.1 [⟨0, 14, 17, 13⟩, ⟨0, 14, 21, 15⟩] ⟨0, 14, 25, 17⟩ [] htb (by
            intro z hz
            simp only [List.mem_cons, List.not_mem_nil, or_false] at hz
            rcases hz with rfl | rfl
            · exact Or.inr ⟨(by decide), _, hts _ wcL_13, hNc (3, 1) (by decide)⟩
            · exact Or.inr ⟨(by decide), _, hts _ wcL_15, hNc (3, 2) (by decide)⟩) (by decide) (by decide) (hts _ wcL_17) (va_Nw.use rfl (hU.2.2.2.2.1 (exn 3) (by decide))) hce hcv hcl ?_
          refine lv_astore hx hb dL_join_25 hl (Nat.le_of_ble_eq_true rfl) rfl (fun ls hl => ?_)
          refine lv_iconst hx hb dL_join_27 rfl ?_
          exact s_iretL E hrt hlocks hB hgo1 he hc hs dL_join_28
        · have hg := ite_f hg hk1
          have hg := ite_f hg hk2
          have hg := ite_f hg hk3
          cases hg
  · rw [← (hg1.2 170 (slt hsh hn 170 rfl)).2]
    refine lv_i2l hx hb dL_join_12 rfl ?_
    refine s_last E hU hB (hg1.2 _ (slt hsh hn 170 rfl)).1 dL_join_13 (fun H locs hB => ?_)
    refine lv_goto hx hb dL_join_14 rfl ?_
    refine lv_iconst hx hb dL_join_29 rfl ?_
    cases hf
    exact s_iretL E hrt hlocks hB (hgo.trans hg1) he hc hs dL_join_30
set_option maxRecDepth 100000 in
set_option maxHeartbeats 4000000 in
theorem mL_leave (l : Launch) (K : Nat) (hst : l.stackTraces = false) (D : va_G) (G : Nat → ClassId) (ad : Nat → Nat) (r : sR) (v : sV) (n : Nat) (x : Int64 × UInt64) (hsh : sSh r) (hn : 172 ≤ n) (x1 : Int32) : sML l yL_leave (.codeWith yL_leave cL_leave 4 (some .int) [(0, 9, 12, 13), (0, 9, 15, 17)] :: wsL_law) rmL D G ad r v n x [.ref (ad 0), .int x1, .ref (ad 170)] (fL_leave K x1 r v n x) := by
  intro sz0 q0 hf
  obtain ⟨fin, he⟩ : ∃ fin, fin = fz n q0 := ⟨_, rfl⟩
  rw [← he]
  refine vx_ofWH (cc := cL_leave) (maxL := 4) (ret := (some .int)) (hh := [(0, 9, 12, 13), (0, 9, 15, 17)]) (by decide) rfl ?_
  intro p e s m args below meth c s₁ B hml hv
  obtain ⟨⟨hargs, rfl, hU, hP, hD, hZ⟩, hNc⟩ := hv
  have hx := B.exec
  have hb := B.bytes
  have hrt := B.returns
  have hts : ∀ w ∈ wsL_law, w.before args s = true := fun w hw => atoms_spec (ws := (.codeWith yL_leave cL_leave 4 (some .int) [(0, 9, 12, 13), (0, 9, 15, 17)] :: wsL_law)) B.pre w (List.mem_cons_of_mem _ hw)
  have htb : c.exceptionTable.toList = [⟨0, 9, 12, 13⟩, ⟨0, 9, 15, 17⟩] := vx_table (x := yL_leave) B (atoms_spec (ws := (.codeWith yL_leave cL_leave 4 (some .int) [(0, 9, 12, 13), (0, 9, 15, 17)] :: wsL_law)) B.pre _ List.mem_cons_self)
  have hlocks := B.notSynchronized
  have E : CallFix p m c cL_leave 4 s args wsL_law RL := ⟨hx, hb, hml, findClass_of_methodNamed B.named, hts⟩
  have hB : sB D G (sA ad r n s.heap.size) s.heap ad r v n x s.heap [] := ⟨hP, sD_self hD, va_S.rf⟩
  have hgo : sGo r n ad r n ad := sGo.rf
  have hl := lv_entry ([.ref (ad 0), .int x1, .ref (ad 170)]) (n := 4) (Nat.le_of_ble_eq_true rfl)
  refine W.eq (g2 := F0 m 0 ((lg_sl ([.ref (ad 0), .int x1, .ref (ad 170)]) ++ List.replicate (4 - (lg_sl ([.ref (ad 0), .int x1, .ref (ad 170)])).length) Slot.unset).toArray) []) (by rw [hargs]; exact lg_entry_eq _ _ _) ?_
  generalize (lg_sl ([.ref (ad 0), .int x1, .ref (ad 170)]) ++ List.replicate (4 - (lg_sl ([.ref (ad 0), .int x1, .ref (ad 170)])).length) Slot.unset).toArray = ls at hl ⊢
  have hl : lv_has ls 4 [(0, .ref (ad 0)), (1, .int x1), (2, .ref (ad 170))] := hl
  refine W_00 (n := n) ?_
  have hf := (fL_leave.eq_1 ..).symm.trans hf
  refine lv_aload_n hx hb dL_leave_0 rfl (lv_at hl 2 rfl) ?_
  refine lv_iconst hx hb dL_leave_1 rfl ?_
  refine lv_aload_n hx hb dL_leave_2 rfl (lv_at hl 0 rfl) ?_
  refine lv_iload_n hx hb dL_leave_3 rfl (lv_at hl 1 rfl) ?_
  refine sc_Ci hB hgo ⟨Nat.le_refl _, Nat.le_refl _⟩ hf he (fun q9 h9 hc9 => rV_T (As := [.int x1]) (rest := [.int 0, .ref (ad 170)]) E hU hZ (fun q h => Or.inr h) hB sc8 (slt hsh hn 0 rfl) rfl (mX6_leave l K hst D G ad r v n x hsh hn x1 _ _ h9) (cwGV 1 okX6_leave wmL_64 hts rfl rfl ⟨Nat.le_of_ble_eq_true rfl, Nat.le_of_ble_eq_true rfl⟩) rfl hl.1 (Nat.le_of_ble_eq_true rfl) dL_leave_4 hc9 rfl) (fun ke b r v n1 hg he ad1 hgo1 hn1 cells slots hc hs H locs hB q9 ce hce hcv hcl => ?_) (fun y r v n1 rez hf he ad1 hg1 hn1 cells slots hc hs H locs hB => ?_)
  · by_cases hk1 : ke = 1
    · subst hk1
      have hg := ite_t hg rfl
      cases hg
      refine vx_catch (name := "java/lang/IndexOutOfBoundsException") E.2.2.2.1 [] ⟨0, 9, 12, 13⟩ [⟨0, 9, 15, 17⟩] htb (fun z hz => nomatch hz) (by decide) (by decide) (hts _ wcL_13) (va_Nw.use rfl (hU.2.2.2.2.1 (exn 1) (by decide))) hce hcv hcl ?_
      refine lv_astore_n hx hb dL_leave_12 rfl hl (Nat.le_of_ble_eq_true rfl) rfl (fun ls hl => ?_)
      refine lv_iconst hx hb dL_leave_13 rfl ?_
      exact s_iretL E hrt hlocks hB hgo1 he hc hs dL_leave_14
    · by_cases hk3 : ke = 3
      · subst hk3
        have hg := ite_f hg (by decide)
        have hg := ite_t hg rfl
        cases hg
        refine vx_catch (name := "java/lang/IllegalStateException") E.2.2.2.1 [⟨0, 9, 12, 13⟩] ⟨0, 9, 15, 17⟩ [] htb (by
          intro z hz
          simp only [List.mem_cons, List.not_mem_nil, or_false] at hz
          subst hz
          exact Or.inr ⟨(by decide), _, hts _ wcL_13, hNc (3, 1) (by decide)⟩) (by decide) (by decide) (hts _ wcL_17) (va_Nw.use rfl (hU.2.2.2.2.1 (exn 3) (by decide))) hce hcv hcl ?_
        refine lv_astore_n hx hb dL_leave_15 rfl hl (Nat.le_of_ble_eq_true rfl) rfl (fun ls hl => ?_)
        refine lv_iconst hx hb dL_leave_16 rfl ?_
        exact s_iretL E hrt hlocks hB hgo1 he hc hs dL_leave_17
      · have hg := ite_f hg hk1
        have hg := ite_f hg hk3
        cases hg
  · rw [← (hg1.2 170 (slt hsh hn 170 rfl)).2]
    refine lv_i2l hx hb dL_leave_7 rfl ?_
    refine s_last E hU hB (hg1.2 _ (slt hsh hn 170 rfl)).1 dL_leave_8 (fun H locs hB => ?_)
    refine lv_goto hx hb dL_leave_9 rfl ?_
    refine lv_iconst hx hb dL_leave_18 rfl ?_
    cases hf
    exact s_iretL E hrt hlocks hB (hgo.trans hg1) he hc hs dL_leave_19
set_option maxRecDepth 100000 in
set_option maxHeartbeats 4000000 in
theorem mL_disorder (l : Launch) (K : Nat) (hst : l.stackTraces = false) (D : va_G) (G : Nat → ClassId) (ad : Nat → Nat) (r : sR) (v : sV) (n : Nat) (x : Int64 × UInt64) (hsh : sSh r) (hn : 172 ≤ n) (x1 : Int32) : sML l yL_disorder (.codeWith yL_disorder cL_disorder 4 (some .int) [(0, 9, 12, 13), (0, 9, 15, 17)] :: wsL_law) rmL D G ad r v n x [.ref (ad 0), .int x1, .ref (ad 170)] (fL_disorder K x1 r v n x) := by
  intro sz0 q0 hf
  obtain ⟨fin, he⟩ : ∃ fin, fin = fz n q0 := ⟨_, rfl⟩
  rw [← he]
  refine vx_ofWH (cc := cL_disorder) (maxL := 4) (ret := (some .int)) (hh := [(0, 9, 12, 13), (0, 9, 15, 17)]) (by decide) rfl ?_
  intro p e s m args below meth c s₁ B hml hv
  obtain ⟨⟨hargs, rfl, hU, hP, hD, hZ⟩, hNc⟩ := hv
  have hx := B.exec
  have hb := B.bytes
  have hrt := B.returns
  have hts : ∀ w ∈ wsL_law, w.before args s = true := fun w hw => atoms_spec (ws := (.codeWith yL_disorder cL_disorder 4 (some .int) [(0, 9, 12, 13), (0, 9, 15, 17)] :: wsL_law)) B.pre w (List.mem_cons_of_mem _ hw)
  have htb : c.exceptionTable.toList = [⟨0, 9, 12, 13⟩, ⟨0, 9, 15, 17⟩] := vx_table (x := yL_disorder) B (atoms_spec (ws := (.codeWith yL_disorder cL_disorder 4 (some .int) [(0, 9, 12, 13), (0, 9, 15, 17)] :: wsL_law)) B.pre _ List.mem_cons_self)
  have hlocks := B.notSynchronized
  have E : CallFix p m c cL_disorder 4 s args wsL_law RL := ⟨hx, hb, hml, findClass_of_methodNamed B.named, hts⟩
  have hB : sB D G (sA ad r n s.heap.size) s.heap ad r v n x s.heap [] := ⟨hP, sD_self hD, va_S.rf⟩
  have hgo : sGo r n ad r n ad := sGo.rf
  have hl := lv_entry ([.ref (ad 0), .int x1, .ref (ad 170)]) (n := 4) (Nat.le_of_ble_eq_true rfl)
  refine W.eq (g2 := F0 m 0 ((lg_sl ([.ref (ad 0), .int x1, .ref (ad 170)]) ++ List.replicate (4 - (lg_sl ([.ref (ad 0), .int x1, .ref (ad 170)])).length) Slot.unset).toArray) []) (by rw [hargs]; exact lg_entry_eq _ _ _) ?_
  generalize (lg_sl ([.ref (ad 0), .int x1, .ref (ad 170)]) ++ List.replicate (4 - (lg_sl ([.ref (ad 0), .int x1, .ref (ad 170)])).length) Slot.unset).toArray = ls at hl ⊢
  have hl : lv_has ls 4 [(0, .ref (ad 0)), (1, .int x1), (2, .ref (ad 170))] := hl
  refine W_00 (n := n) ?_
  have hf := (fL_disorder.eq_1 ..).symm.trans hf
  refine lv_aload_n hx hb dL_disorder_0 rfl (lv_at hl 2 rfl) ?_
  refine lv_iconst hx hb dL_disorder_1 rfl ?_
  refine lv_aload_n hx hb dL_disorder_2 rfl (lv_at hl 0 rfl) ?_
  refine lv_iload_n hx hb dL_disorder_3 rfl (lv_at hl 1 rfl) ?_
  refine sc_Ci hB hgo ⟨Nat.le_refl _, Nat.le_refl _⟩ hf he (fun q9 h9 hc9 => rV_T (As := [.int x1]) (rest := [.int 0, .ref (ad 170)]) E hU hZ (fun q h => Or.inr h) hB sc8 (slt hsh hn 0 rfl) rfl (mX6_disorder l K hst D G ad r v n x hsh hn x1 _ _ h9) (cwGV 1 okX6_disorder wmL_67 hts rfl rfl ⟨Nat.le_of_ble_eq_true rfl, Nat.le_of_ble_eq_true rfl⟩) rfl hl.1 (Nat.le_of_ble_eq_true rfl) dL_disorder_4 hc9 rfl) (fun ke b r v n1 hg he ad1 hgo1 hn1 cells slots hc hs H locs hB q9 ce hce hcv hcl => ?_) (fun y r v n1 rez hf he ad1 hg1 hn1 cells slots hc hs H locs hB => ?_)
  · by_cases hk1 : ke = 1
    · subst hk1
      have hg := ite_t hg rfl
      cases hg
      refine vx_catch (name := "java/lang/IndexOutOfBoundsException") E.2.2.2.1 [] ⟨0, 9, 12, 13⟩ [⟨0, 9, 15, 17⟩] htb (fun z hz => nomatch hz) (by decide) (by decide) (hts _ wcL_13) (va_Nw.use rfl (hU.2.2.2.2.1 (exn 1) (by decide))) hce hcv hcl ?_
      refine lv_astore_n hx hb dL_disorder_12 rfl hl (Nat.le_of_ble_eq_true rfl) rfl (fun ls hl => ?_)
      refine lv_iconst hx hb dL_disorder_13 rfl ?_
      exact s_iretL E hrt hlocks hB hgo1 he hc hs dL_disorder_14
    · by_cases hk3 : ke = 3
      · subst hk3
        have hg := ite_f hg (by decide)
        have hg := ite_t hg rfl
        cases hg
        refine vx_catch (name := "java/lang/IllegalStateException") E.2.2.2.1 [⟨0, 9, 12, 13⟩] ⟨0, 9, 15, 17⟩ [] htb (by
          intro z hz
          simp only [List.mem_cons, List.not_mem_nil, or_false] at hz
          subst hz
          exact Or.inr ⟨(by decide), _, hts _ wcL_13, hNc (3, 1) (by decide)⟩) (by decide) (by decide) (hts _ wcL_17) (va_Nw.use rfl (hU.2.2.2.2.1 (exn 3) (by decide))) hce hcv hcl ?_
        refine lv_astore_n hx hb dL_disorder_15 rfl hl (Nat.le_of_ble_eq_true rfl) rfl (fun ls hl => ?_)
        refine lv_iconst hx hb dL_disorder_16 rfl ?_
        exact s_iretL E hrt hlocks hB hgo1 he hc hs dL_disorder_17
      · have hg := ite_f hg hk1
        have hg := ite_f hg hk3
        cases hg
  · rw [← (hg1.2 170 (slt hsh hn 170 rfl)).2]
    refine lv_i2l hx hb dL_disorder_7 rfl ?_
    refine s_last E hU hB (hg1.2 _ (slt hsh hn 170 rfl)).1 dL_disorder_8 (fun H locs hB => ?_)
    refine lv_goto hx hb dL_disorder_9 rfl ?_
    refine lv_iconst hx hb dL_disorder_18 rfl ?_
    cases hf
    exact s_iretL E hrt hlocks hB (hgo.trans hg1) he hc hs dL_disorder_19
set_option maxRecDepth 100000 in
set_option maxHeartbeats 4000000 in
theorem mL_tick (l : Launch) (K : Nat) (hst : l.stackTraces = false) (D : va_G) (G : Nat → ClassId) (ad : Nat → Nat) (r : sR) (v : sV) (n : Nat) (x : Int64 × UInt64) (hsh : sSh r) (hn : 172 ≤ n) (x1 : Int32) : sML l yL_tick (.codeWith yL_tick cL_tick 4 (some .int) [(0, 9, 12, 15)] :: wsL_law) rmL D G ad r v n x [.ref (ad 0), .int x1, .ref (ad 170)] (fL_tick K x1 r v n x) := by
  intro sz0 q0 hf
  obtain ⟨fin, he⟩ : ∃ fin, fin = fz n q0 := ⟨_, rfl⟩
  rw [← he]
  refine vx_ofWH (cc := cL_tick) (maxL := 4) (ret := (some .int)) (hh := [(0, 9, 12, 15)]) (by decide) rfl ?_
  intro p e s m args below meth c s₁ B hml hv
  obtain ⟨⟨hargs, rfl, hU, hP, hD, hZ⟩, hNc⟩ := hv
  have hx := B.exec
  have hb := B.bytes
  have hrt := B.returns
  have hts : ∀ w ∈ wsL_law, w.before args s = true := fun w hw => atoms_spec (ws := (.codeWith yL_tick cL_tick 4 (some .int) [(0, 9, 12, 15)] :: wsL_law)) B.pre w (List.mem_cons_of_mem _ hw)
  have htb : c.exceptionTable.toList = [⟨0, 9, 12, 15⟩] := vx_table (x := yL_tick) B (atoms_spec (ws := (.codeWith yL_tick cL_tick 4 (some .int) [(0, 9, 12, 15)] :: wsL_law)) B.pre _ List.mem_cons_self)
  have hlocks := B.notSynchronized
  have E : CallFix p m c cL_tick 4 s args wsL_law RL := ⟨hx, hb, hml, findClass_of_methodNamed B.named, hts⟩
  have hB : sB D G (sA ad r n s.heap.size) s.heap ad r v n x s.heap [] := ⟨hP, sD_self hD, va_S.rf⟩
  have hgo : sGo r n ad r n ad := sGo.rf
  have hl := lv_entry ([.ref (ad 0), .int x1, .ref (ad 170)]) (n := 4) (Nat.le_of_ble_eq_true rfl)
  refine W.eq (g2 := F0 m 0 ((lg_sl ([.ref (ad 0), .int x1, .ref (ad 170)]) ++ List.replicate (4 - (lg_sl ([.ref (ad 0), .int x1, .ref (ad 170)])).length) Slot.unset).toArray) []) (by rw [hargs]; exact lg_entry_eq _ _ _) ?_
  generalize (lg_sl ([.ref (ad 0), .int x1, .ref (ad 170)]) ++ List.replicate (4 - (lg_sl ([.ref (ad 0), .int x1, .ref (ad 170)])).length) Slot.unset).toArray = ls at hl ⊢
  have hl : lv_has ls 4 [(0, .ref (ad 0)), (1, .int x1), (2, .ref (ad 170))] := hl
  refine W_00 (n := n) ?_
  have hf := (fL_tick.eq_1 ..).symm.trans hf
  refine lv_aload_n hx hb dL_tick_0 rfl (lv_at hl 2 rfl) ?_
  refine lv_iconst hx hb dL_tick_1 rfl ?_
  refine lv_aload_n hx hb dL_tick_2 rfl (lv_at hl 0 rfl) ?_
  refine lv_iload_n hx hb dL_tick_3 rfl (lv_at hl 1 rfl) ?_
  refine sc_Ci hB hgo ⟨Nat.le_refl _, Nat.le_refl _⟩ hf he (fun q9 h9 hc9 => rV_T (As := [.int x1]) (rest := [.int 0, .ref (ad 170)]) E hU hZ (fun q h => Or.inr h) hB sc8 (slt hsh hn 0 rfl) rfl (mX6_tick l K hst D G ad r v n x hsh hn x1 _ _ h9) (cwGV 1 okX6_tick wmL_70 hts rfl rfl ⟨Nat.le_of_ble_eq_true rfl, Nat.le_of_ble_eq_true rfl⟩) rfl hl.1 (Nat.le_of_ble_eq_true rfl) dL_tick_4 hc9 rfl) (fun ke b r v n1 hg he ad1 hgo1 hn1 cells slots hc hs H locs hB q9 ce hce hcv hcl => ?_) (fun y r v n1 rez hf he ad1 hg1 hn1 cells slots hc hs H locs hB => ?_)
  · by_cases hk2 : ke = 2
    · subst hk2
      have hg := ite_t hg rfl
      cases hg
      refine vx_catch (name := "java/lang/IllegalArgumentException") E.2.2.2.1 [] ⟨0, 9, 12, 15⟩ [] htb (fun z hz => nomatch hz) (by decide) (by decide) (hts _ wcL_15) (va_Nw.use rfl (hU.2.2.2.2.1 (exn 2) (by decide))) hce hcv hcl ?_
      refine lv_astore_n hx hb dL_tick_12 rfl hl (Nat.le_of_ble_eq_true rfl) rfl (fun ls hl => ?_)
      refine lv_iconst hx hb dL_tick_13 rfl ?_
      exact s_iretL E hrt hlocks hB hgo1 he hc hs dL_tick_14
    · have hg := ite_f hg hk2
      cases hg
  · rw [← (hg1.2 170 (slt hsh hn 170 rfl)).2]
    refine lv_i2l hx hb dL_tick_7 rfl ?_
    refine s_last E hU hB (hg1.2 _ (slt hsh hn 170 rfl)).1 dL_tick_8 (fun H locs hB => ?_)
    refine lv_goto hx hb dL_tick_9 rfl ?_
    refine lv_iconst hx hb dL_tick_15 rfl ?_
    cases hf
    exact s_iretL E hrt hlocks hB (hgo.trans hg1) he hc hs dL_tick_16
set_option maxRecDepth 100000 in
set_option maxHeartbeats 4000000 in
theorem mL_statistic (l : Launch) (hst : l.stackTraces = false) (D : va_G) (G : Nat → ClassId) (ad : Nat → Nat) (r : sR) (v : sV) (n : Nat) (x : Int64 × UInt64) (hsh : sSh r) (hn : 172 ≤ n) (x1 : Int32) : sML l yL_statistic (.codeWith yL_statistic cL_statistic 4 (some .int) [(0, 9, 12, 15)] :: wsL_law) rmL D G ad r v n x [.ref (ad 0), .int x1, .ref (ad 170)] (fL_statistic x1 r v n x) := by
  intro sz0 q0 hf
  obtain ⟨fin, he⟩ : ∃ fin, fin = fz n q0 := ⟨_, rfl⟩
  rw [← he]
  refine vx_ofWH (cc := cL_statistic) (maxL := 4) (ret := (some .int)) (hh := [(0, 9, 12, 15)]) (by decide) rfl ?_
  intro p e s m args below meth c s₁ B hml hv
  obtain ⟨⟨hargs, rfl, hU, hP, hD, hZ⟩, hNc⟩ := hv
  have hx := B.exec
  have hb := B.bytes
  have hrt := B.returns
  have hts : ∀ w ∈ wsL_law, w.before args s = true := fun w hw => atoms_spec (ws := (.codeWith yL_statistic cL_statistic 4 (some .int) [(0, 9, 12, 15)] :: wsL_law)) B.pre w (List.mem_cons_of_mem _ hw)
  have htb : c.exceptionTable.toList = [⟨0, 9, 12, 15⟩] := vx_table (x := yL_statistic) B (atoms_spec (ws := (.codeWith yL_statistic cL_statistic 4 (some .int) [(0, 9, 12, 15)] :: wsL_law)) B.pre _ List.mem_cons_self)
  have hlocks := B.notSynchronized
  have E : CallFix p m c cL_statistic 4 s args wsL_law RL := ⟨hx, hb, hml, findClass_of_methodNamed B.named, hts⟩
  have hB : sB D G (sA ad r n s.heap.size) s.heap ad r v n x s.heap [] := ⟨hP, sD_self hD, va_S.rf⟩
  have hgo : sGo r n ad r n ad := sGo.rf
  have hl := lv_entry ([.ref (ad 0), .int x1, .ref (ad 170)]) (n := 4) (Nat.le_of_ble_eq_true rfl)
  refine W.eq (g2 := F0 m 0 ((lg_sl ([.ref (ad 0), .int x1, .ref (ad 170)]) ++ List.replicate (4 - (lg_sl ([.ref (ad 0), .int x1, .ref (ad 170)])).length) Slot.unset).toArray) []) (by rw [hargs]; exact lg_entry_eq _ _ _) ?_
  generalize (lg_sl ([.ref (ad 0), .int x1, .ref (ad 170)]) ++ List.replicate (4 - (lg_sl ([.ref (ad 0), .int x1, .ref (ad 170)])).length) Slot.unset).toArray = ls at hl ⊢
  have hl : lv_has ls 4 [(0, .ref (ad 0)), (1, .int x1), (2, .ref (ad 170))] := hl
  refine W_00 (n := n) ?_
  have hf := (fL_statistic.eq_1 ..).symm.trans hf
  refine lv_aload_n hx hb dL_statistic_0 rfl (lv_at hl 2 rfl) ?_
  refine lv_iconst hx hb dL_statistic_1 rfl ?_
  refine lv_aload_n hx hb dL_statistic_2 rfl (lv_at hl 0 rfl) ?_
  refine lv_iload_n hx hb dL_statistic_3 rfl (lv_at hl 1 rfl) ?_
  refine sc_Ci hB hgo ⟨Nat.le_refl _, Nat.le_refl _⟩ hf he (fun q9 h9 hc9 => rV_T (As := [.int x1]) (rest := [.int 0, .ref (ad 170)]) E hU hZ (fun q h => Or.inr h) hB sc8 (slt hsh hn 0 rfl) rfl (mX6_statistic l hst D G ad r v n x hsh hn x1 _ _ h9) (cwGV 1 okX6_statistic wmL_73 hts rfl rfl ⟨Nat.le_of_ble_eq_true rfl, Nat.le_of_ble_eq_true rfl⟩) rfl hl.1 (Nat.le_of_ble_eq_true rfl) dL_statistic_4 hc9 rfl) (fun ke b r v n1 hg he ad1 hgo1 hn1 cells slots hc hs H locs hB q9 ce hce hcv hcl => ?_) (fun y r v n1 rez hf he ad1 hg1 hn1 cells slots hc hs H locs hB => ?_)
  · by_cases hk2 : ke = 2
    · subst hk2
      have hg := ite_t hg rfl
      cases hg
      refine vx_catch (name := "java/lang/IllegalArgumentException") E.2.2.2.1 [] ⟨0, 9, 12, 15⟩ [] htb (fun z hz => nomatch hz) (by decide) (by decide) (hts _ wcL_15) (va_Nw.use rfl (hU.2.2.2.2.1 (exn 2) (by decide))) hce hcv hcl ?_
      refine lv_astore_n hx hb dL_statistic_12 rfl hl (Nat.le_of_ble_eq_true rfl) rfl (fun ls hl => ?_)
      refine lv_iconst hx hb dL_statistic_13 rfl ?_
      exact s_iretL E hrt hlocks hB hgo1 he hc hs dL_statistic_14
    · have hg := ite_f hg hk2
      cases hg
  · rw [← (hg1.2 170 (slt hsh hn 170 rfl)).2]
    refine lv_i2l hx hb dL_statistic_7 rfl ?_
    refine s_last E hU hB (hg1.2 _ (slt hsh hn 170 rfl)).1 dL_statistic_8 (fun H locs hB => ?_)
    refine lv_goto hx hb dL_statistic_9 rfl ?_
    refine lv_iconst hx hb dL_statistic_15 rfl ?_
    cases hf
    exact s_iretL E hrt hlocks hB (hgo.trans hg1) he hc hs dL_statistic_16
set_option maxRecDepth 100000 in
set_option maxHeartbeats 4000000 in
theorem mL_forecast (l : Launch) (K : Nat) (hst : l.stackTraces = false) (D : va_G) (G : Nat → ClassId) (ad : Nat → Nat) (r : sR) (v : sV) (n : Nat) (x : Int64 × UInt64) (hsh : sSh r) (hn : 172 ≤ n) (x1 : Int32) : sML l yL_forecast (.codeWith yL_forecast cL_forecast 4 (some .int) [(0, 9, 12, 13), (0, 9, 15, 29)] :: wsL_law) rmL D G ad r v n x [.ref (ad 0), .int x1, .ref (ad 170)] (fL_forecast K x1 r v n x) := by
  intro sz0 q0 hf
  obtain ⟨fin, he⟩ : ∃ fin, fin = fz n q0 := ⟨_, rfl⟩
  rw [← he]
  refine vx_ofWH (cc := cL_forecast) (maxL := 4) (ret := (some .int)) (hh := [(0, 9, 12, 13), (0, 9, 15, 29)]) (by decide) rfl ?_
  intro p e s m args below meth c s₁ B hml hv
  obtain ⟨⟨hargs, rfl, hU, hP, hD, hZ⟩, hNc⟩ := hv
  have hx := B.exec
  have hb := B.bytes
  have hrt := B.returns
  have hts : ∀ w ∈ wsL_law, w.before args s = true := fun w hw => atoms_spec (ws := (.codeWith yL_forecast cL_forecast 4 (some .int) [(0, 9, 12, 13), (0, 9, 15, 29)] :: wsL_law)) B.pre w (List.mem_cons_of_mem _ hw)
  have htb : c.exceptionTable.toList = [⟨0, 9, 12, 13⟩, ⟨0, 9, 15, 29⟩] := vx_table (x := yL_forecast) B (atoms_spec (ws := (.codeWith yL_forecast cL_forecast 4 (some .int) [(0, 9, 12, 13), (0, 9, 15, 29)] :: wsL_law)) B.pre _ List.mem_cons_self)
  have hlocks := B.notSynchronized
  have E : CallFix p m c cL_forecast 4 s args wsL_law RL := ⟨hx, hb, hml, findClass_of_methodNamed B.named, hts⟩
  have hB : sB D G (sA ad r n s.heap.size) s.heap ad r v n x s.heap [] := ⟨hP, sD_self hD, va_S.rf⟩
  have hgo : sGo r n ad r n ad := sGo.rf
  have hl := lv_entry ([.ref (ad 0), .int x1, .ref (ad 170)]) (n := 4) (Nat.le_of_ble_eq_true rfl)
  refine W.eq (g2 := F0 m 0 ((lg_sl ([.ref (ad 0), .int x1, .ref (ad 170)]) ++ List.replicate (4 - (lg_sl ([.ref (ad 0), .int x1, .ref (ad 170)])).length) Slot.unset).toArray) []) (by rw [hargs]; exact lg_entry_eq _ _ _) ?_
  generalize (lg_sl ([.ref (ad 0), .int x1, .ref (ad 170)]) ++ List.replicate (4 - (lg_sl ([.ref (ad 0), .int x1, .ref (ad 170)])).length) Slot.unset).toArray = ls at hl ⊢
  have hl : lv_has ls 4 [(0, .ref (ad 0)), (1, .int x1), (2, .ref (ad 170))] := hl
  refine W_00 (n := n) ?_
  have hf := (fL_forecast.eq_1 ..).symm.trans hf
  refine lv_aload_n hx hb dL_forecast_0 rfl (lv_at hl 2 rfl) ?_
  refine lv_iconst hx hb dL_forecast_1 rfl ?_
  refine lv_aload_n hx hb dL_forecast_2 rfl (lv_at hl 0 rfl) ?_
  refine lv_iload_n hx hb dL_forecast_3 rfl (lv_at hl 1 rfl) ?_
  refine sc_Ci hB hgo ⟨Nat.le_refl _, Nat.le_refl _⟩ hf he (fun q9 h9 hc9 => rV_T (As := [.int x1]) (rest := [.int 0, .ref (ad 170)]) E hU hZ (fun q h => Or.inr h) hB sc8 (slt hsh hn 0 rfl) rfl (mX6_forecast l K hst D G ad r v n x hsh hn x1 _ _ h9) (cwGV 1 okX6_forecast wmL_76 hts rfl rfl ⟨Nat.le_of_ble_eq_true rfl, Nat.le_of_ble_eq_true rfl⟩) rfl hl.1 (Nat.le_of_ble_eq_true rfl) dL_forecast_4 hc9 rfl) (fun ke b r v n1 hg he ad1 hgo1 hn1 cells slots hc hs H locs hB q9 ce hce hcv hcl => ?_) (fun y r v n1 rez hf he ad1 hg1 hn1 cells slots hc hs H locs hB => ?_)
  · by_cases hk1 : ke = 1
    · subst hk1
      have hg := ite_t hg rfl
      cases hg
      refine vx_catch (name := "java/lang/IndexOutOfBoundsException") E.2.2.2.1 [] ⟨0, 9, 12, 13⟩ [⟨0, 9, 15, 29⟩] htb (fun z hz => nomatch hz) (by decide) (by decide) (hts _ wcL_13) (va_Nw.use rfl (hU.2.2.2.2.1 (exn 1) (by decide))) hce hcv hcl ?_
      refine lv_astore_n hx hb dL_forecast_12 rfl hl (Nat.le_of_ble_eq_true rfl) rfl (fun ls hl => ?_)
      refine lv_iconst hx hb dL_forecast_13 rfl ?_
      exact s_iretL E hrt hlocks hB hgo1 he hc hs dL_forecast_14
    · by_cases hk4 : ke = 4
      · subst hk4
        have hg := ite_f hg (by decide)
        have hg := ite_t hg rfl
        cases hg
        refine vx_catch (name := "java/util/NoSuchElementException") E.2.2.2.1 [⟨0, 9, 12, 13⟩] ⟨0, 9, 15, 29⟩ [] htb (by
          intro z hz
          simp only [List.mem_cons, List.not_mem_nil, or_false] at hz
          subst hz
          exact Or.inr ⟨(by decide), _, hts _ wcL_13, hNc (4, 1) (by decide)⟩) (by decide) (by decide) (hts _ wcL_29) (va_Nw.use rfl (hU.2.2.2.2.1 (exn 4) (by decide))) hce hcv hcl ?_
        refine lv_astore_n hx hb dL_forecast_15 rfl hl (Nat.le_of_ble_eq_true rfl) rfl (fun ls hl => ?_)
        refine lv_iconst hx hb dL_forecast_16 rfl ?_
        exact s_iretL E hrt hlocks hB hgo1 he hc hs dL_forecast_17
      · have hg := ite_f hg hk1
        have hg := ite_f hg hk4
        cases hg
  · rw [← (hg1.2 170 (slt hsh hn 170 rfl)).2]
    refine lv_i2l hx hb dL_forecast_7 rfl ?_
    refine s_last E hU hB (hg1.2 _ (slt hsh hn 170 rfl)).1 dL_forecast_8 (fun H locs hB => ?_)
    refine lv_goto hx hb dL_forecast_9 rfl ?_
    refine lv_iconst hx hb dL_forecast_18 rfl ?_
    cases hf
    exact s_iretL E hrt hlocks hB (hgo.trans hg1) he hc hs dL_forecast_19
set_option maxRecDepth 100000 in
set_option maxHeartbeats 4000000 in
theorem mL_bottleneck (l : Launch) (K : Nat) (hst : l.stackTraces = false) (D : va_G) (G : Nat → ClassId) (ad : Nat → Nat) (r : sR) (v : sV) (n : Nat) (x : Int64 × UInt64) (hsh : sSh r) (hn : 172 ≤ n) : sML l yL_bottleneck (.codeWith yL_bottleneck cL_bottleneck 3 (some .int) [(0, 8, 11, 29)] :: wsL_law) rmL D G ad r v n x [.ref (ad 0), .ref (ad 170)] (fL_bottleneck K r v n x) := by
  intro sz0 q0 hf
  obtain ⟨fin, he⟩ : ∃ fin, fin = fz n q0 := ⟨_, rfl⟩
  rw [← he]
  refine vx_ofWH (cc := cL_bottleneck) (maxL := 3) (ret := (some .int)) (hh := [(0, 8, 11, 29)]) (by decide) rfl ?_
  intro p e s m args below meth c s₁ B hml hv
  obtain ⟨⟨hargs, rfl, hU, hP, hD, hZ⟩, hNc⟩ := hv
  have hx := B.exec
  have hb := B.bytes
  have hrt := B.returns
  have hts : ∀ w ∈ wsL_law, w.before args s = true := fun w hw => atoms_spec (ws := (.codeWith yL_bottleneck cL_bottleneck 3 (some .int) [(0, 8, 11, 29)] :: wsL_law)) B.pre w (List.mem_cons_of_mem _ hw)
  have htb : c.exceptionTable.toList = [⟨0, 8, 11, 29⟩] := vx_table (x := yL_bottleneck) B (atoms_spec (ws := (.codeWith yL_bottleneck cL_bottleneck 3 (some .int) [(0, 8, 11, 29)] :: wsL_law)) B.pre _ List.mem_cons_self)
  have hlocks := B.notSynchronized
  have E : CallFix p m c cL_bottleneck 3 s args wsL_law RL := ⟨hx, hb, hml, findClass_of_methodNamed B.named, hts⟩
  have hB : sB D G (sA ad r n s.heap.size) s.heap ad r v n x s.heap [] := ⟨hP, sD_self hD, va_S.rf⟩
  have hgo : sGo r n ad r n ad := sGo.rf
  have hl := lv_entry ([.ref (ad 0), .ref (ad 170)]) (n := 3) (Nat.le_of_ble_eq_true rfl)
  refine W.eq (g2 := F0 m 0 ((lg_sl ([.ref (ad 0), .ref (ad 170)]) ++ List.replicate (3 - (lg_sl ([.ref (ad 0), .ref (ad 170)])).length) Slot.unset).toArray) []) (by rw [hargs]; exact lg_entry_eq _ _ _) ?_
  generalize (lg_sl ([.ref (ad 0), .ref (ad 170)]) ++ List.replicate (3 - (lg_sl ([.ref (ad 0), .ref (ad 170)])).length) Slot.unset).toArray = ls at hl ⊢
  have hl : lv_has ls 3 [(0, .ref (ad 0)), (1, .ref (ad 170))] := hl
  refine W_00 (n := n) ?_
  have hf := (fL_bottleneck.eq_1 ..).symm.trans hf
  refine lv_aload_n hx hb dL_bottleneck_0 rfl (lv_at hl 1 rfl) ?_
  refine lv_iconst hx hb dL_bottleneck_1 rfl ?_
  refine lv_aload_n hx hb dL_bottleneck_2 rfl (lv_at hl 0 rfl) ?_
  refine sc_Ci hB hgo ⟨Nat.le_refl _, Nat.le_refl _⟩ hf he (fun q9 h9 hc9 => rV_T (As := []) (rest := [.int 0, .ref (ad 170)]) E hU hZ (fun q h => Or.inr h) hB sc8 (slt hsh hn 0 rfl) rfl (mX6_bottleneck l K hst D G ad r v n x hsh hn _ _ h9) (cwGV 0 okX6_bottleneck wmL_79 hts rfl rfl ⟨Nat.le_of_ble_eq_true rfl, Nat.le_of_ble_eq_true rfl⟩) rfl hl.1 (Nat.le_of_ble_eq_true rfl) dL_bottleneck_3 hc9 rfl) (fun ke b r v n1 hg he ad1 hgo1 hn1 cells slots hc hs H locs hB q9 ce hce hcv hcl => ?_) (fun y r v n1 rez hf he ad1 hg1 hn1 cells slots hc hs H locs hB => ?_)
  · by_cases hk4 : ke = 4
    · subst hk4
      have hg := ite_t hg rfl
      cases hg
      refine vx_catch (name := "java/util/NoSuchElementException") E.2.2.2.1 [] ⟨0, 8, 11, 29⟩ [] htb (fun z hz => nomatch hz) (by decide) (by decide) (hts _ wcL_29) (va_Nw.use rfl (hU.2.2.2.2.1 (exn 4) (by decide))) hce hcv hcl ?_
      refine lv_astore_n hx hb dL_bottleneck_11 rfl hl (Nat.le_of_ble_eq_true rfl) rfl (fun ls hl => ?_)
      refine lv_iconst hx hb dL_bottleneck_12 rfl ?_
      exact s_iretL E hrt hlocks hB hgo1 he hc hs dL_bottleneck_13
    · have hg := ite_f hg hk4
      cases hg
  · rw [← (hg1.2 170 (slt hsh hn 170 rfl)).2]
    refine lv_i2l hx hb dL_bottleneck_6 rfl ?_
    refine s_last E hU hB (hg1.2 _ (slt hsh hn 170 rfl)).1 dL_bottleneck_7 (fun H locs hB => ?_)
    refine lv_goto hx hb dL_bottleneck_8 rfl ?_
    refine lv_iconst hx hb dL_bottleneck_14 rfl ?_
    cases hf
    exact s_iretL E hrt hlocks hB (hgo.trans hg1) he hc hs dL_bottleneck_15
set_option maxRecDepth 100000 in
set_option maxHeartbeats 4000000 in
theorem mL_jam (l : Launch) (K : Nat) (hst : l.stackTraces = false) (D : va_G) (G : Nat → ClassId) (ad : Nat → Nat) (r : sR) (v : sV) (n : Nat) (x : Int64 × UInt64) (hsh : sSh r) (hn : 172 ≤ n) (x1 : Int32) (x2 : Int32) : sML l yL_jam (.codeWith yL_jam cL_jam 5 (some .int) [(0, 10, 13, 13), (0, 10, 17, 15)] :: wsL_law) rmL D G ad r v n x [.ref (ad 0), .int x1, .int x2, .ref (ad 170)] (fL_jam K x1 x2 r v n x) := by
  intro sz0 q0 hf
  obtain ⟨fin, he⟩ : ∃ fin, fin = fz n q0 := ⟨_, rfl⟩
  rw [← he]
  refine vx_ofWH (cc := cL_jam) (maxL := 5) (ret := (some .int)) (hh := [(0, 10, 13, 13), (0, 10, 17, 15)]) (by decide) rfl ?_
  intro p e s m args below meth c s₁ B hml hv
  obtain ⟨⟨hargs, rfl, hU, hP, hD, hZ⟩, hNc⟩ := hv
  have hx := B.exec
  have hb := B.bytes
  have hrt := B.returns
  have hts : ∀ w ∈ wsL_law, w.before args s = true := fun w hw => atoms_spec (ws := (.codeWith yL_jam cL_jam 5 (some .int) [(0, 10, 13, 13), (0, 10, 17, 15)] :: wsL_law)) B.pre w (List.mem_cons_of_mem _ hw)
  have htb : c.exceptionTable.toList = [⟨0, 10, 13, 13⟩, ⟨0, 10, 17, 15⟩] := vx_table (x := yL_jam) B (atoms_spec (ws := (.codeWith yL_jam cL_jam 5 (some .int) [(0, 10, 13, 13), (0, 10, 17, 15)] :: wsL_law)) B.pre _ List.mem_cons_self)
  have hlocks := B.notSynchronized
  have E : CallFix p m c cL_jam 5 s args wsL_law RL := ⟨hx, hb, hml, findClass_of_methodNamed B.named, hts⟩
  have hB : sB D G (sA ad r n s.heap.size) s.heap ad r v n x s.heap [] := ⟨hP, sD_self hD, va_S.rf⟩
  have hgo : sGo r n ad r n ad := sGo.rf
  have hl := lv_entry ([.ref (ad 0), .int x1, .int x2, .ref (ad 170)]) (n := 5) (Nat.le_of_ble_eq_true rfl)
  refine W.eq (g2 := F0 m 0 ((lg_sl ([.ref (ad 0), .int x1, .int x2, .ref (ad 170)]) ++ List.replicate (5 - (lg_sl ([.ref (ad 0), .int x1, .int x2, .ref (ad 170)])).length) Slot.unset).toArray) []) (by rw [hargs]; exact lg_entry_eq _ _ _) ?_
  generalize (lg_sl ([.ref (ad 0), .int x1, .int x2, .ref (ad 170)]) ++ List.replicate (5 - (lg_sl ([.ref (ad 0), .int x1, .int x2, .ref (ad 170)])).length) Slot.unset).toArray = ls at hl ⊢
  have hl : lv_has ls 5 [(0, .ref (ad 0)), (1, .int x1), (2, .int x2), (3, .ref (ad 170))] := hl
  refine W_00 (n := n) ?_
  have hf := (fL_jam.eq_1 ..).symm.trans hf
  refine lv_aload_n hx hb dL_jam_0 rfl (lv_at hl 3 rfl) ?_
  refine lv_iconst hx hb dL_jam_1 rfl ?_
  refine lv_aload_n hx hb dL_jam_2 rfl (lv_at hl 0 rfl) ?_
  refine lv_iload_n hx hb dL_jam_3 rfl (lv_at hl 1 rfl) ?_
  refine lv_iload_n hx hb dL_jam_4 rfl (lv_at hl 2 rfl) ?_
  refine sc_Ci hB hgo ⟨Nat.le_refl _, Nat.le_refl _⟩ hf he (fun q9 h9 hc9 => rV_T (As := [.int x1, .int x2]) (rest := [.int 0, .ref (ad 170)]) E hU hZ (fun q h => Or.inr h) hB sc8 (slt hsh hn 0 rfl) rfl (mX6_jam l K hst D G ad r v n x hsh hn x1 x2 _ _ h9) (cwGV 2 okX6_jam wmL_83 hts rfl rfl ⟨Nat.le_of_ble_eq_true rfl, Nat.le_of_ble_eq_true rfl⟩) rfl hl.1 (Nat.le_of_ble_eq_true rfl) dL_jam_5 hc9 rfl) (fun ke b r v n1 hg he ad1 hgo1 hn1 cells slots hc hs H locs hB q9 ce hce hcv hcl => ?_) (fun y r v n1 rez hf he ad1 hg1 hn1 cells slots hc hs H locs hB => ?_)
  · by_cases hk1 : ke = 1
    · subst hk1
      have hg := ite_t hg rfl
      cases hg
      refine vx_catch (name := "java/lang/IndexOutOfBoundsException") E.2.2.2.1 [] ⟨0, 10, 13, 13⟩ [⟨0, 10, 17, 15⟩] htb (fun z hz => nomatch hz) (by decide) (by decide) (hts _ wcL_13) (va_Nw.use rfl (hU.2.2.2.2.1 (exn 1) (by decide))) hce hcv hcl ?_
      refine lv_astore hx hb dL_jam_13 hl (Nat.le_of_ble_eq_true rfl) rfl (fun ls hl => ?_)
      refine lv_iconst hx hb dL_jam_15 rfl ?_
      exact s_iretL E hrt hlocks hB hgo1 he hc hs dL_jam_16
    · by_cases hk2 : ke = 2
      · subst hk2
        have hg := ite_f hg (by decide)
        have hg := ite_t hg rfl
        cases hg
        refine vx_catch (name := "java/lang/IllegalArgumentException") E.2.2.2.1 [⟨0, 10, 13, 13⟩] ⟨0, 10, 17, 15⟩ [] htb (by
          intro z hz
          simp only [List.mem_cons, List.not_mem_nil, or_false] at hz
          subst hz
          exact Or.inr ⟨(by decide), _, hts _ wcL_13, hNc (2, 1) (by decide)⟩) (by decide) (by decide) (hts _ wcL_15) (va_Nw.use rfl (hU.2.2.2.2.1 (exn 2) (by decide))) hce hcv hcl ?_
        refine lv_astore hx hb dL_jam_17 hl (Nat.le_of_ble_eq_true rfl) rfl (fun ls hl => ?_)
        refine lv_iconst hx hb dL_jam_19 rfl ?_
        exact s_iretL E hrt hlocks hB hgo1 he hc hs dL_jam_20
      · have hg := ite_f hg hk1
        have hg := ite_f hg hk2
        cases hg
  · rw [← (hg1.2 170 (slt hsh hn 170 rfl)).2]
    refine lv_i2l hx hb dL_jam_8 rfl ?_
    refine s_last E hU hB (hg1.2 _ (slt hsh hn 170 rfl)).1 dL_jam_9 (fun H locs hB => ?_)
    refine lv_goto hx hb dL_jam_10 rfl ?_
    refine lv_iconst hx hb dL_jam_21 rfl ?_
    cases hf
    exact s_iretL E hrt hlocks hB (hgo.trans hg1) he hc hs dL_jam_22
set_option maxRecDepth 100000 in
set_option maxHeartbeats 4000000 in
theorem mL_meanDistance (l : Launch) (K : Nat) (hst : l.stackTraces = false) (D : va_G) (G : Nat → ClassId) (ad : Nat → Nat) (r : sR) (v : sV) (n : Nat) (x : Int64 × UInt64) (hsh : sSh r) (hn : 172 ≤ n) : sML l yL_meanDistance (.codeWith yL_meanDistance cL_meanDistance 3 (some .int) [(0, 7, 10, 90)] :: wsL_law) rmL D G ad r v n x [.ref (ad 0), .ref (ad 171)] (fL_meanDistance K r v n x) := by
  intro sz0 q0 hf
  obtain ⟨fin, he⟩ : ∃ fin, fin = fz n q0 := ⟨_, rfl⟩
  rw [← he]
  refine vx_ofWH (cc := cL_meanDistance) (maxL := 3) (ret := (some .int)) (hh := [(0, 7, 10, 90)]) (by decide) rfl ?_
  intro p e s m args below meth c s₁ B hml hv
  obtain ⟨⟨hargs, rfl, hU, hP, hD, hZ⟩, hNc⟩ := hv
  have hx := B.exec
  have hb := B.bytes
  have hrt := B.returns
  have hts : ∀ w ∈ wsL_law, w.before args s = true := fun w hw => atoms_spec (ws := (.codeWith yL_meanDistance cL_meanDistance 3 (some .int) [(0, 7, 10, 90)] :: wsL_law)) B.pre w (List.mem_cons_of_mem _ hw)
  have htb : c.exceptionTable.toList = [⟨0, 7, 10, 90⟩] := vx_table (x := yL_meanDistance) B (atoms_spec (ws := (.codeWith yL_meanDistance cL_meanDistance 3 (some .int) [(0, 7, 10, 90)] :: wsL_law)) B.pre _ List.mem_cons_self)
  have hlocks := B.notSynchronized
  have E : CallFix p m c cL_meanDistance 3 s args wsL_law RL := ⟨hx, hb, hml, findClass_of_methodNamed B.named, hts⟩
  have hB : sB D G (sA ad r n s.heap.size) s.heap ad r v n x s.heap [] := ⟨hP, sD_self hD, va_S.rf⟩
  have hgo : sGo r n ad r n ad := sGo.rf
  have hl := lv_entry ([.ref (ad 0), .ref (ad 171)]) (n := 3) (Nat.le_of_ble_eq_true rfl)
  refine W.eq (g2 := F0 m 0 ((lg_sl ([.ref (ad 0), .ref (ad 171)]) ++ List.replicate (3 - (lg_sl ([.ref (ad 0), .ref (ad 171)])).length) Slot.unset).toArray) []) (by rw [hargs]; exact lg_entry_eq _ _ _) ?_
  generalize (lg_sl ([.ref (ad 0), .ref (ad 171)]) ++ List.replicate (3 - (lg_sl ([.ref (ad 0), .ref (ad 171)])).length) Slot.unset).toArray = ls at hl ⊢
  have hl : lv_has ls 3 [(0, .ref (ad 0)), (1, .ref (ad 171))] := hl
  refine W_00 (n := n) ?_
  have hf := (fL_meanDistance.eq_1 ..).symm.trans hf
  refine lv_aload_n hx hb dL_meanDistance_0 rfl (lv_at hl 1 rfl) ?_
  refine lv_iconst hx hb dL_meanDistance_1 rfl ?_
  refine lv_aload_n hx hb dL_meanDistance_2 rfl (lv_at hl 0 rfl) ?_
  refine sc_Cd hB hgo ⟨Nat.le_refl _, Nat.le_refl _⟩ hf he (fun q9 h9 hc9 => rV_T (As := []) (rest := [.int 0, .ref (ad 171)]) E hU hZ (fun q h => Or.inr h) hB sc8 (slt hsh hn 0 rfl) rfl (mX6_meanDistance l K hst D G ad r v n x hsh hn _ _ h9) (cwGV 0 okX6_meanDistance wmL_86 hts rfl rfl ⟨Nat.le_of_ble_eq_true rfl, Nat.le_of_ble_eq_true rfl⟩) rfl hl.1 (Nat.le_of_ble_eq_true rfl) dL_meanDistance_3 hc9 rfl) (fun ke b r v n1 hg he ad1 hgo1 hn1 cells slots hc hs H locs hB q9 ce hce hcv hcl => ?_) (fun y r v n1 rez hf he ad1 hg1 hn1 cells slots hc hs H locs hB => ?_)
  · by_cases hk5 : ke = 5
    · subst hk5
      have hg := ite_t hg rfl
      cases hg
      refine vx_catch (name := "java/lang/ArithmeticException") E.2.2.2.1 [] ⟨0, 7, 10, 90⟩ [] htb (fun z hz => nomatch hz) (by decide) (by decide) (hts _ wcL_90) (va_Nw.use rfl (hU.2.2.2.2.1 (exn 5) (by decide))) hce hcv hcl ?_
      refine lv_astore_n hx hb dL_meanDistance_10 rfl hl (Nat.le_of_ble_eq_true rfl) rfl (fun ls hl => ?_)
      refine lv_iconst hx hb dL_meanDistance_11 rfl ?_
      exact s_iretL E hrt hlocks hB hgo1 he hc hs dL_meanDistance_12
    · have hg := ite_f hg hk5
      cases hg
  · rw [← (hg1.2 171 (slt hsh hn 171 rfl)).2]
    refine s_dast E hU hB (hg1.2 _ (slt hsh hn 171 rfl)).1 dL_meanDistance_6 (fun H locs hB => ?_)
    refine lv_goto hx hb dL_meanDistance_7 rfl ?_
    refine lv_iconst hx hb dL_meanDistance_13 rfl ?_
    cases hf
    exact s_iretL E hrt hlocks hB (hgo.trans hg1) he hc hs dL_meanDistance_14
set_option maxRecDepth 100000 in
set_option maxHeartbeats 4000000 in
theorem mL_density (l : Launch) (K : Nat) (hst : l.stackTraces = false) (D : va_G) (G : Nat → ClassId) (ad : Nat → Nat) (r : sR) (v : sV) (n : Nat) (x : Int64 × UInt64) (hsh : sSh r) (hn : 172 ≤ n) : sML l yL_density (.codeWith yL_density cL_density 3 (some .int) [(0, 8, 11, 90)] :: wsL_law) rmL D G ad r v n x [.ref (ad 0), .ref (ad 171)] (fL_density K r v n x) := by
  intro sz0 q0 hf
  obtain ⟨fin, he⟩ : ∃ fin, fin = fz n q0 := ⟨_, rfl⟩
  rw [← he]
  refine vx_ofWH (cc := cL_density) (maxL := 3) (ret := (some .int)) (hh := [(0, 8, 11, 90)]) (by decide) rfl ?_
  intro p e s m args below meth c s₁ B hml hv
  obtain ⟨⟨hargs, rfl, hU, hP, hD, hZ⟩, hNc⟩ := hv
  have hx := B.exec
  have hb := B.bytes
  have hrt := B.returns
  have hts : ∀ w ∈ wsL_law, w.before args s = true := fun w hw => atoms_spec (ws := (.codeWith yL_density cL_density 3 (some .int) [(0, 8, 11, 90)] :: wsL_law)) B.pre w (List.mem_cons_of_mem _ hw)
  have htb : c.exceptionTable.toList = [⟨0, 8, 11, 90⟩] := vx_table (x := yL_density) B (atoms_spec (ws := (.codeWith yL_density cL_density 3 (some .int) [(0, 8, 11, 90)] :: wsL_law)) B.pre _ List.mem_cons_self)
  have hlocks := B.notSynchronized
  have E : CallFix p m c cL_density 3 s args wsL_law RL := ⟨hx, hb, hml, findClass_of_methodNamed B.named, hts⟩
  have hB : sB D G (sA ad r n s.heap.size) s.heap ad r v n x s.heap [] := ⟨hP, sD_self hD, va_S.rf⟩
  have hgo : sGo r n ad r n ad := sGo.rf
  have hl := lv_entry ([.ref (ad 0), .ref (ad 171)]) (n := 3) (Nat.le_of_ble_eq_true rfl)
  refine W.eq (g2 := F0 m 0 ((lg_sl ([.ref (ad 0), .ref (ad 171)]) ++ List.replicate (3 - (lg_sl ([.ref (ad 0), .ref (ad 171)])).length) Slot.unset).toArray) []) (by rw [hargs]; exact lg_entry_eq _ _ _) ?_
  generalize (lg_sl ([.ref (ad 0), .ref (ad 171)]) ++ List.replicate (3 - (lg_sl ([.ref (ad 0), .ref (ad 171)])).length) Slot.unset).toArray = ls at hl ⊢
  have hl : lv_has ls 3 [(0, .ref (ad 0)), (1, .ref (ad 171))] := hl
  refine W_00 (n := n) ?_
  have hf := (fL_density.eq_1 ..).symm.trans hf
  refine lv_aload_n hx hb dL_density_0 rfl (lv_at hl 1 rfl) ?_
  refine lv_iconst hx hb dL_density_1 rfl ?_
  refine lv_aload_n hx hb dL_density_2 rfl (lv_at hl 0 rfl) ?_
  refine sc_Cf hB hgo ⟨Nat.le_refl _, Nat.le_refl _⟩ hf he (fun q9 h9 hc9 => rV_T (As := []) (rest := [.int 0, .ref (ad 171)]) E hU hZ (fun q h => Or.inr h) hB sc8 (slt hsh hn 0 rfl) rfl (mX6_density l K hst D G ad r v n x hsh hn _ _ h9) (cwGV 0 okX6_density wmL_92 hts rfl rfl ⟨Nat.le_of_ble_eq_true rfl, Nat.le_of_ble_eq_true rfl⟩) rfl hl.1 (Nat.le_of_ble_eq_true rfl) dL_density_3 hc9 rfl) (fun ke b r v n1 hg he ad1 hgo1 hn1 cells slots hc hs H locs hB q9 ce hce hcv hcl => ?_) (fun y r v n1 rez hf he ad1 hg1 hn1 cells slots hc hs H locs hB => ?_)
  · by_cases hk5 : ke = 5
    · subst hk5
      have hg := ite_t hg rfl
      cases hg
      refine vx_catch (name := "java/lang/ArithmeticException") E.2.2.2.1 [] ⟨0, 8, 11, 90⟩ [] htb (fun z hz => nomatch hz) (by decide) (by decide) (hts _ wcL_90) (va_Nw.use rfl (hU.2.2.2.2.1 (exn 5) (by decide))) hce hcv hcl ?_
      refine lv_astore_n hx hb dL_density_11 rfl hl (Nat.le_of_ble_eq_true rfl) rfl (fun ls hl => ?_)
      refine lv_iconst hx hb dL_density_12 rfl ?_
      exact s_iretL E hrt hlocks hB hgo1 he hc hs dL_density_13
    · have hg := ite_f hg hk5
      cases hg
  · rw [← (hg1.2 171 (slt hsh hn 171 rfl)).2]
    refine s_f2d E dL_density_6 hf (fun y hf => ?_)
    refine s_dast E hU hB (hg1.2 _ (slt hsh hn 171 rfl)).1 dL_density_7 (fun H locs hB => ?_)
    refine lv_goto hx hb dL_density_8 rfl ?_
    refine lv_iconst hx hb dL_density_14 rfl ?_
    cases hf
    exact s_iretL E hrt hlocks hB (hgo.trans hg1) he hc hs dL_density_15
set_option maxRecDepth 100000 in
set_option maxHeartbeats 4000000 in
theorem mL_feed (l : Launch) (hst : l.stackTraces = false) (D : va_G) (G : Nat → ClassId) (ad : Nat → Nat) (r : sR) (v : sV) (n : Nat) (x : Int64 × UInt64) (hsh : sSh r) (hn : 172 ≤ n) (x1 : Int32) : sML l yL_feed (.codeWith yL_feed cL_feed 4 (some .int) [(0, 9, 12, 17)] :: wsL_law) rmL D G ad r v n x [.ref (ad 0), .int x1, .ref (ad 170)] (fL_feed x1 r v n x) := by
  intro sz0 q0 hf
  obtain ⟨fin, he⟩ : ∃ fin, fin = fz n q0 := ⟨_, rfl⟩
  rw [← he]
  refine vx_ofWH (cc := cL_feed) (maxL := 4) (ret := (some .int)) (hh := [(0, 9, 12, 17)]) (by decide) rfl ?_
  intro p e s m args below meth c s₁ B hml hv
  obtain ⟨⟨hargs, rfl, hU, hP, hD, hZ⟩, hNc⟩ := hv
  have hx := B.exec
  have hb := B.bytes
  have hrt := B.returns
  have hts : ∀ w ∈ wsL_law, w.before args s = true := fun w hw => atoms_spec (ws := (.codeWith yL_feed cL_feed 4 (some .int) [(0, 9, 12, 17)] :: wsL_law)) B.pre w (List.mem_cons_of_mem _ hw)
  have htb : c.exceptionTable.toList = [⟨0, 9, 12, 17⟩] := vx_table (x := yL_feed) B (atoms_spec (ws := (.codeWith yL_feed cL_feed 4 (some .int) [(0, 9, 12, 17)] :: wsL_law)) B.pre _ List.mem_cons_self)
  have hlocks := B.notSynchronized
  have E : CallFix p m c cL_feed 4 s args wsL_law RL := ⟨hx, hb, hml, findClass_of_methodNamed B.named, hts⟩
  have hB : sB D G (sA ad r n s.heap.size) s.heap ad r v n x s.heap [] := ⟨hP, sD_self hD, va_S.rf⟩
  have hgo : sGo r n ad r n ad := sGo.rf
  have hl := lv_entry ([.ref (ad 0), .int x1, .ref (ad 170)]) (n := 4) (Nat.le_of_ble_eq_true rfl)
  refine W.eq (g2 := F0 m 0 ((lg_sl ([.ref (ad 0), .int x1, .ref (ad 170)]) ++ List.replicate (4 - (lg_sl ([.ref (ad 0), .int x1, .ref (ad 170)])).length) Slot.unset).toArray) []) (by rw [hargs]; exact lg_entry_eq _ _ _) ?_
  generalize (lg_sl ([.ref (ad 0), .int x1, .ref (ad 170)]) ++ List.replicate (4 - (lg_sl ([.ref (ad 0), .int x1, .ref (ad 170)])).length) Slot.unset).toArray = ls at hl ⊢
  have hl : lv_has ls 4 [(0, .ref (ad 0)), (1, .int x1), (2, .ref (ad 170))] := hl
  refine W_00 (n := n) ?_
  have hf := (fL_feed.eq_1 ..).symm.trans hf
  refine lv_aload_n hx hb dL_feed_0 rfl (lv_at hl 2 rfl) ?_
  refine lv_iconst hx hb dL_feed_1 rfl ?_
  refine lv_aload_n hx hb dL_feed_2 rfl (lv_at hl 0 rfl) ?_
  refine lv_iload_n hx hb dL_feed_3 rfl (lv_at hl 1 rfl) ?_
  refine sc_Ci hB hgo ⟨Nat.le_refl _, Nat.le_refl _⟩ hf he (fun q9 h9 hc9 => rV_T (As := [.int x1]) (rest := [.int 0, .ref (ad 170)]) E hU hZ (fun q h => Or.inr h) hB sc8 (slt hsh hn 0 rfl) rfl (mX6_feed l hst D G ad r v n x hsh hn x1 _ _ h9) (cwGV 1 okX6_feed wmL_96 hts rfl rfl ⟨Nat.le_of_ble_eq_true rfl, Nat.le_of_ble_eq_true rfl⟩) rfl hl.1 (Nat.le_of_ble_eq_true rfl) dL_feed_4 hc9 rfl) (fun ke b r v n1 hg he ad1 hgo1 hn1 cells slots hc hs H locs hB q9 ce hce hcv hcl => ?_) (fun y r v n1 rez hf he ad1 hg1 hn1 cells slots hc hs H locs hB => ?_)
  · by_cases hk3 : ke = 3
    · subst hk3
      have hg := ite_t hg rfl
      cases hg
      refine vx_catch (name := "java/lang/IllegalStateException") E.2.2.2.1 [] ⟨0, 9, 12, 17⟩ [] htb (fun z hz => nomatch hz) (by decide) (by decide) (hts _ wcL_17) (va_Nw.use rfl (hU.2.2.2.2.1 (exn 3) (by decide))) hce hcv hcl ?_
      refine lv_astore_n hx hb dL_feed_12 rfl hl (Nat.le_of_ble_eq_true rfl) rfl (fun ls hl => ?_)
      refine lv_iconst hx hb dL_feed_13 rfl ?_
      exact s_iretL E hrt hlocks hB hgo1 he hc hs dL_feed_14
    · have hg := ite_f hg hk3
      cases hg
  · rw [← (hg1.2 170 (slt hsh hn 170 rfl)).2]
    refine lv_i2l hx hb dL_feed_7 rfl ?_
    refine s_last E hU hB (hg1.2 _ (slt hsh hn 170 rfl)).1 dL_feed_8 (fun H locs hB => ?_)
    refine lv_goto hx hb dL_feed_9 rfl ?_
    refine lv_iconst hx hb dL_feed_15 rfl ?_
    cases hf
    exact s_iretL E hrt hlocks hB (hgo.trans hg1) he hc hs dL_feed_16
set_option maxRecDepth 100000 in
set_option maxHeartbeats 4000000 in
theorem mL_readMap (l : Launch) (K : Nat) (hst : l.stackTraces = false) (D : va_G) (G : Nat → ClassId) (ad : Nat → Nat) (r : sR) (v : sV) (n : Nat) (x : Int64 × UInt64) (hsh : sSh r) (hn : 172 ≤ n) : sML l yL_readMap (.codeWith yL_readMap cL_readMap 3 (some .int) [(0, 8, 11, 17)] :: wsL_law) rmL D G ad r v n x [.ref (ad 0), .ref (ad 170)] (fL_readMap K r v n x) := by
  intro sz0 q0 hf
  obtain ⟨fin, he⟩ : ∃ fin, fin = fz n q0 := ⟨_, rfl⟩
  rw [← he]
  refine vx_ofWH (cc := cL_readMap) (maxL := 3) (ret := (some .int)) (hh := [(0, 8, 11, 17)]) (by decide) rfl ?_
  intro p e s m args below meth c s₁ B hml hv
  obtain ⟨⟨hargs, rfl, hU, hP, hD, hZ⟩, hNc⟩ := hv
  have hx := B.exec
  have hb := B.bytes
  have hrt := B.returns
  have hts : ∀ w ∈ wsL_law, w.before args s = true := fun w hw => atoms_spec (ws := (.codeWith yL_readMap cL_readMap 3 (some .int) [(0, 8, 11, 17)] :: wsL_law)) B.pre w (List.mem_cons_of_mem _ hw)
  have htb : c.exceptionTable.toList = [⟨0, 8, 11, 17⟩] := vx_table (x := yL_readMap) B (atoms_spec (ws := (.codeWith yL_readMap cL_readMap 3 (some .int) [(0, 8, 11, 17)] :: wsL_law)) B.pre _ List.mem_cons_self)
  have hlocks := B.notSynchronized
  have E : CallFix p m c cL_readMap 3 s args wsL_law RL := ⟨hx, hb, hml, findClass_of_methodNamed B.named, hts⟩
  have hB : sB D G (sA ad r n s.heap.size) s.heap ad r v n x s.heap [] := ⟨hP, sD_self hD, va_S.rf⟩
  have hgo : sGo r n ad r n ad := sGo.rf
  have hl := lv_entry ([.ref (ad 0), .ref (ad 170)]) (n := 3) (Nat.le_of_ble_eq_true rfl)
  refine W.eq (g2 := F0 m 0 ((lg_sl ([.ref (ad 0), .ref (ad 170)]) ++ List.replicate (3 - (lg_sl ([.ref (ad 0), .ref (ad 170)])).length) Slot.unset).toArray) []) (by rw [hargs]; exact lg_entry_eq _ _ _) ?_
  generalize (lg_sl ([.ref (ad 0), .ref (ad 170)]) ++ List.replicate (3 - (lg_sl ([.ref (ad 0), .ref (ad 170)])).length) Slot.unset).toArray = ls at hl ⊢
  have hl : lv_has ls 3 [(0, .ref (ad 0)), (1, .ref (ad 170))] := hl
  refine W_00 (n := n) ?_
  have hf := (fL_readMap.eq_1 ..).symm.trans hf
  refine lv_aload_n hx hb dL_readMap_0 rfl (lv_at hl 1 rfl) ?_
  refine lv_iconst hx hb dL_readMap_1 rfl ?_
  refine lv_aload_n hx hb dL_readMap_2 rfl (lv_at hl 0 rfl) ?_
  refine sc_Ci hB hgo ⟨Nat.le_refl _, Nat.le_refl _⟩ hf he (fun q9 h9 hc9 => rV_T (As := []) (rest := [.int 0, .ref (ad 170)]) E hU hZ (fun q h => Or.inr h) hB sc8 (slt hsh hn 0 rfl) rfl (mX6_readMap l K hst D G ad r v n x hsh hn _ _ h9) (cwGV 0 okX6_readMap wmL_100 hts rfl rfl ⟨Nat.le_of_ble_eq_true rfl, Nat.le_of_ble_eq_true rfl⟩) rfl hl.1 (Nat.le_of_ble_eq_true rfl) dL_readMap_3 hc9 rfl) (fun ke b r v n1 hg he ad1 hgo1 hn1 cells slots hc hs H locs hB q9 ce hce hcv hcl => ?_) (fun y r v n1 rez hf he ad1 hg1 hn1 cells slots hc hs H locs hB => ?_)
  · by_cases hk3 : ke = 3
    · subst hk3
      have hg := ite_t hg rfl
      cases hg
      refine vx_catch (name := "java/lang/IllegalStateException") E.2.2.2.1 [] ⟨0, 8, 11, 17⟩ [] htb (fun z hz => nomatch hz) (by decide) (by decide) (hts _ wcL_17) (va_Nw.use rfl (hU.2.2.2.2.1 (exn 3) (by decide))) hce hcv hcl ?_
      refine lv_astore_n hx hb dL_readMap_11 rfl hl (Nat.le_of_ble_eq_true rfl) rfl (fun ls hl => ?_)
      refine lv_iconst hx hb dL_readMap_12 rfl ?_
      exact s_iretL E hrt hlocks hB hgo1 he hc hs dL_readMap_13
    · have hg := ite_f hg hk3
      cases hg
  · rw [← (hg1.2 170 (slt hsh hn 170 rfl)).2]
    refine lv_i2l hx hb dL_readMap_6 rfl ?_
    refine s_last E hU hB (hg1.2 _ (slt hsh hn 170 rfl)).1 dL_readMap_7 (fun H locs hB => ?_)
    refine lv_goto hx hb dL_readMap_8 rfl ?_
    refine lv_iconst hx hb dL_readMap_14 rfl ?_
    cases hf
    exact s_iretL E hrt hlocks hB (hgo.trans hg1) he hc hs dL_readMap_15
set_option maxRecDepth 100000 in
set_option maxHeartbeats 4000000 in
theorem mL_map (l : Launch) (hst : l.stackTraces = false) (D : va_G) (G : Nat → ClassId) (ad : Nat → Nat) (r : sR) (v : sV) (n : Nat) (x : Int64 × UInt64) (hsh : sSh r) (hn : 172 ≤ n) (x1 : Int32) : sML l yL_map (.codeWith yL_map cL_map 4 (some .int) [(0, 9, 12, 13)] :: wsL_law) rmL D G ad r v n x [.ref (ad 0), .int x1, .ref (ad 170)] (fL_map x1 r v n x) := by
  intro sz0 q0 hf
  obtain ⟨fin, he⟩ : ∃ fin, fin = fz n q0 := ⟨_, rfl⟩
  rw [← he]
  refine vx_ofWH (cc := cL_map) (maxL := 4) (ret := (some .int)) (hh := [(0, 9, 12, 13)]) (by decide) rfl ?_
  intro p e s m args below meth c s₁ B hml hv
  obtain ⟨⟨hargs, rfl, hU, hP, hD, hZ⟩, hNc⟩ := hv
  have hx := B.exec
  have hb := B.bytes
  have hrt := B.returns
  have hts : ∀ w ∈ wsL_law, w.before args s = true := fun w hw => atoms_spec (ws := (.codeWith yL_map cL_map 4 (some .int) [(0, 9, 12, 13)] :: wsL_law)) B.pre w (List.mem_cons_of_mem _ hw)
  have htb : c.exceptionTable.toList = [⟨0, 9, 12, 13⟩] := vx_table (x := yL_map) B (atoms_spec (ws := (.codeWith yL_map cL_map 4 (some .int) [(0, 9, 12, 13)] :: wsL_law)) B.pre _ List.mem_cons_self)
  have hlocks := B.notSynchronized
  have E : CallFix p m c cL_map 4 s args wsL_law RL := ⟨hx, hb, hml, findClass_of_methodNamed B.named, hts⟩
  have hB : sB D G (sA ad r n s.heap.size) s.heap ad r v n x s.heap [] := ⟨hP, sD_self hD, va_S.rf⟩
  have hgo : sGo r n ad r n ad := sGo.rf
  have hl := lv_entry ([.ref (ad 0), .int x1, .ref (ad 170)]) (n := 4) (Nat.le_of_ble_eq_true rfl)
  refine W.eq (g2 := F0 m 0 ((lg_sl ([.ref (ad 0), .int x1, .ref (ad 170)]) ++ List.replicate (4 - (lg_sl ([.ref (ad 0), .int x1, .ref (ad 170)])).length) Slot.unset).toArray) []) (by rw [hargs]; exact lg_entry_eq _ _ _) ?_
  generalize (lg_sl ([.ref (ad 0), .int x1, .ref (ad 170)]) ++ List.replicate (4 - (lg_sl ([.ref (ad 0), .int x1, .ref (ad 170)])).length) Slot.unset).toArray = ls at hl ⊢
  have hl : lv_has ls 4 [(0, .ref (ad 0)), (1, .int x1), (2, .ref (ad 170))] := hl
  refine W_00 (n := n) ?_
  have hf := (fL_map.eq_1 ..).symm.trans hf
  refine lv_aload_n hx hb dL_map_0 rfl (lv_at hl 2 rfl) ?_
  refine lv_iconst hx hb dL_map_1 rfl ?_
  refine lv_aload_n hx hb dL_map_2 rfl (lv_at hl 0 rfl) ?_
  refine lv_iload_n hx hb dL_map_3 rfl (lv_at hl 1 rfl) ?_
  refine sc_Ci hB hgo ⟨Nat.le_refl _, Nat.le_refl _⟩ hf he (fun q9 h9 hc9 => rV_T (As := [.int x1]) (rest := [.int 0, .ref (ad 170)]) E hU hZ (fun q h => Or.inr h) hB sc8 (slt hsh hn 0 rfl) rfl (mX6_map l hst D G ad r v n x hsh hn x1 _ _ h9) (cwGV 1 okX6_map wmL_103 hts rfl rfl ⟨Nat.le_of_ble_eq_true rfl, Nat.le_of_ble_eq_true rfl⟩) rfl hl.1 (Nat.le_of_ble_eq_true rfl) dL_map_4 hc9 rfl) (fun ke b r v n1 hg he ad1 hgo1 hn1 cells slots hc hs H locs hB q9 ce hce hcv hcl => ?_) (fun y r v n1 rez hf he ad1 hg1 hn1 cells slots hc hs H locs hB => ?_)
  · by_cases hk1 : ke = 1
    · subst hk1
      have hg := ite_t hg rfl
      cases hg
      refine vx_catch (name := "java/lang/IndexOutOfBoundsException") E.2.2.2.1 [] ⟨0, 9, 12, 13⟩ [] htb (fun z hz => nomatch hz) (by decide) (by decide) (hts _ wcL_13) (va_Nw.use rfl (hU.2.2.2.2.1 (exn 1) (by decide))) hce hcv hcl ?_
      refine lv_astore_n hx hb dL_map_12 rfl hl (Nat.le_of_ble_eq_true rfl) rfl (fun ls hl => ?_)
      refine lv_iconst hx hb dL_map_13 rfl ?_
      exact s_iretL E hrt hlocks hB hgo1 he hc hs dL_map_14
    · have hg := ite_f hg hk1
      cases hg
  · rw [← (hg1.2 170 (slt hsh hn 170 rfl)).2]
    refine lv_i2l hx hb dL_map_7 rfl ?_
    refine s_last E hU hB (hg1.2 _ (slt hsh hn 170 rfl)).1 dL_map_8 (fun H locs hB => ?_)
    refine lv_goto hx hb dL_map_9 rfl ?_
    refine lv_iconst hx hb dL_map_15 rfl ?_
    cases hf
    exact s_iretL E hrt hlocks hB (hgo.trans hg1) he hc hs dL_map_16
set_option maxRecDepth 100000 in
set_option maxHeartbeats 4000000 in
theorem mL_undo (l : Launch) (K : Nat) (hst : l.stackTraces = false) (D : va_G) (G : Nat → ClassId) (ad : Nat → Nat) (r : sR) (v : sV) (n : Nat) (x : Int64 × UInt64) (hsh : sSh r) (hn : 172 ≤ n) : sML l yL_undo (.codeWith yL_undo cL_undo 3 (some .int) [(0, 8, 11, 17)] :: wsL_law) rmL D G ad r v n x [.ref (ad 0), .ref (ad 170)] (fL_undo K r v n x) := by
  intro sz0 q0 hf
  obtain ⟨fin, he⟩ : ∃ fin, fin = fz n q0 := ⟨_, rfl⟩
  rw [← he]
  refine vx_ofWH (cc := cL_undo) (maxL := 3) (ret := (some .int)) (hh := [(0, 8, 11, 17)]) (by decide) rfl ?_
  intro p e s m args below meth c s₁ B hml hv
  obtain ⟨⟨hargs, rfl, hU, hP, hD, hZ⟩, hNc⟩ := hv
  have hx := B.exec
  have hb := B.bytes
  have hrt := B.returns
  have hts : ∀ w ∈ wsL_law, w.before args s = true := fun w hw => atoms_spec (ws := (.codeWith yL_undo cL_undo 3 (some .int) [(0, 8, 11, 17)] :: wsL_law)) B.pre w (List.mem_cons_of_mem _ hw)
  have htb : c.exceptionTable.toList = [⟨0, 8, 11, 17⟩] := vx_table (x := yL_undo) B (atoms_spec (ws := (.codeWith yL_undo cL_undo 3 (some .int) [(0, 8, 11, 17)] :: wsL_law)) B.pre _ List.mem_cons_self)
  have hlocks := B.notSynchronized
  have E : CallFix p m c cL_undo 3 s args wsL_law RL := ⟨hx, hb, hml, findClass_of_methodNamed B.named, hts⟩
  have hB : sB D G (sA ad r n s.heap.size) s.heap ad r v n x s.heap [] := ⟨hP, sD_self hD, va_S.rf⟩
  have hgo : sGo r n ad r n ad := sGo.rf
  have hl := lv_entry ([.ref (ad 0), .ref (ad 170)]) (n := 3) (Nat.le_of_ble_eq_true rfl)
  refine W.eq (g2 := F0 m 0 ((lg_sl ([.ref (ad 0), .ref (ad 170)]) ++ List.replicate (3 - (lg_sl ([.ref (ad 0), .ref (ad 170)])).length) Slot.unset).toArray) []) (by rw [hargs]; exact lg_entry_eq _ _ _) ?_
  generalize (lg_sl ([.ref (ad 0), .ref (ad 170)]) ++ List.replicate (3 - (lg_sl ([.ref (ad 0), .ref (ad 170)])).length) Slot.unset).toArray = ls at hl ⊢
  have hl : lv_has ls 3 [(0, .ref (ad 0)), (1, .ref (ad 170))] := hl
  refine W_00 (n := n) ?_
  have hf := (fL_undo.eq_1 ..).symm.trans hf
  refine lv_aload_n hx hb dL_undo_0 rfl (lv_at hl 1 rfl) ?_
  refine lv_iconst hx hb dL_undo_1 rfl ?_
  refine lv_aload_n hx hb dL_undo_2 rfl (lv_at hl 0 rfl) ?_
  refine sc_Ci hB hgo ⟨Nat.le_refl _, Nat.le_refl _⟩ hf he (fun q9 h9 hc9 => rV_T (As := []) (rest := [.int 0, .ref (ad 170)]) E hU hZ (fun q h => Or.inr h) hB sc8 (slt hsh hn 0 rfl) rfl (mX6_undo l K hst D G ad r v n x hsh hn _ _ h9) (cwGV 0 okX6_undo wmL_107 hts rfl rfl ⟨Nat.le_of_ble_eq_true rfl, Nat.le_of_ble_eq_true rfl⟩) rfl hl.1 (Nat.le_of_ble_eq_true rfl) dL_undo_3 hc9 rfl) (fun ke b r v n1 hg he ad1 hgo1 hn1 cells slots hc hs H locs hB q9 ce hce hcv hcl => ?_) (fun y r v n1 rez hf he ad1 hg1 hn1 cells slots hc hs H locs hB => ?_)
  · by_cases hk3 : ke = 3
    · subst hk3
      have hg := ite_t hg rfl
      cases hg
      refine vx_catch (name := "java/lang/IllegalStateException") E.2.2.2.1 [] ⟨0, 8, 11, 17⟩ [] htb (fun z hz => nomatch hz) (by decide) (by decide) (hts _ wcL_17) (va_Nw.use rfl (hU.2.2.2.2.1 (exn 3) (by decide))) hce hcv hcl ?_
      refine lv_astore_n hx hb dL_undo_11 rfl hl (Nat.le_of_ble_eq_true rfl) rfl (fun ls hl => ?_)
      refine lv_iconst hx hb dL_undo_12 rfl ?_
      exact s_iretL E hrt hlocks hB hgo1 he hc hs dL_undo_13
    · have hg := ite_f hg hk3
      cases hg
  · rw [← (hg1.2 170 (slt hsh hn 170 rfl)).2]
    refine lv_i2l hx hb dL_undo_6 rfl ?_
    refine s_last E hU hB (hg1.2 _ (slt hsh hn 170 rfl)).1 dL_undo_7 (fun H locs hB => ?_)
    refine lv_goto hx hb dL_undo_8 rfl ?_
    refine lv_iconst hx hb dL_undo_14 rfl ?_
    cases hf
    exact s_iretL E hrt hlocks hB (hgo.trans hg1) he hc hs dL_undo_15
set_option maxRecDepth 100000 in
set_option maxHeartbeats 4000000 in
theorem mL_restore (l : Launch) (K : Nat) (hst : l.stackTraces = false) (D : va_G) (G : Nat → ClassId) (ad : Nat → Nat) (r : sR) (v : sV) (n : Nat) (x : Int64 × UInt64) (hsh : sSh r) (hn : 172 ≤ n) : sML l yL_restore (.codeWith yL_restore cL_restore 3 (some .int) [(0, 8, 11, 17)] :: wsL_law) rmL D G ad r v n x [.ref (ad 0), .ref (ad 170)] (fL_restore K r v n x) := by
  intro sz0 q0 hf
  obtain ⟨fin, he⟩ : ∃ fin, fin = fz n q0 := ⟨_, rfl⟩
  rw [← he]
  refine vx_ofWH (cc := cL_restore) (maxL := 3) (ret := (some .int)) (hh := [(0, 8, 11, 17)]) (by decide) rfl ?_
  intro p e s m args below meth c s₁ B hml hv
  obtain ⟨⟨hargs, rfl, hU, hP, hD, hZ⟩, hNc⟩ := hv
  have hx := B.exec
  have hb := B.bytes
  have hrt := B.returns
  have hts : ∀ w ∈ wsL_law, w.before args s = true := fun w hw => atoms_spec (ws := (.codeWith yL_restore cL_restore 3 (some .int) [(0, 8, 11, 17)] :: wsL_law)) B.pre w (List.mem_cons_of_mem _ hw)
  have htb : c.exceptionTable.toList = [⟨0, 8, 11, 17⟩] := vx_table (x := yL_restore) B (atoms_spec (ws := (.codeWith yL_restore cL_restore 3 (some .int) [(0, 8, 11, 17)] :: wsL_law)) B.pre _ List.mem_cons_self)
  have hlocks := B.notSynchronized
  have E : CallFix p m c cL_restore 3 s args wsL_law RL := ⟨hx, hb, hml, findClass_of_methodNamed B.named, hts⟩
  have hB : sB D G (sA ad r n s.heap.size) s.heap ad r v n x s.heap [] := ⟨hP, sD_self hD, va_S.rf⟩
  have hgo : sGo r n ad r n ad := sGo.rf
  have hl := lv_entry ([.ref (ad 0), .ref (ad 170)]) (n := 3) (Nat.le_of_ble_eq_true rfl)
  refine W.eq (g2 := F0 m 0 ((lg_sl ([.ref (ad 0), .ref (ad 170)]) ++ List.replicate (3 - (lg_sl ([.ref (ad 0), .ref (ad 170)])).length) Slot.unset).toArray) []) (by rw [hargs]; exact lg_entry_eq _ _ _) ?_
  generalize (lg_sl ([.ref (ad 0), .ref (ad 170)]) ++ List.replicate (3 - (lg_sl ([.ref (ad 0), .ref (ad 170)])).length) Slot.unset).toArray = ls at hl ⊢
  have hl : lv_has ls 3 [(0, .ref (ad 0)), (1, .ref (ad 170))] := hl
  refine W_00 (n := n) ?_
  have hf := (fL_restore.eq_1 ..).symm.trans hf
  refine lv_aload_n hx hb dL_restore_0 rfl (lv_at hl 1 rfl) ?_
  refine lv_iconst hx hb dL_restore_1 rfl ?_
  refine lv_aload_n hx hb dL_restore_2 rfl (lv_at hl 0 rfl) ?_
  refine sc_Ci hB hgo ⟨Nat.le_refl _, Nat.le_refl _⟩ hf he (fun q9 h9 hc9 => rV_T (As := []) (rest := [.int 0, .ref (ad 170)]) E hU hZ (fun q h => Or.inr h) hB sc8 (slt hsh hn 0 rfl) rfl (mX6_restore l K hst D G ad r v n x hsh hn _ _ h9) (cwGV 0 okX6_restore wmL_110 hts rfl rfl ⟨Nat.le_of_ble_eq_true rfl, Nat.le_of_ble_eq_true rfl⟩) rfl hl.1 (Nat.le_of_ble_eq_true rfl) dL_restore_3 hc9 rfl) (fun ke b r v n1 hg he ad1 hgo1 hn1 cells slots hc hs H locs hB q9 ce hce hcv hcl => ?_) (fun y r v n1 rez hf he ad1 hg1 hn1 cells slots hc hs H locs hB => ?_)
  · by_cases hk3 : ke = 3
    · subst hk3
      have hg := ite_t hg rfl
      cases hg
      refine vx_catch (name := "java/lang/IllegalStateException") E.2.2.2.1 [] ⟨0, 8, 11, 17⟩ [] htb (fun z hz => nomatch hz) (by decide) (by decide) (hts _ wcL_17) (va_Nw.use rfl (hU.2.2.2.2.1 (exn 3) (by decide))) hce hcv hcl ?_
      refine lv_astore_n hx hb dL_restore_11 rfl hl (Nat.le_of_ble_eq_true rfl) rfl (fun ls hl => ?_)
      refine lv_iconst hx hb dL_restore_12 rfl ?_
      exact s_iretL E hrt hlocks hB hgo1 he hc hs dL_restore_13
    · have hg := ite_f hg hk3
      cases hg
  · rw [← (hg1.2 170 (slt hsh hn 170 rfl)).2]
    refine lv_i2l hx hb dL_restore_6 rfl ?_
    refine s_last E hU hB (hg1.2 _ (slt hsh hn 170 rfl)).1 dL_restore_7 (fun H locs hB => ?_)
    refine lv_goto hx hb dL_restore_8 rfl ?_
    refine lv_iconst hx hb dL_restore_14 rfl ?_
    cases hf
    exact s_iretL E hrt hlocks hB (hgo.trans hg1) he hc hs dL_restore_15
