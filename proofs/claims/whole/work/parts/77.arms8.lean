/-! join, add -/
section
variable {v : sV} {K n : Nat} {r : sR} {W : aW} {B : Nat} {x : Int64 × UInt64}
theorem iO_N {y : Int32} : fX6_isOffset y = some (if -nI 3 ≤ y ∧ y ≤ nI 3 then nI 1 else nI 0) := iO_C
theorem a_13 (x1 x2 x3 x4 : Int32) (hC : CW W r v n) (hM : MW W v) (hI : IW B W) (hK : 400000 < K) : OUT B (fL_join K x1 x2 x3 x4 r v n x) (fX7_join K x1 x2 x3 x4) PI n := by
  have hsh := hC.2.1.1
  have hK16 : 16 < K := by omega
  rcases arg_A W.1 x1 with hn | ⟨a, ha, rfl, hx⟩
  · refine fin_thr hC hM hI (code := 1) (z := nI 0) (x' := x) (by decide) ?_ (fun w hw => ?_)
    · unfold fL_join fX6_join
      rw [rA_n hC.1 hn, bnd_some, acT_r]
      rfl
    · unfold fX7_join bX7_join_83
      rw [no_M hw.1.1 hn, bnd_some, if_pos (show nI 0 = (0 : Int32) from rfl), sf_w, s2_i, if_neg (by decide)]
      rfl
  rcases arg_A W.1 x2 with hn | ⟨l, hl, rfl, hlx⟩
  · refine fin_thr hC hM hI (code := 1) (z := nI 0) (x' := x) (by decide) ?_ (fun w hw => ?_)
    · unfold fL_join fX6_join
      rw [rA_y hC.1 ha hx, bnd_some, acT_l, ck_i hsh, rA_n hC.1 hn, bnd_some, acT_r]
      rfl
    · unfold fX7_join bX7_join_83
      rw [ya_M hw.1.1 ha hx, bnd_some, if_neg (show ¬ nI 1 = (0 : Int32) by decide), no_M hw.1.1 hn, bnd_some, if_pos (show nI 0 = (0 : Int32) from rfl), sf_w, s2_i, if_neg (by decide)]
      rfl
  by_cases hok : ¬ a = l ∧ (-nI 3 ≤ x3 ∧ x3 ≤ nI 3) ∧ (-nI 3 ≤ x4 ∧ x4 ≤ nI 3) ∧ ¬ (x3 = nI 0 ∧ x4 = nI 0)
  · obtain ⟨h1, h3, h4, h00⟩ := hok
    by_cases hL : cnI (fun m => decide (W.1 8 m = nI a)) 16 = 0 ∧ W.1 8 l = jM
    · obtain ⟨hL1, hL2⟩ := hL
      refine fin_ch (S' := joS W.1 a l x3 x4) (x' := ((nI (cnI (fun m => decide (joS W.1 a l x3 x4 8 m = nI l)) 16)).toInt64, x.2)) hC hM hI (K := K) (by omega) (iS_jo hI.1 hx hl hlx) (fun r1 v1 k1 e1 g1 => ?_) (fun w w1 hw e1 g1 q5 => ?_)
      · have hr : RelC 1 (joS W.1 a l x3 x4) (s2 (s2 (s2 v1 10 a (nI l)) 11 a x3) 12 a x4) := rcS (j := 10) (rcS (j := 9) (rcS (j := 8) g1.1 (by decide)) (by decide)) (by decide)
        have hco : coS (joS W.1 a l x3 x4) = coS W.1 := by unfold joS; rw [coS_s2 (by decide), coS_s2 (by decide), coS_s2 (by decide)]
        refine ⟨r1, s2 (s2 (s2 v1 10 a (nI l)) 11 a x3) 12 a x4, k1, ?_, CW_w g1 hr hco (fun p hp => by rw [s2_ne (by omega), s2_ne (by omega), s2_ne (by omega)]), fun p p1 p2 => by rw [s2_ne (by omega), s2_ne (by omega), s2_ne (by omega)]⟩
        unfold fL_join fX6_join bX6_join_44 fX6_requireArgument
        by_cases h30 : x3 = nI 0
        · have h40 : ¬ x4 = nI 0 := fun e => h00 ⟨h30, e⟩
          simp (disch := omega) only [↓jM_e, li_0, li_1, li_2, li_3, li_4, li_5, li_6, li_7, li_8, li_9, li_10, li_13, li_14, li_15, li_16, li_31, li_35, li_47, li_48, li_49, li_50, li_57, li_99, li_100, li_126, li_139, li_140, li_149, li_150, li_280, li_284, li_285, li_290, li_434, li_1260, li_3472, li_9999, li_65536, nm, nm_w, sf_w, cp_w, ld_I, sa_I, nI_add, pk_mul, Nat.zero_add, nI_leI, nI_ltI, nI_eq, nI_neM, M_neI, nI_ltM, nI_nltM, M_ltI, M_leI, nI_nleM, bnd_some, if_pos, if_neg, dif_t, dif_f, rA_y hC.1 ha hx, rA_y hC.1 hl hlx, acT_l, ck_i hsh, iO_N, if_pos h3, if_pos h4, if_pos h30, if_neg h40, il_C hC.1 hK16, if_pos hL1, im_C hC.1 hl, if_pos hL2, e1, ck_i g1.2.1.1, me_C hr hK16, bc_mk]
          rfl
        · simp (disch := omega) only [↓jM_e, li_0, li_1, li_2, li_3, li_4, li_5, li_6, li_7, li_8, li_9, li_10, li_13, li_14, li_15, li_16, li_31, li_35, li_47, li_48, li_49, li_50, li_57, li_99, li_100, li_126, li_139, li_140, li_149, li_150, li_280, li_284, li_285, li_290, li_434, li_1260, li_3472, li_9999, li_65536, nm, nm_w, sf_w, cp_w, ld_I, sa_I, nI_add, pk_mul, Nat.zero_add, nI_leI, nI_ltI, nI_eq, nI_neM, M_neI, nI_ltM, nI_nltM, M_ltI, M_leI, nI_nleM, bnd_some, if_pos, if_neg, dif_t, dif_f, rA_y hC.1 ha hx, rA_y hC.1 hl hlx, acT_l, ck_i hsh, iO_N, if_pos h3, if_pos h4, if_neg h30, il_C hC.1 hK16, if_pos hL1, im_C hC.1 hl, if_pos hL2, e1, ck_i g1.2.1.1, me_C hr hK16, bc_mk]
          rfl
      · have hco : coS (joS W.1 a l x3 x4) = coS W.1 := by unfold joS; rw [coS_s2 (by decide), coS_s2 (by decide), coS_s2 (by decide)]
        have hm : mI (joS W.1 a l x3 x4) (s2 (s2 (s2 w1 158 (290 + 9 * a + 6) (nI l)) 158 (290 + 9 * a + 7) x3) 158 (290 + 9 * a + 8) x4) := by
          refine ⟨?_, ?_⟩
          · rw [s2_upd, s2_upd, s2_upd]
            exact rmJ g1.1.1 ha hx
          · rw [hco]
            exact cacM_v g1.1.2 (by rw [s2_ne (by decide), s2_ne (by decide), s2_ne (by decide)]) (by rw [s2_ne (by decide), s2_ne (by decide), s2_ne (by decide)])
        have hcl := @cnI_le (fun m => decide (W.1 8 m = nI a)) 16
        have r8 := (rm hw.1.1 hl hlx).2.2.2.2.2.1
        unfold fX7_join bX7_join_60 bX7_join_83
        by_cases h30 : x3 = nI 0
        · have h40 : ¬ x4 = nI 0 := fun e => h00 ⟨h30, e⟩
          simp (disch := omega) only [↓jM_e, li_0, li_1, li_2, li_3, li_4, li_5, li_6, li_7, li_8, li_9, li_10, li_13, li_14, li_15, li_16, li_31, li_35, li_47, li_48, li_49, li_50, li_57, li_99, li_100, li_126, li_139, li_140, li_149, li_150, li_280, li_284, li_285, li_290, li_434, li_1260, li_3472, li_9999, li_65536, nm, nm_w, sf_w, cp_w, ld_I, sa_I, nI_add, pk_mul, Nat.zero_add, nI_leI, nI_ltI, nI_eq, nI_neM, M_neI, nI_ltM, nI_nltM, M_ltI, M_leI, nI_nleM, bnd_some, if_pos, if_neg, dif_t, dif_f, ya_M hw.1.1 ha hx, ya_M hw.1.1 hl hlx, ii_M, if_pos h3, if_pos h4, if_pos h30, if_neg h40, me_M hw.1.1 hI.1 ha hK16, hL1, at_M hl (show 6 < 9 by decide), r8, hL2, show (jM < nI 0) = True from by decide, s2_i, e1, pt_M ha (show 6 < 9 by decide), pt_M ha (show 7 < 9 by decide), pt_M ha (show 8 < 9 by decide), me_M hm.1 (iS_jo hI.1 hx hl hlx) hl hK16]
          exact ⟨_, _, rfl, rfl, hm, (frN_s2.trans frN_s2).trans frN_s2⟩
        · simp (disch := omega) only [↓jM_e, li_0, li_1, li_2, li_3, li_4, li_5, li_6, li_7, li_8, li_9, li_10, li_13, li_14, li_15, li_16, li_31, li_35, li_47, li_48, li_49, li_50, li_57, li_99, li_100, li_126, li_139, li_140, li_149, li_150, li_280, li_284, li_285, li_290, li_434, li_1260, li_3472, li_9999, li_65536, nm, nm_w, sf_w, cp_w, ld_I, sa_I, nI_add, pk_mul, Nat.zero_add, nI_leI, nI_ltI, nI_eq, nI_neM, M_neI, nI_ltM, nI_nltM, M_ltI, M_leI, nI_nleM, bnd_some, if_pos, if_neg, dif_t, dif_f, ya_M hw.1.1 ha hx, ya_M hw.1.1 hl hlx, ii_M, if_pos h3, if_pos h4, if_neg h30, me_M hw.1.1 hI.1 ha hK16, hL1, at_M hl (show 6 < 9 by decide), r8, hL2, show (jM < nI 0) = True from by decide, s2_i, e1, pt_M ha (show 6 < 9 by decide), pt_M ha (show 7 < 9 by decide), pt_M ha (show 8 < 9 by decide), me_M hm.1 (iS_jo hI.1 hx hl hlx) hl hK16]
          exact ⟨_, _, rfl, rfl, hm, (frN_s2.trans frN_s2).trans frN_s2⟩
    · refine fin_thr hC hM hI (code := 3) (z := nI 0) (x' := x) (by decide) ?_ (fun w hw => ?_)
      · have hb : ∀ t, t = nI 1 → bX6_join_44 K (nI a) (nI l) x3 x4 t r v n = some (Sum.inr 3, r, v, 0) := by
          intro t et
          subst et
          unfold bX6_join_44 fX6_requireArgument
          by_cases hL1 : cnI (fun m => decide (W.1 8 m = nI a)) 16 = 0
          · have hL2 : ¬ W.1 8 l = jM := fun e => hL ⟨hL1, e⟩
            simp (disch := omega) only [↓jM_e, li_0, li_1, li_2, li_3, li_4, li_5, li_6, li_7, li_8, li_9, li_10, li_13, li_14, li_15, li_16, li_31, li_35, li_47, li_48, li_49, li_50, li_57, li_99, li_100, li_126, li_139, li_140, li_149, li_150, li_280, li_284, li_285, li_290, li_434, li_1260, li_3472, li_9999, li_65536, nm, nm_w, sf_w, cp_w, ld_I, sa_I, nI_add, pk_mul, Nat.zero_add, nI_leI, nI_ltI, nI_eq, nI_neM, M_neI, nI_ltM, nI_nltM, M_ltI, M_leI, nI_nleM, bnd_some, if_pos, if_neg, dif_t, dif_f, acT_l, ck_i hsh, il_C hC.1 hK16, if_pos hL1, im_C hC.1 hl, if_neg hL2]
          · simp (disch := omega) only [↓jM_e, li_0, li_1, li_2, li_3, li_4, li_5, li_6, li_7, li_8, li_9, li_10, li_13, li_14, li_15, li_16, li_31, li_35, li_47, li_48, li_49, li_50, li_57, li_99, li_100, li_126, li_139, li_140, li_149, li_150, li_280, li_284, li_285, li_290, li_434, li_1260, li_3472, li_9999, li_65536, nm, nm_w, sf_w, cp_w, ld_I, sa_I, nI_add, pk_mul, Nat.zero_add, nI_leI, nI_ltI, nI_eq, nI_neM, M_neI, nI_ltM, nI_nltM, M_ltI, M_leI, nI_nleM, bnd_some, if_pos, if_neg, dif_t, dif_f, acT_l, ck_i hsh, il_C hC.1 hK16, if_neg hL1]
        unfold fL_join fX6_join
        by_cases h30 : x3 = nI 0
        · have h40 : ¬ x4 = nI 0 := fun e => h00 ⟨h30, e⟩
          simp (disch := omega) only [↓jM_e, li_0, li_1, li_2, li_3, li_4, li_5, li_6, li_7, li_8, li_9, li_10, li_13, li_14, li_15, li_16, li_31, li_35, li_47, li_48, li_49, li_50, li_57, li_99, li_100, li_126, li_139, li_140, li_149, li_150, li_280, li_284, li_285, li_290, li_434, li_1260, li_3472, li_9999, li_65536, nm, nm_w, sf_w, cp_w, ld_I, sa_I, nI_add, pk_mul, Nat.zero_add, nI_leI, nI_ltI, nI_eq, nI_neM, M_neI, nI_ltM, nI_nltM, M_ltI, M_leI, nI_nleM, bnd_some, if_pos, if_neg, dif_t, dif_f, rA_y hC.1 ha hx, rA_y hC.1 hl hlx, acT_l, ck_i hsh, iO_N, if_pos h3, if_pos h4, if_pos h30, if_neg h40, hb _ rfl]
          rfl
        · simp (disch := omega) only [↓jM_e, li_0, li_1, li_2, li_3, li_4, li_5, li_6, li_7, li_8, li_9, li_10, li_13, li_14, li_15, li_16, li_31, li_35, li_47, li_48, li_49, li_50, li_57, li_99, li_100, li_126, li_139, li_140, li_149, li_150, li_280, li_284, li_285, li_290, li_434, li_1260, li_3472, li_9999, li_65536, nm, nm_w, sf_w, cp_w, ld_I, sa_I, nI_add, pk_mul, Nat.zero_add, nI_leI, nI_ltI, nI_eq, nI_neM, M_neI, nI_ltM, nI_nltM, M_ltI, M_leI, nI_nleM, bnd_some, if_pos, if_neg, dif_t, dif_f, rA_y hC.1 ha hx, rA_y hC.1 hl hlx, acT_l, ck_i hsh, iO_N, if_pos h3, if_pos h4, if_neg h30, hb _ rfl]
          rfl
      · have r8 := (rm hw.1.1 hl hlx).2.2.2.2.2.1
        have hcl := @cnI_le (fun m => decide (W.1 8 m = nI a)) 16
        have hb : bX7_join_60 K (nI a) (nI l) x3 x4 w = some (nI 0, s2 w 157 6 (nI 3)) := by
          unfold bX7_join_60 bX7_join_83
          by_cases hL1 : cnI (fun m => decide (W.1 8 m = nI a)) 16 = 0
          · have hL2 : ¬ W.1 8 l = jM := fun e => hL ⟨hL1, e⟩
            obtain ⟨l', hl', el, -⟩ := ((hI.1.2.2.2.1 l hl hlx).2.2.2).resolve_left hL2
            simp (disch := omega) only [↓jM_e, li_0, li_1, li_2, li_3, li_4, li_5, li_6, li_7, li_8, li_9, li_10, li_13, li_14, li_15, li_16, li_31, li_35, li_47, li_48, li_49, li_50, li_57, li_99, li_100, li_126, li_139, li_140, li_149, li_150, li_280, li_284, li_285, li_290, li_434, li_1260, li_3472, li_9999, li_65536, nm, nm_w, sf_w, cp_w, ld_I, sa_I, nI_add, pk_mul, Nat.zero_add, nI_leI, nI_ltI, nI_eq, nI_neM, M_neI, nI_ltM, nI_nltM, M_ltI, M_leI, nI_nleM, bnd_some, if_pos, if_neg, dif_t, dif_f, me_M hw.1.1 hI.1 ha hK16, hL1, at_M hl (show 6 < 9 by decide), r8, el, s2_i]
          · simp (disch := omega) only [↓jM_e, li_0, li_1, li_2, li_3, li_4, li_5, li_6, li_7, li_8, li_9, li_10, li_13, li_14, li_15, li_16, li_31, li_35, li_47, li_48, li_49, li_50, li_57, li_99, li_100, li_126, li_139, li_140, li_149, li_150, li_280, li_284, li_285, li_290, li_434, li_1260, li_3472, li_9999, li_65536, nm, nm_w, sf_w, cp_w, ld_I, sa_I, nI_add, pk_mul, Nat.zero_add, nI_leI, nI_ltI, nI_eq, nI_neM, M_neI, nI_ltM, nI_nltM, M_ltI, M_leI, nI_nleM, bnd_some, if_pos, if_neg, dif_t, dif_f, me_M hw.1.1 hI.1 ha hK16, s2_i]
        unfold fX7_join
        by_cases h30 : x3 = nI 0
        · have h40 : ¬ x4 = nI 0 := fun e => h00 ⟨h30, e⟩
          simp (disch := omega) only [↓jM_e, li_0, li_1, li_2, li_3, li_4, li_5, li_6, li_7, li_8, li_9, li_10, li_13, li_14, li_15, li_16, li_31, li_35, li_47, li_48, li_49, li_50, li_57, li_99, li_100, li_126, li_139, li_140, li_149, li_150, li_280, li_284, li_285, li_290, li_434, li_1260, li_3472, li_9999, li_65536, nm, nm_w, sf_w, cp_w, ld_I, sa_I, nI_add, pk_mul, Nat.zero_add, nI_leI, nI_ltI, nI_eq, nI_neM, M_neI, nI_ltM, nI_nltM, M_ltI, M_leI, nI_nleM, bnd_some, if_pos, if_neg, dif_t, dif_f, ya_M hw.1.1 ha hx, ya_M hw.1.1 hl hlx, ii_M, if_pos h3, if_pos h4, if_pos h30, if_neg h40, hb]
        · simp (disch := omega) only [↓jM_e, li_0, li_1, li_2, li_3, li_4, li_5, li_6, li_7, li_8, li_9, li_10, li_13, li_14, li_15, li_16, li_31, li_35, li_47, li_48, li_49, li_50, li_57, li_99, li_100, li_126, li_139, li_140, li_149, li_150, li_280, li_284, li_285, li_290, li_434, li_1260, li_3472, li_9999, li_65536, nm, nm_w, sf_w, cp_w, ld_I, sa_I, nI_add, pk_mul, Nat.zero_add, nI_leI, nI_ltI, nI_eq, nI_neM, M_neI, nI_ltM, nI_nltM, M_ltI, M_leI, nI_nleM, bnd_some, if_pos, if_neg, dif_t, dif_f, ya_M hw.1.1 ha hx, ya_M hw.1.1 hl hlx, ii_M, if_pos h3, if_pos h4, if_neg h30, hb]
  · refine fin_thr hC hM hI (code := 2) (z := nI 0) (x' := x) (by decide) ?_ (fun w hw => ?_)
    · have hb : bX6_join_44 K (nI a) (nI l) x3 x4 (nI 0) r v n = some (Sum.inr 2, r, v, 0) := by
        unfold bX6_join_44 fX6_requireArgument
        simp (disch := omega) only [↓jM_e, li_0, li_1, li_2, li_3, li_4, li_5, li_6, li_7, li_8, li_9, li_10, li_13, li_14, li_15, li_16, li_31, li_35, li_47, li_48, li_49, li_50, li_57, li_99, li_100, li_126, li_139, li_140, li_149, li_150, li_280, li_284, li_285, li_290, li_434, li_1260, li_3472, li_9999, li_65536, nm, nm_w, sf_w, cp_w, ld_I, sa_I, nI_add, pk_mul, Nat.zero_add, nI_leI, nI_ltI, nI_eq, nI_neM, M_neI, nI_ltM, nI_nltM, M_ltI, M_leI, nI_nleM, bnd_some, if_pos, if_neg, dif_t, dif_f, acT_r]
      unfold fL_join fX6_join
      by_cases h1 : a = l
      · simp (disch := omega) only [↓jM_e, li_0, li_1, li_2, li_3, li_4, li_5, li_6, li_7, li_8, li_9, li_10, li_13, li_14, li_15, li_16, li_31, li_35, li_47, li_48, li_49, li_50, li_57, li_99, li_100, li_126, li_139, li_140, li_149, li_150, li_280, li_284, li_285, li_290, li_434, li_1260, li_3472, li_9999, li_65536, nm, nm_w, sf_w, cp_w, ld_I, sa_I, nI_add, pk_mul, Nat.zero_add, nI_leI, nI_ltI, nI_eq, nI_neM, M_neI, nI_ltM, nI_nltM, M_ltI, M_leI, nI_nleM, bnd_some, if_pos, if_neg, dif_t, dif_f, rA_y hC.1 ha hx, rA_y hC.1 hl hlx, acT_l, ck_i hsh, hb]
        rfl
      · by_cases h3 : -nI 3 ≤ x3 ∧ x3 ≤ nI 3
        · by_cases h4 : -nI 3 ≤ x4 ∧ x4 ≤ nI 3
          · have h00 : x3 = nI 0 ∧ x4 = nI 0 := Decidable.byContradiction (fun g => hok ⟨h1, h3, h4, g⟩)
            simp (disch := omega) only [↓jM_e, li_0, li_1, li_2, li_3, li_4, li_5, li_6, li_7, li_8, li_9, li_10, li_13, li_14, li_15, li_16, li_31, li_35, li_47, li_48, li_49, li_50, li_57, li_99, li_100, li_126, li_139, li_140, li_149, li_150, li_280, li_284, li_285, li_290, li_434, li_1260, li_3472, li_9999, li_65536, nm, nm_w, sf_w, cp_w, ld_I, sa_I, nI_add, pk_mul, Nat.zero_add, nI_leI, nI_ltI, nI_eq, nI_neM, M_neI, nI_ltM, nI_nltM, M_ltI, M_leI, nI_nleM, bnd_some, if_pos, if_neg, dif_t, dif_f, rA_y hC.1 ha hx, rA_y hC.1 hl hlx, acT_l, ck_i hsh, iO_N, if_pos h3, if_pos h4, if_pos h00.1, if_pos h00.2, hb]
            rfl
          · simp (disch := omega) only [↓jM_e, li_0, li_1, li_2, li_3, li_4, li_5, li_6, li_7, li_8, li_9, li_10, li_13, li_14, li_15, li_16, li_31, li_35, li_47, li_48, li_49, li_50, li_57, li_99, li_100, li_126, li_139, li_140, li_149, li_150, li_280, li_284, li_285, li_290, li_434, li_1260, li_3472, li_9999, li_65536, nm, nm_w, sf_w, cp_w, ld_I, sa_I, nI_add, pk_mul, Nat.zero_add, nI_leI, nI_ltI, nI_eq, nI_neM, M_neI, nI_ltM, nI_nltM, M_ltI, M_leI, nI_nleM, bnd_some, if_pos, if_neg, dif_t, dif_f, rA_y hC.1 ha hx, rA_y hC.1 hl hlx, acT_l, ck_i hsh, iO_N, if_pos h3, if_neg h4, hb]
            rfl
        · simp (disch := omega) only [↓jM_e, li_0, li_1, li_2, li_3, li_4, li_5, li_6, li_7, li_8, li_9, li_10, li_13, li_14, li_15, li_16, li_31, li_35, li_47, li_48, li_49, li_50, li_57, li_99, li_100, li_126, li_139, li_140, li_149, li_150, li_280, li_284, li_285, li_290, li_434, li_1260, li_3472, li_9999, li_65536, nm, nm_w, sf_w, cp_w, ld_I, sa_I, nI_add, pk_mul, Nat.zero_add, nI_leI, nI_ltI, nI_eq, nI_neM, M_neI, nI_ltM, nI_nltM, M_ltI, M_leI, nI_nleM, bnd_some, if_pos, if_neg, dif_t, dif_f, rA_y hC.1 ha hx, rA_y hC.1 hl hlx, acT_l, ck_i hsh, iO_N, if_neg h3, hb]
          rfl
    · have hb : bX7_join_83 K (nI a) (nI l) x3 x4 (nI 2) w = some (nI 0, s2 w 157 6 (nI 2)) := by
        unfold bX7_join_83
        simp (disch := omega) only [↓jM_e, li_0, li_1, li_2, li_3, li_4, li_5, li_6, li_7, li_8, li_9, li_10, li_13, li_14, li_15, li_16, li_31, li_35, li_47, li_48, li_49, li_50, li_57, li_99, li_100, li_126, li_139, li_140, li_149, li_150, li_280, li_284, li_285, li_290, li_434, li_1260, li_3472, li_9999, li_65536, nm, nm_w, sf_w, cp_w, ld_I, sa_I, nI_add, pk_mul, Nat.zero_add, nI_leI, nI_ltI, nI_eq, nI_neM, M_neI, nI_ltM, nI_nltM, M_ltI, M_leI, nI_nleM, bnd_some, if_pos, if_neg, dif_t, dif_f, s2_i]
      unfold fX7_join
      by_cases h1 : a = l
      · simp (disch := omega) only [↓jM_e, li_0, li_1, li_2, li_3, li_4, li_5, li_6, li_7, li_8, li_9, li_10, li_13, li_14, li_15, li_16, li_31, li_35, li_47, li_48, li_49, li_50, li_57, li_99, li_100, li_126, li_139, li_140, li_149, li_150, li_280, li_284, li_285, li_290, li_434, li_1260, li_3472, li_9999, li_65536, nm, nm_w, sf_w, cp_w, ld_I, sa_I, nI_add, pk_mul, Nat.zero_add, nI_leI, nI_ltI, nI_eq, nI_neM, M_neI, nI_ltM, nI_nltM, M_ltI, M_leI, nI_nleM, bnd_some, if_pos, if_neg, dif_t, dif_f, ya_M hw.1.1 ha hx, ya_M hw.1.1 hl hlx, hb]
      · by_cases h3 : -nI 3 ≤ x3 ∧ x3 ≤ nI 3
        · by_cases h4 : -nI 3 ≤ x4 ∧ x4 ≤ nI 3
          · have h00 : x3 = nI 0 ∧ x4 = nI 0 := Decidable.byContradiction (fun g => hok ⟨h1, h3, h4, g⟩)
            simp (disch := omega) only [↓jM_e, li_0, li_1, li_2, li_3, li_4, li_5, li_6, li_7, li_8, li_9, li_10, li_13, li_14, li_15, li_16, li_31, li_35, li_47, li_48, li_49, li_50, li_57, li_99, li_100, li_126, li_139, li_140, li_149, li_150, li_280, li_284, li_285, li_290, li_434, li_1260, li_3472, li_9999, li_65536, nm, nm_w, sf_w, cp_w, ld_I, sa_I, nI_add, pk_mul, Nat.zero_add, nI_leI, nI_ltI, nI_eq, nI_neM, M_neI, nI_ltM, nI_nltM, M_ltI, M_leI, nI_nleM, bnd_some, if_pos, if_neg, dif_t, dif_f, ya_M hw.1.1 ha hx, ya_M hw.1.1 hl hlx, ii_M, if_pos h3, if_pos h4, if_pos h00.1, if_pos h00.2, hb]
          · simp (disch := omega) only [↓jM_e, li_0, li_1, li_2, li_3, li_4, li_5, li_6, li_7, li_8, li_9, li_10, li_13, li_14, li_15, li_16, li_31, li_35, li_47, li_48, li_49, li_50, li_57, li_99, li_100, li_126, li_139, li_140, li_149, li_150, li_280, li_284, li_285, li_290, li_434, li_1260, li_3472, li_9999, li_65536, nm, nm_w, sf_w, cp_w, ld_I, sa_I, nI_add, pk_mul, Nat.zero_add, nI_leI, nI_ltI, nI_eq, nI_neM, M_neI, nI_ltM, nI_nltM, M_ltI, M_leI, nI_nleM, bnd_some, if_pos, if_neg, dif_t, dif_f, ya_M hw.1.1 ha hx, ya_M hw.1.1 hl hlx, ii_M, if_pos h3, if_neg h4, hb]
        · simp (disch := omega) only [↓jM_e, li_0, li_1, li_2, li_3, li_4, li_5, li_6, li_7, li_8, li_9, li_10, li_13, li_14, li_15, li_16, li_31, li_35, li_47, li_48, li_49, li_50, li_57, li_99, li_100, li_126, li_139, li_140, li_149, li_150, li_280, li_284, li_285, li_290, li_434, li_1260, li_3472, li_9999, li_65536, nm, nm_w, sf_w, cp_w, ld_I, sa_I, nI_add, pk_mul, Nat.zero_add, nI_leI, nI_ltI, nI_eq, nI_neM, M_neI, nI_ltM, nI_nltM, M_ltI, M_leI, nI_nleM, bnd_some, if_pos, if_neg, dif_t, dif_f, ya_M hw.1.1 ha hx, ya_M hw.1.1 hl hlx, ii_M, if_neg h3, hb]
def loU (S : aS) : Option Nat := ffI (fun a => !exS S a) 16 0
theorem lu_C {S : aS} {b cq : Nat} (h : RelC b S v) (hK : 16 < K) : fX0_lowestUnused K cq b v = some (oI (loU S)) := by
  unfold fX0_lowestUnused
  refine fx1_go (P := fun t x => x = nI t ∧ ffI (fun a => !exS S a) (16 - t) t = loU S) (Q := fun o => o = some (oI (loU S))) (N := 16) ?_ ⟨rfl, rfl⟩ hK
  intro t x ht ⟨e1, e2⟩ k hk
  subst e1
  unfold gX0_lowestUnused_2
  by_cases ht1 : t = 16
  · subst ht1
    rw [← e2]
    simp (disch := omega) only [↓jM_e, li_0, li_1, li_2, li_3, li_4, li_5, li_6, li_7, li_8, li_9, li_10, li_13, li_14, li_15, li_16, li_31, li_35, li_47, li_48, li_49, li_50, li_57, li_99, li_100, li_126, li_139, li_140, li_149, li_150, li_280, li_284, li_285, li_290, li_434, li_1260, li_3472, li_9999, li_65536, nm, nm_w, sf_w, cp_w, ld_I, sa_I, nI_add, pk_mul, Nat.zero_add, nI_leI, nI_ltI, nI_eq, nI_neM, M_neI, nI_ltM, nI_nltM, M_ltI, M_leI, nI_nleM, bnd_some, if_pos, if_neg, dif_t, dif_f]
    rfl
  · have ht2 : t < 16 := by omega
    rw [show 16 - t = (16 - (t + 1)) + 1 by omega] at e2
    have e2 : (if (!exS S t) = true then some t else ffI (fun a => !exS S a) (16 - (t + 1)) (t + 1)) = loU S := e2
    by_cases hx : exS S t = true
    · rw [if_neg (by simp [hx])] at e2
      simp (disch := omega) only [↓jM_e, li_0, li_1, li_2, li_3, li_4, li_5, li_6, li_7, li_8, li_9, li_10, li_13, li_14, li_15, li_16, li_31, li_35, li_47, li_48, li_49, li_50, li_57, li_99, li_100, li_126, li_139, li_140, li_149, li_150, li_280, li_284, li_285, li_290, li_434, li_1260, li_3472, li_9999, li_65536, nm, nm_w, sf_w, cp_w, ld_I, sa_I, nI_add, pk_mul, Nat.zero_add, nI_leI, nI_ltI, nI_eq, nI_neM, M_neI, nI_ltM, nI_nltM, M_ltI, M_leI, nI_nleM, bnd_some, if_pos, if_neg, dif_t, dif_f, ex_C h ht2, if_pos hx]
      exact hk ht2 _ ⟨rfl, e2⟩
    · rw [if_pos (by simp [hx])] at e2
      simp (disch := omega) only [↓jM_e, li_0, li_1, li_2, li_3, li_4, li_5, li_6, li_7, li_8, li_9, li_10, li_13, li_14, li_15, li_16, li_31, li_35, li_47, li_48, li_49, li_50, li_57, li_99, li_100, li_126, li_139, li_140, li_149, li_150, li_280, li_284, li_285, li_290, li_434, li_1260, li_3472, li_9999, li_65536, nm, nm_w, sf_w, cp_w, ld_I, sa_I, nI_add, pk_mul, Nat.zero_add, nI_leI, nI_ltI, nI_eq, nI_neM, M_neI, nI_ltM, nI_nltM, M_ltI, M_leI, nI_nleM, bnd_some, if_pos, if_neg, dif_t, dif_f, ex_C h ht2, if_neg hx]
      rw [← e2]
      rfl
theorem cnI_all {P : Nat → Bool} : ∀ {N : Nat}, cnI P N = N → ∀ t, t < N → P t = true
  | 0, _, t, ht => absurd ht (Nat.not_lt_zero t)
  | N + 1, h, t, ht => by
    have h : cnI P N + (if P N = true then 1 else 0) = N + 1 := h
    have hl := @cnI_le P N
    by_cases hp : P N = true
    · rw [if_pos hp] at h
      by_cases htN : t = N
      · rw [htN]; exact hp
      · exact cnI_all (N := N) (by omega) t (by omega)
    · rw [if_neg hp] at h
      omega
theorem lu_16 {S : aS} : (loU S = none) = (cnI (exS S) 16 = 16) := by
  apply propext
  constructor
  · intro h
    have := ffI_n h
    have e : cnI (exS S) 16 = cnI (fun _ => true) 16 := cnI_c (fun t ht => by have := this t (Nat.zero_le t) (by omega); simpa using this)
    rw [e]
    rfl
  · intro h
    have ha := cnI_all h
    cases hl : loU S with
    | none => rfl
    | some a =>
      obtain ⟨g1, -, g3, -⟩ := ffI_s hl
      have := ha a (by omega)
      rw [this] at g1
      cases g1
def plS (S : aS) (a q : Nat) (x3 x4 : Int32) : aS := s2 (s2 (s2 (s2 (s2 (s2 S 3 a (nI q)) 4 a x3) 5 a x4) 6 a (nI 0)) 7 a (nI 0)) 8 a jM
theorem plS_a {S : aS} {a q : Nat} {x3 x4 : Int32} : plS S a q x3 x4 3 a = nI q ∧ plS S a q x3 x4 4 a = x3 ∧ plS S a q x3 x4 5 a = x4 ∧ plS S a q x3 x4 6 a = nI 0 ∧ plS S a q x3 x4 7 a = nI 0 ∧ plS S a q x3 x4 8 a = jM := by
  unfold plS
  refine ⟨?_, ?_, ?_, ?_, ?_, ?_⟩
  · rw [s2_p (by decide), s2_p (by decide), s2_p (by decide), s2_p (by decide), s2_p (by decide), s2_i]
  · rw [s2_p (by decide), s2_p (by decide), s2_p (by decide), s2_p (by decide), s2_i]
  · rw [s2_p (by decide), s2_p (by decide), s2_p (by decide), s2_i]
  · rw [s2_p (by decide), s2_p (by decide), s2_i]
  · rw [s2_p (by decide), s2_i]
  · rw [s2_i]
theorem s2_q {w : sV} {p i q j : Nat} {y : Int32} (h : ¬ (q = p ∧ j = i)) : s2 w p i y q j = w q j := if_neg h
theorem plS_o {S : aS} {a q j i : Nat} {x3 x4 : Int32} (h : i ≠ a ∨ j < 3 ∨ 8 < j) : plS S a q x3 x4 j i = S j i := by
  unfold plS
  rw [s2_q (by omega), s2_q (by omega), s2_q (by omega), s2_q (by omega), s2_q (by omega), s2_q (by omega)]
theorem iS_pl {S : aS} {a q : Nat} {x3 x4 : Int32} (h : iS B S) (hx : S 3 a = jM) (hq : q < 140) (h0 : coS S q ≠ 0) (hf : agOn S q = none) (h3 : x3 = jM ∨ ∃ g, g < 4 ∧ x3 = nI g) (h4 : ∃ p, p < 10 ∧ x4 = nI p) : iS B (plS S a q x3 x4) := by
  have hco : coS (plS S a q x3 x4) = coS S := by
    funext i
    unfold coS
    rw [plS_o (by omega)]
  have hC : ∀ y, isC (plS S a q x3 x4) y = isC S y := fun y => by unfold isC; rw [hco]
  obtain ⟨p3, p4, p5, p6, p7, p8⟩ := @plS_a S a q x3 x4
  obtain ⟨g1, g2, g3, g4, g5, g6, g7⟩ := h
  unfold iS
  rw [hco]
  simp only [hC]
  refine ⟨fun i hi => by rw [plS_o (by omega)]; exact g1 i hi, fun g hg => by rw [plS_o (by omega)]; exact g2 g hg, fun a' ha' => ?_, fun a' ha' hx' => ?_, fun a' ha' hx' => ?_, fun i hi => by rw [plS_o (by omega)]; exact g6 i hi, fun a1 a2 ha1 ha2 hx' e => ?_⟩
  · by_cases haa : a' = a
    · rw [haa, p3]; exact Or.inr ⟨q, hq, rfl, h0⟩
    · rw [plS_o (Or.inl haa)]; exact g3 a' ha'
  · by_cases haa : a' = a
    · subst haa
      rw [p4, p5, p6, p8]
      exact ⟨h3, h4, ⟨0, by decide, rfl⟩, Or.inl rfl⟩
    · rw [plS_o (Or.inl haa)] at hx'
      rw [plS_o (Or.inl haa), plS_o (Or.inl haa), plS_o (Or.inl haa), plS_o (Or.inl haa)]
      obtain ⟨q1, q2, q3, q4⟩ := g4 a' ha' hx'
      refine ⟨q1, q2, q3, q4.imp id (fun ⟨l, hl, el, hlx⟩ => ⟨l, hl, el, ?_⟩)⟩
      rw [plS_o (Or.inl (fun e => hlx (by rw [e]; exact hx)))]
      exact hlx
  · by_cases haa : a' = a
    · rw [haa, p8]
    · rw [plS_o (Or.inl haa)] at hx' ⊢
      exact g5 a' ha' hx'
  · by_cases q1 : a1 = a
    · by_cases q2 : a2 = a
      · rw [q1, q2]
      · rw [q1, p3, plS_o (Or.inl q2)] at e
        exact absurd e.symm (of_decide_eq_false (ffI_n hf a2 (Nat.zero_le a2) (by omega)))
    · rw [plS_o (Or.inl q1)] at hx'
      by_cases q2 : a2 = a
      · rw [q2, p3, plS_o (Or.inl q1)] at e
        exact absurd e (of_decide_eq_false (ffI_n hf a1 (Nat.zero_le a1) (by omega)))
      · rw [plS_o (Or.inl q1), plS_o (Or.inl q2)] at e
        exact g7 a1 a2 ha1 ha2 hx' e
theorem rmP {S : aS} {f f' : Nat → Int32} {a q : Nat} {x3 x4 : Int32} (h : RelM S f) (ha : a < 16) (hq : q < 140) (ho : ∀ j, (j < 290 + 9 * a ∨ 290 + 9 * a + 9 ≤ j) → f' j = f j) (e0 : f' (290 + 9 * a + 0) = nI 1) (e1 : f' (290 + 9 * a + 1) = nI q) (e2 : f' (290 + 9 * a + 2) = x3) (e3 : f' (290 + 9 * a + 3) = x4) (e4 : f' (290 + 9 * a + 4) = nI 0) (e5 : f' (290 + 9 * a + 5) = nI 0) (e6 : f' (290 + 9 * a + 6) = jM) : RelM (plS S a q x3 x4) f' := by
  obtain ⟨p3, p4, p5, p6, p7, p8⟩ := @plS_a S a q x3 x4
  obtain ⟨h1, h2, h3, h4, h5, h6⟩ := h
  refine ⟨fun i hi => ?_, fun i hi => ?_, fun i hi => ?_, ?_, fun i hi => ?_, fun a' ha' => ?_⟩
  · rw [ho _ (by omega), plS_o (by omega)]; exact h1 i hi
  · rw [ho _ (by omega), plS_o (by omega)]; exact h2 i hi
  · rw [ho _ (by omega), plS_o (by omega)]; exact h3 i hi
  · rw [ho _ (by omega), plS_o (by omega)]; exact h4
  · rw [ho _ (by omega), plS_o (by omega)]; exact h5 i hi
  · by_cases haa : a' = a
    · subst haa
      rw [p3, p4, p5, p6, p7, p8]
      exact ⟨fun g => by rw [nI_neM (by omega)] at g; exact g.elim, fun _ => ⟨e0, e1, e2, e3, e4, e5, e6, fun g => absurd rfl g⟩⟩
    · have hu : ∀ m, m ≤ 8 → f' (290 + 9 * a' + m) = f (290 + 9 * a' + m) := fun m hm => ho _ (by omega)
      rw [hu 0 (by decide), hu 1 (by decide), hu 2 (by decide), hu 3 (by decide), hu 4 (by decide), hu 5 (by decide), hu 6 (by decide), hu 7 (by decide), hu 8 (by decide)]
      simp only [plS_o (S := S) (q := q) (x3 := x3) (x4 := x4) (Or.inl haa)]
      exact h6 a' ha'
end
