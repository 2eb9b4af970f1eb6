/-! THE ARMS, PURE: the class and the reference answer alike, and stay alike -/
section
variable {v : sV} {K n : Nat} {r : sR} {W : aW} {B : Nat} {β : Type} {fL : Option ((Int32 × (Int64 × UInt64)) × sR × sV × Nat)} {f7 : sV → Option (β × sV)} {P : Int64 × UInt64 → β → Prop}
theorem fin_thr (hC : CW W r v n) (hM : MW W v) (hI : IW B W) {code : Nat} (h0 : nI code ≠ 0) {z : β} {x' : Int64 × UInt64} (e1 : fL = some ((nI code, x'), r, v, 0)) (h7 : ∀ w, MW W w → f7 w = some (z, s2 w 157 6 (nI code))) : OUT B fL f7 P n :=
  fin_ok hM e1 hC (fun _ _ _ => rfl) hI (fun w hw => ⟨z, _, h7 w hw, s2_i, fun h => absurd h h0, MW_t hw, fun p hp => s2_ne (by omega)⟩)
theorem fin_rd (hC : CW W r v n) (hM : MW W v) (hI : IW B W) {x' : Int64 × UInt64} (e1 : fL = some ((nI 0, x'), r, v, 0)) (h7 : ∀ w, MW W w → ∃ z, f7 w = some (z, s2 w 157 6 (nI 0)) ∧ P x' z) : OUT B fL f7 P n :=
  fin_ok hM e1 hC (fun _ _ _ => rfl) hI (fun w hw => by
    obtain ⟨z, h1, h2⟩ := h7 w hw
    exact ⟨z, _, h1, s2_i, fun _ => h2, MW_t hw, fun p hp => s2_ne (by omega)⟩)
theorem coS_s2 {S : aS} {j i : Nat} {x : Int32} (hj : j ≠ 0) : coS (s2 S j i x) = coS S := by
  funext c
  unfold coS
  rw [s2_p (fun e => hj e.symm)]
theorem MW_w {S' : aS} {w w' : sV} (h : MW W w) (hm : mI S' w') (hf : frN w w') : MW (wS W S') w' := by
  obtain ⟨g1, g2, g3, g4, g5⟩ := h
  have e : ∀ p, p ≠ 158 → p ≠ 162 → p ≠ 163 → p ≠ 164 → p ≠ 165 → w' p = w p := hf
  refine ⟨hm, ?_, ?_, ?_, ?_⟩
  · rw [e 157 (by decide) (by decide) (by decide) (by decide) (by decide)]; exact g2
  · rw [e 161 (by decide) (by decide) (by decide) (by decide) (by decide)]; exact g3
  · rw [e 157 (by decide) (by decide) (by decide) (by decide) (by decide), e 159 (by decide) (by decide) (by decide) (by decide) (by decide)]; exact g4
  · rw [e 157 (by decide) (by decide) (by decide) (by decide) (by decide), e 168 (by decide) (by decide) (by decide) (by decide) (by decide)]; exact g5
theorem iS_s12 {S : aS} {x : Int32} (h : iS B S) : iS B (s2 S 12 0 x) := by
  have hs : ∀ j', j' ≠ 12 → s2 S 12 0 x j' = S j' := fun j' h => s2_ne h
  have hco : coS (s2 S 12 0 x) = coS S := coS_s2 (by decide)
  have hC : ∀ y, isC (s2 S 12 0 x) y = isC S y := fun y => by unfold isC; rw [hco]
  unfold iS
  rw [hco, hs 0 (by omega), hs 1 (by omega), hs 2 (by omega), hs 3 (by omega), hs 4 (by omega), hs 5 (by omega), hs 6 (by omega), hs 8 (by omega)]
  simp only [hC]
  exact h
theorem CW_w {S' : aS} {v' : sV} (h : CW W r v n) (h1 : RelC 1 S' v') (h2 : coS S' = coS W.1) (hv : ∀ p, ¬ (1 ≤ p ∧ p < 14) → v' p = v p) : CW (wS W S') r v' n :=
  CW_f h rfl h1 (by show cacC (coS S') r v' n; rw [h2]; exact cacC_v h.2.1 (fun p hp => hv p (by omega))) (fun p hp => hv p (by omega))
/-- a change: kept, then made, on both sides -/
theorem fin_ch (hC : CW W r v n) (hM : MW W v) (hI : IW B W) (hK : 4000 < K) {S' : aS} {x' : Int64 × UInt64} (hS : iS B S')
    (e1 : ∀ r1 v1 k1, (∀ (β : Type) (f : Unit → sR → sV → Nat → Option (β × sR × sV × Nat)), (fX3_record K 1 r v n).bind (fun q9 => ac q9 n f) = (f () r1 v1 (n + k1)).map (addk k1)) → CW (wK W) r1 v1 (n + k1) → ∃ r2 v2 k2, fL = some ((nI 0, x'), r2, v2, k2) ∧ CW (wS (wK W) S') r2 v2 (n + k2) ∧ ∀ p, 157 ≤ p → p < 172 → v2 p = v1 p)
    (h7 : ∀ w w1, MW W w → fX7_keeps K (s2 w 157 6 (nI 0)) = some w1 → MW (wK W) w1 → w1 157 6 = nI 0 → ∃ z w2, f7 w = some (z, w2) ∧ P x' z ∧ mI S' w2 ∧ frN w1 w2) : OUT B fL f7 P n := by
  obtain ⟨r1, v1, k1, e2, g1, g2⟩ := keep_C (K := K) hC hI (by omega)
  obtain ⟨r2, v2, k2, e3, g3, g4⟩ := e1 r1 v1 k1 e2 g1
  refine fin_ok hM e3 g3 (fun p p1 p2 => by rw [g4 p p1 p2, g2 p (by omega) (by omega)]) (IW_S (IW_K hI) hS) (fun w hw => ?_)
  obtain ⟨w1, q1, q2, q3, q4⟩ := keep_M (K := K) (MW_t (y := nI 0) hw) hI hK
  have q5 : w1 157 6 = nI 0 := q4.trans s2_i
  obtain ⟨z, w2, t1, t2, t3, t4⟩ := h7 w w1 hw q1 q2 q5
  refine ⟨z, w2, t1, ?_, fun _ => t2, MW_w q2 t3 t4, fun p hp => ?_⟩
  · rw [t4 157 (by decide) (by decide) (by decide) (by decide) (by decide)]; exact q5
  · rw [t4 p (by omega) (by omega) (by omega) (by omega) (by omega), q3 p (by omega) (by omega), s2_ne (by omega)]
end
abbrev PI : Int64 × UInt64 → Int32 → Prop := fun c z => c.1 = z.toInt64
section
variable {v : sV} {K n : Nat} {r : sR} {W : aW} {B : Nat} {x : Int64 × UInt64}
theorem a_7 (x1 : Int32) (hC : CW W r v n) (hM : MW W v) (hI : IW B W) (hK : 400000 < K) : OUT B (fL_setPatience K x1 r v n x) (fX7_setPatience K x1) PI n := by
  have hsh := hC.2.1.1
  have hthr : ¬ (nI 0 ≤ x1 ∧ x1 ≤ nI 9) → (x1 < nI 0 ∨ nI 9 < x1) → OUT B (fL_setPatience K x1 r v n x) (fX7_setPatience K x1) PI n := by
    intro h1 h2
    refine fin_thr hC hM hI (code := 1) (z := nI 0) (x' := x) (by decide) ?_ (fun w hw => ?_)
    · unfold fL_setPatience fX6_setPatience bX6_setPatience_15 fX6_requireArgument
      by_cases h0 : x1 < nI 0
      · simp (disch := omega) only [↓jM_e, li_0, li_1, li_2, li_3, li_4, li_5, li_6, li_7, li_8, li_9, li_10, li_13, li_14, li_15, li_16, li_31, li_35, li_47, li_48, li_49, li_50, li_57, li_99, li_100, li_126, li_139, li_140, li_149, li_150, li_280, li_284, li_285, li_290, li_434, li_1260, li_3472, li_9999, li_65536, nm, nm_w, sf_w, cp_w, ld_I, sa_I, nI_add, pk_mul, Nat.zero_add, nI_leI, nI_ltI, nI_eq, nI_neM, M_neI, nI_ltM, nI_nltM, M_ltI, M_leI, nI_nleM, bnd_some, if_pos, if_neg, dif_t, dif_f, acT_r, if_pos h0]
        rfl
      · simp (disch := omega) only [↓jM_e, li_0, li_1, li_2, li_3, li_4, li_5, li_6, li_7, li_8, li_9, li_10, li_13, li_14, li_15, li_16, li_31, li_35, li_47, li_48, li_49, li_50, li_57, li_99, li_100, li_126, li_139, li_140, li_149, li_150, li_280, li_284, li_285, li_290, li_434, li_1260, li_3472, li_9999, li_65536, nm, nm_w, sf_w, cp_w, ld_I, sa_I, nI_add, pk_mul, Nat.zero_add, nI_leI, nI_ltI, nI_eq, nI_neM, M_neI, nI_ltM, nI_nltM, M_ltI, M_leI, nI_nleM, bnd_some, if_pos, if_neg, dif_t, dif_f, acT_r, if_neg h0, if_pos (h2.resolve_left h0)]
        rfl
    · unfold fX7_setPatience bX7_setPatience_16
      simp (disch := omega) only [↓jM_e, li_0, li_1, li_2, li_3, li_4, li_5, li_6, li_7, li_8, li_9, li_10, li_13, li_14, li_15, li_16, li_31, li_35, li_47, li_48, li_49, li_50, li_57, li_99, li_100, li_126, li_139, li_140, li_149, li_150, li_280, li_284, li_285, li_290, li_434, li_1260, li_3472, li_9999, li_65536, nm, nm_w, sf_w, cp_w, ld_I, sa_I, nI_add, pk_mul, Nat.zero_add, nI_leI, nI_ltI, nI_eq, nI_neM, M_neI, nI_ltM, nI_nltM, M_ltI, M_leI, nI_nleM, bnd_some, if_pos, if_neg, dif_t, dif_f, ii_M, if_neg h1, s2_i]
  by_cases h0 : x1 < nI 0
  · exact hthr (fun g => Int32.not_le.mpr h0 g.1) (Or.inl h0)
  · by_cases h9 : nI 9 < x1
    · exact hthr (fun g => Int32.not_le.mpr h9 g.2) (Or.inr h9)
    · have hin : nI 0 ≤ x1 ∧ x1 ≤ nI 9 := ⟨Int32.not_lt.mp h0, Int32.not_lt.mp h9⟩
      refine fin_ch (S' := s2 W.1 12 0 x1) (x' := ((W.1 12 0).toInt64, x.2)) hC hM hI (K := K) (by omega) (iS_s12 hI.1) (fun r1 v1 k1 e1 g1 => ⟨r1, s2 v1 1 12 x1, k1, ?_, ?_, ?_⟩) (fun w w1 hw e1 g1 q5 => ?_)
      · unfold fL_setPatience fX6_setPatience bX6_setPatience_15 fX6_requireArgument
        have e12 : v1 1 12 = W.1 12 0 := g1.1.2
        simp (disch := omega) only [↓jM_e, li_0, li_1, li_2, li_3, li_4, li_5, li_6, li_7, li_8, li_9, li_10, li_13, li_14, li_15, li_16, li_31, li_35, li_47, li_48, li_49, li_50, li_57, li_99, li_100, li_126, li_139, li_140, li_149, li_150, li_280, li_284, li_285, li_290, li_434, li_1260, li_3472, li_9999, li_65536, nm, nm_w, sf_w, cp_w, ld_I, sa_I, nI_add, pk_mul, Nat.zero_add, nI_leI, nI_ltI, nI_eq, nI_neM, M_neI, nI_ltM, nI_nltM, M_ltI, M_leI, nI_nleM, bnd_some, if_pos, if_neg, dif_t, dif_f, if_neg h0, if_neg h9, acT_l, ck_i hsh, e1, ck_i g1.2.1.1, e12]
        rfl
      · exact CW_w g1 (rcP g1.1) (coS_s2 (by decide)) (fun p hp => s2_ne (by omega))
      · exact fun p p1 p2 => s2_ne (by omega)
      · have e12 : w1 158 284 = W.1 12 0 := g1.1.1.2.2.2.1
        unfold fX7_setPatience bX7_setPatience_16
        simp (disch := omega) only [↓jM_e, li_0, li_1, li_2, li_3, li_4, li_5, li_6, li_7, li_8, li_9, li_10, li_13, li_14, li_15, li_16, li_31, li_35, li_47, li_48, li_49, li_50, li_57, li_99, li_100, li_126, li_139, li_140, li_149, li_150, li_280, li_284, li_285, li_290, li_434, li_1260, li_3472, li_9999, li_65536, nm, nm_w, sf_w, cp_w, ld_I, sa_I, nI_add, pk_mul, Nat.zero_add, nI_leI, nI_ltI, nI_eq, nI_neM, M_neI, nI_ltM, nI_nltM, M_ltI, M_leI, nI_nleM, bnd_some, if_pos, if_neg, dif_t, dif_f, ii_M, if_pos hin, s2_i, e1, e12]
        exact ⟨_, _, rfl, rfl, mI_s2 g1.1 (coS_s2 (by decide)) (rmU12 g1.1.1), frN_s2⟩
theorem a_17 (x1 : Int32) (hC : CW W r v n) (hM : MW W v) (hI : IW B W) (hK : 400000 < K) : OUT B (fL_statistic x1 r v n x) (fX7_statistic x1) PI n := by
  have hsh := hC.2.1.1
  have hp : (x1 ≤ nI 4) = ¬ (nI 5 ≤ x1) := le_pred (n := 4) (by decide)
  have hthr : (x1 < nI 0 ∨ nI 5 ≤ x1) → OUT B (fL_statistic x1 r v n x) (fX7_statistic x1) PI n := by
    intro h2
    have h1 : ¬ (nI 0 ≤ x1 ∧ x1 ≤ nI 4) := fun g => h2.elim (fun q => Int32.not_le.mpr q g.1) (fun q => by rw [hp] at g; exact g.2 q)
    refine fin_thr hC hM hI (code := 1) (z := nI 0) (x' := x) (by decide) ?_ (fun w hw => ?_)
    · unfold fL_statistic fX6_statistic fX6_requireArgument
      by_cases h0 : x1 < nI 0
      · simp (disch := omega) only [↓jM_e, li_0, li_1, li_2, li_3, li_4, li_5, li_6, li_7, li_8, li_9, li_10, li_13, li_14, li_15, li_16, li_31, li_35, li_47, li_48, li_49, li_50, li_57, li_99, li_100, li_126, li_139, li_140, li_149, li_150, li_280, li_284, li_285, li_290, li_434, li_1260, li_3472, li_9999, li_65536, nm, nm_w, sf_w, cp_w, ld_I, sa_I, nI_add, pk_mul, Nat.zero_add, nI_leI, nI_ltI, nI_eq, nI_neM, M_neI, nI_ltM, nI_nltM, M_ltI, M_leI, nI_nleM, bnd_some, if_pos, if_neg, dif_t, dif_f, acT_r, if_pos h0]
        rfl
      · simp (disch := omega) only [↓jM_e, li_0, li_1, li_2, li_3, li_4, li_5, li_6, li_7, li_8, li_9, li_10, li_13, li_14, li_15, li_16, li_31, li_35, li_47, li_48, li_49, li_50, li_57, li_99, li_100, li_126, li_139, li_140, li_149, li_150, li_280, li_284, li_285, li_290, li_434, li_1260, li_3472, li_9999, li_65536, nm, nm_w, sf_w, cp_w, ld_I, sa_I, nI_add, pk_mul, Nat.zero_add, nI_leI, nI_ltI, nI_eq, nI_neM, M_neI, nI_ltM, nI_nltM, M_ltI, M_leI, nI_nleM, bnd_some, if_pos, if_neg, dif_t, dif_f, acT_r, if_neg h0, if_pos (h2.resolve_left h0)]
        rfl
    · unfold fX7_statistic bX7_statistic_15
      simp (disch := omega) only [↓jM_e, li_0, li_1, li_2, li_3, li_4, li_5, li_6, li_7, li_8, li_9, li_10, li_13, li_14, li_15, li_16, li_31, li_35, li_47, li_48, li_49, li_50, li_57, li_99, li_100, li_126, li_139, li_140, li_149, li_150, li_280, li_284, li_285, li_290, li_434, li_1260, li_3472, li_9999, li_65536, nm, nm_w, sf_w, cp_w, ld_I, sa_I, nI_add, pk_mul, Nat.zero_add, nI_leI, nI_ltI, nI_eq, nI_neM, M_neI, nI_ltM, nI_nltM, M_ltI, M_leI, nI_nleM, bnd_some, if_pos, if_neg, dif_t, dif_f, ii_M, if_neg h1, s2_i]
  by_cases h0 : x1 < nI 0
  · exact hthr (Or.inl h0)
  · by_cases h5 : nI 5 ≤ x1
    · exact hthr (Or.inr h5)
    · obtain ⟨i, hi, rfl⟩ := in_nI h0 h5 (by decide)
      refine fin_rd hC hM hI (x' := ((W.1 11 i).toInt64, x.2)) ?_ (fun w hw => ⟨W.1 11 i, ?_, rfl⟩)
      · have e : v 13 i = W.1 11 i := rc11 hC.1 hi
        unfold fL_statistic fX6_statistic fX6_requireArgument
        simp (disch := omega) only [↓jM_e, li_0, li_1, li_2, li_3, li_4, li_5, li_6, li_7, li_8, li_9, li_10, li_13, li_14, li_15, li_16, li_31, li_35, li_47, li_48, li_49, li_50, li_57, li_99, li_100, li_126, li_139, li_140, li_149, li_150, li_280, li_284, li_285, li_290, li_434, li_1260, li_3472, li_9999, li_65536, nm, nm_w, sf_w, cp_w, ld_I, sa_I, nI_add, pk_mul, Nat.zero_add, nI_leI, nI_ltI, nI_eq, nI_neM, M_neI, nI_ltM, nI_nltM, M_ltI, M_leI, nI_nleM, bnd_some, if_pos, if_neg, dif_t, dif_f, acT_l, ck_i hsh, e]
        rfl
      · have e : w 158 (285 + i) = W.1 11 i := hw.1.1.2.2.2.2.1 i hi
        have hix : 285 + i < 434 := by omega
        unfold fX7_statistic bX7_statistic_15
        simp (disch := omega) only [↓jM_e, li_0, li_1, li_2, li_3, li_4, li_5, li_6, li_7, li_8, li_9, li_10, li_13, li_14, li_15, li_16, li_31, li_35, li_47, li_48, li_49, li_50, li_57, li_99, li_100, li_126, li_139, li_140, li_149, li_150, li_280, li_284, li_285, li_290, li_434, li_1260, li_3472, li_9999, li_65536, nm, nm_w, sf_w, cp_w, ld_I, sa_I, nI_add, pk_mul, Nat.zero_add, nI_leI, nI_ltI, nI_eq, nI_neM, M_neI, nI_ltM, nI_nltM, M_ltI, M_leI, nI_nleM, bnd_some, if_pos, if_neg, dif_t, dif_f, ii_M, s2_i, show (285 : Int32) = nI 285 from rfl, s2_p (show (158 : Nat) ≠ 157 by decide), e]
end
