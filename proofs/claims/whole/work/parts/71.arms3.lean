/-! change, setCell, remove, join, add -/
section
variable {v : sV} {K n : Nat} {r : sR} {W : aW} {B : Nat} {x : Int64 × UInt64}
theorem iS_45 {S : aS} {a j : Nat} {y : Int32} (h : iS B S) (hj : (j = 4 ∧ (y = jM ∨ ∃ g, g < 4 ∧ y = nI g)) ∨ (j = 5 ∧ ∃ p, p < 10 ∧ y = nI p)) : iS B (s2 S j a y) := by
  have hs : ∀ j', j' ≠ j → s2 S j a y j' = S j' := fun j' h => s2_ne h
  have hco : coS (s2 S j a y) = coS S := coS_s2 (by omega)
  have hC : ∀ z, isC (s2 S j a y) z = isC S z := fun z => by unfold isC; rw [hco]
  obtain ⟨h1, h2, h3, h4, h5, h6⟩ := h
  unfold iS
  rw [hco, hs 0 (by omega), hs 1 (by omega), hs 2 (by omega), hs 3 (by omega), hs 6 (by omega), hs 8 (by omega)]
  simp only [hC]
  refine ⟨h1, h2, h3, fun a' ha' hx => ?_, h5, h6⟩
  obtain ⟨g1, g2, g3, g4⟩ := h4 a' ha' hx
  by_cases haa : a' = a
  · subst haa
    rcases hj with ⟨rfl, hy⟩ | ⟨rfl, hy⟩
    · rw [s2_i, hs 5 (by decide)]
      exact ⟨hy, g2, g3, g4⟩
    · rw [s2_i, hs 4 (by decide)]
      exact ⟨g1, hy, g3, g4⟩
  · have e4 : s2 S j a y 4 a' = S 4 a' := by
      show (if 4 = j ∧ a' = a then y else S 4 a') = S 4 a'
      rw [if_neg (fun g => haa g.2)]
    have e5 : s2 S j a y 5 a' = S 5 a' := by
      show (if 5 = j ∧ a' = a then y else S 5 a') = S 5 a'
      rw [if_neg (fun g => haa g.2)]
    rw [e4, e5]
    exact ⟨g1, g2, g3, g4⟩
theorem ip_v {y : Int32} (h : nI 0 ≤ y ∧ y ≤ nI 9) : ∃ p, p < 10 ∧ y = nI p := by
  rw [le_pred (n := 9) (by decide)] at h
  exact in_nI (Int32.not_lt.mpr h.1) h.2 (by decide)
theorem ig_v {y : Int32} (h : jM ≤ y ∧ y ≤ nI 3) : y = jM ∨ ∃ g, g < 4 ∧ y = nI g := by
  rw [le_pred (n := 3) (by decide)] at h
  by_cases h0 : y < nI 0
  · refine Or.inl (Int32.toInt_inj.mp ?_)
    have h1 := Int32.lt_iff_toInt_lt.mp h0
    have h2 := Int32.le_iff_toInt_le.mp h.1
    rw [nI_toInt (by decide)] at h1
    rw [M_toInt] at h2 ⊢
    omega
  · exact Or.inr (in_nI h0 h.2 (by decide))
theorem iP_C {y : Int32} : fX6_isPriority y = some (if nI 0 ≤ y ∧ y ≤ nI 9 then nI 1 else nI 0) := by
  unfold fX6_isPriority
  simp only [↓jM_e, li_0, li_1, li_2, li_3, li_4, li_5, li_6, li_7, li_8, li_9, li_10, li_13, li_14, li_15, li_16, li_31, li_35, li_47, li_48, li_49, li_50, li_57, li_99, li_100, li_126, li_139, li_140, li_149, li_150, li_280, li_284, li_285, li_290, li_434, li_1260, li_3472, li_9999, li_65536]
  by_cases h0 : y < nI 0
  · rw [if_pos h0, if_neg (fun g => Int32.not_le.mpr h0 g.1)]
  · rw [if_neg h0]
    by_cases h9 : nI 9 < y
    · rw [if_pos h9, if_neg (fun g => Int32.not_le.mpr h9 g.2)]
    · rw [if_neg h9, if_pos ⟨Int32.not_lt.mp h0, Int32.not_lt.mp h9⟩]
theorem iN_C {y : Int32} : fX6_isGoalOrNone y = some (if jM ≤ y ∧ y ≤ nI 3 then nI 1 else nI 0) := by
  have hp : (y ≤ nI 3) = ¬ (nI 4 ≤ y) := le_pred (n := 3) (by decide)
  unfold fX6_isGoalOrNone
  simp only [↓jM_e, li_0, li_1, li_2, li_3, li_4, li_5, li_6, li_7, li_8, li_9, li_10, li_13, li_14, li_15, li_16, li_31, li_35, li_47, li_48, li_49, li_50, li_57, li_99, li_100, li_126, li_139, li_140, li_149, li_150, li_280, li_284, li_285, li_290, li_434, li_1260, li_3472, li_9999, li_65536]
  simp only [hp]
  by_cases h0 : y < jM
  · rw [if_pos h0, if_neg (fun g => Int32.not_le.mpr h0 g.1)]
  · rw [if_neg h0]
    by_cases h9 : nI 4 ≤ y
    · rw [if_pos h9, if_neg (fun g => g.2 h9)]
    · rw [if_neg h9, if_pos ⟨Int32.not_lt.mp h0, h9⟩]
theorem a_10 (x1 x2 x3 : Int32) (hC : CW W r v n) (hM : MW W v) (hI : IW B W) (hK : 400000 < K) : OUT B (fL_change K x1 x2 x3 r v n x) (fX7_change K x1 x2 x3) PI n := by
  have hsh := hC.2.1.1
  rcases arg_A W.1 x1 with hn | ⟨a, ha, rfl, hx⟩
  · refine fin_thr hC hM hI (code := 1) (z := nI 0) (x' := x) (by decide) ?_ (fun w hw => ?_)
    · unfold fL_change fX6_change
      simp (disch := omega) only [↓jM_e, li_0, li_1, li_2, li_3, li_4, li_5, li_6, li_7, li_8, li_9, li_10, li_13, li_14, li_15, li_16, li_31, li_35, li_47, li_48, li_49, li_50, li_57, li_99, li_100, li_126, li_139, li_140, li_149, li_150, li_280, li_284, li_285, li_290, li_434, li_1260, li_3472, li_9999, li_65536, nm, nm_w, sf_w, cp_w, ld_I, sa_I, nI_add, pk_mul, Nat.zero_add, nI_leI, nI_ltI, nI_eq, nI_neM, M_neI, nI_ltM, nI_nltM, M_ltI, M_leI, nI_nleM, bnd_some, if_pos, if_neg, dif_t, dif_f, rA_n hC.1 hn, acT_r]
      rfl
    · unfold fX7_change bX7_change_44
      simp (disch := omega) only [↓jM_e, li_0, li_1, li_2, li_3, li_4, li_5, li_6, li_7, li_8, li_9, li_10, li_13, li_14, li_15, li_16, li_31, li_35, li_47, li_48, li_49, li_50, li_57, li_99, li_100, li_126, li_139, li_140, li_149, li_150, li_280, li_284, li_285, li_290, li_434, li_1260, li_3472, li_9999, li_65536, nm, nm_w, sf_w, cp_w, ld_I, sa_I, nI_add, pk_mul, Nat.zero_add, nI_leI, nI_ltI, nI_eq, nI_neM, M_neI, nI_ltM, nI_nltM, M_ltI, M_leI, nI_nleM, bnd_some, if_pos, if_neg, dif_t, dif_f, no_M hw.1.1 hn, s2_i]
  · by_cases h2 : x2 = nI 0
    · by_cases h3 : nI 0 ≤ x3 ∧ x3 ≤ nI 9
      · refine fin_ch (S' := s2 W.1 5 a x3) (x' := ((W.1 5 a).toInt64, x.2)) hC hM hI (K := K) (by omega) (iS_45 hI.1 (Or.inr ⟨rfl, ip_v h3⟩)) (fun r1 v1 k1 e1 g1 => ⟨r1, s2 v1 7 a x3, k1, ?_, ?_, ?_⟩) (fun w w1 hw e1 g1 q5 => ?_)
        · have e12 : v1 7 a = W.1 5 a := rc5 g1.1 ha
          unfold fL_change fX6_change bX6_change_20 fX6_requireArgument
          simp (disch := omega) only [↓jM_e, li_0, li_1, li_2, li_3, li_4, li_5, li_6, li_7, li_8, li_9, li_10, li_13, li_14, li_15, li_16, li_31, li_35, li_47, li_48, li_49, li_50, li_57, li_99, li_100, li_126, li_139, li_140, li_149, li_150, li_280, li_284, li_285, li_290, li_434, li_1260, li_3472, li_9999, li_65536, nm, nm_w, sf_w, cp_w, ld_I, sa_I, nI_add, pk_mul, Nat.zero_add, nI_leI, nI_ltI, nI_eq, nI_neM, M_neI, nI_ltM, nI_nltM, M_ltI, M_leI, nI_nleM, bnd_some, if_pos, if_neg, dif_t, dif_f, rA_y hC.1 ha hx, acT_l, ck_i hsh, if_pos h2, iP_C, if_pos h3, e1, ck_i g1.2.1.1, e12]
          rfl
        · exact CW_w g1 (rcS (j := 5) g1.1 (by decide)) (coS_s2 (by decide)) (fun p hp => s2_ne (by omega))
        · exact fun p p1 p2 => s2_ne (by omega)
        · have r3 : w1 158 (290 + 9 * a + 3) = W.1 5 a := (rm g1.1.1 ha hx).2.2.1
          unfold fX7_change bX7_change_44 bX7_change_69
          simp (disch := omega) only [↓jM_e, li_0, li_1, li_2, li_3, li_4, li_5, li_6, li_7, li_8, li_9, li_10, li_13, li_14, li_15, li_16, li_31, li_35, li_47, li_48, li_49, li_50, li_57, li_99, li_100, li_126, li_139, li_140, li_149, li_150, li_280, li_284, li_285, li_290, li_434, li_1260, li_3472, li_9999, li_65536, nm, nm_w, sf_w, cp_w, ld_I, sa_I, nI_add, pk_mul, Nat.zero_add, nI_leI, nI_ltI, nI_eq, nI_neM, M_neI, nI_ltM, nI_nltM, M_ltI, M_leI, nI_nleM, bnd_some, if_pos, if_neg, dif_t, dif_f, ya_M hw.1.1 ha hx, if_pos h2, ii_M, if_pos h3, s2_i, e1, at_M ha (show 3 < 9 by decide), r3, pt_M ha (show 3 < 9 by decide)]
          exact ⟨_, _, rfl, rfl, mI_s2 g1.1 (coS_s2 (by decide)) (rmUa (k := 3) g1.1.1 ha (by decide) hx (fun e => by cases e) (fun e => by cases e)), frN_s2⟩
      · refine fin_thr hC hM hI (code := 2) (z := nI 0) (x' := x) (by decide) ?_ (fun w hw => ?_)
        · unfold fL_change fX6_change bX6_change_20 fX6_requireArgument
          simp (disch := omega) only [↓jM_e, li_0, li_1, li_2, li_3, li_4, li_5, li_6, li_7, li_8, li_9, li_10, li_13, li_14, li_15, li_16, li_31, li_35, li_47, li_48, li_49, li_50, li_57, li_99, li_100, li_126, li_139, li_140, li_149, li_150, li_280, li_284, li_285, li_290, li_434, li_1260, li_3472, li_9999, li_65536, nm, nm_w, sf_w, cp_w, ld_I, sa_I, nI_add, pk_mul, Nat.zero_add, nI_leI, nI_ltI, nI_eq, nI_neM, M_neI, nI_ltM, nI_nltM, M_ltI, M_leI, nI_nleM, bnd_some, if_pos, if_neg, dif_t, dif_f, rA_y hC.1 ha hx, acT_l, acT_r, ck_i hsh, if_pos h2, iP_C, if_neg h3]
          rfl
        · unfold fX7_change bX7_change_44
          simp (disch := omega) only [↓jM_e, li_0, li_1, li_2, li_3, li_4, li_5, li_6, li_7, li_8, li_9, li_10, li_13, li_14, li_15, li_16, li_31, li_35, li_47, li_48, li_49, li_50, li_57, li_99, li_100, li_126, li_139, li_140, li_149, li_150, li_280, li_284, li_285, li_290, li_434, li_1260, li_3472, li_9999, li_65536, nm, nm_w, sf_w, cp_w, ld_I, sa_I, nI_add, pk_mul, Nat.zero_add, nI_leI, nI_ltI, nI_eq, nI_neM, M_neI, nI_ltM, nI_nltM, M_ltI, M_leI, nI_nleM, bnd_some, if_pos, if_neg, dif_t, dif_f, ya_M hw.1.1 ha hx, if_pos h2, ii_M, if_neg h3, s2_i]
    · by_cases h3 : jM ≤ x3 ∧ x3 ≤ nI 3
      · refine fin_ch (S' := s2 W.1 4 a x3) (x' := ((W.1 4 a).toInt64, x.2)) hC hM hI (K := K) (by omega) (iS_45 hI.1 (Or.inl ⟨rfl, ig_v h3⟩)) (fun r1 v1 k1 e1 g1 => ⟨r1, s2 v1 6 a x3, k1, ?_, ?_, ?_⟩) (fun w w1 hw e1 g1 q5 => ?_)
        · have e12 : v1 6 a = W.1 4 a := rc4 g1.1 ha
          unfold fL_change fX6_change bX6_change_20 fX6_requireArgument
          simp (disch := omega) only [↓jM_e, li_0, li_1, li_2, li_3, li_4, li_5, li_6, li_7, li_8, li_9, li_10, li_13, li_14, li_15, li_16, li_31, li_35, li_47, li_48, li_49, li_50, li_57, li_99, li_100, li_126, li_139, li_140, li_149, li_150, li_280, li_284, li_285, li_290, li_434, li_1260, li_3472, li_9999, li_65536, nm, nm_w, sf_w, cp_w, ld_I, sa_I, nI_add, pk_mul, Nat.zero_add, nI_leI, nI_ltI, nI_eq, nI_neM, M_neI, nI_ltM, nI_nltM, M_ltI, M_leI, nI_nleM, bnd_some, if_pos, if_neg, dif_t, dif_f, rA_y hC.1 ha hx, acT_l, ck_i hsh, if_neg h2, iN_C, if_pos h3, e1, ck_i g1.2.1.1, e12]
          rfl
        · exact CW_w g1 (rcS (j := 4) g1.1 (by decide)) (coS_s2 (by decide)) (fun p hp => s2_ne (by omega))
        · exact fun p p1 p2 => s2_ne (by omega)
        · have r3 : w1 158 (290 + 9 * a + 2) = W.1 4 a := (rm g1.1.1 ha hx).2.1
          unfold fX7_change bX7_change_44 bX7_change_69
          simp (disch := omega) only [↓jM_e, li_0, li_1, li_2, li_3, li_4, li_5, li_6, li_7, li_8, li_9, li_10, li_13, li_14, li_15, li_16, li_31, li_35, li_47, li_48, li_49, li_50, li_57, li_99, li_100, li_126, li_139, li_140, li_149, li_150, li_280, li_284, li_285, li_290, li_434, li_1260, li_3472, li_9999, li_65536, nm, nm_w, sf_w, cp_w, ld_I, sa_I, nI_add, pk_mul, Nat.zero_add, nI_leI, nI_ltI, nI_eq, nI_neM, M_neI, nI_ltM, nI_nltM, M_ltI, M_leI, nI_nleM, bnd_some, if_pos, if_neg, dif_t, dif_f, ya_M hw.1.1 ha hx, if_neg h2, ii_M, if_pos h3, s2_i, e1, at_M ha (show 2 < 9 by decide), r3, pt_M ha (show 2 < 9 by decide)]
          exact ⟨_, _, rfl, rfl, mI_s2 g1.1 (coS_s2 (by decide)) (rmUa (k := 2) g1.1.1 ha (by decide) hx (fun e => by cases e) (fun e => by cases e)), frN_s2⟩
      · refine fin_thr hC hM hI (code := 2) (z := nI 0) (x' := x) (by decide) ?_ (fun w hw => ?_)
        · unfold fL_change fX6_change bX6_change_20 fX6_requireArgument
          simp (disch := omega) only [↓jM_e, li_0, li_1, li_2, li_3, li_4, li_5, li_6, li_7, li_8, li_9, li_10, li_13, li_14, li_15, li_16, li_31, li_35, li_47, li_48, li_49, li_50, li_57, li_99, li_100, li_126, li_139, li_140, li_149, li_150, li_280, li_284, li_285, li_290, li_434, li_1260, li_3472, li_9999, li_65536, nm, nm_w, sf_w, cp_w, ld_I, sa_I, nI_add, pk_mul, Nat.zero_add, nI_leI, nI_ltI, nI_eq, nI_neM, M_neI, nI_ltM, nI_nltM, M_ltI, M_leI, nI_nleM, bnd_some, if_pos, if_neg, dif_t, dif_f, rA_y hC.1 ha hx, acT_l, acT_r, ck_i hsh, if_neg h2, iN_C, if_neg h3]
          rfl
        · unfold fX7_change bX7_change_44
          simp (disch := omega) only [↓jM_e, li_0, li_1, li_2, li_3, li_4, li_5, li_6, li_7, li_8, li_9, li_10, li_13, li_14, li_15, li_16, li_31, li_35, li_47, li_48, li_49, li_50, li_57, li_99, li_100, li_126, li_139, li_140, li_149, li_150, li_280, li_284, li_285, li_290, li_434, li_1260, li_3472, li_9999, li_65536, nm, nm_w, sf_w, cp_w, ld_I, sa_I, nI_add, pk_mul, Nat.zero_add, nI_leI, nI_ltI, nI_eq, nI_neM, M_neI, nI_ltM, nI_nltM, M_ltI, M_leI, nI_nleM, bnd_some, if_pos, if_neg, dif_t, dif_f, ya_M hw.1.1 ha hx, if_neg h2, ii_M, if_neg h3, s2_i]
/-- the end of a change whose caches are forgotten -/
theorem fin_fo (hC : CW W r v n) (hM : MW W v) (hI : IW B W) (hK : 4000 < K) {β : Type} {fL : Option ((Int32 × (Int64 × UInt64)) × sR × sV × Nat)} {f7 : sV → Option (β × sV)} {P : Int64 × UInt64 → β → Prop} {S' : aS} {x' : Int64 × UInt64} (hS : iS B S')
    (e1 : ∀ r1 v1 k1, (∀ (β : Type) (f : Unit → sR → sV → Nat → Option (β × sR × sV × Nat)), (fX3_record K 1 r v n).bind (fun q9 => ac q9 n f) = (f () r1 v1 (n + k1)).map (addk k1)) → CW (wK W) r1 v1 (n + k1) → ∃ v2, RelC 1 S' v2 ∧ (∀ p, ¬ (1 ≤ p ∧ p < 14) → v2 p = v1 p) ∧ ∀ u v3, fX2_forgetAll K r1 v2 (n + k1) = some (u, r1, v3, 0) → fL = some ((nI 0, x'), r1, v3, k1))
    (h7 : ∀ w w1, MW W w → fX7_keeps K (s2 w 157 6 (nI 0)) = some w1 → MW (wK W) w1 → w1 157 6 = nI 0 → ∃ w2, RelM S' (w2 158) ∧ (∀ p, p ≠ 158 → w2 p = w1 p) ∧ ∀ w3, fX7_forgets K w2 = some w3 → ∃ z, f7 w = some (z, w3) ∧ P x' z) : OUT B fL f7 P n := by
  refine fin_ch (x' := x') hC hM hI hK hS (fun r1 v1 k1 q1 q2 => ?_) (fun w w1 hw q1 q2 q3 => ?_)
  · obtain ⟨v2, g1, g2, g3⟩ := e1 r1 v1 k1 q1 q2
    obtain ⟨u, v3, f1, f2, f3⟩ := forget_C (co' := coS S') (cacC_v q2.2.1 (fun p hp => g2 p (by omega))) (show 140 < K by omega)
    have hfr : ∀ p, p < 172 → ¬ (1 ≤ p ∧ p < 14) → v3 p = v1 p := fun p hp hp2 => by rw [f3 p hp, g2 p hp2]
    exact ⟨r1, v3, k1, g3 u v3 f1, CW_f q2 rfl (rcF g1 (fun p p1 p2 => f3 p (by omega))) f2 (fun p hp => hfr p (by omega) (by omega)), fun p p1 p2 => hfr p p2 (by omega)⟩
  · obtain ⟨w2, g1, g2, g3⟩ := h7 w w1 hw q1 q2 q3
    obtain ⟨w3, f1, f2, f3⟩ := forget_M g1 (show 140 < K by omega)
    obtain ⟨z, t1, t2⟩ := g3 w3 f1
    exact ⟨z, w3, t1, t2, f2, fun p p1 p2 p3 p4 p5 => by rw [f3 p p4, g2 p p1]⟩
theorem iS_0 {S : aS} {c y : Nat} (h : iS B S) (hc : c < 140) (hy : y ≤ 9) (hu : y = 0 → inU S c = false) : iS B (s2 S 0 c (nI y)) := by
  have hs : ∀ j', j' ≠ 0 → s2 S 0 c (nI y) j' = S j' := fun j' h => s2_ne h
  have hco : ∀ i, coS (s2 S 0 c (nI y)) i = if i = c then y else coS S i := by
    intro i
    unfold coS
    by_cases hi : i = c
    · rw [hi, s2_i, if_pos rfl, clI_n (by omega)]
    · rw [s2_j hi, if_neg hi]
  have hC : ∀ z, isC S z → (y = 0 → z ≠ nI c) → isC (s2 S 0 c (nI y)) z := by
    intro z ⟨q, hq, e, h0⟩ hz
    refine ⟨q, hq, e, ?_⟩
    rw [hco]
    by_cases hqc : q = c
    · rw [if_pos hqc]
      intro hy0
      exact hz hy0 (by rw [e, hqc])
    · rw [if_neg hqc]; exact h0
  obtain ⟨h1, h2, h3, h4, h5, h6⟩ := h
  unfold iS
  rw [hs 1 (by omega), hs 2 (by omega), hs 3 (by omega), hs 4 (by omega), hs 5 (by omega), hs 6 (by omega), hs 8 (by omega)]
  refine ⟨fun i hi => ?_, fun g hg => ?_, fun a ha => ?_, h4, h5, h6⟩
  · rw [hco]
    by_cases hic : i = c
    · rw [if_pos hic, hic, s2_i]
      exact ⟨rfl, hy⟩
    · rw [if_neg hic, s2_j hic]
      exact h1 i hi
  · refine (h2 g hg).imp id (fun g2 => hC _ g2 (fun hy0 e => ?_))
    have := hu hy0
    unfold inU at this
    simp only [Bool.or_eq_false_iff, Option.isSome_eq_false_iff, Option.isNone_iff_eq_none] at this
    have := ffI_n this.2 g (Nat.zero_le g) (by omega)
    exact of_decide_eq_false this e
  · refine (h3 a ha).imp id (fun g2 => hC _ g2 (fun hy0 e => ?_))
    have := hu hy0
    unfold inU at this
    simp only [Bool.or_eq_false_iff, Option.isSome_eq_false_iff, Option.isNone_iff_eq_none] at this
    have := ffI_n this.1 a (Nat.zero_le a) (by omega)
    exact of_decide_eq_false this e
theorem s2_s2 {w : sV} {p i : Nat} {y z : Int32} : s2 (s2 w p i y) p i z = s2 w p i z := by
  funext q j
  show (if q = p ∧ j = i then z else (if q = p ∧ j = i then y else w q j)) = (if q = p ∧ j = i then z else w q j)
  by_cases h : q = p ∧ j = i
  · rw [if_pos h, if_pos h]
  · rw [if_neg h, if_neg h, if_neg h]
theorem ag_neg {S : aS} {c : Nat} : (oI (agOn S c) < nI 0) = (agOn S c = none) := by
  cases h : agOn S c with
  | none => simp [oI, show jM < nI 0 from by decide]
  | some a =>
    have := (agOn_lt h).1
    have e : (nI a < nI 0) = False := nI_nleM (by omega)
    simp [oI, e]
theorem a_0 (x1 x2 x3 : Int32) (hC : CW W r v n) (hM : MW W v) (hI : IW B W) (hK : 400000 < K) : OUT B (fL_setCell K x1 x2 x3 r v n x) (fX7_setCell K x1 x2 x3) PI n := by
  have hsh := hC.2.1.1
  by_cases hcell : caI x1 x2 = jM
  · refine fin_thr hC hM hI (code := 1) (z := nI 0) (x' := x) (by decide) ?_ (fun w hw => ?_)
    · unfold fL_setCell fX6_setCell
      simp (disch := omega) only [↓jM_e, li_0, li_1, li_2, li_3, li_4, li_5, li_6, li_7, li_8, li_9, li_10, li_13, li_14, li_15, li_16, li_31, li_35, li_47, li_48, li_49, li_50, li_57, li_99, li_100, li_126, li_139, li_140, li_149, li_150, li_280, li_284, li_285, li_290, li_434, li_1260, li_3472, li_9999, li_65536, nm, nm_w, sf_w, cp_w, ld_I, sa_I, nI_add, pk_mul, Nat.zero_add, nI_leI, nI_ltI, nI_eq, nI_neM, M_neI, nI_ltM, nI_nltM, M_ltI, M_leI, nI_nleM, bnd_some, if_pos, if_neg, dif_t, dif_f, rq_C hcell, acT_r]
      rfl
    · unfold fX7_setCell bX7_setCell_28
      simp (disch := omega) only [↓jM_e, li_0, li_1, li_2, li_3, li_4, li_5, li_6, li_7, li_8, li_9, li_10, li_13, li_14, li_15, li_16, li_31, li_35, li_47, li_48, li_49, li_50, li_57, li_99, li_100, li_126, li_139, li_140, li_149, li_150, li_280, li_284, li_285, li_290, li_434, li_1260, li_3472, li_9999, li_65536, nm, nm_w, sf_w, cp_w, ld_I, sa_I, nI_add, pk_mul, Nat.zero_add, nI_leI, nI_ltI, nI_eq, nI_neM, M_neI, nI_ltM, nI_nltM, M_ltI, M_leI, nI_nleM, bnd_some, if_pos, if_neg, dif_t, dif_f, ic_M, if_pos hcell, s2_i]
  · obtain ⟨q, hq, eq⟩ := caI_c hcell
    have hcaM := ca_M hcell
    rw [eq] at hcaM
    by_cases h3 : nI 0 ≤ x3 ∧ x3 ≤ nI 9
    · obtain ⟨y, hy, rfl⟩ := ip_v h3
      by_cases hw3 : y = 0 ∧ inU W.1 q = true
      · obtain ⟨rfl, hu⟩ := hw3
        refine fin_thr hC hM hI (code := 3) (z := nI 0) (x' := x) (by decide) ?_ (fun w hw => ?_)
        · unfold fL_setCell fX6_setCell bX6_setCell_20 fX6_requireArgument
          simp (disch := omega) only [↓jM_e, li_0, li_1, li_2, li_3, li_4, li_5, li_6, li_7, li_8, li_9, li_10, li_13, li_14, li_15, li_16, li_31, li_35, li_47, li_48, li_49, li_50, li_57, li_99, li_100, li_126, li_139, li_140, li_149, li_150, li_280, li_284, li_285, li_290, li_434, li_1260, li_3472, li_9999, li_65536, nm, nm_w, sf_w, cp_w, ld_I, sa_I, nI_add, pk_mul, Nat.zero_add, nI_leI, nI_ltI, nI_eq, nI_neM, M_neI, nI_ltM, nI_nltM, M_ltI, M_leI, nI_nleM, bnd_some, if_pos, if_neg, dif_t, dif_f, rq_Cc hcell, acT_l, ck_i hsh, ca_C, eq, iu_C hC.1 hq (show 16 < K by omega), if_pos hu]
          rfl
        · have hw' := (MW_t (y := nI 0) hw).1.1
          have e157 : s2 (s2 w 157 6 (nI 0)) 157 6 (nI 3) = s2 w 157 6 (nI 3) := s2_s2
          unfold fX7_setCell bX7_setCell_28 bX7_setCell_75
          by_cases hg : (goOn W.1 q).isSome = true
          · simp (disch := omega) only [↓jM_e, li_0, li_1, li_2, li_3, li_4, li_5, li_6, li_7, li_8, li_9, li_10, li_13, li_14, li_15, li_16, li_31, li_35, li_47, li_48, li_49, li_50, li_57, li_99, li_100, li_126, li_139, li_140, li_149, li_150, li_280, li_284, li_285, li_290, li_434, li_1260, li_3472, li_9999, li_65536, nm, nm_w, sf_w, cp_w, ld_I, sa_I, nI_add, pk_mul, Nat.zero_add, nI_leI, nI_ltI, nI_eq, nI_neM, M_neI, nI_ltM, nI_nltM, M_ltI, M_leI, nI_nleM, bnd_some, if_pos, if_neg, dif_t, dif_f, ic_M, if_neg hcell, ii_M, s2_i, hcaM, hg_M hw' hq (show 16 < K by omega), if_pos hg, e157]
          · have ha : ¬ agOn W.1 q = none := by
              intro e
              unfold inU at hu
              rw [e] at hu
              simp at hu
              exact hg hu
            simp (disch := omega) only [↓jM_e, li_0, li_1, li_2, li_3, li_4, li_5, li_6, li_7, li_8, li_9, li_10, li_13, li_14, li_15, li_16, li_31, li_35, li_47, li_48, li_49, li_50, li_57, li_99, li_100, li_126, li_139, li_140, li_149, li_150, li_280, li_284, li_285, li_290, li_434, li_1260, li_3472, li_9999, li_65536, nm, nm_w, sf_w, cp_w, ld_I, sa_I, nI_add, pk_mul, Nat.zero_add, nI_leI, nI_ltI, nI_eq, nI_neM, M_neI, nI_ltM, nI_nltM, M_ltI, M_leI, nI_nleM, bnd_some, if_pos, if_neg, dif_t, dif_f, ic_M, if_neg hcell, ii_M, s2_i, hcaM, hg_M hw' hq (show 16 < K by omega), if_neg hg, ag_M hw' hq (show 16 < K by omega), ag_neg, if_neg ha, e157]
      · have hu : y = 0 → inU W.1 q = false := fun e => Bool.eq_false_iff.mpr (fun g => hw3 ⟨e, g⟩)
        refine fin_fo (S' := s2 W.1 0 q (nI y)) (x' := ((W.1 0 q).toInt64, x.2)) hC hM hI (K := K) (by omega) (iS_0 hI.1 hq (by omega) hu) (fun r1 v1 k1 e1 g1 => ⟨s2 v1 2 q (nI y), rcS (j := 0) g1.1 (by decide), fun p hp => s2_ne (by omega), fun u v3 ef => ?_⟩) (fun w w1 hw e1 g1 q5 => ⟨s2 w1 158 q (nI y), ?_, fun p hp => s2_ne hp, fun w3 ef => ⟨W.1 0 q, ?_, rfl⟩⟩)
        · have e0 : v1 2 q = W.1 0 q := rc0 g1.1 hq
          unfold fL_setCell fX6_setCell bX6_setCell_20 bX6_setCell_56 fX6_requireArgument
          by_cases hy0 : y = 0
          · have hf := hu hy0
            simp (disch := omega) only [↓jM_e, li_0, li_1, li_2, li_3, li_4, li_5, li_6, li_7, li_8, li_9, li_10, li_13, li_14, li_15, li_16, li_31, li_35, li_47, li_48, li_49, li_50, li_57, li_99, li_100, li_126, li_139, li_140, li_149, li_150, li_280, li_284, li_285, li_290, li_434, li_1260, li_3472, li_9999, li_65536, nm, nm_w, sf_w, cp_w, ld_I, sa_I, nI_add, pk_mul, Nat.zero_add, nI_leI, nI_ltI, nI_eq, nI_neM, M_neI, nI_ltM, nI_nltM, M_ltI, M_leI, nI_nleM, bnd_some, if_pos, if_neg, dif_t, dif_f, rq_Cc hcell, acT_l, ck_i hsh, ca_C, eq, iu_C hC.1 hq (show 16 < K by omega), if_neg (show ¬ inU W.1 q = true by rw [hf]; exact Bool.false_ne_true), e1, ck_i g1.2.1.1, e0, ef, ac_0]
            rfl
          · simp (disch := omega) only [↓jM_e, li_0, li_1, li_2, li_3, li_4, li_5, li_6, li_7, li_8, li_9, li_10, li_13, li_14, li_15, li_16, li_31, li_35, li_47, li_48, li_49, li_50, li_57, li_99, li_100, li_126, li_139, li_140, li_149, li_150, li_280, li_284, li_285, li_290, li_434, li_1260, li_3472, li_9999, li_65536, nm, nm_w, sf_w, cp_w, ld_I, sa_I, nI_add, pk_mul, Nat.zero_add, nI_leI, nI_ltI, nI_eq, nI_neM, M_neI, nI_ltM, nI_nltM, M_ltI, M_leI, nI_nleM, bnd_some, if_pos, if_neg, dif_t, dif_f, rq_Cc hcell, acT_l, ck_i hsh, ca_C, eq, e1, ck_i g1.2.1.1, e0, ef, ac_0]
            rfl
        · rw [s2_upd]
          exact rmU0 g1.1.1 hq
        · have hw' := (MW_t (y := nI 0) hw).1.1
          have e0 : w1 158 q = W.1 0 q := g1.1.1.1 q hq
          have e157 : s2 (s2 w 157 6 (nI 0)) 157 6 (nI 0) = s2 w 157 6 (nI 0) := s2_s2
          unfold fX7_setCell bX7_setCell_28 bX7_setCell_75
          by_cases hy0 : y = 0
          · have hf := hu hy0
            unfold inU at hf
            simp only [Bool.or_eq_false_iff, Option.isSome_eq_false_iff, Option.isNone_iff_eq_none] at hf
            simp (disch := omega) only [↓jM_e, li_0, li_1, li_2, li_3, li_4, li_5, li_6, li_7, li_8, li_9, li_10, li_13, li_14, li_15, li_16, li_31, li_35, li_47, li_48, li_49, li_50, li_57, li_99, li_100, li_126, li_139, li_140, li_149, li_150, li_280, li_284, li_285, li_290, li_434, li_1260, li_3472, li_9999, li_65536, nm, nm_w, sf_w, cp_w, ld_I, sa_I, nI_add, pk_mul, Nat.zero_add, nI_leI, nI_ltI, nI_eq, nI_neM, M_neI, nI_ltM, nI_nltM, M_ltI, M_leI, nI_nleM, bnd_some, if_pos, if_neg, dif_t, dif_f, ic_M, if_neg hcell, ii_M, s2_i, hcaM, hg_M hw' hq (show 16 < K by omega), hf.2, Option.isSome_none, Bool.false_eq_true, if_false, ag_M hw' hq (show 16 < K by omega), ag_neg, if_pos hf.1, e157, e1, e0, ef]
          · simp (disch := omega) only [↓jM_e, li_0, li_1, li_2, li_3, li_4, li_5, li_6, li_7, li_8, li_9, li_10, li_13, li_14, li_15, li_16, li_31, li_35, li_47, li_48, li_49, li_50, li_57, li_99, li_100, li_126, li_139, li_140, li_149, li_150, li_280, li_284, li_285, li_290, li_434, li_1260, li_3472, li_9999, li_65536, nm, nm_w, sf_w, cp_w, ld_I, sa_I, nI_add, pk_mul, Nat.zero_add, nI_leI, nI_ltI, nI_eq, nI_neM, M_neI, nI_ltM, nI_nltM, M_ltI, M_leI, nI_nleM, bnd_some, if_pos, if_neg, dif_t, dif_f, ic_M, if_neg hcell, ii_M, s2_i, hcaM, e157, e1, e0, ef]
    · refine fin_thr hC hM hI (code := 2) (z := nI 0) (x' := x) (by decide) ?_ (fun w hw => ?_)
      · unfold fL_setCell fX6_setCell bX6_setCell_20 fX6_requireArgument
        by_cases h0 : x3 < nI 0
        · simp (disch := omega) only [↓jM_e, li_0, li_1, li_2, li_3, li_4, li_5, li_6, li_7, li_8, li_9, li_10, li_13, li_14, li_15, li_16, li_31, li_35, li_47, li_48, li_49, li_50, li_57, li_99, li_100, li_126, li_139, li_140, li_149, li_150, li_280, li_284, li_285, li_290, li_434, li_1260, li_3472, li_9999, li_65536, nm, nm_w, sf_w, cp_w, ld_I, sa_I, nI_add, pk_mul, Nat.zero_add, nI_leI, nI_ltI, nI_eq, nI_neM, M_neI, nI_ltM, nI_nltM, M_ltI, M_leI, nI_nleM, bnd_some, if_pos, if_neg, dif_t, dif_f, rq_Cc hcell, acT_l, acT_r, ck_i hsh, if_pos h0]
          rfl
        · have h9 : nI 9 < x3 := Int32.not_le.mp (fun g => h3 ⟨Int32.not_lt.mp h0, g⟩)
          simp (disch := omega) only [↓jM_e, li_0, li_1, li_2, li_3, li_4, li_5, li_6, li_7, li_8, li_9, li_10, li_13, li_14, li_15, li_16, li_31, li_35, li_47, li_48, li_49, li_50, li_57, li_99, li_100, li_126, li_139, li_140, li_149, li_150, li_280, li_284, li_285, li_290, li_434, li_1260, li_3472, li_9999, li_65536, nm, nm_w, sf_w, cp_w, ld_I, sa_I, nI_add, pk_mul, Nat.zero_add, nI_leI, nI_ltI, nI_eq, nI_neM, M_neI, nI_ltM, nI_nltM, M_ltI, M_leI, nI_nleM, bnd_some, if_pos, if_neg, dif_t, dif_f, rq_Cc hcell, acT_l, acT_r, ck_i hsh, if_neg h0, if_pos h9]
          rfl
      · unfold fX7_setCell bX7_setCell_28
        simp (disch := omega) only [↓jM_e, li_0, li_1, li_2, li_3, li_4, li_5, li_6, li_7, li_8, li_9, li_10, li_13, li_14, li_15, li_16, li_31, li_35, li_47, li_48, li_49, li_50, li_57, li_99, li_100, li_126, li_139, li_140, li_149, li_150, li_280, li_284, li_285, li_290, li_434, li_1260, li_3472, li_9999, li_65536, nm, nm_w, sf_w, cp_w, ld_I, sa_I, nI_add, pk_mul, Nat.zero_add, nI_leI, nI_ltI, nI_eq, nI_neM, M_neI, nI_ltM, nI_nltM, M_ltI, M_leI, nI_nleM, bnd_some, if_pos, if_neg, dif_t, dif_f, ic_M, if_neg hcell, ii_M, if_neg h3, s2_i]
end
