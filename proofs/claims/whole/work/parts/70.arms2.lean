/-! cell, dropGoal, leave, change -/
theorem caI_c {x y : Int32} (h : caI x y ≠ jM) : ∃ q, q < 140 ∧ caI x y = nI q := by
  rcases caI_v x y with g | ⟨i, j, hi, hj, -, -, e⟩
  · exact absurd g h
  · exact ⟨14 * j + i, by omega, e⟩
section
variable {v : sV} {K n : Nat} {r : sR} {W : aW} {B : Nat} {x : Int64 × UInt64}
theorem rq_C {x1 x2 : Int32} (h : caI x1 x2 = jM) : fX6_requireCell x1 x2 r v n = some (Sum.inr 1, r, v, 0) := by
  unfold fX6_requireCell
  simp (disch := omega) only [↓jM_e, li_0, li_1, li_2, li_3, li_4, li_5, li_6, li_7, li_8, li_9, li_10, li_13, li_14, li_15, li_16, li_31, li_35, li_47, li_48, li_49, li_50, li_57, li_99, li_100, li_126, li_139, li_140, li_149, li_150, li_280, li_284, li_285, li_290, li_434, li_1260, li_3472, li_9999, li_65536, nm, nm_w, sf_w, cp_w, ld_I, sa_I, nI_add, pk_mul, Nat.zero_add, nI_leI, nI_ltI, nI_eq, nI_neM, M_neI, nI_ltM, nI_nltM, M_ltI, M_leI, nI_nleM, bnd_some, if_pos, if_neg, dif_t, dif_f, ca_C, if_pos h]
theorem rq_Cc {x1 x2 : Int32} (h : ¬ caI x1 x2 = jM) : fX6_requireCell x1 x2 r v n = some (Sum.inl (), r, v, 0) := by
  unfold fX6_requireCell
  simp (disch := omega) only [↓jM_e, li_0, li_1, li_2, li_3, li_4, li_5, li_6, li_7, li_8, li_9, li_10, li_13, li_14, li_15, li_16, li_31, li_35, li_47, li_48, li_49, li_50, li_57, li_99, li_100, li_126, li_139, li_140, li_149, li_150, li_280, li_284, li_285, li_290, li_434, li_1260, li_3472, li_9999, li_65536, nm, nm_w, sf_w, cp_w, ld_I, sa_I, nI_add, pk_mul, Nat.zero_add, nI_leI, nI_ltI, nI_eq, nI_neM, M_neI, nI_ltM, nI_nltM, M_ltI, M_leI, nI_nleM, bnd_some, if_pos, if_neg, dif_t, dif_f, ca_C, if_neg h]
theorem go_M {S : aS} (h : RelM S (v 158)) {c : Nat} (hc : c < 140) (hK : 16 < K) : fx1 (gX7_cell_54 K (nI c) v) K (nI 0) = some (oI (goOn S c), v) := by
  refine fx1_go (P := fun t x => x = nI t ∧ ffI (fun a => decide (S 2 a = nI c)) (4 - t) t = goOn S c) (Q := fun o => o = some (oI (goOn S c), v)) (N := 4) ?_ ⟨rfl, rfl⟩ (by omega)
  intro t x ht ⟨e1, e2⟩ k hk
  subst e1
  unfold gX7_cell_54 bX7_cell_82
  by_cases ht1 : t = 4
  · subst ht1
    rw [← e2]
    simp (disch := omega) only [↓jM_e, li_0, li_1, li_2, li_3, li_4, li_5, li_6, li_7, li_8, li_9, li_10, li_13, li_14, li_15, li_16, li_31, li_35, li_47, li_48, li_49, li_50, li_57, li_99, li_100, li_126, li_139, li_140, li_149, li_150, li_280, li_284, li_285, li_290, li_434, li_1260, li_3472, li_9999, li_65536, nm, nm_w, sf_w, cp_w, ld_I, sa_I, nI_add, pk_mul, Nat.zero_add, nI_leI, nI_ltI, nI_eq, nI_neM, M_neI, nI_ltM, nI_nltM, M_ltI, M_leI, nI_nleM, bnd_some, if_pos, if_neg, dif_t, dif_f]
    rfl
  · have ht2 : t < 4 := by omega
    have hix : 280 + t < 434 := by omega
    have hr := h.2.2.1 t ht2
    rw [show 4 - t = (4 - (t + 1)) + 1 by omega] at e2
    have e2 : (if decide (S 2 t = nI c) = true then some t else ffI (fun a => decide (S 2 a = nI c)) (4 - (t + 1)) (t + 1)) = goOn S c := e2
    by_cases hp : S 2 t = nI c
    · rw [if_pos (decide_eq_true hp)] at e2
      simp (disch := omega) only [↓jM_e, li_0, li_1, li_2, li_3, li_4, li_5, li_6, li_7, li_8, li_9, li_10, li_13, li_14, li_15, li_16, li_31, li_35, li_47, li_48, li_49, li_50, li_57, li_99, li_100, li_126, li_139, li_140, li_149, li_150, li_280, li_284, li_285, li_290, li_434, li_1260, li_3472, li_9999, li_65536, nm, nm_w, sf_w, cp_w, ld_I, sa_I, nI_add, pk_mul, Nat.zero_add, nI_leI, nI_ltI, nI_eq, nI_neM, M_neI, nI_ltM, nI_nltM, M_ltI, M_leI, nI_nleM, bnd_some, if_pos, if_neg, dif_t, dif_f, hr, if_pos hp]
      rw [← e2]
      rfl
    · rw [if_neg (by rw [decide_eq_true_eq]; exact hp)] at e2
      simp (disch := omega) only [↓jM_e, li_0, li_1, li_2, li_3, li_4, li_5, li_6, li_7, li_8, li_9, li_10, li_13, li_14, li_15, li_16, li_31, li_35, li_47, li_48, li_49, li_50, li_57, li_99, li_100, li_126, li_139, li_140, li_149, li_150, li_280, li_284, li_285, li_290, li_434, li_1260, li_3472, li_9999, li_65536, nm, nm_w, sf_w, cp_w, ld_I, sa_I, nI_add, pk_mul, Nat.zero_add, nI_leI, nI_ltI, nI_eq, nI_neM, M_neI, nI_ltM, nI_nltM, M_ltI, M_leI, nI_nleM, bnd_some, if_pos, if_neg, dif_t, dif_f, hr, if_neg hp]
      exact hk (by omega) _ ⟨rfl, e2⟩
theorem a_1 (x1 x2 x3 : Int32) (hC : CW W r v n) (hM : MW W v) (hI : IW B W) (hK : 400000 < K) : OUT B (fL_cell K x1 x2 x3 r v n x) (fX7_cell K x1 x2 x3) PI n := by
  have hsh := hC.2.1.1
  by_cases hcell : caI x1 x2 = jM
  · refine fin_thr hC hM hI (code := 1) (z := nI 0) (x' := x) (by decide) ?_ (fun w hw => ?_)
    · unfold fL_cell fX6_cell
      simp (disch := omega) only [↓jM_e, li_0, li_1, li_2, li_3, li_4, li_5, li_6, li_7, li_8, li_9, li_10, li_13, li_14, li_15, li_16, li_31, li_35, li_47, li_48, li_49, li_50, li_57, li_99, li_100, li_126, li_139, li_140, li_149, li_150, li_280, li_284, li_285, li_290, li_434, li_1260, li_3472, li_9999, li_65536, nm, nm_w, sf_w, cp_w, ld_I, sa_I, nI_add, pk_mul, Nat.zero_add, nI_leI, nI_ltI, nI_eq, nI_neM, M_neI, nI_ltM, nI_nltM, M_ltI, M_leI, nI_nleM, bnd_some, if_pos, if_neg, dif_t, dif_f, rq_C hcell, acT_r]
      rfl
    · unfold fX7_cell bX7_cell_27
      simp (disch := omega) only [↓jM_e, li_0, li_1, li_2, li_3, li_4, li_5, li_6, li_7, li_8, li_9, li_10, li_13, li_14, li_15, li_16, li_31, li_35, li_47, li_48, li_49, li_50, li_57, li_99, li_100, li_126, li_139, li_140, li_149, li_150, li_280, li_284, li_285, li_290, li_434, li_1260, li_3472, li_9999, li_65536, nm, nm_w, sf_w, cp_w, ld_I, sa_I, nI_add, pk_mul, Nat.zero_add, nI_leI, nI_ltI, nI_eq, nI_neM, M_neI, nI_ltM, nI_nltM, M_ltI, M_leI, nI_nleM, bnd_some, if_pos, if_neg, dif_t, dif_f, ic_M, if_pos hcell, s2_i]
  · obtain ⟨q, hq, eq⟩ := caI_c hcell
    have hcaM := ca_M hcell
    rw [eq] at hcaM
    have hp : (x3 ≤ nI 3) = ¬ (nI 4 ≤ x3) := le_pred (n := 3) (by decide)
    have hthr : (x3 < nI 0 ∨ nI 4 ≤ x3) → OUT B (fL_cell K x1 x2 x3 r v n x) (fX7_cell K x1 x2 x3) PI n := by
      intro h2
      have h1 : ¬ (nI 0 ≤ x3 ∧ x3 ≤ nI 3) := fun g => h2.elim (fun q => Int32.not_le.mpr q g.1) (fun q => by rw [hp] at g; exact g.2 q)
      have hne : ∀ k, k < 4 → ¬ x3 = nI k := fun k hk e => h1 (by rw [e]; exact ⟨nI_le (Nat.zero_le k) (by omega), nI_le (by omega) (by decide)⟩)
      refine fin_thr hC hM hI (code := 2) (z := nI 0) (x' := x) (by decide) ?_ (fun w hw => ?_)
      · unfold fL_cell fX6_cell
        simp (disch := omega) only [↓jM_e, li_0, li_1, li_2, li_3, li_4, li_5, li_6, li_7, li_8, li_9, li_10, li_13, li_14, li_15, li_16, li_31, li_35, li_47, li_48, li_49, li_50, li_57, li_99, li_100, li_126, li_139, li_140, li_149, li_150, li_280, li_284, li_285, li_290, li_434, li_1260, li_3472, li_9999, li_65536, nm, nm_w, sf_w, cp_w, ld_I, sa_I, nI_add, pk_mul, Nat.zero_add, nI_leI, nI_ltI, nI_eq, nI_neM, M_neI, nI_ltM, nI_nltM, M_ltI, M_leI, nI_nleM, bnd_some, if_pos, if_neg, dif_t, dif_f, rq_Cc hcell, acT_l, ck_i hsh, ca_C, if_neg (hne 0 (by decide)), if_neg (hne 1 (by decide)), if_neg (hne 2 (by decide)), if_neg (hne 3 (by decide))]
        rfl
      · unfold fX7_cell bX7_cell_27
        simp (disch := omega) only [↓jM_e, li_0, li_1, li_2, li_3, li_4, li_5, li_6, li_7, li_8, li_9, li_10, li_13, li_14, li_15, li_16, li_31, li_35, li_47, li_48, li_49, li_50, li_57, li_99, li_100, li_126, li_139, li_140, li_149, li_150, li_280, li_284, li_285, li_290, li_434, li_1260, li_3472, li_9999, li_65536, nm, nm_w, sf_w, cp_w, ld_I, sa_I, nI_add, pk_mul, Nat.zero_add, nI_leI, nI_ltI, nI_eq, nI_neM, M_neI, nI_ltM, nI_nltM, M_ltI, M_leI, nI_nleM, bnd_some, if_pos, if_neg, dif_t, dif_f, ic_M, if_neg hcell, ii_M, if_neg h1, s2_i]
    by_cases h0 : x3 < nI 0
    · exact hthr (Or.inl h0)
    · by_cases h4 : nI 4 ≤ x3
      · exact hthr (Or.inr h4)
      · obtain ⟨k, hk, rfl⟩ := in_nI h0 h4 (by decide)
        refine fin_rd hC hM hI (x' := ((if k = 0 then W.1 0 q else if k = 1 then oI (agOn W.1 q) else if k = 2 then W.1 1 q else oI (goOn W.1 q)).toInt64, x.2)) ?_ (fun w hw => ⟨if k = 0 then W.1 0 q else if k = 1 then oI (agOn W.1 q) else if k = 2 then W.1 1 q else oI (goOn W.1 q), ?_, rfl⟩)
        · have e0 : v 2 q = W.1 0 q := rc0 hC.1 hq
          have e1 : v 3 q = W.1 1 q := rc1 hC.1 hq
          unfold fL_cell fX6_cell
          rcases (show k = 0 ∨ k = 1 ∨ k = 2 ∨ k = 3 by omega) with rfl | rfl | rfl | rfl
          · simp (disch := omega) only [↓jM_e, li_0, li_1, li_2, li_3, li_4, li_5, li_6, li_7, li_8, li_9, li_10, li_13, li_14, li_15, li_16, li_31, li_35, li_47, li_48, li_49, li_50, li_57, li_99, li_100, li_126, li_139, li_140, li_149, li_150, li_280, li_284, li_285, li_290, li_434, li_1260, li_3472, li_9999, li_65536, nm, nm_w, sf_w, cp_w, ld_I, sa_I, nI_add, pk_mul, Nat.zero_add, nI_leI, nI_ltI, nI_eq, nI_neM, M_neI, nI_ltM, nI_nltM, M_ltI, M_leI, nI_nleM, bnd_some, if_pos, if_neg, dif_t, dif_f, rq_Cc hcell, acT_l, ck_i hsh, ca_C, eq, e0]
            rfl
          · simp (disch := omega) only [↓jM_e, li_0, li_1, li_2, li_3, li_4, li_5, li_6, li_7, li_8, li_9, li_10, li_13, li_14, li_15, li_16, li_31, li_35, li_47, li_48, li_49, li_50, li_57, li_99, li_100, li_126, li_139, li_140, li_149, li_150, li_280, li_284, li_285, li_290, li_434, li_1260, li_3472, li_9999, li_65536, nm, nm_w, sf_w, cp_w, ld_I, sa_I, nI_add, pk_mul, Nat.zero_add, nI_leI, nI_ltI, nI_eq, nI_neM, M_neI, nI_ltM, nI_nltM, M_ltI, M_leI, nI_nleM, bnd_some, if_pos, if_neg, dif_t, dif_f, rq_Cc hcell, acT_l, ck_i hsh, ca_C, eq, ag_C hC.1 hq (show 16 < K by omega)]
            rfl
          · simp (disch := omega) only [↓jM_e, li_0, li_1, li_2, li_3, li_4, li_5, li_6, li_7, li_8, li_9, li_10, li_13, li_14, li_15, li_16, li_31, li_35, li_47, li_48, li_49, li_50, li_57, li_99, li_100, li_126, li_139, li_140, li_149, li_150, li_280, li_284, li_285, li_290, li_434, li_1260, li_3472, li_9999, li_65536, nm, nm_w, sf_w, cp_w, ld_I, sa_I, nI_add, pk_mul, Nat.zero_add, nI_leI, nI_ltI, nI_eq, nI_neM, M_neI, nI_ltM, nI_nltM, M_ltI, M_leI, nI_nleM, bnd_some, if_pos, if_neg, dif_t, dif_f, rq_Cc hcell, acT_l, ck_i hsh, ca_C, eq, e1]
            rfl
          · simp (disch := omega) only [↓jM_e, li_0, li_1, li_2, li_3, li_4, li_5, li_6, li_7, li_8, li_9, li_10, li_13, li_14, li_15, li_16, li_31, li_35, li_47, li_48, li_49, li_50, li_57, li_99, li_100, li_126, li_139, li_140, li_149, li_150, li_280, li_284, li_285, li_290, li_434, li_1260, li_3472, li_9999, li_65536, nm, nm_w, sf_w, cp_w, ld_I, sa_I, nI_add, pk_mul, Nat.zero_add, nI_leI, nI_ltI, nI_eq, nI_neM, M_neI, nI_ltM, nI_nltM, M_ltI, M_leI, nI_nleM, bnd_some, if_pos, if_neg, dif_t, dif_f, rq_Cc hcell, acT_l, ck_i hsh, ca_C, eq, go_C hC.1 hq (show 16 < K by omega)]
            rfl
        · have hw' := (MW_t (y := nI 0) hw).1.1
          have e0 := hw'.1 q hq
          have e1 := hw'.2.1 q hq
          have hix : 140 + q < 434 := by omega
          unfold fX7_cell bX7_cell_27
          rcases (show k = 0 ∨ k = 1 ∨ k = 2 ∨ k = 3 by omega) with rfl | rfl | rfl | rfl
          · simp (disch := omega) only [↓jM_e, li_0, li_1, li_2, li_3, li_4, li_5, li_6, li_7, li_8, li_9, li_10, li_13, li_14, li_15, li_16, li_31, li_35, li_47, li_48, li_49, li_50, li_57, li_99, li_100, li_126, li_139, li_140, li_149, li_150, li_280, li_284, li_285, li_290, li_434, li_1260, li_3472, li_9999, li_65536, nm, nm_w, sf_w, cp_w, ld_I, sa_I, nI_add, pk_mul, Nat.zero_add, nI_leI, nI_ltI, nI_eq, nI_neM, M_neI, nI_ltM, nI_nltM, M_ltI, M_leI, nI_nleM, bnd_some, if_pos, if_neg, dif_t, dif_f, ic_M, if_neg hcell, ii_M, s2_i, hcaM, e0]
          · simp (disch := omega) only [↓jM_e, li_0, li_1, li_2, li_3, li_4, li_5, li_6, li_7, li_8, li_9, li_10, li_13, li_14, li_15, li_16, li_31, li_35, li_47, li_48, li_49, li_50, li_57, li_99, li_100, li_126, li_139, li_140, li_149, li_150, li_280, li_284, li_285, li_290, li_434, li_1260, li_3472, li_9999, li_65536, nm, nm_w, sf_w, cp_w, ld_I, sa_I, nI_add, pk_mul, Nat.zero_add, nI_leI, nI_ltI, nI_eq, nI_neM, M_neI, nI_ltM, nI_nltM, M_ltI, M_leI, nI_nleM, bnd_some, if_pos, if_neg, dif_t, dif_f, ic_M, if_neg hcell, ii_M, s2_i, hcaM, ag_M hw' hq (show 16 < K by omega)]
          · simp (disch := omega) only [↓jM_e, li_0, li_1, li_2, li_3, li_4, li_5, li_6, li_7, li_8, li_9, li_10, li_13, li_14, li_15, li_16, li_31, li_35, li_47, li_48, li_49, li_50, li_57, li_99, li_100, li_126, li_139, li_140, li_149, li_150, li_280, li_284, li_285, li_290, li_434, li_1260, li_3472, li_9999, li_65536, nm, nm_w, sf_w, cp_w, ld_I, sa_I, nI_add, pk_mul, Nat.zero_add, nI_leI, nI_ltI, nI_eq, nI_neM, M_neI, nI_ltM, nI_nltM, M_ltI, M_leI, nI_nleM, bnd_some, if_pos, if_neg, dif_t, dif_f, ic_M, if_neg hcell, ii_M, s2_i, hcaM, e1]
          · simp (disch := omega) only [↓jM_e, li_0, li_1, li_2, li_3, li_4, li_5, li_6, li_7, li_8, li_9, li_10, li_13, li_14, li_15, li_16, li_31, li_35, li_47, li_48, li_49, li_50, li_57, li_99, li_100, li_126, li_139, li_140, li_149, li_150, li_280, li_284, li_285, li_290, li_434, li_1260, li_3472, li_9999, li_65536, nm, nm_w, sf_w, cp_w, ld_I, sa_I, nI_add, pk_mul, Nat.zero_add, nI_leI, nI_ltI, nI_eq, nI_neM, M_neI, nI_ltM, nI_nltM, M_ltI, M_leI, nI_nleM, bnd_some, if_pos, if_neg, dif_t, dif_f, ic_M, if_neg hcell, ii_M, s2_i, hcaM, go_M hw' hq (show 16 < K by omega)]
/-- an agent, or none -/
theorem arg_a (S : aS) (x1 : Int32) : (x1 < nI 0 ∨ nI 16 ≤ x1) ∨ ∃ a, a < 16 ∧ x1 = nI a := by
  rcases pk_ix x1 (n := 16) (by decide) with h | h | h
  · exact Or.inl (Or.inl h)
  · exact Or.inl (Or.inr h)
  · exact Or.inr h
def noA (S : aS) (x1 : Int32) : Prop := (x1 < nI 0 ∨ nI 16 ≤ x1) ∨ ∃ a, a < 16 ∧ x1 = nI a ∧ S 3 a = jM
theorem arg_A (S : aS) (x1 : Int32) : noA S x1 ∨ ∃ a, a < 16 ∧ x1 = nI a ∧ S 3 a ≠ jM := by
  rcases arg_a S x1 with h | ⟨a, ha, e⟩
  · exact Or.inl (Or.inl h)
  · by_cases hx : S 3 a = jM
    · exact Or.inl (Or.inr ⟨a, ha, e, hx⟩)
    · exact Or.inr ⟨a, ha, e, hx⟩
theorem no_C {b cq : Nat} {S : aS} (h : RelC b S v) {x1 : Int32} (hn : noA S x1) : fX0_exists cq b x1 v = some (nI 0) := by
  rcases hn with g | ⟨a, ha, e, hx⟩
  · exact ex_Co g
  · rw [e, ex_C h ha, if_neg (by rw [exS_t]; exact fun g => g hx)]
theorem no_M {S : aS} (h : RelM S (v 158)) {x1 : Int32} (hn : noA S x1) : fX7_isAgent x1 v = some (nI 0) := by
  rcases hn with g | ⟨a, ha, e, hx⟩
  · exact ex_Mo g
  · rw [e, ex_M h ha, if_neg (by rw [exS_t]; exact fun g => g hx)]
theorem ya_C {b cq : Nat} {S : aS} (h : RelC b S v) {a : Nat} (ha : a < 16) (hx : S 3 a ≠ jM) : fX0_exists cq b (nI a) v = some (nI 1) := by
  rw [ex_C h ha, if_pos (by rw [exS_t]; exact hx)]
theorem ya_M {S : aS} (h : RelM S (v 158)) {a : Nat} (ha : a < 16) (hx : S 3 a ≠ jM) : fX7_isAgent (nI a) v = some (nI 1) := by
  rw [ex_M h ha, if_pos (by rw [exS_t]; exact hx)]
theorem rA_n (hC : RelC 1 W.1 v) {x1 : Int32} (hn : noA W.1 x1) : fX6_requireAgent x1 r v n = some (Sum.inr 1, r, v, 0) := by
  unfold fX6_requireAgent
  simp (disch := omega) only [↓jM_e, li_0, li_1, li_2, li_3, li_4, li_5, li_6, li_7, li_8, li_9, li_10, li_13, li_14, li_15, li_16, li_31, li_35, li_47, li_48, li_49, li_50, li_57, li_99, li_100, li_126, li_139, li_140, li_149, li_150, li_280, li_284, li_285, li_290, li_434, li_1260, li_3472, li_9999, li_65536, nm, nm_w, sf_w, cp_w, ld_I, sa_I, nI_add, pk_mul, Nat.zero_add, nI_leI, nI_ltI, nI_eq, nI_neM, M_neI, nI_ltM, nI_nltM, M_ltI, M_leI, nI_nleM, bnd_some, if_pos, if_neg, dif_t, dif_f, no_C hC hn]
theorem rA_y (hC : RelC 1 W.1 v) {a : Nat} (ha : a < 16) (hx : W.1 3 a ≠ jM) : fX6_requireAgent (nI a) r v n = some (Sum.inl (), r, v, 0) := by
  unfold fX6_requireAgent
  simp (disch := omega) only [↓jM_e, li_0, li_1, li_2, li_3, li_4, li_5, li_6, li_7, li_8, li_9, li_10, li_13, li_14, li_15, li_16, li_31, li_35, li_47, li_48, li_49, li_50, li_57, li_99, li_100, li_126, li_139, li_140, li_149, li_150, li_280, li_284, li_285, li_290, li_434, li_1260, li_3472, li_9999, li_65536, nm, nm_w, sf_w, cp_w, ld_I, sa_I, nI_add, pk_mul, Nat.zero_add, nI_leI, nI_ltI, nI_eq, nI_neM, M_neI, nI_ltM, nI_nltM, M_ltI, M_leI, nI_nleM, bnd_some, if_pos, if_neg, dif_t, dif_f, ya_C hC ha hx]
theorem iS_8 {S : aS} {a : Nat} (h : iS B S) : iS B (s2 S 8 a jM) := by
  have hs : ∀ j', j' ≠ 8 → s2 S 8 a jM j' = S j' := fun j' h => s2_ne h
  have hco : coS (s2 S 8 a jM) = coS S := coS_s2 (by decide)
  have hC : ∀ y, isC (s2 S 8 a jM) y = isC S y := fun y => by unfold isC; rw [hco]
  obtain ⟨h1, h2, h3, h4, h5, h6⟩ := h
  unfold iS
  rw [hco, hs 0 (by omega), hs 1 (by omega), hs 2 (by omega), hs 3 (by omega), hs 4 (by omega), hs 5 (by omega), hs 6 (by omega)]
  simp only [hC]
  refine ⟨h1, h2, h3, fun a' ha' hx => ?_, fun a' ha' hx => ?_, h6⟩
  · obtain ⟨g1, g2, g3, g4⟩ := h4 a' ha' hx
    refine ⟨g1, g2, g3, ?_⟩
    by_cases haa : a' = a
    · rw [haa, s2_i]; exact Or.inl rfl
    · rw [s2_j haa]; exact g4
  · by_cases haa : a' = a
    · rw [haa, s2_i]
    · rw [s2_j haa]; exact h5 a' ha' hx
theorem a_14 (x1 : Int32) (hC : CW W r v n) (hM : MW W v) (hI : IW B W) (hK : 400000 < K) : OUT B (fL_leave K x1 r v n x) (fX7_leave K x1) PI n := by
  have hsh := hC.2.1.1
  rcases arg_A W.1 x1 with hn | ⟨a, ha, rfl, hx⟩
  · refine fin_thr hC hM hI (code := 1) (z := nI 0) (x' := x) (by decide) ?_ (fun w hw => ?_)
    · unfold fL_leave fX6_leave
      simp (disch := omega) only [↓jM_e, li_0, li_1, li_2, li_3, li_4, li_5, li_6, li_7, li_8, li_9, li_10, li_13, li_14, li_15, li_16, li_31, li_35, li_47, li_48, li_49, li_50, li_57, li_99, li_100, li_126, li_139, li_140, li_149, li_150, li_280, li_284, li_285, li_290, li_434, li_1260, li_3472, li_9999, li_65536, nm, nm_w, sf_w, cp_w, ld_I, sa_I, nI_add, pk_mul, Nat.zero_add, nI_leI, nI_ltI, nI_eq, nI_neM, M_neI, nI_ltM, nI_nltM, M_ltI, M_leI, nI_nleM, bnd_some, if_pos, if_neg, dif_t, dif_f, rA_n hC.1 hn, acT_r]
      rfl
    · unfold fX7_leave bX7_leave_28
      simp (disch := omega) only [↓jM_e, li_0, li_1, li_2, li_3, li_4, li_5, li_6, li_7, li_8, li_9, li_10, li_13, li_14, li_15, li_16, li_31, li_35, li_47, li_48, li_49, li_50, li_57, li_99, li_100, li_126, li_139, li_140, li_149, li_150, li_280, li_284, li_285, li_290, li_434, li_1260, li_3472, li_9999, li_65536, nm, nm_w, sf_w, cp_w, ld_I, sa_I, nI_add, pk_mul, Nat.zero_add, nI_leI, nI_ltI, nI_eq, nI_neM, M_neI, nI_ltM, nI_nltM, M_ltI, M_leI, nI_nleM, bnd_some, if_pos, if_neg, dif_t, dif_f, no_M hw.1.1 hn, s2_i]
  · have r8C : v 10 a = W.1 8 a := rc8 hC.1 ha
    by_cases h8 : W.1 8 a = jM
    · refine fin_thr hC hM hI (code := 2) (z := nI 0) (x' := x) (by decide) ?_ (fun w hw => ?_)
      · unfold fL_leave fX6_leave
        simp (disch := omega) only [↓jM_e, li_0, li_1, li_2, li_3, li_4, li_5, li_6, li_7, li_8, li_9, li_10, li_13, li_14, li_15, li_16, li_31, li_35, li_47, li_48, li_49, li_50, li_57, li_99, li_100, li_126, li_139, li_140, li_149, li_150, li_280, li_284, li_285, li_290, li_434, li_1260, li_3472, li_9999, li_65536, nm, nm_w, sf_w, cp_w, ld_I, sa_I, nI_add, pk_mul, Nat.zero_add, nI_leI, nI_ltI, nI_eq, nI_neM, M_neI, nI_ltM, nI_nltM, M_ltI, M_leI, nI_nleM, bnd_some, if_pos, if_neg, dif_t, dif_f, rA_y hC.1 ha hx, acT_l, ck_i hsh, im_C hC.1 ha, if_pos h8]
        rfl
      · have r8 := (rm hw.1.1 ha hx).2.2.2.2.2.1
        unfold fX7_leave bX7_leave_28
        simp (disch := omega) only [↓jM_e, li_0, li_1, li_2, li_3, li_4, li_5, li_6, li_7, li_8, li_9, li_10, li_13, li_14, li_15, li_16, li_31, li_35, li_47, li_48, li_49, li_50, li_57, li_99, li_100, li_126, li_139, li_140, li_149, li_150, li_280, li_284, li_285, li_290, li_434, li_1260, li_3472, li_9999, li_65536, nm, nm_w, sf_w, cp_w, ld_I, sa_I, nI_add, pk_mul, Nat.zero_add, nI_leI, nI_ltI, nI_eq, nI_neM, M_neI, nI_ltM, nI_nltM, M_ltI, M_leI, nI_nleM, bnd_some, if_pos, if_neg, dif_t, dif_f, ya_M hw.1.1 ha hx, at_M ha (show 6 < 9 by decide), r8, h8, show (nI 0 ≤ jM) = False from by decide, s2_i]
    · obtain ⟨l, hl, el, -⟩ := ((hI.1.2.2.2.1 a ha hx).2.2.2).resolve_left h8
      refine fin_ch (S' := s2 W.1 8 a jM) (x' := ((W.1 8 a).toInt64, x.2)) hC hM hI (K := K) (by omega) (iS_8 hI.1) (fun r1 v1 k1 e1 g1 => ⟨r1, s2 v1 10 a jM, k1, ?_, ?_, ?_⟩) (fun w w1 hw e1 g1 q5 => ?_)
      · have e12 : v1 10 a = W.1 8 a := rc8 g1.1 ha
        unfold fL_leave fX6_leave
        simp (disch := omega) only [↓jM_e, li_0, li_1, li_2, li_3, li_4, li_5, li_6, li_7, li_8, li_9, li_10, li_13, li_14, li_15, li_16, li_31, li_35, li_47, li_48, li_49, li_50, li_57, li_99, li_100, li_126, li_139, li_140, li_149, li_150, li_280, li_284, li_285, li_290, li_434, li_1260, li_3472, li_9999, li_65536, nm, nm_w, sf_w, cp_w, ld_I, sa_I, nI_add, pk_mul, Nat.zero_add, nI_leI, nI_ltI, nI_eq, nI_neM, M_neI, nI_ltM, nI_nltM, M_ltI, M_leI, nI_nleM, bnd_some, if_pos, if_neg, dif_t, dif_f, rA_y hC.1 ha hx, acT_l, ck_i hsh, im_C hC.1 ha, if_neg h8, e1, ck_i g1.2.1.1, e12]
        rfl
      · exact CW_w g1 (rcS (j := 8) g1.1 (by decide)) (coS_s2 (by decide)) (fun p hp => s2_ne (by omega))
      · exact fun p p1 p2 => s2_ne (by omega)
      · have r8 := (rm hw.1.1 ha hx).2.2.2.2.2.1
        have r8' := (rm g1.1.1 ha hx).2.2.2.2.2.1
        have r8' : w1 158 (290 + 9 * a + 6) = W.1 8 a := r8'
        unfold fX7_leave bX7_leave_28
        simp (disch := omega) only [↓jM_e, li_0, li_1, li_2, li_3, li_4, li_5, li_6, li_7, li_8, li_9, li_10, li_13, li_14, li_15, li_16, li_31, li_35, li_47, li_48, li_49, li_50, li_57, li_99, li_100, li_126, li_139, li_140, li_149, li_150, li_280, li_284, li_285, li_290, li_434, li_1260, li_3472, li_9999, li_65536, nm, nm_w, sf_w, cp_w, ld_I, sa_I, nI_add, pk_mul, Nat.zero_add, nI_leI, nI_ltI, nI_eq, nI_neM, M_neI, nI_ltM, nI_nltM, M_ltI, M_leI, nI_nleM, bnd_some, if_pos, if_neg, dif_t, dif_f, ya_M hw.1.1 ha hx, at_M ha (show 6 < 9 by decide), r8, el, s2_i, e1, r8', pt_M ha (show 6 < 9 by decide)]
        rw [← el]
        exact ⟨_, _, rfl, rfl, mI_s2 g1.1 (coS_s2 (by decide)) (rmUa (k := 6) g1.1.1 ha (by decide) hx (fun e => by cases e) (fun _ => rfl)), frN_s2⟩
theorem cnC_loop {S : aS} (h : RelC 1 S v) {g : Nat} (hg : g < 4) (hK : 16 < K) : fx5 (gX6_dropGoal_34 K (nI g)) K (nI 0) (nI 0) r v n = some (Sum.inl (nI (cnI (fun a => exS S a && decide (S 4 a = nI g)) 16)), r, v, 0) := by
  refine fx5_go (P := fun t x1 x2 r' v' n' => x2 = nI t ∧ x1 = nI (cnI (fun a => exS S a && decide (S 4 a = nI g)) t) ∧ r' = r ∧ v' = v ∧ n' = n) (Q := fun o => o = some (Sum.inl (nI (cnI (fun a => exS S a && decide (S 4 a = nI g)) 16)), r, v, 0)) (N := 16) ?_ ⟨rfl, rfl, rfl, rfl, rfl⟩ hK
  intro t x1 x2 r' v' n' ht ⟨e1, e2, e3, e4, e5⟩ k hk
  subst e1 e2 e3 e4 e5
  unfold gX6_dropGoal_34
  by_cases ht1 : t = 16
  · subst ht1
    simp (disch := omega) only [↓jM_e, li_0, li_1, li_2, li_3, li_4, li_5, li_6, li_7, li_8, li_9, li_10, li_13, li_14, li_15, li_16, li_31, li_35, li_47, li_48, li_49, li_50, li_57, li_99, li_100, li_126, li_139, li_140, li_149, li_150, li_280, li_284, li_285, li_290, li_434, li_1260, li_3472, li_9999, li_65536, nm, nm_w, sf_w, cp_w, ld_I, sa_I, nI_add, pk_mul, Nat.zero_add, nI_leI, nI_ltI, nI_eq, nI_neM, M_neI, nI_ltM, nI_nltM, M_ltI, M_leI, nI_nleM, bnd_some, if_pos, if_neg, dif_t, dif_f]
  · have ht2 : t < 16 := by omega
    have hs : cnI (fun a => exS S a && decide (S 4 a = nI g)) (t + 1) = cnI (fun a => exS S a && decide (S 4 a = nI g)) t + (if (exS S t && decide (S 4 t = nI g)) = true then 1 else 0) := rfl
    by_cases hx : exS S t = true
    · have e4 : v' 6 t = S 4 t := rc4 h ht2
      by_cases hp : S 4 t = nI g
      · simp (disch := omega) only [↓jM_e, li_0, li_1, li_2, li_3, li_4, li_5, li_6, li_7, li_8, li_9, li_10, li_13, li_14, li_15, li_16, li_31, li_35, li_47, li_48, li_49, li_50, li_57, li_99, li_100, li_126, li_139, li_140, li_149, li_150, li_280, li_284, li_285, li_290, li_434, li_1260, li_3472, li_9999, li_65536, nm, nm_w, sf_w, cp_w, ld_I, sa_I, nI_add, pk_mul, Nat.zero_add, nI_leI, nI_ltI, nI_eq, nI_neM, M_neI, nI_ltM, nI_nltM, M_ltI, M_leI, nI_nleM, bnd_some, if_pos, if_neg, dif_t, dif_f, ex_C h ht2, if_pos hx, e4, if_pos hp]
        exact hk ht2 _ _ _ _ _ ⟨rfl, by rw [hs, if_pos (by simp [hx, hp])], rfl, rfl, rfl⟩
      · simp (disch := omega) only [↓jM_e, li_0, li_1, li_2, li_3, li_4, li_5, li_6, li_7, li_8, li_9, li_10, li_13, li_14, li_15, li_16, li_31, li_35, li_47, li_48, li_49, li_50, li_57, li_99, li_100, li_126, li_139, li_140, li_149, li_150, li_280, li_284, li_285, li_290, li_434, li_1260, li_3472, li_9999, li_65536, nm, nm_w, sf_w, cp_w, ld_I, sa_I, nI_add, pk_mul, Nat.zero_add, nI_leI, nI_ltI, nI_eq, nI_neM, M_neI, nI_ltM, nI_nltM, M_ltI, M_leI, nI_nleM, bnd_some, if_pos, if_neg, dif_t, dif_f, ex_C h ht2, if_pos hx, e4, if_neg hp]
        exact hk ht2 _ _ _ _ _ ⟨rfl, by rw [hs, if_neg (by simp [hp])]; rfl, rfl, rfl, rfl⟩
    · simp (disch := omega) only [↓jM_e, li_0, li_1, li_2, li_3, li_4, li_5, li_6, li_7, li_8, li_9, li_10, li_13, li_14, li_15, li_16, li_31, li_35, li_47, li_48, li_49, li_50, li_57, li_99, li_100, li_126, li_139, li_140, li_149, li_150, li_280, li_284, li_285, li_290, li_434, li_1260, li_3472, li_9999, li_65536, nm, nm_w, sf_w, cp_w, ld_I, sa_I, nI_add, pk_mul, Nat.zero_add, nI_leI, nI_ltI, nI_eq, nI_neM, M_neI, nI_ltM, nI_nltM, M_ltI, M_leI, nI_nleM, bnd_some, if_pos, if_neg, dif_t, dif_f, ex_C h ht2, if_neg hx]
      exact hk ht2 _ _ _ _ _ ⟨rfl, by rw [hs, if_neg (by simp [hx])]; rfl, rfl, rfl, rfl⟩
theorem cnM_loop {S : aS} (h : RelM S (v 158)) {g : Nat} (hg : g < 4) (hK : 16 < K) : fx2 (gX7_dropGoal_61 K (nI g) v) K (nI 0) (nI 0) = some (nI (cnI (fun a => exS S a && decide (S 4 a = nI g)) 16), v) := by
  refine fx2_go (P := fun t x1 x2 => x2 = nI t ∧ x1 = nI (cnI (fun a => exS S a && decide (S 4 a = nI g)) t)) (Q := fun o => o = some (nI (cnI (fun a => exS S a && decide (S 4 a = nI g)) 16), v)) (N := 16) ?_ ⟨rfl, rfl⟩ hK
  intro t x1 x2 ht ⟨e1, e2⟩ k hk
  subst e1 e2
  unfold gX7_dropGoal_61
  by_cases ht1 : t = 16
  · subst ht1
    simp (disch := omega) only [↓jM_e, li_0, li_1, li_2, li_3, li_4, li_5, li_6, li_7, li_8, li_9, li_10, li_13, li_14, li_15, li_16, li_31, li_35, li_47, li_48, li_49, li_50, li_57, li_99, li_100, li_126, li_139, li_140, li_149, li_150, li_280, li_284, li_285, li_290, li_434, li_1260, li_3472, li_9999, li_65536, nm, nm_w, sf_w, cp_w, ld_I, sa_I, nI_add, pk_mul, Nat.zero_add, nI_leI, nI_ltI, nI_eq, nI_neM, M_neI, nI_ltM, nI_nltM, M_ltI, M_leI, nI_nleM, bnd_some, if_pos, if_neg, dif_t, dif_f]
  · have ht2 : t < 16 := by omega
    have hs : cnI (fun a => exS S a && decide (S 4 a = nI g)) (t + 1) = cnI (fun a => exS S a && decide (S 4 a = nI g)) t + (if (exS S t && decide (S 4 t = nI g)) = true then 1 else 0) := rfl
    by_cases hx : exS S t = true
    · have r2 := (rm h ht2 (by rw [exS_t] at hx; exact hx)).2.1
      by_cases hp : S 4 t = nI g
      · simp (disch := omega) only [↓jM_e, li_0, li_1, li_2, li_3, li_4, li_5, li_6, li_7, li_8, li_9, li_10, li_13, li_14, li_15, li_16, li_31, li_35, li_47, li_48, li_49, li_50, li_57, li_99, li_100, li_126, li_139, li_140, li_149, li_150, li_280, li_284, li_285, li_290, li_434, li_1260, li_3472, li_9999, li_65536, nm, nm_w, sf_w, cp_w, ld_I, sa_I, nI_add, pk_mul, Nat.zero_add, nI_leI, nI_ltI, nI_eq, nI_neM, M_neI, nI_ltM, nI_nltM, M_ltI, M_leI, nI_nleM, bnd_some, if_pos, if_neg, dif_t, dif_f, ex_M h ht2, if_pos hx, at_M ht2 (show 2 < 9 by decide), r2, if_pos hp]
        exact hk ht2 _ _ ⟨rfl, by rw [hs, if_pos (by simp [hx, hp])]⟩
      · simp (disch := omega) only [↓jM_e, li_0, li_1, li_2, li_3, li_4, li_5, li_6, li_7, li_8, li_9, li_10, li_13, li_14, li_15, li_16, li_31, li_35, li_47, li_48, li_49, li_50, li_57, li_99, li_100, li_126, li_139, li_140, li_149, li_150, li_280, li_284, li_285, li_290, li_434, li_1260, li_3472, li_9999, li_65536, nm, nm_w, sf_w, cp_w, ld_I, sa_I, nI_add, pk_mul, Nat.zero_add, nI_leI, nI_ltI, nI_eq, nI_neM, M_neI, nI_ltM, nI_nltM, M_ltI, M_leI, nI_nleM, bnd_some, if_pos, if_neg, dif_t, dif_f, ex_M h ht2, if_pos hx, at_M ht2 (show 2 < 9 by decide), r2, if_neg hp]
        exact hk ht2 _ _ ⟨rfl, by rw [hs, if_neg (by simp [hp])]⟩
    · simp (disch := omega) only [↓jM_e, li_0, li_1, li_2, li_3, li_4, li_5, li_6, li_7, li_8, li_9, li_10, li_13, li_14, li_15, li_16, li_31, li_35, li_47, li_48, li_49, li_50, li_57, li_99, li_100, li_126, li_139, li_140, li_149, li_150, li_280, li_284, li_285, li_290, li_434, li_1260, li_3472, li_9999, li_65536, nm, nm_w, sf_w, cp_w, ld_I, sa_I, nI_add, pk_mul, Nat.zero_add, nI_leI, nI_ltI, nI_eq, nI_neM, M_neI, nI_ltM, nI_nltM, M_ltI, M_leI, nI_nleM, bnd_some, if_pos, if_neg, dif_t, dif_f, ex_M h ht2, if_neg hx]
      exact hk ht2 _ _ ⟨rfl, by rw [hs, if_neg (by simp [hx])]⟩
theorem arg_g (x1 : Int32) : (x1 < nI 0 ∨ nI 4 ≤ x1) ∨ ∃ g, g < 4 ∧ x1 = nI g := by
  rcases pk_ix x1 (n := 4) (by decide) with h | h | h
  · exact Or.inl (Or.inl h)
  · exact Or.inl (Or.inr h)
  · exact Or.inr h
theorem rG_n {x1 : Int32} (h : x1 < nI 0 ∨ nI 4 ≤ x1) : fX6_requireGoal x1 r v n = some (Sum.inr 1, r, v, 0) := by
  unfold fX6_requireGoal
  simp only [↓jM_e, li_0, li_1, li_2, li_3, li_4, li_5, li_6, li_7, li_8, li_9, li_10, li_13, li_14, li_15, li_16, li_31, li_35, li_47, li_48, li_49, li_50, li_57, li_99, li_100, li_126, li_139, li_140, li_149, li_150, li_280, li_284, li_285, li_290, li_434, li_1260, li_3472, li_9999, li_65536]
  by_cases h0 : x1 < nI 0
  · rw [if_pos h0]
  · rw [if_neg h0, if_neg (Int32.not_lt.mpr (h.resolve_left h0))]
theorem rG_y {g : Nat} (hg : g < 4) : fX6_requireGoal (nI g) r v n = some (Sum.inl (), r, v, 0) := by
  unfold fX6_requireGoal
  simp (disch := omega) only [↓jM_e, li_0, li_1, li_2, li_3, li_4, li_5, li_6, li_7, li_8, li_9, li_10, li_13, li_14, li_15, li_16, li_31, li_35, li_47, li_48, li_49, li_50, li_57, li_99, li_100, li_126, li_139, li_140, li_149, li_150, li_280, li_284, li_285, li_290, li_434, li_1260, li_3472, li_9999, li_65536, nm, nm_w, sf_w, cp_w, ld_I, sa_I, nI_add, pk_mul, Nat.zero_add, nI_leI, nI_ltI, nI_eq, nI_neM, M_neI, nI_ltM, nI_nltM, M_ltI, M_leI, nI_nleM, bnd_some, if_pos, if_neg, dif_t, dif_f]
theorem iG_n {x1 : Int32} (h : x1 < nI 0 ∨ nI 4 ≤ x1) : fX7_isGoal x1 = some (nI 0) := by
  have hp : (x1 ≤ nI 3) = ¬ (nI 4 ≤ x1) := le_pred (n := 3) (by decide)
  have h1 : ¬ (nI 0 ≤ x1 ∧ x1 ≤ nI 3) := fun g => h.elim (fun q => Int32.not_le.mpr q g.1) (fun q => by rw [hp] at g; exact g.2 q)
  unfold fX7_isGoal ckz
  simp (disch := omega) only [↓jM_e, li_0, li_1, li_2, li_3, li_4, li_5, li_6, li_7, li_8, li_9, li_10, li_13, li_14, li_15, li_16, li_31, li_35, li_47, li_48, li_49, li_50, li_57, li_99, li_100, li_126, li_139, li_140, li_149, li_150, li_280, li_284, li_285, li_290, li_434, li_1260, li_3472, li_9999, li_65536, nm, nm_w, sf_w, cp_w, ld_I, sa_I, nI_add, pk_mul, Nat.zero_add, nI_leI, nI_ltI, nI_eq, nI_neM, M_neI, nI_ltM, nI_nltM, M_ltI, M_leI, nI_nleM, bnd_some, if_pos, if_neg, dif_t, dif_f, ii_M, if_neg h1]
  rw [if_pos (by decide)]
theorem iG_y {g : Nat} (hg : g < 4) : fX7_isGoal (nI g) = some (nI 1) := by
  unfold fX7_isGoal ckz
  simp (disch := omega) only [↓jM_e, li_0, li_1, li_2, li_3, li_4, li_5, li_6, li_7, li_8, li_9, li_10, li_13, li_14, li_15, li_16, li_31, li_35, li_47, li_48, li_49, li_50, li_57, li_99, li_100, li_126, li_139, li_140, li_149, li_150, li_280, li_284, li_285, li_290, li_434, li_1260, li_3472, li_9999, li_65536, nm, nm_w, sf_w, cp_w, ld_I, sa_I, nI_add, pk_mul, Nat.zero_add, nI_leI, nI_ltI, nI_eq, nI_neM, M_neI, nI_ltM, nI_nltM, M_ltI, M_leI, nI_nleM, bnd_some, if_pos, if_neg, dif_t, dif_f, ii_M]
  rw [if_pos (by decide)]
theorem iS_2 {S : aS} {g : Nat} {y : Int32} (h : iS B S) (hy : y = jM ∨ isC S y) : iS B (s2 S 2 g y) := by
  have hs : ∀ j', j' ≠ 2 → s2 S 2 g y j' = S j' := fun j' h => s2_ne h
  have hco : coS (s2 S 2 g y) = coS S := coS_s2 (by decide)
  have hC : ∀ z, isC (s2 S 2 g y) z = isC S z := fun z => by unfold isC; rw [hco]
  obtain ⟨h1, h2, h3, h4, h5, h6⟩ := h
  unfold iS
  rw [hco, hs 0 (by omega), hs 1 (by omega), hs 3 (by omega), hs 4 (by omega), hs 5 (by omega), hs 6 (by omega), hs 8 (by omega)]
  simp only [hC]
  refine ⟨h1, fun g' hg' => ?_, h3, h4, h5, h6⟩
  by_cases hgg : g' = g
  · rw [hgg, s2_i]; exact hy
  · rw [s2_j hgg]; exact h2 g' hg'
theorem a_3 (x1 : Int32) (hC : CW W r v n) (hM : MW W v) (hI : IW B W) (hK : 400000 < K) : OUT B (fL_dropGoal K x1 r v n x) (fX7_dropGoal K x1) PI n := by
  have hsh := hC.2.1.1
  rcases arg_g x1 with hn | ⟨g, hg, rfl⟩
  · refine fin_thr hC hM hI (code := 1) (z := nI 0) (x' := x) (by decide) ?_ (fun w hw => ?_)
    · unfold fL_dropGoal fX6_dropGoal
      simp (disch := omega) only [↓jM_e, li_0, li_1, li_2, li_3, li_4, li_5, li_6, li_7, li_8, li_9, li_10, li_13, li_14, li_15, li_16, li_31, li_35, li_47, li_48, li_49, li_50, li_57, li_99, li_100, li_126, li_139, li_140, li_149, li_150, li_280, li_284, li_285, li_290, li_434, li_1260, li_3472, li_9999, li_65536, nm, nm_w, sf_w, cp_w, ld_I, sa_I, nI_add, pk_mul, Nat.zero_add, nI_leI, nI_ltI, nI_eq, nI_neM, M_neI, nI_ltM, nI_nltM, M_ltI, M_leI, nI_nleM, bnd_some, if_pos, if_neg, dif_t, dif_f, rG_n hn, acT_r]
      rfl
    · unfold fX7_dropGoal bX7_dropGoal_30
      simp (disch := omega) only [↓jM_e, li_0, li_1, li_2, li_3, li_4, li_5, li_6, li_7, li_8, li_9, li_10, li_13, li_14, li_15, li_16, li_31, li_35, li_47, li_48, li_49, li_50, li_57, li_99, li_100, li_126, li_139, li_140, li_149, li_150, li_280, li_284, li_285, li_290, li_434, li_1260, li_3472, li_9999, li_65536, nm, nm_w, sf_w, cp_w, ld_I, sa_I, nI_add, pk_mul, Nat.zero_add, nI_leI, nI_ltI, nI_eq, nI_neM, M_neI, nI_ltM, nI_nltM, M_ltI, M_leI, nI_nleM, bnd_some, if_pos, if_neg, dif_t, dif_f, iG_n hn, s2_i]
  · have r2C : v 4 g = W.1 2 g := rc2 hC.1 hg
    have hix : 280 + g < 434 := by omega
    by_cases h2 : W.1 2 g = jM
    · refine fin_thr hC hM hI (code := 2) (z := nI 0) (x' := x) (by decide) ?_ (fun w hw => ?_)
      · unfold fL_dropGoal fX6_dropGoal fX6_requireSetGoal
        simp (disch := omega) only [↓jM_e, li_0, li_1, li_2, li_3, li_4, li_5, li_6, li_7, li_8, li_9, li_10, li_13, li_14, li_15, li_16, li_31, li_35, li_47, li_48, li_49, li_50, li_57, li_99, li_100, li_126, li_139, li_140, li_149, li_150, li_280, li_284, li_285, li_290, li_434, li_1260, li_3472, li_9999, li_65536, nm, nm_w, sf_w, cp_w, ld_I, sa_I, nI_add, pk_mul, Nat.zero_add, nI_leI, nI_ltI, nI_eq, nI_neM, M_neI, nI_ltM, nI_nltM, M_ltI, M_leI, nI_nleM, bnd_some, if_pos, if_neg, dif_t, dif_f, rG_y hg, acT_l, acT_r, ck_i hsh, r2C, if_pos h2]
        rfl
      · have r2 := hw.1.1.2.2.1 g hg
        unfold fX7_dropGoal bX7_dropGoal_30
        simp (disch := omega) only [↓jM_e, li_0, li_1, li_2, li_3, li_4, li_5, li_6, li_7, li_8, li_9, li_10, li_13, li_14, li_15, li_16, li_31, li_35, li_47, li_48, li_49, li_50, li_57, li_99, li_100, li_126, li_139, li_140, li_149, li_150, li_280, li_284, li_285, li_290, li_434, li_1260, li_3472, li_9999, li_65536, nm, nm_w, sf_w, cp_w, ld_I, sa_I, nI_add, pk_mul, Nat.zero_add, nI_leI, nI_ltI, nI_eq, nI_neM, M_neI, nI_ltM, nI_nltM, M_ltI, M_leI, nI_nleM, bnd_some, if_pos, if_neg, dif_t, dif_f, iG_y hg, r2, h2, show (nI 0 ≤ jM) = False from by decide, s2_i]
    · obtain ⟨c, hc, ec, -⟩ := (hI.1.2.1 g hg).resolve_left h2
      refine fin_ch (S' := s2 W.1 2 g jM) (x' := ((nI (cnI (fun a => exS (s2 W.1 2 g jM) a && decide (s2 W.1 2 g jM 4 a = nI g)) 16)).toInt64, x.2)) hC hM hI (K := K) (by omega) (iS_2 hI.1 (Or.inl rfl)) (fun r1 v1 k1 e1 g1 => ⟨r1, s2 v1 4 g jM, k1, ?_, ?_, ?_⟩) (fun w w1 hw e1 g1 q5 => ?_)
      · have hr := rcS (j := 2) (i := g) (x := jM) g1.1 (by decide)
        unfold fL_dropGoal fX6_dropGoal fX6_requireSetGoal
        simp (disch := omega) only [↓jM_e, li_0, li_1, li_2, li_3, li_4, li_5, li_6, li_7, li_8, li_9, li_10, li_13, li_14, li_15, li_16, li_31, li_35, li_47, li_48, li_49, li_50, li_57, li_99, li_100, li_126, li_139, li_140, li_149, li_150, li_280, li_284, li_285, li_290, li_434, li_1260, li_3472, li_9999, li_65536, nm, nm_w, sf_w, cp_w, ld_I, sa_I, nI_add, pk_mul, Nat.zero_add, nI_leI, nI_ltI, nI_eq, nI_neM, M_neI, nI_ltM, nI_nltM, M_ltI, M_leI, nI_nleM, bnd_some, if_pos, if_neg, dif_t, dif_f, rG_y hg, acT_l, acT_r, ck_i hsh, r2C, if_neg h2, e1, ck_i g1.2.1.1, cnC_loop hr hg (show 16 < K by omega)]
        rfl
      · exact CW_w g1 (rcS (j := 2) g1.1 (by decide)) (coS_s2 (by decide)) (fun p hp => s2_ne (by omega))
      · exact fun p p1 p2 => s2_ne (by omega)
      · have r2 := hw.1.1.2.2.1 g hg
        have hm : mI (s2 W.1 2 g jM) (s2 w1 158 (280 + g) jM) := mI_s2 g1.1 (coS_s2 (by decide)) (rmU2 g1.1.1 hg)
        unfold fX7_dropGoal bX7_dropGoal_30
        simp (disch := omega) only [↓jM_e, li_0, li_1, li_2, li_3, li_4, li_5, li_6, li_7, li_8, li_9, li_10, li_13, li_14, li_15, li_16, li_31, li_35, li_47, li_48, li_49, li_50, li_57, li_99, li_100, li_126, li_139, li_140, li_149, li_150, li_280, li_284, li_285, li_290, li_434, li_1260, li_3472, li_9999, li_65536, nm, nm_w, sf_w, cp_w, ld_I, sa_I, nI_add, pk_mul, Nat.zero_add, nI_leI, nI_ltI, nI_eq, nI_neM, M_neI, nI_ltM, nI_nltM, M_ltI, M_leI, nI_nleM, bnd_some, if_pos, if_neg, dif_t, dif_f, iG_y hg, r2, ec, s2_i, e1, cnM_loop hm.1 hg (show 16 < K by omega)]
        exact ⟨_, _, rfl, rfl, hm, frN_s2⟩
end
