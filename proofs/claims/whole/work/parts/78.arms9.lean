/-! add -/
section
variable {v : sV} {K n : Nat} {r : sR} {W : aW} {B : Nat} {x : Int64 × UInt64}
theorem gn_C {y : Int32} : fX6_isGoalOrNone y = some (if jM ≤ y ∧ y ≤ nI 3 then nI 1 else nI 0) := by
  have hp : (y ≤ nI 3) = ¬ (nI 4 ≤ y) := le_pred (n := 3) (by decide)
  unfold fX6_isGoalOrNone
  simp only [↓jM_e, li_0, li_1, li_2, li_3, li_4, li_5, li_6, li_7, li_8, li_9, li_10, li_13, li_14, li_15, li_16, li_31, li_35, li_47, li_48, li_49, li_50, li_57, li_99, li_100, li_126, li_139, li_140, li_149, li_150, li_280, li_284, li_285, li_290, li_434, li_1260, li_3472, li_9999, li_65536]
  by_cases h0 : y < jM
  · rw [if_pos h0, if_neg (fun g => Int32.not_le.mpr h0 g.1)]
  · rw [if_neg h0]
    by_cases h9 : nI 4 ≤ y
    · rw [if_pos h9, if_neg (fun g => by rw [hp] at g; exact g.2 h9)]
    · rw [if_neg h9, if_pos ⟨Int32.not_lt.mp h0, by rw [hp]; exact h9⟩]
theorem pr_C {y : Int32} : fX6_isPriority y = some (if nI 0 ≤ y ∧ y ≤ nI 9 then nI 1 else nI 0) := by
  unfold fX6_isPriority
  simp only [↓jM_e, li_0, li_1, li_2, li_3, li_4, li_5, li_6, li_7, li_8, li_9, li_10, li_13, li_14, li_15, li_16, li_31, li_35, li_47, li_48, li_49, li_50, li_57, li_99, li_100, li_126, li_139, li_140, li_149, li_150, li_280, li_284, li_285, li_290, li_434, li_1260, li_3472, li_9999, li_65536]
  by_cases h0 : y < nI 0
  · rw [if_pos h0, if_neg (fun g => Int32.not_le.mpr h0 g.1)]
  · rw [if_neg h0]
    by_cases h9 : nI 9 < y
    · rw [if_pos h9, if_neg (fun g => Int32.not_le.mpr h9 g.2)]
    · rw [if_neg h9, if_pos ⟨Int32.not_lt.mp h0, Int32.not_lt.mp h9⟩]
theorem gn_v {y : Int32} (h : jM ≤ y ∧ y ≤ nI 3) : y = jM ∨ ∃ g, g < 4 ∧ y = nI g := by
  have hp : (y ≤ nI 3) = ¬ (nI 4 ≤ y) := le_pred (n := 3) (by decide)
  rcases pk_ix y (n := 4) (by decide) with h0 | h4 | h1
  · left
    apply Int32.toInt_inj.mp
    have a1 := Int32.le_iff_toInt_le.mp h.1
    have a2 := Int32.lt_iff_toInt_lt.mp h0
    rw [M_toInt] at a1 ⊢
    have : (0 : Int32).toInt = 0 := by decide
    omega
  · rw [hp] at h
    exact absurd h4 h.2
  · exact Or.inr h1
theorem pr_v {y : Int32} (h : nI 0 ≤ y ∧ y ≤ nI 9) : ∃ p, p < 10 ∧ y = nI p := by
  have hp : (y ≤ nI 9) = ¬ (nI 10 ≤ y) := le_pred (n := 9) (by decide)
  rw [hp] at h
  exact in_nI (Int32.not_lt.mpr h.1) h.2 (by decide)
theorem pl_C {S : aS} {b a q : Nat} {x3 x4 : Int32} (h : RelC b S v) (ha : a < 16) : ∃ v', fX5_place b (nI a) (nI q) x3 x4 v = some v' ∧ RelC b (plS S a q x3 x4) v' ∧ ∀ p, ¬ (b ≤ p ∧ p < b + 13) → v' p = v p := by
  refine ⟨s2 (s2 (s2 (s2 (s2 (s2 v (b + 4) a (nI q)) (b + 5) a x3) (b + 6) a x4) (b + 7) a (nI 0)) (b + 8) a (nI 0)) (b + 9) a jM, ?_, rcS (j := 8) (rcS (j := 7) (rcS (j := 6) (rcS (j := 5) (rcS (j := 4) (rcS (j := 3) h (by decide)) (by decide)) (by decide)) (by decide)) (by decide)) (by decide), fun p hp => ?_⟩
  · unfold fX5_place
    simp (disch := omega) only [↓jM_e, li_0, li_1, li_2, li_3, li_4, li_5, li_6, li_7, li_8, li_9, li_10, li_13, li_14, li_15, li_16, li_31, li_35, li_47, li_48, li_49, li_50, li_57, li_99, li_100, li_126, li_139, li_140, li_149, li_150, li_280, li_284, li_285, li_290, li_434, li_1260, li_3472, li_9999, li_65536, nm, nm_w, sf_w, cp_w, ld_I, sa_I, nI_add, pk_mul, Nat.zero_add, nI_leI, nI_ltI, nI_eq, nI_neM, M_neI, nI_ltM, nI_nltM, M_ltI, M_leI, nI_nleM, bnd_some, if_pos, if_neg, dif_t, dif_f]
  · rw [s2_ne (by omega), s2_ne (by omega), s2_ne (by omega), s2_ne (by omega), s2_ne (by omega), s2_ne (by omega)]
theorem ad_M {S : aS} {w1 : sV} {a q : Nat} {x3 x4 : Int32} (h : mI S w1) (hl : loU S = some a) (hq : q < 140) (hK : 16 < K) : ∃ w2, fx1 (gX7_add_109 K x3 x4 (nI q) w1) K (nI 0) = some (nI a, w2) ∧ mI (plS S a q x3 x4) w2 ∧ frN w1 w2 := by
  have ha : a < 16 := by
    obtain ⟨-, -, g3, -⟩ := ffI_s hl
    omega
  have hz : ∃ w2, fx2 (gX7_add_127 K x3 x4 (nI q) (nI a)) K (nI 0) w1 = some (nI a, w2) ∧ mI (plS S a q x3 x4) w2 ∧ frN w1 w2 := by
    refine fx2_go (P := fun t x7 (w : sV) => x7 = nI t ∧ (∀ p, p ≠ 158 → w p = w1 p) ∧ (∀ j, (j < 290 + 9 * a ∨ 290 + 9 * a + 9 ≤ j) → w 158 j = w1 158 j) ∧ ∀ m, m < t → w 158 (290 + 9 * a + m) = nI 0) (Q := fun o => ∃ w2, o = some (nI a, w2) ∧ mI (plS S a q x3 x4) w2 ∧ frN w1 w2) (N := 9) ?_ ⟨rfl, fun _ _ => rfl, fun _ _ => rfl, fun m hm => absurd hm (Nat.not_lt_zero m)⟩ (by omega)
    intro t x7 w ht ⟨e7, h1, h2, h3⟩ k hk
    subst e7
    unfold gX7_add_127
    by_cases ht9 : t = 9
    · subst ht9
      simp (disch := omega) only [↓jM_e, li_0, li_1, li_2, li_3, li_4, li_5, li_6, li_7, li_8, li_9, li_10, li_13, li_14, li_15, li_16, li_31, li_35, li_47, li_48, li_49, li_50, li_57, li_99, li_100, li_126, li_139, li_140, li_149, li_150, li_280, li_284, li_285, li_290, li_434, li_1260, li_3472, li_9999, li_65536, nm, nm_w, sf_w, cp_w, ld_I, sa_I, nI_add, pk_mul, Nat.zero_add, nI_leI, nI_ltI, nI_eq, nI_neM, M_neI, nI_ltM, nI_nltM, M_ltI, M_leI, nI_nleM, bnd_some, if_pos, if_neg, dif_t, dif_f, pt_M ha (show 0 < 9 by decide), pt_M ha (show 1 < 9 by decide), pt_M ha (show 2 < 9 by decide), pt_M ha (show 3 < 9 by decide), pt_M ha (show 6 < 9 by decide)]
      have hco : coS (plS S a q x3 x4) = coS S := by
        funext i
        unfold coS
        rw [plS_o (by omega)]
      refine ⟨_, rfl, ⟨?_, ?_⟩, ?_⟩
      · rw [s2_upd, s2_upd, s2_upd, s2_upd, s2_upd]
        refine rmP h.1 ha hq (fun j hj => ?_) ?_ ?_ ?_ ?_ ?_ ?_ ?_
        · rw [pk_un (by omega), pk_un (by omega), pk_un (by omega), pk_un (by omega), pk_un (by omega)]
          exact h2 j hj
        · rw [pk_un (by omega), pk_un (by omega), pk_un (by omega), pk_un (by omega), pk_us]
        · rw [pk_un (by omega), pk_un (by omega), pk_un (by omega), pk_us]
        · rw [pk_un (by omega), pk_un (by omega), pk_us]
        · rw [pk_un (by omega), pk_us]
        · rw [pk_un (by omega), pk_un (by omega), pk_un (by omega), pk_un (by omega), pk_un (by omega)]
          exact h3 4 (by decide)
        · rw [pk_un (by omega), pk_un (by omega), pk_un (by omega), pk_un (by omega), pk_un (by omega)]
          exact h3 5 (by decide)
        · rw [pk_us]
      · rw [hco]
        exact cacM_v h.2 (by rw [s2_ne (by decide), s2_ne (by decide), s2_ne (by decide), s2_ne (by decide), s2_ne (by decide)]; exact h1 164 (by decide)) (by rw [s2_ne (by decide), s2_ne (by decide), s2_ne (by decide), s2_ne (by decide), s2_ne (by decide)]; exact h1 162 (by decide))
      · intro p p1 _ _ _ _
        rw [s2_ne p1, s2_ne p1, s2_ne p1, s2_ne p1, s2_ne p1]
        exact h1 p p1
    · have hlt : t < 9 := by omega
      simp (disch := omega) only [↓jM_e, li_0, li_1, li_2, li_3, li_4, li_5, li_6, li_7, li_8, li_9, li_10, li_13, li_14, li_15, li_16, li_31, li_35, li_47, li_48, li_49, li_50, li_57, li_99, li_100, li_126, li_139, li_140, li_149, li_150, li_280, li_284, li_285, li_290, li_434, li_1260, li_3472, li_9999, li_65536, nm, nm_w, sf_w, cp_w, ld_I, sa_I, nI_add, pk_mul, Nat.zero_add, nI_leI, nI_ltI, nI_eq, nI_neM, M_neI, nI_ltM, nI_nltM, M_ltI, M_leI, nI_nleM, bnd_some, if_pos, if_neg, dif_t, dif_f, pt_M ha hlt]
      refine hk hlt _ _ ⟨rfl, fun p hp => by rw [s2_ne hp]; exact h1 p hp, fun j hj => ?_, fun m hm => ?_⟩
      · rw [s2_upd, pk_un (by omega)]
        exact h2 j hj
      · rw [s2_upd]
        by_cases hmt : m = t
        · rw [hmt, pk_us]
        · rw [pk_un (by omega)]
          exact h3 m (by omega)
  refine fx1_go (P := fun t y => y = nI t ∧ t ≤ a) (Q := fun o => ∃ w2, o = some (nI a, w2) ∧ mI (plS S a q x3 x4) w2 ∧ frN w1 w2) (N := a) ?_ ⟨rfl, Nat.zero_le a⟩ (by omega)
  intro t y ht ⟨e1, _⟩ k hk
  subst e1
  unfold gX7_add_109
  have h16 : t < 16 := by omega
  by_cases hta : t = a
  · subst hta
    have hx : ¬ exS S t = true := by
      obtain ⟨g1, -⟩ := ffI_s hl
      simpa using g1
    simp (disch := omega) only [↓jM_e, li_0, li_1, li_2, li_3, li_4, li_5, li_6, li_7, li_8, li_9, li_10, li_13, li_14, li_15, li_16, li_31, li_35, li_47, li_48, li_49, li_50, li_57, li_99, li_100, li_126, li_139, li_140, li_149, li_150, li_280, li_284, li_285, li_290, li_434, li_1260, li_3472, li_9999, li_65536, nm, nm_w, sf_w, cp_w, ld_I, sa_I, nI_add, pk_mul, Nat.zero_add, nI_leI, nI_ltI, nI_eq, nI_neM, M_neI, nI_ltM, nI_nltM, M_ltI, M_leI, nI_nleM, bnd_some, if_pos, if_neg, dif_t, dif_f, ex_M h.1 h16, if_neg hx]
    exact hz
  · have hlt : t < a := by omega
    have hx : exS S t = true := by
      obtain ⟨-, -, -, g4⟩ := ffI_s hl
      have := g4 t (Nat.zero_le t) hlt
      simpa using this
    simp (disch := omega) only [↓jM_e, li_0, li_1, li_2, li_3, li_4, li_5, li_6, li_7, li_8, li_9, li_10, li_13, li_14, li_15, li_16, li_31, li_35, li_47, li_48, li_49, li_50, li_57, li_99, li_100, li_126, li_139, li_140, li_149, li_150, li_280, li_284, li_285, li_290, li_434, li_1260, li_3472, li_9999, li_65536, nm, nm_w, sf_w, cp_w, ld_I, sa_I, nI_add, pk_mul, Nat.zero_add, nI_leI, nI_ltI, nI_eq, nI_neM, M_neI, nI_ltM, nI_nltM, M_ltI, M_leI, nI_nleM, bnd_some, if_pos, if_neg, dif_t, dif_f, ex_M h.1 h16, if_pos hx]
    exact hk hlt _ ⟨rfl, hlt⟩
theorem a_8 (x1 x2 x3 x4 : Int32) (hC : CW W r v n) (hM : MW W v) (hI : IW B W) (hK : 400000 < K) : OUT B (fL_add K x1 x2 x3 x4 r v n x) (fX7_add K x1 x2 x3 x4) PI n := by
  have hsh := hC.2.1.1
  have hK16 : 16 < K := by omega
  by_cases hcell : caI x1 x2 = jM
  · refine fin_thr hC hM hI (code := 1) (z := nI 0) (x' := x) (by decide) ?_ (fun w hw => ?_)
    · unfold fL_add fX6_add
      simp (disch := omega) only [↓jM_e, li_0, li_1, li_2, li_3, li_4, li_5, li_6, li_7, li_8, li_9, li_10, li_13, li_14, li_15, li_16, li_31, li_35, li_47, li_48, li_49, li_50, li_57, li_99, li_100, li_126, li_139, li_140, li_149, li_150, li_280, li_284, li_285, li_290, li_434, li_1260, li_3472, li_9999, li_65536, nm, nm_w, sf_w, cp_w, ld_I, sa_I, nI_add, pk_mul, Nat.zero_add, nI_leI, nI_ltI, nI_eq, nI_neM, M_neI, nI_ltM, nI_nltM, M_ltI, M_leI, nI_nleM, bnd_some, if_pos, if_neg, dif_t, dif_f, rq_C hcell, acT_r]
      rfl
    · unfold fX7_add bX7_add_38
      simp (disch := omega) only [↓jM_e, li_0, li_1, li_2, li_3, li_4, li_5, li_6, li_7, li_8, li_9, li_10, li_13, li_14, li_15, li_16, li_31, li_35, li_47, li_48, li_49, li_50, li_57, li_99, li_100, li_126, li_139, li_140, li_149, li_150, li_280, li_284, li_285, li_290, li_434, li_1260, li_3472, li_9999, li_65536, nm, nm_w, sf_w, cp_w, ld_I, sa_I, nI_add, pk_mul, Nat.zero_add, nI_leI, nI_ltI, nI_eq, nI_neM, M_neI, nI_ltM, nI_nltM, M_ltI, M_leI, nI_nleM, bnd_some, if_pos, if_neg, dif_t, dif_f, ic_M, if_pos hcell, s2_i]
  obtain ⟨q, hq, eq⟩ := caI_c hcell
  have hcaM := ca_M hcell
  rw [eq] at hcaM
  by_cases hok : (jM ≤ x3 ∧ x3 ≤ nI 3) ∧ (nI 0 ≤ x4 ∧ x4 ≤ nI 9)
  · obtain ⟨h3, h4⟩ := hok
    have hbC : ∀ o, bX6_add_25 K x1 x2 x3 x4 (nI 1) r v n = o → fX6_add K x1 x2 x3 x4 r v n = o := by
      intro o ho
      subst ho
      unfold fX6_add
      simp (disch := omega) only [↓jM_e, li_0, li_1, li_2, li_3, li_4, li_5, li_6, li_7, li_8, li_9, li_10, li_13, li_14, li_15, li_16, li_31, li_35, li_47, li_48, li_49, li_50, li_57, li_99, li_100, li_126, li_139, li_140, li_149, li_150, li_280, li_284, li_285, li_290, li_434, li_1260, li_3472, li_9999, li_65536, nm, nm_w, sf_w, cp_w, ld_I, sa_I, nI_add, pk_mul, Nat.zero_add, nI_leI, nI_ltI, nI_eq, nI_neM, M_neI, nI_ltM, nI_nltM, M_ltI, M_leI, nI_nleM, bnd_some, if_pos, if_neg, dif_t, dif_f, rq_Cc hcell, acT_l, ck_i hsh, gn_C, if_pos h3, pr_C, if_pos h4]
    have hbM : ∀ w o, bX7_add_38 K x1 x2 x3 x4 (nI 0) w = o → fX7_add K x1 x2 x3 x4 w = o := by
      intro w o ho
      subst ho
      unfold fX7_add
      simp (disch := omega) only [↓jM_e, li_0, li_1, li_2, li_3, li_4, li_5, li_6, li_7, li_8, li_9, li_10, li_13, li_14, li_15, li_16, li_31, li_35, li_47, li_48, li_49, li_50, li_57, li_99, li_100, li_126, li_139, li_140, li_149, li_150, li_280, li_284, li_285, li_290, li_434, li_1260, li_3472, li_9999, li_65536, nm, nm_w, sf_w, cp_w, ld_I, sa_I, nI_add, pk_mul, Nat.zero_add, nI_leI, nI_ltI, nI_eq, nI_neM, M_neI, nI_ltM, nI_nltM, M_ltI, M_leI, nI_nleM, bnd_some, if_pos, if_neg, dif_t, dif_f, ic_M, if_neg hcell, ii_M, if_pos h3, if_pos h4]
    by_cases hL : frS W.1 q = true ∧ ∃ a, loU W.1 = some a
    · obtain ⟨hf, a, hl⟩ := hL
      have ha : a < 16 := by
        obtain ⟨-, -, g3, -⟩ := ffI_s hl
        omega
      have hx : W.1 3 a = jM := by
        obtain ⟨g1, -⟩ := ffI_s hl
        have : exS W.1 a = false := by simpa using g1
        rw [exS_f] at this
        exact this
      have hco : coS (plS W.1 a q x3 x4) = coS W.1 := by
        funext i
        unfold coS
        rw [plS_o (by omega)]
      have h0 : coS W.1 q ≠ 0 := by
        unfold frS at hf
        intro e
        rw [e] at hf
        cases hf
      have hag : agOn W.1 q = none := by
        unfold frS at hf
        simp at hf
        exact hf.2
      have hm16 : ¬ cnI (exS W.1) 16 = 16 := by
        intro e
        rw [← lu_16] at e
        rw [e] at hl
        cases hl
      refine fin_ch (S' := plS W.1 a q x3 x4) (x' := ((nI a).toInt64, x.2)) hC hM hI (K := K) (by omega) (iS_pl hI.1 hx hq h0 hag (gn_v h3) (pr_v h4)) (fun r1 v1 k1 e1 g1 => ?_) (fun w w1 hw e1 g1 q5 => ?_)
      · obtain ⟨v2, ee, s1, s2'⟩ := pl_C (q := q) (x3 := x3) (x4 := x4) g1.1 ha
        refine ⟨r1, v2, k1, ?_, CW_w g1 s1 hco (fun p hp => s2' p (by omega)), fun p p1 p2 => s2' p (by omega)⟩
        unfold fL_add
        rw [hbC _ rfl]
        unfold bX6_add_25 fX6_requireArgument
        simp (disch := omega) only [↓jM_e, li_0, li_1, li_2, li_3, li_4, li_5, li_6, li_7, li_8, li_9, li_10, li_13, li_14, li_15, li_16, li_31, li_35, li_47, li_48, li_49, li_50, li_57, li_99, li_100, li_126, li_139, li_140, li_149, li_150, li_280, li_284, li_285, li_290, li_434, li_1260, li_3472, li_9999, li_65536, nm, nm_w, sf_w, cp_w, ld_I, sa_I, nI_add, pk_mul, Nat.zero_add, nI_leI, nI_ltI, nI_eq, nI_neM, M_neI, nI_ltM, nI_nltM, M_ltI, M_leI, nI_nleM, bnd_some, if_pos, if_neg, dif_t, dif_f, acT_l, ck_i hsh, ca_C, eq, fr_C hC.1 hI.1 hq hK16, if_pos hf, lu_C hC.1 hK16, hl, oI, e1, ck_i g1.2.1.1, ee]
        rfl
      · obtain ⟨w2, ew, t1, t2⟩ := ad_M (K := K) (x3 := x3) (x4 := x4) g1.1 hl hq hK16
        refine ⟨nI a, w2, ?_, rfl, t1, t2⟩
        rw [hbM w _ rfl]
        have hcl := @cnI_le (exS W.1) 16
        have hw' := (MW_t (y := nI 0) hw).1
        unfold bX7_add_38 bX7_add_90
        simp (disch := omega) only [↓jM_e, li_0, li_1, li_2, li_3, li_4, li_5, li_6, li_7, li_8, li_9, li_10, li_13, li_14, li_15, li_16, li_31, li_35, li_47, li_48, li_49, li_50, li_57, li_99, li_100, li_126, li_139, li_140, li_149, li_150, li_280, li_284, li_285, li_290, li_434, li_1260, li_3472, li_9999, li_65536, nm, nm_w, sf_w, cp_w, ld_I, sa_I, nI_add, pk_mul, Nat.zero_add, nI_leI, nI_ltI, nI_eq, nI_neM, M_neI, nI_ltM, nI_nltM, M_ltI, M_leI, nI_nleM, bnd_some, if_pos, if_neg, dif_t, dif_f, s2_i, hcaM, if_M hw'.1 hI.1 hq, if_neg h0, ag_M hw'.1 hq hK16, hag, oI, my_M hw'.1 hK16, q5, s2_s2, e1]
        exact ew
    · refine fin_thr hC hM hI (code := 3) (z := nI 0) (x' := x) (by decide) ?_ (fun w hw => ?_)
      · unfold fL_add
        rw [hbC _ rfl]
        unfold bX6_add_25 fX6_requireArgument
        by_cases hf : frS W.1 q = true
        · have hl : loU W.1 = none := by
            cases hl : loU W.1 with
            | none => rfl
            | some a => exact absurd ⟨hf, a, hl⟩ hL
          simp (disch := omega) only [↓jM_e, li_0, li_1, li_2, li_3, li_4, li_5, li_6, li_7, li_8, li_9, li_10, li_13, li_14, li_15, li_16, li_31, li_35, li_47, li_48, li_49, li_50, li_57, li_99, li_100, li_126, li_139, li_140, li_149, li_150, li_280, li_284, li_285, li_290, li_434, li_1260, li_3472, li_9999, li_65536, nm, nm_w, sf_w, cp_w, ld_I, sa_I, nI_add, pk_mul, Nat.zero_add, nI_leI, nI_ltI, nI_eq, nI_neM, M_neI, nI_ltM, nI_nltM, M_ltI, M_leI, nI_nleM, bnd_some, if_pos, if_neg, dif_t, dif_f, acT_l, ck_i hsh, ca_C, eq, fr_C hC.1 hI.1 hq hK16, if_pos hf, lu_C hC.1 hK16, hl, oI]
          rfl
        · simp (disch := omega) only [↓jM_e, li_0, li_1, li_2, li_3, li_4, li_5, li_6, li_7, li_8, li_9, li_10, li_13, li_14, li_15, li_16, li_31, li_35, li_47, li_48, li_49, li_50, li_57, li_99, li_100, li_126, li_139, li_140, li_149, li_150, li_280, li_284, li_285, li_290, li_434, li_1260, li_3472, li_9999, li_65536, nm, nm_w, sf_w, cp_w, ld_I, sa_I, nI_add, pk_mul, Nat.zero_add, nI_leI, nI_ltI, nI_eq, nI_neM, M_neI, nI_ltM, nI_nltM, M_ltI, M_leI, nI_nleM, bnd_some, if_pos, if_neg, dif_t, dif_f, acT_l, ck_i hsh, ca_C, eq, fr_C hC.1 hI.1 hq hK16, if_neg hf]
          rfl
      · rw [hbM w _ rfl]
        have hw' := (MW_t (y := nI 0) hw).1
        have hb : bX7_add_90 K x3 x4 (nI q) (nI 3) (s2 w 157 6 (nI 0)) = some (nI 0, s2 w 157 6 (nI 3)) := by
          unfold bX7_add_90
          simp (disch := omega) only [↓jM_e, li_0, li_1, li_2, li_3, li_4, li_5, li_6, li_7, li_8, li_9, li_10, li_13, li_14, li_15, li_16, li_31, li_35, li_47, li_48, li_49, li_50, li_57, li_99, li_100, li_126, li_139, li_140, li_149, li_150, li_280, li_284, li_285, li_290, li_434, li_1260, li_3472, li_9999, li_65536, nm, nm_w, sf_w, cp_w, ld_I, sa_I, nI_add, pk_mul, Nat.zero_add, nI_leI, nI_ltI, nI_eq, nI_neM, M_neI, nI_ltM, nI_nltM, M_ltI, M_leI, nI_nleM, bnd_some, if_pos, if_neg, dif_t, dif_f, s2_i, s2_s2]
        unfold bX7_add_38
        by_cases h0 : coS W.1 q = 0
        · simp (disch := omega) only [↓jM_e, li_0, li_1, li_2, li_3, li_4, li_5, li_6, li_7, li_8, li_9, li_10, li_13, li_14, li_15, li_16, li_31, li_35, li_47, li_48, li_49, li_50, li_57, li_99, li_100, li_126, li_139, li_140, li_149, li_150, li_280, li_284, li_285, li_290, li_434, li_1260, li_3472, li_9999, li_65536, nm, nm_w, sf_w, cp_w, ld_I, sa_I, nI_add, pk_mul, Nat.zero_add, nI_leI, nI_ltI, nI_eq, nI_neM, M_neI, nI_ltM, nI_nltM, M_ltI, M_leI, nI_nleM, bnd_some, if_pos, if_neg, dif_t, dif_f, s2_i, hcaM, if_M hw'.1 hI.1 hq, if_pos h0, hb]
        · cases hag : agOn W.1 q with
          | some m =>
            have hm := (agOn_lt hag).1
            simp (disch := omega) only [↓jM_e, li_0, li_1, li_2, li_3, li_4, li_5, li_6, li_7, li_8, li_9, li_10, li_13, li_14, li_15, li_16, li_31, li_35, li_47, li_48, li_49, li_50, li_57, li_99, li_100, li_126, li_139, li_140, li_149, li_150, li_280, li_284, li_285, li_290, li_434, li_1260, li_3472, li_9999, li_65536, nm, nm_w, sf_w, cp_w, ld_I, sa_I, nI_add, pk_mul, Nat.zero_add, nI_leI, nI_ltI, nI_eq, nI_neM, M_neI, nI_ltM, nI_nltM, M_ltI, M_leI, nI_nleM, bnd_some, if_pos, if_neg, dif_t, dif_f, s2_i, hcaM, if_M hw'.1 hI.1 hq, if_neg h0, ag_M hw'.1 hq hK16, hag, oI, hb]
          | none =>
            have hf : frS W.1 q = true := by simp [frS, h0, hag]
            have hl : loU W.1 = none := by
              cases hl : loU W.1 with
              | none => rfl
              | some a => exact absurd ⟨hf, a, hl⟩ hL
            rw [lu_16] at hl
            simp (disch := omega) only [↓jM_e, li_0, li_1, li_2, li_3, li_4, li_5, li_6, li_7, li_8, li_9, li_10, li_13, li_14, li_15, li_16, li_31, li_35, li_47, li_48, li_49, li_50, li_57, li_99, li_100, li_126, li_139, li_140, li_149, li_150, li_280, li_284, li_285, li_290, li_434, li_1260, li_3472, li_9999, li_65536, nm, nm_w, sf_w, cp_w, ld_I, sa_I, nI_add, pk_mul, Nat.zero_add, nI_leI, nI_ltI, nI_eq, nI_neM, M_neI, nI_ltM, nI_nltM, M_ltI, M_leI, nI_nleM, bnd_some, if_pos, if_neg, dif_t, dif_f, s2_i, hcaM, if_M hw'.1 hI.1 hq, if_neg h0, ag_M hw'.1 hq hK16, hag, oI, my_M hw'.1 hK16, hl, hb]
  · refine fin_thr hC hM hI (code := 2) (z := nI 0) (x' := x) (by decide) ?_ (fun w hw => ?_)
    · have hb : bX6_add_25 K x1 x2 x3 x4 (nI 0) r v n = some (Sum.inr 2, r, v, 0) := by
        unfold bX6_add_25 fX6_requireArgument
        simp (disch := omega) only [↓jM_e, li_0, li_1, li_2, li_3, li_4, li_5, li_6, li_7, li_8, li_9, li_10, li_13, li_14, li_15, li_16, li_31, li_35, li_47, li_48, li_49, li_50, li_57, li_99, li_100, li_126, li_139, li_140, li_149, li_150, li_280, li_284, li_285, li_290, li_434, li_1260, li_3472, li_9999, li_65536, nm, nm_w, sf_w, cp_w, ld_I, sa_I, nI_add, pk_mul, Nat.zero_add, nI_leI, nI_ltI, nI_eq, nI_neM, M_neI, nI_ltM, nI_nltM, M_ltI, M_leI, nI_nleM, bnd_some, if_pos, if_neg, dif_t, dif_f, acT_r]
      unfold fL_add fX6_add
      by_cases h3 : jM ≤ x3 ∧ x3 ≤ nI 3
      · have h4 : ¬ (nI 0 ≤ x4 ∧ x4 ≤ nI 9) := fun g => hok ⟨h3, g⟩
        simp (disch := omega) only [↓jM_e, li_0, li_1, li_2, li_3, li_4, li_5, li_6, li_7, li_8, li_9, li_10, li_13, li_14, li_15, li_16, li_31, li_35, li_47, li_48, li_49, li_50, li_57, li_99, li_100, li_126, li_139, li_140, li_149, li_150, li_280, li_284, li_285, li_290, li_434, li_1260, li_3472, li_9999, li_65536, nm, nm_w, sf_w, cp_w, ld_I, sa_I, nI_add, pk_mul, Nat.zero_add, nI_leI, nI_ltI, nI_eq, nI_neM, M_neI, nI_ltM, nI_nltM, M_ltI, M_leI, nI_nleM, bnd_some, if_pos, if_neg, dif_t, dif_f, rq_Cc hcell, acT_l, ck_i hsh, gn_C, if_pos h3, pr_C, if_neg h4, hb]
        rfl
      · simp (disch := omega) only [↓jM_e, li_0, li_1, li_2, li_3, li_4, li_5, li_6, li_7, li_8, li_9, li_10, li_13, li_14, li_15, li_16, li_31, li_35, li_47, li_48, li_49, li_50, li_57, li_99, li_100, li_126, li_139, li_140, li_149, li_150, li_280, li_284, li_285, li_290, li_434, li_1260, li_3472, li_9999, li_65536, nm, nm_w, sf_w, cp_w, ld_I, sa_I, nI_add, pk_mul, Nat.zero_add, nI_leI, nI_ltI, nI_eq, nI_neM, M_neI, nI_ltM, nI_nltM, M_ltI, M_leI, nI_nleM, bnd_some, if_pos, if_neg, dif_t, dif_f, rq_Cc hcell, acT_l, ck_i hsh, gn_C, if_neg h3, hb]
        rfl
    · have hb : bX7_add_38 K x1 x2 x3 x4 (nI 2) w = some (nI 0, s2 w 157 6 (nI 2)) := by
        unfold bX7_add_38
        simp (disch := omega) only [↓jM_e, li_0, li_1, li_2, li_3, li_4, li_5, li_6, li_7, li_8, li_9, li_10, li_13, li_14, li_15, li_16, li_31, li_35, li_47, li_48, li_49, li_50, li_57, li_99, li_100, li_126, li_139, li_140, li_149, li_150, li_280, li_284, li_285, li_290, li_434, li_1260, li_3472, li_9999, li_65536, nm, nm_w, sf_w, cp_w, ld_I, sa_I, nI_add, pk_mul, Nat.zero_add, nI_leI, nI_ltI, nI_eq, nI_neM, M_neI, nI_ltM, nI_nltM, M_ltI, M_leI, nI_nleM, bnd_some, if_pos, if_neg, dif_t, dif_f, s2_i]
      unfold fX7_add
      by_cases h3 : jM ≤ x3 ∧ x3 ≤ nI 3
      · have h4 : ¬ (nI 0 ≤ x4 ∧ x4 ≤ nI 9) := fun g => hok ⟨h3, g⟩
        simp (disch := omega) only [↓jM_e, li_0, li_1, li_2, li_3, li_4, li_5, li_6, li_7, li_8, li_9, li_10, li_13, li_14, li_15, li_16, li_31, li_35, li_47, li_48, li_49, li_50, li_57, li_99, li_100, li_126, li_139, li_140, li_149, li_150, li_280, li_284, li_285, li_290, li_434, li_1260, li_3472, li_9999, li_65536, nm, nm_w, sf_w, cp_w, ld_I, sa_I, nI_add, pk_mul, Nat.zero_add, nI_leI, nI_ltI, nI_eq, nI_neM, M_neI, nI_ltM, nI_nltM, M_ltI, M_leI, nI_nleM, bnd_some, if_pos, if_neg, dif_t, dif_f, ic_M, if_neg hcell, ii_M, if_pos h3, if_neg h4, hb]
      · simp (disch := omega) only [↓jM_e, li_0, li_1, li_2, li_3, li_4, li_5, li_6, li_7, li_8, li_9, li_10, li_13, li_14, li_15, li_16, li_31, li_35, li_47, li_48, li_49, li_50, li_57, li_99, li_100, li_126, li_139, li_140, li_149, li_150, li_280, li_284, li_285, li_290, li_434, li_1260, li_3472, li_9999, li_65536, nm, nm_w, sf_w, cp_w, ld_I, sa_I, nI_add, pk_mul, Nat.zero_add, nI_leI, nI_ltI, nI_eq, nI_neM, M_neI, nI_ltM, nI_nltM, M_ltI, M_leI, nI_nleM, bnd_some, if_pos, if_neg, dif_t, dif_f, ic_M, if_neg hcell, ii_M, if_neg h3, hb]
end
