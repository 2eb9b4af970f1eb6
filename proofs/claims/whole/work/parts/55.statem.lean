/-! THE REFERENCE READS THE STATE -/
section
variable {K : Nat} {S : aS} {v : sV} {B : Nat}
theorem at_M {a k : Nat} (ha : a < 16) (hk : k < 9) : fX7_at (nI a) (nI k) v = some (v 158 (290 + 9 * a + k)) := by
  unfold fX7_at
  have : 290 + 9 * a + k < 434 := by omega
  simp (disch := omega) only [↓jM_e, li_0, li_1, li_2, li_3, li_4, li_5, li_6, li_7, li_8, li_9, li_10, li_13, li_14, li_15, li_16, li_31, li_35, li_47, li_48, li_49, li_50, li_57, li_99, li_100, li_126, li_139, li_140, li_149, li_150, li_280, li_284, li_285, li_290, li_434, li_1260, li_3472, li_9999, li_65536, nm, nm_w, sf_w, cp_w, ld_I, sa_I, nI_add, pk_mul, Nat.zero_add, nI_leI, nI_ltI, nI_eq, nI_neM, M_neI, nI_ltM, nI_nltM, M_ltI, M_leI, nI_nleM, bnd_some, if_pos, if_neg, dif_t, dif_f]
theorem pt_M {a k : Nat} {x : Int32} (ha : a < 16) (hk : k < 9) : fX7_put (nI a) (nI k) x v = some (s2 v 158 (290 + 9 * a + k) x) := by
  unfold fX7_put
  have : 290 + 9 * a + k < 434 := by omega
  simp (disch := omega) only [↓jM_e, li_0, li_1, li_2, li_3, li_4, li_5, li_6, li_7, li_8, li_9, li_10, li_13, li_14, li_15, li_16, li_31, li_35, li_47, li_48, li_49, li_50, li_57, li_99, li_100, li_126, li_139, li_140, li_149, li_150, li_280, li_284, li_285, li_290, li_434, li_1260, li_3472, li_9999, li_65536, nm, nm_w, sf_w, cp_w, ld_I, sa_I, nI_add, pk_mul, Nat.zero_add, nI_leI, nI_ltI, nI_eq, nI_neM, M_neI, nI_ltM, nI_nltM, M_ltI, M_leI, nI_nleM, bnd_some, if_pos, if_neg, dif_t, dif_f]
theorem ex_M (h : RelM S (v 158)) {a : Nat} (ha : a < 16) : fX7_isAgent (nI a) v = some (if exS S a = true then nI 1 else nI 0) := by
  unfold fX7_isAgent
  have hr := h.2.2.2.2.2 a ha
  simp (disch := omega) only [↓jM_e, li_0, li_1, li_2, li_3, li_4, li_5, li_6, li_7, li_8, li_9, li_10, li_13, li_14, li_15, li_16, li_31, li_35, li_47, li_48, li_49, li_50, li_57, li_99, li_100, li_126, li_139, li_140, li_149, li_150, li_280, li_284, li_285, li_290, li_434, li_1260, li_3472, li_9999, li_65536, nm, nm_w, sf_w, cp_w, ld_I, sa_I, nI_add, pk_mul, Nat.zero_add, nI_leI, nI_ltI, nI_eq, nI_neM, M_neI, nI_ltM, nI_nltM, M_ltI, M_leI, nI_nleM, bnd_some, if_pos, if_neg, dif_t, dif_f, ii_M, at_M ha (show 0 < 9 by decide)]
  by_cases hx : S 3 a = jM
  · simp only [if_neg (hr.1 hx)]
    simp [exS, hx]
  · simp only [if_pos (hr.2 hx).1]
    simp [exS, hx]
theorem ex_Mo {x : Int32} (hx : x < nI 0 ∨ nI 16 ≤ x) : fX7_isAgent x v = some (nI 0) := by
  unfold fX7_isAgent
  simp only [↓jM_e, li_0, li_1, li_2, li_3, li_4, li_5, li_6, li_7, li_8, li_9, li_10, li_13, li_14, li_15, li_16, li_31, li_35, li_47, li_48, li_49, li_50, li_57, li_99, li_100, li_126, li_139, li_140, li_149, li_150, li_280, li_284, li_285, li_290, li_434, li_1260, li_3472, li_9999, li_65536]
  have e1 : (nI 0 ≤ x) = ¬ x < nI 0 := propext Int32.not_lt.symm
  have p1 : (x ≤ nI 15) = ¬ (nI 16 ≤ x) := le_pred (n := 15) (by decide)
  simp only [ii_M, p1, e1, if_neg (show ¬ (¬ x < nI 0 ∧ ¬ nI 16 ≤ x) from fun g => hx.elim g.1 g.2)]
  simp (disch := omega) only [↓jM_e, li_0, li_1, li_2, li_3, li_4, li_5, li_6, li_7, li_8, li_9, li_10, li_13, li_14, li_15, li_16, li_31, li_35, li_47, li_48, li_49, li_50, li_57, li_99, li_100, li_126, li_139, li_140, li_149, li_150, li_280, li_284, li_285, li_290, li_434, li_1260, li_3472, li_9999, li_65536, nm, nm_w, sf_w, cp_w, ld_I, sa_I, nI_add, pk_mul, Nat.zero_add, nI_leI, nI_ltI, nI_eq, nI_neM, M_neI, nI_ltM, nI_nltM, M_ltI, M_leI, nI_nleM, bnd_some, if_pos, if_neg, dif_t, dif_f]
theorem ex_Co {b cq : Nat} {x : Int32} (hx : x < nI 0 ∨ nI 16 ≤ x) : fX0_exists cq b x v = some (nI 0) := by
  unfold fX0_exists
  simp only [↓jM_e, li_0, li_1, li_2, li_3, li_4, li_5, li_6, li_7, li_8, li_9, li_10, li_13, li_14, li_15, li_16, li_31, li_35, li_47, li_48, li_49, li_50, li_57, li_99, li_100, li_126, li_139, li_140, li_149, li_150, li_280, li_284, li_285, li_290, li_434, li_1260, li_3472, li_9999, li_65536]
  by_cases h1 : x < nI 0
  · simp only [if_pos h1]
  · simp only [if_neg h1, if_pos (hx.resolve_left h1)]
theorem rm (h : RelM S (v 158)) {a : Nat} (ha : a < 16) (hx : S 3 a ≠ jM) : v 158 (290 + 9 * a + 1) = S 3 a ∧ v 158 (290 + 9 * a + 2) = S 4 a ∧ v 158 (290 + 9 * a + 3) = S 5 a ∧ v 158 (290 + 9 * a + 4) = S 6 a ∧ v 158 (290 + 9 * a + 5) = S 7 a ∧ v 158 (290 + 9 * a + 6) = S 8 a ∧ (S 8 a ≠ jM → v 158 (290 + 9 * a + 7) = S 9 a ∧ v 158 (290 + 9 * a + 8) = S 10 a) :=
  ((h.2.2.2.2.2 a ha).2 hx).2
theorem ag_M (h : RelM S (v 158)) {c : Nat} (hc : c < 140) (hK : 16 < K) : fX7_agentOn K (nI c) v = some (oI (agOn S c)) := by
  unfold fX7_agentOn
  refine fx1_go (P := fun t x => x = nI t ∧ ffI (fun a => decide (S 3 a = nI c)) (16 - t) t = agOn S c) (Q := fun o => o = some (oI (agOn S c))) (N := 16) ?_ ⟨rfl, rfl⟩ hK
  intro t x ht ⟨e1, e2⟩ k hk
  subst e1
  unfold gX7_agentOn_2
  by_cases ht1 : t = 16
  · subst ht1
    rw [← e2]
    simp (disch := omega) only [↓jM_e, li_0, li_1, li_2, li_3, li_4, li_5, li_6, li_7, li_8, li_9, li_10, li_13, li_14, li_15, li_16, li_31, li_35, li_47, li_48, li_49, li_50, li_57, li_99, li_100, li_126, li_139, li_140, li_149, li_150, li_280, li_284, li_285, li_290, li_434, li_1260, li_3472, li_9999, li_65536, nm, nm_w, sf_w, cp_w, ld_I, sa_I, nI_add, pk_mul, Nat.zero_add, nI_leI, nI_ltI, nI_eq, nI_neM, M_neI, nI_ltM, nI_nltM, M_ltI, M_leI, nI_nleM, bnd_some, if_pos, if_neg, dif_t, dif_f]
    rfl
  · have ht2 : t < 16 := by omega
    rw [show 16 - t = (16 - (t + 1)) + 1 by omega] at e2
    have e2 : (if decide (S 3 t = nI c) = true then some t else ffI (fun a => decide (S 3 a = nI c)) (16 - (t + 1)) (t + 1)) = agOn S c := e2
    by_cases hx : S 3 t = jM
    · have hp : ¬ S 3 t = nI c := by rw [hx, M_neI (by omega)]; exact id
      rw [if_neg (by rw [decide_eq_true_eq]; exact hp)] at e2
      simp (disch := omega) only [↓jM_e, li_0, li_1, li_2, li_3, li_4, li_5, li_6, li_7, li_8, li_9, li_10, li_13, li_14, li_15, li_16, li_31, li_35, li_47, li_48, li_49, li_50, li_57, li_99, li_100, li_126, li_139, li_140, li_149, li_150, li_280, li_284, li_285, li_290, li_434, li_1260, li_3472, li_9999, li_65536, nm, nm_w, sf_w, cp_w, ld_I, sa_I, nI_add, pk_mul, Nat.zero_add, nI_leI, nI_ltI, nI_eq, nI_neM, M_neI, nI_ltM, nI_nltM, M_ltI, M_leI, nI_nleM, bnd_some, if_pos, if_neg, dif_t, dif_f, ex_M h ht2, if_neg (show ¬ exS S t = true by rw [exS_t]; exact fun g => g hx)]
      exact hk (by omega) _ ⟨rfl, e2⟩
    · have hr := (rm h ht2 hx).1
      by_cases hp : S 3 t = nI c
      · rw [if_pos (decide_eq_true hp)] at e2
        simp (disch := omega) only [↓jM_e, li_0, li_1, li_2, li_3, li_4, li_5, li_6, li_7, li_8, li_9, li_10, li_13, li_14, li_15, li_16, li_31, li_35, li_47, li_48, li_49, li_50, li_57, li_99, li_100, li_126, li_139, li_140, li_149, li_150, li_280, li_284, li_285, li_290, li_434, li_1260, li_3472, li_9999, li_65536, nm, nm_w, sf_w, cp_w, ld_I, sa_I, nI_add, pk_mul, Nat.zero_add, nI_leI, nI_ltI, nI_eq, nI_neM, M_neI, nI_ltM, nI_nltM, M_ltI, M_leI, nI_nleM, bnd_some, if_pos, if_neg, dif_t, dif_f, ex_M h ht2, if_pos (show exS S t = true by rw [exS_t]; exact hx), at_M ht2 (show 1 < 9 by decide), hr, if_pos hp]
        rw [← e2]
        rfl
      · rw [if_neg (by rw [decide_eq_true_eq]; exact hp)] at e2
        simp (disch := omega) only [↓jM_e, li_0, li_1, li_2, li_3, li_4, li_5, li_6, li_7, li_8, li_9, li_10, li_13, li_14, li_15, li_16, li_31, li_35, li_47, li_48, li_49, li_50, li_57, li_99, li_100, li_126, li_139, li_140, li_149, li_150, li_280, li_284, li_285, li_290, li_434, li_1260, li_3472, li_9999, li_65536, nm, nm_w, sf_w, cp_w, ld_I, sa_I, nI_add, pk_mul, Nat.zero_add, nI_leI, nI_ltI, nI_eq, nI_neM, M_neI, nI_ltM, nI_nltM, M_ltI, M_leI, nI_nleM, bnd_some, if_pos, if_neg, dif_t, dif_f, ex_M h ht2, if_pos (show exS S t = true by rw [exS_t]; exact hx), at_M ht2 (show 1 < 9 by decide), hr, if_neg hp]
        exact hk (by omega) _ ⟨rfl, e2⟩
theorem hg_M (h : RelM S (v 158)) {c : Nat} (hc : c < 140) (hK : 16 < K) : fX7_hasGoal K (nI c) v = some (if (goOn S c).isSome = true then nI 1 else nI 0) := by
  unfold fX7_hasGoal
  refine fx1_go (P := fun t x => x = nI t ∧ ffI (fun a => decide (S 2 a = nI c)) (4 - t) t = goOn S c) (Q := fun o => o = some (if (goOn S c).isSome = true then nI 1 else nI 0)) (N := 4) ?_ ⟨rfl, rfl⟩ (by omega)
  intro t x ht ⟨e1, e2⟩ k hk
  subst e1
  unfold gX7_hasGoal_2
  by_cases ht1 : t = 4
  · subst ht1
    rw [← e2]
    simp (disch := omega) only [↓jM_e, li_0, li_1, li_2, li_3, li_4, li_5, li_6, li_7, li_8, li_9, li_10, li_13, li_14, li_15, li_16, li_31, li_35, li_47, li_48, li_49, li_50, li_57, li_99, li_100, li_126, li_139, li_140, li_149, li_150, li_280, li_284, li_285, li_290, li_434, li_1260, li_3472, li_9999, li_65536, nm, nm_w, sf_w, cp_w, ld_I, sa_I, nI_add, pk_mul, Nat.zero_add, nI_leI, nI_ltI, nI_eq, nI_neM, M_neI, nI_ltM, nI_nltM, M_ltI, M_leI, nI_nleM, bnd_some, if_pos, if_neg, dif_t, dif_f]
    rfl
  · have ht2 : t < 4 := by omega
    have hix : 280 + t < 434 := by omega
    have hr := h.2.2.1 t ht2
    rw [show 4 - t = (4 - (t + 1)) + 1 by omega] at e2
    have e2 : (if decide (S 2 t = nI c) = true then some t else ffI (fun a => decide (S 2 a = nI c)) (4 - (t + 1)) (t + 1)) = goOn S c := e2
    by_cases hp : S 2 t = nI c
    · rw [if_pos (decide_eq_true hp)] at e2
      simp (disch := omega) only [↓jM_e, li_0, li_1, li_2, li_3, li_4, li_5, li_6, li_7, li_8, li_9, li_10, li_13, li_14, li_15, li_16, li_31, li_35, li_47, li_48, li_49, li_50, li_57, li_99, li_100, li_126, li_139, li_140, li_149, li_150, li_280, li_284, li_285, li_290, li_434, li_1260, li_3472, li_9999, li_65536, nm, nm_w, sf_w, cp_w, ld_I, sa_I, nI_add, pk_mul, Nat.zero_add, nI_leI, nI_ltI, nI_eq, nI_neM, M_neI, nI_ltM, nI_nltM, M_ltI, M_leI, nI_nleM, bnd_some, if_pos, if_neg, dif_t, dif_f, hr, if_pos hp]
      rw [← e2]
      rfl
    · rw [if_neg (by rw [decide_eq_true_eq]; exact hp)] at e2
      simp (disch := omega) only [↓jM_e, li_0, li_1, li_2, li_3, li_4, li_5, li_6, li_7, li_8, li_9, li_10, li_13, li_14, li_15, li_16, li_31, li_35, li_47, li_48, li_49, li_50, li_57, li_99, li_100, li_126, li_139, li_140, li_149, li_150, li_280, li_284, li_285, li_290, li_434, li_1260, li_3472, li_9999, li_65536, nm, nm_w, sf_w, cp_w, ld_I, sa_I, nI_add, pk_mul, Nat.zero_add, nI_leI, nI_ltI, nI_eq, nI_neM, M_neI, nI_ltM, nI_nltM, M_ltI, M_leI, nI_nleM, bnd_some, if_pos, if_neg, dif_t, dif_f, hr, if_neg hp]
      exact hk (by omega) _ ⟨rfl, e2⟩
theorem if_M (h : RelM S (v 158)) (hI : iS B S) {c : Nat} (hc : c < 140) : fX7_isFree (nI c) v = some (if coS S c = 0 then nI 0 else nI 1) := by
  have h1 := hI.1 c hc
  have e1 : (v 158 c ≤ nI 0) = (coS S c = 0) := by
    rw [h.1 c hc, h1.1, nI_leI (by omega) (by decide)]
    exact propext Nat.le_zero
  simp only [isFree_I hc, e1]
theorem ie_M (h : RelM S (v 158)) (hI : iS B S) {c : Nat} (hc : c < 140) (hK : 16 < K) : fX7_isEmpty K (nI c) v = some (if frS S c = true then nI 1 else nI 0) := by
  unfold fX7_isEmpty
  rw [if_M h hI hc]
  by_cases hx : coS S c = 0
  · simp (disch := omega) only [↓jM_e, li_0, li_1, li_2, li_3, li_4, li_5, li_6, li_7, li_8, li_9, li_10, li_13, li_14, li_15, li_16, li_31, li_35, li_47, li_48, li_49, li_50, li_57, li_99, li_100, li_126, li_139, li_140, li_149, li_150, li_280, li_284, li_285, li_290, li_434, li_1260, li_3472, li_9999, li_65536, nm, nm_w, sf_w, cp_w, ld_I, sa_I, nI_add, pk_mul, Nat.zero_add, nI_leI, nI_ltI, nI_eq, nI_neM, M_neI, nI_ltM, nI_nltM, M_ltI, M_leI, nI_nleM, bnd_some, if_pos, if_neg, dif_t, dif_f, if_pos hx]
    simp [frS, hx]
  · simp (disch := omega) only [↓jM_e, li_0, li_1, li_2, li_3, li_4, li_5, li_6, li_7, li_8, li_9, li_10, li_13, li_14, li_15, li_16, li_31, li_35, li_47, li_48, li_49, li_50, li_57, li_99, li_100, li_126, li_139, li_140, li_149, li_150, li_280, li_284, li_285, li_290, li_434, li_1260, li_3472, li_9999, li_65536, nm, nm_w, sf_w, cp_w, ld_I, sa_I, nI_add, pk_mul, Nat.zero_add, nI_leI, nI_ltI, nI_eq, nI_neM, M_neI, nI_ltM, nI_nltM, M_ltI, M_leI, nI_nleM, bnd_some, if_pos, if_neg, dif_t, dif_f, if_neg hx, ag_M h hc hK]
    unfold frS
    cases hag : agOn S c with
    | none =>
      have n1 : ¬ nI 0 ≤ oI none := by decide
      simp only [if_neg n1]
      simp [hx]
    | some a =>
      have := (agOn_lt hag).1
      have n1 : nI 0 ≤ oI (some a) := nI_le (Nat.zero_le a) (by omega)
      simp only [if_pos n1]
      simp
theorem ie_MM : fX7_isEmpty K jM v = some (nI 0) := by
  unfold fX7_isEmpty
  rw [isFree_M]
  simp (disch := omega) only [↓jM_e, li_0, li_1, li_2, li_3, li_4, li_5, li_6, li_7, li_8, li_9, li_10, li_13, li_14, li_15, li_16, li_31, li_35, li_47, li_48, li_49, li_50, li_57, li_99, li_100, li_126, li_139, li_140, li_149, li_150, li_280, li_284, li_285, li_290, li_434, li_1260, li_3472, li_9999, li_65536, nm, nm_w, sf_w, cp_w, ld_I, sa_I, nI_add, pk_mul, Nat.zero_add, nI_leI, nI_ltI, nI_eq, nI_neM, M_neI, nI_ltM, nI_nltM, M_ltI, M_leI, nI_nleM, bnd_some, if_pos, if_neg, dif_t, dif_f]
theorem t136_M (h : RelM S (v 158)) (hI : iS B S) {l : Nat} {dx dy : Int32} (hl : l < 16) (hx : S 3 l ≠ jM) : bX7_target_136 (nI l) dx dy v = some (if caI (nI (clI (S 3 l) % 14) + dx) (nI (clI (S 3 l) / 14) + dy) = jM then S 3 l else if coS S (clI (caI (nI (clI (S 3 l) % 14) + dx) (nI (clI (S 3 l) / 14) + dy))) = 0 then S 3 l else caI (nI (clI (S 3 l) % 14) + dx) (nI (clI (S 3 l) / 14) + dy)) := by
  obtain ⟨c, hc, ec, -⟩ := (hI.2.2.1 l hl).resolve_left hx
  have er : v 158 (290 + 9 * l + 1) = nI c := (rm h hl hx).1.trans ec
  have ecn : clI (nI c) = c := clI_n (by omega)
  have hca := @ca_M (nI (c % 14) + dx) (nI (c / 14) + dy)
  have hcv := caI_v (nI (c % 14) + dx) (nI (c / 14) + dy)
  simp only [ec, ecn]
  unfold bX7_target_136
  rw [show (1 : Int32) = nI 1 from rfl, at_M hl (show 1 < 9 by decide), er, bnd_some, (co_M hc).1, bnd_some, nm_w, (co_M hc).2, bnd_some, nm_w, ic_M, bnd_some]
  generalize caI (nI (c % 14) + dx) (nI (c / 14) + dy) = z at hca hcv
  by_cases h1 : z = jM
  · rw [if_pos h1, if_pos (show nI 0 = (0 : Int32) from rfl), if_pos h1]
  · have hca := hca h1
    rw [if_neg h1, if_neg (show ¬ nI 1 = (0 : Int32) by decide), if_neg h1, hca, bnd_some]
    rcases hcv with h2 | ⟨i, j, hi, hj, -, -, e⟩
    · exact absurd h2 h1
    · subst e
      have hq : 14 * j + i < 140 := by omega
      have eq1 : clI (nI (14 * j + i)) = 14 * j + i := clI_n (by omega)
      rw [if_M h hI hq, eq1, bnd_some]
      by_cases h3 : coS S (14 * j + i) = 0
      · rw [if_pos h3, if_pos (show nI 0 = (0 : Int32) from rfl), if_pos h3]
      · rw [if_neg h3, if_neg (show ¬ nI 1 = (0 : Int32) by decide), if_neg h3, bnd_some]
theorem tg_M (h : RelM S (v 158)) (hI : iS B S) {a : Nat} (ha : a < 16) (hx : S 3 a ≠ jM) : fX7_target (nI a) v = some (tgS S a) := by
  obtain ⟨h4, -, -, h8⟩ := hI.2.2.2.1 a ha hx
  obtain ⟨r3, r4, r5, r6, r7, r8, r9⟩ := rm h ha hx
  unfold fX7_target tgS
  by_cases e8 : S 8 a = jM
  · rw [if_pos e8]
    have n1 : ¬ nI 0 ≤ jM := by decide
    by_cases e4 : S 4 a = jM
    · rw [if_pos e4]
      simp (disch := omega) only [↓jM_e, li_0, li_1, li_2, li_3, li_4, li_5, li_6, li_7, li_8, li_9, li_10, li_13, li_14, li_15, li_16, li_31, li_35, li_47, li_48, li_49, li_50, li_57, li_99, li_100, li_126, li_139, li_140, li_149, li_150, li_280, li_284, li_285, li_290, li_434, li_1260, li_3472, li_9999, li_65536, nm, nm_w, sf_w, cp_w, ld_I, sa_I, nI_add, pk_mul, Nat.zero_add, nI_leI, nI_ltI, nI_eq, nI_neM, M_neI, nI_ltM, nI_nltM, M_ltI, M_leI, nI_nleM, bnd_some, if_pos, if_neg, dif_t, dif_f, at_M ha (show 6 < 9 by decide), r8, e8, if_neg n1, at_M ha (show 2 < 9 by decide), r4, e4]
    · rw [if_neg e4]
      obtain ⟨g, hg, eg⟩ := h4.resolve_left e4
      have hix : 280 + g < 434 := by omega
      rw [eg, clI_n (by omega)]
      simp (disch := omega) only [↓jM_e, li_0, li_1, li_2, li_3, li_4, li_5, li_6, li_7, li_8, li_9, li_10, li_13, li_14, li_15, li_16, li_31, li_35, li_47, li_48, li_49, li_50, li_57, li_99, li_100, li_126, li_139, li_140, li_149, li_150, li_280, li_284, li_285, li_290, li_434, li_1260, li_3472, li_9999, li_65536, nm, nm_w, sf_w, cp_w, ld_I, sa_I, nI_add, pk_mul, Nat.zero_add, nI_leI, nI_ltI, nI_eq, nI_neM, M_neI, nI_ltM, nI_nltM, M_ltI, M_leI, nI_nleM, bnd_some, if_pos, if_neg, dif_t, dif_f, at_M ha (show 6 < 9 by decide), r8, e8, if_neg n1, at_M ha (show 2 < 9 by decide), r4, eg, h.2.2.1 g hg]
  · rw [if_neg e8]
    obtain ⟨l, hl, el, hlx⟩ := h8.resolve_left e8
    obtain ⟨r9, r10⟩ := r9 e8
    obtain ⟨hd, hhd, ehd⟩ := (hI.2.2.2.1 l hl hlx).2.2.1
    have r6l := (rm h hl hlx).2.2.2.1
    have sn : ∀ x y : Int32, x + -y = x - y := fun x y => (Int32.sub_eq_add_neg x y).symm
    rw [el, clI_n (by omega)]
    simp (disch := omega) only [↓jM_e, li_0, li_1, li_2, li_3, li_4, li_5, li_6, li_7, li_8, li_9, li_10, li_13, li_14, li_15, li_16, li_31, li_35, li_47, li_48, li_49, li_50, li_57, li_99, li_100, li_126, li_139, li_140, li_149, li_150, li_280, li_284, li_285, li_290, li_434, li_1260, li_3472, li_9999, li_65536, nm, nm_w, sf_w, cp_w, ld_I, sa_I, nI_add, pk_mul, Nat.zero_add, nI_leI, nI_ltI, nI_eq, nI_neM, M_neI, nI_ltM, nI_nltM, M_ltI, M_leI, nI_nleM, bnd_some, if_pos, if_neg, dif_t, dif_f, at_M ha (show 6 < 9 by decide), r8, el, at_M ha (show 7 < 9 by decide), at_M ha (show 8 < 9 by decide), r9, r10, at_M hl (show 4 < 9 by decide), r6l, ehd]
    unfold bX7_target_100 slI
    rw [ehd]
    rcases (show hd = 0 ∨ hd = 1 ∨ hd = 2 ∨ hd = 3 by omega) with rfl | rfl | rfl | rfl
    · simp (disch := omega) only [↓jM_e, li_0, li_1, li_2, li_3, li_4, li_5, li_6, li_7, li_8, li_9, li_10, li_13, li_14, li_15, li_16, li_31, li_35, li_47, li_48, li_49, li_50, li_57, li_99, li_100, li_126, li_139, li_140, li_149, li_150, li_280, li_284, li_285, li_290, li_434, li_1260, li_3472, li_9999, li_65536, nm, nm_w, sf_w, cp_w, ld_I, sa_I, nI_add, pk_mul, Nat.zero_add, nI_leI, nI_ltI, nI_eq, nI_neM, M_neI, nI_ltM, nI_nltM, M_ltI, M_leI, nI_nleM, bnd_some, if_pos, if_neg, dif_t, dif_f, t136_M h hI hl hlx]
    · simp (disch := omega) only [↓jM_e, li_0, li_1, li_2, li_3, li_4, li_5, li_6, li_7, li_8, li_9, li_10, li_13, li_14, li_15, li_16, li_31, li_35, li_47, li_48, li_49, li_50, li_57, li_99, li_100, li_126, li_139, li_140, li_149, li_150, li_280, li_284, li_285, li_290, li_434, li_1260, li_3472, li_9999, li_65536, nm, nm_w, sf_w, cp_w, ld_I, sa_I, nI_add, pk_mul, Nat.zero_add, nI_leI, nI_ltI, nI_eq, nI_neM, M_neI, nI_ltM, nI_nltM, M_ltI, M_leI, nI_nleM, bnd_some, if_pos, if_neg, dif_t, dif_f, t136_M h hI hl hlx, sn]
    · simp (disch := omega) only [↓jM_e, li_0, li_1, li_2, li_3, li_4, li_5, li_6, li_7, li_8, li_9, li_10, li_13, li_14, li_15, li_16, li_31, li_35, li_47, li_48, li_49, li_50, li_57, li_99, li_100, li_126, li_139, li_140, li_149, li_150, li_280, li_284, li_285, li_290, li_434, li_1260, li_3472, li_9999, li_65536, nm, nm_w, sf_w, cp_w, ld_I, sa_I, nI_add, pk_mul, Nat.zero_add, nI_leI, nI_ltI, nI_eq, nI_neM, M_neI, nI_ltM, nI_nltM, M_ltI, M_leI, nI_nleM, bnd_some, if_pos, if_neg, dif_t, dif_f, t136_M h hI hl hlx, sn]
    · simp (disch := omega) only [↓jM_e, li_0, li_1, li_2, li_3, li_4, li_5, li_6, li_7, li_8, li_9, li_10, li_13, li_14, li_15, li_16, li_31, li_35, li_47, li_48, li_49, li_50, li_57, li_99, li_100, li_126, li_139, li_140, li_149, li_150, li_280, li_284, li_285, li_290, li_434, li_1260, li_3472, li_9999, li_65536, nm, nm_w, sf_w, cp_w, ld_I, sa_I, nI_add, pk_mul, Nat.zero_add, nI_leI, nI_ltI, nI_eq, nI_neM, M_neI, nI_ltM, nI_nltM, M_ltI, M_leI, nI_nleM, bnd_some, if_pos, if_neg, dif_t, dif_f, t136_M h hI hl hlx, sn]
theorem tgS_nn (hI : iS B S) {a : Nat} (ha : a < 16) (hx : S 3 a ≠ jM) : (tgS S a < nI 0) = (tgS S a = jM) ∧ (nI 0 ≤ tgS S a) = ¬ (tgS S a = jM) := by
  rcases tgS_v hI ha hx with h | ⟨c, hc, ec, -⟩
  · rw [h]
    exact ⟨by decide, by decide⟩
  · rw [ec]
    have e1 : (nI c < nI 0) = False := nI_nleM (by omega)
    have e2 : (nI c = jM) = False := nI_neM (by omega)
    have e3 : (nI 0 ≤ nI c) = True := eq_true (nI_le (Nat.zero_le c) (by omega))
    rw [e1, e2, e3]
    exact ⟨rfl, by simp⟩
theorem se_M (h : RelM S (v 158)) (hI : iS B S) {a : Nat} (ha : a < 16) (hx : S 3 a ≠ jM) : fX7_isSettled (nI a) v = some (if seS S a = true then nI 1 else nI 0) := by
  unfold fX7_isSettled seS
  rw [tg_M h hI ha hx]
  simp (disch := omega) only [↓jM_e, li_0, li_1, li_2, li_3, li_4, li_5, li_6, li_7, li_8, li_9, li_10, li_13, li_14, li_15, li_16, li_31, li_35, li_47, li_48, li_49, li_50, li_57, li_99, li_100, li_126, li_139, li_140, li_149, li_150, li_280, li_284, li_285, li_290, li_434, li_1260, li_3472, li_9999, li_65536, nm, nm_w, sf_w, cp_w, ld_I, sa_I, nI_add, pk_mul, Nat.zero_add, nI_leI, nI_ltI, nI_eq, nI_neM, M_neI, nI_ltM, nI_nltM, M_ltI, M_leI, nI_nleM, bnd_some, if_pos, if_neg, dif_t, dif_f, at_M ha (show 1 < 9 by decide), (rm h ha hx).1, (tgS_nn hI ha hx).1]
  by_cases h1 : tgS S a = jM
  · simp [h1]
  · by_cases h2 : tgS S a = S 3 a
    · have h3 : ¬ S 3 a = jM := h2 ▸ h1
      simp [h2, h3]
    · simp [h1, h2]
/-- how many agents -/
theorem my_M (h : RelM S (v 158)) (hK : 16 < K) : fX7_many K v = some (nI (cnI (exS S) 16)) := by
  unfold fX7_many
  refine fx2_go (P := fun t x1 x2 => x2 = nI t ∧ x1 = nI (cnI (exS S) t)) (Q := fun o => o = some (nI (cnI (exS S) 16))) (N := 16) ?_ ⟨rfl, rfl⟩ hK
  intro t x1 x2 ht ⟨e1, e2⟩ k hk
  subst e1 e2
  unfold gX7_many_4
  by_cases ht1 : t = 16
  · subst ht1
    simp (disch := omega) only [↓jM_e, li_0, li_1, li_2, li_3, li_4, li_5, li_6, li_7, li_8, li_9, li_10, li_13, li_14, li_15, li_16, li_31, li_35, li_47, li_48, li_49, li_50, li_57, li_99, li_100, li_126, li_139, li_140, li_149, li_150, li_280, li_284, li_285, li_290, li_434, li_1260, li_3472, li_9999, li_65536, nm, nm_w, sf_w, cp_w, ld_I, sa_I, nI_add, pk_mul, Nat.zero_add, nI_leI, nI_ltI, nI_eq, nI_neM, M_neI, nI_ltM, nI_nltM, M_ltI, M_leI, nI_nleM, bnd_some, if_pos, if_neg, dif_t, dif_f]
  · have ht2 : t < 16 := by omega
    have hs : cnI (exS S) (t + 1) = cnI (exS S) t + (if exS S t = true then 1 else 0) := rfl
    by_cases hx : exS S t = true
    · simp (disch := omega) only [↓jM_e, li_0, li_1, li_2, li_3, li_4, li_5, li_6, li_7, li_8, li_9, li_10, li_13, li_14, li_15, li_16, li_31, li_35, li_47, li_48, li_49, li_50, li_57, li_99, li_100, li_126, li_139, li_140, li_149, li_150, li_280, li_284, li_285, li_290, li_434, li_1260, li_3472, li_9999, li_65536, nm, nm_w, sf_w, cp_w, ld_I, sa_I, nI_add, pk_mul, Nat.zero_add, nI_leI, nI_ltI, nI_eq, nI_neM, M_neI, nI_ltM, nI_nltM, M_ltI, M_leI, nI_nleM, bnd_some, if_pos, if_neg, dif_t, dif_f, ex_M h ht2, if_pos hx]
      exact hk ht2 _ _ ⟨rfl, by rw [hs, if_pos hx]⟩
    · simp (disch := omega) only [↓jM_e, li_0, li_1, li_2, li_3, li_4, li_5, li_6, li_7, li_8, li_9, li_10, li_13, li_14, li_15, li_16, li_31, li_35, li_47, li_48, li_49, li_50, li_57, li_99, li_100, li_126, li_139, li_140, li_149, li_150, li_280, li_284, li_285, li_290, li_434, li_1260, li_3472, li_9999, li_65536, nm, nm_w, sf_w, cp_w, ld_I, sa_I, nI_add, pk_mul, Nat.zero_add, nI_leI, nI_ltI, nI_eq, nI_neM, M_neI, nI_ltM, nI_nltM, M_ltI, M_leI, nI_nleM, bnd_some, if_pos, if_neg, dif_t, dif_f, ex_M h ht2, if_neg hx]
      exact hk ht2 _ _ ⟨rfl, by rw [hs, if_neg hx]⟩
end
