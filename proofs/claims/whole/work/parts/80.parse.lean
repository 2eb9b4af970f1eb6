/-! THE MAP'S TEXT, read -/
def csI (y : Int32) : Int32 := if y = nI 35 then nI 0 else if y < nI 49 then jM else if nI 57 < y then jM else y - nI 48
theorem csI_v (y : Int32) : csI y = jM ∨ ∃ k, k ≤ 9 ∧ csI y = nI k := by
  unfold csI
  by_cases h : y = nI 35
  · rw [if_pos h]; exact Or.inr ⟨0, by decide, rfl⟩
  · rw [if_neg h]
    by_cases h1 : y < nI 49
    · rw [if_pos h1]; exact Or.inl rfl
    · rw [if_neg h1]
      by_cases h2 : nI 57 < y
      · rw [if_pos h2]; exact Or.inl rfl
      · rw [if_neg h2]
        have hp : (y ≤ nI 57) = ¬ (nI 58 ≤ y) := le_pred (n := 57) (by decide)
        have h3 : ¬ nI 58 ≤ y := by rw [← hp]; exact Int32.not_lt.mp h2
        have h0 : ¬ y < nI 0 := fun g => h1 (Int32.lt_of_lt_of_le g (nI_le (by decide) (by decide)))
        obtain ⟨m, hm, rfl⟩ := in_nI h0 h3 (by decide)
        have hm2 : 49 ≤ m := by
          rw [nI_ltI (by omega) (by decide)] at h1
          omega
        exact Or.inr ⟨m - 48, by omega, pk_sub (by omega)⟩
def pSt (L : Nat → Int32) : Nat → Option Nat × Nat × Nat × (Nat → Int32)
  | 0 => (none, 0, 0, fun _ => jM)
  | p + 1 => if (pSt L p).1 = none then (if L p = nI 47 then (if (pSt L p).2.2.1 < 9 then (none, 0, (pSt L p).2.2.1 + 1, (pSt L p).2.2.2) else (some p, (pSt L p).2)) else (if csI (L p) ≠ jM ∧ (pSt L p).2.1 < 14 then (none, (pSt L p).2.1 + 1, (pSt L p).2.2.1, upd (pSt L p).2.2.2 (14 * (pSt L p).2.2.1 + (pSt L p).2.1) (csI (L p))) else (some p, (pSt L p).2))) else pSt L p
theorem pSt_s {L : Nat → Int32} {p c d : Nat} {C : Nat → Int32} (h : pSt L p = (none, c, d, C)) : pSt L (p + 1) = (if L p = nI 47 then (if d < 9 then (none, 0, d + 1, C) else (some p, c, d, C)) else (if csI (L p) ≠ jM ∧ c < 14 then (none, c + 1, d, upd C (14 * d + c) (csI (L p))) else (some p, c, d, C))) := by
  rw [pSt, h]
  exact if_pos rfl
theorem pSt_n {L : Nat → Int32} {p q : Nat} (h : (pSt L p).1 = some q) : pSt L (p + 1) = pSt L p := by
  rw [pSt, if_neg (by rw [h]; exact fun g => by cases g)]
theorem pSt_e {L : Nat → Int32} {p q : Nat} (h : (pSt L p).1 = some q) : ∀ m, pSt L (p + m) = pSt L p
  | 0 => rfl
  | m + 1 => by
    have ih := pSt_e h m
    rw [show p + (m + 1) = (p + m) + 1 from rfl, pSt_n (by rw [ih]; exact h), ih]
theorem pSt_i {L : Nat → Int32} : ∀ p, (pSt L p).2.1 ≤ 14 ∧ (pSt L p).2.2.1 < 10 ∧ (∀ q, (pSt L p).1 = some q → q < p) ∧ ∀ j, (pSt L p).2.2.2 j = jM ∨ ∃ k, k ≤ 9 ∧ (pSt L p).2.2.2 j = nI k
  | 0 => ⟨Nat.zero_le 14, Nat.zero_lt_succ 9, (fun q hq => by cases hq), fun j => Or.inl rfl⟩
  | p + 1 => by
    obtain ⟨h1, h2, h3, h4⟩ := @pSt_i L p
    rw [pSt]
    split
    · split
      · split
        · exact ⟨Nat.zero_le 14, by show (pSt L p).2.2.1 + 1 < 10; omega, (fun q hq => by cases hq), h4⟩
        · exact ⟨h1, h2, (fun q hq => by cases hq; exact Nat.lt_succ_self p), h4⟩
      · split
        · rename_i hc
          refine ⟨hc.2, h2, (fun q hq => by cases hq), fun j => ?_⟩
          show upd (pSt L p).2.2.2 _ _ j = jM ∨ ∃ k, k ≤ 9 ∧ upd (pSt L p).2.2.2 _ _ j = nI k
          by_cases hj : j = 14 * (pSt L p).2.2.1 + (pSt L p).2.1
          · rw [hj, pk_us]; exact csI_v _
          · rw [pk_un hj]; exact h4 j
        · exact ⟨h1, h2, (fun q hq => by cases hq; exact Nat.lt_succ_self p), h4⟩
    · exact ⟨h1, h2, fun q hq => Nat.lt_succ_of_lt (h3 q hq), h4⟩
section
variable {v : sV} {K : Nat} {L : Nat → Int32} {le : Nat}
theorem cs_C {y : Int32} : fX4_costOf y = some (csI y) := by
  unfold fX4_costOf csI
  simp only [↓jM_e, li_0, li_1, li_2, li_3, li_4, li_5, li_6, li_7, li_8, li_9, li_10, li_13, li_14, li_15, li_16, li_31, li_35, li_47, li_48, li_49, li_50, li_57, li_99, li_100, li_126, li_139, li_140, li_149, li_150, li_280, li_284, li_285, li_290, li_434, li_1260, li_3472, li_9999, li_65536]
  split
  · rfl
  · split
    · rfl
    · split <;> rfl
theorem caI_14 {d : Nat} : caI (nI 14) (nI d) = jM := by
  unfold caI
  rw [if_neg (by decide), if_pos (by decide)]
theorem pa_C (he : v 154 1 = nI le) (hL : ∀ i, i < le → v 155 i = L i) (hle : le ≤ 150) (hK : 1000 < K) : ∃ v1, fX4_parse K v = some (oI (pSt L le).1, v1) ∧ (∀ p, p ≠ 156 → v1 p = v p) ∧ ((pSt L le).1 = none → ∀ j, j < 140 → v1 156 j = (pSt L le).2.2.2 j) := by
  obtain ⟨v0, e0, f1, f2⟩ := fill_ex (K := K) (v := v) (p := 156) (N := 140) (y := jM) (by decide) hK
  unfold fX4_parse
  simp (disch := omega) only [↓jM_e, li_0, li_1, li_2, li_3, li_4, li_5, li_6, li_7, li_8, li_9, li_10, li_13, li_14, li_15, li_16, li_31, li_35, li_47, li_48, li_49, li_50, li_57, li_99, li_100, li_126, li_139, li_140, li_149, li_150, li_280, li_284, li_285, li_290, li_434, li_1260, li_3472, li_9999, li_65536, nm, nm_w, sf_w, cp_w, ld_I, sa_I, nI_add, pk_mul, Nat.zero_add, nI_leI, nI_ltI, nI_eq, nI_neM, M_neI, nI_ltM, nI_nltM, M_ltI, M_leI, nI_nleM, bnd_some, if_pos, if_neg, dif_t, dif_f, e0]
  refine fx4_go (P := fun t x1 x2 x3 (w : sV) => ∃ (c d : Nat) (C : Nat → Int32), pSt L t = (none, c, d, C) ∧ x1 = nI c ∧ x2 = nI d ∧ x3 = nI t ∧ (∀ j, j < 140 → w 156 j = C j) ∧ ∀ p, p ≠ 156 → w p = v p) (Q := fun o => ∃ v1 : sV, o = some (oI (pSt L le).1, v1) ∧ (∀ p, p ≠ 156 → v1 p = v p) ∧ ((pSt L le).1 = none → ∀ j, j < 140 → v1 156 j = (pSt L le).2.2.2 j)) (N := le) ?_ ⟨0, 0, fun _ => jM, rfl, rfl, rfl, rfl, fun j hj => f2 j hj, f1⟩ (by omega)
  intro t x1 x2 x3 w ht ⟨c, d, C, hs, e1, e2, e3, hC, hf⟩ k hk
  subst e1 e2 e3
  have hi := @pSt_i L t
  rw [hs] at hi
  obtain ⟨hc, hd, -, -⟩ := hi
  have hc : c ≤ 14 := hc
  have hd : d < 10 := hd
  have e154 : w 154 1 = nI le := by rw [hf 154 (by decide)]; exact he
  unfold gX4_parse_14
  by_cases htl : t = le
  · subst htl
    simp (disch := omega) only [↓jM_e, li_0, li_1, li_2, li_3, li_4, li_5, li_6, li_7, li_8, li_9, li_10, li_13, li_14, li_15, li_16, li_31, li_35, li_47, li_48, li_49, li_50, li_57, li_99, li_100, li_126, li_139, li_140, li_149, li_150, li_280, li_284, li_285, li_290, li_434, li_1260, li_3472, li_9999, li_65536, nm, nm_w, sf_w, cp_w, ld_I, sa_I, nI_add, pk_mul, Nat.zero_add, nI_leI, nI_ltI, nI_eq, nI_neM, M_neI, nI_ltM, nI_nltM, M_ltI, M_leI, nI_nleM, bnd_some, if_pos, if_neg, dif_t, dif_f, e154]
    refine ⟨w, by rw [hs]; rfl, hf, fun _ j hj => ?_⟩
    rw [hC j hj, hs]
  · have hlt : t < le := by omega
    have e155 : w 155 t = L t := by rw [hf 155 (by decide)]; exact hL t hlt
    have hn := pSt_s hs
    have herr : pSt L (t + 1) = (some t, c, d, C) → ∃ v1 : sV, some (nI t, w) = some (oI (pSt L le).1, v1) ∧ (∀ p, p ≠ 156 → v1 p = v p) ∧ ((pSt L le).1 = none → ∀ j, j < 140 → v1 156 j = (pSt L le).2.2.2 j) := by
      intro h
      have h2 := pSt_e (q := t) (by rw [h]) (le - (t + 1))
      rw [show t + 1 + (le - (t + 1)) = le by omega, h] at h2
      rw [h2]
      exact ⟨w, rfl, hf, fun g => by cases g⟩
    by_cases h47 : L t = nI 47
    · rw [if_pos h47] at hn
      rw [h47] at e155
      by_cases hd9 : d < 9
      · rw [if_pos hd9] at hn
        simp (disch := omega) only [↓jM_e, li_0, li_1, li_2, li_3, li_4, li_5, li_6, li_7, li_8, li_9, li_10, li_13, li_14, li_15, li_16, li_31, li_35, li_47, li_48, li_49, li_50, li_57, li_99, li_100, li_126, li_139, li_140, li_149, li_150, li_280, li_284, li_285, li_290, li_434, li_1260, li_3472, li_9999, li_65536, nm, nm_w, sf_w, cp_w, ld_I, sa_I, nI_add, pk_mul, Nat.zero_add, nI_leI, nI_ltI, nI_eq, nI_neM, M_neI, nI_ltM, nI_nltM, M_ltI, M_leI, nI_nleM, bnd_some, if_pos, if_neg, dif_t, dif_f, e154, e155]
        exact hk hlt _ _ _ _ ⟨0, d + 1, C, hn, rfl, rfl, rfl, hC, hf⟩
      · rw [if_neg hd9] at hn
        simp (disch := omega) only [↓jM_e, li_0, li_1, li_2, li_3, li_4, li_5, li_6, li_7, li_8, li_9, li_10, li_13, li_14, li_15, li_16, li_31, li_35, li_47, li_48, li_49, li_50, li_57, li_99, li_100, li_126, li_139, li_140, li_149, li_150, li_280, li_284, li_285, li_290, li_434, li_1260, li_3472, li_9999, li_65536, nm, nm_w, sf_w, cp_w, ld_I, sa_I, nI_add, pk_mul, Nat.zero_add, nI_leI, nI_ltI, nI_eq, nI_neM, M_neI, nI_ltM, nI_nltM, M_ltI, M_leI, nI_nleM, bnd_some, if_pos, if_neg, dif_t, dif_f, e154, e155]
        exact herr hn
    · rw [if_neg h47] at hn
      by_cases hc14 : c < 14
      · have hq : 14 * d + c < 140 := by omega
        rcases csI_v (L t) with h1 | ⟨y, hy, h1⟩
        · rw [if_neg (fun g => g.1 h1)] at hn
          simp (disch := omega) only [↓jM_e, li_0, li_1, li_2, li_3, li_4, li_5, li_6, li_7, li_8, li_9, li_10, li_13, li_14, li_15, li_16, li_31, li_35, li_47, li_48, li_49, li_50, li_57, li_99, li_100, li_126, li_139, li_140, li_149, li_150, li_280, li_284, li_285, li_290, li_434, li_1260, li_3472, li_9999, li_65536, nm, nm_w, sf_w, cp_w, ld_I, sa_I, nI_add, pk_mul, Nat.zero_add, nI_leI, nI_ltI, nI_eq, nI_neM, M_neI, nI_ltM, nI_nltM, M_ltI, M_leI, nI_nleM, bnd_some, if_pos, if_neg, dif_t, dif_f, e154, e155, if_neg h47, ca_C, caI_n hc14 hd, cs_C, h1]
          exact herr hn
        · rw [if_pos ⟨by rw [h1, ne_eq, nI_neM (by omega)]; exact id, hc14⟩, h1] at hn
          simp (disch := omega) only [↓jM_e, li_0, li_1, li_2, li_3, li_4, li_5, li_6, li_7, li_8, li_9, li_10, li_13, li_14, li_15, li_16, li_31, li_35, li_47, li_48, li_49, li_50, li_57, li_99, li_100, li_126, li_139, li_140, li_149, li_150, li_280, li_284, li_285, li_290, li_434, li_1260, li_3472, li_9999, li_65536, nm, nm_w, sf_w, cp_w, ld_I, sa_I, nI_add, pk_mul, Nat.zero_add, nI_leI, nI_ltI, nI_eq, nI_neM, M_neI, nI_ltM, nI_nltM, M_ltI, M_leI, nI_nleM, bnd_some, if_pos, if_neg, dif_t, dif_f, e154, e155, if_neg h47, ca_C, caI_n hc14 hd, cs_C, h1]
          refine hk hlt _ _ _ _ ⟨c + 1, d, _, hn, rfl, rfl, rfl, fun j hj => ?_, fun p hp => by rw [s2_ne hp]; exact hf p hp⟩
          rw [s2_upd]
          by_cases hjq : j = 14 * d + c
          · rw [hjq, pk_us, pk_us]
          · rw [pk_un hjq, pk_un hjq]; exact hC j hj
      · have hc15 : c = 14 := by omega
        subst hc15
        rw [if_neg (fun g => hc14 g.2)] at hn
        simp (disch := omega) only [↓jM_e, li_0, li_1, li_2, li_3, li_4, li_5, li_6, li_7, li_8, li_9, li_10, li_13, li_14, li_15, li_16, li_31, li_35, li_47, li_48, li_49, li_50, li_57, li_99, li_100, li_126, li_139, li_140, li_149, li_150, li_280, li_284, li_285, li_290, li_434, li_1260, li_3472, li_9999, li_65536, nm, nm_w, sf_w, cp_w, ld_I, sa_I, nI_add, pk_mul, Nat.zero_add, nI_leI, nI_ltI, nI_eq, nI_neM, M_neI, nI_ltM, nI_nltM, M_ltI, M_leI, nI_nleM, bnd_some, if_pos, if_neg, dif_t, dif_f, e154, e155, if_neg h47, ca_C, caI_14, cs_C]
        exact herr hn
theorem cs_M {y : Int32} : (csI y = jM ∧ ¬ y = nI 35 ∧ ¬ (nI 49 ≤ y ∧ y ≤ nI 57)) ∨ (y = nI 35 ∧ csI y = nI 0) ∨ (¬ y = nI 35 ∧ (nI 49 ≤ y ∧ y ≤ nI 57) ∧ csI y = y - nI 48 ∧ csI y ≠ jM) := by
  by_cases h : y = nI 35
  · exact Or.inr (Or.inl ⟨h, by unfold csI; rw [if_pos h]⟩)
  · by_cases h2 : nI 49 ≤ y ∧ y ≤ nI 57
    · have hp : (y ≤ nI 57) = ¬ (nI 58 ≤ y) := le_pred (n := 57) (by decide)
      have e : csI y = y - nI 48 := by
        unfold csI
        rw [if_neg h, if_neg (Int32.not_lt.mpr h2.1), if_neg (Int32.not_lt.mpr h2.2)]
      refine Or.inr (Or.inr ⟨h, h2, e, ?_⟩)
      have h0 : ¬ y < nI 0 := fun g => Int32.not_lt.mpr h2.1 (Int32.lt_of_lt_of_le g (nI_le (by decide) (by decide)))
      obtain ⟨m, hm, rfl⟩ := in_nI h0 (show ¬ nI 58 ≤ y by rw [← hp]; exact h2.2) (by decide)
      have hm2 : 49 ≤ m := by
        have := h2.1
        rw [nI_leI (by decide) (by omega)] at this
        exact this
      rw [e, pk_sub (by omega), ne_eq, nI_neM (by omega)]
      exact id
    · refine Or.inl ⟨?_, h, h2⟩
      unfold csI
      rw [if_neg h]
      by_cases h3 : y < nI 49
      · rw [if_pos h3]
      · rw [if_neg h3, if_pos (Int32.not_le.mp (fun g => h2 ⟨Int32.not_lt.mp h3, g⟩))]
theorem rd_M (he : v 157 15 = nI le) (hL : ∀ i, i < le → v 168 i = L i) (hle : le ≤ 150) (hK : 1000 < K) : ∃ v1, fX7_reads K v = some (oI (pSt L le).1, v1) ∧ (∀ p, p ≠ 169 → v1 p = v p) ∧ ((pSt L le).1 = none → ∀ j, j < 140 → v1 169 j = (pSt L le).2.2.2 j) := by
  have hmain : ∀ v0 : sV, (∀ p, p ≠ 169 → v0 p = v p) → (∀ j, j < 140 → v0 169 j = jM) → ∃ v1, fx4 (gX7_reads_28 K) K (nI 0) (nI 0) (nI 0) v0 = some (oI (pSt L le).1, v1) ∧ (∀ p, p ≠ 169 → v1 p = v p) ∧ ((pSt L le).1 = none → ∀ j, j < 140 → v1 169 j = (pSt L le).2.2.2 j) := by
    intro v0 f1 f2
    refine fx4_go (P := fun t x1 x2 x3 (w : sV) => ∃ (c d : Nat) (C : Nat → Int32), pSt L t = (none, c, d, C) ∧ x1 = nI c ∧ x2 = nI d ∧ x3 = nI t ∧ (∀ j, j < 140 → w 169 j = C j) ∧ ∀ p, p ≠ 169 → w p = v p) (Q := fun o => ∃ v1 : sV, o = some (oI (pSt L le).1, v1) ∧ (∀ p, p ≠ 169 → v1 p = v p) ∧ ((pSt L le).1 = none → ∀ j, j < 140 → v1 169 j = (pSt L le).2.2.2 j)) (N := le) ?_ ⟨0, 0, fun _ => jM, rfl, rfl, rfl, rfl, fun j hj => f2 j hj, f1⟩ (by omega)
    intro t x1 x2 x3 w ht ⟨c, d, C, hs, e1, e2, e3, hC, hf⟩ k hk
    subst e1 e2 e3
    have hi := @pSt_i L t
    rw [hs] at hi
    obtain ⟨hc, hd, -, -⟩ := hi
    have hc : c ≤ 14 := hc
    have hd : d < 10 := hd
    have e154 : w 157 15 = nI le := by rw [hf 157 (by decide)]; exact he
    unfold gX7_reads_28
    by_cases htl : t = le
    · subst htl
      simp (disch := omega) only [↓jM_e, li_0, li_1, li_2, li_3, li_4, li_5, li_6, li_7, li_8, li_9, li_10, li_13, li_14, li_15, li_16, li_31, li_35, li_47, li_48, li_49, li_50, li_57, li_99, li_100, li_126, li_139, li_140, li_149, li_150, li_280, li_284, li_285, li_290, li_434, li_1260, li_3472, li_9999, li_65536, nm, nm_w, sf_w, cp_w, ld_I, sa_I, nI_add, pk_mul, Nat.zero_add, nI_leI, nI_ltI, nI_eq, nI_neM, M_neI, nI_ltM, nI_nltM, M_ltI, M_leI, nI_nleM, bnd_some, if_pos, if_neg, dif_t, dif_f, e154]
      refine ⟨w, by rw [hs]; rfl, hf, fun _ j hj => ?_⟩
      rw [hC j hj, hs]
    · have hlt : t < le := by omega
      have e155 : w 168 t = L t := by rw [hf 168 (by decide)]; exact hL t hlt
      have hn := pSt_s hs
      have herr : pSt L (t + 1) = (some t, c, d, C) → ∃ v1 : sV, some (nI t, w) = some (oI (pSt L le).1, v1) ∧ (∀ p, p ≠ 169 → v1 p = v p) ∧ ((pSt L le).1 = none → ∀ j, j < 140 → v1 169 j = (pSt L le).2.2.2 j) := by
        intro h
        have h2 := pSt_e (q := t) (by rw [h]) (le - (t + 1))
        rw [show t + 1 + (le - (t + 1)) = le by omega, h] at h2
        rw [h2]
        exact ⟨w, rfl, hf, fun g => by cases g⟩
      unfold bX7_reads_61 bX7_reads_88
      by_cases h47 : L t = nI 47
      · rw [if_pos h47] at hn
        rw [h47] at e155
        by_cases hd9 : d < 9
        · rw [if_pos hd9] at hn
          simp (disch := omega) only [↓jM_e, li_0, li_1, li_2, li_3, li_4, li_5, li_6, li_7, li_8, li_9, li_10, li_13, li_14, li_15, li_16, li_31, li_35, li_47, li_48, li_49, li_50, li_57, li_99, li_100, li_126, li_139, li_140, li_149, li_150, li_280, li_284, li_285, li_290, li_434, li_1260, li_3472, li_9999, li_65536, nm, nm_w, sf_w, cp_w, ld_I, sa_I, nI_add, pk_mul, Nat.zero_add, nI_leI, nI_ltI, nI_eq, nI_neM, M_neI, nI_ltM, nI_nltM, M_ltI, M_leI, nI_nleM, bnd_some, if_pos, if_neg, dif_t, dif_f, e154, e155]
          exact hk hlt _ _ _ _ ⟨0, d + 1, C, hn, rfl, rfl, rfl, hC, hf⟩
        · rw [if_neg hd9] at hn
          simp (disch := omega) only [↓jM_e, li_0, li_1, li_2, li_3, li_4, li_5, li_6, li_7, li_8, li_9, li_10, li_13, li_14, li_15, li_16, li_31, li_35, li_47, li_48, li_49, li_50, li_57, li_99, li_100, li_126, li_139, li_140, li_149, li_150, li_280, li_284, li_285, li_290, li_434, li_1260, li_3472, li_9999, li_65536, nm, nm_w, sf_w, cp_w, ld_I, sa_I, nI_add, pk_mul, Nat.zero_add, nI_leI, nI_ltI, nI_eq, nI_neM, M_neI, nI_ltM, nI_nltM, M_ltI, M_leI, nI_nleM, bnd_some, if_pos, if_neg, dif_t, dif_f, e154, e155, ii_M]
          exact herr hn
      · rw [if_neg h47] at hn
        rcases @cs_M (L t) with ⟨h1, h2, h3⟩ | ⟨h2, h1⟩ | ⟨h2, h3, h1, h4⟩
        · rw [if_neg (fun g => g.1 h1)] at hn
          simp (disch := omega) only [↓jM_e, li_0, li_1, li_2, li_3, li_4, li_5, li_6, li_7, li_8, li_9, li_10, li_13, li_14, li_15, li_16, li_31, li_35, li_47, li_48, li_49, li_50, li_57, li_99, li_100, li_126, li_139, li_140, li_149, li_150, li_280, li_284, li_285, li_290, li_434, li_1260, li_3472, li_9999, li_65536, nm, nm_w, sf_w, cp_w, ld_I, sa_I, nI_add, pk_mul, Nat.zero_add, nI_leI, nI_ltI, nI_eq, nI_neM, M_neI, nI_ltM, nI_nltM, M_ltI, M_leI, nI_nleM, bnd_some, if_pos, if_neg, dif_t, dif_f, e154, e155, if_neg h47, if_neg h2, ii_M, if_neg h3]
          exact herr hn
        · by_cases hc14 : c < 14
          · have hq : 14 * d + c < 140 := by omega
            have hcaM := ca_M (x := nI c) (y := nI d) (by rw [caI_n hc14 hd, ne_eq, nI_neM (by omega)]; exact id)
            rw [caI_n hc14 hd] at hcaM
            rw [if_pos ⟨by rw [h1]; decide, hc14⟩, h1] at hn
            rw [h2] at e155
            simp (disch := omega) only [↓jM_e, li_0, li_1, li_2, li_3, li_4, li_5, li_6, li_7, li_8, li_9, li_10, li_13, li_14, li_15, li_16, li_31, li_35, li_47, li_48, li_49, li_50, li_57, li_99, li_100, li_126, li_139, li_140, li_149, li_150, li_280, li_284, li_285, li_290, li_434, li_1260, li_3472, li_9999, li_65536, nm, nm_w, sf_w, cp_w, ld_I, sa_I, nI_add, pk_mul, Nat.zero_add, nI_leI, nI_ltI, nI_eq, nI_neM, M_neI, nI_ltM, nI_nltM, M_ltI, M_leI, nI_nleM, bnd_some, if_pos, if_neg, dif_t, dif_f, e154, e155, hcaM]
            refine hk hlt _ _ _ _ ⟨c + 1, d, _, hn, rfl, rfl, rfl, fun j hj => ?_, fun p hp => by rw [s2_ne hp]; exact hf p hp⟩
            rw [s2_upd]
            by_cases hjq : j = 14 * d + c
            · rw [hjq, pk_us, pk_us]
            · rw [pk_un hjq, pk_un hjq]; exact hC j hj
          · have hc15 : c = 14 := by omega
            subst hc15
            rw [if_neg (fun g => hc14 g.2)] at hn
            rw [h2] at e155
            simp (disch := omega) only [↓jM_e, li_0, li_1, li_2, li_3, li_4, li_5, li_6, li_7, li_8, li_9, li_10, li_13, li_14, li_15, li_16, li_31, li_35, li_47, li_48, li_49, li_50, li_57, li_99, li_100, li_126, li_139, li_140, li_149, li_150, li_280, li_284, li_285, li_290, li_434, li_1260, li_3472, li_9999, li_65536, nm, nm_w, sf_w, cp_w, ld_I, sa_I, nI_add, pk_mul, Nat.zero_add, nI_leI, nI_ltI, nI_eq, nI_neM, M_neI, nI_ltM, nI_nltM, M_ltI, M_leI, nI_nleM, bnd_some, if_pos, if_neg, dif_t, dif_f, e154, e155]
            exact herr hn
        · by_cases hc14 : c < 14
          · have hq : 14 * d + c < 140 := by omega
            have hcaM := ca_M (x := nI c) (y := nI d) (by rw [caI_n hc14 hd, ne_eq, nI_neM (by omega)]; exact id)
            rw [caI_n hc14 hd] at hcaM
            rw [if_pos ⟨h4, hc14⟩, h1] at hn
            simp (disch := omega) only [↓jM_e, li_0, li_1, li_2, li_3, li_4, li_5, li_6, li_7, li_8, li_9, li_10, li_13, li_14, li_15, li_16, li_31, li_35, li_47, li_48, li_49, li_50, li_57, li_99, li_100, li_126, li_139, li_140, li_149, li_150, li_280, li_284, li_285, li_290, li_434, li_1260, li_3472, li_9999, li_65536, nm, nm_w, sf_w, cp_w, ld_I, sa_I, nI_add, pk_mul, Nat.zero_add, nI_leI, nI_ltI, nI_eq, nI_neM, M_neI, nI_ltM, nI_nltM, M_ltI, M_leI, nI_nleM, bnd_some, if_pos, if_neg, dif_t, dif_f, e154, e155, if_neg h47, if_neg h2, ii_M, if_pos h3, hcaM]
            refine hk hlt _ _ _ _ ⟨c + 1, d, _, hn, rfl, rfl, rfl, fun j hj => ?_, fun p hp => by rw [s2_ne hp]; exact hf p hp⟩
            rw [s2_upd]
            by_cases hjq : j = 14 * d + c
            · rw [hjq, pk_us, pk_us]
            · rw [pk_un hjq, pk_un hjq]; exact hC j hj
          · have hc15 : c = 14 := by omega
            subst hc15
            rw [if_neg (fun g => hc14 g.2)] at hn
            simp (disch := omega) only [↓jM_e, li_0, li_1, li_2, li_3, li_4, li_5, li_6, li_7, li_8, li_9, li_10, li_13, li_14, li_15, li_16, li_31, li_35, li_47, li_48, li_49, li_50, li_57, li_99, li_100, li_126, li_139, li_140, li_149, li_150, li_280, li_284, li_285, li_290, li_434, li_1260, li_3472, li_9999, li_65536, nm, nm_w, sf_w, cp_w, ld_I, sa_I, nI_add, pk_mul, Nat.zero_add, nI_leI, nI_ltI, nI_eq, nI_neM, M_neI, nI_ltM, nI_nltM, M_ltI, M_leI, nI_nleM, bnd_some, if_pos, if_neg, dif_t, dif_f, e154, e155, if_neg h47, if_neg h2, ii_M, if_pos h3]
            exact herr hn
  unfold fX7_reads
  refine fx2_go (P := fun t x3 (w : sV) => x3 = nI t ∧ (∀ p, p ≠ 169 → w p = v p) ∧ ∀ j, j < t → w 169 j = jM) (Q := fun o => ∃ v1 : sV, o = some (oI (pSt L le).1, v1) ∧ (∀ p, p ≠ 169 → v1 p = v p) ∧ ((pSt L le).1 = none → ∀ j, j < 140 → v1 169 j = (pSt L le).2.2.2 j)) (N := 140) ?_ ⟨rfl, fun _ _ => rfl, fun j hj => absurd hj (Nat.not_lt_zero j)⟩ (by omega)
  intro t x3 w ht ⟨e1, h1, h2⟩ k hk
  subst e1
  unfold gX7_reads_6
  by_cases ht1 : t = 140
  · subst ht1
    simp (disch := omega) only [↓jM_e, li_0, li_1, li_2, li_3, li_4, li_5, li_6, li_7, li_8, li_9, li_10, li_13, li_14, li_15, li_16, li_31, li_35, li_47, li_48, li_49, li_50, li_57, li_99, li_100, li_126, li_139, li_140, li_149, li_150, li_280, li_284, li_285, li_290, li_434, li_1260, li_3472, li_9999, li_65536, nm, nm_w, sf_w, cp_w, ld_I, sa_I, nI_add, pk_mul, Nat.zero_add, nI_leI, nI_ltI, nI_eq, nI_neM, M_neI, nI_ltM, nI_nltM, M_ltI, M_leI, nI_nleM, bnd_some, if_pos, if_neg, dif_t, dif_f]
    exact hmain w h1 h2
  · have hlt : t < 140 := by omega
    simp (disch := omega) only [↓jM_e, li_0, li_1, li_2, li_3, li_4, li_5, li_6, li_7, li_8, li_9, li_10, li_13, li_14, li_15, li_16, li_31, li_35, li_47, li_48, li_49, li_50, li_57, li_99, li_100, li_126, li_139, li_140, li_149, li_150, li_280, li_284, li_285, li_290, li_434, li_1260, li_3472, li_9999, li_65536, nm, nm_w, sf_w, cp_w, ld_I, sa_I, nI_add, pk_mul, Nat.zero_add, nI_leI, nI_ltI, nI_eq, nI_neM, M_neI, nI_ltM, nI_nltM, M_ltI, M_leI, nI_nleM, bnd_some, if_pos, if_neg, dif_t, dif_f]
    refine hk hlt _ _ ⟨rfl, fun p hp => by rw [s2_ne hp]; exact h1 p hp, fun j hj => ?_⟩
    rw [s2_upd]
    by_cases hjt : j = t
    · rw [hjt, pk_us]
    · rw [pk_un hjt]; exact h2 j (by omega)
end
