/-! readMap -/
def bdS (S : aS) (C : Nat → Int32) (t : Nat) : Bool := decide (C t = nI 0) && inU S t
def rdS (S : aS) (C : Nat → Int32) (m : Nat) : aS := fun j i => if j = 0 ∧ i < m ∧ C i ≠ jM then C i else S j i
def rdN (C : Nat → Int32) (t : Nat) : Bool := !decide (C t = jM)
theorem s2_self {w : sV} {p i : Nat} {y : Int32} (h : w p i = y) : s2 w p i y = w := by
  funext q j
  show (if q = p ∧ j = i then y else w q j) = w q j
  by_cases hq : q = p ∧ j = i
  · rw [if_pos hq, hq.1, hq.2]; exact h.symm
  · rw [if_neg hq]
theorem rdS_0 {S : aS} {C : Nat → Int32} : rdS S C 0 = S := by
  funext j i
  unfold rdS
  rw [if_neg (fun g => Nat.not_lt_zero i g.2.1)]
theorem rdS_m {S : aS} {C : Nat → Int32} {t : Nat} (h : C t = jM) : rdS S C (t + 1) = rdS S C t := by
  funext j i
  unfold rdS
  have e : (j = 0 ∧ i < t + 1 ∧ C i ≠ jM) = (j = 0 ∧ i < t ∧ C i ≠ jM) := propext ⟨fun ⟨g1, g2, g3⟩ => ⟨g1, (by have : i ≠ t := fun e => g3 (by rw [e]; exact h); omega), g3⟩, fun ⟨g1, g2, g3⟩ => ⟨g1, Nat.lt_succ_of_lt g2, g3⟩⟩
  simp only [e]
theorem rdS_y {S : aS} {C : Nat → Int32} {t : Nat} (h : C t ≠ jM) : rdS S C (t + 1) = s2 (rdS S C t) 0 t (C t) := by
  funext j i
  show (if j = 0 ∧ i < t + 1 ∧ C i ≠ jM then C i else S j i) = (if j = 0 ∧ i = t then C t else if j = 0 ∧ i < t ∧ C i ≠ jM then C i else S j i)
  by_cases hj : j = 0 ∧ i = t
  · rw [if_pos hj, if_pos ⟨hj.1, by omega, by rw [hj.2]; exact h⟩, hj.2]
  · rw [if_neg hj]
    have e : (j = 0 ∧ i < t + 1 ∧ C i ≠ jM) = (j = 0 ∧ i < t ∧ C i ≠ jM) := propext ⟨fun ⟨g1, g2, g3⟩ => ⟨g1, by omega, g3⟩, fun ⟨g1, g2, g3⟩ => ⟨g1, Nat.lt_succ_of_lt g2, g3⟩⟩
    simp only [e]
theorem rdS_o {S : aS} {C : Nat → Int32} {m j : Nat} (h : j ≠ 0) : rdS S C m j = S j := by
  funext i
  unfold rdS
  rw [if_neg (fun g => h g.1)]
theorem iS_rd {S : aS} {B : Nat} {C : Nat → Int32} (h : iS B S) (hC : ∀ j, C j = jM ∨ ∃ k, k ≤ 9 ∧ C j = nI k) (hb : ∀ t, t < 140 → bdS S C t = false) : iS B (rdS S C 140) := by
  have hco : ∀ i, i < 140 → (C i = jM ∧ rdS S C 140 0 i = S 0 i ∧ coS (rdS S C 140) i = coS S i) ∨ ∃ k, k ≤ 9 ∧ C i = nI k ∧ rdS S C 140 0 i = nI k ∧ coS (rdS S C 140) i = k := by
    intro i hi
    rcases hC i with h1 | ⟨k, hk, h1⟩
    · have e : rdS S C 140 0 i = S 0 i := by
        unfold rdS
        rw [if_neg (fun g => g.2.2 h1)]
      exact Or.inl ⟨h1, e, by unfold coS; rw [e]⟩
    · have e : rdS S C 140 0 i = nI k := by
        unfold rdS
        rw [if_pos ⟨rfl, hi, by rw [h1, ne_eq, nI_neM (by omega)]; exact id⟩, h1]
      exact Or.inr ⟨k, hk, h1, e, by unfold coS; rw [e, clI_n (by omega)]⟩
  have hCc : ∀ z, isC S z → (∀ q, q < 140 → z = nI q → inU S q = true) → isC (rdS S C 140) z := by
    intro z ⟨q, hq, e, h0⟩ hz
    refine ⟨q, hq, e, ?_⟩
    rcases hco q hq with ⟨_, _, h3⟩ | ⟨k, hk, h1, _, h3⟩
    · rw [h3]; exact h0
    · rw [h3]
      intro hk0
      have := hb q hq
      unfold bdS at this
      rw [hz q hq e, h1, hk0] at this
      simp at this
  obtain ⟨h1, h2, h3, h4, h5, h6⟩ := h
  unfold iS
  rw [rdS_o (j := 1) (by decide), rdS_o (j := 2) (by decide), rdS_o (j := 3) (by decide), rdS_o (j := 4) (by decide), rdS_o (j := 5) (by decide), rdS_o (j := 6) (by decide), rdS_o (j := 8) (by decide)]
  refine ⟨fun i hi => ?_, fun g hg => ?_, fun a ha => ?_, h4, h5, h6⟩
  · rcases hco i hi with ⟨-, e2, e3⟩ | ⟨k, hk, -, e2, e3⟩
    · rw [e2, e3]; exact h1 i hi
    · rw [e2, e3]; exact ⟨rfl, hk⟩
  · refine (h2 g hg).imp id (fun g2 => hCc _ g2 (fun q hq e => ?_))
    cases hu : inU S q with
    | true => rfl
    | false =>
      unfold inU at hu
      simp only [Bool.or_eq_false_iff, Option.isSome_eq_false_iff, Option.isNone_iff_eq_none] at hu
      have := ffI_n hu.2 g (Nat.zero_le g) (by omega)
      exact absurd e (of_decide_eq_false this)
  · refine (h3 a ha).imp id (fun g2 => hCc _ g2 (fun q hq e => ?_))
    cases hu : inU S q with
    | true => rfl
    | false =>
      unfold inU at hu
      simp only [Bool.or_eq_false_iff, Option.isSome_eq_false_iff, Option.isNone_iff_eq_none] at hu
      have := ffI_n hu.1 a (Nat.zero_le a) (by omega)
      exact absurd e (of_decide_eq_false this)
section
variable {v : sV} {K n : Nat} {r : sR} {W : aW} {B : Nat} {x : Int64 × UInt64} {S : aS} {C : Nat → Int32}
theorem ri_C (h : RelC 1 S v) (he : ∀ j, j < 140 → v 156 j = C j) (hC : ∀ j, C j = jM ∨ ∃ k, k ≤ 9 ∧ C j = nI k) (hK : 1000 < K) : (cnI (bdS S C) 140 ≠ 0 ∧ fx4 (gX6_readMap_27 K) K (nI 0) r v n = some (Sum.inr 3, r, v, 0)) ∨ (cnI (bdS S C) 140 = 0 ∧ fx4 (gX6_readMap_27 K) K (nI 0) r v n = (fX3_record K 1 r v n).bind (fun q9 => ac q9 n (fun _ rr4 v4 n4 => ck (sSh rr4) (fx5 (gX6_readMap_89 K) K (nI 0) (nI 0) rr4 v4 n4)))) := by
  refine fx4_go (P := fun t x1 (r' : sR) (w : sV) (n' : Nat) => x1 = nI t ∧ r' = r ∧ w = v ∧ n' = n ∧ cnI (bdS S C) t = 0) (Q := fun o => (cnI (bdS S C) 140 ≠ 0 ∧ o = some (Sum.inr 3, r, v, 0)) ∨ (cnI (bdS S C) 140 = 0 ∧ o = (fX3_record K 1 r v n).bind (fun q9 => ac q9 n (fun _ rr4 v4 n4 => ck (sSh rr4) (fx5 (gX6_readMap_89 K) K (nI 0) (nI 0) rr4 v4 n4))))) (N := 140) ?_ ⟨rfl, rfl, rfl, rfl, rfl⟩ (by omega)
  intro t x1 r' w n' ht ⟨e1, e2, e3, e4, h0⟩ k hk
  subst e1 e2 e3 e4
  unfold gX6_readMap_27
  have hs : cnI (bdS S C) (t + 1) = cnI (bdS S C) t + (if bdS S C t = true then 1 else 0) := rfl
  by_cases ht1 : t = 140
  · subst ht1
    simp (disch := omega) only [↓jM_e, li_0, li_1, li_2, li_3, li_4, li_5, li_6, li_7, li_8, li_9, li_10, li_13, li_14, li_15, li_16, li_31, li_35, li_47, li_48, li_49, li_50, li_57, li_99, li_100, li_126, li_139, li_140, li_149, li_150, li_280, li_284, li_285, li_290, li_434, li_1260, li_3472, li_9999, li_65536, nm, nm_w, sf_w, cp_w, ld_I, sa_I, nI_add, pk_mul, Nat.zero_add, nI_leI, nI_ltI, nI_eq, nI_neM, M_neI, nI_ltM, nI_nltM, M_ltI, M_leI, nI_nleM, bnd_some, if_pos, if_neg, dif_t, dif_f]
    exact Or.inr ⟨h0, trivial⟩
  · have hlt : t < 140 := by omega
    have e156 := he t hlt
    rcases hC t with h1 | ⟨y, hy, h1⟩
    · rw [h1] at e156
      have hb : bdS S C t = false := by
        unfold bdS
        rw [h1, decide_eq_false (by decide)]
        rfl
      simp (disch := omega) only [↓jM_e, li_0, li_1, li_2, li_3, li_4, li_5, li_6, li_7, li_8, li_9, li_10, li_13, li_14, li_15, li_16, li_31, li_35, li_47, li_48, li_49, li_50, li_57, li_99, li_100, li_126, li_139, li_140, li_149, li_150, li_280, li_284, li_285, li_290, li_434, li_1260, li_3472, li_9999, li_65536, nm, nm_w, sf_w, cp_w, ld_I, sa_I, nI_add, pk_mul, Nat.zero_add, nI_leI, nI_ltI, nI_eq, nI_neM, M_neI, nI_ltM, nI_nltM, M_ltI, M_leI, nI_nleM, bnd_some, if_pos, if_neg, dif_t, dif_f, e156]
      exact hk hlt _ _ _ _ ⟨rfl, rfl, rfl, rfl, by rw [hs, h0, hb]; rfl⟩
    · rw [h1] at e156
      by_cases hy0 : y = 0
      · subst hy0
        by_cases hu : inU S t = true
        · simp (disch := omega) only [↓jM_e, li_0, li_1, li_2, li_3, li_4, li_5, li_6, li_7, li_8, li_9, li_10, li_13, li_14, li_15, li_16, li_31, li_35, li_47, li_48, li_49, li_50, li_57, li_99, li_100, li_126, li_139, li_140, li_149, li_150, li_280, li_284, li_285, li_290, li_434, li_1260, li_3472, li_9999, li_65536, nm, nm_w, sf_w, cp_w, ld_I, sa_I, nI_add, pk_mul, Nat.zero_add, nI_leI, nI_ltI, nI_eq, nI_neM, M_neI, nI_ltM, nI_nltM, M_ltI, M_leI, nI_nleM, bnd_some, if_pos, if_neg, dif_t, dif_f, e156, iu_C h hlt (show 16 < K by omega), if_pos hu]
          have hb : bdS S C t = true := by
            unfold bdS
            rw [h1, hu]
            rfl
          refine Or.inl ⟨fun g => ?_, trivial⟩
          have h00 : ∀ N, t < N → cnI (bdS S C) N ≠ 0 := by
            intro N
            induction N with
            | zero => intro q; omega
            | succ N ih =>
              intro q
              show cnI (bdS S C) N + (if bdS S C N = true then 1 else 0) ≠ 0
              by_cases hN : t = N
              · rw [← hN, if_pos hb]; omega
              · have := ih (by omega); omega
          exact h00 140 hlt g
        · simp (disch := omega) only [↓jM_e, li_0, li_1, li_2, li_3, li_4, li_5, li_6, li_7, li_8, li_9, li_10, li_13, li_14, li_15, li_16, li_31, li_35, li_47, li_48, li_49, li_50, li_57, li_99, li_100, li_126, li_139, li_140, li_149, li_150, li_280, li_284, li_285, li_290, li_434, li_1260, li_3472, li_9999, li_65536, nm, nm_w, sf_w, cp_w, ld_I, sa_I, nI_add, pk_mul, Nat.zero_add, nI_leI, nI_ltI, nI_eq, nI_neM, M_neI, nI_ltM, nI_nltM, M_ltI, M_leI, nI_nleM, bnd_some, if_pos, if_neg, dif_t, dif_f, e156, iu_C h hlt (show 16 < K by omega), if_neg hu]
          refine hk hlt _ _ _ _ ⟨rfl, rfl, rfl, rfl, ?_⟩
          have hb : bdS S C t = false := by
            unfold bdS
            rw [Bool.eq_false_iff.mpr hu, Bool.and_false]
          rw [hs, h0, hb]
          rfl
      · have hb : bdS S C t = false := by
          unfold bdS
          rw [h1, decide_eq_false (by rw [nI_eq (by omega) (by decide)]; exact hy0)]
          rfl
        simp (disch := omega) only [↓jM_e, li_0, li_1, li_2, li_3, li_4, li_5, li_6, li_7, li_8, li_9, li_10, li_13, li_14, li_15, li_16, li_31, li_35, li_47, li_48, li_49, li_50, li_57, li_99, li_100, li_126, li_139, li_140, li_149, li_150, li_280, li_284, li_285, li_290, li_434, li_1260, li_3472, li_9999, li_65536, nm, nm_w, sf_w, cp_w, ld_I, sa_I, nI_add, pk_mul, Nat.zero_add, nI_leI, nI_ltI, nI_eq, nI_neM, M_neI, nI_ltM, nI_nltM, M_ltI, M_leI, nI_nleM, bnd_some, if_pos, if_neg, dif_t, dif_f, e156]
        exact hk hlt _ _ _ _ ⟨rfl, rfl, rfl, rfl, by rw [hs, h0, hb]; rfl⟩
theorem rw_C (h : RelC 1 S v) (he : ∀ j, j < 140 → v 156 j = C j) (hC : ∀ j, C j = jM ∨ ∃ k, k ≤ 9 ∧ C j = nI k) (hK : 1000 < K) : ∃ v5, fx5 (gX6_readMap_89 K) K (nI 0) (nI 0) r v n = (fX2_forgetAll K r v5 n).bind (fun q9 => ac q9 n (fun _ rr5 v5 n5 => ck (sSh rr5) (some (Sum.inl (nI (cnI (rdN C) 140)), rr5, v5, 0)))) ∧ RelC 1 (rdS S C 140) v5 ∧ ∀ p, p ≠ 2 → v5 p = v p := by
  refine fx5_go (P := fun t x2 x3 (r' : sR) (w : sV) (n' : Nat) => x2 = nI (cnI (rdN C) t) ∧ x3 = nI t ∧ r' = r ∧ n' = n ∧ RelC 1 (rdS S C t) w ∧ ∀ p, p ≠ 2 → w p = v p) (Q := fun o => ∃ v5, o = (fX2_forgetAll K r v5 n).bind (fun q9 => ac q9 n (fun _ rr5 v5 n5 => ck (sSh rr5) (some (Sum.inl (nI (cnI (rdN C) 140)), rr5, v5, 0)))) ∧ RelC 1 (rdS S C 140) v5 ∧ ∀ p, p ≠ 2 → v5 p = v p) (N := 140) ?_ ⟨rfl, rfl, rfl, rfl, by rw [rdS_0]; exact h, fun _ _ => rfl⟩ (by omega)
  intro t x2 x3 r' w n' ht ⟨e1, e2, e3, e4, h1, h2⟩ k hk
  subst e1 e2 e3 e4
  unfold gX6_readMap_89
  have hs : cnI (rdN C) (t + 1) = cnI (rdN C) t + (if rdN C t = true then 1 else 0) := rfl
  have hcl := @cnI_le (rdN C) t
  by_cases ht1 : t = 140
  · subst ht1
    rw [if_pos (show (140 : Int32) ≤ nI 140 from by decide)]
    exact ⟨w, rfl, h1, h2⟩
  · have hlt : t < 140 := by omega
    have e156 : w 156 t = C t := by rw [h2 156 (by decide)]; exact he t hlt
    rcases hC t with hc | ⟨y, hy, hc⟩
    · rw [hc] at e156
      simp (disch := omega) only [↓jM_e, li_0, li_1, li_2, li_3, li_4, li_5, li_6, li_7, li_8, li_9, li_10, li_13, li_14, li_15, li_16, li_31, li_35, li_47, li_48, li_49, li_50, li_57, li_99, li_100, li_126, li_139, li_140, li_149, li_150, li_280, li_284, li_285, li_290, li_434, li_1260, li_3472, li_9999, li_65536, nm, nm_w, sf_w, cp_w, ld_I, sa_I, nI_add, pk_mul, Nat.zero_add, nI_leI, nI_ltI, nI_eq, nI_neM, M_neI, nI_ltM, nI_nltM, M_ltI, M_leI, nI_nleM, bnd_some, if_pos, if_neg, dif_t, dif_f, e156]
      exact hk hlt _ _ _ _ _ ⟨by rw [hs, if_neg (by simp [rdN, hc])]; rfl, rfl, rfl, rfl, by rw [rdS_m hc]; exact h1, h2⟩
    · have hne : C t ≠ jM := by rw [hc, ne_eq, nI_neM (by omega)]; exact id
      rw [hc] at e156
      simp (disch := omega) only [↓jM_e, li_0, li_1, li_2, li_3, li_4, li_5, li_6, li_7, li_8, li_9, li_10, li_13, li_14, li_15, li_16, li_31, li_35, li_47, li_48, li_49, li_50, li_57, li_99, li_100, li_126, li_139, li_140, li_149, li_150, li_280, li_284, li_285, li_290, li_434, li_1260, li_3472, li_9999, li_65536, nm, nm_w, sf_w, cp_w, ld_I, sa_I, nI_add, pk_mul, Nat.zero_add, nI_leI, nI_ltI, nI_eq, nI_neM, M_neI, nI_ltM, nI_nltM, M_ltI, M_leI, nI_nleM, bnd_some, if_pos, if_neg, dif_t, dif_f, e156]
      refine hk hlt _ _ _ _ _ ⟨by rw [hs, if_pos (by simp [rdN, hne])], rfl, rfl, rfl, ?_, fun p hp => by rw [s2_ne hp]; exact h2 p hp⟩
      rw [rdS_y hne, hc]
      exact rcS (j := 0) h1 (by decide)
theorem ri_M (hr : RelM S (v 158)) (he : ∀ j, j < 140 → v 169 j = C j) (h0 : v 157 6 = nI 0) (hC : ∀ j, C j = jM ∨ ∃ k, k ≤ 9 ∧ C j = nI k) (hK : 1000 < K) : fx3 (gX7_readMap_28 K) K (nI 0) (nI 0) v = (if cnI (bdS S C) 140 = 0 then (fX7_keeps K v).bind (fun v5 => fx2 (gX7_readMap_110 K (nI (cnI (rdN C) 140))) K (nI 0) v5) else some (nI 0, s2 v 157 6 (nI 1))) := by
  refine fx3_go (P := fun t x2 x3 (w : sV) => x2 = nI (cnI (rdN C) t) ∧ x3 = nI t ∧ w = s2 v 157 6 (if cnI (bdS S C) t = 0 then nI 0 else nI 1)) (Q := fun o => o = (if cnI (bdS S C) 140 = 0 then (fX7_keeps K v).bind (fun v5 => fx2 (gX7_readMap_110 K (nI (cnI (rdN C) 140))) K (nI 0) v5) else some (nI 0, s2 v 157 6 (nI 1)))) (N := 140) ?_ ⟨rfl, rfl, (s2_self h0).symm⟩ (by omega)
  intro t x2 x3 w ht ⟨e1, e2, e3⟩ k hk
  subst e1 e2 e3
  unfold gX7_readMap_28 bX7_readMap_50
  have hs : cnI (rdN C) (t + 1) = cnI (rdN C) t + (if rdN C t = true then 1 else 0) := rfl
  have hsb : cnI (bdS S C) (t + 1) = cnI (bdS S C) t + (if bdS S C t = true then 1 else 0) := rfl
  have hcl := @cnI_le (rdN C) t
  by_cases ht1 : t = 140
  · subst ht1
    by_cases hb : cnI (bdS S C) 140 = 0
    · simp only [if_pos hb]
      rw [s2_self h0]
      simp (disch := omega) only [↓jM_e, li_0, li_1, li_2, li_3, li_4, li_5, li_6, li_7, li_8, li_9, li_10, li_13, li_14, li_15, li_16, li_31, li_35, li_47, li_48, li_49, li_50, li_57, li_99, li_100, li_126, li_139, li_140, li_149, li_150, li_280, li_284, li_285, li_290, li_434, li_1260, li_3472, li_9999, li_65536, nm, nm_w, sf_w, cp_w, ld_I, sa_I, nI_add, pk_mul, Nat.zero_add, nI_leI, nI_ltI, nI_eq, nI_neM, M_neI, nI_ltM, nI_nltM, M_ltI, M_leI, nI_nleM, bnd_some, if_pos, if_neg, dif_t, dif_f, h0]
    · simp only [if_neg hb]
      simp (disch := omega) only [↓jM_e, li_0, li_1, li_2, li_3, li_4, li_5, li_6, li_7, li_8, li_9, li_10, li_13, li_14, li_15, li_16, li_31, li_35, li_47, li_48, li_49, li_50, li_57, li_99, li_100, li_126, li_139, li_140, li_149, li_150, li_280, li_284, li_285, li_290, li_434, li_1260, li_3472, li_9999, li_65536, nm, nm_w, sf_w, cp_w, ld_I, sa_I, nI_add, pk_mul, Nat.zero_add, nI_leI, nI_ltI, nI_eq, nI_neM, M_neI, nI_ltM, nI_nltM, M_ltI, M_leI, nI_nleM, bnd_some, if_pos, if_neg, dif_t, dif_f, s2_i]
  · have hlt : t < 140 := by omega
    have e169 : ∀ y, s2 v 157 6 y 169 t = C t := fun y => by rw [s2_ne (by decide)]; exact he t hlt
    have hr' : ∀ y, RelM S (s2 v 157 6 y 158) := fun y => by rw [s2_ne (by decide)]; exact hr
    have hsame : bdS S C t = false → s2 (s2 v 157 6 (if cnI (bdS S C) t = 0 then nI 0 else nI 1)) 157 6 (if cnI (bdS S C) t = 0 then nI 0 else nI 1) = s2 v 157 6 (if cnI (bdS S C) (t + 1) = 0 then nI 0 else nI 1) := by
      intro hb
      rw [s2_s2, hsb, hb]
      rfl
    rcases hC t with hc | ⟨y, hy, hc⟩
    · have hb : bdS S C t = false := by
        unfold bdS
        rw [hc, decide_eq_false (by decide)]
        rfl
      simp only [hc] at e169
      simp (disch := omega) only [↓jM_e, li_0, li_1, li_2, li_3, li_4, li_5, li_6, li_7, li_8, li_9, li_10, li_13, li_14, li_15, li_16, li_31, li_35, li_47, li_48, li_49, li_50, li_57, li_99, li_100, li_126, li_139, li_140, li_149, li_150, li_280, li_284, li_285, li_290, li_434, li_1260, li_3472, li_9999, li_65536, nm, nm_w, sf_w, cp_w, ld_I, sa_I, nI_add, pk_mul, Nat.zero_add, nI_leI, nI_ltI, nI_eq, nI_neM, M_neI, nI_ltM, nI_nltM, M_ltI, M_leI, nI_nleM, bnd_some, if_pos, if_neg, dif_t, dif_f, e169, show (jM < nI 0) = True from by decide, s2_i]
      exact hk hlt _ _ _ ⟨by rw [hs, if_neg (by simp [rdN, hc])], rfl, hsame hb⟩
    · have hne : C t ≠ jM := by rw [hc, ne_eq, nI_neM (by omega)]; exact id
      have hcn : nI (cnI (rdN C) t + 1) = nI (cnI (rdN C) (t + 1)) := by rw [hs, if_pos (by simp [rdN, hne])]
      simp only [hc] at e169
      by_cases hy0 : y = 0
      · subst hy0
        by_cases hg : (goOn S t).isSome = true
        · have hb : bdS S C t = true := by
            unfold bdS inU
            rw [hc, hg]
            simp
          simp (disch := omega) only [↓jM_e, li_0, li_1, li_2, li_3, li_4, li_5, li_6, li_7, li_8, li_9, li_10, li_13, li_14, li_15, li_16, li_31, li_35, li_47, li_48, li_49, li_50, li_57, li_99, li_100, li_126, li_139, li_140, li_149, li_150, li_280, li_284, li_285, li_290, li_434, li_1260, li_3472, li_9999, li_65536, nm, nm_w, sf_w, cp_w, ld_I, sa_I, nI_add, pk_mul, Nat.zero_add, nI_leI, nI_ltI, nI_eq, nI_neM, M_neI, nI_ltM, nI_nltM, M_ltI, M_leI, nI_nleM, bnd_some, if_pos, if_neg, dif_t, dif_f, e169, hg_M (hr' _) hlt (show 16 < K by omega), if_pos hg]
          refine hk hlt _ _ _ ⟨hcn, rfl, ?_⟩
          rw [s2_s2, hsb, if_pos hb, if_neg (by omega)]
        · by_cases ha : agOn S t = none
          · have hb : bdS S C t = false := by
              unfold bdS inU
              rw [ha, Bool.eq_false_iff.mpr hg]
              simp
            simp (disch := omega) only [↓jM_e, li_0, li_1, li_2, li_3, li_4, li_5, li_6, li_7, li_8, li_9, li_10, li_13, li_14, li_15, li_16, li_31, li_35, li_47, li_48, li_49, li_50, li_57, li_99, li_100, li_126, li_139, li_140, li_149, li_150, li_280, li_284, li_285, li_290, li_434, li_1260, li_3472, li_9999, li_65536, nm, nm_w, sf_w, cp_w, ld_I, sa_I, nI_add, pk_mul, Nat.zero_add, nI_leI, nI_ltI, nI_eq, nI_neM, M_neI, nI_ltM, nI_nltM, M_ltI, M_leI, nI_nleM, bnd_some, if_pos, if_neg, dif_t, dif_f, e169, hg_M (hr' _) hlt (show 16 < K by omega), if_neg hg, ag_M (hr' _) hlt (show 16 < K by omega), ag_neg, if_pos ha, s2_i]
            exact hk hlt _ _ _ ⟨hcn, rfl, hsame hb⟩
          · have hb : bdS S C t = true := by
              unfold bdS inU
              rw [hc]
              cases hag : agOn S t with
              | none => exact absurd hag ha
              | some m => rfl
            simp (disch := omega) only [↓jM_e, li_0, li_1, li_2, li_3, li_4, li_5, li_6, li_7, li_8, li_9, li_10, li_13, li_14, li_15, li_16, li_31, li_35, li_47, li_48, li_49, li_50, li_57, li_99, li_100, li_126, li_139, li_140, li_149, li_150, li_280, li_284, li_285, li_290, li_434, li_1260, li_3472, li_9999, li_65536, nm, nm_w, sf_w, cp_w, ld_I, sa_I, nI_add, pk_mul, Nat.zero_add, nI_leI, nI_ltI, nI_eq, nI_neM, M_neI, nI_ltM, nI_nltM, M_ltI, M_leI, nI_nleM, bnd_some, if_pos, if_neg, dif_t, dif_f, e169, hg_M (hr' _) hlt (show 16 < K by omega), if_neg hg, ag_M (hr' _) hlt (show 16 < K by omega), ag_neg, if_neg ha]
            refine hk hlt _ _ _ ⟨hcn, rfl, ?_⟩
            rw [s2_s2, hsb, if_pos hb, if_neg (by omega)]
      · have hb : bdS S C t = false := by
          unfold bdS
          rw [hc, decide_eq_false (by rw [nI_eq (by omega) (by decide)]; exact hy0)]
          rfl
        simp (disch := omega) only [↓jM_e, li_0, li_1, li_2, li_3, li_4, li_5, li_6, li_7, li_8, li_9, li_10, li_13, li_14, li_15, li_16, li_31, li_35, li_47, li_48, li_49, li_50, li_57, li_99, li_100, li_126, li_139, li_140, li_149, li_150, li_280, li_284, li_285, li_290, li_434, li_1260, li_3472, li_9999, li_65536, nm, nm_w, sf_w, cp_w, ld_I, sa_I, nI_add, pk_mul, Nat.zero_add, nI_leI, nI_ltI, nI_eq, nI_neM, M_neI, nI_ltM, nI_nltM, M_ltI, M_leI, nI_nleM, bnd_some, if_pos, if_neg, dif_t, dif_f, e169, s2_i]
        exact hk hlt _ _ _ ⟨hcn, rfl, hsame hb⟩
theorem rw_M (hr : RelM S (v 158)) (he : ∀ j, j < 140 → v 169 j = C j) (hC : ∀ j, C j = jM ∨ ∃ k, k ≤ 9 ∧ C j = nI k) {z : Int32} (hK : 1000 < K) : ∃ w2, fx2 (gX7_readMap_110 K z) K (nI 0) v = some (z, w2) ∧ mI (rdS S C 140) w2 ∧ ∀ p, p ≠ 158 → p ≠ 164 → w2 p = v p := by
  refine fx2_go (P := fun t x3 (w : sV) => x3 = nI t ∧ (∀ p, p ≠ 158 → w p = v p) ∧ RelM (rdS S C t) (w 158)) (Q := fun o => ∃ w2, o = some (z, w2) ∧ mI (rdS S C 140) w2 ∧ ∀ p, p ≠ 158 → p ≠ 164 → w2 p = v p) (N := 140) ?_ ⟨rfl, fun _ _ => rfl, by rw [rdS_0]; exact hr⟩ (by omega)
  intro t x3 w ht ⟨e1, h1, h2⟩ k hk
  subst e1
  unfold gX7_readMap_110
  by_cases ht1 : t = 140
  · subst ht1
    obtain ⟨w2, f1, f2, f3⟩ := forget_M (K := K) h2 (by omega)
    simp (disch := omega) only [↓jM_e, li_0, li_1, li_2, li_3, li_4, li_5, li_6, li_7, li_8, li_9, li_10, li_13, li_14, li_15, li_16, li_31, li_35, li_47, li_48, li_49, li_50, li_57, li_99, li_100, li_126, li_139, li_140, li_149, li_150, li_280, li_284, li_285, li_290, li_434, li_1260, li_3472, li_9999, li_65536, nm, nm_w, sf_w, cp_w, ld_I, sa_I, nI_add, pk_mul, Nat.zero_add, nI_leI, nI_ltI, nI_eq, nI_neM, M_neI, nI_ltM, nI_nltM, M_ltI, M_leI, nI_nleM, bnd_some, if_pos, if_neg, dif_t, dif_f, f1]
    exact ⟨w2, rfl, f2, fun p p1 p2 => by rw [f3 p p2, h1 p p1]⟩
  · have hlt : t < 140 := by omega
    have e169 : w 169 t = C t := by rw [h1 169 (by decide)]; exact he t hlt
    rcases hC t with hc | ⟨y, hy, hc⟩
    · rw [hc] at e169
      simp (disch := omega) only [↓jM_e, li_0, li_1, li_2, li_3, li_4, li_5, li_6, li_7, li_8, li_9, li_10, li_13, li_14, li_15, li_16, li_31, li_35, li_47, li_48, li_49, li_50, li_57, li_99, li_100, li_126, li_139, li_140, li_149, li_150, li_280, li_284, li_285, li_290, li_434, li_1260, li_3472, li_9999, li_65536, nm, nm_w, sf_w, cp_w, ld_I, sa_I, nI_add, pk_mul, Nat.zero_add, nI_leI, nI_ltI, nI_eq, nI_neM, M_neI, nI_ltM, nI_nltM, M_ltI, M_leI, nI_nleM, bnd_some, if_pos, if_neg, dif_t, dif_f, e169, show (jM < nI 0) = True from by decide]
      rw [s2_self rfl]
      exact hk hlt _ _ ⟨rfl, h1, by rw [rdS_m hc]; exact h2⟩
    · have hne : C t ≠ jM := by rw [hc, ne_eq, nI_neM (by omega)]; exact id
      rw [hc] at e169
      simp (disch := omega) only [↓jM_e, li_0, li_1, li_2, li_3, li_4, li_5, li_6, li_7, li_8, li_9, li_10, li_13, li_14, li_15, li_16, li_31, li_35, li_47, li_48, li_49, li_50, li_57, li_99, li_100, li_126, li_139, li_140, li_149, li_150, li_280, li_284, li_285, li_290, li_434, li_1260, li_3472, li_9999, li_65536, nm, nm_w, sf_w, cp_w, ld_I, sa_I, nI_add, pk_mul, Nat.zero_add, nI_leI, nI_ltI, nI_eq, nI_neM, M_neI, nI_ltM, nI_nltM, M_ltI, M_leI, nI_nleM, bnd_some, if_pos, if_neg, dif_t, dif_f, e169]
      refine hk hlt _ _ ⟨rfl, fun p hp => by rw [s2_ne hp]; exact h1 p hp, ?_⟩
      rw [rdS_y hne, hc, s2_upd]
      exact rmU0 h2 hlt
theorem cnI_z {P : Nat → Bool} : ∀ {N : Nat}, cnI P N = 0 → ∀ t, t < N → P t = false
  | 0, _, t, ht => absurd ht (Nat.not_lt_zero t)
  | N + 1, h, t, ht => by
    have h : cnI P N + (if P N = true then 1 else 0) = 0 := h
    by_cases hp : P N = true
    · rw [if_pos hp] at h
      omega
    · by_cases htN : t = N
      · rw [htN]; exact Bool.eq_false_iff.mpr hp
      · exact cnI_z (N := N) (by omega) t (by omega)
set_option maxHeartbeats 1000000 in
theorem a_25 (hC : CW W r v n) (hM : MW W v) (hI : IW B W) (hK : 400000 < K) : OUT B (fL_readMap K r v n x) (fX7_readMap K) PI n := by
  obtain ⟨S, ⟨c, nx⟩, H, sv, le, L⟩ := W
  have hsh := hC.2.1.1
  have hle : le ≤ 150 := hI.2.2.2.2.2
  have hiC := (@pSt_i L le).2.2.2
  have hiq := (@pSt_i L le).2.2.1
  obtain ⟨g1, g2, g3, g4, g5, g6⟩ := hC
  obtain ⟨v1, ep, f1, f2⟩ := pa_C (K := K) g6.1 g6.2 hle (by omega)
  have hf : ∀ p, p ≠ 154 → p ≠ 156 → s2 v1 154 1 (nI 0) p = v p := fun p p1 p2 => by rw [s2_ne p1, f1 p p2]
  have hr3 : RelC 1 S (s2 v1 154 1 (nI 0)) := rcF g1 (fun p p1 p2 => hf p (by omega) (by omega))
  have hCW0 : CW (S, (c, nx), H, sv, 0, L) r (s2 v1 154 1 (nI 0)) n := by
    refine ⟨hr3, cacC_v g2 (fun p hp => hf p (by omega) (by omega)), ?_, ⟨fun k hk => rcF (g4.1 k hk) (fun p p1 p2 => ?_), fun k hk => by rw [hf 36 (by decide) (by decide)]; exact g4.2 k hk⟩, ?_, s2_i, fun i hi => absurd hi (Nat.not_lt_zero i)⟩
    · rw [hf 35 (by decide) (by decide)]; exact g3
    · have := @slot_b nx c k
      have p1 : slot nx c k ≤ p := p1
      have p2 : p < slot nx c k + 13 := p2
      exact hf p (by omega) (by omega)
    · rw [hf 0 (by decide) (by decide)]
      exact ⟨g5.1, fun S' hS' => rcF (g5.2 S' hS') (fun p p1 p2 => hf p (by omega) (by omega))⟩
  have hI0 : IW B (S, (c, nx), H, sv, 0, L) := ⟨hI.1, hI.2.1, hI.2.2.1, hI.2.2.2.1, hI.2.2.2.2.1, Nat.zero_le 150⟩
  have hmod : ∀ w, MW (S, (c, nx), H, sv, le, L) w → ∃ w2, fX7_reads K (s2 w 157 6 (nI 0)) = some (oI (pSt L le).1, w2) ∧ MW (S, (c, nx), H, sv, 0, L) (s2 w2 157 15 (nI 0)) ∧ s2 w2 157 15 (nI 0) 157 6 = nI 0 ∧ (∀ p, p ≠ 157 → p ≠ 169 → s2 w2 157 15 (nI 0) p = w p) ∧ ((pSt L le).1 = none → ∀ j, j < 140 → s2 w2 157 15 (nI 0) 169 j = (pSt L le).2.2.2 j) := by
    intro w hw
    obtain ⟨m1, m2, m3, m4, m5⟩ := hw
    obtain ⟨w2, e2, q1, q2⟩ := rd_M (K := K) (v := s2 w 157 6 (nI 0)) (le := le) (L := L) (by rw [s2_j (by decide)]; exact m5.1) (fun i hi => by rw [s2_ne (by decide)]; exact m5.2 i hi) hle (by omega)
    have hq : ∀ p, p ≠ 157 → p ≠ 169 → s2 w2 157 15 (nI 0) p = w p := fun p p1 p2 => by rw [s2_ne p1, q1 p p2, s2_ne p1]
    have h157 : w2 157 = s2 w 157 6 (nI 0) 157 := q1 157 (by decide)
    refine ⟨w2, e2, ⟨⟨by rw [hq 158 (by decide) (by decide)]; exact m1.1, cacM_v m1.2 (hq 164 (by decide) (by decide)) (hq 162 (by decide) (by decide))⟩, ?_, ?_, ?_, s2_i, fun i hi => absurd hi (Nat.not_lt_zero i)⟩, ?_, hq, fun g j hj => ?_⟩
    · rw [s2_j (by decide), h157, s2_j (by decide)]; exact m2
    · rw [hq 161 (by decide) (by decide)]; exact m3
    · rw [hq 159 (by decide) (by decide), s2_j (by decide), h157, s2_j (by decide)]; exact m4
    · rw [s2_j (by decide), h157, s2_i]
    · rw [s2_ne (by decide)]; exact q2 g j hj
  cases he : (pSt L le).1 with
  | some q =>
    have hq := hiq q he
    rw [he] at ep
    refine fin_ok (W' := (S, (c, nx), H, sv, 0, L)) (code := nI 0) (x' := ((-nI 100 - nI q).toInt64, x.2)) hM (k1 := 0) (r1 := r) (v1 := s2 v1 154 1 (nI 0)) ?_ hCW0 (fun p p1 p2 => hf p (by omega) (by omega)) hI0 (fun w hw => ?_)
    · unfold fL_readMap fX6_readMap fX4_empty
      simp (disch := omega) only [↓jM_e, li_0, li_1, li_2, li_3, li_4, li_5, li_6, li_7, li_8, li_9, li_10, li_13, li_14, li_15, li_16, li_31, li_35, li_47, li_48, li_49, li_50, li_57, li_99, li_100, li_126, li_139, li_140, li_149, li_150, li_280, li_284, li_285, li_290, li_434, li_1260, li_3472, li_9999, li_65536, nm, nm_w, sf_w, cp_w, ld_I, sa_I, nI_add, pk_mul, Nat.zero_add, nI_leI, nI_ltI, nI_eq, nI_neM, M_neI, nI_ltM, nI_nltM, M_ltI, M_leI, nI_nleM, bnd_some, if_pos, if_neg, dif_t, dif_f, ep, oI]
      rfl
    · obtain ⟨w2, e2, t1, t2, t3, -⟩ := hmod w hw
      rw [he] at e2
      refine ⟨-nI 100 - nI q, s2 w2 157 15 (nI 0), ?_, t2, fun _ => rfl, t1, fun p hp => t3 p (by omega) (by omega)⟩
      unfold fX7_readMap
      simp (disch := omega) only [↓jM_e, li_0, li_1, li_2, li_3, li_4, li_5, li_6, li_7, li_8, li_9, li_10, li_13, li_14, li_15, li_16, li_31, li_35, li_47, li_48, li_49, li_50, li_57, li_99, li_100, li_126, li_139, li_140, li_149, li_150, li_280, li_284, li_285, li_290, li_434, li_1260, li_3472, li_9999, li_65536, nm, nm_w, sf_w, cp_w, ld_I, sa_I, nI_add, pk_mul, Nat.zero_add, nI_leI, nI_ltI, nI_eq, nI_neM, M_neI, nI_ltM, nI_nltM, M_ltI, M_leI, nI_nleM, bnd_some, if_pos, if_neg, dif_t, dif_f, e2, oI]
  | none =>
    rw [he] at ep
    have he156 : ∀ j, j < 140 → s2 v1 154 1 (nI 0) 156 j = (pSt L le).2.2.2 j := fun j hj => by rw [s2_ne (by decide)]; exact f2 he j hj
    have hcls : ∀ o, fx4 (gX6_readMap_27 K) K (nI 0) r (s2 v1 154 1 (nI 0)) n = o → fX6_readMap K r v n = o := by
      intro o ho
      unfold fX6_readMap fX4_empty
      simp (disch := omega) only [↓jM_e, li_0, li_1, li_2, li_3, li_4, li_5, li_6, li_7, li_8, li_9, li_10, li_13, li_14, li_15, li_16, li_31, li_35, li_47, li_48, li_49, li_50, li_57, li_99, li_100, li_126, li_139, li_140, li_149, li_150, li_280, li_284, li_285, li_290, li_434, li_1260, li_3472, li_9999, li_65536, nm, nm_w, sf_w, cp_w, ld_I, sa_I, nI_add, pk_mul, Nat.zero_add, nI_leI, nI_ltI, nI_eq, nI_neM, M_neI, nI_ltM, nI_nltM, M_ltI, M_leI, nI_nleM, bnd_some, if_pos, if_neg, dif_t, dif_f, ep, oI]
      exact ho
    have hmd : ∀ w w2 o, fX7_reads K (s2 w 157 6 (nI 0)) = some (jM, w2) → fx3 (gX7_readMap_28 K) K (nI 0) (nI 0) (s2 w2 157 15 (nI 0)) = o → fX7_readMap K w = o := by
      intro w w2 o hw ho
      unfold fX7_readMap
      simp (disch := omega) only [↓jM_e, li_0, li_1, li_2, li_3, li_4, li_5, li_6, li_7, li_8, li_9, li_10, li_13, li_14, li_15, li_16, li_31, li_35, li_47, li_48, li_49, li_50, li_57, li_99, li_100, li_126, li_139, li_140, li_149, li_150, li_280, li_284, li_285, li_290, li_434, li_1260, li_3472, li_9999, li_65536, nm, nm_w, sf_w, cp_w, ld_I, sa_I, nI_add, pk_mul, Nat.zero_add, nI_leI, nI_ltI, nI_eq, nI_neM, M_neI, nI_ltM, nI_nltM, M_ltI, M_leI, nI_nleM, bnd_some, if_pos, if_neg, dif_t, dif_f, hw, show (jM < nI 0) = True from by decide]
      exact ho
    rcases ri_C (K := K) (r := r) (n := n) hr3 he156 hiC (by omega) with ⟨hb, ec⟩ | ⟨hb, ec⟩
    · refine fin_ok (W' := (S, (c, nx), H, sv, 0, L)) (code := nI 1) (x' := x) hM (k1 := 0) (r1 := r) (v1 := s2 v1 154 1 (nI 0)) ?_ hCW0 (fun p p1 p2 => hf p (by omega) (by omega)) hI0 (fun w hw => ?_)
      · unfold fL_readMap
        rw [hcls _ ec]
        rfl
      · obtain ⟨w2, e2, t1, t2, t3, t4⟩ := hmod w hw
        rw [he] at e2
        have hri := ri_M (K := K) t1.1.1 (t4 he) t2 hiC (by omega)
        rw [if_neg hb] at hri
        refine ⟨nI 0, s2 (s2 w2 157 15 (nI 0)) 157 6 (nI 1), hmd w w2 _ e2 hri, s2_i, fun g => absurd g (by decide), MW_t t1, fun p hp => by rw [s2_ne (by omega)]; exact t3 p (by omega) (by omega)⟩
    · have hbz := cnI_z hb
      obtain ⟨r4, v4, k4, q1, q2, q3⟩ := keep_C (K := K) hCW0 hI0 (by omega)
      obtain ⟨v5, q4, q5, q6⟩ := rw_C (K := K) (r := r4) (n := n + k4) q2.1 (C := (pSt L le).2.2.2) (fun j hj => by rw [q3 156 (by decide) (by decide)]; exact he156 j hj) hiC (by omega)
      obtain ⟨u, v6, q7, q8, q9⟩ := forget_C (co' := coS (rdS S (pSt L le).2.2.2 140)) (cacC_v q2.2.1 (fun p hp => q6 p (by omega))) (K := K) (by omega)
      have hv6 : ∀ p, p < 172 → p ≠ 2 → v6 p = v4 p := fun p hp h2 => by rw [q9 p hp, q6 p h2]
      have hCW6 : CW (wS (wK (S, (c, nx), H, sv, 0, L)) (rdS S (pSt L le).2.2.2 140)) r4 v6 (n + k4) := CW_f q2 rfl (rcF q5 (fun p p1 p2 => q9 p (by omega))) q8 (fun p hp => hv6 p (by omega) (by omega))
      refine fin_ok (W' := wS (wK (S, (c, nx), H, sv, 0, L)) (rdS S (pSt L le).2.2.2 140)) (code := nI 0) (x' := ((nI (cnI (rdN (pSt L le).2.2.2) 140)).toInt64, x.2)) hM (k1 := k4) (r1 := r4) (v1 := v6) ?_ hCW6 (fun p p1 p2 => by rw [hv6 p p2 (by omega), q3 p (by omega) (by omega), hf p (by omega) (by omega)]) (IW_S (IW_K hI0) (iS_rd hI.1 hiC hbz)) (fun w hw => ?_)
      · unfold fL_readMap
        rw [hcls _ ec, q1, ck_i q2.2.1.1, q4, q7, bnd_some, ac_0, ck_i q2.2.1.1]
        rfl
      · obtain ⟨w2, e2, t1, t2, t3, t4⟩ := hmod w hw
        rw [he] at e2
        have hri := ri_M (K := K) t1.1.1 (t4 he) t2 hiC (by omega)
        rw [if_pos hb] at hri
        obtain ⟨w5, k1, k2, k3, k4⟩ := keep_M (K := K) t1 hI0 (by omega)
        obtain ⟨w6, k5, k6, k7⟩ := rw_M (K := K) (v := w5) (C := (pSt L le).2.2.2) (z := nI (cnI (rdN (pSt L le).2.2.2) 140)) k2.1.1 (fun j hj => by rw [k3 169 (by decide) (by decide)]; exact t4 he j hj) hiC (by omega)
        rw [k1, bnd_some] at hri
        refine ⟨_, w6, hmd w w2 _ e2 (hri.trans k5), ?_, fun _ => rfl, MW_w k2 k6 (fun p p1 p2 p3 p4 p5 => k7 p p1 p4), fun p hp => by rw [k7 p (by omega) (by omega), k3 p (by omega) (by omega)]; exact t3 p (by omega) (by omega)⟩
        rw [k7 157 (by decide) (by decide), k4]
        exact t2
end
