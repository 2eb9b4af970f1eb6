/-! remove, join, add -/
theorem nI_eq0 {m : Nat} (h : m < 2 ^ 31) : (nI m = nI 0) = (m = 0) := propext (nI_eq h (by decide))
theorem RelC_e {b : Nat} {S S' : aS} {v : sV} (h : RelC b S v) (e : ∀ j i, S' j i = S j i) : RelC b S' v := by
  have : S' = S := by funext j i; exact e j i
  rw [this]; exact h
theorem RelM_e {S S' : aS} {f : Nat → Int32} (h : RelM S f) (e : ∀ j i, S' j i = S j i) : RelM S' f := by
  have : S' = S := by funext j i; exact e j i
  rw [this]; exact h
/-- an agent gone, its first t members freed -/
def eraT (S : aS) (a t : Nat) : aS := fun j i => if j = 3 ∧ i = a then jM else if j = 4 ∧ i = a then jM else if j = 8 ∧ (i = a ∨ (i < t ∧ S 8 i = nI a)) then jM else S j i
theorem eraT_o {S : aS} {a t j i : Nat} (h : j ≠ 3 ∧ j ≠ 4 ∧ j ≠ 8) : eraT S a t j i = S j i := by
  unfold eraT
  rw [if_neg (fun g => h.1 g.1), if_neg (fun g => h.2.1 g.1), if_neg (fun g => h.2.2 g.1)]
theorem eraT_3 {S : aS} {a t i : Nat} : eraT S a t 3 i = if i = a then jM else S 3 i := by
  unfold eraT
  by_cases h : i = a
  · rw [if_pos ⟨rfl, h⟩, if_pos h]
  · rw [if_neg (fun g => h g.2), if_neg (by omega), if_neg (by omega), if_neg h]
theorem eraT_4 {S : aS} {a t i : Nat} : eraT S a t 4 i = if i = a then jM else S 4 i := by
  unfold eraT
  rw [if_neg (by omega)]
  by_cases h : i = a
  · rw [if_pos ⟨rfl, h⟩, if_pos h]
  · rw [if_neg (fun g => h g.2), if_neg (by omega), if_neg h]
theorem eraT_8 {S : aS} {a t i : Nat} : eraT S a t 8 i = if i = a ∨ (i < t ∧ S 8 i = nI a) then jM else S 8 i := by
  unfold eraT
  rw [if_neg (by omega), if_neg (by omega)]
  by_cases h : i = a ∨ (i < t ∧ S 8 i = nI a)
  · rw [if_pos ⟨rfl, h⟩, if_pos h]
  · rw [if_neg (fun g => h g.2), if_neg h]
/-- one more looked at -/
theorem eraT_s {S : aS} {a t : Nat} (h : t = a ∨ ¬ S 8 t = nI a) : ∀ j i, eraT S a (t + 1) j i = eraT S a t j i := by
  intro j i
  unfold eraT
  have e : (j = 8 ∧ (i = a ∨ (i < t + 1 ∧ S 8 i = nI a))) = (j = 8 ∧ (i = a ∨ (i < t ∧ S 8 i = nI a))) := by
    apply propext
    constructor
    · intro ⟨g1, g2⟩
      refine ⟨g1, ?_⟩
      rcases g2 with g2 | ⟨g2, g3⟩
      · exact Or.inl g2
      · by_cases hit : i = t
        · subst hit
          exact h.elim (fun q => Or.inl q) (fun q => absurd g3 q)
        · exact Or.inr ⟨by omega, g3⟩
    · intro ⟨g1, g2⟩
      exact ⟨g1, g2.imp id (fun q => ⟨by omega, q.2⟩)⟩
  simp only [e]
theorem eraT_u {S : aS} {a t : Nat} (h : S 8 t = nI a) : ∀ j i, eraT S a (t + 1) j i = s2 (eraT S a t) 8 t jM j i := by
  intro j i
  show eraT S a (t + 1) j i = (if j = 8 ∧ i = t then jM else eraT S a t j i)
  by_cases hji : j = 8 ∧ i = t
  · rw [if_pos hji, hji.1, hji.2, eraT_8, if_pos (Or.inr ⟨Nat.lt_succ_self t, h⟩)]
  · rw [if_neg hji]
    unfold eraT
    have e : (j = 8 ∧ (i = a ∨ (i < t + 1 ∧ S 8 i = nI a))) = (j = 8 ∧ (i = a ∨ (i < t ∧ S 8 i = nI a))) := by
      apply propext
      constructor
      · intro ⟨g1, g2⟩
        exact ⟨g1, g2.imp id (fun q => ⟨by have : i ≠ t := fun e => hji ⟨g1, e⟩; omega, q.2⟩)⟩
      · intro ⟨g1, g2⟩
        exact ⟨g1, g2.imp id (fun q => ⟨by omega, q.2⟩)⟩
    simp only [e]
theorem iS_era {S : aS} {B a : Nat} (h : iS B S) (ha : a < 16) : iS B (eraT S a 16) := by
  have hco : coS (eraT S a 16) = coS S := by
    funext i
    unfold coS
    rw [eraT_o (by omega)]
  have hC : ∀ y, isC (eraT S a 16) y = isC S y := fun y => by unfold isC; rw [hco]
  obtain ⟨h1, h2, h3, h4, h5, h6, h7⟩ := h
  unfold iS
  rw [hco]
  simp only [hC]
  refine ⟨fun i hi => by rw [eraT_o (by omega)]; exact h1 i hi, fun g hg => by rw [eraT_o (by omega)]; exact h2 g hg, fun a' ha' => ?_, fun a' ha' hx => ?_, fun a' ha' hx => ?_, fun i hi => by rw [eraT_o (by omega)]; exact h6 i hi, fun a1 a2 ha1 ha2 hx' e => ?_⟩
  · rw [eraT_3]
    split
    · exact Or.inl rfl
    · exact h3 a' ha'
  · rw [eraT_3] at hx
    have hne : a' ≠ a := fun e => by rw [if_pos e] at hx; exact hx rfl
    rw [if_neg hne] at hx
    obtain ⟨g1, g2, g3, g4⟩ := h4 a' ha' hx
    rw [eraT_4, if_neg hne, eraT_o (j := 5) (by omega), eraT_o (j := 6) (by omega), eraT_8]
    refine ⟨g1, g2, g3, ?_⟩
    split
    · exact Or.inl rfl
    · rename_i hns
      rcases g4 with g | ⟨l, hl, el, hlx⟩
      · exact Or.inl g
      · refine Or.inr ⟨l, hl, el, ?_⟩
        rw [eraT_3]
        split
        · rename_i hla
          rw [hla] at el
          exact absurd (Or.inr ⟨ha', el⟩) hns
        · exact hlx
  · rw [eraT_8]
    split
    · rfl
    · rename_i hns
      rw [eraT_3] at hx
      split at hx
      · rename_i hla
        exact absurd (Or.inl hla) hns
      · exact h5 a' ha' hx
  · rw [eraT_3] at hx'
    have q1 : a1 ≠ a := fun q => by rw [if_pos q] at hx'; exact hx' rfl
    rw [if_neg q1] at hx'
    rw [eraT_3, eraT_3, if_neg q1] at e
    by_cases q2 : a2 = a
    · rw [if_pos q2] at e
      exact absurd e hx'
    · rw [if_neg q2] at e
      exact h7 a1 a2 ha1 ha2 hx' e
section
variable {v : sV} {K n : Nat} {r : sR} {W : aW} {B : Nat} {x : Int64 × UInt64}
theorem er_C {S : aS} {b a : Nat} (h : RelC b S v) (ha : a < 16) (hK : 16 < K) : ∃ v', fX5_erase K b (nI a) v = some v' ∧ RelC b (eraT S a 16) v' ∧ ∀ p, ¬ (b ≤ p ∧ p < b + 13) → v' p = v p := by
  have h0 : RelC b (eraT S a 0) (s2 (s2 (s2 v (b + 4) a jM) (b + 5) a jM) (b + 9) a jM) := by
    have hc : RelC b (s2 (s2 (s2 S 3 a jM) 4 a jM) 8 a jM) (s2 (s2 (s2 v (b + 4) a jM) (b + 5) a jM) (b + 9) a jM) := rcS (j := 8) (rcS (j := 4) (rcS (j := 3) h (by decide)) (by decide)) (by decide)
    refine RelC_e hc (fun j i => ?_)
    show (if j = 3 ∧ i = a then jM else if j = 4 ∧ i = a then jM else if j = 8 ∧ (i = a ∨ (i < 0 ∧ S 8 i = nI a)) then jM else S j i) = (if j = 8 ∧ i = a then jM else if j = 4 ∧ i = a then jM else if j = 3 ∧ i = a then jM else S j i)
    have e : (i = a ∨ (i < 0 ∧ S 8 i = nI a)) = (i = a) := propext ⟨fun g => g.elim id (fun q => absurd q.1 (Nat.not_lt_zero i)), Or.inl⟩
    simp only [e]
    by_cases q3 : j = 3 ∧ i = a
    · rw [if_pos q3, if_neg (by omega), if_neg (by omega), if_pos q3]
    · rw [if_neg q3]
      by_cases q4 : j = 4 ∧ i = a
      · rw [if_pos q4, if_neg (by omega), if_pos q4]
      · rw [if_neg q4]
        by_cases q8 : j = 8 ∧ i = a
        · rw [if_pos q8, if_pos q8]
        · rw [if_neg q8, if_neg q8, if_neg q4, if_neg q3]
  unfold fX5_erase
  simp (disch := omega) only [↓jM_e, li_0, li_1, li_2, li_3, li_4, li_5, li_6, li_7, li_8, li_9, li_10, li_13, li_14, li_15, li_16, li_31, li_35, li_47, li_48, li_49, li_50, li_57, li_99, li_100, li_126, li_139, li_140, li_149, li_150, li_280, li_284, li_285, li_290, li_434, li_1260, li_3472, li_9999, li_65536, nm, nm_w, sf_w, cp_w, ld_I, sa_I, nI_add, pk_mul, Nat.zero_add, nI_leI, nI_ltI, nI_eq, nI_neM, M_neI, nI_ltM, nI_nltM, M_ltI, M_leI, nI_nleM, bnd_some, if_pos, if_neg, dif_t, dif_f]
  refine fx2_go (P := fun t x2 w => x2 = nI t ∧ RelC b (eraT S a t) w ∧ ∀ p, ¬ (b ≤ p ∧ p < b + 13) → w p = v p) (Q := fun o => ∃ v', o = some v' ∧ RelC b (eraT S a 16) v' ∧ ∀ p, ¬ (b ≤ p ∧ p < b + 13) → v' p = v p) (N := 16) ?_ ⟨rfl, h0, fun p hp => by rw [s2_ne (by omega), s2_ne (by omega), s2_ne (by omega)]⟩ hK
  intro t x2 w ht ⟨e2, h1, h2⟩ k hk
  subst e2
  unfold gX5_erase_23
  by_cases ht1 : t = 16
  · subst ht1
    simp (disch := omega) only [↓jM_e, li_0, li_1, li_2, li_3, li_4, li_5, li_6, li_7, li_8, li_9, li_10, li_13, li_14, li_15, li_16, li_31, li_35, li_47, li_48, li_49, li_50, li_57, li_99, li_100, li_126, li_139, li_140, li_149, li_150, li_280, li_284, li_285, li_290, li_434, li_1260, li_3472, li_9999, li_65536, nm, nm_w, sf_w, cp_w, ld_I, sa_I, nI_add, pk_mul, Nat.zero_add, nI_leI, nI_ltI, nI_eq, nI_neM, M_neI, nI_ltM, nI_nltM, M_ltI, M_leI, nI_nleM, bnd_some, if_pos, if_neg, dif_t, dif_f]
    exact ⟨w, rfl, h1, h2⟩
  · have hlt : t < 16 := by omega
    have e8 : w (b + 9) t = eraT S a t 8 t := rc8 h1 hlt
    by_cases hta : t = a
    · have e8' : w (b + 9) t = jM := by rw [e8, eraT_8, if_pos (Or.inl hta)]
      simp (disch := omega) only [↓jM_e, li_0, li_1, li_2, li_3, li_4, li_5, li_6, li_7, li_8, li_9, li_10, li_13, li_14, li_15, li_16, li_31, li_35, li_47, li_48, li_49, li_50, li_57, li_99, li_100, li_126, li_139, li_140, li_149, li_150, li_280, li_284, li_285, li_290, li_434, li_1260, li_3472, li_9999, li_65536, nm, nm_w, sf_w, cp_w, ld_I, sa_I, nI_add, pk_mul, Nat.zero_add, nI_leI, nI_ltI, nI_eq, nI_neM, M_neI, nI_ltM, nI_nltM, M_ltI, M_leI, nI_nleM, bnd_some, if_pos, if_neg, dif_t, dif_f, e8']
      exact hk hlt _ _ ⟨rfl, RelC_e h1 (eraT_s (Or.inl hta)), h2⟩
    · have e8' : w (b + 9) t = S 8 t := by rw [e8, eraT_8, if_neg (by omega)]
      by_cases hp : S 8 t = nI a
      · rw [hp] at e8'
        simp (disch := omega) only [↓jM_e, li_0, li_1, li_2, li_3, li_4, li_5, li_6, li_7, li_8, li_9, li_10, li_13, li_14, li_15, li_16, li_31, li_35, li_47, li_48, li_49, li_50, li_57, li_99, li_100, li_126, li_139, li_140, li_149, li_150, li_280, li_284, li_285, li_290, li_434, li_1260, li_3472, li_9999, li_65536, nm, nm_w, sf_w, cp_w, ld_I, sa_I, nI_add, pk_mul, Nat.zero_add, nI_leI, nI_ltI, nI_eq, nI_neM, M_neI, nI_ltM, nI_nltM, M_ltI, M_leI, nI_nleM, bnd_some, if_pos, if_neg, dif_t, dif_f, e8']
        exact hk hlt _ _ ⟨rfl, RelC_e (rcS (j := 8) h1 (by decide)) (eraT_u hp), fun p hp => by rw [s2_ne (by omega)]; exact h2 p hp⟩
      · simp (disch := omega) only [↓jM_e, li_0, li_1, li_2, li_3, li_4, li_5, li_6, li_7, li_8, li_9, li_10, li_13, li_14, li_15, li_16, li_31, li_35, li_47, li_48, li_49, li_50, li_57, li_99, li_100, li_126, li_139, li_140, li_149, li_150, li_280, li_284, li_285, li_290, li_434, li_1260, li_3472, li_9999, li_65536, nm, nm_w, sf_w, cp_w, ld_I, sa_I, nI_add, pk_mul, Nat.zero_add, nI_leI, nI_ltI, nI_eq, nI_neM, M_neI, nI_ltM, nI_nltM, M_ltI, M_leI, nI_nleM, bnd_some, if_pos, if_neg, dif_t, dif_f, e8', if_neg hp]
        exact hk hlt _ _ ⟨rfl, RelC_e h1 (eraT_s (Or.inr hp)), h2⟩
theorem rmE {S : aS} {f : Nat → Int32} {a : Nat} (h : RelM S f) (ha : a < 16) : RelM (eraT S a 0) (upd f (290 + 9 * a + 0) (nI 0)) := by
  obtain ⟨h1, h2, h3, h4, h5, h6⟩ := h
  refine ⟨fun i hi => ?_, fun i hi => ?_, fun i hi => ?_, ?_, fun i hi => ?_, fun a' ha' => ?_⟩
  · rw [pk_un (by omega), eraT_o (by omega)]; exact h1 i hi
  · rw [pk_un (by omega), eraT_o (by omega)]; exact h2 i hi
  · rw [pk_un (by omega), eraT_o (by omega)]; exact h3 i hi
  · rw [pk_un (by omega), eraT_o (by omega)]; exact h4
  · rw [pk_un (by omega), eraT_o (by omega)]; exact h5 i hi
  · by_cases haa : a' = a
    · subst haa
      rw [eraT_3, if_pos rfl]
      exact ⟨fun _ => by rw [pk_us]; decide, fun g => absurd rfl g⟩
    · have hu : ∀ m, m ≤ 8 → upd f (290 + 9 * a + 0) (nI 0) (290 + 9 * a' + m) = f (290 + 9 * a' + m) := fun m hm => pk_un (by omega)
      rw [hu 0 (by decide), hu 1 (by decide), hu 2 (by decide), hu 3 (by decide), hu 4 (by decide), hu 5 (by decide), hu 6 (by decide), hu 7 (by decide), hu 8 (by decide)]
      rw [eraT_3, if_neg haa, eraT_4, if_neg haa, eraT_8, if_neg (by omega), eraT_o (j := 5) (by omega), eraT_o (j := 6) (by omega), eraT_o (j := 7) (by omega), eraT_o (j := 9) (by omega), eraT_o (j := 10) (by omega)]
      exact h6 a' ha'
theorem coS_era {S : aS} {a t : Nat} : coS (eraT S a t) = coS S := by
  funext i
  unfold coS
  rw [eraT_o (by omega)]
theorem a_9 (x1 : Int32) (hC : CW W r v n) (hM : MW W v) (hI : IW B W) (hK : 400000 < K) : OUT B (fL_remove K x1 r v n x) (fX7_remove K x1) PI n := by
  have hsh := hC.2.1.1
  rcases arg_A W.1 x1 with hn | ⟨a, ha, rfl, hx⟩
  · refine fin_thr hC hM hI (code := 1) (z := nI 0) (x' := x) (by decide) ?_ (fun w hw => ?_)
    · unfold fL_remove fX6_remove
      simp (disch := omega) only [↓jM_e, li_0, li_1, li_2, li_3, li_4, li_5, li_6, li_7, li_8, li_9, li_10, li_13, li_14, li_15, li_16, li_31, li_35, li_47, li_48, li_49, li_50, li_57, li_99, li_100, li_126, li_139, li_140, li_149, li_150, li_280, li_284, li_285, li_290, li_434, li_1260, li_3472, li_9999, li_65536, nm, nm_w, sf_w, cp_w, ld_I, sa_I, nI_add, pk_mul, Nat.zero_add, nI_leI, nI_ltI, nI_eq, nI_neM, M_neI, nI_ltM, nI_nltM, M_ltI, M_leI, nI_nleM, bnd_some, if_pos, if_neg, dif_t, dif_f, rA_n hC.1 hn, acT_r]
      rfl
    · unfold fX7_remove bX7_remove_14
      simp (disch := omega) only [↓jM_e, li_0, li_1, li_2, li_3, li_4, li_5, li_6, li_7, li_8, li_9, li_10, li_13, li_14, li_15, li_16, li_31, li_35, li_47, li_48, li_49, li_50, li_57, li_99, li_100, li_126, li_139, li_140, li_149, li_150, li_280, li_284, li_285, li_290, li_434, li_1260, li_3472, li_9999, li_65536, nm, nm_w, sf_w, cp_w, ld_I, sa_I, nI_add, pk_mul, Nat.zero_add, nI_leI, nI_ltI, nI_eq, nI_neM, M_neI, nI_ltM, nI_nltM, M_ltI, M_leI, nI_nleM, bnd_some, if_pos, if_neg, dif_t, dif_f, no_M hw.1.1 hn, s2_i]
  · refine fin_ch (S' := eraT W.1 a 16) (x' := ((nI (cnI (exS (eraT W.1 a 16)) 16)).toInt64, x.2)) hC hM hI (K := K) (by omega) (iS_era hI.1 ha) (fun r1 v1 k1 e1 g1 => ?_) (fun w w1 hw e1 g1 q5 => ?_)
    · obtain ⟨v2, ee, s1, s2'⟩ := er_C (K := K) g1.1 ha (by omega)
      refine ⟨r1, v2, k1, ?_, CW_w g1 s1 coS_era (fun p hp => s2' p (by omega)), fun p p1 p2 => s2' p (by omega)⟩
      unfold fL_remove fX6_remove
      simp (disch := omega) only [↓jM_e, li_0, li_1, li_2, li_3, li_4, li_5, li_6, li_7, li_8, li_9, li_10, li_13, li_14, li_15, li_16, li_31, li_35, li_47, li_48, li_49, li_50, li_57, li_99, li_100, li_126, li_139, li_140, li_149, li_150, li_280, li_284, li_285, li_290, li_434, li_1260, li_3472, li_9999, li_65536, nm, nm_w, sf_w, cp_w, ld_I, sa_I, nI_add, pk_mul, Nat.zero_add, nI_leI, nI_ltI, nI_eq, nI_neM, M_neI, nI_ltM, nI_nltM, M_ltI, M_leI, nI_nleM, bnd_some, if_pos, if_neg, dif_t, dif_f, rA_y hC.1 ha hx, acT_l, ck_i hsh, e1, ck_i g1.2.1.1, ee, al_C s1 (show 16 < K by omega), bc_mk]
      rfl
    · have hm0 : mI (eraT W.1 a 0) (s2 w1 158 (290 + 9 * a + 0) (nI 0)) := mI_s2 g1.1 coS_era (rmE g1.1.1 ha)
      have hloop : ∃ w2, fx2 (gX7_remove_39 K (nI a)) K (nI 0) (s2 w1 158 (290 + 9 * a + 0) (nI 0)) = some (nI (cnI (exS (eraT W.1 a 16)) 16), w2) ∧ mI (eraT W.1 a 16) w2 ∧ frN w1 w2 := by
        refine fx2_go (P := fun t x2 w => x2 = nI t ∧ mI (eraT W.1 a t) w ∧ frN w1 w) (Q := fun o => ∃ w2, o = some (nI (cnI (exS (eraT W.1 a 16)) 16), w2) ∧ mI (eraT W.1 a 16) w2 ∧ frN w1 w2) (N := 16) ?_ ⟨rfl, hm0, frN_s2⟩ (by omega)
        intro t x2 w' ht ⟨e2, h1, h2⟩ k hk
        subst e2
        unfold gX7_remove_39
        by_cases ht1 : t = 16
        · subst ht1
          simp (disch := omega) only [↓jM_e, li_0, li_1, li_2, li_3, li_4, li_5, li_6, li_7, li_8, li_9, li_10, li_13, li_14, li_15, li_16, li_31, li_35, li_47, li_48, li_49, li_50, li_57, li_99, li_100, li_126, li_139, li_140, li_149, li_150, li_280, li_284, li_285, li_290, li_434, li_1260, li_3472, li_9999, li_65536, nm, nm_w, sf_w, cp_w, ld_I, sa_I, nI_add, pk_mul, Nat.zero_add, nI_leI, nI_ltI, nI_eq, nI_neM, M_neI, nI_ltM, nI_nltM, M_ltI, M_leI, nI_nleM, bnd_some, if_pos, if_neg, dif_t, dif_f, my_M h1.1 (show 16 < K by omega)]
          exact ⟨w', rfl, h1, h2⟩
        · have hlt : t < 16 := by omega
          have hnext : (t = a ∨ ¬ W.1 8 t = nI a) → mI (eraT W.1 a (t + 1)) w' := fun g => by
            have : eraT W.1 a (t + 1) = eraT W.1 a t := by funext j i; exact eraT_s g j i
            rw [this]; exact h1
          by_cases hx2 : exS (eraT W.1 a t) t = true
          · have hx3 : eraT W.1 a t 3 t ≠ jM := by rw [exS_t] at hx2; exact hx2
            have hta : t ≠ a := fun e => by rw [eraT_3, if_pos e] at hx3; exact hx3 rfl
            have r8 : w' 158 (290 + 9 * t + 6) = W.1 8 t := by
              rw [(rm h1.1 hlt hx3).2.2.2.2.2.1, eraT_8, if_neg (by omega)]
            by_cases hp : W.1 8 t = nI a
            · rw [hp] at r8
              simp (disch := omega) only [↓jM_e, li_0, li_1, li_2, li_3, li_4, li_5, li_6, li_7, li_8, li_9, li_10, li_13, li_14, li_15, li_16, li_31, li_35, li_47, li_48, li_49, li_50, li_57, li_99, li_100, li_126, li_139, li_140, li_149, li_150, li_280, li_284, li_285, li_290, li_434, li_1260, li_3472, li_9999, li_65536, nm, nm_w, sf_w, cp_w, ld_I, sa_I, nI_add, pk_mul, Nat.zero_add, nI_leI, nI_ltI, nI_eq, nI_neM, M_neI, nI_ltM, nI_nltM, M_ltI, M_leI, nI_nleM, bnd_some, if_pos, if_neg, dif_t, dif_f, ex_M h1.1 hlt, if_pos hx2, at_M hlt (show 6 < 9 by decide), r8, pt_M hlt (show 6 < 9 by decide)]
              refine hk hlt _ _ ⟨rfl, ?_, h2.trans frN_s2⟩
              exact mI_s2 h1 (by rw [coS_era, coS_era]) (RelM_e (rmUa (k := 6) h1.1 hlt (by decide) hx3 (fun e => by cases e) (fun _ => rfl)) (eraT_u hp))
            · simp (disch := omega) only [↓jM_e, li_0, li_1, li_2, li_3, li_4, li_5, li_6, li_7, li_8, li_9, li_10, li_13, li_14, li_15, li_16, li_31, li_35, li_47, li_48, li_49, li_50, li_57, li_99, li_100, li_126, li_139, li_140, li_149, li_150, li_280, li_284, li_285, li_290, li_434, li_1260, li_3472, li_9999, li_65536, nm, nm_w, sf_w, cp_w, ld_I, sa_I, nI_add, pk_mul, Nat.zero_add, nI_leI, nI_ltI, nI_eq, nI_neM, M_neI, nI_ltM, nI_nltM, M_ltI, M_leI, nI_nleM, bnd_some, if_pos, if_neg, dif_t, dif_f, ex_M h1.1 hlt, if_pos hx2, at_M hlt (show 6 < 9 by decide), r8, if_neg hp]
              exact hk hlt _ _ ⟨rfl, hnext (Or.inr hp), h2⟩
          · simp (disch := omega) only [↓jM_e, li_0, li_1, li_2, li_3, li_4, li_5, li_6, li_7, li_8, li_9, li_10, li_13, li_14, li_15, li_16, li_31, li_35, li_47, li_48, li_49, li_50, li_57, li_99, li_100, li_126, li_139, li_140, li_149, li_150, li_280, li_284, li_285, li_290, li_434, li_1260, li_3472, li_9999, li_65536, nm, nm_w, sf_w, cp_w, ld_I, sa_I, nI_add, pk_mul, Nat.zero_add, nI_leI, nI_ltI, nI_eq, nI_neM, M_neI, nI_ltM, nI_nltM, M_ltI, M_leI, nI_nleM, bnd_some, if_pos, if_neg, dif_t, dif_f, ex_M h1.1 hlt, if_neg hx2]
            refine hk hlt _ _ ⟨rfl, hnext ?_, h2⟩
            by_cases hta : t = a
            · exact Or.inl hta
            · refine Or.inr (fun e => ?_)
              have hf : eraT W.1 a t 3 t = jM := by rw [← exS_f]; exact Bool.eq_false_iff.mpr hx2
              rw [eraT_3, if_neg hta] at hf
              have := hI.1.2.2.2.2.1 t hlt hf
              rw [e, nI_neM (by omega)] at this
              exact this
      obtain ⟨w2, el, t1, t2⟩ := hloop
      unfold fX7_remove bX7_remove_14
      simp (disch := omega) only [↓jM_e, li_0, li_1, li_2, li_3, li_4, li_5, li_6, li_7, li_8, li_9, li_10, li_13, li_14, li_15, li_16, li_31, li_35, li_47, li_48, li_49, li_50, li_57, li_99, li_100, li_126, li_139, li_140, li_149, li_150, li_280, li_284, li_285, li_290, li_434, li_1260, li_3472, li_9999, li_65536, nm, nm_w, sf_w, cp_w, ld_I, sa_I, nI_add, pk_mul, Nat.zero_add, nI_leI, nI_ltI, nI_eq, nI_neM, M_neI, nI_ltM, nI_nltM, M_ltI, M_leI, nI_nleM, bnd_some, if_pos, if_neg, dif_t, dif_f, ya_M hw.1.1 ha hx, s2_i, e1, pt_M ha (show 0 < 9 by decide)]
      exact ⟨_, _, el, rfl, t1, t2⟩
/-- a leader set, its offsets already there -/
theorem rmU6 {S : aS} {f : Nat → Int32} {a : Nat} {y : Int32} (h : RelM S f) (ha : a < 16) (hx : S 3 a ≠ jM) (h7 : f (290 + 9 * a + 7) = S 9 a) (h8 : f (290 + 9 * a + 8) = S 10 a) : RelM (s2 S 8 a y) (upd f (290 + 9 * a + 6) y) := by
  obtain ⟨h1, h2, h3, h4, h5, h6⟩ := h
  have hs : ∀ j i', j ≠ 8 → s2 S 8 a y j i' = S j i' := fun j i' hj => s2_p hj
  refine ⟨fun i hi => ?_, fun i hi => ?_, fun i hi => ?_, ?_, fun i hi => ?_, fun a' ha' => ?_⟩
  · rw [pk_un (by omega), hs _ _ (by decide)]; exact h1 i hi
  · rw [pk_un (by omega), hs _ _ (by decide)]; exact h2 i hi
  · rw [pk_un (by omega), hs _ _ (by decide)]; exact h3 i hi
  · rw [pk_un (by omega), hs _ _ (by decide)]; exact h4
  · rw [pk_un (by omega), hs _ _ (by decide)]; exact h5 i hi
  · have hu : ∀ m, m ≤ 8 → (a' ≠ a ∨ m ≠ 6) → upd f (290 + 9 * a + 6) y (290 + 9 * a' + m) = f (290 + 9 * a' + m) := fun m hm hne => pk_un (by omega)
    rw [hs 3 _ (by decide), hs 4 _ (by decide), hs 5 _ (by decide), hs 6 _ (by decide), hs 7 _ (by decide), hs 9 _ (by decide), hs 10 _ (by decide)]
    rw [hu 0 (by decide) (by omega), hu 1 (by decide) (by omega), hu 2 (by decide) (by omega), hu 3 (by decide) (by omega), hu 4 (by decide) (by omega), hu 5 (by decide) (by omega), hu 7 (by decide) (by omega), hu 8 (by decide) (by omega)]
    obtain ⟨g1, g2⟩ := h6 a' ha'
    refine ⟨g1, fun hx' => ?_⟩
    obtain ⟨q0, q1, q2, q3, q4, q5, q6, q7⟩ := g2 hx'
    by_cases haa : a' = a
    · subst haa
      exact ⟨q0, q1, q2, q3, q4, q5, by rw [pk_us, s2_i], fun _ => ⟨h7, h8⟩⟩
    · rw [hu 6 (by decide) (Or.inl haa), s2_j haa]
      exact ⟨q0, q1, q2, q3, q4, q5, q6, q7⟩
def joS (S : aS) (a l : Nat) (ox oy : Int32) : aS := s2 (s2 (s2 S 8 a (nI l)) 9 a ox) 10 a oy
theorem rmJ {S : aS} {f : Nat → Int32} {a l : Nat} {ox oy : Int32} (h : RelM S f) (ha : a < 16) (hx : S 3 a ≠ jM) : RelM (joS S a l ox oy) (upd (upd (upd f (290 + 9 * a + 6) (nI l)) (290 + 9 * a + 7) ox) (290 + 9 * a + 8) oy) := by
  have g1 := rmUa (k := 7) (x := ox) h ha (by decide) hx (fun e => by cases e) (fun e => by cases e)
  have hx1 : s2 S 9 a ox 3 a ≠ jM := by rw [s2_p (by decide)]; exact hx
  have g2 := rmUa (k := 8) (x := oy) g1 ha (by decide) hx1 (fun e => by cases e) (fun e => by cases e)
  have hx2 : s2 (s2 S 9 a ox) 10 a oy 3 a ≠ jM := by rw [s2_p (by decide)]; exact hx1
  have g3 := rmU6 (y := nI l) g2 ha hx2 (by rw [pk_un (by omega), pk_us, s2_p (by decide)]; exact s2_i.symm) (by rw [pk_us]; exact s2_i.symm)
  refine RelM_c (RelM_e g3 (fun j i => ?_)) (fun j hj => ?_)
  · show (if j = 10 ∧ i = a then oy else if j = 9 ∧ i = a then ox else if j = 8 ∧ i = a then nI l else S j i) = (if j = 8 ∧ i = a then nI l else if j = 10 ∧ i = a then oy else if j = 9 ∧ i = a then ox else S j i)
    by_cases q8 : j = 8 ∧ i = a
    · rw [if_neg (by omega), if_neg (by omega), if_pos q8, if_pos q8]
    · rw [if_neg q8, if_neg q8]
  · by_cases q6 : j = 290 + 9 * a + 6
    · rw [q6, pk_un (by omega), pk_un (by omega), pk_us, pk_us]
    · by_cases q7 : j = 290 + 9 * a + 7
      · rw [q7, pk_un (by omega), pk_us, pk_un (by omega), pk_un (by omega), pk_us]
      · by_cases q8 : j = 290 + 9 * a + 8
        · rw [q8, pk_us, pk_un (by omega), pk_us]
        · rw [pk_un q8, pk_un q7, pk_un q6, pk_un q6, pk_un q8, pk_un q7]
theorem iS_jo {S : aS} {B a l : Nat} {ox oy : Int32} (h : iS B S) (hx : S 3 a ≠ jM) (hl : l < 16) (hlx : S 3 l ≠ jM) : iS B (joS S a l ox oy) := by
  have hs : ∀ j', j' ≠ 8 → j' ≠ 9 → j' ≠ 10 → joS S a l ox oy j' = S j' := fun j' q8 q9 q10 => by unfold joS; rw [s2_ne q10, s2_ne q9, s2_ne q8]
  have hco : coS (joS S a l ox oy) = coS S := by
    funext i
    unfold coS
    rw [hs 0 (by decide) (by decide) (by decide)]
  have hC : ∀ y, isC (joS S a l ox oy) y = isC S y := fun y => by unfold isC; rw [hco]
  have e8 : ∀ i, joS S a l ox oy 8 i = if i = a then nI l else S 8 i := by
    intro i
    unfold joS
    rw [s2_p (by decide), s2_p (by decide)]
    by_cases hia : i = a
    · rw [hia, s2_i, if_pos rfl]
    · rw [s2_j hia, if_neg hia]
  obtain ⟨h1, h2, h3, h4, h5, h6⟩ := h
  unfold iS
  rw [hco, hs 0 (by decide) (by decide) (by decide), hs 1 (by decide) (by decide) (by decide), hs 2 (by decide) (by decide) (by decide), hs 3 (by decide) (by decide) (by decide), hs 4 (by decide) (by decide) (by decide), hs 5 (by decide) (by decide) (by decide), hs 6 (by decide) (by decide) (by decide)]
  simp only [hC]
  refine ⟨h1, h2, h3, fun a' ha' hx' => ?_, fun a' ha' hx' => ?_, h6⟩
  · obtain ⟨g1, g2, g3, g4⟩ := h4 a' ha' hx'
    refine ⟨g1, g2, g3, ?_⟩
    rw [e8]
    by_cases haa : a' = a
    · rw [if_pos haa]; exact Or.inr ⟨l, hl, rfl, hlx⟩
    · rw [if_neg haa]; exact g4
  · rw [e8]
    by_cases haa : a' = a
    · rw [haa] at hx'; exact absurd hx' hx
    · rw [if_neg haa]; exact h5 a' ha' hx'
theorem iO_C {y : Int32} : fX6_isOffset y = some (if (-3 : Int32) ≤ y ∧ y ≤ (3 : Int32) then nI 1 else nI 0) := by
  unfold fX6_isOffset
  by_cases h0 : y < (-3 : Int32)
  · rw [if_pos h0, if_neg (fun g => Int32.not_le.mpr h0 g.1)]
    rfl
  · rw [if_neg h0]
    by_cases h9 : (3 : Int32) < y
    · rw [if_pos h9, if_neg (fun g => Int32.not_le.mpr h9 g.2)]
      rfl
    · rw [if_neg h9, if_pos ⟨Int32.not_lt.mp h0, Int32.not_lt.mp h9⟩]
      rfl
theorem il_C {S : aS} {b cq a : Nat} (h : RelC b S v) (hK : 16 < K) : fX0_isLeader K cq b (nI a) v = some (if cnI (fun m => decide (S 8 m = nI a)) 16 = 0 then nI 0 else nI 1) := by
  unfold fX0_isLeader
  rw [me_C h hK, bnd_some]
  have e : (nI (mkI (fun m => decide (S 8 m = nI a)) 16) = nI 0) = (mkI (fun m => decide (S 8 m = nI a)) 16 = 0) := nI_eq0 mk_16
  simp only [↓jM_e, li_0, li_1, li_2, li_3, li_4, li_5, li_6, li_7, li_8, li_9, li_10, li_13, li_14, li_15, li_16, li_31, li_35, li_47, li_48, li_49, li_50, li_57, li_99, li_100, li_126, li_139, li_140, li_149, li_150, li_280, li_284, li_285, li_290, li_434, li_1260, li_3472, li_9999, li_65536]
  simp only [e, mkI_0]
  split <;> rfl
end
