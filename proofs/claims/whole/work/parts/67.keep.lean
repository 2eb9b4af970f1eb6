/-! THE REFERENCE KEEPS; HOW AN ARM ENDS -/
theorem RelM_c {S : aS} {f g : Nat → Int32} (h : RelM S f) (e : ∀ j, j < 434 → g j = f j) : RelM S g := by
  obtain ⟨h1, h2, h3, h4, h5, h6⟩ := h
  refine ⟨fun i hi => (e _ (by omega)).trans (h1 i hi), fun i hi => (e _ (by omega)).trans (h2 i hi), fun i hi => (e _ (by omega)).trans (h3 i hi), (e _ (by omega)).trans h4, fun i hi => (e _ (by omega)).trans (h5 i hi), fun a ha => ?_⟩
  rw [e _ (by omega), e _ (by omega), e _ (by omega), e _ (by omega), e _ (by omega), e _ (by omega), e _ (by omega), e _ (by omega), e _ (by omega)]
  exact h6 a ha
section
variable {v : sV} {K n : Nat} {r : sR} {W : aW} {B : Nat}
/-- what the reference's side rests on -/
theorem MW_f {w : sV} (h : MW W v) (hv : ∀ p, 157 ≤ p → p < 169 → p ≠ 157 → w p = v p) (h5 : w 157 5 = v 157 5) (h4 : w 157 4 = v 157 4) (hf : w 157 15 = v 157 15) : MW W w := by
  obtain ⟨g1, g2, g3, g4, g5⟩ := h
  have e : ∀ p, 158 ≤ p → p < 169 → w p = v p := fun p p1 p2 => hv p (by omega) p2 (by omega)
  refine ⟨⟨by rw [e 158 (by decide) (by decide)]; exact g1.1, cacM_v g1.2 (e 164 (by decide) (by decide)) (e 162 (by decide) (by decide))⟩, h5.trans g2, ?_, ?_, ?_⟩
  · rw [e 161 (by decide) (by decide)]; exact g3
  · rw [h4, e 159 (by decide) (by decide)]; exact g4
  · rw [hf, e 168 (by decide) (by decide)]; exact g5
theorem MW_t {y : Int32} (h : MW W v) : MW W (s2 v 157 6 y) :=
  MW_f h (fun p _ _ p3 => s2_ne p3) (s2_j (by decide)) (s2_j (by decide)) (s2_j (by decide))
/-- what the class's side rests on -/
theorem CW_g {v' : sV} (h : CW W r v n) (hv : ∀ p, p < 157 ∨ 172 ≤ p → v' p = v p) : CW W r v' n := by
  obtain ⟨g1, g2, g3, g4, g5, g6⟩ := h
  refine ⟨rcF g1 (fun p p1 p2 => hv p (by omega)), cacC_v g2 (fun p hp => hv p (by omega)), ?_, ⟨fun k hk => rcF (g4.1 k hk) (fun p p1 p2 => hv p (by have := @slot_b W.2.1.2 W.2.1.1 k; omega)), fun k hk => by rw [hv 36 (by omega)]; exact g4.2 k hk⟩, ?_, ?_⟩
  · rw [hv 35 (by omega)]; exact g3
  · rw [hv 0 (by omega)]
    exact ⟨g5.1, fun S hS => rcF (g5.2 S hS) (fun p p1 p2 => hv p (by omega))⟩
  · rw [hv 154 (by omega), hv 155 (by omega)]; exact g6
def GOOD (B : Nat) (r : sR) (v : sV) (n : Nat) : Prop := ∃ W, CW W r v n ∧ MW W v ∧ IW B W
def OUT {β : Type} (B : Nat) (fL : Option ((Int32 × (Int64 × UInt64)) × sR × sV × Nat)) (f7 : sV → Option (β × sV)) (P : Int64 × UInt64 → β → Prop) (n : Nat) : Prop :=
  ∃ r' v' k x', sO fL f7 P r' v' k x' ∧ GOOD B r' v' (n + k)
theorem fin_ok {β : Type} {fL : Option ((Int32 × (Int64 × UInt64)) × sR × sV × Nat)} {f7 : sV → Option (β × sV)} {P : Int64 × UInt64 → β → Prop} {W' : aW} (hM : MW W v) {r1 : sR} {v1 : sV} {k1 : Nat} {code : Int32} {x' : Int64 × UInt64} (e1 : fL = some ((code, x'), r1, v1, k1)) (hC' : CW W' r1 v1 (n + k1)) (hf : ∀ p, 157 ≤ p → p < 172 → v1 p = v p) (hI' : IW B W')
    (h7 : ∀ w, MW W w → ∃ z v2, f7 w = some (z, v2) ∧ v2 157 6 = code ∧ (code = 0 → P x' z) ∧ MW W' v2 ∧ ∀ p, p < 157 ∨ 172 ≤ p → v2 p = w p) : OUT B fL f7 P n := by
  have hM1 : MW W v1 := MW_f hM (fun p p1 p2 _ => hf p p1 (by omega)) (by rw [hf 157 (by decide) (by decide)]) (by rw [hf 157 (by decide) (by decide)]) (by rw [hf 157 (by decide) (by decide)])
  obtain ⟨z, v2, e2, e3, e4, g1, g2⟩ := h7 v1 hM1
  exact ⟨r1, v2, k1, x', ⟨_, (z, v2), e1, hC'.2.1.1, e2, by show some (v2 157 6) = some code; rw [e3], e4, rfl, rfl, rfl, rfl⟩, W', CW_g hC' g2, g1, hI'⟩
theorem ac_0 {α β : Type} {a : α} {f : α → sR → sV → Nat → Option (β × sR × sV × Nat)} : ac (a, r, v, 0) n f = f a r v n := by
  unfold ac
  show (f a r v n).map _ = f a r v n
  cases f a r v n with
  | none => rfl
  | some z => simp
theorem acT_l {α β : Type} {a : α} {f : α → sR → sV → Nat → Option (Sum β Nat × sR × sV × Nat)} : acT (Sum.inl a, r, v, 0) n f = f a r v n := ac_0
theorem acT_r {α β : Type} {k m : Nat} {f : α → sR → sV → Nat → Option (Sum β Nat × sR × sV × Nat)} : acT (Sum.inr k, r, v, m) n f = some (Sum.inr k, r, v, m) := rfl
theorem kp54 {c : Nat} (hc : c < 8) (h5 : v 157 5 = nI c) (hK : 434 < K) : ∃ v', fx2 (gX7_keeps_54 K) K (nI 0) v = some v' ∧ v' 157 5 = nI (c + 1) ∧ (∀ j, j < 434 → v' 161 (434 * c + j) = v 158 j) ∧ (∀ j, (j < 434 * c ∨ 434 * c + 434 ≤ j) → v' 161 j = v 161 j) ∧ (∀ p, p ≠ 157 → p ≠ 161 → v' p = v p) ∧ ∀ j, j ≠ 5 → v' 157 j = v 157 j := by
  refine fx2_go (P := fun i x1 (w : sV) => x1 = nI i ∧ (∀ p, p ≠ 161 → w p = v p) ∧ (∀ j, j < i → w 161 (434 * c + j) = v 158 j) ∧ ∀ j, (j < 434 * c ∨ 434 * c + 434 ≤ j) → w 161 j = v 161 j) (Q := fun o => ∃ (v' : sV), o = some v' ∧ v' 157 5 = nI (c + 1) ∧ (∀ j, j < 434 → v' 161 (434 * c + j) = v 158 j) ∧ (∀ j, (j < 434 * c ∨ 434 * c + 434 ≤ j) → v' 161 j = v 161 j) ∧ (∀ p, p ≠ 157 → p ≠ 161 → v' p = v p) ∧ ∀ j, j ≠ 5 → v' 157 j = v 157 j) (N := 434) ?_ ⟨rfl, fun _ _ => rfl, fun j hj => absurd hj (Nat.not_lt_zero j), fun _ _ => rfl⟩ hK
  intro i x1 w hi ⟨e1, h1, h2, h3⟩ k hk
  subst e1
  have e5 : w 157 5 = nI c := by rw [h1 157 (by decide)]; exact h5
  unfold gX7_keeps_54
  by_cases hi1 : i = 434
  · subst hi1
    simp (disch := omega) only [↓jM_e, li_0, li_1, li_2, li_3, li_4, li_5, li_6, li_7, li_8, li_9, li_10, li_13, li_14, li_15, li_16, li_31, li_35, li_47, li_48, li_49, li_50, li_57, li_99, li_100, li_126, li_139, li_140, li_149, li_150, li_280, li_284, li_285, li_290, li_434, li_1260, li_3472, li_9999, li_65536, nm, nm_w, sf_w, cp_w, ld_I, sa_I, nI_add, pk_mul, Nat.zero_add, nI_leI, nI_ltI, nI_eq, nI_neM, M_neI, nI_ltM, nI_nltM, M_ltI, M_leI, nI_nleM, bnd_some, if_pos, if_neg, dif_t, dif_f, e5]
    refine ⟨_, rfl, s2_i, fun j hj => ?_, fun j hj => ?_, fun p p1 p2 => ?_, fun j hj => ?_⟩
    · rw [s2_p (by decide)]; exact h2 j hj
    · rw [s2_p (by decide)]; exact h3 j hj
    · rw [s2_ne p1]; exact h1 p p2
    · rw [s2_j hj, h1 157 (by decide)]
  · have hlt : i < 434 := by omega
    have hix : 434 * c + i < 3472 := by omega
    simp (disch := omega) only [↓jM_e, li_0, li_1, li_2, li_3, li_4, li_5, li_6, li_7, li_8, li_9, li_10, li_13, li_14, li_15, li_16, li_31, li_35, li_47, li_48, li_49, li_50, li_57, li_99, li_100, li_126, li_139, li_140, li_149, li_150, li_280, li_284, li_285, li_290, li_434, li_1260, li_3472, li_9999, li_65536, nm, nm_w, sf_w, cp_w, ld_I, sa_I, nI_add, pk_mul, Nat.zero_add, nI_leI, nI_ltI, nI_eq, nI_neM, M_neI, nI_ltM, nI_nltM, M_ltI, M_leI, nI_nleM, bnd_some, if_pos, if_neg, dif_t, dif_f, e5]
    refine hk hlt _ _ ⟨rfl, fun p hp => by rw [s2_ne hp]; exact h1 p hp, fun j hj => ?_, fun j hj => ?_⟩
    · by_cases hji : j = i
      · rw [hji, s2_i, h1 158 (by decide)]
      · rw [s2_j (by omega)]; exact h2 j (by omega)
    · rw [s2_j (by omega)]; exact h3 j hj
theorem keep_M (h : MW W v) (hI : IW B W) (hK : 4000 < K) : ∃ v', fX7_keeps K v = some v' ∧ MW (wK W) v' ∧ (∀ p, p ≠ 157 → p ≠ 161 → v' p = v p) ∧ v' 157 6 = v 157 6 := by
  obtain ⟨S, ⟨c, nx⟩, H, sv, le, L⟩ := W
  obtain ⟨g1, g2, g3, g4, g5⟩ := h
  obtain ⟨i1, i2, i3, i4, i5, i6⟩ := hI
  dsimp only at g1 g2 g3 g4 g5 i1 i2 i3 i4 i5 i6
  unfold fX7_keeps
  by_cases h8 : c = 8
  · subst h8
    simp (disch := omega) only [↓jM_e, li_0, li_1, li_2, li_3, li_4, li_5, li_6, li_7, li_8, li_9, li_10, li_13, li_14, li_15, li_16, li_31, li_35, li_47, li_48, li_49, li_50, li_57, li_99, li_100, li_126, li_139, li_140, li_149, li_150, li_280, li_284, li_285, li_290, li_434, li_1260, li_3472, li_9999, li_65536, nm, nm_w, sf_w, cp_w, ld_I, sa_I, nI_add, pk_mul, Nat.zero_add, nI_leI, nI_ltI, nI_eq, nI_neM, M_neI, nI_ltM, nI_nltM, M_ltI, M_leI, nI_nleM, bnd_some, if_pos, if_neg, dif_t, dif_f, g2]
    refine fx2_go (P := fun t x1 (w : sV) => x1 = nI (434 + t) ∧ (∀ p, p ≠ 161 → w p = v p) ∧ (∀ j, j < t → w 161 j = v 161 (434 + j)) ∧ ∀ j, t ≤ j → w 161 j = v 161 j) (Q := fun o => ∃ v', o = some v' ∧ MW (wK (S, (8, nx), H, sv, le, L)) v' ∧ (∀ p, p ≠ 157 → p ≠ 161 → v' p = v p) ∧ v' 157 6 = v 157 6) (N := 3038) ?_ ⟨rfl, fun _ _ => rfl, fun j hj => absurd hj (Nat.not_lt_zero j), fun _ _ => rfl⟩ (by omega)
    intro t x1 w ht ⟨e1, h1, h2, h3⟩ k hk
    subst e1
    unfold gX7_keeps_13
    by_cases ht1 : t = 3038
    · subst ht1
      have e5 : w 157 5 = nI 8 := by rw [h1 157 (by decide)]; exact g2
      have e7 : nI 8 - nI 1 = nI 7 := pk_sub (by decide)
      simp (disch := omega) only [↓jM_e, li_0, li_1, li_2, li_3, li_4, li_5, li_6, li_7, li_8, li_9, li_10, li_13, li_14, li_15, li_16, li_31, li_35, li_47, li_48, li_49, li_50, li_57, li_99, li_100, li_126, li_139, li_140, li_149, li_150, li_280, li_284, li_285, li_290, li_434, li_1260, li_3472, li_9999, li_65536, nm, nm_w, sf_w, cp_w, ld_I, sa_I, nI_add, pk_mul, Nat.zero_add, nI_leI, nI_ltI, nI_eq, nI_neM, M_neI, nI_ltM, nI_nltM, M_ltI, M_leI, nI_nleM, bnd_some, if_pos, if_neg, dif_t, dif_f, e5, e7]
      obtain ⟨v', k1, k2, k3, k4, k5, k6⟩ := kp54 (v := s2 w 157 5 (nI 7)) (K := K) (c := 7) (by decide) s2_i (by omega)
      refine ⟨v', k1, ⟨⟨?_, ?_⟩, k2, fun j hj => ?_, ?_, ?_⟩, fun p p1 p2 => ?_, ?_⟩
      · rw [k5 158 (by decide) (by decide), s2_ne (by decide), h1 158 (by decide)]; exact g1.1
      · refine cacM_v g1.2 ?_ ?_
        · rw [k5 164 (by decide) (by decide), s2_ne (by decide), h1 164 (by decide)]
        · rw [k5 162 (by decide) (by decide), s2_ne (by decide), h1 162 (by decide)]
      · have hj : j < 8 := hj
        show RelM (if j < 7 then H (j + 1) else S) _
        by_cases hj7 : j < 7
        · rw [if_pos hj7]
          have := g3 (j + 1) (by omega)
          have hfe : ∀ m, m < 434 → v' 161 (434 * j + m) = v 161 (434 * (j + 1) + m) := by
            intro m hm
            rw [k4 _ (by omega), s2_p (by decide), h2 _ (by omega)]
            congr 1
            omega
          exact RelM_c this (fun m hm => hfe m hm)
        · rw [if_neg hj7]
          have hj7' : j = 7 := by omega
          subst hj7'
          refine RelM_c g1.1 (fun m hm => ?_)
          rw [k3 m hm, s2_ne (by decide), h1 158 (by decide)]
      · refine ⟨?_, fun S' hS' => ?_⟩
        · rw [k6 4 (by decide), s2_j (by decide), h1 157 (by decide)]; exact g4.1
        · rw [k5 159 (by decide) (by decide), s2_ne (by decide), h1 159 (by decide)]; exact g4.2 S' hS'
      · refine ⟨?_, fun i hi => ?_⟩
        · rw [k6 15 (by decide), s2_j (by decide), h1 157 (by decide)]; exact g5.1
        · rw [k5 168 (by decide) (by decide), s2_ne (by decide), h1 168 (by decide)]; exact g5.2 i hi
      · rw [k5 p p1 p2, s2_ne p1, h1 p p2]
      · rw [k6 6 (by decide), s2_j (by decide), h1 157 (by decide)]
    · have hlt : t < 3038 := by omega
      have es : nI (434 + t) - nI 434 = nI t := by rw [pk_sub (by omega), Nat.add_sub_cancel_left]
      simp (disch := omega) only [↓jM_e, li_0, li_1, li_2, li_3, li_4, li_5, li_6, li_7, li_8, li_9, li_10, li_13, li_14, li_15, li_16, li_31, li_35, li_47, li_48, li_49, li_50, li_57, li_99, li_100, li_126, li_139, li_140, li_149, li_150, li_280, li_284, li_285, li_290, li_434, li_1260, li_3472, li_9999, li_65536, nm, nm_w, sf_w, cp_w, ld_I, sa_I, nI_add, pk_mul, Nat.zero_add, nI_leI, nI_ltI, nI_eq, nI_neM, M_neI, nI_ltM, nI_nltM, M_ltI, M_leI, nI_nleM, bnd_some, if_pos, if_neg, dif_t, dif_f, es]
      refine hk hlt _ _ ⟨by rw [Nat.add_assoc], fun p hp => by rw [s2_ne hp]; exact h1 p hp, fun j hj => ?_, fun j hj => ?_⟩
      · by_cases hjt : j = t
        · rw [hjt, s2_i]; exact h3 _ (by omega)
        · rw [s2_j hjt]; exact h2 j (by omega)
      · rw [s2_j (by omega)]; exact h3 j (by omega)
  · obtain ⟨v', k1, k2, k3, k4, k5, k6⟩ := kp54 (v := v) (K := K) (c := c) (by omega) g2 (by omega)
    simp (disch := omega) only [↓jM_e, li_0, li_1, li_2, li_3, li_4, li_5, li_6, li_7, li_8, li_9, li_10, li_13, li_14, li_15, li_16, li_31, li_35, li_47, li_48, li_49, li_50, li_57, li_99, li_100, li_126, li_139, li_140, li_149, li_150, li_280, li_284, li_285, li_290, li_434, li_1260, li_3472, li_9999, li_65536, nm, nm_w, sf_w, cp_w, ld_I, sa_I, nI_add, pk_mul, Nat.zero_add, nI_leI, nI_ltI, nI_eq, nI_neM, M_neI, nI_ltM, nI_nltM, M_ltI, M_leI, nI_nleM, bnd_some, if_pos, if_neg, dif_t, dif_f, g2]
    refine ⟨v', k1, ⟨⟨?_, ?_⟩, ?_, fun j hj => ?_, ?_, ?_⟩, fun p p1 p2 => k5 p p1 p2, k6 6 (by decide)⟩
    · rw [k5 158 (by decide) (by decide)]; exact g1.1
    · exact cacM_v g1.2 (k5 164 (by decide) (by decide)) (k5 162 (by decide) (by decide))
    · show v' 157 5 = nI (if c = 8 then (8, (nx + 1) % 8) else (c + 1, (nx + 1) % 8)).1
      rw [if_neg h8]; exact k2
    · have hj : j < (if c = 8 then (8, (nx + 1) % 8) else (c + 1, (nx + 1) % 8)).1 := hj
      rw [if_neg h8] at hj
      have hj : j < c + 1 := hj
      show RelM (if c = 8 then (if j < 7 then H (j + 1) else S) else (if j < c then H j else S)) _
      rw [if_neg h8]
      by_cases hjc : j < c
      · rw [if_pos hjc]
        exact RelM_c (g3 j hjc) (fun m hm => k4 _ (by omega))
      · rw [if_neg hjc]
        have hjc' : j = c := by omega
        subst hjc'
        exact RelM_c g1.1 (fun m hm => k3 m hm)
    · exact ⟨(k6 4 (by decide)).trans g4.1, fun S' hS' => by rw [k5 159 (by decide) (by decide)]; exact g4.2 S' hS'⟩
    · exact ⟨(k6 15 (by decide)).trans g5.1, fun i hi => by rw [k5 168 (by decide) (by decide)]; exact g5.2 i hi⟩
end
