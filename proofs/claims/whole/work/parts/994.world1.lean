/-! THE FIRST WORLD: the class and the reference, whole -/
theorem sh_of {R : sR} (hS : ∀ b, (b = 1 ∨ b = 22 ∨ b = 141) → ∀ j, j < 12 → R b j = b + j + 2) (h0 : R 0 0 = 2 ∧ R 0 1 = 15 ∧ R 0 2 = 21 ∧ R 0 3 = 22 ∧ R 0 4 = 36 ∧ R 0 5 = 142 ∧ R 0 7 = 155) (h14 : R 14 0 = 16 ∧ R 14 1 = 17 ∧ R 14 2 = 19 ∧ R 14 3 = 20) (h16 : R 16 0 = 18) (h20 : R 20 0 = 2 ∧ R 20 1 = 15) (h21 : R 21 0 = 23 ∧ R 21 1 = 15) (h35 : R 35 0 = 37) (h154 : R 154 0 = 156 ∧ R 154 2 = 157) : ∀ p k t, p < 157 → sRT p k = t + 1 → R p k = t + 1 := by
  intro p k t hp h
  have hs : ∀ b, (b = 1 ∨ b = 22 ∨ b = 141) → sRS b k = t + 1 → R b k = t + 1 := by
    intro b hb hs
    unfold sRS at hs
    by_cases hk : k < 12
    · rw [if_pos hk] at hs
      rw [hS b hb k hk]
      exact hs
    · rw [if_neg hk] at hs
      cases hs
  unfold sRT at h
  split at h
  · refine gD h (fun k hk => ?_)
    match k, hk with
    | 0, _ => exact Or.inr h0.1
    | 1, _ => exact Or.inr h0.2.1
    | 2, _ => exact Or.inr h0.2.2.1
    | 3, _ => exact Or.inr h0.2.2.2.1
    | 4, _ => exact Or.inr h0.2.2.2.2.1
    | 5, _ => exact Or.inr h0.2.2.2.2.2.1
    | 6, _ => exact Or.inl rfl
    | 7, _ => exact Or.inr h0.2.2.2.2.2.2
    | k + 8, hk => exact absurd (show k + 8 < 8 from hk) (by omega)
  · refine gD h (fun k hk => ?_)
    match k, hk with
    | 0, _ => exact Or.inr h14.1
    | 1, _ => exact Or.inr h14.2.1
    | 2, _ => exact Or.inr h14.2.2.1
    | 3, _ => exact Or.inr h14.2.2.2
    | k + 4, hk => exact absurd (show k + 4 < 4 from hk) (by omega)
  · refine gD h (fun k hk => ?_)
    match k, hk with
    | 0, _ => exact Or.inr h16
    | k + 1, hk => exact absurd (show k + 1 < 1 from hk) (by omega)
  · refine gD h (fun k hk => ?_)
    match k, hk with
    | 0, _ => exact Or.inr h20.1
    | 1, _ => exact Or.inr h20.2
    | k + 2, hk => exact absurd (show k + 2 < 2 from hk) (by omega)
  · refine gD h (fun k hk => ?_)
    match k, hk with
    | 0, _ => exact Or.inr h21.1
    | 1, _ => exact Or.inr h21.2
    | k + 2, hk => exact absurd (show k + 2 < 2 from hk) (by omega)
  · refine gD h (fun k hk => ?_)
    match k, hk with
    | 0, _ => exact Or.inr h35
    | k + 1, hk => exact absurd (show k + 1 < 1 from hk) (by omega)
  · refine gD h (fun k hk => ?_)
    match k, hk with
    | 0, _ => exact Or.inr h154.1
    | 1, _ => exact Or.inl rfl
    | 2, _ => exact Or.inr h154.2
    | k + 3, hk => exact absurd (show k + 3 < 3 from hk) (by omega)
  · exact absurd hp (by omega)
  · exact hs _ (by omega) h
  · exact hs _ (by omega) h
  · exact hs _ (by omega) h
  · cases h
section
variable {r : sR} {v : sV} {K : Nat}
theorem cr_in {n q a b : Nat} : oA (fX0_init q a b r v n) n (fun _ r1 v1 n1 => n1 = n ∧ r1 = r2 (r2 r q 0 (a + 1)) q 1 (b + 1) ∧ v1 = v) := by
  unfold fX0_init
  simp only [nm_w]
  exact oA_s ⟨rfl, rfl, rfl⟩
set_option maxHeartbeats 1000000 in
theorem x6_in (hw : wz r 1) (hK : 1000 < K) : oA (fX6_init K 0 r v 1) 1 (fun _ r1 v1 n1 => n1 = 157 ∧ wz r1 157 ∧ (∀ p k t, p < 157 → sRT p k = t + 1 → r1 p k = t + 1) ∧ (∀ t, r1 15 t = 0) ∧ RelC 1 S0 v1 ∧ (∀ c, c < 140 → v1 17 c = jM) ∧ (v1 35 1 = nI 0 ∧ v1 35 2 = nI 0) ∧ v1 0 6 = nI 0 ∧ v1 154 1 = nI 0 ∧ ∀ i, v1 36 i = nI 0) := by
  unfold fX6_init
  simp only [nm_w, sf_w]
  refine oA_ck ⟨rfl, hw.1⟩ (oA_nw 2 rfl ?_)
  refine oA_b (st_in (b := 1) (e := 14) (by omega) (sk_S (Or.inl rfl)) (wz_rz hw) rfl hK) ?_
  intro _ rA vA nA ⟨en, hw, a1, a2, a3, a4⟩
  subst en
  have hw := wz_r2 (p := 0) (i := 0) (y := 1 + 1) hw (by omega)
  refine oA_ck ⟨rfl, hw.1⟩ (oA_nw 15 rfl ?_)
  refine oA_b (fs_in (wz_rz hw) hK) ?_
  intro _ rB vB nB ⟨en, hw, ⟨b0, b1, b2, b3, b4⟩, b5, b6, b7, b8⟩
  subst en
  have hw := wz_r2 (p := 0) (i := 1) (y := 14 + 1) hw (by omega)
  refine oA_ck ⟨rfl, hw.1⟩ (oA_nw 21 rfl ?_)
  refine oA_ck ⟨by simp (disch := omega) only [r2_o, rz_o, r2_ij, b6], wz_lv (wz_rz hw) (by omega) (by omega)⟩ (oA_ck ⟨by simp (disch := omega) only [r2_o, rz_o, r2_ij], wz_lv (wz_rz hw) (by omega) (by omega)⟩ ?_)
  refine oA_b cr_in ?_
  intro _ rC vC nC ⟨en, er, ev⟩
  subst en er ev
  have hw := wz_r2 (p := 0) (i := 2) (y := 20 + 1) (wz_r2 (p := 20) (i := 1) (y := 14 + 1) (wz_r2 (p := 20) (i := 0) (y := 1 + 1) (wz_rz hw) (by omega)) (by omega)) (by omega)
  refine oA_ck ⟨rfl, hw.1⟩ (oA_nw 22 rfl ?_)
  have hw := wz_rz hw
  refine oA_ck ⟨rfl, hw.1⟩ (oA_nw 23 rfl ?_)
  refine oA_b (st_in (b := 22) (e := 35) (by omega) (sk_S (Or.inr (Or.inl rfl))) (wz_rz hw) rfl hK) ?_
  intro _ rD vD nD ⟨en, hw, d1, d2, d3, d4⟩
  subst en
  refine oA_ck ⟨by simp (disch := omega) only [r2_o, rz_o, r2_ij, d2], wz_lv hw (by omega) (by omega)⟩ ?_
  refine oA_b cr_in ?_
  intro _ rE vE nE ⟨en, er, ev⟩
  subst en er ev
  have hw := wz_r2 (p := 0) (i := 3) (y := 21 + 1) (wz_r2 (p := 21) (i := 1) (y := 14 + 1) (wz_r2 (p := 21) (i := 0) (y := 22 + 1) hw (by omega)) (by omega)) (by omega)
  refine oA_ck ⟨rfl, hw.1⟩ (oA_nw 36 rfl ?_)
  refine oA_b (hi_in (wz_rz hw)) ?_
  intro _ rF vF nF ⟨en, hw, f1, f4, f5, f6⟩
  subst en
  have hw := wz_r2 (p := 0) (i := 4) (y := 35 + 1) hw (by omega)
  refine oA_ck ⟨rfl, hw.1⟩ (oA_j ?_)
  have hw := wz_rj hw
  refine oA_ck ⟨rfl, hw.1⟩ (oA_nw 142 rfl ?_)
  refine oA_b (st_in (b := 141) (e := 154) (by omega) (sk_S (Or.inr (Or.inr rfl))) (wz_rz hw) rfl hK) ?_
  intro _ rG vG nG ⟨en, hw, g1, g2, g3, g4⟩
  subst en
  have hw := wz_r2 (p := 0) (i := 5) (y := 141 + 1) hw (by omega)
  refine oA_ck ⟨rfl, hw.1⟩ (oA_nw 155 rfl ?_)
  refine oA_b (ma_in (wz_rz hw)) ?_
  intro _ rH vH nH ⟨en, hw, ⟨m1, m2⟩, m3, m4⟩
  subst en
  have hw := wz_r2 (p := 0) (i := 7) (y := 154 + 1) hw (by omega)
  refine oA_s ⟨rfl, hw, ?_, ?_, ?_, ?_, ⟨?_, ?_⟩, ?_, ?_, fun i => ?_⟩
  · refine sh_of (fun b hb j hj => ?_) ⟨?_, ?_, ?_, ?_, ?_, ?_, ?_⟩ ⟨?_, ?_, ?_, ?_⟩ ?_ ⟨?_, ?_⟩ ⟨?_, ?_⟩ ?_ ⟨?_, ?_⟩
    · rcases hb with rfl | rfl | rfl
      · simp (disch := omega) only [r2_o, rz_o, rj_o, m3, g2, f4, d2, b6, a1]
      · simp (disch := omega) only [r2_o, rz_o, rj_o, m3, g2, f4, d1]
      · simp (disch := omega) only [r2_o, rz_o, rj_o, m3, g1]
    · simp (disch := omega) only [r2_o, rz_o, rj_o, r2_ij, m1, m2, m3, g2, f4, d2, b6]
    · simp (disch := omega) only [r2_o, rz_o, rj_o, r2_ij, m1, m2, m3, g2, f4, d2, b6]
    · simp (disch := omega) only [r2_o, rz_o, rj_o, r2_ij, m1, m2, m3, g2, f4, d2, b6]
    · simp (disch := omega) only [r2_o, rz_o, rj_o, r2_ij, m1, m2, m3, g2, f4, d2, b6]
    · simp (disch := omega) only [r2_o, rz_o, rj_o, r2_ij, m1, m2, m3, g2, f4, d2, b6]
    · simp (disch := omega) only [r2_o, rz_o, rj_o, r2_ij, m1, m2, m3, g2, f4, d2, b6]
    · simp (disch := omega) only [r2_o, rz_o, rj_o, r2_ij, m1, m2, m3, g2, f4, d2, b6]
    · simp (disch := omega) only [r2_o, rz_o, rj_o, m3, g2, f4, d2, b0]
    · simp (disch := omega) only [r2_o, rz_o, rj_o, m3, g2, f4, d2, b1]
    · simp (disch := omega) only [r2_o, rz_o, rj_o, m3, g2, f4, d2, b2]
    · simp (disch := omega) only [r2_o, rz_o, rj_o, m3, g2, f4, d2, b3]
    · simp (disch := omega) only [r2_o, rz_o, rj_o, m3, g2, f4, d2, b4]
    · simp (disch := omega) only [r2_o, rz_o, rj_o, r2_ij, m1, m2, m3, g2, f4, d2, b6]
    · simp (disch := omega) only [r2_o, rz_o, rj_o, r2_ij, m1, m2, m3, g2, f4, d2, b6]
    · simp (disch := omega) only [r2_o, rz_o, rj_o, r2_ij, m1, m2, m3, g2, f4, d2, b6]
    · simp (disch := omega) only [r2_o, rz_o, rj_o, r2_ij, m1, m2, m3, g2, f4, d2, b6]
    · simp (disch := omega) only [r2_o, rz_o, rj_o, m3, g2, f1]
    · simp (disch := omega) only [r2_o, rz_o, rj_o, m1]
    · simp (disch := omega) only [r2_o, rz_o, rj_o, m2]
  · intro t
    simp (disch := omega) only [r2_o, rz_o, rj_o, m3, g2, f4, d2, b5]
  · exact rcF a4 (fun p p1 p2 => by simp (disch := omega) only [m4, vz_o, s2_ne, g3, f5, d3, b7])
  · intro c hc
    simp (disch := omega) only [m4, vz_o, s2_ne, g3, f5, d3]
    exact b8 c hc
  · simp (disch := omega) only [m4, vz_o, s2_ne, g3, f5, vz_i]
  · simp (disch := omega) only [m4, vz_o, s2_ne, g3, f5, vz_i]
  · rw [m4 0 (by decide), vz_o (by decide)]
    exact s2_i
  · rw [m4 154 (by decide)]
    exact vz_i
  · simp (disch := omega) only [m4, vz_o, s2_ne, g3]
    exact f6 i
/-- the reference: its two loops -/
theorem x7_l {rr : sR} {vv : sV} {Q : Unit → sR → sV → Nat → Prop} (he : rr 157 0 = 159) (hl8 : lv rr 170 158) (hz : ∀ i, vv 158 i = nI 0) (hK : 1000 < K) (hQ : ∀ w, (∀ p, p ≠ 158 → w p = vv p) → RelM S0 (w 158) → Q () rr w 170) : oA (fx4 (gX7_init_112 K 157) K 0 rr vv 170) 170 Q := by
  have e158 : rr 157 0 - 1 = 158 := by rw [he]
  refine fx4_go (P := fun t x1 r' (w : sV) n' => x1 = nI t ∧ r' = rr ∧ n' = 170 ∧ (∀ p, p ≠ 158 → w p = vv p) ∧ (∀ i, i < t → w 158 i = nI 1) ∧ ∀ i, t ≤ i → w 158 i = nI 0) (Q := fun o => oA o 170 Q) (N := 140) ?_ ⟨rfl, rfl, rfl, fun _ _ => rfl, fun i hi => absurd hi (Nat.not_lt_zero i), fun i _ => hz i⟩ (by omega)
  intro t x1 r' w n' ht ⟨e1, er, en, h1, h2, h3⟩ k hk
  subst e1 er en
  unfold gX7_init_112
  by_cases ht1 : t = 140
  · subst ht1
    rw [if_pos (show (140 : Int32) ≤ nI 140 from by decide)]
    refine fx4_go (P := fun t x1 r1 (w : sV) n' => x1 = nI t ∧ r1 = r' ∧ n' = 170 ∧ (∀ p, p ≠ 158 → w p = vv p) ∧ (∀ i, i < 140 → w 158 i = nI 1) ∧ (∀ g, g < t → w 158 (280 + g) = jM) ∧ ∀ i, 140 ≤ i → (i < 280 ∨ 280 + t ≤ i) → w 158 i = nI 0) (Q := fun o => oA o 170 Q) (N := 4) ?_ ⟨rfl, rfl, rfl, h1, h2, fun g hg => absurd hg (Nat.not_lt_zero g), fun i hi _ => h3 i hi⟩ (by omega)
    clear hk
    intro t x1 r1 w1 n1 ht ⟨e1, er, en, g1, g2, g3, g4⟩ k hk
    subst e1 er en
    unfold gX7_init_136
    by_cases ht4 : t = 4
    · subst ht4
      rw [if_pos (show (4 : Int32) ≤ nI 4 from by decide), nm_w, e158]
      refine oA_ck ⟨he, rfl, hl8⟩ ?_
      rw [show (284 : Int32) = nI 284 from rfl, sa_I (by decide) (by decide)]
      refine oA_s (hQ _ (fun p hp => by rw [s2_ne hp]; exact g1 p hp) ⟨fun i hi => ?_, fun i hi => ?_, fun g hg => ?_, s2_i, fun i hi => ?_, fun a ha => ⟨fun _ => ?_, fun h => absurd rfl h⟩⟩)
      · rw [s2_j (by omega)]
        exact g2 i hi
      · rw [s2_j (by omega)]
        exact g4 _ (by omega) (by omega)
      · rw [s2_j (by omega)]
        exact g3 g hg
      · rw [s2_j (by omega)]
        exact g4 _ (by omega) (by omega)
      · rw [s2_j (by omega), g4 _ (by omega) (by omega)]
        decide
    · have hlt : t < 4 := by omega
      have h4 : ¬ nI 4 ≤ nI t := by rw [nI_leI (by decide) (by omega)]; omega
      rw [if_neg (show ¬ (4 : Int32) ≤ nI t from h4), nm_w, e158]
      refine oA_ck ⟨he, rfl, hl8⟩ ?_
      rw [show (280 : Int32) + nI t = nI (280 + t) from nI_add 280 t, sa_I (by omega) (by decide), nm_w]
      refine hk hlt _ _ _ _ ⟨nI_add t 1, rfl, rfl, fun p hp => by rw [s2_ne hp]; exact g1 p hp, fun i hi => by rw [s2_j (by omega)]; exact g2 i hi, fun g hg => ?_, fun i hi hi2 => by rw [s2_j (by omega)]; exact g4 i hi (by omega)⟩
      by_cases hgt : g = t
      · rw [hgt]
        exact s2_i
      · rw [s2_j (by omega)]
        exact g3 g (by omega)
  · have hlt : t < 140 := by omega
    have h4 : ¬ nI 140 ≤ nI t := by rw [nI_leI (by decide) (by omega)]; omega
    rw [if_neg (show ¬ (140 : Int32) ≤ nI t from h4), nm_w, e158]
    refine oA_ck ⟨he, rfl, hl8⟩ ?_
    rw [show (0 : Int32) + nI t = nI t from Int32.zero_add _, sa_I (by omega) (by decide), nm_w]
    refine hk hlt _ _ _ _ ⟨nI_add t 1, rfl, rfl, fun p hp => by rw [s2_ne hp]; exact h1 p hp, fun i hi => ?_, fun i hi => by rw [s2_j (by omega)]; exact h3 i (by omega)⟩
    by_cases hit : i = t
    · rw [hit]
      exact s2_i
    · rw [s2_j hit]
      exact h2 i (by omega)
set_option maxHeartbeats 1000000 in
theorem x7_in (hw : wz r 158) (hK : 1000 < K) : oA (fX7_init K 157 r v 158) 158 (fun _ r1 v1 n1 => n1 = 170 ∧ wz r1 170 ∧ (∀ k t, sRT 157 k = t + 1 → r1 157 k = t + 1) ∧ (∀ p, p < 157 → r1 p = r p) ∧ (∀ p, p < 158 → v1 p = v p) ∧ RelM S0 (v1 158) ∧ ∀ t, v1 164 t = nI 0) := by
  unfold fX7_init
  simp only [nm_w]
  refine oA_ck ⟨rfl, hw.1⟩ (oA_nw 159 rfl ?_)
  have hw := wz_r2 (p := 157) (i := 0) (y := 158 + 1) (wz_rz hw) (by omega)
  refine oA_ck ⟨rfl, hw.1⟩ (oA_nw 160 rfl ?_)
  have hw := wz_r2 (p := 157) (i := 1) (y := 159 + 1) (wz_rz hw) (by omega)
  refine oA_ck ⟨rfl, hw.1⟩ (oA_nw 161 rfl ?_)
  have hw := wz_r2 (p := 157) (i := 2) (y := 160 + 1) (wz_rz hw) (by omega)
  refine oA_ck ⟨rfl, hw.1⟩ (oA_nw 162 rfl ?_)
  have hw := wz_r2 (p := 157) (i := 3) (y := 161 + 1) (wz_rz hw) (by omega)
  refine oA_ck ⟨rfl, hw.1⟩ (oA_nw 163 rfl ?_)
  have hw := wz_r2 (p := 157) (i := 7) (y := 162 + 1) (wz_rz hw) (by omega)
  refine oA_ck ⟨rfl, hw.1⟩ (oA_nw 164 rfl ?_)
  have hw := wz_r2 (p := 157) (i := 8) (y := 163 + 1) (wz_rz hw) (by omega)
  refine oA_ck ⟨rfl, hw.1⟩ (oA_nw 165 rfl ?_)
  have hw := wz_r2 (p := 157) (i := 9) (y := 164 + 1) (wz_rz hw) (by omega)
  refine oA_ck ⟨rfl, hw.1⟩ (oA_nw 166 rfl ?_)
  have hw := wz_r2 (p := 157) (i := 10) (y := 165 + 1) (wz_rz hw) (by omega)
  refine oA_ck ⟨rfl, hw.1⟩ (oA_nw 167 rfl ?_)
  have hw := wz_r2 (p := 157) (i := 11) (y := 166 + 1) (wz_rz hw) (by omega)
  refine oA_ck ⟨rfl, hw.1⟩ (oA_nw 168 rfl ?_)
  have hw := wz_r2 (p := 157) (i := 12) (y := 167 + 1) (wz_rz hw) (by omega)
  refine oA_ck ⟨rfl, hw.1⟩ (oA_nw 169 rfl ?_)
  have hw := wz_r2 (p := 157) (i := 13) (y := 168 + 1) (wz_rz hw) (by omega)
  refine oA_ck ⟨rfl, hw.1⟩ (oA_nw 170 rfl ?_)
  have hw := wz_r2 (p := 157) (i := 14) (y := 169 + 1) (wz_rz hw) (by omega)
  refine x7_l ?_ (wz_lv hw (by omega) (by omega)) (fun i => ?_) hK (fun w g1 g2 => ⟨rfl, hw, fun k t h => ?_, fun p hp => ?_, fun p hp => ?_, g2, fun t => ?_⟩)
  · simp (disch := omega) only [r2_o, rz_o, r2_ij]
  · simp (disch := omega) only [vz_o, vz_i]
  · refine gD (L := [159, 160, 161, 162, 0, 0, 0, 163, 164, 165, 166, 167, 168, 169, 170, 0]) h (fun k hk => ?_)
    match k, hk with
    | 0, _ =>
      right
      simp (disch := omega) only [r2_o, rz_o, r2_ij]
      rfl
    | 1, _ =>
      right
      simp (disch := omega) only [r2_o, rz_o, r2_ij]
      rfl
    | 2, _ =>
      right
      simp (disch := omega) only [r2_o, rz_o, r2_ij]
      rfl
    | 3, _ =>
      right
      simp (disch := omega) only [r2_o, rz_o, r2_ij]
      rfl
    | 4, _ => exact Or.inl rfl
    | 5, _ => exact Or.inl rfl
    | 6, _ => exact Or.inl rfl
    | 7, _ =>
      right
      simp (disch := omega) only [r2_o, rz_o, r2_ij]
      rfl
    | 8, _ =>
      right
      simp (disch := omega) only [r2_o, rz_o, r2_ij]
      rfl
    | 9, _ =>
      right
      simp (disch := omega) only [r2_o, rz_o, r2_ij]
      rfl
    | 10, _ =>
      right
      simp (disch := omega) only [r2_o, rz_o, r2_ij]
      rfl
    | 11, _ =>
      right
      simp (disch := omega) only [r2_o, rz_o, r2_ij]
      rfl
    | 12, _ =>
      right
      simp (disch := omega) only [r2_o, rz_o, r2_ij]
      rfl
    | 13, _ =>
      right
      simp (disch := omega) only [r2_o, rz_o, r2_ij]
      rfl
    | 14, _ =>
      right
      simp (disch := omega) only [r2_o, rz_o, r2_ij]
      rfl
    | 15, _ => exact Or.inl rfl
    | k + 16, hk => exact absurd (show k + 16 < 16 from hk) (by omega)
  · funext j
    simp (disch := omega) only [r2_o, rz_o]
  · rw [g1 p (by omega)]
    simp (disch := omega) only [vz_o]
  · rw [g1 164 (by decide)]
    simp (disch := omega) only [vz_o, vz_i]
theorem iS_00 : iS 0 S0 := by
  have hc : ∀ i, coS S0 i = 1 := fun i => clI_n (n := 1) (by decide)
  refine ⟨fun i hi => ?_, fun g hg => Or.inl rfl, fun a ha => Or.inl rfl, fun a ha h => absurd rfl h, fun a ha _ => rfl, fun i hi => ⟨0, Nat.le_refl _, rfl⟩, fun a b _ _ h => absurd rfl h⟩
  rw [hc]
  exact ⟨rfl, by omega⟩
theorem sRT_m {p k : Nat} (h : 158 ≤ p) : sRT p k = 0 := by
  unfold sRT
  split <;> first | rfl | omega
theorem st_ok (hK : 1000 < K) : oA (fSt K (fun _ _ => 0) (fun _ _ => 0)) 0 (fun _ r v n => n = 172 ∧ sSh r ∧ GOOD 0 r v 172) := by
  unfold fSt
  have hw : wz (fun _ _ => 0) 0 := ⟨fun p k hp => absurd hp (Nat.not_lt_zero p), fun p hp => absurd hp (Nat.not_lt_zero p), fun _ _ => Or.inl (Nat.zero_le _), fun h => absurd h (by decide), fun _ => rfl⟩
  refine oA_ck ⟨rfl, hw.1⟩ (oA_nw 1 rfl ?_)
  refine oA_b (x6_in (wz_rz hw) hK) ?_
  intro _ rA vA nA ⟨en, hw, a1, a2, a3, a4, ⟨a5, a6⟩, a7, a8, a9⟩
  subst en
  refine oA_ck rfl (oA_ck ⟨rfl, hw.1⟩ (oA_nw 158 rfl ?_))
  refine oA_b (x7_in (wz_rz hw) hK) ?_
  intro _ rB vB nB ⟨en, hw, b1, b2, b3, b4, b5⟩
  subst en
  refine oA_ck rfl (oA_ck ⟨rfl, hw.1⟩ (oA_nw 171 rfl ?_))
  have hw := wz_rz hw
  refine oA_ck rfl (oA_ck ⟨rfl, hw.1⟩ (oA_nw 172 rfl ?_))
  have hw := wz_rz hw
  have hv : ∀ p, p < 157 → vz (vz vB 170) 171 p = vA p := by
    intro p hp
    rw [vz_o (by omega), vz_o (by omega), b3 p (by omega), vz_o (by omega)]
  have hsh : sSh (rz (rz rB 170) 171) := by
    refine ⟨fun p k t h => ?_, fun q hq => hw.2.1 q (by have := sAlB_lt hq; omega) (by have := sAlB_lt hq; omega), fun i _ => Or.inl (hw.2.2.2.2 i)⟩
    by_cases h1 : p < 157
    · rw [rz_o (by omega), rz_o (by omega), b2 p h1, rz_o (by omega)]
      exact a1 p k t h1 h
    · by_cases h2 : p = 157
      · subst h2
        rw [rz_o (by omega), rz_o (by omega)]
        exact b1 k t h
      · rw [sRT_m (by omega)] at h
        cases h
  have h15 : ∀ t, rz (rz rB 170) 171 15 t = 0 := by
    intro t
    rw [rz_o (by omega), rz_o (by omega), b2 15 (by omega), rz_o (by omega)]
    exact a2 t
  have h157 : ∀ j, vz (vz vB 170) 171 157 j = nI 0 := by
    intro j
    rw [vz_o (by omega), vz_o (by omega), b3 157 (by omega)]
    exact vz_i
  refine oA_s ⟨rfl, hsh, (S0, (0, 0), fun _ => S0, none, 0, fun _ => 0), ⟨?_, ⟨hsh, ⟨hw.1, fun i hi _ => ⟨fun j hj => hw.2.2.2.1 (by decide) _ (by omega) (by omega), fun j p k hj => ?_⟩, fun i hi => ?_⟩, ?_, ?_, ?_, ?_⟩, ⟨?_, ?_⟩, ⟨?_, ?_⟩, ⟨?_, ?_⟩, ?_, ?_⟩, ⟨⟨?_, ?_⟩, ?_, ?_, ⟨?_, ?_⟩, ?_, ?_⟩, iS_00, ?_, ?_, Nat.zero_le _, by decide, Nat.zero_le _⟩
  · exact rcF a3 (fun p p1 p2 => hv p (by omega))
  · have h9 : rz (rz rB 170) 171 p k ≤ 37 ∨ 142 ≤ rz (rz rB 170) 171 p k := hw.2.2.1 p k
    omega
  · rw [hv 36 (by decide), a9]
    exact ⟨fun h => absurd h (by decide), fun h => absurd (hw.2.2.2.2 i) h⟩
  · rw [cnI_zz (fun t ht => by rw [h15]; rfl), cnI_zz (fun t ht => by rw [hw.2.2.2.2]; rfl)]
  · intro c hc
    rw [hv 17 (by decide)]
    exact a4 c hc
  · exact fun t ht => Or.inl (h15 t)
  · exact fun t t' ht ht' _ => Or.inl (h15 t)
  · rw [hv 35 (by decide)]
    exact a6
  · rw [hv 35 (by decide)]
    exact a5
  · exact fun k hk => absurd hk (Nat.not_lt_zero k)
  · exact fun k hk => absurd hk (Nat.not_lt_zero k)
  · rw [hv 0 (by decide)]
    exact a7
  · exact fun S hS => by cases hS
  · rw [hv 154 (by decide)]
    exact a8
  · exact fun i hi => absurd hi (Nat.not_lt_zero i)
  · rw [vz_o (by omega), vz_o (by omega)]
    exact b4
  · intro t ht
    left
    rw [vz_o (by omega), vz_o (by omega)]
    exact b5 t
  · exact h157 5
  · exact fun k hk => absurd hk (Nat.not_lt_zero k)
  · exact h157 4
  · exact fun S hS => by cases hS
  · exact h157 15
  · exact fun i hi => absurd hi (Nat.not_lt_zero i)
  · exact fun k hk => absurd hk (Nat.not_lt_zero k)
  · exact fun S hS => by cases hS
end
