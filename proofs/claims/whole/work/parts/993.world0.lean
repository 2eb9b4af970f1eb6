/-! THE FIRST WORLD: the class and the reference, new -/
section
variable {r : sR} {v : sV} {K : Nat}
theorem gD {L : List Nat} {f : Nat → Nat} {k t : Nat} (h : L.getD k 0 = t + 1) (hf : ∀ k, k < L.length → L.getD k 0 = 0 ∨ f k = L.getD k 0) : f k = t + 1 := by
  by_cases hk : k < L.length
  · rcases hf k hk with h1 | h1
    · omega
    · omega
  · rw [List.getD_eq_getElem?_getD, List.getElem?_eq_none (by omega)] at h
    cases h
theorem fi_in (hw : wf r 17) (hK : 1000 < K) : oA (fX1_init K 16 r v 17) 17 (fun _ r1 v1 n1 => n1 = 18 ∧ wf r1 18 ∧ r1 16 0 = 18 ∧ (∀ p, p < 16 → r1 p = r p) ∧ (∀ p, p < 16 → v1 p = v p) ∧ ∀ c, c < 140 → v1 17 c = jM) := by
  unfold fX1_init
  simp only [nm_w, sf_w]
  refine oA_ck ⟨rfl, hw⟩ (oA_nw 18 rfl ?_)
  have hw := wf_r2 (p := 16) (i := 0) (y := 17 + 1) (wf_rz hw) (by omega)
  have hr : r2 (rz r 17) 16 0 (17 + 1) 16 0 = 17 + 1 := r2_ij
  refine oA_ck ⟨hr, by omega⟩ (oA_fill (by decide) hK (fun w0 g0 h0 => ?_))
  refine oA_s ⟨rfl, hw, hr, fun p h => ?_, fun p h => ?_, fun c hc => ?_⟩
  · funext j
    simp (disch := omega) only [r2_o, rz_o]
  · rw [s2_ne (by omega), g0 p (by omega), vz_o (by omega)]
  · rw [s2_ne (by decide)]
    exact h0 c hc
theorem fs_in (hw : wf r 15) (hK : 1000 < K) : oA (fX2_init K 14 r v 15) 15 (fun _ r1 v1 n1 => n1 = 20 ∧ wf r1 20 ∧ (r1 14 0 = 16 ∧ r1 14 1 = 17 ∧ r1 14 2 = 19 ∧ r1 14 3 = 20 ∧ r1 16 0 = 18) ∧ (∀ t, r1 15 t = 0) ∧ (∀ p, p < 14 → r1 p = r p) ∧ (∀ p, p < 14 → v1 p = v p) ∧ ∀ c, c < 140 → v1 17 c = jM) := by
  unfold fX2_init
  simp only [nm_w]
  refine oA_ck ⟨rfl, hw⟩ (oA_nw 16 rfl ?_)
  have hw := wf_r2 (p := 14) (i := 0) (y := 15 + 1) (wf_rz hw) (by omega)
  refine oA_ck ⟨rfl, hw⟩ (oA_nw 17 rfl ?_)
  have hw := wf_rz hw
  refine oA_b (fi_in hw hK) ?_
  intro _ rA vA nA ⟨en, hw, a1, a2, a3, a4⟩
  subst en
  have hw := wf_r2 (p := 14) (i := 1) (y := 16 + 1) hw (by omega)
  refine oA_ck ⟨rfl, hw⟩ (oA_nw 19 rfl ?_)
  have hw := wf_r2 (p := 14) (i := 2) (y := 18 + 1) (wf_rz hw) (by omega)
  refine oA_ck ⟨rfl, hw⟩ (oA_nw 20 rfl ?_)
  have hw := wf_r2 (p := 14) (i := 3) (y := 19 + 1) (wf_rz hw) (by omega)
  refine oA_s ⟨rfl, hw, ⟨?_, ?_, ?_, ?_, ?_⟩, fun t => ?_, fun p h => ?_, fun p h => ?_, fun c hc => ?_⟩
  · simp (disch := omega) only [r2_o, rz_o, r2_ij, a2]
  · simp (disch := omega) only [r2_o, rz_o, r2_ij, a2]
  · simp (disch := omega) only [r2_o, rz_o, r2_ij, a2]
  · simp (disch := omega) only [r2_o, rz_o, r2_ij, a2]
  · simp (disch := omega) only [r2_o, rz_o, a1]
  · simp (disch := omega) only [r2_o, rz_o, rz_i, a2]
  · funext j
    simp (disch := omega) only [r2_o, rz_o, a2]
  · rw [vz_o (by omega), vz_o (by omega), a3 p (by omega), vz_o (by omega), vz_o (by omega)]
  · rw [vz_o (by omega), vz_o (by omega)]
    exact a4 c hc
theorem sk_h1 {t : Nat} (ht : t < 8) : sks (37 + 13 * t) = (7, 13) := by
  have : ∀ t : Fin 8, sks (37 + 13 * t.val) = (7, 13) := by decide +kernel
  exact this ⟨t, ht⟩
theorem sk_h2 {t : Nat} (ht : t < 8) : ∀ j, j < 12 → sks (37 + 13 * t + 1 + j) = (10, lnR j) := by
  intro j hj
  have : ∀ (t : Fin 8) (j : Fin 12), sks (37 + 13 * t.val + 1 + j.val) = (10, lnR j.val) := by decide +kernel
  exact this ⟨t, ht⟩ ⟨j, hj⟩
theorem hi_in (hw : wf r 36) (hK : 1000 < K) : oA (fX3_init K 35 r v 36) 36 (fun _ r1 v1 n1 => n1 = 141 ∧ wf r1 141 ∧ r1 35 0 = 37 ∧ (∀ k, k < 8 → r1 36 k = 38 + 13 * k) ∧ (∀ k j, k < 8 → j < 12 → r1 (37 + 13 * k) j = 37 + 13 * k + j + 2) ∧ (∀ p, p < 35 → r1 p = r p) ∧ ∀ p, p < 36 → v1 p = v p) := by
  unfold fX3_init
  simp only [nm_w]
  refine oA_ck ⟨rfl, hw⟩ (oA_nw 37 rfl ?_)
  have hw := wf_r2 (p := 35) (i := 0) (y := 36 + 1) (wf_rz hw) (by omega)
  refine fx4_gR (P := fun t x1 r' (v' : sV) n' => x1 = nI t ∧ n' = 37 + 13 * t ∧ wf r' n' ∧ r' 35 0 = 37 ∧ (∀ k, k < t → r' 36 k = 38 + 13 * k) ∧ (∀ k j, k < t → j < 12 → r' (37 + 13 * k) j = 37 + 13 * k + j + 2) ∧ (∀ p, p < 35 → r' p = r p) ∧ ∀ p, p < 36 → v' p = v p) (R := fun _ _ _ n' o => oA o n' (fun _ r1 v1 n1 => n1 = 141 ∧ wf r1 141 ∧ r1 35 0 = 37 ∧ (∀ k, k < 8 → r1 36 k = 38 + 13 * k) ∧ (∀ k j, k < 8 → j < 12 → r1 (37 + 13 * k) j = 37 + 13 * k + j + 2) ∧ (∀ p, p < 35 → r1 p = r p) ∧ ∀ p, p < 36 → v1 p = v p)) (N := 8) ?_ ⟨rfl, rfl, hw, r2_ij, fun k hk => absurd hk (Nat.not_lt_zero k), fun k j hk => absurd hk (Nat.not_lt_zero k), fun p h => by funext j; simp (disch := omega) only [r2_o, rz_o], fun p h => by rw [vz_o (by omega)]⟩ (by omega)
  intro t x1 r1 v1 n1 ht ⟨e1, e2, hw, h0, h1, h2, h3, h4⟩ k hk
  subst e1 e2
  unfold gX3_init_15
  by_cases ht8 : t = 8
  · subst ht8
    rw [if_pos (show (8 : Int32) ≤ nI 8 from by decide)]
    exact oA_s ⟨rfl, hw, h0, h1, h2, h3, h4⟩
  · have hlt : t < 8 := by omega
    have h8 : ¬ nI 8 ≤ nI t := by rw [nI_leI (by decide) (by omega)]; omega
    have e36 : r1 35 0 - 1 = 36 := by rw [h0]
    have hin : inR (nI t) 8 := ⟨by rw [nI_toInt (by omega)]; omega, by rw [nI_toInt (by omega)]; omega⟩
    rw [if_neg (show ¬ (8 : Int32) ≤ nI t from h8)]
    simp only [nm_w, e36, nI_clamp (show t < 2 ^ 31 by omega)]
    refine oA_ck ⟨h0, rfl, by omega⟩ (oA_ck ⟨sk_h1 hlt, hw⟩ (oA_nw (37 + 13 * t + 1) rfl ?_))
    refine oA_b (st_in (b := 37 + 13 * t) (e := 37 + 13 * (t + 1)) (sk_h2 hlt) (wf_rz hw) (by omega) hK) ?_
    intro _ rA vA nA ⟨en, hw', a1, a2, a3, a4⟩
    subst en
    refine oA_ck hin ?_
    refine hk hlt _ _ _ _ ⟨nI_add t 1, rfl, wf_r2 hw' (by omega), ?_, fun k hk => ?_, fun k j hk hj => ?_, fun p hp => ?_, fun p hp => ?_⟩
    · rw [r2_o (by omega), a2 35 (by omega), rz_o (by omega)]
      exact h0
    · by_cases hkt : k = t
      · rw [hkt, r2_ij]
        omega
      · rw [r2_o (by omega), a2 36 (by omega), rz_o (by omega)]
        exact h1 k (by omega)
    · by_cases hkt : k = t
      · rw [hkt, r2_o (by omega)]
        exact a1 j hj
      · rw [r2_o (by omega), a2 _ (by omega), rz_o (by omega)]
        exact h2 k j (by omega) hj
    · funext j
      rw [r2_o (by omega), a2 _ (by omega), rz_o (by omega), h3 p hp]
    · rw [a3 p (by omega), vz_o (by omega)]
      exact h4 p hp
theorem ma_in (hw : wf r 155) : oA (fX4_init 154 r v 155) 155 (fun _ r1 v1 n1 => n1 = 157 ∧ wf r1 157 ∧ (r1 154 0 = 156 ∧ r1 154 2 = 157) ∧ (∀ p, p < 154 → r1 p = r p) ∧ ∀ p, p < 155 → v1 p = v p) := by
  unfold fX4_init
  simp only [nm_w]
  refine oA_ck ⟨rfl, hw⟩ (oA_nw 156 rfl ?_)
  have hw := wf_r2 (p := 154) (i := 0) (y := 155 + 1) (wf_rz hw) (by omega)
  refine oA_ck ⟨rfl, hw⟩ (oA_nw 157 rfl ?_)
  have hw := wf_r2 (p := 154) (i := 2) (y := 156 + 1) (wf_rz hw) (by omega)
  refine oA_s ⟨rfl, hw, ⟨?_, ?_⟩, fun p h => ?_, fun p h => ?_⟩
  · simp (disch := omega) only [r2_o, rz_o, r2_ij]
  · simp (disch := omega) only [r2_o, rz_o, r2_ij]
  · funext j
    simp (disch := omega) only [r2_o, rz_o]
  · rw [vz_o (by omega), vz_o (by omega)]
theorem sk_S {b : Nat} (hb : okS b) : ∀ j, j < 12 → sks (b + 1 + j) = (10, lnR j) := by
  intro j hj
  have : ∀ (t : Fin 11) (j : Fin 12), sks ([1, 22, 37, 50, 63, 76, 89, 102, 115, 128, 141].getD t.val 0 + 1 + j.val) = (10, lnR j.val) := by decide +kernel
  rcases hb with rfl | rfl | rfl | rfl | rfl | rfl | rfl | rfl | rfl | rfl | rfl
  · exact this 0 ⟨j, hj⟩
  · exact this 1 ⟨j, hj⟩
  · exact this 2 ⟨j, hj⟩
  · exact this 3 ⟨j, hj⟩
  · exact this 4 ⟨j, hj⟩
  · exact this 5 ⟨j, hj⟩
  · exact this 6 ⟨j, hj⟩
  · exact this 7 ⟨j, hj⟩
  · exact this 8 ⟨j, hj⟩
  · exact this 9 ⟨j, hj⟩
  · exact this 10 ⟨j, hj⟩
end
