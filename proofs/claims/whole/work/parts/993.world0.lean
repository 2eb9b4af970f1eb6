/-! THE FIRST WORLD: the class and the reference, new -/
section
variable {r : sR} {v : sV} {K : Nat}
theorem gD {L : List Nat} {f : Nat → Nat} {k t : Nat} (h : L.getD k 0 = t + 1) (hf : ∀ k, k < L.length → L.getD k 0 = 0 ∨ f k = L.getD k 0) : f k = t + 1 := by
  by_cases hk : k < L.length
  · rcases hf k hk with h1 | h1
    · omega
    · omega
  · rw [List.getD_eq_getElem?_getD, List.getElem?_eq_none (by omega)] at h
    cases h
theorem fi_in (hw : wz r 17) (hK : 1000 < K) : oA (fX1_init K 16 r v 17) 17 (fun _ r1 v1 n1 => n1 = 18 ∧ wz r1 18 ∧ r1 16 0 = 18 ∧ (∀ p, p < 16 → r1 p = r p) ∧ (∀ p, p < 16 → v1 p = v p) ∧ ∀ c, c < 140 → v1 17 c = jM) := by
  unfold fX1_init
  simp only [nm_w, sf_w]
  refine oA_ck ⟨rfl, hw.1⟩ (oA_nw 18 rfl ?_)
  have hw := wz_r2 (p := 16) (i := 0) (y := 17 + 1) (wz_rz hw) (by omega)
  have hr : r2 (rz r 17) 16 0 (17 + 1) 16 0 = 17 + 1 := r2_ij
  refine oA_ck ⟨hr, wz_lv hw (by omega) (by omega)⟩ (oA_fill (by decide) hK (fun w0 g0 h0 => ?_))
  refine oA_s ⟨rfl, hw, hr, fun p h => ?_, fun p h => ?_, fun c hc => ?_⟩
  · funext j
    simp (disch := omega) only [r2_o, rz_o]
  · rw [s2_ne (by omega), g0 p (by omega), vz_o (by omega)]
  · rw [s2_ne (by decide)]
    exact h0 c hc
theorem fs_in (hw : wz r 15) (hK : 1000 < K) : oA (fX2_init K 14 r v 15) 15 (fun _ r1 v1 n1 => n1 = 20 ∧ wz r1 20 ∧ (r1 14 0 = 16 ∧ r1 14 1 = 17 ∧ r1 14 2 = 19 ∧ r1 14 3 = 20 ∧ r1 16 0 = 18) ∧ (∀ t, r1 15 t = 0) ∧ (∀ p, p < 14 → r1 p = r p) ∧ (∀ p, p < 14 → v1 p = v p) ∧ ∀ c, c < 140 → v1 17 c = jM) := by
  unfold fX2_init
  simp only [nm_w]
  refine oA_ck ⟨rfl, hw.1⟩ (oA_nw 16 rfl ?_)
  have hw := wz_r2 (p := 14) (i := 0) (y := 15 + 1) (wz_rz hw) (by omega)
  refine oA_ck ⟨rfl, hw.1⟩ (oA_nw 17 rfl ?_)
  have hw := wz_rz hw
  refine oA_b (fi_in hw hK) ?_
  intro _ rA vA nA ⟨en, hw, a1, a2, a3, a4⟩
  subst en
  have hw := wz_r2 (p := 14) (i := 1) (y := 16 + 1) hw (by omega)
  refine oA_ck ⟨rfl, hw.1⟩ (oA_nw 19 rfl ?_)
  have hw := wz_r2 (p := 14) (i := 2) (y := 18 + 1) (wz_rz hw) (by omega)
  refine oA_ck ⟨rfl, hw.1⟩ (oA_nw 20 rfl ?_)
  have hw := wz_r2 (p := 14) (i := 3) (y := 19 + 1) (wz_rz hw) (by omega)
  refine oA_s ⟨rfl, hw, ⟨?_, ?_, ?_, ?_, ?_⟩, fun t => ?_, fun p h => ?_, fun p h => ?_, fun c hc => ?_⟩
  · simp (disch := omega) only [r2_o, rz_o, r2_ij, a2]
  · simp (disch := omega) only [r2_o, rz_o, r2_ij, a2]
  · simp (disch := omega) only [r2_o, rz_o, r2_ij, a2]
  · simp (disch := omega) only [r2_o, rz_o, r2_ij, a2]
  · simp (disch := omega) only [r2_o, rz_o, a1]
  · simp (disch := omega) only [r2_o, rz_o, rz_i, a2]
  · funext j
    simp (disch := omega) only [r2_o, rz_o, a2]
  · rw [vz_o (by omega), vz_o (by omega), a3 p (by omega), vz_o (by omega), vz_o (by omega)]
  · rw [vz_o (by omega), vz_o (by omega)]
    exact a4 c hc
theorem hi_in (hw : wz r 36) : oA (fX3_init 35 r v 36) 36 (fun _ r1 v1 n1 => n1 = 37 ∧ wz r1 37 ∧ r1 35 0 = 37 ∧ (∀ p, p < 35 → r1 p = r p) ∧ (∀ p, p < 36 → v1 p = v p) ∧ ∀ i, v1 36 i = nI 0) := by
  unfold fX3_init
  simp only [nm_w]
  refine oA_ck ⟨rfl, hw.1⟩ (oA_nw 37 rfl ?_)
  have hw := wz_r2 (p := 35) (i := 0) (y := 36 + 1) (wz_rz hw) (by omega)
  refine oA_s ⟨rfl, hw, r2_ij, fun p h => ?_, fun p h => vz_o (by omega), fun i => vz_i⟩
  funext j
  simp (disch := omega) only [r2_o, rz_o]
theorem ma_in (hw : wz r 155) : oA (fX4_init 154 r v 155) 155 (fun _ r1 v1 n1 => n1 = 157 ∧ wz r1 157 ∧ (r1 154 0 = 156 ∧ r1 154 2 = 157) ∧ (∀ p, p < 154 → r1 p = r p) ∧ ∀ p, p < 155 → v1 p = v p) := by
  unfold fX4_init
  simp only [nm_w]
  refine oA_ck ⟨rfl, hw.1⟩ (oA_nw 156 rfl ?_)
  have hw := wz_r2 (p := 154) (i := 0) (y := 155 + 1) (wz_rz hw) (by omega)
  refine oA_ck ⟨rfl, hw.1⟩ (oA_nw 157 rfl ?_)
  have hw := wz_r2 (p := 154) (i := 2) (y := 156 + 1) (wz_rz hw) (by omega)
  refine oA_s ⟨rfl, hw, ⟨?_, ?_⟩, fun p h => ?_, fun p h => ?_⟩
  · simp (disch := omega) only [r2_o, rz_o, r2_ij]
  · simp (disch := omega) only [r2_o, rz_o, r2_ij]
  · funext j
    simp (disch := omega) only [r2_o, rz_o]
  · rw [vz_o (by omega), vz_o (by omega)]
theorem sk_S {b : Nat} (hb : b = 1 ∨ b = 22 ∨ b = 141) : ∀ j, j < 12 → sks (b + 1 + j) = (10, lnR j) := by
  intro j hj
  have : ∀ (t : Fin 3) (j : Fin 12), sks ([1, 22, 141].getD t.val 0 + 1 + j.val) = (10, lnR j.val) := by decide +kernel
  rcases hb with rfl | rfl | rfl
  · exact this 0 ⟨j, hj⟩
  · exact this 1 ⟨j, hj⟩
  · exact this 2 ⟨j, hj⟩
end
