/-! EVERY RUN OF CALLS -/
section
variable {v : sV} {K n : Nat} {r : sR} {B B' : Nat} {β : Type} {fL : Option ((Int32 × (Int64 × UInt64)) × sR × sV × Nat)} {f7 : sV → Option (β × sV)} {P : Int64 × UInt64 → β → Prop}
theorem GOOD_B (h : GOOD B r v n) (hB : B ≤ B') : GOOD B' r v n := by
  obtain ⟨W, h1, h2, h3⟩ := h
  exact ⟨W, h1, h2, IW_B h3 hB⟩
theorem OUT_1 (h : OUT B fL f7 P n) (hB : B ≤ B') : ∃ r' v' k x', sO fL f7 P r' v' k x' ∧ GOOD B' r' v' (n + k) := by
  obtain ⟨r', v', k, x', h1, h2⟩ := h
  exact ⟨r', v', k, x', h1, GOOD_B h2 hB⟩
theorem one_ok (hG : GOOD B r v n) (hB : B + 10000 < 2 ^ 30) (hK : 400000 < K) (xs : Nat → Int32) (i : Nat) (x : Int64 × UInt64) : ∀ op : Nat, ∃ r' v' k x', sOne K xs i op r v n x r' v' k x' ∧ GOOD (B + 1600) r' v' (n + k) := by
  obtain ⟨W, hC, hM, hI⟩ := id hG
  intro op
  match op with
  | 0 => exact OUT_1 (a_0 _ _ _ hC hM hI hK) (by omega)
  | 1 => exact OUT_1 (a_1 _ _ _ hC hM hI hK) (by omega)
  | 2 => exact OUT_1 (a_2 _ _ _ hC hM hI hK) (by omega)
  | 3 => exact OUT_1 (a_3 _ hC hM hI hK) (by omega)
  | 4 => exact OUT_1 (a_4 _ _ _ hC hM hI hK) (by omega)
  | 5 => exact OUT_1 (a_5 _ _ _ hC hM hI hK) (by omega)
  | 6 => exact OUT_1 (a_6 _ _ _ hC hM hI hK) (by omega)
  | 7 => exact OUT_1 (a_7 _ hC hM hI hK) (by omega)
  | 8 => exact OUT_1 (a_8 _ _ _ _ hC hM hI hK) (by omega)
  | 9 => exact OUT_1 (a_9 _ hC hM hI hK) (by omega)
  | 10 => exact OUT_1 (a_10 _ _ _ hC hM hI hK) (by omega)
  | 11 => exact OUT_1 (a_11 _ _ hC hM hI hK) (by omega)
  | 12 => exact OUT_1 (a_12 _ hC hM hI hK) (by omega)
  | 13 => exact OUT_1 (a_13 _ _ _ _ hC hM hI hK) (by omega)
  | 14 => exact OUT_1 (a_14 _ hC hM hI hK) (by omega)
  | 15 => exact OUT_1 (a_15 _ hC hM hI hK) (by omega)
  | 16 => exact OUT_1 (a_16 _ hC hM hI hB hK) (Nat.le_refl _)
  | 17 => exact OUT_1 (a_17 _ hC hM hI hK) (by omega)
  | 18 => exact OUT_1 (a_18 _ hC hM hI hB hK) (by omega)
  | 19 => exact OUT_1 (a_19 hC hM hI hB hK) (by omega)
  | 20 =>
    obtain ⟨y, z, h1, h2, h3, h4⟩ := a_20 hC hM hI hK
    exact ⟨r, z.2, 0, x, ⟨y, z, h1, h2, h3, rfl, rfl, rfl, rfl⟩, GOOD_B h4 (by omega)⟩
  | 21 => exact OUT_1 (a_21 _ _ hC hM hI hK) (by omega)
  | 22 => exact OUT_1 (a_22 hC hM hI hK) (by omega)
  | 23 => exact OUT_1 (a_23 hC hM hI hK) (by omega)
  | 24 => exact OUT_1 (a_24 _ (ck_char _) hC hM hI) (by omega)
  | 25 => exact OUT_1 (a_25 hC hM hI hK) (by omega)
  | 26 => exact OUT_1 (a_26 _ hC hM hI ) (by omega)
  | 27 => exact OUT_1 (a_27 hC hM hI hK) (by omega)
  | 28 =>
    obtain ⟨y, z, h1, h2, h3, h4⟩ := a_28 hC hM hI hK
    exact ⟨r, z.2, 0, x, ⟨y, z, h1, h2, h3, rfl, rfl, rfl, rfl⟩, GOOD_B h4 (by omega)⟩
  | 29 => exact OUT_1 (a_29 hC hM hI hK) (by omega)
  | q + 30 => exact ⟨r, v, 0, x, ⟨rfl, rfl, rfl, rfl⟩, GOOD_B hG (by omega)⟩
theorem run_ok {xs : Nat → Int32} {L : Nat} (hK : 400000 < K) : ∀ (N i : Nat) (r : sR) (v : sV) (n : Nat) (x : Int64 × UInt64) (B : Nat), GOOD B r v n → B + 1600 * N + 10000 < 2 ^ 30 → sRun K xs L N i r v n x
  | 0, _, _, _, _, _, _, _, _ => trivial
  | N + 1, i, r, v, n, x, B, hG, hB => by
    refine (show i + 5 ≤ L → ∃ (r' : sR) (v' : sV) (k : Nat) (x' : Int64 × UInt64), sOne K xs i (sOp (xs i)) r v n x r' v' k x' ∧ sSh r' ∧ n + k ≤ 660 ∧ sRun K xs L N (i + 5) r' v' (n + k) x' from fun h5 => ?_)
    obtain ⟨r', v', k, x', h1, hG'⟩ := one_ok hG (by omega) hK xs i x (sOp (xs i))
    obtain ⟨W, hC, -, -⟩ := id hG'
    exact ⟨r', v', k, x', h1, hC.2.1.1, (cacC_n hC.2.1).2.1, run_ok hK N (i + 5) r' v' (n + k) x' (B + 1600) hG' (by omega)⟩
end
