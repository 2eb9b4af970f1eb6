/-! the reference's count of bits -/
theorem an_o (a : Nat) : (2 * a + 1) &&& (2 * a) = 2 * a := by
  apply Nat.eq_of_testBit_eq
  intro i
  rw [Nat.testBit_and]
  cases i with
  | zero => rw [Nat.testBit_zero, Nat.testBit_zero, show (2 * a) % 2 = 0 by omega]; simp
  | succ i => rw [Nat.testBit_succ, Nat.testBit_succ, show (2 * a + 1) / 2 = a by omega, show (2 * a) / 2 = a by omega, Bool.and_self]
theorem an_e {a : Nat} (h : 0 < a) : (2 * a) &&& (2 * a - 1) = 2 * (a &&& (a - 1)) := by
  apply Nat.eq_of_testBit_eq
  intro i
  rw [Nat.testBit_and]
  cases i with
  | zero => rw [Nat.testBit_zero, Nat.testBit_zero, Nat.testBit_zero, show (2 * a) % 2 = 0 by omega, show (2 * (a &&& (a - 1))) % 2 = 0 by omega]; simp
  | succ i => rw [Nat.testBit_succ, Nat.testBit_succ, Nat.testBit_succ, show (2 * a) / 2 = a by omega, show (2 * a - 1) / 2 = a - 1 by omega, show (2 * (a &&& (a - 1))) / 2 = a &&& (a - 1) by omega, Nat.testBit_and]
theorem cnI_f {P : Nat → Bool} : ∀ {N : Nat}, cnI P (N + 1) = (if P 0 = true then 1 else 0) + cnI (fun i => P (i + 1)) N
  | 0 => by
    show 0 + (if P 0 = true then 1 else 0) = (if P 0 = true then 1 else 0) + 0
    omega
  | N + 1 => by
    have ih := @cnI_f P N
    show cnI P (N + 1) + (if P (N + 1) = true then 1 else 0) = (if P 0 = true then 1 else 0) + (cnI (fun i => P (i + 1)) N + (if P (N + 1) = true then 1 else 0))
    rw [ih]
    omega
def bcQ (m N : Nat) : Nat := cnI (fun i => m.testBit i) N
theorem bcQ_s (m N : Nat) : bcQ m (N + 1) = m % 2 + bcQ (m / 2) N := by
  unfold bcQ
  rw [cnI_f]
  have e : cnI (fun i => m.testBit (i + 1)) N = cnI (fun i => (m / 2).testBit i) N := cnI_c (fun t ht => Nat.testBit_succ m t)
  rw [e, Nat.testBit_zero]
  have := Nat.mod_two_eq_zero_or_one m
  rcases this with h | h
  · rw [h]; rfl
  · rw [h]; rfl
theorem bcQ_d : ∀ {N m : Nat}, 0 < m → m < 2 ^ N → bcQ (m &&& (m - 1)) N + 1 = bcQ m N ∧ (m &&& (m - 1)) < 2 ^ N
  | 0, m, h0, h1 => by
    rw [Nat.pow_zero] at h1
    omega
  | N + 1, m, h0, h1 => by
    refine ⟨?_, Nat.lt_of_le_of_lt Nat.and_le_left h1⟩
    rcases Nat.mod_two_eq_zero_or_one m with h | h
    · have e : m = 2 * (m / 2) := by omega
      have hp : 0 < m / 2 := by omega
      have ih := (@bcQ_d N (m / 2) hp (by rw [Nat.pow_succ] at h1; omega)).1
      have e2 : m &&& (m - 1) = 2 * (m / 2 &&& (m / 2 - 1)) := by
        have := an_e hp
        rw [← e] at this
        exact this
      rw [e2, bcQ_s, bcQ_s m, show 2 * (m / 2 &&& (m / 2 - 1)) % 2 = 0 by omega, show 2 * (m / 2 &&& (m / 2 - 1)) / 2 = m / 2 &&& (m / 2 - 1) by omega, h]
      omega
    · have e : m = 2 * (m / 2) + 1 := by omega
      have e2 : m &&& (m - 1) = 2 * (m / 2) := by
        have := an_o (m / 2)
        rw [← e] at this
        rw [show m - 1 = 2 * (m / 2) by omega]
        exact this
      rw [e2, bcQ_s, bcQ_s m, show 2 * (m / 2) % 2 = 0 by omega, show 2 * (m / 2) / 2 = m / 2 by omega, h]
      omega
theorem bcQ_z {m N : Nat} (h : bcQ m N = 0) (hm : m < 2 ^ N) : m = 0 := by
  apply Nat.eq_of_testBit_eq
  intro i
  rw [Nat.zero_testBit]
  by_cases hi : i < N
  · exact cnI_z h i hi
  · exact Nat.testBit_lt_two_pow (Nat.lt_of_lt_of_le hm (Nat.pow_le_pow_right (by decide) (by omega)))
theorem an_I {a b : Nat} : nI a &&& nI b = nI (a &&& b) := by
  apply Int32.toBitVec_inj.mp
  rw [Int32.toBitVec_and]
  show BitVec.ofNat 32 a &&& BitVec.ofNat 32 b = BitVec.ofNat 32 (a &&& b)
  exact (BitVec.ofNat_and).symm
theorem bi_M {K m : Nat} (hm : m < 2 ^ 16) (hK : 16 < K) : fX7_bits K (nI m) = some (nI (bcQ m 16)) := by
  have hle : bcQ m 16 ≤ 16 := cnI_le
  unfold fX7_bits
  refine fx2_go (P := fun t x1 x2 => ∃ u, x2 = nI u ∧ u < 2 ^ 16 ∧ x1 = nI t ∧ t + bcQ u 16 = bcQ m 16) (Q := fun o => o = some (nI (bcQ m 16))) (N := bcQ m 16) ?_ ⟨m, rfl, hm, rfl, Nat.zero_add _⟩ (by omega)
  intro t x1 x2 ht ⟨u, e2, hu, e1, hs⟩ k hk
  subst e1 e2
  unfold gX7_bits_4
  by_cases h0 : u = 0
  · subst h0
    have : bcQ 0 16 = 0 := by decide
    rw [if_pos (show nI 0 = (0 : Int32) from rfl), show t = bcQ m 16 by omega]
  · have hd := bcQ_d (N := 16) (m := u) (by omega) hu
    have hn : ¬ nI u = nI 0 := by rw [nI_eq (by omega) (by decide)]; exact h0
    rw [if_neg (show ¬ nI u = (0 : Int32) from hn), nm_w, nm_w, show (1 : Int32) = nI 1 from rfl, nI_add, pk_sub (by omega), an_I]
    exact hk (by omega) _ _ ⟨_, rfl, hd.2, rfl, by omega⟩
theorem bi_mk {P : Nat → Bool} {K : Nat} (hK : 16 < K) : fX7_bits K (nI (mkI P 16)) = some (nI (cnI P 16)) := by
  rw [bi_M mkI_lt hK]
  have : bcQ (mkI P 16) 16 = cnI P 16 := cnI_c (fun t ht => mkI_bit ht)
  rw [this]
