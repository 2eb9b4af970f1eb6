/-! BITS COUNTED -/
theorem and_I {a b : Nat} (ha : a < 2 ^ 31) (hb : b < 2 ^ 31) : nI a &&& nI b = nI (a &&& b) := by
  have h : a &&& b < 2 ^ 31 := Nat.and_lt_two_pow a hb
  apply Int32.toBitVec_inj.mp
  rw [Int32.toBitVec_and]
  apply BitVec.eq_of_toNat_eq
  rw [BitVec.toNat_and, pk_tn (by omega), pk_tn (by omega), pk_tn (by omega)]
def bcT (m : Nat) : Nat :=
  let z1 := m - (m / 2 &&& 1431655765)
  let z2 := (z1 &&& 858993459) + (z1 / 4 &&& 858993459)
  let z3 := (z2 + z2 / 16) &&& 252645135
  let z4 := z3 + z3 / 256
  let z5 := z4 + z4 / 65536
  z5 &&& 63
theorem bc_N {m : Nat} (hm : m < 65536) : fJ6_bitCount_0f7a4 (nI m) = some (nI (bcT m)) := by
  have a1 : m / 2 &&& 1431655765 ≤ m / 2 := Nat.and_le_left
  have l1 : m - (m / 2 &&& 1431655765) < 65536 := by omega
  generalize e1 : m - (m / 2 &&& 1431655765) = z1 at l1
  have a2 : z1 &&& 858993459 ≤ z1 := Nat.and_le_left
  have a3 : z1 / 4 &&& 858993459 ≤ z1 / 4 := Nat.and_le_left
  have l2 : (z1 &&& 858993459) + (z1 / 4 &&& 858993459) < 131072 := by omega
  generalize e2 : (z1 &&& 858993459) + (z1 / 4 &&& 858993459) = z2 at l2
  have a4 : (z2 + z2 / 16) &&& 252645135 ≤ z2 + z2 / 16 := Nat.and_le_left
  have l3 : (z2 + z2 / 16) &&& 252645135 < 262144 := by omega
  generalize e3 : (z2 + z2 / 16) &&& 252645135 = z3 at l3
  have hb : bcT m = (z3 + z3 / 256 + (z3 + z3 / 256) / 65536) &&& 63 := by
    unfold bcT
    dsimp only
    rw [e1, e2, e3]
  rw [hb]
  unfold fJ6_bitCount_0f7a4
  simp only [nm_w]
  rw [pk_ushrN (n := m) (by omega) 1 1 (by decide), show 2 ^ 1 = 2 from rfl, show (1431655765 : Int32) = nI 1431655765 from rfl, and_I (by omega) (by decide), pk_sub (by omega), e1]
  rw [pk_ushrN (n := z1) (by omega) 2 2 (by decide), show 2 ^ 2 = 4 from rfl, show (858993459 : Int32) = nI 858993459 from rfl, and_I (by omega) (by decide), and_I (by omega) (by decide), nI_add, e2]
  rw [pk_ushrN (n := z2) (by omega) 4 4 (by decide), show 2 ^ 4 = 16 from rfl, nI_add, show (252645135 : Int32) = nI 252645135 from rfl, and_I (by omega) (by decide), e3]
  rw [pk_ushrN (n := z3) (by omega) 8 8 (by decide), show 2 ^ 8 = 256 from rfl, nI_add]
  rw [pk_ushrN (n := z3 + z3 / 256) (by omega) 16 16 (by decide), show 2 ^ 16 = 65536 from rfl, nI_add, show (63 : Int32) = nI 63 from rfl, and_I (by omega) (by decide)]
def pcN (m : Nat) : Nat := m % 2 + m / 2 % 2 + m / 4 % 2 + m / 8 % 2 + m / 16 % 2 + m / 32 % 2 + m / 64 % 2 + m / 128 % 2 + m / 256 % 2 + m / 512 % 2 + m / 1024 % 2 + m / 2048 % 2 + m / 4096 % 2 + m / 8192 % 2 + m / 16384 % 2 + m / 32768 % 2
theorem pcT_0 : ∀ a : Fin 16, ∀ b : Fin 256, bcT (256 * (0 + a.val) + b.val) = pcN (256 * (0 + a.val) + b.val) := by decide +kernel
theorem pcT_1 : ∀ a : Fin 16, ∀ b : Fin 256, bcT (256 * (16 + a.val) + b.val) = pcN (256 * (16 + a.val) + b.val) := by decide +kernel
theorem pcT_2 : ∀ a : Fin 16, ∀ b : Fin 256, bcT (256 * (32 + a.val) + b.val) = pcN (256 * (32 + a.val) + b.val) := by decide +kernel
theorem pcT_3 : ∀ a : Fin 16, ∀ b : Fin 256, bcT (256 * (48 + a.val) + b.val) = pcN (256 * (48 + a.val) + b.val) := by decide +kernel
theorem pcT_4 : ∀ a : Fin 16, ∀ b : Fin 256, bcT (256 * (64 + a.val) + b.val) = pcN (256 * (64 + a.val) + b.val) := by decide +kernel
theorem pcT_5 : ∀ a : Fin 16, ∀ b : Fin 256, bcT (256 * (80 + a.val) + b.val) = pcN (256 * (80 + a.val) + b.val) := by decide +kernel
theorem pcT_6 : ∀ a : Fin 16, ∀ b : Fin 256, bcT (256 * (96 + a.val) + b.val) = pcN (256 * (96 + a.val) + b.val) := by decide +kernel
theorem pcT_7 : ∀ a : Fin 16, ∀ b : Fin 256, bcT (256 * (112 + a.val) + b.val) = pcN (256 * (112 + a.val) + b.val) := by decide +kernel
theorem pcT_8 : ∀ a : Fin 16, ∀ b : Fin 256, bcT (256 * (128 + a.val) + b.val) = pcN (256 * (128 + a.val) + b.val) := by decide +kernel
theorem pcT_9 : ∀ a : Fin 16, ∀ b : Fin 256, bcT (256 * (144 + a.val) + b.val) = pcN (256 * (144 + a.val) + b.val) := by decide +kernel
theorem pcT_10 : ∀ a : Fin 16, ∀ b : Fin 256, bcT (256 * (160 + a.val) + b.val) = pcN (256 * (160 + a.val) + b.val) := by decide +kernel
theorem pcT_11 : ∀ a : Fin 16, ∀ b : Fin 256, bcT (256 * (176 + a.val) + b.val) = pcN (256 * (176 + a.val) + b.val) := by decide +kernel
theorem pcT_12 : ∀ a : Fin 16, ∀ b : Fin 256, bcT (256 * (192 + a.val) + b.val) = pcN (256 * (192 + a.val) + b.val) := by decide +kernel
theorem pcT_13 : ∀ a : Fin 16, ∀ b : Fin 256, bcT (256 * (208 + a.val) + b.val) = pcN (256 * (208 + a.val) + b.val) := by decide +kernel
theorem pcT_14 : ∀ a : Fin 16, ∀ b : Fin 256, bcT (256 * (224 + a.val) + b.val) = pcN (256 * (224 + a.val) + b.val) := by decide +kernel
theorem pcT_15 : ∀ a : Fin 16, ∀ b : Fin 256, bcT (256 * (240 + a.val) + b.val) = pcN (256 * (240 + a.val) + b.val) := by decide +kernel
theorem pcT_a {m : Nat} (hm : m < 65536) : bcT m = pcN m := by
  have hb : m % 256 < 256 := Nat.mod_lt _ (by decide)
  have he : 256 * (m / 256) + m % 256 = m := Nat.div_add_mod _ 256
  have hc : m / 256 / 16 < 16 := by omega
  have hd : 16 * (m / 256 / 16) + m / 256 % 16 = m / 256 := Nat.div_add_mod _ 16
  have hr : m / 256 % 16 < 16 := Nat.mod_lt _ (by decide)
  rw [← he]
  generalize m % 256 = b at hb
  rw [← hd]
  generalize m / 256 % 16 = a at hr
  generalize m / 256 / 16 = k at hc
  match k, hc with
  | 0, _ => exact pcT_0 ⟨a, hr⟩ ⟨b, hb⟩
  | 1, _ => exact pcT_1 ⟨a, hr⟩ ⟨b, hb⟩
  | 2, _ => exact pcT_2 ⟨a, hr⟩ ⟨b, hb⟩
  | 3, _ => exact pcT_3 ⟨a, hr⟩ ⟨b, hb⟩
  | 4, _ => exact pcT_4 ⟨a, hr⟩ ⟨b, hb⟩
  | 5, _ => exact pcT_5 ⟨a, hr⟩ ⟨b, hb⟩
  | 6, _ => exact pcT_6 ⟨a, hr⟩ ⟨b, hb⟩
  | 7, _ => exact pcT_7 ⟨a, hr⟩ ⟨b, hb⟩
  | 8, _ => exact pcT_8 ⟨a, hr⟩ ⟨b, hb⟩
  | 9, _ => exact pcT_9 ⟨a, hr⟩ ⟨b, hb⟩
  | 10, _ => exact pcT_10 ⟨a, hr⟩ ⟨b, hb⟩
  | 11, _ => exact pcT_11 ⟨a, hr⟩ ⟨b, hb⟩
  | 12, _ => exact pcT_12 ⟨a, hr⟩ ⟨b, hb⟩
  | 13, _ => exact pcT_13 ⟨a, hr⟩ ⟨b, hb⟩
  | 14, _ => exact pcT_14 ⟨a, hr⟩ ⟨b, hb⟩
  | 15, _ => exact pcT_15 ⟨a, hr⟩ ⟨b, hb⟩
  | k + 16, h => exact absurd h (by omega)
theorem pcN_c {m : Nat} : cnI (fun i => m.testBit i) 16 = pcN m := by
  have h : ∀ i, (if m.testBit i = true then 1 else 0) = m / 2 ^ i % 2 := by
    intro i
    rw [Nat.testBit_eq_decide_div_mod_eq]
    by_cases g : m / 2 ^ i % 2 = 1
    · rw [if_pos (decide_eq_true g), g]
    · rw [if_neg (by rw [decide_eq_true_eq]; exact g)]
      omega
  have hs : ∀ t, cnI (fun i => m.testBit i) (t + 1) = cnI (fun i => m.testBit i) t + m / 2 ^ t % 2 := fun t => by rw [← h t]; rfl
  rw [hs 15, hs 14, hs 13, hs 12, hs 11, hs 10, hs 9, hs 8, hs 7, hs 6, hs 5, hs 4, hs 3, hs 2, hs 1, hs 0]
  unfold pcN
  simp only [cnI, Nat.zero_add, Nat.pow_zero, Nat.div_one, Nat.reducePow]
theorem bc_mk {P : Nat → Bool} : fJ6_bitCount_0f7a4 (nI (mkI P 16)) = some (nI (cnI P 16)) := by
  have hm : mkI P 16 < 65536 := mkI_lt
  have h := pcT_a hm
  rw [bc_N hm, h, ← pcN_c, cnI_c (P' := P) (fun t ht => mkI_bit ht)]
