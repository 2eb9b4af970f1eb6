/-! connected: the closure -/
theorem cnI_mo {P Q : Nat → Bool} : ∀ {N : Nat}, (∀ i, i < N → P i = true → Q i = true) → cnI P N ≤ cnI Q N ∧ ((∃ i, i < N ∧ P i ≠ Q i) → cnI P N + 1 ≤ cnI Q N)
  | 0, _ => ⟨Nat.le_refl _, fun ⟨i, hi, _⟩ => absurd hi (Nat.not_lt_zero i)⟩
  | N + 1, h => by
    obtain ⟨g1, g2⟩ := @cnI_mo P Q N (fun i hi => h i (by omega))
    have hN := h N (Nat.lt_succ_self N)
    show cnI P N + (if P N = true then 1 else 0) ≤ cnI Q N + (if Q N = true then 1 else 0) ∧ ((∃ i, i < N + 1 ∧ P i ≠ Q i) → cnI P N + (if P N = true then 1 else 0) + 1 ≤ cnI Q N + (if Q N = true then 1 else 0))
    cases hp : P N with
    | true =>
      rw [hN hp, if_pos rfl]
      refine ⟨by omega, fun ⟨i, hi, hne⟩ => ?_⟩
      have hiN : i ≠ N := fun e => hne (by rw [e, hp, hN hp])
      have := g2 ⟨i, by omega, hne⟩
      omega
    | false =>
      rw [if_neg Bool.false_ne_true]
      cases hq : Q N with
      | true =>
        rw [if_pos rfl]
        exact ⟨by omega, fun _ => by omega⟩
      | false =>
        rw [if_neg Bool.false_ne_true]
        refine ⟨by omega, fun ⟨i, hi, hne⟩ => ?_⟩
        have hiN : i ≠ N := fun e => hne (by rw [e, hp, hq])
        have := g2 ⟨i, by omega, hne⟩
        omega
theorem itF_g {S : aS} {a : Nat} (ha : a < 16) : ∀ t, (∀ i, i < 16 → itF S a (t + 1) i = itF S a t i) ∨ t + 1 ≤ cnI (itF S a t) 16
  | 0 => by
    right
    have : cnI (itF S a 0) 16 ≠ 0 := fun h => by
      have g : itF S a 0 a = false := cnI_z h a ha
      have g2 : decide (a = a) = false := g
      rw [decide_eq_true rfl] at g2
      cases g2
    omega
  | t + 1 => by
    by_cases hf : ∀ i, i < 16 → itF S a (t + 1) i = itF S a t i
    · left
      intro i hi
      exact FS_c hf hi
    · right
      rcases itF_g ha t with h | h
      · exact absurd h hf
      · have hm := (@cnI_mo (itF S a t) (itF S a (t + 1)) 16 (fun i hi g => by
          show (itF S a t i || (neP S (itF S a t) 16 i && stS S i)) = true
          rw [g, Bool.true_or])).2 (Classical.byContradiction (fun g => hf (fun i hi => Classical.byContradiction (fun q => g ⟨i, hi, fun e => q e.symm⟩))))
        omega
theorem itF_15 {S : aS} {a : Nat} (ha : a < 16) : ∀ i, i < 16 → itF S a 16 i = itF S a 15 i := by
  rcases itF_g (S := S) ha 15 with h | h
  · exact h
  · intro i hi
    have hle := @cnI_le (itF S a 15) 16
    have e := cnI_all (show cnI (itF S a 15) 16 = 16 by omega) i hi
    show (itF S a 15 i || (neP S (itF S a 15) 16 i && stS S i)) = itF S a 15 i
    rw [e, Bool.true_or]
section
variable {v : sV} {S : aS} {B K : Nat}
theorem cn_M (hr : RelM S (v 158)) (hI : iS B S) (hd : dsS S) {a : Nat} (ha : a < 16) (hst : stS S a = true) (hK : 400 < K) : fX7_connected K (nI a) v = some (nI (mkI (itF S a 15) 16)) := by
  unfold fX7_connected
  rw [nm_w, show ((1 : Int32) <<< (nI a &&& 31)) = nI 1 <<< (nI a &&& nI 31) from rfl, one_mk ha]
  refine fx2_go (P := fun t x2 x3 => x2 = nI (mkI (itF S a t) 16) ∧ x3 = nI (if t = 0 then 0 else mkI (itF S a (t - 1)) 16)) (Q := fun o => o = some (nI (mkI (itF S a 15) 16))) (N := 16) ?_ ⟨rfl, rfl⟩ (by omega)
  intro t x2 x3 ht ⟨e2, e3⟩ k hk
  subst e2 e3
  unfold gX7_connected_6
  by_cases he : nI (mkI (itF S a t) 16) = nI (if t = 0 then 0 else mkI (itF S a (t - 1)) 16)
  · rw [if_pos he]
    by_cases h0 : t = 0
    · subst h0
      rw [if_pos rfl, nI_eq0 mk_16, mkI_0] at he
      have g : itF S a 0 a = false := cnI_z he a ha
      have g2 : decide (a = a) = false := g
      rw [decide_eq_true rfl] at g2
      cases g2
    · rw [if_neg h0] at he
      obtain ⟨s, rfl⟩ : ∃ s, t = s + 1 := ⟨t - 1, by omega⟩
      have hf := mk_inj he
      have h15 := itF_f hf (15 - s)
      rw [show s + (15 - s) = 15 by omega] at h15
      rw [mkI_c (P := itF S a (s + 1)) (P' := itF S a 15) (fun i hi => by rw [hf i hi, h15 i hi]; rfl)]
  · rw [if_neg he]
    have hlt : t < 16 := by
      refine Nat.lt_of_le_of_ne ht (fun e => he ?_)
      subst e
      rw [if_neg (by decide)]
      exact congrArg nI (mkI_c (itF_15 ha))
    have := c16_C (K := K) (P := itF S a t) (k6 := k) hr hI hd (fun i hi g => stS_x hI hi (itF_s hst g)) (by omega)
    rw [show (0 : Int32) = nI 0 from rfl, this]
    refine hk hlt _ _ ⟨rfl, ?_⟩
    rw [if_neg (Nat.succ_ne_zero t)]
    rfl
end
