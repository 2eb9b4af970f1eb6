/-! free cells around a set (reference): all cells -/
section
variable {v : sV} {S : aS} {B K : Nat}
theorem fm_M (hr : RelM S (v 158)) (hI : iS B S) (hd : dsS S) {P : Nat → Bool} (hP : ∀ a, a < 16 → P a = true → ∃ c, c < 140 ∧ S 3 a = nI c) (hK : 400 < K) : fX7_freeAround K (nI (mkI P 16)) v = some (nI (cnI (fcP S P) 140)) := by
  unfold fX7_freeAround
  refine fx2_go (P := fun t x2 x3 => x3 = nI t ∧ x2 = nI (cnI (fcP S P) t)) (Q := fun o => o = some (nI (cnI (fcP S P) 140))) (N := 140) ?_ ⟨rfl, rfl⟩ (by omega)
  intro t x2 x3 ht ⟨e3, e2⟩ k hk
  subst e2 e3
  have hs : cnI (fcP S P) (t + 1) = cnI (fcP S P) t + (if fcP S P t = true then 1 else 0) := rfl
  unfold gX7_freeAround_4
  by_cases ht1 : t = 140
  · subst ht1
    rw [if_pos (show (140 : Int32) ≤ nI 140 from by decide)]
  · have hlt : t < 140 := by omega
    have h16 : ¬ nI 140 ≤ nI t := by rw [nI_leI (by decide) (by omega)]; omega
    have hno : fcP S P t = false → bX7_freeAround_73 K k (nI (mkI P 16)) (nI (cnI (fcP S P) t)) (nI t) (nI 0) v = some (nI (cnI (fcP S P) 140)) := by
      intro hp
      unfold bX7_freeAround_73
      rw [if_pos (show nI 0 = (0 : Int32) from rfl), nm_w, nm_w]
      exact hk hlt _ _ ⟨nI_add t 1, by rw [hs, hp, if_neg Bool.false_ne_true, Nat.add_zero]; exact Int32.add_zero _⟩
    rw [if_neg (show ¬ (140 : Int32) ≤ nI t from h16)]
    by_cases hf : frS S t = true
    · rw [show (0 : Int32) = nI 0 from rfl, fi_M hr hI hd hP hlt hf hK]
      by_cases h0 : cnI (fun i => beP S t 4 i && P i) 16 = 0
      · have hp : fcP S P t = false := by unfold fcP; rw [decide_eq_true h0, Bool.not_true, Bool.and_false]
        unfold fcT
        rw [if_pos h0]
        exact hno hp
      · have hp : fcP S P t = true := by unfold fcP; rw [decide_eq_false h0, hf]; rfl
        unfold fcT bX7_freeAround_73
        rw [if_neg h0, if_neg (show ¬ nI 1 = (0 : Int32) by decide), nm_w, nm_w]
        exact hk hlt _ _ ⟨nI_add t 1, by rw [hs, hp, if_pos rfl]; exact nI_add _ 1⟩
    · have hp : fcP S P t = false := by unfold fcP; rw [Bool.eq_false_iff.mpr hf, Bool.false_and]
      refine fx2_go (P := fun u y4 y5 => y4 = nI 0 ∧ y5 = nI 0) (Q := fun o => o = some (nI (cnI (fcP S P) 140))) (N := 0) ?_ ⟨rfl, rfl⟩ (by omega)
      intro u y4 y5 hu ⟨e4, e5⟩ k2 hk2
      subst e4 e5
      unfold gX7_freeAround_17
      rw [if_neg (show ¬ (16 : Int32) ≤ nI 0 from by decide), ie_M hr hI hlt (by omega), if_neg hf, bnd_some, if_pos (show nI 0 = (0 : Int32) from rfl)]
      exact hno hp
end
