/-! free cells around a set (class) -/
def fcP (S : aS) (P : Nat → Bool) (q : Nat) : Bool := frS S q && !decide (cnI (fun i => beP S q 4 i && P i) 16 = 0)
section
variable {v : sV} {S : aS} {B K b cq : Nat}
theorem fc_C (h : RelC b S v) (hI : iS B S) {P : Nat → Bool} (hK : 400 < K) : fX0_freeCellsAround K cq b (nI (mkI P 16)) v = some (nI (cnI (fcP S P) 140)) := by
  unfold fX0_freeCellsAround
  refine fx2_go (P := fun t x2 x3 => x3 = nI t ∧ x2 = nI (cnI (fcP S P) t)) (Q := fun o => o = some (nI (cnI (fcP S P) 140))) (N := 140) ?_ ⟨rfl, rfl⟩ (by omega)
  intro t x2 x3 ht ⟨e3, e2⟩ k hk
  subst e2 e3
  have hs : cnI (fcP S P) (t + 1) = cnI (fcP S P) t + (if fcP S P t = true then 1 else 0) := rfl
  unfold gX0_freeCellsAround_4
  by_cases ht1 : t = 140
  · subst ht1
    rw [if_pos (show (140 : Int32) ≤ nI 140 from by decide)]
  · have hlt : t < 140 := by omega
    have h16 : ¬ nI 140 ≤ nI t := by rw [nI_leI (by decide) (by omega)]; omega
    rw [if_neg (show ¬ (140 : Int32) ≤ nI t from h16), fr_C h hI hlt (by omega), bnd_some]
    by_cases hf : frS S t = true
    · rw [if_pos hf, if_neg (show ¬ nI 1 = (0 : Int32) by decide), be_C h hlt (by omega), bnd_some, an_mk]
      by_cases h0 : cnI (fun i => beP S t 4 i && P i) 16 = 0
      · have h00 : nI (mkI (fun i => beP S t 4 i && P i) 16) = nI 0 := by rw [nI_eq0 mk_16, mkI_0]; exact h0
        have hp : fcP S P t = false := by unfold fcP; rw [decide_eq_true h0, Bool.not_true, Bool.and_false]
        rw [if_pos (show nI (mkI (fun i => beP S t 4 i && P i) 16) = (0 : Int32) from h00), nm_w]
        exact hk hlt _ _ ⟨nI_add t 1, by rw [hs, hp, if_neg Bool.false_ne_true, Nat.add_zero]⟩
      · have h00 : ¬ nI (mkI (fun i => beP S t 4 i && P i) 16) = nI 0 := by rw [nI_eq0 mk_16, mkI_0]; exact h0
        have hp : fcP S P t = true := by unfold fcP; rw [decide_eq_false h0, hf]; rfl
        rw [if_neg (show ¬ nI (mkI (fun i => beP S t 4 i && P i) 16) = (0 : Int32) from h00), nm_w, nm_w]
        exact hk hlt _ _ ⟨nI_add t 1, by rw [hs, hp, if_pos rfl]; exact nI_add _ 1⟩
    · have hp : fcP S P t = false := by unfold fcP; rw [Bool.eq_false_iff.mpr hf, Bool.false_and]
      rw [if_neg hf, if_pos (show nI 0 = (0 : Int32) from rfl), nm_w]
      exact hk hlt _ _ ⟨nI_add t 1, by rw [hs, hp, if_neg Bool.false_ne_true, Nat.add_zero]⟩
end
