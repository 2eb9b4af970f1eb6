/-! cells side by side -/
theorem abD_n : ∀ x, x < 14 → ∀ z, z < 14 → abD (nI x) (nI z) = nI (x - z + (z - x)) := by decide +kernel
theorem apI_n {p q : Nat} (hp : p < 140) (hq : q < 140) : apI p q = nI ((p % 14 - q % 14 + (q % 14 - p % 14)) + (p / 14 - q / 14 + (q / 14 - p / 14))) := by
  unfold apI
  rw [abD_n _ (Nat.mod_lt _ (by decide)) _ (Nat.mod_lt _ (by decide)), abD_n _ (by omega) _ (by omega), nI_add]
theorem ap_1 {p q : Nat} (hp : p < 140) (hq : q < 140) : (apI p q = nI 1) = (((p % 14 - q % 14 + (q % 14 - p % 14)) + (p / 14 - q / 14 + (q / 14 - p / 14))) = 1) := by
  rw [apI_n hp hq, nI_eq (by omega) (by decide)]
theorem nb_iff {p q : Nat} : (∃ d, d < 4 ∧ nbO p d = some q) ↔ ((14 ≤ p ∧ q = p - 14) ∨ (p % 14 < 13 ∧ q = p + 1) ∨ (p < 126 ∧ q = p + 14) ∨ (0 < p % 14 ∧ q = p - 1)) := by
  have e0 : nbO p 0 = if 14 ≤ p then some (p - 14) else none := rfl
  have e1 : nbO p 1 = if p % 14 < 13 then some (p + 1) else none := rfl
  have e2 : nbO p 2 = if p < 126 then some (p + 14) else none := rfl
  have e3 : nbO p 3 = if 0 < p % 14 then some (p - 1) else none := rfl
  constructor
  · intro ⟨d, hd, h⟩
    rcases (show d = 0 ∨ d = 1 ∨ d = 2 ∨ d = 3 by omega) with rfl | rfl | rfl | rfl
    · rw [e0] at h
      split at h
      · cases h; exact Or.inl ⟨by assumption, rfl⟩
      · cases h
    · rw [e1] at h
      split at h
      · cases h; exact Or.inr (Or.inl ⟨by assumption, rfl⟩)
      · cases h
    · rw [e2] at h
      split at h
      · cases h; exact Or.inr (Or.inr (Or.inl ⟨by assumption, rfl⟩))
      · cases h
    · rw [e3] at h
      split at h
      · cases h; exact Or.inr (Or.inr (Or.inr ⟨by assumption, rfl⟩))
      · cases h
  · intro h
    rcases h with ⟨h1, h2⟩ | ⟨h1, h2⟩ | ⟨h1, h2⟩ | ⟨h1, h2⟩
    · exact ⟨0, by decide, by rw [e0, if_pos h1, h2]⟩
    · exact ⟨1, by decide, by rw [e1, if_pos h1, h2]⟩
    · exact ⟨2, by decide, by rw [e2, if_pos h1, h2]⟩
    · exact ⟨3, by decide, by rw [e3, if_pos h1, h2]⟩
theorem ap_nb {p q : Nat} (hp : p < 140) (hq : q < 140) : (apI p q = nI 1) ↔ ∃ d, d < 4 ∧ nbO p d = some q := by
  rw [ap_1 hp hq, nb_iff]
  omega
