/-! THE STATE WRITTEN, ON BOTH SIDES -/
section
variable {S : aS} {B b : Nat} {v : sV} {f : Nat → Int32} {x : Int32}
theorem rcS (h : RelC b S v) {j i : Nat} (hj : j < 12) : RelC b (s2 S j i x) (s2 v (b + 1 + j) i x) := by
  refine ⟨fun j' i' hj' hi' => ?_, ?_⟩
  · show (if b + 1 + j' = b + 1 + j ∧ i' = i then x else v (b + 1 + j') i') = (if j' = j ∧ i' = i then x else S j' i')
    by_cases hc : j' = j ∧ i' = i
    · rw [if_pos hc, if_pos ⟨by omega, hc.2⟩]
    · rw [if_neg hc, if_neg (fun g => hc ⟨by omega, g.2⟩)]
      exact h.1 j' i' hj' hi'
  · show (if b = b + 1 + j ∧ 12 = i then x else v b 12) = (if 12 = j ∧ 0 = i then x else S 12 0)
    rw [if_neg (by omega), if_neg (by omega)]
    exact h.2
theorem rcP (h : RelC b S v) : RelC b (s2 S 12 0 x) (s2 v b 12 x) := by
  refine ⟨fun j' i' hj' hi' => ?_, ?_⟩
  · show (if b + 1 + j' = b ∧ i' = 12 then x else v (b + 1 + j') i') = (if j' = 12 ∧ i' = 0 then x else S j' i')
    rw [if_neg (by omega), if_neg (by omega)]
    exact h.1 j' i' hj' hi'
  · rw [s2_i, s2_i]
theorem rcF (h : RelC b S v) {v' : sV} (hv : ∀ p, b ≤ p → p < b + 13 → v' p = v p) : RelC b S v' :=
  ⟨fun j i hj hi => by rw [hv _ (by omega) (by omega)]; exact h.1 j i hj hi, by rw [hv b (by omega) (by omega)]; exact h.2⟩
theorem rmU0 (h : RelM S f) {i : Nat} (hi : i < 140) : RelM (s2 S 0 i x) (upd f i x) := by
  obtain ⟨h1, h2, h3, h4, h5, h6⟩ := h
  have hs : ∀ j i', j ≠ 0 → s2 S 0 i x j i' = S j i' := fun j i' hj => s2_p hj
  refine ⟨fun k hk => ?_, fun k hk => ?_, fun k hk => ?_, ?_, fun k hk => ?_, fun a ha => ?_⟩
  · by_cases hki : k = i
    · rw [hki, pk_us, s2_i]
    · rw [pk_un hki, s2_j hki]; exact h1 k hk
  · rw [pk_un (by omega), hs _ _ (by decide)]; exact h2 k hk
  · rw [pk_un (by omega), hs _ _ (by decide)]; exact h3 k hk
  · rw [pk_un (by omega), hs _ _ (by decide)]; exact h4
  · rw [pk_un (by omega), hs _ _ (by decide)]; exact h5 k hk
  · rw [pk_un (by omega), pk_un (by omega), pk_un (by omega), pk_un (by omega), pk_un (by omega), pk_un (by omega), pk_un (by omega), pk_un (by omega), pk_un (by omega)]
    rw [hs _ _ (by decide), hs _ _ (by decide), hs _ _ (by decide), hs _ _ (by decide), hs _ _ (by decide), hs _ _ (by decide), hs _ _ (by decide), hs _ _ (by decide)]
    exact h6 a ha
theorem rmU1 (h : RelM S f) {i : Nat} (hi : i < 140) : RelM (s2 S 1 i x) (upd f (140 + i) x) := by
  obtain ⟨h1, h2, h3, h4, h5, h6⟩ := h
  have hs : ∀ j i', j ≠ 1 → s2 S 1 i x j i' = S j i' := fun j i' hj => s2_p hj
  refine ⟨fun k hk => ?_, fun k hk => ?_, fun k hk => ?_, ?_, fun k hk => ?_, fun a ha => ?_⟩
  · rw [pk_un (by omega), hs _ _ (by decide)]; exact h1 k hk
  · by_cases hki : k = i
    · rw [hki, pk_us, s2_i]
    · rw [pk_un (by omega), s2_j hki]; exact h2 k hk
  · rw [pk_un (by omega), hs _ _ (by decide)]; exact h3 k hk
  · rw [pk_un (by omega), hs _ _ (by decide)]; exact h4
  · rw [pk_un (by omega), hs _ _ (by decide)]; exact h5 k hk
  · rw [pk_un (by omega), pk_un (by omega), pk_un (by omega), pk_un (by omega), pk_un (by omega), pk_un (by omega), pk_un (by omega), pk_un (by omega), pk_un (by omega)]
    rw [hs _ _ (by decide), hs _ _ (by decide), hs _ _ (by decide), hs _ _ (by decide), hs _ _ (by decide), hs _ _ (by decide), hs _ _ (by decide), hs _ _ (by decide)]
    exact h6 a ha
theorem rmU2 (h : RelM S f) {i : Nat} (hi : i < 4) : RelM (s2 S 2 i x) (upd f (280 + i) x) := by
  obtain ⟨h1, h2, h3, h4, h5, h6⟩ := h
  have hs : ∀ j i', j ≠ 2 → s2 S 2 i x j i' = S j i' := fun j i' hj => s2_p hj
  refine ⟨fun k hk => ?_, fun k hk => ?_, fun k hk => ?_, ?_, fun k hk => ?_, fun a ha => ?_⟩
  · rw [pk_un (by omega), hs _ _ (by decide)]; exact h1 k hk
  · rw [pk_un (by omega), hs _ _ (by decide)]; exact h2 k hk
  · by_cases hki : k = i
    · rw [hki, pk_us, s2_i]
    · rw [pk_un (by omega), s2_j hki]; exact h3 k hk
  · rw [pk_un (by omega), hs _ _ (by decide)]; exact h4
  · rw [pk_un (by omega), hs _ _ (by decide)]; exact h5 k hk
  · rw [pk_un (by omega), pk_un (by omega), pk_un (by omega), pk_un (by omega), pk_un (by omega), pk_un (by omega), pk_un (by omega), pk_un (by omega), pk_un (by omega)]
    rw [hs _ _ (by decide), hs _ _ (by decide), hs _ _ (by decide), hs _ _ (by decide), hs _ _ (by decide), hs _ _ (by decide), hs _ _ (by decide), hs _ _ (by decide)]
    exact h6 a ha
theorem rmU11 (h : RelM S f) {i : Nat} (hi : i < 5) : RelM (s2 S 11 i x) (upd f (285 + i) x) := by
  obtain ⟨h1, h2, h3, h4, h5, h6⟩ := h
  have hs : ∀ j i', j ≠ 11 → s2 S 11 i x j i' = S j i' := fun j i' hj => s2_p hj
  refine ⟨fun k hk => ?_, fun k hk => ?_, fun k hk => ?_, ?_, fun k hk => ?_, fun a ha => ?_⟩
  · rw [pk_un (by omega), hs _ _ (by decide)]; exact h1 k hk
  · rw [pk_un (by omega), hs _ _ (by decide)]; exact h2 k hk
  · rw [pk_un (by omega), hs _ _ (by decide)]; exact h3 k hk
  · rw [pk_un (by omega), hs _ _ (by decide)]; exact h4
  · by_cases hki : k = i
    · rw [hki, pk_us, s2_i]
    · rw [pk_un (by omega), s2_j hki]; exact h5 k hk
  · rw [pk_un (by omega), pk_un (by omega), pk_un (by omega), pk_un (by omega), pk_un (by omega), pk_un (by omega), pk_un (by omega), pk_un (by omega), pk_un (by omega)]
    rw [hs _ _ (by decide), hs _ _ (by decide), hs _ _ (by decide), hs _ _ (by decide), hs _ _ (by decide), hs _ _ (by decide), hs _ _ (by decide), hs _ _ (by decide)]
    exact h6 a ha
theorem rmU12 (h : RelM S f) : RelM (s2 S 12 0 x) (upd f 284 x) := by
  obtain ⟨h1, h2, h3, h4, h5, h6⟩ := h
  have hs : ∀ j i', j ≠ 12 → s2 S 12 0 x j i' = S j i' := fun j i' hj => s2_p hj
  refine ⟨fun k hk => ?_, fun k hk => ?_, fun k hk => ?_, ?_, fun k hk => ?_, fun a ha => ?_⟩
  · rw [pk_un (by omega), hs _ _ (by decide)]; exact h1 k hk
  · rw [pk_un (by omega), hs _ _ (by decide)]; exact h2 k hk
  · rw [pk_un (by omega), hs _ _ (by decide)]; exact h3 k hk
  · rw [pk_us, s2_i]
  · rw [pk_un (by omega), hs _ _ (by decide)]; exact h5 k hk
  · rw [pk_un (by omega), pk_un (by omega), pk_un (by omega), pk_un (by omega), pk_un (by omega), pk_un (by omega), pk_un (by omega), pk_un (by omega), pk_un (by omega)]
    rw [hs _ _ (by decide), hs _ _ (by decide), hs _ _ (by decide), hs _ _ (by decide), hs _ _ (by decide), hs _ _ (by decide), hs _ _ (by decide), hs _ _ (by decide)]
    exact h6 a ha
/-- an agent's number k (rows k + 2) -/
theorem rmUa (h : RelM S f) {a k : Nat} (ha : a < 16) (hk : 1 ≤ k ∧ k ≤ 8) (hx : S 3 a ≠ jM) (h1x : k = 1 → x ≠ jM) (h6x : k = 6 → x = jM) : RelM (s2 S (k + 2) a x) (upd f (290 + 9 * a + k) x) := by
  obtain ⟨h1, h2, h3, h4, h5, h6⟩ := h
  have hs : ∀ j i', j ≠ k + 2 → s2 S (k + 2) a x j i' = S j i' := fun j i' hj => s2_p hj
  refine ⟨fun i hi => ?_, fun i hi => ?_, fun i hi => ?_, ?_, fun i hi => ?_, fun a' ha' => ?_⟩
  · rw [pk_un (by omega), hs _ _ (by omega)]; exact h1 i hi
  · rw [pk_un (by omega), hs _ _ (by omega)]; exact h2 i hi
  · rw [pk_un (by omega), hs _ _ (by omega)]; exact h3 i hi
  · rw [pk_un (by omega), hs _ _ (by omega)]; exact h4
  · rw [pk_un (by omega), hs _ _ (by omega)]; exact h5 i hi
  · by_cases haa : a' = a
    · subst haa
      obtain ⟨g1, g2⟩ := h6 a' ha'
      obtain ⟨q0, q1, q2, q3, q4, q5, q6, q7⟩ := g2 hx
      have e0 : upd f (290 + 9 * a' + k) x (290 + 9 * a' + 0) = nI 1 := by rw [pk_un (by omega)]; exact q0
      have ek : ∀ m, 1 ≤ m → m ≤ 8 → f (290 + 9 * a' + m) = S (m + 2) a' → upd f (290 + 9 * a' + k) x (290 + 9 * a' + m) = s2 S (k + 2) a' x (m + 2) a' := by
        intro m hm1 hm8 hm
        by_cases hmk : m = k
        · subst hmk
          rw [pk_us, s2_i]
        · rw [pk_un (by omega), hs _ _ (by omega)]
          exact hm
      have e3 : s2 S (k + 2) a' x 3 a' ≠ jM := by
        by_cases hk1 : k = 1
        · subst hk1
          rw [show (1 : Nat) + 2 = 3 from rfl, s2_i]
          exact h1x rfl
        · rw [hs _ _ (by omega)]
          exact hx
      refine ⟨fun g => absurd g e3, fun _ => ⟨e0, ek 1 (by decide) (by decide) q1, ek 2 (by decide) (by decide) q2, ek 3 (by decide) (by decide) q3, ek 4 (by decide) (by decide) q4, ek 5 (by decide) (by decide) q5, ek 6 (by decide) (by decide) q6, fun g => ?_⟩⟩
      by_cases hk6 : k = 6
      · subst hk6
        rw [show (6 : Nat) + 2 = 8 from rfl, s2_i] at g
        exact absurd (h6x rfl) g
      · rw [hs _ _ (by omega)] at g
        exact ⟨ek 7 (by decide) (by decide) (q7 g).1, ek 8 (by decide) (by decide) (q7 g).2⟩
    · have hs2 : ∀ j, s2 S (k + 2) a x j a' = S j a' := fun j => by
        show (if j = k + 2 ∧ a' = a then x else S j a') = S j a'
        rw [if_neg (fun g => haa g.2)]
      have hu : ∀ m, m ≤ 8 → upd f (290 + 9 * a + k) x (290 + 9 * a' + m) = f (290 + 9 * a' + m) := fun m hm => pk_un (by omega)
      rw [hu 0 (by decide), hu 1 (by decide), hu 2 (by decide), hu 3 (by decide), hu 4 (by decide), hu 5 (by decide), hu 6 (by decide), hu 7 (by decide), hu 8 (by decide)]
      simp only [hs2]
      exact h6 a' ha'
end
/-- what stays in a tick: the costs, the goals, the patience; who there is, with what aims, priorities, leaders, offsets -/
def sameT (S S' : aS) : Prop := S' 0 = S 0 ∧ S' 2 = S 2 ∧ S' 4 = S 4 ∧ S' 5 = S 5 ∧ S' 8 = S 8 ∧ S' 9 = S 9 ∧ S' 10 = S 10 ∧ S' 12 = S 12 ∧ ∀ a, (S' 3 a = jM) = (S 3 a = jM)
theorem sameT.rf {S : aS} : sameT S S := ⟨rfl, rfl, rfl, rfl, rfl, rfl, rfl, rfl, fun _ => rfl⟩
theorem sameT.trans {S S' S'' : aS} (h : sameT S S') (g : sameT S' S'') : sameT S S'' :=
  ⟨g.1.trans h.1, g.2.1.trans h.2.1, g.2.2.1.trans h.2.2.1, g.2.2.2.1.trans h.2.2.2.1, g.2.2.2.2.1.trans h.2.2.2.2.1, g.2.2.2.2.2.1.trans h.2.2.2.2.2.1, g.2.2.2.2.2.2.1.trans h.2.2.2.2.2.2.1, g.2.2.2.2.2.2.2.1.trans h.2.2.2.2.2.2.2.1, fun a => (g.2.2.2.2.2.2.2.2 a).trans (h.2.2.2.2.2.2.2.2 a)⟩
theorem sameT_co {S S' : aS} (h : sameT S S') : coS S' = coS S := by
  funext i
  unfold coS
  rw [h.1]
theorem sameT_ex {S S' : aS} (h : sameT S S') : exS S' = exS S := by
  funext a
  unfold exS
  congr 1
  exact decide_eq_decide.mpr (Iff.of_eq (h.2.2.2.2.2.2.2.2 a))
theorem sameT_s2 {S : aS} {j i : Nat} {x : Int32} (hj : j = 1 ∨ j = 6 ∨ j = 7 ∨ j = 11) : sameT S (s2 S j i x) := by
  have hs : ∀ j', j' ≠ j → s2 S j i x j' = S j' := fun j' h => s2_ne h
  exact ⟨hs 0 (by omega), hs 2 (by omega), hs 4 (by omega), hs 5 (by omega), hs 8 (by omega), hs 9 (by omega), hs 10 (by omega), hs 12 (by omega), fun a => by rw [hs 3 (by omega)]⟩
theorem iS_s2 {S : aS} {B j i : Nat} {x : Int32} (h : iS B S) (hj : j = 7 ∨ j = 11) : iS B (s2 S j i x) := by
  have hs : ∀ j', j' ≠ j → s2 S j i x j' = S j' := fun j' h => s2_ne h
  have hco : coS (s2 S j i x) = coS S := sameT_co (sameT_s2 (by omega))
  have hC : ∀ y, isC (s2 S j i x) y = isC S y := fun y => by unfold isC; rw [hco]
  unfold iS
  rw [hco, hs 0 (by omega), hs 1 (by omega), hs 2 (by omega), hs 3 (by omega), hs 4 (by omega), hs 5 (by omega), hs 6 (by omega), hs 8 (by omega)]
  simp only [hC]
  exact h
theorem iS_B {S : aS} {B B' : Nat} (h : iS B S) (hB : B ≤ B') : iS B' S :=
  ⟨h.1, h.2.1, h.2.2.1, h.2.2.2.1, h.2.2.2.2.1, fun i hi => by obtain ⟨k, hk, e⟩ := h.2.2.2.2.2.1 i hi; exact ⟨k, by omega, e⟩, h.2.2.2.2.2.2⟩
/-- an agent moved -/
def shS (S : aS) (a d q : Nat) : aS := s2 (s2 (s2 S 3 a (nI q)) 6 a (nI d)) 1 q (S 1 q + nI 1)
theorem shS_r {S : aS} {a d q j : Nat} (hj : j ≠ 3 ∧ j ≠ 6 ∧ j ≠ 1) : shS S a d q j = S j := by
  unfold shS
  rw [s2_ne hj.2.2, s2_ne hj.2.1, s2_ne hj.1]
theorem shS_3 {S : aS} {a d q : Nat} {a' : Nat} : shS S a d q 3 a' = if a' = a then nI q else S 3 a' := by
  unfold shS
  rw [s2_ne (by decide), s2_ne (by decide)]
  by_cases h : a' = a
  · rw [h, s2_i, if_pos rfl]
  · rw [s2_j h, if_neg h]
theorem shS_6 {S : aS} {a d q : Nat} {a' : Nat} : shS S a d q 6 a' = if a' = a then nI d else S 6 a' := by
  unfold shS
  rw [s2_ne (by decide)]
  by_cases h : a' = a
  · rw [h, s2_i, if_pos rfl]
  · rw [s2_j h, if_neg h, s2_p (by decide)]
theorem shS_1 {S : aS} {a d q : Nat} {i : Nat} : shS S a d q 1 i = if i = q then S 1 q + nI 1 else S 1 i := by
  unfold shS
  by_cases h : i = q
  · rw [h, s2_i, if_pos rfl]
  · rw [s2_j h, if_neg h, s2_p (by decide), s2_p (by decide)]
theorem sameT_sh {S : aS} {a d q : Nat} (hx : S 3 a ≠ jM) (hq : q < 140) : sameT S (shS S a d q) := by
  refine ⟨shS_r (by decide), shS_r (by decide), shS_r (by decide), shS_r (by decide), shS_r (by decide), shS_r (by decide), shS_r (by decide), shS_r (by decide), fun a' => ?_⟩
  rw [shS_3]
  by_cases h : a' = a
  · rw [if_pos h, nI_neM (by omega), h]
    exact (eq_false hx).symm
  · rw [if_neg h]
theorem iS_sh {S : aS} {B a d q : Nat} (h : iS B S) (hx : S 3 a ≠ jM) (hd : d < 4) (hq : q < 140) (hc : coS S q ≠ 0) (hf : agOn S q = none) (hB : B < 2 ^ 30) : iS (B + 1) (shS S a d q) := by
  have hT : sameT S (shS S a d q) := sameT_sh hx hq
  have hco := sameT_co hT
  have hC : ∀ y, isC (shS S a d q) y = isC S y := fun y => by unfold isC; rw [hco]
  obtain ⟨h1, h2, h3, h4, h5, h6, h7⟩ := h
  unfold iS
  rw [hco, shS_r (j := 0) (by decide), shS_r (j := 2) (by decide), shS_r (j := 4) (by decide), shS_r (j := 5) (by decide), shS_r (j := 8) (by decide)]
  simp only [hC, ne_eq, hT.2.2.2.2.2.2.2.2]
  refine ⟨h1, h2, fun a' ha' => ?_, fun a' ha' hx' => ?_, h5, fun i hi => ?_, fun a1 a2 ha1 ha2 hx' => ?_⟩
  · rw [shS_3]
    by_cases haa : a' = a
    · rw [if_pos haa]
      exact Or.inr ⟨q, hq, rfl, hc⟩
    · rw [if_neg haa]
      exact h3 a' ha'
  · obtain ⟨g1, g2, g3, g4⟩ := h4 a' ha' hx'
    refine ⟨g1, g2, ?_, g4⟩
    rw [shS_6]
    by_cases haa : a' = a
    · rw [if_pos haa]
      exact ⟨d, hd, rfl⟩
    · rw [if_neg haa]
      exact g3
  · rw [shS_1]
    by_cases hiq : i = q
    · rw [if_pos hiq]
      obtain ⟨k, hk, e⟩ := h6 q hq
      exact ⟨k + 1, by omega, by rw [e, nI_add]⟩
    · rw [if_neg hiq]
      obtain ⟨k, hk, e⟩ := h6 i hi
      exact ⟨k, by omega, e⟩
  · intro e
    rw [shS_3, shS_3] at e
    by_cases q1 : a1 = a
    · by_cases q2 : a2 = a
      · rw [q1, q2]
      · rw [if_pos q1, if_neg q2] at e
        exact absurd e.symm (of_decide_eq_false (ffI_n hf a2 (Nat.zero_le a2) (by omega)))
    · by_cases q2 : a2 = a
      · rw [if_neg q1, if_pos q2] at e
        exact absurd e (of_decide_eq_false (ffI_n hf a1 (Nat.zero_le a1) (by omega)))
      · rw [if_neg q1, if_neg q2] at e
        exact h7 a1 a2 ha1 ha2 hx' e
