/-! THE STATE: rows 0 costs, 1 passes, 2 goals' cells, 3 places, 4 aims, 5 priorities, 6 headings, 7 waits, 8 leaders, 9 and 10 offsets, 11 statistics, 12 patience -/
abbrev aS : Type := Nat → Nat → Int32
def lnR (j : Nat) : Nat := if j < 2 then 140 else if j = 2 then 4 else if j < 11 then 16 else 5
/-- the class's State at b -/
def RelC (b : Nat) (S : aS) (v : sV) : Prop := (∀ j i, j < 12 → i < lnR j → v (b + 1 + j) i = S j i) ∧ v b 12 = S 12 0
/-- the reference's row -/
def RelM (S : aS) (f : Nat → Int32) : Prop :=
  (∀ i, i < 140 → f i = S 0 i) ∧ (∀ i, i < 140 → f (140 + i) = S 1 i) ∧ (∀ g, g < 4 → f (280 + g) = S 2 g) ∧ f 284 = S 12 0 ∧ (∀ k, k < 5 → f (285 + k) = S 11 k) ∧
  ∀ a, a < 16 → (S 3 a = jM → f (290 + 9 * a + 0) ≠ nI 1) ∧ (S 3 a ≠ jM → f (290 + 9 * a + 0) = nI 1 ∧ f (290 + 9 * a + 1) = S 3 a ∧ f (290 + 9 * a + 2) = S 4 a ∧ f (290 + 9 * a + 3) = S 5 a ∧ f (290 + 9 * a + 4) = S 6 a ∧ f (290 + 9 * a + 5) = S 7 a ∧ f (290 + 9 * a + 6) = S 8 a ∧ (S 8 a ≠ jM → f (290 + 9 * a + 7) = S 9 a ∧ f (290 + 9 * a + 8) = S 10 a))
def clI (x : Int32) : Nat := x.toNatClampNeg
theorem clI_n {n : Nat} (h : n < 2 ^ 31) : clI (nI n) = n := nI_clamp h
def coS (S : aS) (i : Nat) : Nat := clI (S 0 i)
/-- a cell that is no wall -/
def isC (S : aS) (x : Int32) : Prop := ∃ c, c < 140 ∧ x = nI c ∧ coS S c ≠ 0
def iS (B : Nat) (S : aS) : Prop :=
  (∀ i, i < 140 → S 0 i = nI (coS S i) ∧ coS S i ≤ 9) ∧ (∀ g, g < 4 → S 2 g = jM ∨ isC S (S 2 g)) ∧ (∀ a, a < 16 → S 3 a = jM ∨ isC S (S 3 a)) ∧
  (∀ a, a < 16 → S 3 a ≠ jM → (S 4 a = jM ∨ ∃ g, g < 4 ∧ S 4 a = nI g) ∧ (∃ p, p < 10 ∧ S 5 a = nI p) ∧ (∃ h, h < 4 ∧ S 6 a = nI h) ∧ (S 8 a = jM ∨ ∃ l, l < 16 ∧ S 8 a = nI l ∧ S 3 l ≠ jM)) ∧
  (∀ a, a < 16 → S 3 a = jM → S 8 a = jM) ∧ (∀ i, i < 140 → ∃ k, k ≤ B ∧ S 1 i = nI k) ∧ ∀ a b, a < 16 → b < 16 → S 3 a ≠ jM → S 3 a = S 3 b → a = b
def exS (S : aS) (a : Nat) : Bool := !decide (S 3 a = jM)
theorem exS_t {S : aS} {a : Nat} : (exS S a = true) = (S 3 a ≠ jM) := by simp [exS]
theorem exS_f {S : aS} {a : Nat} : (exS S a = false) = (S 3 a = jM) := by simp [exS]
section
variable {b cq K : Nat} {S : aS} {v : sV} {B : Nat}
theorem rc0 (h : RelC b S v) {i : Nat} (hi : i < 140) : v (b + 1) i = S 0 i := h.1 0 i (by decide) hi
theorem rc1 (h : RelC b S v) {i : Nat} (hi : i < 140) : v (b + 2) i = S 1 i := h.1 1 i (by decide) hi
theorem rc2 (h : RelC b S v) {i : Nat} (hi : i < 4) : v (b + 3) i = S 2 i := h.1 2 i (by decide) hi
theorem rc3 (h : RelC b S v) {i : Nat} (hi : i < 16) : v (b + 4) i = S 3 i := h.1 3 i (by decide) hi
theorem rc4 (h : RelC b S v) {i : Nat} (hi : i < 16) : v (b + 5) i = S 4 i := h.1 4 i (by decide) hi
theorem rc5 (h : RelC b S v) {i : Nat} (hi : i < 16) : v (b + 6) i = S 5 i := h.1 5 i (by decide) hi
theorem rc6 (h : RelC b S v) {i : Nat} (hi : i < 16) : v (b + 7) i = S 6 i := h.1 6 i (by decide) hi
theorem rc7 (h : RelC b S v) {i : Nat} (hi : i < 16) : v (b + 8) i = S 7 i := h.1 7 i (by decide) hi
theorem rc8 (h : RelC b S v) {i : Nat} (hi : i < 16) : v (b + 9) i = S 8 i := h.1 8 i (by decide) hi
theorem rc9 (h : RelC b S v) {i : Nat} (hi : i < 16) : v (b + 10) i = S 9 i := h.1 9 i (by decide) hi
theorem rc10 (h : RelC b S v) {i : Nat} (hi : i < 16) : v (b + 11) i = S 10 i := h.1 10 i (by decide) hi
theorem rc11 (h : RelC b S v) {i : Nat} (hi : i < 5) : v (b + 12) i = S 11 i := h.1 11 i (by decide) hi
/-- the class: is there such an agent -/
theorem ex_C (h : RelC b S v) {a : Nat} (ha : a < 16) : fX0_exists cq b (nI a) v = some (if exS S a = true then nI 1 else nI 0) := by
  unfold fX0_exists
  simp (disch := omega) only [↓jM_e, li_0, li_1, li_2, li_3, li_4, li_5, li_6, li_7, li_8, li_9, li_10, li_13, li_14, li_15, li_16, li_31, li_35, li_47, li_48, li_49, li_50, li_57, li_99, li_100, li_126, li_139, li_140, li_149, li_150, li_280, li_284, li_285, li_290, li_434, li_1260, li_3472, li_9999, li_65536, nm, nm_w, sf_w, cp_w, ld_I, sa_I, nI_add, pk_mul, Nat.zero_add, nI_leI, nI_ltI, nI_eq, nI_neM, M_neI, nI_ltM, nI_nltM, M_ltI, M_leI, nI_nleM, bnd_some, if_pos, if_neg, dif_t, dif_f, rc3 h ha]
  by_cases hx : S 3 a = jM
  · simp [exS, hx]
  · simp [exS, hx]
theorem ex_CM : fX0_exists cq b jM v = some (nI 0) := by
  unfold fX0_exists
  simp (disch := omega) only [↓jM_e, li_0, li_1, li_2, li_3, li_4, li_5, li_6, li_7, li_8, li_9, li_10, li_13, li_14, li_15, li_16, li_31, li_35, li_47, li_48, li_49, li_50, li_57, li_99, li_100, li_126, li_139, li_140, li_149, li_150, li_280, li_284, li_285, li_290, li_434, li_1260, li_3472, li_9999, li_65536, nm, nm_w, sf_w, cp_w, ld_I, sa_I, nI_add, pk_mul, Nat.zero_add, nI_leI, nI_ltI, nI_eq, nI_neM, M_neI, nI_ltM, nI_nltM, M_ltI, M_leI, nI_nleM, bnd_some, if_pos, if_neg, dif_t, dif_f]
def agOn (S : aS) (c : Nat) : Option Nat := ffI (fun a => decide (S 3 a = nI c)) 16 0
def goOn (S : aS) (c : Nat) : Option Nat := ffI (fun g => decide (S 2 g = nI c)) 4 0
theorem agOn_lt {c a : Nat} (h : agOn S c = some a) : a < 16 ∧ S 3 a = nI c := by
  obtain ⟨h1, h2, h3, -⟩ := ffI_s h
  exact ⟨by omega, of_decide_eq_true h1⟩
theorem goOn_lt {c a : Nat} (h : goOn S c = some a) : a < 4 ∧ S 2 a = nI c := by
  obtain ⟨h1, h2, h3, -⟩ := ffI_s h
  exact ⟨by omega, of_decide_eq_true h1⟩
theorem ag_C (h : RelC b S v) {c : Nat} (hc : c < 140) (hK : 16 < K) : fX0_agentOn K cq b (nI c) v = some (oI (agOn S c)) := by
  unfold fX0_agentOn
  refine fx1_go (P := fun t x => x = nI t ∧ ffI (fun a => decide (S 3 a = nI c)) (16 - t) t = agOn S c) (Q := fun o => o = some (oI (agOn S c))) (N := 16) ?_ ⟨rfl, rfl⟩ hK
  intro t x ht ⟨e1, e2⟩ k hk
  subst e1
  unfold gX0_agentOn_2
  by_cases ht1 : t = 16
  · subst ht1
    rw [← e2]
    simp (disch := omega) only [↓jM_e, li_0, li_1, li_2, li_3, li_4, li_5, li_6, li_7, li_8, li_9, li_10, li_13, li_14, li_15, li_16, li_31, li_35, li_47, li_48, li_49, li_50, li_57, li_99, li_100, li_126, li_139, li_140, li_149, li_150, li_280, li_284, li_285, li_290, li_434, li_1260, li_3472, li_9999, li_65536, nm, nm_w, sf_w, cp_w, ld_I, sa_I, nI_add, pk_mul, Nat.zero_add, nI_leI, nI_ltI, nI_eq, nI_neM, M_neI, nI_ltM, nI_nltM, M_ltI, M_leI, nI_nleM, bnd_some, if_pos, if_neg, dif_t, dif_f]
    rfl
  · rw [show 16 - t = (16 - (t + 1)) + 1 by omega] at e2
    have e2 : (if decide (S 3 t = nI c) = true then some t else ffI (fun a => decide (S 3 a = nI c)) (16 - (t + 1)) (t + 1)) = agOn S c := e2
    by_cases hp : S 3 t = nI c
    · rw [if_pos (decide_eq_true hp)] at e2
      simp (disch := omega) only [↓jM_e, li_0, li_1, li_2, li_3, li_4, li_5, li_6, li_7, li_8, li_9, li_10, li_13, li_14, li_15, li_16, li_31, li_35, li_47, li_48, li_49, li_50, li_57, li_99, li_100, li_126, li_139, li_140, li_149, li_150, li_280, li_284, li_285, li_290, li_434, li_1260, li_3472, li_9999, li_65536, nm, nm_w, sf_w, cp_w, ld_I, sa_I, nI_add, pk_mul, Nat.zero_add, nI_leI, nI_ltI, nI_eq, nI_neM, M_neI, nI_ltM, nI_nltM, M_ltI, M_leI, nI_nleM, bnd_some, if_pos, if_neg, dif_t, dif_f, rc3 h (show t < 16 by omega), if_pos hp]
      rw [← e2]
      rfl
    · rw [if_neg (by rw [decide_eq_true_eq]; exact hp)] at e2
      simp (disch := omega) only [↓jM_e, li_0, li_1, li_2, li_3, li_4, li_5, li_6, li_7, li_8, li_9, li_10, li_13, li_14, li_15, li_16, li_31, li_35, li_47, li_48, li_49, li_50, li_57, li_99, li_100, li_126, li_139, li_140, li_149, li_150, li_280, li_284, li_285, li_290, li_434, li_1260, li_3472, li_9999, li_65536, nm, nm_w, sf_w, cp_w, ld_I, sa_I, nI_add, pk_mul, Nat.zero_add, nI_leI, nI_ltI, nI_eq, nI_neM, M_neI, nI_ltM, nI_nltM, M_ltI, M_leI, nI_nleM, bnd_some, if_pos, if_neg, dif_t, dif_f, rc3 h (show t < 16 by omega), if_neg hp]
      exact hk (by omega) _ ⟨rfl, e2⟩
theorem ag_CM (hK : 16 < K) : fX0_agentOn K cq b jM v = some jM := by
  unfold fX0_agentOn
  refine fx1_go (P := fun t x => True) (Q := fun o => o = some jM) (N := 16) ?_ trivial hK
  intro t x ht _ k hk
  unfold gX0_agentOn_2
  simp only [↓jM_e, li_0, li_1, li_2, li_3, li_4, li_5, li_6, li_7, li_8, li_9, li_10, li_13, li_14, li_15, li_16, li_31, li_35, li_47, li_48, li_49, li_50, li_57, li_99, li_100, li_126, li_139, li_140, li_149, li_150, li_280, li_284, li_285, li_290, li_434, li_1260, li_3472, li_9999, li_65536]
  simp only [if_true]
theorem go_C (h : RelC b S v) {c : Nat} (hc : c < 140) (hK : 16 < K) : fX0_goalOn K cq b (nI c) v = some (oI (goOn S c)) := by
  unfold fX0_goalOn
  refine fx1_go (P := fun t x => x = nI t ∧ ffI (fun a => decide (S 2 a = nI c)) (4 - t) t = goOn S c) (Q := fun o => o = some (oI (goOn S c))) (N := 4) ?_ ⟨rfl, rfl⟩ (by omega)
  intro t x ht ⟨e1, e2⟩ k hk
  subst e1
  unfold gX0_goalOn_2
  by_cases ht1 : t = 4
  · subst ht1
    rw [← e2]
    simp (disch := omega) only [↓jM_e, li_0, li_1, li_2, li_3, li_4, li_5, li_6, li_7, li_8, li_9, li_10, li_13, li_14, li_15, li_16, li_31, li_35, li_47, li_48, li_49, li_50, li_57, li_99, li_100, li_126, li_139, li_140, li_149, li_150, li_280, li_284, li_285, li_290, li_434, li_1260, li_3472, li_9999, li_65536, nm, nm_w, sf_w, cp_w, ld_I, sa_I, nI_add, pk_mul, Nat.zero_add, nI_leI, nI_ltI, nI_eq, nI_neM, M_neI, nI_ltM, nI_nltM, M_ltI, M_leI, nI_nleM, bnd_some, if_pos, if_neg, dif_t, dif_f]
    rfl
  · rw [show 4 - t = (4 - (t + 1)) + 1 by omega] at e2
    have e2 : (if decide (S 2 t = nI c) = true then some t else ffI (fun a => decide (S 2 a = nI c)) (4 - (t + 1)) (t + 1)) = goOn S c := e2
    by_cases hp : S 2 t = nI c
    · rw [if_pos (decide_eq_true hp)] at e2
      simp (disch := omega) only [↓jM_e, li_0, li_1, li_2, li_3, li_4, li_5, li_6, li_7, li_8, li_9, li_10, li_13, li_14, li_15, li_16, li_31, li_35, li_47, li_48, li_49, li_50, li_57, li_99, li_100, li_126, li_139, li_140, li_149, li_150, li_280, li_284, li_285, li_290, li_434, li_1260, li_3472, li_9999, li_65536, nm, nm_w, sf_w, cp_w, ld_I, sa_I, nI_add, pk_mul, Nat.zero_add, nI_leI, nI_ltI, nI_eq, nI_neM, M_neI, nI_ltM, nI_nltM, M_ltI, M_leI, nI_nleM, bnd_some, if_pos, if_neg, dif_t, dif_f, rc2 h (show t < 4 by omega), if_pos hp]
      rw [← e2]
      rfl
    · rw [if_neg (by rw [decide_eq_true_eq]; exact hp)] at e2
      simp (disch := omega) only [↓jM_e, li_0, li_1, li_2, li_3, li_4, li_5, li_6, li_7, li_8, li_9, li_10, li_13, li_14, li_15, li_16, li_31, li_35, li_47, li_48, li_49, li_50, li_57, li_99, li_100, li_126, li_139, li_140, li_149, li_150, li_280, li_284, li_285, li_290, li_434, li_1260, li_3472, li_9999, li_65536, nm, nm_w, sf_w, cp_w, ld_I, sa_I, nI_add, pk_mul, Nat.zero_add, nI_leI, nI_ltI, nI_eq, nI_neM, M_neI, nI_ltM, nI_nltM, M_ltI, M_leI, nI_nleM, bnd_some, if_pos, if_neg, dif_t, dif_f, rc2 h (show t < 4 by omega), if_neg hp]
      exact hk (by omega) _ ⟨rfl, e2⟩
/-- in use: an agent or a goal is on it -/
def inU (S : aS) (c : Nat) : Bool := (agOn S c).isSome || (goOn S c).isSome
theorem oI_J {o : Option Nat} (h : ∀ k, o = some k → k < 16) : (oI o = jM) = (o = none) := oI_M (fun k hk => by have := h k hk; omega)
theorem iu_C (h : RelC b S v) {c : Nat} (hc : c < 140) (hK : 16 < K) : fX0_isInUse K cq b (nI c) v = some (if inU S c = true then nI 1 else nI 0) := by
  unfold fX0_isInUse
  have e1 : (oI (agOn S c) = jM) = (agOn S c = none) := oI_J (fun k hk => (agOn_lt hk).1)
  have e2 : (oI (goOn S c) = jM) = (goOn S c = none) := oI_J (fun k hk => by have := (goOn_lt hk).1; omega)
  simp (disch := omega) only [↓jM_e, li_0, li_1, li_2, li_3, li_4, li_5, li_6, li_7, li_8, li_9, li_10, li_13, li_14, li_15, li_16, li_31, li_35, li_47, li_48, li_49, li_50, li_57, li_99, li_100, li_126, li_139, li_140, li_149, li_150, li_280, li_284, li_285, li_290, li_434, li_1260, li_3472, li_9999, li_65536, nm, nm_w, sf_w, cp_w, ld_I, sa_I, nI_add, pk_mul, Nat.zero_add, nI_leI, nI_ltI, nI_eq, nI_neM, M_neI, nI_ltM, nI_nltM, M_ltI, M_leI, nI_nleM, bnd_some, if_pos, if_neg, dif_t, dif_f, ag_C h hc hK, go_C h hc hK, e1, e2]
  unfold inU
  cases agOn S c <;> cases goOn S c <;> simp
theorem io_C (h : RelC b S v) (hI : iS B S) {c : Nat} (hc : c < 140) : fX0_isOpen cq b (nI c) v = some (if coS S c = 0 then nI 0 else nI 1) := by
  unfold fX0_isOpen
  have h1 := hI.1 c hc
  simp (disch := omega) only [↓jM_e, li_0, li_1, li_2, li_3, li_4, li_5, li_6, li_7, li_8, li_9, li_10, li_13, li_14, li_15, li_16, li_31, li_35, li_47, li_48, li_49, li_50, li_57, li_99, li_100, li_126, li_139, li_140, li_149, li_150, li_280, li_284, li_285, li_290, li_434, li_1260, li_3472, li_9999, li_65536, nm, nm_w, sf_w, cp_w, ld_I, sa_I, nI_add, pk_mul, Nat.zero_add, nI_leI, nI_ltI, nI_eq, nI_neM, M_neI, nI_ltM, nI_nltM, M_ltI, M_leI, nI_nleM, bnd_some, if_pos, if_neg, dif_t, dif_f, rc0 h hc, h1.1]
  by_cases hx : coS S c = 0
  · simp only [if_pos hx]
  · simp only [if_neg hx]
theorem io_CM : fX0_isOpen cq b jM v = some (nI 0) := by
  unfold fX0_isOpen
  simp (disch := omega) only [↓jM_e, li_0, li_1, li_2, li_3, li_4, li_5, li_6, li_7, li_8, li_9, li_10, li_13, li_14, li_15, li_16, li_31, li_35, li_47, li_48, li_49, li_50, li_57, li_99, li_100, li_126, li_139, li_140, li_149, li_150, li_280, li_284, li_285, li_290, li_434, li_1260, li_3472, li_9999, li_65536, nm, nm_w, sf_w, cp_w, ld_I, sa_I, nI_add, pk_mul, Nat.zero_add, nI_leI, nI_ltI, nI_eq, nI_neM, M_neI, nI_ltM, nI_nltM, M_ltI, M_leI, nI_nleM, bnd_some, if_pos, if_neg, dif_t, dif_f]
/-- free: no wall, no agent -/
def frS (S : aS) (c : Nat) : Bool := !decide (coS S c = 0) && (agOn S c).isNone
theorem fr_C (h : RelC b S v) (hI : iS B S) {c : Nat} (hc : c < 140) (hK : 16 < K) : fX0_isFree K cq b (nI c) v = some (if frS S c = true then nI 1 else nI 0) := by
  unfold fX0_isFree
  have e1 : (oI (agOn S c) = jM) = (agOn S c = none) := oI_J (fun k hk => (agOn_lt hk).1)
  rw [io_C h hI hc]
  by_cases hx : coS S c = 0
  · simp (disch := omega) only [↓jM_e, li_0, li_1, li_2, li_3, li_4, li_5, li_6, li_7, li_8, li_9, li_10, li_13, li_14, li_15, li_16, li_31, li_35, li_47, li_48, li_49, li_50, li_57, li_99, li_100, li_126, li_139, li_140, li_149, li_150, li_280, li_284, li_285, li_290, li_434, li_1260, li_3472, li_9999, li_65536, nm, nm_w, sf_w, cp_w, ld_I, sa_I, nI_add, pk_mul, Nat.zero_add, nI_leI, nI_ltI, nI_eq, nI_neM, M_neI, nI_ltM, nI_nltM, M_ltI, M_leI, nI_nleM, bnd_some, if_pos, if_neg, dif_t, dif_f, if_pos hx]
    simp [frS, hx]
  · simp (disch := omega) only [↓jM_e, li_0, li_1, li_2, li_3, li_4, li_5, li_6, li_7, li_8, li_9, li_10, li_13, li_14, li_15, li_16, li_31, li_35, li_47, li_48, li_49, li_50, li_57, li_99, li_100, li_126, li_139, li_140, li_149, li_150, li_280, li_284, li_285, li_290, li_434, li_1260, li_3472, li_9999, li_65536, nm, nm_w, sf_w, cp_w, ld_I, sa_I, nI_add, pk_mul, Nat.zero_add, nI_leI, nI_ltI, nI_eq, nI_neM, M_neI, nI_ltM, nI_nltM, M_ltI, M_leI, nI_nleM, bnd_some, if_pos, if_neg, dif_t, dif_f, if_neg hx, ag_C h hc hK, e1]
    unfold frS
    cases agOn S c <;> simp [hx]
theorem fr_CM (hK : 16 < K) : fX0_isFree K cq b jM v = some (nI 0) := by
  unfold fX0_isFree
  rw [io_CM]
  simp (disch := omega) only [↓jM_e, li_0, li_1, li_2, li_3, li_4, li_5, li_6, li_7, li_8, li_9, li_10, li_13, li_14, li_15, li_16, li_31, li_35, li_47, li_48, li_49, li_50, li_57, li_99, li_100, li_126, li_139, li_140, li_149, li_150, li_280, li_284, li_285, li_290, li_434, li_1260, li_3472, li_9999, li_65536, nm, nm_w, sf_w, cp_w, ld_I, sa_I, nI_add, pk_mul, Nat.zero_add, nI_leI, nI_ltI, nI_eq, nI_neM, M_neI, nI_ltM, nI_nltM, M_ltI, M_leI, nI_nleM, bnd_some, if_pos, if_neg, dif_t, dif_f]
theorem im_C (h : RelC b S v) {a : Nat} (ha : a < 16) : fX0_isMember cq b (nI a) v = some (if S 8 a = jM then nI 0 else nI 1) := by
  unfold fX0_isMember
  simp (disch := omega) only [↓jM_e, li_0, li_1, li_2, li_3, li_4, li_5, li_6, li_7, li_8, li_9, li_10, li_13, li_14, li_15, li_16, li_31, li_35, li_47, li_48, li_49, li_50, li_57, li_99, li_100, li_126, li_139, li_140, li_149, li_150, li_280, li_284, li_285, li_290, li_434, li_1260, li_3472, li_9999, li_65536, nm, nm_w, sf_w, cp_w, ld_I, sa_I, nI_add, pk_mul, Nat.zero_add, nI_leI, nI_ltI, nI_eq, nI_neM, M_neI, nI_ltM, nI_nltM, M_ltI, M_leI, nI_nleM, bnd_some, if_pos, if_neg, dif_t, dif_f, rc8 h ha]
  by_cases hx : S 8 a = jM
  · simp only [if_pos hx]
  · simp only [if_neg hx]
/-- the cell at a column and a row that may lie outside -/
def caI (x y : Int32) : Int32 := if x < nI 0 then jM else if nI 14 ≤ x then jM else if y < nI 0 then jM else if nI 10 ≤ y then jM else y * nI 14 + x
theorem ca_C {x y : Int32} : fX6_cellAt x y = some (caI x y) := by
  unfold fX6_cellAt bX6_cellAt_25 caI
  simp only [↓jM_e, li_0, li_1, li_2, li_3, li_4, li_5, li_6, li_7, li_8, li_9, li_10, li_13, li_14, li_15, li_16, li_31, li_35, li_47, li_48, li_49, li_50, li_57, li_99, li_100, li_126, li_139, li_140, li_149, li_150, li_280, li_284, li_285, li_290, li_434, li_1260, li_3472, li_9999, li_65536]
  by_cases h1 : x < nI 0
  · simp (disch := omega) only [↓jM_e, li_0, li_1, li_2, li_3, li_4, li_5, li_6, li_7, li_8, li_9, li_10, li_13, li_14, li_15, li_16, li_31, li_35, li_47, li_48, li_49, li_50, li_57, li_99, li_100, li_126, li_139, li_140, li_149, li_150, li_280, li_284, li_285, li_290, li_434, li_1260, li_3472, li_9999, li_65536, nm, nm_w, sf_w, cp_w, ld_I, sa_I, nI_add, pk_mul, Nat.zero_add, nI_leI, nI_ltI, nI_eq, nI_neM, M_neI, nI_ltM, nI_nltM, M_ltI, M_leI, nI_nleM, bnd_some, if_pos, if_neg, dif_t, dif_f, if_pos h1]
  · simp only [if_neg h1]
    by_cases h2 : nI 14 ≤ x
    · simp (disch := omega) only [↓jM_e, li_0, li_1, li_2, li_3, li_4, li_5, li_6, li_7, li_8, li_9, li_10, li_13, li_14, li_15, li_16, li_31, li_35, li_47, li_48, li_49, li_50, li_57, li_99, li_100, li_126, li_139, li_140, li_149, li_150, li_280, li_284, li_285, li_290, li_434, li_1260, li_3472, li_9999, li_65536, nm, nm_w, sf_w, cp_w, ld_I, sa_I, nI_add, pk_mul, Nat.zero_add, nI_leI, nI_ltI, nI_eq, nI_neM, M_neI, nI_ltM, nI_nltM, M_ltI, M_leI, nI_nleM, bnd_some, if_pos, if_neg, dif_t, dif_f, if_pos h2]
    · simp only [if_neg h2]
      by_cases h3 : y < nI 0
      · simp (disch := omega) only [↓jM_e, li_0, li_1, li_2, li_3, li_4, li_5, li_6, li_7, li_8, li_9, li_10, li_13, li_14, li_15, li_16, li_31, li_35, li_47, li_48, li_49, li_50, li_57, li_99, li_100, li_126, li_139, li_140, li_149, li_150, li_280, li_284, li_285, li_290, li_434, li_1260, li_3472, li_9999, li_65536, nm, nm_w, sf_w, cp_w, ld_I, sa_I, nI_add, pk_mul, Nat.zero_add, nI_leI, nI_ltI, nI_eq, nI_neM, M_neI, nI_ltM, nI_nltM, M_ltI, M_leI, nI_nleM, bnd_some, if_pos, if_neg, dif_t, dif_f, if_pos h3]
      · simp only [if_neg h3]
        by_cases h4 : nI 10 ≤ y
        · simp (disch := omega) only [↓jM_e, li_0, li_1, li_2, li_3, li_4, li_5, li_6, li_7, li_8, li_9, li_10, li_13, li_14, li_15, li_16, li_31, li_35, li_47, li_48, li_49, li_50, li_57, li_99, li_100, li_126, li_139, li_140, li_149, li_150, li_280, li_284, li_285, li_290, li_434, li_1260, li_3472, li_9999, li_65536, nm, nm_w, sf_w, cp_w, ld_I, sa_I, nI_add, pk_mul, Nat.zero_add, nI_leI, nI_ltI, nI_eq, nI_neM, M_neI, nI_ltM, nI_nltM, M_ltI, M_leI, nI_nleM, bnd_some, if_pos, if_neg, dif_t, dif_f, if_pos h4]
        · simp (disch := omega) only [↓jM_e, li_0, li_1, li_2, li_3, li_4, li_5, li_6, li_7, li_8, li_9, li_10, li_13, li_14, li_15, li_16, li_31, li_35, li_47, li_48, li_49, li_50, li_57, li_99, li_100, li_126, li_139, li_140, li_149, li_150, li_280, li_284, li_285, li_290, li_434, li_1260, li_3472, li_9999, li_65536, nm, nm_w, sf_w, cp_w, ld_I, sa_I, nI_add, pk_mul, Nat.zero_add, nI_leI, nI_ltI, nI_eq, nI_neM, M_neI, nI_ltM, nI_nltM, M_ltI, M_leI, nI_nleM, bnd_some, if_pos, if_neg, dif_t, dif_f, if_neg h4]
theorem caI_v (x y : Int32) : caI x y = jM ∨ ∃ i j, i < 14 ∧ j < 10 ∧ x = nI i ∧ y = nI j ∧ caI x y = nI (14 * j + i) := by
  unfold caI
  by_cases h1 : x < nI 0
  · exact Or.inl (if_pos h1)
  · simp only [if_neg h1]
    by_cases h2 : nI 14 ≤ x
    · exact Or.inl (if_pos h2)
    · simp only [if_neg h2]
      by_cases h3 : y < nI 0
      · exact Or.inl (if_pos h3)
      · simp only [if_neg h3]
        by_cases h4 : nI 10 ≤ y
        · exact Or.inl (if_pos h4)
        · simp only [if_neg h4]
          obtain ⟨i, hi, rfl⟩ := in_nI h1 h2 (by decide)
          obtain ⟨j, hj, rfl⟩ := in_nI h3 h4 (by decide)
          exact Or.inr ⟨i, j, hi, hj, rfl, rfl, by rw [pk_mul, nI_add, Nat.mul_comm]⟩
theorem ii_M {x lo hi : Int32} : fX7_isIn x lo hi = some (if lo ≤ x ∧ x ≤ hi then nI 1 else nI 0) := by
  unfold fX7_isIn
  simp only [↓jM_e, li_0, li_1, li_2, li_3, li_4, li_5, li_6, li_7, li_8, li_9, li_10, li_13, li_14, li_15, li_16, li_31, li_35, li_47, li_48, li_49, li_50, li_57, li_99, li_100, li_126, li_139, li_140, li_149, li_150, li_280, li_284, li_285, li_290, li_434, li_1260, li_3472, li_9999, li_65536]
  by_cases h1 : x < lo
  · simp only [if_pos h1, if_neg (show ¬ (lo ≤ x ∧ x ≤ hi) from fun g => Int32.not_le.mpr h1 g.1)]
  · simp only [if_neg h1]
    by_cases h2 : hi < x
    · simp only [if_pos h2, if_neg (show ¬ (lo ≤ x ∧ x ≤ hi) from fun g => Int32.not_le.mpr h2 g.2)]
    · simp only [if_neg h2, if_pos (show lo ≤ x ∧ x ≤ hi from ⟨Int32.not_lt.mp h1, Int32.not_lt.mp h2⟩)]
theorem le_pred {x : Int32} {n : Nat} (h : n + 1 < 2 ^ 31) : (x ≤ nI n) = ¬ (nI (n + 1) ≤ x) := by
  apply propext
  rw [Int32.le_iff_toInt_le, Int32.le_iff_toInt_le, nI_toInt (by omega), nI_toInt h]
  omega
/-- the reference: is it a cell, which -/
theorem ic_M {x y : Int32} : fX7_isCell x y = some (if caI x y = jM then nI 0 else nI 1) := by
  unfold fX7_isCell
  simp only [↓jM_e, li_0, li_1, li_2, li_3, li_4, li_5, li_6, li_7, li_8, li_9, li_10, li_13, li_14, li_15, li_16, li_31, li_35, li_47, li_48, li_49, li_50, li_57, li_99, li_100, li_126, li_139, li_140, li_149, li_150, li_280, li_284, li_285, li_290, li_434, li_1260, li_3472, li_9999, li_65536]
  have p1 : (x ≤ nI 13) = ¬ (nI 14 ≤ x) := le_pred (n := 13) (by decide)
  have p2 : (y ≤ nI 9) = ¬ (nI 10 ≤ y) := le_pred (n := 9) (by decide)
  have e1 : (nI 0 ≤ x) = ¬ x < nI 0 := propext Int32.not_lt.symm
  have e2 : (nI 0 ≤ y) = ¬ y < nI 0 := propext Int32.not_lt.symm
  have n10 : ¬ nI 1 = nI 0 := by decide
  simp only [ii_M, p1, p2, e1, e2]
  by_cases h1 : x < nI 0
  · simp [caI, h1]
  · by_cases h2 : nI 14 ≤ x
    · simp [caI, h1, h2]
    · by_cases h3 : y < nI 0
      · simp [caI, h1, h2, h3, n10]
      · by_cases h4 : nI 10 ≤ y
        · simp [caI, h1, h2, h3, h4, n10]
        · have hne : ¬ caI x y = jM := by
            rcases caI_v x y with h | ⟨i, j, hi, hj, -, -, e⟩
            · unfold caI at h
              rw [if_neg h1, if_neg h2, if_neg h3, if_neg h4] at h
              obtain ⟨i, hi, rfl⟩ := in_nI h1 h2 (by decide)
              obtain ⟨j, hj, rfl⟩ := in_nI h3 h4 (by decide)
              rw [pk_mul, nI_add, nI_neM (by omega)] at h
              exact h.elim
            · rw [e, nI_neM (by omega)]; exact id
          simp [h1, h2, h3, h4, n10, hne]
theorem ca_M {x y : Int32} (h : caI x y ≠ jM) : fX7_cellAt x y = some (caI x y) := by
  unfold fX7_cellAt
  rcases caI_v x y with h1 | ⟨i, j, hi, hj, rfl, rfl, e⟩
  · exact absurd h1 h
  · rw [e]
    simp (disch := omega) only [↓jM_e, li_0, li_1, li_2, li_3, li_4, li_5, li_6, li_7, li_8, li_9, li_10, li_13, li_14, li_15, li_16, li_31, li_35, li_47, li_48, li_49, li_50, li_57, li_99, li_100, li_126, li_139, li_140, li_149, li_150, li_280, li_284, li_285, li_290, li_434, li_1260, li_3472, li_9999, li_65536, nm, nm_w, sf_w, cp_w, ld_I, sa_I, nI_add, pk_mul, Nat.zero_add, nI_leI, nI_ltI, nI_eq, nI_neM, M_neI, nI_ltM, nI_nltM, M_ltI, M_leI, nI_nleM, bnd_some, if_pos, if_neg, dif_t, dif_f]
theorem co_C {p : Nat} (hp : p < 140) : fX6_columnOf (nI p) = some (nI (p % 14)) ∧ fX6_rowOf (nI p) = some (nI (p / 14)) := by
  have e1 := pk_rem (a := p) (d := 14) (by omega) (by decide) (by decide)
  have e2 := pk_div (a := p) (d := 14) (by omega) (by decide) (by decide)
  unfold fX6_columnOf fX6_rowOf
  constructor
  · simp (disch := omega) only [↓jM_e, li_0, li_1, li_2, li_3, li_4, li_5, li_6, li_7, li_8, li_9, li_10, li_13, li_14, li_15, li_16, li_31, li_35, li_47, li_48, li_49, li_50, li_57, li_99, li_100, li_126, li_139, li_140, li_149, li_150, li_280, li_284, li_285, li_290, li_434, li_1260, li_3472, li_9999, li_65536, nm, nm_w, sf_w, cp_w, ld_I, sa_I, nI_add, pk_mul, Nat.zero_add, nI_leI, nI_ltI, nI_eq, nI_neM, M_neI, nI_ltM, nI_nltM, M_ltI, M_leI, nI_nleM, bnd_some, if_pos, if_neg, dif_t, dif_f, e1]
  · simp (disch := omega) only [↓jM_e, li_0, li_1, li_2, li_3, li_4, li_5, li_6, li_7, li_8, li_9, li_10, li_13, li_14, li_15, li_16, li_31, li_35, li_47, li_48, li_49, li_50, li_57, li_99, li_100, li_126, li_139, li_140, li_149, li_150, li_280, li_284, li_285, li_290, li_434, li_1260, li_3472, li_9999, li_65536, nm, nm_w, sf_w, cp_w, ld_I, sa_I, nI_add, pk_mul, Nat.zero_add, nI_leI, nI_ltI, nI_eq, nI_neM, M_neI, nI_ltM, nI_nltM, M_ltI, M_leI, nI_nleM, bnd_some, if_pos, if_neg, dif_t, dif_f, e2]
theorem co_CM : fX6_columnOf jM = some jM ∧ fX6_rowOf jM = some jM := by
  unfold fX6_columnOf fX6_rowOf
  constructor <;> (simp only [↓jM_e, li_0, li_1, li_2, li_3, li_4, li_5, li_6, li_7, li_8, li_9, li_10, li_13, li_14, li_15, li_16, li_31, li_35, li_47, li_48, li_49, li_50, li_57, li_99, li_100, li_126, li_139, li_140, li_149, li_150, li_280, li_284, li_285, li_290, li_434, li_1260, li_3472, li_9999, li_65536]; simp only [if_true])
theorem co_M {p : Nat} (hp : p < 140) : fX7_columnOf (nI p) = some (nI (p % 14)) ∧ fX7_rowOf (nI p) = some (nI (p / 14)) := by
  have e1 := pk_rem (a := p) (d := 14) (by omega) (by decide) (by decide)
  have e2 := pk_div (a := p) (d := 14) (by omega) (by decide) (by decide)
  unfold fX7_columnOf fX7_rowOf
  constructor
  · simp (disch := omega) only [↓jM_e, li_0, li_1, li_2, li_3, li_4, li_5, li_6, li_7, li_8, li_9, li_10, li_13, li_14, li_15, li_16, li_31, li_35, li_47, li_48, li_49, li_50, li_57, li_99, li_100, li_126, li_139, li_140, li_149, li_150, li_280, li_284, li_285, li_290, li_434, li_1260, li_3472, li_9999, li_65536, nm, nm_w, sf_w, cp_w, ld_I, sa_I, nI_add, pk_mul, Nat.zero_add, nI_leI, nI_ltI, nI_eq, nI_neM, M_neI, nI_ltM, nI_nltM, M_ltI, M_leI, nI_nleM, bnd_some, if_pos, if_neg, dif_t, dif_f, e1]
  · simp (disch := omega) only [↓jM_e, li_0, li_1, li_2, li_3, li_4, li_5, li_6, li_7, li_8, li_9, li_10, li_13, li_14, li_15, li_16, li_31, li_35, li_47, li_48, li_49, li_50, li_57, li_99, li_100, li_126, li_139, li_140, li_149, li_150, li_280, li_284, li_285, li_290, li_434, li_1260, li_3472, li_9999, li_65536, nm, nm_w, sf_w, cp_w, ld_I, sa_I, nI_add, pk_mul, Nat.zero_add, nI_leI, nI_ltI, nI_eq, nI_neM, M_neI, nI_ltM, nI_nltM, M_ltI, M_leI, nI_nleM, bnd_some, if_pos, if_neg, dif_t, dif_f, e2]
/-- the slot of a member -/
def slI (S : aS) (m l : Nat) : Int32 :=
  if S 6 l = nI 1 then caI (nI (clI (S 3 l) % 14) - S 10 m) (nI (clI (S 3 l) / 14) + S 9 m)
  else if S 6 l = nI 2 then caI (nI (clI (S 3 l) % 14) - S 9 m) (nI (clI (S 3 l) / 14) - S 10 m)
  else if S 6 l = nI 3 then caI (nI (clI (S 3 l) % 14) + S 10 m) (nI (clI (S 3 l) / 14) - S 9 m)
  else caI (nI (clI (S 3 l) % 14) + S 9 m) (nI (clI (S 3 l) / 14) + S 10 m)
theorem sl_C (h : RelC b S v) (hI : iS B S) {m l : Nat} (hm : m < 16) (hl : l < 16) (hx : S 3 l ≠ jM) : fX0_slotOf cq b (nI m) (nI l) v = some (slI S m l) := by
  obtain ⟨c, hc, ec, -⟩ := (hI.2.2.1 l hl).resolve_left hx
  have e9 := rc9 h hm
  have e10 := rc10 h hm
  have e3 : v (b + 4) l = nI c := (rc3 h hl).trans ec
  have e6 := rc6 h hl
  have ecl : clI (S 3 l) = c := by rw [ec]; exact clI_n (by omega)
  unfold fX0_slotOf slI
  simp (disch := omega) only [↓jM_e, li_0, li_1, li_2, li_3, li_4, li_5, li_6, li_7, li_8, li_9, li_10, li_13, li_14, li_15, li_16, li_31, li_35, li_47, li_48, li_49, li_50, li_57, li_99, li_100, li_126, li_139, li_140, li_149, li_150, li_280, li_284, li_285, li_290, li_434, li_1260, li_3472, li_9999, li_65536, nm, nm_w, sf_w, cp_w, ld_I, sa_I, nI_add, pk_mul, Nat.zero_add, nI_leI, nI_ltI, nI_eq, nI_neM, M_neI, nI_ltM, nI_nltM, M_ltI, M_leI, nI_nleM, bnd_some, if_pos, if_neg, dif_t, dif_f, e9, e10, e3, e6, (co_C hc).1, (co_C hc).2, ca_C, ecl]
  by_cases h1 : S 6 l = nI 1
  · simp only [if_pos h1]
  · simp only [if_neg h1]
    by_cases h2 : S 6 l = nI 2
    · simp only [if_pos h2]
    · simp only [if_neg h2]
      by_cases h3 : S 6 l = nI 3
      · simp only [if_pos h3]
      · simp only [if_neg h3]
/-- the target of an agent -/
def tgS (S : aS) (a : Nat) : Int32 :=
  if S 8 a = jM then (if S 4 a = jM then jM else S 2 (clI (S 4 a)))
  else if slI S a (clI (S 8 a)) = jM then S 3 (clI (S 8 a)) else if coS S (clI (slI S a (clI (S 8 a)))) = 0 then S 3 (clI (S 8 a)) else slI S a (clI (S 8 a))
theorem slI_v {m l : Nat} : slI S m l = jM ∨ ∃ c, c < 140 ∧ slI S m l = nI c := by
  have hca : ∀ x y, caI x y = jM ∨ ∃ c, c < 140 ∧ caI x y = nI c := fun x y => (caI_v x y).imp id (fun ⟨i, j, hi, hj, _, _, e⟩ => ⟨_, by omega, e⟩)
  unfold slI
  split
  · exact hca _ _
  · split
    · exact hca _ _
    · split
      · exact hca _ _
      · exact hca _ _
theorem tgS_v (hI : iS B S) {a : Nat} (ha : a < 16) (hx : S 3 a ≠ jM) : tgS S a = jM ∨ isC S (tgS S a) := by
  obtain ⟨h4, -, -, h8⟩ := hI.2.2.2.1 a ha hx
  unfold tgS
  by_cases e8 : S 8 a = jM
  · rw [if_pos e8]
    by_cases e4 : S 4 a = jM
    · exact Or.inl (if_pos e4)
    · rw [if_neg e4]
      obtain ⟨g, hg, eg⟩ := h4.resolve_left e4
      rw [eg, clI_n (by omega)]
      exact hI.2.1 g hg
  · rw [if_neg e8]
    obtain ⟨l, hl, el, hlx⟩ := h8.resolve_left e8
    rw [el, clI_n (by omega)]
    have hpl := (hI.2.2.1 l hl).resolve_left hlx
    by_cases h1 : slI S a l = jM
    · rw [if_pos h1]; exact Or.inr hpl
    · simp only [if_neg h1]
      split
      · exact Or.inr hpl
      · rename_i h2
        obtain ⟨c, hc, ec⟩ := (slI_v (S := S) (m := a) (l := l)).resolve_left h1
        rw [ec, clI_n (by omega)] at h2
        exact Or.inr ⟨c, hc, ec, h2⟩
theorem tg_C (h : RelC b S v) (hI : iS B S) {a : Nat} (ha : a < 16) (hx : S 3 a ≠ jM) : fX0_targetOf cq b (nI a) v = some (tgS S a) := by
  obtain ⟨h4, -, -, h8⟩ := hI.2.2.2.1 a ha hx
  unfold fX0_targetOf tgS
  by_cases e8 : S 8 a = jM
  · rw [if_pos e8]
    have e8' : v (b + 9) a = jM := (rc8 h ha).trans e8
    by_cases e4 : S 4 a = jM
    · have e4' : v (b + 5) a = jM := (rc4 h ha).trans e4
      rw [if_pos e4]
      simp (disch := omega) only [↓jM_e, li_0, li_1, li_2, li_3, li_4, li_5, li_6, li_7, li_8, li_9, li_10, li_13, li_14, li_15, li_16, li_31, li_35, li_47, li_48, li_49, li_50, li_57, li_99, li_100, li_126, li_139, li_140, li_149, li_150, li_280, li_284, li_285, li_290, li_434, li_1260, li_3472, li_9999, li_65536, nm, nm_w, sf_w, cp_w, ld_I, sa_I, nI_add, pk_mul, Nat.zero_add, nI_leI, nI_ltI, nI_eq, nI_neM, M_neI, nI_ltM, nI_nltM, M_ltI, M_leI, nI_nleM, bnd_some, if_pos, if_neg, dif_t, dif_f, e8', ex_CM, e4']
    · rw [if_neg e4]
      obtain ⟨g, hg, eg⟩ := h4.resolve_left e4
      have e4' : v (b + 5) a = nI g := (rc4 h ha).trans eg
      rw [eg, clI_n (by omega)]
      simp (disch := omega) only [↓jM_e, li_0, li_1, li_2, li_3, li_4, li_5, li_6, li_7, li_8, li_9, li_10, li_13, li_14, li_15, li_16, li_31, li_35, li_47, li_48, li_49, li_50, li_57, li_99, li_100, li_126, li_139, li_140, li_149, li_150, li_280, li_284, li_285, li_290, li_434, li_1260, li_3472, li_9999, li_65536, nm, nm_w, sf_w, cp_w, ld_I, sa_I, nI_add, pk_mul, Nat.zero_add, nI_leI, nI_ltI, nI_eq, nI_neM, M_neI, nI_ltM, nI_nltM, M_ltI, M_leI, nI_nleM, bnd_some, if_pos, if_neg, dif_t, dif_f, e8', ex_CM, e4', rc2 h hg]
  · rw [if_neg e8]
    obtain ⟨l, hl, el, hlx⟩ := h8.resolve_left e8
    have e8' : v (b + 9) a = nI l := (rc8 h ha).trans el
    have e3' := rc3 h hl
    rw [el, clI_n (by omega)]
    rcases slI_v (S := S) (m := a) (l := l) with h1 | ⟨c, hc, ec⟩
    · simp only [if_pos h1]
      simp (disch := omega) only [↓jM_e, li_0, li_1, li_2, li_3, li_4, li_5, li_6, li_7, li_8, li_9, li_10, li_13, li_14, li_15, li_16, li_31, li_35, li_47, li_48, li_49, li_50, li_57, li_99, li_100, li_126, li_139, li_140, li_149, li_150, li_280, li_284, li_285, li_290, li_434, li_1260, li_3472, li_9999, li_65536, nm, nm_w, sf_w, cp_w, ld_I, sa_I, nI_add, pk_mul, Nat.zero_add, nI_leI, nI_ltI, nI_eq, nI_neM, M_neI, nI_ltM, nI_nltM, M_ltI, M_leI, nI_nleM, bnd_some, if_pos, if_neg, dif_t, dif_f, e8', ex_C h hl, exS_t, if_pos hlx, sl_C h hI ha hl hlx, h1, io_CM, e3']
    · rw [ec, clI_n (by omega), if_neg (by rw [nI_neM (by omega)]; exact id)]
      by_cases h2 : coS S c = 0
      · simp only [if_pos h2]
        simp (disch := omega) only [↓jM_e, li_0, li_1, li_2, li_3, li_4, li_5, li_6, li_7, li_8, li_9, li_10, li_13, li_14, li_15, li_16, li_31, li_35, li_47, li_48, li_49, li_50, li_57, li_99, li_100, li_126, li_139, li_140, li_149, li_150, li_280, li_284, li_285, li_290, li_434, li_1260, li_3472, li_9999, li_65536, nm, nm_w, sf_w, cp_w, ld_I, sa_I, nI_add, pk_mul, Nat.zero_add, nI_leI, nI_ltI, nI_eq, nI_neM, M_neI, nI_ltM, nI_nltM, M_ltI, M_leI, nI_nleM, bnd_some, if_pos, if_neg, dif_t, dif_f, e8', ex_C h hl, exS_t, if_pos hlx, sl_C h hI ha hl hlx, ec, io_C h hI hc, if_pos h2, e3']
      · simp only [if_neg h2]
        simp (disch := omega) only [↓jM_e, li_0, li_1, li_2, li_3, li_4, li_5, li_6, li_7, li_8, li_9, li_10, li_13, li_14, li_15, li_16, li_31, li_35, li_47, li_48, li_49, li_50, li_57, li_99, li_100, li_126, li_139, li_140, li_149, li_150, li_280, li_284, li_285, li_290, li_434, li_1260, li_3472, li_9999, li_65536, nm, nm_w, sf_w, cp_w, ld_I, sa_I, nI_add, pk_mul, Nat.zero_add, nI_leI, nI_ltI, nI_eq, nI_neM, M_neI, nI_ltM, nI_nltM, M_ltI, M_leI, nI_nleM, bnd_some, if_pos, if_neg, dif_t, dif_f, e8', ex_C h hl, exS_t, if_pos hlx, sl_C h hI ha hl hlx, ec, io_C h hI hc, if_neg h2, e3']
/-- settled -/
def seS (S : aS) (a : Nat) : Bool := decide (tgS S a = jM) || decide (tgS S a = S 3 a)
theorem se_C (h : RelC b S v) (hI : iS B S) {a : Nat} (ha : a < 16) (hx : S 3 a ≠ jM) : fX0_isSettled cq b (nI a) v = some (if seS S a = true then nI 1 else nI 0) := by
  unfold fX0_isSettled seS
  rw [tg_C h hI ha hx]
  simp (disch := omega) only [↓jM_e, li_0, li_1, li_2, li_3, li_4, li_5, li_6, li_7, li_8, li_9, li_10, li_13, li_14, li_15, li_16, li_31, li_35, li_47, li_48, li_49, li_50, li_57, li_99, li_100, li_126, li_139, li_140, li_149, li_150, li_280, li_284, li_285, li_290, li_434, li_1260, li_3472, li_9999, li_65536, nm, nm_w, sf_w, cp_w, ld_I, sa_I, nI_add, pk_mul, Nat.zero_add, nI_leI, nI_ltI, nI_eq, nI_neM, M_neI, nI_ltM, nI_nltM, M_ltI, M_leI, nI_nleM, bnd_some, if_pos, if_neg, dif_t, dif_f, rc3 h ha]
  by_cases h1 : tgS S a = jM
  · simp [h1]
  · by_cases h2 : tgS S a = S 3 a
    · have h3 : ¬ S 3 a = jM := h2 ▸ h1
      simp [h2, h3]
    · simp [h1, h2]
end
