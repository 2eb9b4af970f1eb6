/-! THE PURE PART: numbers, loops, cells. jM: none. nI n: a number -/
theorem li_0 : (0 : Int32) = nI 0 := id rfl
theorem li_1 : (1 : Int32) = nI 1 := id rfl
theorem li_2 : (2 : Int32) = nI 2 := id rfl
theorem li_3 : (3 : Int32) = nI 3 := id rfl
theorem li_4 : (4 : Int32) = nI 4 := id rfl
theorem li_5 : (5 : Int32) = nI 5 := id rfl
theorem li_6 : (6 : Int32) = nI 6 := id rfl
theorem li_7 : (7 : Int32) = nI 7 := id rfl
theorem li_8 : (8 : Int32) = nI 8 := id rfl
theorem li_9 : (9 : Int32) = nI 9 := id rfl
theorem li_10 : (10 : Int32) = nI 10 := id rfl
theorem li_13 : (13 : Int32) = nI 13 := id rfl
theorem li_14 : (14 : Int32) = nI 14 := id rfl
theorem li_15 : (15 : Int32) = nI 15 := id rfl
theorem li_16 : (16 : Int32) = nI 16 := id rfl
theorem li_31 : (31 : Int32) = nI 31 := id rfl
theorem li_35 : (35 : Int32) = nI 35 := id rfl
theorem li_47 : (47 : Int32) = nI 47 := id rfl
theorem li_48 : (48 : Int32) = nI 48 := id rfl
theorem li_49 : (49 : Int32) = nI 49 := id rfl
theorem li_50 : (50 : Int32) = nI 50 := id rfl
theorem li_57 : (57 : Int32) = nI 57 := id rfl
theorem li_99 : (99 : Int32) = nI 99 := id rfl
theorem li_100 : (100 : Int32) = nI 100 := id rfl
theorem li_126 : (126 : Int32) = nI 126 := id rfl
theorem li_139 : (139 : Int32) = nI 139 := id rfl
theorem li_140 : (140 : Int32) = nI 140 := id rfl
theorem li_149 : (149 : Int32) = nI 149 := id rfl
theorem li_150 : (150 : Int32) = nI 150 := id rfl
theorem li_280 : (280 : Int32) = nI 280 := id rfl
theorem li_284 : (284 : Int32) = nI 284 := id rfl
theorem li_285 : (285 : Int32) = nI 285 := id rfl
theorem li_290 : (290 : Int32) = nI 290 := id rfl
theorem li_434 : (434 : Int32) = nI 434 := id rfl
theorem li_1260 : (1260 : Int32) = nI 1260 := id rfl
theorem li_3472 : (3472 : Int32) = nI 3472 := id rfl
theorem li_9999 : (9999 : Int32) = nI 9999 := id rfl
theorem li_65536 : (65536 : Int32) = nI 65536 := id rfl
def jM : Int32 := -1
theorem jM_e : (-1 : Int32) = jM := id rfl
theorem nI_neM {a : Nat} (h : a < 2 ^ 31) : (nI a = jM) = False := by
  apply propext
  constructor
  · intro e
    have := congrArg Int32.toInt e
    rw [nI_toInt h] at this
    have h2 : jM.toInt = -1 := by decide
    omega
  · exact False.elim
theorem M_neI {a : Nat} (h : a < 2 ^ 31) : (jM = nI a) = False := by
  rw [← nI_neM h]
  exact propext ⟨Eq.symm, Eq.symm⟩
theorem M_toInt : jM.toInt = -1 := by decide
theorem nI_ltM {a : Nat} (h : a < 2 ^ 31) : (nI a < jM) = False := by
  apply propext
  rw [Int32.lt_iff_toInt_lt, nI_toInt h, M_toInt]
  constructor
  · intro h
    omega
  · exact False.elim
theorem nI_nltM {a : Nat} (h : a < 2 ^ 31) : (nI a ≤ jM) = False := by
  apply propext
  rw [Int32.le_iff_toInt_le, nI_toInt h, M_toInt]
  constructor
  · intro h
    omega
  · exact False.elim
theorem M_ltI {a : Nat} (h : a < 2 ^ 31) : (jM < nI a) = True := by
  apply propext
  rw [Int32.lt_iff_toInt_lt, nI_toInt h, M_toInt]
  exact ⟨fun _ => trivial, fun _ => by omega⟩
theorem M_leI {a : Nat} (h : a < 2 ^ 31) : (jM ≤ nI a) = True := by
  apply propext
  rw [Int32.le_iff_toInt_le, nI_toInt h, M_toInt]
  exact ⟨fun _ => trivial, fun _ => by omega⟩
theorem nI_nleM {a : Nat} (h : a < 2 ^ 31) : (nI a < nI 0) = False := by
  apply propext
  rw [Int32.lt_iff_toInt_lt, nI_toInt h, nI_toInt (by decide)]
  constructor
  · intro h
    omega
  · exact False.elim
theorem nm_w {α β : Type} (a : α) (f : α → β) : nm a f = f a := rfl
theorem sf_w {β : Type} (v : sV) (p k : Nat) (x : Int32) (f : sV → Option β) : sf v p k x f = f (s2 v p k x) := rfl
theorem cp_w {β : Type} (v : sV) (d s N : Nat) (f : sV → Option β) : cp v d s N f = f (cpv v d s N) := rfl
theorem bnd_some {α β : Type} (a : α) (f : α → Option β) : (some a).bind f = f a := rfl
theorem dif_t {α : Type} {a b : α} : (if True then a else b) = a := if_pos trivial
theorem dif_f {α : Type} {a b : α} : (if False then a else b) = b := if_neg id
theorem ld_I {β : Type} {v : sV} {p N i : Nat} {f : Int32 → Option β} (h : i < N) (hN : N < 2 ^ 31) : ld v p N (nI i) f = f (v p i) := by
  unfold ld
  rw [nI_toInt (by omega), nI_clamp (by omega), if_pos ⟨by omega, by omega⟩]
theorem sa_I {β : Type} {v : sV} {p N i : Nat} {x : Int32} {f : sV → Option β} (h : i < N) (hN : N < 2 ^ 31) : sa v p N (nI i) x f = f (s2 v p i x) := by
  unfold sa
  rw [nI_toInt (by omega), nI_clamp (by omega), if_pos ⟨by omega, by omega⟩]
theorem fx1_go {a1 ρ : Type} {F : (a1 → Option ρ) → a1 → Option ρ} (P : Nat → a1 → Prop) (Q : Option ρ → Prop) (N : Nat) (h : ∀ t x1, t ≤ N → P t x1 → ∀ k : a1 → Option ρ, (t < N → ∀ y1, P (t + 1) y1 → Q (k y1)) → Q (F k x1)) {K : Nat} {x1} (h0 : P 0 x1) (hK : N < K) : Q (fx1 F K x1) := by
  suffices H : ∀ K t x1, t ≤ N → P t x1 → N - t < K → Q (fx1 F K x1) from H K 0 _  (Nat.zero_le _) h0 (by omega)
  intro K
  induction K with
  | zero => intro t x1 ht hP hK; omega
  | succ K ih =>
    intro t x1 ht hP hK
    exact h t x1 ht hP (fx1 F K) (fun h1 y1 h2 => ih (t + 1) y1 h1 h2 (by omega))
theorem fx2_go {a1 a2 ρ : Type} {F : (a1 → a2 → Option ρ) → a1 → a2 → Option ρ} (P : Nat → a1 → a2 → Prop) (Q : Option ρ → Prop) (N : Nat) (h : ∀ t x1 x2, t ≤ N → P t x1 x2 → ∀ k : a1 → a2 → Option ρ, (t < N → ∀ y1 y2, P (t + 1) y1 y2 → Q (k y1 y2)) → Q (F k x1 x2)) {K : Nat} {x1 x2} (h0 : P 0 x1 x2) (hK : N < K) : Q (fx2 F K x1 x2) := by
  suffices H : ∀ K t x1 x2, t ≤ N → P t x1 x2 → N - t < K → Q (fx2 F K x1 x2) from H K 0 _ _ (Nat.zero_le _) h0 (by omega)
  intro K
  induction K with
  | zero => intro t x1 x2 ht hP hK; omega
  | succ K ih =>
    intro t x1 x2 ht hP hK
    exact h t x1 x2 ht hP (fx2 F K) (fun h1 y1 y2 h2 => ih (t + 1) y1 y2 h1 h2 (by omega))
theorem fx3_go {a1 a2 a3 ρ : Type} {F : (a1 → a2 → a3 → Option ρ) → a1 → a2 → a3 → Option ρ} (P : Nat → a1 → a2 → a3 → Prop) (Q : Option ρ → Prop) (N : Nat) (h : ∀ t x1 x2 x3, t ≤ N → P t x1 x2 x3 → ∀ k : a1 → a2 → a3 → Option ρ, (t < N → ∀ y1 y2 y3, P (t + 1) y1 y2 y3 → Q (k y1 y2 y3)) → Q (F k x1 x2 x3)) {K : Nat} {x1 x2 x3} (h0 : P 0 x1 x2 x3) (hK : N < K) : Q (fx3 F K x1 x2 x3) := by
  suffices H : ∀ K t x1 x2 x3, t ≤ N → P t x1 x2 x3 → N - t < K → Q (fx3 F K x1 x2 x3) from H K 0 _ _ _ (Nat.zero_le _) h0 (by omega)
  intro K
  induction K with
  | zero => intro t x1 x2 x3 ht hP hK; omega
  | succ K ih =>
    intro t x1 x2 x3 ht hP hK
    exact h t x1 x2 x3 ht hP (fx3 F K) (fun h1 y1 y2 y3 h2 => ih (t + 1) y1 y2 y3 h1 h2 (by omega))
theorem fx4_go {a1 a2 a3 a4 ρ : Type} {F : (a1 → a2 → a3 → a4 → Option ρ) → a1 → a2 → a3 → a4 → Option ρ} (P : Nat → a1 → a2 → a3 → a4 → Prop) (Q : Option ρ → Prop) (N : Nat) (h : ∀ t x1 x2 x3 x4, t ≤ N → P t x1 x2 x3 x4 → ∀ k : a1 → a2 → a3 → a4 → Option ρ, (t < N → ∀ y1 y2 y3 y4, P (t + 1) y1 y2 y3 y4 → Q (k y1 y2 y3 y4)) → Q (F k x1 x2 x3 x4)) {K : Nat} {x1 x2 x3 x4} (h0 : P 0 x1 x2 x3 x4) (hK : N < K) : Q (fx4 F K x1 x2 x3 x4) := by
  suffices H : ∀ K t x1 x2 x3 x4, t ≤ N → P t x1 x2 x3 x4 → N - t < K → Q (fx4 F K x1 x2 x3 x4) from H K 0 _ _ _ _ (Nat.zero_le _) h0 (by omega)
  intro K
  induction K with
  | zero => intro t x1 x2 x3 x4 ht hP hK; omega
  | succ K ih =>
    intro t x1 x2 x3 x4 ht hP hK
    exact h t x1 x2 x3 x4 ht hP (fx4 F K) (fun h1 y1 y2 y3 y4 h2 => ih (t + 1) y1 y2 y3 y4 h1 h2 (by omega))
theorem fx5_go {a1 a2 a3 a4 a5 ρ : Type} {F : (a1 → a2 → a3 → a4 → a5 → Option ρ) → a1 → a2 → a3 → a4 → a5 → Option ρ} (P : Nat → a1 → a2 → a3 → a4 → a5 → Prop) (Q : Option ρ → Prop) (N : Nat) (h : ∀ t x1 x2 x3 x4 x5, t ≤ N → P t x1 x2 x3 x4 x5 → ∀ k : a1 → a2 → a3 → a4 → a5 → Option ρ, (t < N → ∀ y1 y2 y3 y4 y5, P (t + 1) y1 y2 y3 y4 y5 → Q (k y1 y2 y3 y4 y5)) → Q (F k x1 x2 x3 x4 x5)) {K : Nat} {x1 x2 x3 x4 x5} (h0 : P 0 x1 x2 x3 x4 x5) (hK : N < K) : Q (fx5 F K x1 x2 x3 x4 x5) := by
  suffices H : ∀ K t x1 x2 x3 x4 x5, t ≤ N → P t x1 x2 x3 x4 x5 → N - t < K → Q (fx5 F K x1 x2 x3 x4 x5) from H K 0 _ _ _ _ _ (Nat.zero_le _) h0 (by omega)
  intro K
  induction K with
  | zero => intro t x1 x2 x3 x4 x5 ht hP hK; omega
  | succ K ih =>
    intro t x1 x2 x3 x4 x5 ht hP hK
    exact h t x1 x2 x3 x4 x5 ht hP (fx5 F K) (fun h1 y1 y2 y3 y4 y5 h2 => ih (t + 1) y1 y2 y3 y4 y5 h1 h2 (by omega))
theorem fx6_go {a1 a2 a3 a4 a5 a6 ρ : Type} {F : (a1 → a2 → a3 → a4 → a5 → a6 → Option ρ) → a1 → a2 → a3 → a4 → a5 → a6 → Option ρ} (P : Nat → a1 → a2 → a3 → a4 → a5 → a6 → Prop) (Q : Option ρ → Prop) (N : Nat) (h : ∀ t x1 x2 x3 x4 x5 x6, t ≤ N → P t x1 x2 x3 x4 x5 x6 → ∀ k : a1 → a2 → a3 → a4 → a5 → a6 → Option ρ, (t < N → ∀ y1 y2 y3 y4 y5 y6, P (t + 1) y1 y2 y3 y4 y5 y6 → Q (k y1 y2 y3 y4 y5 y6)) → Q (F k x1 x2 x3 x4 x5 x6)) {K : Nat} {x1 x2 x3 x4 x5 x6} (h0 : P 0 x1 x2 x3 x4 x5 x6) (hK : N < K) : Q (fx6 F K x1 x2 x3 x4 x5 x6) := by
  suffices H : ∀ K t x1 x2 x3 x4 x5 x6, t ≤ N → P t x1 x2 x3 x4 x5 x6 → N - t < K → Q (fx6 F K x1 x2 x3 x4 x5 x6) from H K 0 _ _ _ _ _ _ (Nat.zero_le _) h0 (by omega)
  intro K
  induction K with
  | zero => intro t x1 x2 x3 x4 x5 x6 ht hP hK; omega
  | succ K ih =>
    intro t x1 x2 x3 x4 x5 x6 ht hP hK
    exact h t x1 x2 x3 x4 x5 x6 ht hP (fx6 F K) (fun h1 y1 y2 y3 y4 y5 y6 h2 => ih (t + 1) y1 y2 y3 y4 y5 y6 h1 h2 (by omega))
theorem fx7_go {a1 a2 a3 a4 a5 a6 a7 ρ : Type} {F : (a1 → a2 → a3 → a4 → a5 → a6 → a7 → Option ρ) → a1 → a2 → a3 → a4 → a5 → a6 → a7 → Option ρ} (P : Nat → a1 → a2 → a3 → a4 → a5 → a6 → a7 → Prop) (Q : Option ρ → Prop) (N : Nat) (h : ∀ t x1 x2 x3 x4 x5 x6 x7, t ≤ N → P t x1 x2 x3 x4 x5 x6 x7 → ∀ k : a1 → a2 → a3 → a4 → a5 → a6 → a7 → Option ρ, (t < N → ∀ y1 y2 y3 y4 y5 y6 y7, P (t + 1) y1 y2 y3 y4 y5 y6 y7 → Q (k y1 y2 y3 y4 y5 y6 y7)) → Q (F k x1 x2 x3 x4 x5 x6 x7)) {K : Nat} {x1 x2 x3 x4 x5 x6 x7} (h0 : P 0 x1 x2 x3 x4 x5 x6 x7) (hK : N < K) : Q (fx7 F K x1 x2 x3 x4 x5 x6 x7) := by
  suffices H : ∀ K t x1 x2 x3 x4 x5 x6 x7, t ≤ N → P t x1 x2 x3 x4 x5 x6 x7 → N - t < K → Q (fx7 F K x1 x2 x3 x4 x5 x6 x7) from H K 0 _ _ _ _ _ _ _ (Nat.zero_le _) h0 (by omega)
  intro K
  induction K with
  | zero => intro t x1 x2 x3 x4 x5 x6 x7 ht hP hK; omega
  | succ K ih =>
    intro t x1 x2 x3 x4 x5 x6 x7 ht hP hK
    exact h t x1 x2 x3 x4 x5 x6 x7 ht hP (fx7 F K) (fun h1 y1 y2 y3 y4 y5 y6 y7 h2 => ih (t + 1) y1 y2 y3 y4 y5 y6 y7 h1 h2 (by omega))
theorem fx8_go {a1 a2 a3 a4 a5 a6 a7 a8 ρ : Type} {F : (a1 → a2 → a3 → a4 → a5 → a6 → a7 → a8 → Option ρ) → a1 → a2 → a3 → a4 → a5 → a6 → a7 → a8 → Option ρ} (P : Nat → a1 → a2 → a3 → a4 → a5 → a6 → a7 → a8 → Prop) (Q : Option ρ → Prop) (N : Nat) (h : ∀ t x1 x2 x3 x4 x5 x6 x7 x8, t ≤ N → P t x1 x2 x3 x4 x5 x6 x7 x8 → ∀ k : a1 → a2 → a3 → a4 → a5 → a6 → a7 → a8 → Option ρ, (t < N → ∀ y1 y2 y3 y4 y5 y6 y7 y8, P (t + 1) y1 y2 y3 y4 y5 y6 y7 y8 → Q (k y1 y2 y3 y4 y5 y6 y7 y8)) → Q (F k x1 x2 x3 x4 x5 x6 x7 x8)) {K : Nat} {x1 x2 x3 x4 x5 x6 x7 x8} (h0 : P 0 x1 x2 x3 x4 x5 x6 x7 x8) (hK : N < K) : Q (fx8 F K x1 x2 x3 x4 x5 x6 x7 x8) := by
  suffices H : ∀ K t x1 x2 x3 x4 x5 x6 x7 x8, t ≤ N → P t x1 x2 x3 x4 x5 x6 x7 x8 → N - t < K → Q (fx8 F K x1 x2 x3 x4 x5 x6 x7 x8) from H K 0 _ _ _ _ _ _ _ _ (Nat.zero_le _) h0 (by omega)
  intro K
  induction K with
  | zero => intro t x1 x2 x3 x4 x5 x6 x7 x8 ht hP hK; omega
  | succ K ih =>
    intro t x1 x2 x3 x4 x5 x6 x7 x8 ht hP hK
    exact h t x1 x2 x3 x4 x5 x6 x7 x8 ht hP (fx8 F K) (fun h1 y1 y2 y3 y4 y5 y6 y7 y8 h2 => ih (t + 1) y1 y2 y3 y4 y5 y6 y7 y8 h1 h2 (by omega))
theorem fx9_go {a1 a2 a3 a4 a5 a6 a7 a8 a9 ρ : Type} {F : (a1 → a2 → a3 → a4 → a5 → a6 → a7 → a8 → a9 → Option ρ) → a1 → a2 → a3 → a4 → a5 → a6 → a7 → a8 → a9 → Option ρ} (P : Nat → a1 → a2 → a3 → a4 → a5 → a6 → a7 → a8 → a9 → Prop) (Q : Option ρ → Prop) (N : Nat) (h : ∀ t x1 x2 x3 x4 x5 x6 x7 x8 x9, t ≤ N → P t x1 x2 x3 x4 x5 x6 x7 x8 x9 → ∀ k : a1 → a2 → a3 → a4 → a5 → a6 → a7 → a8 → a9 → Option ρ, (t < N → ∀ y1 y2 y3 y4 y5 y6 y7 y8 y9, P (t + 1) y1 y2 y3 y4 y5 y6 y7 y8 y9 → Q (k y1 y2 y3 y4 y5 y6 y7 y8 y9)) → Q (F k x1 x2 x3 x4 x5 x6 x7 x8 x9)) {K : Nat} {x1 x2 x3 x4 x5 x6 x7 x8 x9} (h0 : P 0 x1 x2 x3 x4 x5 x6 x7 x8 x9) (hK : N < K) : Q (fx9 F K x1 x2 x3 x4 x5 x6 x7 x8 x9) := by
  suffices H : ∀ K t x1 x2 x3 x4 x5 x6 x7 x8 x9, t ≤ N → P t x1 x2 x3 x4 x5 x6 x7 x8 x9 → N - t < K → Q (fx9 F K x1 x2 x3 x4 x5 x6 x7 x8 x9) from H K 0 _ _ _ _ _ _ _ _ _ (Nat.zero_le _) h0 (by omega)
  intro K
  induction K with
  | zero => intro t x1 x2 x3 x4 x5 x6 x7 x8 x9 ht hP hK; omega
  | succ K ih =>
    intro t x1 x2 x3 x4 x5 x6 x7 x8 x9 ht hP hK
    exact h t x1 x2 x3 x4 x5 x6 x7 x8 x9 ht hP (fx9 F K) (fun h1 y1 y2 y3 y4 y5 y6 y7 y8 y9 h2 => ih (t + 1) y1 y2 y3 y4 y5 y6 y7 y8 y9 h1 h2 (by omega))
/-- an Int32 in a range is a number -/
theorem in_nI {x : Int32} {N : Nat} (h0 : ¬ x < 0) (h : ¬ nI N ≤ x) (hN : N < 2 ^ 31) : ∃ j, j < N ∧ x = nI j := by
  rcases pk_ix x hN with h1 | h1 | h1
  · exact absurd h1 h0
  · exact absurd h1 h
  · exact h1
/-- counts, sets, sums, the first one -/
def cnI (P : Nat → Bool) : Nat → Nat
  | 0 => 0
  | t + 1 => cnI P t + (if P t = true then 1 else 0)
def mkI (P : Nat → Bool) : Nat → Nat
  | 0 => 0
  | t + 1 => mkI P t + (if P t = true then 2 ^ t else 0)
def smI (P : Nat → Bool) (f : Nat → Int32) : Nat → Int32
  | 0 => nI 0
  | t + 1 => smI P f t + (if P t = true then f t else nI 0)
def ffI (P : Nat → Bool) : Nat → Nat → Option Nat
  | 0, _ => none
  | m + 1, i => if P i = true then some i else ffI P m (i + 1)
def oI : Option Nat → Int32
  | none => jM
  | some a => nI a
theorem cnI_le {P : Nat → Bool} {N : Nat} : cnI P N ≤ N := by
  induction N with
  | zero => exact Nat.le_refl _
  | succ N ih =>
    show cnI P N + (if P N = true then 1 else 0) ≤ N + 1
    split <;> omega
theorem cnI_c {P P' : Nat → Bool} {N : Nat} (h : ∀ t, t < N → P t = P' t) : cnI P N = cnI P' N := by
  induction N with
  | zero => rfl
  | succ N ih =>
    show cnI P N + (if P N = true then 1 else 0) = cnI P' N + (if P' N = true then 1 else 0)
    rw [ih (fun t ht => h t (by omega)), h N (by omega)]
theorem mkI_c {P P' : Nat → Bool} {N : Nat} (h : ∀ t, t < N → P t = P' t) : mkI P N = mkI P' N := by
  induction N with
  | zero => rfl
  | succ N ih =>
    show mkI P N + (if P N = true then 2 ^ N else 0) = mkI P' N + (if P' N = true then 2 ^ N else 0)
    rw [ih (fun t ht => h t (by omega)), h N (by omega)]
theorem smI_c {P P' : Nat → Bool} {f f' : Nat → Int32} {N : Nat} (h : ∀ t, t < N → P t = P' t) (hf : ∀ t, t < N → P t = true → f t = f' t) : smI P f N = smI P' f' N := by
  induction N with
  | zero => rfl
  | succ N ih =>
    show smI P f N + (if P N = true then f N else nI 0) = smI P' f' N + (if P' N = true then f' N else nI 0)
    rw [ih (fun t ht => h t (by omega)) (fun t ht => hf t (by omega)), ← h N (by omega)]
    by_cases hp : P N = true
    · rw [if_pos hp, if_pos hp, hf N (by omega) hp]
    · rw [if_neg hp, if_neg hp]
theorem ffI_c {P P' : Nat → Bool} {m i : Nat} (h : ∀ t, i ≤ t → t < i + m → P t = P' t) : ffI P m i = ffI P' m i := by
  induction m generalizing i with
  | zero => rfl
  | succ m ih =>
    show (if P i = true then some i else ffI P m (i + 1)) = (if P' i = true then some i else ffI P' m (i + 1))
    rw [ih (fun t h1 h2 => h t (by omega) (by omega)), h i (by omega) (by omega)]
theorem ffI_s {P : Nat → Bool} {m i a : Nat} (h : ffI P m i = some a) : P a = true ∧ i ≤ a ∧ a < i + m ∧ ∀ b, i ≤ b → b < a → P b = false := by
  induction m generalizing i with
  | zero => cases h
  | succ m ih =>
    have h : (if P i = true then some i else ffI P m (i + 1)) = some a := h
    by_cases hp : P i = true
    · rw [if_pos hp] at h
      cases h
      exact ⟨hp, Nat.le_refl _, by omega, fun b h1 h2 => by omega⟩
    · rw [if_neg hp] at h
      obtain ⟨h1, h2, h3, h4⟩ := ih h
      refine ⟨h1, by omega, by omega, fun b hb1 hb2 => ?_⟩
      by_cases hb : b = i
      · rw [hb]; exact Bool.eq_false_iff.mpr hp
      · exact h4 b (by omega) hb2
theorem ffI_n {P : Nat → Bool} {m i : Nat} (h : ffI P m i = none) : ∀ b, i ≤ b → b < i + m → P b = false := by
  induction m generalizing i with
  | zero => intro b h1 h2; omega
  | succ m ih =>
    have h : (if P i = true then some i else ffI P m (i + 1)) = none := h
    by_cases hp : P i = true
    · rw [if_pos hp] at h
      cases h
    · rw [if_neg hp] at h
      intro b hb1 hb2
      by_cases hb : b = i
      · rw [hb]; exact Bool.eq_false_iff.mpr hp
      · exact ih h b (by omega) (by omega)
theorem mkI_lt {P : Nat → Bool} {N : Nat} : mkI P N < 2 ^ N := by
  induction N with
  | zero => exact Nat.one_pos
  | succ N ih =>
    show mkI P N + (if P N = true then 2 ^ N else 0) < 2 ^ (N + 1)
    rw [Nat.pow_succ]
    split <;> omega
theorem mkI_bit {P : Nat → Bool} {N a : Nat} (h : a < N) : (mkI P N).testBit a = P a := by
  induction N with
  | zero => omega
  | succ N ih =>
    show (mkI P N + (if P N = true then 2 ^ N else 0)).testBit a = P a
    by_cases hp : P N = true
    · rw [if_pos hp, Nat.add_comm]
      by_cases ha : a = N
      · subst ha
        rw [Nat.testBit_two_pow_add_eq, Nat.testBit_lt_two_pow mkI_lt, hp]
        rfl
      · rw [Nat.testBit_two_pow_add_gt (by omega)]
        exact ih (by omega)
    · rw [if_neg hp, Nat.add_zero]
      by_cases ha : a = N
      · subst ha
        rw [Nat.testBit_lt_two_pow mkI_lt]
        exact (Bool.eq_false_iff.mpr hp).symm
      · exact ih (by omega)
theorem mkI_or {P : Nat → Bool} {t : Nat} (ht : t < 31) (hp : P t = true) : nI (mkI P t) ||| (nI 1 <<< (nI t &&& nI 31)) = nI (mkI P (t + 1)) := by
  have e1 : nI t &&& nI 31 = nI t := by
    rw [pk_andN (n := t) (by omega) (m := nI 31) 5 (by decide), Nat.mod_eq_of_lt (by omega)]
  have h0 := @mkI_lt P t
  have e2 : 2 ^ t ≤ 2 ^ 30 := Nat.pow_le_pow_right (by decide) (by omega)
  have e4 : ((nI t).toBitVec.smod 32).toNat = t := by
    have : ∀ t : Fin 31, ((nI t.val).toBitVec.smod 32).toNat = t.val := by decide +kernel
    exact this ⟨t, ht⟩
  have e3 : nI 1 <<< nI t = nI (2 ^ t) := by
    rw [pk_shlN (n := 1) (nI t) t e4 (by omega), Nat.one_mul]
  rw [e1, e3]
  show _ = nI (mkI P t + (if P t = true then 2 ^ t else 0))
  rw [if_pos hp]
  have e5 : 2 ^ t + mkI P t = 2 ^ t ||| mkI P t := by
    have := Nat.two_pow_add_eq_or_of_lt h0 1
    rwa [Nat.mul_one] at this
  apply Int32.toBitVec_inj.mp
  rw [Int32.toBitVec_or]
  apply BitVec.eq_of_toNat_eq
  rw [BitVec.toNat_or, pk_tn (by omega), pk_tn (by omega), pk_tn (by omega), Nat.add_comm, e5, Nat.or_comm]
theorem sh_1 {a : Nat} (ha : a < 31) : nI 1 <<< (nI a &&& nI 31) = nI (2 ^ a) := by
  have e1 : nI a &&& nI 31 = nI a := by
    rw [pk_andN (n := a) (by omega) (m := nI 31) 5 (by decide), Nat.mod_eq_of_lt (by omega)]
  have e2 : 2 ^ a ≤ 2 ^ 30 := Nat.pow_le_pow_right (by decide) (by omega)
  have e4 : ((nI a).toBitVec.smod 32).toNat = a := by
    have : ∀ t : Fin 31, ((nI t.val).toBitVec.smod 32).toNat = t.val := by decide +kernel
    exact this ⟨a, ha⟩
  rw [e1, pk_shlN (n := 1) (nI a) a e4 (by omega), Nat.one_mul]
theorem bit_0 {m a : Nat} (hm : m < 2 ^ 31) (ha : a < 31) : (nI m &&& (nI 1 <<< (nI a &&& nI 31)) = nI 0) = (m.testBit a = false) := by
  have e2 : 2 ^ a ≤ 2 ^ 30 := Nat.pow_le_pow_right (by decide) (by omega)
  rw [sh_1 ha]
  have e3 : (nI m &&& nI (2 ^ a)).toBitVec.toNat = m &&& 2 ^ a := by
    rw [Int32.toBitVec_and, BitVec.toNat_and, pk_tn (by omega), pk_tn (by omega)]
  apply propext
  rw [← Int32.toBitVec_inj, ← BitVec.toNat_inj, e3, pk_tn (by decide)]
  constructor
  · intro h
    have h2 := congrArg (fun x => x.testBit a) h
    simp only [Nat.testBit_and, Nat.testBit_two_pow_self, Bool.and_true, Nat.zero_testBit] at h2
    exact h2
  · intro h
    apply Nat.eq_of_testBit_eq
    intro j
    rw [Nat.testBit_and, Nat.zero_testBit]
    by_cases hj : j = a
    · rw [hj, h]; rfl
    · rw [Nat.testBit_two_pow_of_ne (fun e => hj e.symm), Bool.and_false]
/-- the neighbor of a cell -/
def nbO (c d : Nat) : Option Nat := if d = 0 then (if 14 ≤ c then some (c - 14) else none) else if d = 1 then (if c % 14 < 13 then some (c + 1) else none) else if d = 2 then (if c < 126 then some (c + 14) else none) else (if 0 < c % 14 then some (c - 1) else none)
theorem nb_C {c d : Nat} (hc : c < 140) (hd : d < 4) : fX6_neighborOf (nI c) (nI d) = some (oI (nbO c d)) := by
  have : ∀ (c : Fin 140) (d : Fin 4), fX6_neighborOf (nI c.val) (nI d.val) = some (oI (nbO c.val d.val)) := by decide +kernel
  exact this ⟨c, hc⟩ ⟨d, hd⟩
theorem nb_M {c d : Nat} (hc : c < 140) (hd : d < 4) : fX7_neighbor (nI c) (nI d) = some (oI (nbO c d)) := by
  have : ∀ (c : Fin 140) (d : Fin 4), fX7_neighbor (nI c.val) (nI d.val) = some (oI (nbO c.val d.val)) := by decide +kernel
  exact this ⟨c, hc⟩ ⟨d, hd⟩
theorem nb_lt {c d q : Nat} (hc : c < 140) (h : nbO c d = some q) : q < 140 := by
  unfold nbO at h
  split at h
  · split at h
    · cases h; omega
    · cases h
  · split at h
    · split at h
      · cases h; omega
      · cases h
    · split at h
      · split at h
        · cases h; omega
        · cases h
      · split at h
        · cases h; omega
        · cases h
theorem nb_back {c d q : Nat} (hc : c < 140) (hd : d < 4) (h : nbO c d = some q) : ∃ e, e < 4 ∧ nbO q e = some c := by
  have : ∀ (c : Fin 140) (d : Fin 4), (nbO c.val d.val).all (fun q => decide (nbO q ((d.val + 2) % 4) = some c.val)) = true := by decide +kernel
  have h2 := this ⟨c, hc⟩ ⟨d, hd⟩
  rw [show nbO (⟨c, hc⟩ : Fin 140).val (⟨d, hd⟩ : Fin 4).val = some q from h] at h2
  exact ⟨(d + 2) % 4, by omega, of_decide_eq_true h2⟩
theorem nb_ne {c d q : Nat} (h : nbO c d = some q) : q ≠ c := by
  unfold nbO at h
  split at h
  · split at h
    · cases h; omega
    · cases h
  · split at h
    · split at h
      · cases h; omega
      · cases h
    · split at h
      · split at h
        · cases h; omega
        · cases h
      · split at h
        · cases h; omega
        · cases h
/-- distances from a target: the row of costs, the target -/
def isD (co : Nat → Nat) (t : Nat) (d : Nat → Option Nat) : Prop :=
  d t = some 0 ∧ (∀ c, c < 140 → ∀ k, d c = some k → co c ≠ 0 ∧ k ≤ 1251) ∧
  (∀ c, c < 140 → ∀ k e q, e < 4 → d c = some k → nbO c e = some q → co q ≠ 0 → ∃ k', d q = some k' ∧ k' ≤ k + co c) ∧
  (∀ c, c < 140 → ∀ k, d c = some k → c = t ∨ ∃ e q k', e < 4 ∧ nbO c e = some q ∧ d q = some k' ∧ k = k' + co q)
theorem isD_le {co : Nat → Nat} {t : Nat} {d d' : Nat → Option Nat} (h : isD co t d) (h' : isD co t d') : ∀ k c, c < 140 → d c = some k → ∃ k', d' c = some k' ∧ k' ≤ k := by
  intro k
  induction k using Nat.strongRecOn with
  | ind k ih =>
    intro c hc hk
    rcases h.2.2.2 c hc k hk with h1 | ⟨e, q, k', he, hq, hk', hs⟩
    · subst h1
      exact ⟨0, h'.1, Nat.zero_le _⟩
    · have hq2 := nb_lt hc hq
      have hp := (h.2.1 q hq2 k' hk').1
      obtain ⟨j, hj, hj2⟩ := ih k' (by omega) q hq2 hk'
      obtain ⟨e', he', hb⟩ := nb_back hc he hq
      obtain ⟨j', hj', hj2'⟩ := h'.2.2.1 q hq2 j e' c he' hj hb (h.2.1 c hc k hk).1
      exact ⟨j', hj', by omega⟩
theorem isD_eq {co : Nat → Nat} {t : Nat} {d d' : Nat → Option Nat} (h : isD co t d) (h' : isD co t d') {c : Nat} (hc : c < 140) : d c = d' c := by
  cases hk : d c with
  | none =>
    cases hk' : d' c with
    | none => rfl
    | some k' =>
      obtain ⟨j, hj, -⟩ := isD_le h' h k' c hc hk'
      rw [hk] at hj
      cases hj
  | some k =>
    obtain ⟨j, hj, h1⟩ := isD_le h h' k c hc hk
    obtain ⟨j', hj', h2⟩ := isD_le h' h j c hc hj
    rw [hk] at hj'
    cases hj'
    rw [hj, show k = j by omega]
theorem isD_c {co co' : Nat → Nat} {t : Nat} {d : Nat → Option Nat} (ht : t < 140) (hc : ∀ c, c < 140 → co c = co' c) (h : isD co t d) : isD co' t d := by
  refine ⟨h.1, fun c hc' k hk => ?_, fun c hc' k e q he hk hq h0 => ?_, fun c hc' k hk => ?_⟩
  · rw [← hc c hc']; exact h.2.1 c hc' k hk
  · have hq2 := nb_lt hc' hq
    rw [← hc q hq2] at h0
    rw [← hc c hc']
    exact h.2.2.1 c hc' k e q he hk hq h0
  · rcases h.2.2.2 c hc' k hk with h1 | ⟨e, q, k', he, hq, hk', hs⟩
    · exact Or.inl h1
    · exact Or.inr ⟨e, q, k', he, hq, hk', by rw [← hc q (nb_lt hc' hq)]; exact hs⟩
noncomputable def dst (co : Nat → Nat) (t : Nat) : Nat → Option Nat := @dite _ (∃ d, isD co t d) (Classical.propDecidable _) (fun h => Classical.choose h) (fun _ _ => none)
theorem dst_is {co : Nat → Nat} {t : Nat} {d : Nat → Option Nat} (h : isD co t d) : isD co t (dst co t) := by
  have hx : ∃ d, isD co t d := ⟨d, h⟩
  have : dst co t = Classical.choose hx := by
    unfold dst
    exact dif_pos hx
  rw [this]
  exact Classical.choose_spec hx
theorem dst_eq {co : Nat → Nat} {t : Nat} {d : Nat → Option Nat} (h : isD co t d) {c : Nat} (hc : c < 140) : dst co t c = d c := isD_eq (dst_is h) h hc
/-- a list of different numbers below n is not longer than n -/
theorem nod_len {n : Nat} {l : List Nat} (h : l.Nodup) (hl : ∀ x ∈ l, x < n) : l.length ≤ n := by
  induction n generalizing l with
  | zero =>
    cases l with
    | nil => exact Nat.le_refl _
    | cons a l => exact absurd (hl a List.mem_cons_self) (Nat.not_lt_zero a)
  | succ n ih =>
    by_cases hn : n ∈ l
    · have h1 := List.length_erase_of_mem hn
      have h2 : (l.erase n).length ≤ n := ih (h.erase n) (fun x hx => by
        have h3 := (List.Nodup.mem_erase_iff h).mp hx
        have h4 := hl x h3.2
        have h5 := h3.1
        omega)
      omega
    · exact Nat.le_succ_of_le (ih h (fun x hx => by
        have h4 := hl x hx
        have h5 : x ≠ n := fun e => hn (e ▸ hx)
        omega))
