/-! A TICK -/
theorem fx3_gR {a1 a2 a3 ρ : Type} {F : (a1 → a2 → a3 → Option ρ) → a1 → a2 → a3 → Option ρ} (P : Nat → a1 → a2 → a3 → Prop) (R : a1 → a2 → a3 → Option ρ → Prop) (N : Nat) (h : ∀ t x1 x2 x3, t ≤ N → P t x1 x2 x3 → ∀ k : a1 → a2 → a3 → Option ρ, (t < N → ∀ y1 y2 y3, P (t + 1) y1 y2 y3 → R y1 y2 y3 (k y1 y2 y3)) → R x1 x2 x3 (F k x1 x2 x3)) {K : Nat} {x1 x2 x3} (h0 : P 0 x1 x2 x3) (hK : N < K) : R x1 x2 x3 (fx3 F K x1 x2 x3) := by
  suffices H : ∀ K t x1 x2 x3, t ≤ N → P t x1 x2 x3 → N - t < K → R x1 x2 x3 (fx3 F K x1 x2 x3) from H K 0 _ _ _ (Nat.zero_le _) h0 (by omega)
  intro K
  induction K with
  | zero => intro t x1 x2 x3 ht hP hK; omega
  | succ K ih =>
    intro t x1 x2 x3 ht hP hK
    exact h t x1 x2 x3 ht hP (fx3 F K) (fun h1 y1 y2 y3 h2 => ih (t + 1) y1 y2 y3 h1 h2 (by omega))
theorem fx4_gR {a1 a2 a3 a4 ρ : Type} {F : (a1 → a2 → a3 → a4 → Option ρ) → a1 → a2 → a3 → a4 → Option ρ} (P : Nat → a1 → a2 → a3 → a4 → Prop) (R : a1 → a2 → a3 → a4 → Option ρ → Prop) (N : Nat) (h : ∀ t x1 x2 x3 x4, t ≤ N → P t x1 x2 x3 x4 → ∀ k : a1 → a2 → a3 → a4 → Option ρ, (t < N → ∀ y1 y2 y3 y4, P (t + 1) y1 y2 y3 y4 → R y1 y2 y3 y4 (k y1 y2 y3 y4)) → R x1 x2 x3 x4 (F k x1 x2 x3 x4)) {K : Nat} {x1 x2 x3 x4} (h0 : P 0 x1 x2 x3 x4) (hK : N < K) : R x1 x2 x3 x4 (fx4 F K x1 x2 x3 x4) := by
  suffices H : ∀ K t x1 x2 x3 x4, t ≤ N → P t x1 x2 x3 x4 → N - t < K → R x1 x2 x3 x4 (fx4 F K x1 x2 x3 x4) from H K 0 _ _ _ _ (Nat.zero_le _) h0 (by omega)
  intro K
  induction K with
  | zero => intro t x1 x2 x3 x4 ht hP hK; omega
  | succ K ih =>
    intro t x1 x2 x3 x4 ht hP hK
    exact h t x1 x2 x3 x4 ht hP (fx4 F K) (fun h1 y1 y2 y3 y4 h2 => ih (t + 1) y1 y2 y3 y4 h1 h2 (by omega))
theorem fx5_gR {a1 a2 a3 a4 a5 ρ : Type} {F : (a1 → a2 → a3 → a4 → a5 → Option ρ) → a1 → a2 → a3 → a4 → a5 → Option ρ} (P : Nat → a1 → a2 → a3 → a4 → a5 → Prop) (R : a1 → a2 → a3 → a4 → a5 → Option ρ → Prop) (N : Nat) (h : ∀ t x1 x2 x3 x4 x5, t ≤ N → P t x1 x2 x3 x4 x5 → ∀ k : a1 → a2 → a3 → a4 → a5 → Option ρ, (t < N → ∀ y1 y2 y3 y4 y5, P (t + 1) y1 y2 y3 y4 y5 → R y1 y2 y3 y4 y5 (k y1 y2 y3 y4 y5)) → R x1 x2 x3 x4 x5 (F k x1 x2 x3 x4 x5)) {K : Nat} {x1 x2 x3 x4 x5} (h0 : P 0 x1 x2 x3 x4 x5) (hK : N < K) : R x1 x2 x3 x4 x5 (fx5 F K x1 x2 x3 x4 x5) := by
  suffices H : ∀ K t x1 x2 x3 x4 x5, t ≤ N → P t x1 x2 x3 x4 x5 → N - t < K → R x1 x2 x3 x4 x5 (fx5 F K x1 x2 x3 x4 x5) from H K 0 _ _ _ _ _ (Nat.zero_le _) h0 (by omega)
  intro K
  induction K with
  | zero => intro t x1 x2 x3 x4 x5 ht hP hK; omega
  | succ K ih =>
    intro t x1 x2 x3 x4 x5 ht hP hK
    exact h t x1 x2 x3 x4 x5 ht hP (fx5 F K) (fun h1 y1 y2 y3 y4 y5 h2 => ih (t + 1) y1 y2 y3 y4 y5 h1 h2 (by omega))
theorem fx6_gR {a1 a2 a3 a4 a5 a6 ρ : Type} {F : (a1 → a2 → a3 → a4 → a5 → a6 → Option ρ) → a1 → a2 → a3 → a4 → a5 → a6 → Option ρ} (P : Nat → a1 → a2 → a3 → a4 → a5 → a6 → Prop) (R : a1 → a2 → a3 → a4 → a5 → a6 → Option ρ → Prop) (N : Nat) (h : ∀ t x1 x2 x3 x4 x5 x6, t ≤ N → P t x1 x2 x3 x4 x5 x6 → ∀ k : a1 → a2 → a3 → a4 → a5 → a6 → Option ρ, (t < N → ∀ y1 y2 y3 y4 y5 y6, P (t + 1) y1 y2 y3 y4 y5 y6 → R y1 y2 y3 y4 y5 y6 (k y1 y2 y3 y4 y5 y6)) → R x1 x2 x3 x4 x5 x6 (F k x1 x2 x3 x4 x5 x6)) {K : Nat} {x1 x2 x3 x4 x5 x6} (h0 : P 0 x1 x2 x3 x4 x5 x6) (hK : N < K) : R x1 x2 x3 x4 x5 x6 (fx6 F K x1 x2 x3 x4 x5 x6) := by
  suffices H : ∀ K t x1 x2 x3 x4 x5 x6, t ≤ N → P t x1 x2 x3 x4 x5 x6 → N - t < K → R x1 x2 x3 x4 x5 x6 (fx6 F K x1 x2 x3 x4 x5 x6) from H K 0 _ _ _ _ _ _ (Nat.zero_le _) h0 (by omega)
  intro K
  induction K with
  | zero => intro t x1 x2 x3 x4 x5 x6 ht hP hK; omega
  | succ K ih =>
    intro t x1 x2 x3 x4 x5 x6 ht hP hK
    exact h t x1 x2 x3 x4 x5 x6 ht hP (fx6 F K) (fun h1 y1 y2 y3 y4 y5 y6 h2 => ih (t + 1) y1 y2 y3 y4 y5 y6 h1 h2 (by omega))
theorem fx7_gR {a1 a2 a3 a4 a5 a6 a7 ρ : Type} {F : (a1 → a2 → a3 → a4 → a5 → a6 → a7 → Option ρ) → a1 → a2 → a3 → a4 → a5 → a6 → a7 → Option ρ} (P : Nat → a1 → a2 → a3 → a4 → a5 → a6 → a7 → Prop) (R : a1 → a2 → a3 → a4 → a5 → a6 → a7 → Option ρ → Prop) (N : Nat) (h : ∀ t x1 x2 x3 x4 x5 x6 x7, t ≤ N → P t x1 x2 x3 x4 x5 x6 x7 → ∀ k : a1 → a2 → a3 → a4 → a5 → a6 → a7 → Option ρ, (t < N → ∀ y1 y2 y3 y4 y5 y6 y7, P (t + 1) y1 y2 y3 y4 y5 y6 y7 → R y1 y2 y3 y4 y5 y6 y7 (k y1 y2 y3 y4 y5 y6 y7)) → R x1 x2 x3 x4 x5 x6 x7 (F k x1 x2 x3 x4 x5 x6 x7)) {K : Nat} {x1 x2 x3 x4 x5 x6 x7} (h0 : P 0 x1 x2 x3 x4 x5 x6 x7) (hK : N < K) : R x1 x2 x3 x4 x5 x6 x7 (fx7 F K x1 x2 x3 x4 x5 x6 x7) := by
  suffices H : ∀ K t x1 x2 x3 x4 x5 x6 x7, t ≤ N → P t x1 x2 x3 x4 x5 x6 x7 → N - t < K → R x1 x2 x3 x4 x5 x6 x7 (fx7 F K x1 x2 x3 x4 x5 x6 x7) from H K 0 _ _ _ _ _ _ _ (Nat.zero_le _) h0 (by omega)
  intro K
  induction K with
  | zero => intro t x1 x2 x3 x4 x5 x6 x7 ht hP hK; omega
  | succ K ih =>
    intro t x1 x2 x3 x4 x5 x6 x7 ht hP hK
    exact h t x1 x2 x3 x4 x5 x6 x7 ht hP (fx7 F K) (fun h1 y1 y2 y3 y4 y5 y6 y7 h2 => ih (t + 1) y1 y2 y3 y4 y5 y6 y7 h1 h2 (by omega))
def prS (S : aS) (a : Nat) : Nat := clI (S 5 a)
def ordA (S : aS) (p : Nat) : Nat → Nat → List Nat
  | 0, _ => []
  | m + 1, a => if exS S a = true ∧ prS S a = p then a :: ordA S p m (a + 1) else ordA S p m (a + 1)
def ordP (S : aS) : Nat → List Nat
  | 0 => []
  | p + 1 => ordA S p 16 0 ++ ordP S p
noncomputable def foT : List Nat → aS → (Nat → Bool) → aS × (Nat → Bool)
  | [], S, pu => (S, pu)
  | a :: l, S, pu => foT l (tkS S pu a).1 (tkS S pu a).2
noncomputable def tickS (S : aS) : aS := (foT (ordP S 10) (s2 S 11 0 (S 11 0 + nI 1)) (fun _ => false)).1
def befS (S : aS) (x y : Nat) : Prop := prS S y < prS S x ∨ (prS S x = prS S y ∧ x < y)
theorem ordA_m {S : aS} {p : Nat} : ∀ {m a x : Nat}, x ∈ ordA S p m a ↔ a ≤ x ∧ x < a + m ∧ exS S x = true ∧ prS S x = p
  | 0, a, x => by
    constructor
    · intro h; cases h
    · intro h; omega
  | m + 1, a, x => by
    have ih := @ordA_m S p m (a + 1) x
    by_cases hc : exS S a = true ∧ prS S a = p
    · have e : ordA S p (m + 1) a = a :: ordA S p m (a + 1) := if_pos hc
      rw [e, List.mem_cons, ih]
      constructor
      · intro h
        rcases h with h | h
        · subst h; exact ⟨Nat.le_refl _, by omega, hc⟩
        · exact ⟨by omega, by omega, h.2.2⟩
      · intro h
        by_cases hx : x = a
        · exact Or.inl hx
        · exact Or.inr ⟨by omega, by omega, h.2.2⟩
    · have e : ordA S p (m + 1) a = ordA S p m (a + 1) := if_neg hc
      rw [e, ih]
      constructor
      · intro h
        exact ⟨by omega, by omega, h.2.2⟩
      · intro h
        by_cases hx : x = a
        · rw [hx] at h
          exact absurd h.2.2 hc
        · exact ⟨by omega, by omega, h.2.2⟩
theorem ordP_m {S : aS} : ∀ {p x : Nat}, x ∈ ordP S p ↔ x < 16 ∧ exS S x = true ∧ prS S x < p
  | 0, x => by
    constructor
    · intro h; cases h
    · intro h; omega
  | p + 1, x => by
    have ih := @ordP_m S p x
    show x ∈ ordA S p 16 0 ++ ordP S p ↔ _
    rw [List.mem_append, ih, ordA_m]
    constructor
    · intro h
      rcases h with h | h
      · exact ⟨by omega, h.2.2.1, by omega⟩
      · exact ⟨h.1, h.2.1, by omega⟩
    · intro h
      by_cases hx : prS S x = p
      · exact Or.inl ⟨by omega, by omega, h.2.1, hx⟩
      · exact Or.inr ⟨h.1, h.2.1, by omega⟩
theorem ordA_p {S : aS} {p : Nat} : ∀ {m a : Nat}, (ordA S p m a).Pairwise (befS S)
  | 0, a => List.Pairwise.nil
  | m + 1, a => by
    by_cases hc : exS S a = true ∧ prS S a = p
    · have e : ordA S p (m + 1) a = a :: ordA S p m (a + 1) := if_pos hc
      rw [e]
      refine List.pairwise_cons.mpr ⟨fun y hy => ?_, ordA_p⟩
      have := ordA_m.mp hy
      exact Or.inr ⟨by rw [hc.2, this.2.2.2], by omega⟩
    · have e : ordA S p (m + 1) a = ordA S p m (a + 1) := if_neg hc
      rw [e]
      exact ordA_p
theorem ordP_p {S : aS} : ∀ {p : Nat}, (ordP S p).Pairwise (befS S)
  | 0 => List.Pairwise.nil
  | p + 1 => by
    show (ordA S p 16 0 ++ ordP S p).Pairwise (befS S)
    refine List.pairwise_append.mpr ⟨ordA_p, ordP_p, fun x hx y hy => ?_⟩
    have h1 := ordA_m.mp hx
    have h2 := ordP_m.mp hy
    exact Or.inl (by omega)
theorem ordP_n {S : aS} {p : Nat} : (ordP S p).Nodup := by
  refine List.Pairwise.imp (fun h e => ?_) ordP_p
  rw [e] at h
  rcases h with h | h
  · omega
  · omega
theorem ordP_l {S : aS} {p : Nat} : (ordP S p).length ≤ 16 := nod_len ordP_n (fun x hx => (ordP_m.mp hx).1)
theorem prS_lt {S : aS} {B a : Nat} (hI : iS B S) (ha : a < 16) (hx : S 3 a ≠ jM) : prS S a < 10 ∧ S 5 a = nI (prS S a) := by
  obtain ⟨p, hp, e⟩ := (hI.2.2.2.1 a ha hx).2.1
  unfold prS
  rw [e, clI_n (by omega)]
  exact ⟨hp, rfl⟩
theorem prS_T {S S' : aS} (h : sameT S S') : prS S' = prS S := by
  funext a
  unfold prS
  rw [h.2.2.2.1]
/-- the fold keeps the state in order -/
theorem foT_inv {S0 : aS} : ∀ {l : List Nat} {S : aS} {pu : Nat → Bool} {B : Nat}, (∀ a ∈ l, a < 16 ∧ S0 3 a ≠ jM) → sameT S0 S → iS B S → okT S0 → B + 2 * l.length < 2 ^ 30 → iS (B + 2 * l.length) (foT l S pu).1 ∧ sameT S0 (foT l S pu).1
  | [], S, pu, B, _, hT, hI, _, _ => ⟨hI, hT⟩
  | a :: l, S, pu, B, hl, hT, hI, hO, hB => by
    rw [List.length_cons] at hB
    have ha := hl a List.mem_cons_self
    have hx : S 3 a ≠ jM := by rw [ne_eq, hT.2.2.2.2.2.2.2.2 a]; exact ha.2
    have hO' : okT S := by unfold okT; rw [sameT_co hT]; exact hO
    obtain ⟨h1, h2⟩ := tkS_inv (pu := pu) hI hO' ha.1 hx (by omega)
    have := foT_inv (l := l) (pu := (tkS S pu a).2) (fun a' h' => hl a' (List.mem_cons_of_mem _ h')) (hT.trans h2) h1 hO (by omega)
    rw [List.length_cons, show B + 2 * (l.length + 1) = B + 2 + 2 * l.length by omega]
    exact this
theorem ordP_T {S S' : aS} (h : sameT S S') : ∀ p, ordP S' p = ordP S p := by
  have hA : ∀ p m a, ordA S' p m a = ordA S p m a := by
    intro p m
    induction m with
    | zero => intro a; rfl
    | succ m ih =>
      intro a
      show (if exS S' a = true ∧ prS S' a = p then a :: ordA S' p m (a + 1) else ordA S' p m (a + 1)) = (if exS S a = true ∧ prS S a = p then a :: ordA S p m (a + 1) else ordA S p m (a + 1))
      rw [ih, sameT_ex h, prS_T h]
  intro p
  induction p with
  | zero => rfl
  | succ p ih =>
    show ordA S' p 16 0 ++ ordP S' p = ordA S p 16 0 ++ ordP S p
    rw [ih, hA]
theorem tick_inv {S : aS} {B : Nat} (hI : iS B S) (hO : okT S) (hB : B + 32 < 2 ^ 30) : iS (B + 32) (tickS S) ∧ sameT S (tickS S) := by
  have hs : sameT S (s2 S 11 0 (S 11 0 + nI 1)) := sameT_s2 (by omega)
  have hl := @ordP_l S 10
  have h := foT_inv (S0 := S) (B := B) (l := ordP S 10) (S := s2 S 11 0 (S 11 0 + nI 1)) (pu := fun _ => false) (fun a ha => ⟨(ordP_m.mp ha).1, by have := (ordP_m.mp ha).2.1; rw [exS_t] at this; exact this⟩) hs (iS_s2 hI (Or.inr rfl)) hO (by omega)
  exact ⟨iS_B h.1 (by omega), h.2⟩
def pI : Nat → Int32
  | 0 => jM
  | m + 1 => nI m
theorem pI_s {m : Nat} : nI m + jM = pI m := by
  cases m with
  | zero => decide
  | succ m => exact pk_m1 m
section
variable {S0 : aS} {B0 Bf K b cq : Nat} {v0 : sV}
/-- the class's state in a tick: what is still to come is the list l -/
def tkR (S0 : aS) (Bf b cq : Nat) (v0 : sV) (l : List Nat) (FIN : aS × (Nat → Bool)) (r : sR) (v : sV) (n : Nat) : Prop :=
  ∃ S pu B, foT l S pu = FIN ∧ RelC b S v ∧ cacC (coS S0) r v n ∧ v cq 2 = nI (mkI pu 16) ∧ frC b cq v0 v ∧ sameT S0 S ∧ iS B S ∧ B + 2 * l.length ≤ Bf
def tkE (S0 : aS) (b cq : Nat) (v0 : sV) (FIN : aS × (Nat → Bool)) (n : Nat) (o : Option (Unit × sR × sV × Nat)) : Prop :=
  ∃ u r' v' k, o = some (u, r', v', k) ∧ RelC b FIN.1 v' ∧ cacC (coS S0) r' v' (n + k) ∧ frC b cq v0 v'
theorem ac_tkE {r : sR} {v : sV} {n k : Nat} {FIN : aS × (Nat → Bool)} {a : Unit} {f : Unit → sR → sV → Nat → Option (Unit × sR × sV × Nat)} (h : tkE S0 b cq v0 FIN (n + k) (f a r v (n + k))) : tkE S0 b cq v0 FIN n (ac (a, r, v, k) n f) := by
  obtain ⟨u, r', v', k', e, h1, h2, h3⟩ := h
  refine ⟨u, r', v', k + k', ?_, h1, by rw [← Nat.add_assoc]; exact h2, h3⟩
  unfold ac
  simp only [e]
  rfl
set_option maxHeartbeats 1000000 in
theorem pt_in {FIN : aS × (Nat → Bool)} {p : Nat} (hb : okC cq b) (hI0 : iS B0 S0) (hO : okT S0) (hBf : Bf < 2 ^ 30) (hp : p < 10) (hK : 2000 < K) {k21 : Int32 → sR → sV → Nat → Option (Unit × sR × sV × Nat)}
    (hk21 : ∀ r v n, tkR S0 Bf b cq v0 (ordP S0 p) FIN r v n → tkE S0 b cq v0 FIN n (k21 (pI p) r v n)) {r : sR} {v : sV} {n : Nat} (h : tkR S0 Bf b cq v0 (ordP S0 (p + 1)) FIN r v n) : tkE S0 b cq v0 FIN n (fx4 (gX0_passTick_27 K cq b k21 (nI p)) K (nI 0) r v n) := by
  refine fx4_gR (P := fun a x2 r v n => x2 = nI a ∧ tkR S0 Bf b cq v0 (ordA S0 p (16 - a) a ++ ordP S0 p) FIN r v n) (R := fun _ _ _ n o => tkE S0 b cq v0 FIN n o) (N := 16) ?_ ⟨rfl, h⟩ (by omega)
  intro a x2 r v n ha ⟨e2, h⟩ k27 hk
  subst e2
  unfold gX0_passTick_27
  by_cases ha1 : a = 16
  · subst ha1
    have epI : nI p + jM = pI p := pI_s
    simp (disch := omega) only [↓jM_e, li_0, li_1, li_2, li_3, li_4, li_5, li_6, li_7, li_8, li_9, li_10, li_13, li_14, li_15, li_16, li_31, li_35, li_47, li_48, li_49, li_50, li_57, li_99, li_100, li_126, li_139, li_140, li_149, li_150, li_280, li_284, li_285, li_290, li_434, li_1260, li_3472, li_9999, li_65536, nm, nm_w, sf_w, cp_w, ld_I, sa_I, nI_add, pk_mul, Nat.zero_add, nI_leI, nI_ltI, nI_eq, nI_neM, M_neI, nI_ltM, nI_nltM, M_ltI, M_leI, nI_nleM, bnd_some, if_pos, if_neg, dif_t, dif_f, epI]
    exact hk21 r v n h
  · have hlt : a < 16 := by omega
    rw [show 16 - a = (16 - (a + 1)) + 1 by omega] at h
    have hord : ordA S0 p (16 - (a + 1) + 1) a = if exS S0 a = true ∧ prS S0 a = p then a :: ordA S0 p (16 - (a + 1)) (a + 1) else ordA S0 p (16 - (a + 1)) (a + 1) := rfl
    rw [hord] at h
    obtain ⟨S, pu, B, h1, h2, h3, h4, h5, h6, h7, h8⟩ := h
    have hexT : exS S a = exS S0 a := by rw [sameT_ex h6]
    have hco := sameT_co h6
    by_cases hx : exS S0 a = true
    · have hx' : exS S a = true := hexT.trans hx
      have hxS : S 3 a ≠ jM := by rw [exS_t] at hx'; exact hx'
      obtain ⟨hp10, ep⟩ := prS_lt h7 hlt hxS
      rw [prS_T h6] at ep hp10
      have e5 : v (b + 6) a = nI (prS S0 a) := (rc5 h2 hlt).trans ep
      by_cases hpr : prS S0 a = p
      · rw [if_pos ⟨hx, hpr⟩] at h1 h8
        rw [List.cons_append] at h1 h8
        rw [List.length_cons] at h8
        rw [hpr] at e5
        have hO' : okT S := by unfold okT; rw [hco]; exact hO
        obtain ⟨i1, i2⟩ := tkS_inv (pu := pu) h7 hO' hlt hxS (by omega)
        rw [← hco] at h3
        obtain ⟨u, r1, v1, k1, et, g1, g2, g3, g4⟩ := tt_C (pu := pu) hb h2 h7 h3 h4 hlt hxS hK
        rw [hco] at g2
        simp (disch := omega) only [↓jM_e, li_0, li_1, li_2, li_3, li_4, li_5, li_6, li_7, li_8, li_9, li_10, li_13, li_14, li_15, li_16, li_31, li_35, li_47, li_48, li_49, li_50, li_57, li_99, li_100, li_126, li_139, li_140, li_149, li_150, li_280, li_284, li_285, li_290, li_434, li_1260, li_3472, li_9999, li_65536, nm, nm_w, sf_w, cp_w, ld_I, sa_I, nI_add, pk_mul, Nat.zero_add, nI_leI, nI_ltI, nI_eq, nI_neM, M_neI, nI_ltM, nI_nltM, M_ltI, M_leI, nI_nleM, bnd_some, if_pos, if_neg, dif_t, dif_f, ex_C h2 hlt, if_pos hx', e5, et]
        refine ac_tkE ?_
        rw [ck_i g2.1]
        exact hk hlt _ _ _ _ ⟨rfl, (tkS S pu a).1, (tkS S pu a).2, B + 2, h1, g1, g2, g3, h5.trans g4, h6.trans i2, i1, by omega⟩
      · rw [if_neg (fun g => hpr g.2)] at h1 h8
        have hne : ¬ prS S0 a = p := hpr
        simp (disch := omega) only [↓jM_e, li_0, li_1, li_2, li_3, li_4, li_5, li_6, li_7, li_8, li_9, li_10, li_13, li_14, li_15, li_16, li_31, li_35, li_47, li_48, li_49, li_50, li_57, li_99, li_100, li_126, li_139, li_140, li_149, li_150, li_280, li_284, li_285, li_290, li_434, li_1260, li_3472, li_9999, li_65536, nm, nm_w, sf_w, cp_w, ld_I, sa_I, nI_add, pk_mul, Nat.zero_add, nI_leI, nI_ltI, nI_eq, nI_neM, M_neI, nI_ltM, nI_nltM, M_ltI, M_leI, nI_nleM, bnd_some, if_pos, if_neg, dif_t, dif_f, ex_C h2 hlt, if_pos hx', e5]
        exact hk hlt _ _ _ _ ⟨rfl, S, pu, B, h1, h2, h3, h4, h5, h6, h7, h8⟩
    · rw [if_neg (fun g => hx g.1)] at h1 h8
      have hx' : ¬ exS S a = true := by rw [hexT]; exact hx
      simp (disch := omega) only [↓jM_e, li_0, li_1, li_2, li_3, li_4, li_5, li_6, li_7, li_8, li_9, li_10, li_13, li_14, li_15, li_16, li_31, li_35, li_47, li_48, li_49, li_50, li_57, li_99, li_100, li_126, li_139, li_140, li_149, li_150, li_280, li_284, li_285, li_290, li_434, li_1260, li_3472, li_9999, li_65536, nm, nm_w, sf_w, cp_w, ld_I, sa_I, nI_add, pk_mul, Nat.zero_add, nI_leI, nI_ltI, nI_eq, nI_neM, M_neI, nI_ltM, nI_nltM, M_ltI, M_leI, nI_nleM, bnd_some, if_pos, if_neg, dif_t, dif_f, ex_C h2 hlt, if_neg hx']
      exact hk hlt _ _ _ _ ⟨rfl, S, pu, B, h1, h2, h3, h4, h5, h6, h7, h8⟩
theorem okT_C {S : aS} {B n : Nat} {r : sR} {v : sV} (hb : okC cq b) (h : RelC b S v) (hI : iS B S) (hc : cacC (coS S) r v n) (hK : 2000 < K) : okT S := fun t ht h0 =>
  tw_D (K := K) (a2 := b + 1) (iS_co hI) (fun c hc => (rc0 h hc).trans (hI.1 c hc).1) hc (by unfold okC at hb; omega) ht h0 hK
theorem pt_C {S : aS} {B n : Nat} {r : sR} {v : sV} (hb : okC cq b) (h : RelC b S v) (hI : iS B S) (hc : cacC (coS S) r v n) (hB : B + 32 < 2 ^ 30) (hK : 2000 < K) :
    ∃ u r' v' k, fX0_passTick K cq b r v n = some (u, r', v', k) ∧ RelC b (tickS S) v' ∧ cacC (coS S) r' v' (n + k) ∧ frC b cq v v' := by
  have hO := okT_C hb h hI hc hK
  have hbb := okC_f hb
  have e0 : v (b + 12) 0 = S 11 0 := rc11 h (by decide)
  have hz : mkI (fun _ => false) 16 = 0 := by decide
  unfold fX0_passTick
  simp (disch := omega) only [↓jM_e, li_0, li_1, li_2, li_3, li_4, li_5, li_6, li_7, li_8, li_9, li_10, li_13, li_14, li_15, li_16, li_31, li_35, li_47, li_48, li_49, li_50, li_57, li_99, li_100, li_126, li_139, li_140, li_149, li_150, li_280, li_284, li_285, li_290, li_434, li_1260, li_3472, li_9999, li_65536, nm, nm_w, sf_w, cp_w, ld_I, sa_I, nI_add, pk_mul, Nat.zero_add, nI_leI, nI_ltI, nI_eq, nI_neM, M_neI, nI_ltM, nI_nltM, M_ltI, M_leI, nI_nleM, bnd_some, if_pos, if_neg, dif_t, dif_f, e0]
  refine fx4_gR (P := fun i x1 r v' n => i ≤ 10 ∧ x1 = pI (10 - i) ∧ tkR S (B + 32) b cq v (ordP S (10 - i)) (foT (ordP S 10) (s2 S 11 0 (S 11 0 + nI 1)) (fun _ => false)) r v' n) (R := fun _ _ _ n o => tkE S b cq v (foT (ordP S 10) (s2 S 11 0 (S 11 0 + nI 1)) (fun _ => false)) n o) (N := 10) ?_ ⟨by omega, rfl, ?_⟩ (by omega)
  · intro i x1 r v' n hi ⟨_, e1, h⟩ k21 hk
    subst e1
    unfold gX0_passTick_21
    by_cases hi1 : i = 10
    · subst hi1
      obtain ⟨S', pu, B', h1, h2, h3, h4, h5, h6, h7, h8⟩ := h
      simp only [↓jM_e, li_0, li_1, li_2, li_3, li_4, li_5, li_6, li_7, li_8, li_9, li_10, li_13, li_14, li_15, li_16, li_31, li_35, li_47, li_48, li_49, li_50, li_57, li_99, li_100, li_126, li_139, li_140, li_149, li_150, li_280, li_284, li_285, li_290, li_434, li_1260, li_3472, li_9999, li_65536]
      simp only [show pI (10 - 10) = jM from rfl, if_pos (show jM < nI 0 by decide)]
      refine ⟨(), r, v', 0, rfl, ?_, h3, h5⟩
      have h1 : (S', pu) = foT (ordP S 10) (s2 S 11 0 (S 11 0 + nI 1)) (fun _ => false) := h1
      rw [← h1]
      exact h2
    · have hlt : i < 10 := by omega
      have hm : 10 - i = (10 - (i + 1)) + 1 := by omega
      rw [hm] at h ⊢
      have epI : pI (10 - (i + 1) + 1) = nI (10 - (i + 1)) := rfl
      rw [epI]
      have hnl : ¬ nI (10 - (i + 1)) < (0 : Int32) := nI_pos (by omega)
      rw [if_neg hnl]
      exact pt_in hb hI hO hB (by omega) hK (fun r v n h => hk hlt _ _ _ _ ⟨by omega, rfl, h⟩) h
  · refine ⟨s2 S 11 0 (S 11 0 + nI 1), fun _ => false, B, rfl, rcF (rcS (j := 11) h (by decide)) (fun p p1 p2 => s2_ne (by omega)), cacC_w hb hc (fun p p1 p2 => ?_), ?_, fun p p1 p2 p3 p4 p5 => ?_, sameT_s2 (by omega), iS_s2 hI (Or.inr rfl), ?_⟩
    · rw [s2_ne p2, s2_ne (by omega)]
    · rw [s2_i, hz]
    · rw [s2_ne p4, s2_ne (by omega)]
    · have := @ordP_l S (10 - 0)
      omega
end
