/-! the closures part the stuck ones -/
theorem ap_sym {p q : Nat} (hp : p < 140) (hq : q < 140) : (apI p q = nI 1) = (apI q p = nI 1) := by
  rw [ap_1 hp hq, ap_1 hq hp]
  apply propext
  omega
theorem neP_i {S : aS} {P : Nat → Bool} {j : Nat} : ∀ {t : Nat}, (neP S P t j = true) ↔ ∃ i, i < t ∧ P i = true ∧ beP S (clI (S 3 i)) 4 j = true
  | 0 => ⟨(fun g => by cases g), fun ⟨i, hi, _⟩ => absurd hi (Nat.not_lt_zero i)⟩
  | t + 1 => by
    have ih := @neP_i S P j t
    show (neP S P t j || (P t && beP S (clI (S 3 t)) 4 j)) = true ↔ _
    rw [Bool.or_eq_true, Bool.and_eq_true, ih]
    constructor
    · intro h
      rcases h with ⟨i, hi, g⟩ | g
      · exact ⟨i, Nat.lt_succ_of_lt hi, g⟩
      · exact ⟨t, Nat.lt_succ_self t, g⟩
    · intro ⟨i, hi, g⟩
      by_cases hit : i = t
      · rw [hit] at g; exact Or.inr g
      · exact Or.inl ⟨i, by omega, g⟩
def clB (S : aS) (a : Nat) : Nat → Bool := itF S a 15
theorem cl_a {S : aS} {a : Nat} : ∀ {t : Nat}, itF S a t a = true
  | 0 => decide_eq_true rfl
  | t + 1 => by
    show (itF S a t a || (neP S (itF S a t) 16 a && stS S a)) = true
    rw [cl_a (t := t), Bool.true_or]
theorem cl_c {S : aS} {a i j : Nat} (ha : a < 16) (hi : i < 16) (hj : j < 16) (h : clB S a i = true) (hb : beP S (clI (S 3 i)) 4 j = true) (hs : stS S j = true) : clB S a j = true := by
  unfold clB
  rw [← itF_15 ha j hj]
  show (itF S a 15 j || (neP S (itF S a 15) 16 j && stS S j)) = true
  rw [Bool.or_eq_true, Bool.and_eq_true, neP_i]
  exact Or.inr ⟨⟨i, hi, h, hb⟩, hs⟩
theorem cl_m {S : aS} {a : Nat} {Q : Nat → Prop} (hQ : Q a) (hc : ∀ i j, i < 16 → j < 16 → Q i → beP S (clI (S 3 i)) 4 j = true → stS S j = true → Q j) : ∀ {t i : Nat}, i < 16 → itF S a t i = true → Q i
  | 0, i, _, h => by
    have : i = a := of_decide_eq_true h
    rw [this]; exact hQ
  | t + 1, i, hi, h => by
    have h : (itF S a t i || (neP S (itF S a t) 16 i && stS S i)) = true := h
    rw [Bool.or_eq_true, Bool.and_eq_true, neP_i] at h
    rcases h with h | ⟨⟨m, hm, g1, g2⟩, g3⟩
    · exact cl_m hQ hc hi h
    · exact hc m i hm hi (cl_m hQ hc hm g1) g2 g3
theorem be_s {S : aS} {B i j : Nat} (hI : iS B S) (hd : dsS S) (hi : i < 16) (hj : j < 16) (si : stS S i = true) (sj : stS S j = true) (h : beP S (clI (S 3 i)) 4 j = true) : beP S (clI (S 3 j)) 4 i = true := by
  obtain ⟨p, hp, ep⟩ := stS_x hI hi si
  obtain ⟨q, hq, eq⟩ := stS_x hI hj sj
  rw [ep, clI_n (by omega), be_ap hd hp hq hj eq, ap_sym hp hq] at h
  rw [eq, clI_n (by omega), be_ap hd hq hp hi ep]
  exact h
theorem cl_sub {S : aS} {a b : Nat} (ha : a < 16) (h : clB S a b = true) : ∀ {i : Nat}, i < 16 → clB S b i = true → clB S a i = true :=
  fun hi g => cl_m (Q := fun i => clB S a i = true) h (fun i j hi hj q1 q2 q3 => cl_c ha hi hj q1 q2 q3) hi g
theorem cl_s {S : aS} {B a b : Nat} (hI : iS B S) (hd : dsS S) (ha : a < 16) (hb : b < 16) (sa : stS S a = true) (h : clB S a b = true) : clB S b a = true := by
  refine (cl_m (S := S) (a := a) (Q := fun i => stS S i = true ∧ (i < 16 → clB S i a = true)) ⟨sa, fun _ => cl_a⟩ (fun i j hi hj q1 q2 q3 => ⟨q3, fun _ => ?_⟩) hb h).2 hb
  have hji : clB S j i = true := cl_c hj hj hi cl_a (be_s hI hd hi hj q1.1 q3 q2) q1.1
  exact cl_sub hj hji ha (q1.2 hi)
