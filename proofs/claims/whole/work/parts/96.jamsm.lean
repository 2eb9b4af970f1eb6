/-! jams and a jam by its number (reference) -/
def snS (S : aS) : Nat → Nat → Bool
  | 0, _ => false
  | t + 1, i => snS S t i || (stS S t && clB S t i)
theorem snS_i {S : aS} {i : Nat} : ∀ {t : Nat}, (snS S t i = true) ↔ ∃ a, a < t ∧ stS S a = true ∧ clB S a i = true
  | 0 => ⟨(fun g => by cases g), fun ⟨a, ha, _⟩ => absurd ha (Nat.not_lt_zero a)⟩
  | t + 1 => by
    have ih := @snS_i S i t
    show (snS S t i || (stS S t && clB S t i)) = true ↔ _
    rw [Bool.or_eq_true, Bool.and_eq_true, ih]
    constructor
    · intro h
      rcases h with ⟨a, ha, g⟩ | g
      · exact ⟨a, Nat.lt_succ_of_lt ha, g⟩
      · exact ⟨t, Nat.lt_succ_self t, g⟩
    · intro ⟨a, ha, g⟩
      by_cases hat : a = t
      · rw [hat] at g; exact Or.inr g
      · exact Or.inl ⟨a, by omega, g⟩
theorem sn_y {S : aS} {B t : Nat} (hI : iS B S) (hd : dsS S) (ht : t < 16) (h : snS S t t = true) : jmP S t = false ∧ ∀ i, i < 16 → snS S (t + 1) i = snS S t i := by
  obtain ⟨a, ha, sa, ca⟩ := snS_i.mp h
  have hc := cl_s hI hd (by omega) ht sa ca
  refine ⟨?_, fun i hi => ?_⟩
  · have : ¬ cnI (itF S t 15) t = 0 := fun g => by
      have := cnI_z g a ha
      unfold clB at hc
      rw [hc] at this
      cases this
    unfold jmP
    rw [decide_eq_false this, Bool.false_and, Bool.and_false]
  · show (snS S t i || (stS S t && clB S t i)) = snS S t i
    cases hs : snS S t i with
    | true => rfl
    | false =>
      cases hq : clB S t i with
      | false => rw [Bool.and_false]; rfl
      | true =>
        have g : snS S t i = true := snS_i.mpr ⟨a, ha, sa, cl_sub (by omega) ca hi hq⟩
        rw [hs] at g
        cases g
theorem sn_n {S : aS} {B t : Nat} (hI : iS B S) (hd : dsS S) (ht : t < 16) (st : stS S t = true) (h : ¬ snS S t t = true) : jmP S t = decide (2 ≤ cnI (itF S t 15) 16) := by
  have : cnI (itF S t 15) t = 0 := cnI_zz (fun m hm => by
    cases hq : itF S t 15 m with
    | false => rfl
    | true => exact absurd (snS_i.mpr ⟨m, hm, itF_s st hq, cl_s hI hd ht (by omega) st hq⟩) h)
  unfold jmP
  rw [st, decide_eq_true this, Bool.true_and, Bool.true_and]
section
variable {v : sV} {S : aS} {B K : Nat}
theorem jo_M (hr : RelM S (v 158)) (hI : iS B S) (hd : dsS S) {x1 : Int32} (hK : 400 < K) : fX7_jamOf K x1 v = some (if nI 0 ≤ x1 then nI (jnR S x1) else if jnO S x1 = none then nI (cnI (jmP S) 16) else nI (jnR S x1)) := by
  unfold fX7_jamOf
  refine fx3_go (P := fun t x2 x3 x4 => x4 = nI t ∧ x3 = nI (cnI (jmP S) t) ∧ x2 = nI (mkI (snS S t) 16) ∧ ffI (fun a => jmP S a && decide (nI (cnI (jmP S) a) = x1)) (16 - t) t = jnO S x1) (Q := fun o => o = some (if nI 0 ≤ x1 then nI (jnR S x1) else if jnO S x1 = none then nI (cnI (jmP S) 16) else nI (jnR S x1))) (N := 16) ?_ ⟨rfl, rfl, by rw [mkI_f0 (P := snS S 0) (fun i hi => rfl)]; rfl, rfl⟩ (by omega)
  intro t x2 x3 x4 ht ⟨e4, e3, e2, ef⟩ k hk
  subst e2 e3 e4
  have hs : cnI (jmP S) (t + 1) = cnI (jmP S) t + (if jmP S t = true then 1 else 0) := rfl
  unfold gX7_jamOf_7
  by_cases ht1 : t = 16
  · subst ht1
    have ef : none = jnO S x1 := ef
    unfold jnR
    rw [if_pos (show (16 : Int32) ≤ nI 16 from by decide), ← ef]
    by_cases h0 : nI 0 ≤ x1
    · rw [if_pos h0, if_pos (show (0 : Int32) ≤ x1 from h0)]
      rfl
    · rw [if_neg h0, if_neg (show ¬ (0 : Int32) ≤ x1 from h0), if_pos rfl]
  · have hlt : t < 16 := by omega
    have h16 : ¬ nI 16 ≤ nI t := by rw [nI_leI (by decide) (by omega)]; omega
    rw [show 16 - t = (16 - (t + 1)) + 1 by omega] at ef
    have ef : (if (jmP S t && decide (nI (cnI (jmP S) t) = x1)) = true then some t else ffI (fun a => jmP S a && decide (nI (cnI (jmP S) a) = x1)) (16 - (t + 1)) (t + 1)) = jnO S x1 := ef
    have hno : jmP S t = false → nI (cnI (jmP S) t) = nI (cnI (jmP S) (t + 1)) ∧ ffI (fun a => jmP S a && decide (nI (cnI (jmP S) a) = x1)) (16 - (t + 1)) (t + 1) = jnO S x1 := by
      intro hp
      rw [hp, Bool.false_and, if_neg Bool.false_ne_true] at ef
      exact ⟨by rw [hs, hp, if_neg Bool.false_ne_true, Nat.add_zero], ef⟩
    rw [if_neg (show ¬ (16 : Int32) ≤ nI t from h16), st_Mk hr hlt, bnd_some]
    by_cases hst : stS S t = true
    · rw [if_pos hst, if_neg (show ¬ nI 1 = (0 : Int32) by decide)]
      have hbit : ((nI (mkI (snS S t) 16) >>> (nI t &&& nI 31)) &&& nI 1 = nI 1) = (snS S t t = true) := by rw [bt_I mkI_lt hlt, mkI_bit hlt]
      by_cases hsn : snS S t t = true
      · obtain ⟨hp, hm⟩ := sn_y hI hd hlt hsn
        have hb : ((nI (mkI (snS S t) 16) >>> (nI t &&& nI 31)) &&& nI 1) = nI 1 := by rw [hbit]; exact hsn
        rw [if_pos (show ((nI (mkI (snS S t) 16) >>> (nI t &&& 31)) &&& 1) = (1 : Int32) from hb), nm_w]
        exact hk hlt _ _ _ ⟨nI_add t 1, (hno hp).1, congrArg nI (mkI_c (fun i hi => (hm i hi).symm)), (hno hp).2⟩
      · have hp := sn_n hI hd hlt hst hsn
        have hb : ¬ ((nI (mkI (snS S t) 16) >>> (nI t &&& nI 31)) &&& nI 1) = nI 1 := by rw [hbit]; exact hsn
        have hcl := @cnI_le (itF S t 15) 16
        have hsn1 : nI (mkI (fun i => snS S t i || itF S t 15 i) 16) = nI (mkI (snS S (t + 1)) 16) := congrArg nI (mkI_c (fun i hi => by
          show (snS S t i || itF S t 15 i) = (snS S t i || (stS S t && clB S t i))
          rw [hst, Bool.true_and]
          rfl))
        rw [if_neg (show ¬ ((nI (mkI (snS S t) 16) >>> (nI t &&& 31)) &&& 1) = (1 : Int32) from hb), cn_M hr hI hd hlt hst hK, bnd_some, nm_w, or_mk, hsn1, bi_mk (by omega), bnd_some]
        by_cases h2 : 2 ≤ cnI (itF S t 15) 16
        · have hp : jmP S t = true := by rw [hp]; exact decide_eq_true h2
          have h1 : ¬ nI (cnI (itF S t 15) 16) ≤ nI 1 := by rw [nI_leI (by omega) (by decide)]; omega
          rw [if_neg (show ¬ nI (cnI (itF S t 15) 16) ≤ (1 : Int32) from h1)]
          rw [hp, Bool.true_and] at ef
          by_cases hx : nI (cnI (jmP S) t) = x1
          · rw [if_pos (decide_eq_true hx)] at ef
            have hxx : nI 0 ≤ x1 := by
              rw [← hx]
              have := @cnI_le (jmP S) t
              exact nI_le (Nat.zero_le _) (by omega)
            unfold jnR
            rw [if_pos hx, if_pos hxx, ← ef]
            unfold jmV
            dsimp only
            rw [if_pos hp]
          · rw [if_neg (by rw [decide_eq_true_eq]; exact hx)] at ef
            rw [if_neg hx, nm_w, nm_w]
            exact hk hlt _ _ _ ⟨nI_add t 1, by rw [hs, hp, if_pos rfl]; exact nI_add _ 1, rfl, ef⟩
        · have hp : jmP S t = false := by rw [hp]; exact decide_eq_false h2
          have h1 : nI (cnI (itF S t 15) 16) ≤ nI 1 := by rw [nI_leI (by omega) (by decide)]; omega
          rw [if_pos (show nI (cnI (itF S t 15) 16) ≤ (1 : Int32) from h1), nm_w]
          exact hk hlt _ _ _ ⟨nI_add t 1, (hno hp).1, rfl, (hno hp).2⟩
    · have hp : jmP S t = false := by unfold jmP; rw [Bool.eq_false_iff.mpr hst, Bool.false_and]
      rw [if_neg hst, if_pos (show nI 0 = (0 : Int32) from rfl), nm_w]
      refine hk hlt _ _ _ ⟨nI_add t 1, (hno hp).1, congrArg nI (mkI_c (fun i hi => ?_)), (hno hp).2⟩
      show snS S t i = (snS S t i || (stS S t && clB S t i))
      rw [Bool.eq_false_iff.mpr hst, Bool.false_and, Bool.or_false]
end
