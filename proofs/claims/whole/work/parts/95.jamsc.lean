/-! jams and a jam by its number (class) -/
theorem jmV_0 {S : aS} {a : Nat} : (nI (jmV S a) = nI 0) = (jmP S a = false) := by
  apply propext
  unfold jmV
  cases hp : jmP S a with
  | false =>
    rw [if_neg Bool.false_ne_true]
    exact ⟨fun _ => rfl, fun _ => rfl⟩
  | true =>
    rw [if_pos rfl, nI_eq0 mk_16, mkI_0]
    refine ⟨fun h => ?_, fun h => by cases h⟩
    unfold jmP at hp
    rw [h, Bool.and_eq_true, Bool.and_eq_true] at hp
    exact absurd (of_decide_eq_true hp.2.2) (by decide)
def jnO (S : aS) (x1 : Int32) : Option Nat := ffI (fun a => jmP S a && decide (nI (cnI (jmP S) a) = x1)) 16 0
def jnR (S : aS) (x1 : Int32) : Nat := match jnO S x1 with
  | none => 0
  | some a => jmV S a
section
variable {v : sV} {S : aS} {B K b cq : Nat}
theorem js_C (h : RelC 1 S v) (hI : iS B S) (hK : 16 < K) : fX6_jams K v = some (nI (cnI (jmP S) 16)) := by
  unfold fX6_jams
  rw [sk_C h hK, bnd_some]
  refine fx2_go (P := fun t x2 x3 => x3 = nI t ∧ x2 = nI (cnI (jmP S) t)) (Q := fun o => o = some (nI (cnI (jmP S) 16))) (N := 16) ?_ ⟨rfl, rfl⟩ hK
  intro t x2 x3 ht ⟨e3, e2⟩ k hk
  subst e2 e3
  have hs : cnI (jmP S) (t + 1) = cnI (jmP S) t + (if jmP S t = true then 1 else 0) := rfl
  unfold gX6_jams_12
  by_cases ht1 : t = 16
  · subst ht1
    rw [if_pos (show (16 : Int32) ≤ nI 16 from by decide)]
  · have hlt : t < 16 := by omega
    have h16 : ¬ nI 16 ≤ nI t := by rw [nI_leI (by decide) (by omega)]; omega
    rw [if_neg (show ¬ (16 : Int32) ≤ nI t from h16), jf_C h hI hlt hK, bnd_some]
    cases hp : jmP S t with
    | false =>
      have h0 : nI (jmV S t) = nI 0 := by rw [jmV_0]; exact hp
      rw [if_pos (show nI (jmV S t) = (0 : Int32) from h0), nm_w]
      exact hk hlt _ _ ⟨nI_add t 1, by rw [hs, hp, if_neg Bool.false_ne_true, Nat.add_zero]⟩
    | true =>
      have h0 : ¬ nI (jmV S t) = nI 0 := by rw [jmV_0, hp]; exact fun g => by cases g
      rw [if_neg (show ¬ nI (jmV S t) = (0 : Int32) from h0), nm_w, nm_w]
      exact hk hlt _ _ ⟨nI_add t 1, by rw [hs, hp, if_pos rfl]; exact nI_add _ 1⟩
theorem jn_C (h : RelC b S v) (hI : iS B S) {x1 : Int32} (hK : 16 < K) : fX0_jamNumber K cq b x1 v = some (nI (jnR S x1)) := by
  unfold fX0_jamNumber
  rw [sk_C h hK, bnd_some]
  refine fx2_go (P := fun t x3 x4 => x4 = nI t ∧ x3 = nI (cnI (jmP S) t) ∧ ffI (fun a => jmP S a && decide (nI (cnI (jmP S) a) = x1)) (16 - t) t = jnO S x1) (Q := fun o => o = some (nI (jnR S x1))) (N := 16) ?_ ⟨rfl, rfl, rfl⟩ hK
  intro t x3 x4 ht ⟨e4, e3, ef⟩ k hk
  subst e3 e4
  have hs : cnI (jmP S) (t + 1) = cnI (jmP S) t + (if jmP S t = true then 1 else 0) := rfl
  unfold gX0_jamNumber_10
  by_cases ht1 : t = 16
  · subst ht1
    have ef : none = jnO S x1 := ef
    unfold jnR
    rw [if_pos (show (16 : Int32) ≤ nI 16 from by decide), ← ef]
    rfl
  · have hlt : t < 16 := by omega
    have h16 : ¬ nI 16 ≤ nI t := by rw [nI_leI (by decide) (by omega)]; omega
    rw [show 16 - t = (16 - (t + 1)) + 1 by omega] at ef
    have ef : (if (jmP S t && decide (nI (cnI (jmP S) t) = x1)) = true then some t else ffI (fun a => jmP S a && decide (nI (cnI (jmP S) a) = x1)) (16 - (t + 1)) (t + 1)) = jnO S x1 := ef
    rw [if_neg (show ¬ (16 : Int32) ≤ nI t from h16), jf_C h hI hlt hK, bnd_some]
    cases hp : jmP S t with
    | false =>
      rw [hp, Bool.false_and, if_neg Bool.false_ne_true] at ef
      have h0 : nI (jmV S t) = nI 0 := by rw [jmV_0]; exact hp
      rw [if_pos (show nI (jmV S t) = (0 : Int32) from h0), nm_w]
      exact hk hlt _ _ ⟨nI_add t 1, by rw [hs, hp, if_neg Bool.false_ne_true, Nat.add_zero], ef⟩
    | true =>
      rw [hp, Bool.true_and] at ef
      have h0 : ¬ nI (jmV S t) = nI 0 := by rw [jmV_0, hp]; exact fun g => by cases g
      rw [if_neg (show ¬ nI (jmV S t) = (0 : Int32) from h0)]
      by_cases hx : nI (cnI (jmP S) t) = x1
      · rw [if_pos (decide_eq_true hx)] at ef
        unfold jnR
        rw [if_pos hx, ← ef]
      · rw [if_neg (by rw [decide_eq_true_eq]; exact hx)] at ef
        rw [if_neg hx, nm_w, nm_w]
        exact hk hlt _ _ ⟨nI_add t 1, by rw [hs, hp, if_pos rfl]; exact nI_add _ 1, ef⟩
end
