/-! a jam from an agent (class) -/
def FS (S : aS) (P : Nat → Bool) (i : Nat) : Bool := P i || (neP S P 16 i && stS S i)
def itF (S : aS) (a : Nat) : Nat → Nat → Bool
  | 0 => fun i => decide (i = a)
  | t + 1 => FS S (itF S a t)
theorem neP_c {S : aS} {P Q : Nat → Bool} (h : ∀ i, i < 16 → P i = Q i) {i : Nat} : ∀ {t : Nat}, t ≤ 16 → neP S P t i = neP S Q t i
  | 0, _ => rfl
  | t + 1, ht => by
    show (neP S P t i || (P t && beP S (clI (S 3 t)) 4 i)) = (neP S Q t i || (Q t && beP S (clI (S 3 t)) 4 i))
    rw [neP_c h (by omega), h t (by omega)]
theorem FS_c {S : aS} {P Q : Nat → Bool} (h : ∀ i, i < 16 → P i = Q i) {i : Nat} (hi : i < 16) : FS S P i = FS S Q i := by
  unfold FS
  rw [neP_c h (Nat.le_refl 16), h i hi]
theorem itF_f {S : aS} {a t : Nat} (h : ∀ i, i < 16 → itF S a (t + 1) i = itF S a t i) : ∀ m i, i < 16 → itF S a (t + m) i = itF S a t i
  | 0, _, _ => rfl
  | m + 1, i, hi => by
    have ih := itF_f h m
    show FS S (itF S a (t + m)) i = _
    rw [FS_c ih hi]
    exact h i hi
theorem itF_s {S : aS} {a : Nat} (ha : stS S a = true) : ∀ {t i : Nat}, itF S a t i = true → stS S i = true
  | 0, i, h => by
    have : i = a := of_decide_eq_true h
    rw [this]; exact ha
  | t + 1, i, h => by
    have h : (itF S a t i || (neP S (itF S a t) 16 i && stS S i)) = true := h
    rw [Bool.or_eq_true, Bool.and_eq_true] at h
    exact h.elim (fun g => itF_s ha g) (fun g => g.2)
theorem stS_x {S : aS} {B i : Nat} (hI : iS B S) (hi : i < 16) (h : stS S i = true) : ∃ c, c < 140 ∧ S 3 i = nI c := by
  unfold stS at h
  rw [Bool.and_eq_true] at h
  have hx : S 3 i ≠ jM := by rw [← exS_t]; exact h.1
  obtain ⟨c, hc, ec, -⟩ := (hI.2.2.1 i hi).resolve_left hx
  exact ⟨c, hc, ec⟩
theorem cnI_zz {P : Nat → Bool} : ∀ {N : Nat}, (∀ t, t < N → P t = false) → cnI P N = 0
  | 0, _ => rfl
  | N + 1, h => by
    show cnI P N + (if P N = true then 1 else 0) = 0
    rw [cnI_zz (fun t ht => h t (by omega)), h N (Nat.lt_succ_self N)]
    rfl
theorem lw_I {P : Nat → Bool} {a : Nat} (ha : a < 16) : (nI (mkI P 16) &&& ((nI 1 <<< (nI a &&& nI 31)) - nI 1) = nI 0) = (cnI P a = 0) := by
  have h1 : 1 ≤ 2 ^ a := Nat.one_le_two_pow
  have h3 := @mkI_lt P 16
  have h4 : mkI P 16 &&& (2 ^ a - 1) ≤ mkI P 16 := Nat.and_le_left
  rw [sh_1 (by omega), pk_sub h1, an_I, nI_eq (by omega) (by decide)]
  apply propext
  constructor
  · intro h
    refine cnI_zz (fun t ht => ?_)
    have e := congrArg (fun m => m.testBit t) h
    simp only [Nat.testBit_and, Nat.testBit_two_pow_sub_one, Nat.zero_testBit] at e
    rw [mkI_bit (show t < 16 by omega), decide_eq_true ht, Bool.and_true] at e
    exact e
  · intro h
    apply Nat.eq_of_testBit_eq
    intro i
    rw [Nat.testBit_and, Nat.testBit_two_pow_sub_one, Nat.zero_testBit]
    by_cases hi : i < a
    · rw [mkI_bit (show i < 16 by omega), cnI_z h i hi]
      rfl
    · rw [decide_eq_false hi, Bool.and_false]
def jmP (S : aS) (a : Nat) : Bool := stS S a && (decide (cnI (itF S a 15) a = 0) && decide (2 ≤ cnI (itF S a 15) 16))
def jmV (S : aS) (a : Nat) : Nat := if jmP S a = true then mkI (itF S a 15) 16 else 0
section
variable {v : sV} {S : aS} {B K b cq : Nat}
theorem jf_e {a : Nat} {P : Nat → Bool} (ha : a < 16) (hst : stS S a = true) (hP : ∀ i, i < 16 → itF S a 15 i = P i) : bX0_jamFrom_53 K cq b (nI a) (nI (mkI P 16)) v = some (nI (jmV S a)) := by
  have em : mkI P 16 = mkI (itF S a 15) 16 := mkI_c (fun i hi => (hP i hi).symm)
  have hcl := @cnI_le (itF S a 15) 16
  rw [em]
  unfold bX0_jamFrom_53 bX0_jamFrom_68 jmV jmP
  rw [hst]
  by_cases h1 : cnI (itF S a 15) a = 0
  · have h1' : nI (mkI (itF S a 15) 16) &&& ((nI 1 <<< (nI a &&& nI 31)) - nI 1) = nI 0 := by rw [lw_I ha]; exact h1
    rw [if_pos (show (nI (mkI (itF S a 15) 16) &&& (((1 : Int32) <<< (nI a &&& 31)) - 1)) = 0 from h1'), if_neg (show ¬ (1 : Int32) = 0 by decide), bc_mk, bnd_some, decide_eq_true h1, Bool.true_and, Bool.true_and]
    by_cases h2 : 2 ≤ cnI (itF S a 15) 16
    · have h3 : ¬ nI (cnI (itF S a 15) 16) < nI 2 := by rw [nI_ltI (by omega) (by decide)]; omega
      rw [if_neg (show ¬ nI (cnI (itF S a 15) 16) < (2 : Int32) from h3), if_pos (decide_eq_true h2)]
    · have h3 : nI (cnI (itF S a 15) 16) < nI 2 := by rw [nI_ltI (by omega) (by decide)]; omega
      rw [if_pos (show nI (cnI (itF S a 15) 16) < (2 : Int32) from h3), if_neg (by rw [decide_eq_true_eq]; exact h2)]
      rfl
  · have h1' : ¬ nI (mkI (itF S a 15) 16) &&& ((nI 1 <<< (nI a &&& nI 31)) - nI 1) = nI 0 := by rw [lw_I ha]; exact h1
    rw [if_neg (show ¬ (nI (mkI (itF S a 15) 16) &&& (((1 : Int32) <<< (nI a &&& 31)) - 1)) = 0 from h1'), if_pos rfl, decide_eq_false h1]
    rfl
theorem jf_C (h : RelC b S v) (hI : iS B S) {a : Nat} (ha : a < 16) (hK : 16 < K) : fX0_jamFrom K cq b (nI a) (nI (mkI (stS S) 16)) v = some (nI (jmV S a)) := by
  unfold fX0_jamFrom
  have hbit : (mkI (stS S) 16).testBit a = stS S a := mkI_bit ha
  rw [in_C mk_16 (by omega), bnd_some, hbit]
  by_cases hst : stS S a = true
  · rw [if_pos hst, if_neg (show ¬ nI 1 = (0 : Int32) by decide), nm_w, show ((1 : Int32) <<< (nI a &&& 31)) = nI 1 <<< (nI a &&& nI 31) from rfl, one_mk ha]
    refine fx2_go (P := fun t x3 x4 => x4 = nI (t + 1) ∧ x3 = nI (mkI (itF S a t) 16)) (Q := fun o => o = some (nI (jmV S a))) (N := 15) ?_ ⟨rfl, rfl⟩ (by omega)
    intro t x3 x4 ht ⟨e4, e3⟩ k hk
    subst e3 e4
    unfold gX0_jamFrom_17
    by_cases ht1 : t = 15
    · subst ht1
      rw [if_pos (show (16 : Int32) ≤ nI (15 + 1) from by decide)]
      exact jf_e ha hst (fun i hi => rfl)
    · have hlt : t < 15 := by omega
      have hP : ∀ i, i < 16 → itF S a t i = true → ∃ c, c < 140 ∧ S 3 i = nI c := fun i hi g => stS_x hI hi (itF_s hst g)
      have h16 : ¬ nI 16 ≤ nI (t + 1) := by rw [nI_leI (by decide) (by omega)]; omega
      have hF : nI (mkI (itF S a t) 16) ||| (nI (mkI (neP S (itF S a t) 16) 16) &&& nI (mkI (stS S) 16)) = nI (mkI (itF S a (t + 1)) 16) := by
        rw [an_mk, or_mk]
        rfl
      rw [if_neg (show ¬ (16 : Int32) ≤ nI (t + 1) from h16), ne_C h hP hK, bnd_some, nm_w, hF]
      by_cases hfix : nI (mkI (itF S a (t + 1)) 16) = nI (mkI (itF S a t) 16)
      · rw [if_pos hfix]
        refine jf_e ha hst (fun i hi => ?_)
        have := itF_f (mk_inj hfix) (15 - t) i hi
        rw [show t + (15 - t) = 15 by omega] at this
        exact this
      · rw [if_neg hfix, nm_w]
        exact hk hlt _ _ ⟨nI_add (t + 1) 1, rfl⟩
  · rw [if_neg hst, if_pos (show nI 0 = (0 : Int32) from rfl)]
    have : jmV S a = 0 := by
      unfold jmV jmP
      rw [Bool.eq_false_iff.mpr hst, Bool.false_and, if_neg Bool.false_ne_true]
    rw [this]
    rfl
end
