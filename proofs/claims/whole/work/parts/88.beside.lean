/-! sets of agents beside -/
theorem or_II {a b : Nat} : nI a ||| nI b = nI (a ||| b) := by
  apply Int32.toBitVec_inj.mp
  rw [Int32.toBitVec_or]
  show BitVec.ofNat 32 a ||| BitVec.ofNat 32 b = BitVec.ofNat 32 (a ||| b)
  exact (BitVec.ofNat_or).symm
theorem mkI_f0 {P : Nat → Bool} (h : ∀ i, i < 16 → P i = false) : mkI P 16 = 0 := by
  rw [mkI_c (P' := fun _ => false) h]
  decide
theorem mkI_hi {P : Nat → Bool} {i : Nat} (h : ¬ i < 16) : (mkI P 16).testBit i = false := Nat.testBit_lt_two_pow (Nat.lt_of_lt_of_le mkI_lt (Nat.pow_le_pow_right (by decide) (by omega)))
theorem or_mk {P Q : Nat → Bool} : nI (mkI P 16) ||| nI (mkI Q 16) = nI (mkI (fun i => P i || Q i) 16) := by
  rw [or_II]
  congr 1
  apply Nat.eq_of_testBit_eq
  intro i
  rw [Nat.testBit_or]
  by_cases hi : i < 16
  · rw [mkI_bit hi, mkI_bit hi, mkI_bit hi]
  · rw [mkI_hi hi, mkI_hi hi, mkI_hi hi]
    rfl
theorem an_mk {P Q : Nat → Bool} : nI (mkI P 16) &&& nI (mkI Q 16) = nI (mkI (fun i => P i && Q i) 16) := by
  rw [an_I]
  congr 1
  apply Nat.eq_of_testBit_eq
  intro i
  rw [Nat.testBit_and]
  by_cases hi : i < 16
  · rw [mkI_bit hi, mkI_bit hi, mkI_bit hi]
  · rw [mkI_hi hi, mkI_hi hi, mkI_hi hi]
    rfl
theorem one_mk {a : Nat} (ha : a < 16) : nI 1 <<< (nI a &&& nI 31) = nI (mkI (fun i => decide (i = a)) 16) := by
  rw [sh_1 (by omega)]
  congr 1
  apply Nat.eq_of_testBit_eq
  intro i
  rw [Nat.testBit_two_pow]
  by_cases hi : i < 16
  · rw [mkI_bit hi]
    by_cases h : a = i
    · rw [decide_eq_true h, decide_eq_true h.symm]
    · rw [decide_eq_false h, decide_eq_false (fun g => h g.symm)]
  · rw [mkI_hi hi, decide_eq_false (by omega)]
theorem mk_inj {P Q : Nat → Bool} (h : nI (mkI P 16) = nI (mkI Q 16)) : ∀ i, i < 16 → P i = Q i := by
  intro i hi
  have h1 := @mkI_lt P 16
  have h2 := @mkI_lt Q 16
  rw [nI_eq (by omega) (by omega)] at h
  rw [← @mkI_bit P 16 i hi, ← @mkI_bit Q 16 i hi, h]
def nbA (S : aS) (c d : Nat) : Option Nat := (nbO c d).bind (agOn S)
def beP (S : aS) (c : Nat) : Nat → Nat → Bool
  | 0, _ => false
  | d + 1, b => decide (nbA S c d = some b) || beP S c d b
theorem beP_i {S : aS} {c b : Nat} : ∀ {D : Nat}, (beP S c D b = true) ↔ ∃ d, d < D ∧ nbA S c d = some b
  | 0 => ⟨(fun g => by cases g), fun ⟨d, hd, _⟩ => absurd hd (Nat.not_lt_zero d)⟩
  | D + 1 => by
    have ih := @beP_i S c b D
    show (decide (nbA S c D = some b) || beP S c D b) = true ↔ _
    rw [Bool.or_eq_true, decide_eq_true_eq, ih]
    constructor
    · intro h
      rcases h with h | ⟨d, hd, e⟩
      · exact ⟨D, Nat.lt_succ_self D, h⟩
      · exact ⟨d, Nat.lt_succ_of_lt hd, e⟩
    · intro ⟨d, hd, e⟩
      by_cases hdD : d = D
      · rw [hdD] at e; exact Or.inl e
      · exact Or.inr ⟨d, by omega, e⟩
section
variable {v : sV} {S : aS} {B K b cq : Nat}
theorem be_C (h : RelC b S v) {c : Nat} (hc : c < 140) (hK : 16 < K) : fX0_agentsBeside K cq b (nI c) v = some (nI (mkI (beP S c 4) 16)) := by
  unfold fX0_agentsBeside
  refine fx2_go (P := fun t x2 x3 => x3 = nI t ∧ x2 = nI (mkI (beP S c t) 16)) (Q := fun o => o = some (nI (mkI (beP S c 4) 16))) (N := 4) ?_ ⟨rfl, by rw [mkI_f0 (P := beP S c 0) (fun i hi => rfl)]; rfl⟩ (by omega)
  intro t x2 x3 ht ⟨e3, e2⟩ k hk
  subst e2 e3
  unfold gX0_agentsBeside_4
  by_cases ht1 : t = 4
  · subst ht1
    simp (disch := omega) only [↓jM_e, li_0, li_1, li_2, li_3, li_4, li_5, li_6, li_7, li_8, li_9, li_10, li_13, li_14, li_15, li_16, li_31, li_35, li_47, li_48, li_49, li_50, li_57, li_99, li_100, li_126, li_139, li_140, li_149, li_150, li_280, li_284, li_285, li_290, li_434, li_1260, li_3472, li_9999, li_65536, nm, nm_w, sf_w, cp_w, ld_I, sa_I, nI_add, pk_mul, Nat.zero_add, nI_leI, nI_ltI, nI_eq, nI_neM, M_neI, nI_ltM, nI_nltM, M_ltI, M_leI, nI_nleM, bnd_some, if_pos, if_neg, dif_t, dif_f]
  · have hlt : t < 4 := by omega
    have hno : nbA S c t = none → nI (mkI (beP S c t) 16) = nI (mkI (beP S c (t + 1)) 16) := by
      intro g
      congr 1
      refine mkI_c (fun i hi => ?_)
      show beP S c t i = (decide (nbA S c t = some i) || beP S c t i)
      rw [g, decide_eq_false (fun q => by cases q), Bool.false_or]
    cases hn : nbO c t with
    | none =>
      have hA : nbA S c t = none := by unfold nbA; rw [hn]; rfl
      simp (disch := omega) only [↓jM_e, li_0, li_1, li_2, li_3, li_4, li_5, li_6, li_7, li_8, li_9, li_10, li_13, li_14, li_15, li_16, li_31, li_35, li_47, li_48, li_49, li_50, li_57, li_99, li_100, li_126, li_139, li_140, li_149, li_150, li_280, li_284, li_285, li_290, li_434, li_1260, li_3472, li_9999, li_65536, nm, nm_w, sf_w, cp_w, ld_I, sa_I, nI_add, pk_mul, Nat.zero_add, nI_leI, nI_ltI, nI_eq, nI_neM, M_neI, nI_ltM, nI_nltM, M_ltI, M_leI, nI_nleM, bnd_some, if_pos, if_neg, dif_t, dif_f, nb_C hc hlt, hn, oI, ag_CM hK]
      exact hk hlt _ _ ⟨rfl, hno hA⟩
    | some q =>
      have hq := nb_lt hc hn
      cases ha : agOn S q with
      | none =>
        have hA : nbA S c t = none := by unfold nbA; rw [hn]; exact ha
        simp (disch := omega) only [↓jM_e, li_0, li_1, li_2, li_3, li_4, li_5, li_6, li_7, li_8, li_9, li_10, li_13, li_14, li_15, li_16, li_31, li_35, li_47, li_48, li_49, li_50, li_57, li_99, li_100, li_126, li_139, li_140, li_149, li_150, li_280, li_284, li_285, li_290, li_434, li_1260, li_3472, li_9999, li_65536, nm, nm_w, sf_w, cp_w, ld_I, sa_I, nI_add, pk_mul, Nat.zero_add, nI_leI, nI_ltI, nI_eq, nI_neM, M_neI, nI_ltM, nI_nltM, M_ltI, M_leI, nI_nleM, bnd_some, if_pos, if_neg, dif_t, dif_f, nb_C hc hlt, hn, oI, ag_C h hq hK, ha]
        exact hk hlt _ _ ⟨rfl, hno hA⟩
      | some a =>
        have ha16 := (agOn_lt ha).1
        have hA : nbA S c t = some a := by unfold nbA; rw [hn]; exact ha
        simp (disch := omega) only [↓jM_e, li_0, li_1, li_2, li_3, li_4, li_5, li_6, li_7, li_8, li_9, li_10, li_13, li_14, li_15, li_16, li_31, li_35, li_47, li_48, li_49, li_50, li_57, li_99, li_100, li_126, li_139, li_140, li_149, li_150, li_280, li_284, li_285, li_290, li_434, li_1260, li_3472, li_9999, li_65536, nm, nm_w, sf_w, cp_w, ld_I, sa_I, nI_add, pk_mul, Nat.zero_add, nI_leI, nI_ltI, nI_eq, nI_neM, M_neI, nI_ltM, nI_nltM, M_ltI, M_leI, nI_nleM, bnd_some, if_pos, if_neg, dif_t, dif_f, nb_C hc hlt, hn, oI, ag_C h hq hK, ha]
        refine hk hlt _ _ ⟨rfl, ?_⟩
        rw [or_I mkI_lt ha16, mk_set ha16]
        congr 1
        refine mkI_c (fun i hi => ?_)
        show (decide (i = a) || beP S c t i) = (decide (nbA S c t = some i) || beP S c t i)
        rw [hA]
        by_cases hia : i = a
        · rw [hia, decide_eq_true rfl, decide_eq_true rfl]
        · rw [decide_eq_false hia, decide_eq_false (fun g => hia (Option.some.inj g).symm)]
def neP (S : aS) (P : Nat → Bool) : Nat → Nat → Bool
  | 0, _ => false
  | t + 1, i => neP S P t i || (P t && beP S (clI (S 3 t)) 4 i)
theorem ne_C (h : RelC b S v) {P : Nat → Bool} (hP : ∀ a, a < 16 → P a = true → ∃ c, c < 140 ∧ S 3 a = nI c) (hK : 16 < K) : fX0_neighborsOf K cq b (nI (mkI P 16)) v = some (nI (mkI (neP S P 16) 16)) := by
  unfold fX0_neighborsOf
  refine fx2_go (P := fun t x2 x3 => x3 = nI t ∧ x2 = nI (mkI (neP S P t) 16)) (Q := fun o => o = some (nI (mkI (neP S P 16) 16))) (N := 16) ?_ ⟨rfl, by rw [mkI_f0 (P := neP S P 0) (fun i hi => rfl)]; rfl⟩ hK
  intro t x2 x3 ht ⟨e3, e2⟩ k hk
  subst e2 e3
  unfold gX0_neighborsOf_4
  by_cases ht1 : t = 16
  · subst ht1
    simp (disch := omega) only [↓jM_e, li_0, li_1, li_2, li_3, li_4, li_5, li_6, li_7, li_8, li_9, li_10, li_13, li_14, li_15, li_16, li_31, li_35, li_47, li_48, li_49, li_50, li_57, li_99, li_100, li_126, li_139, li_140, li_149, li_150, li_280, li_284, li_285, li_290, li_434, li_1260, li_3472, li_9999, li_65536, nm, nm_w, sf_w, cp_w, ld_I, sa_I, nI_add, pk_mul, Nat.zero_add, nI_leI, nI_ltI, nI_eq, nI_neM, M_neI, nI_ltM, nI_nltM, M_ltI, M_leI, nI_nleM, bnd_some, if_pos, if_neg, dif_t, dif_f]
  · have hlt : t < 16 := by omega
    have hbit : (mkI P 16).testBit t = P t := mkI_bit hlt
    by_cases hp : P t = true
    · obtain ⟨c, hc, ec⟩ := hP t hlt hp
      have e4 : v (b + 4) t = nI c := (rc3 h hlt).trans ec
      simp (disch := omega) only [↓jM_e, li_0, li_1, li_2, li_3, li_4, li_5, li_6, li_7, li_8, li_9, li_10, li_13, li_14, li_15, li_16, li_31, li_35, li_47, li_48, li_49, li_50, li_57, li_99, li_100, li_126, li_139, li_140, li_149, li_150, li_280, li_284, li_285, li_290, li_434, li_1260, li_3472, li_9999, li_65536, nm, nm_w, sf_w, cp_w, ld_I, sa_I, nI_add, pk_mul, Nat.zero_add, nI_leI, nI_ltI, nI_eq, nI_neM, M_neI, nI_ltM, nI_nltM, M_ltI, M_leI, nI_nleM, bnd_some, if_pos, if_neg, dif_t, dif_f, in_C mk_16, hbit, if_pos hp, e4, be_C h hc hK, or_mk]
      refine hk hlt _ _ ⟨rfl, ?_⟩
      congr 1
      refine mkI_c (fun i hi => ?_)
      show (neP S P t i || beP S c 4 i) = (neP S P t i || (P t && beP S (clI (S 3 t)) 4 i))
      rw [hp, ec, clI_n (by omega), Bool.true_and]
    · simp (disch := omega) only [↓jM_e, li_0, li_1, li_2, li_3, li_4, li_5, li_6, li_7, li_8, li_9, li_10, li_13, li_14, li_15, li_16, li_31, li_35, li_47, li_48, li_49, li_50, li_57, li_99, li_100, li_126, li_139, li_140, li_149, li_150, li_280, li_284, li_285, li_290, li_434, li_1260, li_3472, li_9999, li_65536, nm, nm_w, sf_w, cp_w, ld_I, sa_I, nI_add, pk_mul, Nat.zero_add, nI_leI, nI_ltI, nI_eq, nI_neM, M_neI, nI_ltM, nI_nltM, M_ltI, M_leI, nI_nleM, bnd_some, if_pos, if_neg, dif_t, dif_f, in_C mk_16, hbit, if_neg hp]
      refine hk hlt _ _ ⟨rfl, ?_⟩
      congr 1
      refine mkI_c (fun i hi => ?_)
      show neP S P t i = (neP S P t i || (P t && beP S (clI (S 3 t)) 4 i))
      rw [Bool.eq_false_iff.mpr hp, Bool.false_and, Bool.or_false]
end
