/-! SETS OF AGENTS -/
section
variable {S : aS} {B K b cq : Nat} {v : sV}
theorem al_C (h : RelC b S v) (hK : 16 < K) : fX0_all K cq b v = some (nI (mkI (exS S) 16)) := by
  unfold fX0_all
  refine fx2_go (P := fun t x1 x2 => x2 = nI t ∧ x1 = nI (mkI (exS S) t)) (Q := fun o => o = some (nI (mkI (exS S) 16))) (N := 16) ?_ ⟨rfl, rfl⟩ hK
  intro t x1 x2 ht ⟨e1, e2⟩ k hk
  subst e1 e2
  unfold gX0_all_4
  by_cases ht1 : t = 16
  · subst ht1
    simp (disch := omega) only [↓jM_e, li_0, li_1, li_2, li_3, li_4, li_5, li_6, li_7, li_8, li_9, li_10, li_13, li_14, li_15, li_16, li_31, li_35, li_47, li_48, li_49, li_50, li_57, li_99, li_100, li_126, li_139, li_140, li_149, li_150, li_280, li_284, li_285, li_290, li_434, li_1260, li_3472, li_9999, li_65536, nm, nm_w, sf_w, cp_w, ld_I, sa_I, nI_add, pk_mul, Nat.zero_add, nI_leI, nI_ltI, nI_eq, nI_neM, M_neI, nI_ltM, nI_nltM, M_ltI, M_leI, nI_nleM, bnd_some, if_pos, if_neg, dif_t, dif_f]
  · have ht2 : t < 16 := by omega
    have hs : mkI (exS S) (t + 1) = mkI (exS S) t + (if (exS S) t = true then 2 ^ t else 0) := rfl
    by_cases hx : exS S t = true
    · have hor := mkI_or (P := exS S) (t := t) (by omega) hx
      simp (disch := omega) only [↓jM_e, li_0, li_1, li_2, li_3, li_4, li_5, li_6, li_7, li_8, li_9, li_10, li_13, li_14, li_15, li_16, li_31, li_35, li_47, li_48, li_49, li_50, li_57, li_99, li_100, li_126, li_139, li_140, li_149, li_150, li_280, li_284, li_285, li_290, li_434, li_1260, li_3472, li_9999, li_65536, nm, nm_w, sf_w, cp_w, ld_I, sa_I, nI_add, pk_mul, Nat.zero_add, nI_leI, nI_ltI, nI_eq, nI_neM, M_neI, nI_ltM, nI_nltM, M_ltI, M_leI, nI_nleM, bnd_some, if_pos, if_neg, dif_t, dif_f, ex_C h ht2, if_pos hx, hor]
      exact hk ht2 _ _ ⟨rfl, rfl⟩
    · simp (disch := omega) only [↓jM_e, li_0, li_1, li_2, li_3, li_4, li_5, li_6, li_7, li_8, li_9, li_10, li_13, li_14, li_15, li_16, li_31, li_35, li_47, li_48, li_49, li_50, li_57, li_99, li_100, li_126, li_139, li_140, li_149, li_150, li_280, li_284, li_285, li_290, li_434, li_1260, li_3472, li_9999, li_65536, nm, nm_w, sf_w, cp_w, ld_I, sa_I, nI_add, pk_mul, Nat.zero_add, nI_leI, nI_ltI, nI_eq, nI_neM, M_neI, nI_ltM, nI_nltM, M_ltI, M_leI, nI_nleM, bnd_some, if_pos, if_neg, dif_t, dif_f, ex_C h ht2, if_neg hx]
      exact hk ht2 _ _ ⟨rfl, by rw [hs, if_neg hx]; rfl⟩
theorem so_C (h : RelC b S v) (hI : iS B S) (hK : 16 < K) : fX0_settledOnes K cq b v = some (nI (mkI (fun a => exS S a && seS S a) 16)) := by
  unfold fX0_settledOnes
  refine fx2_go (P := fun t x1 x2 => x2 = nI t ∧ x1 = nI (mkI (fun a => exS S a && seS S a) t)) (Q := fun o => o = some (nI (mkI (fun a => exS S a && seS S a) 16))) (N := 16) ?_ ⟨rfl, rfl⟩ hK
  intro t x1 x2 ht ⟨e1, e2⟩ k hk
  subst e1 e2
  unfold gX0_settledOnes_4
  by_cases ht1 : t = 16
  · subst ht1
    simp (disch := omega) only [↓jM_e, li_0, li_1, li_2, li_3, li_4, li_5, li_6, li_7, li_8, li_9, li_10, li_13, li_14, li_15, li_16, li_31, li_35, li_47, li_48, li_49, li_50, li_57, li_99, li_100, li_126, li_139, li_140, li_149, li_150, li_280, li_284, li_285, li_290, li_434, li_1260, li_3472, li_9999, li_65536, nm, nm_w, sf_w, cp_w, ld_I, sa_I, nI_add, pk_mul, Nat.zero_add, nI_leI, nI_ltI, nI_eq, nI_neM, M_neI, nI_ltM, nI_nltM, M_ltI, M_leI, nI_nleM, bnd_some, if_pos, if_neg, dif_t, dif_f]
  · have ht2 : t < 16 := by omega
    have hs : mkI (fun a => exS S a && seS S a) (t + 1) = mkI (fun a => exS S a && seS S a) t + (if (fun a => exS S a && seS S a) t = true then 2 ^ t else 0) := rfl
    by_cases hx : exS S t = true
    · have hxS : S 3 t ≠ jM := by rw [exS_t] at hx; exact hx
      by_cases hp : seS S t = true
      · have hb : (exS S t && seS S t) = true := by rw [hx, hp]; rfl
        have hor := mkI_or (P := fun a => exS S a && seS S a) (t := t) (by omega) hb
        simp (disch := omega) only [↓jM_e, li_0, li_1, li_2, li_3, li_4, li_5, li_6, li_7, li_8, li_9, li_10, li_13, li_14, li_15, li_16, li_31, li_35, li_47, li_48, li_49, li_50, li_57, li_99, li_100, li_126, li_139, li_140, li_149, li_150, li_280, li_284, li_285, li_290, li_434, li_1260, li_3472, li_9999, li_65536, nm, nm_w, sf_w, cp_w, ld_I, sa_I, nI_add, pk_mul, Nat.zero_add, nI_leI, nI_ltI, nI_eq, nI_neM, M_neI, nI_ltM, nI_nltM, M_ltI, M_leI, nI_nleM, bnd_some, if_pos, if_neg, dif_t, dif_f, ex_C h ht2, if_pos hx, se_C h hI ht2 hxS, if_pos hp, hor]
        exact hk ht2 _ _ ⟨rfl, rfl⟩
      · simp (disch := omega) only [↓jM_e, li_0, li_1, li_2, li_3, li_4, li_5, li_6, li_7, li_8, li_9, li_10, li_13, li_14, li_15, li_16, li_31, li_35, li_47, li_48, li_49, li_50, li_57, li_99, li_100, li_126, li_139, li_140, li_149, li_150, li_280, li_284, li_285, li_290, li_434, li_1260, li_3472, li_9999, li_65536, nm, nm_w, sf_w, cp_w, ld_I, sa_I, nI_add, pk_mul, Nat.zero_add, nI_leI, nI_ltI, nI_eq, nI_neM, M_neI, nI_ltM, nI_nltM, M_ltI, M_leI, nI_nleM, bnd_some, if_pos, if_neg, dif_t, dif_f, ex_C h ht2, if_pos hx, se_C h hI ht2 hxS, if_neg hp]
        exact hk ht2 _ _ ⟨rfl, by rw [hs, if_neg (by simp [hp])]; rfl⟩
    · simp (disch := omega) only [↓jM_e, li_0, li_1, li_2, li_3, li_4, li_5, li_6, li_7, li_8, li_9, li_10, li_13, li_14, li_15, li_16, li_31, li_35, li_47, li_48, li_49, li_50, li_57, li_99, li_100, li_126, li_139, li_140, li_149, li_150, li_280, li_284, li_285, li_290, li_434, li_1260, li_3472, li_9999, li_65536, nm, nm_w, sf_w, cp_w, ld_I, sa_I, nI_add, pk_mul, Nat.zero_add, nI_leI, nI_ltI, nI_eq, nI_neM, M_neI, nI_ltM, nI_nltM, M_ltI, M_leI, nI_nleM, bnd_some, if_pos, if_neg, dif_t, dif_f, ex_C h ht2, if_neg hx]
      exact hk ht2 _ _ ⟨rfl, by rw [hs, if_neg (by simp [hx])]; rfl⟩
def stS (S : aS) (a : Nat) : Bool := exS S a && !decide (S 7 a < nI 2)
theorem sk_C (h : RelC b S v) (hK : 16 < K) : fX0_stuckOnes K cq b v = some (nI (mkI (stS S) 16)) := by
  unfold fX0_stuckOnes
  refine fx2_go (P := fun t x1 x2 => x2 = nI t ∧ x1 = nI (mkI (stS S) t)) (Q := fun o => o = some (nI (mkI (stS S) 16))) (N := 16) ?_ ⟨rfl, rfl⟩ hK
  intro t x1 x2 ht ⟨e1, e2⟩ k hk
  subst e1 e2
  unfold gX0_stuckOnes_4
  by_cases ht1 : t = 16
  · subst ht1
    simp (disch := omega) only [↓jM_e, li_0, li_1, li_2, li_3, li_4, li_5, li_6, li_7, li_8, li_9, li_10, li_13, li_14, li_15, li_16, li_31, li_35, li_47, li_48, li_49, li_50, li_57, li_99, li_100, li_126, li_139, li_140, li_149, li_150, li_280, li_284, li_285, li_290, li_434, li_1260, li_3472, li_9999, li_65536, nm, nm_w, sf_w, cp_w, ld_I, sa_I, nI_add, pk_mul, Nat.zero_add, nI_leI, nI_ltI, nI_eq, nI_neM, M_neI, nI_ltM, nI_nltM, M_ltI, M_leI, nI_nleM, bnd_some, if_pos, if_neg, dif_t, dif_f]
  · have ht2 : t < 16 := by omega
    have hs : mkI (stS S) (t + 1) = mkI (stS S) t + (if (stS S) t = true then 2 ^ t else 0) := rfl
    by_cases hx : exS S t = true
    · by_cases hp : S 7 t < nI 2
      · simp (disch := omega) only [↓jM_e, li_0, li_1, li_2, li_3, li_4, li_5, li_6, li_7, li_8, li_9, li_10, li_13, li_14, li_15, li_16, li_31, li_35, li_47, li_48, li_49, li_50, li_57, li_99, li_100, li_126, li_139, li_140, li_149, li_150, li_280, li_284, li_285, li_290, li_434, li_1260, li_3472, li_9999, li_65536, nm, nm_w, sf_w, cp_w, ld_I, sa_I, nI_add, pk_mul, Nat.zero_add, nI_leI, nI_ltI, nI_eq, nI_neM, M_neI, nI_ltM, nI_nltM, M_ltI, M_leI, nI_nleM, bnd_some, if_pos, if_neg, dif_t, dif_f, ex_C h ht2, if_pos hx, rc7 h ht2, if_pos hp]
        exact hk ht2 _ _ ⟨rfl, by rw [hs, if_neg (by simp [stS, hp])]; rfl⟩
      · have hb : stS S t = true := by simp [stS, hx, hp]
        have hor := mkI_or (P := stS S) (t := t) (by omega) hb
        simp (disch := omega) only [↓jM_e, li_0, li_1, li_2, li_3, li_4, li_5, li_6, li_7, li_8, li_9, li_10, li_13, li_14, li_15, li_16, li_31, li_35, li_47, li_48, li_49, li_50, li_57, li_99, li_100, li_126, li_139, li_140, li_149, li_150, li_280, li_284, li_285, li_290, li_434, li_1260, li_3472, li_9999, li_65536, nm, nm_w, sf_w, cp_w, ld_I, sa_I, nI_add, pk_mul, Nat.zero_add, nI_leI, nI_ltI, nI_eq, nI_neM, M_neI, nI_ltM, nI_nltM, M_ltI, M_leI, nI_nleM, bnd_some, if_pos, if_neg, dif_t, dif_f, ex_C h ht2, if_pos hx, rc7 h ht2, if_neg hp, hor]
        exact hk ht2 _ _ ⟨rfl, rfl⟩
    · simp (disch := omega) only [↓jM_e, li_0, li_1, li_2, li_3, li_4, li_5, li_6, li_7, li_8, li_9, li_10, li_13, li_14, li_15, li_16, li_31, li_35, li_47, li_48, li_49, li_50, li_57, li_99, li_100, li_126, li_139, li_140, li_149, li_150, li_280, li_284, li_285, li_290, li_434, li_1260, li_3472, li_9999, li_65536, nm, nm_w, sf_w, cp_w, ld_I, sa_I, nI_add, pk_mul, Nat.zero_add, nI_leI, nI_ltI, nI_eq, nI_neM, M_neI, nI_ltM, nI_nltM, M_ltI, M_leI, nI_nleM, bnd_some, if_pos, if_neg, dif_t, dif_f, ex_C h ht2, if_neg hx]
      exact hk ht2 _ _ ⟨rfl, by rw [hs, if_neg (by simp [stS, hx])]; rfl⟩
theorem mo_C (h : RelC b S v) (hK : 16 < K) : fX0_memberOnes K cq b v = some (nI (mkI (fun a => !decide (S 8 a = jM)) 16)) := by
  unfold fX0_memberOnes
  refine fx2_go (P := fun t x1 x2 => x2 = nI t ∧ x1 = nI (mkI (fun a => !decide (S 8 a = jM)) t)) (Q := fun o => o = some (nI (mkI (fun a => !decide (S 8 a = jM)) 16))) (N := 16) ?_ ⟨rfl, rfl⟩ hK
  intro t x1 x2 ht ⟨e1, e2⟩ k hk
  subst e1 e2
  unfold gX0_memberOnes_4
  by_cases ht1 : t = 16
  · subst ht1
    simp (disch := omega) only [↓jM_e, li_0, li_1, li_2, li_3, li_4, li_5, li_6, li_7, li_8, li_9, li_10, li_13, li_14, li_15, li_16, li_31, li_35, li_47, li_48, li_49, li_50, li_57, li_99, li_100, li_126, li_139, li_140, li_149, li_150, li_280, li_284, li_285, li_290, li_434, li_1260, li_3472, li_9999, li_65536, nm, nm_w, sf_w, cp_w, ld_I, sa_I, nI_add, pk_mul, Nat.zero_add, nI_leI, nI_ltI, nI_eq, nI_neM, M_neI, nI_ltM, nI_nltM, M_ltI, M_leI, nI_nleM, bnd_some, if_pos, if_neg, dif_t, dif_f]
  · have ht2 : t < 16 := by omega
    have hs : mkI (fun a => !decide (S 8 a = jM)) (t + 1) = mkI (fun a => !decide (S 8 a = jM)) t + (if (fun a => !decide (S 8 a = jM)) t = true then 2 ^ t else 0) := rfl
    by_cases hp : S 8 t = jM
    · simp (disch := omega) only [↓jM_e, li_0, li_1, li_2, li_3, li_4, li_5, li_6, li_7, li_8, li_9, li_10, li_13, li_14, li_15, li_16, li_31, li_35, li_47, li_48, li_49, li_50, li_57, li_99, li_100, li_126, li_139, li_140, li_149, li_150, li_280, li_284, li_285, li_290, li_434, li_1260, li_3472, li_9999, li_65536, nm, nm_w, sf_w, cp_w, ld_I, sa_I, nI_add, pk_mul, Nat.zero_add, nI_leI, nI_ltI, nI_eq, nI_neM, M_neI, nI_ltM, nI_nltM, M_ltI, M_leI, nI_nleM, bnd_some, if_pos, if_neg, dif_t, dif_f, im_C h ht2, if_pos hp]
      exact hk ht2 _ _ ⟨rfl, by rw [hs, if_neg (by simp [hp])]; rfl⟩
    · have hb : (!decide (S 8 t = jM)) = true := by simp [hp]
      have hor := mkI_or (P := fun a => !decide (S 8 a = jM)) (t := t) (by omega) hb
      simp (disch := omega) only [↓jM_e, li_0, li_1, li_2, li_3, li_4, li_5, li_6, li_7, li_8, li_9, li_10, li_13, li_14, li_15, li_16, li_31, li_35, li_47, li_48, li_49, li_50, li_57, li_99, li_100, li_126, li_139, li_140, li_149, li_150, li_280, li_284, li_285, li_290, li_434, li_1260, li_3472, li_9999, li_65536, nm, nm_w, sf_w, cp_w, ld_I, sa_I, nI_add, pk_mul, Nat.zero_add, nI_leI, nI_ltI, nI_eq, nI_neM, M_neI, nI_ltM, nI_nltM, M_ltI, M_leI, nI_nleM, bnd_some, if_pos, if_neg, dif_t, dif_f, im_C h ht2, if_neg hp, hor]
      exact hk ht2 _ _ ⟨rfl, rfl⟩
theorem me_C {l : Nat} (h : RelC b S v) (hK : 16 < K) : fX0_membersOf K cq b (nI l) v = some (nI (mkI (fun a => decide (S 8 a = nI l)) 16)) := by
  unfold fX0_membersOf
  refine fx2_go (P := fun t x1 x2 => x2 = nI t ∧ x1 = nI (mkI (fun a => decide (S 8 a = nI l)) t)) (Q := fun o => o = some (nI (mkI (fun a => decide (S 8 a = nI l)) 16))) (N := 16) ?_ ⟨rfl, rfl⟩ hK
  intro t x1 x2 ht ⟨e1, e2⟩ k hk
  subst e1 e2
  unfold gX0_membersOf_4
  by_cases ht1 : t = 16
  · subst ht1
    simp (disch := omega) only [↓jM_e, li_0, li_1, li_2, li_3, li_4, li_5, li_6, li_7, li_8, li_9, li_10, li_13, li_14, li_15, li_16, li_31, li_35, li_47, li_48, li_49, li_50, li_57, li_99, li_100, li_126, li_139, li_140, li_149, li_150, li_280, li_284, li_285, li_290, li_434, li_1260, li_3472, li_9999, li_65536, nm, nm_w, sf_w, cp_w, ld_I, sa_I, nI_add, pk_mul, Nat.zero_add, nI_leI, nI_ltI, nI_eq, nI_neM, M_neI, nI_ltM, nI_nltM, M_ltI, M_leI, nI_nleM, bnd_some, if_pos, if_neg, dif_t, dif_f]
  · have ht2 : t < 16 := by omega
    have hs : mkI (fun a => decide (S 8 a = nI l)) (t + 1) = mkI (fun a => decide (S 8 a = nI l)) t + (if (fun a => decide (S 8 a = nI l)) t = true then 2 ^ t else 0) := rfl
    by_cases hp : S 8 t = nI l
    · have hb : decide (S 8 t = nI l) = true := decide_eq_true hp
      have hor := mkI_or (P := fun a => decide (S 8 a = nI l)) (t := t) (by omega) hb
      simp (disch := omega) only [↓jM_e, li_0, li_1, li_2, li_3, li_4, li_5, li_6, li_7, li_8, li_9, li_10, li_13, li_14, li_15, li_16, li_31, li_35, li_47, li_48, li_49, li_50, li_57, li_99, li_100, li_126, li_139, li_140, li_149, li_150, li_280, li_284, li_285, li_290, li_434, li_1260, li_3472, li_9999, li_65536, nm, nm_w, sf_w, cp_w, ld_I, sa_I, nI_add, pk_mul, Nat.zero_add, nI_leI, nI_ltI, nI_eq, nI_neM, M_neI, nI_ltM, nI_nltM, M_ltI, M_leI, nI_nleM, bnd_some, if_pos, if_neg, dif_t, dif_f, rc8 h ht2, if_pos hp, hor]
      exact hk ht2 _ _ ⟨rfl, rfl⟩
    · simp (disch := omega) only [↓jM_e, li_0, li_1, li_2, li_3, li_4, li_5, li_6, li_7, li_8, li_9, li_10, li_13, li_14, li_15, li_16, li_31, li_35, li_47, li_48, li_49, li_50, li_57, li_99, li_100, li_126, li_139, li_140, li_149, li_150, li_280, li_284, li_285, li_290, li_434, li_1260, li_3472, li_9999, li_65536, nm, nm_w, sf_w, cp_w, ld_I, sa_I, nI_add, pk_mul, Nat.zero_add, nI_leI, nI_ltI, nI_eq, nI_neM, M_neI, nI_ltM, nI_nltM, M_ltI, M_leI, nI_nleM, bnd_some, if_pos, if_neg, dif_t, dif_f, rc8 h ht2, if_neg hp]
      exact hk ht2 _ _ ⟨rfl, by rw [hs, if_neg (by simp [hp])]; rfl⟩
def ldP (S : aS) (t l : Nat) : Bool := decide (0 < cnI (fun m => decide (S 8 m = nI l)) t)
theorem lo_C (h : RelC b S v) (hI : iS B S) (hK : 16 < K) : fX0_leadingOnes K cq b v = some (nI (mkI (ldP S 16) 16)) := by
  unfold fX0_leadingOnes
  refine fx2_go (P := fun t x1 x2 => x2 = nI t ∧ x1 = nI (mkI (ldP S t) 16)) (Q := fun o => o = some (nI (mkI (ldP S 16) 16))) (N := 16) ?_ ⟨rfl, by rw [mkI_c (P' := fun _ => false) (fun t _ => by unfold ldP; rfl), show mkI (fun _ => false) 16 = 0 from by decide]; rfl⟩ hK
  intro t x1 x2 ht ⟨e1, e2⟩ k hk
  subst e1 e2
  unfold gX0_leadingOnes_4
  by_cases ht1 : t = 16
  · subst ht1
    simp (disch := omega) only [↓jM_e, li_0, li_1, li_2, li_3, li_4, li_5, li_6, li_7, li_8, li_9, li_10, li_13, li_14, li_15, li_16, li_31, li_35, li_47, li_48, li_49, li_50, li_57, li_99, li_100, li_126, li_139, li_140, li_149, li_150, li_280, li_284, li_285, li_290, li_434, li_1260, li_3472, li_9999, li_65536, nm, nm_w, sf_w, cp_w, ld_I, sa_I, nI_add, pk_mul, Nat.zero_add, nI_leI, nI_ltI, nI_eq, nI_neM, M_neI, nI_ltM, nI_nltM, M_ltI, M_leI, nI_nleM, bnd_some, if_pos, if_neg, dif_t, dif_f]
  · have ht2 : t < 16 := by omega
    have hs : ∀ l, cnI (fun m => decide (S 8 m = nI l)) (t + 1) = cnI (fun m => decide (S 8 m = nI l)) t + (if decide (S 8 t = nI l) = true then 1 else 0) := fun l => rfl
    by_cases hp : S 8 t = jM
    · simp (disch := omega) only [↓jM_e, li_0, li_1, li_2, li_3, li_4, li_5, li_6, li_7, li_8, li_9, li_10, li_13, li_14, li_15, li_16, li_31, li_35, li_47, li_48, li_49, li_50, li_57, li_99, li_100, li_126, li_139, li_140, li_149, li_150, li_280, li_284, li_285, li_290, li_434, li_1260, li_3472, li_9999, li_65536, nm, nm_w, sf_w, cp_w, ld_I, sa_I, nI_add, pk_mul, Nat.zero_add, nI_leI, nI_ltI, nI_eq, nI_neM, M_neI, nI_ltM, nI_nltM, M_ltI, M_leI, nI_nleM, bnd_some, if_pos, if_neg, dif_t, dif_f, im_C h ht2, if_pos hp]
      refine hk ht2 _ _ ⟨rfl, ?_⟩
      congr 1
      refine mkI_c (fun l hl => ?_)
      unfold ldP
      rw [hs l, if_neg (by rw [decide_eq_true_eq, hp, M_neI (by omega)]; exact id)]
      rfl
    · have hx : S 3 t ≠ jM := fun e => hp (hI.2.2.2.2.1 t ht2 e)
      obtain ⟨l, hl, el, -⟩ := ((hI.2.2.2.1 t ht2 hx).2.2.2).resolve_left hp
      have e8 : v (b + 9) t = nI l := (rc8 h ht2).trans el
      have hor : nI (mkI (ldP S t) 16) ||| nI 1 <<< (nI l &&& nI 31) = nI (mkI (ldP S (t + 1)) 16) := by
        rw [or_I mkI_lt hl, mk_set hl]
        congr 1
        refine mkI_c (fun l' hl' => ?_)
        unfold puU ldP
        rw [hs l']
        by_cases hll : l' = l
        · subst hll
          simp [el]
        · have hne : ¬ S 8 t = nI l' := by rw [el, nI_eq (by omega) (by omega)]; omega
          simp [hll, hne]
      simp (disch := omega) only [↓jM_e, li_0, li_1, li_2, li_3, li_4, li_5, li_6, li_7, li_8, li_9, li_10, li_13, li_14, li_15, li_16, li_31, li_35, li_47, li_48, li_49, li_50, li_57, li_99, li_100, li_126, li_139, li_140, li_149, li_150, li_280, li_284, li_285, li_290, li_434, li_1260, li_3472, li_9999, li_65536, nm, nm_w, sf_w, cp_w, ld_I, sa_I, nI_add, pk_mul, Nat.zero_add, nI_leI, nI_ltI, nI_eq, nI_neM, M_neI, nI_ltM, nI_nltM, M_ltI, M_leI, nI_nleM, bnd_some, if_pos, if_neg, dif_t, dif_f, im_C h ht2, if_neg hp, e8, hor]
      exact hk ht2 _ _ ⟨rfl, rfl⟩
theorem mkI_0 {P : Nat → Bool} : ∀ {N : Nat}, (mkI P N = 0) = (cnI P N = 0)
  | 0 => rfl
  | N + 1 => by
    have ih := @mkI_0 P N
    show (mkI P N + (if P N = true then 2 ^ N else 0) = 0) = (cnI P N + (if P N = true then 1 else 0) = 0)
    by_cases hp : P N = true
    · rw [if_pos hp, if_pos hp]
      have := Nat.two_pow_pos N
      exact propext ⟨fun g => by omega, fun g => by omega⟩
    · rw [if_neg hp, if_neg hp, Nat.add_zero, Nat.add_zero]
      exact ih

theorem me_M {w : sV} (h : RelM S (w 158)) (hI : iS B S) {l : Nat} (hl : l < 16) (hK : 16 < K) : fX7_members K (nI l) w = some (nI (cnI (fun a => decide (S 8 a = nI l)) 16)) := by
  unfold fX7_members
  refine fx2_go (P := fun t x1 x2 => x2 = nI t ∧ x1 = nI (cnI (fun a => decide (S 8 a = nI l)) t)) (Q := fun o => o = some (nI (cnI (fun a => decide (S 8 a = nI l)) 16))) (N := 16) ?_ ⟨rfl, rfl⟩ hK
  intro t x1 x2 ht ⟨e1, e2⟩ k hk
  subst e1 e2
  unfold gX7_members_4
  by_cases ht1 : t = 16
  · subst ht1
    simp (disch := omega) only [↓jM_e, li_0, li_1, li_2, li_3, li_4, li_5, li_6, li_7, li_8, li_9, li_10, li_13, li_14, li_15, li_16, li_31, li_35, li_47, li_48, li_49, li_50, li_57, li_99, li_100, li_126, li_139, li_140, li_149, li_150, li_280, li_284, li_285, li_290, li_434, li_1260, li_3472, li_9999, li_65536, nm, nm_w, sf_w, cp_w, ld_I, sa_I, nI_add, pk_mul, Nat.zero_add, nI_leI, nI_ltI, nI_eq, nI_neM, M_neI, nI_ltM, nI_nltM, M_ltI, M_leI, nI_nleM, bnd_some, if_pos, if_neg, dif_t, dif_f]
  · have ht2 : t < 16 := by omega
    have hs : cnI (fun a => decide (S 8 a = nI l)) (t + 1) = cnI (fun a => decide (S 8 a = nI l)) t + (if decide (S 8 t = nI l) = true then 1 else 0) := rfl
    by_cases hx : exS S t = true
    · have r8 := (rm h ht2 (by rw [exS_t] at hx; exact hx)).2.2.2.2.2.1
      by_cases hp : S 8 t = nI l
      · simp (disch := omega) only [↓jM_e, li_0, li_1, li_2, li_3, li_4, li_5, li_6, li_7, li_8, li_9, li_10, li_13, li_14, li_15, li_16, li_31, li_35, li_47, li_48, li_49, li_50, li_57, li_99, li_100, li_126, li_139, li_140, li_149, li_150, li_280, li_284, li_285, li_290, li_434, li_1260, li_3472, li_9999, li_65536, nm, nm_w, sf_w, cp_w, ld_I, sa_I, nI_add, pk_mul, Nat.zero_add, nI_leI, nI_ltI, nI_eq, nI_neM, M_neI, nI_ltM, nI_nltM, M_ltI, M_leI, nI_nleM, bnd_some, if_pos, if_neg, dif_t, dif_f, ex_M h ht2, if_pos hx, at_M ht2 (show 6 < 9 by decide), r8, if_pos hp]
        exact hk ht2 _ _ ⟨rfl, by rw [hs, if_pos (decide_eq_true hp)]⟩
      · simp (disch := omega) only [↓jM_e, li_0, li_1, li_2, li_3, li_4, li_5, li_6, li_7, li_8, li_9, li_10, li_13, li_14, li_15, li_16, li_31, li_35, li_47, li_48, li_49, li_50, li_57, li_99, li_100, li_126, li_139, li_140, li_149, li_150, li_280, li_284, li_285, li_290, li_434, li_1260, li_3472, li_9999, li_65536, nm, nm_w, sf_w, cp_w, ld_I, sa_I, nI_add, pk_mul, Nat.zero_add, nI_leI, nI_ltI, nI_eq, nI_neM, M_neI, nI_ltM, nI_nltM, M_ltI, M_leI, nI_nleM, bnd_some, if_pos, if_neg, dif_t, dif_f, ex_M h ht2, if_pos hx, at_M ht2 (show 6 < 9 by decide), r8, if_neg hp]
        exact hk ht2 _ _ ⟨rfl, by rw [hs, if_neg (by simp [hp])]⟩
    · have h8 : S 8 t = jM := hI.2.2.2.2.1 t ht2 (by rw [← exS_f]; exact Bool.eq_false_iff.mpr hx)
      have hp : ¬ S 8 t = nI l := by rw [h8, M_neI (by omega)]; exact id
      simp (disch := omega) only [↓jM_e, li_0, li_1, li_2, li_3, li_4, li_5, li_6, li_7, li_8, li_9, li_10, li_13, li_14, li_15, li_16, li_31, li_35, li_47, li_48, li_49, li_50, li_57, li_99, li_100, li_126, li_139, li_140, li_149, li_150, li_280, li_284, li_285, li_290, li_434, li_1260, li_3472, li_9999, li_65536, nm, nm_w, sf_w, cp_w, ld_I, sa_I, nI_add, pk_mul, Nat.zero_add, nI_leI, nI_ltI, nI_eq, nI_neM, M_neI, nI_ltM, nI_nltM, M_ltI, M_leI, nI_nleM, bnd_some, if_pos, if_neg, dif_t, dif_f, ex_M h ht2, if_neg hx]
      exact hk ht2 _ _ ⟨rfl, by rw [hs, if_neg (by simp [hp])]⟩
theorem st_Mk {w : sV} (h : RelM S (w 158)) {a : Nat} (ha : a < 16) : fX7_isStuck (nI a) w = some (if stS S a = true then nI 1 else nI 0) := by
  unfold fX7_isStuck
  by_cases hx : exS S a = true
  · have r7 := (rm h ha (by rw [exS_t] at hx; exact hx)).2.2.2.2.1
    by_cases hp : S 7 a < nI 2
    · simp (disch := omega) only [↓jM_e, li_0, li_1, li_2, li_3, li_4, li_5, li_6, li_7, li_8, li_9, li_10, li_13, li_14, li_15, li_16, li_31, li_35, li_47, li_48, li_49, li_50, li_57, li_99, li_100, li_126, li_139, li_140, li_149, li_150, li_280, li_284, li_285, li_290, li_434, li_1260, li_3472, li_9999, li_65536, nm, nm_w, sf_w, cp_w, ld_I, sa_I, nI_add, pk_mul, Nat.zero_add, nI_leI, nI_ltI, nI_eq, nI_neM, M_neI, nI_ltM, nI_nltM, M_ltI, M_leI, nI_nleM, bnd_some, if_pos, if_neg, dif_t, dif_f, ex_M h ha, if_pos hx, at_M ha (show 5 < 9 by decide), r7, if_pos hp]
      simp [stS, hp]
    · simp (disch := omega) only [↓jM_e, li_0, li_1, li_2, li_3, li_4, li_5, li_6, li_7, li_8, li_9, li_10, li_13, li_14, li_15, li_16, li_31, li_35, li_47, li_48, li_49, li_50, li_57, li_99, li_100, li_126, li_139, li_140, li_149, li_150, li_280, li_284, li_285, li_290, li_434, li_1260, li_3472, li_9999, li_65536, nm, nm_w, sf_w, cp_w, ld_I, sa_I, nI_add, pk_mul, Nat.zero_add, nI_leI, nI_ltI, nI_eq, nI_neM, M_neI, nI_ltM, nI_nltM, M_ltI, M_leI, nI_nleM, bnd_some, if_pos, if_neg, dif_t, dif_f, ex_M h ha, if_pos hx, at_M ha (show 5 < 9 by decide), r7, if_neg hp]
      simp [stS, hx, hp]
  · simp (disch := omega) only [↓jM_e, li_0, li_1, li_2, li_3, li_4, li_5, li_6, li_7, li_8, li_9, li_10, li_13, li_14, li_15, li_16, li_31, li_35, li_47, li_48, li_49, li_50, li_57, li_99, li_100, li_126, li_139, li_140, li_149, li_150, li_280, li_284, li_285, li_290, li_434, li_1260, li_3472, li_9999, li_65536, nm, nm_w, sf_w, cp_w, ld_I, sa_I, nI_add, pk_mul, Nat.zero_add, nI_leI, nI_ltI, nI_eq, nI_neM, M_neI, nI_ltM, nI_nltM, M_ltI, M_leI, nI_nleM, bnd_some, if_pos, if_neg, dif_t, dif_f, ex_M h ha, if_neg hx]
    simp [stS, hx]

/-- which sets are asked for -/
def agP (S : aS) (k : Nat) (a : Nat) : Bool := if k = 0 then exS S a else if k = 1 then exS S a && seS S a else if k = 2 then stS S a else if k = 3 then ldP S 16 a else !decide (S 8 a = jM)
end
section
variable {v : sV} {K n : Nat} {r : sR} {W : aW} {B : Nat} {x : Int64 × UInt64}
set_option maxHeartbeats 1000000 in
theorem a_12 (x1 : Int32) (hC : CW W r v n) (hM : MW W v) (hI : IW B W) (hK : 400000 < K) : OUT B (fL_agents K x1 r v n x) (fX7_agents K x1) PI n := by
  have hp4 : (x1 ≤ nI 4) = ¬ (nI 5 ≤ x1) := le_pred (n := 4) (by decide)
  have hK16 : 16 < K := by omega
  rcases pk_ix x1 (n := 5) (by decide) with h0 | h5 | ⟨k, hk, rfl⟩
  all_goals try
    (have h1 : ¬ (nI 0 ≤ x1 ∧ x1 ≤ nI 4) := by
      intro g
      first
      | exact Int32.not_le.mpr h0 g.1
      | (rw [hp4] at g; exact g.2 h5)
     have hne : ∀ k, k < 5 → ¬ x1 = nI k := fun k hk e => h1 (by rw [e]; exact ⟨nI_le (Nat.zero_le k) (by omega), nI_le (by omega) (by decide)⟩)
     refine fin_thr hC hM hI (code := 1) (z := nI 0) (x' := x) (by decide) ?_ (fun w hw => ?_)
     · unfold fL_agents fX6_agents
       simp (disch := omega) only [↓jM_e, li_0, li_1, li_2, li_3, li_4, li_5, li_6, li_7, li_8, li_9, li_10, li_13, li_14, li_15, li_16, li_31, li_35, li_47, li_48, li_49, li_50, li_57, li_99, li_100, li_126, li_139, li_140, li_149, li_150, li_280, li_284, li_285, li_290, li_434, li_1260, li_3472, li_9999, li_65536, nm, nm_w, sf_w, cp_w, ld_I, sa_I, nI_add, pk_mul, Nat.zero_add, nI_leI, nI_ltI, nI_eq, nI_neM, M_neI, nI_ltM, nI_nltM, M_ltI, M_leI, nI_nleM, bnd_some, if_pos, if_neg, dif_t, dif_f, if_neg (hne 0 (by decide)), if_neg (hne 1 (by decide)), if_neg (hne 2 (by decide)), if_neg (hne 3 (by decide)), if_neg (hne 4 (by decide))]
       rfl
     · unfold fX7_agents
       simp (disch := omega) only [↓jM_e, li_0, li_1, li_2, li_3, li_4, li_5, li_6, li_7, li_8, li_9, li_10, li_13, li_14, li_15, li_16, li_31, li_35, li_47, li_48, li_49, li_50, li_57, li_99, li_100, li_126, li_139, li_140, li_149, li_150, li_280, li_284, li_285, li_290, li_434, li_1260, li_3472, li_9999, li_65536, nm, nm_w, sf_w, cp_w, ld_I, sa_I, nI_add, pk_mul, Nat.zero_add, nI_leI, nI_ltI, nI_eq, nI_neM, M_neI, nI_ltM, nI_nltM, M_ltI, M_leI, nI_nleM, bnd_some, if_pos, if_neg, dif_t, dif_f, ii_M, if_neg h1]
       refine fx2_go (P := fun t x2 x3 => x2 = nI 0 ∧ x3 = nI 0) (Q := fun o => o = some (nI 0, s2 w 157 6 (nI 1))) (N := 1) ?_ ⟨rfl, rfl⟩ (by omega)
       intro t x2 x3 ht ⟨e2, e3⟩ k hk
       subst e2 e3
       unfold gX7_agents_22
       simp (disch := omega) only [↓jM_e, li_0, li_1, li_2, li_3, li_4, li_5, li_6, li_7, li_8, li_9, li_10, li_13, li_14, li_15, li_16, li_31, li_35, li_47, li_48, li_49, li_50, li_57, li_99, li_100, li_126, li_139, li_140, li_149, li_150, li_280, li_284, li_285, li_290, li_434, li_1260, li_3472, li_9999, li_65536, nm, nm_w, sf_w, cp_w, ld_I, sa_I, nI_add, pk_mul, Nat.zero_add, nI_leI, nI_ltI, nI_eq, nI_neM, M_neI, nI_ltM, nI_nltM, M_ltI, M_leI, nI_nleM, bnd_some, if_pos, if_neg, dif_t, dif_f, s2_i])
  refine fin_rd hC hM hI (x' := ((nI (mkI (agP W.1 k) 16)).toInt64, x.2)) ?_ (fun w hw => ⟨nI (mkI (agP W.1 k) 16), ?_, rfl⟩)
  · unfold fL_agents fX6_agents
    rcases (show k = 0 ∨ k = 1 ∨ k = 2 ∨ k = 3 ∨ k = 4 by omega) with rfl | rfl | rfl | rfl | rfl
    · simp (disch := omega) only [↓jM_e, li_0, li_1, li_2, li_3, li_4, li_5, li_6, li_7, li_8, li_9, li_10, li_13, li_14, li_15, li_16, li_31, li_35, li_47, li_48, li_49, li_50, li_57, li_99, li_100, li_126, li_139, li_140, li_149, li_150, li_280, li_284, li_285, li_290, li_434, li_1260, li_3472, li_9999, li_65536, nm, nm_w, sf_w, cp_w, ld_I, sa_I, nI_add, pk_mul, Nat.zero_add, nI_leI, nI_ltI, nI_eq, nI_neM, M_neI, nI_ltM, nI_nltM, M_ltI, M_leI, nI_nleM, bnd_some, if_pos, if_neg, dif_t, dif_f, al_C hC.1 hK16]
      rfl
    · simp (disch := omega) only [↓jM_e, li_0, li_1, li_2, li_3, li_4, li_5, li_6, li_7, li_8, li_9, li_10, li_13, li_14, li_15, li_16, li_31, li_35, li_47, li_48, li_49, li_50, li_57, li_99, li_100, li_126, li_139, li_140, li_149, li_150, li_280, li_284, li_285, li_290, li_434, li_1260, li_3472, li_9999, li_65536, nm, nm_w, sf_w, cp_w, ld_I, sa_I, nI_add, pk_mul, Nat.zero_add, nI_leI, nI_ltI, nI_eq, nI_neM, M_neI, nI_ltM, nI_nltM, M_ltI, M_leI, nI_nleM, bnd_some, if_pos, if_neg, dif_t, dif_f, so_C hC.1 hI.1 hK16]
      rfl
    · simp (disch := omega) only [↓jM_e, li_0, li_1, li_2, li_3, li_4, li_5, li_6, li_7, li_8, li_9, li_10, li_13, li_14, li_15, li_16, li_31, li_35, li_47, li_48, li_49, li_50, li_57, li_99, li_100, li_126, li_139, li_140, li_149, li_150, li_280, li_284, li_285, li_290, li_434, li_1260, li_3472, li_9999, li_65536, nm, nm_w, sf_w, cp_w, ld_I, sa_I, nI_add, pk_mul, Nat.zero_add, nI_leI, nI_ltI, nI_eq, nI_neM, M_neI, nI_ltM, nI_nltM, M_ltI, M_leI, nI_nleM, bnd_some, if_pos, if_neg, dif_t, dif_f, sk_C hC.1 hK16]
      rfl
    · simp (disch := omega) only [↓jM_e, li_0, li_1, li_2, li_3, li_4, li_5, li_6, li_7, li_8, li_9, li_10, li_13, li_14, li_15, li_16, li_31, li_35, li_47, li_48, li_49, li_50, li_57, li_99, li_100, li_126, li_139, li_140, li_149, li_150, li_280, li_284, li_285, li_290, li_434, li_1260, li_3472, li_9999, li_65536, nm, nm_w, sf_w, cp_w, ld_I, sa_I, nI_add, pk_mul, Nat.zero_add, nI_leI, nI_ltI, nI_eq, nI_neM, M_neI, nI_ltM, nI_nltM, M_ltI, M_leI, nI_nleM, bnd_some, if_pos, if_neg, dif_t, dif_f, lo_C hC.1 hI.1 hK16]
      rfl
    · simp (disch := omega) only [↓jM_e, li_0, li_1, li_2, li_3, li_4, li_5, li_6, li_7, li_8, li_9, li_10, li_13, li_14, li_15, li_16, li_31, li_35, li_47, li_48, li_49, li_50, li_57, li_99, li_100, li_126, li_139, li_140, li_149, li_150, li_280, li_284, li_285, li_290, li_434, li_1260, li_3472, li_9999, li_65536, nm, nm_w, sf_w, cp_w, ld_I, sa_I, nI_add, pk_mul, Nat.zero_add, nI_leI, nI_ltI, nI_eq, nI_neM, M_neI, nI_ltM, nI_nltM, M_ltI, M_leI, nI_nleM, bnd_some, if_pos, if_neg, dif_t, dif_f, mo_C hC.1 hK16]
      rfl
  · have hw' := (MW_t (y := nI 0) hw).1.1
    unfold fX7_agents
    simp (disch := omega) only [↓jM_e, li_0, li_1, li_2, li_3, li_4, li_5, li_6, li_7, li_8, li_9, li_10, li_13, li_14, li_15, li_16, li_31, li_35, li_47, li_48, li_49, li_50, li_57, li_99, li_100, li_126, li_139, li_140, li_149, li_150, li_280, li_284, li_285, li_290, li_434, li_1260, li_3472, li_9999, li_65536, nm, nm_w, sf_w, cp_w, ld_I, sa_I, nI_add, pk_mul, Nat.zero_add, nI_leI, nI_ltI, nI_eq, nI_neM, M_neI, nI_ltM, nI_nltM, M_ltI, M_leI, nI_nleM, bnd_some, if_pos, if_neg, dif_t, dif_f, ii_M]
    refine fx2_go (P := fun t x2 x3 => x3 = nI t ∧ x2 = nI (mkI (agP W.1 k) t)) (Q := fun o => o = some (nI (mkI (agP W.1 k) 16), s2 w 157 6 (nI 0))) (N := 16) ?_ ⟨rfl, rfl⟩ hK16
    intro t x2 x3 ht ⟨e3, e2⟩ k22 hk22
    subst e2 e3
    unfold gX7_agents_22
    by_cases ht1 : t = 16
    · subst ht1
      simp (disch := omega) only [↓jM_e, li_0, li_1, li_2, li_3, li_4, li_5, li_6, li_7, li_8, li_9, li_10, li_13, li_14, li_15, li_16, li_31, li_35, li_47, li_48, li_49, li_50, li_57, li_99, li_100, li_126, li_139, li_140, li_149, li_150, li_280, li_284, li_285, li_290, li_434, li_1260, li_3472, li_9999, li_65536, nm, nm_w, sf_w, cp_w, ld_I, sa_I, nI_add, pk_mul, Nat.zero_add, nI_leI, nI_ltI, nI_eq, nI_neM, M_neI, nI_ltM, nI_nltM, M_ltI, M_leI, nI_nleM, bnd_some, if_pos, if_neg, dif_t, dif_f]
    · have ht2 : t < 16 := by omega
      have hs : mkI (agP W.1 k) (t + 1) = mkI (agP W.1 k) t + (if agP W.1 k t = true then 2 ^ t else 0) := rfl
      have h0 : agP W.1 k t = false → (∀ k', bX7_agents_106 K k' (nI k) (nI (mkI (agP W.1 k) t)) (nI t) (nI 0) (s2 w 157 6 (nI 0)) = k' (nI (mkI (agP W.1 k) (t + 1))) (nI (t + 1))) := by
        intro hf k'
        unfold bX7_agents_106
        have ho : nI (mkI (agP W.1 k) t) ||| nI 0 = nI (mkI (agP W.1 k) t) := by
          apply Int32.toBitVec_inj.mp
          rw [Int32.toBitVec_or]
          show _ ||| 0#32 = _
          simp
        simp (disch := omega) only [↓jM_e, li_0, li_1, li_2, li_3, li_4, li_5, li_6, li_7, li_8, li_9, li_10, li_13, li_14, li_15, li_16, li_31, li_35, li_47, li_48, li_49, li_50, li_57, li_99, li_100, li_126, li_139, li_140, li_149, li_150, li_280, li_284, li_285, li_290, li_434, li_1260, li_3472, li_9999, li_65536, nm, nm_w, sf_w, cp_w, ld_I, sa_I, nI_add, pk_mul, Nat.zero_add, nI_leI, nI_ltI, nI_eq, nI_neM, M_neI, nI_ltM, nI_nltM, M_ltI, M_leI, nI_nleM, bnd_some, if_pos, if_neg, dif_t, dif_f, ho]
        rw [hs, hf]
        rfl
      have h1 : agP W.1 k t = true → (∀ k', bX7_agents_106 K k' (nI k) (nI (mkI (agP W.1 k) t)) (nI t) (nI 1) (s2 w 157 6 (nI 0)) = k' (nI (mkI (agP W.1 k) (t + 1))) (nI (t + 1))) := by
        intro hf k'
        unfold bX7_agents_106
        have hor := mkI_or (P := agP W.1 k) (t := t) (by omega) hf
        simp (disch := omega) only [↓jM_e, li_0, li_1, li_2, li_3, li_4, li_5, li_6, li_7, li_8, li_9, li_10, li_13, li_14, li_15, li_16, li_31, li_35, li_47, li_48, li_49, li_50, li_57, li_99, li_100, li_126, li_139, li_140, li_149, li_150, li_280, li_284, li_285, li_290, li_434, li_1260, li_3472, li_9999, li_65536, nm, nm_w, sf_w, cp_w, ld_I, sa_I, nI_add, pk_mul, Nat.zero_add, nI_leI, nI_ltI, nI_eq, nI_neM, M_neI, nI_ltM, nI_nltM, M_ltI, M_leI, nI_nleM, bnd_some, if_pos, if_neg, dif_t, dif_f, hor]
      have hgo : ∀ o : Option (Int32 × sV), o = k22 (nI (mkI (agP W.1 k) (t + 1))) (nI (t + 1)) → o = some (nI (mkI (agP W.1 k) 16), s2 w 157 6 (nI 0)) := fun o ho => ho.trans (hk22 ht2 _ _ ⟨rfl, rfl⟩)
      by_cases hx : exS W.1 t = true
      · have hxS : W.1 3 t ≠ jM := by rw [exS_t] at hx; exact hx
        have r8 := (rm hw' ht2 hxS).2.2.2.2.2.1
        have hge := hI.1.2.2.2.1 t ht2 hxS
        refine hgo _ ?_
        rcases (show k = 0 ∨ k = 1 ∨ k = 2 ∨ k = 3 ∨ k = 4 by omega) with rfl | rfl | rfl | rfl | rfl
        · simp (disch := omega) only [↓jM_e, li_0, li_1, li_2, li_3, li_4, li_5, li_6, li_7, li_8, li_9, li_10, li_13, li_14, li_15, li_16, li_31, li_35, li_47, li_48, li_49, li_50, li_57, li_99, li_100, li_126, li_139, li_140, li_149, li_150, li_280, li_284, li_285, li_290, li_434, li_1260, li_3472, li_9999, li_65536, nm, nm_w, sf_w, cp_w, ld_I, sa_I, nI_add, pk_mul, Nat.zero_add, nI_leI, nI_ltI, nI_eq, nI_neM, M_neI, nI_ltM, nI_nltM, M_ltI, M_leI, nI_nleM, bnd_some, if_pos, if_neg, dif_t, dif_f, s2_i, ex_M hw' ht2, if_pos hx]
          exact h1 hx _
        · by_cases hse : seS W.1 t = true
          · simp (disch := omega) only [↓jM_e, li_0, li_1, li_2, li_3, li_4, li_5, li_6, li_7, li_8, li_9, li_10, li_13, li_14, li_15, li_16, li_31, li_35, li_47, li_48, li_49, li_50, li_57, li_99, li_100, li_126, li_139, li_140, li_149, li_150, li_280, li_284, li_285, li_290, li_434, li_1260, li_3472, li_9999, li_65536, nm, nm_w, sf_w, cp_w, ld_I, sa_I, nI_add, pk_mul, Nat.zero_add, nI_leI, nI_ltI, nI_eq, nI_neM, M_neI, nI_ltM, nI_nltM, M_ltI, M_leI, nI_nleM, bnd_some, if_pos, if_neg, dif_t, dif_f, s2_i, ex_M hw' ht2, if_pos hx, se_M hw' hI.1 ht2 hxS, if_pos hse]
            exact h1 (by simp [agP, hx, hse]) _
          · unfold bX7_agents_60 bX7_agents_73 bX7_agents_86
            simp (disch := omega) only [↓jM_e, li_0, li_1, li_2, li_3, li_4, li_5, li_6, li_7, li_8, li_9, li_10, li_13, li_14, li_15, li_16, li_31, li_35, li_47, li_48, li_49, li_50, li_57, li_99, li_100, li_126, li_139, li_140, li_149, li_150, li_280, li_284, li_285, li_290, li_434, li_1260, li_3472, li_9999, li_65536, nm, nm_w, sf_w, cp_w, ld_I, sa_I, nI_add, pk_mul, Nat.zero_add, nI_leI, nI_ltI, nI_eq, nI_neM, M_neI, nI_ltM, nI_nltM, M_ltI, M_leI, nI_nleM, bnd_some, if_pos, if_neg, dif_t, dif_f, s2_i, ex_M hw' ht2, if_pos hx, se_M hw' hI.1 ht2 hxS, if_neg hse]
            exact h0 (by simp [agP, hse]) _
        · unfold bX7_agents_60 bX7_agents_73 bX7_agents_86
          by_cases hst : stS W.1 t = true
          · simp (disch := omega) only [↓jM_e, li_0, li_1, li_2, li_3, li_4, li_5, li_6, li_7, li_8, li_9, li_10, li_13, li_14, li_15, li_16, li_31, li_35, li_47, li_48, li_49, li_50, li_57, li_99, li_100, li_126, li_139, li_140, li_149, li_150, li_280, li_284, li_285, li_290, li_434, li_1260, li_3472, li_9999, li_65536, nm, nm_w, sf_w, cp_w, ld_I, sa_I, nI_add, pk_mul, Nat.zero_add, nI_leI, nI_ltI, nI_eq, nI_neM, M_neI, nI_ltM, nI_nltM, M_ltI, M_leI, nI_nleM, bnd_some, if_pos, if_neg, dif_t, dif_f, s2_i, ex_M hw' ht2, if_pos hx, st_Mk hw' ht2, if_pos hst]
            exact h1 (by simp [agP, hst]) _
          · simp (disch := omega) only [↓jM_e, li_0, li_1, li_2, li_3, li_4, li_5, li_6, li_7, li_8, li_9, li_10, li_13, li_14, li_15, li_16, li_31, li_35, li_47, li_48, li_49, li_50, li_57, li_99, li_100, li_126, li_139, li_140, li_149, li_150, li_280, li_284, li_285, li_290, li_434, li_1260, li_3472, li_9999, li_65536, nm, nm_w, sf_w, cp_w, ld_I, sa_I, nI_add, pk_mul, Nat.zero_add, nI_leI, nI_ltI, nI_eq, nI_neM, M_neI, nI_ltM, nI_nltM, M_ltI, M_leI, nI_nleM, bnd_some, if_pos, if_neg, dif_t, dif_f, s2_i, ex_M hw' ht2, if_pos hx, st_Mk hw' ht2, if_neg hst]
            exact h0 (by simp [agP, hst]) _
        · unfold bX7_agents_60 bX7_agents_73 bX7_agents_86
          have hcl := @cnI_le (fun a => decide (W.1 8 a = nI t)) 16
          by_cases hld : 0 < cnI (fun a => decide (W.1 8 a = nI t)) 16
          · simp (disch := omega) only [↓jM_e, li_0, li_1, li_2, li_3, li_4, li_5, li_6, li_7, li_8, li_9, li_10, li_13, li_14, li_15, li_16, li_31, li_35, li_47, li_48, li_49, li_50, li_57, li_99, li_100, li_126, li_139, li_140, li_149, li_150, li_280, li_284, li_285, li_290, li_434, li_1260, li_3472, li_9999, li_65536, nm, nm_w, sf_w, cp_w, ld_I, sa_I, nI_add, pk_mul, Nat.zero_add, nI_leI, nI_ltI, nI_eq, nI_neM, M_neI, nI_ltM, nI_nltM, M_ltI, M_leI, nI_nleM, bnd_some, if_pos, if_neg, dif_t, dif_f, s2_i, ex_M hw' ht2, if_pos hx, me_M hw' hI.1 ht2 hK16]
            exact h1 (by simp [agP, ldP, hld]) _
          · simp (disch := omega) only [↓jM_e, li_0, li_1, li_2, li_3, li_4, li_5, li_6, li_7, li_8, li_9, li_10, li_13, li_14, li_15, li_16, li_31, li_35, li_47, li_48, li_49, li_50, li_57, li_99, li_100, li_126, li_139, li_140, li_149, li_150, li_280, li_284, li_285, li_290, li_434, li_1260, li_3472, li_9999, li_65536, nm, nm_w, sf_w, cp_w, ld_I, sa_I, nI_add, pk_mul, Nat.zero_add, nI_leI, nI_ltI, nI_eq, nI_neM, M_neI, nI_ltM, nI_nltM, M_ltI, M_leI, nI_nleM, bnd_some, if_pos, if_neg, dif_t, dif_f, s2_i, ex_M hw' ht2, if_pos hx, me_M hw' hI.1 ht2 hK16]
            exact h0 (by simp only [agP, ldP]; simp; omega) _
        · unfold bX7_agents_60 bX7_agents_73 bX7_agents_86
          by_cases h8 : W.1 8 t = jM
          · simp (disch := omega) only [↓jM_e, li_0, li_1, li_2, li_3, li_4, li_5, li_6, li_7, li_8, li_9, li_10, li_13, li_14, li_15, li_16, li_31, li_35, li_47, li_48, li_49, li_50, li_57, li_99, li_100, li_126, li_139, li_140, li_149, li_150, li_280, li_284, li_285, li_290, li_434, li_1260, li_3472, li_9999, li_65536, nm, nm_w, sf_w, cp_w, ld_I, sa_I, nI_add, pk_mul, Nat.zero_add, nI_leI, nI_ltI, nI_eq, nI_neM, M_neI, nI_ltM, nI_nltM, M_ltI, M_leI, nI_nleM, bnd_some, if_pos, if_neg, dif_t, dif_f, s2_i, ex_M hw' ht2, if_pos hx, at_M ht2 (show 6 < 9 by decide), r8, h8, show (jM < nI 0) = True from by decide]
            exact h0 (by simp [agP, h8]) _
          · obtain ⟨l, hl, el, -⟩ := hge.2.2.2.resolve_left h8
            simp (disch := omega) only [↓jM_e, li_0, li_1, li_2, li_3, li_4, li_5, li_6, li_7, li_8, li_9, li_10, li_13, li_14, li_15, li_16, li_31, li_35, li_47, li_48, li_49, li_50, li_57, li_99, li_100, li_126, li_139, li_140, li_149, li_150, li_280, li_284, li_285, li_290, li_434, li_1260, li_3472, li_9999, li_65536, nm, nm_w, sf_w, cp_w, ld_I, sa_I, nI_add, pk_mul, Nat.zero_add, nI_leI, nI_ltI, nI_eq, nI_neM, M_neI, nI_ltM, nI_nltM, M_ltI, M_leI, nI_nleM, bnd_some, if_pos, if_neg, dif_t, dif_f, s2_i, ex_M hw' ht2, if_pos hx, at_M ht2 (show 6 < 9 by decide), r8, el]
            exact h1 (by simp [agP, h8]) _
      · have hxf : exS W.1 t = false := Bool.eq_false_iff.mpr hx
        have h8 : W.1 8 t = jM := hI.1.2.2.2.2.1 t ht2 (by rw [← exS_f]; exact hxf)
        have hf : agP W.1 k t = false := by
          rcases (show k = 0 ∨ k = 1 ∨ k = 2 ∨ k = 3 ∨ k = 4 by omega) with rfl | rfl | rfl | rfl | rfl
          · exact hxf
          · simp [agP, hxf]
          · simp [agP, stS, hxf]
          · have hz : cnI (fun m => decide (W.1 8 m = nI t)) 16 = 0 := by
              have : cnI (fun m => decide (W.1 8 m = nI t)) 16 = cnI (fun _ => false) 16 := by
                refine cnI_c (fun m hm => decide_eq_false (fun e => ?_))
                have hmx : W.1 3 m ≠ jM := fun g => by
                  have := hI.1.2.2.2.2.1 m hm g
                  rw [e, nI_neM (by omega)] at this
                  exact this
                rcases (hI.1.2.2.2.1 m hm hmx).2.2.2 with g | ⟨l, hl, el, hlx⟩
                · rw [e, nI_neM (by omega)] at g
                  exact g
                · rw [e, nI_eq (by omega) (by omega)] at el
                  rw [← el] at hlx
                  rw [exS_f] at hxf
                  exact hlx hxf
              rw [this, cnI_0]
            simp [agP, ldP, hz]
          · simp [agP, h8]
        refine hgo _ ?_
        simp (disch := omega) only [↓jM_e, li_0, li_1, li_2, li_3, li_4, li_5, li_6, li_7, li_8, li_9, li_10, li_13, li_14, li_15, li_16, li_31, li_35, li_47, li_48, li_49, li_50, li_57, li_99, li_100, li_126, li_139, li_140, li_149, li_150, li_280, li_284, li_285, li_290, li_434, li_1260, li_3472, li_9999, li_65536, nm, nm_w, sf_w, cp_w, ld_I, sa_I, nI_add, pk_mul, Nat.zero_add, nI_leI, nI_ltI, nI_eq, nI_neM, M_neI, nI_ltM, nI_nltM, M_ltI, M_leI, nI_nleM, bnd_some, if_pos, if_neg, dif_t, dif_f, s2_i, ex_M hw' ht2, if_neg hx]
        exact h0 hf _
end
