/-! the waits of a set -/
section
variable {v : sV} {S : aS} {B K b cq : Nat}
theorem wo_C (h : RelC b S v) {P : Nat → Bool} (hK : 16 < K) : fX0_sumOfWaits K cq b (nI (mkI P 16)) v = some (smI P (fun a => S 7 a) 16) := by
  unfold fX0_sumOfWaits
  refine fx2_go (P := fun t x2 x3 => x3 = nI t ∧ x2 = smI P (fun a => S 7 a) t) (Q := fun o => o = some (smI P (fun a => S 7 a) 16)) (N := 16) ?_ ⟨rfl, rfl⟩ hK
  intro t x2 x3 ht ⟨e3, e2⟩ k hk
  subst e2 e3
  have hs : smI P (fun a => S 7 a) (t + 1) = smI P (fun a => S 7 a) t + (if P t = true then S 7 t else nI 0) := rfl
  unfold gX0_sumOfWaits_4
  by_cases ht1 : t = 16
  · subst ht1
    simp (disch := omega) only [↓jM_e, li_0, li_1, li_2, li_3, li_4, li_5, li_6, li_7, li_8, li_9, li_10, li_13, li_14, li_15, li_16, li_31, li_35, li_47, li_48, li_49, li_50, li_57, li_99, li_100, li_126, li_139, li_140, li_149, li_150, li_280, li_284, li_285, li_290, li_434, li_1260, li_3472, li_9999, li_65536, nm, nm_w, sf_w, cp_w, ld_I, sa_I, nI_add, pk_mul, Nat.zero_add, nI_leI, nI_ltI, nI_eq, nI_neM, M_neI, nI_ltM, nI_nltM, M_ltI, M_leI, nI_nleM, bnd_some, if_pos, if_neg, dif_t, dif_f]
  · have hlt : t < 16 := by omega
    have hbit : (mkI P 16).testBit t = P t := mkI_bit hlt
    have e7 : v (b + 8) t = S 7 t := rc7 h hlt
    by_cases hp : P t = true
    · simp (disch := omega) only [↓jM_e, li_0, li_1, li_2, li_3, li_4, li_5, li_6, li_7, li_8, li_9, li_10, li_13, li_14, li_15, li_16, li_31, li_35, li_47, li_48, li_49, li_50, li_57, li_99, li_100, li_126, li_139, li_140, li_149, li_150, li_280, li_284, li_285, li_290, li_434, li_1260, li_3472, li_9999, li_65536, nm, nm_w, sf_w, cp_w, ld_I, sa_I, nI_add, pk_mul, Nat.zero_add, nI_leI, nI_ltI, nI_eq, nI_neM, M_neI, nI_ltM, nI_nltM, M_ltI, M_leI, nI_nleM, bnd_some, if_pos, if_neg, dif_t, dif_f, in_C mk_16, hbit, if_pos hp, e7]
      exact hk hlt _ _ ⟨rfl, by rw [hs, if_pos hp]⟩
    · simp (disch := omega) only [↓jM_e, li_0, li_1, li_2, li_3, li_4, li_5, li_6, li_7, li_8, li_9, li_10, li_13, li_14, li_15, li_16, li_31, li_35, li_47, li_48, li_49, li_50, li_57, li_99, li_100, li_126, li_139, li_140, li_149, li_150, li_280, li_284, li_285, li_290, li_434, li_1260, li_3472, li_9999, li_65536, nm, nm_w, sf_w, cp_w, ld_I, sa_I, nI_add, pk_mul, Nat.zero_add, nI_leI, nI_ltI, nI_eq, nI_neM, M_neI, nI_ltM, nI_nltM, M_ltI, M_leI, nI_nleM, bnd_some, if_pos, if_neg, dif_t, dif_f, in_C mk_16, hbit, if_neg hp]
      exact hk hlt _ _ ⟨rfl, by rw [hs, if_neg hp]; exact (Int32.add_zero _).symm⟩
theorem wo_M (h : RelM S (v 158)) {P : Nat → Bool} (hP : ∀ a, a < 16 → P a = true → S 3 a ≠ jM) (hK : 16 < K) : fX7_waitsOf K (nI (mkI P 16)) v = some (smI P (fun a => S 7 a) 16) := by
  unfold fX7_waitsOf
  refine fx2_go (P := fun t x2 x3 => x3 = nI t ∧ x2 = smI P (fun a => S 7 a) t) (Q := fun o => o = some (smI P (fun a => S 7 a) 16)) (N := 16) ?_ ⟨rfl, rfl⟩ hK
  intro t x2 x3 ht ⟨e3, e2⟩ k hk
  subst e2 e3
  have hs : smI P (fun a => S 7 a) (t + 1) = smI P (fun a => S 7 a) t + (if P t = true then S 7 t else nI 0) := rfl
  unfold gX7_waitsOf_4
  by_cases ht1 : t = 16
  · subst ht1
    simp (disch := omega) only [↓jM_e, li_0, li_1, li_2, li_3, li_4, li_5, li_6, li_7, li_8, li_9, li_10, li_13, li_14, li_15, li_16, li_31, li_35, li_47, li_48, li_49, li_50, li_57, li_99, li_100, li_126, li_139, li_140, li_149, li_150, li_280, li_284, li_285, li_290, li_434, li_1260, li_3472, li_9999, li_65536, nm, nm_w, sf_w, cp_w, ld_I, sa_I, nI_add, pk_mul, Nat.zero_add, nI_leI, nI_ltI, nI_eq, nI_neM, M_neI, nI_ltM, nI_nltM, M_ltI, M_leI, nI_nleM, bnd_some, if_pos, if_neg, dif_t, dif_f]
  · have hlt : t < 16 := by omega
    have hbit : ((nI (mkI P 16) >>> (nI t &&& nI 31)) &&& nI 1 = nI 1) = (P t = true) := by rw [bt_I mkI_lt hlt, mkI_bit hlt]
    have h16 : ¬ nI 16 ≤ nI t := by rw [nI_leI (by decide) (by omega)]; omega
    rw [if_neg (show ¬ (16 : Int32) ≤ nI t from h16)]
    by_cases hp : P t = true
    · have r7 := (rm h hlt (hP t hlt hp)).2.2.2.2.1
      have hb : ((nI (mkI P 16) >>> (nI t &&& nI 31)) &&& nI 1) = nI 1 := by rw [hbit]; exact hp
      rw [if_pos (show ((nI (mkI P 16) >>> (nI t &&& 31)) &&& 1) = (1 : Int32) from hb), show (5 : Int32) = nI 5 from rfl, at_M hlt (show 5 < 9 by decide), bnd_some, r7, nm_w, nm_w]
      exact hk hlt _ _ ⟨nI_add t 1, by rw [hs, if_pos hp]⟩
    · have hb : ¬ ((nI (mkI P 16) >>> (nI t &&& nI 31)) &&& nI 1) = nI 1 := by rw [hbit]; exact hp
      rw [if_neg (show ¬ ((nI (mkI P 16) >>> (nI t &&& 31)) &&& 1) = (1 : Int32) from hb), nm_w, nm_w]
      exact hk hlt _ _ ⟨nI_add t 1, by rw [hs, if_neg hp]; rfl⟩
end
