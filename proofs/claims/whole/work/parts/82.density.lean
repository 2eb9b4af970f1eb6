/-! density -/
set_option maxRecDepth 100000 in
theorem fd_all : ∀ a, a < 17 → ∀ b, b < 141 → b = 0 ∨ (FP.fdiv (FP.i2f (nI a)) (FP.i2f (nI b)) &&& 0x7fffffff ≤ 0x7f800000 ∧ FP.f2d (FP.fdiv (FP.i2f (nI a)) (FP.i2f (nI b))) &&& 0x7fffffffffffffff ≤ 0x7ff0000000000000 ∧ Op.cmpValue (FP.dcmp (FP.f2d (FP.fdiv (FP.i2f (nI a)) (FP.i2f (nI b)))) (FP.f2d (FP.fdiv (FP.i2f (nI a)) (FP.i2f (nI b))))) .l = 0) := by decide +kernel
section
variable {v : sV} {K n : Nat} {r : sR} {W : aW} {B : Nat} {x : Int64 × UInt64}
def opP (S : aS) (c : Nat) : Bool := !decide (coS S c = 0)
theorem fdv_y {β : Type} {a b : UInt32} {f : UInt32 → Option β} (h : FP.fdiv a b &&& 0x7fffffff ≤ 0x7f800000) : fdv a b f = f (FP.fdiv a b) := if_pos h
theorem fdd_y {β : Type} {a : UInt32} {f : UInt64 → Option β} (h : FP.f2d a &&& 0x7fffffffffffffff ≤ 0x7ff0000000000000) : fdd a f = f (FP.f2d a) := if_pos h
theorem den_C (hC : CW W r v n) (hI : IW B W) (hK : 400000 < K) : fX6_density K r v n = (if cnI (opP W.1) 140 = 0 then some (Sum.inr 5, r, v, 0) else (fdv (FP.i2f (nI (cnI (exS W.1) 16))) (FP.i2f (nI (cnI (opP W.1) 140))) (fun y3 => some (Sum.inl y3, r, v, 0)))) := by
  have hcl := @cnI_le (opP W.1) 140
  have hcx := @cnI_le (exS W.1) 16
  unfold fX6_density
  refine fx5_go (P := fun t x1 x2 (r' : sR) (w : sV) (n' : Nat) => x1 = nI (cnI (opP W.1) t) ∧ x2 = nI t ∧ r' = r ∧ w = v ∧ n' = n) (Q := fun o => o = (if cnI (opP W.1) 140 = 0 then some (Sum.inr 5, r, v, 0) else (fdv (FP.i2f (nI (cnI (exS W.1) 16))) (FP.i2f (nI (cnI (opP W.1) 140))) (fun y3 => some (Sum.inl y3, r, v, 0))))) (N := 140) ?_ ⟨rfl, rfl, rfl, rfl, rfl⟩ (by omega)
  intro t x1 x2 r' w n' ht ⟨e1, e2, e3, e4, e5⟩ k hk
  subst e1 e2 e3 e4 e5
  have hs : cnI (opP W.1) (t + 1) = cnI (opP W.1) t + (if opP W.1 t = true then 1 else 0) := rfl
  have hct := @cnI_le (opP W.1) t
  unfold gX6_density_4
  by_cases ht1 : t = 140
  · subst ht1
    by_cases h0 : cnI (opP W.1) 140 = 0
    · rw [if_pos (show (140 : Int32) ≤ nI 140 from by decide), if_pos (show nI (cnI (opP W.1) 140) = (0 : Int32) from by rw [h0]; rfl), if_pos h0]
    · have h00 : ¬ nI (cnI (opP W.1) 140) = nI 0 := by rw [nI_eq (by omega) (by decide)]; exact h0
      rw [if_pos (show (140 : Int32) ≤ nI 140 from by decide), if_neg (show ¬ nI (cnI (opP W.1) 140) = (0 : Int32) from h00), al_C hC.1 (show 16 < K by omega), bnd_some, bc_mk, bnd_some, if_neg h0]
  · have hlt : t < 140 := by omega
    have e0 : w 2 t = nI (coS W.1 t) := (rc0 hC.1 hlt).trans (hI.1.1 t hlt).1
    have hc9 := (hI.1.1 t hlt).2
    by_cases h0 : coS W.1 t = 0
    · rw [h0] at e0
      simp (disch := omega) only [↓jM_e, li_0, li_1, li_2, li_3, li_4, li_5, li_6, li_7, li_8, li_9, li_10, li_13, li_14, li_15, li_16, li_31, li_35, li_47, li_48, li_49, li_50, li_57, li_99, li_100, li_126, li_139, li_140, li_149, li_150, li_280, li_284, li_285, li_290, li_434, li_1260, li_3472, li_9999, li_65536, nm, nm_w, sf_w, cp_w, ld_I, sa_I, nI_add, pk_mul, Nat.zero_add, nI_leI, nI_ltI, nI_eq, nI_neM, M_neI, nI_ltM, nI_nltM, M_ltI, M_leI, nI_nleM, bnd_some, if_pos, if_neg, dif_t, dif_f, e0]
      exact hk hlt _ _ _ _ _ ⟨by rw [hs, if_neg (by simp [opP, h0]), Nat.add_zero], rfl, rfl, rfl, rfl⟩
    · simp (disch := omega) only [↓jM_e, li_0, li_1, li_2, li_3, li_4, li_5, li_6, li_7, li_8, li_9, li_10, li_13, li_14, li_15, li_16, li_31, li_35, li_47, li_48, li_49, li_50, li_57, li_99, li_100, li_126, li_139, li_140, li_149, li_150, li_280, li_284, li_285, li_290, li_434, li_1260, li_3472, li_9999, li_65536, nm, nm_w, sf_w, cp_w, ld_I, sa_I, nI_add, pk_mul, Nat.zero_add, nI_leI, nI_ltI, nI_eq, nI_neM, M_neI, nI_ltM, nI_nltM, M_ltI, M_leI, nI_nleM, bnd_some, if_pos, if_neg, dif_t, dif_f, e0, if_neg h0]
      exact hk hlt _ _ _ _ _ ⟨by rw [hs, if_pos (by simp [opP, h0])], rfl, rfl, rfl, rfl⟩
theorem den_M {w : sV} (hw : MW W w) (hI : IW B W) (hK : 400000 < K) : fX7_density K w = (if cnI (opP W.1) 140 = 0 then some (FP.fconst0, s2 w 157 6 (nI 1)) else (fdv (FP.i2f (nI (cnI (exS W.1) 16))) (FP.i2f (nI (cnI (opP W.1) 140))) (fun y3 => some (y3, s2 w 157 6 (nI 0))))) := by
  have hcl := @cnI_le (opP W.1) 140
  have hcx := @cnI_le (exS W.1) 16
  have hw' := (MW_t (y := nI 0) hw).1.1
  unfold fX7_density
  refine fx2_go (P := fun t x1 x2 => x1 = nI (cnI (opP W.1) t) ∧ x2 = nI t) (Q := fun o => o = (if cnI (opP W.1) 140 = 0 then some (FP.fconst0, s2 w 157 6 (nI 1)) else (fdv (FP.i2f (nI (cnI (exS W.1) 16))) (FP.i2f (nI (cnI (opP W.1) 140))) (fun y3 => some (y3, s2 w 157 6 (nI 0)))))) (N := 140) ?_ ⟨rfl, rfl⟩ (by omega)
  intro t x1 x2 ht ⟨e1, e2⟩ k hk
  subst e1 e2
  have hs : cnI (opP W.1) (t + 1) = cnI (opP W.1) t + (if opP W.1 t = true then 1 else 0) := rfl
  have hct := @cnI_le (opP W.1) t
  unfold gX7_density_4 bX7_density_43
  by_cases ht1 : t = 140
  · subst ht1
    by_cases h0 : cnI (opP W.1) 140 = 0
    · simp (disch := omega) only [↓jM_e, li_0, li_1, li_2, li_3, li_4, li_5, li_6, li_7, li_8, li_9, li_10, li_13, li_14, li_15, li_16, li_31, li_35, li_47, li_48, li_49, li_50, li_57, li_99, li_100, li_126, li_139, li_140, li_149, li_150, li_280, li_284, li_285, li_290, li_434, li_1260, li_3472, li_9999, li_65536, nm, nm_w, sf_w, cp_w, ld_I, sa_I, nI_add, pk_mul, Nat.zero_add, nI_leI, nI_ltI, nI_eq, nI_neM, M_neI, nI_ltM, nI_nltM, M_ltI, M_leI, nI_nleM, bnd_some, if_pos, if_neg, dif_t, dif_f, if_pos h0, s2_i]
    · simp (disch := omega) only [↓jM_e, li_0, li_1, li_2, li_3, li_4, li_5, li_6, li_7, li_8, li_9, li_10, li_13, li_14, li_15, li_16, li_31, li_35, li_47, li_48, li_49, li_50, li_57, li_99, li_100, li_126, li_139, li_140, li_149, li_150, li_280, li_284, li_285, li_290, li_434, li_1260, li_3472, li_9999, li_65536, nm, nm_w, sf_w, cp_w, ld_I, sa_I, nI_add, pk_mul, Nat.zero_add, nI_leI, nI_ltI, nI_eq, nI_neM, M_neI, nI_ltM, nI_nltM, M_ltI, M_leI, nI_nleM, bnd_some, if_pos, if_neg, dif_t, dif_f, if_neg h0, s2_i, my_M hw' (show 16 < K by omega)]
  · have hlt : t < 140 := by omega
    by_cases h0 : coS W.1 t = 0
    · simp (disch := omega) only [↓jM_e, li_0, li_1, li_2, li_3, li_4, li_5, li_6, li_7, li_8, li_9, li_10, li_13, li_14, li_15, li_16, li_31, li_35, li_47, li_48, li_49, li_50, li_57, li_99, li_100, li_126, li_139, li_140, li_149, li_150, li_280, li_284, li_285, li_290, li_434, li_1260, li_3472, li_9999, li_65536, nm, nm_w, sf_w, cp_w, ld_I, sa_I, nI_add, pk_mul, Nat.zero_add, nI_leI, nI_ltI, nI_eq, nI_neM, M_neI, nI_ltM, nI_nltM, M_ltI, M_leI, nI_nleM, bnd_some, if_pos, if_neg, dif_t, dif_f, if_M hw.1.1 hI.1 hlt, if_pos h0, Nat.add_zero]
      exact hk hlt _ _ ⟨by rw [hs, if_neg (by simp [opP, h0]), Nat.add_zero], rfl⟩
    · simp (disch := omega) only [↓jM_e, li_0, li_1, li_2, li_3, li_4, li_5, li_6, li_7, li_8, li_9, li_10, li_13, li_14, li_15, li_16, li_31, li_35, li_47, li_48, li_49, li_50, li_57, li_99, li_100, li_126, li_139, li_140, li_149, li_150, li_280, li_284, li_285, li_290, li_434, li_1260, li_3472, li_9999, li_65536, nm, nm_w, sf_w, cp_w, ld_I, sa_I, nI_add, pk_mul, Nat.zero_add, nI_leI, nI_ltI, nI_eq, nI_neM, M_neI, nI_ltM, nI_nltM, M_ltI, M_leI, nI_nleM, bnd_some, if_pos, if_neg, dif_t, dif_f, if_M hw.1.1 hI.1 hlt, if_neg h0]
      exact hk hlt _ _ ⟨by rw [hs, if_pos (by simp [opP, h0])], rfl⟩
theorem a_23 (hC : CW W r v n) (hM : MW W v) (hI : IW B W) (hK : 400000 < K) : OUT B (fL_density K r v n x) (fX7_density K) (fun c z => vf_n64 (FP.f2d z) ∧ Op.cmpValue (FP.dcmp c.2 (FP.f2d z)) .l = 0) n := by
  have hsh := hC.2.1.1
  have hcl := @cnI_le (opP W.1) 140
  have hcx := @cnI_le (exS W.1) 16
  by_cases h0 : cnI (opP W.1) 140 = 0
  · refine fin_thr hC hM hI (code := 1) (z := FP.fconst0) (x' := x) (by decide) ?_ (fun w hw => ?_)
    · unfold fL_density
      rw [den_C hC hI hK, if_pos h0]
      rfl
    · rw [den_M hw hI hK, if_pos h0]
  · obtain ⟨d1, d2, d3⟩ := (fd_all (cnI (exS W.1) 16) (by omega) (cnI (opP W.1) 140) (by omega)).resolve_left h0
    generalize hq : FP.fdiv (FP.i2f (nI (cnI (exS W.1) 16))) (FP.i2f (nI (cnI (opP W.1) 140))) = qd at d1 d2 d3
    have hcls' : fX6_density K r v n = some (Sum.inl qd, r, v, 0) := by
      rw [den_C hC hI hK, if_neg h0, fdv_y (by rw [hq]; exact d1), hq]
    have hmod' : ∀ w, MW W w → fX7_density K w = some (qd, s2 w 157 6 (nI 0)) := by
      intro w hw
      rw [den_M hw hI hK, if_neg h0, fdv_y (by rw [hq]; exact d1), hq]
    refine fin_rd hC hM hI (x' := (x.1, FP.f2d qd)) ?_ (fun w hw => ⟨qd, hmod' w hw, d2, d3⟩)
    unfold fL_density
    rw [hcls', bnd_some]
    unfold acC
    dsimp only
    rw [ac_0, fdd_y d2]
    rfl
end
