/-! setGoal, tick, forecast -/
section
variable {v : sV} {K n : Nat} {r : sR} {W : aW} {B : Nat} {x : Int64 × UInt64}
theorem MW_wL {S' : aS} {w w' : sV} (h : MW W w) (hm : mI S' w') (hf : frL w w') : MW (wS W S') w' := by
  obtain ⟨g1, g2, g3, g4, g5⟩ := h
  have e : ∀ p, p = 157 ∨ p = 159 ∨ p = 161 ∨ p = 168 → w' p = w p := fun p hp => hf p (by omega) (by omega) (by omega) (by omega) (by omega) (by omega) (by omega)
  refine ⟨hm, ?_, ?_, ?_, ?_⟩
  · rw [e 157 (by omega)]; exact g2
  · rw [e 161 (by omega)]; exact g3
  · rw [e 157 (by omega), e 159 (by omega)]; exact g4
  · rw [e 157 (by omega), e 168 (by omega)]; exact g5
theorem fin_tk {β : Type} {fL : Option ((Int32 × (Int64 × UInt64)) × sR × sV × Nat)} {f7 : sV → Option (β × sV)} {P : Int64 × UInt64 → β → Prop} {B' : Nat} (hC : CW W r v n) (hM : MW W v) (hI : IW B W) (hBB : B ≤ B') (hK : 4000 < K) {S' : aS} {x' : Int64 × UInt64} (hS : iS B' S')
    (e1 : ∀ r1 v1 k1, (∀ (β : Type) (f : Unit → sR → sV → Nat → Option (β × sR × sV × Nat)), (fX3_record K 1 r v n).bind (fun q9 => ac q9 n f) = (f () r1 v1 (n + k1)).map (addk k1)) → CW (wK W) r1 v1 (n + k1) → ∃ r2 v2 k2, fL = some ((nI 0, x'), r2, v2, k2) ∧ CW (wS (wK W) S') r2 v2 (n + k2) ∧ ∀ p, 157 ≤ p → p < 172 → v2 p = v1 p)
    (h7 : ∀ w w1, MW W w → fX7_keeps K (s2 w 157 6 (nI 0)) = some w1 → MW (wK W) w1 → w1 157 6 = nI 0 → ∃ z w2, f7 w = some (z, w2) ∧ P x' z ∧ mI S' w2 ∧ frL w1 w2) : OUT B' fL f7 P n := by
  obtain ⟨r1, v1, k1, e2, g1, g2⟩ := keep_C (K := K) hC hI (by omega)
  obtain ⟨r2, v2, k2, e3, g3, g4⟩ := e1 r1 v1 k1 e2 g1
  refine fin_ok hM e3 g3 (fun p p1 p2 => by rw [g4 p p1 p2, g2 p (by omega) (by omega)]) (IW_S (IW_B (IW_K hI) hBB) hS) (fun w hw => ?_)
  obtain ⟨w1, q1, q2, q3, q4⟩ := keep_M (K := K) (MW_t (y := nI 0) hw) hI hK
  have q5 : w1 157 6 = nI 0 := q4.trans s2_i
  obtain ⟨z, w2, t1, t2, t3, t4⟩ := h7 w w1 hw q1 q2 q5
  refine ⟨z, w2, t1, ?_, fun _ => t2, MW_wL q2 t3 t4, fun p hp => ?_⟩
  · rw [t4 157 (by decide) (by decide) (by decide) (by decide) (by decide) (by decide) (by decide)]; exact q5
  · rw [t4 p (by omega) (by omega) (by omega) (by omega) (by omega) (by omega) (by omega), q3 p (by omega) (by omega), s2_ne (by omega)]
noncomputable def itR : Nat → aS → aS
  | 0, S => S
  | t + 1, S => tickS (itR t S)
theorem itR_inv {S : aS} (hI : iS B S) (hO : okT S) : ∀ {t : Nat}, B + 32 * t < 2 ^ 30 → iS (B + 32 * t) (itR t S) ∧ sameT S (itR t S)
  | 0, _ => ⟨hI, sameT.rf⟩
  | t + 1, hB => by
    obtain ⟨h1, h2⟩ := itR_inv hI hO (t := t) (by omega)
    have hO' : okT (itR t S) := by unfold okT; rw [sameT_co h2]; exact hO
    obtain ⟨h3, h4⟩ := tick_inv h1 hO' (by omega)
    exact ⟨iS_B h3 (by omega), h2.trans h4⟩
/-- a loop's answer, counted from where it stands -/
def gE (Q : Sum Int32 Nat → sV → sR → Nat → Prop) (n : Nat) (o : Option (Sum Int32 Nat × sR × sV × Nat)) : Prop := ∃ y r' v' k, o = some (y, r', v', k) ∧ Q y v' r' (n + k)
theorem ac_gE {α : Type} {Q : Sum Int32 Nat → sV → sR → Nat → Prop} {k : Nat} {a : α} {f : α → sR → sV → Nat → Option (Sum Int32 Nat × sR × sV × Nat)} (h : gE Q (n + k) (f a r v (n + k))) : gE Q n (ac (a, r, v, k) n f) := by
  obtain ⟨y, r', v', k', e, h1⟩ := h
  refine ⟨y, r', v', k + k', ?_, by rw [← Nat.add_assoc]; exact h1⟩
  unfold ac
  simp only [e]
  rfl
theorem a_16 (x1 : Int32) (hC : CW W r v n) (hM : MW W v) (hI : IW B W) (hB : B + 10000 < 2 ^ 30) (hK : 400000 < K) : OUT (B + 1600) (fL_tick K x1 r v n x) (fX7_tick K x1) PI n := by
  have hsh := hC.2.1.1
  by_cases hin : nI 1 ≤ x1 ∧ x1 ≤ nI 50
  · obtain ⟨m, hm, rfl⟩ : ∃ m, m < 51 ∧ x1 = nI m := by
      refine in_nI (fun g => ?_) ?_ (by decide)
      · have h1 := Int32.lt_iff_toInt_lt.mp g
        have h2 := Int32.le_iff_toInt_le.mp hin.1
        rw [nI_toInt (by decide)] at h2
        have h3 : (0 : Int32).toInt = 0 := rfl
        omega
      · have := hin.2
        rw [le_pred (n := 50) (by decide)] at this
        exact this
    have hin' : 1 ≤ m ∧ m ≤ 50 := by
      have := hin
      rw [nI_leI (by decide) (by omega), nI_leI (by omega) (by decide)] at this
      exact this
    have hO : okT W.1 := okT_M hI.1 hM.1 hK
    have hinv := fun t (ht : t ≤ 50) => itR_inv (t := t) hI.1 hO (by omega)
    refine fin_tk (S' := itR m W.1) (x' := ((itR m W.1 11 0).toInt64, x.2)) hC hM hI (by omega) (K := K) (by omega) (iS_B (hinv m (by omega)).1 (by omega)) (fun r1 v1 k1 e1 g1 => ?_) (fun w w1 hw e1 g1 q5 => ?_)
    · have hloop : gE (fun y v' r' n' => y = Sum.inl (itR m W.1 11 0) ∧ RelC 1 (itR m W.1) v' ∧ cacC (coS W.1) r' v' n' ∧ frC 1 20 v1 v') (n + k1) (fx4 (gX6_tick_32 K (nI m)) K (nI 0) r1 v1 (n + k1)) := by
        refine fx4_gR (P := fun t x2 r v n => x2 = nI t ∧ t ≤ m ∧ RelC 1 (itR t W.1) v ∧ cacC (coS W.1) r v n ∧ frC 1 20 v1 v) (R := fun _ _ _ n o => gE (fun y v' r' n' => y = Sum.inl (itR m W.1 11 0) ∧ RelC 1 (itR m W.1) v' ∧ cacC (coS W.1) r' v' n' ∧ frC 1 20 v1 v') n o) (N := m) ?_ ⟨rfl, Nat.zero_le _, g1.1, g1.2.1, frC.rf⟩ (by omega)
        intro t x2 r v n ht ⟨e2, _, h1, h2, h3⟩ k hk
        subst e2
        unfold gX6_tick_32
        by_cases htm : t = m
        · subst htm
          have e0 : v 13 0 = itR t W.1 11 0 := rc11 h1 (by decide)
          simp (disch := omega) only [↓jM_e, li_0, li_1, li_2, li_3, li_4, li_5, li_6, li_7, li_8, li_9, li_10, li_13, li_14, li_15, li_16, li_31, li_35, li_47, li_48, li_49, li_50, li_57, li_99, li_100, li_126, li_139, li_140, li_149, li_150, li_280, li_284, li_285, li_290, li_434, li_1260, li_3472, li_9999, li_65536, nm, nm_w, sf_w, cp_w, ld_I, sa_I, nI_add, pk_mul, Nat.zero_add, nI_leI, nI_ltI, nI_eq, nI_neM, M_neI, nI_ltM, nI_nltM, M_ltI, M_leI, nI_nleM, bnd_some, if_pos, if_neg, dif_t, dif_f, e0]
          exact ⟨_, _, _, _, rfl, rfl, h1, by rw [Nat.add_zero]; exact h2, h3⟩
        · have hlt : t < m := by omega
          obtain ⟨i1, i2⟩ := hinv t (by omega)
          have hco := sameT_co i2
          rw [← hco] at h2
          obtain ⟨u, r', v', k', et, t1, t2, t3⟩ := pt_C (cq := 20) (Or.inl ⟨rfl, rfl⟩) h1 i1 h2 (by omega) (show 2000 < K by omega)
          simp (disch := omega) only [↓jM_e, li_0, li_1, li_2, li_3, li_4, li_5, li_6, li_7, li_8, li_9, li_10, li_13, li_14, li_15, li_16, li_31, li_35, li_47, li_48, li_49, li_50, li_57, li_99, li_100, li_126, li_139, li_140, li_149, li_150, li_280, li_284, li_285, li_290, li_434, li_1260, li_3472, li_9999, li_65536, nm, nm_w, sf_w, cp_w, ld_I, sa_I, nI_add, pk_mul, Nat.zero_add, nI_leI, nI_ltI, nI_eq, nI_neM, M_neI, nI_ltM, nI_nltM, M_ltI, M_leI, nI_nleM, bnd_some, if_pos, if_neg, dif_t, dif_f, et]
          refine ac_gE ?_
          rw [ck_i t2.1]
          rw [hco] at t2
          exact hk hlt _ _ _ _ ⟨rfl, by omega, t1, t2, h3.trans t3⟩
      obtain ⟨y, r', v', k', el, rfl, t1, t2, t3⟩ := hloop
      refine ⟨r', v', k1 + k', ?_, ?_, fun p p1 p2 => t3 p (by omega) (by omega) (by omega) (by omega) (by omega)⟩
      · have n1 : ¬ nI m < nI 1 := Int32.not_lt.mpr hin.1
        have n2 : ¬ nI 50 < nI m := Int32.not_lt.mpr hin.2
        unfold fL_tick fX6_tick bX6_tick_16 fX6_requireArgument
        simp (disch := omega) only [↓jM_e, li_0, li_1, li_2, li_3, li_4, li_5, li_6, li_7, li_8, li_9, li_10, li_13, li_14, li_15, li_16, li_31, li_35, li_47, li_48, li_49, li_50, li_57, li_99, li_100, li_126, li_139, li_140, li_149, li_150, li_280, li_284, li_285, li_290, li_434, li_1260, li_3472, li_9999, li_65536, nm, nm_w, sf_w, cp_w, ld_I, sa_I, nI_add, pk_mul, Nat.zero_add, nI_leI, nI_ltI, nI_eq, nI_neM, M_neI, nI_ltM, nI_nltM, M_ltI, M_leI, nI_nleM, bnd_some, if_pos, if_neg, dif_t, dif_f, if_neg n1, if_neg n2, acT_l, ck_i hsh, e1, ck_i g1.2.1.1, el]
        rfl
      · refine CW_h g1 rfl t1 ?_ (fun p hp => t3 p (by omega) (by omega) (by omega) (by omega) (by omega))
        show cacC (coS (itR m W.1)) r' v' (n + (k1 + k'))
        rw [sameT_co (hinv m (by omega)).2, ← Nat.add_assoc]
        exact t2
    · have hloop : ∃ w2, fx2 (gX7_tick_34 K (nI m)) K (nI 0) w1 = some (itR m W.1 11 0, w2) ∧ mI (itR m W.1) w2 ∧ frL w1 w2 := by
        refine fx2_go (P := fun t x2 w => x2 = nI t ∧ t ≤ m ∧ mI (itR t W.1) w ∧ frL w1 w) (Q := fun o => ∃ w2, o = some (itR m W.1 11 0, w2) ∧ mI (itR m W.1) w2 ∧ frL w1 w2) (N := m) ?_ ⟨rfl, Nat.zero_le _, g1.1, fun _ _ _ _ _ _ _ _ => rfl⟩ (by omega)
        intro t x2 w ht ⟨e2, _, h1, h2⟩ k hk
        subst e2
        unfold gX7_tick_34
        by_cases htm : t = m
        · subst htm
          have e0 : w 158 285 = itR t W.1 11 0 := h1.1.2.2.2.2.1 0 (by decide)
          simp (disch := omega) only [↓jM_e, li_0, li_1, li_2, li_3, li_4, li_5, li_6, li_7, li_8, li_9, li_10, li_13, li_14, li_15, li_16, li_31, li_35, li_47, li_48, li_49, li_50, li_57, li_99, li_100, li_126, li_139, li_140, li_149, li_150, li_280, li_284, li_285, li_290, li_434, li_1260, li_3472, li_9999, li_65536, nm, nm_w, sf_w, cp_w, ld_I, sa_I, nI_add, pk_mul, Nat.zero_add, nI_leI, nI_ltI, nI_eq, nI_neM, M_neI, nI_ltM, nI_nltM, M_ltI, M_leI, nI_nleM, bnd_some, if_pos, if_neg, dif_t, dif_f, show (285 : Int32) = nI 285 from rfl, e0]
          exact ⟨w, rfl, h1, h2⟩
        · have hlt : t < m := by omega
          obtain ⟨i1, i2⟩ := hinv t (by omega)
          obtain ⟨w', et, t1, t2⟩ := tick_M i1 h1 (by omega) hK
          simp (disch := omega) only [↓jM_e, li_0, li_1, li_2, li_3, li_4, li_5, li_6, li_7, li_8, li_9, li_10, li_13, li_14, li_15, li_16, li_31, li_35, li_47, li_48, li_49, li_50, li_57, li_99, li_100, li_126, li_139, li_140, li_149, li_150, li_280, li_284, li_285, li_290, li_434, li_1260, li_3472, li_9999, li_65536, nm, nm_w, sf_w, cp_w, ld_I, sa_I, nI_add, pk_mul, Nat.zero_add, nI_leI, nI_ltI, nI_eq, nI_neM, M_neI, nI_ltM, nI_nltM, M_ltI, M_leI, nI_nleM, bnd_some, if_pos, if_neg, dif_t, dif_f, et]
          exact hk hlt _ _ ⟨rfl, by omega, t1, h2.trans t2⟩
      obtain ⟨w2, el, t1, t2⟩ := hloop
      unfold fX7_tick bX7_tick_16
      simp (disch := omega) only [↓jM_e, li_0, li_1, li_2, li_3, li_4, li_5, li_6, li_7, li_8, li_9, li_10, li_13, li_14, li_15, li_16, li_31, li_35, li_47, li_48, li_49, li_50, li_57, li_99, li_100, li_126, li_139, li_140, li_149, li_150, li_280, li_284, li_285, li_290, li_434, li_1260, li_3472, li_9999, li_65536, nm, nm_w, sf_w, cp_w, ld_I, sa_I, nI_add, pk_mul, Nat.zero_add, nI_leI, nI_ltI, nI_eq, nI_neM, M_neI, nI_ltM, nI_nltM, M_ltI, M_leI, nI_nleM, bnd_some, if_pos, if_neg, dif_t, dif_f, ii_M, if_pos hin, s2_i, e1, el]
      exact ⟨_, _, rfl, rfl, t1, t2⟩
  · refine fin_thr (B := B + 1600) hC hM (IW_B hI (by omega)) (code := 1) (z := nI 0) (x' := x) (by decide) ?_ (fun w hw => ?_)
    · unfold fL_tick fX6_tick bX6_tick_16 fX6_requireArgument
      by_cases h1 : x1 < nI 1
      · simp (disch := omega) only [↓jM_e, li_0, li_1, li_2, li_3, li_4, li_5, li_6, li_7, li_8, li_9, li_10, li_13, li_14, li_15, li_16, li_31, li_35, li_47, li_48, li_49, li_50, li_57, li_99, li_100, li_126, li_139, li_140, li_149, li_150, li_280, li_284, li_285, li_290, li_434, li_1260, li_3472, li_9999, li_65536, nm, nm_w, sf_w, cp_w, ld_I, sa_I, nI_add, pk_mul, Nat.zero_add, nI_leI, nI_ltI, nI_eq, nI_neM, M_neI, nI_ltM, nI_nltM, M_ltI, M_leI, nI_nleM, bnd_some, if_pos, if_neg, dif_t, dif_f, if_pos h1, acT_r]
        rfl
      · have h2 : nI 50 < x1 := Int32.not_le.mp (fun g => hin ⟨Int32.not_lt.mp h1, g⟩)
        simp (disch := omega) only [↓jM_e, li_0, li_1, li_2, li_3, li_4, li_5, li_6, li_7, li_8, li_9, li_10, li_13, li_14, li_15, li_16, li_31, li_35, li_47, li_48, li_49, li_50, li_57, li_99, li_100, li_126, li_139, li_140, li_149, li_150, li_280, li_284, li_285, li_290, li_434, li_1260, li_3472, li_9999, li_65536, nm, nm_w, sf_w, cp_w, ld_I, sa_I, nI_add, pk_mul, Nat.zero_add, nI_leI, nI_ltI, nI_eq, nI_neM, M_neI, nI_ltM, nI_nltM, M_ltI, M_leI, nI_nleM, bnd_some, if_pos, if_neg, dif_t, dif_f, if_neg h1, if_pos h2, acT_r]
        rfl
    · unfold fX7_tick bX7_tick_16
      simp (disch := omega) only [↓jM_e, li_0, li_1, li_2, li_3, li_4, li_5, li_6, li_7, li_8, li_9, li_10, li_13, li_14, li_15, li_16, li_31, li_35, li_47, li_48, li_49, li_50, li_57, li_99, li_100, li_126, li_139, li_140, li_149, li_150, li_280, li_284, li_285, li_290, li_434, li_1260, li_3472, li_9999, li_65536, nm, nm_w, sf_w, cp_w, ld_I, sa_I, nI_add, pk_mul, Nat.zero_add, nI_leI, nI_ltI, nI_eq, nI_neM, M_neI, nI_ltM, nI_nltM, M_ltI, M_leI, nI_nleM, bnd_some, if_pos, if_neg, dif_t, dif_f, ii_M, if_neg hin, s2_i]
noncomputable def fcR (S : aS) (a : Nat) : Option Nat := ffI (fun t => seS (itR t S) a) 101 0
def fcA (o : Option Nat) : Int32 := match o with
  | none => nI 0
  | some t => nI t
def fcC (o : Option Nat) : Int32 := match o with
  | none => nI 2
  | some _ => nI 0
def fcB (o : Option Nat) : Sum Int32 Nat := match o with
  | none => Sum.inr 4
  | some t => Sum.inl (nI t)
theorem fcR_s {S : aS} {a t : Nat} (h : ffI (fun t => seS (itR t S) a) (101 - t) t = fcR S a) (ht : t ≤ 100) (hs : seS (itR t S) a = true) : fcR S a = some t := by
  rw [← h, show 101 - t = (100 - t) + 1 by omega]
  exact if_pos hs
theorem fcR_n {S : aS} {a t : Nat} (h : ffI (fun t => seS (itR t S) a) (101 - t) t = fcR S a) (ht : t ≤ 100) (hs : ¬ seS (itR t S) a = true) : ffI (fun t => seS (itR t S) a) (101 - (t + 1)) (t + 1) = fcR S a := by
  rw [← h, show 101 - t = (101 - (t + 1)) + 1 by omega]
  exact (if_neg hs).symm
theorem a_18 (x1 : Int32) (hC : CW W r v n) (hM : MW W v) (hI : IW B W) (hB : B + 10000 < 2 ^ 30) (hK : 400000 < K) : OUT B (fL_forecast K x1 r v n x) (fX7_forecast K x1) PI n := by
  have hsh := hC.2.1.1
  rcases arg_A W.1 x1 with hn | ⟨a, ha, rfl, hx⟩
  · refine fin_thr hC hM hI (code := 1) (z := nI 0) (x' := x) (by decide) ?_ (fun w hw => ?_)
    · unfold fL_forecast fX6_forecast
      simp (disch := omega) only [↓jM_e, li_0, li_1, li_2, li_3, li_4, li_5, li_6, li_7, li_8, li_9, li_10, li_13, li_14, li_15, li_16, li_31, li_35, li_47, li_48, li_49, li_50, li_57, li_99, li_100, li_126, li_139, li_140, li_149, li_150, li_280, li_284, li_285, li_290, li_434, li_1260, li_3472, li_9999, li_65536, nm, nm_w, sf_w, cp_w, ld_I, sa_I, nI_add, pk_mul, Nat.zero_add, nI_leI, nI_ltI, nI_eq, nI_neM, M_neI, nI_ltM, nI_nltM, M_ltI, M_leI, nI_nleM, bnd_some, if_pos, if_neg, dif_t, dif_f, rA_n hC.1 hn, acT_r]
      rfl
    · unfold fX7_forecast bX7_forecast_14
      simp (disch := omega) only [↓jM_e, li_0, li_1, li_2, li_3, li_4, li_5, li_6, li_7, li_8, li_9, li_10, li_13, li_14, li_15, li_16, li_31, li_35, li_47, li_48, li_49, li_50, li_57, li_99, li_100, li_126, li_139, li_140, li_149, li_150, li_280, li_284, li_285, li_290, li_434, li_1260, li_3472, li_9999, li_65536, nm, nm_w, sf_w, cp_w, ld_I, sa_I, nI_add, pk_mul, Nat.zero_add, nI_leI, nI_ltI, nI_eq, nI_neM, M_neI, nI_ltM, nI_nltM, M_ltI, M_leI, nI_nleM, bnd_some, if_pos, if_neg, dif_t, dif_f, no_M hw.1.1 hn, s2_i]
  · have hO : okT W.1 := okT_M hI.1 hM.1 hK
    have hinv := fun t (ht : t ≤ 100) => itR_inv (t := t) hI.1 hO (by omega)
    have hxt : ∀ t, t ≤ 100 → itR t W.1 3 a ≠ jM := fun t ht => by rw [ne_eq, (hinv t ht).2.2.2.2.2.2.2.2.2 a]; exact hx
    obtain ⟨v1, ec, c1, c2⟩ := copy_ok (v := v) (b := 22) (d := 1) (by omega)
    have hloop : gE (fun y v' r' n' => y = fcB (fcR W.1 a) ∧ cacC (coS W.1) r' v' n' ∧ frC 22 21 v1 v') n (fx4 (gX6_forecast_21 K (nI a)) K (nI 0) r v1 n) := by
      refine fx4_gR (P := fun t x2 r v n => x2 = nI t ∧ RelC 22 (itR t W.1) v ∧ cacC (coS W.1) r v n ∧ frC 22 21 v1 v ∧ ffI (fun t => seS (itR t W.1) a) (101 - t) t = fcR W.1 a) (R := fun _ _ _ n o => gE (fun y v' r' n' => y = fcB (fcR W.1 a) ∧ cacC (coS W.1) r' v' n' ∧ frC 22 21 v1 v') n o) (N := 100) ?_ ⟨rfl, c1 _ hC.1, cacC_v hC.2.1 (fun p hp => c2 p (by omega)), frC.rf, rfl⟩ (by omega)
      intro t x2 r v n ht ⟨e2, h1, h2, h3, h4⟩ k hk
      subst e2
      obtain ⟨i1, i2⟩ := hinv t ht
      have hxx := hxt t ht
      have hse := se_C (cq := 21) h1 i1 ha hxx
      unfold gX6_forecast_21
      by_cases hs : seS (itR t W.1) a = true
      · have hf := fcR_s h4 ht hs
        by_cases ht1 : t = 100
        · subst ht1
          simp (disch := omega) only [↓jM_e, li_0, li_1, li_2, li_3, li_4, li_5, li_6, li_7, li_8, li_9, li_10, li_13, li_14, li_15, li_16, li_31, li_35, li_47, li_48, li_49, li_50, li_57, li_99, li_100, li_126, li_139, li_140, li_149, li_150, li_280, li_284, li_285, li_290, li_434, li_1260, li_3472, li_9999, li_65536, nm, nm_w, sf_w, cp_w, ld_I, sa_I, nI_add, pk_mul, Nat.zero_add, nI_leI, nI_ltI, nI_eq, nI_neM, M_neI, nI_ltM, nI_nltM, M_ltI, M_leI, nI_nleM, bnd_some, if_pos, if_neg, dif_t, dif_f, hse, if_pos hs]
          refine ⟨_, _, _, _, rfl, ?_, by rw [Nat.add_zero]; exact h2, h3⟩
          rw [hf]
          rfl
        · simp (disch := omega) only [↓jM_e, li_0, li_1, li_2, li_3, li_4, li_5, li_6, li_7, li_8, li_9, li_10, li_13, li_14, li_15, li_16, li_31, li_35, li_47, li_48, li_49, li_50, li_57, li_99, li_100, li_126, li_139, li_140, li_149, li_150, li_280, li_284, li_285, li_290, li_434, li_1260, li_3472, li_9999, li_65536, nm, nm_w, sf_w, cp_w, ld_I, sa_I, nI_add, pk_mul, Nat.zero_add, nI_leI, nI_ltI, nI_eq, nI_neM, M_neI, nI_ltM, nI_nltM, M_ltI, M_leI, nI_nleM, bnd_some, if_pos, if_neg, dif_t, dif_f, hse, if_pos hs]
          refine ⟨_, _, _, _, rfl, ?_, by rw [Nat.add_zero]; exact h2, h3⟩
          rw [hf]
          rfl
      · have hf := fcR_n h4 ht hs
        by_cases ht1 : t = 100
        · subst ht1
          have hf : none = fcR W.1 a := hf
          simp (disch := omega) only [↓jM_e, li_0, li_1, li_2, li_3, li_4, li_5, li_6, li_7, li_8, li_9, li_10, li_13, li_14, li_15, li_16, li_31, li_35, li_47, li_48, li_49, li_50, li_57, li_99, li_100, li_126, li_139, li_140, li_149, li_150, li_280, li_284, li_285, li_290, li_434, li_1260, li_3472, li_9999, li_65536, nm, nm_w, sf_w, cp_w, ld_I, sa_I, nI_add, pk_mul, Nat.zero_add, nI_leI, nI_ltI, nI_eq, nI_neM, M_neI, nI_ltM, nI_nltM, M_ltI, M_leI, nI_nleM, bnd_some, if_pos, if_neg, dif_t, dif_f, hse, if_neg hs]
          refine ⟨_, _, _, _, rfl, ?_, by rw [Nat.add_zero]; exact h2, h3⟩
          rw [← hf]
          rfl
        · have hlt : t < 100 := by omega
          have hco := sameT_co i2
          rw [← hco] at h2
          obtain ⟨u, r', v', k', et, t1, t2, t3⟩ := pt_C (cq := 21) (Or.inr ⟨rfl, rfl⟩) h1 i1 h2 (by omega) (show 2000 < K by omega)
          simp (disch := omega) only [↓jM_e, li_0, li_1, li_2, li_3, li_4, li_5, li_6, li_7, li_8, li_9, li_10, li_13, li_14, li_15, li_16, li_31, li_35, li_47, li_48, li_49, li_50, li_57, li_99, li_100, li_126, li_139, li_140, li_149, li_150, li_280, li_284, li_285, li_290, li_434, li_1260, li_3472, li_9999, li_65536, nm, nm_w, sf_w, cp_w, ld_I, sa_I, nI_add, pk_mul, Nat.zero_add, nI_leI, nI_ltI, nI_eq, nI_neM, M_neI, nI_ltM, nI_nltM, M_ltI, M_leI, nI_nleM, bnd_some, if_pos, if_neg, dif_t, dif_f, hse, if_neg hs, et]
          refine ac_gE ?_
          rw [ck_i t2.1]
          rw [hco] at t2
          exact hk hlt _ _ _ _ ⟨rfl, t1, t2, h3.trans t3, hf⟩
    obtain ⟨y, r', v', k', el, ey, t2, t3⟩ := hloop
    have hfr : ∀ p, p < 172 → p ≠ 18 → p ≠ 19 → p ≠ 21 → ¬ (22 ≤ p ∧ p < 35) → v' p = v p := fun p p1 p2 p3 p4 p5 => by rw [t3 p p1 p2 p3 p4 (by omega), c2 p (by omega)]
    have hm7 : ∀ w, MW W w → ∃ w2, fX7_forecast K (nI a) w = some (fcA (fcR W.1 a), w2) ∧ mI W.1 w2 ∧ (∀ p, p ≠ 157 → p ≠ 158 → p ≠ 160 → p ≠ 162 → p ≠ 163 → p ≠ 164 → p ≠ 165 → p ≠ 166 → p ≠ 167 → w2 p = w p) ∧ (∀ j, j ≠ 6 → w2 157 j = w 157 j) ∧ w2 157 6 = fcC (fcR W.1 a) := by
      intro w hw
      have hw' := (MW_t (y := nI 0) hw).1
      unfold fX7_forecast bX7_forecast_14
      simp (disch := omega) only [↓jM_e, li_0, li_1, li_2, li_3, li_4, li_5, li_6, li_7, li_8, li_9, li_10, li_13, li_14, li_15, li_16, li_31, li_35, li_47, li_48, li_49, li_50, li_57, li_99, li_100, li_126, li_139, li_140, li_149, li_150, li_280, li_284, li_285, li_290, li_434, li_1260, li_3472, li_9999, li_65536, nm, nm_w, sf_w, cp_w, ld_I, sa_I, nI_add, pk_mul, Nat.zero_add, nI_leI, nI_ltI, nI_eq, nI_neM, M_neI, nI_ltM, nI_nltM, M_ltI, M_leI, nI_nleM, bnd_some, if_pos, if_neg, dif_t, dif_f, ya_M hw.1.1 ha hx, s2_i]
      refine fx2_go (P := fun t x2 (w' : sV) => x2 = nI t ∧ (∀ p, p ≠ 160 → w' p = s2 w 157 6 (nI 0) p) ∧ ∀ j, j < t → w' 160 j = w 158 j) (Q := fun o => ∃ w2, o = some (fcA (fcR W.1 a), w2) ∧ mI W.1 w2 ∧ (∀ p, p ≠ 157 → p ≠ 158 → p ≠ 160 → p ≠ 162 → p ≠ 163 → p ≠ 164 → p ≠ 165 → p ≠ 166 → p ≠ 167 → w2 p = w p) ∧ (∀ j, j ≠ 6 → w2 157 j = w 157 j) ∧ w2 157 6 = fcC (fcR W.1 a)) (N := 434) ?_ ⟨rfl, fun _ _ => rfl, fun j hj => absurd hj (Nat.not_lt_zero j)⟩ (by omega)
      intro t x2 w' ht ⟨e2, h1, h2⟩ k hk
      subst e2
      unfold gX7_forecast_28
      by_cases ht1 : t = 434
      · subst ht1
        have hm1 : mI W.1 w' := ⟨by rw [h1 158 (by decide)]; exact hw'.1, cacM_v hw'.2 (by rw [h1 164 (by decide)]) (by rw [h1 162 (by decide)])⟩
        -- the end: the row put back
        have hend : ∀ (u : sV) (y : Int32) (S : aS) (code : Int32), mI S u → coS S = coS W.1 → u 160 = w' 160 → fX7_isSettled (nI a) u = some (if code = nI 0 then nI 1 else nI 0) → (code = nI 0 ∨ code = nI 2) → ∃ w2, bX7_forecast_79 K (nI a) y u = some (if code = nI 0 then y else nI 0, w2) ∧ mI W.1 w2 ∧ (∀ p, p ≠ 157 → p ≠ 158 → w2 p = u p) ∧ (∀ j, j ≠ 6 → w2 157 j = u 157 j) ∧ w2 157 6 = code := by
          intro u y S code hu hco h160 hst hcode
          have hrest : ∀ code' : Int32, ∃ w2, fx2 (gX7_forecast_98 K y) K (nI 0) (s2 u 157 6 code') = some (if code' = nI 0 then y else nI 0, w2) ∧ mI W.1 w2 ∧ (∀ p, p ≠ 157 → p ≠ 158 → w2 p = u p) ∧ (∀ j, j ≠ 6 → w2 157 j = u 157 j) ∧ w2 157 6 = code' := by
            intro code'
            refine fx2_go (P := fun i x3 (q : sV) => x3 = nI i ∧ (∀ p, p ≠ 158 → q p = s2 u 157 6 code' p) ∧ ∀ j, j < i → q 158 j = w 158 j) (Q := fun o => ∃ w2, o = some (if code' = nI 0 then y else nI 0, w2) ∧ mI W.1 w2 ∧ (∀ p, p ≠ 157 → p ≠ 158 → w2 p = u p) ∧ (∀ j, j ≠ 6 → w2 157 j = u 157 j) ∧ w2 157 6 = code') (N := 434) ?_ ⟨rfl, fun _ _ => rfl, fun j hj => absurd hj (Nat.not_lt_zero j)⟩ (by omega)
            intro i x3 q hi ⟨e3, q1, q2⟩ k3 hk3
            subst e3
            unfold gX7_forecast_98
            by_cases hi1 : i = 434
            · subst hi1
              have e6 : q 157 6 = code' := by rw [q1 157 (by decide)]; exact s2_i
              have hout : mI W.1 q ∧ (∀ p, p ≠ 157 → p ≠ 158 → q p = u p) ∧ (∀ j, j ≠ 6 → q 157 j = u 157 j) ∧ q 157 6 = code' := by
                refine ⟨⟨RelM_c hw.1.1 (fun j hj => q2 j hj), ?_⟩, fun p p1 p2 => by rw [q1 p p2, s2_ne p1], fun j hj => by rw [q1 157 (by decide), s2_j hj], e6⟩
                have := hu.2
                rw [hco] at this
                exact cacM_v this (by rw [q1 164 (by decide), s2_ne (by decide)]) (by rw [q1 162 (by decide), s2_ne (by decide)])
              by_cases hc0 : code' = nI 0
              · simp (disch := omega) only [↓jM_e, li_0, li_1, li_2, li_3, li_4, li_5, li_6, li_7, li_8, li_9, li_10, li_13, li_14, li_15, li_16, li_31, li_35, li_47, li_48, li_49, li_50, li_57, li_99, li_100, li_126, li_139, li_140, li_149, li_150, li_280, li_284, li_285, li_290, li_434, li_1260, li_3472, li_9999, li_65536, nm, nm_w, sf_w, cp_w, ld_I, sa_I, nI_add, pk_mul, Nat.zero_add, nI_leI, nI_ltI, nI_eq, nI_neM, M_neI, nI_ltM, nI_nltM, M_ltI, M_leI, nI_nleM, bnd_some, if_pos, if_neg, dif_t, dif_f, e6, if_pos hc0]
                exact ⟨q, rfl, hout⟩
              · simp (disch := omega) only [↓jM_e, li_0, li_1, li_2, li_3, li_4, li_5, li_6, li_7, li_8, li_9, li_10, li_13, li_14, li_15, li_16, li_31, li_35, li_47, li_48, li_49, li_50, li_57, li_99, li_100, li_126, li_139, li_140, li_149, li_150, li_280, li_284, li_285, li_290, li_434, li_1260, li_3472, li_9999, li_65536, nm, nm_w, sf_w, cp_w, ld_I, sa_I, nI_add, pk_mul, Nat.zero_add, nI_leI, nI_ltI, nI_eq, nI_neM, M_neI, nI_ltM, nI_nltM, M_ltI, M_leI, nI_nleM, bnd_some, if_pos, if_neg, dif_t, dif_f, e6, if_neg hc0]
                exact ⟨q, rfl, hout⟩
            · have hlt : i < 434 := by omega
              have e160 : q 160 i = w 158 i := by rw [q1 160 (by decide), s2_ne (by decide), h160]; exact h2 i hlt
              simp (disch := omega) only [↓jM_e, li_0, li_1, li_2, li_3, li_4, li_5, li_6, li_7, li_8, li_9, li_10, li_13, li_14, li_15, li_16, li_31, li_35, li_47, li_48, li_49, li_50, li_57, li_99, li_100, li_126, li_139, li_140, li_149, li_150, li_280, li_284, li_285, li_290, li_434, li_1260, li_3472, li_9999, li_65536, nm, nm_w, sf_w, cp_w, ld_I, sa_I, nI_add, pk_mul, Nat.zero_add, nI_leI, nI_ltI, nI_eq, nI_neM, M_neI, nI_ltM, nI_nltM, M_ltI, M_leI, nI_nleM, bnd_some, if_pos, if_neg, dif_t, dif_f, e160]
              refine hk3 hlt _ _ ⟨rfl, fun p hp => by rw [s2_ne hp]; exact q1 p hp, fun j hj => ?_⟩
              by_cases hji : j = i
              · rw [hji, s2_i]
              · rw [s2_j hji]; exact q2 j (by omega)
          unfold bX7_forecast_79
          rcases hcode with rfl | rfl
          · rw [if_pos rfl] at hst
            simp (disch := omega) only [↓jM_e, li_0, li_1, li_2, li_3, li_4, li_5, li_6, li_7, li_8, li_9, li_10, li_13, li_14, li_15, li_16, li_31, li_35, li_47, li_48, li_49, li_50, li_57, li_99, li_100, li_126, li_139, li_140, li_149, li_150, li_280, li_284, li_285, li_290, li_434, li_1260, li_3472, li_9999, li_65536, nm, nm_w, sf_w, cp_w, ld_I, sa_I, nI_add, pk_mul, Nat.zero_add, nI_leI, nI_ltI, nI_eq, nI_neM, M_neI, nI_ltM, nI_nltM, M_ltI, M_leI, nI_nleM, bnd_some, if_pos, if_neg, dif_t, dif_f, hst]
            exact hrest (nI 0)
          · rw [if_neg (by decide)] at hst
            simp (disch := omega) only [↓jM_e, li_0, li_1, li_2, li_3, li_4, li_5, li_6, li_7, li_8, li_9, li_10, li_13, li_14, li_15, li_16, li_31, li_35, li_47, li_48, li_49, li_50, li_57, li_99, li_100, li_126, li_139, li_140, li_149, li_150, li_280, li_284, li_285, li_290, li_434, li_1260, li_3472, li_9999, li_65536, nm, nm_w, sf_w, cp_w, ld_I, sa_I, nI_add, pk_mul, Nat.zero_add, nI_leI, nI_ltI, nI_eq, nI_neM, M_neI, nI_ltM, nI_nltM, M_ltI, M_leI, nI_nleM, bnd_some, if_pos, if_neg, dif_t, dif_f, hst]
            exact hrest (nI 2)
        simp (disch := omega) only [↓jM_e, li_0, li_1, li_2, li_3, li_4, li_5, li_6, li_7, li_8, li_9, li_10, li_13, li_14, li_15, li_16, li_31, li_35, li_47, li_48, li_49, li_50, li_57, li_99, li_100, li_126, li_139, li_140, li_149, li_150, li_280, li_284, li_285, li_290, li_434, li_1260, li_3472, li_9999, li_65536, nm, nm_w, sf_w, cp_w, ld_I, sa_I, nI_add, pk_mul, Nat.zero_add, nI_leI, nI_ltI, nI_eq, nI_neM, M_neI, nI_ltM, nI_nltM, M_ltI, M_leI, nI_nleM, bnd_some, if_pos, if_neg, dif_t, dif_f]
        refine fx2_go (P := fun t x2 u => x2 = nI t ∧ mI (itR t W.1) u ∧ frL w' u ∧ ffI (fun t => seS (itR t W.1) a) (101 - t) t = fcR W.1 a) (Q := fun o => ∃ w2, o = some (fcA (fcR W.1 a), w2) ∧ mI W.1 w2 ∧ (∀ p, p ≠ 157 → p ≠ 158 → p ≠ 160 → p ≠ 162 → p ≠ 163 → p ≠ 164 → p ≠ 165 → p ≠ 166 → p ≠ 167 → w2 p = w p) ∧ (∀ j, j ≠ 6 → w2 157 j = w 157 j) ∧ w2 157 6 = fcC (fcR W.1 a)) (N := 100) ?_ ⟨rfl, hm1, fun _ _ _ _ _ _ _ _ => rfl, rfl⟩ (by omega)
        intro t x2 u ht ⟨e2, u1, u2, u3⟩ k5 hk5
        subst e2
        obtain ⟨i1, i2⟩ := hinv t ht
        have hxx := hxt t ht
        have hse := se_M u1.1 i1 ha hxx
        have hco := sameT_co i2
        have h160 : u 160 = w' 160 := u2 160 (by decide) (by decide) (by decide) (by decide) (by decide) (by decide) (by decide)
        have hfin : ∀ w2 : sV, (∀ p, p ≠ 157 → p ≠ 158 → w2 p = u p) → (∀ j, j ≠ 6 → w2 157 j = u 157 j) → (∀ p, p ≠ 157 → p ≠ 158 → p ≠ 160 → p ≠ 162 → p ≠ 163 → p ≠ 164 → p ≠ 165 → p ≠ 166 → p ≠ 167 → w2 p = w p) ∧ ∀ j, j ≠ 6 → w2 157 j = w 157 j := by
          intro w2 f1 f2
          refine ⟨fun p p1 p2 p3 p4 p5 p6 p7 p8 p9 => ?_, fun j hj => ?_⟩
          · rw [f1 p p1 p2, u2 p p2 p4 p5 p6 p7 p8 p9, h1 p p3, s2_ne p1]
          · rw [f2 j hj, u2 157 (by decide) (by decide) (by decide) (by decide) (by decide) (by decide) (by decide), h1 157 (by decide), s2_j hj]
        unfold gX7_forecast_55
        by_cases hs : seS (itR t W.1) a = true
        · have hf := fcR_s u3 ht hs
          obtain ⟨w2, z1, z2, z3, z4, z5⟩ := hend u (nI t) _ (nI 0) u1 hco h160 (by rw [hse, if_pos hs, if_pos rfl]) (Or.inl rfl)
          rw [if_pos rfl] at z1
          obtain ⟨f1, f2⟩ := hfin w2 z3 z4
          rw [hf]
          by_cases ht1 : t = 100
          · subst ht1
            simp (disch := omega) only [↓jM_e, li_0, li_1, li_2, li_3, li_4, li_5, li_6, li_7, li_8, li_9, li_10, li_13, li_14, li_15, li_16, li_31, li_35, li_47, li_48, li_49, li_50, li_57, li_99, li_100, li_126, li_139, li_140, li_149, li_150, li_280, li_284, li_285, li_290, li_434, li_1260, li_3472, li_9999, li_65536, nm, nm_w, sf_w, cp_w, ld_I, sa_I, nI_add, pk_mul, Nat.zero_add, nI_leI, nI_ltI, nI_eq, nI_neM, M_neI, nI_ltM, nI_nltM, M_ltI, M_leI, nI_nleM, bnd_some, if_pos, if_neg, dif_t, dif_f, z1]
            exact ⟨w2, rfl, z2, f1, f2, z5⟩
          · simp (disch := omega) only [↓jM_e, li_0, li_1, li_2, li_3, li_4, li_5, li_6, li_7, li_8, li_9, li_10, li_13, li_14, li_15, li_16, li_31, li_35, li_47, li_48, li_49, li_50, li_57, li_99, li_100, li_126, li_139, li_140, li_149, li_150, li_280, li_284, li_285, li_290, li_434, li_1260, li_3472, li_9999, li_65536, nm, nm_w, sf_w, cp_w, ld_I, sa_I, nI_add, pk_mul, Nat.zero_add, nI_leI, nI_ltI, nI_eq, nI_neM, M_neI, nI_ltM, nI_nltM, M_ltI, M_leI, nI_nleM, bnd_some, if_pos, if_neg, dif_t, dif_f, hse, if_pos hs, z1]
            exact ⟨w2, rfl, z2, f1, f2, z5⟩
        · have hf := fcR_n u3 ht hs
          by_cases ht1 : t = 100
          · subst ht1
            have hf : none = fcR W.1 a := hf
            obtain ⟨w2, z1, z2, z3, z4, z5⟩ := hend u (nI 100) _ (nI 2) u1 hco h160 (by rw [hse, if_neg hs, if_neg (by decide)]) (Or.inr rfl)
            rw [if_neg (by decide)] at z1
            obtain ⟨f1, f2⟩ := hfin w2 z3 z4
            rw [← hf]
            simp (disch := omega) only [↓jM_e, li_0, li_1, li_2, li_3, li_4, li_5, li_6, li_7, li_8, li_9, li_10, li_13, li_14, li_15, li_16, li_31, li_35, li_47, li_48, li_49, li_50, li_57, li_99, li_100, li_126, li_139, li_140, li_149, li_150, li_280, li_284, li_285, li_290, li_434, li_1260, li_3472, li_9999, li_65536, nm, nm_w, sf_w, cp_w, ld_I, sa_I, nI_add, pk_mul, Nat.zero_add, nI_leI, nI_ltI, nI_eq, nI_neM, M_neI, nI_ltM, nI_nltM, M_ltI, M_leI, nI_nleM, bnd_some, if_pos, if_neg, dif_t, dif_f, z1]
            exact ⟨w2, rfl, z2, f1, f2, z5⟩
          · have hlt : t < 100 := by omega
            obtain ⟨u', et, t1, t2⟩ := tick_M i1 u1 (by omega) hK
            simp (disch := omega) only [↓jM_e, li_0, li_1, li_2, li_3, li_4, li_5, li_6, li_7, li_8, li_9, li_10, li_13, li_14, li_15, li_16, li_31, li_35, li_47, li_48, li_49, li_50, li_57, li_99, li_100, li_126, li_139, li_140, li_149, li_150, li_280, li_284, li_285, li_290, li_434, li_1260, li_3472, li_9999, li_65536, nm, nm_w, sf_w, cp_w, ld_I, sa_I, nI_add, pk_mul, Nat.zero_add, nI_leI, nI_ltI, nI_eq, nI_neM, M_neI, nI_ltM, nI_nltM, M_ltI, M_leI, nI_nleM, bnd_some, if_pos, if_neg, dif_t, dif_f, hse, if_neg hs, et]
            exact hk5 hlt _ _ ⟨rfl, t1, u2.trans t2, hf⟩
      · have hlt : t < 434 := by omega
        simp (disch := omega) only [↓jM_e, li_0, li_1, li_2, li_3, li_4, li_5, li_6, li_7, li_8, li_9, li_10, li_13, li_14, li_15, li_16, li_31, li_35, li_47, li_48, li_49, li_50, li_57, li_99, li_100, li_126, li_139, li_140, li_149, li_150, li_280, li_284, li_285, li_290, li_434, li_1260, li_3472, li_9999, li_65536, nm, nm_w, sf_w, cp_w, ld_I, sa_I, nI_add, pk_mul, Nat.zero_add, nI_leI, nI_ltI, nI_eq, nI_neM, M_neI, nI_ltM, nI_nltM, M_ltI, M_leI, nI_nleM, bnd_some, if_pos, if_neg, dif_t, dif_f]
        refine hk hlt _ _ ⟨rfl, fun p hp => by rw [s2_ne hp]; exact h1 p hp, fun j hj => ?_⟩
        by_cases hjt : j = t
        · rw [hjt, s2_i, h1 158 (by decide), s2_ne (by decide)]
        · rw [s2_j hjt]; exact h2 j (by omega)
    have hCW : CW W r' v' (n + (k' + 0)) := by
      rw [Nat.add_zero]
      exact CW_h hC rfl (rcF hC.1 (fun p p1 p2 => hfr p (by omega) (by omega) (by omega) (by omega) (by omega))) t2 (fun p hp => hfr p (by omega) (by omega) (by omega) (by omega) (by omega))
    have hMWw : ∀ w w2 : sV, MW W w → mI W.1 w2 → (∀ p, p ≠ 157 → p ≠ 158 → p ≠ 160 → p ≠ 162 → p ≠ 163 → p ≠ 164 → p ≠ 165 → p ≠ 166 → p ≠ 167 → w2 p = w p) → (∀ j, j ≠ 6 → w2 157 j = w 157 j) → MW W w2 := by
      intro w w2 hw hm f1 f2
      obtain ⟨g1, g2, g3, g4, g5⟩ := hw
      refine ⟨hm, ?_, ?_, ?_, ?_⟩
      · rw [f2 5 (by decide)]; exact g2
      · rw [f1 161 (by decide) (by decide) (by decide) (by decide) (by decide) (by decide) (by decide) (by decide) (by decide)]; exact g3
      · rw [f2 4 (by decide), f1 159 (by decide) (by decide) (by decide) (by decide) (by decide) (by decide) (by decide) (by decide) (by decide)]; exact g4
      · rw [f2 15 (by decide), f1 168 (by decide) (by decide) (by decide) (by decide) (by decide) (by decide) (by decide) (by decide) (by decide)]; exact g5
    cases hfc : fcR W.1 a with
    | none =>
      rw [hfc] at ey
      have ey : y = Sum.inr 4 := ey
      subst ey
      refine fin_ok (k1 := k' + 0) (code := nI 2) (x' := x) hM ?_ hCW (fun p p1 p2 => hfr p p2 (by omega) (by omega) (by omega) (by omega)) hI (fun w hw => ?_)
      · unfold fL_forecast fX6_forecast
        simp (disch := omega) only [↓jM_e, li_0, li_1, li_2, li_3, li_4, li_5, li_6, li_7, li_8, li_9, li_10, li_13, li_14, li_15, li_16, li_31, li_35, li_47, li_48, li_49, li_50, li_57, li_99, li_100, li_126, li_139, li_140, li_149, li_150, li_280, li_284, li_285, li_290, li_434, li_1260, li_3472, li_9999, li_65536, nm, nm_w, sf_w, cp_w, ld_I, sa_I, nI_add, pk_mul, Nat.zero_add, nI_leI, nI_ltI, nI_eq, nI_neM, M_neI, nI_ltM, nI_nltM, M_ltI, M_leI, nI_nleM, bnd_some, if_pos, if_neg, dif_t, dif_f, rA_y hC.1 ha hx, acT_l, ck_i hsh, ec, el]
        rfl
      · obtain ⟨w2, z1, z2, z3, z4, z5⟩ := hm7 w hw
        rw [hfc] at z1 z5
        exact ⟨_, w2, z1, z5, fun g => absurd g (by decide), hMWw w w2 hw z2 z3 z4, fun p hp => z3 p (by omega) (by omega) (by omega) (by omega) (by omega) (by omega) (by omega) (by omega) (by omega)⟩
    | some t =>
      rw [hfc] at ey
      have ey : y = Sum.inl (nI t) := ey
      subst ey
      refine fin_ok (k1 := k' + 0) (code := nI 0) (x' := ((nI t).toInt64, x.2)) hM ?_ hCW (fun p p1 p2 => hfr p p2 (by omega) (by omega) (by omega) (by omega)) hI (fun w hw => ?_)
      · unfold fL_forecast fX6_forecast
        simp (disch := omega) only [↓jM_e, li_0, li_1, li_2, li_3, li_4, li_5, li_6, li_7, li_8, li_9, li_10, li_13, li_14, li_15, li_16, li_31, li_35, li_47, li_48, li_49, li_50, li_57, li_99, li_100, li_126, li_139, li_140, li_149, li_150, li_280, li_284, li_285, li_290, li_434, li_1260, li_3472, li_9999, li_65536, nm, nm_w, sf_w, cp_w, ld_I, sa_I, nI_add, pk_mul, Nat.zero_add, nI_leI, nI_ltI, nI_eq, nI_neM, M_neI, nI_ltM, nI_nltM, M_ltI, M_leI, nI_nleM, bnd_some, if_pos, if_neg, dif_t, dif_f, rA_y hC.1 ha hx, acT_l, ck_i hsh, ec, el]
        rfl
      · obtain ⟨w2, z1, z2, z3, z4, z5⟩ := hm7 w hw
        rw [hfc] at z1 z5
        exact ⟨_, w2, z1, z5, fun _ => rfl, hMWw w w2 hw z2 z3 z4, fun p hp => z3 p (by omega) (by omega) (by omega) (by omega) (by omega) (by omega) (by omega) (by omega) (by omega)⟩
end
