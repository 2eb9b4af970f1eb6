/-! THE REFERENCE'S TICK -/
def frL (v v' : sV) : Prop := ∀ p, p ≠ 158 → p ≠ 162 → p ≠ 163 → p ≠ 164 → p ≠ 165 → p ≠ 166 → p ≠ 167 → v' p = v p
theorem frK.L {v v' : sV} (h : frK v v') : frL v v' := fun p h1 h2 h3 h4 h5 _ h7 => h p h1 h2 h3 h4 h5 h7
theorem frL.trans {v v' v'' : sV} (h : frL v v') (h2 : frL v' v'') : frL v v'' := fun p g1 g2 g3 g4 g5 g6 g7 => (h2 p g1 g2 g3 g4 g5 g6 g7).trans (h p g1 g2 g3 g4 g5 g6 g7)
def hdM (v : sV) (had : Nat → Bool) : Prop := ∀ i, i < 16 → v 166 i = if had i = true then nI 1 else nI 0
section
variable {S0 S : aS} {B K : Nat} {v : sV} {had : Nat → Bool}
/-- who is next -/
theorem nx_M (h : mI S v) (hI : iS B S) (hT : sameT S0 S) (hh : hdM v had) {l : List Nat} (hl : l.Pairwise (befS S0)) (hm : ∀ x, x ∈ l ↔ x < 16 ∧ exS S0 x = true ∧ had x = false) (hK : 16 < K) : fX7_nextInTurn K v = some (oI l.head?) := by
  unfold fX7_nextInTurn
  refine fx2_go (P := fun t x1 x2 => x2 = nI t ∧ ∃ best, x1 = oI best ∧ (best = none → ∀ z, z < t → z ∉ l) ∧ ∀ y, best = some y → y < t ∧ y ∈ l ∧ ∀ z, z < t → z ∈ l → z = y ∨ befS S0 y z) (Q := fun o => o = some (oI l.head?)) (N := 16) ?_ ⟨rfl, none, rfl, fun _ z hz => absurd hz (Nat.not_lt_zero z), fun y hy => by cases hy⟩ hK
  intro t x1 x2 ht ⟨e2, best, e1, hn, hs⟩ k hk
  subst e2 e1
  unfold gX7_nextInTurn_4
  by_cases ht1 : t = 16
  · subst ht1
    simp (disch := omega) only [↓jM_e, li_0, li_1, li_2, li_3, li_4, li_5, li_6, li_7, li_8, li_9, li_10, li_13, li_14, li_15, li_16, li_31, li_35, li_47, li_48, li_49, li_50, li_57, li_99, li_100, li_126, li_139, li_140, li_149, li_150, li_280, li_284, li_285, li_290, li_434, li_1260, li_3472, li_9999, li_65536, nm, nm_w, sf_w, cp_w, ld_I, sa_I, nI_add, pk_mul, Nat.zero_add, nI_leI, nI_ltI, nI_eq, nI_neM, M_neI, nI_ltM, nI_nltM, M_ltI, M_leI, nI_nleM, bnd_some, if_pos, if_neg, dif_t, dif_f]
    cases best with
    | none =>
      have hl0 : l = [] := by
        cases l with
        | nil => rfl
        | cons y l => exact absurd List.mem_cons_self (hn rfl y ((hm y).mp List.mem_cons_self).1)
      rw [hl0]
      rfl
    | some y =>
      obtain ⟨h1, h2, h3⟩ := hs y rfl
      cases l with
      | nil => cases h2
      | cons y' l' =>
        have hyy : y' = y := by
          rcases h3 y' ((hm y').mp List.mem_cons_self).1 List.mem_cons_self with g | g
          · exact g
          · rcases List.mem_cons.mp h2 with g2 | g2
            · exact g2.symm
            · have g3 := (List.pairwise_cons.mp hl).1 y g2
              rcases g with g | g <;> rcases g3 with g3 | g3 <;> omega
        rw [hyy]
        rfl
  · have hlt : t < 16 := by omega
    have hexT : exS S t = exS S0 t := by rw [sameT_ex hT]
    by_cases hx : exS S0 t = true
    · have hx' : exS S t = true := hexT.trans hx
      have hxS : S 3 t ≠ jM := by rw [exS_t] at hx'; exact hx'
      have e166 := hh t hlt
      by_cases hhd : had t = true
      · have hnl : t ∉ l := fun g => by have := ((hm t).mp g).2.2; rw [hhd] at this; cases this
        rw [if_pos hhd] at e166
        simp (disch := omega) only [↓jM_e, li_0, li_1, li_2, li_3, li_4, li_5, li_6, li_7, li_8, li_9, li_10, li_13, li_14, li_15, li_16, li_31, li_35, li_47, li_48, li_49, li_50, li_57, li_99, li_100, li_126, li_139, li_140, li_149, li_150, li_280, li_284, li_285, li_290, li_434, li_1260, li_3472, li_9999, li_65536, nm, nm_w, sf_w, cp_w, ld_I, sa_I, nI_add, pk_mul, Nat.zero_add, nI_leI, nI_ltI, nI_eq, nI_neM, M_neI, nI_ltM, nI_nltM, M_ltI, M_leI, nI_nleM, bnd_some, if_pos, if_neg, dif_t, dif_f, ex_M h.1 hlt, if_pos hx', e166]
        exact hk hlt _ _ ⟨rfl, best, rfl, fun hb z hz => by
          by_cases hzt : z = t
          · rw [hzt]; exact hnl
          · exact hn hb z (by omega), fun y hy => by
          obtain ⟨h1, h2, h3⟩ := hs y hy
          refine ⟨by omega, h2, fun z hz hzl => ?_⟩
          by_cases hzt : z = t
          · rw [hzt] at hzl; exact absurd hzl hnl
          · exact h3 z (by omega) hzl⟩
      · have hil : t ∈ l := (hm t).mpr ⟨hlt, hx, Bool.eq_false_iff.mpr hhd⟩
        rw [if_neg hhd] at e166
        obtain ⟨hp10, ep⟩ := prS_lt hI hlt hxS
        rw [prS_T hT] at ep hp10
        have r3 : v 158 (290 + 9 * t + 3) = nI (prS S0 t) := (rm h.1 hlt hxS).2.2.1.trans ep
        cases best with
        | none =>
          simp (disch := omega) only [↓jM_e, li_0, li_1, li_2, li_3, li_4, li_5, li_6, li_7, li_8, li_9, li_10, li_13, li_14, li_15, li_16, li_31, li_35, li_47, li_48, li_49, li_50, li_57, li_99, li_100, li_126, li_139, li_140, li_149, li_150, li_280, li_284, li_285, li_290, li_434, li_1260, li_3472, li_9999, li_65536, nm, nm_w, sf_w, cp_w, ld_I, sa_I, nI_add, pk_mul, Nat.zero_add, nI_leI, nI_ltI, nI_eq, nI_neM, M_neI, nI_ltM, nI_nltM, M_ltI, M_leI, nI_nleM, bnd_some, if_pos, if_neg, dif_t, dif_f, ex_M h.1 hlt, if_pos hx', e166, oI]
          exact hk hlt _ _ ⟨rfl, some t, rfl, (fun g => by cases g), fun y hy => by
            cases hy
            exact ⟨by omega, hil, fun z hz hzl => by
              by_cases hzt : z = t
              · exact Or.inl hzt
              · exact absurd hzl (hn rfl z (by omega))⟩⟩
        | some y =>
          obtain ⟨h1, h2, h3⟩ := hs y rfl
          have hy16 : y < 16 := by omega
          have hyx : exS S y = true := by rw [sameT_ex hT]; exact ((hm y).mp h2).2.1
          have hyS : S 3 y ≠ jM := by rw [exS_t] at hyx; exact hyx
          obtain ⟨hq10, eq⟩ := prS_lt hI hy16 hyS
          rw [prS_T hT] at eq hq10
          have r3y : v 158 (290 + 9 * y + 3) = nI (prS S0 y) := (rm h.1 hy16 hyS).2.2.1.trans eq
          by_cases hle : prS S0 t ≤ prS S0 y
          · simp (disch := omega) only [↓jM_e, li_0, li_1, li_2, li_3, li_4, li_5, li_6, li_7, li_8, li_9, li_10, li_13, li_14, li_15, li_16, li_31, li_35, li_47, li_48, li_49, li_50, li_57, li_99, li_100, li_126, li_139, li_140, li_149, li_150, li_280, li_284, li_285, li_290, li_434, li_1260, li_3472, li_9999, li_65536, nm, nm_w, sf_w, cp_w, ld_I, sa_I, nI_add, pk_mul, Nat.zero_add, nI_leI, nI_ltI, nI_eq, nI_neM, M_neI, nI_ltM, nI_nltM, M_ltI, M_leI, nI_nleM, bnd_some, if_pos, if_neg, dif_t, dif_f, ex_M h.1 hlt, if_pos hx', e166, oI, at_M hlt (show 3 < 9 by decide), at_M hy16 (show 3 < 9 by decide), r3, r3y]
            exact hk hlt _ _ ⟨rfl, some y, rfl, (fun g => by cases g), fun y' hy' => by
              cases hy'
              exact ⟨by omega, h2, fun z hz hzl => by
                by_cases hzt : z = t
                · rw [hzt]
                  refine Or.inr ?_
                  unfold befS
                  omega
                · exact h3 z (by omega) hzl⟩⟩
          · simp (disch := omega) only [↓jM_e, li_0, li_1, li_2, li_3, li_4, li_5, li_6, li_7, li_8, li_9, li_10, li_13, li_14, li_15, li_16, li_31, li_35, li_47, li_48, li_49, li_50, li_57, li_99, li_100, li_126, li_139, li_140, li_149, li_150, li_280, li_284, li_285, li_290, li_434, li_1260, li_3472, li_9999, li_65536, nm, nm_w, sf_w, cp_w, ld_I, sa_I, nI_add, pk_mul, Nat.zero_add, nI_leI, nI_ltI, nI_eq, nI_neM, M_neI, nI_ltM, nI_nltM, M_ltI, M_leI, nI_nleM, bnd_some, if_pos, if_neg, dif_t, dif_f, ex_M h.1 hlt, if_pos hx', e166, oI, at_M hlt (show 3 < 9 by decide), at_M hy16 (show 3 < 9 by decide), r3, r3y]
            exact hk hlt _ _ ⟨rfl, some t, rfl, (fun g => by cases g), fun y' hy' => by
              cases hy'
              exact ⟨by omega, hil, fun z hz hzl => by
                by_cases hzt : z = t
                · exact Or.inl hzt
                · refine Or.inr ?_
                  rcases h3 z (by omega) hzl with g | g
                  · rw [g]
                    exact Or.inl (by omega)
                  · unfold befS at g ⊢
                    omega⟩⟩
    · have hx' : ¬ exS S t = true := by rw [hexT]; exact hx
      have hnl : t ∉ l := fun g => hx ((hm t).mp g).2.1
      simp (disch := omega) only [↓jM_e, li_0, li_1, li_2, li_3, li_4, li_5, li_6, li_7, li_8, li_9, li_10, li_13, li_14, li_15, li_16, li_31, li_35, li_47, li_48, li_49, li_50, li_57, li_99, li_100, li_126, li_139, li_140, li_149, li_150, li_280, li_284, li_285, li_290, li_434, li_1260, li_3472, li_9999, li_65536, nm, nm_w, sf_w, cp_w, ld_I, sa_I, nI_add, pk_mul, Nat.zero_add, nI_leI, nI_ltI, nI_eq, nI_neM, M_neI, nI_ltM, nI_nltM, M_ltI, M_leI, nI_nleM, bnd_some, if_pos, if_neg, dif_t, dif_f, ex_M h.1 hlt, if_neg hx']
      exact hk hlt _ _ ⟨rfl, best, rfl, fun hb z hz => by
        by_cases hzt : z = t
        · rw [hzt]; exact hnl
        · exact hn hb z (by omega), fun y hy => by
        obtain ⟨h1, h2, h3⟩ := hs y hy
        refine ⟨by omega, h2, fun z hz hzl => ?_⟩
        by_cases hzt : z = t
        · rw [hzt] at hzl; exact absurd hzl hnl
        · exact h3 z (by omega) hzl⟩
theorem rest_m {pre l : List Nat} (h : ordP S0 10 = pre ++ l) (hp : ∀ x, x < 16 → exS S0 x = true → prS S0 x < 10) (hh : ∀ x, x < 16 → had x = decide (x ∈ pre)) : ∀ x, x ∈ l ↔ x < 16 ∧ exS S0 x = true ∧ had x = false := by
  intro x
  have hm := @ordP_m S0 10 x
  have hn := @ordP_n S0 10
  rw [h] at hm hn
  rw [List.mem_append] at hm
  have hd := (List.nodup_append.mp hn).2.2
  constructor
  · intro hx
    obtain ⟨h1, h2, h3⟩ := hm.mp (Or.inr hx)
    refine ⟨h1, h2, ?_⟩
    rw [hh x h1]
    exact decide_eq_false (fun g => hd x g x hx rfl)
  · intro ⟨h1, h2, h3⟩
    rw [hh x h1] at h3
    rcases hm.mpr ⟨h1, h2, hp x h1 h2⟩ with g | g
    · exact absurd g (of_decide_eq_false h3)
    · exact g
set_option maxHeartbeats 2000000 in
theorem tick_M (hI : iS B S) (h : mI S v) (hB : B + 32 < 2 ^ 30) (hK : 400000 < K) : ∃ v', fX7_ticks K v = some v' ∧ mI (tickS S) v' ∧ frL v v' := by
  have hO := okT_M hI h hK
  have r0 : v 158 285 = S 11 0 := h.1.2.2.2.2.1 0 (by decide)
  have g1 := st_285 h (i := 0) (by decide)
  have hT1 : sameT S (s2 S 11 0 (S 11 0 + nI 1)) := sameT_s2 (by omega)
  have hI1 : iS B (s2 S 11 0 (S 11 0 + nI 1)) := iS_s2 hI (Or.inr rfl)
  have hpr : ∀ x, x < 16 → exS S x = true → prS S x < 10 := fun x hx he => (prS_lt hI hx (by rw [exS_t] at he; exact he)).1
  unfold fX7_ticks
  simp (disch := omega) only [↓jM_e, li_0, li_1, li_2, li_3, li_4, li_5, li_6, li_7, li_8, li_9, li_10, li_13, li_14, li_15, li_16, li_31, li_35, li_47, li_48, li_49, li_50, li_57, li_99, li_100, li_126, li_139, li_140, li_149, li_150, li_280, li_284, li_285, li_290, li_434, li_1260, li_3472, li_9999, li_65536, nm, nm_w, sf_w, cp_w, ld_I, sa_I, nI_add, pk_mul, Nat.zero_add, nI_leI, nI_ltI, nI_eq, nI_neM, M_neI, nI_ltM, nI_nltM, M_ltI, M_leI, nI_nleM, bnd_some, if_pos, if_neg, dif_t, dif_f, show (285 : Int32) = nI 285 from rfl, r0]
  refine fx2_go (P := fun i x1 w => x1 = nI i ∧ mI (s2 S 11 0 (S 11 0 + nI 1)) w ∧ (∀ j, j < i → w 166 j = nI 0 ∧ w 167 j = nI 0) ∧ frL v w) (Q := fun o => ∃ v', o = some v' ∧ mI (tickS S) v' ∧ frL v v') (N := 16) ?_ ⟨rfl, g1, fun j hj => absurd hj (Nat.not_lt_zero j), frN_s2.kk.L⟩ (by omega)
  intro i x1 w hi ⟨e1, hw, h67, fw⟩ k14 hk
  subst e1
  unfold gX7_ticks_14
  by_cases hi1 : i = 16
  · subst hi1
    have hh0 : hdM w (fun _ => false) := fun j hj => by rw [(h67 j hj).1]; rfl
    have hp0 : puM w (fun _ => false) := fun j hj => by rw [(h67 j hj).2]; rfl
    have hm0 := rest_m (S0 := S) (had := fun _ => false) (pre := []) (l := ordP S 10) rfl hpr (fun x _ => by simp)
    have hnx := nx_M hw hI1 hT1 hh0 ordP_p hm0 (show 16 < K by omega)
    simp (disch := omega) only [↓jM_e, li_0, li_1, li_2, li_3, li_4, li_5, li_6, li_7, li_8, li_9, li_10, li_13, li_14, li_15, li_16, li_31, li_35, li_47, li_48, li_49, li_50, li_57, li_99, li_100, li_126, li_139, li_140, li_149, li_150, li_280, li_284, li_285, li_290, li_434, li_1260, li_3472, li_9999, li_65536, nm, nm_w, sf_w, cp_w, ld_I, sa_I, nI_add, pk_mul, Nat.zero_add, nI_leI, nI_ltI, nI_eq, nI_neM, M_neI, nI_ltM, nI_nltM, M_ltI, M_leI, nI_nleM, bnd_some, if_pos, if_neg, dif_t, dif_f, hnx]
    refine fx2_go (P := fun j x1 w => ∃ pre l S' pu had B', ordP S 10 = pre ++ l ∧ x1 = oI l.head? ∧ foT l S' pu = foT (ordP S 10) (s2 S 11 0 (S 11 0 + nI 1)) (fun _ => false) ∧ (∀ x, x < 16 → had x = decide (x ∈ pre)) ∧ mI S' w ∧ puM w pu ∧ hdM w had ∧ sameT S S' ∧ iS B' S' ∧ B' + 2 * l.length ≤ B + 32 ∧ j + l.length ≤ 16 ∧ frL v w) (Q := fun o => ∃ v', o = some v' ∧ mI (tickS S) v' ∧ frL v v') (N := 16) ?_ ⟨[], ordP S 10, _, _, fun _ => false, B, rfl, rfl, rfl, (fun x _ => by simp), hw, hp0, hh0, hT1, hI1, (by have := @ordP_l S 10; omega), (by have := @ordP_l S 10; omega), fw⟩ (by omega)
    intro j x1 w hj ⟨pre, l, S', pu, had, B', h1, h2, h3, h4, h5, h6, h7, h8, h9, h10, h11, h12⟩ k45 hk45
    subst h2
    unfold gX7_ticks_45
    cases l with
    | nil =>
      simp (disch := omega) only [↓jM_e, li_0, li_1, li_2, li_3, li_4, li_5, li_6, li_7, li_8, li_9, li_10, li_13, li_14, li_15, li_16, li_31, li_35, li_47, li_48, li_49, li_50, li_57, li_99, li_100, li_126, li_139, li_140, li_149, li_150, li_280, li_284, li_285, li_290, li_434, li_1260, li_3472, li_9999, li_65536, nm, nm_w, sf_w, cp_w, ld_I, sa_I, nI_add, pk_mul, Nat.zero_add, nI_leI, nI_ltI, nI_eq, nI_neM, M_neI, nI_ltM, nI_nltM, M_ltI, M_leI, nI_nleM, bnd_some, if_pos, if_neg, dif_t, dif_f, List.head?_nil, oI, show (jM < nI 0) = True from by decide]
      refine ⟨w, rfl, ?_, h12⟩
      unfold tickS
      rw [← h3]
      exact h5
    | cons a l' =>
      rw [List.length_cons] at h10 h11
      have hm := rest_m h1 hpr h4
      obtain ⟨ha, hax, hah⟩ := (hm a).mp List.mem_cons_self
      have haS : S' 3 a ≠ jM := by
        rw [ne_eq, h8.2.2.2.2.2.2.2.2 a]
        rw [exS_t] at hax
        exact hax
      have hpw := @ordP_p S 10
      rw [h1] at hpw
      have hpw2 := List.pairwise_append.mp hpw
      -- the agent is set to have had its turn
      have h5' : mI S' (s2 w 166 a (nI 1)) := ⟨by rw [s2_ne (by decide)]; exact h5.1, cacM_v h5.2 (s2_ne (by decide)) (s2_ne (by decide))⟩
      have h6' : puM (s2 w 166 a (nI 1)) pu := fun i hi => by rw [s2_p (by decide)]; exact h6 i hi
      have h7' : hdM (s2 w 166 a (nI 1)) (puU had a) := by
        intro i hi
        unfold puU
        by_cases hia : i = a
        · rw [hia, s2_i]; simp
        · rw [s2_j hia, h7 i hi]; simp [hia]
      have hhad : ∀ o, o < 16 → S' 3 o ≠ jM → ¬ S' 5 a ≤ S' 5 o → puU had a o = false := by
        intro o ho hox hno
        have hoa : o ≠ a := fun e => hno (by rw [e]; exact Int32.le_refl _)
        obtain ⟨q1, q2⟩ := prS_lt h9 ha haS
        obtain ⟨q3, q4⟩ := prS_lt h9 ho hox
        rw [prS_T h8] at q1 q2 q3 q4
        rw [q2, q4, nI_leI (by omega) (by omega)] at hno
        have hnp : o ∉ pre := by
          intro g
          have := hpw2.2.2 o g a List.mem_cons_self
          unfold befS at this
          omega
        unfold puU
        rw [h4 o ho]
        simp [hoa, hnp]
      obtain ⟨w2, et, t1, t2, t3⟩ := tr_M h9 h5' h6' h7' ha haS hhad hK
      have hO' : okT S' := by unfold okT; rw [sameT_co h8]; exact hO
      obtain ⟨i1, i2⟩ := tkS_inv (pu := pu) h9 hO' ha haS (by omega)
      have h1' : ordP S 10 = (pre ++ [a]) ++ l' := by rw [h1, List.append_assoc]; rfl
      have h4' : ∀ x, x < 16 → puU had a x = decide (x ∈ pre ++ [a]) := by
        intro x hx
        unfold puU
        rw [h4 x hx]
        simp [List.mem_append, Bool.or_comm, or_comm]
      have hh2 : hdM w2 (puU had a) := fun i hi => by rw [t3 166 (by decide) (by decide) (by decide) (by decide) (by decide) (by decide)]; exact h7' i hi
      have hnx2 := nx_M t1 i1 (h8.trans i2) hh2 (List.pairwise_cons.mp hpw2.2.1).2 (rest_m h1' hpr h4') (show 16 < K by omega)
      simp (disch := omega) only [↓jM_e, li_0, li_1, li_2, li_3, li_4, li_5, li_6, li_7, li_8, li_9, li_10, li_13, li_14, li_15, li_16, li_31, li_35, li_47, li_48, li_49, li_50, li_57, li_99, li_100, li_126, li_139, li_140, li_149, li_150, li_280, li_284, li_285, li_290, li_434, li_1260, li_3472, li_9999, li_65536, nm, nm_w, sf_w, cp_w, ld_I, sa_I, nI_add, pk_mul, Nat.zero_add, nI_leI, nI_ltI, nI_eq, nI_neM, M_neI, nI_ltM, nI_nltM, M_ltI, M_leI, nI_nleM, bnd_some, if_pos, if_neg, dif_t, dif_f, List.head?_cons, oI, et, hnx2]
      refine hk45 (by omega) _ _ ⟨pre ++ [a], l', _, _, puU had a, B' + 2, h1', rfl, h3, h4', t1, t2, hh2, h8.trans i2, i1, by omega, by omega, ?_⟩
      refine h12.trans (frL.trans ?_ t3.L)
      exact fun p _ _ _ _ _ g6 _ => s2_ne g6
  · have hlt : i < 16 := by omega
    simp (disch := omega) only [↓jM_e, li_0, li_1, li_2, li_3, li_4, li_5, li_6, li_7, li_8, li_9, li_10, li_13, li_14, li_15, li_16, li_31, li_35, li_47, li_48, li_49, li_50, li_57, li_99, li_100, li_126, li_139, li_140, li_149, li_150, li_280, li_284, li_285, li_290, li_434, li_1260, li_3472, li_9999, li_65536, nm, nm_w, sf_w, cp_w, ld_I, sa_I, nI_add, pk_mul, Nat.zero_add, nI_leI, nI_ltI, nI_eq, nI_neM, M_neI, nI_ltM, nI_nltM, M_ltI, M_leI, nI_nleM, bnd_some, if_pos, if_neg, dif_t, dif_f]
    refine hk hlt _ _ ⟨rfl, ⟨by rw [s2_ne (by decide), s2_ne (by decide)]; exact hw.1, cacM_v hw.2 (by rw [s2_ne (by decide), s2_ne (by decide)]) (by rw [s2_ne (by decide), s2_ne (by decide)])⟩, fun j hj => ?_, fw.trans (fun p _ _ _ _ _ g6 g7 => by rw [s2_ne g7, s2_ne g6])⟩
    rw [s2_p (q := 166) (by decide)]
    by_cases hji : j = i
    · rw [hji, s2_i, s2_i]
      exact ⟨rfl, rfl⟩
    · rw [s2_j hji, s2_j hji, s2_p (q := 167) (by decide)]
      exact h67 j (by omega)
end
