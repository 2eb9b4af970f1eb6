/-! setGoal, distance, flow, steps -/
section
variable {v : sV} {K n : Nat} {r : sR} {W : aW} {B : Nat} {x : Int64 × UInt64}
theorem CW_h {W' : aW} {r' : sR} {v' : sV} {n' : Nat} (h : CW W r v n) (hS : W'.2 = W.2) (h1 : RelC 1 W'.1 v') (h2 : cacC (coS W'.1) r' v' n') (hv : ∀ p, p = 0 ∨ (35 ≤ p ∧ p < 157) → v' p = v p) : CW W' r' v' n' := by
  obtain ⟨g1, g2, g3, g4, g5, g6⟩ := h
  refine ⟨h1, h2, ?_, ?_, ?_, ?_⟩
  · rw [hS, hv 35 (by omega)]; exact g3
  · rw [hS]
    exact ⟨fun k hk => rcF (g4.1 k hk) (fun p p1 p2 => hv p (by have := @slot_b W.2.1.2 W.2.1.1 k; omega)), fun k hk => by rw [hv 36 (by omega)]; exact g4.2 k hk⟩
  · rw [hS, hv 0 (by omega)]
    exact ⟨g5.1, fun S hS => rcF (g5.2 S hS) (fun p p1 p2 => hv p (by omega))⟩
  · rw [hS, hv 154 (by omega), hv 155 (by omega)]; exact g6
theorem fin_ca {β : Type} {fL : Option ((Int32 × (Int64 × UInt64)) × sR × sV × Nat)} {f7 : sV → Option (β × sV)} {P : Int64 × UInt64 → β → Prop} (hC : CW W r v n) (hM : MW W v) (hI : IW B W) {x' : Int64 × UInt64} {code : Int32} {r1 : sR} {v1 : sV} {k1 : Nat} (e1 : fL = some ((code, x'), r1, v1, k1)) (hR : RelC 1 W.1 v1) (hca : cacC (coS W.1) r1 v1 (n + k1)) (hf : ∀ p, p = 0 ∨ (35 ≤ p ∧ p < 172) → v1 p = v p)
    (h7 : ∀ w, MW W w → ∃ z w2, f7 w = some (z, w2) ∧ (code = 0 → P x' z) ∧ mI W.1 w2 ∧ frM (s2 w 157 6 code) w2) : OUT B fL f7 P n := by
  refine fin_ok hM e1 (CW_h hC rfl hR hca (fun p hp => hf p (by omega))) (fun p p1 p2 => hf p (by omega)) hI (fun w hw => ?_)
  obtain ⟨z, w2, t1, t2, t3, t4⟩ := h7 w hw
  refine ⟨z, w2, t1, ?_, t2, ?_, fun p hp => ?_⟩
  · rw [t4 157 (by decide) (by decide) (by decide) (by decide)]; exact s2_i
  · have := MW_w (MW_t (y := code) hw) t3 t4.N
    exact this
  · rw [t4 p (by omega) (by omega) (by omega) (by omega), s2_ne (by omega)]
theorem acT_k {α β : Type} {a : α} {k : Nat} {f : α → sR → sV → Nat → Option (Sum β Nat × sR × sV × Nat)} : acT (Sum.inl a, r, v, k) n f = ac (a, r, v, k) n f := rfl
theorem ac_v {α β : Type} {a : α} {k k2 : Nat} {r2 : sR} {v2 : sV} {b : β} {f : α → sR → sV → Nat → Option (β × sR × sV × Nat)} (h : f a r v (n + k) = some (b, r2, v2, k2)) : ac (a, r, v, k) n f = some (b, r2, v2, k + k2) := by
  unfold ac
  simp only [h]
  rfl
/-- a goal's field -/
theorem tw_G (hC : CW W r v n) (hI : IW B W) {t : Nat} (ht : t < 140) (h0 : coS W.1 t ≠ 0) (hK : 2000 < K) :
    ∃ q r' v' k, fX2_toward K 2 (nI t) r v n = some (q, r', v', k) ∧ RelC 1 W.1 v' ∧ cacC (coS W.1) r' v' (n + k) ∧ okF r' (n + k) q ∧ (∀ c, c < 140 → v' (q + 1) c = oI (dst (coS W.1) t c)) ∧ (∀ p, p < 172 → p ≠ 18 → p ≠ 19 → v' p = v p) ∧ isD (coS W.1) t (dst (coS W.1) t) := by
  have hcost : ∀ c, c < 140 → v 2 c = nI (coS W.1 c) := fun c hc => (rc0 hC.1 hc).trans (hI.1.1 c hc).1
  obtain ⟨q, r', v', k, e, g1, g2, g3, g4, g5, -⟩ := toward_go (iS_co hI.1) hcost hC.2.1 (by decide) ht h0 hK
  exact ⟨q, r', v', k, e, rcF hC.1 (fun p p1 p2 => g3 p (by omega) (by omega) (by omega)), g1, g2, g5, g3, g4⟩
theorem rS_y {g : Nat} {S : aS} (h : RelC 1 S v) (hg : g < 4) (h2 : S 2 g ≠ jM) : fX6_requireSetGoal (nI g) r v n = some (Sum.inl (), r, v, 0) := by
  have e : v 4 g = S 2 g := rc2 h hg
  unfold fX6_requireSetGoal
  simp (disch := omega) only [↓jM_e, li_0, li_1, li_2, li_3, li_4, li_5, li_6, li_7, li_8, li_9, li_10, li_13, li_14, li_15, li_16, li_31, li_35, li_47, li_48, li_49, li_50, li_57, li_99, li_100, li_126, li_139, li_140, li_149, li_150, li_280, li_284, li_285, li_290, li_434, li_1260, li_3472, li_9999, li_65536, nm, nm_w, sf_w, cp_w, ld_I, sa_I, nI_add, pk_mul, Nat.zero_add, nI_leI, nI_ltI, nI_eq, nI_neM, M_neI, nI_ltM, nI_nltM, M_ltI, M_leI, nI_nleM, bnd_some, if_pos, if_neg, dif_t, dif_f, e, if_neg h2]
theorem rS_n {g : Nat} {S : aS} (h : RelC 1 S v) (hg : g < 4) (h2 : S 2 g = jM) : fX6_requireSetGoal (nI g) r v n = some (Sum.inr 4, r, v, 0) := by
  have e : v 4 g = S 2 g := rc2 h hg
  unfold fX6_requireSetGoal
  simp (disch := omega) only [↓jM_e, li_0, li_1, li_2, li_3, li_4, li_5, li_6, li_7, li_8, li_9, li_10, li_13, li_14, li_15, li_16, li_31, li_35, li_47, li_48, li_49, li_50, li_57, li_99, li_100, li_126, li_139, li_140, li_149, li_150, li_280, li_284, li_285, li_290, li_434, li_1260, li_3472, li_9999, li_65536, nm, nm_w, sf_w, cp_w, ld_I, sa_I, nI_add, pk_mul, Nat.zero_add, nI_leI, nI_ltI, nI_eq, nI_neM, M_neI, nI_ltM, nI_nltM, M_ltI, M_leI, nI_nleM, bnd_some, if_pos, if_neg, dif_t, dif_f, e, if_pos h2]
/-- when fieldOfGoal throws, and what -/
theorem fG_1 {x1 x2 x3 : Int32} (hC : CW W r v n) (h : (x1 < nI 0 ∨ nI 4 ≤ x1) ∨ caI x2 x3 = jM) : fX6_fieldOfGoal K x1 x2 x3 r v n = some (Sum.inr 1, r, v, 0) := by
  have hsh := hC.2.1.1
  unfold fX6_fieldOfGoal
  rcases arg_g x1 with hn | ⟨g, hg, rfl⟩
  · simp (disch := omega) only [↓jM_e, li_0, li_1, li_2, li_3, li_4, li_5, li_6, li_7, li_8, li_9, li_10, li_13, li_14, li_15, li_16, li_31, li_35, li_47, li_48, li_49, li_50, li_57, li_99, li_100, li_126, li_139, li_140, li_149, li_150, li_280, li_284, li_285, li_290, li_434, li_1260, li_3472, li_9999, li_65536, nm, nm_w, sf_w, cp_w, ld_I, sa_I, nI_add, pk_mul, Nat.zero_add, nI_leI, nI_ltI, nI_eq, nI_neM, M_neI, nI_ltM, nI_nltM, M_ltI, M_leI, nI_nleM, bnd_some, if_pos, if_neg, dif_t, dif_f, rG_n hn, acT_r]
  · rcases h with h | h
    · rcases h with h | h
      · exact absurd h (nI_pos (by omega))
      · exact absurd h (nI_ge hg (by decide))
    · simp (disch := omega) only [↓jM_e, li_0, li_1, li_2, li_3, li_4, li_5, li_6, li_7, li_8, li_9, li_10, li_13, li_14, li_15, li_16, li_31, li_35, li_47, li_48, li_49, li_50, li_57, li_99, li_100, li_126, li_139, li_140, li_149, li_150, li_280, li_284, li_285, li_290, li_434, li_1260, li_3472, li_9999, li_65536, nm, nm_w, sf_w, cp_w, ld_I, sa_I, nI_add, pk_mul, Nat.zero_add, nI_leI, nI_ltI, nI_eq, nI_neM, M_neI, nI_ltM, nI_nltM, M_ltI, M_leI, nI_nleM, bnd_some, if_pos, if_neg, dif_t, dif_f, rG_y hg, acT_l, acT_r, ck_i hsh, rq_C h]
theorem fG_4 {g : Nat} {x2 x3 : Int32} (hC : CW W r v n) (hg : g < 4) (h : caI x2 x3 ≠ jM) (h2 : W.1 2 g = jM) : fX6_fieldOfGoal K (nI g) x2 x3 r v n = some (Sum.inr 4, r, v, 0) := by
  have hsh := hC.2.1.1
  unfold fX6_fieldOfGoal
  simp (disch := omega) only [↓jM_e, li_0, li_1, li_2, li_3, li_4, li_5, li_6, li_7, li_8, li_9, li_10, li_13, li_14, li_15, li_16, li_31, li_35, li_47, li_48, li_49, li_50, li_57, li_99, li_100, li_126, li_139, li_140, li_149, li_150, li_280, li_284, li_285, li_290, li_434, li_1260, li_3472, li_9999, li_65536, nm, nm_w, sf_w, cp_w, ld_I, sa_I, nI_add, pk_mul, Nat.zero_add, nI_leI, nI_ltI, nI_eq, nI_neM, M_neI, nI_ltM, nI_nltM, M_ltI, M_leI, nI_nleM, bnd_some, if_pos, if_neg, dif_t, dif_f, rG_y hg, acT_l, acT_r, ck_i hsh, rq_Cc h, rS_n hC.1 hg h2]
theorem fG_y {g t : Nat} {x2 x3 : Int32} (hC : CW W r v n) (hg : g < 4) (h : caI x2 x3 ≠ jM) (h2 : W.1 2 g = nI t) (ht : t < 140) {q : Nat} {r' : sR} {v' : sV} {k : Nat} (et : fX2_toward K 2 (nI t) r v n = some (q, r', v', k)) (hsh' : sSh r') (hq : okF r' (n + k) q) : fX6_fieldOfGoal K (nI g) x2 x3 r v n = some (Sum.inl q, r', v', k) := by
  have hsh := hC.2.1.1
  have e : v 4 g = nI t := (rc2 hC.1 hg).trans h2
  have h2' : W.1 2 g ≠ jM := by rw [h2, ne_eq, nI_neM (by omega)]; exact id
  unfold fX6_fieldOfGoal
  simp (disch := omega) only [↓jM_e, li_0, li_1, li_2, li_3, li_4, li_5, li_6, li_7, li_8, li_9, li_10, li_13, li_14, li_15, li_16, li_31, li_35, li_47, li_48, li_49, li_50, li_57, li_99, li_100, li_126, li_139, li_140, li_149, li_150, li_280, li_284, li_285, li_290, li_434, li_1260, li_3472, li_9999, li_65536, nm, nm_w, sf_w, cp_w, ld_I, sa_I, nI_add, pk_mul, Nat.zero_add, nI_leI, nI_ltI, nI_eq, nI_neM, M_neI, nI_ltM, nI_nltM, M_ltI, M_leI, nI_nleM, bnd_some, if_pos, if_neg, dif_t, dif_f, rG_y hg, acT_l, ck_i hsh, rq_Cc h, rS_y hC.1 hg h2', e, et]
  unfold ac
  simp only [ck_i (show sSh r' ∧ okF r' (n + k) q from ⟨hsh', hq⟩)]
  rfl
theorem wG_1 {S : aS} {w : sV} {x1 x2 x3 : Int32} (hR : RelM S (w 158)) (h : (x1 < nI 0 ∨ nI 4 ≤ x1) ∨ caI x2 x3 = jM) : fX7_wrongGoal x1 x2 x3 w = some (nI 1) := by
  unfold fX7_wrongGoal
  rcases arg_g x1 with hn | ⟨g, hg, rfl⟩
  · simp (disch := omega) only [↓jM_e, li_0, li_1, li_2, li_3, li_4, li_5, li_6, li_7, li_8, li_9, li_10, li_13, li_14, li_15, li_16, li_31, li_35, li_47, li_48, li_49, li_50, li_57, li_99, li_100, li_126, li_139, li_140, li_149, li_150, li_280, li_284, li_285, li_290, li_434, li_1260, li_3472, li_9999, li_65536, nm, nm_w, sf_w, cp_w, ld_I, sa_I, nI_add, pk_mul, Nat.zero_add, nI_leI, nI_ltI, nI_eq, nI_neM, M_neI, nI_ltM, nI_nltM, M_ltI, M_leI, nI_nleM, bnd_some, if_pos, if_neg, dif_t, dif_f, iG_n hn]
  · rcases h with h | h
    · rcases h with h | h
      · exact absurd h (nI_pos (by omega))
      · exact absurd h (nI_ge hg (by decide))
    · simp (disch := omega) only [↓jM_e, li_0, li_1, li_2, li_3, li_4, li_5, li_6, li_7, li_8, li_9, li_10, li_13, li_14, li_15, li_16, li_31, li_35, li_47, li_48, li_49, li_50, li_57, li_99, li_100, li_126, li_139, li_140, li_149, li_150, li_280, li_284, li_285, li_290, li_434, li_1260, li_3472, li_9999, li_65536, nm, nm_w, sf_w, cp_w, ld_I, sa_I, nI_add, pk_mul, Nat.zero_add, nI_leI, nI_ltI, nI_eq, nI_neM, M_neI, nI_ltM, nI_nltM, M_ltI, M_leI, nI_nleM, bnd_some, if_pos, if_neg, dif_t, dif_f, iG_y hg, ic_M, if_pos h]
theorem wG_2 {S : aS} {w : sV} {g : Nat} {x2 x3 : Int32} (hR : RelM S (w 158)) (hg : g < 4) (h : caI x2 x3 ≠ jM) (h2 : S 2 g = jM) : fX7_wrongGoal (nI g) x2 x3 w = some (nI 2) := by
  have r2 := hR.2.2.1 g hg
  have hix : 280 + g < 434 := by omega
  unfold fX7_wrongGoal
  simp (disch := omega) only [↓jM_e, li_0, li_1, li_2, li_3, li_4, li_5, li_6, li_7, li_8, li_9, li_10, li_13, li_14, li_15, li_16, li_31, li_35, li_47, li_48, li_49, li_50, li_57, li_99, li_100, li_126, li_139, li_140, li_149, li_150, li_280, li_284, li_285, li_290, li_434, li_1260, li_3472, li_9999, li_65536, nm, nm_w, sf_w, cp_w, ld_I, sa_I, nI_add, pk_mul, Nat.zero_add, nI_leI, nI_ltI, nI_eq, nI_neM, M_neI, nI_ltM, nI_nltM, M_ltI, M_leI, nI_nleM, bnd_some, if_pos, if_neg, dif_t, dif_f, iG_y hg, ic_M, if_neg h, r2, h2, show (nI 0 ≤ jM) = False from by decide]
theorem wG_0 {S : aS} {w : sV} {g t : Nat} {x2 x3 : Int32} (hR : RelM S (w 158)) (hg : g < 4) (h : caI x2 x3 ≠ jM) (h2 : S 2 g = nI t) (ht : t < 140) : fX7_wrongGoal (nI g) x2 x3 w = some (nI 0) := by
  have r2 := hR.2.2.1 g hg
  have hix : 280 + g < 434 := by omega
  unfold fX7_wrongGoal
  simp (disch := omega) only [↓jM_e, li_0, li_1, li_2, li_3, li_4, li_5, li_6, li_7, li_8, li_9, li_10, li_13, li_14, li_15, li_16, li_31, li_35, li_47, li_48, li_49, li_50, li_57, li_99, li_100, li_126, li_139, li_140, li_149, li_150, li_280, li_284, li_285, li_290, li_434, li_1260, li_3472, li_9999, li_65536, nm, nm_w, sf_w, cp_w, ld_I, sa_I, nI_add, pk_mul, Nat.zero_add, nI_leI, nI_ltI, nI_eq, nI_neM, M_neI, nI_ltM, nI_nltM, M_ltI, M_leI, nI_nleM, bnd_some, if_pos, if_neg, dif_t, dif_f, iG_y hg, ic_M, if_neg h, r2, h2]
/-- the three that ask a goal's field -/
theorem a_gf {x1 x2 x3 : Int32} {fL : Option ((Int32 × (Int64 × UInt64)) × sR × sV × Nat)} {f7 : sV → Option (Int32 × sV)} (hC : CW W r v n) (hM : MW W v) (hI : IW B W) (hK : 400000 < K)
    (h1 : fX6_fieldOfGoal K x1 x2 x3 r v n = some (Sum.inr 1, r, v, 0) → fL = some ((nI 1, x), r, v, 0)) (h4 : fX6_fieldOfGoal K x1 x2 x3 r v n = some (Sum.inr 4, r, v, 0) → fL = some ((nI 2, x), r, v, 0))
    (h7t : ∀ w k, k ≠ 0 → k < 10 → fX7_wrongGoal x1 x2 x3 w = some (nI k) → f7 w = some (nI 0, s2 w 157 6 (nI k)))
    (hy : ∀ g t c, g < 4 → x1 = nI g → t < 140 → W.1 2 g = nI t → coS W.1 t ≠ 0 → c < 140 → caI x2 x3 = nI c → ∃ y : Int32, (∀ q r' v' k, fX6_fieldOfGoal K x1 x2 x3 r v n = some (Sum.inl q, r', v', k) → sSh r' → okF r' (n + k) q → RelC 1 W.1 v' → (∀ c, c < 140 → v' (q + 1) c = oI (dst (coS W.1) t c)) → isD (coS W.1) t (dst (coS W.1) t) → fL = some ((nI 0, (y.toInt64, x.2)), r', v', k + 0)) ∧
      ∀ w, MW W w → fX7_wrongGoal x1 x2 x3 w = some (nI 0) → ∃ w2, f7 w = some (y, w2) ∧ mI W.1 w2 ∧ frM (s2 w 157 6 (nI 0)) w2) : OUT B fL f7 PI n := by
  by_cases hw1 : (x1 < nI 0 ∨ nI 4 ≤ x1) ∨ caI x2 x3 = jM
  · exact fin_thr hC hM hI (code := 1) (by decide) (h1 (fG_1 hC hw1)) (fun w hw => h7t w 1 (by decide) (by decide) (wG_1 hw.1.1 hw1))
  · have hcell : caI x2 x3 ≠ jM := fun e => hw1 (Or.inr e)
    rcases arg_g x1 with hn | ⟨g, hg, rfl⟩
    · exact absurd (Or.inl hn) hw1
    · by_cases h2 : W.1 2 g = jM
      · exact fin_thr hC hM hI (code := 2) (by decide) (h4 (fG_4 hC hg hcell h2)) (fun w hw => h7t w 2 (by decide) (by decide) (wG_2 hw.1.1 hg hcell h2))
      · obtain ⟨t, ht, et, h0⟩ := (hI.1.2.1 g hg).resolve_left h2
        obtain ⟨c, hc, ec⟩ := caI_c hcell
        obtain ⟨q, r', v', k, etw, t1, t2, t3, t4, t5, t6⟩ := tw_G (K := K) hC hI ht h0 (by omega)
        obtain ⟨y, y1, y2⟩ := hy g t c hg rfl ht et h0 hc ec
        have e1 := y1 q r' v' k (fG_y hC hg hcell et ht etw t2.1 t3) t2.1 t3 t1 t4 t6
        refine fin_ca hC hM hI (code := nI 0) e1 t1 (by rw [Nat.add_zero]; exact t2) (fun p hp => t5 p (by omega) (by omega) (by omega)) (fun w hw => ?_)
        obtain ⟨w2, z1, z2, z3⟩ := y2 w hw (wG_0 hw.1.1 hg hcell et ht)
        exact ⟨y, w2, z1, fun _ => rfl, z2, z3⟩
theorem a_4 (x1 x2 x3 : Int32) (hC : CW W r v n) (hM : MW W v) (hI : IW B W) (hK : 400000 < K) : OUT B (fL_distance K x1 x2 x3 r v n x) (fX7_distance K x1 x2 x3) PI n := by
  refine a_gf (x := x) (x1 := x1) (x2 := x2) (x3 := x3) hC hM hI hK (fun e => ?_) (fun e => ?_) (fun w k hk hk2 e => ?_) (fun g t c hg e1 ht et h0 hc ec => ⟨oI (dst (coS W.1) t c), fun q r' v' k e hs hq hR hd hD => ?_, fun w hw e => ?_⟩)
  · unfold fL_distance fX6_distance
    rw [e]
    rfl
  · unfold fL_distance fX6_distance
    rw [e]
    rfl
  · unfold fX7_distance
    simp (disch := omega) only [↓jM_e, li_0, li_1, li_2, li_3, li_4, li_5, li_6, li_7, li_8, li_9, li_10, li_13, li_14, li_15, li_16, li_31, li_35, li_47, li_48, li_49, li_50, li_57, li_99, li_100, li_126, li_139, li_140, li_149, li_150, li_280, li_284, li_285, li_290, li_434, li_1260, li_3472, li_9999, li_65536, nm, nm_w, sf_w, cp_w, ld_I, sa_I, nI_add, pk_mul, Nat.zero_add, nI_leI, nI_ltI, nI_eq, nI_neM, M_neI, nI_ltM, nI_nltM, M_ltI, M_leI, nI_nleM, bnd_some, if_pos, if_neg, dif_t, dif_f, e, s2_i]
  · unfold fL_distance fX6_distance
    rw [e]
    rw [bnd_some, acT_k, ac_v (by rw [ck_i ⟨hs, hq⟩, ca_C, bnd_some, ec, di_C hd hc, bnd_some])]
    rfl
  · subst e1
    have hw' := (MW_t (y := nI 0) hw).1
    have hix : 280 + g < 434 := by omega
    have r2 := hw'.1.2.2.1 g hg
    rw [et] at r2
    have hca := ca_M (x := x2) (y := x3) (by rw [ec, ne_eq, nI_neM (by omega)]; exact id)
    rw [ec] at hca
    obtain ⟨w2, f1, f2, f3, -⟩ := far_M hI.1 hw' ht h0 hc hK
    unfold fX7_distance
    simp (disch := omega) only [↓jM_e, li_0, li_1, li_2, li_3, li_4, li_5, li_6, li_7, li_8, li_9, li_10, li_13, li_14, li_15, li_16, li_31, li_35, li_47, li_48, li_49, li_50, li_57, li_99, li_100, li_126, li_139, li_140, li_149, li_150, li_280, li_284, li_285, li_290, li_434, li_1260, li_3472, li_9999, li_65536, nm, nm_w, sf_w, cp_w, ld_I, sa_I, nI_add, pk_mul, Nat.zero_add, nI_leI, nI_ltI, nI_eq, nI_neM, M_neI, nI_ltM, nI_nltM, M_ltI, M_leI, nI_nleM, bnd_some, if_pos, if_neg, dif_t, dif_f, e, s2_i, r2, hca, f1]
    exact ⟨w2, rfl, f2, f3⟩
theorem a_5 (x1 x2 x3 : Int32) (hC : CW W r v n) (hM : MW W v) (hI : IW B W) (hK : 400000 < K) : OUT B (fL_flow K x1 x2 x3 r v n x) (fX7_flow K x1 x2 x3) PI n := by
  refine a_gf (x := x) (x1 := x1) (x2 := x2) (x3 := x3) hC hM hI hK (fun e => ?_) (fun e => ?_) (fun w k hk hk2 e => ?_) (fun g t c hg e1 ht et h0 hc ec => ⟨oI (flS (coS W.1) (dst (coS W.1) t) c), fun q r' v' k e hs hq hR hd hD => ?_, fun w hw e => ?_⟩)
  · unfold fL_flow fX6_flow
    rw [e]
    rfl
  · unfold fL_flow fX6_flow
    rw [e]
    rfl
  · unfold fX7_flow
    simp (disch := omega) only [↓jM_e, li_0, li_1, li_2, li_3, li_4, li_5, li_6, li_7, li_8, li_9, li_10, li_13, li_14, li_15, li_16, li_31, li_35, li_47, li_48, li_49, li_50, li_57, li_99, li_100, li_126, li_139, li_140, li_149, li_150, li_280, li_284, li_285, li_290, li_434, li_1260, li_3472, li_9999, li_65536, nm, nm_w, sf_w, cp_w, ld_I, sa_I, nI_add, pk_mul, Nat.zero_add, nI_leI, nI_ltI, nI_eq, nI_neM, M_neI, nI_ltM, nI_nltM, M_ltI, M_leI, nI_nleM, bnd_some, if_pos, if_neg, dif_t, dif_f, e, s2_i]
  · unfold fL_flow fX6_flow
    rw [e]
    have hcost : ∀ c, c < 140 → v' 2 c = nI (coS W.1 c) := fun c hc => (rc0 hR hc).trans (hI.1.1 c hc).1
    rw [bnd_some, acT_k, ac_v (by rw [ck_i ⟨hs, hq⟩, ca_C, bnd_some, ec, fl_C (iS_co hI.1) hcost hd (isD_ok hD) hc (show 4 < K by omega), bnd_some])]
    rfl
  · subst e1
    have hw' := (MW_t (y := nI 0) hw).1
    have hix : 280 + g < 434 := by omega
    have r2 := hw'.1.2.2.1 g hg
    rw [et] at r2
    have hca := ca_M (x := x2) (y := x3) (by rw [ec, ne_eq, nI_neM (by omega)]; exact id)
    rw [ec] at hca
    obtain ⟨w2, f1, f2, f3⟩ := fl_M hI.1 hw' ht h0 hc hK
    unfold fX7_flow
    simp (disch := omega) only [↓jM_e, li_0, li_1, li_2, li_3, li_4, li_5, li_6, li_7, li_8, li_9, li_10, li_13, li_14, li_15, li_16, li_31, li_35, li_47, li_48, li_49, li_50, li_57, li_99, li_100, li_126, li_139, li_140, li_149, li_150, li_280, li_284, li_285, li_290, li_434, li_1260, li_3472, li_9999, li_65536, nm, nm_w, sf_w, cp_w, ld_I, sa_I, nI_add, pk_mul, Nat.zero_add, nI_leI, nI_ltI, nI_eq, nI_neM, M_neI, nI_ltM, nI_nltM, M_ltI, M_leI, nI_nleM, bnd_some, if_pos, if_neg, dif_t, dif_f, e, s2_i, r2, hca, f1]
    exact ⟨w2, rfl, f2, f3⟩
theorem a_6 (x1 x2 x3 : Int32) (hC : CW W r v n) (hM : MW W v) (hI : IW B W) (hK : 400000 < K) : OUT B (fL_steps K x1 x2 x3 r v n x) (fX7_steps K x1 x2 x3) PI n := by
  refine a_gf (x := x) (x1 := x1) (x2 := x2) (x3 := x3) hC hM hI hK (fun e => ?_) (fun e => ?_) (fun w k hk hk2 e => ?_) (fun g t c hg e1 ht et h0 hc ec => ⟨if (dst (coS W.1) t c).isNone = true then jM else nI (stN (coS W.1) (dst (coS W.1) t) 1300 c), fun q r' v' k e hs hq hR hd hD => ?_, fun w hw e => ?_⟩)
  · unfold fL_steps fX6_steps
    rw [e]
    rfl
  · unfold fL_steps fX6_steps
    rw [e]
    rfl
  · unfold fX7_steps
    simp (disch := omega) only [↓jM_e, li_0, li_1, li_2, li_3, li_4, li_5, li_6, li_7, li_8, li_9, li_10, li_13, li_14, li_15, li_16, li_31, li_35, li_47, li_48, li_49, li_50, li_57, li_99, li_100, li_126, li_139, li_140, li_149, li_150, li_280, li_284, li_285, li_290, li_434, li_1260, li_3472, li_9999, li_65536, nm, nm_w, sf_w, cp_w, ld_I, sa_I, nI_add, pk_mul, Nat.zero_add, nI_leI, nI_ltI, nI_eq, nI_neM, M_neI, nI_ltM, nI_nltM, M_ltI, M_leI, nI_nleM, bnd_some, if_pos, if_neg, dif_t, dif_f, e, s2_i]
  · unfold fL_steps fX6_steps
    rw [e]
    have hcost : ∀ c, c < 140 → v' 2 c = nI (coS W.1 c) := fun c hc => (rc0 hR hc).trans (hI.1.1 c hc).1
    rw [bnd_some, acT_k, ac_v (by rw [ck_i ⟨hs, hq⟩, ca_C, bnd_some, ec, st_C (iS_co hI.1) hcost hd hD hc (show 140 < K by omega), bnd_some])]
    rfl
  · subst e1
    have hw' := (MW_t (y := nI 0) hw).1
    have hix : 280 + g < 434 := by omega
    have r2 := hw'.1.2.2.1 g hg
    rw [et] at r2
    have hca := ca_M (x := x2) (y := x3) (by rw [ec, ne_eq, nI_neM (by omega)]; exact id)
    rw [ec] at hca
    obtain ⟨w2, f1, f2, f3, hD⟩ := far_M hI.1 hw' ht h0 hc hK
    unfold fX7_steps
    cases hdc : dst (coS W.1) t c with
    | none =>
      rw [hdc] at f1
      simp (disch := omega) only [↓jM_e, li_0, li_1, li_2, li_3, li_4, li_5, li_6, li_7, li_8, li_9, li_10, li_13, li_14, li_15, li_16, li_31, li_35, li_47, li_48, li_49, li_50, li_57, li_99, li_100, li_126, li_139, li_140, li_149, li_150, li_280, li_284, li_285, li_290, li_434, li_1260, li_3472, li_9999, li_65536, nm, nm_w, sf_w, cp_w, ld_I, sa_I, nI_add, pk_mul, Nat.zero_add, nI_leI, nI_ltI, nI_eq, nI_neM, M_neI, nI_ltM, nI_nltM, M_ltI, M_leI, nI_nleM, bnd_some, if_pos, if_neg, dif_t, dif_f, e, s2_i, hca, r2, f1, oI, show (nI 0 ≤ jM) = False from by decide]
      exact ⟨w2, rfl, f2, f3⟩
    | some k =>
      rw [hdc] at f1
      have hk := isD_ok hD c hc k hdc
      obtain ⟨w3, g1, g2, g3⟩ := st_M hI.1 f2 ht h0 hc hdc hK
      simp (disch := omega) only [↓jM_e, li_0, li_1, li_2, li_3, li_4, li_5, li_6, li_7, li_8, li_9, li_10, li_13, li_14, li_15, li_16, li_31, li_35, li_47, li_48, li_49, li_50, li_57, li_99, li_100, li_126, li_139, li_140, li_149, li_150, li_280, li_284, li_285, li_290, li_434, li_1260, li_3472, li_9999, li_65536, nm, nm_w, sf_w, cp_w, ld_I, sa_I, nI_add, pk_mul, Nat.zero_add, nI_leI, nI_ltI, nI_eq, nI_neM, M_neI, nI_ltM, nI_nltM, M_ltI, M_leI, nI_nleM, bnd_some, if_pos, if_neg, dif_t, dif_f, e, s2_i, hca, r2, f1, oI, g1]
      exact ⟨w3, rfl, g2, f3.trans g3⟩
end
