/-! agent, disorder, bottleneck, setGoal -/
section
variable {v : sV} {K n : Nat} {r : sR} {W : aW} {B : Nat} {x : Int64 × UInt64}
/-- how far an agent has to go -/
theorem dl_C {S : aS} {b cq : Nat} (hb : okC cq b) (h : RelC b S v) (hI : iS B S) (hc : cacC (coS S) r v n) {a c : Nat} (ha : a < 16) (hx : S 3 a ≠ jM) (ec : S 3 a = nI c) (hcc : c < 140) (hK : 2000 < K) :
    ∃ r' v' k, fX0_distanceLeft K cq b (nI a) r v n = some (oI (DA S a c), r', v', k) ∧ RelC b S v' ∧ cacC (coS S) r' v' (n + k) ∧ (∀ p, p < 172 → p ≠ 18 → p ≠ 19 → v' p = v p) ∧ okD (DA S a) := by
  obtain ⟨q, r1, v1, k1, etw, g1, g2, g3, g4, g5, g6, g7, g8⟩ := tw_A hb h hI hc ha hx hK
  have e3 : v1 (b + 4) a = nI c := (rc3 g1 ha).trans ec
  refine ⟨r1, v1, k1 + 0, ?_, g1, by rw [Nat.add_zero]; exact g2, g6, g8⟩
  unfold fX0_distanceLeft
  rw [tg_C h hI ha hx, bnd_some, etw, bnd_some]
  refine ac_v ?_
  rw [ck_i ⟨g2.1, g4⟩]
  simp (disch := omega) only [↓jM_e, li_0, li_1, li_2, li_3, li_4, li_5, li_6, li_7, li_8, li_9, li_10, li_13, li_14, li_15, li_16, li_31, li_35, li_47, li_48, li_49, li_50, li_57, li_99, li_100, li_126, li_139, li_140, li_149, li_150, li_280, li_284, li_285, li_290, li_434, li_1260, li_3472, li_9999, li_65536, nm, nm_w, sf_w, cp_w, ld_I, sa_I, nI_add, pk_mul, Nat.zero_add, nI_leI, nI_ltI, nI_eq, nI_neM, M_neI, nI_ltM, nI_nltM, M_ltI, M_leI, nI_nleM, bnd_some, if_pos, if_neg, dif_t, dif_f, e3, di_C g5 hcc]
theorem a_11 (x1 x2 : Int32) (hC : CW W r v n) (hM : MW W v) (hI : IW B W) (hK : 400000 < K) : OUT B (fL_agent K x1 x2 r v n x) (fX7_agent K x1 x2) PI n := by
  have hsh := hC.2.1.1
  rcases arg_A W.1 x1 with hn | ⟨a, ha, rfl, hx⟩
  · refine fin_thr hC hM hI (code := 1) (z := nI 0) (x' := x) (by decide) ?_ (fun w hw => ?_)
    · unfold fL_agent fX6_agent
      rw [rA_n hC.1 hn, bnd_some, acT_r]
      rfl
    · unfold fX7_agent bX7_agent_28
      rw [no_M hw.1.1 hn, bnd_some, if_pos (show nI 0 = (0 : Int32) from rfl), sf_w, s2_i, if_neg (by decide)]
      rfl
  · obtain ⟨c, hcc, ec, -⟩ := (hI.1.2.2.1 a ha).resolve_left hx
    have hp10 : (x2 ≤ nI 10) = ¬ (nI 11 ≤ x2) := le_pred (n := 10) (by decide)
    have hthr : ¬ (nI 0 ≤ x2 ∧ x2 ≤ nI 10) → OUT B (fL_agent K (nI a) x2 r v n x) (fX7_agent K (nI a) x2) PI n := by
      intro h1
      have hne : ∀ k, k < 11 → ¬ x2 = nI k := fun k hk e => h1 (by rw [e]; exact ⟨nI_le (Nat.zero_le k) (by omega), nI_le (by omega) (by decide)⟩)
      refine fin_thr hC hM hI (code := 2) (z := nI 0) (x' := x) (by decide) ?_ (fun w hw => ?_)
      · unfold fL_agent fX6_agent
        rw [rA_y hC.1 ha hx, bnd_some, acT_l, ck_i hsh, if_neg (show ¬ x2 = (0 : Int32) from hne 0 (by decide)), if_neg (show ¬ x2 = (1 : Int32) from hne 1 (by decide)), if_neg (show ¬ x2 = (2 : Int32) from hne 2 (by decide)), if_neg (show ¬ x2 = (3 : Int32) from hne 3 (by decide)), if_neg (show ¬ x2 = (4 : Int32) from hne 4 (by decide)), if_neg (show ¬ x2 = (5 : Int32) from hne 5 (by decide)), if_neg (show ¬ x2 = (6 : Int32) from hne 6 (by decide)), if_neg (show ¬ x2 = (7 : Int32) from hne 7 (by decide)), if_neg (show ¬ x2 = (8 : Int32) from hne 8 (by decide)), if_neg (show ¬ x2 = (9 : Int32) from hne 9 (by decide)), if_neg (show ¬ x2 = (10 : Int32) from hne 10 (by decide))]
        rfl
      · unfold fX7_agent bX7_agent_28
        rw [ya_M hw.1.1 ha hx, bnd_some, if_neg (show ¬ nI 1 = (0 : Int32) by decide), ii_M, if_neg (show ¬ ((0 : Int32) ≤ x2 ∧ x2 ≤ (10 : Int32)) from h1), bnd_some, if_pos (show nI 0 = (0 : Int32) from rfl), sf_w, s2_i, if_neg (by decide)]
        rfl
    rcases pk_ix x2 (n := 11) (by decide) with h0 | h11 | ⟨k, hk, rfl⟩
    · exact hthr (fun g => Int32.not_le.mpr h0 g.1)
    · exact hthr (fun g => by rw [hp10] at g; exact g.2 h11)
    · have q3 : v 5 a = nI c := (rc3 hC.1 ha).trans ec
      have q4 : v 6 a = W.1 4 a := rc4 hC.1 ha
      have q5 : v 7 a = W.1 5 a := rc5 hC.1 ha
      have q6 : v 8 a = W.1 6 a := rc6 hC.1 ha
      have q7 : v 9 a = W.1 7 a := rc7 hC.1 ha
      have q8 : v 10 a = W.1 8 a := rc8 hC.1 ha
      have htg := tgS_v hI.1 ha hx
      have hnn := tgS_nn hI.1 ha hx
      -- columns and rows of a target
      have hcol : fX6_columnOf (tgS W.1 a) = some (if tgS W.1 a = jM then jM else nI (clI (tgS W.1 a) % 14)) ∧ fX6_rowOf (tgS W.1 a) = some (if tgS W.1 a = jM then jM else nI (clI (tgS W.1 a) / 14)) ∧ (tgS W.1 a ≠ jM → fX7_columnOf (tgS W.1 a) = some (nI (clI (tgS W.1 a) % 14)) ∧ fX7_rowOf (tgS W.1 a) = some (nI (clI (tgS W.1 a) / 14))) := by
        rcases htg with e | ⟨t, ht, e, -⟩
        · rw [e, if_pos rfl, if_pos rfl]
          exact ⟨co_CM.1, co_CM.2, fun g => absurd rfl g⟩
        · have hne : ¬ nI t = jM := by rw [nI_neM (by omega)]; exact id
          rw [e, if_neg hne, if_neg hne, clI_n (by omega)]
          exact ⟨(co_C ht).1, (co_C ht).2, fun _ => co_M ht⟩
      have hrd : ∀ y : Int32, k ≠ 9 → fL_agent K (nI a) (nI k) r v n x = some ((nI 0, (y.toInt64, x.2)), r, v, 0) → (∀ w : sV, mI W.1 w → bX7_agent_28 K (nI a) (nI k) (nI 0) w = some (y, s2 w 157 6 (nI 0))) → OUT B (fL_agent K (nI a) (nI k) r v n x) (fX7_agent K (nI a) (nI k)) PI n := by
        intro y _ e1 e2
        refine fin_rd hC hM hI e1 (fun w hw => ⟨y, ?_, rfl⟩)
        unfold fX7_agent
        simp (disch := omega) only [↓jM_e, li_0, li_1, li_2, li_3, li_4, li_5, li_6, li_7, li_8, li_9, li_10, li_13, li_14, li_15, li_16, li_31, li_35, li_47, li_48, li_49, li_50, li_57, li_99, li_100, li_126, li_139, li_140, li_149, li_150, li_280, li_284, li_285, li_290, li_434, li_1260, li_3472, li_9999, li_65536, nm, nm_w, sf_w, cp_w, ld_I, sa_I, nI_add, pk_mul, Nat.zero_add, nI_leI, nI_ltI, nI_eq, nI_neM, M_neI, nI_ltM, nI_nltM, M_ltI, M_leI, nI_nleM, bnd_some, if_pos, if_neg, dif_t, dif_f, ya_M hw.1.1 ha hx, ii_M]
        exact e2 w hw.1
      have hm : ∀ w : sV, mI W.1 w → mI W.1 (s2 w 157 6 (nI 0)) := fun w hw => ⟨by rw [s2_ne (by decide)]; exact hw.1, cacM_v hw.2 (s2_ne (by decide)) (s2_ne (by decide))⟩
      rcases (show k = 0 ∨ k = 1 ∨ k = 2 ∨ k = 3 ∨ k = 4 ∨ k = 5 ∨ k = 6 ∨ k = 7 ∨ k = 8 ∨ k = 9 ∨ k = 10 by omega) with rfl | rfl | rfl | rfl | rfl | rfl | rfl | rfl | rfl | rfl | rfl
      · refine hrd (nI (c % 14)) (by decide) ?_ (fun w hw => ?_)
        · unfold fL_agent fX6_agent
          simp (disch := omega) only [↓jM_e, li_0, li_1, li_2, li_3, li_4, li_5, li_6, li_7, li_8, li_9, li_10, li_13, li_14, li_15, li_16, li_31, li_35, li_47, li_48, li_49, li_50, li_57, li_99, li_100, li_126, li_139, li_140, li_149, li_150, li_280, li_284, li_285, li_290, li_434, li_1260, li_3472, li_9999, li_65536, nm, nm_w, sf_w, cp_w, ld_I, sa_I, nI_add, pk_mul, Nat.zero_add, nI_leI, nI_ltI, nI_eq, nI_neM, M_neI, nI_ltM, nI_nltM, M_ltI, M_leI, nI_nleM, bnd_some, if_pos, if_neg, dif_t, dif_f, rA_y hC.1 ha hx, acT_l, ck_i hsh, q3, (co_C hcc).1]
          rfl
        · have h' := (hm w hw).1
          have r1 := (rm h' ha hx).1.trans ec
          unfold bX7_agent_28
          simp (disch := omega) only [↓jM_e, li_0, li_1, li_2, li_3, li_4, li_5, li_6, li_7, li_8, li_9, li_10, li_13, li_14, li_15, li_16, li_31, li_35, li_47, li_48, li_49, li_50, li_57, li_99, li_100, li_126, li_139, li_140, li_149, li_150, li_280, li_284, li_285, li_290, li_434, li_1260, li_3472, li_9999, li_65536, nm, nm_w, sf_w, cp_w, ld_I, sa_I, nI_add, pk_mul, Nat.zero_add, nI_leI, nI_ltI, nI_eq, nI_neM, M_neI, nI_ltM, nI_nltM, M_ltI, M_leI, nI_nleM, bnd_some, if_pos, if_neg, dif_t, dif_f, s2_i, tg_M h' hI.1 ha hx, at_M ha (show 1 < 9 by decide), r1, (co_M hcc).1]
      · refine hrd (nI (c / 14)) (by decide) ?_ (fun w hw => ?_)
        · unfold fL_agent fX6_agent
          simp (disch := omega) only [↓jM_e, li_0, li_1, li_2, li_3, li_4, li_5, li_6, li_7, li_8, li_9, li_10, li_13, li_14, li_15, li_16, li_31, li_35, li_47, li_48, li_49, li_50, li_57, li_99, li_100, li_126, li_139, li_140, li_149, li_150, li_280, li_284, li_285, li_290, li_434, li_1260, li_3472, li_9999, li_65536, nm, nm_w, sf_w, cp_w, ld_I, sa_I, nI_add, pk_mul, Nat.zero_add, nI_leI, nI_ltI, nI_eq, nI_neM, M_neI, nI_ltM, nI_nltM, M_ltI, M_leI, nI_nleM, bnd_some, if_pos, if_neg, dif_t, dif_f, rA_y hC.1 ha hx, acT_l, ck_i hsh, q3, (co_C hcc).2]
          rfl
        · have h' := (hm w hw).1
          have r1 := (rm h' ha hx).1.trans ec
          unfold bX7_agent_28
          simp (disch := omega) only [↓jM_e, li_0, li_1, li_2, li_3, li_4, li_5, li_6, li_7, li_8, li_9, li_10, li_13, li_14, li_15, li_16, li_31, li_35, li_47, li_48, li_49, li_50, li_57, li_99, li_100, li_126, li_139, li_140, li_149, li_150, li_280, li_284, li_285, li_290, li_434, li_1260, li_3472, li_9999, li_65536, nm, nm_w, sf_w, cp_w, ld_I, sa_I, nI_add, pk_mul, Nat.zero_add, nI_leI, nI_ltI, nI_eq, nI_neM, M_neI, nI_ltM, nI_nltM, M_ltI, M_leI, nI_nleM, bnd_some, if_pos, if_neg, dif_t, dif_f, s2_i, tg_M h' hI.1 ha hx, at_M ha (show 1 < 9 by decide), r1, (co_M hcc).2]
      · refine hrd (W.1 4 a) (by decide) ?_ (fun w hw => ?_)
        · unfold fL_agent fX6_agent
          simp (disch := omega) only [↓jM_e, li_0, li_1, li_2, li_3, li_4, li_5, li_6, li_7, li_8, li_9, li_10, li_13, li_14, li_15, li_16, li_31, li_35, li_47, li_48, li_49, li_50, li_57, li_99, li_100, li_126, li_139, li_140, li_149, li_150, li_280, li_284, li_285, li_290, li_434, li_1260, li_3472, li_9999, li_65536, nm, nm_w, sf_w, cp_w, ld_I, sa_I, nI_add, pk_mul, Nat.zero_add, nI_leI, nI_ltI, nI_eq, nI_neM, M_neI, nI_ltM, nI_nltM, M_ltI, M_leI, nI_nleM, bnd_some, if_pos, if_neg, dif_t, dif_f, rA_y hC.1 ha hx, acT_l, ck_i hsh, q4]
          rfl
        · have h' := (hm w hw).1
          have r1 := (rm h' ha hx).2.1
          unfold bX7_agent_28
          simp (disch := omega) only [↓jM_e, li_0, li_1, li_2, li_3, li_4, li_5, li_6, li_7, li_8, li_9, li_10, li_13, li_14, li_15, li_16, li_31, li_35, li_47, li_48, li_49, li_50, li_57, li_99, li_100, li_126, li_139, li_140, li_149, li_150, li_280, li_284, li_285, li_290, li_434, li_1260, li_3472, li_9999, li_65536, nm, nm_w, sf_w, cp_w, ld_I, sa_I, nI_add, pk_mul, Nat.zero_add, nI_leI, nI_ltI, nI_eq, nI_neM, M_neI, nI_ltM, nI_nltM, M_ltI, M_leI, nI_nleM, bnd_some, if_pos, if_neg, dif_t, dif_f, s2_i, tg_M h' hI.1 ha hx, at_M ha (show 2 < 9 by decide), r1]
      · refine hrd (W.1 5 a) (by decide) ?_ (fun w hw => ?_)
        · unfold fL_agent fX6_agent
          simp (disch := omega) only [↓jM_e, li_0, li_1, li_2, li_3, li_4, li_5, li_6, li_7, li_8, li_9, li_10, li_13, li_14, li_15, li_16, li_31, li_35, li_47, li_48, li_49, li_50, li_57, li_99, li_100, li_126, li_139, li_140, li_149, li_150, li_280, li_284, li_285, li_290, li_434, li_1260, li_3472, li_9999, li_65536, nm, nm_w, sf_w, cp_w, ld_I, sa_I, nI_add, pk_mul, Nat.zero_add, nI_leI, nI_ltI, nI_eq, nI_neM, M_neI, nI_ltM, nI_nltM, M_ltI, M_leI, nI_nleM, bnd_some, if_pos, if_neg, dif_t, dif_f, rA_y hC.1 ha hx, acT_l, ck_i hsh, q5]
          rfl
        · have h' := (hm w hw).1
          have r1 := (rm h' ha hx).2.2.1
          unfold bX7_agent_28
          simp (disch := omega) only [↓jM_e, li_0, li_1, li_2, li_3, li_4, li_5, li_6, li_7, li_8, li_9, li_10, li_13, li_14, li_15, li_16, li_31, li_35, li_47, li_48, li_49, li_50, li_57, li_99, li_100, li_126, li_139, li_140, li_149, li_150, li_280, li_284, li_285, li_290, li_434, li_1260, li_3472, li_9999, li_65536, nm, nm_w, sf_w, cp_w, ld_I, sa_I, nI_add, pk_mul, Nat.zero_add, nI_leI, nI_ltI, nI_eq, nI_neM, M_neI, nI_ltM, nI_nltM, M_ltI, M_leI, nI_nleM, bnd_some, if_pos, if_neg, dif_t, dif_f, s2_i, tg_M h' hI.1 ha hx, at_M ha (show 3 < 9 by decide), r1]
      · refine hrd (W.1 6 a) (by decide) ?_ (fun w hw => ?_)
        · unfold fL_agent fX6_agent
          simp (disch := omega) only [↓jM_e, li_0, li_1, li_2, li_3, li_4, li_5, li_6, li_7, li_8, li_9, li_10, li_13, li_14, li_15, li_16, li_31, li_35, li_47, li_48, li_49, li_50, li_57, li_99, li_100, li_126, li_139, li_140, li_149, li_150, li_280, li_284, li_285, li_290, li_434, li_1260, li_3472, li_9999, li_65536, nm, nm_w, sf_w, cp_w, ld_I, sa_I, nI_add, pk_mul, Nat.zero_add, nI_leI, nI_ltI, nI_eq, nI_neM, M_neI, nI_ltM, nI_nltM, M_ltI, M_leI, nI_nleM, bnd_some, if_pos, if_neg, dif_t, dif_f, rA_y hC.1 ha hx, acT_l, ck_i hsh, q6]
          rfl
        · have h' := (hm w hw).1
          have r1 := (rm h' ha hx).2.2.2.1
          unfold bX7_agent_28
          simp (disch := omega) only [↓jM_e, li_0, li_1, li_2, li_3, li_4, li_5, li_6, li_7, li_8, li_9, li_10, li_13, li_14, li_15, li_16, li_31, li_35, li_47, li_48, li_49, li_50, li_57, li_99, li_100, li_126, li_139, li_140, li_149, li_150, li_280, li_284, li_285, li_290, li_434, li_1260, li_3472, li_9999, li_65536, nm, nm_w, sf_w, cp_w, ld_I, sa_I, nI_add, pk_mul, Nat.zero_add, nI_leI, nI_ltI, nI_eq, nI_neM, M_neI, nI_ltM, nI_nltM, M_ltI, M_leI, nI_nleM, bnd_some, if_pos, if_neg, dif_t, dif_f, s2_i, tg_M h' hI.1 ha hx, at_M ha (show 4 < 9 by decide), r1]
      · refine hrd (W.1 7 a) (by decide) ?_ (fun w hw => ?_)
        · unfold fL_agent fX6_agent
          simp (disch := omega) only [↓jM_e, li_0, li_1, li_2, li_3, li_4, li_5, li_6, li_7, li_8, li_9, li_10, li_13, li_14, li_15, li_16, li_31, li_35, li_47, li_48, li_49, li_50, li_57, li_99, li_100, li_126, li_139, li_140, li_149, li_150, li_280, li_284, li_285, li_290, li_434, li_1260, li_3472, li_9999, li_65536, nm, nm_w, sf_w, cp_w, ld_I, sa_I, nI_add, pk_mul, Nat.zero_add, nI_leI, nI_ltI, nI_eq, nI_neM, M_neI, nI_ltM, nI_nltM, M_ltI, M_leI, nI_nleM, bnd_some, if_pos, if_neg, dif_t, dif_f, rA_y hC.1 ha hx, acT_l, ck_i hsh, q7]
          rfl
        · have h' := (hm w hw).1
          have r1 := (rm h' ha hx).2.2.2.2.1
          unfold bX7_agent_28
          simp (disch := omega) only [↓jM_e, li_0, li_1, li_2, li_3, li_4, li_5, li_6, li_7, li_8, li_9, li_10, li_13, li_14, li_15, li_16, li_31, li_35, li_47, li_48, li_49, li_50, li_57, li_99, li_100, li_126, li_139, li_140, li_149, li_150, li_280, li_284, li_285, li_290, li_434, li_1260, li_3472, li_9999, li_65536, nm, nm_w, sf_w, cp_w, ld_I, sa_I, nI_add, pk_mul, Nat.zero_add, nI_leI, nI_ltI, nI_eq, nI_neM, M_neI, nI_ltM, nI_nltM, M_ltI, M_leI, nI_nleM, bnd_some, if_pos, if_neg, dif_t, dif_f, s2_i, tg_M h' hI.1 ha hx, at_M ha (show 5 < 9 by decide), r1]
      · refine hrd (W.1 8 a) (by decide) ?_ (fun w hw => ?_)
        · unfold fL_agent fX6_agent
          simp (disch := omega) only [↓jM_e, li_0, li_1, li_2, li_3, li_4, li_5, li_6, li_7, li_8, li_9, li_10, li_13, li_14, li_15, li_16, li_31, li_35, li_47, li_48, li_49, li_50, li_57, li_99, li_100, li_126, li_139, li_140, li_149, li_150, li_280, li_284, li_285, li_290, li_434, li_1260, li_3472, li_9999, li_65536, nm, nm_w, sf_w, cp_w, ld_I, sa_I, nI_add, pk_mul, Nat.zero_add, nI_leI, nI_ltI, nI_eq, nI_neM, M_neI, nI_ltM, nI_nltM, M_ltI, M_leI, nI_nleM, bnd_some, if_pos, if_neg, dif_t, dif_f, rA_y hC.1 ha hx, acT_l, ck_i hsh, q8]
          rfl
        · have h' := (hm w hw).1
          have r1 := (rm h' ha hx).2.2.2.2.2.1
          unfold bX7_agent_28
          simp (disch := omega) only [↓jM_e, li_0, li_1, li_2, li_3, li_4, li_5, li_6, li_7, li_8, li_9, li_10, li_13, li_14, li_15, li_16, li_31, li_35, li_47, li_48, li_49, li_50, li_57, li_99, li_100, li_126, li_139, li_140, li_149, li_150, li_280, li_284, li_285, li_290, li_434, li_1260, li_3472, li_9999, li_65536, nm, nm_w, sf_w, cp_w, ld_I, sa_I, nI_add, pk_mul, Nat.zero_add, nI_leI, nI_ltI, nI_eq, nI_neM, M_neI, nI_ltM, nI_nltM, M_ltI, M_leI, nI_nleM, bnd_some, if_pos, if_neg, dif_t, dif_f, s2_i, tg_M h' hI.1 ha hx, at_M ha (show 6 < 9 by decide), r1]
      · refine hrd (if tgS W.1 a = jM then jM else nI (clI (tgS W.1 a) % 14)) (by decide) ?_ (fun w hw => ?_)
        · unfold fL_agent fX6_agent
          simp (disch := omega) only [↓jM_e, li_0, li_1, li_2, li_3, li_4, li_5, li_6, li_7, li_8, li_9, li_10, li_13, li_14, li_15, li_16, li_31, li_35, li_47, li_48, li_49, li_50, li_57, li_99, li_100, li_126, li_139, li_140, li_149, li_150, li_280, li_284, li_285, li_290, li_434, li_1260, li_3472, li_9999, li_65536, nm, nm_w, sf_w, cp_w, ld_I, sa_I, nI_add, pk_mul, Nat.zero_add, nI_leI, nI_ltI, nI_eq, nI_neM, M_neI, nI_ltM, nI_nltM, M_ltI, M_leI, nI_nleM, bnd_some, if_pos, if_neg, dif_t, dif_f, rA_y hC.1 ha hx, acT_l, ck_i hsh, tg_C hC.1 hI.1 ha hx, hcol.1]
          rfl
        · have h' := (hm w hw).1
          unfold bX7_agent_28
          by_cases e : tgS W.1 a = jM
          · simp (disch := omega) only [↓jM_e, li_0, li_1, li_2, li_3, li_4, li_5, li_6, li_7, li_8, li_9, li_10, li_13, li_14, li_15, li_16, li_31, li_35, li_47, li_48, li_49, li_50, li_57, li_99, li_100, li_126, li_139, li_140, li_149, li_150, li_280, li_284, li_285, li_290, li_434, li_1260, li_3472, li_9999, li_65536, nm, nm_w, sf_w, cp_w, ld_I, sa_I, nI_add, pk_mul, Nat.zero_add, nI_leI, nI_ltI, nI_eq, nI_neM, M_neI, nI_ltM, nI_nltM, M_ltI, M_leI, nI_nleM, bnd_some, if_pos, if_neg, dif_t, dif_f, s2_i, tg_M h' hI.1 ha hx, hnn.2, e, not_true_eq_false]
          · simp (disch := omega) only [↓jM_e, li_0, li_1, li_2, li_3, li_4, li_5, li_6, li_7, li_8, li_9, li_10, li_13, li_14, li_15, li_16, li_31, li_35, li_47, li_48, li_49, li_50, li_57, li_99, li_100, li_126, li_139, li_140, li_149, li_150, li_280, li_284, li_285, li_290, li_434, li_1260, li_3472, li_9999, li_65536, nm, nm_w, sf_w, cp_w, ld_I, sa_I, nI_add, pk_mul, Nat.zero_add, nI_leI, nI_ltI, nI_eq, nI_neM, M_neI, nI_ltM, nI_nltM, M_ltI, M_leI, nI_nleM, bnd_some, if_pos, if_neg, dif_t, dif_f, s2_i, tg_M h' hI.1 ha hx, hnn.2, if_neg e, e, not_false_eq_true, if_true, (hcol.2.2 e).1, if_false]
      · refine hrd (if tgS W.1 a = jM then jM else nI (clI (tgS W.1 a) / 14)) (by decide) ?_ (fun w hw => ?_)
        · unfold fL_agent fX6_agent
          simp (disch := omega) only [↓jM_e, li_0, li_1, li_2, li_3, li_4, li_5, li_6, li_7, li_8, li_9, li_10, li_13, li_14, li_15, li_16, li_31, li_35, li_47, li_48, li_49, li_50, li_57, li_99, li_100, li_126, li_139, li_140, li_149, li_150, li_280, li_284, li_285, li_290, li_434, li_1260, li_3472, li_9999, li_65536, nm, nm_w, sf_w, cp_w, ld_I, sa_I, nI_add, pk_mul, Nat.zero_add, nI_leI, nI_ltI, nI_eq, nI_neM, M_neI, nI_ltM, nI_nltM, M_ltI, M_leI, nI_nleM, bnd_some, if_pos, if_neg, dif_t, dif_f, rA_y hC.1 ha hx, acT_l, ck_i hsh, tg_C hC.1 hI.1 ha hx, hcol.2.1]
          rfl
        · have h' := (hm w hw).1
          unfold bX7_agent_28
          by_cases e : tgS W.1 a = jM
          · simp (disch := omega) only [↓jM_e, li_0, li_1, li_2, li_3, li_4, li_5, li_6, li_7, li_8, li_9, li_10, li_13, li_14, li_15, li_16, li_31, li_35, li_47, li_48, li_49, li_50, li_57, li_99, li_100, li_126, li_139, li_140, li_149, li_150, li_280, li_284, li_285, li_290, li_434, li_1260, li_3472, li_9999, li_65536, nm, nm_w, sf_w, cp_w, ld_I, sa_I, nI_add, pk_mul, Nat.zero_add, nI_leI, nI_ltI, nI_eq, nI_neM, M_neI, nI_ltM, nI_nltM, M_ltI, M_leI, nI_nleM, bnd_some, if_pos, if_neg, dif_t, dif_f, s2_i, tg_M h' hI.1 ha hx, hnn.2, e, not_true_eq_false]
          · simp (disch := omega) only [↓jM_e, li_0, li_1, li_2, li_3, li_4, li_5, li_6, li_7, li_8, li_9, li_10, li_13, li_14, li_15, li_16, li_31, li_35, li_47, li_48, li_49, li_50, li_57, li_99, li_100, li_126, li_139, li_140, li_149, li_150, li_280, li_284, li_285, li_290, li_434, li_1260, li_3472, li_9999, li_65536, nm, nm_w, sf_w, cp_w, ld_I, sa_I, nI_add, pk_mul, Nat.zero_add, nI_leI, nI_ltI, nI_eq, nI_neM, M_neI, nI_ltM, nI_nltM, M_ltI, M_leI, nI_nleM, bnd_some, if_pos, if_neg, dif_t, dif_f, s2_i, tg_M h' hI.1 ha hx, hnn.2, if_neg e, e, not_false_eq_true, if_true, (hcol.2.2 e).2, if_false]
      · obtain ⟨r', v', k', el, t1, t2, t3, -⟩ := dl_C (cq := 20) (K := K) (Or.inl ⟨rfl, rfl⟩) hC.1 hI.1 hC.2.1 ha hx ec hcc (by omega)
        refine fin_ca (code := nI 0) (k1 := k' + 0 + 0) (x' := ((oI (DA W.1 a c)).toInt64, x.2)) hC hM hI ?_ t1 t2 (fun p hp => t3 p (by omega) (by omega) (by omega)) (fun w hw => ?_)
        · have hac : ac (oI (DA W.1 a c), r', v', k') n (fun y15 rr15 v15 n15 => ck (sSh rr15) (some ((Sum.inl y15 : Sum Int32 Nat), rr15, v15, 0))) = some (Sum.inl (oI (DA W.1 a c)), r', v', k' + 0) := ac_v (by rw [ck_i t2.1])
          unfold fL_agent fX6_agent
          simp (disch := omega) only [↓jM_e, li_0, li_1, li_2, li_3, li_4, li_5, li_6, li_7, li_8, li_9, li_10, li_13, li_14, li_15, li_16, li_31, li_35, li_47, li_48, li_49, li_50, li_57, li_99, li_100, li_126, li_139, li_140, li_149, li_150, li_280, li_284, li_285, li_290, li_434, li_1260, li_3472, li_9999, li_65536, nm, nm_w, sf_w, cp_w, ld_I, sa_I, nI_add, pk_mul, Nat.zero_add, nI_leI, nI_ltI, nI_eq, nI_neM, M_neI, nI_ltM, nI_nltM, M_ltI, M_leI, nI_nleM, bnd_some, if_pos, if_neg, dif_t, dif_f, rA_y hC.1 ha hx, acT_l, ck_i hsh, el, hac]
          rfl
        · have h' := hm w hw.1
          obtain ⟨w2, f1, f2, f3⟩ := ff_M hI.1 h' ha hx hcc hK
          have r1 := (rm h'.1 ha hx).1.trans ec
          refine ⟨oI (DA W.1 a c), w2, ?_, fun _ => rfl, f2, f3⟩
          unfold fX7_agent bX7_agent_28
          simp (disch := omega) only [↓jM_e, li_0, li_1, li_2, li_3, li_4, li_5, li_6, li_7, li_8, li_9, li_10, li_13, li_14, li_15, li_16, li_31, li_35, li_47, li_48, li_49, li_50, li_57, li_99, li_100, li_126, li_139, li_140, li_149, li_150, li_280, li_284, li_285, li_290, li_434, li_1260, li_3472, li_9999, li_65536, nm, nm_w, sf_w, cp_w, ld_I, sa_I, nI_add, pk_mul, Nat.zero_add, nI_leI, nI_ltI, nI_eq, nI_neM, M_neI, nI_ltM, nI_nltM, M_ltI, M_leI, nI_nleM, bnd_some, if_pos, if_neg, dif_t, dif_f, ya_M hw.1.1 ha hx, ii_M, s2_i, tg_M h'.1 hI.1 ha hx, at_M ha (show 1 < 9 by decide), r1, f1]
      · refine hrd (if seS W.1 a = true then nI 1 else nI 0) (by decide) ?_ (fun w hw => ?_)
        · unfold fL_agent fX6_agent
          by_cases hs : seS W.1 a = true
          · simp (disch := omega) only [↓jM_e, li_0, li_1, li_2, li_3, li_4, li_5, li_6, li_7, li_8, li_9, li_10, li_13, li_14, li_15, li_16, li_31, li_35, li_47, li_48, li_49, li_50, li_57, li_99, li_100, li_126, li_139, li_140, li_149, li_150, li_280, li_284, li_285, li_290, li_434, li_1260, li_3472, li_9999, li_65536, nm, nm_w, sf_w, cp_w, ld_I, sa_I, nI_add, pk_mul, Nat.zero_add, nI_leI, nI_ltI, nI_eq, nI_neM, M_neI, nI_ltM, nI_nltM, M_ltI, M_leI, nI_nleM, bnd_some, if_pos, if_neg, dif_t, dif_f, rA_y hC.1 ha hx, acT_l, ck_i hsh, se_C hC.1 hI.1 ha hx, if_pos hs]
            rfl
          · simp (disch := omega) only [↓jM_e, li_0, li_1, li_2, li_3, li_4, li_5, li_6, li_7, li_8, li_9, li_10, li_13, li_14, li_15, li_16, li_31, li_35, li_47, li_48, li_49, li_50, li_57, li_99, li_100, li_126, li_139, li_140, li_149, li_150, li_280, li_284, li_285, li_290, li_434, li_1260, li_3472, li_9999, li_65536, nm, nm_w, sf_w, cp_w, ld_I, sa_I, nI_add, pk_mul, Nat.zero_add, nI_leI, nI_ltI, nI_eq, nI_neM, M_neI, nI_ltM, nI_nltM, M_ltI, M_leI, nI_nleM, bnd_some, if_pos, if_neg, dif_t, dif_f, rA_y hC.1 ha hx, acT_l, ck_i hsh, se_C hC.1 hI.1 ha hx, if_neg hs]
            rfl
        · have h' := (hm w hw).1
          unfold bX7_agent_28
          by_cases hs : seS W.1 a = true
          · simp (disch := omega) only [↓jM_e, li_0, li_1, li_2, li_3, li_4, li_5, li_6, li_7, li_8, li_9, li_10, li_13, li_14, li_15, li_16, li_31, li_35, li_47, li_48, li_49, li_50, li_57, li_99, li_100, li_126, li_139, li_140, li_149, li_150, li_280, li_284, li_285, li_290, li_434, li_1260, li_3472, li_9999, li_65536, nm, nm_w, sf_w, cp_w, ld_I, sa_I, nI_add, pk_mul, Nat.zero_add, nI_leI, nI_ltI, nI_eq, nI_neM, M_neI, nI_ltM, nI_nltM, M_ltI, M_leI, nI_nleM, bnd_some, if_pos, if_neg, dif_t, dif_f, s2_i, tg_M h' hI.1 ha hx, se_M h' hI.1 ha hx, if_pos hs]
          · simp (disch := omega) only [↓jM_e, li_0, li_1, li_2, li_3, li_4, li_5, li_6, li_7, li_8, li_9, li_10, li_13, li_14, li_15, li_16, li_31, li_35, li_47, li_48, li_49, li_50, li_57, li_99, li_100, li_126, li_139, li_140, li_149, li_150, li_280, li_284, li_285, li_290, li_434, li_1260, li_3472, li_9999, li_65536, nm, nm_w, sf_w, cp_w, ld_I, sa_I, nI_add, pk_mul, Nat.zero_add, nI_leI, nI_ltI, nI_eq, nI_neM, M_neI, nI_ltM, nI_nltM, M_ltI, M_leI, nI_nleM, bnd_some, if_pos, if_neg, dif_t, dif_f, s2_i, tg_M h' hI.1 ha hx, se_M h' hI.1 ha hx, if_neg hs]
/-- the most passed cell: the first of those with the most -/
def paN (S : aS) (c : Nat) : Nat := clI (S 1 c)
theorem a_19 (hC : CW W r v n) (hM : MW W v) (hI : IW B W) (hB : B + 10000 < 2 ^ 30) (hK : 400000 < K) : OUT B (fL_bottleneck K r v n x) (fX7_bottleneck K) PI n := by
  have hpa : ∀ c, c < 140 → W.1 1 c = nI (paN W.1 c) ∧ paN W.1 c < 2 ^ 30 := by
    intro c hc
    obtain ⟨k, hk, e⟩ := hI.1.2.2.2.2.2.1 c hc
    unfold paN
    rw [e, clI_n (by omega)]
    exact ⟨rfl, by omega⟩
  have q1 : ∀ c, c < 140 → v 3 c = nI (paN W.1 c) := fun c hc => (rc1 hC.1 hc).trans (hpa c hc).1
  -- the first of the most passed
  obtain ⟨m, hm, hmx, hfst⟩ : ∃ m, m < 140 ∧ (∀ c, c < 140 → paN W.1 c ≤ paN W.1 m) ∧ ∀ c, c < m → paN W.1 c < paN W.1 m := by
    have : ∀ N, 0 < N → ∃ m, m < N ∧ (∀ c, c < N → paN W.1 c ≤ paN W.1 m) ∧ ∀ c, c < m → paN W.1 c < paN W.1 m := by
      intro N
      induction N with
      | zero => intro h; omega
      | succ N ih =>
        intro _
        by_cases hN : N = 0
        · subst hN
          exact ⟨0, by decide, fun c hc => by rw [show c = 0 by omega]; exact Nat.le_refl _, fun c hc => absurd hc (Nat.not_lt_zero c)⟩
        · obtain ⟨m, g1, g2, g3⟩ := ih (by omega)
          by_cases hlt : paN W.1 m < paN W.1 N
          · exact ⟨N, by omega, fun c hc => by
              by_cases hcN : c = N
              · rw [hcN]; exact Nat.le_refl _
              · have := g2 c (by omega); omega, fun c hc => by have := g2 c hc; omega⟩
          · exact ⟨m, by omega, fun c hc => by
              by_cases hcN : c = N
              · rw [hcN]; omega
              · exact g2 c (by omega), g3⟩
    exact this 140 (by decide)
  have huq : ∀ b, b < 140 → (∀ c, c < 140 → paN W.1 c ≤ paN W.1 b) → (∀ c, c < b → paN W.1 c < paN W.1 b) → b = m := by
    intro b hb h1 h2
    rcases Nat.lt_trichotomy b m with g | g | g
    · have := hfst b g; have := h1 m hm; omega
    · exact g
    · have := h2 m g; have := hmx b hb; omega
  have hcl : fX6_bottleneck K r v n = (if paN W.1 m = 0 then some (Sum.inr 4, r, v, 0) else some (Sum.inl (nI (100 * (m / 14) + m % 14)), r, v, 0)) := by
    unfold fX6_bottleneck
    refine fx6_go (P := fun t x1 x2 x3 r' v' n' => x3 = nI t ∧ r' = r ∧ v' = v ∧ n' = n ∧ ((x1 = jM ∧ x2 = nI 0 ∧ ∀ c, c < t → paN W.1 c = 0) ∨ ∃ b, x1 = nI b ∧ x2 = nI (paN W.1 b) ∧ b < t ∧ 0 < paN W.1 b ∧ (∀ c, c < t → paN W.1 c ≤ paN W.1 b) ∧ ∀ c, c < b → paN W.1 c < paN W.1 b)) (Q := fun o => o = (if paN W.1 m = 0 then some (Sum.inr 4, r, v, 0) else some (Sum.inl (nI (100 * (m / 14) + m % 14)), r, v, 0))) (N := 140) ?_ ⟨rfl, rfl, rfl, rfl, Or.inl ⟨rfl, rfl, fun c hc => absurd hc (Nat.not_lt_zero c)⟩⟩ (by omega)
    intro t x1 x2 x3 r' v' n' ht ⟨e3, er, ev, en, hst⟩ k hk
    subst e3 er ev en
    unfold gX6_bottleneck_6
    by_cases ht1 : t = 140
    · subst ht1
      rcases hst with ⟨e1, e2, hz⟩ | ⟨b, e1, e2, hb, hp, h1, h2⟩
      · subst e1 e2
        rw [if_pos (hz m hm)]
        simp (disch := omega) only [↓jM_e, li_0, li_1, li_2, li_3, li_4, li_5, li_6, li_7, li_8, li_9, li_10, li_13, li_14, li_15, li_16, li_31, li_35, li_47, li_48, li_49, li_50, li_57, li_99, li_100, li_126, li_139, li_140, li_149, li_150, li_280, li_284, li_285, li_290, li_434, li_1260, li_3472, li_9999, li_65536, nm, nm_w, sf_w, cp_w, ld_I, sa_I, nI_add, pk_mul, Nat.zero_add, nI_leI, nI_ltI, nI_eq, nI_neM, M_neI, nI_ltM, nI_nltM, M_ltI, M_leI, nI_nleM, bnd_some, if_pos, if_neg, dif_t, dif_f]
      · subst e1 e2
        have := huq b hb h1 h2
        subst this
        rw [if_neg (show ¬ paN W.1 b = 0 by omega)]
        simp (disch := omega) only [↓jM_e, li_0, li_1, li_2, li_3, li_4, li_5, li_6, li_7, li_8, li_9, li_10, li_13, li_14, li_15, li_16, li_31, li_35, li_47, li_48, li_49, li_50, li_57, li_99, li_100, li_126, li_139, li_140, li_149, li_150, li_280, li_284, li_285, li_290, li_434, li_1260, li_3472, li_9999, li_65536, nm, nm_w, sf_w, cp_w, ld_I, sa_I, nI_add, pk_mul, Nat.zero_add, nI_leI, nI_ltI, nI_eq, nI_neM, M_neI, nI_ltM, nI_nltM, M_ltI, M_leI, nI_nleM, bnd_some, if_pos, if_neg, dif_t, dif_f, (co_C hb).1, (co_C hb).2]
    · have hlt : t < 140 := by omega
      have hpt := (hpa t hlt).2
      rcases hst with ⟨e1, e2, hz⟩ | ⟨b, e1, e2, hb, hp, h1, h2⟩
      · subst e1 e2
        by_cases hp0 : paN W.1 t = 0
        · simp (disch := omega) only [↓jM_e, li_0, li_1, li_2, li_3, li_4, li_5, li_6, li_7, li_8, li_9, li_10, li_13, li_14, li_15, li_16, li_31, li_35, li_47, li_48, li_49, li_50, li_57, li_99, li_100, li_126, li_139, li_140, li_149, li_150, li_280, li_284, li_285, li_290, li_434, li_1260, li_3472, li_9999, li_65536, nm, nm_w, sf_w, cp_w, ld_I, sa_I, nI_add, pk_mul, Nat.zero_add, nI_leI, nI_ltI, nI_eq, nI_neM, M_neI, nI_ltM, nI_nltM, M_ltI, M_leI, nI_nleM, bnd_some, if_pos, if_neg, dif_t, dif_f, q1 t hlt]
          refine hk hlt _ _ _ _ _ _ ⟨rfl, rfl, rfl, rfl, Or.inl ⟨rfl, rfl, fun c hc => ?_⟩⟩
          by_cases hct : c = t
          · rw [hct]; exact hp0
          · exact hz c (by omega)
        · simp (disch := omega) only [↓jM_e, li_0, li_1, li_2, li_3, li_4, li_5, li_6, li_7, li_8, li_9, li_10, li_13, li_14, li_15, li_16, li_31, li_35, li_47, li_48, li_49, li_50, li_57, li_99, li_100, li_126, li_139, li_140, li_149, li_150, li_280, li_284, li_285, li_290, li_434, li_1260, li_3472, li_9999, li_65536, nm, nm_w, sf_w, cp_w, ld_I, sa_I, nI_add, pk_mul, Nat.zero_add, nI_leI, nI_ltI, nI_eq, nI_neM, M_neI, nI_ltM, nI_nltM, M_ltI, M_leI, nI_nleM, bnd_some, if_pos, if_neg, dif_t, dif_f, q1 t hlt]
          refine hk hlt _ _ _ _ _ _ ⟨rfl, rfl, rfl, rfl, Or.inr ⟨t, rfl, rfl, by omega, by omega, fun c hc => ?_, fun c hc => by rw [hz c hc]; omega⟩⟩
          by_cases hct : c = t
          · rw [hct]; exact Nat.le_refl _
          · rw [hz c (by omega)]; omega
      · subst e1 e2
        have hpb := (hpa b (by omega)).2
        by_cases hle : paN W.1 t ≤ paN W.1 b
        · simp (disch := omega) only [↓jM_e, li_0, li_1, li_2, li_3, li_4, li_5, li_6, li_7, li_8, li_9, li_10, li_13, li_14, li_15, li_16, li_31, li_35, li_47, li_48, li_49, li_50, li_57, li_99, li_100, li_126, li_139, li_140, li_149, li_150, li_280, li_284, li_285, li_290, li_434, li_1260, li_3472, li_9999, li_65536, nm, nm_w, sf_w, cp_w, ld_I, sa_I, nI_add, pk_mul, Nat.zero_add, nI_leI, nI_ltI, nI_eq, nI_neM, M_neI, nI_ltM, nI_nltM, M_ltI, M_leI, nI_nleM, bnd_some, if_pos, if_neg, dif_t, dif_f, q1 t hlt]
          refine hk hlt _ _ _ _ _ _ ⟨rfl, rfl, rfl, rfl, Or.inr ⟨b, rfl, rfl, by omega, hp, fun c hc => ?_, h2⟩⟩
          by_cases hct : c = t
          · rw [hct]; exact hle
          · exact h1 c (by omega)
        · simp (disch := omega) only [↓jM_e, li_0, li_1, li_2, li_3, li_4, li_5, li_6, li_7, li_8, li_9, li_10, li_13, li_14, li_15, li_16, li_31, li_35, li_47, li_48, li_49, li_50, li_57, li_99, li_100, li_126, li_139, li_140, li_149, li_150, li_280, li_284, li_285, li_290, li_434, li_1260, li_3472, li_9999, li_65536, nm, nm_w, sf_w, cp_w, ld_I, sa_I, nI_add, pk_mul, Nat.zero_add, nI_leI, nI_ltI, nI_eq, nI_neM, M_neI, nI_ltM, nI_nltM, M_ltI, M_leI, nI_nleM, bnd_some, if_pos, if_neg, dif_t, dif_f, q1 t hlt]
          refine hk hlt _ _ _ _ _ _ ⟨rfl, rfl, rfl, rfl, Or.inr ⟨t, rfl, rfl, by omega, by omega, fun c hc => ?_, fun c hc => by have := h1 c hc; omega⟩⟩
          by_cases hct : c = t
          · rw [hct]; exact Nat.le_refl _
          · have := h1 c (by omega); omega
  have hmm : ∀ w : sV, RelM W.1 (w 158) → fX7_bottleneck K w = (if paN W.1 m = 0 then some (nI 0, s2 w 157 6 (nI 1)) else some (nI (100 * (m / 14) + m % 14), s2 w 157 6 (nI 0))) := by
    intro w hw
    have p1 : ∀ c, c < 140 → w 158 (140 + c) = nI (paN W.1 c) := fun c hc => (hw.2.1 c hc).trans (hpa c hc).1
    unfold fX7_bottleneck
    refine fx2_go (P := fun t x1 x2 => x2 = nI (t + 1) ∧ ∃ b, x1 = nI b ∧ b < t + 1 ∧ (∀ c, c < t + 1 → paN W.1 c ≤ paN W.1 b) ∧ ∀ c, c < b → paN W.1 c < paN W.1 b) (Q := fun o => o = (if paN W.1 m = 0 then some (nI 0, s2 w 157 6 (nI 1)) else some (nI (100 * (m / 14) + m % 14), s2 w 157 6 (nI 0)))) (N := 139) ?_ ⟨rfl, 0, rfl, by decide, fun c hc => by rw [show c = 0 by omega]; exact Nat.le_refl _, fun c hc => absurd hc (Nat.not_lt_zero c)⟩ (by omega)
    intro t x1 x2 ht ⟨e2, b, e1, hb, h1, h2⟩ k hk
    subst e1 e2
    have hpb := (hpa b (by omega)).2
    have hix : 140 + b < 434 := by omega
    unfold gX7_bottleneck_4
    by_cases ht1 : t = 139
    · subst ht1
      have := huq b hb h1 h2
      subst this
      unfold bX7_bottleneck_65
      by_cases hp0 : paN W.1 b = 0
      · rw [if_pos hp0]
        simp (disch := omega) only [↓jM_e, li_0, li_1, li_2, li_3, li_4, li_5, li_6, li_7, li_8, li_9, li_10, li_13, li_14, li_15, li_16, li_31, li_35, li_47, li_48, li_49, li_50, li_57, li_99, li_100, li_126, li_139, li_140, li_149, li_150, li_280, li_284, li_285, li_290, li_434, li_1260, li_3472, li_9999, li_65536, nm, nm_w, sf_w, cp_w, ld_I, sa_I, nI_add, pk_mul, Nat.zero_add, nI_leI, nI_ltI, nI_eq, nI_neM, M_neI, nI_ltM, nI_nltM, M_ltI, M_leI, nI_nleM, bnd_some, if_pos, if_neg, dif_t, dif_f, p1 b hb, s2_i]
      · rw [if_neg hp0]
        simp (disch := omega) only [↓jM_e, li_0, li_1, li_2, li_3, li_4, li_5, li_6, li_7, li_8, li_9, li_10, li_13, li_14, li_15, li_16, li_31, li_35, li_47, li_48, li_49, li_50, li_57, li_99, li_100, li_126, li_139, li_140, li_149, li_150, li_280, li_284, li_285, li_290, li_434, li_1260, li_3472, li_9999, li_65536, nm, nm_w, sf_w, cp_w, ld_I, sa_I, nI_add, pk_mul, Nat.zero_add, nI_leI, nI_ltI, nI_eq, nI_neM, M_neI, nI_ltM, nI_nltM, M_ltI, M_leI, nI_nleM, bnd_some, if_pos, if_neg, dif_t, dif_f, p1 b hb, s2_i, (co_M hb).1, (co_M hb).2]
    · have hlt : t < 139 := by omega
      have hpt := (hpa (t + 1) (by omega)).2
      have hix2 : 140 + (t + 1) < 434 := by omega
      by_cases hle : paN W.1 (t + 1) ≤ paN W.1 b
      · simp (disch := omega) only [↓jM_e, li_0, li_1, li_2, li_3, li_4, li_5, li_6, li_7, li_8, li_9, li_10, li_13, li_14, li_15, li_16, li_31, li_35, li_47, li_48, li_49, li_50, li_57, li_99, li_100, li_126, li_139, li_140, li_149, li_150, li_280, li_284, li_285, li_290, li_434, li_1260, li_3472, li_9999, li_65536, nm, nm_w, sf_w, cp_w, ld_I, sa_I, nI_add, pk_mul, Nat.zero_add, nI_leI, nI_ltI, nI_eq, nI_neM, M_neI, nI_ltM, nI_nltM, M_ltI, M_leI, nI_nleM, bnd_some, if_pos, if_neg, dif_t, dif_f, p1 (t + 1) (by omega), p1 b (by omega)]
        refine hk hlt _ _ ⟨rfl, b, rfl, by omega, fun c hc => ?_, h2⟩
        by_cases hct : c = t + 1
        · rw [hct]; exact hle
        · exact h1 c (by omega)
      · simp (disch := omega) only [↓jM_e, li_0, li_1, li_2, li_3, li_4, li_5, li_6, li_7, li_8, li_9, li_10, li_13, li_14, li_15, li_16, li_31, li_35, li_47, li_48, li_49, li_50, li_57, li_99, li_100, li_126, li_139, li_140, li_149, li_150, li_280, li_284, li_285, li_290, li_434, li_1260, li_3472, li_9999, li_65536, nm, nm_w, sf_w, cp_w, ld_I, sa_I, nI_add, pk_mul, Nat.zero_add, nI_leI, nI_ltI, nI_eq, nI_neM, M_neI, nI_ltM, nI_nltM, M_ltI, M_leI, nI_nleM, bnd_some, if_pos, if_neg, dif_t, dif_f, p1 (t + 1) (by omega), p1 b (by omega)]
        refine hk hlt _ _ ⟨rfl, t + 1, rfl, by omega, fun c hc => ?_, fun c hc => by have := h1 c hc; omega⟩
        by_cases hct : c = t + 1
        · rw [hct]; exact Nat.le_refl _
        · have := h1 c (by omega); omega
  by_cases hp0 : paN W.1 m = 0
  · refine fin_thr hC hM hI (code := 1) (z := nI 0) (x' := x) (by decide) ?_ (fun w hw => ?_)
    · unfold fL_bottleneck
      rw [hcl, if_pos hp0]
      rfl
    · rw [hmm w hw.1.1, if_pos hp0]
  · refine fin_rd hC hM hI (x' := ((nI (100 * (m / 14) + m % 14)).toInt64, x.2)) ?_ (fun w hw => ⟨nI (100 * (m / 14) + m % 14), ?_, rfl⟩)
    · unfold fL_bottleneck
      rw [hcl, if_neg hp0]
      rfl
    · rw [hmm w hw.1.1, if_neg hp0]
theorem a_2 (x1 x2 x3 : Int32) (hC : CW W r v n) (hM : MW W v) (hI : IW B W) (hK : 400000 < K) : OUT B (fL_setGoal K x1 x2 x3 r v n x) (fX7_setGoal K x1 x2 x3) PI n := by
  have hsh := hC.2.1.1
  by_cases hw1 : (x1 < nI 0 ∨ nI 4 ≤ x1) ∨ caI x2 x3 = jM
  · refine fin_thr hC hM hI (code := 1) (z := nI 0) (x' := x) (by decide) ?_ (fun w hw => ?_)
    · unfold fL_setGoal fX6_setGoal
      rcases arg_g x1 with hn | ⟨g, hg, rfl⟩
      · simp (disch := omega) only [↓jM_e, li_0, li_1, li_2, li_3, li_4, li_5, li_6, li_7, li_8, li_9, li_10, li_13, li_14, li_15, li_16, li_31, li_35, li_47, li_48, li_49, li_50, li_57, li_99, li_100, li_126, li_139, li_140, li_149, li_150, li_280, li_284, li_285, li_290, li_434, li_1260, li_3472, li_9999, li_65536, nm, nm_w, sf_w, cp_w, ld_I, sa_I, nI_add, pk_mul, Nat.zero_add, nI_leI, nI_ltI, nI_eq, nI_neM, M_neI, nI_ltM, nI_nltM, M_ltI, M_leI, nI_nleM, bnd_some, if_pos, if_neg, dif_t, dif_f, rG_n hn, acT_r]
        rfl
      · rcases hw1 with h | h
        · rcases h with h | h
          · exact absurd h (nI_pos (by omega))
          · exact absurd h (nI_ge hg (by decide))
        · simp (disch := omega) only [↓jM_e, li_0, li_1, li_2, li_3, li_4, li_5, li_6, li_7, li_8, li_9, li_10, li_13, li_14, li_15, li_16, li_31, li_35, li_47, li_48, li_49, li_50, li_57, li_99, li_100, li_126, li_139, li_140, li_149, li_150, li_280, li_284, li_285, li_290, li_434, li_1260, li_3472, li_9999, li_65536, nm, nm_w, sf_w, cp_w, ld_I, sa_I, nI_add, pk_mul, Nat.zero_add, nI_leI, nI_ltI, nI_eq, nI_neM, M_neI, nI_ltM, nI_nltM, M_ltI, M_leI, nI_nleM, bnd_some, if_pos, if_neg, dif_t, dif_f, rG_y hg, acT_l, acT_r, ck_i hsh, rq_C h]
          rfl
    · unfold fX7_setGoal bX7_setGoal_37
      rcases arg_g x1 with hn | ⟨g, hg, rfl⟩
      · simp (disch := omega) only [↓jM_e, li_0, li_1, li_2, li_3, li_4, li_5, li_6, li_7, li_8, li_9, li_10, li_13, li_14, li_15, li_16, li_31, li_35, li_47, li_48, li_49, li_50, li_57, li_99, li_100, li_126, li_139, li_140, li_149, li_150, li_280, li_284, li_285, li_290, li_434, li_1260, li_3472, li_9999, li_65536, nm, nm_w, sf_w, cp_w, ld_I, sa_I, nI_add, pk_mul, Nat.zero_add, nI_leI, nI_ltI, nI_eq, nI_neM, M_neI, nI_ltM, nI_nltM, M_ltI, M_leI, nI_nleM, bnd_some, if_pos, if_neg, dif_t, dif_f, iG_n hn, s2_i]
      · rcases hw1 with h | h
        · rcases h with h | h
          · exact absurd h (nI_pos (by omega))
          · exact absurd h (nI_ge hg (by decide))
        · simp (disch := omega) only [↓jM_e, li_0, li_1, li_2, li_3, li_4, li_5, li_6, li_7, li_8, li_9, li_10, li_13, li_14, li_15, li_16, li_31, li_35, li_47, li_48, li_49, li_50, li_57, li_99, li_100, li_126, li_139, li_140, li_149, li_150, li_280, li_284, li_285, li_290, li_434, li_1260, li_3472, li_9999, li_65536, nm, nm_w, sf_w, cp_w, ld_I, sa_I, nI_add, pk_mul, Nat.zero_add, nI_leI, nI_ltI, nI_eq, nI_neM, M_neI, nI_ltM, nI_nltM, M_ltI, M_leI, nI_nleM, bnd_some, if_pos, if_neg, dif_t, dif_f, iG_y hg, ic_M, if_pos h, s2_i]
  · have hcell : caI x2 x3 ≠ jM := fun e => hw1 (Or.inr e)
    rcases arg_g x1 with hn | ⟨g, hg, rfl⟩
    · exact absurd (Or.inl hn) hw1
    · obtain ⟨c, hc, ec⟩ := caI_c hcell
      have hcaM := ca_M hcell
      rw [ec] at hcaM
      have hcl := (hI.1.1 c hc).2
      by_cases h0 : coS W.1 c = 0
      · refine fin_thr hC hM hI (code := 2) (z := nI 0) (x' := x) (by decide) ?_ (fun w hw => ?_)
        · have e0 : v 2 c = nI (coS W.1 c) := (rc0 hC.1 hc).trans (hI.1.1 c hc).1
          unfold fL_setGoal fX6_setGoal
          simp (disch := omega) only [↓jM_e, li_0, li_1, li_2, li_3, li_4, li_5, li_6, li_7, li_8, li_9, li_10, li_13, li_14, li_15, li_16, li_31, li_35, li_47, li_48, li_49, li_50, li_57, li_99, li_100, li_126, li_139, li_140, li_149, li_150, li_280, li_284, li_285, li_290, li_434, li_1260, li_3472, li_9999, li_65536, nm, nm_w, sf_w, cp_w, ld_I, sa_I, nI_add, pk_mul, Nat.zero_add, nI_leI, nI_ltI, nI_eq, nI_neM, M_neI, nI_ltM, nI_nltM, M_ltI, M_leI, nI_nleM, bnd_some, if_pos, if_neg, dif_t, dif_f, rG_y hg, acT_l, ck_i hsh, rq_Cc hcell, ca_C, ec, e0]
          rfl
        · unfold fX7_setGoal bX7_setGoal_37
          simp (disch := omega) only [↓jM_e, li_0, li_1, li_2, li_3, li_4, li_5, li_6, li_7, li_8, li_9, li_10, li_13, li_14, li_15, li_16, li_31, li_35, li_47, li_48, li_49, li_50, li_57, li_99, li_100, li_126, li_139, li_140, li_149, li_150, li_280, li_284, li_285, li_290, li_434, li_1260, li_3472, li_9999, li_65536, nm, nm_w, sf_w, cp_w, ld_I, sa_I, nI_add, pk_mul, Nat.zero_add, nI_leI, nI_ltI, nI_eq, nI_neM, M_neI, nI_ltM, nI_nltM, M_ltI, M_leI, nI_nleM, bnd_some, if_pos, if_neg, dif_t, dif_f, iG_y hg, ic_M, if_neg hcell, hcaM, if_M hw.1.1 hI.1 hc, if_pos h0, s2_i]
      · have hiC : isC W.1 (nI c) := ⟨c, hc, rfl, h0⟩
        have hcoS : coS (s2 W.1 2 g (nI c)) = coS W.1 := coS_s2 (by decide)
        refine fin_ch (S' := s2 W.1 2 g (nI c)) (x' := ((nI (cnI (fun q => (dst (coS W.1) c q).isSome) 140)).toInt64, x.2)) hC hM hI (K := K) (by omega) (iS_2 hI.1 (Or.inr hiC)) (fun r1 v1 k1 e1 g1 => ?_) (fun w w1 hw e1 g1 q5 => ?_)
        · have hCW1 : CW (wS (wK W) (s2 W.1 2 g (nI c))) r1 (s2 v1 4 g (nI c)) (n + k1) := CW_w g1 (rcS (j := 2) g1.1 (by decide)) hcoS (fun p hp => s2_ne (by omega))
          have hI1 : IW B (wS (wK W) (s2 W.1 2 g (nI c))) := IW_S (IW_K hI) (iS_2 hI.1 (Or.inr hiC))
          obtain ⟨q, r', v', k, etw, t1, t2, t3, t4, t5, t6⟩ := tw_G (K := K) hCW1 hI1 hc (by show coS (s2 W.1 2 g (nI c)) c ≠ 0; rw [hcoS]; exact h0) (by omega)
          have t4' : ∀ q', q' < 140 → v' (q + 1) q' = oI (dst (coS W.1) c q') := fun q' hq' => by rw [t4 q' hq']; show oI (dst (coS (s2 W.1 2 g (nI c))) c q') = _; rw [hcoS]
          have t6' : isD (coS W.1) c (dst (coS W.1) c) := by
            have : isD (coS (s2 W.1 2 g (nI c))) c (dst (coS (s2 W.1 2 g (nI c))) c) := t6
            rw [hcoS] at this
            exact this
          have hac : ac (q, r', v', k) (n + k1) (fun y7 rr7 v7 n7 => ck (sSh rr7 ∧ okF rr7 n7 y7) ((fX1_reachedCells K y7 v7).bind (fun y8 => some ((Sum.inl y8 : Sum Int32 Nat), rr7, v7, 0)))) = some (Sum.inl (nI (cnI (fun q => (dst (coS W.1) c q).isSome) 140)), r', v', k + 0) := ac_v (by rw [ck_i ⟨t2.1, t3⟩, rd_C t4' (isD_ok t6') (by omega), bnd_some])
          refine ⟨r', v', k1 + (k + 0), ?_, ?_, fun p p1 p2 => by rw [t5 p p2 (by omega) (by omega), s2_ne (by omega)]⟩
          · have e0 : v 2 c = nI (coS W.1 c) := (rc0 hC.1 hc).trans (hI.1.1 c hc).1
            unfold fL_setGoal fX6_setGoal
            simp (disch := omega) only [↓jM_e, li_0, li_1, li_2, li_3, li_4, li_5, li_6, li_7, li_8, li_9, li_10, li_13, li_14, li_15, li_16, li_31, li_35, li_47, li_48, li_49, li_50, li_57, li_99, li_100, li_126, li_139, li_140, li_149, li_150, li_280, li_284, li_285, li_290, li_434, li_1260, li_3472, li_9999, li_65536, nm, nm_w, sf_w, cp_w, ld_I, sa_I, nI_add, pk_mul, Nat.zero_add, nI_leI, nI_ltI, nI_eq, nI_neM, M_neI, nI_ltM, nI_nltM, M_ltI, M_leI, nI_nleM, bnd_some, if_pos, if_neg, dif_t, dif_f, rG_y hg, acT_l, ck_i hsh, rq_Cc hcell, ca_C, ec, e0, e1, ck_i g1.2.1.1, etw, hac]
            rfl
          · rw [Nat.add_zero, ← Nat.add_assoc]
            exact CW_h hCW1 rfl t1 t2 (fun p hp => t5 p (by omega) (by omega) (by omega))
        · have hm : mI (s2 W.1 2 g (nI c)) (s2 w1 158 (280 + g) (nI c)) := mI_s2 g1.1 hcoS (rmU2 g1.1.1 hg)
          have hI1 : iS B (s2 W.1 2 g (nI c)) := iS_2 hI.1 (Or.inr hiC)
          have hix : 280 + g < 434 := by omega
          have h0' : coS (s2 W.1 2 g (nI c)) c ≠ 0 := by rw [hcoS]; exact h0
          have hloop : ∃ w2, fx3 (gX7_setGoal_78 K (nI c)) K (nI 0) (nI 0) (s2 w1 158 (280 + g) (nI c)) = some (nI (cnI (fun q => (dst (coS W.1) c q).isSome) 140), w2) ∧ mI (s2 W.1 2 g (nI c)) w2 ∧ frM (s2 w1 158 (280 + g) (nI c)) w2 := by
            refine fx3_go (P := fun t x5 x6 w => x6 = nI t ∧ x5 = nI (cnI (fun q => (dst (coS W.1) c q).isSome) t) ∧ mI (s2 W.1 2 g (nI c)) w ∧ frM (s2 w1 158 (280 + g) (nI c)) w) (Q := fun o => ∃ w2, o = some (nI (cnI (fun q => (dst (coS W.1) c q).isSome) 140), w2) ∧ mI (s2 W.1 2 g (nI c)) w2 ∧ frM (s2 w1 158 (280 + g) (nI c)) w2) (N := 140) ?_ ⟨rfl, rfl, hm, frM.rf⟩ (by omega)
            intro t x5 x6 w' ht ⟨e6, e5, h1, h2⟩ k hk
            subst e5 e6
            unfold gX7_setGoal_78
            by_cases ht1 : t = 140
            · subst ht1
              simp (disch := omega) only [↓jM_e, li_0, li_1, li_2, li_3, li_4, li_5, li_6, li_7, li_8, li_9, li_10, li_13, li_14, li_15, li_16, li_31, li_35, li_47, li_48, li_49, li_50, li_57, li_99, li_100, li_126, li_139, li_140, li_149, li_150, li_280, li_284, li_285, li_290, li_434, li_1260, li_3472, li_9999, li_65536, nm, nm_w, sf_w, cp_w, ld_I, sa_I, nI_add, pk_mul, Nat.zero_add, nI_leI, nI_ltI, nI_eq, nI_neM, M_neI, nI_ltM, nI_nltM, M_ltI, M_leI, nI_nleM, bnd_some, if_pos, if_neg, dif_t, dif_f]
              exact ⟨w', rfl, h1, h2⟩
            · have hlt : t < 140 := by omega
              have hs : cnI (fun q => (dst (coS W.1) c q).isSome) (t + 1) = cnI (fun q => (dst (coS W.1) c q).isSome) t + (if (dst (coS W.1) c t).isSome = true then 1 else 0) := rfl
              obtain ⟨w2, f1, f2, f3, f4⟩ := far_M hI1 h1 hc h0' hlt hK
              rw [hcoS] at f1 f4
              cases hd : dst (coS W.1) c t with
              | none =>
                rw [hd] at f1 hs
                simp (disch := omega) only [↓jM_e, li_0, li_1, li_2, li_3, li_4, li_5, li_6, li_7, li_8, li_9, li_10, li_13, li_14, li_15, li_16, li_31, li_35, li_47, li_48, li_49, li_50, li_57, li_99, li_100, li_126, li_139, li_140, li_149, li_150, li_280, li_284, li_285, li_290, li_434, li_1260, li_3472, li_9999, li_65536, nm, nm_w, sf_w, cp_w, ld_I, sa_I, nI_add, pk_mul, Nat.zero_add, nI_leI, nI_ltI, nI_eq, nI_neM, M_neI, nI_ltM, nI_nltM, M_ltI, M_leI, nI_nleM, bnd_some, if_pos, if_neg, dif_t, dif_f, f1, oI, show (jM < nI 0) = True from by decide]
                exact hk hlt _ _ _ ⟨rfl, by rw [hs]; rfl, f2, h2.trans f3⟩
              | some kd =>
                have hkd := isD_ok f4 t hlt kd hd
                rw [hd] at f1 hs
                simp (disch := omega) only [↓jM_e, li_0, li_1, li_2, li_3, li_4, li_5, li_6, li_7, li_8, li_9, li_10, li_13, li_14, li_15, li_16, li_31, li_35, li_47, li_48, li_49, li_50, li_57, li_99, li_100, li_126, li_139, li_140, li_149, li_150, li_280, li_284, li_285, li_290, li_434, li_1260, li_3472, li_9999, li_65536, nm, nm_w, sf_w, cp_w, ld_I, sa_I, nI_add, pk_mul, Nat.zero_add, nI_leI, nI_ltI, nI_eq, nI_neM, M_neI, nI_ltM, nI_nltM, M_ltI, M_leI, nI_nleM, bnd_some, if_pos, if_neg, dif_t, dif_f, f1, oI]
                exact hk hlt _ _ _ ⟨rfl, by rw [hs]; rfl, f2, h2.trans f3⟩
          obtain ⟨w2, el, t1, t2⟩ := hloop
          unfold fX7_setGoal bX7_setGoal_37
          simp (disch := omega) only [↓jM_e, li_0, li_1, li_2, li_3, li_4, li_5, li_6, li_7, li_8, li_9, li_10, li_13, li_14, li_15, li_16, li_31, li_35, li_47, li_48, li_49, li_50, li_57, li_99, li_100, li_126, li_139, li_140, li_149, li_150, li_280, li_284, li_285, li_290, li_434, li_1260, li_3472, li_9999, li_65536, nm, nm_w, sf_w, cp_w, ld_I, sa_I, nI_add, pk_mul, Nat.zero_add, nI_leI, nI_ltI, nI_eq, nI_neM, M_neI, nI_ltM, nI_nltM, M_ltI, M_leI, nI_nleM, bnd_some, if_pos, if_neg, dif_t, dif_f, iG_y hg, ic_M, if_neg hcell, hcaM, if_M hw.1.1 hI.1 hc, if_neg h0, s2_i, e1, el]
          exact ⟨_, _, rfl, rfl, t1, frN_s2.trans t2.N⟩
end
