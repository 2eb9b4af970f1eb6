section
variable {S : aS} {B K : Nat} {v : sV} {pu had : Nat → Bool}
set_option maxHeartbeats 1000000 in
theorem dt_M (hI : iS B S) (h : mI S v) {a c t k : Nat} (ha : a < 16) (ec : S 3 a = nI c) (hc : c < 140) (ht : t < 140) (h0 : coS S t ≠ 0) (hk : k ≤ 1251) (hK : 400000 < K) :
    ∃ v', fX7_detour K (nI a) (nI t) (nI k) v = some (oI (bfS S (dst (coS S) t) c 4 0 none (k + 3)), v') ∧ mI S v' ∧ frM v v' := by
  have hx : S 3 a ≠ jM := by rw [ec, ne_eq, nI_neM (by omega)]; exact id
  have hok := isD_ok (okT_M hI h hK t ht h0)
  unfold fX7_detour
  simp (disch := omega) only [↓jM_e, li_0, li_1, li_2, li_3, li_4, li_5, li_6, li_7, li_8, li_9, li_10, li_13, li_14, li_15, li_16, li_31, li_35, li_47, li_48, li_49, li_50, li_57, li_99, li_100, li_126, li_139, li_140, li_149, li_150, li_280, li_284, li_285, li_290, li_434, li_1260, li_3472, li_9999, li_65536, nm, nm_w, sf_w, cp_w, ld_I, sa_I, nI_add, pk_mul, Nat.zero_add, nI_leI, nI_ltI, nI_eq, nI_neM, M_neI, nI_ltM, nI_nltM, M_ltI, M_leI, nI_nleM, bnd_some, if_pos, if_neg, dif_t, dif_f]
  refine fx4_go (P := fun e x4 x5 x6 w => x6 = nI e ∧ ∃ best L, x4 = oI best ∧ x5 = nI L ∧ L ≤ 1254 ∧ bfS S (dst (coS S) t) c (4 - e) e best L = bfS S (dst (coS S) t) c 4 0 none (k + 3) ∧ mI S w ∧ frM v w) (Q := fun o => ∃ v', o = some (oI (bfS S (dst (coS S) t) c 4 0 none (k + 3)), v') ∧ mI S v' ∧ frM v v') (N := 4) ?_ ⟨rfl, none, k + 3, rfl, rfl, by omega, rfl, h, frM.rf⟩ (by omega)
  intro e x4 x5 x6 w he ⟨e6, best, L, e4, e5, hL, hs, hw, fw⟩ k11 hkk
  subst e6 e4 e5
  have r1 : w 158 (290 + 9 * a + 1) = nI c := (rm hw.1 ha hx).1.trans ec
  unfold gX7_detour_11
  by_cases he4 : e = 4
  · subst he4
    rw [← hs]
    simp (disch := omega) only [↓jM_e, li_0, li_1, li_2, li_3, li_4, li_5, li_6, li_7, li_8, li_9, li_10, li_13, li_14, li_15, li_16, li_31, li_35, li_47, li_48, li_49, li_50, li_57, li_99, li_100, li_126, li_139, li_140, li_149, li_150, li_280, li_284, li_285, li_290, li_434, li_1260, li_3472, li_9999, li_65536, nm, nm_w, sf_w, cp_w, ld_I, sa_I, nI_add, pk_mul, Nat.zero_add, nI_leI, nI_ltI, nI_eq, nI_neM, M_neI, nI_ltM, nI_nltM, M_ltI, M_leI, nI_nleM, bnd_some, if_pos, if_neg, dif_t, dif_f]
    exact ⟨w, rfl, hw, fw⟩
  · have hlt : e < 4 := by omega
    rw [show 4 - e = (4 - (e + 1)) + 1 by omega] at hs
    cases hn : nbO c e with
    | none =>
      rw [bfS_n hn] at hs
      simp (disch := omega) only [↓jM_e, li_0, li_1, li_2, li_3, li_4, li_5, li_6, li_7, li_8, li_9, li_10, li_13, li_14, li_15, li_16, li_31, li_35, li_47, li_48, li_49, li_50, li_57, li_99, li_100, li_126, li_139, li_140, li_149, li_150, li_280, li_284, li_285, li_290, li_434, li_1260, li_3472, li_9999, li_65536, nm, nm_w, sf_w, cp_w, ld_I, sa_I, nI_add, pk_mul, Nat.zero_add, nI_leI, nI_ltI, nI_eq, nI_neM, M_neI, nI_ltM, nI_nltM, M_ltI, M_leI, nI_nleM, bnd_some, if_pos, if_neg, dif_t, dif_f, at_M ha (show 1 < 9 by decide), r1, nb_M hc hlt, hn, oI, ie_MM]
      exact hkk hlt _ _ _ _ ⟨rfl, best, L, rfl, rfl, hL, hs, hw, fw⟩
    | some q =>
      have hq2 := nb_lt hc hn
      by_cases hfr : frS S q = true
      · obtain ⟨w2, e2, h2, f2, -⟩ := far_M hI hw ht h0 hq2 hK
        obtain ⟨w3, e3, h3, f3, -⟩ := far_M hI h2 ht h0 hq2 hK
        obtain ⟨w4, e4, h4, f4, -⟩ := far_M hI h3 ht h0 hq2 hK
        cases hdq : dst (coS S) t q with
        | none =>
          rw [hdq] at e2
          rw [bfS_f hn (by rw [hdq]; exact fun g => by have := g.2; simp only [Option.getD_none] at this; omega)] at hs
          simp (disch := omega) only [↓jM_e, li_0, li_1, li_2, li_3, li_4, li_5, li_6, li_7, li_8, li_9, li_10, li_13, li_14, li_15, li_16, li_31, li_35, li_47, li_48, li_49, li_50, li_57, li_99, li_100, li_126, li_139, li_140, li_149, li_150, li_280, li_284, li_285, li_290, li_434, li_1260, li_3472, li_9999, li_65536, nm, nm_w, sf_w, cp_w, ld_I, sa_I, nI_add, pk_mul, Nat.zero_add, nI_leI, nI_ltI, nI_eq, nI_neM, M_neI, nI_ltM, nI_nltM, M_ltI, M_leI, nI_nleM, bnd_some, if_pos, if_neg, dif_t, dif_f, at_M ha (show 1 < 9 by decide), r1, nb_M hc hlt, hn, oI, ie_M hw.1 hI hq2 (show 16 < K by omega), if_pos hfr, e2, show (jM < nI 0) = True from by decide]
          exact hkk hlt _ _ _ _ ⟨rfl, best, L, rfl, rfl, hL, hs, h2, fw.trans f2⟩
        | some kd =>
          have hkd := hok q hq2 kd hdq
          rw [hdq] at e2 e3 e4
          by_cases hlk : L ≤ kd
          · rw [bfS_f hn (by rw [hdq]; exact fun g => by have := g.2; simp only [Option.getD_some] at this; omega)] at hs
            simp (disch := omega) only [↓jM_e, li_0, li_1, li_2, li_3, li_4, li_5, li_6, li_7, li_8, li_9, li_10, li_13, li_14, li_15, li_16, li_31, li_35, li_47, li_48, li_49, li_50, li_57, li_99, li_100, li_126, li_139, li_140, li_149, li_150, li_280, li_284, li_285, li_290, li_434, li_1260, li_3472, li_9999, li_65536, nm, nm_w, sf_w, cp_w, ld_I, sa_I, nI_add, pk_mul, Nat.zero_add, nI_leI, nI_ltI, nI_eq, nI_neM, M_neI, nI_ltM, nI_nltM, M_ltI, M_leI, nI_nleM, bnd_some, if_pos, if_neg, dif_t, dif_f, at_M ha (show 1 < 9 by decide), r1, nb_M hc hlt, hn, oI, ie_M hw.1 hI hq2 (show 16 < K by omega), if_pos hfr, e2, e3]
            exact hkk hlt _ _ _ _ ⟨rfl, best, L, rfl, rfl, hL, hs, h3, (fw.trans f2).trans f3⟩
          · rw [bfS_t hn hfr (by rw [hdq]; show kd < L; omega), hdq] at hs
            have hs : bfS S (dst (coS S) t) c (4 - (e + 1)) (e + 1) (some e) kd = bfS S (dst (coS S) t) c 4 0 none (k + 3) := hs
            simp (disch := omega) only [↓jM_e, li_0, li_1, li_2, li_3, li_4, li_5, li_6, li_7, li_8, li_9, li_10, li_13, li_14, li_15, li_16, li_31, li_35, li_47, li_48, li_49, li_50, li_57, li_99, li_100, li_126, li_139, li_140, li_149, li_150, li_280, li_284, li_285, li_290, li_434, li_1260, li_3472, li_9999, li_65536, nm, nm_w, sf_w, cp_w, ld_I, sa_I, nI_add, pk_mul, Nat.zero_add, nI_leI, nI_ltI, nI_eq, nI_neM, M_neI, nI_ltM, nI_nltM, M_ltI, M_leI, nI_nleM, bnd_some, if_pos, if_neg, dif_t, dif_f, at_M ha (show 1 < 9 by decide), r1, nb_M hc hlt, hn, oI, ie_M hw.1 hI hq2 (show 16 < K by omega), if_pos hfr, e2, e3, e4]
            exact hkk hlt _ _ _ _ ⟨rfl, some e, kd, rfl, rfl, by omega, hs, h4, ((fw.trans f2).trans f3).trans f4⟩
      · rw [bfS_f hn (fun g => hfr g.1)] at hs
        simp (disch := omega) only [↓jM_e, li_0, li_1, li_2, li_3, li_4, li_5, li_6, li_7, li_8, li_9, li_10, li_13, li_14, li_15, li_16, li_31, li_35, li_47, li_48, li_49, li_50, li_57, li_99, li_100, li_126, li_139, li_140, li_149, li_150, li_280, li_284, li_285, li_290, li_434, li_1260, li_3472, li_9999, li_65536, nm, nm_w, sf_w, cp_w, ld_I, sa_I, nI_add, pk_mul, Nat.zero_add, nI_leI, nI_ltI, nI_eq, nI_neM, M_neI, nI_ltM, nI_nltM, M_ltI, M_leI, nI_nleM, bnd_some, if_pos, if_neg, dif_t, dif_f, at_M ha (show 1 < 9 by decide), r1, nb_M hc hlt, hn, oI, ie_M hw.1 hI hq2 (show 16 < K by omega), if_neg hfr]
        exact hkk hlt _ _ _ _ ⟨rfl, best, L, rfl, rfl, hL, hs, hw, fw⟩
/-- the way is barred -/
theorem fail_M (hI : iS B S) (h : mI S v) {a c t k : Nat} (ha : a < 16) (ec : S 3 a = nI c) (hc : c < 140) (ht : t < 140) (et : tgS S a = nI t) (h0 : coS S t ≠ 0) (hk : dst (coS S) t c = some k) (hK : 400000 < K) :
    ∃ v', bX7_turns_159 K (nI a) (nI t) (nI k) v = some v' ∧ mI (failS S a) v' ∧ frN v v' := by
  have hx : S 3 a ≠ jM := by rw [ec, ne_eq, nI_neM (by omega)]; exact id
  have hkl := isD_ok (okT_M hI h hK t ht h0) c hc k hk
  have epc : pcS S a = c := by unfold pcS; rw [ec]; exact clI_n (by omega)
  have eDA : DA S a = dst (coS S) t := by unfold DA; rw [et, DT_I ht]
  have r5 := (rm h.1 ha hx).2.2.2.2.1
  have r12 := h.1.2.2.2.1
  have hlt : (S 7 a < S 12 0) = ¬ S 12 0 ≤ S 7 a := propext Int32.not_le.symm
  have h284 : (284 : Nat) < 434 := by decide
  unfold bX7_turns_159
  by_cases hw : S 12 0 ≤ S 7 a
  · have hd : detS S a = bfS S (dst (coS S) t) c 4 0 none (k + 3) := by
      unfold detS
      rw [if_pos hw, epc, eDA, hk]
      rfl
    obtain ⟨v1, e1, h1, f1⟩ := dt_M hI h ha ec hc ht h0 hkl hK
    rw [← hd] at e1
    have nlt : ¬ S 7 a < S 12 0 := by rw [hlt]; exact fun g => g hw
    unfold bX7_turns_187
    cases hde : detS S a with
    | none =>
      rw [hde] at e1
      rw [failS_0 hde]
      obtain ⟨v2, e2, h2, f2⟩ := wt_M h1 ha hx
      simp (disch := omega) only [↓jM_e, li_0, li_1, li_2, li_3, li_4, li_5, li_6, li_7, li_8, li_9, li_10, li_13, li_14, li_15, li_16, li_31, li_35, li_47, li_48, li_49, li_50, li_57, li_99, li_100, li_126, li_139, li_140, li_149, li_150, li_280, li_284, li_285, li_290, li_434, li_1260, li_3472, li_9999, li_65536, nm, nm_w, sf_w, cp_w, ld_I, sa_I, nI_add, pk_mul, Nat.zero_add, nI_leI, nI_ltI, nI_eq, nI_neM, M_neI, nI_ltM, nI_nltM, M_ltI, M_leI, nI_nleM, bnd_some, if_pos, if_neg, dif_t, dif_f, at_M ha (show 5 < 9 by decide), r5, r12, if_neg nlt, e1, oI, show (nI 0 ≤ jM) = False from by decide, e2]
      exact ⟨v2, rfl, h2, f1.N.trans f2⟩
    | some e =>
      rw [hde] at e1
      rw [failS_1 hde]
      obtain ⟨he, q, hq, hfr⟩ := detS_v hde
      rw [epc] at hq
      obtain ⟨v2, e2, h2, f2⟩ := ms_M h1 ha ec hc he hq
      have e11 : adS S a e q 11 3 = S 11 3 := by
        unfold adS
        rw [s2_j (by decide), s2_p (by decide), shS_r (by decide)]
      have ep : v2 158 288 = S 11 3 := (h2.1.2.2.2.2.1 3 (by decide)).trans e11
      have h3 := st_285 h2 (i := 3) (by decide)
      rw [e11] at h3
      simp (disch := omega) only [↓jM_e, li_0, li_1, li_2, li_3, li_4, li_5, li_6, li_7, li_8, li_9, li_10, li_13, li_14, li_15, li_16, li_31, li_35, li_47, li_48, li_49, li_50, li_57, li_99, li_100, li_126, li_139, li_140, li_149, li_150, li_280, li_284, li_285, li_290, li_434, li_1260, li_3472, li_9999, li_65536, nm, nm_w, sf_w, cp_w, ld_I, sa_I, nI_add, pk_mul, Nat.zero_add, nI_leI, nI_ltI, nI_eq, nI_neM, M_neI, nI_ltM, nI_nltM, M_ltI, M_leI, nI_nleM, bnd_some, if_pos, if_neg, dif_t, dif_f, at_M ha (show 5 < 9 by decide), r5, r12, if_neg nlt, e1, oI, e2, show (288 : Int32) = nI 288 from rfl, ep]
      refine ⟨_, rfl, ?_, (f1.N.trans f2).trans frN_s2⟩
      unfold dtS
      rw [epc, nbG_e hq]
      exact h3
  · have hd : detS S a = none := if_neg hw
    have hlt2 : S 7 a < S 12 0 := by rw [hlt]; exact hw
    rw [failS_0 hd]
    obtain ⟨v2, e2, h2, f2⟩ := wt_M h ha hx
    unfold bX7_turns_187
    simp (disch := omega) only [↓jM_e, li_0, li_1, li_2, li_3, li_4, li_5, li_6, li_7, li_8, li_9, li_10, li_13, li_14, li_15, li_16, li_31, li_35, li_47, li_48, li_49, li_50, li_57, li_99, li_100, li_126, li_139, li_140, li_149, li_150, li_280, li_284, li_285, li_290, li_434, li_1260, li_3472, li_9999, li_65536, nm, nm_w, sf_w, cp_w, ld_I, sa_I, nI_add, pk_mul, Nat.zero_add, nI_leI, nI_ltI, nI_eq, nI_neM, M_neI, nI_ltM, nI_nltM, M_ltI, M_leI, nI_nleM, bnd_some, if_pos, if_neg, dif_t, dif_f, at_M ha (show 5 < 9 by decide), r5, r12, if_pos hlt2, show (nI 0 ≤ jM) = False from by decide, e2]
    exact ⟨v2, rfl, h2, f2⟩
set_option maxHeartbeats 4000000 in
theorem tr_M (hI : iS B S) (h : mI S v) (hp : puM v pu) (hh : ∀ i, i < 16 → v 166 i = if had i = true then nI 1 else nI 0) {a : Nat} (ha : a < 16) (hx : S 3 a ≠ jM) (hhad : ∀ o, o < 16 → S 3 o ≠ jM → ¬ S 5 a ≤ S 5 o → had o = false) (hK : 400000 < K) :
    ∃ v', fX7_turns K (nI a) v = some v' ∧ mI (tkS S pu a).1 v' ∧ puM v' (tkS S pu a).2 ∧ frK v v' := by
  obtain ⟨c, hcc, ec, hcc0⟩ := (hI.2.2.1 a ha).resolve_left hx
  have epc : pcS S a = c := by unfold pcS; rw [ec]; exact clI_n (by omega)
  have hse := se_M h.1 hI ha hx
  unfold fX7_turns
  by_cases hs : seS S a = true
  · rw [tkS_s hs]
    have h2 : mI (s2 S 7 a (nI 0)) (s2 v 158 (290 + 9 * a + 5) (nI 0)) := mI_s2 h rfl (rmUa (k := 5) h.1 ha (by decide) hx (fun e => by cases e) (fun e => by cases e))
    simp (disch := omega) only [↓jM_e, li_0, li_1, li_2, li_3, li_4, li_5, li_6, li_7, li_8, li_9, li_10, li_13, li_14, li_15, li_16, li_31, li_35, li_47, li_48, li_49, li_50, li_57, li_99, li_100, li_126, li_139, li_140, li_149, li_150, li_280, li_284, li_285, li_290, li_434, li_1260, li_3472, li_9999, li_65536, nm, nm_w, sf_w, cp_w, ld_I, sa_I, nI_add, pk_mul, Nat.zero_add, nI_leI, nI_ltI, nI_eq, nI_neM, M_neI, nI_ltM, nI_nltM, M_ltI, M_leI, nI_nleM, bnd_some, if_pos, if_neg, dif_t, dif_f, hse, if_pos hs, pt_M ha (show 5 < 9 by decide)]
    exact ⟨_, rfl, h2, puM_N hp frN_s2, frN_s2.kk⟩
  · have hpa := hp a ha
    by_cases hpu : pu a = true
    · rw [tkS_p hs hpu]
      rw [if_pos hpu] at hpa
      simp (disch := omega) only [↓jM_e, li_0, li_1, li_2, li_3, li_4, li_5, li_6, li_7, li_8, li_9, li_10, li_13, li_14, li_15, li_16, li_31, li_35, li_47, li_48, li_49, li_50, li_57, li_99, li_100, li_126, li_139, li_140, li_149, li_150, li_280, li_284, li_285, li_290, li_434, li_1260, li_3472, li_9999, li_65536, nm, nm_w, sf_w, cp_w, ld_I, sa_I, nI_add, pk_mul, Nat.zero_add, nI_leI, nI_ltI, nI_eq, nI_neM, M_neI, nI_ltM, nI_nltM, M_ltI, M_leI, nI_nleM, bnd_some, if_pos, if_neg, dif_t, dif_f, hse, if_neg hs, hpa]
      exact ⟨_, rfl, h, hp, frM.rf.kk⟩
    · rw [if_neg hpu] at hpa
      have ht0 : tgS S a ≠ jM ∧ tgS S a ≠ S 3 a := by
        unfold seS at hs
        simp only [Bool.or_eq_true, decide_eq_true_eq, not_or] at hs
        exact hs
      obtain ⟨t, ht, et, h0⟩ := (tgS_v hI ha hx).resolve_left ht0.1
      have htc : c ≠ t := by
        intro e
        rw [e] at ec
        exact ht0.2 (et.trans ec.symm)
      have eDA : DA S a = dst (coS S) t := by unfold DA; rw [et, DT_I ht]
      have hDt := okT_M hI h hK t ht h0
      have r1 : v 158 (290 + 9 * a + 1) = nI c := (rm h.1 ha hx).1.trans ec
      obtain ⟨v1, e1, h1, f1, -⟩ := far_M hI h ht h0 hcc hK
      have hp1 := puM_N hp f1.N
      cases hDc : dst (coS S) t c with
      | none =>
        have hfl : flS (coS S) (DA S a) (pcS S a) = none := by
          unfold flS
          rw [eDA, epc, hDc]
        rw [tkS_0 hs hpu hfl]
        rw [hDc] at e1
        obtain ⟨v2, e2, h2, f2⟩ := wt_M h1 ha hx
        simp (disch := omega) only [↓jM_e, li_0, li_1, li_2, li_3, li_4, li_5, li_6, li_7, li_8, li_9, li_10, li_13, li_14, li_15, li_16, li_31, li_35, li_47, li_48, li_49, li_50, li_57, li_99, li_100, li_126, li_139, li_140, li_149, li_150, li_280, li_284, li_285, li_290, li_434, li_1260, li_3472, li_9999, li_65536, nm, nm_w, sf_w, cp_w, ld_I, sa_I, nI_add, pk_mul, Nat.zero_add, nI_leI, nI_ltI, nI_eq, nI_neM, M_neI, nI_ltM, nI_nltM, M_ltI, M_leI, nI_nleM, bnd_some, if_pos, if_neg, dif_t, dif_f, hse, if_neg hs, hpa, tg_M h.1 hI ha hx, et, at_M ha (show 1 < 9 by decide), r1, e1, oI, show (nI 0 ≤ jM) = False from by decide, e2]
        exact ⟨_, rfl, h2, puM_N hp1 f2, (f1.N.trans f2).kk⟩
      | some k =>
        rw [hDc] at e1
        have hkl := (hDt.2.1 c hcc k hDc).2
        cases k with
        | zero => exact absurd (isD_0 hDt hcc hDc) htc
        | succ k =>
          obtain ⟨d, q, k', hfl, hd4, hq, hq2, hk', hsum, hq0⟩ := flS_some hDt hcc hDc
          have hfl' : flS (coS S) (DA S a) (pcS S a) = some d := by rw [eDA, epc]; exact hfl
          have enb : nbG (pcS S a) d = q := by rw [epc]; exact nbG_e hq
          obtain ⟨v2, e2, h2, f2⟩ := fl_M hI h1 ht h0 hcc hK
          rw [hfl] at e2
          have f12 := f1.trans f2
          have hp2 := puM_N hp f12.N
          have r1' : v1 158 (290 + 9 * a + 1) = nI c := (rm h1.1 ha hx).1.trans ec
          have r2' : v2 158 (290 + 9 * a + 1) = nI c := (rm h2.1 ha hx).1.trans ec
          have hag := ag_M h2.1 hq2 (show 16 < K by omega)
          cases hao : agOn S q with
          | none =>
            rw [hao] at hag
            rw [tkS_1 hs hpu hfl' (by rw [enb]; exact hao), enb]
            obtain ⟨v3, e3, h3, f3⟩ := ms_M h2 ha ec hcc hd4 hq
            unfold bX7_turns_130
            simp (disch := omega) only [↓jM_e, li_0, li_1, li_2, li_3, li_4, li_5, li_6, li_7, li_8, li_9, li_10, li_13, li_14, li_15, li_16, li_31, li_35, li_47, li_48, li_49, li_50, li_57, li_99, li_100, li_126, li_139, li_140, li_149, li_150, li_280, li_284, li_285, li_290, li_434, li_1260, li_3472, li_9999, li_65536, nm, nm_w, sf_w, cp_w, ld_I, sa_I, nI_add, pk_mul, Nat.zero_add, nI_leI, nI_ltI, nI_eq, nI_neM, M_neI, nI_ltM, nI_nltM, M_ltI, M_leI, nI_nleM, bnd_some, if_pos, if_neg, dif_t, dif_f, hse, if_neg hs, hpa, tg_M h.1 hI ha hx, et, at_M ha (show 1 < 9 by decide), r1, e1, oI, r1', e2, r2', nb_M hcc hd4, hq, hag, show (jM < nI 0) = True from by decide, e3]
            exact ⟨_, rfl, h3, puM_N hp2 f3, (f12.N.trans f3).kk⟩
          | some o =>
            rw [hao] at hag
            obtain ⟨ho, eo⟩ := agOn_lt hao
            have hox : S 3 o ≠ jM := by rw [eo, ne_eq, nI_neM (by omega)]; exact id
            have hoa : a ≠ o := by
              intro e
              rw [← e, ec, nI_eq (by omega) (by omega)] at eo
              exact nb_ne hq eo.symm
            have r3o := (rm h2.1 ho hox).2.2.1
            have r3a := (rm h2.1 ha hx).2.2.1
            obtain ⟨v4, e4, h4, f4⟩ := fail_M hI h2 ha ec hcc ht et h0 hDc hK
            by_cases h5 : S 5 a ≤ S 5 o
            · have hps : pushS S pu a o = none := if_neg (fun g => g.1 h5)
              rw [tkS_3 hs hpu hfl' (by rw [enb]; exact hao) hps]
              unfold bX7_turns_130
              simp (disch := omega) only [↓jM_e, li_0, li_1, li_2, li_3, li_4, li_5, li_6, li_7, li_8, li_9, li_10, li_13, li_14, li_15, li_16, li_31, li_35, li_47, li_48, li_49, li_50, li_57, li_99, li_100, li_126, li_139, li_140, li_149, li_150, li_280, li_284, li_285, li_290, li_434, li_1260, li_3472, li_9999, li_65536, nm, nm_w, sf_w, cp_w, ld_I, sa_I, nI_add, pk_mul, Nat.zero_add, nI_leI, nI_ltI, nI_eq, nI_neM, M_neI, nI_ltM, nI_nltM, M_ltI, M_leI, nI_nleM, bnd_some, if_pos, if_neg, dif_t, dif_f, hse, if_neg hs, hpa, tg_M h.1 hI ha hx, et, at_M ha (show 1 < 9 by decide), r1, e1, oI, r1', e2, r2', nb_M hcc hd4, hq, hag, at_M ho (show 3 < 9 by decide), at_M ha (show 3 < 9 by decide), r3o, r3a, if_pos h5, e4]
              exact ⟨_, rfl, h4, puM_N hp2 f4, (f12.N.trans f4).kk⟩
            · have e166 : v2 166 o = nI 0 := by
                rw [f12 166 (by decide) (by decide) (by decide) (by decide), hh o ho, hhad o ho hox h5]
                rfl
              have e167 := hp2 o ho
              cases hpo : pu o with
              | true =>
                have hps : pushS S pu a o = none := if_neg (fun g => by rw [hpo] at g; cases g.2)
                rw [hpo, if_pos rfl] at e167
                rw [tkS_3 hs hpu hfl' (by rw [enb]; exact hao) hps]
                unfold bX7_turns_130
                simp (disch := omega) only [↓jM_e, li_0, li_1, li_2, li_3, li_4, li_5, li_6, li_7, li_8, li_9, li_10, li_13, li_14, li_15, li_16, li_31, li_35, li_47, li_48, li_49, li_50, li_57, li_99, li_100, li_126, li_139, li_140, li_149, li_150, li_280, li_284, li_285, li_290, li_434, li_1260, li_3472, li_9999, li_65536, nm, nm_w, sf_w, cp_w, ld_I, sa_I, nI_add, pk_mul, Nat.zero_add, nI_leI, nI_ltI, nI_eq, nI_neM, M_neI, nI_ltM, nI_nltM, M_ltI, M_leI, nI_nleM, bnd_some, if_pos, if_neg, dif_t, dif_f, hse, if_neg hs, hpa, tg_M h.1 hI ha hx, et, at_M ha (show 1 < 9 by decide), r1, e1, oI, r1', e2, r2', nb_M hcc hd4, hq, hag, at_M ho (show 3 < 9 by decide), at_M ha (show 3 < 9 by decide), r3o, r3a, if_neg h5, e166, e167, e4]
                exact ⟨_, rfl, h4, puM_N hp2 f4, (f12.N.trans f4).kk⟩
              | false =>
                have hps : pushS S pu a o = bfS S (DA S o) (pcS S o) 4 0 none 10000 := if_pos ⟨h5, hpo⟩
                rw [hpo, if_neg Bool.false_ne_true] at e167
                obtain ⟨y, v5, e5, ey, h5', hp5, f5⟩ := ip_M (pu := pu) hI h2 hp2 ho hox hK
                rw [← hps] at ey h5' hp5
                cases hpe : pushS S pu a o with
                | none =>
                  rw [hpe] at ey h5' hp5
                  have ey : y = nI 0 := ey
                  have h5' : mI S v5 := h5'
                  have hp5 : puM v5 pu := hp5
                  subst ey
                  obtain ⟨v6, e6, h6, f6⟩ := fail_M hI h5' ha ec hcc ht et h0 hDc hK
                  rw [tkS_3 hs hpu hfl' (by rw [enb]; exact hao) hpe]
                  unfold bX7_turns_130
                  simp (disch := omega) only [↓jM_e, li_0, li_1, li_2, li_3, li_4, li_5, li_6, li_7, li_8, li_9, li_10, li_13, li_14, li_15, li_16, li_31, li_35, li_47, li_48, li_49, li_50, li_57, li_99, li_100, li_126, li_139, li_140, li_149, li_150, li_280, li_284, li_285, li_290, li_434, li_1260, li_3472, li_9999, li_65536, nm, nm_w, sf_w, cp_w, ld_I, sa_I, nI_add, pk_mul, Nat.zero_add, nI_leI, nI_ltI, nI_eq, nI_neM, M_neI, nI_ltM, nI_nltM, M_ltI, M_leI, nI_nleM, bnd_some, if_pos, if_neg, dif_t, dif_f, hse, if_neg hs, hpa, tg_M h.1 hI ha hx, et, at_M ha (show 1 < 9 by decide), r1, e1, oI, r1', e2, r2', nb_M hcc hd4, hq, hag, at_M ho (show 3 < 9 by decide), at_M ha (show 3 < 9 by decide), r3o, r3a, if_neg h5, e166, e167, e5, e6]
                  exact ⟨_, rfl, h6, puM_N hp5 f6, (f12.kk.trans f5).trans f6.kk⟩
                | some e =>
                  rw [hpe] at ey h5' hp5
                  have ey : y = nI 1 := ey
                  have h5' : mI (pusS S o e) v5 := h5'
                  have hp5 : puM v5 (puU pu o) := hp5
                  subst ey
                  obtain ⟨-, he, qe, hqe, hfe⟩ := pushS_v hpe
                  have epo : pcS S o = q := by unfold pcS; rw [eo]; exact clI_n (by omega)
                  rw [epo] at hqe
                  have hqe2 := nb_lt hq2 hqe
                  have hp3 : pusS S o e 3 a = nI c := by
                    unfold pusS
                    rw [s2_p (by decide), shS_3, if_neg hoa, ec]
                  obtain ⟨v6, e6, h6, f6⟩ := ms_M h5' ha hp3 hcc hd4 hq
                  rw [tkS_2 hs hpu hfl' (by rw [enb]; exact hao) hpe, enb]
                  unfold bX7_turns_130
                  simp (disch := omega) only [↓jM_e, li_0, li_1, li_2, li_3, li_4, li_5, li_6, li_7, li_8, li_9, li_10, li_13, li_14, li_15, li_16, li_31, li_35, li_47, li_48, li_49, li_50, li_57, li_99, li_100, li_126, li_139, li_140, li_149, li_150, li_280, li_284, li_285, li_290, li_434, li_1260, li_3472, li_9999, li_65536, nm, nm_w, sf_w, cp_w, ld_I, sa_I, nI_add, pk_mul, Nat.zero_add, nI_leI, nI_ltI, nI_eq, nI_neM, M_neI, nI_ltM, nI_nltM, M_ltI, M_leI, nI_nleM, bnd_some, if_pos, if_neg, dif_t, dif_f, hse, if_neg hs, hpa, tg_M h.1 hI ha hx, et, at_M ha (show 1 < 9 by decide), r1, e1, oI, r1', e2, r2', nb_M hcc hd4, hq, hag, at_M ho (show 3 < 9 by decide), at_M ha (show 3 < 9 by decide), r3o, r3a, if_neg h5, e166, e167, e5, e6]
                  exact ⟨_, rfl, h6, puM_N hp5 f6, (f12.kk.trans f5).trans f6.kk⟩
end
