/-! THE REFERENCE'S TURN -/
/-- what a turn leaves -/
theorem sameT_ad {S : aS} {a d q : Nat} (hx : S 3 a ≠ jM) (hq : q < 140) : sameT S (adS S a d q) := ((sameT_sh hx hq).trans (sameT_s2 (j := 7) (by omega))).trans (sameT_s2 (j := 11) (by omega))
theorem sameT_de {S : aS} {a : Nat} : sameT S (deS S a) := (sameT_s2 (j := 7) (by omega)).trans (sameT_s2 (j := 11) (by omega))
theorem iS_de {S : aS} {B a : Nat} (h : iS B S) : iS B (deS S a) := iS_s2 (iS_s2 h (Or.inl rfl)) (Or.inr rfl)
theorem iS_ad {S : aS} {B a d q : Nat} (h : iS B S) (hx : S 3 a ≠ jM) (hd : d < 4) (hq : q < 140) (hc : coS S q ≠ 0) (hf : agOn S q = none) (hB : B < 2 ^ 30) : iS (B + 1) (adS S a d q) := iS_s2 (iS_s2 (iS_sh h hx hd hq hc hf hB) (Or.inl rfl)) (Or.inr rfl)
theorem frS_co {S : aS} {q : Nat} (h : frS S q = true) : coS S q ≠ 0 := by
  unfold frS at h
  simp only [Bool.and_eq_true, Bool.not_eq_true', decide_eq_false_iff_not] at h
  exact h.1
theorem frS_ag {S : aS} {q : Nat} (h : frS S q = true) : agOn S q = none := by
  unfold frS at h
  simp only [Bool.and_eq_true, Option.isNone_iff_eq_none] at h
  exact h.2
theorem agOn_co {S : aS} {B q o : Nat} (hI : iS B S) (hq : q < 140) (h : agOn S q = some o) : coS S q ≠ 0 := by
  obtain ⟨ho, eo⟩ := agOn_lt h
  obtain ⟨c, hc, ec, h0⟩ := (hI.2.2.1 o ho).resolve_left (by rw [eo, nI_neM (by omega)]; exact id)
  rw [eo, nI_eq (by omega) (by omega)] at ec
  rw [ec]
  exact h0
theorem flS_co {co : Nat → Nat} {t c d q : Nat} (hD : isD co t (dst co t)) (hc : c < 140) (h : flS co (dst co t) c = some d) (hq : nbO c d = some q) : co q ≠ 0 := by
  obtain ⟨-, q', k, e1, hk⟩ := flS_nb h
  obtain ⟨e, q2, k', g1, g2, g3, g4, g5, g6, g7⟩ := flS_some hD hc hk
  rw [h] at g1
  cases g1
  rw [hq] at g3
  cases g3
  exact g7
section
variable {S : aS} {B : Nat} {pu : Nat → Bool}
/-- what stands in every turn: DA is a row of distances -/
def okT (S : aS) : Prop := ∀ t, t < 140 → coS S t ≠ 0 → isD (coS S) t (dst (coS S) t)
theorem tkS_inv (hI : iS B S) (hT : okT S) {a : Nat} (ha : a < 16) (hx : S 3 a ≠ jM) (hB : B + 2 < 2 ^ 30) : iS (B + 2) (tkS S pu a).1 ∧ sameT S (tkS S pu a).1 := by
  obtain ⟨c, hcc, ec, hcc0⟩ := (hI.2.2.1 a ha).resolve_left hx
  have epc : pcS S a = c := by unfold pcS; rw [ec]; exact clI_n (by omega)
  by_cases hs : seS S a = true
  · rw [tkS_s hs]
    exact ⟨iS_B (iS_s2 hI (Or.inl rfl)) (by omega), sameT_s2 (by omega)⟩
  · by_cases hp : pu a = true
    · rw [tkS_p hs hp]
      exact ⟨iS_B hI (by omega), sameT.rf⟩
    · cases hfl : flS (coS S) (DA S a) c with
      | none =>
        rw [tkS_0 hs hp (by rw [epc]; exact hfl)]
        exact ⟨iS_B (iS_de hI) (by omega), sameT_de⟩
      | some d =>
        obtain ⟨hd4, qn, kn, hqn, hkn⟩ := flS_nb hfl
        have hqn2 := nb_lt hcc hqn
        have enb : nbG c d = qn := nbG_e hqn
        have hq0 : coS S qn ≠ 0 := by
          unfold DA at hfl hkn
          rcases tgS_v hI ha hx with e | ⟨t, ht, e, h0⟩
          · rw [e, DT_M] at hkn; cases hkn
          · rw [e, DT_I ht] at hfl
            exact flS_co (hT t ht h0) hcc hfl hqn
        cases hag : agOn S qn with
        | none =>
          rw [tkS_1 hs hp (by rw [epc]; exact hfl) (by rw [epc, enb]; exact hag), epc, enb]
          exact ⟨iS_B (iS_ad hI hx hd4 hqn2 hq0 hag (by omega)) (by omega), sameT_ad hx hqn2⟩
        | some o =>
          obtain ⟨ho, eo⟩ := agOn_lt hag
          have hox : S 3 o ≠ jM := by rw [eo, ne_eq, nI_neM (by omega)]; exact id
          cases hps : pushS S pu a o with
          | some e =>
            rw [tkS_2 hs hp (by rw [epc]; exact hfl) (by rw [epc, enb]; exact hag) hps, epc, enb]
            obtain ⟨-, he, qe, hqe, hfe⟩ := pushS_v hps
            have epo : pcS S o = qn := by unfold pcS; rw [eo]; exact clI_n (by omega)
            rw [epo] at hqe
            have hqe2 := nb_lt hqn2 hqe
            have g1 : iS (B + 1) (pusS S o e) := by
              unfold pusS
              rw [epo, nbG_e hqe]
              exact iS_s2 (iS_sh hI hox he hqe2 (frS_co hfe) (frS_ag hfe) (by omega)) (Or.inr rfl)
            have g2 : sameT S (pusS S o e) := by
              unfold pusS
              rw [epo, nbG_e hqe]
              exact (sameT_sh hox hqe2).trans (sameT_s2 (by omega))
            have g3 : pusS S o e 3 a ≠ jM := by
              rw [ne_eq, g2.2.2.2.2.2.2.2.2 a]
              exact hx
            have e3 : ∀ b, pusS S o e 3 b = if b = o then nI qe else S 3 b := by
              intro b
              unfold pusS
              rw [epo, nbG_e hqe, s2_p (by decide), shS_3]
            have g4 : agOn (pusS S o e) qn = none := by
              cases hg : agOn (pusS S o e) qn with
              | none => rfl
              | some b =>
                obtain ⟨hb, eb⟩ := agOn_lt hg
                rw [e3] at eb
                by_cases hbo : b = o
                · rw [if_pos hbo, nI_eq (by omega) (by omega)] at eb
                  exact absurd eb (nb_ne hqe)
                · rw [if_neg hbo] at eb
                  exact absurd (hI.2.2.2.2.2.2 b o hb ho (by rw [eb, ne_eq, nI_neM (by omega)]; exact id) (eb.trans eo.symm)) hbo
            exact ⟨iS_ad g1 g3 hd4 hqn2 (by rw [sameT_co g2]; exact hq0) g4 (by omega), g2.trans (sameT_ad g3 hqn2)⟩
          | none =>
            rw [tkS_3 hs hp (by rw [epc]; exact hfl) (by rw [epc, enb]; exact hag) hps]
            cases hde : detS S a with
            | none =>
              rw [failS_0 hde]
              exact ⟨iS_B (iS_de hI) (by omega), sameT_de⟩
            | some e =>
              rw [failS_1 hde]
              obtain ⟨he, qe, hqe, hfe⟩ := detS_v hde
              rw [epc] at hqe
              have hqe2 := nb_lt hcc hqe
              unfold dtS
              rw [epc, nbG_e hqe]
              exact ⟨iS_B (iS_s2 (iS_ad hI hx he hqe2 (frS_co hfe) (frS_ag hfe) (by omega)) (Or.inr rfl)) (by omega), (sameT_ad hx hqe2).trans (sameT_s2 (by omega))⟩
end
section
variable {S : aS} {B K : Nat} {v : sV} {pu : Nat → Bool}
theorem okT_M (hI : iS B S) (h : mI S v) (hK : 400000 < K) : okT S := fun t ht h0 => (far_M hI h ht h0 ht hK).choose_spec.2.2.2
theorem ff_M (hI : iS B S) (h : mI S v) {a c : Nat} (ha : a < 16) (hx : S 3 a ≠ jM) (hc : c < 140) (hK : 400000 < K) :
    ∃ v', fX7_farFor K (nI a) (nI c) v = some (oI (DA S a c), v') ∧ mI S v' ∧ frM v v' := by
  unfold fX7_farFor DA
  rw [tg_M h.1 hI ha hx, bnd_some]
  rcases tgS_v hI ha hx with e | ⟨t, ht, e, h0⟩
  · rw [e, DT_M]
    simp (disch := omega) only [↓jM_e, li_0, li_1, li_2, li_3, li_4, li_5, li_6, li_7, li_8, li_9, li_10, li_13, li_14, li_15, li_16, li_31, li_35, li_47, li_48, li_49, li_50, li_57, li_99, li_100, li_126, li_139, li_140, li_149, li_150, li_280, li_284, li_285, li_290, li_434, li_1260, li_3472, li_9999, li_65536, nm, nm_w, sf_w, cp_w, ld_I, sa_I, nI_add, pk_mul, Nat.zero_add, nI_leI, nI_ltI, nI_eq, nI_neM, M_neI, nI_ltM, nI_nltM, M_ltI, M_leI, nI_nleM, bnd_some, if_pos, if_neg, dif_t, dif_f, show (nI 0 ≤ jM) = False from by decide]
    exact ⟨v, rfl, h, frM.rf⟩
  · obtain ⟨v', e1, h1, f1, -⟩ := far_M hI h ht h0 hc hK
    rw [e, DT_I ht]
    simp (disch := omega) only [↓jM_e, li_0, li_1, li_2, li_3, li_4, li_5, li_6, li_7, li_8, li_9, li_10, li_13, li_14, li_15, li_16, li_31, li_35, li_47, li_48, li_49, li_50, li_57, li_99, li_100, li_126, li_139, li_140, li_149, li_150, li_280, li_284, li_285, li_290, li_434, li_1260, li_3472, li_9999, li_65536, nm, nm_w, sf_w, cp_w, ld_I, sa_I, nI_add, pk_mul, Nat.zero_add, nI_leI, nI_ltI, nI_eq, nI_neM, M_neI, nI_ltM, nI_nltM, M_ltI, M_leI, nI_nleM, bnd_some, if_pos, if_neg, dif_t, dif_f, e1]
    exact ⟨v', rfl, h1, f1⟩
theorem okD_A (hI : iS B S) (hT : okT S) {a : Nat} (ha : a < 16) (hx : S 3 a ≠ jM) : okD (DA S a) := by
  refine DA_ok (fun t e ht => ?_) (tgS_v hI ha hx)
  rcases tgS_v hI ha hx with e1 | ⟨t', ht', e1, h0⟩
  · rw [e1, M_neI (by omega)] at e
    exact e.elim
  · rw [e1, nI_eq (by omega) (by omega)] at e
    subst e
    exact hT _ ht h0
/-- frames of the reference's tick -/
def frK (v v' : sV) : Prop := ∀ p, p ≠ 158 → p ≠ 162 → p ≠ 163 → p ≠ 164 → p ≠ 165 → p ≠ 167 → v' p = v p
theorem frN.kk {v v' : sV} (h : frN v v') : frK v v' := fun p h1 h2 h3 h4 h5 _ => h p h1 h2 h3 h4 h5
theorem frM.kk {v v' : sV} (h : frM v v') : frK v v' := h.N.kk
theorem frK.trans {v v' v'' : sV} (h : frK v v') (h2 : frK v' v'') : frK v v'' := fun p g1 g2 g3 g4 g5 g6 => (h2 p g1 g2 g3 g4 g5 g6).trans (h p g1 g2 g3 g4 g5 g6)
def puM (v : sV) (pu : Nat → Bool) : Prop := ∀ i, i < 16 → v 167 i = if pu i = true then nI 1 else nI 0
theorem puM_N {v v' : sV} (h : puM v pu) (hf : frN v v') : puM v' pu := fun i hi => by rw [hf 167 (by decide) (by decide) (by decide) (by decide) (by decide)]; exact h i hi
set_option maxHeartbeats 2000000 in
/-- the reference pushes: the agent o -/
theorem ip_M (hI : iS B S) (h : mI S v) (hp : puM v pu) {o : Nat} (ho : o < 16) (hx : S 3 o ≠ jM) (hK : 400000 < K) :
    ∃ y v', fX7_isPushed K (nI o) v = some (y, v') ∧ y = (if (bfS S (DA S o) (pcS S o) 4 0 none 10000).isSome = true then nI 1 else nI 0) ∧ mI (match bfS S (DA S o) (pcS S o) 4 0 none 10000 with | none => S | some e => pusS S o e) v' ∧ puM v' (match bfS S (DA S o) (pcS S o) 4 0 none 10000 with | none => pu | some _ => puU pu o) ∧ frK v v' := by
  obtain ⟨c, hcc, ec, -⟩ := (hI.2.2.1 o ho).resolve_left hx
  have epc : pcS S o = c := by unfold pcS; rw [ec]; exact clI_n (by omega)
  have hD := okD_A hI (okT_M hI h hK) ho hx
  have hbv := @bfS_v S (DA S o) c 4 0 10000 none rfl (fun b hb => by cases hb)
  rw [epc]
  suffices H : ∀ Q : Option (Int32 × sV) → Prop, (∀ y v', y = (if (bfS S (DA S o) c 4 0 none 10000).isSome = true then nI 1 else nI 0) ∧ mI (match bfS S (DA S o) c 4 0 none 10000 with | none => S | some e => pusS S o e) v' ∧ puM v' (match bfS S (DA S o) c 4 0 none 10000 with | none => pu | some _ => puU pu o) ∧ frK v v' → Q (some (y, v'))) → Q (fX7_isPushed K (nI o) v) from
    H (fun oo => ∃ y v', oo = some (y, v') ∧ y = (if (bfS S (DA S o) c 4 0 none 10000).isSome = true then nI 1 else nI 0) ∧ mI (match bfS S (DA S o) c 4 0 none 10000 with | none => S | some e => pusS S o e) v' ∧ puM v' (match bfS S (DA S o) c 4 0 none 10000 with | none => pu | some _ => puU pu o) ∧ frK v v') (fun y v' hh => ⟨y, v', rfl, hh⟩)
  intro Q hQ
  unfold fX7_isPushed
  refine fx4_go (P := fun e x2 x3 x4 w => x4 = nI e ∧ ∃ best L, x2 = oI best ∧ x3 = nI (if best.isSome = true then L else 0) ∧ L ≤ 10000 ∧ (best = none → L = 10000) ∧ bfS S (DA S o) c (4 - e) e best L = bfS S (DA S o) c 4 0 none 10000 ∧ (∀ b, best = some b → b < 4) ∧ mI S w ∧ frM v w) (Q := Q) (N := 4) ?_ ⟨rfl, none, 10000, rfl, rfl, Nat.le_refl _, fun _ => rfl, rfl, (fun b hb => by cases hb), h, frM.rf⟩ (by omega)
  intro e x2 x3 x4 w he ⟨e4, best, L, e2, e3, hL, hL0, hs, hb4, hw, fw⟩ k hk
  subst e4 e2 e3
  have r1 : w 158 (290 + 9 * o + 1) = nI c := (rm hw.1 ho hx).1.trans ec
  have hpw : puM w pu := puM_N hp fw.N
  unfold gX7_isPushed_7
  by_cases he4 : e = 4
  · subst he4
    have hs : best = bfS S (DA S o) c 4 0 none 10000 := hs
    rw [← hs] at hbv hQ
    cases best with
    | none =>
      simp (disch := omega) only [↓jM_e, li_0, li_1, li_2, li_3, li_4, li_5, li_6, li_7, li_8, li_9, li_10, li_13, li_14, li_15, li_16, li_31, li_35, li_47, li_48, li_49, li_50, li_57, li_99, li_100, li_126, li_139, li_140, li_149, li_150, li_280, li_284, li_285, li_290, li_434, li_1260, li_3472, li_9999, li_65536, nm, nm_w, sf_w, cp_w, ld_I, sa_I, nI_add, pk_mul, Nat.zero_add, nI_leI, nI_ltI, nI_eq, nI_neM, M_neI, nI_ltM, nI_nltM, M_ltI, M_leI, nI_nleM, bnd_some, if_pos, if_neg, dif_t, dif_f, oI, show (nI 0 ≤ jM) = False from by decide]
      exact hQ _ _ ⟨rfl, hw, hpw, fw.kk⟩
    | some d =>
      obtain ⟨hd4, q, hq, hfr⟩ := hbv d rfl
      obtain ⟨w2, em, h2, f2⟩ := mv_M hw ho ec hcc hd4 hq
      have enb : nbG (pcS S o) d = q := by rw [epc]; exact nbG_e hq
      have ep : s2 w2 167 o (nI 1) 158 287 = S 11 2 := by
        rw [s2_p (by decide), h2.1.2.2.2.2.1 2 (by decide), shS_r (by decide)]
      have hr : mI (pusS S o d) (s2 (s2 w2 167 o (nI 1)) 158 287 (S 11 2 + nI 1)) := by
        have h3 : mI (shS S o d q) (s2 w2 167 o (nI 1)) := ⟨by rw [s2_ne (by decide)]; exact h2.1, cacM_v h2.2 (s2_ne (by decide)) (s2_ne (by decide))⟩
        have h4 := st_285 h3 (i := 2) (by decide)
        rw [show shS S o d q 11 2 = S 11 2 by rw [shS_r (by decide)]] at h4
        unfold pusS
        rw [enb]
        exact h4
      simp (disch := omega) only [↓jM_e, li_0, li_1, li_2, li_3, li_4, li_5, li_6, li_7, li_8, li_9, li_10, li_13, li_14, li_15, li_16, li_31, li_35, li_47, li_48, li_49, li_50, li_57, li_99, li_100, li_126, li_139, li_140, li_149, li_150, li_280, li_284, li_285, li_290, li_434, li_1260, li_3472, li_9999, li_65536, nm, nm_w, sf_w, cp_w, ld_I, sa_I, nI_add, pk_mul, Nat.zero_add, nI_leI, nI_ltI, nI_eq, nI_neM, M_neI, nI_ltM, nI_nltM, M_ltI, M_leI, nI_nleM, bnd_some, if_pos, if_neg, dif_t, dif_f, oI, em, show (287 : Int32) = nI 287 from rfl, ep]
      refine hQ _ _ ⟨rfl, hr, fun i hi => ?_, (fw.kk.trans f2.kk).trans (fun p g1 g2 g3 g4 g5 g6 => ?_)⟩
      · rw [s2_p (by decide)]
        unfold puU
        by_cases hio : i = o
        · rw [hio, s2_i]
          simp
        · rw [s2_j hio, f2 167 (by decide) (by decide) (by decide) (by decide) (by decide), hpw i hi]
          simp [hio]
      · rw [s2_ne g1, s2_ne g6]
  · have hlt : e < 4 := by omega
    rw [show 4 - e = (4 - (e + 1)) + 1 by omega] at hs
    cases hn : nbO c e with
    | none =>
      rw [bfS_n hn] at hs
      simp (disch := omega) only [↓jM_e, li_0, li_1, li_2, li_3, li_4, li_5, li_6, li_7, li_8, li_9, li_10, li_13, li_14, li_15, li_16, li_31, li_35, li_47, li_48, li_49, li_50, li_57, li_99, li_100, li_126, li_139, li_140, li_149, li_150, li_280, li_284, li_285, li_290, li_434, li_1260, li_3472, li_9999, li_65536, nm, nm_w, sf_w, cp_w, ld_I, sa_I, nI_add, pk_mul, Nat.zero_add, nI_leI, nI_ltI, nI_eq, nI_neM, M_neI, nI_ltM, nI_nltM, M_ltI, M_leI, nI_nleM, bnd_some, if_pos, if_neg, dif_t, dif_f, at_M ho (show 1 < 9 by decide), r1, nb_M hcc hlt, hn, oI, ie_MM]
      exact hk hlt _ _ _ _ ⟨rfl, best, L, rfl, rfl, hL, hL0, hs, hb4, hw, fw⟩
    | some q =>
      have hq2 := nb_lt hcc hn
      by_cases hfr : frS S q = true
      · obtain ⟨w2, ef, h2, f2⟩ := ff_M hI hw ho hx hq2 hK
        have hcont : ∀ kd, kd ≤ 9999 → (DA S o q).getD 9999 = kd → Q (bX7_isPushed_60 K k (nI o) (oI best) (nI (if best.isSome = true then L else 0)) (nI e) (nI kd) w2) := by
          intro kd hkd ekd
          unfold bX7_isPushed_60
          cases best with
          | none =>
            have hL1 := hL0 rfl
            rw [bfS_t hn hfr (by omega), ekd] at hs
            simp (disch := omega) only [↓jM_e, li_0, li_1, li_2, li_3, li_4, li_5, li_6, li_7, li_8, li_9, li_10, li_13, li_14, li_15, li_16, li_31, li_35, li_47, li_48, li_49, li_50, li_57, li_99, li_100, li_126, li_139, li_140, li_149, li_150, li_280, li_284, li_285, li_290, li_434, li_1260, li_3472, li_9999, li_65536, nm, nm_w, sf_w, cp_w, ld_I, sa_I, nI_add, pk_mul, Nat.zero_add, nI_leI, nI_ltI, nI_eq, nI_neM, M_neI, nI_ltM, nI_nltM, M_ltI, M_leI, nI_nleM, bnd_some, if_pos, if_neg, dif_t, dif_f, oI]
            exact hk hlt _ _ _ _ ⟨rfl, some e, kd, rfl, rfl, by omega, (fun g => by cases g), hs, (fun b hb => by cases hb; exact hlt), h2, fw.trans f2⟩
          | some d =>
            have hd4 := hb4 d rfl
            by_cases hlk : L ≤ kd
            · rw [bfS_f hn (fun g => by have := g.2; omega)] at hs
              simp (disch := omega) only [↓jM_e, li_0, li_1, li_2, li_3, li_4, li_5, li_6, li_7, li_8, li_9, li_10, li_13, li_14, li_15, li_16, li_31, li_35, li_47, li_48, li_49, li_50, li_57, li_99, li_100, li_126, li_139, li_140, li_149, li_150, li_280, li_284, li_285, li_290, li_434, li_1260, li_3472, li_9999, li_65536, nm, nm_w, sf_w, cp_w, ld_I, sa_I, nI_add, pk_mul, Nat.zero_add, nI_leI, nI_ltI, nI_eq, nI_neM, M_neI, nI_ltM, nI_nltM, M_ltI, M_leI, nI_nleM, bnd_some, if_pos, if_neg, dif_t, dif_f, oI, Option.isSome_some, if_true]
              exact hk hlt _ _ _ _ ⟨rfl, some d, L, rfl, rfl, hL, hL0, hs, hb4, h2, fw.trans f2⟩
            · rw [bfS_t hn hfr (by omega), ekd] at hs
              simp (disch := omega) only [↓jM_e, li_0, li_1, li_2, li_3, li_4, li_5, li_6, li_7, li_8, li_9, li_10, li_13, li_14, li_15, li_16, li_31, li_35, li_47, li_48, li_49, li_50, li_57, li_99, li_100, li_126, li_139, li_140, li_149, li_150, li_280, li_284, li_285, li_290, li_434, li_1260, li_3472, li_9999, li_65536, nm, nm_w, sf_w, cp_w, ld_I, sa_I, nI_add, pk_mul, Nat.zero_add, nI_leI, nI_ltI, nI_eq, nI_neM, M_neI, nI_ltM, nI_nltM, M_ltI, M_leI, nI_nleM, bnd_some, if_pos, if_neg, dif_t, dif_f, oI, Option.isSome_some, if_true]
              exact hk hlt _ _ _ _ ⟨rfl, some e, kd, rfl, rfl, by omega, (fun g => by cases g), hs, (fun b hb => by cases hb; exact hlt), h2, fw.trans f2⟩
        cases hdq : DA S o q with
        | none =>
          rw [hdq] at ef hcont
          simp (disch := omega) only [↓jM_e, li_0, li_1, li_2, li_3, li_4, li_5, li_6, li_7, li_8, li_9, li_10, li_13, li_14, li_15, li_16, li_31, li_35, li_47, li_48, li_49, li_50, li_57, li_99, li_100, li_126, li_139, li_140, li_149, li_150, li_280, li_284, li_285, li_290, li_434, li_1260, li_3472, li_9999, li_65536, nm, nm_w, sf_w, cp_w, ld_I, sa_I, nI_add, pk_mul, Nat.zero_add, nI_leI, nI_ltI, nI_eq, nI_neM, M_neI, nI_ltM, nI_nltM, M_ltI, M_leI, nI_nleM, bnd_some, if_pos, if_neg, dif_t, dif_f, at_M ho (show 1 < 9 by decide), r1, nb_M hcc hlt, hn, oI, ie_M hw.1 hI hq2 (show 16 < K by omega), if_pos hfr, ef, show (nI 0 ≤ jM) = False from by decide]
          exact hcont 9999 (Nat.le_refl _) rfl
        | some kd =>
          have hkd := hD q hq2 kd hdq
          rw [hdq] at ef hcont
          simp (disch := omega) only [↓jM_e, li_0, li_1, li_2, li_3, li_4, li_5, li_6, li_7, li_8, li_9, li_10, li_13, li_14, li_15, li_16, li_31, li_35, li_47, li_48, li_49, li_50, li_57, li_99, li_100, li_126, li_139, li_140, li_149, li_150, li_280, li_284, li_285, li_290, li_434, li_1260, li_3472, li_9999, li_65536, nm, nm_w, sf_w, cp_w, ld_I, sa_I, nI_add, pk_mul, Nat.zero_add, nI_leI, nI_ltI, nI_eq, nI_neM, M_neI, nI_ltM, nI_nltM, M_ltI, M_leI, nI_nleM, bnd_some, if_pos, if_neg, dif_t, dif_f, at_M ho (show 1 < 9 by decide), r1, nb_M hcc hlt, hn, oI, ie_M hw.1 hI hq2 (show 16 < K by omega), if_pos hfr, ef]
          exact hcont kd (by omega) rfl
      · rw [bfS_f hn (fun g => hfr g.1)] at hs
        simp (disch := omega) only [↓jM_e, li_0, li_1, li_2, li_3, li_4, li_5, li_6, li_7, li_8, li_9, li_10, li_13, li_14, li_15, li_16, li_31, li_35, li_47, li_48, li_49, li_50, li_57, li_99, li_100, li_126, li_139, li_140, li_149, li_150, li_280, li_284, li_285, li_290, li_434, li_1260, li_3472, li_9999, li_65536, nm, nm_w, sf_w, cp_w, ld_I, sa_I, nI_add, pk_mul, Nat.zero_add, nI_leI, nI_ltI, nI_eq, nI_neM, M_neI, nI_ltM, nI_nltM, M_ltI, M_leI, nI_nleM, bnd_some, if_pos, if_neg, dif_t, dif_f, at_M ho (show 1 < 9 by decide), r1, nb_M hcc hlt, hn, oI, ie_M hw.1 hI hq2 (show 16 < K by omega), if_neg hfr]
        exact hk hlt _ _ _ _ ⟨rfl, best, L, rfl, rfl, hL, hL0, hs, hb4, hw, fw⟩
end
