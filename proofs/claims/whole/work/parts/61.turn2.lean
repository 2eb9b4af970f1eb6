theorem flS_nb {co : Nat → Nat} {D : Nat → Option Nat} {c d : Nat} (h : flS co D c = some d) : d < 4 ∧ ∃ q k, nbO c d = some q ∧ D c = some (k + 1) := by
  unfold flS at h
  split at h
  · cases h
  · cases h
  · rename_i k hk
    obtain ⟨h1, -, h3, -⟩ := ffI_s h
    unfold flP at h1
    split at h1
    · cases h1
    · rename_i q hq
      exact ⟨by omega, q, k, hq, hk⟩
theorem okC_f {cq b : Nat} (hb : okC cq b) : cq < 172 ∧ b + 13 ≤ 172 ∧ cq ≠ 18 ∧ cq ≠ 19 ∧ cq ≠ 17 ∧ ¬ (b ≤ cq ∧ cq < b + 13) ∧ ¬ (b ≤ 18 ∧ 18 < b + 13) ∧ ¬ (b ≤ 19 ∧ 19 < b + 13) ∧ ¬ (b ≤ 17 ∧ 17 < b + 13) := by
  unfold okC at hb
  omega
section
variable {S : aS} {B K b cq n : Nat} {r : sR} {v : sV} {pu : Nat → Bool}
theorem dto_C (h : RelC b S v) (hI : iS B S) {a c k fq : Nat} (ha : a < 16) (ec : S 3 a = nI c) (hc : c < 140) (hf : ∀ c, c < 140 → v (fq + 1) c = oI (DA S a c)) (hD : okD (DA S a)) (hk : DA S a c = some k) (hK : 16 < K) : fX0_detourOf K cq b fq (nI a) v = some (oI (detS S a)) := by
  have e7 := rc7 h ha
  have e3 : v (b + 4) a = nI c := (rc3 h ha).trans ec
  have e12 := h.2
  have hkl := hD c hc k hk
  have epc : pcS S a = c := by unfold pcS; rw [ec]; exact clI_n (by omega)
  unfold fX0_detourOf
  by_cases hw : S 12 0 ≤ S 7 a
  · have hd : detS S a = bfS S (DA S a) c 4 0 none (k + 2 + 1) := by
      unfold detS
      rw [if_pos hw, epc, hk]
      rfl
    rw [hd]
    simp (disch := omega) only [↓jM_e, li_0, li_1, li_2, li_3, li_4, li_5, li_6, li_7, li_8, li_9, li_10, li_13, li_14, li_15, li_16, li_31, li_35, li_47, li_48, li_49, li_50, li_57, li_99, li_100, li_126, li_139, li_140, li_149, li_150, li_280, li_284, li_285, li_290, li_434, li_1260, li_3472, li_9999, li_65536, nm, nm_w, sf_w, cp_w, ld_I, sa_I, nI_add, pk_mul, Nat.zero_add, nI_leI, nI_ltI, nI_eq, nI_neM, M_neI, nI_ltM, nI_nltM, M_ltI, M_leI, nI_nleM, bnd_some, if_pos, if_neg, dif_t, dif_f, e7, e12, if_pos hw, e3, di_C hf hc, hk, oI, bf_C h hI hf hD hc (show k + 2 ≤ 9999 by omega) hK]
  · have hd : detS S a = none := if_neg hw
    rw [hd]
    simp (disch := omega) only [↓jM_e, li_0, li_1, li_2, li_3, li_4, li_5, li_6, li_7, li_8, li_9, li_10, li_13, li_14, li_15, li_16, li_31, li_35, li_47, li_48, li_49, li_50, li_57, li_99, li_100, li_126, li_139, li_140, li_149, li_150, li_280, li_284, li_285, li_290, li_434, li_1260, li_3472, li_9999, li_65536, nm, nm_w, sf_w, cp_w, ld_I, sa_I, nI_add, pk_mul, Nat.zero_add, nI_leI, nI_ltI, nI_eq, nI_neM, M_neI, nI_ltM, nI_nltM, M_ltI, M_leI, nI_nleM, bnd_some, if_pos, if_neg, dif_t, dif_f, e7, e12, if_neg hw, oI]
theorem tkS_s {a : Nat} (h : seS S a = true) : tkS S pu a = (s2 S 7 a (nI 0), pu) := if_pos h
theorem tkS_p {a : Nat} (h : ¬ seS S a = true) (h2 : pu a = true) : tkS S pu a = (S, pu) := by
  unfold tkS
  rw [if_neg h, if_pos h2]
theorem tkS_0 {a : Nat} (h : ¬ seS S a = true) (h2 : ¬ pu a = true) (h3 : flS (coS S) (DA S a) (pcS S a) = none) : tkS S pu a = (deS S a, pu) := by
  unfold tkS
  rw [if_neg h, if_neg h2, h3]
theorem tkS_1 {a d : Nat} (h : ¬ seS S a = true) (h2 : ¬ pu a = true) (h3 : flS (coS S) (DA S a) (pcS S a) = some d) (h4 : agOn S (nbG (pcS S a) d) = none) : tkS S pu a = (adS S a d (nbG (pcS S a) d), pu) := by
  unfold tkS
  rw [if_neg h, if_neg h2, h3]
  dsimp only
  rw [h4]
theorem tkS_2 {a d o e : Nat} (h : ¬ seS S a = true) (h2 : ¬ pu a = true) (h3 : flS (coS S) (DA S a) (pcS S a) = some d) (h4 : agOn S (nbG (pcS S a) d) = some o) (h5 : pushS S pu a o = some e) : tkS S pu a = (adS (pusS S o e) a d (nbG (pcS S a) d), puU pu o) := by
  unfold tkS
  rw [if_neg h, if_neg h2, h3]
  dsimp only
  rw [h4]
  dsimp only
  rw [h5]
theorem tkS_3 {a d o : Nat} (h : ¬ seS S a = true) (h2 : ¬ pu a = true) (h3 : flS (coS S) (DA S a) (pcS S a) = some d) (h4 : agOn S (nbG (pcS S a) d) = some o) (h5 : pushS S pu a o = none) : tkS S pu a = (failS S a, pu) := by
  unfold tkS
  rw [if_neg h, if_neg h2, h3]
  dsimp only
  rw [h4]
  dsimp only
  rw [h5]
theorem failS_0 {a : Nat} (h : detS S a = none) : failS S a = deS S a := by unfold failS; rw [h]
theorem failS_1 {a e : Nat} (h : detS S a = some e) : failS S a = dtS S a e := by unfold failS; rw [h]
theorem detS_v {a e : Nat} (h : detS S a = some e) : e < 4 ∧ ∃ q, nbO (pcS S a) e = some q ∧ frS S q = true := by
  unfold detS at h
  split at h
  · exact bfS_v rfl (fun b hb => by cases hb) e h
  · cases h
theorem pushS_v {a o e : Nat} (h : pushS S pu a o = some e) : (¬ S 5 a ≤ S 5 o ∧ pu o = false) ∧ e < 4 ∧ ∃ q, nbO (pcS S o) e = some q ∧ frS S q = true := by
  unfold pushS at h
  split at h
  · rename_i hc
    exact ⟨hc, bfS_v rfl (fun b hb => by cases hb) e h⟩
  · cases h
set_option maxHeartbeats 4000000 in
theorem tt_C (hb : okC cq b) (h : RelC b S v) (hI : iS B S) (hc : cacC (coS S) r v n) (hm : v cq 2 = nI (mkI pu 16)) {a : Nat} (ha : a < 16) (hx : S 3 a ≠ jM) (hK : 2000 < K) :
    ∃ (u : Unit) (r' : sR) (v' : sV) (k : Nat), fX0_takeTurn K cq b (nI a) r v n = some (u, r', v', k) ∧ RelC b (tkS S pu a).1 v' ∧ cacC (coS S) r' v' (n + k) ∧ v' cq 2 = nI (mkI (tkS S pu a).2 16) ∧ frC b cq v v' := by
  obtain ⟨c, hcc, ec, hcc0⟩ := (hI.2.2.1 a ha).resolve_left hx
  have e3 : v (b + 4) a = nI c := (rc3 h ha).trans ec
  have epc : pcS S a = c := by unfold pcS; rw [ec]; exact clI_n (by omega)
  have hbits := mkI_bit (P := pu) (N := 16) ha
  have hbb := okC_f hb
  -- the writes of waits alone
  have hw0 : ∀ k, cacC (coS S) r v (n + k) → RelC b (s2 S 7 a (nI 0)) (s2 v (b + 8) a (nI 0)) ∧ cacC (coS S) r (s2 v (b + 8) a (nI 0)) (n + k) ∧ s2 v (b + 8) a (nI 0) cq 2 = nI (mkI pu 16) ∧ frC b cq v (s2 v (b + 8) a (nI 0)) := by
    intro k hc'
    refine ⟨rcS (j := 7) h (by decide), cacC_w hb hc' (fun p p1 _ => s2_ne (by omega)), ?_, fun p _ _ _ _ p5 => s2_ne (by omega)⟩
    rw [s2_p (by omega)]
    exact hm
  unfold fX0_takeTurn
  rw [tg_C h hI ha hx, bnd_some]
  by_cases h1 : tgS S a = jM
  · rw [tkS_s (by unfold seS; simp [h1])]
    simp (disch := omega) only [↓jM_e, li_0, li_1, li_2, li_3, li_4, li_5, li_6, li_7, li_8, li_9, li_10, li_13, li_14, li_15, li_16, li_31, li_35, li_47, li_48, li_49, li_50, li_57, li_99, li_100, li_126, li_139, li_140, li_149, li_150, li_280, li_284, li_285, li_290, li_434, li_1260, li_3472, li_9999, li_65536, nm, nm_w, sf_w, cp_w, ld_I, sa_I, nI_add, pk_mul, Nat.zero_add, nI_leI, nI_ltI, nI_eq, nI_neM, M_neI, nI_ltM, nI_nltM, M_ltI, M_leI, nI_nleM, bnd_some, if_pos, if_neg, dif_t, dif_f, e3, if_pos h1]
    exact ⟨_, _, _, _, rfl, hw0 0 hc⟩
  · by_cases h2 : tgS S a = S 3 a
    · rw [tkS_s (by unfold seS; simp [h2])]
      have h2' : tgS S a = nI c := h2.trans ec
      simp (disch := omega) only [↓jM_e, li_0, li_1, li_2, li_3, li_4, li_5, li_6, li_7, li_8, li_9, li_10, li_13, li_14, li_15, li_16, li_31, li_35, li_47, li_48, li_49, li_50, li_57, li_99, li_100, li_126, li_139, li_140, li_149, li_150, li_280, li_284, li_285, li_290, li_434, li_1260, li_3472, li_9999, li_65536, nm, nm_w, sf_w, cp_w, ld_I, sa_I, nI_add, pk_mul, Nat.zero_add, nI_leI, nI_ltI, nI_eq, nI_neM, M_neI, nI_ltM, nI_nltM, M_ltI, M_leI, nI_nleM, bnd_some, if_pos, if_neg, dif_t, dif_f, e3, if_neg h1, if_pos h2']
      exact ⟨_, _, _, _, rfl, hw0 0 hc⟩
    · have h2' : ¬ tgS S a = nI c := fun e => h2 (e.trans ec.symm)
      have hs : ¬ seS S a = true := by unfold seS; simp [h1, h2]
      cases hpa : pu a with
      | true =>
        rw [hpa] at hbits
        rw [tkS_p hs hpa]
        simp (disch := omega) only [↓jM_e, li_0, li_1, li_2, li_3, li_4, li_5, li_6, li_7, li_8, li_9, li_10, li_13, li_14, li_15, li_16, li_31, li_35, li_47, li_48, li_49, li_50, li_57, li_99, li_100, li_126, li_139, li_140, li_149, li_150, li_280, li_284, li_285, li_290, li_434, li_1260, li_3472, li_9999, li_65536, nm, nm_w, sf_w, cp_w, ld_I, sa_I, nI_add, pk_mul, Nat.zero_add, nI_leI, nI_ltI, nI_eq, nI_neM, M_neI, nI_ltM, nI_nltM, M_ltI, M_leI, nI_nleM, bnd_some, if_pos, if_neg, dif_t, dif_f, e3, if_neg h1, if_neg h2', hm, in_C mk_16 (show a < 31 by omega), hbits]
        exact ⟨_, _, _, _, rfl, h, hc, hm, frC.rf⟩
      | false =>
        have hpa' : ¬ pu a = true := by rw [hpa]; exact Bool.false_ne_true
        rw [hpa] at hbits
        have hbits' : ¬ (mkI pu 16).testBit a = true := by rw [hbits]; exact Bool.false_ne_true
        obtain ⟨q, r1, v1, k1, etw, g1, g2, g3, g4, g5, g6, g7, g8⟩ := tw_A hb h hI hc ha hx hK
        have hm1 : v1 cq 2 = nI (mkI pu 16) := by rw [g6 cq hbb.1 hbb.2.2.1 hbb.2.2.2.1]; exact hm
        have hcost1 : ∀ c, c < 140 → v1 (b + 1) c = nI (coS S c) := fun c hc => (rc0 g1 hc).trans (hI.1 c hc).1
        have hfr1 : frC b cq v v1 := fun p p1 p2 p3 p4 p5 => g6 p p1 p2 p3
        have e3' : v1 (b + 4) a = nI c := (rc3 g1 ha).trans ec
        simp (disch := omega) only [↓jM_e, li_0, li_1, li_2, li_3, li_4, li_5, li_6, li_7, li_8, li_9, li_10, li_13, li_14, li_15, li_16, li_31, li_35, li_47, li_48, li_49, li_50, li_57, li_99, li_100, li_126, li_139, li_140, li_149, li_150, li_280, li_284, li_285, li_290, li_434, li_1260, li_3472, li_9999, li_65536, nm, nm_w, sf_w, cp_w, ld_I, sa_I, nI_add, pk_mul, Nat.zero_add, nI_leI, nI_ltI, nI_eq, nI_neM, M_neI, nI_ltM, nI_nltM, M_ltI, M_leI, nI_nleM, bnd_some, if_pos, if_neg, dif_t, dif_f, e3, if_neg h1, if_neg h2', hm, in_C mk_16 (show a < 31 by omega), if_neg hbits', etw]
        refine ac_ex ?_
        rw [ck_i ⟨g2.1, g4⟩, fl_C (iS_co hI) hcost1 g5 g8 hcc (show 4 < K by omega), bnd_some]
        -- how what a write leaves is told
        have hfin : ∀ (S' : aS) (w : sV), (∀ p, ¬ (b ≤ p ∧ p < b + 13) → w p = v1 p) → RelC b S' w → RelC b S' w ∧ cacC (coS S) r1 w (n + (k1 + 0)) ∧ w cq 2 = nI (mkI pu 16) ∧ frC b cq v w := by
          intro S' w hw hr
          refine ⟨hr, cacC_w hb g2 (fun p p1 _ => hw p p1), ?_, fun p p1 p2 p3 p4 p5 => ?_⟩
          · rw [hw cq hbb.2.2.2.2.2.1]; exact hm1
          · rw [hw p p5]; exact hfr1 p p1 p2 p3 p4 p5
        cases hfl : flS (coS S) (DA S a) c with
        | none =>
          rw [tkS_0 hs hpa' (by rw [epc]; exact hfl)]
          obtain ⟨w, ed, s1, s2'⟩ := de_C (cq := cq) g1 ha
          simp (disch := omega) only [↓jM_e, li_0, li_1, li_2, li_3, li_4, li_5, li_6, li_7, li_8, li_9, li_10, li_13, li_14, li_15, li_16, li_31, li_35, li_47, li_48, li_49, li_50, li_57, li_99, li_100, li_126, li_139, li_140, li_149, li_150, li_280, li_284, li_285, li_290, li_434, li_1260, li_3472, li_9999, li_65536, nm, nm_w, sf_w, cp_w, ld_I, sa_I, nI_add, pk_mul, Nat.zero_add, nI_leI, nI_ltI, nI_eq, nI_neM, M_neI, nI_ltM, nI_nltM, M_ltI, M_leI, nI_nleM, bnd_some, if_pos, if_neg, dif_t, dif_f, oI, ed]
          exact ⟨_, _, _, _, rfl, hfin _ w s2' s1⟩
        | some d =>
          obtain ⟨hd4, qn, kn, hqn, hkn⟩ := flS_nb hfl
          have hqn2 := nb_lt hcc hqn
          have enb : nbG c d = qn := nbG_e hqn
          cases hag : agOn S qn with
          | none =>
            rw [tkS_1 hs hpa' (by rw [epc]; exact hfl) (by rw [epc, enb]; exact hag), epc, enb]
            obtain ⟨w, ed, s1, s2'⟩ := ad_C (cq := cq) g1 ha ec hcc hd4 hqn
            simp (disch := omega) only [↓jM_e, li_0, li_1, li_2, li_3, li_4, li_5, li_6, li_7, li_8, li_9, li_10, li_13, li_14, li_15, li_16, li_31, li_35, li_47, li_48, li_49, li_50, li_57, li_99, li_100, li_126, li_139, li_140, li_149, li_150, li_280, li_284, li_285, li_290, li_434, li_1260, li_3472, li_9999, li_65536, nm, nm_w, sf_w, cp_w, ld_I, sa_I, nI_add, pk_mul, Nat.zero_add, nI_leI, nI_ltI, nI_eq, nI_neM, M_neI, nI_ltM, nI_nltM, M_ltI, M_leI, nI_nleM, bnd_some, if_pos, if_neg, dif_t, dif_f, oI, nb_C hcc hd4, hqn, ag_C g1 hqn2 (show 16 < K by omega), hag, ed]
            exact ⟨_, _, _, _, rfl, hfin _ w s2' s1⟩
          | some o =>
            obtain ⟨ho, eo⟩ := agOn_lt hag
            have hox : S 3 o ≠ jM := by rw [eo, ne_eq, nI_neM (by omega)]; exact id
            have hoa : a ≠ o := by
              intro e
              rw [← e, ec, nI_eq (by omega) (by omega)] at eo
              exact nb_ne hqn eo.symm
            obtain ⟨y, r2, v2, k2, eip, ey, i1, i2, i3, i4, i5⟩ := ip_C (pu := pu) hb g1 hI g2 hm1 ha ho hox hK
            obtain ⟨f1, f2⟩ := fld_d i2 (i5 _ _ g3)
            have hfr2 : frC b cq v v2 := hfr1.trans i4
            simp (disch := omega) only [↓jM_e, li_0, li_1, li_2, li_3, li_4, li_5, li_6, li_7, li_8, li_9, li_10, li_13, li_14, li_15, li_16, li_31, li_35, li_47, li_48, li_49, li_50, li_57, li_99, li_100, li_126, li_139, li_140, li_149, li_150, li_280, li_284, li_285, li_290, li_434, li_1260, li_3472, li_9999, li_65536, nm, nm_w, sf_w, cp_w, ld_I, sa_I, nI_add, pk_mul, Nat.zero_add, nI_leI, nI_ltI, nI_eq, nI_neM, M_neI, nI_ltM, nI_nltM, M_ltI, M_leI, nI_nleM, bnd_some, if_pos, if_neg, dif_t, dif_f, oI, nb_C hcc hd4, hqn, ag_C g1 hqn2 (show 16 < K by omega), hag, eip]
            refine ac_ex ?_
            rw [ck_i ⟨i2.1, f1⟩, ey]
            have hfin2 : ∀ (S' : aS) (w : sV) (pu' : Nat → Bool), v2 cq 2 = nI (mkI pu' 16) → (∀ p, ¬ (b ≤ p ∧ p < b + 13) → w p = v2 p) → RelC b S' w → RelC b S' w ∧ cacC (coS S) r2 w (n + (k1 + (k2 + 0))) ∧ w cq 2 = nI (mkI pu' 16) ∧ frC b cq v w := by
              intro S' w pu' hm2 hw hr
              refine ⟨hr, ?_, ?_, fun p p1 p2 p3 p4 p5 => ?_⟩
              · rw [Nat.add_zero, ← Nat.add_assoc]
                exact cacC_w hb i2 (fun p p1 _ => hw p p1)
              · rw [hw cq hbb.2.2.2.2.2.1]; exact hm2
              · rw [hw p p5]; exact hfr2 p p1 p2 p3 p4 p5
            cases hps : pushS S pu a o with
            | some e =>
              rw [hps] at i1 i3
              dsimp only at i1 i3
              rw [tkS_2 hs hpa' (by rw [epc]; exact hfl) (by rw [epc, enb]; exact hag) hps, epc, enb]
              have hp3 : pusS S o e 3 a = nI c := by
                unfold pusS
                rw [s2_p (by decide), shS_3, if_neg hoa, ec]
              obtain ⟨w, ed, s1, s2'⟩ := ad_C (cq := cq) i1 ha hp3 hcc hd4 hqn
              simp (disch := omega) only [↓jM_e, li_0, li_1, li_2, li_3, li_4, li_5, li_6, li_7, li_8, li_9, li_10, li_13, li_14, li_15, li_16, li_31, li_35, li_47, li_48, li_49, li_50, li_57, li_99, li_100, li_126, li_139, li_140, li_149, li_150, li_280, li_284, li_285, li_290, li_434, li_1260, li_3472, li_9999, li_65536, nm, nm_w, sf_w, cp_w, ld_I, sa_I, nI_add, pk_mul, Nat.zero_add, nI_leI, nI_ltI, nI_eq, nI_neM, M_neI, nI_ltM, nI_nltM, M_ltI, M_leI, nI_nleM, bnd_some, if_pos, if_neg, dif_t, dif_f, Option.isSome_some, if_true, ed]
              exact ⟨_, _, _, _, rfl, hfin2 _ w _ i3 s2' s1⟩
            | none =>
              rw [hps] at i1 i3
              dsimp only at i1 i3
              rw [tkS_3 hs hpa' (by rw [epc]; exact hfl) (by rw [epc, enb]; exact hag) hps]
              have hdt := dto_C (cq := cq) i1 hI ha ec hcc f2 g8 hkn (show 16 < K by omega)
              cases hde : detS S a with
              | none =>
                rw [hde] at hdt
                rw [failS_0 hde]
                obtain ⟨w, ed, s1, s2'⟩ := de_C (cq := cq) i1 ha
                simp (disch := omega) only [↓jM_e, li_0, li_1, li_2, li_3, li_4, li_5, li_6, li_7, li_8, li_9, li_10, li_13, li_14, li_15, li_16, li_31, li_35, li_47, li_48, li_49, li_50, li_57, li_99, li_100, li_126, li_139, li_140, li_149, li_150, li_280, li_284, li_285, li_290, li_434, li_1260, li_3472, li_9999, li_65536, nm, nm_w, sf_w, cp_w, ld_I, sa_I, nI_add, pk_mul, Nat.zero_add, nI_leI, nI_ltI, nI_eq, nI_neM, M_neI, nI_ltM, nI_nltM, M_ltI, M_leI, nI_nleM, bnd_some, if_pos, if_neg, dif_t, dif_f, Option.isSome_none, Bool.false_eq_true, if_false, hdt, oI, ed]
                exact ⟨_, _, _, _, rfl, hfin2 _ w _ i3 s2' s1⟩
              | some e =>
                rw [hde] at hdt
                rw [failS_1 hde]
                obtain ⟨he, qe, hqe, hfe⟩ := detS_v hde
                rw [epc] at hqe
                obtain ⟨w, ed, s1, s2'⟩ := ad_C (cq := cq) i1 ha ec hcc he hqe
                have e11 : w (b + 12) 3 = S 11 3 := by
                  rw [rc11 s1 (by decide)]
                  unfold adS
                  rw [s2_j (by decide), s2_p (by decide), shS_r (by decide)]
                simp (disch := omega) only [↓jM_e, li_0, li_1, li_2, li_3, li_4, li_5, li_6, li_7, li_8, li_9, li_10, li_13, li_14, li_15, li_16, li_31, li_35, li_47, li_48, li_49, li_50, li_57, li_99, li_100, li_126, li_139, li_140, li_149, li_150, li_280, li_284, li_285, li_290, li_434, li_1260, li_3472, li_9999, li_65536, nm, nm_w, sf_w, cp_w, ld_I, sa_I, nI_add, pk_mul, Nat.zero_add, nI_leI, nI_ltI, nI_eq, nI_neM, M_neI, nI_ltM, nI_nltM, M_ltI, M_leI, nI_nleM, bnd_some, if_pos, if_neg, dif_t, dif_f, Option.isSome_none, Bool.false_eq_true, if_false, hdt, oI, ed, e11]
                refine ⟨_, _, _, _, rfl, hfin2 _ _ _ i3 (fun p p1 => ?_) ?_⟩
                · rw [s2_ne (by omega)]; exact s2' p p1
                · unfold dtS
                  rw [epc, nbG_e hqe]
                  exact rcS (j := 11) s1 (by decide)
end
