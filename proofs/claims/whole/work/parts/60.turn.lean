/-! A TURN -/
def nbG (c d : Nat) : Nat := (nbO c d).getD 0
theorem nbG_e {c d q : Nat} (h : nbO c d = some q) : nbG c d = q := by unfold nbG; rw [h]; rfl
def pcS (S : aS) (a : Nat) : Nat := clI (S 3 a)
noncomputable def DA (S : aS) (a : Nat) : Nat → Option Nat := DT (coS S) (tgS S a)
noncomputable def pushS (S : aS) (pu : Nat → Bool) (a o : Nat) : Option Nat := if ¬ S 5 a ≤ S 5 o ∧ pu o = false then bfS S (DA S o) (pcS S o) 4 0 none 10000 else none
noncomputable def detS (S : aS) (a : Nat) : Option Nat := if S 12 0 ≤ S 7 a then bfS S (DA S a) (pcS S a) 4 0 none ((DA S a (pcS S a)).getD 0 + 3) else none
def dtS (S : aS) (a e : Nat) : aS := s2 (adS S a e (nbG (pcS S a) e)) 11 3 (S 11 3 + nI 1)
noncomputable def failS (S : aS) (a : Nat) : aS := match detS S a with
  | none => deS S a
  | some e => dtS S a e
def pusS (S : aS) (o e : Nat) : aS := s2 (shS S o e (nbG (pcS S o) e)) 11 2 (S 11 2 + nI 1)
def puU (pu : Nat → Bool) (o : Nat) : Nat → Bool := fun i => decide (i = o) || pu i
noncomputable def tkS (S : aS) (pu : Nat → Bool) (a : Nat) : aS × (Nat → Bool) :=
  if seS S a = true then (s2 S 7 a (nI 0), pu)
  else if pu a = true then (S, pu)
  else match flS (coS S) (DA S a) (pcS S a) with
    | none => (deS S a, pu)
    | some d => match agOn S (nbG (pcS S a) d) with
      | none => (adS S a d (nbG (pcS S a) d), pu)
      | some o => match pushS S pu a o with
        | some e => (adS (pusS S o e) a d (nbG (pcS S a) d), puU pu o)
        | none => (failS S a, pu)
theorem in_C {m a : Nat} (hm : m < 2 ^ 31) (ha : a < 31) : fX6_isIn (nI m) (nI a) = some (if m.testBit a = true then nI 1 else nI 0) := by
  unfold fX6_isIn
  simp only [↓jM_e, li_0, li_1, li_2, li_3, li_4, li_5, li_6, li_7, li_8, li_9, li_10, li_13, li_14, li_15, li_16, li_31, li_35, li_47, li_48, li_49, li_50, li_57, li_99, li_100, li_126, li_139, li_140, li_149, li_150, li_280, li_284, li_285, li_290, li_434, li_1260, li_3472, li_9999, li_65536]
  have h := bit_0 hm ha
  cases hb : m.testBit a with
  | false =>
    rw [if_pos (h.mpr hb)]
    simp
  | true =>
    rw [if_neg (fun g => by rw [h.mp g] at hb; cases hb)]
    simp
theorem mk_16 {P : Nat → Bool} : mkI P 16 < 2 ^ 31 := Nat.lt_of_lt_of_le mkI_lt (by decide)
theorem or_I {m a : Nat} (hm : m < 2 ^ 16) (ha : a < 16) : nI m ||| (nI 1 <<< (nI a &&& nI 31)) = nI (m ||| 2 ^ a) := by
  have e2 : 2 ^ a ≤ 2 ^ 15 := Nat.pow_le_pow_right (by decide) (by omega)
  have e3 : m ||| 2 ^ a < 2 ^ 16 := Nat.or_lt_two_pow hm (by omega)
  rw [sh_1 (by omega)]
  apply Int32.toBitVec_inj.mp
  rw [Int32.toBitVec_or]
  apply BitVec.eq_of_toNat_eq
  rw [BitVec.toNat_or, pk_tn (by omega), pk_tn (by omega), pk_tn (by omega)]
theorem mk_set {P : Nat → Bool} {a : Nat} (ha : a < 16) : mkI P 16 ||| 2 ^ a = mkI (puU P a) 16 := by
  apply Nat.eq_of_testBit_eq
  intro j
  rw [Nat.testBit_or]
  by_cases hj : j < 16
  · rw [mkI_bit hj, mkI_bit hj]
    unfold puU
    by_cases hja : j = a
    · rw [hja, Nat.testBit_two_pow_self]
      simp
    · rw [Nat.testBit_two_pow_of_ne (fun e => hja e.symm)]
      simp [hja]
  · have h1 : ∀ Q : Nat → Bool, (mkI Q 16).testBit j = false := fun Q => Nat.testBit_lt_two_pow (Nat.lt_of_lt_of_le mkI_lt (Nat.pow_le_pow_right (by decide) (by omega)))
    rw [h1, h1, Nat.testBit_two_pow_of_ne (by omega)]
    rfl
theorem ac_ex {α β : Type} {a : α} {r' : sR} {v' : sV} {k n : Nat} {f : α → sR → sV → Nat → Option (β × sR × sV × Nat)} {P : β → sR → sV → Nat → Prop} (h : ∃ b r2 v2 k2, f a r' v' (n + k) = some (b, r2, v2, k2) ∧ P b r2 v2 (k + k2)) : ∃ b r2 v2 k2, ac (a, r', v', k) n f = some (b, r2, v2, k2) ∧ P b r2 v2 k2 := by
  obtain ⟨b, r2, v2, k2, h1, h2⟩ := h
  refine ⟨b, r2, v2, k + k2, ?_, h2⟩
  unfold ac
  simp only [h1]
  rfl
def frC (b cq : Nat) (v v' : sV) : Prop := ∀ p, p < 172 → p ≠ 18 → p ≠ 19 → p ≠ cq → ¬ (b ≤ p ∧ p < b + 13) → v' p = v p
theorem frC.rf {b cq : Nat} {v : sV} : frC b cq v v := fun _ _ _ _ _ _ => rfl
theorem frC.trans {b cq : Nat} {v v' v'' : sV} (h : frC b cq v v') (g : frC b cq v' v'') : frC b cq v v'' := fun p h1 h2 h3 h4 h5 => (g p h1 h2 h3 h4 h5).trans (h p h1 h2 h3 h4 h5)
theorem fld_v {co : Nat → Nat} {r : sR} {v v' : sV} {n : Nat} {x : Int32} {q : Nat} (h : cacC co r v n) (hf : fld co r v x q) (hv : ∀ p, 172 ≤ p → v' p = v p) : fld co r v' x q := by
  rcases hf with g | ⟨t, ht, e, h0, e1, e2⟩
  · exact Or.inl g
  · refine Or.inr ⟨t, ht, e, h0, e1, ?_⟩
    rcases h.2.2.2.2.1 t ht with g | ⟨q', g1, g2, -⟩
    · rw [g] at e1; cases e1
    · rw [hv q (by omega)]
      exact e2
theorem DA_ok {S : aS} {a : Nat} (h : ∀ t, tgS S a = nI t → t < 140 → isD (coS S) t (dst (coS S) t)) (hv : tgS S a = jM ∨ isC S (tgS S a)) : okD (DA S a) := by
  intro c hc k hk
  unfold DA at hk
  rcases hv with e | ⟨t, ht, e, -⟩
  · rw [e, DT_M] at hk
    cases hk
  · rw [e, DT_I ht] at hk
    exact isD_ok (h t e ht) c hc k hk
section
variable {S : aS} {B K b cq n : Nat} {r : sR} {v : sV} {pu : Nat → Bool}
/-- toward the target of an agent -/
theorem tw_A (hb : okC cq b) (h : RelC b S v) (hI : iS B S) (hc : cacC (coS S) r v n) {a : Nat} (ha : a < 16) (hx : S 3 a ≠ jM) (hK : 2000 < K) :
    ∃ q r' v' k, fX2_toward K (b + 1) (tgS S a) r v n = some (q, r', v', k) ∧ RelC b S v' ∧ cacC (coS S) r' v' (n + k) ∧ fld (coS S) r' v' (tgS S a) q ∧ okF r' (n + k) q ∧ (∀ c, c < 140 → v' (q + 1) c = oI (DA S a c)) ∧ (∀ p, p < 172 → p ≠ 18 → p ≠ 19 → v' p = v p) ∧ (∀ x0 q0, fld (coS S) r v x0 q0 → fld (coS S) r' v' x0 q0) ∧ okD (DA S a) := by
  have hcost : ∀ c, c < 140 → v (b + 1) c = nI (coS S c) := fun c hc => (rc0 h hc).trans (hI.1 c hc).1
  have ha2 : b + 1 < 172 ∧ b + 1 ≠ 17 ∧ b + 1 ≠ 18 ∧ b + 1 ≠ 19 := by
    unfold okC at hb
    omega
  have hv := tgS_v hI ha hx
  obtain ⟨q, r', v', k, e, g1, g2, g3, g4⟩ := tw_C (iS_co hI) hcost hc ha2 (hv.imp id (fun ⟨t, ht, e, h0⟩ => ⟨t, ht, e, h0⟩)) hK
  obtain ⟨g5, g6⟩ := fld_d g1 g2
  refine ⟨q, r', v', k, e, rcF h (fun p p1 p2 => g3 p (by unfold okC at hb; omega) (by unfold okC at hb; omega) (by unfold okC at hb; omega)), g1, g2, g5, g6, g3, g4, DA_ok (fun t et ht => ?_) hv⟩
  rcases hv with e1 | ⟨t', ht', e1, h0⟩
  · rw [e1, M_neI (by omega)] at et
    exact et.elim
  · rw [e1, nI_eq (by omega) (by omega)] at et
    subst et
    exact tw_D (iS_co hI) hcost hc ha2 ht h0 hK
theorem cacC_w {v' : sV} {co : Nat → Nat} (hb : okC cq b) (h : cacC co r v n) (hv : ∀ p, ¬ (b ≤ p ∧ p < b + 13) → p ≠ cq → v' p = v p) : cacC co r v' n :=
  cacC_v h (fun p hp => hv p (by unfold okC at hb; omega) (by unfold okC at hb; omega))
set_option maxHeartbeats 2000000 in
theorem ip_C (hb : okC cq b) (h : RelC b S v) (hI : iS B S) (hc : cacC (coS S) r v n) (hm : v cq 2 = nI (mkI pu 16)) {a o : Nat} (ha : a < 16) (ho : o < 16) (hx : S 3 o ≠ jM) (hK : 2000 < K) :
    ∃ y r' v' k, fX0_pushAside K cq b (nI o) (nI a) r v n = some (y, r', v', k) ∧ y = (if (pushS S pu a o).isSome = true then nI 1 else nI 0) ∧ RelC b (match pushS S pu a o with | none => S | some e => pusS S o e) v' ∧ cacC (coS S) r' v' (n + k) ∧ v' cq 2 = nI (mkI (match pushS S pu a o with | none => pu | some _ => puU pu o) 16) ∧ frC b cq v v' ∧ ∀ x0 q0, fld (coS S) r v x0 q0 → fld (coS S) r' v' x0 q0 := by
  have e5o := rc5 h ho
  have e5a := rc5 h ha
  have hbo := mkI_bit (P := pu) (N := 16) ho
  unfold fX0_pushAside
  by_cases h5 : S 5 a ≤ S 5 o
  · have hP : pushS S pu a o = none := if_neg (fun g => g.1 h5)
    rw [hP]
    simp (disch := omega) only [↓jM_e, li_0, li_1, li_2, li_3, li_4, li_5, li_6, li_7, li_8, li_9, li_10, li_13, li_14, li_15, li_16, li_31, li_35, li_47, li_48, li_49, li_50, li_57, li_99, li_100, li_126, li_139, li_140, li_149, li_150, li_280, li_284, li_285, li_290, li_434, li_1260, li_3472, li_9999, li_65536, nm, nm_w, sf_w, cp_w, ld_I, sa_I, nI_add, pk_mul, Nat.zero_add, nI_leI, nI_ltI, nI_eq, nI_neM, M_neI, nI_ltM, nI_nltM, M_ltI, M_leI, nI_nleM, bnd_some, if_pos, if_neg, dif_t, dif_f, e5o, e5a, if_pos h5]
    exact ⟨_, _, _, _, rfl, rfl, h, hc, hm, frC.rf, fun _ _ g => g⟩
  · cases hpo : pu o with
    | true =>
      have hP : pushS S pu a o = none := if_neg (fun g => by rw [hpo] at g; cases g.2)
      rw [hP]
      rw [hpo] at hbo
      simp (disch := omega) only [↓jM_e, li_0, li_1, li_2, li_3, li_4, li_5, li_6, li_7, li_8, li_9, li_10, li_13, li_14, li_15, li_16, li_31, li_35, li_47, li_48, li_49, li_50, li_57, li_99, li_100, li_126, li_139, li_140, li_149, li_150, li_280, li_284, li_285, li_290, li_434, li_1260, li_3472, li_9999, li_65536, nm, nm_w, sf_w, cp_w, ld_I, sa_I, nI_add, pk_mul, Nat.zero_add, nI_leI, nI_ltI, nI_eq, nI_neM, M_neI, nI_ltM, nI_nltM, M_ltI, M_leI, nI_nleM, bnd_some, if_pos, if_neg, dif_t, dif_f, e5o, e5a, if_neg h5, hm, in_C mk_16 (show o < 31 by omega), hbo]
      exact ⟨_, _, _, _, rfl, rfl, h, hc, hm, frC.rf, fun _ _ g => g⟩
    | false =>
      have hP : pushS S pu a o = bfS S (DA S o) (pcS S o) 4 0 none 10000 := if_pos ⟨h5, hpo⟩
      rw [hP]
      rw [hpo] at hbo
      have hbo : ¬ (mkI pu 16).testBit o = true := by rw [hbo]; exact Bool.false_ne_true
      obtain ⟨q, r1, v1, k1, etw, g1, g2, g3, g4, g5, g6, g7, g8⟩ := tw_A hb h hI hc ho hx hK
      obtain ⟨c, hcc, ec, -⟩ := (hI.2.2.1 o ho).resolve_left hx
      have e3 : v1 (b + 4) o = nI c := (rc3 g1 ho).trans ec
      have epc : pcS S o = c := by unfold pcS; rw [ec]; exact clI_n (by omega)
      have hm1 : v1 cq 2 = nI (mkI pu 16) := by rw [g6 cq (by unfold okC at hb; omega) (by unfold okC at hb; omega) (by unfold okC at hb; omega)]; exact hm
      simp (disch := omega) only [↓jM_e, li_0, li_1, li_2, li_3, li_4, li_5, li_6, li_7, li_8, li_9, li_10, li_13, li_14, li_15, li_16, li_31, li_35, li_47, li_48, li_49, li_50, li_57, li_99, li_100, li_126, li_139, li_140, li_149, li_150, li_280, li_284, li_285, li_290, li_434, li_1260, li_3472, li_9999, li_65536, nm, nm_w, sf_w, cp_w, ld_I, sa_I, nI_add, pk_mul, Nat.zero_add, nI_leI, nI_ltI, nI_eq, nI_neM, M_neI, nI_ltM, nI_nltM, M_ltI, M_leI, nI_nleM, bnd_some, if_pos, if_neg, dif_t, dif_f, e5o, e5a, if_neg h5, hm, in_C mk_16 (show o < 31 by omega), if_neg hbo, tg_C h hI ho hx, etw]
      refine ac_ex ?_
      rw [ck_i ⟨g2.1, g4⟩]
      simp (disch := omega) only [↓jM_e, li_0, li_1, li_2, li_3, li_4, li_5, li_6, li_7, li_8, li_9, li_10, li_13, li_14, li_15, li_16, li_31, li_35, li_47, li_48, li_49, li_50, li_57, li_99, li_100, li_126, li_139, li_140, li_149, li_150, li_280, li_284, li_285, li_290, li_434, li_1260, li_3472, li_9999, li_65536, nm, nm_w, sf_w, cp_w, ld_I, sa_I, nI_add, pk_mul, Nat.zero_add, nI_leI, nI_ltI, nI_eq, nI_neM, M_neI, nI_ltM, nI_nltM, M_ltI, M_leI, nI_nleM, bnd_some, if_pos, if_neg, dif_t, dif_f, e3, bf_C g1 hI g5 g8 hcc (show 9999 ≤ 9999 by decide) (show 16 < K by omega)]
      rw [epc]
      have hbv := @bfS_v S (DA S o) c 4 0 10000 none rfl (fun b hb => by cases hb)
      cases hbf : bfS S (DA S o) c 4 0 none 10000 with
      | none =>
        simp (disch := omega) only [↓jM_e, li_0, li_1, li_2, li_3, li_4, li_5, li_6, li_7, li_8, li_9, li_10, li_13, li_14, li_15, li_16, li_31, li_35, li_47, li_48, li_49, li_50, li_57, li_99, li_100, li_126, li_139, li_140, li_149, li_150, li_280, li_284, li_285, li_290, li_434, li_1260, li_3472, li_9999, li_65536, nm, nm_w, sf_w, cp_w, ld_I, sa_I, nI_add, pk_mul, Nat.zero_add, nI_leI, nI_ltI, nI_eq, nI_neM, M_neI, nI_ltM, nI_nltM, M_ltI, M_leI, nI_nleM, bnd_some, if_pos, if_neg, dif_t, dif_f, oI]
        exact ⟨_, _, _, _, rfl, rfl, g1, by rw [Nat.add_zero]; exact g2, hm1, fun p p1 p2 p3 p4 p5 => g6 p p1 p2 p3, g7⟩
      | some e =>
        obtain ⟨he, q', hq', hfr⟩ := hbv e hbf
        obtain ⟨v2, es, s1, s2'⟩ := sh_C (cq := cq) g1 ho ec hcc he hq'
        have hm2 : v2 cq 2 = nI (mkI pu 16) := by rw [s2' cq (by unfold okC at hb; omega)]; exact hm1
        have e11 : s2 v2 cq 2 (nI (mkI (puU pu o) 16)) (b + 12) 2 = S 11 2 := by rw [s2_p (by unfold okC at hb; omega), rc11 s1 (by decide), shS_r (by decide)]
        have hor : nI (mkI pu 16) ||| nI 1 <<< (nI o &&& nI 31) = nI (mkI (puU pu o) 16) := by rw [or_I mkI_lt ho, mk_set ho]
        have enb : nbG c e = q' := nbG_e hq'
        simp (disch := omega) only [↓jM_e, li_0, li_1, li_2, li_3, li_4, li_5, li_6, li_7, li_8, li_9, li_10, li_13, li_14, li_15, li_16, li_31, li_35, li_47, li_48, li_49, li_50, li_57, li_99, li_100, li_126, li_139, li_140, li_149, li_150, li_280, li_284, li_285, li_290, li_434, li_1260, li_3472, li_9999, li_65536, nm, nm_w, sf_w, cp_w, ld_I, sa_I, nI_add, pk_mul, Nat.zero_add, nI_leI, nI_ltI, nI_eq, nI_neM, M_neI, nI_ltM, nI_nltM, M_ltI, M_leI, nI_nleM, bnd_some, if_pos, if_neg, dif_t, dif_f, oI, es, hm2, hor, e11]
        refine ⟨_, _, _, _, rfl, rfl, ?_, ?_, ?_, ?_, ?_⟩
        · show RelC b (s2 (shS S o e (nbG (pcS S o) e)) 11 2 (S 11 2 + nI 1)) _
          rw [epc, enb]
          refine rcS (j := 11) (rcF s1 (fun p p1 p2 => ?_)) (by decide)
          rw [s2_ne (by unfold okC at hb; omega)]
        · rw [Nat.add_zero]
          refine cacC_w hb (v := v2) (cacC_w hb g2 (fun p p1 _ => s2' p p1)) (fun p p1 p2 => ?_)
          rw [s2_ne (by omega), s2_ne p2]
        · rw [s2_p (by unfold okC at hb; omega), s2_i]
        · intro p p1 p2 p3 p4 p5
          rw [s2_ne (by omega), s2_ne p4, s2' p p5]
          exact g6 p p1 p2 p3
        · intro x0 q0 hf
          have hf1 := fld_v g2 (g7 x0 q0 hf) (v' := v2) (fun p hp => s2' p (by unfold okC at hb; omega))
          refine fld_v (cacC_w hb g2 (fun p p1 _ => s2' p p1)) hf1 (fun p hp => ?_)
          rw [s2_ne (by unfold okC at hb; omega), s2_ne (by unfold okC at hb; omega)]
end
