/-! FIELDS OF TARGETS; FREE DIRECTIONS; MOVES, ON BOTH SIDES -/
noncomputable def DT (co : Nat → Nat) (x : Int32) : Nat → Option Nat := if x = jM then (fun _ => none) else dst co (clI x)
def fld (co : Nat → Nat) (r : sR) (v : sV) (x : Int32) (q : Nat) : Prop := (x = jM ∧ q = 16) ∨ ∃ t, t < 140 ∧ x = nI t ∧ co t ≠ 0 ∧ r 15 t = q + 1 ∧ v q 1 = nI 1
theorem DT_M {co : Nat → Nat} {c : Nat} : DT co jM c = none := by unfold DT; rw [if_pos rfl]
theorem DT_I {co : Nat → Nat} {t : Nat} (ht : t < 140) : DT co (nI t) = dst co t := by
  unfold DT
  rw [if_neg (by rw [nI_neM (by omega)]; exact id), clI_n (by omega)]
section
variable {co : Nat → Nat} {r : sR} {v : sV} {n K a2 : Nat}
theorem fld_d (h : cacC co r v n) {x : Int32} {q : Nat} (hf : fld co r v x q) : okF r n q ∧ ∀ c, c < 140 → v (q + 1) c = oI (DT co x c) := by
  have hn := cacC_n h
  rcases hf with ⟨rfl, rfl⟩ | ⟨t, ht, rfl, h0, e1, e2⟩
  · exact ⟨⟨Or.inl rfl, h.1.1 16 0 17 rfl, by omega, h.1.2.1 16 rfl, h.1.2.1 17 rfl⟩, fun c hc => by rw [DT_M]; exact h.2.2.2.1 c hc⟩
  · rcases h.2.2.2.2.1 t ht with g | ⟨q', g1, g2, g3, g4⟩
    · rw [g] at e1; cases e1
    · have eqq : q' = q := by omega
      subst eqq
      refine ⟨g3, fun c hc => ?_⟩
      rcases g4 with g4 | ⟨-, d, hd, hv⟩
      · rw [g4] at e2
        exact absurd e2 (by decide)
      · rw [hv c hc, DT_I ht, dst_eq hd hc]
theorem tw_C (hco : ∀ c, c < 140 → co c ≤ 9) (hcost : ∀ c, c < 140 → v a2 c = nI (co c)) (h : cacC co r v n) (ha2 : a2 < 172 ∧ a2 ≠ 17 ∧ a2 ≠ 18 ∧ a2 ≠ 19) {x : Int32} (hx : x = jM ∨ ∃ t, t < 140 ∧ x = nI t ∧ co t ≠ 0) (hK : 2000 < K) :
    ∃ q r' v' k, fX2_toward K a2 x r v n = some (q, r', v', k) ∧ cacC co r' v' (n + k) ∧ fld co r' v' x q ∧ (∀ p, p < 172 → p ≠ 18 → p ≠ 19 → v' p = v p) ∧ ∀ x0 q0, fld co r v x0 q0 → fld co r' v' x0 q0 := by
  rcases hx with rfl | ⟨t, ht, rfl, h0⟩
  · exact ⟨16, r, v, 0, toward_M, h, Or.inl ⟨rfl, rfl⟩, fun _ _ _ _ => rfl, fun _ _ g => g⟩
  · obtain ⟨q, r', v', k, e, g1, g2, g3, g4, g5, g6, g7⟩ := toward_go hco hcost h ha2 ht h0 hK
    refine ⟨q, r', v', k, e, g1, Or.inr ⟨t, ht, rfl, h0, g6⟩, g3, fun x0 q0 g => ?_⟩
    rcases g with g | ⟨t0, ht0, rfl, h00, e1, e2⟩
    · exact Or.inl g
    · exact Or.inr ⟨t0, ht0, rfl, h00, g7 t0 q0 ht0 e1 e2⟩
theorem tw_D (hco : ∀ c, c < 140 → co c ≤ 9) (hcost : ∀ c, c < 140 → v a2 c = nI (co c)) (h : cacC co r v n) (ha2 : a2 < 172 ∧ a2 ≠ 17 ∧ a2 ≠ 18 ∧ a2 ≠ 19) {t : Nat} (ht : t < 140) (h0 : co t ≠ 0) (hK : 2000 < K) : isD co t (dst co t) := by
  obtain ⟨q, r', v', k, e, g1, g2, g3, g4, -⟩ := toward_go hco hcost h ha2 ht h0 hK
  exact g4
end
/-- the free direction with the least distance below a bound -/
def bfS (S : aS) (D : Nat → Option Nat) (c : Nat) : Nat → Nat → Option Nat → Nat → Option Nat
  | 0, _, best, _ => best
  | m + 1, e, best, L => match nbO c e with
    | none => bfS S D c m (e + 1) best L
    | some q => if frS S q = true ∧ (D q).getD 9999 < L then bfS S D c m (e + 1) (some e) ((D q).getD 9999) else bfS S D c m (e + 1) best L
theorem bfS_n {S : aS} {D : Nat → Option Nat} {c m e L : Nat} {best : Option Nat} (h : nbO c e = none) : bfS S D c (m + 1) e best L = bfS S D c m (e + 1) best L := by
  show (match nbO c e with
    | none => bfS S D c m (e + 1) best L
    | some q => if frS S q = true ∧ (D q).getD 9999 < L then bfS S D c m (e + 1) (some e) ((D q).getD 9999) else bfS S D c m (e + 1) best L) = _
  rw [h]
theorem bfS_t {S : aS} {D : Nat → Option Nat} {c m e L q : Nat} {best : Option Nat} (h : nbO c e = some q) (h2 : frS S q = true) (h3 : (D q).getD 9999 < L) : bfS S D c (m + 1) e best L = bfS S D c m (e + 1) (some e) ((D q).getD 9999) := by
  show (match nbO c e with
    | none => bfS S D c m (e + 1) best L
    | some q => if frS S q = true ∧ (D q).getD 9999 < L then bfS S D c m (e + 1) (some e) ((D q).getD 9999) else bfS S D c m (e + 1) best L) = _
  rw [h]
  exact if_pos ⟨h2, h3⟩
theorem bfS_f {S : aS} {D : Nat → Option Nat} {c m e L q : Nat} {best : Option Nat} (h : nbO c e = some q) (h2 : ¬ (frS S q = true ∧ (D q).getD 9999 < L)) : bfS S D c (m + 1) e best L = bfS S D c m (e + 1) best L := by
  show (match nbO c e with
    | none => bfS S D c m (e + 1) best L
    | some q => if frS S q = true ∧ (D q).getD 9999 < L then bfS S D c m (e + 1) (some e) ((D q).getD 9999) else bfS S D c m (e + 1) best L) = _
  rw [h]
  exact if_neg h2
theorem bfS_v {S : aS} {D : Nat → Option Nat} {c : Nat} : ∀ {m e L : Nat} {best : Option Nat}, e + m = 4 → (∀ b, best = some b → b < 4 ∧ ∃ q, nbO c b = some q ∧ frS S q = true) → ∀ b, bfS S D c m e best L = some b → b < 4 ∧ ∃ q, nbO c b = some q ∧ frS S q = true
  | 0, _, _, _, _, h, b, hb => h b hb
  | m + 1, e, L, best, hem, h, b, hb => by
    cases hn : nbO c e with
    | none =>
      rw [bfS_n hn] at hb
      exact bfS_v (by omega) h b hb
    | some q =>
      by_cases h2 : frS S q = true ∧ (D q).getD 9999 < L
      · rw [bfS_t hn h2.1 h2.2] at hb
        exact bfS_v (by omega) (fun b' hb' => by cases hb'; exact ⟨by omega, q, hn, h2.1⟩) b hb
      · rw [bfS_f hn h2] at hb
        exact bfS_v (by omega) h b hb
section
variable {S : aS} {B K b cq fq : Nat} {v : sV} {D : Nat → Option Nat}
set_option maxHeartbeats 1000000 in
theorem bf_C (h : RelC b S v) (hI : iS B S) (hf : ∀ c, c < 140 → v (fq + 1) c = oI (D c)) (hD : okD D) {c lim : Nat} (hc : c < 140) (hl : lim ≤ 9999) (hK : 16 < K) : fX0_bestFreeDirection K cq b fq (nI c) (nI lim) v = some (oI (bfS S D c 4 0 none (lim + 1))) := by
  unfold fX0_bestFreeDirection
  simp (disch := omega) only [↓jM_e, li_0, li_1, li_2, li_3, li_4, li_5, li_6, li_7, li_8, li_9, li_10, li_13, li_14, li_15, li_16, li_31, li_35, li_47, li_48, li_49, li_50, li_57, li_99, li_100, li_126, li_139, li_140, li_149, li_150, li_280, li_284, li_285, li_290, li_434, li_1260, li_3472, li_9999, li_65536, nm, nm_w, sf_w, cp_w, ld_I, sa_I, nI_add, pk_mul, Nat.zero_add, nI_leI, nI_ltI, nI_eq, nI_neM, M_neI, nI_ltM, nI_nltM, M_ltI, M_leI, nI_nleM, bnd_some, if_pos, if_neg, dif_t, dif_f]
  refine fx3_go (P := fun e x4 x5 x6 => x6 = nI e ∧ ∃ best L, x4 = oI best ∧ x5 = nI L ∧ L ≤ 10000 ∧ bfS S D c (4 - e) e best L = bfS S D c 4 0 none (lim + 1)) (Q := fun o => o = some (oI (bfS S D c 4 0 none (lim + 1)))) (N := 4) ?_ ⟨rfl, none, lim + 1, rfl, rfl, by omega, rfl⟩ (by omega)
  intro e x4 x5 x6 he ⟨e6, best, L, e4, e5, hL, hs⟩ k hk
  subst e6 e4 e5
  unfold gX0_bestFreeDirection_11
  by_cases he4 : e = 4
  · subst he4
    rw [← hs]
    simp (disch := omega) only [↓jM_e, li_0, li_1, li_2, li_3, li_4, li_5, li_6, li_7, li_8, li_9, li_10, li_13, li_14, li_15, li_16, li_31, li_35, li_47, li_48, li_49, li_50, li_57, li_99, li_100, li_126, li_139, li_140, li_149, li_150, li_280, li_284, li_285, li_290, li_434, li_1260, li_3472, li_9999, li_65536, nm, nm_w, sf_w, cp_w, ld_I, sa_I, nI_add, pk_mul, Nat.zero_add, nI_leI, nI_ltI, nI_eq, nI_neM, M_neI, nI_ltM, nI_nltM, M_ltI, M_leI, nI_nleM, bnd_some, if_pos, if_neg, dif_t, dif_f]
    rfl
  · have hlt : e < 4 := by omega
    rw [show 4 - e = (4 - (e + 1)) + 1 by omega] at hs
    cases hn : nbO c e with
    | none =>
      rw [bfS_n hn] at hs
      simp (disch := omega) only [↓jM_e, li_0, li_1, li_2, li_3, li_4, li_5, li_6, li_7, li_8, li_9, li_10, li_13, li_14, li_15, li_16, li_31, li_35, li_47, li_48, li_49, li_50, li_57, li_99, li_100, li_126, li_139, li_140, li_149, li_150, li_280, li_284, li_285, li_290, li_434, li_1260, li_3472, li_9999, li_65536, nm, nm_w, sf_w, cp_w, ld_I, sa_I, nI_add, pk_mul, Nat.zero_add, nI_leI, nI_ltI, nI_eq, nI_neM, M_neI, nI_ltM, nI_nltM, M_ltI, M_leI, nI_nleM, bnd_some, if_pos, if_neg, dif_t, dif_f, nb_C hc hlt, hn, oI, fr_CM hK]
      exact hk hlt _ _ _ ⟨rfl, best, L, rfl, rfl, hL, hs⟩
    | some q =>
      have hq2 := nb_lt hc hn
      by_cases hfr : frS S q = true
      · cases hd : D q with
        | none =>
          by_cases hlt2 : 9999 < L
          · rw [bfS_t hn hfr (by rw [hd]; exact hlt2)] at hs
            rw [hd] at hs
            have hs : bfS S D c (4 - (e + 1)) (e + 1) (some e) 9999 = bfS S D c 4 0 none (lim + 1) := hs
            simp (disch := omega) only [↓jM_e, li_0, li_1, li_2, li_3, li_4, li_5, li_6, li_7, li_8, li_9, li_10, li_13, li_14, li_15, li_16, li_31, li_35, li_47, li_48, li_49, li_50, li_57, li_99, li_100, li_126, li_139, li_140, li_149, li_150, li_280, li_284, li_285, li_290, li_434, li_1260, li_3472, li_9999, li_65536, nm, nm_w, sf_w, cp_w, ld_I, sa_I, nI_add, pk_mul, Nat.zero_add, nI_leI, nI_ltI, nI_eq, nI_neM, M_neI, nI_ltM, nI_nltM, M_ltI, M_leI, nI_nleM, bnd_some, if_pos, if_neg, dif_t, dif_f, nb_C hc hlt, hn, oI, fr_C h hI hq2 hK, if_pos hfr, di_C hf hq2, hd]
            unfold bX0_bestFreeDirection_56
            simp (disch := omega) only [↓jM_e, li_0, li_1, li_2, li_3, li_4, li_5, li_6, li_7, li_8, li_9, li_10, li_13, li_14, li_15, li_16, li_31, li_35, li_47, li_48, li_49, li_50, li_57, li_99, li_100, li_126, li_139, li_140, li_149, li_150, li_280, li_284, li_285, li_290, li_434, li_1260, li_3472, li_9999, li_65536, nm, nm_w, sf_w, cp_w, ld_I, sa_I, nI_add, pk_mul, Nat.zero_add, nI_leI, nI_ltI, nI_eq, nI_neM, M_neI, nI_ltM, nI_nltM, M_ltI, M_leI, nI_nleM, bnd_some, if_pos, if_neg, dif_t, dif_f]
            exact hk hlt _ _ _ ⟨rfl, some e, 9999, rfl, rfl, by omega, hs⟩
          · rw [bfS_f hn (by rw [hd]; exact fun g => hlt2 g.2)] at hs
            simp (disch := omega) only [↓jM_e, li_0, li_1, li_2, li_3, li_4, li_5, li_6, li_7, li_8, li_9, li_10, li_13, li_14, li_15, li_16, li_31, li_35, li_47, li_48, li_49, li_50, li_57, li_99, li_100, li_126, li_139, li_140, li_149, li_150, li_280, li_284, li_285, li_290, li_434, li_1260, li_3472, li_9999, li_65536, nm, nm_w, sf_w, cp_w, ld_I, sa_I, nI_add, pk_mul, Nat.zero_add, nI_leI, nI_ltI, nI_eq, nI_neM, M_neI, nI_ltM, nI_nltM, M_ltI, M_leI, nI_nleM, bnd_some, if_pos, if_neg, dif_t, dif_f, nb_C hc hlt, hn, oI, fr_C h hI hq2 hK, if_pos hfr, di_C hf hq2, hd]
            unfold bX0_bestFreeDirection_56
            simp (disch := omega) only [↓jM_e, li_0, li_1, li_2, li_3, li_4, li_5, li_6, li_7, li_8, li_9, li_10, li_13, li_14, li_15, li_16, li_31, li_35, li_47, li_48, li_49, li_50, li_57, li_99, li_100, li_126, li_139, li_140, li_149, li_150, li_280, li_284, li_285, li_290, li_434, li_1260, li_3472, li_9999, li_65536, nm, nm_w, sf_w, cp_w, ld_I, sa_I, nI_add, pk_mul, Nat.zero_add, nI_leI, nI_ltI, nI_eq, nI_neM, M_neI, nI_ltM, nI_nltM, M_ltI, M_leI, nI_nleM, bnd_some, if_pos, if_neg, dif_t, dif_f]
            exact hk hlt _ _ _ ⟨rfl, best, L, rfl, rfl, by omega, hs⟩
        | some kd =>
          have hkd := hD q hq2 kd hd
          by_cases hlt2 : kd < L
          · rw [bfS_t hn hfr (by rw [hd]; exact hlt2)] at hs
            rw [hd] at hs
            have hs : bfS S D c (4 - (e + 1)) (e + 1) (some e) kd = bfS S D c 4 0 none (lim + 1) := hs
            simp (disch := omega) only [↓jM_e, li_0, li_1, li_2, li_3, li_4, li_5, li_6, li_7, li_8, li_9, li_10, li_13, li_14, li_15, li_16, li_31, li_35, li_47, li_48, li_49, li_50, li_57, li_99, li_100, li_126, li_139, li_140, li_149, li_150, li_280, li_284, li_285, li_290, li_434, li_1260, li_3472, li_9999, li_65536, nm, nm_w, sf_w, cp_w, ld_I, sa_I, nI_add, pk_mul, Nat.zero_add, nI_leI, nI_ltI, nI_eq, nI_neM, M_neI, nI_ltM, nI_nltM, M_ltI, M_leI, nI_nleM, bnd_some, if_pos, if_neg, dif_t, dif_f, nb_C hc hlt, hn, oI, fr_C h hI hq2 hK, if_pos hfr, di_C hf hq2, hd]
            unfold bX0_bestFreeDirection_56
            simp (disch := omega) only [↓jM_e, li_0, li_1, li_2, li_3, li_4, li_5, li_6, li_7, li_8, li_9, li_10, li_13, li_14, li_15, li_16, li_31, li_35, li_47, li_48, li_49, li_50, li_57, li_99, li_100, li_126, li_139, li_140, li_149, li_150, li_280, li_284, li_285, li_290, li_434, li_1260, li_3472, li_9999, li_65536, nm, nm_w, sf_w, cp_w, ld_I, sa_I, nI_add, pk_mul, Nat.zero_add, nI_leI, nI_ltI, nI_eq, nI_neM, M_neI, nI_ltM, nI_nltM, M_ltI, M_leI, nI_nleM, bnd_some, if_pos, if_neg, dif_t, dif_f]
            exact hk hlt _ _ _ ⟨rfl, some e, kd, rfl, rfl, by omega, hs⟩
          · rw [bfS_f hn (by rw [hd]; exact fun g => hlt2 g.2)] at hs
            simp (disch := omega) only [↓jM_e, li_0, li_1, li_2, li_3, li_4, li_5, li_6, li_7, li_8, li_9, li_10, li_13, li_14, li_15, li_16, li_31, li_35, li_47, li_48, li_49, li_50, li_57, li_99, li_100, li_126, li_139, li_140, li_149, li_150, li_280, li_284, li_285, li_290, li_434, li_1260, li_3472, li_9999, li_65536, nm, nm_w, sf_w, cp_w, ld_I, sa_I, nI_add, pk_mul, Nat.zero_add, nI_leI, nI_ltI, nI_eq, nI_neM, M_neI, nI_ltM, nI_nltM, M_ltI, M_leI, nI_nleM, bnd_some, if_pos, if_neg, dif_t, dif_f, nb_C hc hlt, hn, oI, fr_C h hI hq2 hK, if_pos hfr, di_C hf hq2, hd]
            unfold bX0_bestFreeDirection_56
            simp (disch := omega) only [↓jM_e, li_0, li_1, li_2, li_3, li_4, li_5, li_6, li_7, li_8, li_9, li_10, li_13, li_14, li_15, li_16, li_31, li_35, li_47, li_48, li_49, li_50, li_57, li_99, li_100, li_126, li_139, li_140, li_149, li_150, li_280, li_284, li_285, li_290, li_434, li_1260, li_3472, li_9999, li_65536, nm, nm_w, sf_w, cp_w, ld_I, sa_I, nI_add, pk_mul, Nat.zero_add, nI_leI, nI_ltI, nI_eq, nI_neM, M_neI, nI_ltM, nI_nltM, M_ltI, M_leI, nI_nleM, bnd_some, if_pos, if_neg, dif_t, dif_f]
            exact hk hlt _ _ _ ⟨rfl, best, L, rfl, rfl, by omega, hs⟩
      · rw [bfS_f hn (fun g => hfr g.1)] at hs
        simp (disch := omega) only [↓jM_e, li_0, li_1, li_2, li_3, li_4, li_5, li_6, li_7, li_8, li_9, li_10, li_13, li_14, li_15, li_16, li_31, li_35, li_47, li_48, li_49, li_50, li_57, li_99, li_100, li_126, li_139, li_140, li_149, li_150, li_280, li_284, li_285, li_290, li_434, li_1260, li_3472, li_9999, li_65536, nm, nm_w, sf_w, cp_w, ld_I, sa_I, nI_add, pk_mul, Nat.zero_add, nI_leI, nI_ltI, nI_eq, nI_neM, M_neI, nI_ltM, nI_nltM, M_ltI, M_leI, nI_nleM, bnd_some, if_pos, if_neg, dif_t, dif_f, nb_C hc hlt, hn, oI, fr_C h hI hq2 hK, if_neg hfr]
        exact hk hlt _ _ _ ⟨rfl, best, L, rfl, rfl, by omega, hs⟩
theorem sh_C (h : RelC b S v) {a c d q : Nat} (ha : a < 16) (hp : S 3 a = nI c) (hc : c < 140) (hd : d < 4) (hq : nbO c d = some q) : ∃ v', fX0_shift cq b (nI a) (nI d) v = some v' ∧ RelC b (shS S a d q) v' ∧ ∀ p, ¬ (b ≤ p ∧ p < b + 13) → v' p = v p := by
  have hq2 := nb_lt hc hq
  have e3 : v (b + 4) a = nI c := (rc3 h ha).trans hp
  have e1 : s2 (s2 v (b + 4) a (nI q)) (b + 7) a (nI d) (b + 2) q = S 1 q := by rw [s2_p (by omega), s2_p (by omega)]; exact rc1 h hq2
  refine ⟨_, ?_, rcS (j := 1) (rcS (j := 6) (rcS (j := 3) h (by decide)) (by decide)) (by decide), fun p hp => ?_⟩
  · unfold fX0_shift
    simp (disch := omega) only [↓jM_e, li_0, li_1, li_2, li_3, li_4, li_5, li_6, li_7, li_8, li_9, li_10, li_13, li_14, li_15, li_16, li_31, li_35, li_47, li_48, li_49, li_50, li_57, li_99, li_100, li_126, li_139, li_140, li_149, li_150, li_280, li_284, li_285, li_290, li_434, li_1260, li_3472, li_9999, li_65536, nm, nm_w, sf_w, cp_w, ld_I, sa_I, nI_add, pk_mul, Nat.zero_add, nI_leI, nI_ltI, nI_eq, nI_neM, M_neI, nI_ltM, nI_nltM, M_ltI, M_leI, nI_nleM, bnd_some, if_pos, if_neg, dif_t, dif_f, e3, nb_C hc hd, hq, oI, e1]
  · rw [s2_ne (by omega), s2_ne (by omega), s2_ne (by omega)]
/-- an agent's own move -/
def adS (S : aS) (a d q : Nat) : aS := s2 (s2 (shS S a d q) 7 a (nI 0)) 11 1 (S 11 1 + nI 1)
def deS (S : aS) (a : Nat) : aS := s2 (s2 S 7 a (S 7 a + nI 1)) 11 4 (S 11 4 + nI 1)
theorem ad_C (h : RelC b S v) {a c d q : Nat} (ha : a < 16) (hp : S 3 a = nI c) (hc : c < 140) (hd : d < 4) (hq : nbO c d = some q) : ∃ v', fX0_advance cq b (nI a) (nI d) v = some v' ∧ RelC b (adS S a d q) v' ∧ ∀ p, ¬ (b ≤ p ∧ p < b + 13) → v' p = v p := by
  obtain ⟨v1, e1, h1, f1⟩ := sh_C (cq := cq) h ha hp hc hd hq
  have e11 : s2 v1 (b + 8) a (nI 0) (b + 12) 1 = S 11 1 := by rw [s2_p (by omega), rc11 h1 (by decide), shS_r (by decide)]
  refine ⟨_, ?_, rcS (j := 11) (rcS (j := 7) h1 (by decide)) (by decide), fun p hp => ?_⟩
  · unfold fX0_advance
    rw [e1, bnd_some]
    simp (disch := omega) only [↓jM_e, li_0, li_1, li_2, li_3, li_4, li_5, li_6, li_7, li_8, li_9, li_10, li_13, li_14, li_15, li_16, li_31, li_35, li_47, li_48, li_49, li_50, li_57, li_99, li_100, li_126, li_139, li_140, li_149, li_150, li_280, li_284, li_285, li_290, li_434, li_1260, li_3472, li_9999, li_65536, nm, nm_w, sf_w, cp_w, ld_I, sa_I, nI_add, pk_mul, Nat.zero_add, nI_leI, nI_ltI, nI_eq, nI_neM, M_neI, nI_ltM, nI_nltM, M_ltI, M_leI, nI_nleM, bnd_some, if_pos, if_neg, dif_t, dif_f, e11]
  · rw [s2_ne (by omega), s2_ne (by omega)]
    exact f1 p hp
theorem de_C (h : RelC b S v) {a : Nat} (ha : a < 16) : ∃ v', fX0_delay cq b (nI a) v = some v' ∧ RelC b (deS S a) v' ∧ ∀ p, ¬ (b ≤ p ∧ p < b + 13) → v' p = v p := by
  have e7 : v (b + 8) a = S 7 a := rc7 h ha
  have e11 : s2 v (b + 8) a (S 7 a + nI 1) (b + 12) 4 = S 11 4 := by rw [s2_p (by omega)]; exact rc11 h (by decide)
  refine ⟨_, ?_, rcS (j := 11) (rcS (j := 7) h (by decide)) (by decide), fun p hp => ?_⟩
  · unfold fX0_delay
    simp (disch := omega) only [↓jM_e, li_0, li_1, li_2, li_3, li_4, li_5, li_6, li_7, li_8, li_9, li_10, li_13, li_14, li_15, li_16, li_31, li_35, li_47, li_48, li_49, li_50, li_57, li_99, li_100, li_126, li_139, li_140, li_149, li_150, li_280, li_284, li_285, li_290, li_434, li_1260, li_3472, li_9999, li_65536, nm, nm_w, sf_w, cp_w, ld_I, sa_I, nI_add, pk_mul, Nat.zero_add, nI_leI, nI_ltI, nI_eq, nI_neM, M_neI, nI_ltM, nI_nltM, M_ltI, M_leI, nI_nleM, bnd_some, if_pos, if_neg, dif_t, dif_f, e7, e11]
  · rw [s2_ne (by omega), s2_ne (by omega)]
/-- the reference's side of the same -/
def frN (v v' : sV) : Prop := ∀ p, p ≠ 158 → p ≠ 162 → p ≠ 163 → p ≠ 164 → p ≠ 165 → v' p = v p
theorem frM.N {v v' : sV} (h : frM v v') : frN v v' := fun p _ h2 h3 h4 h5 => h p h2 h3 h4 h5
theorem frN.trans {v v' v'' : sV} (h : frN v v') (h2 : frN v' v'') : frN v v'' := fun p g1 g2 g3 g4 g5 => (h2 p g1 g2 g3 g4 g5).trans (h p g1 g2 g3 g4 g5)
theorem frN_s2 {v : sV} {i : Nat} {x : Int32} : frN v (s2 v 158 i x) := fun p h _ _ _ _ => s2_ne h
theorem mI_s2 {S' : aS} {i : Nat} {x : Int32} (h : mI S v) (hco : coS S' = coS S) (hr : RelM S' (upd (v 158) i x)) : mI S' (s2 v 158 i x) :=
  ⟨by rw [s2_upd]; exact hr, by rw [hco]; exact cacM_v h.2 (s2_ne (by decide)) (s2_ne (by decide))⟩
theorem mv_M (h : mI S v) {a c d q : Nat} (ha : a < 16) (hp : S 3 a = nI c) (hc : c < 140) (hd : d < 4) (hq : nbO c d = some q) : ∃ v', fX7_moves (nI a) (nI d) v = some v' ∧ mI (shS S a d q) v' ∧ frN v v' := by
  have hq2 := nb_lt hc hq
  have hx : S 3 a ≠ jM := by rw [hp, ne_eq, nI_neM (by omega)]; exact id
  have r1 : v 158 (290 + 9 * a + 1) = nI c := (rm h.1 ha hx).1.trans hp
  have g1 : mI (s2 S 3 a (nI q)) (s2 v 158 (290 + 9 * a + 1) (nI q)) := mI_s2 h rfl (rmUa (k := 1) h.1 ha (by decide) hx (fun _ => by rw [ne_eq, nI_neM (by omega)]; exact id) (fun e => by cases e))
  have hx1 : s2 S 3 a (nI q) 3 a ≠ jM := by rw [s2_i, ne_eq, nI_neM (by omega)]; exact id
  have g2 : mI (s2 (s2 S 3 a (nI q)) 6 a (nI d)) (s2 (s2 v 158 (290 + 9 * a + 1) (nI q)) 158 (290 + 9 * a + 4) (nI d)) := mI_s2 g1 rfl (rmUa (k := 4) g1.1 ha (by decide) hx1 (fun e => by cases e) (fun e => by cases e))
  have hix : 140 + q < 434 := by omega
  have ep : s2 (s2 v 158 (290 + 9 * a + 1) (nI q)) 158 (290 + 9 * a + 4) (nI d) 158 (140 + q) = S 1 q := by rw [s2_j (by omega), s2_j (by omega)]; exact h.1.2.1 q hq2
  have g3 : mI (shS S a d q) (s2 (s2 (s2 v 158 (290 + 9 * a + 1) (nI q)) 158 (290 + 9 * a + 4) (nI d)) 158 (140 + q) (S 1 q + nI 1)) := mI_s2 g2 rfl (rmU1 g2.1 hq2)
  refine ⟨_, ?_, g3, (frN_s2.trans frN_s2).trans frN_s2⟩
  unfold fX7_moves
  simp (disch := omega) only [↓jM_e, li_0, li_1, li_2, li_3, li_4, li_5, li_6, li_7, li_8, li_9, li_10, li_13, li_14, li_15, li_16, li_31, li_35, li_47, li_48, li_49, li_50, li_57, li_99, li_100, li_126, li_139, li_140, li_149, li_150, li_280, li_284, li_285, li_290, li_434, li_1260, li_3472, li_9999, li_65536, nm, nm_w, sf_w, cp_w, ld_I, sa_I, nI_add, pk_mul, Nat.zero_add, nI_leI, nI_ltI, nI_eq, nI_neM, M_neI, nI_ltM, nI_nltM, M_ltI, M_leI, nI_nleM, bnd_some, if_pos, if_neg, dif_t, dif_f, at_M ha (show 1 < 9 by decide), r1, nb_M hc hd, hq, oI, pt_M ha (show 1 < 9 by decide), pt_M ha (show 4 < 9 by decide), ep]
theorem st_285 (h : mI S v) {i : Nat} (hi : i < 5) : mI (s2 S 11 i (S 11 i + nI 1)) (s2 v 158 (285 + i) (S 11 i + nI 1)) := mI_s2 h rfl (rmU11 h.1 hi)
theorem ms_M (h : mI S v) {a c d q : Nat} (ha : a < 16) (hp : S 3 a = nI c) (hc : c < 140) (hd : d < 4) (hq : nbO c d = some q) : ∃ v', fX7_movesItself (nI a) (nI d) v = some v' ∧ mI (adS S a d q) v' ∧ frN v v' := by
  obtain ⟨v1, e1, h1, f1⟩ := mv_M h ha hp hc hd hq
  have hq2 := nb_lt hc hq
  have hx1 : shS S a d q 3 a ≠ jM := by rw [shS_3, if_pos rfl, ne_eq, nI_neM (by omega)]; exact id
  have g1 : mI (s2 (shS S a d q) 7 a (nI 0)) (s2 v1 158 (290 + 9 * a + 5) (nI 0)) := mI_s2 h1 rfl (rmUa (k := 5) h1.1 ha (by decide) hx1 (fun e => by cases e) (fun e => by cases e))
  have e11 : s2 (shS S a d q) 7 a (nI 0) 11 1 = S 11 1 := by rw [s2_p (by decide), shS_r (by decide)]
  have ep : s2 v1 158 (290 + 9 * a + 5) (nI 0) 158 286 = S 11 1 := (g1.1.2.2.2.2.1 1 (by decide)).trans e11
  have g2 := st_285 g1 (i := 1) (by decide)
  rw [e11] at g2
  refine ⟨_, ?_, g2, (f1.trans frN_s2).trans frN_s2⟩
  unfold fX7_movesItself
  rw [e1, bnd_some]
  simp (disch := omega) only [↓jM_e, li_0, li_1, li_2, li_3, li_4, li_5, li_6, li_7, li_8, li_9, li_10, li_13, li_14, li_15, li_16, li_31, li_35, li_47, li_48, li_49, li_50, li_57, li_99, li_100, li_126, li_139, li_140, li_149, li_150, li_280, li_284, li_285, li_290, li_434, li_1260, li_3472, li_9999, li_65536, nm, nm_w, sf_w, cp_w, ld_I, sa_I, nI_add, pk_mul, Nat.zero_add, nI_leI, nI_ltI, nI_eq, nI_neM, M_neI, nI_ltM, nI_nltM, M_ltI, M_leI, nI_nleM, bnd_some, if_pos, if_neg, dif_t, dif_f, pt_M ha (show 5 < 9 by decide), show (286 : Int32) = nI 286 from rfl, ep]
theorem wt_M (h : mI S v) {a : Nat} (ha : a < 16) (hx : S 3 a ≠ jM) : ∃ v', fX7_waits (nI a) v = some v' ∧ mI (deS S a) v' ∧ frN v v' := by
  have r5 := (rm h.1 ha hx).2.2.2.2.1
  have g1 : mI (s2 S 7 a (S 7 a + nI 1)) (s2 v 158 (290 + 9 * a + 5) (S 7 a + nI 1)) := mI_s2 h rfl (rmUa (k := 5) h.1 ha (by decide) hx (fun e => by cases e) (fun e => by cases e))
  have ep : s2 v 158 (290 + 9 * a + 5) (S 7 a + nI 1) 158 289 = S 11 4 := (g1.1.2.2.2.2.1 4 (by decide)).trans (s2_p (by decide))
  have g2 := st_285 g1 (i := 4) (by decide)
  rw [show s2 S 7 a (S 7 a + nI 1) 11 4 = S 11 4 from s2_p (by decide)] at g2
  refine ⟨_, ?_, g2, frN_s2.trans frN_s2⟩
  unfold fX7_waits
  simp (disch := omega) only [↓jM_e, li_0, li_1, li_2, li_3, li_4, li_5, li_6, li_7, li_8, li_9, li_10, li_13, li_14, li_15, li_16, li_31, li_35, li_47, li_48, li_49, li_50, li_57, li_99, li_100, li_126, li_139, li_140, li_149, li_150, li_280, li_284, li_285, li_290, li_434, li_1260, li_3472, li_9999, li_65536, nm, nm_w, sf_w, cp_w, ld_I, sa_I, nI_add, pk_mul, Nat.zero_add, nI_leI, nI_ltI, nI_eq, nI_neM, M_neI, nI_ltM, nI_nltM, M_ltI, M_leI, nI_nleM, bnd_some, if_pos, if_neg, dif_t, dif_f, at_M ha (show 5 < 9 by decide), r5, pt_M ha (show 5 < 9 by decide), show (289 : Int32) = nI 289 from rfl, ep]
end
