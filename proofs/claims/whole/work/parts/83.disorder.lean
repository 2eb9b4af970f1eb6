/-! disorder -/
def abD (y z : Int32) : Int32 := if nI 0 ≤ y - z then y - z else nI 0 - (y - z)
def apI (p t : Nat) : Int32 := abD (nI (p % 14)) (nI (t % 14)) + abD (nI (p / 14)) (nI (t / 14))
def dsf (S : aS) (a : Nat) : Int32 := apI (clI (S 3 a)) (clI (tgS S a))
def dsP (S : aS) (l a : Nat) : Bool := decide (S 8 a = nI l)
theorem ap_M {p t : Nat} (hp : p < 140) (ht : t < 140) : fX7_apart (nI p) (nI t) = some (apI p t) := by
  unfold fX7_apart
  rw [(co_M hp).1, bnd_some, (co_M ht).1, bnd_some, (co_M hp).2, bnd_some, (co_M ht).2, bnd_some]
  rfl
theorem tgS_m {S : aS} {B a l : Nat} (hI : iS B S) (ha : a < 16) (hx : S 3 a ≠ jM) (h8 : S 8 a = nI l) (hl : l < 16) : tgS S a ≠ jM := by
  obtain ⟨l', hl', el, hlx⟩ := (hI.2.2.2.1 a ha hx).2.2.2.resolve_left (by rw [h8, nI_neM (by omega)]; exact id)
  unfold tgS
  rw [if_neg (by rw [h8, nI_neM (by omega)]; exact id), el, clI_n (by omega)]
  split
  · exact hlx
  · rename_i h1
    split
    · exact hlx
    · exact h1
section
variable {v : sV} {K n : Nat} {r : sR} {W : aW} {B : Nat} {x : Int64 × UInt64}
theorem ds_C (hC : CW W r v n) (hI : IW B W) {l : Nat} (hl : l < 16) (hK : 400000 < K) : fx5 (gX6_disorder_33 K (nI (mkI (dsP W.1 l) 16))) K (nI 0) (nI 0) r v n = some (Sum.inl (smI (dsP W.1 l) (dsf W.1) 16), r, v, 0) := by
  refine fx5_go (P := fun t x3 x4 (r' : sR) (w : sV) (n' : Nat) => x3 = smI (dsP W.1 l) (dsf W.1) t ∧ x4 = nI t ∧ r' = r ∧ w = v ∧ n' = n) (Q := fun o => o = some (Sum.inl (smI (dsP W.1 l) (dsf W.1) 16), r, v, 0)) (N := 16) ?_ ⟨rfl, rfl, rfl, rfl, rfl⟩ (by omega)
  intro t x3 x4 r' w n' ht ⟨e1, e2, e3, e4, e5⟩ k hk
  subst e1 e2 e3 e4 e5
  have hs : smI (dsP W.1 l) (dsf W.1) (t + 1) = smI (dsP W.1 l) (dsf W.1) t + (if dsP W.1 l t = true then dsf W.1 t else nI 0) := rfl
  unfold gX6_disorder_33
  by_cases ht1 : t = 16
  · subst ht1
    simp (disch := omega) only [↓jM_e, li_0, li_1, li_2, li_3, li_4, li_5, li_6, li_7, li_8, li_9, li_10, li_13, li_14, li_15, li_16, li_31, li_35, li_47, li_48, li_49, li_50, li_57, li_99, li_100, li_126, li_139, li_140, li_149, li_150, li_280, li_284, li_285, li_290, li_434, li_1260, li_3472, li_9999, li_65536, nm, nm_w, sf_w, cp_w, ld_I, sa_I, nI_add, pk_mul, Nat.zero_add, nI_leI, nI_ltI, nI_eq, nI_neM, M_neI, nI_ltM, nI_nltM, M_ltI, M_leI, nI_nleM, bnd_some, if_pos, if_neg, dif_t, dif_f]
  · have hlt : t < 16 := by omega
    have hbit : (mkI (dsP W.1 l) 16).testBit t = dsP W.1 l t := mkI_bit hlt
    by_cases hp : W.1 8 t = nI l
    · have hb : dsP W.1 l t = true := decide_eq_true hp
      have hx : W.1 3 t ≠ jM := fun e => by
        have := hI.1.2.2.2.2.1 t hlt e
        rw [hp, nI_neM (by omega)] at this
        exact this
      obtain ⟨c, hc, ec, -⟩ := (hI.1.2.2.1 t hlt).resolve_left hx
      obtain ⟨q, hq, eq, -⟩ := (tgS_v hI.1 hlt hx).resolve_left (tgS_m hI.1 hlt hx hp hl)
      have e5 : w 5 t = nI c := (rc3 hC.1 hlt).trans ec
      have hd : dsf W.1 t = apI c q := by
        unfold dsf
        rw [ec, eq, clI_n (by omega), clI_n (by omega)]
      have h16 : ¬ (16 : Int32) ≤ nI t := by
        show ¬ nI 16 ≤ nI t
        rw [nI_leI (by decide) (by omega)]
        omega
      rw [if_neg h16, in_C mk_16 (by omega), bnd_some, hbit, if_pos hb, if_neg (show ¬ nI 1 = (0 : Int32) by decide), ld_I hlt (by decide), e5, tg_C hC.1 hI.1 hlt hx, bnd_some, eq, (co_C hc).1, bnd_some, (co_C hq).1, bnd_some, nm_w, (co_C hc).2, bnd_some, (co_C hq).2, bnd_some, nm_w, nm_w]
      refine hk hlt _ _ _ _ _ ⟨?_, nI_add t 1, rfl, rfl, rfl⟩
      rw [hs, if_pos hb, hd]
      exact Int32.add_assoc _ _ _
    · have hb : dsP W.1 l t = false := decide_eq_false hp
      simp (disch := omega) only [↓jM_e, li_0, li_1, li_2, li_3, li_4, li_5, li_6, li_7, li_8, li_9, li_10, li_13, li_14, li_15, li_16, li_31, li_35, li_47, li_48, li_49, li_50, li_57, li_99, li_100, li_126, li_139, li_140, li_149, li_150, li_280, li_284, li_285, li_290, li_434, li_1260, li_3472, li_9999, li_65536, nm, nm_w, sf_w, cp_w, ld_I, sa_I, nI_add, pk_mul, Nat.zero_add, nI_leI, nI_ltI, nI_eq, nI_neM, M_neI, nI_ltM, nI_nltM, M_ltI, M_leI, nI_nleM, bnd_some, if_pos, if_neg, dif_t, dif_f, in_C mk_16, hbit, hb, Bool.false_eq_true, if_false]
      exact hk hlt _ _ _ _ _ ⟨by rw [hs, hb, if_neg Bool.false_ne_true]; exact (Int32.add_zero _).symm, rfl, rfl, rfl, rfl⟩
theorem ds_M {w : sV} (hw : RelM W.1 (w 158)) (hI : IW B W) {l : Nat} (hl : l < 16) (h6 : w 157 6 = nI 0) (hK : 400000 < K) : fx2 (gX7_disorder_33 K (nI l) w) K (nI 0) (nI 0) = some (smI (dsP W.1 l) (dsf W.1) 16, w) := by
  refine fx2_go (P := fun t x2 x3 => x2 = smI (dsP W.1 l) (dsf W.1) t ∧ x3 = nI t) (Q := fun o => o = some (smI (dsP W.1 l) (dsf W.1) 16, w)) (N := 16) ?_ ⟨rfl, rfl⟩ (by omega)
  intro t x2 x3 ht ⟨e1, e2⟩ k hk
  subst e1 e2
  have hs : smI (dsP W.1 l) (dsf W.1) (t + 1) = smI (dsP W.1 l) (dsf W.1) t + (if dsP W.1 l t = true then dsf W.1 t else nI 0) := rfl
  unfold gX7_disorder_33
  by_cases ht1 : t = 16
  · subst ht1
    simp (disch := omega) only [↓jM_e, li_0, li_1, li_2, li_3, li_4, li_5, li_6, li_7, li_8, li_9, li_10, li_13, li_14, li_15, li_16, li_31, li_35, li_47, li_48, li_49, li_50, li_57, li_99, li_100, li_126, li_139, li_140, li_149, li_150, li_280, li_284, li_285, li_290, li_434, li_1260, li_3472, li_9999, li_65536, nm, nm_w, sf_w, cp_w, ld_I, sa_I, nI_add, pk_mul, Nat.zero_add, nI_leI, nI_ltI, nI_eq, nI_neM, M_neI, nI_ltM, nI_nltM, M_ltI, M_leI, nI_nleM, bnd_some, if_pos, if_neg, dif_t, dif_f]
  · have hlt : t < 16 := by omega
    by_cases hxx : exS W.1 t = true
    · have hx : W.1 3 t ≠ jM := by rw [exS_t] at hxx; exact hxx
      obtain ⟨c, hc, ec, -⟩ := (hI.1.2.2.1 t hlt).resolve_left hx
      have r1 := (rm hw hlt hx).1.trans ec
      have r8 := (rm hw hlt hx).2.2.2.2.2.1
      by_cases hp : W.1 8 t = nI l
      · have hb : dsP W.1 l t = true := decide_eq_true hp
        obtain ⟨q, hq, eq, -⟩ := (tgS_v hI.1 hlt hx).resolve_left (tgS_m hI.1 hlt hx hp hl)
        have hd : dsf W.1 t = apI c q := by
          unfold dsf
          rw [ec, eq, clI_n (by omega), clI_n (by omega)]
        simp (disch := omega) only [↓jM_e, li_0, li_1, li_2, li_3, li_4, li_5, li_6, li_7, li_8, li_9, li_10, li_13, li_14, li_15, li_16, li_31, li_35, li_47, li_48, li_49, li_50, li_57, li_99, li_100, li_126, li_139, li_140, li_149, li_150, li_280, li_284, li_285, li_290, li_434, li_1260, li_3472, li_9999, li_65536, nm, nm_w, sf_w, cp_w, ld_I, sa_I, nI_add, pk_mul, Nat.zero_add, nI_leI, nI_ltI, nI_eq, nI_neM, M_neI, nI_ltM, nI_nltM, M_ltI, M_leI, nI_nleM, bnd_some, if_pos, if_neg, dif_t, dif_f, h6, ex_M hw hlt, if_pos hxx, at_M hlt (show 6 < 9 by decide), r8, if_pos hp, at_M hlt (show 1 < 9 by decide), r1, tg_M hw hI.1 hlt hx, eq, ap_M hc hq]
        exact hk hlt _ _ ⟨by rw [hs, if_pos hb, hd], rfl⟩
      · have hb : dsP W.1 l t = false := decide_eq_false hp
        simp (disch := omega) only [↓jM_e, li_0, li_1, li_2, li_3, li_4, li_5, li_6, li_7, li_8, li_9, li_10, li_13, li_14, li_15, li_16, li_31, li_35, li_47, li_48, li_49, li_50, li_57, li_99, li_100, li_126, li_139, li_140, li_149, li_150, li_280, li_284, li_285, li_290, li_434, li_1260, li_3472, li_9999, li_65536, nm, nm_w, sf_w, cp_w, ld_I, sa_I, nI_add, pk_mul, Nat.zero_add, nI_leI, nI_ltI, nI_eq, nI_neM, M_neI, nI_ltM, nI_nltM, M_ltI, M_leI, nI_nleM, bnd_some, if_pos, if_neg, dif_t, dif_f, h6, ex_M hw hlt, if_pos hxx, at_M hlt (show 6 < 9 by decide), r8, if_neg hp]
        exact hk hlt _ _ ⟨by rw [hs, hb]; rfl, rfl⟩
    · have h8 : W.1 8 t = jM := hI.1.2.2.2.2.1 t hlt (by rw [← exS_f]; exact Bool.eq_false_iff.mpr hxx)
      have hb : dsP W.1 l t = false := decide_eq_false (by rw [h8, M_neI (by omega)]; exact id)
      simp (disch := omega) only [↓jM_e, li_0, li_1, li_2, li_3, li_4, li_5, li_6, li_7, li_8, li_9, li_10, li_13, li_14, li_15, li_16, li_31, li_35, li_47, li_48, li_49, li_50, li_57, li_99, li_100, li_126, li_139, li_140, li_149, li_150, li_280, li_284, li_285, li_290, li_434, li_1260, li_3472, li_9999, li_65536, nm, nm_w, sf_w, cp_w, ld_I, sa_I, nI_add, pk_mul, Nat.zero_add, nI_leI, nI_ltI, nI_eq, nI_neM, M_neI, nI_ltM, nI_nltM, M_ltI, M_leI, nI_nleM, bnd_some, if_pos, if_neg, dif_t, dif_f, h6, ex_M hw hlt, if_neg hxx]
      exact hk hlt _ _ ⟨by rw [hs, hb]; rfl, rfl⟩
theorem ds_0 {w : sV} {y : Int32} (h : w 157 6 ≠ nI 0) (hK : 400000 < K) : fx2 (gX7_disorder_33 K y w) K (nI 0) (nI 0) = some (nI 0, w) := by
  refine fx2_go (P := fun t x2 x3 => x2 = nI 0 ∧ x3 = nI 0) (Q := fun o => o = some (nI 0, w)) (N := 1) ?_ ⟨rfl, rfl⟩ (by omega)
  intro t x2 x3 ht ⟨e2, e3⟩ k hk
  subst e2 e3
  unfold gX7_disorder_33
  simp (disch := omega) only [↓jM_e, li_0, li_1, li_2, li_3, li_4, li_5, li_6, li_7, li_8, li_9, li_10, li_13, li_14, li_15, li_16, li_31, li_35, li_47, li_48, li_49, li_50, li_57, li_99, li_100, li_126, li_139, li_140, li_149, li_150, li_280, li_284, li_285, li_290, li_434, li_1260, li_3472, li_9999, li_65536, nm, nm_w, sf_w, cp_w, ld_I, sa_I, nI_add, pk_mul, Nat.zero_add, nI_leI, nI_ltI, nI_eq, nI_neM, M_neI, nI_ltM, nI_nltM, M_ltI, M_leI, nI_nleM, bnd_some, if_pos, if_neg, dif_t, dif_f, if_neg h]
theorem a_15 (x1 : Int32) (hC : CW W r v n) (hM : MW W v) (hI : IW B W) (hK : 400000 < K) : OUT B (fL_disorder K x1 r v n x) (fX7_disorder K x1) PI n := by
  have hsh := hC.2.1.1
  rcases arg_A W.1 x1 with hn | ⟨l, hl, rfl, hx⟩
  · refine fin_thr hC hM hI (code := 1) (z := nI 0) (x' := x) (by decide) ?_ (fun w hw => ?_)
    · unfold fL_disorder fX6_disorder
      simp (disch := omega) only [↓jM_e, li_0, li_1, li_2, li_3, li_4, li_5, li_6, li_7, li_8, li_9, li_10, li_13, li_14, li_15, li_16, li_31, li_35, li_47, li_48, li_49, li_50, li_57, li_99, li_100, li_126, li_139, li_140, li_149, li_150, li_280, li_284, li_285, li_290, li_434, li_1260, li_3472, li_9999, li_65536, nm, nm_w, sf_w, cp_w, ld_I, sa_I, nI_add, pk_mul, Nat.zero_add, nI_leI, nI_ltI, nI_eq, nI_neM, M_neI, nI_ltM, nI_nltM, M_ltI, M_leI, nI_nleM, bnd_some, if_pos, if_neg, dif_t, dif_f, rA_n hC.1 hn, acT_r]
      rfl
    · unfold fX7_disorder
      simp (disch := omega) only [↓jM_e, li_0, li_1, li_2, li_3, li_4, li_5, li_6, li_7, li_8, li_9, li_10, li_13, li_14, li_15, li_16, li_31, li_35, li_47, li_48, li_49, li_50, li_57, li_99, li_100, li_126, li_139, li_140, li_149, li_150, li_280, li_284, li_285, li_290, li_434, li_1260, li_3472, li_9999, li_65536, nm, nm_w, sf_w, cp_w, ld_I, sa_I, nI_add, pk_mul, Nat.zero_add, nI_leI, nI_ltI, nI_eq, nI_neM, M_neI, nI_ltM, nI_nltM, M_ltI, M_leI, nI_nleM, bnd_some, if_pos, if_neg, dif_t, dif_f, no_M hw.1.1 hn]
      exact ds_0 (by rw [s2_i]; decide) hK
  · have hcl := @cnI_le (dsP W.1 l) 16
    have hme := me_C (l := l) hC.1 (show 16 < K by omega) (b := 1) (cq := 20)
    have hmk : (nI (mkI (dsP W.1 l) 16) = nI 0) = (cnI (dsP W.1 l) 16 = 0) := by rw [nI_eq0 mk_16, mkI_0]
    have hmM : ∀ w, MW W w → fX7_members K (nI l) w = some (nI (cnI (dsP W.1 l) 16)) := fun w hw => me_M hw.1.1 hI.1 hl (by omega)
    have hme : fX0_membersOf K 20 1 (nI l) v = some (nI (mkI (dsP W.1 l) 16)) := hme
    by_cases h0 : cnI (dsP W.1 l) 16 = 0
    · refine fin_thr hC hM hI (code := 2) (z := nI 0) (x' := x) (by decide) ?_ (fun w hw => ?_)
      · have h00 : nI (mkI (dsP W.1 l) 16) = nI 0 := by rw [hmk]; exact h0
        unfold fL_disorder fX6_disorder
        simp (disch := omega) only [↓jM_e, li_0, li_1, li_2, li_3, li_4, li_5, li_6, li_7, li_8, li_9, li_10, li_13, li_14, li_15, li_16, li_31, li_35, li_47, li_48, li_49, li_50, li_57, li_99, li_100, li_126, li_139, li_140, li_149, li_150, li_280, li_284, li_285, li_290, li_434, li_1260, li_3472, li_9999, li_65536, nm, nm_w, sf_w, cp_w, ld_I, sa_I, nI_add, pk_mul, Nat.zero_add, nI_leI, nI_ltI, nI_eq, nI_neM, M_neI, nI_ltM, nI_nltM, M_ltI, M_leI, nI_nleM, bnd_some, if_pos, if_neg, dif_t, dif_f, rA_y hC.1 hl hx, acT_l, ck_i hsh, hme, h00]
        rfl
      · have e := hmM w hw
        rw [h0] at e
        unfold fX7_disorder
        simp (disch := omega) only [↓jM_e, li_0, li_1, li_2, li_3, li_4, li_5, li_6, li_7, li_8, li_9, li_10, li_13, li_14, li_15, li_16, li_31, li_35, li_47, li_48, li_49, li_50, li_57, li_99, li_100, li_126, li_139, li_140, li_149, li_150, li_280, li_284, li_285, li_290, li_434, li_1260, li_3472, li_9999, li_65536, nm, nm_w, sf_w, cp_w, ld_I, sa_I, nI_add, pk_mul, Nat.zero_add, nI_leI, nI_ltI, nI_eq, nI_neM, M_neI, nI_ltM, nI_nltM, M_ltI, M_leI, nI_nleM, bnd_some, if_pos, if_neg, dif_t, dif_f, ya_M hw.1.1 hl hx, e]
        exact ds_0 (by rw [s2_i]; decide) hK
    · refine fin_rd hC hM hI (x' := ((smI (dsP W.1 l) (dsf W.1) 16).toInt64, x.2)) ?_ (fun w hw => ⟨smI (dsP W.1 l) (dsf W.1) 16, ?_, rfl⟩)
      · have h00 : ¬ nI (mkI (dsP W.1 l) 16) = nI 0 := by rw [hmk]; exact h0
        unfold fL_disorder fX6_disorder
        simp (disch := omega) only [↓jM_e, li_0, li_1, li_2, li_3, li_4, li_5, li_6, li_7, li_8, li_9, li_10, li_13, li_14, li_15, li_16, li_31, li_35, li_47, li_48, li_49, li_50, li_57, li_99, li_100, li_126, li_139, li_140, li_149, li_150, li_280, li_284, li_285, li_290, li_434, li_1260, li_3472, li_9999, li_65536, nm, nm_w, sf_w, cp_w, ld_I, sa_I, nI_add, pk_mul, Nat.zero_add, nI_leI, nI_ltI, nI_eq, nI_neM, M_neI, nI_ltM, nI_nltM, M_ltI, M_leI, nI_nleM, bnd_some, if_pos, if_neg, dif_t, dif_f, rA_y hC.1 hl hx, acT_l, ck_i hsh, hme, if_neg h00, ds_C hC hI hl hK]
        rfl
      · unfold fX7_disorder
        simp (disch := omega) only [↓jM_e, li_0, li_1, li_2, li_3, li_4, li_5, li_6, li_7, li_8, li_9, li_10, li_13, li_14, li_15, li_16, li_31, li_35, li_47, li_48, li_49, li_50, li_57, li_99, li_100, li_126, li_139, li_140, li_149, li_150, li_280, li_284, li_285, li_290, li_434, li_1260, li_3472, li_9999, li_65536, nm, nm_w, sf_w, cp_w, ld_I, sa_I, nI_add, pk_mul, Nat.zero_add, nI_leI, nI_ltI, nI_eq, nI_neM, M_neI, nI_ltM, nI_nltM, M_ltI, M_leI, nI_nleM, bnd_some, if_pos, if_neg, dif_t, dif_f, ya_M hw.1.1 hl hx, hmM w hw]
        exact ds_M (MW_t hw).1.1 hI hl s2_i hK
end
