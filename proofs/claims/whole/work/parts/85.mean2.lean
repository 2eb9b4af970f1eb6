/-! meanDistance: the two sides -/
def nz64 (n : Nat) : Bool := match FP.Core.decode FP.Core.b64 n with
  | .fin _ c _ => decide (c ≠ 0)
  | _ => true
theorem nz64_y {n : Nat} (h : nz64 n = true) : ∀ q, FP.Core.decode FP.Core.b64 n ≠ .fin false 0 q := by
  intro q e
  unfold nz64 at h
  rw [e] at h
  cases h
theorem pos_lt {n : Nat} (h : n < 9218868437227405312) : pos64 n = true := by
  have h1 : n / 4503599627370496 < 2047 := by omega
  have hE : FP.Core.fieldE FP.Core.b64 n = n / 4503599627370496 := by
    unfold FP.Core.fieldE
    rw [en_tl, en_ex]
    omega
  have hS : FP.Core.fieldS FP.Core.b64 n = false := by
    unfold FP.Core.fieldS
    rw [en_tl, en_ex, show n / 4503599627370496 / 2048 = 0 by omega]
    rfl
  unfold pos64 FP.Core.decode
  rw [hE, hS, en_ex, if_neg (by omega)]
  by_cases h0 : n / 4503599627370496 = 0
  · rw [if_pos h0]
  · rw [if_neg h0]
theorem en_fin2 {c : Nat} {q : Int} (hc : c < 9007199254740992) (hq : q ≤ 900) : FP.Core.encode FP.Core.b64 (.fin false c q) < 9218868437227405312 := by
  show (if c < FP.Core.Fmt.tails FP.Core.b64 then FP.Core.assemble FP.Core.b64 false 0 c else FP.Core.assemble FP.Core.b64 false ((q - FP.Core.Fmt.qmin FP.Core.b64).toNat + 1) (c - FP.Core.Fmt.tails FP.Core.b64)) < _
  unfold FP.Core.assemble
  rw [en_tl, en_ex, en_qm]
  have : Bool.toNat false = 0 := rfl
  rw [this]
  split
  · omega
  · omega
theorem en_bd2 {c : Nat} {q : Int} (hc : c < 9007199254740992) (hq : q ≤ 900) : FP.Core.encode FP.Core.b64 (FP.Core.bound FP.Core.b64 false c q) < 9218868437227405312 := by
  unfold FP.Core.bound
  rw [en_qx, if_pos (by omega)]
  exact en_fin2 hc hq
theorem en_se2 (c : Nat) {q : Int} (hq : q ≤ 800) : FP.Core.encode FP.Core.b64 (FP.Core.settle FP.Core.b64 false c q) < 9218868437227405312 := by
  unfold FP.Core.settle
  split
  · rename_i h
    exact en_bd2 (Nat.lt_of_lt_of_le h (by decide)) (by omega)
  · exact en_bd2 (by decide) (by omega)
theorem en_ld {s : Nat} (h : s < 2 ^ 31) : FP.Core.leading s 1 ≤ 31 := by
  have h1 : s.log2 ≤ 31 := by
    by_cases h0 : s = 0
    · rw [h0]; decide
    · have := (Nat.log2_lt h0).mpr h
      omega
  have h2 : Nat.log2 1 = 0 := by decide
  unfold FP.Core.leading
  dsimp only
  rw [h2]
  split <;> omega
theorem i2d_p {s : Nat} (h : s < 2 ^ 31) : pos64 (FP.i2d (nI s)).toNat = true := by
  have hn : FP.Core.fromInt FP.Core.b64 (nI s).toInt < 9218868437227405312 := by
    rw [nI_toInt h]
    show FP.Core.encode FP.Core.b64 (FP.Core.roundRatio FP.Core.b64 (decide ((s : Int) < 0)) (s : Int).natAbs 1 0) < _
    rw [decide_eq_false (by omega), Int.natAbs_natCast]
    unfold FP.Core.roundRatio
    split
    · exact en_fin2 (by decide) (by decide)
    · unfold FP.Core.roundAt
      refine en_se2 _ ?_
      have hl := en_ld h
      have hp : ((FP.Core.Fmt.p FP.Core.b64 : Nat) : Int) = 53 := rfl
      unfold FP.Core.quantum
      rw [en_qm, hp]
      omega
  have e : (FP.i2d (nI s)).toNat = FP.Core.fromInt FP.Core.b64 (nI s).toInt := by
    show (UInt64.ofNat (FP.Core.fromInt FP.Core.b64 (nI s).toInt)).toNat = _
    exact UInt64.toNat_ofNat_of_lt' (Nat.lt_trans hn (by decide))
  rw [e]
  exact pos_lt hn
theorem nz_all : ∀ c, c < 17 → c = 0 ∨ nz64 (FP.i2d (nI c)).toNat = true := by decide +kernel
theorem md_fp {s c : Nat} (hs : s < 32768) (hc : c < 17) (h0 : c ≠ 0) : (FP.ddiv (FP.i2d (nI s)) (FP.i2d (nI c))).toNat ≤ 9218868437227405312 := by
  exact dd_le (i2d_p (by omega)) (i2d_p (by omega)) (nz64_y ((nz_all c hc).resolve_left h0))
def snI (P : Nat → Bool) (f : Nat → Nat) : Nat → Nat
  | 0 => 0
  | t + 1 => snI P f t + (if P t = true then f t else 0)
noncomputable def mdD (S : aS) (a : Nat) : Option Nat := DA S a (clI (S 3 a))
noncomputable def mdP (S : aS) (a : Nat) : Bool := exS S a && (mdD S a).isSome
noncomputable def mdf (S : aS) (a : Nat) : Nat := (mdD S a).getD 0
theorem snI_le {P : Nat → Bool} {f : Nat → Nat} {b : Nat} : ∀ {N : Nat}, (∀ t, t < N → P t = true → f t ≤ b) → snI P f N ≤ b * N
  | 0, _ => Nat.zero_le _
  | N + 1, h => by
    have ih := @snI_le P f b N (fun t ht => h t (by omega))
    show snI P f N + (if P N = true then f N else 0) ≤ b * (N + 1)
    rw [Nat.mul_succ]
    split
    · rename_i hp
      have := h N (by omega) hp
      omega
    · omega
def gF {γ : Type} (Q : γ → sV → sR → Nat → Prop) (n : Nat) (o : Option (γ × sR × sV × Nat)) : Prop := ∃ y r' v' k, o = some (y, r', v', k) ∧ Q y v' r' (n + k)
section
variable {v : sV} {K n : Nat} {r : sR} {W : aW} {B : Nat} {x : Int64 × UInt64}
theorem ac_gF {α γ : Type} {Q : γ → sV → sR → Nat → Prop} {k : Nat} {a : α} {f : α → sR → sV → Nat → Option (γ × sR × sV × Nat)} (h : gF Q (n + k) (f a r v (n + k))) : gF Q n (ac (a, r, v, k) n f) := by
  obtain ⟨y, r', v', k', e, h1⟩ := h
  refine ⟨y, r', v', k + k', ?_, by rw [← Nat.add_assoc]; exact h1⟩
  unfold ac
  simp only [e]
  rfl
theorem ddv_y {β : Type} {a b : UInt64} {f : UInt64 → Option β} (h : FP.ddiv a b &&& 0x7fffffffffffffff ≤ 0x7ff0000000000000) : ddv a b f = f (FP.ddiv a b) := if_pos h
noncomputable def mdR (S : aS) : Sum UInt64 Nat := if cnI (mdP S) 16 = 0 then Sum.inr 5 else Sum.inl (FP.ddiv (FP.i2d (nI (snI (mdP S) (mdf S) 16))) (FP.i2d (nI (cnI (mdP S) 16))))
theorem md_b {S : aS} (hI : iS B S) (hO : okT S) : ∀ t, t < 16 → mdP S t = true → mdf S t ≤ 1251 := by
  intro t ht hp
  unfold mdP at hp
  rw [Bool.and_eq_true] at hp
  have hx : S 3 t ≠ jM := by rw [← exS_t]; exact hp.1
  obtain ⟨c, hc, ec, -⟩ := (hI.2.2.1 t ht).resolve_left hx
  have hd := okD_A hI hO ht hx
  unfold mdf mdD
  rw [ec, clI_n (by omega)]
  cases h : DA S t c with
  | none => exact Nat.zero_le _
  | some k => exact hd c hc k h
theorem md_C (hC : CW W r v n) (hI : IW B W) (hO : okT W.1) (hK : 400000 < K) : gF (fun y v' r' n' => y = mdR W.1 ∧ RelC 1 W.1 v' ∧ cacC (coS W.1) r' v' n' ∧ ∀ p, p < 172 → p ≠ 18 → p ≠ 19 → v' p = v p) n (fX6_meanDistance K r v n) := by
  have hcl : ∀ t, cnI (mdP W.1) t ≤ t := fun t => cnI_le
  have hsl : ∀ t, t ≤ 16 → snI (mdP W.1) (mdf W.1) t ≤ 1251 * t := fun t ht => snI_le (fun u hu => md_b hI.1 hO u (by omega))
  unfold fX6_meanDistance
  refine fx6_gR (P := fun t x1 x2 x3 r' w n' => x1 = nI (snI (mdP W.1) (mdf W.1) t) ∧ x2 = nI (cnI (mdP W.1) t) ∧ x3 = nI t ∧ RelC 1 W.1 w ∧ cacC (coS W.1) r' w n' ∧ ∀ p, p < 172 → p ≠ 18 → p ≠ 19 → w p = v p) (R := fun _ _ _ _ _ n o => gF (fun y v' r' n' => y = mdR W.1 ∧ RelC 1 W.1 v' ∧ cacC (coS W.1) r' v' n' ∧ ∀ p, p < 172 → p ≠ 18 → p ≠ 19 → v' p = v p) n o) (N := 16) ?_ ⟨rfl, rfl, rfl, hC.1, hC.2.1, fun _ _ _ _ => rfl⟩ (by omega)
  intro t x1 x2 x3 r' w n' ht ⟨e1, e2, e3, h1, h2, h3⟩ k hk
  subst e1 e2 e3
  have hs : snI (mdP W.1) (mdf W.1) (t + 1) = snI (mdP W.1) (mdf W.1) t + (if mdP W.1 t = true then mdf W.1 t else 0) := rfl
  have hc : cnI (mdP W.1) (t + 1) = cnI (mdP W.1) t + (if mdP W.1 t = true then 1 else 0) := rfl
  have hct := hcl t
  have hst := hsl t ht
  have hno : mdP W.1 t = false → nI (snI (mdP W.1) (mdf W.1) t) = nI (snI (mdP W.1) (mdf W.1) (t + 1)) ∧ nI (cnI (mdP W.1) t) = nI (cnI (mdP W.1) (t + 1)) := by
    intro g
    rw [hs, hc, g]
    exact ⟨rfl, rfl⟩
  unfold gX6_meanDistance_6
  by_cases ht1 : t = 16
  · subst ht1
    rw [if_pos (show (16 : Int32) ≤ nI 16 from by decide)]
    by_cases h0 : cnI (mdP W.1) 16 = 0
    · rw [if_pos (show nI (cnI (mdP W.1) 16) = (0 : Int32) from by rw [h0]; rfl)]
      exact ⟨_, _, _, 0, rfl, by unfold mdR; rw [if_pos h0], h1, h2, h3⟩
    · have h00 : ¬ nI (cnI (mdP W.1) 16) = nI 0 := by rw [nI_eq (by omega) (by decide)]; exact h0
      rw [if_neg (show ¬ nI (cnI (mdP W.1) 16) = (0 : Int32) from h00), ddv_y (le_vf (md_fp (by omega) (by omega) h0))]
      exact ⟨_, _, _, 0, rfl, by unfold mdR; rw [if_neg h0], h1, h2, h3⟩
  · have hlt : t < 16 := by omega
    by_cases hxx : exS W.1 t = true
    · have hx : W.1 3 t ≠ jM := by rw [exS_t] at hxx; exact hxx
      obtain ⟨c, hcc, ec, -⟩ := (hI.1.2.2.1 t hlt).resolve_left hx
      obtain ⟨r1, v1, k1, e, g1, g2, g3, g4⟩ := dl_C (K := K) (cq := 20) (Or.inl ⟨rfl, rfl⟩) h1 hI.1 h2 hlt hx ec hcc (by omega)
      have hmd : mdD W.1 t = DA W.1 t c := by
        unfold mdD
        rw [ec, clI_n (by omega)]
      have h3' : ∀ p, p < 172 → p ≠ 18 → p ≠ 19 → v1 p = v p := fun p p1 p2 p3 => by rw [g3 p p1 p2 p3, h3 p p1 p2 p3]
      cases hd : DA W.1 t c with
      | none =>
        rw [hd] at e hmd
        have hp : mdP W.1 t = false := by unfold mdP; rw [hmd]; simp
        simp (disch := omega) only [↓jM_e, li_0, li_1, li_2, li_3, li_4, li_5, li_6, li_7, li_8, li_9, li_10, li_13, li_14, li_15, li_16, li_31, li_35, li_47, li_48, li_49, li_50, li_57, li_99, li_100, li_126, li_139, li_140, li_149, li_150, li_280, li_284, li_285, li_290, li_434, li_1260, li_3472, li_9999, li_65536, nm, nm_w, sf_w, cp_w, ld_I, sa_I, nI_add, pk_mul, Nat.zero_add, nI_leI, nI_ltI, nI_eq, nI_neM, M_neI, nI_ltM, nI_nltM, M_ltI, M_leI, nI_nleM, bnd_some, if_pos, if_neg, dif_t, dif_f, ex_C h1 hlt, if_pos hxx, e]
        refine ac_gF ?_
        unfold bX6_meanDistance_35
        simp (disch := omega) only [↓jM_e, li_0, li_1, li_2, li_3, li_4, li_5, li_6, li_7, li_8, li_9, li_10, li_13, li_14, li_15, li_16, li_31, li_35, li_47, li_48, li_49, li_50, li_57, li_99, li_100, li_126, li_139, li_140, li_149, li_150, li_280, li_284, li_285, li_290, li_434, li_1260, li_3472, li_9999, li_65536, nm, nm_w, sf_w, cp_w, ld_I, sa_I, nI_add, pk_mul, Nat.zero_add, nI_leI, nI_ltI, nI_eq, nI_neM, M_neI, nI_ltM, nI_nltM, M_ltI, M_leI, nI_nleM, bnd_some, if_pos, if_neg, dif_t, dif_f, ck_i g2.1, oI]
        exact hk hlt _ _ _ _ _ _ ⟨(hno hp).1, (hno hp).2, rfl, g1, g2, h3'⟩
      | some d =>
        have hdl : d ≤ 1251 := g4 c hcc d hd
        rw [hd] at e hmd
        have hp : mdP W.1 t = true := by unfold mdP; rw [hmd, hxx]; rfl
        have hf : mdf W.1 t = d := by unfold mdf; rw [hmd]; rfl
        simp (disch := omega) only [↓jM_e, li_0, li_1, li_2, li_3, li_4, li_5, li_6, li_7, li_8, li_9, li_10, li_13, li_14, li_15, li_16, li_31, li_35, li_47, li_48, li_49, li_50, li_57, li_99, li_100, li_126, li_139, li_140, li_149, li_150, li_280, li_284, li_285, li_290, li_434, li_1260, li_3472, li_9999, li_65536, nm, nm_w, sf_w, cp_w, ld_I, sa_I, nI_add, pk_mul, Nat.zero_add, nI_leI, nI_ltI, nI_eq, nI_neM, M_neI, nI_ltM, nI_nltM, M_ltI, M_leI, nI_nleM, bnd_some, if_pos, if_neg, dif_t, dif_f, ex_C h1 hlt, if_pos hxx, e]
        refine ac_gF ?_
        unfold bX6_meanDistance_35
        simp (disch := omega) only [↓jM_e, li_0, li_1, li_2, li_3, li_4, li_5, li_6, li_7, li_8, li_9, li_10, li_13, li_14, li_15, li_16, li_31, li_35, li_47, li_48, li_49, li_50, li_57, li_99, li_100, li_126, li_139, li_140, li_149, li_150, li_280, li_284, li_285, li_290, li_434, li_1260, li_3472, li_9999, li_65536, nm, nm_w, sf_w, cp_w, ld_I, sa_I, nI_add, pk_mul, Nat.zero_add, nI_leI, nI_ltI, nI_eq, nI_neM, M_neI, nI_ltM, nI_nltM, M_ltI, M_leI, nI_nleM, bnd_some, if_pos, if_neg, dif_t, dif_f, ck_i g2.1, oI]
        exact hk hlt _ _ _ _ _ _ ⟨by rw [hs, if_pos hp, hf], by rw [hc, if_pos hp], rfl, g1, g2, h3'⟩
    · have hp : mdP W.1 t = false := by unfold mdP; rw [Bool.eq_false_iff.mpr hxx]; rfl
      unfold bX6_meanDistance_35
      simp (disch := omega) only [↓jM_e, li_0, li_1, li_2, li_3, li_4, li_5, li_6, li_7, li_8, li_9, li_10, li_13, li_14, li_15, li_16, li_31, li_35, li_47, li_48, li_49, li_50, li_57, li_99, li_100, li_126, li_139, li_140, li_149, li_150, li_280, li_284, li_285, li_290, li_434, li_1260, li_3472, li_9999, li_65536, nm, nm_w, sf_w, cp_w, ld_I, sa_I, nI_add, pk_mul, Nat.zero_add, nI_leI, nI_ltI, nI_eq, nI_neM, M_neI, nI_ltM, nI_nltM, M_ltI, M_leI, nI_nleM, bnd_some, if_pos, if_neg, dif_t, dif_f, ex_C h1 hlt, if_neg hxx]
      exact hk hlt _ _ _ _ _ _ ⟨(hno hp).1, (hno hp).2, rfl, h1, h2, h3⟩
theorem md_M {w : sV} (hw : mI W.1 w) (hI : IW B W) (hO : okT W.1) (hK : 400000 < K) : ∃ w2, mI W.1 w2 ∧ frM w w2 ∧ fX7_meanDistance K w = (if cnI (mdP W.1) 16 = 0 then some (FP.dconst0, s2 w2 157 6 (nI 1)) else some (FP.ddiv (FP.i2d (nI (snI (mdP W.1) (mdf W.1) 16))) (FP.i2d (nI (cnI (mdP W.1) 16))), s2 w2 157 6 (nI 0))) := by
  have hcl : ∀ t, cnI (mdP W.1) t ≤ t := fun t => cnI_le
  have hsl : ∀ t, t ≤ 16 → snI (mdP W.1) (mdf W.1) t ≤ 1251 * t := fun t ht => snI_le (fun u hu => md_b hI.1 hO u (by omega))
  unfold fX7_meanDistance
  refine fx4_go (P := fun t x1 x2 x3 (u : sV) => x1 = nI (cnI (mdP W.1) t) ∧ x2 = nI (snI (mdP W.1) (mdf W.1) t) ∧ x3 = nI t ∧ mI W.1 u ∧ frM w u) (Q := fun o => ∃ w2, mI W.1 w2 ∧ frM w w2 ∧ o = (if cnI (mdP W.1) 16 = 0 then some (FP.dconst0, s2 w2 157 6 (nI 1)) else some (FP.ddiv (FP.i2d (nI (snI (mdP W.1) (mdf W.1) 16))) (FP.i2d (nI (cnI (mdP W.1) 16))), s2 w2 157 6 (nI 0)))) (N := 16) ?_ ⟨rfl, rfl, rfl, hw, frM.rf⟩ (by omega)
  intro t x1 x2 x3 u ht ⟨e1, e2, e3, h1, h2⟩ k hk
  subst e1 e2 e3
  have hs : snI (mdP W.1) (mdf W.1) (t + 1) = snI (mdP W.1) (mdf W.1) t + (if mdP W.1 t = true then mdf W.1 t else 0) := rfl
  have hc : cnI (mdP W.1) (t + 1) = cnI (mdP W.1) t + (if mdP W.1 t = true then 1 else 0) := rfl
  have hct := hcl t
  have hst := hsl t ht
  have hno : mdP W.1 t = false → nI (cnI (mdP W.1) t) = nI (cnI (mdP W.1) (t + 1)) ∧ nI (snI (mdP W.1) (mdf W.1) t) = nI (snI (mdP W.1) (mdf W.1) (t + 1)) := by
    intro g
    rw [hs, hc, g]
    exact ⟨rfl, rfl⟩
  unfold gX7_meanDistance_6
  by_cases ht1 : t = 16
  · subst ht1
    rw [if_pos (show (16 : Int32) ≤ nI 16 from by decide)]
    unfold bX7_meanDistance_75
    refine ⟨u, h1, h2, ?_⟩
    by_cases h0 : cnI (mdP W.1) 16 = 0
    · rw [if_pos (show nI (cnI (mdP W.1) 16) = (0 : Int32) from by rw [h0]; rfl), if_pos h0, sf_w, s2_i, if_neg (by decide)]
      rfl
    · have h00 : ¬ nI (cnI (mdP W.1) 16) = nI 0 := by rw [nI_eq (by omega) (by decide)]; exact h0
      rw [if_neg (show ¬ nI (cnI (mdP W.1) 16) = (0 : Int32) from h00), if_neg h0, sf_w, s2_i, if_pos rfl, ddv_y (le_vf (md_fp (by omega) (by omega) h0))]
      rfl
  · have hlt : t < 16 := by omega
    unfold bX7_meanDistance_35 bX7_meanDistance_48
    by_cases hxx : exS W.1 t = true
    · have hx : W.1 3 t ≠ jM := by rw [exS_t] at hxx; exact hxx
      obtain ⟨c, hcc, ec, -⟩ := (hI.1.2.2.1 t hlt).resolve_left hx
      have r1 := (rm h1.1 hlt hx).1.trans ec
      obtain ⟨u', e, g1, g2⟩ := ff_M hI.1 h1 hlt hx hcc hK
      have hmd : mdD W.1 t = DA W.1 t c := by
        unfold mdD
        rw [ec, clI_n (by omega)]
      cases hd : DA W.1 t c with
      | none =>
        rw [hd] at e hmd
        have hp : mdP W.1 t = false := by unfold mdP; rw [hmd]; simp
        simp (disch := omega) only [↓jM_e, li_0, li_1, li_2, li_3, li_4, li_5, li_6, li_7, li_8, li_9, li_10, li_13, li_14, li_15, li_16, li_31, li_35, li_47, li_48, li_49, li_50, li_57, li_99, li_100, li_126, li_139, li_140, li_149, li_150, li_280, li_284, li_285, li_290, li_434, li_1260, li_3472, li_9999, li_65536, nm, nm_w, sf_w, cp_w, ld_I, sa_I, nI_add, pk_mul, Nat.zero_add, nI_leI, nI_ltI, nI_eq, nI_neM, M_neI, nI_ltM, nI_nltM, M_ltI, M_leI, nI_nleM, bnd_some, if_pos, if_neg, dif_t, dif_f, ex_M h1.1 hlt, if_pos hxx, at_M hlt (show 1 < 9 by decide), r1, e, oI, show ¬ (nI 0 ≤ jM) from by decide, show ¬ (nI 0 < jM) from by decide]
        exact hk hlt _ _ _ _ ⟨(hno hp).1, (hno hp).2, rfl, g1, h2.trans g2⟩
      | some d =>
        have hdl : d ≤ 1251 := okD_A hI.1 hO hlt hx c hcc d hd
        rw [hd] at e hmd
        have hp : mdP W.1 t = true := by unfold mdP; rw [hmd, hxx]; rfl
        have hf : mdf W.1 t = d := by unfold mdf; rw [hmd]; rfl
        have hif : (if nI 0 < nI d then nI d else nI 0) = nI d := by
          by_cases hd0 : d = 0
          · rw [hd0, if_neg (by decide)]
          · rw [if_pos (by rw [nI_ltI (by decide) (by omega)]; omega)]
        have h0d : nI 0 ≤ nI d := nI_le (Nat.zero_le d) (by omega)
        rw [if_neg (show ¬ (16 : Int32) ≤ nI t from by show ¬ nI 16 ≤ nI t; rw [nI_leI (by decide) (by omega)]; omega), ex_M h1.1 hlt, if_pos hxx, bnd_some, if_neg (show ¬ nI 1 = (0 : Int32) by decide), show (1 : Int32) = nI 1 from rfl, at_M hlt (show 1 < 9 by decide), bnd_some, r1, e, bnd_some]
        dsimp only [oI]
        rw [if_pos (show (0 : Int32) ≤ nI d from h0d), nm_w, nm_w, nm_w, show (if (0 : Int32) < nI d then nI d else 0) = nI d from hif]
        refine hk hlt _ _ _ _ ⟨?_, ?_, nI_add t 1, g1, h2.trans g2⟩
        · rw [hc, if_pos hp]
          exact nI_add _ 1
        · rw [hs, if_pos hp, hf]
          exact nI_add _ _
    · have hp : mdP W.1 t = false := by unfold mdP; rw [Bool.eq_false_iff.mpr hxx]; rfl
      simp (disch := omega) only [↓jM_e, li_0, li_1, li_2, li_3, li_4, li_5, li_6, li_7, li_8, li_9, li_10, li_13, li_14, li_15, li_16, li_31, li_35, li_47, li_48, li_49, li_50, li_57, li_99, li_100, li_126, li_139, li_140, li_149, li_150, li_280, li_284, li_285, li_290, li_434, li_1260, li_3472, li_9999, li_65536, nm, nm_w, sf_w, cp_w, ld_I, sa_I, nI_add, pk_mul, Nat.zero_add, nI_leI, nI_ltI, nI_eq, nI_neM, M_neI, nI_ltM, nI_nltM, M_ltI, M_leI, nI_nleM, bnd_some, if_pos, if_neg, dif_t, dif_f, ex_M h1.1 hlt, if_neg hxx, show ¬ (nI 0 ≤ jM) from by decide, show ¬ (nI 0 < jM) from by decide]
      exact hk hlt _ _ _ _ ⟨(hno hp).1, (hno hp).2, rfl, h1, h2⟩
theorem a_22 (hC : CW W r v n) (hM : MW W v) (hI : IW B W) (hK : 400000 < K) : OUT B (fL_meanDistance K r v n x) (fX7_meanDistance K) (fun c z => Op.cmpValue (FP.dcmp c.2 z) .l = 0) n := by
  have hO : okT W.1 := okT_M hI.1 hM.1 hK
  obtain ⟨y, r', v', k, e, ey, q1, q2, q3⟩ := md_C hC hI hO hK
  have hCW : CW W r' v' (n + k) := CW_h hC rfl q1 q2 (fun p hp => q3 p (by omega) (by omega) (by omega))
  have hv : ∀ p, 157 ≤ p → p < 172 → v' p = v p := fun p p1 p2 => q3 p p2 (by omega) (by omega)
  have hcl := @cnI_le (mdP W.1) 16
  have hsl : snI (mdP W.1) (mdf W.1) 16 ≤ 1251 * 16 := snI_le (fun u hu => md_b hI.1 hO u (by omega))
  have hmw : ∀ (w w2 : sV) (t : Int32), MW W w → mI W.1 w2 → frM w w2 → MW W (s2 w2 157 6 t) := fun w w2 t h1 h2 h3 => MW_t (MW_w (W := W) (S' := W.1) h1 h2 h3.N)
  by_cases h0 : cnI (mdP W.1) 16 = 0
  · have ey : y = Sum.inr 5 := by rw [ey]; unfold mdR; rw [if_pos h0]
    refine fin_ok (W' := W) (code := nI 1) (x' := x) hM (k1 := k) (r1 := r') (v1 := v') ?_ hCW hv hI (fun w hw => ?_)
    · unfold fL_meanDistance
      rw [e, bnd_some, ey]
      rfl
    · obtain ⟨w2, g1, g2, g3⟩ := md_M (K := K) hw.1 hI hO hK
      rw [if_pos h0] at g3
      exact ⟨_, _, g3, s2_i, fun g => absurd g (by decide), hmw w w2 _ hw g1 g2, fun p hp => by rw [s2_ne (by omega)]; exact g2 p (by omega) (by omega) (by omega) (by omega)⟩
  · have hfp := md_fp (s := snI (mdP W.1) (mdf W.1) 16) (c := cnI (mdP W.1) 16) (by omega) (by omega) h0
    generalize hq : FP.ddiv (FP.i2d (nI (snI (mdP W.1) (mdf W.1) 16))) (FP.i2d (nI (cnI (mdP W.1) 16))) = qd at hfp
    have ey : y = Sum.inl qd := by rw [ey]; unfold mdR; rw [if_neg h0, hq]
    refine fin_ok (W' := W) (code := nI 0) (x' := (x.1, qd)) hM (k1 := k + 0) (r1 := r') (v1 := v') ?_ hCW hv hI (fun w hw => ?_)
    · unfold fL_meanDistance
      rw [e, bnd_some, ey]
      rfl
    · obtain ⟨w2, g1, g2, g3⟩ := md_M (K := K) hw.1 hI hO hK
      rw [if_neg h0, hq] at g3
      exact ⟨_, _, g3, s2_i, fun _ => le_dc hfp, hmw w w2 _ hw g1 g2, fun p hp => by rw [s2_ne (by omega)]; exact g2 p (by omega) (by omega) (by omega) (by omega)⟩
end
