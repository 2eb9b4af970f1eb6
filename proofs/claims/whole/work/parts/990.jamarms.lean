/-! THE ARMS jams AND jam -/
theorem jnO_M {S : aS} {x1 : Int32} (h : ¬ nI 0 ≤ x1) : jnO S x1 = none := by
  cases hj : jnO S x1 with
  | none => rfl
  | some a =>
    obtain ⟨g1, g2, g3, -⟩ := ffI_s hj
    have g1 : (jmP S a && decide (nI (cnI (jmP S) a) = x1)) = true := g1
    rw [Bool.and_eq_true] at g1
    have e := of_decide_eq_true g1.2
    have := @cnI_le (jmP S) a
    exact absurd (by rw [← e]; exact nI_le (Nat.zero_le _) (by omega)) h
theorem jnR_v {S : aS} {x1 : Int32} : jnR S x1 = 0 ∨ ∃ a, a < 16 ∧ stS S a = true ∧ jnR S x1 = mkI (itF S a 15) 16 := by
  unfold jnR
  cases hj : jnO S x1 with
  | none => exact Or.inl rfl
  | some a =>
    obtain ⟨g1, g2, g3, -⟩ := ffI_s hj
    have g1 : (jmP S a && decide (nI (cnI (jmP S) a) = x1)) = true := g1
    rw [Bool.and_eq_true] at g1
    have hp := g1.1
    refine Or.inr ⟨a, by omega, ?_, ?_⟩
    · unfold jmP at hp
      rw [Bool.and_eq_true] at hp
      exact hp.1
    · show jmV S a = _
      unfold jmV
      rw [if_pos hp]
theorem jx_v (x2 : Int32) : ((nI 0 ≤ x2 ∧ x2 ≤ nI 3) ∧ (x2 = nI 0 ∨ x2 = nI 1 ∨ x2 = nI 2 ∨ x2 = nI 3)) ∨ (¬ (nI 0 ≤ x2 ∧ x2 ≤ nI 3) ∧ ¬ x2 = nI 0 ∧ ¬ x2 = nI 1 ∧ ¬ x2 = nI 2 ∧ ¬ x2 = nI 3) := by
  by_cases hin : nI 0 ≤ x2 ∧ x2 ≤ nI 3
  · have h4 : ¬ nI 4 ≤ x2 := by
      have := hin.2
      rw [le_pred (n := 3) (by decide)] at this
      exact this
    obtain ⟨j, hj, e⟩ := in_nI (x := x2) (N := 4) (Int32.not_lt.mpr hin.1) h4 (by decide)
    refine Or.inl ⟨hin, ?_⟩
    match j, hj, e with
    | 0, _, e => exact Or.inl e
    | 1, _, e => exact Or.inr (Or.inl e)
    | 2, _, e => exact Or.inr (Or.inr (Or.inl e))
    | 3, _, e => exact Or.inr (Or.inr (Or.inr e))
    | j + 4, hj, _ => exact absurd hj (by omega)
  · exact Or.inr ⟨hin, fun e => hin (by rw [e]; decide), fun e => hin (by rw [e]; decide), fun e => hin (by rw [e]; decide), fun e => hin (by rw [e]; decide)⟩
section
variable {v : sV} {K n : Nat} {r : sR} {W : aW} {B : Nat} {x : Int64 × UInt64}
theorem a_20 (hC : CW W r v n) (hM : MW W v) (hI : IW B W) (hK : 400000 < K) : ∃ (y : Int32) (z : Int32 × sV), fX6_jams K v = some y ∧ fX7_jams K v = some z ∧ y = z.1 ∧ GOOD B r z.2 n := by
  have hd : dsS W.1 := hI.1.2.2.2.2.2.2
  have hn : ¬ nI 0 ≤ jM := by decide
  refine ⟨nI (cnI (jmP W.1) 16), (nI (cnI (jmP W.1) 16), s2 v 157 6 (nI 0)), js_C hC.1 hI.1 (by omega), ?_, rfl, W, CW_g hC (fun p hp => s2_ne (by omega)), MW_t hM, hI⟩
  have e := jo_M (K := K) (x1 := jM) (MW_t (y := nI 0) hM).1.1 hI.1 hd (by omega)
  rw [if_neg hn, if_pos (jnO_M hn)] at e
  unfold fX7_jams
  rw [sf_w]
  show (fX7_jamOf K jM (s2 v 157 6 (nI 0))).bind _ = _
  rw [e]
  rfl
theorem a_21 (x1 x2 : Int32) (hC : CW W r v n) (hM : MW W v) (hI : IW B W) (hK : 400000 < K) : OUT B (fL_jam K x1 x2 r v n x) (fX7_jam K x1 x2) PI n := by
  have hsh := hC.2.1.1
  have hd : dsS W.1 := hI.1.2.2.2.2.2.2
  have hj := jn_C (b := 1) (cq := 20) hC.1 hI.1 (x1 := x1) (show 16 < K by omega)
  have hM7 : ∀ w, MW W w → ∀ o, bX7_jam_13 K x2 (nI (jnR W.1 x1)) w = o → fX7_jam K x1 x2 w = o := by
    intro w hw o ho
    unfold fX7_jam
    by_cases h0 : nI 0 ≤ x1
    · rw [if_pos (show (0 : Int32) ≤ x1 from h0), jo_M hw.1.1 hI.1 hd (by omega), if_pos h0, bnd_some]
      exact ho
    · rw [if_neg (show ¬ (0 : Int32) ≤ x1 from h0)]
      have e0 : jnR W.1 x1 = 0 := by
        unfold jnR
        rw [jnO_M h0]
      rw [e0] at ho
      exact ho
  rcases @jnR_v W.1 x1 with hz | ⟨a, ha, hst, e⟩
  · rw [hz] at hj hM7
    refine fin_thr hC hM hI (code := 1) (z := nI 0) (x' := x) (by decide) ?_ (fun w hw => hM7 w hw (some ((0 : Int32), s2 w 157 6 (1 : Int32))) ?_)
    · unfold fL_jam fX6_jam
      rw [hj, bnd_some, if_pos (show nI 0 = (0 : Int32) from rfl)]
      rfl
    · unfold bX7_jam_13 bX7_jam_37
      rw [if_pos (show nI 0 = (0 : Int32) from rfl), sf_w, s2_i, if_neg (show ¬ (1 : Int32) = 0 by decide)]
  by_cases hz : mkI (itF W.1 a 15) 16 = 0
  · rw [e, hz] at hj hM7
    refine fin_thr hC hM hI (code := 1) (z := nI 0) (x' := x) (by decide) ?_ (fun w hw => hM7 w hw (some ((0 : Int32), s2 w 157 6 (1 : Int32))) ?_)
    · unfold fL_jam fX6_jam
      rw [hj, bnd_some, if_pos (show nI 0 = (0 : Int32) from rfl)]
      rfl
    · unfold bX7_jam_13 bX7_jam_37
      rw [if_pos (show nI 0 = (0 : Int32) from rfl), sf_w, s2_i, if_neg (show ¬ (1 : Int32) = 0 by decide)]
  rw [e] at hj hM7
  have hP : ∀ i, i < 16 → itF W.1 a 15 i = true → ∃ c, c < 140 ∧ W.1 3 i = nI c := fun i hi g => stS_x hI.1 hi (itF_s hst g)
  have hP' : ∀ i, i < 16 → itF W.1 a 15 i = true → W.1 3 i ≠ jM := fun i hi g => by
    obtain ⟨c, hc, ec⟩ := hP i hi g
    rw [ec, ne_eq, nI_neM (by omega)]
    exact id
  have hn0 : ¬ nI (mkI (itF W.1 a 15) 16) = nI 0 := by
    rw [nI_eq0 mk_16]
    exact hz
  have hn0' : ¬ nI (mkI (itF W.1 a 15) 16) = (0 : Int32) := hn0
  rcases jx_v x2 with ⟨hin, hx⟩ | ⟨hno, q0, q1, q2, q3⟩
  · have hii : fX7_isIn x2 0 3 = some (nI 1) := (ii_M (x := x2) (lo := nI 0) (hi := nI 3)).trans (congrArg some (if_pos hin))
    have h13 : ∀ w o, bX7_jam_37 K x2 (nI (mkI (itF W.1 a 15) 16)) 0 w = o → bX7_jam_13 K x2 (nI (mkI (itF W.1 a 15) 16)) w = o := by
      intro w o ho
      unfold bX7_jam_13
      rw [if_neg hn0', hii, bnd_some, if_neg (show ¬ nI 1 = (0 : Int32) by decide)]
      exact ho
    have k00 : (0 : Int32) = 0 := rfl
    have k01 : ¬ nI 1 = (0 : Int32) := by decide
    have k02 : ¬ nI 2 = (0 : Int32) := by decide
    have k03 : ¬ nI 3 = (0 : Int32) := by decide
    have k12 : ¬ nI 2 = (1 : Int32) := by decide
    have k13 : ¬ nI 3 = (1 : Int32) := by decide
    have k23 : ¬ nI 3 = (2 : Int32) := by decide
    rcases hx with rfl | rfl | rfl | rfl
    · refine fin_rd hC hM hI (x' := ((nI (mkI (itF W.1 a 15) 16)).toInt64, x.2)) ?_ (fun w hw => ⟨nI (mkI (itF W.1 a 15) 16), hM7 w hw (some (nI (mkI (itF W.1 a 15) 16), s2 w 157 6 (0 : Int32))) (h13 w _ ?_), rfl⟩)
      · unfold fL_jam fX6_jam
        rw [hj, bnd_some, if_neg hn0', if_pos (show nI 0 = (0 : Int32) from rfl)]
        rfl
      · unfold bX7_jam_37
        rw [sf_w, s2_i, if_pos k00, if_pos (show nI 0 = (0 : Int32) from rfl)]
    · refine fin_rd hC hM hI (x' := ((nI (cnI (itF W.1 a 15) 16)).toInt64, x.2)) ?_ (fun w hw => ⟨nI (cnI (itF W.1 a 15) 16), hM7 w hw (some (nI (cnI (itF W.1 a 15) 16), s2 w 157 6 (0 : Int32))) (h13 w _ ?_), rfl⟩)
      · unfold fL_jam fX6_jam
        rw [hj, bnd_some, if_neg hn0', if_neg k01, if_pos (show nI 1 = (1 : Int32) from rfl), bc_mk, bnd_some]
        rfl
      · unfold bX7_jam_37
        rw [sf_w, s2_i, if_pos k00, if_neg k01, if_pos (show nI 1 = (1 : Int32) from rfl), bi_mk (by omega), bnd_some]
    · refine fin_rd hC hM hI (x' := ((smI (itF W.1 a 15) (fun a => W.1 7 a) 16).toInt64, x.2)) ?_ (fun w hw => ⟨smI (itF W.1 a 15) (fun a => W.1 7 a) 16, hM7 w hw (some (smI (itF W.1 a 15) (fun a => W.1 7 a) 16, s2 w 157 6 (0 : Int32))) (h13 w _ ?_), rfl⟩)
      · unfold fL_jam fX6_jam
        rw [hj, bnd_some, if_neg hn0', if_neg k02, if_neg k12, if_pos (show nI 2 = (2 : Int32) from rfl), wo_C hC.1 (by omega), bnd_some]
        rfl
      · unfold bX7_jam_37
        rw [sf_w, s2_i, if_pos k00, if_neg k02, if_neg k12, if_pos (show nI 2 = (2 : Int32) from rfl), wo_M (MW_t hw).1.1 hP' (by omega), bnd_some]
    · refine fin_rd hC hM hI (x' := ((nI (cnI (fcP W.1 (itF W.1 a 15)) 140)).toInt64, x.2)) ?_ (fun w hw => ⟨nI (cnI (fcP W.1 (itF W.1 a 15)) 140), hM7 w hw (some (nI (cnI (fcP W.1 (itF W.1 a 15)) 140), s2 w 157 6 (0 : Int32))) (h13 w _ ?_), rfl⟩)
      · unfold fL_jam fX6_jam
        rw [hj, bnd_some, if_neg hn0', if_neg k03, if_neg k13, if_neg k23, if_pos (show nI 3 = (3 : Int32) from rfl), fc_C hC.1 hI.1 (by omega), bnd_some]
        rfl
      · unfold bX7_jam_37
        rw [sf_w, s2_i, if_pos k00, if_neg k03, if_neg k13, if_neg k23, fm_M (MW_t hw).1.1 hI.1 hd hP (by omega), bnd_some]
  · have hii : fX7_isIn x2 0 3 = some (nI 0) := (ii_M (x := x2) (lo := nI 0) (hi := nI 3)).trans (congrArg some (if_neg hno))
    refine fin_thr hC hM hI (code := 2) (z := nI 0) (x' := x) (by decide) ?_ (fun w hw => hM7 w hw (some ((0 : Int32), s2 w 157 6 (2 : Int32))) ?_)
    · unfold fL_jam fX6_jam
      rw [hj, bnd_some, if_neg hn0', if_neg (show ¬ x2 = (0 : Int32) from q0), if_neg (show ¬ x2 = (1 : Int32) from q1), if_neg (show ¬ x2 = (2 : Int32) from q2), if_neg (show ¬ x2 = (3 : Int32) from q3)]
      rfl
    · unfold bX7_jam_13 bX7_jam_37
      rw [if_neg hn0', hii, bnd_some, if_pos (show nI 0 = (0 : Int32) from rfl), sf_w, s2_i, if_neg (show ¬ (2 : Int32) = 0 by decide)]
end
