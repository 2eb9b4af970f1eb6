/-! connected (reference) -/
def acI (S : aS) (A : Nat → Bool) (c t i : Nat) : Bool := A i || (decide (i < t) && (stS S i && beP S c 4 i))
def ouI (S : aS) (P : Nat → Bool) (t i : Nat) : Bool := P i || (neP S P t i && stS S i)
section
variable {v : sV} {S : aS} {B K : Nat}
theorem c26_y (hr : RelM S (v 158)) (hI : iS B S) (hd : dsS S) {P A : Nat → Bool} {a c : Nat} (ha : a < 16) (hp : P a = true) (hx : S 3 a ≠ jM) (ec : S 3 a = nI c) (hc : c < 140) {k6 k16 : Int32 → Int32 → Option Int32} (hK : 16 < K) :
    fx2 (gX7_connected_26 K k6 k16 (nI (mkI P 16)) (nI a) v) K (nI (mkI A 16)) (nI 0) = k16 (nI (mkI (acI S A c 16) 16)) (nI (a + 1)) := by
  refine fx2_go (P := fun t x2 x5 => x5 = nI t ∧ x2 = nI (mkI (acI S A c t) 16)) (Q := fun o => o = k16 (nI (mkI (acI S A c 16) 16)) (nI (a + 1))) (N := 16) ?_ ⟨rfl, congrArg nI (mkI_c (fun i hi => by unfold acI; rw [decide_eq_false (Nat.not_lt_zero i), Bool.false_and, Bool.or_false]))⟩ hK
  intro t x2 x5 ht ⟨e5, e2⟩ k hk
  subst e2 e5
  have hbit : ((nI (mkI P 16) >>> (nI a &&& nI 31)) &&& nI 1) = nI 1 := by rw [bt_I mkI_lt ha, mkI_bit ha]; exact hp
  have r1 := (rm hr ha hx).1.trans ec
  unfold gX7_connected_26
  by_cases ht1 : t = 16
  · subst ht1
    rw [if_pos (show (16 : Int32) ≤ nI 16 from by decide), nm_w, show nI a + (1 : Int32) = nI (a + 1) from nI_add a 1]
  · have hlt : t < 16 := by omega
    have h16 : ¬ nI 16 ≤ nI t := by rw [nI_leI (by decide) (by omega)]; omega
    have hno : (stS S t && beP S c 4 t) = false → nI (mkI (acI S A c t) 16) = nI (mkI (acI S A c (t + 1)) 16) := by
      intro g
      congr 1
      refine mkI_c (fun i hi => ?_)
      unfold acI
      by_cases hit : i = t
      · rw [hit, g, Bool.and_false, Bool.and_false]
      · have : decide (i < t) = decide (i < t + 1) := by
          by_cases hl : i < t
          · rw [decide_eq_true hl, decide_eq_true (by omega)]
          · rw [decide_eq_false hl, decide_eq_false (by omega)]
        rw [this]
    have hor0 : ∀ m : Nat, nI m ||| (0 : Int32) = nI m := fun m => by
      apply Int32.toBitVec_inj.mp
      rw [Int32.toBitVec_or]
      show _ ||| 0#32 = _
      simp
    rw [if_neg (show ¬ (16 : Int32) ≤ nI t from h16), if_pos (show ((nI (mkI P 16) >>> (nI a &&& 31)) &&& 1) = (1 : Int32) from hbit), st_Mk hr hlt, bnd_some]
    by_cases hs : stS S t = true
    · obtain ⟨q, hq, eq⟩ := stS_x hI hlt hs
      have hxt : S 3 t ≠ jM := by rw [eq, ne_eq, nI_neM (by omega)]; exact id
      have r2 := (rm hr hlt hxt).1.trans eq
      have hb := be_ap hd hc hq hlt eq
      rw [if_pos hs, if_neg (show ¬ nI 1 = (0 : Int32) by decide), show (1 : Int32) = nI 1 from rfl, at_M ha (show 1 < 9 by decide), bnd_some, at_M hlt (show 1 < 9 by decide), bnd_some, r1, r2, ap_M hc hq, bnd_some]
      by_cases hap : apI c q = nI 1
      · rw [if_pos hap, nm_w, nm_w, show (31 : Int32) = nI 31 from rfl, or_I mkI_lt hlt, mk_set hlt, nI_add]
        refine hk hlt _ _ ⟨rfl, ?_⟩
        congr 1
        refine mkI_c (fun i hi => ?_)
        have hbt : beP S c 4 t = true := by rw [hb]; exact hap
        unfold puU acI
        by_cases hit : i = t
        · rw [hit, hs, hbt, decide_eq_true rfl, decide_eq_true (Nat.lt_succ_self t)]
          simp
        · have : decide (i < t) = decide (i < t + 1) := by
            by_cases hl : i < t
            · rw [decide_eq_true hl, decide_eq_true (by omega)]
            · rw [decide_eq_false hl, decide_eq_false (by omega)]
          rw [this, decide_eq_false hit, Bool.false_or]
      · have hbt : beP S c 4 t = false := Bool.eq_false_iff.mpr (fun g => hap (hb ▸ g))
        rw [if_neg hap, nm_w, nm_w, hor0, nI_add]
        exact hk hlt _ _ ⟨rfl, hno (by rw [hbt, Bool.and_false])⟩
    · rw [if_neg hs, if_pos (show nI 0 = (0 : Int32) from rfl), nm_w, nm_w, hor0, show nI t + (1 : Int32) = nI (t + 1) from nI_add t 1]
      exact hk hlt _ _ ⟨rfl, hno (by rw [Bool.eq_false_iff.mpr hs, Bool.false_and])⟩
theorem c26_n {P : Nat → Bool} {x2 : Int32} {a : Nat} (ha : a < 16) (hp : ¬ P a = true) {k6 k16 : Int32 → Int32 → Option Int32} (hK : 16 < K) :
    fx2 (gX7_connected_26 K k6 k16 (nI (mkI P 16)) (nI a) v) K x2 (nI 0) = k16 x2 (nI (a + 1)) := by
  refine fx2_go (P := fun t y2 x5 => y2 = x2 ∧ x5 = nI 0) (Q := fun o => o = k16 x2 (nI (a + 1))) (N := 0) ?_ ⟨rfl, rfl⟩ (by omega)
  intro t y2 x5 ht ⟨e2, e5⟩ k hk
  subst e2 e5
  have hbit : ¬ ((nI (mkI P 16) >>> (nI a &&& nI 31)) &&& nI 1) = nI 1 := by rw [bt_I mkI_lt ha, mkI_bit ha]; exact hp
  unfold gX7_connected_26
  rw [if_neg (show ¬ (16 : Int32) ≤ nI 0 from by decide), if_neg (show ¬ ((nI (mkI P 16) >>> (nI a &&& 31)) &&& 1) = (1 : Int32) from hbit), nm_w, show nI a + (1 : Int32) = nI (a + 1) from nI_add a 1]
theorem c16_C (hr : RelM S (v 158)) (hI : iS B S) (hd : dsS S) {P : Nat → Bool} (hP : ∀ a, a < 16 → P a = true → ∃ c, c < 140 ∧ S 3 a = nI c) {k6 : Int32 → Int32 → Option Int32} (hK : 16 < K) :
    fx2 (gX7_connected_16 K k6 (nI (mkI P 16)) v) K (nI (mkI P 16)) (nI 0) = k6 (nI (mkI (FS S P) 16)) (nI (mkI P 16)) := by
  refine fx2_go (P := fun t x2 x4 => x4 = nI t ∧ x2 = nI (mkI (ouI S P t) 16)) (Q := fun o => o = k6 (nI (mkI (FS S P) 16)) (nI (mkI P 16))) (N := 16) ?_ ⟨rfl, congrArg nI (mkI_c (fun i hi => by unfold ouI neP; rw [Bool.false_and, Bool.or_false]))⟩ hK
  intro t x2 x4 ht ⟨e4, e2⟩ k hk
  subst e2 e4
  unfold gX7_connected_16
  by_cases ht1 : t = 16
  · subst ht1
    rw [if_pos (show (16 : Int32) ≤ nI 16 from by decide)]
    rfl
  · have hlt : t < 16 := by omega
    have h16 : ¬ nI 16 ≤ nI t := by rw [nI_leI (by decide) (by omega)]; omega
    rw [if_neg (show ¬ (16 : Int32) ≤ nI t from h16)]
    by_cases hp : P t = true
    · obtain ⟨c, hc, ec⟩ := hP t hlt hp
      have hx : S 3 t ≠ jM := by rw [ec, ne_eq, nI_neM (by omega)]; exact id
      have := c26_y (K := K) (A := ouI S P t) (k6 := k6) (k16 := k) hr hI hd hlt hp hx ec hc hK
      rw [show (0 : Int32) = nI 0 from rfl, this]
      refine hk hlt _ _ ⟨rfl, ?_⟩
      congr 1
      refine mkI_c (fun i hi => ?_)
      show ((P i || (neP S P t i && stS S i)) || (decide (i < 16) && (stS S i && beP S c 4 i))) = (P i || ((neP S P t i || (P t && beP S (clI (S 3 t)) 4 i)) && stS S i))
      rw [decide_eq_true hi, hp, ec, clI_n (by omega)]
      cases P i <;> cases neP S P t i <;> cases stS S i <;> cases beP S c 4 i <;> rfl
    · have := c26_n (v := v) (K := K) (P := P) (x2 := nI (mkI (ouI S P t) 16)) (k6 := k6) (k16 := k) hlt hp hK
      rw [show (0 : Int32) = nI 0 from rfl, this]
      refine hk hlt _ _ ⟨rfl, ?_⟩
      congr 1
      refine mkI_c (fun i hi => ?_)
      show (P i || (neP S P t i && stS S i)) = (P i || ((neP S P t i || (P t && beP S (clI (S 3 t)) 4 i)) && stS S i))
      rw [Bool.eq_false_iff.mpr hp, Bool.false_and, Bool.or_false]
end
