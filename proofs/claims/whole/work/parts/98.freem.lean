/-! free cells around a set (reference) -/
section
variable {v : sV} {S : aS} {B K : Nat}
def fcT (S : aS) (P : Nat → Bool) (q t : Nat) : Nat := if cnI (fun i => beP S q 4 i && P i) t = 0 then 0 else 1
theorem fi_M (hr : RelM S (v 158)) (hI : iS B S) (hd : dsS S) {P : Nat → Bool} (hP : ∀ a, a < 16 → P a = true → ∃ c, c < 140 ∧ S 3 a = nI c) {q : Nat} (hq : q < 140) (hf : frS S q = true) {k4 : Int32 → Int32 → Option Int32} {x2 : Int32} (hK : 400 < K) :
    fx2 (gX7_freeAround_17 K k4 (nI (mkI P 16)) x2 (nI q) v) K (nI 0) (nI 0) = bX7_freeAround_73 K k4 (nI (mkI P 16)) x2 (nI q) (nI (fcT S P q 16)) v := by
  refine fx2_go (P := fun t x4 x5 => x5 = nI t ∧ x4 = nI (fcT S P q t)) (Q := fun o => o = bX7_freeAround_73 K k4 (nI (mkI P 16)) x2 (nI q) (nI (fcT S P q 16)) v) (N := 16) ?_ ⟨rfl, rfl⟩ (by omega)
  intro t x4 x5 ht ⟨e5, e4⟩ k hk
  subst e4 e5
  unfold gX7_freeAround_17
  by_cases ht1 : t = 16
  · subst ht1
    rw [if_pos (show (16 : Int32) ≤ nI 16 from by decide)]
  · have hlt : t < 16 := by omega
    have h16 : ¬ nI 16 ≤ nI t := by rw [nI_leI (by decide) (by omega)]; omega
    have hs : cnI (fun i => beP S q 4 i && P i) (t + 1) = cnI (fun i => beP S q 4 i && P i) t + (if (beP S q 4 t && P t) = true then 1 else 0) := rfl
    have hno : (beP S q 4 t && P t) = false → nI (fcT S P q t) ||| (0 : Int32) = nI (fcT S P q (t + 1)) := by
      intro g
      unfold fcT
      rw [hs, g, if_neg Bool.false_ne_true, Nat.add_zero]
      split <;> decide
    have hbit : ((nI (mkI P 16) >>> (nI t &&& nI 31)) &&& nI 1 = nI 1) = (P t = true) := by rw [bt_I mkI_lt hlt, mkI_bit hlt]
    rw [if_neg (show ¬ (16 : Int32) ≤ nI t from h16), ie_M hr hI hq (by omega), if_pos hf, bnd_some, if_neg (show ¬ nI 1 = (0 : Int32) by decide)]
    by_cases hp : P t = true
    · obtain ⟨c, hc, ec⟩ := hP t hlt hp
      have hx : S 3 t ≠ jM := by rw [ec, ne_eq, nI_neM (by omega)]; exact id
      have r1 := (rm hr hlt hx).1.trans ec
      have hb : ((nI (mkI P 16) >>> (nI t &&& nI 31)) &&& nI 1) = nI 1 := by rw [hbit]; exact hp
      have hbe := be_ap hd hq hc hlt ec
      rw [ap_sym hq hc] at hbe
      rw [if_pos (show ((nI (mkI P 16) >>> (nI t &&& 31)) &&& 1) = (1 : Int32) from hb), show (1 : Int32) = nI 1 from rfl, at_M hlt (show 1 < 9 by decide), bnd_some, r1, ap_M hc hq, bnd_some]
      by_cases hap : apI c q = nI 1
      · have hbt : beP S q 4 t = true := by rw [hbe]; exact hap
        rw [if_pos hap, nm_w, nm_w, nI_add]
        refine hk hlt _ _ ⟨rfl, ?_⟩
        unfold fcT
        rw [hs, hbt, hp, if_pos (show (true && true) = true from rfl), if_neg (show ¬ cnI (fun i => beP S q 4 i && P i) t + 1 = 0 by omega)]
        split <;> decide
      · have hbt : beP S q 4 t = false := Bool.eq_false_iff.mpr (fun g => hap (hbe ▸ g))
        rw [if_neg hap, nm_w, nm_w, nI_add]
        exact hk hlt _ _ ⟨rfl, hno (by rw [hbt, Bool.false_and])⟩
    · have hb : ¬ ((nI (mkI P 16) >>> (nI t &&& nI 31)) &&& nI 1) = nI 1 := by rw [hbit]; exact hp
      rw [if_neg (show ¬ ((nI (mkI P 16) >>> (nI t &&& 31)) &&& 1) = (1 : Int32) from hb), nm_w, nm_w]
      exact hk hlt _ _ ⟨nI_add t 1, hno (by rw [Bool.eq_false_iff.mpr hp, Bool.and_false])⟩
end
