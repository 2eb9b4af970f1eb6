/-! places of their own; who stands beside whom (reference) -/
def dsS (S : aS) : Prop := ∀ a b, a < 16 → b < 16 → S 3 a ≠ jM → S 3 a = S 3 b → a = b
theorem agOn_d {S : aS} (h : dsS S) {q b : Nat} (hq : q < 2 ^ 31) (hb : b < 16) (e : S 3 b = nI q) : agOn S q = some b := by
  cases hg : agOn S q with
  | none =>
    have := ffI_n hg b (Nat.zero_le b) (by omega)
    exact absurd e (of_decide_eq_false this)
  | some a =>
    obtain ⟨ha, ea⟩ := agOn_lt hg
    have hx : S 3 a ≠ jM := by rw [ea, ne_eq, nI_neM hq]; exact id
    rw [h a b ha hb hx (ea.trans e.symm)]
theorem be_ap {S : aS} (h : dsS S) {p q b : Nat} (hp : p < 140) (hq : q < 140) (hb : b < 16) (e : S 3 b = nI q) : (beP S p 4 b = true) = (apI p q = nI 1) := by
  apply propext
  rw [beP_i, ap_nb hp hq]
  constructor
  · intro ⟨d, hd, hA⟩
    refine ⟨d, hd, ?_⟩
    unfold nbA at hA
    cases hn : nbO p d with
    | none => rw [hn] at hA; cases hA
    | some q' =>
      rw [hn] at hA
      have hA : agOn S q' = some b := hA
      have hq' := nb_lt hp hn
      have e2 := (agOn_lt hA).2
      rw [e, nI_eq (by omega) (by omega)] at e2
      rw [e2]
  · intro ⟨d, hd, hn⟩
    refine ⟨d, hd, ?_⟩
    unfold nbA
    rw [hn]
    exact agOn_d h (by omega) hb e
theorem bt_I {m a : Nat} (hm : m < 2 ^ 16) (ha : a < 16) : ((nI m >>> (nI a &&& nI 31)) &&& nI 1 = nI 1) = (m.testBit a = true) := by
  have e1 : nI a &&& nI 31 = nI a := by
    rw [pk_andN (n := a) (by omega) (m := nI 31) 5 (by decide), Nat.mod_eq_of_lt (by omega)]
  have e4 : ((nI a).toBitVec.smod 32).toNat = a := by
    have : ∀ t : Fin 31, ((nI t.val).toBitVec.smod 32).toNat = t.val := by decide +kernel
    exact this ⟨a, by omega⟩
  have e5 : nI m >>> nI a = nI (m / 2 ^ a) := pk_shrN (by omega) (nI a) a e4
  rw [e1, e5, an_I, nI_eq (Nat.lt_of_le_of_lt Nat.and_le_left (Nat.lt_of_le_of_lt (Nat.div_le_self m _) (by omega))) (by decide), Nat.and_one_is_mod, Nat.testBit_eq_decide_div_mod_eq, decide_eq_true_eq]
