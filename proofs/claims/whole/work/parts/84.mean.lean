/-! meanDistance -/
theorem en_tl : FP.Core.Fmt.tails FP.Core.b64 = 4503599627370496 := by decide
theorem en_ex : FP.Core.Fmt.exps FP.Core.b64 = 2048 := by decide
theorem en_qm : FP.Core.Fmt.qmin FP.Core.b64 = -1074 := by decide
theorem en_qx : FP.Core.Fmt.qmax FP.Core.b64 = 971 := by decide
theorem en_fin {c : Nat} {q : Int} (hc : c < 9007199254740992) (hq : q ≤ 971) : FP.Core.encode FP.Core.b64 (.fin false c q) ≤ 9218868437227405312 := by
  show (if c < FP.Core.Fmt.tails FP.Core.b64 then FP.Core.assemble FP.Core.b64 false 0 c else FP.Core.assemble FP.Core.b64 false ((q - FP.Core.Fmt.qmin FP.Core.b64).toNat + 1) (c - FP.Core.Fmt.tails FP.Core.b64)) ≤ _
  unfold FP.Core.assemble
  rw [en_tl, en_ex, en_qm]
  have : Bool.toNat false = 0 := rfl
  rw [this]
  split
  · omega
  · omega
theorem en_bd {c : Nat} {q : Int} (hc : c < 9007199254740992) : FP.Core.encode FP.Core.b64 (FP.Core.bound FP.Core.b64 false c q) ≤ 9218868437227405312 := by
  unfold FP.Core.bound
  rw [en_qx]
  split
  · rename_i h
    exact en_fin hc h
  · decide
theorem en_se (c : Nat) (q : Int) : FP.Core.encode FP.Core.b64 (FP.Core.settle FP.Core.b64 false c q) ≤ 9218868437227405312 := by
  unfold FP.Core.settle
  split
  · rename_i h
    exact en_bd (Nat.lt_of_lt_of_le h (by decide))
  · exact en_bd (by decide)
theorem en_rr (a d : Nat) (e : Int) : FP.Core.encode FP.Core.b64 (FP.Core.roundRatio FP.Core.b64 false a d e) ≤ 9218868437227405312 := by
  unfold FP.Core.roundRatio
  split
  · exact en_fin (by decide) (by decide)
  · exact en_se _ _
def pos64 (n : Nat) : Bool := match FP.Core.decode FP.Core.b64 n with
  | .fin false _ _ => true
  | _ => false
theorem pos64_y {n : Nat} (h : pos64 n = true) : ∃ c q, FP.Core.decode FP.Core.b64 n = .fin false c q := by
  unfold pos64 at h
  split at h
  · rename_i c q e
    exact ⟨c, q, e⟩
  · cases h
theorem dd_le {a b : UInt64} (ha : pos64 a.toNat = true) (hb : pos64 b.toNat = true) (hz : ∀ q, FP.Core.decode FP.Core.b64 b.toNat ≠ .fin false 0 q) : (FP.ddiv a b).toNat ≤ 9218868437227405312 := by
  obtain ⟨c, q, e1⟩ := pos64_y ha
  obtain ⟨d, t, e2⟩ := pos64_y hb
  have h0 : d ≠ 0 := fun e => hz t (by rw [e2, e])
  have hn : FP.Core.div FP.Core.b64 a.toNat b.toNat ≤ 9218868437227405312 := by
    unfold FP.Core.div
    rw [e1, e2]
    show FP.Core.encode FP.Core.b64 (if d = 0 then _ else FP.Core.roundRatio FP.Core.b64 (false != false) c d (q - t)) ≤ _
    rw [if_neg h0]
    exact en_rr c d (q - t)
  show (UInt64.ofNat (FP.Core.div FP.Core.b64 a.toNat b.toNat)).toNat ≤ _
  rw [UInt64.toNat_ofNat_of_lt' (Nat.lt_of_le_of_lt hn (by decide))]
  exact hn
theorem le_vf {a : UInt64} (h : a.toNat ≤ 9218868437227405312) : a &&& 0x7fffffffffffffff ≤ 0x7ff0000000000000 := by
  rw [UInt64.le_iff_toNat_le, UInt64.toNat_and]
  exact Nat.le_trans Nat.and_le_left h
theorem or_self {d : FP.Core.Datum} (h : d ≠ .nan) : FP.Core.order d d = some .eq := by
  cases d with
  | nan => exact absurd rfl h
  | inf s => cases s <;> decide
  | fin s c q =>
    show some (compare (FP.Core.signed s (FP.Core.inUnits c q (min q q))) (FP.Core.signed s (FP.Core.inUnits c q (min q q)))) = some .eq
    rw [Int.compare_eq_eq.mpr rfl]
theorem le_dc {a : UInt64} (h : a.toNat ≤ 9218868437227405312) : Op.cmpValue (FP.dcmp a a) .l = 0 := by
  have hd : FP.Core.decode FP.Core.b64 a.toNat ≠ .nan := by
    unfold FP.Core.decode FP.Core.fieldE FP.Core.fieldT
    rw [en_tl, en_ex]
    split
    · rename_i h1
      rw [if_pos (by omega)]
      exact fun g => by cases g
    · split
      · exact fun g => by cases g
      · exact fun g => by cases g
  have e : FP.dcmp a a = some .eq := or_self hd
  rw [e]
  rfl
