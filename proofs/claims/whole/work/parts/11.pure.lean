/-! PURE WORDS: what a method computes is told as a term of these; 'none' where the machine itself would throw or a loop has no fuel left -/
abbrev sV : Type := Nat → Nat → Int32
abbrev sR : Type := Nat → Nat → Nat
def s2 (v : sV) (p i : Nat) (x : Int32) : sV := fun q j => if q = p ∧ j = i then x else v q j
def r2 (r : sR) (p i : Nat) (x : Nat) : sR := fun q j => if q = p ∧ j = i then x else r q j
def nm {α β : Type} (a : α) (f : α → β) : β := f a
def ld {β : Type} (v : sV) (p N : Nat) (i : Int32) (f : Int32 → Option β) : Option β := if 0 ≤ i.toInt ∧ i.toInt < N then f (v p i.toNatClampNeg) else none
def sa {β : Type} (v : sV) (p N : Nat) (i x : Int32) (f : sV → Option β) : Option β := if 0 ≤ i.toInt ∧ i.toInt < N then f (s2 v p i.toNatClampNeg x) else none
def sf {β : Type} (v : sV) (p k : Nat) (x : Int32) (f : sV → Option β) : Option β := f (s2 v p k x)
def bo (x : Int32) (o : Option Int32) : Option Int32 := if x = 0 ∨ x = 1 then o else none
def cpv (v : sV) (dst src N : Nat) : sV := fun p j => if p = dst ∧ j < N then v src j else v p j
def cp {β : Type} (v : sV) (dst src N : Nat) (f : sV → Option β) : Option β := f (cpv v dst src N)
def ldS {β : Type} (r : sR) (i : Int32) (f0 : Option β) (f1 : Nat → Option β) : Option β := if 0 ≤ i.toInt ∧ i.toInt < 8 then (match r 36 i.toNatClampNeg with | 0 => f0 | q + 1 => f1 q) else none
def ddv {β : Type} (a b : UInt64) (f : UInt64 → Option β) : Option β := if FP.ddiv a b &&& 0x7fffffffffffffff ≤ 0x7ff0000000000000 then f (FP.ddiv a b) else none
def fdv {β : Type} (a b : UInt32) (f : UInt32 → Option β) : Option β := if FP.fdiv a b &&& 0x7fffffff ≤ 0x7f800000 then f (FP.fdiv a b) else none
def irm (x y : Int32) : Int32 := x - x / y * y
def ckz {β : Type} (x : Int32) (o : Option β) : Option β := if x = 0 ∨ x = 1 then o else none
def ckc {β : Type} (x : Int32) (o : Option β) : Option β := if 0 ≤ x.toInt ∧ x.toInt < 65536 then o else none
def fx0 {ρ : Type} (F : Option ρ → Option ρ) : Nat → Option ρ
  | 0 => none
  | k + 1 => F (fx0 F k)
def fx1 {a1 ρ : Type} (F : (a1 → Option ρ) → a1 → Option ρ) : Nat → a1 → Option ρ
  | 0 => fun _ => none
  | k + 1 => F (fx1 F k)
def fx2 {a1 a2 ρ : Type} (F : (a1 → a2 → Option ρ) → a1 → a2 → Option ρ) : Nat → a1 → a2 → Option ρ
  | 0 => fun _ _ => none
  | k + 1 => F (fx2 F k)
def fx3 {a1 a2 a3 ρ : Type} (F : (a1 → a2 → a3 → Option ρ) → a1 → a2 → a3 → Option ρ) : Nat → a1 → a2 → a3 → Option ρ
  | 0 => fun _ _ _ => none
  | k + 1 => F (fx3 F k)
def fx4 {a1 a2 a3 a4 ρ : Type} (F : (a1 → a2 → a3 → a4 → Option ρ) → a1 → a2 → a3 → a4 → Option ρ) : Nat → a1 → a2 → a3 → a4 → Option ρ
  | 0 => fun _ _ _ _ => none
  | k + 1 => F (fx4 F k)
def fx5 {a1 a2 a3 a4 a5 ρ : Type} (F : (a1 → a2 → a3 → a4 → a5 → Option ρ) → a1 → a2 → a3 → a4 → a5 → Option ρ) : Nat → a1 → a2 → a3 → a4 → a5 → Option ρ
  | 0 => fun _ _ _ _ _ => none
  | k + 1 => F (fx5 F k)
def fx6 {a1 a2 a3 a4 a5 a6 ρ : Type} (F : (a1 → a2 → a3 → a4 → a5 → a6 → Option ρ) → a1 → a2 → a3 → a4 → a5 → a6 → Option ρ) : Nat → a1 → a2 → a3 → a4 → a5 → a6 → Option ρ
  | 0 => fun _ _ _ _ _ _ => none
  | k + 1 => F (fx6 F k)
theorem ld_e {β : Type} {v : sV} {p N : Nat} {i : Int32} {f : Int32 → Option β} {y : β} (h : ld v p N i f = some y) : (0 ≤ i.toInt ∧ i.toInt < N) ∧ f (v p i.toNatClampNeg) = some y := by
  unfold ld at h
  split at h
  · exact ⟨by assumption, h⟩
  · cases h
theorem sa_e {β : Type} {v : sV} {p N : Nat} {i x : Int32} {f : sV → Option β} {y : β} (h : sa v p N i x f = some y) : (0 ≤ i.toInt ∧ i.toInt < N) ∧ f (s2 v p i.toNatClampNeg x) = some y := by
  unfold sa at h
  split at h
  · exact ⟨by assumption, h⟩
  · cases h
theorem bi_e {α β : Type} {o : Option α} {f : α → Option β} {y : β} (h : o.bind f = some y) : ∃ a, o = some a ∧ f a = some y := by
  cases o with
  | none => cases h
  | some a => exact ⟨a, rfl, h⟩
theorem ckz_e {β : Type} {x : Int32} {o : Option β} {y : β} (h : ckz x o = some y) : (x = 0 ∨ x = 1) ∧ o = some y := by
  unfold ckz at h
  split at h
  · exact ⟨by assumption, h⟩
  · cases h
theorem ckc_e {β : Type} {x : Int32} {o : Option β} {y : β} (h : ckc x o = some y) : (0 ≤ x.toInt ∧ x.toInt < 65536) ∧ o = some y := by
  unfold ckc at h
  split at h
  · exact ⟨by assumption, h⟩
  · cases h
theorem nm_x {α β : Type} {a : α} {f : α → Option β} {y : β} (h : nm a f = some y) : ∃ z, z = a ∧ f z = some y := ⟨a, rfl, h⟩
theorem fx0_z { ρ : Type} {F : (Option ρ → Option ρ)} {y : ρ} {P : Prop} (h : fx0 F 0  = some y) : P := by cases h
theorem fx1_z {a1 ρ : Type} {F : ((a1 → Option ρ) → a1 → Option ρ)} {x1 : a1} {y : ρ} {P : Prop} (h : fx1 F 0 x1 = some y) : P := by cases h
theorem fx2_z {a1 a2 ρ : Type} {F : ((a1 → a2 → Option ρ) → a1 → a2 → Option ρ)} {x1 : a1} {x2 : a2} {y : ρ} {P : Prop} (h : fx2 F 0 x1 x2 = some y) : P := by cases h
theorem fx3_z {a1 a2 a3 ρ : Type} {F : ((a1 → a2 → a3 → Option ρ) → a1 → a2 → a3 → Option ρ)} {x1 : a1} {x2 : a2} {x3 : a3} {y : ρ} {P : Prop} (h : fx3 F 0 x1 x2 x3 = some y) : P := by cases h
theorem fx4_z {a1 a2 a3 a4 ρ : Type} {F : ((a1 → a2 → a3 → a4 → Option ρ) → a1 → a2 → a3 → a4 → Option ρ)} {x1 : a1} {x2 : a2} {x3 : a3} {x4 : a4} {y : ρ} {P : Prop} (h : fx4 F 0 x1 x2 x3 x4 = some y) : P := by cases h
theorem fx5_z {a1 a2 a3 a4 a5 ρ : Type} {F : ((a1 → a2 → a3 → a4 → a5 → Option ρ) → a1 → a2 → a3 → a4 → a5 → Option ρ)} {x1 : a1} {x2 : a2} {x3 : a3} {x4 : a4} {x5 : a5} {y : ρ} {P : Prop} (h : fx5 F 0 x1 x2 x3 x4 x5 = some y) : P := by cases h
theorem fx6_z {a1 a2 a3 a4 a5 a6 ρ : Type} {F : ((a1 → a2 → a3 → a4 → a5 → a6 → Option ρ) → a1 → a2 → a3 → a4 → a5 → a6 → Option ρ)} {x1 : a1} {x2 : a2} {x3 : a3} {x4 : a4} {x5 : a5} {x6 : a6} {y : ρ} {P : Prop} (h : fx6 F 0 x1 x2 x3 x4 x5 x6 = some y) : P := by cases h
