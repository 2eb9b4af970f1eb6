/-! MAKING, PURE: the calculus of terms that make; a State of the ring, made when it is needed -/
def oA {β : Type} (o : Option (β × sR × sV × Nat)) (n : Nat) (Q : β → sR → sV → Nat → Prop) : Prop := ∃ z, o = some z ∧ Q z.1 z.2.1 z.2.2.1 (n + z.2.2.2)
section
variable {α β : Type} {r : sR} {v : sV} {n m K : Nat} {Q : β → sR → sV → Nat → Prop}
theorem oA_ck {P : Prop} {o : Option (β × sR × sV × Nat)} (hP : P) (h : oA o n Q) : oA (ck P o) n Q := by
  rw [ck_i hP]
  exact h
theorem oA_ac {q : α × sR × sV × Nat} {f : α → sR → sV → Nat → Option (β × sR × sV × Nat)} (h : oA (f q.1 q.2.1 q.2.2.1 (n + q.2.2.2)) (n + q.2.2.2) Q) : oA (ac q n f) n Q := by
  obtain ⟨z, e, hq⟩ := h
  refine ⟨(z.1, z.2.1, z.2.2.1, q.2.2.2 + z.2.2.2), by unfold ac; rw [e]; rfl, ?_⟩
  show Q z.1 z.2.1 z.2.2.1 (n + (q.2.2.2 + z.2.2.2))
  rw [← Nat.add_assoc]
  exact hq
theorem oA_nw (m : Nat) {f : sR → sV → Nat → Option (β × sR × sV × Nat)} (hm : n + 1 = m) (h : oA (f (rz r n) (vz v n) m) m Q) : oA (nw r v n f) n Q := by
  subst hm
  exact oA_ac h
theorem oA_b {o : Option (α × sR × sV × Nat)} {P : α → sR → sV → Nat → Prop} {f : α → sR → sV → Nat → Option (β × sR × sV × Nat)} (h : oA o n P) (k : ∀ a r v m, P a r v m → oA (f a r v m) m Q) : oA (o.bind (fun q => ac q n f)) n Q := by
  obtain ⟨z, e, hz⟩ := h
  rw [e]
  exact oA_ac (k _ _ _ _ hz)
theorem oA_s {a : β} (h : Q a r v n) : oA (some (a, r, v, 0)) n Q := ⟨_, rfl, h⟩
theorem oA_fill {p N : Nat} {y : Int32} {f : sV → Option (β × sR × sV × Nat)} (hN : N ≤ 1000) (hK : 1000 < K) (k : ∀ v' : sV, (∀ q, q ≠ p → v' q = v q) → (∀ j, j < N → v' p j = y) → oA (f v') n Q) : oA ((fJ7_fill_53178 K p N y v).bind f) n Q := by
  obtain ⟨v', e, h1, h2⟩ := fill_ex (K := K) (v := v) (p := p) (N := N) (y := y) hN hK
  rw [e]
  exact k v' h1 h2
theorem r2_ij {p i y : Nat} : r2 r p i y p i = y := if_pos ⟨rfl, rfl⟩
theorem r2_o {p i y q j : Nat} (h : ¬ (q = p ∧ j = i)) : r2 r p i y q j = r q j := if_neg h
theorem rz_o {q j : Nat} (h : q ≠ n) : rz r n q j = r q j := if_neg h
theorem rz_i {j : Nat} : rz r n n j = 0 := if_pos rfl
theorem vz_o {q : Nat} (h : q ≠ n) : vz v n q = v q := by
  funext j
  exact if_neg h
theorem vz_i {j : Nat} : vz v n n j = nI 0 := if_pos rfl
theorem oA_nb (m : Nat) {pl : Nat} {f : sR → sV → Nat → Option (β × sR × sV × Nat)} (hm : n + 2 = m) (h : oA (f (rrv r n pl) (vz v pl) m) m Q) : oA (nb r v n pl f) n Q := by
  subst hm
  exact oA_ac h
def addk {β : Type} (k : Nat) (z : β × sR × sV × Nat) : β × sR × sV × Nat := (z.1, z.2.1, z.2.2.1, k + z.2.2.2)
theorem bac {a : α} {k : Nat} {r' : sR} {v' : sV} {o : Option (α × sR × sV × Nat)} {f : α → sR → sV → Nat → Option (β × sR × sV × Nat)} (h : o = some (a, r', v', k)) : o.bind (fun q9 => ac q9 n f) = (f a r' v' (n + k)).map (addk k) := by
  subst h
  rfl
theorem wf_rrv {pl : Nat} (h : wf r n) : wf (rrv r n pl) (n + 2) := by
  intro p k hp
  unfold rrv
  split
  · exact Nat.zero_le _
  · split
    · omega
    · have := h p k (by omega)
      omega
/-- the rows of a State under way: b its place, j how many of its rows stand -/
def IR (b j : Nat) (r : sR) (n : Nat) : Prop := 172 ≤ n ∧ wf r n ∧ (∀ i, j ≤ i → i < 12 → r (b + 1 + i) gI ≠ 0) ∧ ∀ p k i, j ≤ i → i < 12 → r p k ≠ b + 1 + i + 1
def stR (b j : Nat) (r : sR) (n : Nat) : sR := r2 (rrv r n (b + 1 + j)) b j (b + 1 + j + 1)
theorem ir_ck {b j : Nat} (hb : 37 ≤ b ∧ b + 13 ≤ 141) (hj : j < 12) (h : IR b j r n) : wf r n ∧ rvo r n (b + 1 + j) := by
  obtain ⟨h1, h2, h3, h4⟩ := h
  exact ⟨h2, h1, by omega, h3 j (Nat.le_refl j) hj, fun p k _ => h4 p k j (Nat.le_refl j) hj⟩
theorem ir_st {b j : Nat} (hb : 37 ≤ b ∧ b + 13 ≤ 141) (hj : j < 12) (h : IR b j r n) : IR b (j + 1) (stR b j r n) (n + 2) := by
  obtain ⟨h1, h2, h3, h4⟩ := h
  refine ⟨by omega, wf_r2 (wf_rrv h2) (by omega), fun i hi hi2 => ?_, fun p k i hi hi2 => ?_⟩
  · unfold stR
    rw [r2_ne (by omega), rrv_row (by omega) (by omega)]
    exact h3 i (by omega) hi2
  · unfold stR r2
    split
    · omega
    · unfold rrv
      split
      · omega
      · split
        · omega
        · exact h4 p k i (by omega) hi2
/-- what stands after j rows -/
def FR (b j : Nat) (r0 r : sR) (n0 n : Nat) : Prop := n = n0 + 2 * j ∧ (∀ i, i < j → r b i = b + i + 2) ∧ (∀ k, j ≤ k → r b k = r0 b k) ∧ (∀ i k, i < j → r (b + 1 + i) k = 0) ∧ (∀ p, ¬ (b ≤ p ∧ p < b + 13) → ¬ (n0 ≤ p ∧ p < n) → r p = r0 p) ∧ ∀ p k, n0 ≤ p → p < n → r p k = 1
theorem fr_st {b j : Nat} {r0 : sR} {n0 : Nat} (hb : 37 ≤ b ∧ b + 13 ≤ 141) (hn : 172 ≤ n0) (hj : j < 12) (h : FR b j r0 r n0 n) : FR b (j + 1) r0 (stR b j r n) n0 (n + 2) := by
  obtain ⟨h0, h1, h2, h3, h4, h5⟩ := h
  refine ⟨by omega, fun i hi => ?_, fun k hk => ?_, fun i k hi => ?_, fun p p1 p2 => ?_, fun p k p1 p2 => ?_⟩
  · unfold stR
    by_cases e : i = j
    · rw [e, r2_ij]; omega
    · rw [r2_o (by omega), rrv_row (by omega) (by omega)]
      exact h1 i (by omega)
  · unfold stR
    rw [r2_o (by omega), rrv_row (by omega) (by omega)]
    exact h2 k (by omega)
  · unfold stR
    rw [r2_ne (by omega)]
    by_cases e : i = j
    · rw [e, rrv_pl]
    · rw [rrv_row (by omega) (by omega)]
      exact h3 i k (by omega)
  · have e1 : rrv r n (b + 1 + j) p = r p := by
      funext k
      unfold rrv
      rw [if_neg (by omega), if_neg (by omega)]
    unfold stR
    rw [r2_ne (by omega), e1]
    exact h4 p p1 (by omega)
  · unfold stR
    rw [r2_ne (by omega)]
    unfold rrv
    rw [if_neg (by omega)]
    by_cases e : p = n ∨ p = n + 1
    · rw [if_pos e]
    · rw [if_neg e]
      exact h5 p k p1 (by omega)
set_option maxHeartbeats 2000000 in
theorem rv_in {b : Nat} (hb : 37 ≤ b ∧ b + 13 ≤ 141) (hk : ∀ j, j < 12 → sks (b + 1 + j) = (10, lnR j)) (h : IR b 0 r n) (hK : 1000 < K) : oA (fX5_initR K b r v n) n (fun _ r1 v1 n1 => FR b 12 r r1 n n1 ∧ wf r1 n1 ∧ ∀ p, ¬ (b ≤ p ∧ p < b + 13) → v1 p = v p) := by
  have f0 : FR b 0 r r n n := ⟨rfl, fun i hi => absurd hi (Nat.not_lt_zero i), fun _ _ => rfl, fun i _ hi => absurd hi (Nat.not_lt_zero i), fun _ _ _ => rfl, fun p _ p1 p2 => by omega⟩
  have hn := h.1
  unfold fX5_initR
  simp only [nm_w, sf_w]
  refine oA_ck ⟨hk 0 (by decide), (ir_ck hb (by decide) h).1, (ir_ck hb (by decide) h).2⟩ (oA_nb (n + 2) rfl ?_)
  have i1 : IR b 1 _ _ := ir_st hb (by decide) h
  have f1 : FR b 1 r _ n _ := fr_st hb hn (by decide) f0
  refine oA_ck ⟨hk 1 (by decide), (ir_ck hb (by decide) i1).1, (ir_ck hb (by decide) i1).2⟩ (oA_nb (n + 2 + 2) rfl ?_)
  have i2 : IR b 2 _ _ := ir_st hb (by decide) i1
  have f2 : FR b 2 r _ n _ := fr_st hb hn (by decide) f1
  refine oA_ck ⟨hk 2 (by decide), (ir_ck hb (by decide) i2).1, (ir_ck hb (by decide) i2).2⟩ (oA_nb (n + 2 + 2 + 2) rfl ?_)
  have i3 : IR b 3 _ _ := ir_st hb (by decide) i2
  have f3 : FR b 3 r _ n _ := fr_st hb hn (by decide) f2
  refine oA_ck ⟨hk 3 (by decide), (ir_ck hb (by decide) i3).1, (ir_ck hb (by decide) i3).2⟩ (oA_nb (n + 2 + 2 + 2 + 2) rfl ?_)
  have i4 : IR b 4 _ _ := ir_st hb (by decide) i3
  have f4 : FR b 4 r _ n _ := fr_st hb hn (by decide) f3
  refine oA_ck ⟨hk 4 (by decide), (ir_ck hb (by decide) i4).1, (ir_ck hb (by decide) i4).2⟩ (oA_nb (n + 2 + 2 + 2 + 2 + 2) rfl ?_)
  have i5 : IR b 5 _ _ := ir_st hb (by decide) i4
  have f5 : FR b 5 r _ n _ := fr_st hb hn (by decide) f4
  refine oA_ck ⟨hk 5 (by decide), (ir_ck hb (by decide) i5).1, (ir_ck hb (by decide) i5).2⟩ (oA_nb (n + 2 + 2 + 2 + 2 + 2 + 2) rfl ?_)
  have i6 : IR b 6 _ _ := ir_st hb (by decide) i5
  have f6 : FR b 6 r _ n _ := fr_st hb hn (by decide) f5
  refine oA_ck ⟨hk 6 (by decide), (ir_ck hb (by decide) i6).1, (ir_ck hb (by decide) i6).2⟩ (oA_nb (n + 2 + 2 + 2 + 2 + 2 + 2 + 2) rfl ?_)
  have i7 : IR b 7 _ _ := ir_st hb (by decide) i6
  have f7 : FR b 7 r _ n _ := fr_st hb hn (by decide) f6
  refine oA_ck ⟨hk 7 (by decide), (ir_ck hb (by decide) i7).1, (ir_ck hb (by decide) i7).2⟩ (oA_nb (n + 2 + 2 + 2 + 2 + 2 + 2 + 2 + 2) rfl ?_)
  have i8 : IR b 8 _ _ := ir_st hb (by decide) i7
  have f8 : FR b 8 r _ n _ := fr_st hb hn (by decide) f7
  refine oA_ck ⟨hk 8 (by decide), (ir_ck hb (by decide) i8).1, (ir_ck hb (by decide) i8).2⟩ (oA_nb (n + 2 + 2 + 2 + 2 + 2 + 2 + 2 + 2 + 2) rfl ?_)
  have i9 : IR b 9 _ _ := ir_st hb (by decide) i8
  have f9 : FR b 9 r _ n _ := fr_st hb hn (by decide) f8
  refine oA_ck ⟨hk 9 (by decide), (ir_ck hb (by decide) i9).1, (ir_ck hb (by decide) i9).2⟩ (oA_nb (n + 2 + 2 + 2 + 2 + 2 + 2 + 2 + 2 + 2 + 2) rfl ?_)
  have i10 : IR b 10 _ _ := ir_st hb (by decide) i9
  have f10 : FR b 10 r _ n _ := fr_st hb hn (by decide) f9
  refine oA_ck ⟨hk 10 (by decide), (ir_ck hb (by decide) i10).1, (ir_ck hb (by decide) i10).2⟩ (oA_nb (n + 2 + 2 + 2 + 2 + 2 + 2 + 2 + 2 + 2 + 2 + 2) rfl ?_)
  have i11 : IR b 11 _ _ := ir_st hb (by decide) i10
  have f11 : FR b 11 r _ n _ := fr_st hb hn (by decide) f10
  refine oA_ck ⟨hk 11 (by decide), (ir_ck hb (by decide) i11).1, (ir_ck hb (by decide) i11).2⟩ (oA_nb (n + 2 + 2 + 2 + 2 + 2 + 2 + 2 + 2 + 2 + 2 + 2 + 2) rfl ?_)
  have i12 : IR b 12 _ _ := ir_st hb (by decide) i11
  have f12 : FR b 12 r _ n _ := fr_st hb hn (by decide) f11
  have hI : IR b 12 (r2 (rrv (r2 (rrv (r2 (rrv (r2 (rrv (r2 (rrv (r2 (rrv (r2 (rrv (r2 (rrv (r2 (rrv (r2 (rrv (r2 (rrv (r2 (rrv r (n) (b + 1)) b 0 ((b + 1) + 1)) (n + 2) (b + 2)) b 1 ((b + 2) + 1)) (n + 2 + 2) (b + 3)) b 2 ((b + 3) + 1)) (n + 2 + 2 + 2) (b + 4)) b 3 ((b + 4) + 1)) (n + 2 + 2 + 2 + 2) (b + 5)) b 4 ((b + 5) + 1)) (n + 2 + 2 + 2 + 2 + 2) (b + 6)) b 5 ((b + 6) + 1)) (n + 2 + 2 + 2 + 2 + 2 + 2) (b + 7)) b 6 ((b + 7) + 1)) (n + 2 + 2 + 2 + 2 + 2 + 2 + 2) (b + 8)) b 7 ((b + 8) + 1)) (n + 2 + 2 + 2 + 2 + 2 + 2 + 2 + 2) (b + 9)) b 8 ((b + 9) + 1)) (n + 2 + 2 + 2 + 2 + 2 + 2 + 2 + 2 + 2) (b + 10)) b 9 ((b + 10) + 1)) (n + 2 + 2 + 2 + 2 + 2 + 2 + 2 + 2 + 2 + 2) (b + 11)) b 10 ((b + 11) + 1)) (n + 2 + 2 + 2 + 2 + 2 + 2 + 2 + 2 + 2 + 2 + 2) (b + 12)) b 11 ((b + 12) + 1)) (n + 2 + 2 + 2 + 2 + 2 + 2 + 2 + 2 + 2 + 2 + 2 + 2) := i12
  have hF : FR b 12 r (r2 (rrv (r2 (rrv (r2 (rrv (r2 (rrv (r2 (rrv (r2 (rrv (r2 (rrv (r2 (rrv (r2 (rrv (r2 (rrv (r2 (rrv (r2 (rrv r (n) (b + 1)) b 0 ((b + 1) + 1)) (n + 2) (b + 2)) b 1 ((b + 2) + 1)) (n + 2 + 2) (b + 3)) b 2 ((b + 3) + 1)) (n + 2 + 2 + 2) (b + 4)) b 3 ((b + 4) + 1)) (n + 2 + 2 + 2 + 2) (b + 5)) b 4 ((b + 5) + 1)) (n + 2 + 2 + 2 + 2 + 2) (b + 6)) b 5 ((b + 6) + 1)) (n + 2 + 2 + 2 + 2 + 2 + 2) (b + 7)) b 6 ((b + 7) + 1)) (n + 2 + 2 + 2 + 2 + 2 + 2 + 2) (b + 8)) b 7 ((b + 8) + 1)) (n + 2 + 2 + 2 + 2 + 2 + 2 + 2 + 2) (b + 9)) b 8 ((b + 9) + 1)) (n + 2 + 2 + 2 + 2 + 2 + 2 + 2 + 2 + 2) (b + 10)) b 9 ((b + 10) + 1)) (n + 2 + 2 + 2 + 2 + 2 + 2 + 2 + 2 + 2 + 2) (b + 11)) b 10 ((b + 11) + 1)) (n + 2 + 2 + 2 + 2 + 2 + 2 + 2 + 2 + 2 + 2 + 2) (b + 12)) b 11 ((b + 12) + 1)) n (n + 2 + 2 + 2 + 2 + 2 + 2 + 2 + 2 + 2 + 2 + 2 + 2) := f12
  have hv : ∀ p, ¬ (b ≤ p ∧ p < b + 13) → (vz (vz (vz (vz (vz (vz (vz (vz (vz (vz (vz (vz v (b + 1)) (b + 2)) (b + 3)) (b + 4)) (b + 5)) (b + 6)) (b + 7)) (b + 8)) (b + 9)) (b + 10)) (b + 11)) (b + 12)) p = v p := by
    intro p hp
    simp (disch := omega) only [vz_o]
  clear i1 i2 i3 i4 i5 i6 i7 i8 i9 i10 i11 i12 f1 f2 f3 f4 f5 f6 f7 f8 f9 f10 f11 f12
  revert hI hF hv
  generalize (r2 (rrv (r2 (rrv (r2 (rrv (r2 (rrv (r2 (rrv (r2 (rrv (r2 (rrv (r2 (rrv (r2 (rrv (r2 (rrv (r2 (rrv (r2 (rrv r (n) (b + 1)) b 0 ((b + 1) + 1)) (n + 2) (b + 2)) b 1 ((b + 2) + 1)) (n + 2 + 2) (b + 3)) b 2 ((b + 3) + 1)) (n + 2 + 2 + 2) (b + 4)) b 3 ((b + 4) + 1)) (n + 2 + 2 + 2 + 2) (b + 5)) b 4 ((b + 5) + 1)) (n + 2 + 2 + 2 + 2 + 2) (b + 6)) b 5 ((b + 6) + 1)) (n + 2 + 2 + 2 + 2 + 2 + 2) (b + 7)) b 6 ((b + 7) + 1)) (n + 2 + 2 + 2 + 2 + 2 + 2 + 2) (b + 8)) b 7 ((b + 8) + 1)) (n + 2 + 2 + 2 + 2 + 2 + 2 + 2 + 2) (b + 9)) b 8 ((b + 9) + 1)) (n + 2 + 2 + 2 + 2 + 2 + 2 + 2 + 2 + 2) (b + 10)) b 9 ((b + 10) + 1)) (n + 2 + 2 + 2 + 2 + 2 + 2 + 2 + 2 + 2 + 2) (b + 11)) b 10 ((b + 11) + 1)) (n + 2 + 2 + 2 + 2 + 2 + 2 + 2 + 2 + 2 + 2 + 2) (b + 12)) b 11 ((b + 12) + 1)) = rr
  generalize (vz (vz (vz (vz (vz (vz (vz (vz (vz (vz (vz (vz v (b + 1)) (b + 2)) (b + 3)) (b + 4)) (b + 5)) (b + 6)) (b + 7)) (b + 8)) (b + 9)) (b + 10)) (b + 11)) (b + 12)) = vv
  generalize n + 2 + 2 + 2 + 2 + 2 + 2 + 2 + 2 + 2 + 2 + 2 + 2 = nn
  intro hI hF hv
  have hlv : ∀ j, j < 12 → lv rr nn (b + 1 + j) := fun j hj => ⟨by have := hI.1; omega, hF.2.2.2.1 j _ hj⟩
  have hr : ∀ j, j < 12 → rr b j = b + 1 + j + 1 := fun j hj => by rw [hF.2.1 j hj]; omega
  refine oA_ck ⟨hr 0 (by decide), hlv 0 (by decide)⟩ (oA_fill (by decide) hK (fun w0 g0 _ => ?_))
  refine oA_ck ⟨hr 2 (by decide), hlv 2 (by decide)⟩ (oA_fill (by decide) hK (fun w1 g1 _ => ?_))
  refine oA_ck ⟨hr 3 (by decide), hlv 3 (by decide)⟩ (oA_fill (by decide) hK (fun w2 g2 _ => ?_))
  refine oA_ck ⟨hr 4 (by decide), hlv 4 (by decide)⟩ (oA_fill (by decide) hK (fun w3 g3 _ => ?_))
  refine oA_ck ⟨hr 8 (by decide), hlv 8 (by decide)⟩ (oA_fill (by decide) hK (fun w4 g4 _ => ?_))
  refine oA_s ⟨hF, hI.2.1, fun p hp => ?_⟩
  rw [g4 p (by omega), g3 p (by omega), g2 p (by omega), g1 p (by omega), g0 p (by omega), s2_ne (by omega)]
  exact hv p hp
end
