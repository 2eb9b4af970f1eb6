/-! THE FIRST WORLD: what the constructors make -/
noncomputable def fSt (K : Nat) (r : sR) (v : sV) : Option (Unit × sR × sV × Nat) :=
  ck (sks 0 = (8, 8) ∧ wf r 0) (nw r v 0 (fun r1 v1 n1 => (fX6_init K 0 r1 v1 n1).bind (fun q9 => ac q9 n1 (fun _ r2 v2 n2 => ck (n2 = 157) (ck (sks n2 = (9, 16) ∧ wf r2 n2) (nw r2 v2 n2 (fun r3 v3 n3 => (fX7_init K n2 r3 v3 n3).bind (fun q9 => ac q9 n3 (fun _ r4 v4 n4 => ck (n4 = 170) (ck (sks n4 = (13, 1) ∧ wf r4 n4) (nw r4 v4 n4 (fun r5 v5 n5 => ck (n5 = 171) (ck (sks n5 = (14, 1) ∧ wf r5 n5) (nw r5 v5 n5 (fun r6 v6 n6 => some ((), r6, v6, 0))))))))))))))))
def S0 : aS := fun j _ => if j = 0 then nI 1 else if j = 2 ∨ j = 3 ∨ j = 4 ∨ j = 8 then jM else if j = 12 then nI 3 else nI 0
def Zr (r : sR) (n : Nat) : Prop := (∀ p, p < n → ¬ (37 ≤ p ∧ p < 141) → r p gI = 0) ∧ (∀ p k, r p k ≤ 37 ∨ 142 ≤ r p k) ∧ (141 ≤ n → ∀ p, 37 ≤ p → p < 141 → r p gI ≠ 0) ∧ ∀ k, r 36 k = 0
def wz (r : sR) (n : Nat) : Prop := wf r n ∧ Zr r n
theorem wz_rz {r : sR} {n : Nat} (h : wz r n) (hn : n < 37 ∨ 141 ≤ n := by omega) : wz (rz r n) (n + 1) := by
  obtain ⟨h0, h1, h2, h3, h4⟩ := h
  refine ⟨wf_rz h0, fun p hp hb => ?_, fun p k => ?_, fun hn1 p p1 p2 => ?_, fun k => ?_⟩
  · by_cases e : p = n
    · rw [e, rz_n]
    · rw [rz_row e]
      exact h1 p (by omega) hb
  · by_cases e : p = n
    · rw [e, rz_n]; omega
    · rw [rz_row e]
      exact h2 p k
  · rw [rz_row (by omega)]
    exact h3 (by omega) p p1 p2
  · by_cases e : 36 = n
    · rw [e, rz_n]
    · rw [rz_row e]
      exact h4 k
theorem wz_r2 {r : sR} {n p i y : Nat} (h : wz r n) (hy : y ≤ n) (h1 : y ≤ 37 ∨ 142 ≤ y := by omega) (h2 : i ≠ gI := by decide) (h3 : p ≠ 36 := by omega) : wz (r2 r p i y) n := by
  obtain ⟨g0, g1, g2, g3, g4⟩ := h
  refine ⟨wf_r2 g0 hy, fun q hq hb => ?_, fun q k => ?_, fun hn1 q p1 p2 => ?_, fun k => ?_⟩
  · rw [r2_gI h2]
    exact g1 q hq hb
  · unfold r2
    split
    · exact h1
    · exact g2 q k
  · rw [r2_gI h2]
    exact g3 hn1 q p1 p2
  · rw [r2_ne (Ne.symm h3)]
    exact g4 k
theorem wz_lv {r : sR} {n p : Nat} (h : wz r n) (hp : p < n) (hb : p < 37 ∨ 141 ≤ p) : lv r n p := ⟨hp, h.2.1 p hp (by omega)⟩
theorem wz_rj {r : sR} (h : wz r 37) : wz (rj r) 141 := by
  obtain ⟨g0, g1, g2, g3, g4⟩ := h
  refine ⟨fun p k hp => ?_, fun q hq hb => ?_, fun q k => ?_, fun _ q p1 p2 => ?_, fun k => ?_⟩
  · unfold rj
    split
    · omega
    · have := g0 p k (by omega)
      omega
  · unfold rj
    rw [if_neg hb]
    exact g1 q (by omega) hb
  · unfold rj
    split
    · omega
    · exact g2 q k
  · unfold rj
    rw [if_pos ⟨p1, p2⟩]
    decide
  · unfold rj
    rw [if_neg (by omega)]
    exact g4 k
theorem rj_o {r : sR} {q j : Nat} (h : q < 37 ∨ 141 ≤ q) : rj r q j = r q j := if_neg (by omega)
section
variable {α β : Type} {r : sR} {v : sV} {n m K : Nat} {Q : β → sR → sV → Nat → Prop}
theorem oA_j {f : Unit → sR → sV → Nat → Option (β × sR × sV × Nat)} (h : oA (f () (rj r) v 141) 141 Q) : oA (ac ((), rj r, v, 104) 37 f) 37 Q := oA_ac h
/-! a State -/
set_option maxHeartbeats 1000000 in
theorem st_in {b e : Nat} (hb : b + 13 ≤ 37 ∨ 141 ≤ b) (hk : ∀ j, j < 12 → sks (b + 1 + j) = (10, lnR j)) (hw : wz r (b + 1)) (he : b + 13 = e) (hK : 1000 < K) : oA (fX5_init K b r v (b + 1)) (b + 1) (fun _ r1 v1 n1 => n1 = e ∧ wz r1 e ∧ (∀ j, j < 12 → r1 b j = b + j + 2) ∧ (∀ p, p < b → r1 p = r p) ∧ (∀ p, p < b → v1 p = v p) ∧ RelC b S0 v1) := by
  subst he
  unfold fX5_init
  simp only [nm_w, sf_w]
  refine oA_ck ⟨hk 0 (by decide), hw.1⟩ (oA_nw (b + 1 + 1) rfl ?_)
  have hw := wz_r2 (p := b) (i := 0) (y := (b + 1) + 1) (wz_rz hw) (by omega)
  refine oA_ck ⟨hk 1 (by decide), hw.1⟩ (oA_nw (b + 1 + 1 + 1) rfl ?_)
  have hw := wz_r2 (p := b) (i := 1) (y := (b + 1 + 1) + 1) (wz_rz hw) (by omega)
  refine oA_ck ⟨hk 2 (by decide), hw.1⟩ (oA_nw (b + 1 + 1 + 1 + 1) rfl ?_)
  have hw := wz_r2 (p := b) (i := 2) (y := (b + 1 + 1 + 1) + 1) (wz_rz hw) (by omega)
  refine oA_ck ⟨hk 3 (by decide), hw.1⟩ (oA_nw (b + 1 + 1 + 1 + 1 + 1) rfl ?_)
  have hw := wz_r2 (p := b) (i := 3) (y := (b + 1 + 1 + 1 + 1) + 1) (wz_rz hw) (by omega)
  refine oA_ck ⟨hk 4 (by decide), hw.1⟩ (oA_nw (b + 1 + 1 + 1 + 1 + 1 + 1) rfl ?_)
  have hw := wz_r2 (p := b) (i := 4) (y := (b + 1 + 1 + 1 + 1 + 1) + 1) (wz_rz hw) (by omega)
  refine oA_ck ⟨hk 5 (by decide), hw.1⟩ (oA_nw (b + 1 + 1 + 1 + 1 + 1 + 1 + 1) rfl ?_)
  have hw := wz_r2 (p := b) (i := 5) (y := (b + 1 + 1 + 1 + 1 + 1 + 1) + 1) (wz_rz hw) (by omega)
  refine oA_ck ⟨hk 6 (by decide), hw.1⟩ (oA_nw (b + 1 + 1 + 1 + 1 + 1 + 1 + 1 + 1) rfl ?_)
  have hw := wz_r2 (p := b) (i := 6) (y := (b + 1 + 1 + 1 + 1 + 1 + 1 + 1) + 1) (wz_rz hw) (by omega)
  refine oA_ck ⟨hk 7 (by decide), hw.1⟩ (oA_nw (b + 1 + 1 + 1 + 1 + 1 + 1 + 1 + 1 + 1) rfl ?_)
  have hw := wz_r2 (p := b) (i := 7) (y := (b + 1 + 1 + 1 + 1 + 1 + 1 + 1 + 1) + 1) (wz_rz hw) (by omega)
  refine oA_ck ⟨hk 8 (by decide), hw.1⟩ (oA_nw (b + 1 + 1 + 1 + 1 + 1 + 1 + 1 + 1 + 1 + 1) rfl ?_)
  have hw := wz_r2 (p := b) (i := 8) (y := (b + 1 + 1 + 1 + 1 + 1 + 1 + 1 + 1 + 1) + 1) (wz_rz hw) (by omega)
  refine oA_ck ⟨hk 9 (by decide), hw.1⟩ (oA_nw (b + 1 + 1 + 1 + 1 + 1 + 1 + 1 + 1 + 1 + 1 + 1) rfl ?_)
  have hw := wz_r2 (p := b) (i := 9) (y := (b + 1 + 1 + 1 + 1 + 1 + 1 + 1 + 1 + 1 + 1) + 1) (wz_rz hw) (by omega)
  refine oA_ck ⟨hk 10 (by decide), hw.1⟩ (oA_nw (b + 1 + 1 + 1 + 1 + 1 + 1 + 1 + 1 + 1 + 1 + 1 + 1) rfl ?_)
  have hw := wz_r2 (p := b) (i := 10) (y := (b + 1 + 1 + 1 + 1 + 1 + 1 + 1 + 1 + 1 + 1 + 1) + 1) (wz_rz hw) (by omega)
  refine oA_ck ⟨hk 11 (by decide), hw.1⟩ (oA_nw (b + 1 + 1 + 1 + 1 + 1 + 1 + 1 + 1 + 1 + 1 + 1 + 1 + 1) rfl ?_)
  have hw := wz_r2 (p := b) (i := 11) (y := (b + 1 + 1 + 1 + 1 + 1 + 1 + 1 + 1 + 1 + 1 + 1 + 1) + 1) (wz_rz hw) (by omega)
  have hr : ∀ j, j < 12 → (r2 (rz (r2 (rz (r2 (rz (r2 (rz (r2 (rz (r2 (rz (r2 (rz (r2 (rz (r2 (rz (r2 (rz (r2 (rz (r2 (rz r (b + 1)) b 0 ((b + 1) + 1)) (b + 1 + 1)) b 1 ((b + 1 + 1) + 1)) (b + 1 + 1 + 1)) b 2 ((b + 1 + 1 + 1) + 1)) (b + 1 + 1 + 1 + 1)) b 3 ((b + 1 + 1 + 1 + 1) + 1)) (b + 1 + 1 + 1 + 1 + 1)) b 4 ((b + 1 + 1 + 1 + 1 + 1) + 1)) (b + 1 + 1 + 1 + 1 + 1 + 1)) b 5 ((b + 1 + 1 + 1 + 1 + 1 + 1) + 1)) (b + 1 + 1 + 1 + 1 + 1 + 1 + 1)) b 6 ((b + 1 + 1 + 1 + 1 + 1 + 1 + 1) + 1)) (b + 1 + 1 + 1 + 1 + 1 + 1 + 1 + 1)) b 7 ((b + 1 + 1 + 1 + 1 + 1 + 1 + 1 + 1) + 1)) (b + 1 + 1 + 1 + 1 + 1 + 1 + 1 + 1 + 1)) b 8 ((b + 1 + 1 + 1 + 1 + 1 + 1 + 1 + 1 + 1) + 1)) (b + 1 + 1 + 1 + 1 + 1 + 1 + 1 + 1 + 1 + 1)) b 9 ((b + 1 + 1 + 1 + 1 + 1 + 1 + 1 + 1 + 1 + 1) + 1)) (b + 1 + 1 + 1 + 1 + 1 + 1 + 1 + 1 + 1 + 1 + 1)) b 10 ((b + 1 + 1 + 1 + 1 + 1 + 1 + 1 + 1 + 1 + 1 + 1) + 1)) (b + 1 + 1 + 1 + 1 + 1 + 1 + 1 + 1 + 1 + 1 + 1 + 1)) b 11 ((b + 1 + 1 + 1 + 1 + 1 + 1 + 1 + 1 + 1 + 1 + 1 + 1) + 1)) b j = b + j + 2 := by
    intro j hj
    match j, hj with
    | 0, _ => simp (disch := omega) only [r2_ij, r2_o, rz_o]
    | 1, _ => simp (disch := omega) only [r2_ij, r2_o, rz_o]
    | 2, _ => simp (disch := omega) only [r2_ij, r2_o, rz_o]
    | 3, _ => simp (disch := omega) only [r2_ij, r2_o, rz_o]
    | 4, _ => simp (disch := omega) only [r2_ij, r2_o, rz_o]
    | 5, _ => simp (disch := omega) only [r2_ij, r2_o, rz_o]
    | 6, _ => simp (disch := omega) only [r2_ij, r2_o, rz_o]
    | 7, _ => simp (disch := omega) only [r2_ij, r2_o, rz_o]
    | 8, _ => simp (disch := omega) only [r2_ij, r2_o, rz_o]
    | 9, _ => simp (disch := omega) only [r2_ij, r2_o, rz_o]
    | 10, _ => simp (disch := omega) only [r2_ij, r2_o, rz_o]
    | 11, _ => simp (disch := omega) only [r2_ij, r2_o, rz_o]
    | j + 12, hj => exact absurd hj (by omega)
  have hp : ∀ p, p < b → (r2 (rz (r2 (rz (r2 (rz (r2 (rz (r2 (rz (r2 (rz (r2 (rz (r2 (rz (r2 (rz (r2 (rz (r2 (rz (r2 (rz r (b + 1)) b 0 ((b + 1) + 1)) (b + 1 + 1)) b 1 ((b + 1 + 1) + 1)) (b + 1 + 1 + 1)) b 2 ((b + 1 + 1 + 1) + 1)) (b + 1 + 1 + 1 + 1)) b 3 ((b + 1 + 1 + 1 + 1) + 1)) (b + 1 + 1 + 1 + 1 + 1)) b 4 ((b + 1 + 1 + 1 + 1 + 1) + 1)) (b + 1 + 1 + 1 + 1 + 1 + 1)) b 5 ((b + 1 + 1 + 1 + 1 + 1 + 1) + 1)) (b + 1 + 1 + 1 + 1 + 1 + 1 + 1)) b 6 ((b + 1 + 1 + 1 + 1 + 1 + 1 + 1) + 1)) (b + 1 + 1 + 1 + 1 + 1 + 1 + 1 + 1)) b 7 ((b + 1 + 1 + 1 + 1 + 1 + 1 + 1 + 1) + 1)) (b + 1 + 1 + 1 + 1 + 1 + 1 + 1 + 1 + 1)) b 8 ((b + 1 + 1 + 1 + 1 + 1 + 1 + 1 + 1 + 1) + 1)) (b + 1 + 1 + 1 + 1 + 1 + 1 + 1 + 1 + 1 + 1)) b 9 ((b + 1 + 1 + 1 + 1 + 1 + 1 + 1 + 1 + 1 + 1) + 1)) (b + 1 + 1 + 1 + 1 + 1 + 1 + 1 + 1 + 1 + 1 + 1)) b 10 ((b + 1 + 1 + 1 + 1 + 1 + 1 + 1 + 1 + 1 + 1 + 1) + 1)) (b + 1 + 1 + 1 + 1 + 1 + 1 + 1 + 1 + 1 + 1 + 1 + 1)) b 11 ((b + 1 + 1 + 1 + 1 + 1 + 1 + 1 + 1 + 1 + 1 + 1 + 1) + 1)) p = r p := by
    intro p hp
    funext j
    simp (disch := omega) only [r2_o, rz_o]
  revert hw hr hp
  generalize (r2 (rz (r2 (rz (r2 (rz (r2 (rz (r2 (rz (r2 (rz (r2 (rz (r2 (rz (r2 (rz (r2 (rz (r2 (rz (r2 (rz r (b + 1)) b 0 ((b + 1) + 1)) (b + 1 + 1)) b 1 ((b + 1 + 1) + 1)) (b + 1 + 1 + 1)) b 2 ((b + 1 + 1 + 1) + 1)) (b + 1 + 1 + 1 + 1)) b 3 ((b + 1 + 1 + 1 + 1) + 1)) (b + 1 + 1 + 1 + 1 + 1)) b 4 ((b + 1 + 1 + 1 + 1 + 1) + 1)) (b + 1 + 1 + 1 + 1 + 1 + 1)) b 5 ((b + 1 + 1 + 1 + 1 + 1 + 1) + 1)) (b + 1 + 1 + 1 + 1 + 1 + 1 + 1)) b 6 ((b + 1 + 1 + 1 + 1 + 1 + 1 + 1) + 1)) (b + 1 + 1 + 1 + 1 + 1 + 1 + 1 + 1)) b 7 ((b + 1 + 1 + 1 + 1 + 1 + 1 + 1 + 1) + 1)) (b + 1 + 1 + 1 + 1 + 1 + 1 + 1 + 1 + 1)) b 8 ((b + 1 + 1 + 1 + 1 + 1 + 1 + 1 + 1 + 1) + 1)) (b + 1 + 1 + 1 + 1 + 1 + 1 + 1 + 1 + 1 + 1)) b 9 ((b + 1 + 1 + 1 + 1 + 1 + 1 + 1 + 1 + 1 + 1) + 1)) (b + 1 + 1 + 1 + 1 + 1 + 1 + 1 + 1 + 1 + 1 + 1)) b 10 ((b + 1 + 1 + 1 + 1 + 1 + 1 + 1 + 1 + 1 + 1 + 1) + 1)) (b + 1 + 1 + 1 + 1 + 1 + 1 + 1 + 1 + 1 + 1 + 1 + 1)) b 11 ((b + 1 + 1 + 1 + 1 + 1 + 1 + 1 + 1 + 1 + 1 + 1 + 1) + 1)) = rr
  intro hw hr hp
  have hz : ∀ j i, j < 12 → (vz (vz (vz (vz (vz (vz (vz (vz (vz (vz (vz (vz v (b + 1)) (b + 1 + 1)) (b + 1 + 1 + 1)) (b + 1 + 1 + 1 + 1)) (b + 1 + 1 + 1 + 1 + 1)) (b + 1 + 1 + 1 + 1 + 1 + 1)) (b + 1 + 1 + 1 + 1 + 1 + 1 + 1)) (b + 1 + 1 + 1 + 1 + 1 + 1 + 1 + 1)) (b + 1 + 1 + 1 + 1 + 1 + 1 + 1 + 1 + 1)) (b + 1 + 1 + 1 + 1 + 1 + 1 + 1 + 1 + 1 + 1)) (b + 1 + 1 + 1 + 1 + 1 + 1 + 1 + 1 + 1 + 1 + 1)) (b + 1 + 1 + 1 + 1 + 1 + 1 + 1 + 1 + 1 + 1 + 1 + 1)) (b + 1 + j) i = nI 0 := by
    intro j i hj
    match j, hj with
    | 0, _ => simp (disch := omega) only [vz_o, show b + 1 + 0 = (b + 1) from rfl, vz_i]
    | 1, _ => simp (disch := omega) only [vz_o, show b + 1 + 1 = (b + 1 + 1) from rfl, vz_i]
    | 2, _ => simp (disch := omega) only [vz_o, show b + 1 + 2 = (b + 1 + 1 + 1) from rfl, vz_i]
    | 3, _ => simp (disch := omega) only [vz_o, show b + 1 + 3 = (b + 1 + 1 + 1 + 1) from rfl, vz_i]
    | 4, _ => simp (disch := omega) only [vz_o, show b + 1 + 4 = (b + 1 + 1 + 1 + 1 + 1) from rfl, vz_i]
    | 5, _ => simp (disch := omega) only [vz_o, show b + 1 + 5 = (b + 1 + 1 + 1 + 1 + 1 + 1) from rfl, vz_i]
    | 6, _ => simp (disch := omega) only [vz_o, show b + 1 + 6 = (b + 1 + 1 + 1 + 1 + 1 + 1 + 1) from rfl, vz_i]
    | 7, _ => simp (disch := omega) only [vz_o, show b + 1 + 7 = (b + 1 + 1 + 1 + 1 + 1 + 1 + 1 + 1) from rfl, vz_i]
    | 8, _ => simp (disch := omega) only [vz_o, show b + 1 + 8 = (b + 1 + 1 + 1 + 1 + 1 + 1 + 1 + 1 + 1) from rfl, vz_i]
    | 9, _ => simp (disch := omega) only [vz_o, show b + 1 + 9 = (b + 1 + 1 + 1 + 1 + 1 + 1 + 1 + 1 + 1 + 1) from rfl, vz_i]
    | 10, _ => simp (disch := omega) only [vz_o, show b + 1 + 10 = (b + 1 + 1 + 1 + 1 + 1 + 1 + 1 + 1 + 1 + 1 + 1) from rfl, vz_i]
    | 11, _ => simp (disch := omega) only [vz_o, show b + 1 + 11 = (b + 1 + 1 + 1 + 1 + 1 + 1 + 1 + 1 + 1 + 1 + 1 + 1) from rfl, vz_i]
    | j + 12, hj => exact absurd hj (by omega)
  have hv : ∀ p, p < b → (vz (vz (vz (vz (vz (vz (vz (vz (vz (vz (vz (vz v (b + 1)) (b + 1 + 1)) (b + 1 + 1 + 1)) (b + 1 + 1 + 1 + 1)) (b + 1 + 1 + 1 + 1 + 1)) (b + 1 + 1 + 1 + 1 + 1 + 1)) (b + 1 + 1 + 1 + 1 + 1 + 1 + 1)) (b + 1 + 1 + 1 + 1 + 1 + 1 + 1 + 1)) (b + 1 + 1 + 1 + 1 + 1 + 1 + 1 + 1 + 1)) (b + 1 + 1 + 1 + 1 + 1 + 1 + 1 + 1 + 1 + 1)) (b + 1 + 1 + 1 + 1 + 1 + 1 + 1 + 1 + 1 + 1 + 1)) (b + 1 + 1 + 1 + 1 + 1 + 1 + 1 + 1 + 1 + 1 + 1 + 1)) p = v p := by
    intro p hp
    simp (disch := omega) only [vz_o]
  revert hz hv
  generalize (vz (vz (vz (vz (vz (vz (vz (vz (vz (vz (vz (vz v (b + 1)) (b + 1 + 1)) (b + 1 + 1 + 1)) (b + 1 + 1 + 1 + 1)) (b + 1 + 1 + 1 + 1 + 1)) (b + 1 + 1 + 1 + 1 + 1 + 1)) (b + 1 + 1 + 1 + 1 + 1 + 1 + 1)) (b + 1 + 1 + 1 + 1 + 1 + 1 + 1 + 1)) (b + 1 + 1 + 1 + 1 + 1 + 1 + 1 + 1 + 1)) (b + 1 + 1 + 1 + 1 + 1 + 1 + 1 + 1 + 1 + 1)) (b + 1 + 1 + 1 + 1 + 1 + 1 + 1 + 1 + 1 + 1 + 1)) (b + 1 + 1 + 1 + 1 + 1 + 1 + 1 + 1 + 1 + 1 + 1 + 1)) = vv
  intro hz hv
  refine oA_ck ⟨hr 0 (by decide), wz_lv hw (by omega) (by omega)⟩ (oA_fill (by decide) hK (fun w0 g0 h0 => ?_))
  refine oA_ck ⟨hr 2 (by decide), wz_lv hw (by omega) (by omega)⟩ (oA_fill (by decide) hK (fun w1 g1 h1 => ?_))
  refine oA_ck ⟨hr 3 (by decide), wz_lv hw (by omega) (by omega)⟩ (oA_fill (by decide) hK (fun w2 g2 h2 => ?_))
  refine oA_ck ⟨hr 4 (by decide), wz_lv hw (by omega) (by omega)⟩ (oA_fill (by decide) hK (fun w3 g3 h3 => ?_))
  refine oA_ck ⟨hr 8 (by decide), wz_lv hw (by omega) (by omega)⟩ (oA_fill (by decide) hK (fun w4 g4 h4 => ?_))
  refine oA_s ⟨rfl, hw, hr, hp, fun p h => ?_, fun j i hj hi => ?_, ?_⟩
  · rw [g4 p (by omega), g3 p (by omega), g2 p (by omega), g1 p (by omega), g0 p (by omega), s2_ne (by omega)]
    exact hv p h
  · match j, hj, hi with
    | 0, hj, hi =>
      have hi : i < 140 := hi
      show w4 (b + 1) i = nI 1
      rw [g4 _ (by omega), g3 _ (by omega), g2 _ (by omega), g1 _ (by omega)]
      exact h0 i hi
    | 1, hj, hi =>
      have hi : i < 140 := hi
      show w4 (b + 1 + 1) i = nI 0
      rw [g4 _ (by omega), g3 _ (by omega), g2 _ (by omega), g1 _ (by omega), g0 _ (by omega), s2_ne (by omega)]
      exact hz 1 i (by decide)
    | 2, hj, hi =>
      have hi : i < 4 := hi
      show w4 (b + 1 + 1 + 1) i = jM
      rw [g4 _ (by omega), g3 _ (by omega), g2 _ (by omega)]
      exact h1 i hi
    | 3, hj, hi =>
      have hi : i < 16 := hi
      show w4 (b + 1 + 1 + 1 + 1) i = jM
      rw [g4 _ (by omega), g3 _ (by omega)]
      exact h2 i hi
    | 4, hj, hi =>
      have hi : i < 16 := hi
      show w4 (b + 1 + 1 + 1 + 1 + 1) i = jM
      rw [g4 _ (by omega)]
      exact h3 i hi
    | 5, hj, hi =>
      have hi : i < 16 := hi
      show w4 (b + 1 + 1 + 1 + 1 + 1 + 1) i = nI 0
      rw [g4 _ (by omega), g3 _ (by omega), g2 _ (by omega), g1 _ (by omega), g0 _ (by omega), s2_ne (by omega)]
      exact hz 5 i (by decide)
    | 6, hj, hi =>
      have hi : i < 16 := hi
      show w4 (b + 1 + 1 + 1 + 1 + 1 + 1 + 1) i = nI 0
      rw [g4 _ (by omega), g3 _ (by omega), g2 _ (by omega), g1 _ (by omega), g0 _ (by omega), s2_ne (by omega)]
      exact hz 6 i (by decide)
    | 7, hj, hi =>
      have hi : i < 16 := hi
      show w4 (b + 1 + 1 + 1 + 1 + 1 + 1 + 1 + 1) i = nI 0
      rw [g4 _ (by omega), g3 _ (by omega), g2 _ (by omega), g1 _ (by omega), g0 _ (by omega), s2_ne (by omega)]
      exact hz 7 i (by decide)
    | 8, hj, hi =>
      have hi : i < 16 := hi
      show w4 (b + 1 + 1 + 1 + 1 + 1 + 1 + 1 + 1 + 1) i = jM
      exact h4 i hi
    | 9, hj, hi =>
      have hi : i < 16 := hi
      show w4 (b + 1 + 1 + 1 + 1 + 1 + 1 + 1 + 1 + 1 + 1) i = nI 0
      rw [g4 _ (by omega), g3 _ (by omega), g2 _ (by omega), g1 _ (by omega), g0 _ (by omega), s2_ne (by omega)]
      exact hz 9 i (by decide)
    | 10, hj, hi =>
      have hi : i < 16 := hi
      show w4 (b + 1 + 1 + 1 + 1 + 1 + 1 + 1 + 1 + 1 + 1 + 1) i = nI 0
      rw [g4 _ (by omega), g3 _ (by omega), g2 _ (by omega), g1 _ (by omega), g0 _ (by omega), s2_ne (by omega)]
      exact hz 10 i (by decide)
    | 11, hj, hi =>
      have hi : i < 5 := hi
      show w4 (b + 1 + 1 + 1 + 1 + 1 + 1 + 1 + 1 + 1 + 1 + 1 + 1) i = nI 0
      rw [g4 _ (by omega), g3 _ (by omega), g2 _ (by omega), g1 _ (by omega), g0 _ (by omega), s2_ne (by omega)]
      exact hz 11 i (by decide)
    | j + 12, hj, _ => exact absurd hj (by omega)
  · show w4 b 12 = nI 3
    rw [g4 _ (by omega), g3 _ (by omega), g2 _ (by omega), g1 _ (by omega), g0 _ (by omega)]
    exact s2_i
end
