/-! THE FIRST WORLD: what the constructors make -/
def oA {β : Type} (o : Option (β × sR × sV × Nat)) (n : Nat) (Q : β → sR → sV → Nat → Prop) : Prop := ∃ z, o = some z ∧ Q z.1 z.2.1 z.2.2.1 (n + z.2.2.2)
noncomputable def fSt (K : Nat) (r : sR) (v : sV) : Option (Unit × sR × sV × Nat) :=
  ck (sks 0 = (8, 8) ∧ wf r 0) (nw r v 0 (fun r1 v1 n1 => (fX6_init K 0 r1 v1 n1).bind (fun q9 => ac q9 n1 (fun _ r2 v2 n2 => ck (n2 = 157) (ck (sks n2 = (9, 16) ∧ wf r2 n2) (nw r2 v2 n2 (fun r3 v3 n3 => (fX7_init K n2 r3 v3 n3).bind (fun q9 => ac q9 n3 (fun _ r4 v4 n4 => ck (n4 = 170) (ck (sks n4 = (13, 1) ∧ wf r4 n4) (nw r4 v4 n4 (fun r5 v5 n5 => ck (n5 = 171) (ck (sks n5 = (14, 1) ∧ wf r5 n5) (nw r5 v5 n5 (fun r6 v6 n6 => some ((), r6, v6, 0))))))))))))))))
def S0 : aS := fun j _ => if j = 0 then nI 1 else if j = 2 ∨ j = 3 ∨ j = 4 ∨ j = 8 then jM else if j = 12 then nI 3 else nI 0
section
variable {α β : Type} {r : sR} {v : sV} {n m K : Nat} {Q : β → sR → sV → Nat → Prop}
theorem oA_ck {P : Prop} {o : Option (β × sR × sV × Nat)} (hP : P) (h : oA o n Q) : oA (ck P o) n Q := by
  rw [ck_i hP]
  exact h
theorem oA_ac {q : α × sR × sV × Nat} {f : α → sR → sV → Nat → Option (β × sR × sV × Nat)} (h : oA (f q.1 q.2.1 q.2.2.1 (n + q.2.2.2)) (n + q.2.2.2) Q) : oA (ac q n f) n Q := by
  obtain ⟨z, e, hq⟩ := h
  refine ⟨(z.1, z.2.1, z.2.2.1, q.2.2.2 + z.2.2.2), by unfold ac; rw [e]; rfl, ?_⟩
  show Q z.1 z.2.1 z.2.2.1 (n + (q.2.2.2 + z.2.2.2))
  rw [← Nat.add_assoc]
  exact hq
theorem oA_nw (m : Nat) {f : sR → sV → Nat → Option (β × sR × sV × Nat)} (hm : n + 1 = m) (h : oA (f (rz r n) (vz v n) m) m Q) : oA (nw r v n f) n Q := by
  subst hm
  exact oA_ac h
theorem oA_b {o : Option (α × sR × sV × Nat)} {P : α → sR → sV → Nat → Prop} {f : α → sR → sV → Nat → Option (β × sR × sV × Nat)} (h : oA o n P) (k : ∀ a r v m, P a r v m → oA (f a r v m) m Q) : oA (o.bind (fun q => ac q n f)) n Q := by
  obtain ⟨z, e, hz⟩ := h
  rw [e]
  exact oA_ac (k _ _ _ _ hz)
theorem oA_s {a : β} (h : Q a r v n) : oA (some (a, r, v, 0)) n Q := ⟨_, rfl, h⟩
theorem oA_fill {p N : Nat} {y : Int32} {f : sV → Option (β × sR × sV × Nat)} (hN : N ≤ 1000) (hK : 1000 < K) (k : ∀ v' : sV, (∀ q, q ≠ p → v' q = v q) → (∀ j, j < N → v' p j = y) → oA (f v') n Q) : oA ((fJ7_fill_53178 K p N y v).bind f) n Q := by
  obtain ⟨v', e, h1, h2⟩ := fill_ex (K := K) (v := v) (p := p) (N := N) (y := y) hN hK
  rw [e]
  exact k v' h1 h2
theorem r2_ij {p i y : Nat} : r2 r p i y p i = y := if_pos ⟨rfl, rfl⟩
theorem r2_o {p i y q j : Nat} (h : ¬ (q = p ∧ j = i)) : r2 r p i y q j = r q j := if_neg h
theorem rz_o {q j : Nat} (h : q ≠ n) : rz r n q j = r q j := if_neg h
theorem rz_i {j : Nat} : rz r n n j = 0 := if_pos rfl
theorem vz_o {q : Nat} (h : q ≠ n) : vz v n q = v q := by
  funext j
  exact if_neg h
theorem vz_i {j : Nat} : vz v n n j = nI 0 := if_pos rfl
/-! a State -/
set_option maxHeartbeats 1000000 in
theorem st_in {b e : Nat} (hk : ∀ j, j < 12 → sks (b + 1 + j) = (10, lnR j)) (hw : wf r (b + 1)) (he : b + 13 = e) (hK : 1000 < K) : oA (fX5_init K b r v (b + 1)) (b + 1) (fun _ r1 v1 n1 => n1 = e ∧ wf r1 e ∧ (∀ j, j < 12 → r1 b j = b + j + 2) ∧ (∀ p, p < b → r1 p = r p) ∧ (∀ p, p < b → v1 p = v p) ∧ RelC b S0 v1) := by
  subst he
  unfold fX5_init
  simp only [nm_w, sf_w]
  refine oA_ck ⟨hk 0 (by decide), hw⟩ (oA_nw (b + 1 + 1) rfl ?_)
  have hw := wf_r2 (p := b) (i := 0) (y := (b + 1) + 1) (wf_rz hw) (by omega)
  refine oA_ck ⟨hk 1 (by decide), hw⟩ (oA_nw (b + 1 + 1 + 1) rfl ?_)
  have hw := wf_r2 (p := b) (i := 1) (y := (b + 1 + 1) + 1) (wf_rz hw) (by omega)
  refine oA_ck ⟨hk 2 (by decide), hw⟩ (oA_nw (b + 1 + 1 + 1 + 1) rfl ?_)
  have hw := wf_r2 (p := b) (i := 2) (y := (b + 1 + 1 + 1) + 1) (wf_rz hw) (by omega)
  refine oA_ck ⟨hk 3 (by decide), hw⟩ (oA_nw (b + 1 + 1 + 1 + 1 + 1) rfl ?_)
  have hw := wf_r2 (p := b) (i := 3) (y := (b + 1 + 1 + 1 + 1) + 1) (wf_rz hw) (by omega)
  refine oA_ck ⟨hk 4 (by decide), hw⟩ (oA_nw (b + 1 + 1 + 1 + 1 + 1 + 1) rfl ?_)
  have hw := wf_r2 (p := b) (i := 4) (y := (b + 1 + 1 + 1 + 1 + 1) + 1) (wf_rz hw) (by omega)
  refine oA_ck ⟨hk 5 (by decide), hw⟩ (oA_nw (b + 1 + 1 + 1 + 1 + 1 + 1 + 1) rfl ?_)
  have hw := wf_r2 (p := b) (i := 5) (y := (b + 1 + 1 + 1 + 1 + 1 + 1) + 1) (wf_rz hw) (by omega)
  refine oA_ck ⟨hk 6 (by decide), hw⟩ (oA_nw (b + 1 + 1 + 1 + 1 + 1 + 1 + 1 + 1) rfl ?_)
  have hw := wf_r2 (p := b) (i := 6) (y := (b + 1 + 1 + 1 + 1 + 1 + 1 + 1) + 1) (wf_rz hw) (by omega)
  refine oA_ck ⟨hk 7 (by decide), hw⟩ (oA_nw (b + 1 + 1 + 1 + 1 + 1 + 1 + 1 + 1 + 1) rfl ?_)
  have hw := wf_r2 (p := b) (i := 7) (y := (b + 1 + 1 + 1 + 1 + 1 + 1 + 1 + 1) + 1) (wf_rz hw) (by omega)
  refine oA_ck ⟨hk 8 (by decide), hw⟩ (oA_nw (b + 1 + 1 + 1 + 1 + 1 + 1 + 1 + 1 + 1 + 1) rfl ?_)
  have hw := wf_r2 (p := b) (i := 8) (y := (b + 1 + 1 + 1 + 1 + 1 + 1 + 1 + 1 + 1) + 1) (wf_rz hw) (by omega)
  refine oA_ck ⟨hk 9 (by decide), hw⟩ (oA_nw (b + 1 + 1 + 1 + 1 + 1 + 1 + 1 + 1 + 1 + 1 + 1) rfl ?_)
  have hw := wf_r2 (p := b) (i := 9) (y := (b + 1 + 1 + 1 + 1 + 1 + 1 + 1 + 1 + 1 + 1) + 1) (wf_rz hw) (by omega)
  refine oA_ck ⟨hk 10 (by decide), hw⟩ (oA_nw (b + 1 + 1 + 1 + 1 + 1 + 1 + 1 + 1 + 1 + 1 + 1 + 1) rfl ?_)
  have hw := wf_r2 (p := b) (i := 10) (y := (b + 1 + 1 + 1 + 1 + 1 + 1 + 1 + 1 + 1 + 1 + 1) + 1) (wf_rz hw) (by omega)
  refine oA_ck ⟨hk 11 (by decide), hw⟩ (oA_nw (b + 1 + 1 + 1 + 1 + 1 + 1 + 1 + 1 + 1 + 1 + 1 + 1 + 1) rfl ?_)
  have hw := wf_r2 (p := b) (i := 11) (y := (b + 1 + 1 + 1 + 1 + 1 + 1 + 1 + 1 + 1 + 1 + 1 + 1) + 1) (wf_rz hw) (by omega)
  have hr : ∀ j, j < 12 → (r2 (rz (r2 (rz (r2 (rz (r2 (rz (r2 (rz (r2 (rz (r2 (rz (r2 (rz (r2 (rz (r2 (rz (r2 (rz (r2 (rz r (b + 1)) b 0 ((b + 1) + 1)) (b + 1 + 1)) b 1 ((b + 1 + 1) + 1)) (b + 1 + 1 + 1)) b 2 ((b + 1 + 1 + 1) + 1)) (b + 1 + 1 + 1 + 1)) b 3 ((b + 1 + 1 + 1 + 1) + 1)) (b + 1 + 1 + 1 + 1 + 1)) b 4 ((b + 1 + 1 + 1 + 1 + 1) + 1)) (b + 1 + 1 + 1 + 1 + 1 + 1)) b 5 ((b + 1 + 1 + 1 + 1 + 1 + 1) + 1)) (b + 1 + 1 + 1 + 1 + 1 + 1 + 1)) b 6 ((b + 1 + 1 + 1 + 1 + 1 + 1 + 1) + 1)) (b + 1 + 1 + 1 + 1 + 1 + 1 + 1 + 1)) b 7 ((b + 1 + 1 + 1 + 1 + 1 + 1 + 1 + 1) + 1)) (b + 1 + 1 + 1 + 1 + 1 + 1 + 1 + 1 + 1)) b 8 ((b + 1 + 1 + 1 + 1 + 1 + 1 + 1 + 1 + 1) + 1)) (b + 1 + 1 + 1 + 1 + 1 + 1 + 1 + 1 + 1 + 1)) b 9 ((b + 1 + 1 + 1 + 1 + 1 + 1 + 1 + 1 + 1 + 1) + 1)) (b + 1 + 1 + 1 + 1 + 1 + 1 + 1 + 1 + 1 + 1 + 1)) b 10 ((b + 1 + 1 + 1 + 1 + 1 + 1 + 1 + 1 + 1 + 1 + 1) + 1)) (b + 1 + 1 + 1 + 1 + 1 + 1 + 1 + 1 + 1 + 1 + 1 + 1)) b 11 ((b + 1 + 1 + 1 + 1 + 1 + 1 + 1 + 1 + 1 + 1 + 1 + 1) + 1)) b j = b + j + 2 := by
    intro j hj
    match j, hj with
    | 0, _ => simp (disch := omega) only [r2_ij, r2_o, rz_o]
    | 1, _ => simp (disch := omega) only [r2_ij, r2_o, rz_o]
    | 2, _ => simp (disch := omega) only [r2_ij, r2_o, rz_o]
    | 3, _ => simp (disch := omega) only [r2_ij, r2_o, rz_o]
    | 4, _ => simp (disch := omega) only [r2_ij, r2_o, rz_o]
    | 5, _ => simp (disch := omega) only [r2_ij, r2_o, rz_o]
    | 6, _ => simp (disch := omega) only [r2_ij, r2_o, rz_o]
    | 7, _ => simp (disch := omega) only [r2_ij, r2_o, rz_o]
    | 8, _ => simp (disch := omega) only [r2_ij, r2_o, rz_o]
    | 9, _ => simp (disch := omega) only [r2_ij, r2_o, rz_o]
    | 10, _ => simp (disch := omega) only [r2_ij, r2_o, rz_o]
    | 11, _ => simp (disch := omega) only [r2_ij, r2_o, rz_o]
    | j + 12, hj => exact absurd hj (by omega)
  have hp : ∀ p, p < b → (r2 (rz (r2 (rz (r2 (rz (r2 (rz (r2 (rz (r2 (rz (r2 (rz (r2 (rz (r2 (rz (r2 (rz (r2 (rz (r2 (rz r (b + 1)) b 0 ((b + 1) + 1)) (b + 1 + 1)) b 1 ((b + 1 + 1) + 1)) (b + 1 + 1 + 1)) b 2 ((b + 1 + 1 + 1) + 1)) (b + 1 + 1 + 1 + 1)) b 3 ((b + 1 + 1 + 1 + 1) + 1)) (b + 1 + 1 + 1 + 1 + 1)) b 4 ((b + 1 + 1 + 1 + 1 + 1) + 1)) (b + 1 + 1 + 1 + 1 + 1 + 1)) b 5 ((b + 1 + 1 + 1 + 1 + 1 + 1) + 1)) (b + 1 + 1 + 1 + 1 + 1 + 1 + 1)) b 6 ((b + 1 + 1 + 1 + 1 + 1 + 1 + 1) + 1)) (b + 1 + 1 + 1 + 1 + 1 + 1 + 1 + 1)) b 7 ((b + 1 + 1 + 1 + 1 + 1 + 1 + 1 + 1) + 1)) (b + 1 + 1 + 1 + 1 + 1 + 1 + 1 + 1 + 1)) b 8 ((b + 1 + 1 + 1 + 1 + 1 + 1 + 1 + 1 + 1) + 1)) (b + 1 + 1 + 1 + 1 + 1 + 1 + 1 + 1 + 1 + 1)) b 9 ((b + 1 + 1 + 1 + 1 + 1 + 1 + 1 + 1 + 1 + 1) + 1)) (b + 1 + 1 + 1 + 1 + 1 + 1 + 1 + 1 + 1 + 1 + 1)) b 10 ((b + 1 + 1 + 1 + 1 + 1 + 1 + 1 + 1 + 1 + 1 + 1) + 1)) (b + 1 + 1 + 1 + 1 + 1 + 1 + 1 + 1 + 1 + 1 + 1 + 1)) b 11 ((b + 1 + 1 + 1 + 1 + 1 + 1 + 1 + 1 + 1 + 1 + 1 + 1) + 1)) p = r p := by
    intro p hp
    funext j
    simp (disch := omega) only [r2_o, rz_o]
  revert hw hr hp
  generalize (r2 (rz (r2 (rz (r2 (rz (r2 (rz (r2 (rz (r2 (rz (r2 (rz (r2 (rz (r2 (rz (r2 (rz (r2 (rz (r2 (rz r (b + 1)) b 0 ((b + 1) + 1)) (b + 1 + 1)) b 1 ((b + 1 + 1) + 1)) (b + 1 + 1 + 1)) b 2 ((b + 1 + 1 + 1) + 1)) (b + 1 + 1 + 1 + 1)) b 3 ((b + 1 + 1 + 1 + 1) + 1)) (b + 1 + 1 + 1 + 1 + 1)) b 4 ((b + 1 + 1 + 1 + 1 + 1) + 1)) (b + 1 + 1 + 1 + 1 + 1 + 1)) b 5 ((b + 1 + 1 + 1 + 1 + 1 + 1) + 1)) (b + 1 + 1 + 1 + 1 + 1 + 1 + 1)) b 6 ((b + 1 + 1 + 1 + 1 + 1 + 1 + 1) + 1)) (b + 1 + 1 + 1 + 1 + 1 + 1 + 1 + 1)) b 7 ((b + 1 + 1 + 1 + 1 + 1 + 1 + 1 + 1) + 1)) (b + 1 + 1 + 1 + 1 + 1 + 1 + 1 + 1 + 1)) b 8 ((b + 1 + 1 + 1 + 1 + 1 + 1 + 1 + 1 + 1) + 1)) (b + 1 + 1 + 1 + 1 + 1 + 1 + 1 + 1 + 1 + 1)) b 9 ((b + 1 + 1 + 1 + 1 + 1 + 1 + 1 + 1 + 1 + 1) + 1)) (b + 1 + 1 + 1 + 1 + 1 + 1 + 1 + 1 + 1 + 1 + 1)) b 10 ((b + 1 + 1 + 1 + 1 + 1 + 1 + 1 + 1 + 1 + 1 + 1) + 1)) (b + 1 + 1 + 1 + 1 + 1 + 1 + 1 + 1 + 1 + 1 + 1 + 1)) b 11 ((b + 1 + 1 + 1 + 1 + 1 + 1 + 1 + 1 + 1 + 1 + 1 + 1) + 1)) = rr
  intro hw hr hp
  have hz : ∀ j i, j < 12 → (vz (vz (vz (vz (vz (vz (vz (vz (vz (vz (vz (vz v (b + 1)) (b + 1 + 1)) (b + 1 + 1 + 1)) (b + 1 + 1 + 1 + 1)) (b + 1 + 1 + 1 + 1 + 1)) (b + 1 + 1 + 1 + 1 + 1 + 1)) (b + 1 + 1 + 1 + 1 + 1 + 1 + 1)) (b + 1 + 1 + 1 + 1 + 1 + 1 + 1 + 1)) (b + 1 + 1 + 1 + 1 + 1 + 1 + 1 + 1 + 1)) (b + 1 + 1 + 1 + 1 + 1 + 1 + 1 + 1 + 1 + 1)) (b + 1 + 1 + 1 + 1 + 1 + 1 + 1 + 1 + 1 + 1 + 1)) (b + 1 + 1 + 1 + 1 + 1 + 1 + 1 + 1 + 1 + 1 + 1 + 1)) (b + 1 + j) i = nI 0 := by
    intro j i hj
    match j, hj with
    | 0, _ => simp (disch := omega) only [vz_o, show b + 1 + 0 = (b + 1) from rfl, vz_i]
    | 1, _ => simp (disch := omega) only [vz_o, show b + 1 + 1 = (b + 1 + 1) from rfl, vz_i]
    | 2, _ => simp (disch := omega) only [vz_o, show b + 1 + 2 = (b + 1 + 1 + 1) from rfl, vz_i]
    | 3, _ => simp (disch := omega) only [vz_o, show b + 1 + 3 = (b + 1 + 1 + 1 + 1) from rfl, vz_i]
    | 4, _ => simp (disch := omega) only [vz_o, show b + 1 + 4 = (b + 1 + 1 + 1 + 1 + 1) from rfl, vz_i]
    | 5, _ => simp (disch := omega) only [vz_o, show b + 1 + 5 = (b + 1 + 1 + 1 + 1 + 1 + 1) from rfl, vz_i]
    | 6, _ => simp (disch := omega) only [vz_o, show b + 1 + 6 = (b + 1 + 1 + 1 + 1 + 1 + 1 + 1) from rfl, vz_i]
    | 7, _ => simp (disch := omega) only [vz_o, show b + 1 + 7 = (b + 1 + 1 + 1 + 1 + 1 + 1 + 1 + 1) from rfl, vz_i]
    | 8, _ => simp (disch := omega) only [vz_o, show b + 1 + 8 = (b + 1 + 1 + 1 + 1 + 1 + 1 + 1 + 1 + 1) from rfl, vz_i]
    | 9, _ => simp (disch := omega) only [vz_o, show b + 1 + 9 = (b + 1 + 1 + 1 + 1 + 1 + 1 + 1 + 1 + 1 + 1) from rfl, vz_i]
    | 10, _ => simp (disch := omega) only [vz_o, show b + 1 + 10 = (b + 1 + 1 + 1 + 1 + 1 + 1 + 1 + 1 + 1 + 1 + 1) from rfl, vz_i]
    | 11, _ => simp (disch := omega) only [vz_o, show b + 1 + 11 = (b + 1 + 1 + 1 + 1 + 1 + 1 + 1 + 1 + 1 + 1 + 1 + 1) from rfl, vz_i]
    | j + 12, hj => exact absurd hj (by omega)
  have hv : ∀ p, p < b → (vz (vz (vz (vz (vz (vz (vz (vz (vz (vz (vz (vz v (b + 1)) (b + 1 + 1)) (b + 1 + 1 + 1)) (b + 1 + 1 + 1 + 1)) (b + 1 + 1 + 1 + 1 + 1)) (b + 1 + 1 + 1 + 1 + 1 + 1)) (b + 1 + 1 + 1 + 1 + 1 + 1 + 1)) (b + 1 + 1 + 1 + 1 + 1 + 1 + 1 + 1)) (b + 1 + 1 + 1 + 1 + 1 + 1 + 1 + 1 + 1)) (b + 1 + 1 + 1 + 1 + 1 + 1 + 1 + 1 + 1 + 1)) (b + 1 + 1 + 1 + 1 + 1 + 1 + 1 + 1 + 1 + 1 + 1)) (b + 1 + 1 + 1 + 1 + 1 + 1 + 1 + 1 + 1 + 1 + 1 + 1)) p = v p := by
    intro p hp
    simp (disch := omega) only [vz_o]
  revert hz hv
  generalize (vz (vz (vz (vz (vz (vz (vz (vz (vz (vz (vz (vz v (b + 1)) (b + 1 + 1)) (b + 1 + 1 + 1)) (b + 1 + 1 + 1 + 1)) (b + 1 + 1 + 1 + 1 + 1)) (b + 1 + 1 + 1 + 1 + 1 + 1)) (b + 1 + 1 + 1 + 1 + 1 + 1 + 1)) (b + 1 + 1 + 1 + 1 + 1 + 1 + 1 + 1)) (b + 1 + 1 + 1 + 1 + 1 + 1 + 1 + 1 + 1)) (b + 1 + 1 + 1 + 1 + 1 + 1 + 1 + 1 + 1 + 1)) (b + 1 + 1 + 1 + 1 + 1 + 1 + 1 + 1 + 1 + 1 + 1)) (b + 1 + 1 + 1 + 1 + 1 + 1 + 1 + 1 + 1 + 1 + 1 + 1)) = vv
  intro hz hv
  refine oA_ck ⟨hr 0 (by decide), by omega⟩ (oA_fill (by decide) hK (fun w0 g0 h0 => ?_))
  refine oA_ck ⟨hr 2 (by decide), by omega⟩ (oA_fill (by decide) hK (fun w1 g1 h1 => ?_))
  refine oA_ck ⟨hr 3 (by decide), by omega⟩ (oA_fill (by decide) hK (fun w2 g2 h2 => ?_))
  refine oA_ck ⟨hr 4 (by decide), by omega⟩ (oA_fill (by decide) hK (fun w3 g3 h3 => ?_))
  refine oA_ck ⟨hr 8 (by decide), by omega⟩ (oA_fill (by decide) hK (fun w4 g4 h4 => ?_))
  refine oA_s ⟨rfl, hw, hr, hp, fun p h => ?_, fun j i hj hi => ?_, ?_⟩
  · rw [g4 p (by omega), g3 p (by omega), g2 p (by omega), g1 p (by omega), g0 p (by omega), s2_ne (by omega)]
    exact hv p h
  · match j, hj, hi with
    | 0, hj, hi =>
      have hi : i < 140 := hi
      show w4 (b + 1) i = nI 1
      rw [g4 _ (by omega), g3 _ (by omega), g2 _ (by omega), g1 _ (by omega)]
      exact h0 i hi
    | 1, hj, hi =>
      have hi : i < 140 := hi
      show w4 (b + 1 + 1) i = nI 0
      rw [g4 _ (by omega), g3 _ (by omega), g2 _ (by omega), g1 _ (by omega), g0 _ (by omega), s2_ne (by omega)]
      exact hz 1 i (by decide)
    | 2, hj, hi =>
      have hi : i < 4 := hi
      show w4 (b + 1 + 1 + 1) i = jM
      rw [g4 _ (by omega), g3 _ (by omega), g2 _ (by omega)]
      exact h1 i hi
    | 3, hj, hi =>
      have hi : i < 16 := hi
      show w4 (b + 1 + 1 + 1 + 1) i = jM
      rw [g4 _ (by omega), g3 _ (by omega)]
      exact h2 i hi
    | 4, hj, hi =>
      have hi : i < 16 := hi
      show w4 (b + 1 + 1 + 1 + 1 + 1) i = jM
      rw [g4 _ (by omega)]
      exact h3 i hi
    | 5, hj, hi =>
      have hi : i < 16 := hi
      show w4 (b + 1 + 1 + 1 + 1 + 1 + 1) i = nI 0
      rw [g4 _ (by omega), g3 _ (by omega), g2 _ (by omega), g1 _ (by omega), g0 _ (by omega), s2_ne (by omega)]
      exact hz 5 i (by decide)
    | 6, hj, hi =>
      have hi : i < 16 := hi
      show w4 (b + 1 + 1 + 1 + 1 + 1 + 1 + 1) i = nI 0
      rw [g4 _ (by omega), g3 _ (by omega), g2 _ (by omega), g1 _ (by omega), g0 _ (by omega), s2_ne (by omega)]
      exact hz 6 i (by decide)
    | 7, hj, hi =>
      have hi : i < 16 := hi
      show w4 (b + 1 + 1 + 1 + 1 + 1 + 1 + 1 + 1) i = nI 0
      rw [g4 _ (by omega), g3 _ (by omega), g2 _ (by omega), g1 _ (by omega), g0 _ (by omega), s2_ne (by omega)]
      exact hz 7 i (by decide)
    | 8, hj, hi =>
      have hi : i < 16 := hi
      show w4 (b + 1 + 1 + 1 + 1 + 1 + 1 + 1 + 1 + 1) i = jM
      exact h4 i hi
    | 9, hj, hi =>
      have hi : i < 16 := hi
      show w4 (b + 1 + 1 + 1 + 1 + 1 + 1 + 1 + 1 + 1 + 1) i = nI 0
      rw [g4 _ (by omega), g3 _ (by omega), g2 _ (by omega), g1 _ (by omega), g0 _ (by omega), s2_ne (by omega)]
      exact hz 9 i (by decide)
    | 10, hj, hi =>
      have hi : i < 16 := hi
      show w4 (b + 1 + 1 + 1 + 1 + 1 + 1 + 1 + 1 + 1 + 1 + 1) i = nI 0
      rw [g4 _ (by omega), g3 _ (by omega), g2 _ (by omega), g1 _ (by omega), g0 _ (by omega), s2_ne (by omega)]
      exact hz 10 i (by decide)
    | 11, hj, hi =>
      have hi : i < 5 := hi
      show w4 (b + 1 + 1 + 1 + 1 + 1 + 1 + 1 + 1 + 1 + 1 + 1 + 1) i = nI 0
      rw [g4 _ (by omega), g3 _ (by omega), g2 _ (by omega), g1 _ (by omega), g0 _ (by omega), s2_ne (by omega)]
      exact hz 11 i (by decide)
    | j + 12, hj, _ => exact absurd hj (by omega)
  · show w4 b 12 = nI 3
    rw [g4 _ (by omega), g3 _ (by omega), g2 _ (by omega), g1 _ (by omega), g0 _ (by omega)]
    exact s2_i
end
