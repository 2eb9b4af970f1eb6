/-! THE WHOLE WORLD OF BOTH SIDES: the state; how many changes can be taken back, where the ring stands; the states before; the saved one; the letters fed -/
abbrev aW : Type := aS × (Nat × Nat) × (Nat → aS) × Option aS × (Nat × (Nat → Int32))
def slot (nx c k : Nat) : Nat := 37 + 13 * ((nx + 8 - c + k) % 8)
def CW (W : aW) (r : sR) (v : sV) (n : Nat) : Prop :=
  RelC 1 W.1 v ∧ cacC (coS W.1) r v n ∧ (v 35 2 = nI W.2.1.1 ∧ v 35 1 = nI W.2.1.2) ∧ ((∀ k, k < W.2.1.1 → RelC (slot W.2.1.2 W.2.1.1 k) (W.2.2.1 k) v) ∧ ∀ k, k < W.2.1.1 → v 36 ((W.2.1.2 + 8 - W.2.1.1 + k) % 8) = nI 1) ∧
  (v 0 6 = (if W.2.2.2.1.isSome = true then nI 1 else nI 0) ∧ ∀ S, W.2.2.2.1 = some S → RelC 141 S v) ∧ (v 154 1 = nI W.2.2.2.2.1 ∧ ∀ i, i < W.2.2.2.2.1 → v 155 i = W.2.2.2.2.2 i)
def MW (W : aW) (v : sV) : Prop :=
  mI W.1 v ∧ v 157 5 = nI W.2.1.1 ∧ (∀ k, k < W.2.1.1 → RelM (W.2.2.1 k) (fun j => v 161 (434 * k + j))) ∧
  (v 157 4 = (if W.2.2.2.1.isSome = true then nI 1 else nI 0) ∧ ∀ S, W.2.2.2.1 = some S → RelM S (v 159)) ∧ (v 157 15 = nI W.2.2.2.2.1 ∧ ∀ i, i < W.2.2.2.2.1 → v 168 i = W.2.2.2.2.2 i)
def IW (B : Nat) (W : aW) : Prop := iS B W.1 ∧ (∀ k, k < W.2.1.1 → iS B (W.2.2.1 k)) ∧ (∀ S, W.2.2.2.1 = some S → iS B S) ∧ W.2.1.1 ≤ 8 ∧ W.2.1.2 < 8 ∧ W.2.2.2.2.1 ≤ 150
theorem IW_B {W : aW} {B B' : Nat} (h : IW B W) (hB : B ≤ B') : IW B' W := ⟨iS_B h.1 hB, fun k hk => iS_B (h.2.1 k hk) hB, fun S hS => iS_B (h.2.2.1 S hS) hB, h.2.2.2⟩
/-- the state set -/
def wS (W : aW) (S : aS) : aW := (S, W.2)
/-- the state kept, to be taken back -/
def wK (W : aW) : aW :=
  (W.1, (if W.2.1.1 = 8 then (8, (W.2.1.2 + 1) % 8) else (W.2.1.1 + 1, (W.2.1.2 + 1) % 8)), (fun k => if W.2.1.1 = 8 then (if k < 7 then W.2.2.1 (k + 1) else W.1) else (if k < W.2.1.1 then W.2.2.1 k else W.1)), W.2.2.2)
theorem IW_K {W : aW} {B : Nat} (h : IW B W) : IW B (wK W) := by
  obtain ⟨h1, h2, h3, h4, h5, h6⟩ := h
  refine ⟨h1, fun k hk => ?_, h3, ?_, ?_, h6⟩
  · show iS B (if W.2.1.1 = 8 then (if k < 7 then W.2.2.1 (k + 1) else W.1) else (if k < W.2.1.1 then W.2.2.1 k else W.1))
    by_cases h8 : W.2.1.1 = 8
    · rw [if_pos h8]
      split
      · exact h2 _ (by omega)
      · exact h1
    · rw [if_neg h8]
      split
      · exact h2 _ (by omega)
      · exact h1
  · show (if W.2.1.1 = 8 then (8, (W.2.1.2 + 1) % 8) else (W.2.1.1 + 1, (W.2.1.2 + 1) % 8)).1 ≤ 8
    split
    · exact Nat.le_refl _
    · show W.2.1.1 + 1 ≤ 8
      omega
  · show (if W.2.1.1 = 8 then (8, (W.2.1.2 + 1) % 8) else (W.2.1.1 + 1, (W.2.1.2 + 1) % 8)).2 < 8
    split <;> exact Nat.mod_lt _ (by decide)
theorem IW_S {W : aW} {B : Nat} {S : aS} (h : IW B W) (hS : iS B S) : IW B (wS W S) := ⟨hS, h.2⟩
theorem cpv_ne {v : sV} {d s N p : Nat} (h : p ≠ d) : cpv v d s N p = v p := by
  funext j
  show (if p = d ∧ j < N then v s j else v p j) = v p j
  rw [if_neg (fun g => h g.1)]
theorem cpv_nj {v : sV} {d s N p j : Nat} (h : p ≠ d) : cpv v d s N p j = v p j := by rw [cpv_ne h]
theorem cpv_i {v : sV} {d s N j : Nat} (h : j < N) : cpv v d s N d j = v s j := by
  show (if d = d ∧ j < N then v s j else v d j) = v s j
  rw [if_pos ⟨rfl, h⟩]
section
variable {v : sV} {b d K n : Nat} {r : sR} {W : aW} {B : Nat}
set_option maxHeartbeats 2000000 in
theorem copy_ok (hbd : b + 13 ≤ d ∨ d + 13 ≤ b) : ∃ v', fX5_copyFrom b d v = some v' ∧ (∀ S, RelC d S v → RelC b S v') ∧ ∀ p, ¬ (b ≤ p ∧ p < b + 13) → v' p = v p := by
  unfold fX5_copyFrom
  simp only [cp_w, sf_w]
  refine ⟨_, rfl, fun S h => ⟨fun j i hj hi => ?_, ?_⟩, fun p hp => ?_⟩
  · rw [s2_p (by omega)]
    match j, hj, hi with
    | 0, _, hi =>
      have hi : i < 140 := hi
      show _ = S 0 i
      rw [← rc0 h hi]
      simp (disch := omega) only [cpv_nj, cpv_i]
    | 1, _, hi =>
      have hi : i < 140 := hi
      show _ = S 1 i
      rw [← rc1 h hi]
      show cpv _ _ _ _ (b + 2) i = _
      simp (disch := omega) only [cpv_nj, cpv_i]
    | 2, _, hi =>
      have hi : i < 4 := hi
      rw [← rc2 h hi]
      show cpv _ _ _ _ (b + 3) i = _
      simp (disch := omega) only [cpv_nj, cpv_i]
    | 3, _, hi =>
      have hi : i < 16 := hi
      rw [← rc3 h hi]
      show cpv _ _ _ _ (b + 4) i = _
      simp (disch := omega) only [cpv_nj, cpv_i]
    | 4, _, hi =>
      have hi : i < 16 := hi
      rw [← rc4 h hi]
      show cpv _ _ _ _ (b + 5) i = _
      simp (disch := omega) only [cpv_nj, cpv_i]
    | 5, _, hi =>
      have hi : i < 16 := hi
      rw [← rc5 h hi]
      show cpv _ _ _ _ (b + 6) i = _
      simp (disch := omega) only [cpv_nj, cpv_i]
    | 6, _, hi =>
      have hi : i < 16 := hi
      rw [← rc6 h hi]
      show cpv _ _ _ _ (b + 7) i = _
      simp (disch := omega) only [cpv_nj, cpv_i]
    | 7, _, hi =>
      have hi : i < 16 := hi
      rw [← rc7 h hi]
      show cpv _ _ _ _ (b + 8) i = _
      simp (disch := omega) only [cpv_nj, cpv_i]
    | 8, _, hi =>
      have hi : i < 16 := hi
      rw [← rc8 h hi]
      show cpv _ _ _ _ (b + 9) i = _
      simp (disch := omega) only [cpv_nj, cpv_i]
    | 9, _, hi =>
      have hi : i < 16 := hi
      rw [← rc9 h hi]
      show cpv _ _ _ _ (b + 10) i = _
      simp (disch := omega) only [cpv_nj, cpv_i]
    | 10, _, hi =>
      have hi : i < 16 := hi
      rw [← rc10 h hi]
      show cpv _ _ _ _ (b + 11) i = _
      simp (disch := omega) only [cpv_nj, cpv_i]
    | 11, _, hi =>
      have hi : i < 5 := hi
      rw [← rc11 h hi]
      show cpv _ _ _ _ (b + 12) i = _
      simp (disch := omega) only [cpv_nj, cpv_i]
    | j + 12, hj, _ => exact absurd hj (by omega)
  · rw [s2_i]
    simp (disch := omega) only [cpv_nj]
    exact h.2
  · rw [s2_ne (by omega)]
    simp (disch := omega) only [cpv_ne]
theorem ldS_0 {β : Type} {i : Nat} {f0 : Option β} {f1 : Nat → Option β} (h : i < 8) (h0 : r 36 i = 0) : ldS r (nI i) f0 f1 = f0 := by
  unfold ldS
  rw [nI_toInt (by omega), nI_clamp (by omega), if_pos ⟨by omega, by omega⟩, h0]
theorem ldS_s {β : Type} {i q : Nat} {f0 : Option β} {f1 : Nat → Option β} (h : i < 8) (h0 : r 36 i = q + 1) : ldS r (nI i) f0 f1 = f1 q := by
  unfold ldS
  rw [nI_toInt (by omega), nI_clamp (by omega), if_pos ⟨by omega, by omega⟩, h0]
theorem slot_b {nx c k : Nat} : 37 ≤ slot nx c k ∧ slot nx c k + 13 ≤ 141 := by unfold slot; omega
/-- what a class method may leave as it was -/
theorem CW_f {W' : aW} {v' : sV} (h : CW W r v n) (hS : W'.2 = W.2) (h1 : RelC 1 W'.1 v') (h2 : cacC (coS W'.1) r v' n) (hv : ∀ p, p = 0 ∨ (35 ≤ p ∧ p < 157) → v' p = v p) : CW W' r v' n := by
  obtain ⟨g1, g2, g3, g4, g5, g6⟩ := h
  refine ⟨h1, h2, ?_, ?_, ?_, ?_⟩
  · rw [hS, hv 35 (by omega)]; exact g3
  · rw [hS]
    exact ⟨fun k hk => rcF (g4.1 k hk) (fun p p1 p2 => hv p (by have := @slot_b W.2.1.2 W.2.1.1 k; omega)), fun k hk => by rw [hv 36 (by omega)]; exact g4.2 k hk⟩
  · rw [hS, hv 0 (by omega)]
    exact ⟨g5.1, fun S hS => rcF (g5.2 S hS) (fun p p1 p2 => hv p (by omega))⟩
  · rw [hS, hv 154 (by omega), hv 155 (by omega)]; exact g6
/-- the class keeps its state, where a place for it stands -/
theorem keep_0 (h : CW W r v n) (hI : IW B W) (hm : v 36 W.2.1.2 = nI 1) : ∃ v', (fX5_copyFrom (37 + 13 * W.2.1.2) 1 v).bind (fun v9 => sf v9 35 1 (((v9 35 1) + 1) - ((v9 35 1) + 1) / 8 * 8) (fun v10 => sf v10 35 2 (if 8 < ((v10 35 2) + 1) then 8 else ((v10 35 2) + 1)) (fun v11 => some (((), r, v11, 0) : Unit × sR × sV × Nat)))) = some ((), r, v', 0) ∧ CW (wK W) r v' n ∧ ∀ p, p ≠ 35 → ¬ (37 ≤ p ∧ p < 141) → v' p = v p := by
  obtain ⟨S, ⟨c, nx⟩, H, sv, le, L⟩ := W
  obtain ⟨g1, g2, ⟨g3, g3'⟩, g4, ⟨g5, g5'⟩, ⟨g6, g6'⟩⟩ := h
  obtain ⟨i1, i2, i3, i4, i5, i6⟩ := hI
  dsimp only at g1 g2 g3 g3' g4 g5 g5' g6 g6' i1 i2 i3 i4 i5 i6 hm
  obtain ⟨g4, gm⟩ := g4
  obtain ⟨v1, e1, f1, f2⟩ := copy_ok (v := v) (b := 37 + 13 * nx) (d := 1) (by omega)
  have e35 : v1 35 1 = nI nx := by rw [f2 35 (by omega)]; exact g3'
  have e35' : s2 v1 35 1 (nI ((nx + 1) % 8)) 35 2 = nI c := by rw [s2_j (by decide), f2 35 (by omega)]; exact g3
  have erem : nI (nx + 1) - nI (nx + 1) / nI 8 * nI 8 = nI ((nx + 1) % 8) := pk_rem (by omega) (by decide) (by decide)
  have hfr : ∀ (w : sV) (y : Int32), (∀ p, p ≠ 35 → ¬ (37 ≤ p ∧ p < 141) → s2 (s2 v1 35 1 (nI ((nx + 1) % 8))) 35 2 y p = v p) := fun w y p p1 p2 => by rw [s2_ne p1, s2_ne p1, f2 p (by omega)]
  have hrel : ∀ (y : Int32) (b' : Nat) (S' : aS), 37 ≤ b' ∧ b' + 13 ≤ 141 → (b' + 13 ≤ 37 + 13 * nx ∨ 37 + 13 * nx + 13 ≤ b') → RelC b' S' v → RelC b' S' (s2 (s2 v1 35 1 (nI ((nx + 1) % 8))) 35 2 y) := fun y b' S' hb hd hr => rcF hr (fun p p1 p2 => by rw [s2_ne (by omega), s2_ne (by omega), f2 p (by omega)])
  have hrel0 : ∀ (y : Int32), RelC (37 + 13 * nx) S (s2 (s2 v1 35 1 (nI ((nx + 1) % 8))) 35 2 y) := fun y => rcF (f1 S g1) (fun p p1 p2 => by rw [s2_ne (by omega), s2_ne (by omega)])
  have hrest : ∀ (y : Int32) (c' : Nat), y = nI c' → (wK (S, (c, nx), H, sv, le, L)).2.1 = (c', (nx + 1) % 8) → (∀ k, k < c' → RelC (slot ((nx + 1) % 8) c' k) ((wK (S, (c, nx), H, sv, le, L)).2.2.1 k) (s2 (s2 v1 35 1 (nI ((nx + 1) % 8))) 35 2 y)) → (∀ k, k < c' → v 36 (((nx + 1) % 8 + 8 - c' + k) % 8) = nI 1) → CW (wK (S, (c, nx), H, sv, le, L)) r (s2 (s2 v1 35 1 (nI ((nx + 1) % 8))) 35 2 y) n := by
    intro y c' hy hc hk hm2
    subst hy
    have hf := hfr v1 (nI c')
    refine ⟨rcF g1 (fun p p1 p2 => hf p (by omega) (by omega)), cacC_v g2 (fun p hp => hf p (by omega) (by omega)), ?_, ?_, ?_, ?_⟩
    · rw [hc]
      exact ⟨s2_i, by rw [s2_j (by decide), s2_i]⟩
    · rw [hc]; exact ⟨hk, fun k hk => by rw [hf 36 (by decide) (by decide)]; exact hm2 k hk⟩
    · exact ⟨by rw [hf 0 (by decide) (by decide)]; exact g5, fun S' hS' => rcF (g5' S' hS') (fun p p1 p2 => hf p (by omega) (by omega))⟩
    · exact ⟨by rw [hf 154 (by decide) (by decide)]; exact g6, fun i hi => by rw [hf 155 (by decide) (by decide)]; exact g6' i hi⟩
  show ∃ v', (fX5_copyFrom (37 + 13 * nx) 1 v).bind _ = _ ∧ _
  rw [e1, bnd_some]
  by_cases h8 : c = 8
  · subst h8
    simp (disch := omega) only [↓jM_e, li_0, li_1, li_2, li_3, li_4, li_5, li_6, li_7, li_8, li_9, li_10, li_13, li_14, li_15, li_16, li_31, li_35, li_47, li_48, li_49, li_50, li_57, li_99, li_100, li_126, li_139, li_140, li_149, li_150, li_280, li_284, li_285, li_290, li_434, li_1260, li_3472, li_9999, li_65536, nm, nm_w, sf_w, cp_w, ld_I, sa_I, nI_add, pk_mul, Nat.zero_add, nI_leI, nI_ltI, nI_eq, nI_neM, M_neI, nI_ltM, nI_nltM, M_ltI, M_leI, nI_nleM, bnd_some, if_pos, if_neg, dif_t, dif_f, e35, erem, e35']
    refine ⟨_, rfl, hrest _ 8 rfl rfl (fun k hk => ?_) (fun k hk => ?_), hfr v1 _⟩
    rotate_left
    · by_cases hk7 : k < 7
      · have := gm (k + 1) (by omega)
        rw [show ((nx + 1) % 8 + 8 - 8 + k) % 8 = (nx + 8 - 8 + (k + 1)) % 8 by omega]
        exact this
      · rw [show ((nx + 1) % 8 + 8 - 8 + k) % 8 = nx by omega]
        exact hm
    show RelC (slot ((nx + 1) % 8) 8 k) (if k < 7 then H (k + 1) else S) _
    by_cases hk7 : k < 7
    · rw [if_pos hk7]
      have es : slot ((nx + 1) % 8) 8 k = slot nx 8 (k + 1) := by unfold slot; omega
      rw [es]
      refine hrel _ _ _ slot_b ?_ (g4 (k + 1) (by omega))
      unfold slot
      omega
    · rw [if_neg hk7]
      have es : slot ((nx + 1) % 8) 8 k = 37 + 13 * nx := by unfold slot; omega
      rw [es]
      exact hrel0 _
  · simp (disch := omega) only [↓jM_e, li_0, li_1, li_2, li_3, li_4, li_5, li_6, li_7, li_8, li_9, li_10, li_13, li_14, li_15, li_16, li_31, li_35, li_47, li_48, li_49, li_50, li_57, li_99, li_100, li_126, li_139, li_140, li_149, li_150, li_280, li_284, li_285, li_290, li_434, li_1260, li_3472, li_9999, li_65536, nm, nm_w, sf_w, cp_w, ld_I, sa_I, nI_add, pk_mul, Nat.zero_add, nI_leI, nI_ltI, nI_eq, nI_neM, M_neI, nI_ltM, nI_nltM, M_ltI, M_leI, nI_nleM, bnd_some, if_pos, if_neg, dif_t, dif_f, e35, erem, e35']
    refine ⟨_, rfl, hrest _ (c + 1) rfl ?_ (fun k hk => ?_) (fun k hk => ?_), hfr v1 _⟩
    rotate_right
    · by_cases hkc : k < c
      · have := gm k hkc
        rw [show ((nx + 1) % 8 + 8 - (c + 1) + k) % 8 = (nx + 8 - c + k) % 8 by omega]
        exact this
      · rw [show ((nx + 1) % 8 + 8 - (c + 1) + k) % 8 = nx by omega]
        exact hm
    · show (if c = 8 then (8, (nx + 1) % 8) else (c + 1, (nx + 1) % 8)) = _
      rw [if_neg h8]
    · show RelC (slot ((nx + 1) % 8) (c + 1) k) (if c = 8 then (if k < 7 then H (k + 1) else S) else (if k < c then H k else S)) _
      rw [if_neg h8]
      by_cases hkc : k < c
      · rw [if_pos hkc]
        have es : slot ((nx + 1) % 8) (c + 1) k = slot nx c k := by unfold slot; omega
        rw [es]
        refine hrel _ _ _ slot_b ?_ (g4 k hkc)
        unfold slot
        omega
      · rw [if_neg hkc]
        have es : slot ((nx + 1) % 8) (c + 1) k = 37 + 13 * nx := by unfold slot; omega
        rw [es]
        exact hrel0 _
theorem sSh_b {r' : sR} {nx : Nat} (hnx : nx < 8) (h : sSh r) (h0 : r 36 nx = 0) (e : ∀ p k, p < 172 → ¬ (37 + 13 * nx ≤ p ∧ p < 37 + 13 * nx + 13) → r' p k = r p k) : sSh r' := by
  refine ⟨fun p k t hp => ?_, fun q hq => ?_, fun j hj => ?_⟩
  · have := sRT_st hp
    rw [e p k (by omega) (by omega)]
    exact h.1 p k t hp
  · have := sAlB_lt hq
    rw [e q gI (by omega) (by omega)]
    exact h.2.1 q hq
  · by_cases hjn : j = nx
    · subst hjn
      exact Or.inl (by rw [e 36 j (by omega) (by omega)]; exact h0)
    · rcases h.2.2 j hj with g | ⟨q1, q2, q3⟩
      · exact Or.inl (by rw [e 36 j (by omega) (by omega)]; exact g)
      · exact Or.inr ⟨by rw [e 36 j (by omega) (by omega)]; exact q1, fun i hi => by rw [e _ i (by omega) (by omega)]; exact q2 i hi, fun i hi => by rw [e _ gI (by omega) (by omega)]; exact q3 i hi⟩
/-- a place is made for it -/
theorem make_C {nx : Nat} (hnx : nx < 8) {co : Nat → Nat} (h : cacC co r v n) (h0 : r 36 nx = 0) (hK : 1000 < K) : ∃ r2' v2, (∀ (β : Type) (f : Unit → sR → sV → Nat → Option (β × sR × sV × Nat)), ck (sks (37 + 13 * nx) = (7, 13) ∧ wf r n ∧ rvo r n (37 + 13 * nx)) (nb r v n (37 + 13 * nx) (fun rr1 v1 n1 => ck (sSh rr1 ∧ okS rr1 1) ((fX5_initR K (37 + 13 * nx) rr1 v1 n1).bind (fun q9 => ac q9 n1 f)))) = (f () r2' v2 (n + 26)).map (addk 26)) ∧ sSh r2' ∧ (∀ p, ¬ (37 + 13 * nx ≤ p ∧ p < 37 + 13 * nx + 13) → v2 p = v p) ∧ (∀ p k, 37 + 13 * nx ≤ p → p < 37 + 13 * nx + 13 → r2' p k = 0 ∨ (37 + 13 * nx < r2' p k ∧ r2' p k ≤ 37 + 13 * nx + 13)) ∧ (∀ j, j < 12 → r2' (37 + 13 * nx) j = 37 + 13 * nx + (j + 1) + 1) ∧ (∀ j, j < 13 → r2' (37 + 13 * nx + j) gI = 0) ∧ (∀ p, ¬ (37 + 13 * nx ≤ p ∧ p < 37 + 13 * nx + 13) → ¬ (n ≤ p ∧ p < n + 26) → r2' p = r p) ∧ (∀ p k, n ≤ p → p < n + 26 → r2' p k = 1) ∧ wf r2' (n + 26) := by
  have hn := cacC_n h
  obtain ⟨h1, ⟨h2, h2n, h2l⟩, h3, h4, h5, h6⟩ := h
  obtain ⟨hd, hnr⟩ := h2n nx hnx h0
  generalize hb : 37 + 13 * nx = b at hd hnr ⊢
  have hb1 : 37 ≤ b ∧ b + 13 ≤ 141 := by omega
  obtain ⟨k1, k2⟩ := okS_hist (r := r) nx hnx
  rw [hb] at k1 k2
  have hro : rvo r n b := ⟨hn.1, by omega, hd 0 (by decide), fun p k _ => hnr 0 p k (by decide)⟩
  have hsh0 : sSh (rrv r n b) := sSh_b hnx h1 h0 (fun p k hp hpb => by rw [rrv_row (by omega) (by omega)])
  have hk : ∀ j, j < 12 → sks (b + 1 + j) = (10, lnR j) := by
    intro j hj
    rw [Nat.add_assoc]
    refine k2 (1 + j) _ ?_
    have : ∀ j : Fin 12, sSt[1 + j.val]? = some (10, lnR j.val) := by decide
    exact this ⟨j, hj⟩
  have hI : IR b 0 (rrv r n b) (n + 2) := by
    refine ⟨by omega, wf_rrv h2, fun i _ hi => ?_, fun p k i _ hi => ?_⟩
    · rw [rrv_row (by omega) (by omega), Nat.add_assoc]
      exact hd (1 + i) (by omega)
    · unfold rrv
      split
      · omega
      · split
        · omega
        · have := hnr (1 + i) p k (by omega)
          omega
  obtain ⟨⟨u, r2', v2, k⟩, e, hF, hw2, hv2⟩ := rv_in (v := vz v b) hb1 hk hI hK
  obtain ⟨F0, F1, F2, F3, F4, F5⟩ := hF
  dsimp only at e F0 F1 F2 F3 F4 F5 hw2 hv2
  have hk24 : k = 24 := by omega
  subst hk24
  have e26 : n + 2 + 24 = n + 26 := by omega
  rw [e26] at hw2 F4 F5
  have hrow : ∀ p, ¬ (b ≤ p ∧ p < b + 13) → ¬ (n ≤ p ∧ p < n + 26) → r2' p = r p := by
    intro p p1 p2
    rw [F4 p p1 (by omega)]
    funext j
    unfold rrv
    rw [if_neg (by omega), if_neg (by omega)]
  refine ⟨r2', v2, fun β f => ?_, sSh_b hnx h1 h0 (fun p k hp hpb => by rw [hrow p (by omega) (by omega)]), fun p hp => by rw [hv2 p hp, vz_o (by omega)], fun p k p1 p2 => ?_, fun j hj => by rw [F1 j hj]; omega, fun j hj => ?_, hrow, fun p k p1 p2 => ?_, hw2⟩
  · rw [ck_i ⟨k1, h2, hro⟩]
    unfold nb
    unfold ac
    dsimp only
    rw [ck_i ⟨hsh0, Or.inl (Or.inl rfl)⟩, e]
    show ((ac (u, r2', v2, 24) (n + 2) f).map _) = _
    unfold ac
    dsimp only
    rw [e26]
    cases f u r2' v2 (n + 26) with
    | none => rfl
    | some z =>
      show some (z.1, z.2.1, z.2.2.1, 2 + (24 + z.2.2.2)) = some (z.1, z.2.1, z.2.2.1, 26 + z.2.2.2)
      rw [← Nat.add_assoc]
  · by_cases hpb : p = b
    · subst hpb
      by_cases hk12 : k < 12
      · rw [F1 k hk12]; omega
      · rw [F2 k (by omega), rrv_pl]; omega
    · obtain ⟨i, rfl⟩ : ∃ i, p = b + 1 + i := ⟨p - (b + 1), by omega⟩
      rw [F3 i k (by omega)]; omega
  · by_cases hj0 : j = 0
    · subst hj0
      rw [Nat.add_zero, F2 gI (by decide), rrv_pl]
    · obtain ⟨i, rfl⟩ : ∃ i, j = 1 + i := ⟨j - 1, by omega⟩
      rw [← Nat.add_assoc]
      exact F3 i gI (by omega)
  · by_cases hp : n + 2 ≤ p
    · exact F5 p k hp p2
    · rw [F4 p (by omega) (by omega)]
      unfold rrv
      rw [if_neg (by omega), if_pos (by omega)]
/-- the class keeps its state -/
theorem keep_C (h : CW W r v n) (hI : IW B W) (hK : 1000 < K) : ∃ r' v' k, (∀ (β : Type) (f : Unit → sR → sV → Nat → Option (β × sR × sV × Nat)), (fX3_record K 1 r v n).bind (fun q9 => ac q9 n f) = (f () r' v' (n + k)).map (addk k)) ∧ CW (wK W) r' v' (n + k) ∧ ∀ p, p ≠ 35 → ¬ (36 ≤ p ∧ p < 141) → v' p = v p := by
  have hnx : W.2.1.2 < 8 := hI.2.2.2.2.1
  have h35 : v 35 1 = nI W.2.1.2 := h.2.2.1.2
  have hca := h.2.1
  obtain ⟨h1, ⟨h2, h2n, h2l⟩, h3, h4, h5, h6⟩ := id hca
  have hn := cacC_n hca
  by_cases h0 : r 36 W.2.1.2 = 0
  · obtain ⟨r2', v2, e, hsh2, hv, hrb, hrj, hrg, hrow, hbu, hw2⟩ := make_C hnx hca h0 hK
    have hnxg : W.2.1.2 ≠ gI := by
      unfold gI
      omega
    have e35 : v2 35 1 = nI W.2.1.2 := by rw [hv 35 (by omega)]; exact h35
    have h36 : ∀ i, i < 8 → i ≠ W.2.1.2 → r2 r2' 36 W.2.1.2 (37 + 13 * W.2.1.2 + 1) 36 i = r 36 i := by
      intro i hi hin
      rw [r2_o (fun g => hin g.2), hrow 36 (by omega) (by omega)]
    have h36n : r2 r2' 36 W.2.1.2 (37 + 13 * W.2.1.2 + 1) 36 W.2.1.2 = 37 + 13 * W.2.1.2 + 1 := r2_ij
    have hrow3 : ∀ p, p ≠ 36 → ¬ (37 + 13 * W.2.1.2 ≤ p ∧ p < 37 + 13 * W.2.1.2 + 13) → ¬ (n ≤ p ∧ p < n + 26) → r2 r2' 36 W.2.1.2 (37 + 13 * W.2.1.2 + 1) p = r p := by
      intro p p0 p1 p2
      rw [r2_ne p0, hrow p p1 p2]
    have hsh3 : sSh (r2 r2' 36 W.2.1.2 (37 + 13 * W.2.1.2 + 1)) := by
      refine ⟨fun p k t hp => ?_, fun q hq => ?_, fun j hj => ?_⟩
      · have := sRT_st hp
        rw [r2_ne (by omega)]
        exact hsh2.1 p k t hp
      · rw [r2_gI hnxg]
        exact hsh2.2.1 q hq
      · by_cases hjn : j = W.2.1.2
        · subst hjn
          exact Or.inr ⟨h36n, fun j hj => by rw [r2_ne (by omega)]; exact hrj j hj, fun j hj => by rw [r2_ne (by omega)]; exact hrg j hj⟩
        · refine sHi_c hj (hsh2.2.2 j hj) (fun p k hp hp2 => r2_o (fun g => ?_))
          have := hp2 g.1
          omega
    have hCW : CW W (r2 r2' 36 W.2.1.2 (37 + 13 * W.2.1.2 + 1)) (s2 v2 36 W.2.1.2 (nI 1)) (n + 26) := by
      obtain ⟨g1, g2, g3, ⟨g4, gm⟩, g5, g6⟩ := h
      have hf : ∀ p, p ≠ 36 → ¬ (37 + 13 * W.2.1.2 ≤ p ∧ p < 37 + 13 * W.2.1.2 + 13) → s2 v2 36 W.2.1.2 (nI 1) p = v p := fun p p0 p1 => by rw [s2_ne p0, hv p p1]
      have hgm : ∀ i, i < 8 → i ≠ W.2.1.2 → s2 v2 36 W.2.1.2 (nI 1) 36 i = v 36 i := fun i hi hin => by rw [s2_j hin, hv 36 (by omega)]
      have hne : ∀ k, k < W.2.1.1 → (W.2.1.2 + 8 - W.2.1.1 + k) % 8 ≠ W.2.1.2 := by
        intro k hk e9
        have := gm k hk
        rw [e9] at this
        exact (h2l _ hnx).mp this h0
      refine ⟨rcF g1 (fun p p1 p2 => hf p (by omega) (by omega)), ⟨hsh3, ⟨wf_r2 hw2 (by omega), fun i hi hi0 => ?_, fun i hi => ?_⟩, ?_, fun c hc => by rw [hf 17 (by decide) (by omega)]; exact h4 c hc, fun t ht => ?_, fun t t' ht ht' => ?_⟩, by rw [hf 35 (by decide) (by omega)]; exact g3, ⟨fun k hk => rcF (g4 k hk) (fun p p1 p2 => ?_), fun k hk => ?_⟩, ?_, ?_⟩
      · by_cases hin : i = W.2.1.2
        · rw [hin, h36n] at hi0
          omega
        · rw [h36 i hi hin] at hi0
          obtain ⟨q1, q2⟩ := h2n i hi hi0
          refine ⟨fun j hj => ?_, fun j p k hj => ?_⟩
          · rw [hrow3 _ (by omega) (by omega) (by omega)]
            exact q1 j hj
          · by_cases hp : p = 36 ∧ k = W.2.1.2
            · rw [hp.1, hp.2, h36n]; omega
            · rw [r2_o hp]
              by_cases hpb : 37 + 13 * W.2.1.2 ≤ p ∧ p < 37 + 13 * W.2.1.2 + 13
              · have := hrb p k hpb.1 hpb.2
                omega
              · by_cases hpn : n ≤ p ∧ p < n + 26
                · rw [hbu p k hpn.1 hpn.2]; omega
                · rw [hrow p hpb hpn]
                  exact q2 j p k hj
      · by_cases hin : i = W.2.1.2
        · rw [hin, h36n, s2_i]
          exact ⟨fun _ => by omega, fun _ => rfl⟩
        · rw [h36 i hi hin, hgm i hi hin]
          exact h2l i hi
      · have e1 : cnI (fun i => !decide (r2 r2' 36 W.2.1.2 (37 + 13 * W.2.1.2 + 1) 36 i = 0)) 8 = cnI (fun i => if i = W.2.1.2 then true else !decide (r 36 i = 0)) 8 := by
          refine cnI_c (fun i hi => ?_)
          by_cases hin : i = W.2.1.2
          · rw [hin, h36n, if_pos rfl]
            simp
          · rw [h36 i hi hin, if_neg hin]
        rw [e1, cnI_up (P := fun i => !decide (r 36 i = 0)) (by simp [h0]) hnx, hrow3 15 (by decide) (by omega) (by omega)]
        omega
      · rw [hrow3 15 (by decide) (by omega) (by omega)]
        rcases h5 t ht with q1 | ⟨q, q1, q2, q3, q4⟩
        · exact Or.inl q1
        · have hq3 := q3.2.2.1
          refine Or.inr ⟨q, q1, q2, ⟨q3.1, by rw [hrow3 q (by omega) (by omega) (by omega)]; exact q3.2.1, by omega, by rw [hrow3 q (by omega) (by omega) (by omega)]; exact q3.2.2.2.1, by rw [hrow3 (q + 1) (by omega) (by omega) (by omega)]; exact q3.2.2.2.2⟩, ?_⟩
          rw [hf q (by omega) (by omega), hf (q + 1) (by omega) (by omega)]
          exact q4
      · rw [hrow3 15 (by decide) (by omega) (by omega)]
        exact h6 t t' ht ht'
      · have h8 := hne k hk
        have p1 : 37 + 13 * ((W.2.1.2 + 8 - W.2.1.1 + k) % 8) ≤ p := p1
        have p2 : p < 37 + 13 * ((W.2.1.2 + 8 - W.2.1.1 + k) % 8) + 13 := p2
        exact hf p (by omega) (by omega)
      · rw [hgm _ (by omega) (hne k hk)]
        exact gm k hk
      · rw [hf 0 (by decide) (by omega)]
        exact ⟨g5.1, fun S' hS' => rcF (g5.2 S' hS') (fun p p1 p2 => hf p (by omega) (by omega))⟩
      · rw [hf 154 (by decide) (by omega), hf 155 (by decide) (by omega)]
        exact g6
    obtain ⟨v', e1, e2, e3⟩ := keep_0 hCW hI s2_i
    refine ⟨_, v', 26, fun β f => ?_, e2, fun p p1 p2 => by rw [e3 p p1 (by omega), s2_ne (by omega), hv p (by omega)]⟩
    refine bac (a := ()) ?_
    unfold fX3_record
    rw [h35, ldS_0 hnx h0, nm_w, nI_clamp (by omega), e]
    rw [ck_i ⟨hsh2, Or.inl (Or.inl rfl)⟩, e35, ck_i (show inR (nI W.2.1.2) 8 from ⟨by rw [nI_toInt (by omega)]; omega, by rw [nI_toInt (by omega)]; omega⟩), nm_w, nI_clamp (by omega), ck_i ⟨hsh3, Or.inr ⟨W.2.1.2, hnx, rfl, h36n⟩, Or.inl (Or.inl rfl)⟩, nm_w, show (1 : Int32) = nI 1 from rfl]
    have e1 : (fX5_copyFrom (37 + 13 * W.2.1.2) 1 (s2 v2 36 W.2.1.2 (nI 1))).bind _ = _ := e1
    refine (congrArg _ e1).trans ?_
    rfl
  · obtain ⟨q, hq⟩ : ∃ q, r 36 W.2.1.2 = q + 1 := ⟨r 36 W.2.1.2 - 1, by omega⟩
    have hqe : q = 37 + 13 * W.2.1.2 := by
      rcases h1.2.2 _ hnx with g | g
      · omega
      · omega
    subst hqe
    obtain ⟨v', e1, e2, e3⟩ := keep_0 h hI ((h2l _ hnx).mpr h0)
    refine ⟨r, v', 0, fun β f => ?_, e2, fun p p1 p2 => e3 p p1 (by omega)⟩
    refine bac (a := ()) ?_
    unfold fX3_record
    rw [h35, ldS_s hnx hq]
    exact e1
/-- all fields forgotten -/
theorem forget_C {co co' : Nat → Nat} (h : cacC co r v n) (hK : 140 < K) : ∃ u v', fX2_forgetAll K r v n = some (u, r, v', 0) ∧ cacC co' r v' n ∧ ∀ p, p < 172 → v' p = v p := by
  obtain ⟨h1, h2, h3, h4, h5, h6⟩ := h
  unfold fX2_forgetAll
  refine fx4_go (P := fun i x1 r' w n' => x1 = nI i ∧ r' = r ∧ n' = n ∧ (∀ p, p < 172 → w p = v p) ∧ ∀ t q, t < i → r 15 t = q + 1 → w q 1 = nI 0) (Q := fun o => ∃ u v', o = some (u, r, v', 0) ∧ cacC co' r v' n ∧ ∀ p, p < 172 → v' p = v p) (N := 140) ?_ ⟨rfl, rfl, rfl, fun _ _ => rfl, fun t q ht => absurd ht (Nat.not_lt_zero t)⟩ hK
  intro i x1 r' w n' hi ⟨e1, er, en, hw, hz⟩ k hk
  subst e1 er en
  unfold gX2_forgetAll_2
  by_cases hi1 : i = 140
  · subst hi1
    simp (disch := omega) only [↓jM_e, li_0, li_1, li_2, li_3, li_4, li_5, li_6, li_7, li_8, li_9, li_10, li_13, li_14, li_15, li_16, li_31, li_35, li_47, li_48, li_49, li_50, li_57, li_99, li_100, li_126, li_139, li_140, li_149, li_150, li_280, li_284, li_285, li_290, li_434, li_1260, li_3472, li_9999, li_65536, nm, nm_w, sf_w, cp_w, ld_I, sa_I, nI_add, pk_mul, Nat.zero_add, nI_leI, nI_ltI, nI_eq, nI_neM, M_neI, nI_ltM, nI_nltM, M_ltI, M_leI, nI_nleM, bnd_some, if_pos, if_neg, dif_t, dif_f]
    refine ⟨(), w, rfl, ⟨h1, ⟨h2.1, h2.2.1, fun i hi => by rw [hw 36 (by decide)]; exact h2.2.2 i hi⟩, h3, fun c hc => by rw [hw 17 (by decide)]; exact h4 c hc, fun t ht => ?_, h6⟩, hw⟩
    rcases h5 t ht with g | ⟨q, q1, q2, q3, -⟩
    · exact Or.inl g
    · exact Or.inr ⟨q, q1, q2, q3, Or.inl (hz t q ht q1)⟩
  · have hlt : i < 140 := by omega
    rcases h5 i hlt with g | ⟨q, q1, q2, q3, -⟩
    · rw [show (140 : Int32) = nI 140 from rfl, if_neg (nI_ge hlt (by decide)), ldF_0 hlt g]
      simp (disch := omega) only [↓jM_e, li_0, li_1, li_2, li_3, li_4, li_5, li_6, li_7, li_8, li_9, li_10, li_13, li_14, li_15, li_16, li_31, li_35, li_47, li_48, li_49, li_50, li_57, li_99, li_100, li_126, li_139, li_140, li_149, li_150, li_280, li_284, li_285, li_290, li_434, li_1260, li_3472, li_9999, li_65536, nm, nm_w, sf_w, cp_w, ld_I, sa_I, nI_add, pk_mul, Nat.zero_add, nI_leI, nI_ltI, nI_eq, nI_neM, M_neI, nI_ltM, nI_nltM, M_ltI, M_leI, nI_nleM, bnd_some, if_pos, if_neg, dif_t, dif_f]
      refine hk hlt _ _ _ _ ⟨rfl, rfl, rfl, hw, fun t q ht e => ?_⟩
      by_cases hti : t = i
      · rw [hti, g] at e; cases e
      · exact hz t q (by omega) e
    · rw [show (140 : Int32) = nI 140 from rfl, if_neg (nI_ge hlt (by decide)), ldF_s hlt q1, ck_i q3]
      simp (disch := omega) only [↓jM_e, li_0, li_1, li_2, li_3, li_4, li_5, li_6, li_7, li_8, li_9, li_10, li_13, li_14, li_15, li_16, li_31, li_35, li_47, li_48, li_49, li_50, li_57, li_99, li_100, li_126, li_139, li_140, li_149, li_150, li_280, li_284, li_285, li_290, li_434, li_1260, li_3472, li_9999, li_65536, nm, nm_w, sf_w, cp_w, ld_I, sa_I, nI_add, pk_mul, Nat.zero_add, nI_leI, nI_ltI, nI_eq, nI_neM, M_neI, nI_ltM, nI_nltM, M_ltI, M_leI, nI_nleM, bnd_some, if_pos, if_neg, dif_t, dif_f]
      refine hk hlt _ _ _ _ ⟨rfl, rfl, rfl, fun p hp => by rw [s2_ne (by omega)]; exact hw p hp, fun t q' ht e => ?_⟩
      by_cases hqq : q' = q
      · rw [hqq, s2_i]
      · rw [s2_p hqq]
        refine hz t q' ?_ e
        have : t ≠ i := by
          intro hti
          rw [hti, q1] at e
          omega
        omega
theorem forget_M {S : aS} (hr : RelM S (v 158)) (hK : 140 < K) : ∃ v', fX7_forgets K v = some v' ∧ mI S v' ∧ ∀ p, p ≠ 164 → v' p = v p := by
  unfold fX7_forgets
  refine fx2_go (P := fun i x1 w => x1 = nI i ∧ (∀ p, p ≠ 164 → w p = v p) ∧ ∀ t, t < i → w 164 t = nI 0) (Q := fun o => ∃ v', o = some v' ∧ mI S v' ∧ ∀ p, p ≠ 164 → v' p = v p) (N := 140) ?_ ⟨rfl, fun _ _ => rfl, fun t ht => absurd ht (Nat.not_lt_zero t)⟩ hK
  intro i x1 w hi ⟨e1, hw, hz⟩ k hk
  subst e1
  unfold gX7_forgets_2
  by_cases hi1 : i = 140
  · subst hi1
    simp (disch := omega) only [↓jM_e, li_0, li_1, li_2, li_3, li_4, li_5, li_6, li_7, li_8, li_9, li_10, li_13, li_14, li_15, li_16, li_31, li_35, li_47, li_48, li_49, li_50, li_57, li_99, li_100, li_126, li_139, li_140, li_149, li_150, li_280, li_284, li_285, li_290, li_434, li_1260, li_3472, li_9999, li_65536, nm, nm_w, sf_w, cp_w, ld_I, sa_I, nI_add, pk_mul, Nat.zero_add, nI_leI, nI_ltI, nI_eq, nI_neM, M_neI, nI_ltM, nI_nltM, M_ltI, M_leI, nI_nleM, bnd_some, if_pos, if_neg, dif_t, dif_f]
    exact ⟨w, rfl, ⟨by rw [hw 158 (by decide)]; exact hr, fun t ht => Or.inl (hz t ht)⟩, hw⟩
  · have hlt : i < 140 := by omega
    simp (disch := omega) only [↓jM_e, li_0, li_1, li_2, li_3, li_4, li_5, li_6, li_7, li_8, li_9, li_10, li_13, li_14, li_15, li_16, li_31, li_35, li_47, li_48, li_49, li_50, li_57, li_99, li_100, li_126, li_139, li_140, li_149, li_150, li_280, li_284, li_285, li_290, li_434, li_1260, li_3472, li_9999, li_65536, nm, nm_w, sf_w, cp_w, ld_I, sa_I, nI_add, pk_mul, Nat.zero_add, nI_leI, nI_ltI, nI_eq, nI_neM, M_neI, nI_ltM, nI_nltM, M_ltI, M_leI, nI_nleM, bnd_some, if_pos, if_neg, dif_t, dif_f]
    refine hk hlt _ _ ⟨rfl, fun p hp => by rw [s2_ne hp]; exact hw p hp, fun t ht => ?_⟩
    by_cases hti : t = i
    · rw [hti, s2_i]
    · rw [s2_j hti]; exact hz t (by omega)
end
