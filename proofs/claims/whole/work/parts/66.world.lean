/-! THE WHOLE WORLD OF BOTH SIDES: the state; how many changes can be taken back, where the ring stands; the states before; the saved one; the letters fed -/
abbrev aW : Type := aS × (Nat × Nat) × (Nat → aS) × Option aS × (Nat × (Nat → Int32))
def slot (nx c k : Nat) : Nat := 37 + 13 * ((nx + 8 - c + k) % 8)
def CW (W : aW) (r : sR) (v : sV) (n : Nat) : Prop :=
  RelC 1 W.1 v ∧ cacC (coS W.1) r v n ∧ (v 35 2 = nI W.2.1.1 ∧ v 35 1 = nI W.2.1.2) ∧ (∀ k, k < W.2.1.1 → RelC (slot W.2.1.2 W.2.1.1 k) (W.2.2.1 k) v) ∧
  (v 0 6 = (if W.2.2.2.1.isSome = true then nI 1 else nI 0) ∧ ∀ S, W.2.2.2.1 = some S → RelC 141 S v) ∧ (v 154 1 = nI W.2.2.2.2.1 ∧ ∀ i, i < W.2.2.2.2.1 → v 155 i = W.2.2.2.2.2 i)
def MW (W : aW) (v : sV) : Prop :=
  mI W.1 v ∧ v 157 5 = nI W.2.1.1 ∧ (∀ k, k < W.2.1.1 → RelM (W.2.2.1 k) (fun j => v 161 (434 * k + j))) ∧
  (v 157 4 = (if W.2.2.2.1.isSome = true then nI 1 else nI 0) ∧ ∀ S, W.2.2.2.1 = some S → RelM S (v 159)) ∧ (v 157 15 = nI W.2.2.2.2.1 ∧ ∀ i, i < W.2.2.2.2.1 → v 168 i = W.2.2.2.2.2 i)
def IW (B : Nat) (W : aW) : Prop := iS B W.1 ∧ (∀ k, k < W.2.1.1 → iS B (W.2.2.1 k)) ∧ (∀ S, W.2.2.2.1 = some S → iS B S) ∧ W.2.1.1 ≤ 8 ∧ W.2.1.2 < 8 ∧ W.2.2.2.2.1 ≤ 150
theorem IW_B {W : aW} {B B' : Nat} (h : IW B W) (hB : B ≤ B') : IW B' W := ⟨iS_B h.1 hB, fun k hk => iS_B (h.2.1 k hk) hB, fun S hS => iS_B (h.2.2.1 S hS) hB, h.2.2.2⟩
/-- the state set -/
def wS (W : aW) (S : aS) : aW := (S, W.2)
/-- the state kept, to be taken back -/
def wK (W : aW) : aW :=
  (W.1, (if W.2.1.1 = 8 then (8, (W.2.1.2 + 1) % 8) else (W.2.1.1 + 1, (W.2.1.2 + 1) % 8)), (fun k => if W.2.1.1 = 8 then (if k < 7 then W.2.2.1 (k + 1) else W.1) else (if k < W.2.1.1 then W.2.2.1 k else W.1)), W.2.2.2)
theorem IW_K {W : aW} {B : Nat} (h : IW B W) : IW B (wK W) := by
  obtain ⟨h1, h2, h3, h4, h5, h6⟩ := h
  refine ⟨h1, fun k hk => ?_, h3, ?_, ?_, h6⟩
  · show iS B (if W.2.1.1 = 8 then (if k < 7 then W.2.2.1 (k + 1) else W.1) else (if k < W.2.1.1 then W.2.2.1 k else W.1))
    by_cases h8 : W.2.1.1 = 8
    · rw [if_pos h8]
      split
      · exact h2 _ (by omega)
      · exact h1
    · rw [if_neg h8]
      split
      · exact h2 _ (by omega)
      · exact h1
  · show (if W.2.1.1 = 8 then (8, (W.2.1.2 + 1) % 8) else (W.2.1.1 + 1, (W.2.1.2 + 1) % 8)).1 ≤ 8
    split
    · exact Nat.le_refl _
    · show W.2.1.1 + 1 ≤ 8
      omega
  · show (if W.2.1.1 = 8 then (8, (W.2.1.2 + 1) % 8) else (W.2.1.1 + 1, (W.2.1.2 + 1) % 8)).2 < 8
    split <;> exact Nat.mod_lt _ (by decide)
theorem IW_S {W : aW} {B : Nat} {S : aS} (h : IW B W) (hS : iS B S) : IW B (wS W S) := ⟨hS, h.2⟩
theorem cpv_ne {v : sV} {d s N p : Nat} (h : p ≠ d) : cpv v d s N p = v p := by
  funext j
  show (if p = d ∧ j < N then v s j else v p j) = v p j
  rw [if_neg (fun g => h g.1)]
theorem cpv_nj {v : sV} {d s N p j : Nat} (h : p ≠ d) : cpv v d s N p j = v p j := by rw [cpv_ne h]
theorem cpv_i {v : sV} {d s N j : Nat} (h : j < N) : cpv v d s N d j = v s j := by
  show (if d = d ∧ j < N then v s j else v d j) = v s j
  rw [if_pos ⟨rfl, h⟩]
section
variable {v : sV} {b d K n : Nat} {r : sR} {W : aW} {B : Nat}
set_option maxHeartbeats 2000000 in
theorem copy_ok (hbd : b + 13 ≤ d ∨ d + 13 ≤ b) : ∃ v', fX5_copyFrom b d v = some v' ∧ (∀ S, RelC d S v → RelC b S v') ∧ ∀ p, ¬ (b ≤ p ∧ p < b + 13) → v' p = v p := by
  unfold fX5_copyFrom
  simp only [cp_w, sf_w]
  refine ⟨_, rfl, fun S h => ⟨fun j i hj hi => ?_, ?_⟩, fun p hp => ?_⟩
  · rw [s2_p (by omega)]
    match j, hj, hi with
    | 0, _, hi =>
      have hi : i < 140 := hi
      show _ = S 0 i
      rw [← rc0 h hi]
      simp (disch := omega) only [cpv_nj, cpv_i]
    | 1, _, hi =>
      have hi : i < 140 := hi
      show _ = S 1 i
      rw [← rc1 h hi]
      show cpv _ _ _ _ (b + 2) i = _
      simp (disch := omega) only [cpv_nj, cpv_i]
    | 2, _, hi =>
      have hi : i < 4 := hi
      rw [← rc2 h hi]
      show cpv _ _ _ _ (b + 3) i = _
      simp (disch := omega) only [cpv_nj, cpv_i]
    | 3, _, hi =>
      have hi : i < 16 := hi
      rw [← rc3 h hi]
      show cpv _ _ _ _ (b + 4) i = _
      simp (disch := omega) only [cpv_nj, cpv_i]
    | 4, _, hi =>
      have hi : i < 16 := hi
      rw [← rc4 h hi]
      show cpv _ _ _ _ (b + 5) i = _
      simp (disch := omega) only [cpv_nj, cpv_i]
    | 5, _, hi =>
      have hi : i < 16 := hi
      rw [← rc5 h hi]
      show cpv _ _ _ _ (b + 6) i = _
      simp (disch := omega) only [cpv_nj, cpv_i]
    | 6, _, hi =>
      have hi : i < 16 := hi
      rw [← rc6 h hi]
      show cpv _ _ _ _ (b + 7) i = _
      simp (disch := omega) only [cpv_nj, cpv_i]
    | 7, _, hi =>
      have hi : i < 16 := hi
      rw [← rc7 h hi]
      show cpv _ _ _ _ (b + 8) i = _
      simp (disch := omega) only [cpv_nj, cpv_i]
    | 8, _, hi =>
      have hi : i < 16 := hi
      rw [← rc8 h hi]
      show cpv _ _ _ _ (b + 9) i = _
      simp (disch := omega) only [cpv_nj, cpv_i]
    | 9, _, hi =>
      have hi : i < 16 := hi
      rw [← rc9 h hi]
      show cpv _ _ _ _ (b + 10) i = _
      simp (disch := omega) only [cpv_nj, cpv_i]
    | 10, _, hi =>
      have hi : i < 16 := hi
      rw [← rc10 h hi]
      show cpv _ _ _ _ (b + 11) i = _
      simp (disch := omega) only [cpv_nj, cpv_i]
    | 11, _, hi =>
      have hi : i < 5 := hi
      rw [← rc11 h hi]
      show cpv _ _ _ _ (b + 12) i = _
      simp (disch := omega) only [cpv_nj, cpv_i]
    | j + 12, hj, _ => exact absurd hj (by omega)
  · rw [s2_i]
    simp (disch := omega) only [cpv_nj]
    exact h.2
  · rw [s2_ne (by omega)]
    simp (disch := omega) only [cpv_ne]
theorem ldS_I {β : Type} {i : Nat} {f : Nat → Option β} (h : i < 8) : ldS (nI i) f = f (37 + 13 * i) := by
  unfold ldS
  rw [nI_toInt (by omega), if_pos ⟨by omega, by omega⟩]
  rfl
theorem slot_b {nx c k : Nat} : 37 ≤ slot nx c k ∧ slot nx c k + 13 ≤ 141 := by unfold slot; omega
/-- what a class method may leave as it was -/
theorem CW_f {W' : aW} {v' : sV} (h : CW W r v n) (hS : W'.2 = W.2) (h1 : RelC 1 W'.1 v') (h2 : cacC (coS W'.1) r v' n) (hv : ∀ p, p = 0 ∨ (35 ≤ p ∧ p < 157) → v' p = v p) : CW W' r v' n := by
  obtain ⟨g1, g2, g3, g4, g5, g6⟩ := h
  refine ⟨h1, h2, ?_, ?_, ?_, ?_⟩
  · rw [hS, hv 35 (by omega)]; exact g3
  · rw [hS]
    exact fun k hk => rcF (g4 k hk) (fun p p1 p2 => hv p (by have := @slot_b W.2.1.2 W.2.1.1 k; omega))
  · rw [hS, hv 0 (by omega)]
    exact ⟨g5.1, fun S hS => rcF (g5.2 S hS) (fun p p1 p2 => hv p (by omega))⟩
  · rw [hS, hv 154 (by omega), hv 155 (by omega)]; exact g6
/-- the class keeps its state -/
theorem keep_C (h : CW W r v n) (hI : IW B W) : ∃ v', fX3_record 1 v = some v' ∧ CW (wK W) r v' n ∧ ∀ p, p ≠ 35 → ¬ (37 ≤ p ∧ p < 141) → v' p = v p := by
  obtain ⟨S, ⟨c, nx⟩, H, sv, le, L⟩ := W
  obtain ⟨g1, g2, ⟨g3, g3'⟩, g4, ⟨g5, g5'⟩, ⟨g6, g6'⟩⟩ := h
  obtain ⟨i1, i2, i3, i4, i5, i6⟩ := hI
  dsimp only at g1 g2 g3 g3' g4 g5 g5' g6 g6' i1 i2 i3 i4 i5 i6
  obtain ⟨v1, e1, f1, f2⟩ := copy_ok (v := v) (b := 37 + 13 * nx) (d := 1) (by omega)
  have e35 : v1 35 1 = nI nx := by rw [f2 35 (by omega)]; exact g3'
  have e35' : s2 v1 35 1 (nI ((nx + 1) % 8)) 35 2 = nI c := by rw [s2_j (by decide), f2 35 (by omega)]; exact g3
  have erem : nI (nx + 1) - nI (nx + 1) / nI 8 * nI 8 = nI ((nx + 1) % 8) := pk_rem (by omega) (by decide) (by decide)
  have hfr : ∀ (w : sV) (y : Int32), (∀ p, p ≠ 35 → ¬ (37 ≤ p ∧ p < 141) → s2 (s2 v1 35 1 (nI ((nx + 1) % 8))) 35 2 y p = v p) := fun w y p p1 p2 => by rw [s2_ne p1, s2_ne p1, f2 p (by omega)]
  have hrel : ∀ (y : Int32) (b' : Nat) (S' : aS), 37 ≤ b' ∧ b' + 13 ≤ 141 → (b' + 13 ≤ 37 + 13 * nx ∨ 37 + 13 * nx + 13 ≤ b') → RelC b' S' v → RelC b' S' (s2 (s2 v1 35 1 (nI ((nx + 1) % 8))) 35 2 y) := fun y b' S' hb hd hr => rcF hr (fun p p1 p2 => by rw [s2_ne (by omega), s2_ne (by omega), f2 p (by omega)])
  have hrel0 : ∀ (y : Int32), RelC (37 + 13 * nx) S (s2 (s2 v1 35 1 (nI ((nx + 1) % 8))) 35 2 y) := fun y => rcF (f1 S g1) (fun p p1 p2 => by rw [s2_ne (by omega), s2_ne (by omega)])
  have hrest : ∀ (y : Int32) (c' : Nat), y = nI c' → (wK (S, (c, nx), H, sv, le, L)).2.1 = (c', (nx + 1) % 8) → (∀ k, k < c' → RelC (slot ((nx + 1) % 8) c' k) ((wK (S, (c, nx), H, sv, le, L)).2.2.1 k) (s2 (s2 v1 35 1 (nI ((nx + 1) % 8))) 35 2 y)) → CW (wK (S, (c, nx), H, sv, le, L)) r (s2 (s2 v1 35 1 (nI ((nx + 1) % 8))) 35 2 y) n := by
    intro y c' hy hc hk
    subst hy
    have hf := hfr v1 (nI c')
    refine ⟨rcF g1 (fun p p1 p2 => hf p (by omega) (by omega)), cacC_v g2 (fun p hp => hf p (by omega) (by omega)), ?_, ?_, ?_, ?_⟩
    · rw [hc]
      exact ⟨s2_i, by rw [s2_j (by decide), s2_i]⟩
    · rw [hc]; exact hk
    · exact ⟨by rw [hf 0 (by decide) (by decide)]; exact g5, fun S' hS' => rcF (g5' S' hS') (fun p p1 p2 => hf p (by omega) (by omega))⟩
    · exact ⟨by rw [hf 154 (by decide) (by decide)]; exact g6, fun i hi => by rw [hf 155 (by decide) (by decide)]; exact g6' i hi⟩
  unfold fX3_record
  rw [g3', ldS_I i5, e1, bnd_some]
  by_cases h8 : c = 8
  · subst h8
    simp (disch := omega) only [↓jM_e, li_0, li_1, li_2, li_3, li_4, li_5, li_6, li_7, li_8, li_9, li_10, li_13, li_14, li_15, li_16, li_31, li_35, li_47, li_48, li_49, li_50, li_57, li_99, li_100, li_126, li_139, li_140, li_149, li_150, li_280, li_284, li_285, li_290, li_434, li_1260, li_3472, li_9999, li_65536, nm, nm_w, sf_w, cp_w, ld_I, sa_I, nI_add, pk_mul, Nat.zero_add, nI_leI, nI_ltI, nI_eq, nI_neM, M_neI, nI_ltM, nI_nltM, M_ltI, M_leI, nI_nleM, bnd_some, if_pos, if_neg, dif_t, dif_f, e35, erem, e35']
    refine ⟨_, rfl, hrest _ 8 rfl rfl (fun k hk => ?_), hfr v1 _⟩
    show RelC (slot ((nx + 1) % 8) 8 k) (if k < 7 then H (k + 1) else S) _
    by_cases hk7 : k < 7
    · rw [if_pos hk7]
      have es : slot ((nx + 1) % 8) 8 k = slot nx 8 (k + 1) := by unfold slot; omega
      rw [es]
      refine hrel _ _ _ slot_b ?_ (g4 (k + 1) (by omega))
      unfold slot
      omega
    · rw [if_neg hk7]
      have es : slot ((nx + 1) % 8) 8 k = 37 + 13 * nx := by unfold slot; omega
      rw [es]
      exact hrel0 _
  · simp (disch := omega) only [↓jM_e, li_0, li_1, li_2, li_3, li_4, li_5, li_6, li_7, li_8, li_9, li_10, li_13, li_14, li_15, li_16, li_31, li_35, li_47, li_48, li_49, li_50, li_57, li_99, li_100, li_126, li_139, li_140, li_149, li_150, li_280, li_284, li_285, li_290, li_434, li_1260, li_3472, li_9999, li_65536, nm, nm_w, sf_w, cp_w, ld_I, sa_I, nI_add, pk_mul, Nat.zero_add, nI_leI, nI_ltI, nI_eq, nI_neM, M_neI, nI_ltM, nI_nltM, M_ltI, M_leI, nI_nleM, bnd_some, if_pos, if_neg, dif_t, dif_f, e35, erem, e35']
    refine ⟨_, rfl, hrest _ (c + 1) rfl ?_ (fun k hk => ?_), hfr v1 _⟩
    · show (if c = 8 then (8, (nx + 1) % 8) else (c + 1, (nx + 1) % 8)) = _
      rw [if_neg h8]
    · show RelC (slot ((nx + 1) % 8) (c + 1) k) (if c = 8 then (if k < 7 then H (k + 1) else S) else (if k < c then H k else S)) _
      rw [if_neg h8]
      by_cases hkc : k < c
      · rw [if_pos hkc]
        have es : slot ((nx + 1) % 8) (c + 1) k = slot nx c k := by unfold slot; omega
        rw [es]
        refine hrel _ _ _ slot_b ?_ (g4 k hkc)
        unfold slot
        omega
      · rw [if_neg hkc]
        have es : slot ((nx + 1) % 8) (c + 1) k = 37 + 13 * nx := by unfold slot; omega
        rw [es]
        exact hrel0 _
/-- all fields forgotten -/
theorem forget_C {co co' : Nat → Nat} (h : cacC co r v n) (hK : 140 < K) : ∃ u v', fX2_forgetAll K r v n = some (u, r, v', 0) ∧ cacC co' r v' n ∧ ∀ p, p < 172 → v' p = v p := by
  obtain ⟨h1, h2, h3, h4, h5, h6⟩ := h
  unfold fX2_forgetAll
  refine fx4_go (P := fun i x1 r' w n' => x1 = nI i ∧ r' = r ∧ n' = n ∧ (∀ p, p < 172 → w p = v p) ∧ ∀ t q, t < i → r 15 t = q + 1 → w q 1 = nI 0) (Q := fun o => ∃ u v', o = some (u, r, v', 0) ∧ cacC co' r v' n ∧ ∀ p, p < 172 → v' p = v p) (N := 140) ?_ ⟨rfl, rfl, rfl, fun _ _ => rfl, fun t q ht => absurd ht (Nat.not_lt_zero t)⟩ hK
  intro i x1 r' w n' hi ⟨e1, er, en, hw, hz⟩ k hk
  subst e1 er en
  unfold gX2_forgetAll_2
  by_cases hi1 : i = 140
  · subst hi1
    simp (disch := omega) only [↓jM_e, li_0, li_1, li_2, li_3, li_4, li_5, li_6, li_7, li_8, li_9, li_10, li_13, li_14, li_15, li_16, li_31, li_35, li_47, li_48, li_49, li_50, li_57, li_99, li_100, li_126, li_139, li_140, li_149, li_150, li_280, li_284, li_285, li_290, li_434, li_1260, li_3472, li_9999, li_65536, nm, nm_w, sf_w, cp_w, ld_I, sa_I, nI_add, pk_mul, Nat.zero_add, nI_leI, nI_ltI, nI_eq, nI_neM, M_neI, nI_ltM, nI_nltM, M_ltI, M_leI, nI_nleM, bnd_some, if_pos, if_neg, dif_t, dif_f]
    refine ⟨(), w, rfl, ⟨h1, h2, h3, fun c hc => by rw [hw 17 (by decide)]; exact h4 c hc, fun t ht => ?_, h6⟩, hw⟩
    rcases h5 t ht with g | ⟨q, q1, q2, q3, -⟩
    · exact Or.inl g
    · exact Or.inr ⟨q, q1, q2, q3, Or.inl (hz t q ht q1)⟩
  · have hlt : i < 140 := by omega
    rcases h5 i hlt with g | ⟨q, q1, q2, q3, -⟩
    · rw [show (140 : Int32) = nI 140 from rfl, if_neg (nI_ge hlt (by decide)), ldF_0 hlt g]
      simp (disch := omega) only [↓jM_e, li_0, li_1, li_2, li_3, li_4, li_5, li_6, li_7, li_8, li_9, li_10, li_13, li_14, li_15, li_16, li_31, li_35, li_47, li_48, li_49, li_50, li_57, li_99, li_100, li_126, li_139, li_140, li_149, li_150, li_280, li_284, li_285, li_290, li_434, li_1260, li_3472, li_9999, li_65536, nm, nm_w, sf_w, cp_w, ld_I, sa_I, nI_add, pk_mul, Nat.zero_add, nI_leI, nI_ltI, nI_eq, nI_neM, M_neI, nI_ltM, nI_nltM, M_ltI, M_leI, nI_nleM, bnd_some, if_pos, if_neg, dif_t, dif_f]
      refine hk hlt _ _ _ _ ⟨rfl, rfl, rfl, hw, fun t q ht e => ?_⟩
      by_cases hti : t = i
      · rw [hti, g] at e; cases e
      · exact hz t q (by omega) e
    · rw [show (140 : Int32) = nI 140 from rfl, if_neg (nI_ge hlt (by decide)), ldF_s hlt q1, ck_i q3]
      simp (disch := omega) only [↓jM_e, li_0, li_1, li_2, li_3, li_4, li_5, li_6, li_7, li_8, li_9, li_10, li_13, li_14, li_15, li_16, li_31, li_35, li_47, li_48, li_49, li_50, li_57, li_99, li_100, li_126, li_139, li_140, li_149, li_150, li_280, li_284, li_285, li_290, li_434, li_1260, li_3472, li_9999, li_65536, nm, nm_w, sf_w, cp_w, ld_I, sa_I, nI_add, pk_mul, Nat.zero_add, nI_leI, nI_ltI, nI_eq, nI_neM, M_neI, nI_ltM, nI_nltM, M_ltI, M_leI, nI_nleM, bnd_some, if_pos, if_neg, dif_t, dif_f]
      refine hk hlt _ _ _ _ ⟨rfl, rfl, rfl, fun p hp => by rw [s2_ne (by omega)]; exact hw p hp, fun t q' ht e => ?_⟩
      by_cases hqq : q' = q
      · rw [hqq, s2_i]
      · rw [s2_p hqq]
        refine hz t q' ?_ e
        have : t ≠ i := by
          intro hti
          rw [hti, q1] at e
          omega
        omega
theorem forget_M {S : aS} (hr : RelM S (v 158)) (hK : 140 < K) : ∃ v', fX7_forgets K v = some v' ∧ mI S v' ∧ ∀ p, p ≠ 164 → v' p = v p := by
  unfold fX7_forgets
  refine fx2_go (P := fun i x1 w => x1 = nI i ∧ (∀ p, p ≠ 164 → w p = v p) ∧ ∀ t, t < i → w 164 t = nI 0) (Q := fun o => ∃ v', o = some v' ∧ mI S v' ∧ ∀ p, p ≠ 164 → v' p = v p) (N := 140) ?_ ⟨rfl, fun _ _ => rfl, fun t ht => absurd ht (Nat.not_lt_zero t)⟩ hK
  intro i x1 w hi ⟨e1, hw, hz⟩ k hk
  subst e1
  unfold gX7_forgets_2
  by_cases hi1 : i = 140
  · subst hi1
    simp (disch := omega) only [↓jM_e, li_0, li_1, li_2, li_3, li_4, li_5, li_6, li_7, li_8, li_9, li_10, li_13, li_14, li_15, li_16, li_31, li_35, li_47, li_48, li_49, li_50, li_57, li_99, li_100, li_126, li_139, li_140, li_149, li_150, li_280, li_284, li_285, li_290, li_434, li_1260, li_3472, li_9999, li_65536, nm, nm_w, sf_w, cp_w, ld_I, sa_I, nI_add, pk_mul, Nat.zero_add, nI_leI, nI_ltI, nI_eq, nI_neM, M_neI, nI_ltM, nI_nltM, M_ltI, M_leI, nI_nleM, bnd_some, if_pos, if_neg, dif_t, dif_f]
    exact ⟨w, rfl, ⟨by rw [hw 158 (by decide)]; exact hr, fun t ht => Or.inl (hz t ht)⟩, hw⟩
  · have hlt : i < 140 := by omega
    simp (disch := omega) only [↓jM_e, li_0, li_1, li_2, li_3, li_4, li_5, li_6, li_7, li_8, li_9, li_10, li_13, li_14, li_15, li_16, li_31, li_35, li_47, li_48, li_49, li_50, li_57, li_99, li_100, li_126, li_139, li_140, li_149, li_150, li_280, li_284, li_285, li_290, li_434, li_1260, li_3472, li_9999, li_65536, nm, nm_w, sf_w, cp_w, ld_I, sa_I, nI_add, pk_mul, Nat.zero_add, nI_leI, nI_ltI, nI_eq, nI_neM, M_neI, nI_ltM, nI_nltM, M_ltI, M_leI, nI_nleM, bnd_some, if_pos, if_neg, dif_t, dif_f]
    refine hk hlt _ _ ⟨rfl, fun p hp => by rw [s2_ne hp]; exact hw p hp, fun t ht => ?_⟩
    by_cases hti : t = i
    · rw [hti, s2_i]
    · rw [s2_j hti]; exact hz t (by omega)
end
