/-! FLOWS, STEPS -/
def flP (co : Nat → Nat) (D : Nat → Option Nat) (c k e : Nat) : Bool := match nbO c e with
  | none => false
  | some q => match D q with
    | none => false
    | some k' => decide (k' + co q = k)
def flS (co : Nat → Nat) (D : Nat → Option Nat) (c : Nat) : Option Nat := match D c with
  | none => none
  | some 0 => none
  | some (k + 1) => ffI (flP co D c (k + 1)) 4 0
/-- steps from a cell -/
def stN (co : Nat → Nat) (D : Nat → Option Nat) : Nat → Nat → Nat
  | 0, _ => 0
  | f + 1, c => match flS co D c with
    | none => 0
    | some e => match nbO c e with
      | none => 0
      | some q => 1 + stN co D f q
theorem flS_lt {co : Nat → Nat} {D : Nat → Option Nat} {c e : Nat} (h : flS co D c = some e) : e < 4 := by
  unfold flS at h
  split at h
  · cases h
  · cases h
  · have := (ffI_s h).2.2.1
    omega
theorem flS_some {co : Nat → Nat} {D : Nat → Option Nat} {t c k : Nat} (hD : isD co t D) (hc : c < 140) (hk : D c = some (k + 1)) : ∃ e q k', flS co D c = some e ∧ e < 4 ∧ nbO c e = some q ∧ q < 140 ∧ D q = some k' ∧ k' + co q = k + 1 ∧ co q ≠ 0 := by
  have h0 : flS co D c = ffI (flP co D c (k + 1)) 4 0 := by unfold flS; rw [hk]
  cases hf : ffI (flP co D c (k + 1)) 4 0 with
  | none =>
    rcases hD.2.2.2 c hc (k + 1) hk with h1 | ⟨e, q, k', he, hq, hk', hs⟩
    · rw [h1, hD.1] at hk
      cases hk
    · have := ffI_n hf e (Nat.zero_le e) (by omega)
      unfold flP at this
      rw [hq] at this
      dsimp only at this
      rw [hk'] at this
      dsimp only at this
      have := of_decide_eq_false this
      omega
  | some e =>
    obtain ⟨h1, -, h3, -⟩ := ffI_s hf
    unfold flP at h1
    split at h1
    · cases h1
    · rename_i q hq
      split at h1
      · cases h1
      · rename_i k' hk'
        have hq2 := nb_lt hc hq
        exact ⟨e, q, k', h0.trans hf, by omega, hq, hq2, hk', of_decide_eq_true h1, (hD.2.1 q hq2 k' hk').1⟩
theorem isD_0 {co : Nat → Nat} {D : Nat → Option Nat} {t c : Nat} (hD : isD co t D) (hc : c < 140) (hk : D c = some 0) : c = t := by
  rcases hD.2.2.2 c hc 0 hk with h1 | ⟨e, q, k', he, hq, hk', hs⟩
  · exact h1
  · have := (hD.2.1 q (nb_lt hc hq) k' hk').1
    omega
theorem stN_f {co : Nat → Nat} {D : Nat → Option Nat} {t : Nat} (hD : isD co t D) : ∀ (k c f g : Nat), c < 140 → D c = some k → k ≤ f → k ≤ g → stN co D f c = stN co D g c := by
  intro k
  induction k using Nat.strongRecOn with
  | ind k ih =>
    intro c f g hc hk hf hg
    cases k with
    | zero =>
      have h0 : flS co D c = none := by unfold flS; rw [hk]
      cases f <;> cases g <;> simp [stN, h0]
    | succ k =>
      obtain ⟨e, q, k', h1, h2, h3, h4, h5, h6, h7⟩ := flS_some hD hc hk
      cases f with
      | zero => omega
      | succ f =>
        cases g with
        | zero => omega
        | succ g =>
          simp only [stN, h1, h3]
          rw [ih k' (by omega) q f g h4 h5 (by omega) (by omega)]
theorem stN_s {co : Nat → Nat} {D : Nat → Option Nat} {t c k e q k' : Nat} (hD : isD co t D) (hc : c < 140) (hk : D c = some (k + 1)) (h1 : flS co D c = some e) (h3 : nbO c e = some q) (h4 : q < 140) (h5 : D q = some k') (h6 : k' ≤ k) : stN co D 1300 c = 1 + stN co D 1300 q := by
  have hle := (hD.2.1 c hc (k + 1) hk).2
  have : stN co D 1300 c = 1 + stN co D 1299 q := by
    show (match flS co D c with
    | none => 0
    | some e => match nbO c e with
      | none => 0
      | some q => 1 + stN co D 1299 q) = _
    rw [h1]
    dsimp only
    rw [h3]
  rw [this, stN_f hD k' q 1299 1300 h4 h5 (by omega) (by omega)]
theorem stN_z {co : Nat → Nat} {D : Nat → Option Nat} {c : Nat} (hk : D c = some 0) : stN co D 1300 c = 0 := by
  have h0 : flS co D c = none := by unfold flS; rw [hk]
  show (match flS co D c with
    | none => 0
    | some e => match nbO c e with
      | none => 0
      | some q => 1 + stN co D 1299 q) = _
  rw [h0]
def okD (D : Nat → Option Nat) : Prop := ∀ c, c < 140 → ∀ k, D c = some k → k ≤ 1251
theorem isD_ok {co : Nat → Nat} {D : Nat → Option Nat} {t : Nat} (hD : isD co t D) : okD D := fun c hc k hk => (hD.2.1 c hc k hk).2
section
variable {co : Nat → Nat} {D : Nat → Option Nat} {v : sV} {K fq a2 : Nat}
theorem di_C (hf : ∀ c, c < 140 → v (fq + 1) c = oI (D c)) {c : Nat} (hc : c < 140) : fX1_distanceOf fq (nI c) v = some (oI (D c)) := by
  unfold fX1_distanceOf
  simp (disch := omega) only [↓jM_e, li_0, li_1, li_2, li_3, li_4, li_5, li_6, li_7, li_8, li_9, li_10, li_13, li_14, li_15, li_16, li_31, li_35, li_47, li_48, li_49, li_50, li_57, li_99, li_100, li_126, li_139, li_140, li_149, li_150, li_280, li_284, li_285, li_290, li_434, li_1260, li_3472, li_9999, li_65536, nm, nm_w, sf_w, cp_w, ld_I, sa_I, nI_add, pk_mul, Nat.zero_add, nI_leI, nI_ltI, nI_eq, nI_neM, M_neI, nI_ltM, nI_nltM, M_ltI, M_leI, nI_nleM, bnd_some, if_pos, if_neg, dif_t, dif_f, hf c hc]
theorem di_CM : fX1_distanceOf fq jM v = some jM := by
  unfold fX1_distanceOf
  simp (disch := omega) only [↓jM_e, li_0, li_1, li_2, li_3, li_4, li_5, li_6, li_7, li_8, li_9, li_10, li_13, li_14, li_15, li_16, li_31, li_35, li_47, li_48, li_49, li_50, li_57, li_99, li_100, li_126, li_139, li_140, li_149, li_150, li_280, li_284, li_285, li_290, li_434, li_1260, li_3472, li_9999, li_65536, nm, nm_w, sf_w, cp_w, ld_I, sa_I, nI_add, pk_mul, Nat.zero_add, nI_leI, nI_ltI, nI_eq, nI_neM, M_neI, nI_ltM, nI_nltM, M_ltI, M_leI, nI_nleM, bnd_some, if_pos, if_neg, dif_t, dif_f]
theorem fl_C (hco : ∀ c, c < 140 → co c ≤ 9) (hcost : ∀ c, c < 140 → v a2 c = nI (co c)) (hf : ∀ c, c < 140 → v (fq + 1) c = oI (D c)) (hD : okD D) {c : Nat} (hc : c < 140) (hK : 4 < K) : fX1_flowOf K fq a2 (nI c) v = some (oI (flS co D c)) := by
  unfold fX1_flowOf
  rw [di_C hf hc, bnd_some]
  unfold flS
  cases hk : D c with
  | none => simp (disch := omega) only [↓jM_e, li_0, li_1, li_2, li_3, li_4, li_5, li_6, li_7, li_8, li_9, li_10, li_13, li_14, li_15, li_16, li_31, li_35, li_47, li_48, li_49, li_50, li_57, li_99, li_100, li_126, li_139, li_140, li_149, li_150, li_280, li_284, li_285, li_290, li_434, li_1260, li_3472, li_9999, li_65536, nm, nm_w, sf_w, cp_w, ld_I, sa_I, nI_add, pk_mul, Nat.zero_add, nI_leI, nI_ltI, nI_eq, nI_neM, M_neI, nI_ltM, nI_nltM, M_ltI, M_leI, nI_nleM, bnd_some, if_pos, if_neg, dif_t, dif_f, oI]
  | some k =>
    have hkl := hD c hc k hk
    cases k with
    | zero => simp (disch := omega) only [↓jM_e, li_0, li_1, li_2, li_3, li_4, li_5, li_6, li_7, li_8, li_9, li_10, li_13, li_14, li_15, li_16, li_31, li_35, li_47, li_48, li_49, li_50, li_57, li_99, li_100, li_126, li_139, li_140, li_149, li_150, li_280, li_284, li_285, li_290, li_434, li_1260, li_3472, li_9999, li_65536, nm, nm_w, sf_w, cp_w, ld_I, sa_I, nI_add, pk_mul, Nat.zero_add, nI_leI, nI_ltI, nI_eq, nI_neM, M_neI, nI_ltM, nI_nltM, M_ltI, M_leI, nI_nleM, bnd_some, if_pos, if_neg, dif_t, dif_f, oI]
    | succ k =>
      simp (disch := omega) only [↓jM_e, li_0, li_1, li_2, li_3, li_4, li_5, li_6, li_7, li_8, li_9, li_10, li_13, li_14, li_15, li_16, li_31, li_35, li_47, li_48, li_49, li_50, li_57, li_99, li_100, li_126, li_139, li_140, li_149, li_150, li_280, li_284, li_285, li_290, li_434, li_1260, li_3472, li_9999, li_65536, nm, nm_w, sf_w, cp_w, ld_I, sa_I, nI_add, pk_mul, Nat.zero_add, nI_leI, nI_ltI, nI_eq, nI_neM, M_neI, nI_ltM, nI_nltM, M_ltI, M_leI, nI_nleM, bnd_some, if_pos, if_neg, dif_t, dif_f, oI]
      refine fx1_go (P := fun e x => x = nI e ∧ ffI (flP co D c (k + 1)) (4 - e) e = ffI (flP co D c (k + 1)) 4 0) (Q := fun o => o = some (oI (ffI (flP co D c (k + 1)) 4 0))) (N := 4) ?_ ⟨rfl, rfl⟩ hK
      intro e x he ⟨e1, e2⟩ k15 hk15
      subst e1
      unfold gX1_flowOf_15
      by_cases he4 : e = 4
      · subst he4
        rw [← e2]
        simp (disch := omega) only [↓jM_e, li_0, li_1, li_2, li_3, li_4, li_5, li_6, li_7, li_8, li_9, li_10, li_13, li_14, li_15, li_16, li_31, li_35, li_47, li_48, li_49, li_50, li_57, li_99, li_100, li_126, li_139, li_140, li_149, li_150, li_280, li_284, li_285, li_290, li_434, li_1260, li_3472, li_9999, li_65536, nm, nm_w, sf_w, cp_w, ld_I, sa_I, nI_add, pk_mul, Nat.zero_add, nI_leI, nI_ltI, nI_eq, nI_neM, M_neI, nI_ltM, nI_nltM, M_ltI, M_leI, nI_nleM, bnd_some, if_pos, if_neg, dif_t, dif_f]
        rfl
      · have hlt : e < 4 := by omega
        rw [show 4 - e = (4 - (e + 1)) + 1 by omega] at e2
        have e2 : (if flP co D c (k + 1) e = true then some e else ffI (flP co D c (k + 1)) (4 - (e + 1)) (e + 1)) = ffI (flP co D c (k + 1)) 4 0 := e2
        have hflP : flP co D c (k + 1) e = match nbO c e with
          | none => false
          | some q => match D q with
            | none => false
            | some k' => decide (k' + co q = k + 1) := rfl
        cases hn : nbO c e with
        | none =>
          rw [hn] at hflP
          dsimp only at hflP
          rw [hflP, if_neg Bool.false_ne_true] at e2
          simp (disch := omega) only [↓jM_e, li_0, li_1, li_2, li_3, li_4, li_5, li_6, li_7, li_8, li_9, li_10, li_13, li_14, li_15, li_16, li_31, li_35, li_47, li_48, li_49, li_50, li_57, li_99, li_100, li_126, li_139, li_140, li_149, li_150, li_280, li_284, li_285, li_290, li_434, li_1260, li_3472, li_9999, li_65536, nm, nm_w, sf_w, cp_w, ld_I, sa_I, nI_add, pk_mul, Nat.zero_add, nI_leI, nI_ltI, nI_eq, nI_neM, M_neI, nI_ltM, nI_nltM, M_ltI, M_leI, nI_nleM, bnd_some, if_pos, if_neg, dif_t, dif_f, nb_C hc hlt, hn, oI, di_CM]
          exact hk15 hlt _ ⟨rfl, e2⟩
        | some q =>
          have hq2 := nb_lt hc hn
          have hcq := hco q hq2
          rw [hn] at hflP
          dsimp only at hflP
          cases hdq : D q with
          | none =>
            rw [hdq] at hflP
            dsimp only at hflP
            rw [hflP, if_neg Bool.false_ne_true] at e2
            simp (disch := omega) only [↓jM_e, li_0, li_1, li_2, li_3, li_4, li_5, li_6, li_7, li_8, li_9, li_10, li_13, li_14, li_15, li_16, li_31, li_35, li_47, li_48, li_49, li_50, li_57, li_99, li_100, li_126, li_139, li_140, li_149, li_150, li_280, li_284, li_285, li_290, li_434, li_1260, li_3472, li_9999, li_65536, nm, nm_w, sf_w, cp_w, ld_I, sa_I, nI_add, pk_mul, Nat.zero_add, nI_leI, nI_ltI, nI_eq, nI_neM, M_neI, nI_ltM, nI_nltM, M_ltI, M_leI, nI_nleM, bnd_some, if_pos, if_neg, dif_t, dif_f, nb_C hc hlt, hn, oI, di_C hf hq2, hdq]
            exact hk15 hlt _ ⟨rfl, e2⟩
          | some k' =>
            have hk' := hD q hq2 k' hdq
            rw [hdq] at hflP
            dsimp only at hflP
            by_cases hs : k' + co q = k + 1
            · rw [hflP, if_pos (decide_eq_true hs)] at e2
              simp (disch := omega) only [↓jM_e, li_0, li_1, li_2, li_3, li_4, li_5, li_6, li_7, li_8, li_9, li_10, li_13, li_14, li_15, li_16, li_31, li_35, li_47, li_48, li_49, li_50, li_57, li_99, li_100, li_126, li_139, li_140, li_149, li_150, li_280, li_284, li_285, li_290, li_434, li_1260, li_3472, li_9999, li_65536, nm, nm_w, sf_w, cp_w, ld_I, sa_I, nI_add, pk_mul, Nat.zero_add, nI_leI, nI_ltI, nI_eq, nI_neM, M_neI, nI_ltM, nI_nltM, M_ltI, M_leI, nI_nleM, bnd_some, if_pos, if_neg, dif_t, dif_f, nb_C hc hlt, hn, oI, di_C hf hq2, hdq, hcost q hq2]
              rw [← e2]
            · rw [hflP, if_neg (by rw [decide_eq_true_eq]; exact hs)] at e2
              simp (disch := omega) only [↓jM_e, li_0, li_1, li_2, li_3, li_4, li_5, li_6, li_7, li_8, li_9, li_10, li_13, li_14, li_15, li_16, li_31, li_35, li_47, li_48, li_49, li_50, li_57, li_99, li_100, li_126, li_139, li_140, li_149, li_150, li_280, li_284, li_285, li_290, li_434, li_1260, li_3472, li_9999, li_65536, nm, nm_w, sf_w, cp_w, ld_I, sa_I, nI_add, pk_mul, Nat.zero_add, nI_leI, nI_ltI, nI_eq, nI_neM, M_neI, nI_ltM, nI_nltM, M_ltI, M_leI, nI_nleM, bnd_some, if_pos, if_neg, dif_t, dif_f, nb_C hc hlt, hn, oI, di_C hf hq2, hdq, hcost q hq2]
              exact hk15 hlt _ ⟨rfl, e2⟩
theorem st_C {t : Nat} (hco : ∀ c, c < 140 → co c ≤ 9) (hcost : ∀ c, c < 140 → v a2 c = nI (co c)) (hf : ∀ c, c < 140 → v (fq + 1) c = oI (D c)) (hD : isD co t D) {c : Nat} (hc : c < 140) (hK : 140 < K) : fX1_stepsFrom K fq a2 (nI c) v = some (if (D c).isNone = true then jM else nI (stN co D 1300 c)) := by
  have hok := isD_ok hD
  unfold fX1_stepsFrom
  rw [di_C hf hc, bnd_some]
  cases hk : D c with
  | none =>
    simp (disch := omega) only [↓jM_e, li_0, li_1, li_2, li_3, li_4, li_5, li_6, li_7, li_8, li_9, li_10, li_13, li_14, li_15, li_16, li_31, li_35, li_47, li_48, li_49, li_50, li_57, li_99, li_100, li_126, li_139, li_140, li_149, li_150, li_280, li_284, li_285, li_290, li_434, li_1260, li_3472, li_9999, li_65536, nm, nm_w, sf_w, cp_w, ld_I, sa_I, nI_add, pk_mul, Nat.zero_add, nI_leI, nI_ltI, nI_eq, nI_neM, M_neI, nI_ltM, nI_nltM, M_ltI, M_leI, nI_nleM, bnd_some, if_pos, if_neg, dif_t, dif_f, oI]
    rfl
  | some k =>
    have hkl := hok c hc k hk
    simp (disch := omega) only [↓jM_e, li_0, li_1, li_2, li_3, li_4, li_5, li_6, li_7, li_8, li_9, li_10, li_13, li_14, li_15, li_16, li_31, li_35, li_47, li_48, li_49, li_50, li_57, li_99, li_100, li_126, li_139, li_140, li_149, li_150, li_280, li_284, li_285, li_290, li_434, li_1260, li_3472, li_9999, li_65536, nm, nm_w, sf_w, cp_w, ld_I, sa_I, nI_add, pk_mul, Nat.zero_add, nI_leI, nI_ltI, nI_eq, nI_neM, M_neI, nI_ltM, nI_nltM, M_ltI, M_leI, nI_nleM, bnd_some, if_pos, if_neg, dif_t, dif_f, oI]
    refine fx2_go (P := fun j x3 x4 => x3 = nI j ∧ ∃ c' k' l, x4 = nI c' ∧ c' < 140 ∧ D c' = some k' ∧ j + stN co D 1300 c' = stN co D 1300 c ∧ (c' :: l).Nodup ∧ l.length = j ∧ ∀ x ∈ l, x < 140 ∧ ∃ kx, D x = some kx ∧ k' < kx) (Q := fun o => o = some (if (some k).isNone = true then jM else nI (stN co D 1300 c))) (N := 140) ?_ ⟨rfl, c, k, [], rfl, hc, hk, Nat.zero_add _, List.nodup_cons.mpr ⟨List.not_mem_nil, List.nodup_nil⟩, rfl, fun x hx => absurd hx List.not_mem_nil⟩ hK
    intro j x3 x4 hj ⟨e3, c', k', l, e4, hc', hk', hs, hnd, hlen, hl⟩ k16 hkk
    subst e3 e4
    have hlen2 : l.length + 1 ≤ 140 := nod_len hnd (fun x hx => (List.mem_cons.mp hx).elim (fun g => g ▸ hc') (fun g => (hl x g).1))
    have hkl' := hok c' hc' k' hk'
    unfold gX1_stepsFrom_16
    cases k' with
    | zero =>
      rw [stN_z hk', Nat.add_zero] at hs
      simp (disch := omega) only [↓jM_e, li_0, li_1, li_2, li_3, li_4, li_5, li_6, li_7, li_8, li_9, li_10, li_13, li_14, li_15, li_16, li_31, li_35, li_47, li_48, li_49, li_50, li_57, li_99, li_100, li_126, li_139, li_140, li_149, li_150, li_280, li_284, li_285, li_290, li_434, li_1260, li_3472, li_9999, li_65536, nm, nm_w, sf_w, cp_w, ld_I, sa_I, nI_add, pk_mul, Nat.zero_add, nI_leI, nI_ltI, nI_eq, nI_neM, M_neI, nI_ltM, nI_nltM, M_ltI, M_leI, nI_nleM, bnd_some, if_pos, if_neg, dif_t, dif_f, di_C hf hc', hk', oI]
      rw [hs]
      rfl
    | succ k' =>
      obtain ⟨e, q, k2, h1, h2, h3, h4, h5, h6, h7⟩ := flS_some hD hc' hk'
      have hjl : j < 140 := by omega
      simp (disch := omega) only [↓jM_e, li_0, li_1, li_2, li_3, li_4, li_5, li_6, li_7, li_8, li_9, li_10, li_13, li_14, li_15, li_16, li_31, li_35, li_47, li_48, li_49, li_50, li_57, li_99, li_100, li_126, li_139, li_140, li_149, li_150, li_280, li_284, li_285, li_290, li_434, li_1260, li_3472, li_9999, li_65536, nm, nm_w, sf_w, cp_w, ld_I, sa_I, nI_add, pk_mul, Nat.zero_add, nI_leI, nI_ltI, nI_eq, nI_neM, M_neI, nI_ltM, nI_nltM, M_ltI, M_leI, nI_nleM, bnd_some, if_pos, if_neg, dif_t, dif_f, di_C hf hc', hk', oI, fl_C hco hcost hf hok hc' (show 4 < K by omega), h1, nb_C hc' h2, h3]
      refine hkk hjl _ _ ⟨rfl, q, k2, c' :: l, rfl, h4, h5, ?_, List.nodup_cons.mpr ⟨fun hm => ?_, hnd⟩, by rw [List.length_cons, hlen], fun x hx => ?_⟩
      · rw [stN_s hD hc' hk' h1 h3 h4 h5 (by omega)] at hs
        omega
      · rcases List.mem_cons.mp hm with g | g
        · rw [g, hk'] at h5
          cases h5
          omega
        · obtain ⟨-, kx, g1, g2⟩ := hl q g
          rw [h5] at g1
          cases g1
          omega
      · rcases List.mem_cons.mp hx with g | g
        · rw [g]
          exact ⟨hc', _, hk', by omega⟩
        · obtain ⟨g0, kx, g1, g2⟩ := hl x g
          exact ⟨g0, kx, g1, by omega⟩
theorem rd_C (hf : ∀ c, c < 140 → v (fq + 1) c = oI (D c)) (hD : okD D) (hK : 140 < K) : fX1_reachedCells K fq v = some (nI (cnI (fun c => (D c).isSome) 140)) := by
  unfold fX1_reachedCells
  refine fx2_go (P := fun t x1 x2 => x2 = nI t ∧ x1 = nI (cnI (fun c => (D c).isSome) t)) (Q := fun o => o = some (nI (cnI (fun c => (D c).isSome) 140))) (N := 140) ?_ ⟨rfl, rfl⟩ hK
  intro t x1 x2 ht ⟨e1, e2⟩ k hk
  subst e1 e2
  unfold gX1_reachedCells_4
  by_cases ht1 : t = 140
  · subst ht1
    simp (disch := omega) only [↓jM_e, li_0, li_1, li_2, li_3, li_4, li_5, li_6, li_7, li_8, li_9, li_10, li_13, li_14, li_15, li_16, li_31, li_35, li_47, li_48, li_49, li_50, li_57, li_99, li_100, li_126, li_139, li_140, li_149, li_150, li_280, li_284, li_285, li_290, li_434, li_1260, li_3472, li_9999, li_65536, nm, nm_w, sf_w, cp_w, ld_I, sa_I, nI_add, pk_mul, Nat.zero_add, nI_leI, nI_ltI, nI_eq, nI_neM, M_neI, nI_ltM, nI_nltM, M_ltI, M_leI, nI_nleM, bnd_some, if_pos, if_neg, dif_t, dif_f]
  · have ht2 : t < 140 := by omega
    have hs : cnI (fun c => (D c).isSome) (t + 1) = cnI (fun c => (D c).isSome) t + (if (D t).isSome = true then 1 else 0) := rfl
    have hM : (oI (D t) = jM) = (D t = none) := oI_M (fun k hk => by have := hD t ht2 k hk; omega)
    cases hx : D t with
    | none =>
      rw [hx] at hs
      simp (disch := omega) only [↓jM_e, li_0, li_1, li_2, li_3, li_4, li_5, li_6, li_7, li_8, li_9, li_10, li_13, li_14, li_15, li_16, li_31, li_35, li_47, li_48, li_49, li_50, li_57, li_99, li_100, li_126, li_139, li_140, li_149, li_150, li_280, li_284, li_285, li_290, li_434, li_1260, li_3472, li_9999, li_65536, nm, nm_w, sf_w, cp_w, ld_I, sa_I, nI_add, pk_mul, Nat.zero_add, nI_leI, nI_ltI, nI_eq, nI_neM, M_neI, nI_ltM, nI_nltM, M_ltI, M_leI, nI_nleM, bnd_some, if_pos, if_neg, dif_t, dif_f, hf t ht2, hx, oI]
      exact hk ht2 _ _ ⟨rfl, by rw [hs]; rfl⟩
    | some k' =>
      have := hD t ht2 k' hx
      rw [hx] at hs
      simp (disch := omega) only [↓jM_e, li_0, li_1, li_2, li_3, li_4, li_5, li_6, li_7, li_8, li_9, li_10, li_13, li_14, li_15, li_16, li_31, li_35, li_47, li_48, li_49, li_50, li_57, li_99, li_100, li_126, li_139, li_140, li_149, li_150, li_280, li_284, li_285, li_290, li_434, li_1260, li_3472, li_9999, li_65536, nm, nm_w, sf_w, cp_w, ld_I, sa_I, nI_add, pk_mul, Nat.zero_add, nI_leI, nI_ltI, nI_eq, nI_neM, M_neI, nI_ltM, nI_nltM, M_ltI, M_leI, nI_nleM, bnd_some, if_pos, if_neg, dif_t, dif_f, hf t ht2, hx, oI]
      exact hk ht2 _ _ ⟨rfl, by rw [hs]; rfl⟩
end
/-- the reference's side: its row and its cache -/
def mI (S : aS) (v : sV) : Prop := RelM S (v 158) ∧ cacM (coS S) v
def frM (v v' : sV) : Prop := ∀ p, p ≠ 162 → p ≠ 163 → p ≠ 164 → p ≠ 165 → v' p = v p
theorem frM.rf {v : sV} : frM v v := fun _ _ _ _ _ => rfl
theorem frM.trans {v v' v'' : sV} (h : frM v v') (h2 : frM v' v'') : frM v v'' := fun p h1 h3 h4 h5 => (h2 p h1 h3 h4 h5).trans (h p h1 h3 h4 h5)
section
variable {S : aS} {B K : Nat} {v : sV}
theorem iS_co (hI : iS B S) : ∀ c, c < 140 → coS S c ≤ 9 := fun c hc => (hI.1 c hc).2
theorem mI_cost (hI : iS B S) (h : RelM S (v 158)) : ∀ c, c < 140 → v 158 c = nI (coS S c) := fun c hc => (h.1 c hc).trans (hI.1 c hc).1
theorem far_M (hI : iS B S) (h : mI S v) {t c : Nat} (ht : t < 140) (h0 : coS S t ≠ 0) (hc : c < 140) (hK : 400000 < K) :
    ∃ v', fX7_far K (nI t) (nI c) v = some (oI (dst (coS S) t c), v') ∧ mI S v' ∧ frM v v' ∧ isD (coS S) t (dst (coS S) t) := by
  obtain ⟨v', e, h1, h2, h3⟩ := far_go (iS_co hI) (mI_cost hI h.1) h.2 ht h0 hc hK
  exact ⟨v', e, ⟨by rw [h2 158 (by decide) (by decide) (by decide) (by decide)]; exact h.1, h1⟩, h2, h3⟩
set_option maxHeartbeats 1000000 in
theorem fl_M (hI : iS B S) (h : mI S v) {t c : Nat} (ht : t < 140) (h0 : coS S t ≠ 0) (hc : c < 140) (hK : 400000 < K) :
    ∃ v', fX7_flowOf K (nI t) (nI c) v = some (oI (flS (coS S) (dst (coS S) t) c), v') ∧ mI S v' ∧ frM v v' := by
  obtain ⟨v1, e1, h1, f1, hD⟩ := far_M hI h ht h0 hc hK
  have hok := isD_ok hD
  unfold fX7_flowOf
  rw [e1, bnd_some]
  dsimp only
  unfold flS
  generalize hDD : dst (coS S) t = D at *
  have hloop : ∀ k, D c = some (k + 1) → ∃ v', fx2 (gX7_flowOf_10 K (nI t) (nI c) (nI (k + 1))) K (nI 0) v1 = some (oI (ffI (flP (coS S) D c (k + 1)) 4 0), v') ∧ mI S v' ∧ frM v v' := by
    intro k hk
    have hkl := hok c hc (k + 1) hk
    refine fx2_go (P := fun e x w => x = nI e ∧ ffI (flP (coS S) D c (k + 1)) (4 - e) e = ffI (flP (coS S) D c (k + 1)) 4 0 ∧ mI S w ∧ frM v w) (Q := fun o => ∃ v', o = some (oI (ffI (flP (coS S) D c (k + 1)) 4 0), v') ∧ mI S v' ∧ frM v v') (N := 4) ?_ ⟨rfl, rfl, h1, f1⟩ (by omega)
    intro e x w he ⟨ex, e2, hw, fw⟩ k10 hkk
    subst ex
    unfold gX7_flowOf_10
    by_cases he4 : e = 4
    · subst he4
      rw [← e2]
      simp (disch := omega) only [↓jM_e, li_0, li_1, li_2, li_3, li_4, li_5, li_6, li_7, li_8, li_9, li_10, li_13, li_14, li_15, li_16, li_31, li_35, li_47, li_48, li_49, li_50, li_57, li_99, li_100, li_126, li_139, li_140, li_149, li_150, li_280, li_284, li_285, li_290, li_434, li_1260, li_3472, li_9999, li_65536, nm, nm_w, sf_w, cp_w, ld_I, sa_I, nI_add, pk_mul, Nat.zero_add, nI_leI, nI_ltI, nI_eq, nI_neM, M_neI, nI_ltM, nI_nltM, M_ltI, M_leI, nI_nleM, bnd_some, if_pos, if_neg, dif_t, dif_f]
      exact ⟨w, rfl, hw, fw⟩
    · have hlt : e < 4 := by omega
      rw [show 4 - e = (4 - (e + 1)) + 1 by omega] at e2
      have e2 : (if flP (coS S) D c (k + 1) e = true then some e else ffI (flP (coS S) D c (k + 1)) (4 - (e + 1)) (e + 1)) = ffI (flP (coS S) D c (k + 1)) 4 0 := e2
      have hflP : flP (coS S) D c (k + 1) e = match nbO c e with
        | none => false
        | some q => match D q with
          | none => false
          | some k' => decide (k' + coS S q = k + 1) := rfl
      cases hn : nbO c e with
      | none =>
        rw [hn] at hflP
        dsimp only at hflP
        rw [hflP, if_neg Bool.false_ne_true] at e2
        simp (disch := omega) only [↓jM_e, li_0, li_1, li_2, li_3, li_4, li_5, li_6, li_7, li_8, li_9, li_10, li_13, li_14, li_15, li_16, li_31, li_35, li_47, li_48, li_49, li_50, li_57, li_99, li_100, li_126, li_139, li_140, li_149, li_150, li_280, li_284, li_285, li_290, li_434, li_1260, li_3472, li_9999, li_65536, nm, nm_w, sf_w, cp_w, ld_I, sa_I, nI_add, pk_mul, Nat.zero_add, nI_leI, nI_ltI, nI_eq, nI_neM, M_neI, nI_ltM, nI_nltM, M_ltI, M_leI, nI_nleM, bnd_some, if_pos, if_neg, dif_t, dif_f, nb_M hc hlt, hn, oI, isFree_M]
        exact hkk hlt _ _ ⟨rfl, e2, hw, fw⟩
      | some q =>
        have hq2 := nb_lt hc hn
        have hcq := iS_co hI q hq2
        rw [hn] at hflP
        dsimp only at hflP
        by_cases hz : coS S q = 0
        · have hdq : D q = none := by
            cases hdq : D q with
            | none => rfl
            | some k' => exact absurd hz (hD.2.1 q hq2 k' hdq).1
          rw [hdq] at hflP
          dsimp only at hflP
          rw [hflP, if_neg Bool.false_ne_true] at e2
          simp (disch := omega) only [↓jM_e, li_0, li_1, li_2, li_3, li_4, li_5, li_6, li_7, li_8, li_9, li_10, li_13, li_14, li_15, li_16, li_31, li_35, li_47, li_48, li_49, li_50, li_57, li_99, li_100, li_126, li_139, li_140, li_149, li_150, li_280, li_284, li_285, li_290, li_434, li_1260, li_3472, li_9999, li_65536, nm, nm_w, sf_w, cp_w, ld_I, sa_I, nI_add, pk_mul, Nat.zero_add, nI_leI, nI_ltI, nI_eq, nI_neM, M_neI, nI_ltM, nI_nltM, M_ltI, M_leI, nI_nleM, bnd_some, if_pos, if_neg, dif_t, dif_f, nb_M hc hlt, hn, oI, if_M hw.1 hI hq2, if_pos hz]
          exact hkk hlt _ _ ⟨rfl, e2, hw, fw⟩
        · obtain ⟨w2, e3, hw2, fw2, -⟩ := far_M hI hw ht h0 hq2 hK
          obtain ⟨w3, e4, hw3, fw3, -⟩ := far_M hI hw2 ht h0 hq2 hK
          rw [hDD] at e3 e4
          have ec := mI_cost hI hw3.1 q hq2
          cases hdq : D q with
          | none =>
            rw [hdq] at hflP e3
            dsimp only at hflP
            rw [hflP, if_neg Bool.false_ne_true] at e2
            simp (disch := omega) only [↓jM_e, li_0, li_1, li_2, li_3, li_4, li_5, li_6, li_7, li_8, li_9, li_10, li_13, li_14, li_15, li_16, li_31, li_35, li_47, li_48, li_49, li_50, li_57, li_99, li_100, li_126, li_139, li_140, li_149, li_150, li_280, li_284, li_285, li_290, li_434, li_1260, li_3472, li_9999, li_65536, nm, nm_w, sf_w, cp_w, ld_I, sa_I, nI_add, pk_mul, Nat.zero_add, nI_leI, nI_ltI, nI_eq, nI_neM, M_neI, nI_ltM, nI_nltM, M_ltI, M_leI, nI_nleM, bnd_some, if_pos, if_neg, dif_t, dif_f, nb_M hc hlt, hn, oI, if_M hw.1 hI hq2, if_neg hz, e3, show (jM < nI 0) = True from by decide]
            exact hkk hlt _ _ ⟨rfl, e2, hw2, fw.trans fw2⟩
          | some k' =>
            have hk' := hok q hq2 k' hdq
            rw [hdq] at hflP e3 e4
            dsimp only at hflP
            by_cases hs : k' + coS S q = k + 1
            · rw [hflP, if_pos (decide_eq_true hs)] at e2
              simp (disch := omega) only [↓jM_e, li_0, li_1, li_2, li_3, li_4, li_5, li_6, li_7, li_8, li_9, li_10, li_13, li_14, li_15, li_16, li_31, li_35, li_47, li_48, li_49, li_50, li_57, li_99, li_100, li_126, li_139, li_140, li_149, li_150, li_280, li_284, li_285, li_290, li_434, li_1260, li_3472, li_9999, li_65536, nm, nm_w, sf_w, cp_w, ld_I, sa_I, nI_add, pk_mul, Nat.zero_add, nI_leI, nI_ltI, nI_eq, nI_neM, M_neI, nI_ltM, nI_nltM, M_ltI, M_leI, nI_nleM, bnd_some, if_pos, if_neg, dif_t, dif_f, nb_M hc hlt, hn, oI, if_M hw.1 hI hq2, if_neg hz, e3, e4, ec]
              rw [← e2]
              exact ⟨w3, rfl, hw3, (fw.trans fw2).trans fw3⟩
            · rw [hflP, if_neg (by rw [decide_eq_true_eq]; exact hs)] at e2
              simp (disch := omega) only [↓jM_e, li_0, li_1, li_2, li_3, li_4, li_5, li_6, li_7, li_8, li_9, li_10, li_13, li_14, li_15, li_16, li_31, li_35, li_47, li_48, li_49, li_50, li_57, li_99, li_100, li_126, li_139, li_140, li_149, li_150, li_280, li_284, li_285, li_290, li_434, li_1260, li_3472, li_9999, li_65536, nm, nm_w, sf_w, cp_w, ld_I, sa_I, nI_add, pk_mul, Nat.zero_add, nI_leI, nI_ltI, nI_eq, nI_neM, M_neI, nI_ltM, nI_nltM, M_ltI, M_leI, nI_nleM, bnd_some, if_pos, if_neg, dif_t, dif_f, nb_M hc hlt, hn, oI, if_M hw.1 hI hq2, if_neg hz, e3, e4, ec]
              exact hkk hlt _ _ ⟨rfl, e2, hw3, (fw.trans fw2).trans fw3⟩
  have hstop : ∀ x3 : Int32, x3 ≤ nI 0 → ∃ v', fx2 (gX7_flowOf_10 K (nI t) (nI c) x3) K (nI 0) v1 = some (jM, v') ∧ mI S v' ∧ frM v v' := by
    intro x3 hx3
    refine fx2_go (P := fun _ x w => x = nI 0 ∧ mI S w ∧ frM v w) (Q := fun o => ∃ v', o = some (jM, v') ∧ mI S v' ∧ frM v v') (N := 1) ?_ ⟨rfl, h1, f1⟩ (by omega)
    intro e x w he ⟨ex, hw, fw⟩ k10 hkk
    subst ex
    unfold gX7_flowOf_10
    simp (disch := omega) only [↓jM_e, li_0, li_1, li_2, li_3, li_4, li_5, li_6, li_7, li_8, li_9, li_10, li_13, li_14, li_15, li_16, li_31, li_35, li_47, li_48, li_49, li_50, li_57, li_99, li_100, li_126, li_139, li_140, li_149, li_150, li_280, li_284, li_285, li_290, li_434, li_1260, li_3472, li_9999, li_65536, nm, nm_w, sf_w, cp_w, ld_I, sa_I, nI_add, pk_mul, Nat.zero_add, nI_leI, nI_ltI, nI_eq, nI_neM, M_neI, nI_ltM, nI_nltM, M_ltI, M_leI, nI_nleM, bnd_some, if_pos, if_neg, dif_t, dif_f, if_pos hx3]
    exact ⟨w, rfl, hw, fw⟩
  cases hk : D c with
  | none => exact hstop jM (by decide)
  | some k =>
    cases k with
    | zero => exact hstop (nI 0) (by decide)
    | succ k => exact hloop k hk
/-- the reference's walk along the flow -/
theorem st_M (hI : iS B S) (h : mI S v) {t c k : Nat} (ht : t < 140) (h0 : coS S t ≠ 0) (hc : c < 140) (hk : dst (coS S) t c = some k) (hK : 400000 < K) :
    ∃ v', fx3 (gX7_steps_55 K (nI t)) K (nI c) (nI 0) v = some (nI (stN (coS S) (dst (coS S) t) 1300 c), v') ∧ mI S v' ∧ frM v v' := by
  have hD := (far_M hI h ht h0 hc hK).choose_spec.2.2.2
  refine fx3_go (P := fun j x4 x6 w => x6 = nI j ∧ ∃ c' k', x4 = nI c' ∧ c' < 140 ∧ dst (coS S) t c' = some k' ∧ j + k' ≤ 1300 ∧ j + stN (coS S) (dst (coS S) t) 1300 c' = stN (coS S) (dst (coS S) t) 1300 c ∧ mI S w ∧ frM v w) (Q := fun o => ∃ v', o = some (nI (stN (coS S) (dst (coS S) t) 1300 c), v') ∧ mI S v' ∧ frM v v') (N := 1300) ?_ ⟨rfl, c, k, rfl, hc, hk, by have := (hD.2.1 c hc k hk).2; omega, Nat.zero_add _, h, frM.rf⟩ (by omega)
  intro j x4 x6 w hj ⟨e6, c', k', e4, hc', hk', hb, hs, hw, fw⟩ k55 hkk
  subst e6 e4
  unfold gX7_steps_55
  by_cases hct : c' = t
  · subst hct
    rw [hD.1] at hk'
    cases hk'
    rw [stN_z hD.1, Nat.add_zero] at hs
    rw [if_pos rfl, hs]
    exact ⟨w, rfl, hw, fw⟩
  · cases k' with
    | zero => exact absurd (isD_0 hD hc' hk') hct
    | succ k' =>
      obtain ⟨e, q, k2, h1, h2, h3, h4, h5, h6, h7⟩ := flS_some hD hc' hk'
      obtain ⟨w2, e2, hw2, fw2⟩ := fl_M hI hw ht h0 hc' hK
      simp (disch := omega) only [↓jM_e, li_0, li_1, li_2, li_3, li_4, li_5, li_6, li_7, li_8, li_9, li_10, li_13, li_14, li_15, li_16, li_31, li_35, li_47, li_48, li_49, li_50, li_57, li_99, li_100, li_126, li_139, li_140, li_149, li_150, li_280, li_284, li_285, li_290, li_434, li_1260, li_3472, li_9999, li_65536, nm, nm_w, sf_w, cp_w, ld_I, sa_I, nI_add, pk_mul, Nat.zero_add, nI_leI, nI_ltI, nI_eq, nI_neM, M_neI, nI_ltM, nI_nltM, M_ltI, M_leI, nI_nleM, bnd_some, if_pos, if_neg, dif_t, dif_f, e2, h1, oI, nb_M hc' h2, h3]
      refine hkk (by omega) _ _ _ ⟨rfl, q, k2, rfl, h4, h5, by omega, ?_, hw2, fw.trans fw2⟩
      rw [stN_s hD hc' hk' h1 h3 h4 h5 (by omega)] at hs
      omega
end
