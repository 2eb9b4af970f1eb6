/-! THE REFERENCE'S DISTANCES: a queue -/
/-- d: the labels; q: the cells that wait; p: the cell whose neighbors are looked at, up to the direction e -/
def qM (co : Nat → Nat) (t : Nat) (d : Nat → Option Nat) (q : List Nat) (ex : Nat → Nat → Prop) : Prop :=
  d t = some 0 ∧ (∀ c, c < 140 → ∀ k, d c = some k → co c ≠ 0 ∧ k + 9 ≤ 9 * nLb d) ∧
  (∀ c, c < 140 → ∀ k, d c = some k → c ∉ q → ∀ e, e < 4 → ex c e ∨ clD co d c k e) ∧
  (∀ c, c < 140 → ∀ k, d c = some k → c = t ∨ ∃ e q k', e < 4 ∧ nbO c e = some q ∧ d q = some k' ∧ k' + co q ≤ k) ∧
  q.Nodup ∧ (∀ c, c ∈ q → c < 140 ∧ ∃ k, d c = some k)
theorem cnI_same {P P' : Nat → Bool} {N : Nat} (h : ∀ t, t < N → P t = P' t) : cnI P N = cnI P' N := cnI_c h
theorem nLb_same {d : Nat → Option Nat} {q k : Nat} {k0 : Nat} (hq : d q = some k0) : nLb (fun c => if c = q then some k else d c) = nLb d := by
  refine cnI_c (fun t _ => ?_)
  by_cases ht : t = q
  · simp [ht, hq]
  · simp [ht]
theorem nLb_le {d : Nat → Option Nat} {q k : Nat} (h : q < 140) : nLb d ≤ nLb (fun c => if c = q then some k else d c) := by
  cases hq : d q with
  | none => rw [nLb_up hq h]; omega
  | some k0 => rw [nLb_same hq]; exact Nat.le_refl _
/-- a label that became less (or is new), the cell set to wait if it isn't -/
theorem qM_label {co : Nat → Nat} {t : Nat} {d : Nat → Option Nat} {q q' : List Nat} {ex : Nat → Nat → Prop} {c k e n : Nat} (hco : ∀ c, c < 140 → co c ≤ 9) (h : qM co t d q ex) (hc : c < 140) (hk : d c = some k) (he : e < 4) (hn : nbO c e = some n) (hn0 : co n ≠ 0) (hl : ∀ k', d n = some k' → k + co c < k') (hnc : n ≠ t) (hq' : q'.Nodup ∧ ∀ x, x ∈ q' ↔ (x = n ∨ x ∈ q)) :
    qM co t (fun j => if j = n then some (k + co c) else d j) q' ex := by
  obtain ⟨h1, h2, h3, h4, h5, h6⟩ := h
  have hn2 := nb_lt hc hn
  have hup := nLb_le (d := d) (q := n) (k := k + co c) hn2
  have hless : ∀ j k', d j = some k' → ∃ k'', (if j = n then some (k + co c) else d j) = some k'' ∧ k'' ≤ k' := by
    intro j k' hj
    by_cases hjn : j = n
    · rw [if_pos hjn]
      subst hjn
      exact ⟨_, rfl, by have := hl k' hj; omega⟩
    · rw [if_neg hjn]
      exact ⟨k', hj, Nat.le_refl _⟩
  have hkeep : ∀ j, j ≠ n → (if j = n then some (k + co c) else d j) = d j := fun j hj => if_neg hj
  refine ⟨?_, fun c' hc' k' hk' => ?_, fun c' hc' k' hk' hq e' he' => ?_, fun c' hc' k' hk' => ?_, hq'.1, fun c' hc' => ?_⟩
  · show (if t = n then some (k + co c) else d t) = some 0
    rw [if_neg (fun e => hnc e.symm)]
    exact h1
  · have hk' : (if c' = n then some (k + co c) else d c') = some k' := hk'
    by_cases hcn : c' = n
    · rw [if_pos hcn] at hk'
      cases hk'
      subst hcn
      have g := (h2 c hc k hk).2
      have g2 := hco c hc
      refine ⟨hn0, ?_⟩
      cases hd : d c' with
      | none => rw [nLb_up hd hn2]; omega
      | some k0 =>
        rw [nLb_same hd]
        have := (h2 c' hn2 k0 hd).2
        have := hl k0 hd
        omega
    · rw [if_neg hcn] at hk'
      obtain ⟨g1, g2⟩ := h2 c' hc' k' hk'
      exact ⟨g1, by omega⟩
  · have hk' : (if c' = n then some (k + co c) else d c') = some k' := hk'
    have hcn : c' ≠ n := fun e => hq ((hq'.2 c').mpr (Or.inl e))
    rw [if_neg hcn] at hk'
    rcases h3 c' hc' k' hk' (fun hm => hq ((hq'.2 c').mpr (Or.inr hm))) e' he' with g | g
    · exact Or.inl g
    · refine Or.inr (fun x hx h0 => ?_)
      obtain ⟨k1, g1, g2⟩ := g x hx h0
      obtain ⟨k2, g3, g4⟩ := hless x k1 g1
      exact ⟨k2, g3, by omega⟩
  · have hk' : (if c' = n then some (k + co c) else d c') = some k' := hk'
    by_cases hcn : c' = n
    · rw [if_pos hcn] at hk'
      cases hk'
      subst hcn
      obtain ⟨e', he', hb⟩ := nb_back hc he hn
      obtain ⟨k2, g3, g4⟩ := hless c k hk
      exact Or.inr ⟨e', c, k2, he', hb, g3, by omega⟩
    · rw [if_neg hcn] at hk'
      rcases h4 c' hc' k' hk' with g | ⟨e', x, k1, g1, g2, g3, g4⟩
      · exact Or.inl g
      · obtain ⟨k2, g5, g6⟩ := hless x k1 g3
        exact Or.inr ⟨e', x, k2, g1, g2, g5, by omega⟩
  · rcases (hq'.2 c').mp hc' with g | g
    · subst g
      exact ⟨hn2, _, if_pos rfl⟩
    · obtain ⟨g1, k1, g2⟩ := h6 c' g
      obtain ⟨k2, g3, -⟩ := hless c' k1 g2
      exact ⟨g1, k2, g3⟩
theorem qM_done {co : Nat → Nat} {t : Nat} {d : Nat → Option Nat} (h : qM co t d [] (fun _ _ => False)) : isD co t d := by
  obtain ⟨h1, h2, h3, h4, h5, h6⟩ := h
  have hN : nLb d ≤ 140 := cnI_le
  refine ⟨h1, fun c hc k hk => ?_, fun c hc k e q he hk hq h0 => ?_, fun c hc k hk => ?_⟩
  · obtain ⟨g1, g2⟩ := h2 c hc k hk
    exact ⟨g1, by omega⟩
  · rcases h3 c hc k hk List.not_mem_nil e he with g | g
    · exact g.elim
    · exact g q hq h0
  · rcases h4 c hc k hk with g | ⟨e, q, k', g1, g2, g3, g4⟩
    · exact Or.inl g
    · have hq2 := nb_lt hc g2
      obtain ⟨e', he', hb⟩ := nb_back hc g1 g2
      rcases h3 q hq2 k' g3 List.not_mem_nil e' he' with g5 | g5
      · exact g5.elim
      · obtain ⟨k2, g6, g7⟩ := g5 c hb (h2 c hc k hk).1
        rw [hk] at g6
        cases g6
        exact Or.inr ⟨e, q, k', g1, g2, g3, by omega⟩
/-- what is left to do: the labels' sum, twice, and how many wait -/
def sdL (d : Nat → Option Nat) : Nat → Nat
  | 0 => 0
  | c + 1 => sdL d c + (match d c with | some k => k | none => 1300)
theorem sdL_up {d : Nat → Option Nat} {n k : Nat} (hk : k ≤ 1299) (hl : ∀ k', d n = some k' → k < k') : ∀ {N : Nat}, n < N → sdL (fun j => if j = n then some k else d j) N + 1 ≤ sdL d N
  | 0, h => absurd h (Nat.not_lt_zero n)
  | N + 1, h => by
    have hs : ∀ {N : Nat}, N ≤ n → sdL (fun j => if j = n then some k else d j) N = sdL d N := by
      intro N
      induction N with
      | zero => exact fun _ => rfl
      | succ N ih =>
        intro hN
        show sdL (fun j => if j = n then some k else d j) N + (match (if N = n then some k else d N) with | some k => k | none => 1300) = sdL d N + (match d N with | some k => k | none => 1300)
        rw [ih (by omega), if_neg (by omega)]
    show sdL (fun j => if j = n then some k else d j) N + (match (if N = n then some k else d N) with | some k => k | none => 1300) + 1 ≤ sdL d N + (match d N with | some k => k | none => 1300)
    by_cases hN : N = n
    · subst hN
      rw [hs (Nat.le_refl _), if_pos rfl]
      cases hd : d N with
      | none => show sdL d N + k + 1 ≤ sdL d N + 1300; omega
      | some k' => have := hl k' hd; show sdL d N + k + 1 ≤ sdL d N + k'; omega
    · have := sdL_up (N := N) hk hl (by omega)
      rw [if_neg hN]
      omega
theorem sdL_le {d : Nat → Option Nat} {N : Nat} (h : ∀ c, c < N → ∀ k, d c = some k → k ≤ 1300) : sdL d N ≤ 1300 * N := by
  induction N with
  | zero => exact Nat.le_refl _
  | succ N ih =>
    have g := ih (fun c hc => h c (by omega))
    show sdL d N + (match d N with | some k => k | none => 1300) ≤ _
    cases hd : d N with
    | none => show sdL d N + 1300 ≤ _; omega
    | some k => have := h N (by omega) k hd; show sdL d N + k ≤ _; omega
/-- the rows that hold it -/
def qV (co : Nat → Nat) (t : Nat) (v0 v : sV) (d : Nat → Option Nat) (q : List Nat) (from' : Nat) : Prop :=
  (∀ p, p ≠ 162 → p ≠ 163 → p ≠ 165 → v p = v0 p) ∧ (∀ j, (j < 140 * t ∨ 140 * t + 140 ≤ j) → v 162 j = v0 162 j) ∧ (∀ c, c < 140 → v 162 (140 * t + c) = oI (d c)) ∧
  (∀ j (hj : j < q.length), v 163 ((from' + j) % 140) = nI q[j]) ∧ ∀ c, c < 140 → c ≠ t → v 165 c = if c ∈ q then nI 1 else nI 0
theorem isFree_I {v : sV} {c : Nat} (hc : c < 140) : fX7_isFree (nI c) v = some (if v 158 c ≤ nI 0 then nI 0 else nI 1) := by
  unfold fX7_isFree
  simp (disch := omega) only [↓jM_e, li_0, li_1, li_2, li_3, li_4, li_5, li_6, li_7, li_8, li_9, li_10, li_13, li_14, li_15, li_16, li_31, li_35, li_47, li_48, li_49, li_50, li_57, li_99, li_100, li_126, li_139, li_140, li_149, li_150, li_280, li_284, li_285, li_290, li_434, li_1260, li_3472, li_9999, li_65536, nm, nm_w, sf_w, cp_w, ld_I, sa_I, nI_add, pk_mul, Nat.zero_add, nI_leI, nI_ltI, nI_eq, nI_neM, M_neI, nI_ltM, nI_nltM, M_ltI, M_leI, nI_nleM, bnd_some, if_pos, if_neg, dif_t, dif_f]
  by_cases h : v 158 c ≤ nI 0
  · simp only [if_pos h]
  · simp only [if_neg h]
theorem isFree_M {v : sV} : fX7_isFree jM v = some (nI 0) := by
  unfold fX7_isFree
  simp (disch := omega) only [↓jM_e, li_0, li_1, li_2, li_3, li_4, li_5, li_6, li_7, li_8, li_9, li_10, li_13, li_14, li_15, li_16, li_31, li_35, li_47, li_48, li_49, li_50, li_57, li_99, li_100, li_126, li_139, li_140, li_149, li_150, li_280, li_284, li_285, li_290, li_434, li_1260, li_3472, li_9999, li_65536, nm, nm_w, sf_w, cp_w, ld_I, sa_I, nI_add, pk_mul, Nat.zero_add, nI_leI, nI_ltI, nI_eq, nI_neM, M_neI, nI_ltM, nI_nltM, M_ltI, M_leI, nI_nleM, bnd_some, if_pos, if_neg, dif_t, dif_f]
theorem qV_push {co : Nat → Nat} {t : Nat} {v0 v : sV} {d : Nat → Option Nat} {q : List Nat} {from' n k : Nat} (h : qV co t v0 v d q from') (hn : n < 140) (hm : n ∉ q) (hl : q.length < 140) :
    qV co t v0 (s2 (s2 (s2 v 162 (140 * t + n) (nI k)) 163 ((from' + q.length) % 140) (nI n)) 165 n (nI 1)) (fun j => if j = n then some k else d j) (q ++ [n]) from' := by
  obtain ⟨h1, h2, h3, h4, h5⟩ := h
  refine ⟨fun p g1 g2 g3 => ?_, fun j hj => ?_, fun c hc => ?_, fun j hj => ?_, fun c hc hct => ?_⟩
  · rw [s2_ne g3, s2_ne g2, s2_ne g1]; exact h1 p g1 g2 g3
  · rw [s2_p (by decide), s2_p (by decide), s2_j (by omega)]; exact h2 j hj
  · rw [s2_p (by decide), s2_p (by decide)]
    by_cases hcn : c = n
    · subst hcn
      rw [s2_i]
      dsimp only
      rw [if_pos rfl]
      rfl
    · rw [s2_j (by omega)]
      dsimp only
      rw [if_neg hcn]
      exact h3 c hc
  · rw [s2_p (by decide)]
    have hlen : (q ++ [n]).length = q.length + 1 := by rw [List.length_append]; rfl
    by_cases hjl : j = q.length
    · subst hjl
      rw [s2_i]
      simp
    · have hj2 : j < q.length := by omega
      rw [s2_j (by omega), s2_p (by decide), h4 j hj2, List.getElem_append_left hj2]
  · by_cases hcn : c = n
    · subst hcn
      rw [s2_i, if_pos (by simp)]
    · rw [s2_j hcn, s2_p (by decide), s2_p (by decide), h5 c hc hct]
      by_cases hcq : c ∈ q
      · rw [if_pos hcq, if_pos (by simp [hcq])]
      · rw [if_neg hcq, if_neg (by simp [hcq, hcn])]
theorem qV_less {co : Nat → Nat} {t : Nat} {v0 v : sV} {d : Nat → Option Nat} {q : List Nat} {from' n k : Nat} (h : qV co t v0 v d q from') (hn : n < 140) :
    qV co t v0 (s2 v 162 (140 * t + n) (nI k)) (fun j => if j = n then some k else d j) q from' := by
  obtain ⟨h1, h2, h3, h4, h5⟩ := h
  refine ⟨fun p g1 g2 g3 => ?_, fun j hj => ?_, fun c hc => ?_, fun j hj => ?_, fun c hc hct => ?_⟩
  · rw [s2_ne g1]; exact h1 p g1 g2 g3
  · rw [s2_j (by omega)]; exact h2 j hj
  · by_cases hcn : c = n
    · subst hcn
      rw [s2_i]
      dsimp only
      rw [if_pos rfl]
      rfl
    · rw [s2_j (by omega)]
      dsimp only
      rw [if_neg hcn]
      exact h3 c hc
  · rw [s2_p (by decide)]; exact h4 j hj
  · rw [s2_p (by decide)]; exact h5 c hc hct
section
variable {co : Nat → Nat} {t : Nat} {v0 : sV} {K : Nat} {k59 : Int32 → Int32 → sV → Option sV} {Q : Option sV → Prop} {d : Nat → Option Nat} {q : List Nat} {v : sV}
set_option maxHeartbeats 2000000 in
theorem ms_in {p k m fr : Nat} (hfr : fr < 140) (hco : ∀ c, c < 140 → co c ≤ 9) (hcost : ∀ c, c < 140 → v0 158 c = nI (co c)) (ht : t < 140) (hp : p < 140) (hK : 4 < K)
    (hQ : ∀ d q v, qM co t d q (fun _ _ => False) → qV co t v0 v d q fr → 2 * sdL d 140 + q.length ≤ m → Q (k59 (nI fr) (nI q.length) v))
    (h1 : qM co t d q (fun c _ => c = p)) (h2 : qV co t v0 v d q fr) (h3 : d p = some k) (h4 : 2 * sdL d 140 + q.length ≤ m) : Q (fx3 (gX7_measures_118 K k59 (nI t) (nI fr) (nI p) (nI (k + co p))) K (nI q.length) (nI 0) v) := by
  refine fx3_go (P := fun e x3 x6 v => x6 = nI e ∧ ∃ d q, x3 = nI q.length ∧ qM co t d q (fun c e' => c = p ∧ e ≤ e') ∧ qV co t v0 v d q fr ∧ d p = some k ∧ 2 * sdL d 140 + q.length ≤ m) (Q := Q) (N := 4) ?_ ⟨rfl, d, q, rfl, ?_, h2, h3, h4⟩ hK
  · intro e x3 x6 v he ⟨e6, d, q, e3, h1, h2, h3, h4⟩ k118 hk
    subst e6 e3
    by_cases he4 : e = 4
    · subst he4
      unfold gX7_measures_118
      simp (disch := omega) only [↓jM_e, li_0, li_1, li_2, li_3, li_4, li_5, li_6, li_7, li_8, li_9, li_10, li_13, li_14, li_15, li_16, li_31, li_35, li_47, li_48, li_49, li_50, li_57, li_99, li_100, li_126, li_139, li_140, li_149, li_150, li_280, li_284, li_285, li_290, li_434, li_1260, li_3472, li_9999, li_65536, nm, nm_w, sf_w, cp_w, ld_I, sa_I, nI_add, pk_mul, Nat.zero_add, nI_leI, nI_ltI, nI_eq, nI_neM, M_neI, nI_ltM, nI_nltM, M_ltI, M_leI, nI_nleM, bnd_some, if_pos, if_neg, dif_t, dif_f]
      refine hQ d q v ⟨h1.1, h1.2.1, fun c hc k hk hq e he => ?_, h1.2.2.2⟩ h2 h4
      rcases h1.2.2.1 c hc k hk hq e he with g | g
      · exact absurd g.2 (by omega)
      · exact Or.inr g
    · have hlt : e < 4 := by omega
      have hql : q.length ≤ 140 := nod_len h1.2.2.2.2.1 (fun x hx => (h1.2.2.2.2.2 x hx).1)
      have hN : nLb d ≤ 140 := cnI_le
      have hpk := h1.2.1 p hp k h3
      have hcp := hco p hp
      have hstep : ∀ d' q', qM co t d' q' (fun c e' => c = p ∧ e ≤ e') → (∀ k', d' p = some k' → clD co d' p k' e) → qM co t d' q' (fun c e' => c = p ∧ e + 1 ≤ e') := by
        intro d' q' h hcl
        refine ⟨h.1, h.2.1, fun c hc k hk hq e' he' => ?_, h.2.2.2⟩
        rcases h.2.2.1 c hc k hk hq e' he' with g | g
        · by_cases hee : e' = e
          · rw [hee, g.1]
            rw [g.1] at hk
            exact Or.inr (hcl k hk)
          · exact Or.inl ⟨g.1, by omega⟩
        · exact Or.inr g
      cases hn : nbO p e with
      | none =>
        unfold gX7_measures_118
        simp (disch := omega) only [↓jM_e, li_0, li_1, li_2, li_3, li_4, li_5, li_6, li_7, li_8, li_9, li_10, li_13, li_14, li_15, li_16, li_31, li_35, li_47, li_48, li_49, li_50, li_57, li_99, li_100, li_126, li_139, li_140, li_149, li_150, li_280, li_284, li_285, li_290, li_434, li_1260, li_3472, li_9999, li_65536, nm, nm_w, sf_w, cp_w, ld_I, sa_I, nI_add, pk_mul, Nat.zero_add, nI_leI, nI_ltI, nI_eq, nI_neM, M_neI, nI_ltM, nI_nltM, M_ltI, M_leI, nI_nleM, bnd_some, if_pos, if_neg, dif_t, dif_f, nb_M hp hlt, hn, oI, isFree_M]
        exact hk hlt _ _ _ ⟨rfl, d, q, rfl, hstep d q h1 (fun k' _ x hx => by rw [hn] at hx; cases hx), h2, h3, h4⟩
      | some n =>
        have hn2 := nb_lt hp hn
        have hcn := hco n hn2
        have ecn : v 158 n = nI (co n) := by rw [h2.1 158 (by decide) (by decide) (by decide)]; exact hcost n hn2
        by_cases h0 : co n = 0
        · unfold gX7_measures_118
          simp (disch := omega) only [↓jM_e, li_0, li_1, li_2, li_3, li_4, li_5, li_6, li_7, li_8, li_9, li_10, li_13, li_14, li_15, li_16, li_31, li_35, li_47, li_48, li_49, li_50, li_57, li_99, li_100, li_126, li_139, li_140, li_149, li_150, li_280, li_284, li_285, li_290, li_434, li_1260, li_3472, li_9999, li_65536, nm, nm_w, sf_w, cp_w, ld_I, sa_I, nI_add, pk_mul, Nat.zero_add, nI_leI, nI_ltI, nI_eq, nI_neM, M_neI, nI_ltM, nI_nltM, M_ltI, M_leI, nI_nleM, bnd_some, if_pos, if_neg, dif_t, dif_f, nb_M hp hlt, hn, oI, isFree_I hn2, ecn]
          exact hk hlt _ _ _ ⟨rfl, d, q, rfl, hstep d q h1 (fun k' _ x hx hx0 => by rw [hn] at hx; cases hx; exact absurd h0 hx0), h2, h3, h4⟩
        · have hi : 140 * t + n < 19600 := by omega
          have edn : v 162 (140 * t + n) = oI (d n) := h2.2.2.1 n hn2
          have hfull : (∀ k', d n = some k' → k + co p < k') → Q (bX7_measures_172 K k59 k118 (nI t) (nI fr) (nI q.length) (nI p) (nI (k + co p)) (nI e) (nI n) v) := by
            intro hl
            have hnt : n ≠ t := by
              intro e
              have := hl 0 (by rw [e]; exact h1.1)
              omega
            have hs := sdL_up (d := d) (n := n) (k := k + co p) (N := 140) (by omega) hl hn2
            have hnp : n ≠ p := nb_ne hn
            have e15 : s2 v 162 (140 * t + n) (nI (k + co p)) 165 n = if n ∈ q then nI 1 else nI 0 := by rw [s2_p (by decide)]; exact h2.2.2.2.2 n hn2 hnt
            have hcl : ∀ k', (if p = n then some (k + co p) else d p) = some k' → clD co (fun j => if j = n then some (k + co p) else d j) p k' e := by
              intro k' hk' x hx _
              rw [if_neg hnp.symm, h3] at hk'
              cases hk'
              rw [hn] at hx
              cases hx
              exact ⟨k + co p, if_pos rfl, Nat.le_refl _⟩
            have h3' : (if p = n then some (k + co p) else d p) = some k := by rw [if_neg hnp.symm]; exact h3
            by_cases hm : n ∈ q
            · rw [if_pos hm] at e15
              unfold bX7_measures_172
              simp (disch := omega) only [↓jM_e, li_0, li_1, li_2, li_3, li_4, li_5, li_6, li_7, li_8, li_9, li_10, li_13, li_14, li_15, li_16, li_31, li_35, li_47, li_48, li_49, li_50, li_57, li_99, li_100, li_126, li_139, li_140, li_149, li_150, li_280, li_284, li_285, li_290, li_434, li_1260, li_3472, li_9999, li_65536, nm, nm_w, sf_w, cp_w, ld_I, sa_I, nI_add, pk_mul, Nat.zero_add, nI_leI, nI_ltI, nI_eq, nI_neM, M_neI, nI_ltM, nI_nltM, M_ltI, M_leI, nI_nleM, bnd_some, if_pos, if_neg, dif_t, dif_f, e15]
              exact hk hlt _ _ _ ⟨rfl, _, q, rfl, hstep _ _ (qM_label hco h1 hp h3 hlt hn h0 hl hnt ⟨h1.2.2.2.2.1, fun x => ⟨Or.inr, fun g => g.elim (fun g => g ▸ hm) id⟩⟩) hcl, qV_less h2 hn2, h3', by omega⟩
            · rw [if_neg hm] at e15
              have hql2 : q.length < 140 := by
                have := nod_len (n := 140) (l := n :: q) (List.nodup_cons.mpr ⟨hm, h1.2.2.2.2.1⟩) (fun x hx => (List.mem_cons.mp hx).elim (fun g => g ▸ hn2) (fun g => (h1.2.2.2.2.2 x g).1))
                exact this
              have erem : nI (fr + q.length) - nI (fr + q.length) / nI 140 * nI 140 = nI ((fr + q.length) % 140) := pk_rem (by omega) (by decide) (by decide)
              have hlt2 : (fr + q.length) % 140 < 140 := Nat.mod_lt _ (by decide)
              unfold bX7_measures_172
              simp (disch := omega) only [↓jM_e, li_0, li_1, li_2, li_3, li_4, li_5, li_6, li_7, li_8, li_9, li_10, li_13, li_14, li_15, li_16, li_31, li_35, li_47, li_48, li_49, li_50, li_57, li_99, li_100, li_126, li_139, li_140, li_149, li_150, li_280, li_284, li_285, li_290, li_434, li_1260, li_3472, li_9999, li_65536, nm, nm_w, sf_w, cp_w, ld_I, sa_I, nI_add, pk_mul, Nat.zero_add, nI_leI, nI_ltI, nI_eq, nI_neM, M_neI, nI_ltM, nI_nltM, M_ltI, M_leI, nI_nleM, bnd_some, if_pos, if_neg, dif_t, dif_f, e15, erem]
              refine hk hlt _ _ _ ⟨rfl, _, q ++ [n], ?_, hstep _ _ (qM_label hco h1 hp h3 hlt hn h0 hl hnt ⟨?_, fun x => ?_⟩) hcl, qV_push h2 hn2 hm hql2, h3', ?_⟩
              · rw [List.length_append]; rfl
              · exact List.nodup_append.mpr ⟨h1.2.2.2.2.1, List.nodup_cons.mpr ⟨List.not_mem_nil, List.nodup_nil⟩, fun a ha b hb e => hm (by rw [← List.mem_singleton.mp hb, ← e]; exact ha)⟩
              · rw [List.mem_append, List.mem_singleton]
                exact Or.comm
              · rw [List.length_append]
                have : ([n] : List Nat).length = 1 := rfl
                omega
          cases hd : d n with
          | none =>
            rw [hd] at edn
            have edn : v 162 (140 * t + n) = jM := edn
            unfold gX7_measures_118
            simp (disch := omega) only [↓jM_e, li_0, li_1, li_2, li_3, li_4, li_5, li_6, li_7, li_8, li_9, li_10, li_13, li_14, li_15, li_16, li_31, li_35, li_47, li_48, li_49, li_50, li_57, li_99, li_100, li_126, li_139, li_140, li_149, li_150, li_280, li_284, li_285, li_290, li_434, li_1260, li_3472, li_9999, li_65536, nm, nm_w, sf_w, cp_w, ld_I, sa_I, nI_add, pk_mul, Nat.zero_add, nI_leI, nI_ltI, nI_eq, nI_neM, M_neI, nI_ltM, nI_nltM, M_ltI, M_leI, nI_nleM, bnd_some, if_pos, if_neg, dif_t, dif_f, nb_M hp hlt, hn, oI, isFree_I hn2, ecn, edn]
            exact hfull (fun k' hk' => by rw [hd] at hk'; cases hk')
          | some kn =>
            rw [hd] at edn
            have edn : v 162 (140 * t + n) = nI kn := edn
            have hkn := h1.2.1 n hn2 kn hd
            by_cases hle : kn ≤ k + co p
            · unfold gX7_measures_118
              simp (disch := omega) only [↓jM_e, li_0, li_1, li_2, li_3, li_4, li_5, li_6, li_7, li_8, li_9, li_10, li_13, li_14, li_15, li_16, li_31, li_35, li_47, li_48, li_49, li_50, li_57, li_99, li_100, li_126, li_139, li_140, li_149, li_150, li_280, li_284, li_285, li_290, li_434, li_1260, li_3472, li_9999, li_65536, nm, nm_w, sf_w, cp_w, ld_I, sa_I, nI_add, pk_mul, Nat.zero_add, nI_leI, nI_ltI, nI_eq, nI_neM, M_neI, nI_ltM, nI_nltM, M_ltI, M_leI, nI_nleM, bnd_some, if_pos, if_neg, dif_t, dif_f, nb_M hp hlt, hn, oI, isFree_I hn2, ecn, edn]
              exact hk hlt _ _ _ ⟨rfl, d, q, rfl, hstep d q h1 (fun k' hk' x hx _ => by rw [hn] at hx; cases hx; rw [h3] at hk'; cases hk'; exact ⟨kn, hd, hle⟩), h2, h3, h4⟩
            · unfold gX7_measures_118
              simp (disch := omega) only [↓jM_e, li_0, li_1, li_2, li_3, li_4, li_5, li_6, li_7, li_8, li_9, li_10, li_13, li_14, li_15, li_16, li_31, li_35, li_47, li_48, li_49, li_50, li_57, li_99, li_100, li_126, li_139, li_140, li_149, li_150, li_280, li_284, li_285, li_290, li_434, li_1260, li_3472, li_9999, li_65536, nm, nm_w, sf_w, cp_w, ld_I, sa_I, nI_add, pk_mul, Nat.zero_add, nI_leI, nI_ltI, nI_eq, nI_neM, M_neI, nI_ltM, nI_nltM, M_ltI, M_leI, nI_nleM, bnd_some, if_pos, if_neg, dif_t, dif_f, nb_M hp hlt, hn, oI, isFree_I hn2, ecn, edn]
              exact hfull (fun k' hk' => by rw [hd] at hk'; cases hk'; omega)
  · exact ⟨h1.1, h1.2.1, fun c hc k hk hq e he => (h1.2.2.1 c hc k hk hq e he).imp (fun g => ⟨g, Nat.zero_le _⟩) id, h1.2.2.2⟩
set_option maxHeartbeats 1000000 in
theorem ms_out {from' : Nat} (hco : ∀ c, c < 140 → co c ≤ 9) (hcost : ∀ c, c < 140 → v0 158 c = nI (co c)) (ht : t < 140) (hf : from' < 140) (hK : 400000 < K)
    (hQ : ∀ d v, isD co t d → (∀ p, p ≠ 162 → p ≠ 163 → p ≠ 165 → v p = v0 p) → (∀ j, (j < 140 * t ∨ 140 * t + 140 ≤ j) → v 162 j = v0 162 j) → (∀ c, c < 140 → v 162 (140 * t + c) = oI (d c)) → Q (some (s2 v 164 t (nI 1))))
    (h1 : qM co t d q (fun _ _ => False)) (h2 : qV co t v0 v d q from') : Q (fx3 (gX7_measures_59 K (nI t)) K (nI from') (nI q.length) v) := by
  have hbig : 2 * sdL d 140 + q.length ≤ 390000 := by
    have g1 : q.length ≤ 140 := nod_len h1.2.2.2.2.1 (fun x hx => (h1.2.2.2.2.2 x hx).1)
    have g2 : sdL d 140 ≤ 1300 * 140 := sdL_le (fun c hc k hk => by
      have := (h1.2.1 c hc k hk).2
      have h3 : nLb d ≤ 140 := cnI_le
      omega)
    omega
  refine fx3_go (P := fun i x2 x3 v => ∃ fr d q, x2 = nI fr ∧ x3 = nI q.length ∧ fr < 140 ∧ qM co t d q (fun _ _ => False) ∧ qV co t v0 v d q fr ∧ 2 * sdL d 140 + q.length + i ≤ 390000) (Q := Q) (N := 390000) ?_ ⟨from', d, q, rfl, rfl, hf, h1, h2, by omega⟩ (by omega)
  intro i x2 x3 v hi ⟨fr, d, q, e2, e3, hf, h1, h2, h3⟩ k59 hk
  subst e2 e3
  cases q with
  | nil =>
    have e0 : ([] : List Nat).length = 0 := rfl
    unfold gX7_measures_59
    simp (disch := omega) only [↓jM_e, li_0, li_1, li_2, li_3, li_4, li_5, li_6, li_7, li_8, li_9, li_10, li_13, li_14, li_15, li_16, li_31, li_35, li_47, li_48, li_49, li_50, li_57, li_99, li_100, li_126, li_139, li_140, li_149, li_150, li_280, li_284, li_285, li_290, li_434, li_1260, li_3472, li_9999, li_65536, nm, nm_w, sf_w, cp_w, ld_I, sa_I, nI_add, pk_mul, Nat.zero_add, nI_leI, nI_ltI, nI_eq, nI_neM, M_neI, nI_ltM, nI_nltM, M_ltI, M_leI, nI_nleM, bnd_some, if_pos, if_neg, dif_t, dif_f, e0]
    exact hQ d v (qM_done h1) h2.1 h2.2.1 h2.2.2.1
  | cons p q =>
    have hlen : (p :: q).length = q.length + 1 := rfl
    have hql : (p :: q).length ≤ 140 := nod_len h1.2.2.2.2.1 (fun x hx => (h1.2.2.2.2.2 x hx).1)
    obtain ⟨hp, k, hpk⟩ := h1.2.2.2.2.2 p List.mem_cons_self
    have hcp := hco p hp
    have hN : nLb d ≤ 140 := cnI_le
    have hk2 := (h1.2.1 p hp k hpk).2
    have e163 : v 163 fr = nI p := by
      have := h2.2.2.2.1 0 (by omega)
      rw [Nat.add_zero, Nat.mod_eq_of_lt hf] at this
      exact this
    have erem : nI (fr + 1) - nI (fr + 1) / nI 140 * nI 140 = nI ((fr + 1) % 140) := pk_rem (by omega) (by decide) (by decide)
    have em : nI (p :: q).length + jM = nI q.length := pk_m1 _
    have hi : 140 * t + p < 19600 := by omega
    have e162 : s2 v 165 p (nI 0) 162 (140 * t + p) = nI k := by rw [s2_p (by decide), h2.2.2.1 p hp, hpk]; rfl
    have e158 : s2 v 165 p (nI 0) 158 p = nI (co p) := by rw [s2_p (by decide), h2.1 158 (by decide) (by decide) (by decide)]; exact hcost p hp
    have hnd := List.nodup_cons.mp h1.2.2.2.2.1
    unfold gX7_measures_59
    simp (disch := omega) only [↓jM_e, li_0, li_1, li_2, li_3, li_4, li_5, li_6, li_7, li_8, li_9, li_10, li_13, li_14, li_15, li_16, li_31, li_35, li_47, li_48, li_49, li_50, li_57, li_99, li_100, li_126, li_139, li_140, li_149, li_150, li_280, li_284, li_285, li_290, li_434, li_1260, li_3472, li_9999, li_65536, nm, nm_w, sf_w, cp_w, ld_I, sa_I, nI_add, pk_mul, Nat.zero_add, nI_leI, nI_ltI, nI_eq, nI_neM, M_neI, nI_ltM, nI_nltM, M_ltI, M_leI, nI_nleM, bnd_some, if_pos, if_neg, dif_t, dif_f, e163, erem, em, e162, e158]
    refine ms_in (v0 := v0) (d := d) (m := 2 * sdL d 140 + q.length) (Nat.mod_lt _ (by decide)) hco hcost ht hp (by omega) (fun d' q' v' g1 g2 g3 => ?_) ?_ ?_ hpk (Nat.le_refl _)
    · exact hk (by omega) _ _ _ ⟨_, d', q', rfl, rfl, Nat.mod_lt _ (by decide), g1, g2, by omega⟩
    · refine ⟨h1.1, h1.2.1, fun c hc k hk hq e he => ?_, h1.2.2.2.1, hnd.2, fun c hc => h1.2.2.2.2.2 c (List.mem_cons_of_mem _ hc)⟩
      by_cases hcp : c = p
      · exact Or.inl hcp
      · rcases h1.2.2.1 c hc k hk (fun hm => (List.mem_cons.mp hm).elim hcp hq) e he with g | g
        · exact g.elim
        · exact Or.inr g
    · refine ⟨fun p' g1 g2 g3 => ?_, fun j hj => ?_, fun c hc => ?_, fun j hj => ?_, fun c hc hct => ?_⟩
      · rw [s2_ne g3]; exact h2.1 p' g1 g2 g3
      · rw [s2_p (by decide)]; exact h2.2.1 j hj
      · rw [s2_p (by decide)]; exact h2.2.2.1 c hc
      · rw [s2_p (by decide)]
        have := h2.2.2.2.1 (j + 1) (by rw [hlen]; omega)
        rw [List.getElem_cons_succ] at this
        rw [← this]
        congr 1
        omega
      · by_cases hcp : c = p
        · rw [hcp, s2_i, if_neg hnd.1]
        · rw [s2_j hcp, h2.2.2.2.2 c hc hct]
          by_cases hcq : c ∈ q
          · rw [if_pos hcq, if_pos (List.mem_cons_of_mem _ hcq)]
          · rw [if_neg hcq, if_neg (fun hm => (List.mem_cons.mp hm).elim hcp hcq)]
set_option maxHeartbeats 1000000 in
theorem measures_ok (hco : ∀ c, c < 140 → co c ≤ 9) (hcost : ∀ c, c < 140 → v 158 c = nI (co c)) (ht : t < 140) (h0 : co t ≠ 0) (hK : 400000 < K) :
    ∃ v' d, fX7_measures K (nI t) v = some v' ∧ isD co t d ∧ (∀ p, p ≠ 162 → p ≠ 163 → p ≠ 164 → p ≠ 165 → v' p = v p) ∧ (∀ j, (j < 140 * t ∨ 140 * t + 140 ≤ j) → v' 162 j = v 162 j) ∧ (∀ c, c < 140 → v' 162 (140 * t + c) = oI (d c)) ∧ v' 164 t = nI 1 ∧ ∀ c, c ≠ t → v' 164 c = v 164 c := by
  unfold fX7_measures
  refine fx2_go (P := fun i x2 (v' : sV) => x2 = nI i ∧ (∀ p, p ≠ 162 → p ≠ 165 → v' p = v p) ∧ (∀ j, (j < 140 * t ∨ 140 * t + 140 ≤ j) → v' 162 j = v 162 j) ∧ (∀ c, c < i → v' 162 (140 * t + c) = jM) ∧ ∀ c, c < i → v' 165 c = nI 0)
    (Q := fun o => ∃ (v' : sV) (d : Nat → Option Nat), o = some v' ∧ isD co t d ∧ (∀ p, p ≠ 162 → p ≠ 163 → p ≠ 164 → p ≠ 165 → v' p = v p) ∧ (∀ j, (j < 140 * t ∨ 140 * t + 140 ≤ j) → v' 162 j = v 162 j) ∧ (∀ c, c < 140 → v' 162 (140 * t + c) = oI (d c)) ∧ v' 164 t = nI 1 ∧ ∀ c, c ≠ t → v' 164 c = v 164 c) (N := 140) ?_ ⟨rfl, fun _ _ _ => rfl, fun _ _ => rfl, fun c hc => absurd hc (Nat.not_lt_zero c), fun c hc => absurd hc (Nat.not_lt_zero c)⟩ (by omega)
  intro i x2 v' hi ⟨e2, h1, h2, h3, h4⟩ k2 hk
  subst e2
  by_cases hi1 : i = 140
  · subst hi1
    have hix : 140 * t + t < 19600 := by omega
    unfold gX7_measures_2
    simp (disch := omega) only [↓jM_e, li_0, li_1, li_2, li_3, li_4, li_5, li_6, li_7, li_8, li_9, li_10, li_13, li_14, li_15, li_16, li_31, li_35, li_47, li_48, li_49, li_50, li_57, li_99, li_100, li_126, li_139, li_140, li_149, li_150, li_280, li_284, li_285, li_290, li_434, li_1260, li_3472, li_9999, li_65536, nm, nm_w, sf_w, cp_w, ld_I, sa_I, nI_add, pk_mul, Nat.zero_add, nI_leI, nI_ltI, nI_eq, nI_neM, M_neI, nI_ltM, nI_nltM, M_ltI, M_leI, nI_nleM, bnd_some, if_pos, if_neg, dif_t, dif_f]
    have hN1 : nLb (fun j => if j = t then some 0 else none) = 1 := by
      have := nLb_up (d := fun _ => none) (q := t) (k := 0) rfl ht
      have h2 : nLb (fun _ => none) = 0 := cnI_0
      rw [h2] at this
      exact this
    have hlab : ∀ c k, (if c = t then some 0 else none) = some k → c = t ∧ k = 0 := by
      intro c k h
      by_cases hct : c = t
      · rw [if_pos hct] at h; cases h; exact ⟨hct, rfl⟩
      · rw [if_neg hct] at h; cases h
    refine ms_out (Q := fun o => ∃ (v' : sV) (d : Nat → Option Nat), o = some v' ∧ isD co t d ∧ (∀ p, p ≠ 162 → p ≠ 163 → p ≠ 164 → p ≠ 165 → v' p = v p) ∧ (∀ j, (j < 140 * t ∨ 140 * t + 140 ≤ j) → v' 162 j = v 162 j) ∧ (∀ c, c < 140 → v' 162 (140 * t + c) = oI (d c)) ∧ v' 164 t = nI 1 ∧ ∀ c, c ≠ t → v' 164 c = v 164 c) (t := t) (d := fun j => if j = t then some 0 else none) (q := [t]) (from' := 0) (v0 := v) hco hcost ht (by decide) hK (fun d w g1 g2 g3 g4 => ?_) ?_ ?_
    · refine ⟨_, d, rfl, g1, fun p q1 q2 q3 q4 => ?_, fun j hj => ?_, fun c hc => ?_, s2_i, fun c hc => ?_⟩
      · rw [s2_ne q3]; exact g2 p q1 q2 q4
      · rw [s2_p (by decide)]; exact g3 j hj
      · rw [s2_p (by decide)]; exact g4 c hc
      · rw [s2_j hc, g2 164 (by decide) (by decide) (by decide)]
    · refine ⟨if_pos rfl, fun c hc k hk => ?_, fun c hc k hk hq => ?_, fun c hc k hk => Or.inl (hlab c k hk).1, List.nodup_cons.mpr ⟨List.not_mem_nil, List.nodup_nil⟩, fun c hc => ?_⟩
      · obtain ⟨rfl, rfl⟩ := hlab c k hk
        exact ⟨h0, by rw [hN1]; exact Nat.le_refl _⟩
      · exact absurd (List.mem_singleton.mpr (hlab c k hk).1) hq
      · have := List.mem_singleton.mp hc
        subst this
        exact ⟨ht, 0, if_pos rfl⟩
    · refine ⟨fun p q1 q2 q3 => ?_, fun j hj => ?_, fun c hc => ?_, fun j hj => ?_, fun c hc hct => ?_⟩
      · rw [s2_ne q2, s2_ne q1]; exact h1 p q1 q3
      · rw [s2_p (by decide), s2_j (by omega)]; exact h2 j hj
      · rw [s2_p (by decide)]
        by_cases hct : c = t
        · rw [hct, s2_i]
          dsimp only
          rw [if_pos rfl]
          rfl
        · rw [s2_j (by omega)]
          dsimp only
          rw [if_neg hct]
          exact h3 c hc
      · have hj0 : j = 0 := by
          have : ([t] : List Nat).length = 1 := rfl
          omega
        subst hj0
        exact s2_i
      · rw [s2_p (by decide), s2_p (by decide), h4 c hc, if_neg (fun hm => hct (List.mem_singleton.mp hm))]
  · have hix : 140 * t + i < 19600 := by omega
    unfold gX7_measures_2
    simp (disch := omega) only [↓jM_e, li_0, li_1, li_2, li_3, li_4, li_5, li_6, li_7, li_8, li_9, li_10, li_13, li_14, li_15, li_16, li_31, li_35, li_47, li_48, li_49, li_50, li_57, li_99, li_100, li_126, li_139, li_140, li_149, li_150, li_280, li_284, li_285, li_290, li_434, li_1260, li_3472, li_9999, li_65536, nm, nm_w, sf_w, cp_w, ld_I, sa_I, nI_add, pk_mul, Nat.zero_add, nI_leI, nI_ltI, nI_eq, nI_neM, M_neI, nI_ltM, nI_nltM, M_ltI, M_leI, nI_nleM, bnd_some, if_pos, if_neg, dif_t, dif_f]
    refine hk (by omega) _ _ ⟨rfl, fun p q1 q2 => ?_, fun j hj => ?_, fun c hc => ?_, fun c hc => ?_⟩
    · rw [s2_ne q2, s2_ne q1]; exact h1 p q1 q2
    · rw [s2_p (by decide), s2_j (by omega)]; exact h2 j hj
    · rw [s2_p (by decide)]
      by_cases hci : c = i
      · rw [hci, s2_i]
      · rw [s2_j (by omega)]; exact h3 c (by omega)
    · by_cases hci : c = i
      · rw [hci, s2_i]
      · rw [s2_j hci, s2_p (by decide)]; exact h4 c (by omega)
end
