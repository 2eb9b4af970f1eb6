/-! THE CLASS'S DISTANCES: buckets -/
def Lst (nx : Nat → Int32) : Int32 → List Nat → Prop
  | h, [] => h = jM
  | h, c :: l => h = nI c ∧ Lst nx (nx c) l
theorem Lst_upd {nx : Nat → Int32} {q : Nat} {y : Int32} : ∀ {l : List Nat} {h : Int32}, q ∉ l → Lst nx h l → Lst (upd nx q y) h l
  | [], _, _, h => h
  | c :: l, _, hq, h => by
    refine ⟨h.1, ?_⟩
    have h1 : c ≠ q := fun e => hq (e ▸ List.mem_cons_self)
    rw [pk_un h1]
    exact Lst_upd (fun hm => hq (List.mem_cons_of_mem _ hm)) h.2
def nLb (d : Nat → Option Nat) : Nat := cnI (fun c => (d c).isSome) 140
theorem cnI_up {P : Nat → Bool} {q : Nat} (hq : P q = false) : ∀ {N : Nat}, q < N → cnI (fun c => if c = q then true else P c) N = cnI P N + 1
  | 0, h => absurd h (Nat.not_lt_zero _)
  | N + 1, h => by
    show cnI (fun c => if c = q then true else P c) N + (if (if N = q then true else P N) = true then 1 else 0) = cnI P N + (if P N = true then 1 else 0) + 1
    by_cases hN : N = q
    · subst hN
      rw [cnI_c (P' := P) (fun t ht => if_neg (by omega))]
      simp [hq]
    · rw [cnI_up hq (by omega), if_neg hN]
      omega
theorem nLb_up {d : Nat → Option Nat} {q k : Nat} (hq : d q = none) (h : q < 140) : nLb (fun c => if c = q then some k else d c) = nLb d + 1 := by
  have h1 : nLb (fun c => if c = q then some k else d c) = cnI (fun c => if c = q then true else (d c).isSome) 140 := by
    refine cnI_c (fun t _ => ?_)
    by_cases ht : t = q
    · simp [ht]
    · simp [ht]
  rw [h1]
  exact cnI_up (P := fun c => (d c).isSome) (by simp [hq]) h
def clD (co : Nat → Nat) (d : Nat → Option Nat) (c k : Nat) (e : Nat) : Prop := ∀ q, nbO c e = some q → co q ≠ 0 → ∃ k', d q = some k' ∧ k' ≤ k + co c
def spM (co : Nat → Nat) (t key : Nat) (l : List Nat) (d : Nat → Option Nat) (L : Nat → List Nat) : Prop :=
  d t = some 0 ∧ (∀ c, c < 140 → ∀ k, d c = some k → co c ≠ 0 ∧ k + 9 ≤ 9 * nLb d ∧ k ≤ key) ∧
  (∀ c, c < 140 → ∀ k, d c = some k → k + co c ≤ key → c ∉ l → ∀ e, e < 4 → clD co d c k e) ∧
  (∀ c, c < 140 → ∀ k, d c = some k → c = t ∨ ∃ e q k', e < 4 ∧ nbO c e = some q ∧ d q = some k' ∧ k = k' + co q) ∧
  (∀ b, b < 10 → (L b).Nodup ∧ ∀ c, c ∈ L b ↔ c < 140 ∧ ∃ k, d c = some k ∧ key + 1 ≤ k + co c ∧ (k + co c) % 10 = b) ∧
  l.Nodup ∧ (∀ c, c ∈ l → c < 140 ∧ ∃ k, d c = some k ∧ k + co c = key)
theorem spM_label {co : Nat → Nat} {t key : Nat} {l : List Nat} {d : Nat → Option Nat} {L : Nat → List Nat} (hco : ∀ c, c < 140 → co c ≤ 9) (h : spM co t key l d L) {c k e q : Nat} (hc : c < 140) (hk : d c = some k) (hkey : k + co c = key) (he : e < 4) (hq : nbO c e = some q) (hq0 : co q ≠ 0) (hn : d q = none) :
    spM co t key l (fun j => if j = q then some key else d j) (fun b => if b = (key + co q) % 10 then q :: L b else L b) := by
  obtain ⟨h1, h2, h3, h4, h5, h6, h7⟩ := h
  have hq2 := nb_lt hc hq
  have hup := nLb_up (d := d) (k := key) hn hq2
  have hkeep : ∀ j k', d j = some k' → (if j = q then some key else d j) = some k' := by
    intro j k' hj
    rw [if_neg (fun e => by rw [e, hn] at hj; cases hj)]
    exact hj
  have hcl : ∀ c k e, clD co d c k e → clD co (fun j => if j = q then some key else d j) c k e := by
    intro c k e hcl q' hq' h0
    obtain ⟨k', hk', hle⟩ := hcl q' hq' h0
    exact ⟨k', hkeep q' k' hk', hle⟩
  refine ⟨hkeep t 0 h1, fun c' hc' k' hk' => ?_, fun c' hc' k' hk' hle hl e' he' => ?_, fun c' hc' k' hk' => ?_, fun b hb => ?_, h6, fun c' hc' => ?_⟩
  · rw [hup]
    have hk' : (if c' = q then some key else d c') = some k' := hk'
    by_cases hcq : c' = q
    · rw [if_pos hcq] at hk'
      cases hk'
      have := (h2 c hc k hk).2.1
      have := hco c hc
      exact ⟨by rw [hcq]; exact hq0, by omega, Nat.le_refl _⟩
    · rw [if_neg hcq] at hk'
      obtain ⟨g1, g2, g3⟩ := h2 c' hc' k' hk'
      exact ⟨g1, by omega, g3⟩
  · have hk' : (if c' = q then some key else d c') = some k' := hk'
    by_cases hcq : c' = q
    · rw [if_pos hcq] at hk'
      cases hk'
      subst hcq
      omega
    · rw [if_neg hcq] at hk'
      exact hcl _ _ _ (h3 c' hc' k' hk' hle hl e' he')
  · have hk' : (if c' = q then some key else d c') = some k' := hk'
    by_cases hcq : c' = q
    · rw [if_pos hcq] at hk'
      cases hk'
      subst hcq
      obtain ⟨e', he', hb⟩ := nb_back hc he hq
      exact Or.inr ⟨e', c, k, he', hb, hkeep c k hk, hkey.symm⟩
    · rw [if_neg hcq] at hk'
      rcases h4 c' hc' k' hk' with g | ⟨e', q', k'', g1, g2, g3, g4⟩
      · exact Or.inl g
      · exact Or.inr ⟨e', q', k'', g1, g2, hkeep q' k'' g3, g4⟩
  · obtain ⟨g1, g2⟩ := h5 b hb
    have hnL : q ∉ L b := by
      intro hm
      obtain ⟨-, k', hk', -⟩ := (g2 q).mp hm
      rw [hn] at hk'
      cases hk'
    have hother : ∀ c', c' ≠ q → (c' ∈ L b ↔ c' < 140 ∧ ∃ k', (if c' = q then some key else d c') = some k' ∧ key + 1 ≤ k' + co c' ∧ (k' + co c') % 10 = b) := by
      intro c' hcq
      rw [if_neg hcq]
      exact g2 c'
    by_cases hbb : b = (key + co q) % 10
    · show (if b = (key + co q) % 10 then q :: L b else L b).Nodup ∧ ∀ c', c' ∈ (if b = (key + co q) % 10 then q :: L b else L b) ↔ _
      rw [if_pos hbb]
      refine ⟨List.nodup_cons.mpr ⟨hnL, g1⟩, fun c' => ?_⟩
      by_cases hcq : c' = q
      · subst hcq
        refine ⟨fun _ => ⟨hq2, key, if_pos rfl, by omega, hbb.symm⟩, fun _ => List.mem_cons_self⟩
      · rw [List.mem_cons]
        refine ⟨fun hm => ?_, fun hm => Or.inr ((hother c' hcq).mpr hm)⟩
        rcases hm with hm | hm
        · exact absurd hm hcq
        · exact (hother c' hcq).mp hm
    · show (if b = (key + co q) % 10 then q :: L b else L b).Nodup ∧ ∀ c', c' ∈ (if b = (key + co q) % 10 then q :: L b else L b) ↔ _
      rw [if_neg hbb]
      refine ⟨g1, fun c' => ?_⟩
      by_cases hcq : c' = q
      · subst hcq
        refine ⟨fun hm => absurd hm hnL, fun hm => ?_⟩
        obtain ⟨-, k', hk', -, hb'⟩ := hm
        have hk' : (if c' = c' then some key else d c') = some k' := hk'
        rw [if_pos rfl] at hk'
        cases hk'
        exact absurd hb'.symm hbb
      · exact hother c' hcq
  · obtain ⟨g1, k', g2, g3⟩ := h7 c' hc'
    exact ⟨g1, k', hkeep c' k' g2, g3⟩
theorem spM_pop {co : Nat → Nat} {t key : Nat} {d : Nat → Option Nat} {L : Nat → List Nat} (hco : ∀ c, c < 140 → co c ≤ 9) (h : spM co t key [] d L) :
    spM co t (key + 1) (L ((key + 1) % 10)) d (fun b => if b = (key + 1) % 10 then [] else L b) := by
  obtain ⟨h1, h2, h3, h4, h5, h6, h7⟩ := h
  have hb10 : (key + 1) % 10 < 10 := by omega
  refine ⟨h1, fun c hc k hk => ?_, fun c hc k hk hle hl e he => ?_, h4, fun b hb => ?_, (h5 _ hb10).1, fun c hc => ?_⟩
  · obtain ⟨g1, g2, g3⟩ := h2 c hc k hk
    exact ⟨g1, g2, by omega⟩
  · by_cases hk1 : k + co c ≤ key
    · exact h3 c hc k hk hk1 List.not_mem_nil e he
    · exact absurd (((h5 _ hb10).2 c).mpr ⟨hc, k, hk, by omega, by rw [show k + co c = key + 1 by omega]⟩) hl
  · by_cases hbb : b = (key + 1) % 10
    · show (if b = (key + 1) % 10 then [] else L b).Nodup ∧ ∀ c, c ∈ (if b = (key + 1) % 10 then [] else L b) ↔ _
      rw [if_pos hbb]
      refine ⟨List.nodup_nil, fun c => ⟨fun hm => absurd hm List.not_mem_nil, fun hm => ?_⟩⟩
      obtain ⟨hc, k, hk, g1, g2⟩ := hm
      have := (h2 c hc k hk).2.2
      have := hco c hc
      omega
    · show (if b = (key + 1) % 10 then [] else L b).Nodup ∧ ∀ c, c ∈ (if b = (key + 1) % 10 then [] else L b) ↔ _
      rw [if_neg hbb]
      refine ⟨(h5 b hb).1, fun c => ⟨fun hm => ?_, fun hm => ?_⟩⟩
      · obtain ⟨hc, k, hk, g1, g2⟩ := ((h5 b hb).2 c).mp hm
        exact ⟨hc, k, hk, by omega, g2⟩
      · obtain ⟨hc, k, hk, g1, g2⟩ := hm
        exact ((h5 b hb).2 c).mpr ⟨hc, k, hk, by omega, g2⟩
  · obtain ⟨hc', k, hk, g1, g2⟩ := ((h5 _ hb10).2 c).mp hc
    have := (h2 c hc' k hk).2.2
    have := hco c hc'
    exact ⟨hc', k, hk, by omega⟩
theorem spM_next {co : Nat → Nat} {t key c : Nat} {l : List Nat} {d : Nat → Option Nat} {L : Nat → List Nat} (h : spM co t key (c :: l) d L) (hcl : ∀ k, d c = some k → ∀ e, e < 4 → clD co d c k e) : spM co t key l d L := by
  obtain ⟨h1, h2, h3, h4, h5, h6, h7⟩ := h
  refine ⟨h1, h2, fun c' hc' k hk hle hl e he => ?_, h4, h5, (List.nodup_cons.mp h6).2, fun c' hc' => h7 c' (List.mem_cons_of_mem _ hc')⟩
  by_cases hcc : c' = c
  · subst hcc
    exact hcl k hk e he
  · exact h3 c' hc' k hk hle (fun hm => (List.mem_cons.mp hm).elim hcc hl) e he
theorem spM_done {co : Nat → Nat} {t key : Nat} {d : Nat → Option Nat} {L : Nat → List Nat} (h : spM co t key [] d L) (hend : ∀ c, c < 140 → ∀ k, d c = some k → k + co c ≤ key) : isD co t d := by
  obtain ⟨h1, h2, h3, h4, h5, h6, h7⟩ := h
  have hN : nLb d ≤ 140 := cnI_le
  refine ⟨h1, fun c hc k hk => ?_, fun c hc k e q he hk hq h0 => ?_, h4⟩
  · obtain ⟨g1, g2, -⟩ := h2 c hc k hk
    exact ⟨g1, by omega⟩
  · exact h3 c hc k hk (hend c hc k hk) List.not_mem_nil e he q hq h0
/-- how many wait -/
def smL (L : Nat → List Nat) : Nat → Nat
  | 0 => 0
  | b + 1 => smL L b + (L b).length
theorem smL_up {L : Nat → List Nat} {b0 : Nat} {l : List Nat} : ∀ {N : Nat}, smL (fun b => if b = b0 then l else L b) N + (if b0 < N then (L b0).length else 0) = smL L N + (if b0 < N then l.length else 0)
  | 0 => by simp [smL]
  | N + 1 => by
    have ih := @smL_up L b0 l N
    show smL (fun b => if b = b0 then l else L b) N + (if N = b0 then l else L N).length + _ = smL L N + (L N).length + _
    by_cases hN : N = b0
    · subst hN
      rw [if_neg (Nat.lt_irrefl N), if_neg (Nat.lt_irrefl N)] at ih
      rw [if_pos rfl, if_pos (Nat.lt_succ_self N), if_pos (Nat.lt_succ_self N)]
      omega
    · rw [if_neg hN]
      by_cases h2 : b0 < N
      · rw [if_pos h2, if_pos h2] at ih
        rw [if_pos (by omega), if_pos (by omega)]
        omega
      · rw [if_neg h2, if_neg h2] at ih
        rw [if_neg (by omega), if_neg (by omega)]
        omega
theorem smL_0 {L : Nat → List Nat} : ∀ {N : Nat}, smL L N = 0 → ∀ b, b < N → L b = []
  | 0, _, b, hb => absurd hb (Nat.not_lt_zero b)
  | N + 1, h, b, hb => by
    have h : smL L N + (L N).length = 0 := h
    by_cases hN : b = N
    · rw [hN]; exact List.eq_nil_of_length_eq_zero (by omega)
    · exact smL_0 (N := N) (by omega) b (by omega)
theorem smL_cons {L : Nat → List Nat} {b0 q : Nat} (hb : b0 < 10) : smL (fun b => if b = b0 then q :: L b else L b) 10 = smL L 10 + 1 := by
  have h1 : (fun b => if b = b0 then q :: L b else L b) = (fun b => if b = b0 then q :: L b0 else L b) := by
    funext b
    by_cases h : b = b0
    · rw [if_pos h, if_pos h, h]
    · rw [if_neg h, if_neg h]
  have h2 := @smL_up L b0 (q :: L b0) 10
  rw [if_pos hb, if_pos hb, List.length_cons] at h2
  rw [h1]
  omega
theorem smL_nil {L : Nat → List Nat} {b0 : Nat} (hb : b0 < 10) : smL (fun b => if b = b0 then [] else L b) 10 + (L b0).length = smL L 10 := by
  have h2 := @smL_up L b0 [] 10
  rw [if_pos hb, if_pos hb] at h2
  exact h2
/-- the rows of the heap that hold it -/
def spV (a3 : Nat) (v0 v : sV) (d : Nat → Option Nat) (L : Nat → List Nat) : Prop :=
  (∀ p, p ≠ a3 → p ≠ 18 → p ≠ 19 → v p = v0 p) ∧ (∀ c, c < 140 → v a3 c = oI (d c)) ∧ ∀ b, b < 10 → Lst (v 19) (v 18 b) (L b)
theorem s2_p {v : sV} {p i q j : Nat} {y : Int32} (h : q ≠ p) : s2 v p i y q j = v q j := by rw [s2_ne h]
theorem s2_i {v : sV} {p i : Nat} {y : Int32} : s2 v p i y p i = y := by rw [s2_upd]; exact pk_us
theorem s2_j {v : sV} {p i j : Nat} {y : Int32} (h : j ≠ i) : s2 v p i y p j = v p j := by rw [s2_upd]; exact pk_un h
theorem oI_M {o : Option Nat} (h : ∀ k, o = some k → k < 2 ^ 31) : (oI o = jM) = (o = none) := by
  cases o with
  | none => simp [oI]
  | some k => simp [oI, nI_neM (h k rfl)]
theorem enq {q key : Nat} {v : sV} (hq : q < 140) (hk : key < 2 ^ 31) : fX2_enqueue (nI q) (nI key) v = some (s2 (s2 v 19 q (v 18 (key % 10))) 18 (key % 10) (nI q)) := by
  unfold fX2_enqueue
  simp only [↓jM_e, li_0, li_1, li_2, li_3, li_4, li_5, li_6, li_7, li_8, li_9, li_10, li_13, li_14, li_15, li_16, li_31, li_35, li_47, li_48, li_49, li_50, li_57, li_99, li_100, li_126, li_139, li_140, li_149, li_150, li_280, li_284, li_285, li_290, li_434, li_1260, li_3472, li_9999, li_65536]
  rw [nm_w, pk_rem hk (by decide) (by decide), ld_I (by omega) (by decide), sa_I hq (by decide), sa_I (by omega) (by decide)]
