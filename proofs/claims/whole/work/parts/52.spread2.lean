theorem cnI_0 {N : Nat} : cnI (fun _ => false) N = 0 := by
  induction N with
  | zero => rfl
  | succ N ih =>
    show cnI (fun _ => false) N + (if false = true then 1 else 0) = 0
    rw [ih]
    rfl
theorem spV_label {a3 : Nat} {v0 v : sV} {d : Nat → Option Nat} {L : Nat → List Nat} (ha : a3 ≠ 18 ∧ a3 ≠ 19) (h : spV a3 v0 v d L) {q key b : Nat} (hnL : ∀ b, b < 10 → q ∉ L b) :
    spV a3 v0 (s2 (s2 (s2 v a3 q (nI key)) 19 q (v 18 b)) 18 b (nI q)) (fun j => if j = q then some key else d j) (fun b' => if b' = b then q :: L b' else L b') := by
  obtain ⟨h1, h2, h3⟩ := h
  refine ⟨fun p g1 g2 g3 => ?_, fun c hc => ?_, fun b' hb' => ?_⟩
  · rw [s2_ne g2, s2_ne g3, s2_ne g1]
    exact h1 p g1 g2 g3
  · rw [s2_p ha.1, s2_p ha.2]
    by_cases hcq : c = q
    · subst hcq
      rw [s2_i]
      dsimp only
      rw [if_pos rfl]
      rfl
    · rw [s2_j hcq]
      dsimp only
      rw [if_neg hcq]
      exact h2 c hc
  · have e19 : s2 (s2 (s2 v a3 q (nI key)) 19 q (v 18 b)) 18 b (nI q) 19 = upd (v 19) q (v 18 b) := by
      rw [s2_ne (by decide), s2_upd, s2_ne (fun e => ha.2 e.symm)]
    have hn := hnL b' hb'
    rw [e19]
    by_cases hbb : b' = b
    · subst hbb
      rw [s2_i]
      dsimp only
      rw [if_pos rfl]
      refine ⟨rfl, ?_⟩
      rw [pk_us]
      exact Lst_upd hn (h3 b' hb')
    · rw [s2_j hbb, s2_p (by decide), s2_p (fun e => ha.1 e.symm)]
      dsimp only
      rw [if_neg hbb]
      exact Lst_upd hn (h3 b' hb')
section
variable {co : Nat → Nat} {t key a2 a3 : Nat} {v0 : sV} {K : Nat} {k31 : Int32 → Int32 → sV → Option sV} {k70 : Int32 → Int32 → Int32 → sV → Option sV} {Q : Option sV → Prop} {d : Nat → Option Nat} {L : Nat → List Nat} {v : sV}
set_option maxHeartbeats 1000000 in
theorem sp_in {c i k : Nat} {rest : List Nat} (hco : ∀ c, c < 140 → co c ≤ 9) (hcost : ∀ c, c < 140 → v0 a2 c = nI (co c)) (ha2 : a2 ≠ a3 ∧ a2 ≠ 18 ∧ a2 ≠ 19) (ha3 : a3 ≠ 18 ∧ a3 ≠ 19) (hkey : k + co c = key) (hk1 : 1 ≤ key ∧ key ≤ 1260) (hc : c < 140) (hi : i < 140) (hK : 4 < K)
    (hQ : ∀ d L v, spM co t key (c :: rest) d L → spV a3 v0 v d L → Lst (v 19) (v 19 c) rest → d c = some k → (∀ e, e < 4 → clD co d c k e) → Q (k70 (nI (smL L 10 + rest.length)) (v 19 c) (nI (i + 1)) v))
    (h1 : spM co t key (c :: rest) d L) (h2 : spV a3 v0 v d L) (h3 : Lst (v 19) (v 19 c) rest) (h4 : d c = some k) : Q (fx3 (gX2_spread_90 K a2 a3 k31 k70 (nI key) (nI c) (nI i)) K (nI (smL L 10 + rest.length)) (nI 0) v) := by
  refine fx3_go (P := fun e x4 x8 v => x8 = nI e ∧ ∃ d L, x4 = nI (smL L 10 + rest.length) ∧ spM co t key (c :: rest) d L ∧ spV a3 v0 v d L ∧ Lst (v 19) (v 19 c) rest ∧ d c = some k ∧ ∀ e', e' < e → clD co d c k e') (Q := Q) (N := 4) ?_ ⟨rfl, d, L, rfl, h1, h2, h3, h4, fun e' h => absurd h (Nat.not_lt_zero e')⟩ hK
  intro e x4 x8 v he ⟨e8, d, L, e4, h1, h2, h3, h4, h5⟩ k90 hk
  subst e8 e4
  by_cases he4 : e = 4
  · subst he4
    unfold gX2_spread_90
    simp (disch := omega) only [↓jM_e, li_0, li_1, li_2, li_3, li_4, li_5, li_6, li_7, li_8, li_9, li_10, li_13, li_14, li_15, li_16, li_31, li_35, li_47, li_48, li_49, li_50, li_57, li_99, li_100, li_126, li_139, li_140, li_149, li_150, li_280, li_284, li_285, li_290, li_434, li_1260, li_3472, li_9999, li_65536, nm, nm_w, sf_w, cp_w, ld_I, sa_I, nI_add, pk_mul, Nat.zero_add, nI_leI, nI_ltI, nI_eq, nI_neM, M_neI, nI_ltM, nI_nltM, M_ltI, M_leI, nI_nleM, bnd_some, if_pos, if_neg, dif_t, dif_f]
    exact hQ d L v h1 h2 h3 h4 h5
  · have he4' : e < 4 := by omega
    have hlt : e < 4 := he4'
    have hext : clD co d c k e → ∀ e', e' < e + 1 → clD co d c k e' := fun hx e' h' => by
      by_cases hee : e' = e
      · rw [hee]; exact hx
      · exact h5 e' (by omega)
    cases hq : nbO c e with
    | none =>
      unfold gX2_spread_90
      simp (disch := omega) only [↓jM_e, li_0, li_1, li_2, li_3, li_4, li_5, li_6, li_7, li_8, li_9, li_10, li_13, li_14, li_15, li_16, li_31, li_35, li_47, li_48, li_49, li_50, li_57, li_99, li_100, li_126, li_139, li_140, li_149, li_150, li_280, li_284, li_285, li_290, li_434, li_1260, li_3472, li_9999, li_65536, nm, nm_w, sf_w, cp_w, ld_I, sa_I, nI_add, pk_mul, Nat.zero_add, nI_leI, nI_ltI, nI_eq, nI_neM, M_neI, nI_ltM, nI_nltM, M_ltI, M_leI, nI_nleM, bnd_some, if_pos, if_neg, dif_t, dif_f, nb_C hc he4', hq, oI]
      exact hk hlt _ _ _ ⟨rfl, d, L, rfl, h1, h2, h3, h4, hext (fun q hq' => by rw [hq] at hq'; cases hq')⟩
    | some q =>
      have hq2 := nb_lt hc hq
      have hcq := hco q hq2
      have ecq : v a2 q = nI (co q) := by rw [h2.1 a2 ha2.1 ha2.2.1 ha2.2.2]; exact hcost q hq2
      by_cases h0 : co q = 0
      · unfold gX2_spread_90
        simp (disch := omega) only [↓jM_e, li_0, li_1, li_2, li_3, li_4, li_5, li_6, li_7, li_8, li_9, li_10, li_13, li_14, li_15, li_16, li_31, li_35, li_47, li_48, li_49, li_50, li_57, li_99, li_100, li_126, li_139, li_140, li_149, li_150, li_280, li_284, li_285, li_290, li_434, li_1260, li_3472, li_9999, li_65536, nm, nm_w, sf_w, cp_w, ld_I, sa_I, nI_add, pk_mul, Nat.zero_add, nI_leI, nI_ltI, nI_eq, nI_neM, M_neI, nI_ltM, nI_nltM, M_ltI, M_leI, nI_nleM, bnd_some, if_pos, if_neg, dif_t, dif_f, nb_C hc he4', hq, oI, ecq]
        exact hk hlt _ _ _ ⟨rfl, d, L, rfl, h1, h2, h3, h4, hext (fun q' hq' h0' => by rw [hq] at hq'; cases hq'; exact absurd h0 h0')⟩
      · cases hd : d q with
        | some kq =>
          have hkq := (h1.2.1 q hq2 kq hd)
          have edq : v a3 q = nI kq := by rw [h2.2.1 q hq2, hd]; rfl
          unfold gX2_spread_90
          simp (disch := omega) only [↓jM_e, li_0, li_1, li_2, li_3, li_4, li_5, li_6, li_7, li_8, li_9, li_10, li_13, li_14, li_15, li_16, li_31, li_35, li_47, li_48, li_49, li_50, li_57, li_99, li_100, li_126, li_139, li_140, li_149, li_150, li_280, li_284, li_285, li_290, li_434, li_1260, li_3472, li_9999, li_65536, nm, nm_w, sf_w, cp_w, ld_I, sa_I, nI_add, pk_mul, Nat.zero_add, nI_leI, nI_ltI, nI_eq, nI_neM, M_neI, nI_ltM, nI_nltM, M_ltI, M_leI, nI_nleM, bnd_some, if_pos, if_neg, dif_t, dif_f, nb_C hc he4', hq, oI, ecq, edq]
          exact hk hlt _ _ _ ⟨rfl, d, L, rfl, h1, h2, h3, h4, hext (fun q' hq' h0' => by rw [hq] at hq'; cases hq'; exact ⟨kq, hd, by omega⟩)⟩
        | none =>
          have edq : v a3 q = jM := by rw [h2.2.1 q hq2, hd]; rfl
          have e3 : s2 v a3 q (nI key) a2 q = nI (co q) := by rw [s2_p ha2.1]; exact ecq
          have e4 : s2 v a3 q (nI key) 18 ((key + co q) % 10) = v 18 ((key + co q) % 10) := s2_p (fun e => ha3.1 e.symm)
          have hnL : ∀ b, b < 10 → q ∉ L b := by
            intro b hb hm
            obtain ⟨-, k', hk', -⟩ := ((h1.2.2.2.2.1 b hb).2 q).mp hm
            rw [hd] at hk'
            cases hk'
          have hqc : q ≠ c := nb_ne hq
          unfold gX2_spread_90
          simp (disch := omega) only [↓jM_e, li_0, li_1, li_2, li_3, li_4, li_5, li_6, li_7, li_8, li_9, li_10, li_13, li_14, li_15, li_16, li_31, li_35, li_47, li_48, li_49, li_50, li_57, li_99, li_100, li_126, li_139, li_140, li_149, li_150, li_280, li_284, li_285, li_290, li_434, li_1260, li_3472, li_9999, li_65536, nm, nm_w, sf_w, cp_w, ld_I, sa_I, nI_add, pk_mul, Nat.zero_add, nI_leI, nI_ltI, nI_eq, nI_neM, M_neI, nI_ltM, nI_nltM, M_ltI, M_leI, nI_nleM, bnd_some, if_pos, if_neg, dif_t, dif_f, nb_C hc he4', hq, oI, ecq, edq, e3, enq hq2, e4]
          have hb10 : (key + co q) % 10 < 10 := by omega
          refine hk hlt _ _ _ ⟨rfl, _, _, ?_, spM_label hco h1 hc h4 hkey hlt hq h0 hd, spV_label ha3 h2 hnL, ?_, ?_, ?_⟩
          · rw [smL_cons hb10]
            congr 1
            omega
          · have hr : q ∉ rest := by
              intro hm
              obtain ⟨-, k', hk', -⟩ := h1.2.2.2.2.2.2 q (List.mem_cons_of_mem _ hm)
              rw [hd] at hk'
              cases hk'
            have e19 : s2 (s2 (s2 v a3 q (nI key)) 19 q (v 18 ((key + co q) % 10))) 18 ((key + co q) % 10) (nI q) 19 = upd (v 19) q (v 18 ((key + co q) % 10)) := by
              rw [s2_ne (by decide), s2_upd, s2_ne (fun e => ha3.2 e.symm)]
            rw [e19, pk_un hqc.symm]
            exact Lst_upd hr h3
          · rw [if_neg hqc.symm]
            exact h4
          · intro e' he'
            by_cases hee : e' = e
            · subst hee
              intro q' hq' h0'
              rw [hq] at hq'
              cases hq'
              exact ⟨key, if_pos rfl, by omega⟩
            · intro q' hq' h0'
              obtain ⟨k', g1, g2⟩ := h5 e' (by omega) q' hq' h0'
              exact ⟨k', (if_neg (fun e => by rw [e, hd] at g1; cases g1)).trans g1, g2⟩
theorem sp_mid {l : List Nat} {x6 : Int32} (hco : ∀ c, c < 140 → co c ≤ 9) (hcost : ∀ c, c < 140 → v0 a2 c = nI (co c)) (ha2 : a2 ≠ a3 ∧ a2 ≠ 18 ∧ a2 ≠ 19) (ha3 : a3 ≠ 18 ∧ a3 ≠ 19) (hk1 : 1 ≤ key ∧ key ≤ 1260) (hK : 140 < K)
    (hQ : ∀ d L v, spM co t key [] d L → spV a3 v0 v d L → Q (k31 (nI (smL L 10)) (nI (key + 1)) v))
    (h1 : spM co t key l d L) (h2 : spV a3 v0 v d L) (h3 : Lst (v 19) x6 l) : Q (fx4 (gX2_spread_70 K a2 a3 k31 (nI key)) K (nI (smL L 10 + l.length)) x6 (nI 0) v) := by
  refine fx4_go (P := fun i x4 x6 x7 v => x7 = nI i ∧ ∃ d L l, x4 = nI (smL L 10 + l.length) ∧ spM co t key l d L ∧ spV a3 v0 v d L ∧ Lst (v 19) x6 l ∧ i + l.length ≤ 140) (Q := Q) (N := 140) ?_ ⟨rfl, d, L, l, rfl, h1, h2, h3, ?_⟩ hK
  · intro i x4 x6 x7 v hi ⟨e7, d, L, l, e4, h1, h2, h3, h4⟩ k70 hk
    subst e7 e4
    cases l with
    | nil =>
      have h3 : x6 = jM := h3
      subst h3
      unfold gX2_spread_70
      simp (disch := omega) only [↓jM_e, li_0, li_1, li_2, li_3, li_4, li_5, li_6, li_7, li_8, li_9, li_10, li_13, li_14, li_15, li_16, li_31, li_35, li_47, li_48, li_49, li_50, li_57, li_99, li_100, li_126, li_139, li_140, li_149, li_150, li_280, li_284, li_285, li_290, li_434, li_1260, li_3472, li_9999, li_65536, nm, nm_w, sf_w, cp_w, ld_I, sa_I, nI_add, pk_mul, Nat.zero_add, nI_leI, nI_ltI, nI_eq, nI_neM, M_neI, nI_ltM, nI_nltM, M_ltI, M_leI, nI_nleM, bnd_some, if_pos, if_neg, dif_t, dif_f, ite_self, List.length_nil, Nat.add_zero]
      exact hQ d L v h1 h2
    | cons c rest =>
      have hlen : (c :: rest).length = rest.length + 1 := rfl
      obtain ⟨e6, h3⟩ := h3
      subst e6
      obtain ⟨hc, k, hdk, hkk⟩ := h1.2.2.2.2.2.2 c List.mem_cons_self
      have hlt : i < 140 := by omega
      have ew : nI (smL L 10 + (c :: rest).length) + jM = nI (smL L 10 + rest.length) := by
        rw [hlen, ← Nat.add_assoc]
        exact pk_m1 _
      unfold gX2_spread_70
      simp (disch := omega) only [↓jM_e, li_0, li_1, li_2, li_3, li_4, li_5, li_6, li_7, li_8, li_9, li_10, li_13, li_14, li_15, li_16, li_31, li_35, li_47, li_48, li_49, li_50, li_57, li_99, li_100, li_126, li_139, li_140, li_149, li_150, li_280, li_284, li_285, li_290, li_434, li_1260, li_3472, li_9999, li_65536, nm, nm_w, sf_w, cp_w, ld_I, sa_I, nI_add, pk_mul, Nat.zero_add, nI_leI, nI_ltI, nI_eq, nI_neM, M_neI, nI_ltM, nI_nltM, M_ltI, M_leI, nI_nleM, bnd_some, if_pos, if_neg, dif_t, dif_f, ew]
      refine sp_in hco hcost ha2 ha3 hkk hk1 hc hlt (by omega) (fun d L v g1 g2 g3 g4 g5 => ?_) h1 h2 h3 hdk
      exact hk hlt _ _ _ _ ⟨rfl, d, L, rest, rfl, spM_next g1 (fun k' hk' => by rw [g4] at hk'; cases hk'; exact g5), g2, g3, by omega⟩
  · have := nod_len h1.2.2.2.2.2.1 (n := 140) (fun x hx => (h1.2.2.2.2.2.2 x hx).1)
    omega
theorem sp_out (hco : ∀ c, c < 140 → co c ≤ 9) (hcost : ∀ c, c < 140 → v0 a2 c = nI (co c)) (ha2 : a2 ≠ a3 ∧ a2 ≠ 18 ∧ a2 ≠ 19) (ha3 : a3 ≠ 18 ∧ a3 ≠ 19) (hK : 2000 < K)
    (hQ : ∀ d v, isD co t d → (∀ p, p ≠ a3 → p ≠ 18 → p ≠ 19 → v p = v0 p) → (∀ c, c < 140 → v a3 c = oI (d c)) → Q (some v))
    (h1 : spM co t 0 [] d L) (h2 : spV a3 v0 v d L) : Q (fx3 (gX2_spread_31 K a2 a3) K (nI (smL L 10)) (nI 1) v) := by
  refine fx3_go (P := fun j x4 x5 v => x5 = nI (j + 1) ∧ ∃ d L, x4 = nI (smL L 10) ∧ spM co t j [] d L ∧ spV a3 v0 v d L) (Q := Q) (N := 1260) ?_ ⟨rfl, d, L, rfl, h1, h2⟩ (by omega)
  intro j x4 x5 v hj ⟨e5, d, L, e4, h1, h2⟩ k31 hk
  subst e5 e4
  have hfin : (∀ c, c < 140 → ∀ k, d c = some k → k + co c ≤ j) → Q (some v) := fun h => hQ d v (spM_done h1 h) h2.1 h2.2.1
  have hlen : ∀ N, N ≤ 10 → smL L N ≤ 140 * N := by
    intro N
    induction N with
    | zero => exact fun _ => Nat.le_refl _
    | succ N ih =>
      intro hN
      have g1 := ih (by omega)
      have g2 := nod_len (h1.2.2.2.2.1 N (by omega)).1 (n := 140) (fun x hx => (((h1.2.2.2.2.1 N (by omega)).2 x).mp hx).1)
      show smL L N + (L N).length ≤ _
      omega
  have hl10 := hlen 10 (Nat.le_refl _)
  by_cases hj1 : j = 1260
  · subst hj1
    unfold gX2_spread_31
    simp (disch := omega) only [↓jM_e, li_0, li_1, li_2, li_3, li_4, li_5, li_6, li_7, li_8, li_9, li_10, li_13, li_14, li_15, li_16, li_31, li_35, li_47, li_48, li_49, li_50, li_57, li_99, li_100, li_126, li_139, li_140, li_149, li_150, li_280, li_284, li_285, li_290, li_434, li_1260, li_3472, li_9999, li_65536, nm, nm_w, sf_w, cp_w, ld_I, sa_I, nI_add, pk_mul, Nat.zero_add, nI_leI, nI_ltI, nI_eq, nI_neM, M_neI, nI_ltM, nI_nltM, M_ltI, M_leI, nI_nleM, bnd_some, if_pos, if_neg, dif_t, dif_f]
    refine hfin (fun c hc k hk => ?_)
    have g1 := (h1.2.1 c hc k hk).2.1
    have g2 : nLb d ≤ 140 := cnI_le
    have g3 := hco c hc
    omega
  · by_cases hw : smL L 10 = 0
    · unfold gX2_spread_31
      simp (disch := omega) only [↓jM_e, li_0, li_1, li_2, li_3, li_4, li_5, li_6, li_7, li_8, li_9, li_10, li_13, li_14, li_15, li_16, li_31, li_35, li_47, li_48, li_49, li_50, li_57, li_99, li_100, li_126, li_139, li_140, li_149, li_150, li_280, li_284, li_285, li_290, li_434, li_1260, li_3472, li_9999, li_65536, nm, nm_w, sf_w, cp_w, ld_I, sa_I, nI_add, pk_mul, Nat.zero_add, nI_leI, nI_ltI, nI_eq, nI_neM, M_neI, nI_ltM, nI_nltM, M_ltI, M_leI, nI_nleM, bnd_some, if_pos, if_neg, dif_t, dif_f]
      refine hfin (fun c hc k hk => ?_)
      rcases Nat.lt_or_ge j (k + co c) with hlt | hge
      · have hm := ((h1.2.2.2.2.1 ((k + co c) % 10) (by omega)).2 c).mpr ⟨hc, k, hk, hlt, rfl⟩
        rw [smL_0 hw _ (by omega)] at hm
        exact absurd hm List.not_mem_nil
      · exact hge
    · have hb10 : (j + 1) % 10 < 10 := by omega
      have erem : nI (j + 1) - nI (j + 1) / nI 10 * nI 10 = nI ((j + 1) % 10) := pk_rem (by omega) (by decide) (by decide)
      unfold gX2_spread_31
      simp (disch := omega) only [↓jM_e, li_0, li_1, li_2, li_3, li_4, li_5, li_6, li_7, li_8, li_9, li_10, li_13, li_14, li_15, li_16, li_31, li_35, li_47, li_48, li_49, li_50, li_57, li_99, li_100, li_126, li_139, li_140, li_149, li_150, li_280, li_284, li_285, li_290, li_434, li_1260, li_3472, li_9999, li_65536, nm, nm_w, sf_w, cp_w, ld_I, sa_I, nI_add, pk_mul, Nat.zero_add, nI_leI, nI_ltI, nI_eq, nI_neM, M_neI, nI_ltM, nI_nltM, M_ltI, M_leI, nI_nleM, bnd_some, if_pos, if_neg, dif_t, dif_f, erem]
      have hsum : smL L 10 = smL (fun b => if b = (j + 1) % 10 then [] else L b) 10 + (L ((j + 1) % 10)).length := (smL_nil hb10).symm
      rw [hsum]
      refine sp_mid hco hcost ha2 ha3 ⟨by omega, by omega⟩ (by omega) (fun d L v g1 g2 => ?_) (spM_pop hco h1) ?_ ?_
      · exact hk (by omega) _ _ _ ⟨rfl, d, L, rfl, g1, g2⟩
      · refine ⟨fun p g1 g2 g3 => ?_, fun c hc => ?_, fun b hb => ?_⟩
        · rw [s2_ne g2]; exact h2.1 p g1 g2 g3
        · rw [s2_p ha3.1]; exact h2.2.1 c hc
        · rw [s2_ne (q := 19) (by decide)]
          by_cases hbb : b = (j + 1) % 10
          · rw [hbb, s2_i]
            dsimp only
            rw [if_pos rfl]
            rfl
          · rw [s2_j hbb]
            dsimp only
            rw [if_neg hbb]
            exact h2.2.2 b hb
      · rw [s2_ne (q := 19) (by decide)]
        exact h2.2.2 _ hb10
/-- a row filled -/
theorem fill_ok {p N : Nat} {y : Int32} (hN : N ≤ 1000) (hK : 1000 < K) (hQ : ∀ v', (∀ q, q ≠ p → v' q = v q) → (∀ j, j < N → v' p j = y) → Q (some v')) : Q (fJ7_fill_53178 K p N y v) := by
  unfold fJ7_fill_53178
  rw [nm_w]
  refine fx2_go (P := fun i x2 v' => x2 = nI i ∧ (∀ q, q ≠ p → v' q = v q) ∧ ∀ j, j < i → v' p j = y) (Q := Q) (N := N) ?_ ⟨rfl, fun _ _ => rfl, fun j hj => absurd hj (Nat.not_lt_zero j)⟩ (by omega)
  intro i x2 v' hi ⟨e2, h1, h2⟩ k hk
  subst e2
  unfold gJ7_fill_53178_5
  by_cases hiN : i = N
  · subst hiN
    simp (disch := omega) only [↓jM_e, li_0, li_1, li_2, li_3, li_4, li_5, li_6, li_7, li_8, li_9, li_10, li_13, li_14, li_15, li_16, li_31, li_35, li_47, li_48, li_49, li_50, li_57, li_99, li_100, li_126, li_139, li_140, li_149, li_150, li_280, li_284, li_285, li_290, li_434, li_1260, li_3472, li_9999, li_65536, nm, nm_w, sf_w, cp_w, ld_I, sa_I, nI_add, pk_mul, Nat.zero_add, nI_leI, nI_ltI, nI_eq, nI_neM, M_neI, nI_ltM, nI_nltM, M_ltI, M_leI, nI_nleM, bnd_some, if_pos, if_neg, dif_t, dif_f]
    exact hQ v' h1 h2
  · simp (disch := omega) only [↓jM_e, li_0, li_1, li_2, li_3, li_4, li_5, li_6, li_7, li_8, li_9, li_10, li_13, li_14, li_15, li_16, li_31, li_35, li_47, li_48, li_49, li_50, li_57, li_99, li_100, li_126, li_139, li_140, li_149, li_150, li_280, li_284, li_285, li_290, li_434, li_1260, li_3472, li_9999, li_65536, nm, nm_w, sf_w, cp_w, ld_I, sa_I, nI_add, pk_mul, Nat.zero_add, nI_leI, nI_ltI, nI_eq, nI_neM, M_neI, nI_ltM, nI_nltM, M_ltI, M_leI, nI_nleM, bnd_some, if_pos, if_neg, dif_t, dif_f]
    refine hk (by omega) _ _ ⟨rfl, fun q hq => by rw [s2_ne hq]; exact h1 q hq, fun j hj => ?_⟩
    by_cases hji : j = i
    · rw [hji, s2_i]
    · rw [s2_j hji]; exact h2 j (by omega)
theorem fill_ex {p N : Nat} {y : Int32} (hN : N ≤ 1000) (hK : 1000 < K) : ∃ v', fJ7_fill_53178 K p N y v = some v' ∧ (∀ q, q ≠ p → v' q = v q) ∧ ∀ j, j < N → v' p j = y :=
  fill_ok (Q := fun o => ∃ v', o = some v' ∧ (∀ q, q ≠ p → v' q = v q) ∧ ∀ j, j < N → v' p j = y) hN hK (fun v' h1 h2 => ⟨v', rfl, h1, h2⟩)
set_option maxHeartbeats 1000000 in
theorem spread_ok (hco : ∀ c, c < 140 → co c ≤ 9) (hcost : ∀ c, c < 140 → v a2 c = nI (co c)) (ha2 : a2 ≠ a3 ∧ a2 ≠ 18 ∧ a2 ≠ 19) (ha3 : a3 ≠ 18 ∧ a3 ≠ 19) (ht : t < 140) (h0 : co t ≠ 0) (hK : 2000 < K) :
    ∃ v' d, fX2_spread K a2 a3 (nI t) v = some v' ∧ isD co t d ∧ (∀ p, p ≠ a3 → p ≠ 18 → p ≠ 19 → v' p = v p) ∧ ∀ c, c < 140 → v' a3 c = oI (d c) := by
  unfold fX2_spread
  simp only [↓jM_e, li_0, li_1, li_2, li_3, li_4, li_5, li_6, li_7, li_8, li_9, li_10, li_13, li_14, li_15, li_16, li_31, li_35, li_47, li_48, li_49, li_50, li_57, li_99, li_100, li_126, li_139, li_140, li_149, li_150, li_280, li_284, li_285, li_290, li_434, li_1260, li_3472, li_9999, li_65536]
  obtain ⟨v1, e1, f1, f2⟩ := fill_ex (K := K) (v := v) (p := a3) (N := 140) (y := jM) (by decide) (by omega)
  obtain ⟨v2, e2, g1, g2⟩ := fill_ex (K := K) (v := v1) (p := 18) (N := 10) (y := jM) (by decide) (by omega)
  rw [e1, bnd_some, e2, bnd_some]
  have hct := hco t ht
  have ec : s2 v2 a3 t (nI 0) a2 t = nI (co t) := by rw [s2_p ha2.1, g1 a2 ha2.2.1, f1 a2 ha2.1]; exact hcost t ht
  have hb10 : co t % 10 < 10 := by omega
  have e18 : s2 v2 a3 t (nI 0) 18 (co t % 10) = jM := by rw [s2_p (fun e => ha3.1 e.symm)]; exact g2 _ hb10
  simp (disch := omega) only [↓jM_e, li_0, li_1, li_2, li_3, li_4, li_5, li_6, li_7, li_8, li_9, li_10, li_13, li_14, li_15, li_16, li_31, li_35, li_47, li_48, li_49, li_50, li_57, li_99, li_100, li_126, li_139, li_140, li_149, li_150, li_280, li_284, li_285, li_290, li_434, li_1260, li_3472, li_9999, li_65536, nm, nm_w, sf_w, cp_w, ld_I, sa_I, nI_add, pk_mul, Nat.zero_add, nI_leI, nI_ltI, nI_eq, nI_neM, M_neI, nI_ltM, nI_nltM, M_ltI, M_leI, nI_nleM, bnd_some, if_pos, if_neg, dif_t, dif_f, ec, enq ht, e18]
  have hone : nI 1 = nI (smL (fun b => if b = co t % 10 then [t] else []) 10) := by
    have h2 := @smL_up (fun _ => []) (co t % 10) [t] 10
    rw [if_pos hb10, if_pos hb10] at h2
    have h3 : smL (fun _ => []) 10 = 0 := by decide
    rw [h3] at h2
    have h4 : smL (fun b => if b = co t % 10 then [t] else []) 10 = 1 := by
      have h5 : ([t] : List Nat).length = 1 := rfl
      have h6 : ([] : List Nat).length = 0 := rfl
      omega
    rw [h4]
  have hN1 : nLb (fun j => if j = t then some 0 else none) = 1 := by
    have := nLb_up (d := fun _ => none) (q := t) (k := 0) rfl ht
    have h2 : nLb (fun _ => none) = 0 := cnI_0
    rw [h2] at this
    exact this
  have hlab : ∀ c k, (if c = t then some 0 else none) = some k → c = t ∧ k = 0 := by
    intro c k h
    by_cases hct : c = t
    · rw [if_pos hct] at h; cases h; exact ⟨hct, rfl⟩
    · rw [if_neg hct] at h; cases h
  rw [show fx3 (gX2_spread_31 K a2 a3) K (nI 1) (nI 1) = fx3 (gX2_spread_31 K a2 a3) K (nI (smL (fun b => if b = co t % 10 then [t] else []) 10)) (nI 1) by rw [← hone]]
  refine sp_out (t := t) (d := fun j => if j = t then some 0 else none) (Q := fun o => ∃ v' d, o = some v' ∧ isD co t d ∧ (∀ p, p ≠ a3 → p ≠ 18 → p ≠ 19 → v' p = v p) ∧ ∀ c, c < 140 → v' a3 c = oI (d c)) (v0 := v) hco hcost ha2 ha3 hK (fun d v' q1 q2 q3 => ⟨v', d, rfl, q1, q2, q3⟩) ?_ ?_
  · refine ⟨if_pos rfl, fun c hc k hk => ?_, fun c hc k hk hle => ?_, fun c hc k hk => Or.inl (hlab c k hk).1, fun b hb => ?_, List.nodup_nil, fun c hc => absurd hc List.not_mem_nil⟩
    · obtain ⟨rfl, rfl⟩ := hlab c k hk
      exact ⟨h0, by rw [hN1]; exact Nat.le_refl _, Nat.le_refl _⟩
    · obtain ⟨rfl, rfl⟩ := hlab c k hk
      exact absurd hle (by omega)
    · by_cases hbb : b = co t % 10
      · show (if b = co t % 10 then [t] else []).Nodup ∧ ∀ c, c ∈ (if b = co t % 10 then [t] else []) ↔ _
        rw [if_pos hbb]
        refine ⟨List.nodup_cons.mpr ⟨List.not_mem_nil, List.nodup_nil⟩, fun c => ⟨fun hm => ?_, fun hm => ?_⟩⟩
        · have hct : c = t := List.mem_singleton.mp hm
          subst hct
          exact ⟨ht, 0, if_pos rfl, by omega, by rw [Nat.zero_add]; exact hbb.symm⟩
        · obtain ⟨-, k, hk, -⟩ := hm
          exact List.mem_singleton.mpr (hlab c k hk).1
      · show (if b = co t % 10 then [t] else []).Nodup ∧ ∀ c, c ∈ (if b = co t % 10 then [t] else []) ↔ _
        rw [if_neg hbb]
        refine ⟨List.nodup_nil, fun c => ⟨fun hm => absurd hm List.not_mem_nil, fun hm => ?_⟩⟩
        obtain ⟨-, k, hk, -, hb2⟩ := hm
        obtain ⟨rfl, rfl⟩ := hlab c k hk
        rw [Nat.zero_add] at hb2
        exact absurd hb2.symm hbb
  · refine ⟨fun p q1 q2 q3 => ?_, fun c hc => ?_, fun b hb => ?_⟩
    · rw [s2_ne q2, s2_ne q3, s2_ne q1, g1 p q2, f1 p q1]
    · rw [s2_p ha3.1, s2_p ha3.2]
      by_cases hcq : c = t
      · subst hcq
        rw [s2_i]
        dsimp only
        rw [if_pos rfl]
        rfl
      · rw [s2_j hcq]
        dsimp only
        rw [if_neg hcq, g1 a3 ha3.1]
        exact f2 c hc
    · have e19 : s2 (s2 (s2 v2 a3 t (nI 0)) 19 t jM) 18 (co t % 10) (nI t) 19 = upd (v2 19) t jM := by
        rw [s2_ne (by decide), s2_upd, s2_ne (fun e => ha3.2 e.symm)]
      rw [e19]
      by_cases hbb : b = co t % 10
      · rw [hbb, s2_i]
        dsimp only
        rw [if_pos rfl]
        exact ⟨rfl, pk_us⟩
      · rw [s2_j hbb, s2_p (by decide), s2_p (fun e => ha3.1 e.symm)]
        dsimp only
        rw [if_neg hbb]
        exact g2 b hb
end
