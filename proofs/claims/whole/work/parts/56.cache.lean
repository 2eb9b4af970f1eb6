/-! THE CACHES OF DISTANCES -/
theorem sRT_hi {p i : Nat} (h : 172 ≤ p) : sRT p i = 0 := by
  unfold sRT
  split <;> first | rfl | omega
theorem sAlB_lt {q : Nat} (h : sAlB q = true) : q < 37 ∨ (141 ≤ q ∧ q < 172) := by
  unfold sAlB at h
  rcases Bool.or_eq_true_iff.mp h with h | h
  · exact Or.inl (Nat.le_of_ble_eq_true h)
  · obtain ⟨h2, h3⟩ := Bool.and_eq_true_iff.mp h
    exact Or.inr ⟨Nat.le_of_ble_eq_true h2, Nat.le_of_ble_eq_true h3⟩
theorem sRT_st {p k t : Nat} (h : sRT p k = t + 1) : p < 36 ∨ (141 ≤ p ∧ p < 172) := by
  unfold sRT at h
  split at h <;> first | omega | cases h
theorem sHi_c {r r' : sR} {i : Nat} (hi : i < 8) (h : sHi r i) (e : ∀ p k, p = 36 ∨ (37 ≤ p ∧ p < 141) → (p = 36 → k = i) → r' p k = r p k) : sHi r' i := by
  rcases h with g | ⟨g1, g2, g3⟩
  · exact Or.inl ((e 36 i (Or.inl rfl) (fun _ => rfl)).trans g)
  · exact Or.inr ⟨(e 36 i (Or.inl rfl) (fun _ => rfl)).trans g1, fun j hj => (e _ _ (by omega) (by omega)).trans (g2 j hj), fun j hj => (e _ _ (by omega) (by omega)).trans (g3 j hj)⟩
theorem sSh_r2 {r : sR} {p i y : Nat} (h : sSh r) (h0 : sRT p i = 0) (hp : p = 15 ∨ 172 ≤ p) (hi : i ≠ gI) : sSh (r2 r p i y) := by
  refine ⟨fun q k t hq => ?_, fun q hq => ?_, fun j hj => sHi_c hj (h.2.2 j hj) (fun q k hq _ => by rw [r2_ne (by omega)])⟩
  · show (if q = p ∧ k = i then y else r q k) = t + 1
    rw [if_neg (fun e => by rw [e.1, e.2, h0] at hq; cases hq)]
    exact h.1 q k t hq
  · rw [r2_gI hi]
    exact h.2.1 q hq
theorem sSh_rz {r : sR} {n : Nat} (h : sSh r) (hn : 172 ≤ n) : sSh (rz r n) := by
  refine ⟨fun q k t hq => ?_, fun q hq => ?_, fun j hj => sHi_c hj (h.2.2 j hj) (fun q k hq _ => by rw [rz_row (by omega)])⟩
  · have := sRT_st hq
    rw [rz_row (by omega)]
    exact h.1 q k t hq
  · have := sAlB_lt hq
    rw [rz_row (by omega)]
    exact h.2.1 q hq
/-- a state of the ring that is not made is left out of the picture, and no reference leads to it -/
def nrf (r : sR) : Prop := ∀ i, i < 8 → r 36 i = 0 → (∀ j, j < 13 → r (37 + 13 * i + j) gI ≠ 0) ∧ ∀ j p k, j < 13 → r p k ≠ 37 + 13 * i + j + 1
theorem nrf_rz {r : sR} {n : Nat} (h : nrf r) (hn : 172 ≤ n) : nrf (rz r n) := by
  intro i hi h0
  rw [rz_row (by omega)] at h0
  obtain ⟨h1, h2⟩ := h i hi h0
  refine ⟨fun j hj => by rw [rz_row (by omega)]; exact h1 j hj, fun j p k hj => ?_⟩
  by_cases hp : p = n
  · rw [hp, rz_n]; omega
  · rw [rz_row hp]
    exact h2 j p k hj
theorem nrf_r2 {r : sR} {p0 i0 y : Nat} (h : nrf r) (hp : p0 < 36 ∨ 141 ≤ p0) (hy : 142 ≤ y) : nrf (r2 r p0 i0 y) := by
  intro i hi h0
  rw [r2_ne (by omega)] at h0
  obtain ⟨h1, h2⟩ := h i hi h0
  refine ⟨fun j hj => by rw [r2_ne (by omega)]; exact h1 j hj, fun j p k hj => ?_⟩
  unfold r2
  split
  · omega
  · exact h2 j p k hj
theorem wf_rz {r : sR} {n : Nat} (h : wf r n) : wf (rz r n) (n + 1) := by
  intro p k hp
  show (if p = n then 0 else r p k) ≤ n + 1
  by_cases hpn : p = n
  · rw [if_pos hpn]; omega
  · simp only [if_neg hpn]
    have := h p k (by omega)
    omega
theorem wf_r2 {r : sR} {n p i y : Nat} (h : wf r n) (hy : y ≤ n) : wf (r2 r p i y) n := by
  intro q k hq
  show (if q = p ∧ k = i then y else r q k) ≤ n
  split
  · exact hy
  · exact h q k hq
/-- the class's cache: the fields of the pool, a row of distances each -/
def cacC (co : Nat → Nat) (r : sR) (v : sV) (n : Nat) : Prop :=
  sSh r ∧ (wf r n ∧ nrf r ∧ ∀ i, i < 8 → (v 36 i = nI 1 ↔ r 36 i ≠ 0)) ∧ n = 172 + 2 * cnI (fun t => !decide (r 15 t = 0)) 140 + 26 * cnI (fun i => !decide (r 36 i = 0)) 8 ∧ (∀ c, c < 140 → v 17 c = jM) ∧
  (∀ t, t < 140 → r 15 t = 0 ∨ ∃ q, r 15 t = q + 1 ∧ 172 ≤ q ∧ okF r n q ∧ (v q 1 = nI 0 ∨ (v q 1 = nI 1 ∧ ∃ d, isD co t d ∧ ∀ c, c < 140 → v (q + 1) c = oI (d c)))) ∧
  ∀ t t', t < 140 → t' < 140 → r 15 t = r 15 t' → r 15 t = 0 ∨ t = t'
/-- the reference's cache -/
def cacM (co : Nat → Nat) (v : sV) : Prop := ∀ t, t < 140 → v 164 t = nI 0 ∨ (v 164 t = nI 1 ∧ ∃ d, isD co t d ∧ ∀ c, c < 140 → v 162 (140 * t + c) = oI (d c))
section
variable {co : Nat → Nat} {r : sR} {v : sV} {n K : Nat}
theorem cacC_n (h : cacC co r v n) : 172 ≤ n ∧ n ≤ 660 ∧ n % 2 = 0 := by
  have := h.2.2.1
  have h2 := @cnI_le (fun t => !decide (r 15 t = 0)) 140
  have h3 := @cnI_le (fun i => !decide (r 36 i = 0)) 8
  omega
theorem cacC_v {v' : sV} (h : cacC co r v n) (hv : ∀ p, (p = 17 ∨ p = 36 ∨ 172 ≤ p) → v' p = v p) : cacC co r v' n := by
  obtain ⟨h1, h2, h3, h4, h5, h6⟩ := h
  refine ⟨h1, ⟨h2.1, h2.2.1, fun i hi => by rw [hv 36 (by omega)]; exact h2.2.2 i hi⟩, h3, fun c hc => by rw [hv 17 (Or.inl rfl)]; exact h4 c hc, fun t ht => ?_, h6⟩
  rcases h5 t ht with g | ⟨q, g1, g2, g3, g4⟩
  · exact Or.inl g
  · refine Or.inr ⟨q, g1, g2, g3, ?_⟩
    rw [hv q (by omega), hv (q + 1) (by omega)]
    exact g4
theorem cacM_v {v' : sV} (h : cacM co v) (h1 : v' 164 = v 164) (h2 : v' 162 = v 162) : cacM co v' := by
  intro t ht
  rw [h1, h2]
  exact h t ht
theorem ldF_0 {β : Type} {t : Nat} (ht : t < 140) {f0 : Option β} {f1 : Nat → Option β} (h : r 15 t = 0) : ldF r (nI t) f0 f1 = f0 := by
  unfold ldF
  rw [nI_toInt (by omega), nI_clamp (by omega), if_pos ⟨by omega, by omega⟩, h]
theorem ldF_s {β : Type} {t q : Nat} (ht : t < 140) {f0 : Option β} {f1 : Nat → Option β} (h : r 15 t = q + 1) : ldF r (nI t) f0 f1 = f1 q := by
  unfold ldF
  rw [nI_toInt (by omega), nI_clamp (by omega), if_pos ⟨by omega, by omega⟩, h]
theorem far_go (hco : ∀ c, c < 140 → co c ≤ 9) (hcost : ∀ c, c < 140 → v 158 c = nI (co c)) (h : cacM co v) {t c : Nat} (ht : t < 140) (h0 : co t ≠ 0) (hc : c < 140) (hK : 400000 < K) :
    ∃ v', fX7_far K (nI t) (nI c) v = some (oI (dst co t c), v') ∧ cacM co v' ∧ (∀ p, p ≠ 162 → p ≠ 163 → p ≠ 164 → p ≠ 165 → v' p = v p) ∧ isD co t (dst co t) := by
  have hix : 140 * t + c < 19600 := by omega
  unfold fX7_far
  simp (disch := omega) only [↓jM_e, li_0, li_1, li_2, li_3, li_4, li_5, li_6, li_7, li_8, li_9, li_10, li_13, li_14, li_15, li_16, li_31, li_35, li_47, li_48, li_49, li_50, li_57, li_99, li_100, li_126, li_139, li_140, li_149, li_150, li_280, li_284, li_285, li_290, li_434, li_1260, li_3472, li_9999, li_65536, nm, nm_w, sf_w, cp_w, ld_I, sa_I, nI_add, pk_mul, Nat.zero_add, nI_leI, nI_ltI, nI_eq, nI_neM, M_neI, nI_ltM, nI_nltM, M_ltI, M_leI, nI_nleM, bnd_some, if_pos, if_neg, dif_t, dif_f]
  rcases h t ht with g | ⟨g, d, hd, hv⟩
  · simp (disch := omega) only [↓jM_e, li_0, li_1, li_2, li_3, li_4, li_5, li_6, li_7, li_8, li_9, li_10, li_13, li_14, li_15, li_16, li_31, li_35, li_47, li_48, li_49, li_50, li_57, li_99, li_100, li_126, li_139, li_140, li_149, li_150, li_280, li_284, li_285, li_290, li_434, li_1260, li_3472, li_9999, li_65536, nm, nm_w, sf_w, cp_w, ld_I, sa_I, nI_add, pk_mul, Nat.zero_add, nI_leI, nI_ltI, nI_eq, nI_neM, M_neI, nI_ltM, nI_nltM, M_ltI, M_leI, nI_nleM, bnd_some, if_pos, if_neg, dif_t, dif_f, g]
    obtain ⟨v', d, e, hd, f1, f2, f3, f4, f5⟩ := measures_ok hco hcost ht h0 hK
    refine ⟨v', ?_, ?_, f1, dst_is hd⟩
    · unfold bX7_far_14
      simp (disch := omega) only [↓jM_e, li_0, li_1, li_2, li_3, li_4, li_5, li_6, li_7, li_8, li_9, li_10, li_13, li_14, li_15, li_16, li_31, li_35, li_47, li_48, li_49, li_50, li_57, li_99, li_100, li_126, li_139, li_140, li_149, li_150, li_280, li_284, li_285, li_290, li_434, li_1260, li_3472, li_9999, li_65536, nm, nm_w, sf_w, cp_w, ld_I, sa_I, nI_add, pk_mul, Nat.zero_add, nI_leI, nI_ltI, nI_eq, nI_neM, M_neI, nI_ltM, nI_nltM, M_ltI, M_leI, nI_nleM, bnd_some, if_pos, if_neg, dif_t, dif_f, e]
      rw [f3 c hc, dst_eq hd hc]
    · intro t' ht'
      by_cases htt : t' = t
      · subst htt
        exact Or.inr ⟨f4, d, hd, f3⟩
      · rw [f5 t' htt]
        rcases h t' ht' with q | ⟨q1, d', q2, q3⟩
        · exact Or.inl q
        · refine Or.inr ⟨q1, d', q2, fun c hc => ?_⟩
          rw [f2 _ (by omega)]
          exact q3 c hc
  · simp (disch := omega) only [↓jM_e, li_0, li_1, li_2, li_3, li_4, li_5, li_6, li_7, li_8, li_9, li_10, li_13, li_14, li_15, li_16, li_31, li_35, li_47, li_48, li_49, li_50, li_57, li_99, li_100, li_126, li_139, li_140, li_149, li_150, li_280, li_284, li_285, li_290, li_434, li_1260, li_3472, li_9999, li_65536, nm, nm_w, sf_w, cp_w, ld_I, sa_I, nI_add, pk_mul, Nat.zero_add, nI_leI, nI_ltI, nI_eq, nI_neM, M_neI, nI_ltM, nI_nltM, M_ltI, M_leI, nI_nleM, bnd_some, if_pos, if_neg, dif_t, dif_f, g]
    unfold bX7_far_14
    simp (disch := omega) only [↓jM_e, li_0, li_1, li_2, li_3, li_4, li_5, li_6, li_7, li_8, li_9, li_10, li_13, li_14, li_15, li_16, li_31, li_35, li_47, li_48, li_49, li_50, li_57, li_99, li_100, li_126, li_139, li_140, li_149, li_150, li_280, li_284, li_285, li_290, li_434, li_1260, li_3472, li_9999, li_65536, nm, nm_w, sf_w, cp_w, ld_I, sa_I, nI_add, pk_mul, Nat.zero_add, nI_leI, nI_ltI, nI_eq, nI_neM, M_neI, nI_ltM, nI_nltM, M_ltI, M_leI, nI_nleM, bnd_some, if_pos, if_neg, dif_t, dif_f]
    exact ⟨v, by rw [hv c hc, dst_eq hd hc], h, fun _ _ _ _ _ => rfl, dst_is hd⟩
set_option maxHeartbeats 1000000 in
theorem toward_go {a2 : Nat} (hco : ∀ c, c < 140 → co c ≤ 9) (hcost : ∀ c, c < 140 → v a2 c = nI (co c)) (h : cacC co r v n) (ha2 : a2 < 172 ∧ a2 ≠ 17 ∧ a2 ≠ 18 ∧ a2 ≠ 19) {t : Nat} (ht : t < 140) (h0 : co t ≠ 0) (hK : 2000 < K) :
    ∃ q r' v' k, fX2_toward K a2 (nI t) r v n = some (q, r', v', k) ∧ cacC co r' v' (n + k) ∧ okF r' (n + k) q ∧ (∀ p, p < 172 → p ≠ 18 → p ≠ 19 → v' p = v p) ∧ isD co t (dst co t) ∧ (∀ c, c < 140 → v' (q + 1) c = oI (dst co t c)) ∧ (r' 15 t = q + 1 ∧ v' q 1 = nI 1) ∧ ∀ t0 q0, t0 < 140 → r 15 t0 = q0 + 1 → v q0 1 = nI 1 → r' 15 t0 = q0 + 1 ∧ v' q0 1 = nI 1 := by
  have hn := cacC_n h
  obtain ⟨h1, h2, h3, h4, h5, h6⟩ := id h
  have hct := hco t ht
  have htow : ∀ {o : Option (Nat × sR × sV × Nat)}, ldF r (nI t) (ck (sks n = (3, 2) ∧ wf r n) (nw r v n (fun rr2 v2 n2 => ck (sSh rr2) ((fX1_init K n rr2 v2 n2).bind (fun q9 => ac q9 n2 (fun _ rr3 v3 n3 => ck (sSh rr3 ∧ okF rr3 n3 n) (ck (inR (nI t) 140) (nm (r2 rr3 15 (nI t).toNatClampNeg (n + 1)) (fun rr4 => ck (sSh rr4 ∧ okF rr4 n3 n) (bX2_toward_48 K a2 (nI t) n rr4 v3 n3)))))))))) (fun f7 => ck (okF r n f7) (bX2_toward_48 K a2 (nI t) f7 r v n)) = o → fX2_toward K a2 (nI t) r v n = o := by
    intro o ho
    unfold fX2_toward
    simp (disch := omega) only [↓jM_e, li_0, li_1, li_2, li_3, li_4, li_5, li_6, li_7, li_8, li_9, li_10, li_13, li_14, li_15, li_16, li_31, li_35, li_47, li_48, li_49, li_50, li_57, li_99, li_100, li_126, li_139, li_140, li_149, li_150, li_280, li_284, li_285, li_290, li_434, li_1260, li_3472, li_9999, li_65536, nm, nm_w, sf_w, cp_w, ld_I, sa_I, nI_add, pk_mul, Nat.zero_add, nI_leI, nI_ltI, nI_eq, nI_neM, M_neI, nI_ltM, nI_nltM, M_ltI, M_leI, nI_nleM, bnd_some, if_pos, if_neg, dif_t, dif_f, hcost t ht]
    exact ho
  rcases h5 t ht with g | ⟨q, g1, g2, g3, g4⟩
  · have ef : fX1_init K n (rz r n) (vz v n) (n + 1) = fX1_init K n (rz r n) (vz v n) (n + 1) := rfl
    obtain ⟨v1, e1, f1, f2⟩ := fill_ex (K := K) (v := vz (vz v n) (n + 1)) (p := n + 1) (N := 140) (y := jM) (by decide) (by omega)
    have hk1 : sks n = (3, 2) := by
      unfold sks
      rw [if_neg (by omega), if_pos hn.2.2]
    have hk2 : sks (n + 1) = (10, 140) := by
      unfold sks
      rw [if_neg (by omega), if_neg (by omega)]
    have hw1 := wf_rz h2.1
    have hw2 := wf_rz hw1
    have e2 : fX1_init K n (rz r n) (vz v n) (n + 1) = some ((), r2 (rz (rz r n) (n + 1)) n 0 (n + 2), s2 v1 n 1 (nI 0), 1) := by
      unfold fX1_init
      rw [ck_i ⟨hk2, hw1⟩]
      unfold nw ac
      simp only [nm_w]
      rw [ck_i ⟨by unfold r2; rw [if_pos ⟨rfl, rfl⟩], by omega, by rw [r2_gI (by decide), rz_n]⟩]
      simp only [↓jM_e, li_0, li_1, li_2, li_3, li_4, li_5, li_6, li_7, li_8, li_9, li_10, li_13, li_14, li_15, li_16, li_31, li_35, li_47, li_48, li_49, li_50, li_57, li_99, li_100, li_126, li_139, li_140, li_149, li_150, li_280, li_284, li_285, li_290, li_434, li_1260, li_3472, li_9999, li_65536]
      rw [e1]
      rfl
    have hgn : ∀ q, q = n ∨ q = n + 1 → r2 (rz (rz r n) (n + 1)) n 0 (n + 2) q gI = 0 := by
      intro q hq
      rw [r2_gI (by decide)]
      by_cases e : q = n + 1
      · rw [e, rz_n]
      · rw [rz_row e, show q = n by omega, rz_n]
    have htg : t ≠ gI := by
      unfold gI
      omega
    have hsh2 : sSh (rz r n) := sSh_rz h1 hn.1
    have hsh3 : sSh (r2 (rz (rz r n) (n + 1)) n 0 (n + 2)) := sSh_r2 (sSh_rz hsh2 (by omega)) (sRT_hi hn.1) (Or.inr hn.1) (by decide)
    have hsh4 : sSh (r2 (r2 (rz (rz r n) (n + 1)) n 0 (n + 2)) 15 t (n + 1)) := sSh_r2 hsh3 rfl (Or.inl rfl) htg
    have hr0 : r2 (rz (rz r n) (n + 1)) n 0 (n + 2) n 0 = n + 2 := by unfold r2; rw [if_pos ⟨rfl, rfl⟩]
    have hok3 : okF (r2 (rz (rz r n) (n + 1)) n 0 (n + 2)) (n + 2) n := ⟨Or.inr ⟨hn.1, hn.2.2⟩, hr0, by omega, hgn n (Or.inl rfl), hgn (n + 1) (Or.inr rfl)⟩
    have hr0' : r2 (r2 (rz (rz r n) (n + 1)) n 0 (n + 2)) 15 t (n + 1) n 0 = n + 2 := by
      show (if n = 15 ∧ 0 = t then n + 1 else r2 (rz (rz r n) (n + 1)) n 0 (n + 2) n 0) = n + 2
      rw [if_neg (by omega), hr0]
    have hok4 : okF (r2 (r2 (rz (rz r n) (n + 1)) n 0 (n + 2)) 15 t (n + 1)) (n + 2) n := ⟨Or.inr ⟨hn.1, hn.2.2⟩, hr0', by omega, by rw [r2_gI htg]; exact hgn n (Or.inl rfl), by rw [r2_gI htg]; exact hgn (n + 1) (Or.inr rfl)⟩
    -- the spread
    have hv1 : ∀ p, p < 172 → s2 v1 n 1 (nI 0) p = v p := by
      intro p hp
      rw [s2_ne (by omega), f1 p (by omega)]
      funext j
      show (if p = n + 1 then 0 else if p = n then 0 else v p j) = v p j
      rw [if_neg (by omega), if_neg (by omega)]
    have hv2 : ∀ p, 172 ≤ p → p ≠ n → p ≠ n + 1 → s2 v1 n 1 (nI 0) p = v p := by
      intro p hp hpn hpn1
      rw [s2_ne hpn, f1 p hpn1]
      funext j
      show (if p = n + 1 then 0 else if p = n then 0 else v p j) = v p j
      simp only [if_neg hpn1, if_neg hpn]
    obtain ⟨w, d, e3, hd, w1, w2⟩ := spread_ok (co := co) (t := t) (a2 := a2) (a3 := n + 1) (K := K) (v := s2 v1 n 1 (nI 0)) hco (fun c hc => by rw [hv1 a2 ha2.1]; exact hcost c hc) ⟨by omega, ha2.2.2.1, ha2.2.2.2⟩ ⟨by omega, by omega⟩ ht h0 hK
    have ebt : bX2_toward_48 K a2 (nI t) n (r2 (r2 (rz (rz r n) (n + 1)) n 0 (n + 2)) 15 t (n + 1)) (s2 v1 n 1 (nI 0)) (n + 2) = some (n, r2 (r2 (rz (rz r n) (n + 1)) n 0 (n + 2)) 15 t (n + 1), s2 w n 1 (nI 1), 0) := by
      unfold bX2_toward_48
      simp only [↓jM_e, li_0, li_1, li_2, li_3, li_4, li_5, li_6, li_7, li_8, li_9, li_10, li_13, li_14, li_15, li_16, li_31, li_35, li_47, li_48, li_49, li_50, li_57, li_99, li_100, li_126, li_139, li_140, li_149, li_150, li_280, li_284, li_285, li_290, li_434, li_1260, li_3472, li_9999, li_65536]
      rw [s2_i, if_pos rfl, e3]
      rfl
    refine ⟨n, _, s2 w n 1 (nI 1), 2, htow (o := some (n, r2 (r2 (rz (rz r n) (n + 1)) n 0 (n + 2)) 15 t (n + 1), s2 w n 1 (nI 1), 2)) ?_, ?_, hok4, fun p hp hp18 hp19 => ?_, dst_is hd, fun c hc => ?_, ⟨by unfold r2; rw [if_pos ⟨rfl, rfl⟩], s2_i⟩, fun t0 q0 ht0 e0 ek => ?_⟩
    · rw [ldF_0 ht g, ck_i ⟨hk1, h2.1⟩]
      unfold nw
      unfold ac
      simp only []
      rw [ck_i hsh2, e2, bnd_some]
      dsimp only
      simp only [show n + 1 + 1 = n + 2 from rfl]
      rw [ck_i ⟨hsh3, hok3⟩, ck_i (show inR (nI t) 140 from ⟨by rw [nI_toInt (by omega)]; omega, by rw [nI_toInt (by omega)]; omega⟩), nm_w, nI_clamp (by omega), ck_i ⟨hsh4, hok4⟩, ebt]
      rfl
    · have hr15 : ∀ t', t' ≠ t → r2 (r2 (rz (rz r n) (n + 1)) n 0 (n + 2)) 15 t (n + 1) 15 t' = r 15 t' := by
        intro t' htt
        show (if 15 = 15 ∧ t' = t then n + 1 else if 15 = n ∧ t' = 0 then n + 2 else if 15 = n + 1 then 0 else if 15 = n then 0 else r 15 t') = r 15 t'
        rw [if_neg (fun e => htt e.2), if_neg (by omega), if_neg (by omega), if_neg (by omega)]
      have hr15t : r2 (r2 (rz (rz r n) (n + 1)) n 0 (n + 2)) 15 t (n + 1) 15 t = n + 1 := by unfold r2; rw [if_pos ⟨rfl, rfl⟩]
      have hrq : ∀ q, 172 ≤ q → q + 1 < n → r2 (r2 (rz (rz r n) (n + 1)) n 0 (n + 2)) 15 t (n + 1) q 0 = r q 0 := by
        intro q hq hqn
        show (if q = 15 ∧ 0 = t then n + 1 else if q = n ∧ 0 = 0 then n + 2 else if q = n + 1 then 0 else if q = n then 0 else r q 0) = r q 0
        rw [if_neg (by omega), if_neg (by omega), if_neg (by omega), if_neg (by omega)]
      have hr36 : r2 (r2 (rz (rz r n) (n + 1)) n 0 (n + 2)) 15 t (n + 1) 36 = r 36 := by
        rw [r2_ne (by decide), r2_ne (by omega), rz_row (by omega), rz_row (by omega)]
      have hrg : ∀ q, 172 ≤ q → q < n → r2 (r2 (rz (rz r n) (n + 1)) n 0 (n + 2)) 15 t (n + 1) q = r q := by
        intro q hq hqn
        rw [r2_ne (by omega), r2_ne (by omega), rz_row (by omega), rz_row (by omega)]
      refine ⟨hsh4, ⟨wf_r2 (wf_r2 (wf_rz (wf_rz h2.1)) (by omega)) (by omega), nrf_r2 (nrf_r2 (nrf_rz (nrf_rz h2.2.1 (by omega)) (by omega)) (by omega) (by omega)) (by decide) (by omega), fun i hi => ?_⟩, ?_, fun c hc => ?_, fun t' ht' => ?_, fun t1 t2 ht1 ht2 he => ?_⟩
      · rw [hr36, s2_p (by omega), w1 36 (by omega) (by decide) (by decide), hv1 36 (by decide)]
        exact h2.2.2 i hi
      · rw [hr36]
        have : cnI (fun t' => !decide (r2 (r2 (rz (rz r n) (n + 1)) n 0 (n + 2)) 15 t (n + 1) 15 t' = 0)) 140 = cnI (fun t' => if t' = t then true else !decide (r 15 t' = 0)) 140 := by
          refine cnI_c (fun t' _ => ?_)
          by_cases htt : t' = t
          · subst htt
            rw [hr15t, if_pos rfl]
            simp
          · rw [hr15 t' htt, if_neg htt]
        rw [this, cnI_up (P := fun t => !decide (r 15 t = 0)) (by simp [g]) ht]
        omega
      · rw [s2_p (by omega), w1 17 (by omega) (by decide) (by decide), hv1 17 (by decide)]
        exact h4 c hc
      · by_cases htt : t' = t
        · subst htt
          refine Or.inr ⟨n, hr15t, hn.1, hok4, Or.inr ⟨s2_i, d, hd, fun c hc => ?_⟩⟩
          rw [s2_p (by omega)]
          exact w2 c hc
        · rw [hr15 t' htt]
          rcases h5 t' ht' with q1 | ⟨q, q1, q2, q3, q4⟩
          · exact Or.inl q1
          · have hq3 := q3.2.2.1
            refine Or.inr ⟨q, q1, q2, ⟨q3.1, by rw [hrq q q2 hq3]; exact q3.2.1, by omega, by rw [hrg q q2 (by omega)]; exact q3.2.2.2.1, by rw [hrg (q + 1) (by omega) (by omega)]; exact q3.2.2.2.2⟩, ?_⟩
            have hv : ∀ p, 172 ≤ p → p < n → s2 w n 1 (nI 1) p = v p := by
              intro p hp hpn
              rw [s2_ne (by omega), w1 p (by omega) (by omega) (by omega), hv2 p hp (by omega) (by omega)]
            rw [hv q q2 (by omega), hv (q + 1) (by omega) (by omega)]
            exact q4
      · have hsmall : ∀ t', t' < 140 → r 15 t' ≤ n - 1 := by
          intro t' ht'
          rcases h5 t' ht' with q1 | ⟨q, q1, q2, q3, q4⟩
          · omega
          · have := q3.2.2.1
            omega
        by_cases e1 : t1 = t
        · by_cases e2 : t2 = t
          · exact Or.inr (e1.trans e2.symm)
          · rw [e1, hr15t, hr15 t2 e2] at he
            have := hsmall t2 ht2
            omega
        · by_cases e2 : t2 = t
          · rw [e2, hr15t, hr15 t1 e1] at he
            have := hsmall t1 ht1
            omega
          · rw [hr15 t1 e1, hr15 t2 e2] at he
            rw [hr15 t1 e1]
            exact h6 t1 t2 ht1 ht2 he
    · rw [s2_ne (by omega), w1 p (by omega) hp18 hp19, hv1 p hp]
    · rw [s2_p (by omega), w2 c hc, dst_eq hd hc]
    · have htt : t0 ≠ t := by
        intro e
        rw [e, g] at e0
        cases e0
      rcases h5 t0 ht0 with q1 | ⟨q, q1, q2, q3, q4⟩
      · rw [q1] at e0; cases e0
      · have hq3 := q3.2.2.1
        have eqq : q = q0 := by omega
        subst eqq
        refine ⟨?_, ?_⟩
        · show (if 15 = 15 ∧ t0 = t then n + 1 else if 15 = n ∧ t0 = 0 then n + 2 else if 15 = n + 1 then 0 else if 15 = n then 0 else r 15 t0) = q + 1
          rw [if_neg (fun e => htt e.2), if_neg (by omega), if_neg (by omega), if_neg (by omega)]
          exact e0
        · rw [s2_ne (by omega), w1 q (by omega) (by omega) (by omega), hv2 q q2 (by omega) (by omega)]
          exact ek
  · have hq3 := g3.2.2.1
    rcases g4 with g4 | ⟨g4, d, hd, hv⟩
    · obtain ⟨w, d, e3, hd, w1, w2⟩ := spread_ok (co := co) (t := t) (a2 := a2) (a3 := q + 1) (K := K) (v := v) hco hcost ⟨by omega, ha2.2.2.1, ha2.2.2.2⟩ ⟨by omega, by omega⟩ ht h0 hK
      refine ⟨q, r, s2 w q 1 (nI 1), 0, htow (o := some (q, r, s2 w q 1 (nI 1), 0)) ?_, ⟨h1, ⟨h2.1, h2.2.1, fun i hi => by rw [s2_p (by omega), w1 36 (by omega) (by decide) (by decide)]; exact h2.2.2 i hi⟩, h3, fun c hc => ?_, fun t' ht' => ?_, h6⟩, g3, fun p hp hp18 hp19 => ?_, dst_is hd, fun c hc => ?_, ⟨g1, s2_i⟩, fun t0 q0 ht0 e0 ek => ?_⟩
      · rw [ldF_s ht g1, ck_i g3]
        unfold bX2_toward_48
        simp only [↓jM_e, li_0, li_1, li_2, li_3, li_4, li_5, li_6, li_7, li_8, li_9, li_10, li_13, li_14, li_15, li_16, li_31, li_35, li_47, li_48, li_49, li_50, li_57, li_99, li_100, li_126, li_139, li_140, li_149, li_150, li_280, li_284, li_285, li_290, li_434, li_1260, li_3472, li_9999, li_65536]
        rw [g4, if_pos rfl, e3]
        rfl
      · rw [s2_p (by omega), w1 17 (by omega) (by decide) (by decide)]
        exact h4 c hc
      · by_cases htt : t' = t
        · subst htt
          refine Or.inr ⟨q, g1, g2, g3, Or.inr ⟨s2_i, d, hd, fun c hc => ?_⟩⟩
          rw [s2_p (by omega)]
          exact w2 c hc
        · rcases h5 t' ht' with q1 | ⟨q', q1, q2, q3, q4⟩
          · exact Or.inl q1
          · refine Or.inr ⟨q', q1, q2, q3, ?_⟩
            have hqq : q' ≠ q := by
              intro e
              rcases h6 t' t ht' ht (by rw [q1, g1, e]) with e1 | e1
              · rw [e1] at q1; cases q1
              · exact htt e1
            have hpar : q' ≠ q + 1 ∧ q' + 1 ≠ q := by
              have p1 := q3.1
              have p2 := g3.1
              omega
            rw [s2_ne hqq, s2_ne (q := q' + 1) (by omega), w1 q' hpar.1 (by omega) (by omega), w1 (q' + 1) (by omega) (by omega) (by omega)]
            exact q4
      · rw [s2_ne (by omega), w1 p (by omega) hp18 hp19]
      · rw [s2_p (by omega), w2 c hc, dst_eq hd hc]
      · refine ⟨e0, ?_⟩
        have hqq : q0 ≠ q := by
          intro e
          rw [e, g4] at ek
          exact absurd ek (by decide)
        rcases h5 t0 ht0 with q1 | ⟨q', q1, q2, q3, q4⟩
        · rw [q1] at e0; cases e0
        · have eqq : q' = q0 := by omega
          subst eqq
          have p1 := q3.1
          have p2 := g3.1
          rw [s2_ne hqq, w1 q' (by omega) (by omega) (by omega)]
          exact ek
    · refine ⟨q, r, v, 0, htow (o := some (q, r, v, 0)) ?_, h, g3, fun _ _ _ _ => rfl, dst_is hd, fun c hc => by rw [hv c hc, dst_eq hd hc], ⟨g1, g4⟩, fun _ _ _ e0 ek => ⟨e0, ek⟩⟩
      rw [ldF_s ht g1, ck_i g3]
      unfold bX2_toward_48
      simp only [↓jM_e, li_0, li_1, li_2, li_3, li_4, li_5, li_6, li_7, li_8, li_9, li_10, li_13, li_14, li_15, li_16, li_31, li_35, li_47, li_48, li_49, li_50, li_57, li_99, li_100, li_126, li_139, li_140, li_149, li_150, li_280, li_284, li_285, li_290, li_434, li_1260, li_3472, li_9999, li_65536]
      rw [g4, if_neg (by decide)]
theorem toward_M {a2 : Nat} : fX2_toward K a2 jM r v n = some (16, r, v, 0) := by
  unfold fX2_toward
  simp (disch := omega) only [↓jM_e, li_0, li_1, li_2, li_3, li_4, li_5, li_6, li_7, li_8, li_9, li_10, li_13, li_14, li_15, li_16, li_31, li_35, li_47, li_48, li_49, li_50, li_57, li_99, li_100, li_126, li_139, li_140, li_149, li_150, li_280, li_284, li_285, li_290, li_434, li_1260, li_3472, li_9999, li_65536, nm, nm_w, sf_w, cp_w, ld_I, sa_I, nI_add, pk_mul, Nat.zero_add, nI_leI, nI_ltI, nI_eq, nI_neM, M_neI, nI_ltM, nI_nltM, M_ltI, M_leI, nI_nleM, bnd_some, if_pos, if_neg, dif_t, dif_f]
end
