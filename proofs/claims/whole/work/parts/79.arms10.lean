/-! feed, undo, save, restore, map -/
section
variable {v : sV} {K n : Nat} {r : sR} {W : aW} {B : Nat} {x : Int64 × UInt64}
theorem ckc_y {β : Type} {c : Int32} {o : Option β} (h : 0 ≤ c.toInt ∧ c.toInt < 65536) : ckc c o = o := if_pos h
theorem ck_char (y : Int32) : 0 ≤ ((y.toUInt32 % 65536).toInt32).toInt ∧ ((y.toUInt32 % 65536).toInt32).toInt < 65536 := by
  rw [pk_char, nI_toInt (by omega)]
  omega
theorem a_24 (c : Int32) (hc : 0 ≤ c.toInt ∧ c.toInt < 65536) (hC : CW W r v n) (hM : MW W v) (hI : IW B W) : OUT B (fL_feed c r v n x) (fX7_feed c) PI n := by
  obtain ⟨S, ⟨cc, nx⟩, H, sv, le, L⟩ := W
  have hle : le ≤ 150 := hI.2.2.2.2.2
  by_cases h1 : le = 150
  · subst h1
    refine fin_thr hC hM hI (code := 1) (z := nI 0) (x' := x) (by decide) ?_ (fun w hw => ?_)
    · have e : v 154 1 = nI 150 := hC.2.2.2.2.2.1
      unfold fL_feed fX6_feed fX4_isFull
      simp (disch := omega) only [↓jM_e, li_0, li_1, li_2, li_3, li_4, li_5, li_6, li_7, li_8, li_9, li_10, li_13, li_14, li_15, li_16, li_31, li_35, li_47, li_48, li_49, li_50, li_57, li_99, li_100, li_126, li_139, li_140, li_149, li_150, li_280, li_284, li_285, li_290, li_434, li_1260, li_3472, li_9999, li_65536, nm, nm_w, sf_w, cp_w, ld_I, sa_I, nI_add, pk_mul, Nat.zero_add, nI_leI, nI_ltI, nI_eq, nI_neM, M_neI, nI_ltM, nI_nltM, M_ltI, M_leI, nI_nleM, bnd_some, if_pos, if_neg, dif_t, dif_f, e]
      rfl
    · have e : w 157 15 = nI 150 := hw.2.2.2.2.1
      unfold fX7_feed bX7_feed_16
      simp (disch := omega) only [↓jM_e, li_0, li_1, li_2, li_3, li_4, li_5, li_6, li_7, li_8, li_9, li_10, li_13, li_14, li_15, li_16, li_31, li_35, li_47, li_48, li_49, li_50, li_57, li_99, li_100, li_126, li_139, li_140, li_149, li_150, li_280, li_284, li_285, li_290, li_434, li_1260, li_3472, li_9999, li_65536, nm, nm_w, sf_w, cp_w, ld_I, sa_I, nI_add, pk_mul, Nat.zero_add, nI_leI, nI_ltI, nI_eq, nI_neM, M_neI, nI_ltM, nI_nltM, M_ltI, M_leI, nI_nleM, bnd_some, if_pos, if_neg, dif_t, dif_f, e, s2_i]
  · have e : v 154 1 = nI le := hC.2.2.2.2.2.1
    have hlt : le < 150 := by omega
    obtain ⟨g1, g2, g3, g4, g5, g6⟩ := hC
    have hC' : CW (S, (cc, nx), H, sv, le + 1, upd L le c) r (s2 (s2 v 155 le c) 154 1 (nI (le + 1))) (n + 0) := by
      refine ⟨rcF g1 (fun p p1 p2 => by rw [s2_ne (by omega), s2_ne (by omega)]), cacC_v g2 (fun p hp => by rw [s2_ne (by omega), s2_ne (by omega)]), ?_, ⟨fun k hk => rcF (g4.1 k hk) (fun p p1 p2 => ?_), fun k hk => by rw [s2_ne (by decide), s2_ne (by decide)]; exact g4.2 k hk⟩, ?_, ?_, fun i hi => ?_⟩
      · rw [s2_ne (by decide), s2_ne (by decide)]; exact g3
      · have := @slot_b nx cc k
        have p2 : p < slot nx cc k + 13 := p2
        rw [s2_ne (by omega), s2_ne (by omega)]
      · rw [s2_ne (by decide), s2_ne (by decide)]
        exact ⟨g5.1, fun S' hS' => rcF (g5.2 S' hS') (fun p p1 p2 => by rw [s2_ne (by omega), s2_ne (by omega)])⟩
      · exact s2_i
      · rw [s2_ne (by decide), s2_upd]
        show upd (v 155) le c i = upd L le c i
        have hi : i < le + 1 := hi
        by_cases hie : i = le
        · rw [hie, pk_us, pk_us]
        · rw [pk_un hie, pk_un hie]
          exact g6.2 i (show i < le by omega)
    refine fin_ok (W' := (S, (cc, nx), H, sv, le + 1, upd L le c)) (code := nI 0) (x' := ((nI (le + 1)).toInt64, x.2)) hM (k1 := 0) (r1 := r) (v1 := s2 (s2 v 155 le c) 154 1 (nI (le + 1))) ?_ hC' (fun p p1 p2 => by rw [s2_ne (by omega), s2_ne (by omega)]) ⟨hI.1, hI.2.1, hI.2.2.1, hI.2.2.2.1, hI.2.2.2.2.1, hlt⟩ (fun w hw => ?_)
    · unfold fL_feed fX6_feed fX4_append fX4_isFull
      simp (disch := omega) only [↓jM_e, li_0, li_1, li_2, li_3, li_4, li_5, li_6, li_7, li_8, li_9, li_10, li_13, li_14, li_15, li_16, li_31, li_35, li_47, li_48, li_49, li_50, li_57, li_99, li_100, li_126, li_139, li_140, li_149, li_150, li_280, li_284, li_285, li_290, li_434, li_1260, li_3472, li_9999, li_65536, nm, nm_w, sf_w, cp_w, ld_I, sa_I, nI_add, pk_mul, Nat.zero_add, nI_leI, nI_ltI, nI_eq, nI_neM, M_neI, nI_ltM, nI_nltM, M_ltI, M_leI, nI_nleM, bnd_some, if_pos, if_neg, dif_t, dif_f, e, ckc_y hc, s2_i, s2_p (show (154 : Nat) ≠ 155 by decide)]
      rfl
    · have e7 : w 157 15 = nI le := hw.2.2.2.2.1
      refine ⟨nI (le + 1), s2 (s2 (s2 w 157 6 (nI 0)) 168 le c) 157 15 (nI (le + 1)), ?_, ?_, fun _ => rfl, ?_, fun p hp => by rw [s2_ne (by omega), s2_ne (by omega), s2_ne (by omega)]⟩
      · have hn150 : ¬ nI le = nI 150 := by rw [nI_eq (by omega) (by decide)]; exact h1
        unfold fX7_feed bX7_feed_16
        simp (disch := omega) only [↓jM_e, li_0, li_1, li_2, li_3, li_4, li_5, li_6, li_7, li_8, li_9, li_10, li_13, li_14, li_15, li_16, li_31, li_35, li_47, li_48, li_49, li_50, li_57, li_99, li_100, li_126, li_139, li_140, li_149, li_150, li_280, li_284, li_285, li_290, li_434, li_1260, li_3472, li_9999, li_65536, nm, nm_w, sf_w, cp_w, ld_I, sa_I, nI_add, pk_mul, Nat.zero_add, nI_leI, nI_ltI, nI_eq, nI_neM, M_neI, nI_ltM, nI_nltM, M_ltI, M_leI, nI_nleM, bnd_some, if_pos, if_neg, dif_t, dif_f, e7, s2_i, s2_j (show (15 : Nat) ≠ 6 by decide), s2_p (show (157 : Nat) ≠ 168 by decide)]
      · rw [s2_j (by decide), s2_p (by decide), s2_i]
      · obtain ⟨m1, m2, m3, m4, m5⟩ := hw
        have hv : ∀ p, p ≠ 157 → p ≠ 168 → s2 (s2 (s2 w 157 6 (nI 0)) 168 le c) 157 15 (nI (le + 1)) p = w p := fun p p1 p2 => by rw [s2_ne p1, s2_ne p2, s2_ne p1]
        refine ⟨⟨by rw [hv 158 (by decide) (by decide)]; exact m1.1, cacM_v m1.2 (hv 164 (by decide) (by decide)) (hv 162 (by decide) (by decide))⟩, ?_, ?_, ?_, ?_, fun i hi => ?_⟩
        · rw [s2_j (by decide), s2_p (by decide), s2_j (by decide)]; exact m2
        · rw [hv 161 (by decide) (by decide)]; exact m3
        · rw [hv 159 (by decide) (by decide), s2_j (by decide), s2_p (by decide), s2_j (by decide)]; exact m4
        · exact s2_i
        · rw [s2_ne (by decide), s2_upd, s2_ne (by decide)]
          show upd (w 168) le c i = upd L le c i
          have hi : i < le + 1 := hi
          by_cases hie : i = le
          · rw [hie, pk_us, pk_us]
          · rw [pk_un hie, pk_un hie]
            exact m5.2 i (show i < le by omega)
/-- the reference's copies -/
theorem un_M {S : aS} {w : sV} {c : Nat} (h5 : w 157 5 = nI c) (hc : c < 8) (hr : RelM S (fun j => w 161 (434 * c + j))) (hK : 4000 < K) : ∃ w2, fx2 (gX7_undo_37 K) K (nI 0) w = some (nI c, w2) ∧ mI S w2 ∧ ∀ p, p ≠ 158 → p ≠ 164 → w2 p = w p := by
  refine fx2_go (P := fun t x1 (u : sV) => x1 = nI t ∧ (∀ p, p ≠ 158 → u p = w p) ∧ ∀ j, j < t → u 158 j = w 161 (434 * c + j)) (Q := fun o => ∃ w2, o = some (nI c, w2) ∧ mI S w2 ∧ ∀ p, p ≠ 158 → p ≠ 164 → w2 p = w p) (N := 434) ?_ ⟨rfl, fun _ _ => rfl, fun j hj => absurd hj (Nat.not_lt_zero j)⟩ (by omega)
  intro t x1 u ht ⟨e1, h1, h2⟩ k hk
  subst e1
  unfold gX7_undo_37
  by_cases ht1 : t = 434
  · subst ht1
    obtain ⟨w2, f1, f2, f3⟩ := forget_M (K := K) (v := u) (RelM_c hr (fun j hj => h2 j hj)) (by omega)
    have e5 : w2 157 5 = nI c := by rw [f3 157 (by decide), h1 157 (by decide)]; exact h5
    simp (disch := omega) only [↓jM_e, li_0, li_1, li_2, li_3, li_4, li_5, li_6, li_7, li_8, li_9, li_10, li_13, li_14, li_15, li_16, li_31, li_35, li_47, li_48, li_49, li_50, li_57, li_99, li_100, li_126, li_139, li_140, li_149, li_150, li_280, li_284, li_285, li_290, li_434, li_1260, li_3472, li_9999, li_65536, nm, nm_w, sf_w, cp_w, ld_I, sa_I, nI_add, pk_mul, Nat.zero_add, nI_leI, nI_ltI, nI_eq, nI_neM, M_neI, nI_ltM, nI_nltM, M_ltI, M_leI, nI_nleM, bnd_some, if_pos, if_neg, dif_t, dif_f, f1, e5]
    exact ⟨w2, rfl, f2, fun p p1 p2 => by rw [f3 p p2, h1 p p1]⟩
  · have hlt : t < 434 := by omega
    have e5 : u 157 5 = nI c := by rw [h1 157 (by decide)]; exact h5
    have hix : 434 * c + t < 3472 := by omega
    have e161 : u 161 (434 * c + t) = w 161 (434 * c + t) := by rw [h1 161 (by decide)]
    simp (disch := omega) only [↓jM_e, li_0, li_1, li_2, li_3, li_4, li_5, li_6, li_7, li_8, li_9, li_10, li_13, li_14, li_15, li_16, li_31, li_35, li_47, li_48, li_49, li_50, li_57, li_99, li_100, li_126, li_139, li_140, li_149, li_150, li_280, li_284, li_285, li_290, li_434, li_1260, li_3472, li_9999, li_65536, nm, nm_w, sf_w, cp_w, ld_I, sa_I, nI_add, pk_mul, Nat.zero_add, nI_leI, nI_ltI, nI_eq, nI_neM, M_neI, nI_ltM, nI_nltM, M_ltI, M_leI, nI_nleM, bnd_some, if_pos, if_neg, dif_t, dif_f, e5, e161]
    refine hk hlt _ _ ⟨rfl, fun p hp => by rw [s2_ne hp]; exact h1 p hp, fun j hj => ?_⟩
    rw [s2_upd]
    by_cases hjt : j = t
    · rw [hjt, pk_us]
    · rw [pk_un hjt]
      exact h2 j (by omega)
theorem sl_u {c nx k : Nat} (hc : 1 ≤ c) (hc8 : c ≤ 8) (hnx : nx < 8) : slot ((nx + 7) % 8) (c - 1) k = slot nx c k := by
  unfold slot
  omega
theorem sl_t {c nx : Nat} (hc : 1 ≤ c) (hc8 : c ≤ 8) (hnx : nx < 8) : slot nx c (c - 1) = 37 + 13 * ((nx + 7) % 8) := by
  unfold slot
  omega
theorem a_27 (hC : CW W r v n) (hM : MW W v) (hI : IW B W) (hK : 400000 < K) : OUT B (fL_undo K r v n x) (fX7_undo K) PI n := by
  obtain ⟨S, ⟨c, nx⟩, H, sv, le, L⟩ := W
  have hc8 : c ≤ 8 := hI.2.2.2.1
  have hnx : nx < 8 := hI.2.2.2.2.1
  have hsh := hC.2.1.1
  by_cases h0 : c = 0
  · subst h0
    refine fin_thr hC hM hI (code := 1) (z := nI 0) (x' := x) (by decide) ?_ (fun w hw => ?_)
    · have e : v 35 2 = nI 0 := hC.2.2.1.1
      unfold fL_undo fX6_undo
      simp (disch := omega) only [↓jM_e, li_0, li_1, li_2, li_3, li_4, li_5, li_6, li_7, li_8, li_9, li_10, li_13, li_14, li_15, li_16, li_31, li_35, li_47, li_48, li_49, li_50, li_57, li_99, li_100, li_126, li_139, li_140, li_149, li_150, li_280, li_284, li_285, li_290, li_434, li_1260, li_3472, li_9999, li_65536, nm, nm_w, sf_w, cp_w, ld_I, sa_I, nI_add, pk_mul, Nat.zero_add, nI_leI, nI_ltI, nI_eq, nI_neM, M_neI, nI_ltM, nI_nltM, M_ltI, M_leI, nI_nleM, bnd_some, if_pos, if_neg, dif_t, dif_f, e]
      rfl
    · have e : w 157 5 = nI 0 := hw.2.1
      unfold fX7_undo bX7_undo_13
      simp (disch := omega) only [↓jM_e, li_0, li_1, li_2, li_3, li_4, li_5, li_6, li_7, li_8, li_9, li_10, li_13, li_14, li_15, li_16, li_31, li_35, li_47, li_48, li_49, li_50, li_57, li_99, li_100, li_126, li_139, li_140, li_149, li_150, li_280, li_284, li_285, li_290, li_434, li_1260, li_3472, li_9999, li_65536, nm, nm_w, sf_w, cp_w, ld_I, sa_I, nI_add, pk_mul, Nat.zero_add, nI_leI, nI_ltI, nI_eq, nI_neM, M_neI, nI_ltM, nI_nltM, M_ltI, M_leI, nI_nleM, bnd_some, if_pos, if_neg, dif_t, dif_f, e, s2_i]
  · have hc1 : 1 ≤ c := by omega
    obtain ⟨g1, g2, ⟨g3, g3'⟩, g4, g5, g6⟩ := hC
    have g3 : v 35 2 = nI c := g3
    have g3' : v 35 1 = nI nx := g3'
    have hrem : nI (nx + 8 - 1) - nI (nx + 8 - 1) / nI 8 * nI 8 = nI ((nx + 7) % 8) := pk_rem (by omega) (by decide) (by decide)
    obtain ⟨v1, ec, f1, f2⟩ := copy_ok (v := v) (b := 1) (d := 37 + 13 * ((nx + 7) % 8)) (by omega)
    have hmade : r 36 ((nx + 7) % 8) = 37 + 13 * ((nx + 7) % 8) + 1 := by
      have h1 := g4.2 (c - 1) (show c - 1 < c by omega)
      have h1 : v 36 ((nx + 8 - c + (c - 1)) % 8) = nI 1 := h1
      rw [show (nx + 8 - c + (c - 1)) % 8 = (nx + 7) % 8 by omega] at h1
      have h2 := (g2.2.1.2.2 _ (Nat.mod_lt _ (by decide))).mp h1
      rcases hsh.2.2 _ (Nat.mod_lt (nx + 7) (show 0 < 8 by decide)) with q | q
      · exact absurd q h2
      · exact q.1
    have hHr : RelC (37 + 13 * ((nx + 7) % 8)) (H (c - 1)) v := by
      have := g4.1 (c - 1) (show c - 1 < c by omega)
      rw [show slot (S, (c, nx), H, sv, le, L).2.1.2 (S, (c, nx), H, sv, le, L).2.1.1 (c - 1) = slot nx c (c - 1) from rfl, sl_t hc1 hc8 hnx] at this
      exact this
    have hr1 : RelC 1 (H (c - 1)) v1 := f1 _ hHr
    have e35 : s2 v1 35 1 (nI ((nx + 7) % 8)) 35 2 = nI c := by rw [s2_j (by decide), f2 35 (by omega)]; exact g3
    have hnle : ¬ nI c ≤ nI 0 := by rw [nI_leI (by omega) (by decide)]; omega
    have hcac : cacC (coS S) r (s2 (s2 v1 35 1 (nI ((nx + 7) % 8))) 35 2 (nI (c - 1))) n := cacC_v g2 (fun p hp => by rw [s2_ne (by omega), s2_ne (by omega), f2 p (by omega)])
    obtain ⟨u, v3, q1, q2, q3⟩ := forget_C (co' := coS (H (c - 1))) hcac (K := K) (by omega)
    have hv3 : ∀ p, p < 172 → ¬ (1 ≤ p ∧ p < 14) → p ≠ 35 → v3 p = v p := fun p hp h1 h2 => by rw [q3 p hp, s2_ne h2, s2_ne h2, f2 p h1]
    have e3 : v3 35 2 = nI (c - 1) := by rw [q3 35 (by decide), s2_i]
    have hC' : CW (H (c - 1), (c - 1, (nx + 7) % 8), H, sv, le, L) r v3 (n + 0) := by
      refine ⟨rcF hr1 (fun p p1 p2 => by rw [q3 p (by omega), s2_ne (by omega), s2_ne (by omega)]), q2, ⟨e3, ?_⟩, ⟨fun k hk => ?_, fun k hk => ?_⟩, ?_, ?_⟩
      · rw [q3 35 (by decide), s2_j (by decide), s2_i]
      · have hk : k < c - 1 := hk
        have := g4.1 k (show k < c by omega)
        rw [show slot (H (c - 1), (c - 1, (nx + 7) % 8), H, sv, le, L).2.1.2 (H (c - 1), (c - 1, (nx + 7) % 8), H, sv, le, L).2.1.1 k = slot ((nx + 7) % 8) (c - 1) k from rfl, sl_u hc1 hc8 hnx]
        refine rcF this (fun p p1 p2 => ?_)
        have := @slot_b nx c k
        have p1 : slot nx c k ≤ p := p1
        have p2 : p < slot nx c k + 13 := p2
        rw [hv3 p (by omega) (by omega) (by omega)]
      · have hk : k < c - 1 := hk
        have := g4.2 k (show k < c by omega)
        have h8 : v 36 ((nx + 8 - c + k) % 8) = nI 1 := this
        rw [hv3 36 (by decide) (by decide) (by decide)]
        show v 36 (((nx + 7) % 8 + 8 - (c - 1) + k) % 8) = nI 1
        rw [show ((nx + 7) % 8 + 8 - (c - 1) + k) % 8 = (nx + 8 - c + k) % 8 by omega]
        exact h8
      · rw [hv3 0 (by decide) (by decide) (by decide)]
        exact ⟨g5.1, fun S' hS' => rcF (g5.2 S' hS') (fun p p1 p2 => hv3 p (by omega) (by omega) (by omega))⟩
      · rw [hv3 154 (by decide) (by decide) (by decide), hv3 155 (by decide) (by decide) (by decide)]
        exact g6
    refine fin_ok (W' := (H (c - 1), (c - 1, (nx + 7) % 8), H, sv, le, L)) (code := nI 0) (x' := ((nI (c - 1)).toInt64, x.2)) hM (k1 := 0) (r1 := r) (v1 := v3) ?_ hC' (fun p p1 p2 => hv3 p p2 (by omega) (by omega)) ⟨hI.2.1 (c - 1) (show c - 1 < c by omega), fun k hk => hI.2.1 k (show k < c from Nat.lt_of_lt_of_le hk (Nat.sub_le c 1)), hI.2.2.1, show c - 1 ≤ 8 by omega, Nat.mod_lt _ (by decide), hI.2.2.2.2.2⟩ (fun w hw => ?_)
    · unfold fL_undo fX6_undo fX3_takeBack
      simp (disch := omega) only [↓jM_e, li_0, li_1, li_2, li_3, li_4, li_5, li_6, li_7, li_8, li_9, li_10, li_13, li_14, li_15, li_16, li_31, li_35, li_47, li_48, li_49, li_50, li_57, li_99, li_100, li_126, li_139, li_140, li_149, li_150, li_280, li_284, li_285, li_290, li_434, li_1260, li_3472, li_9999, li_65536, nm, nm_w, sf_w, cp_w, ld_I, sa_I, nI_add, pk_mul, Nat.zero_add, nI_leI, nI_ltI, nI_eq, nI_neM, M_neI, nI_ltM, nI_nltM, M_ltI, M_leI, nI_nleM, bnd_some, if_pos, if_neg, dif_t, dif_f, g3, g3', hrem, s2_i, ldS_s (Nat.mod_lt (nx + 7) (show 0 < 8 by decide)) hmade, hnle, ec, e35, pk_sub, q1, ac_0, ck_i hsh, e3]
      rfl
    · obtain ⟨m1, m2, m3, m4, m5⟩ := hw
      have m2 : w 157 5 = nI c := m2
      obtain ⟨w2, t1, t2, t3⟩ := un_M (K := K) (w := s2 (s2 w 157 6 (nI 0)) 157 5 (nI (c - 1))) (c := c - 1) (S := H (c - 1)) s2_i (by omega) (m3 (c - 1) (show c - 1 < c by omega)) (by omega)
      have tw : ∀ p, p ≠ 157 → p ≠ 158 → p ≠ 164 → w2 p = w p := fun p p0 p1 p2 => by rw [t3 p p1 p2, s2_ne p0, s2_ne p0]
      refine ⟨nI (c - 1), w2, ?_, ?_, fun _ => rfl, ⟨t2, ?_, fun k hk => ?_, ?_, ?_⟩, fun p hp => tw p (by omega) (by omega) (by omega)⟩
      · unfold fX7_undo bX7_undo_13
        simp (disch := omega) only [↓jM_e, li_0, li_1, li_2, li_3, li_4, li_5, li_6, li_7, li_8, li_9, li_10, li_13, li_14, li_15, li_16, li_31, li_35, li_47, li_48, li_49, li_50, li_57, li_99, li_100, li_126, li_139, li_140, li_149, li_150, li_280, li_284, li_285, li_290, li_434, li_1260, li_3472, li_9999, li_65536, nm, nm_w, sf_w, cp_w, ld_I, sa_I, nI_add, pk_mul, Nat.zero_add, nI_leI, nI_ltI, nI_eq, nI_neM, M_neI, nI_ltM, nI_nltM, M_ltI, M_leI, nI_nleM, bnd_some, if_pos, if_neg, dif_t, dif_f, m2, s2_i, s2_j (show (5 : Nat) ≠ 6 by decide), pk_sub, t1]
      · rw [t3 157 (by decide) (by decide), s2_j (by decide), s2_i]
      · rw [t3 157 (by decide) (by decide), s2_i]
      · rw [tw 161 (by decide) (by decide) (by decide)]
        exact m3 k (show k < c from Nat.lt_of_lt_of_le hk (Nat.sub_le c 1))
      · rw [tw 159 (by decide) (by decide) (by decide), t3 157 (by decide) (by decide), s2_j (by decide), s2_j (by decide)]
        exact m4
      · rw [tw 168 (by decide) (by decide) (by decide), t3 157 (by decide) (by decide), s2_j (by decide), s2_j (by decide)]
        exact m5
theorem sv_M {S : aS} {w : sV} (hr : RelM S (w 158)) (hK : 4000 < K) : ∃ w2, fx2 (gX7_save_7 K) K (nI 0) w = some (nI (cnI (exS S) 16), s2 w2 157 4 (nI 1)) ∧ RelM S (w2 159) ∧ ∀ p, p ≠ 159 → w2 p = w p := by
  refine fx2_go (P := fun t x1 (u : sV) => x1 = nI t ∧ (∀ p, p ≠ 159 → u p = w p) ∧ ∀ j, j < t → u 159 j = w 158 j) (Q := fun o => ∃ w2, o = some (nI (cnI (exS S) 16), s2 w2 157 4 (nI 1)) ∧ RelM S (w2 159) ∧ ∀ p, p ≠ 159 → w2 p = w p) (N := 434) ?_ ⟨rfl, fun _ _ => rfl, fun j hj => absurd hj (Nat.not_lt_zero j)⟩ (by omega)
  intro t x1 u ht ⟨e1, h1, h2⟩ k hk
  subst e1
  unfold gX7_save_7
  by_cases ht1 : t = 434
  · subst ht1
    have hr2 : RelM S (s2 u 157 4 (nI 1) 158) := by rw [s2_ne (by decide), h1 158 (by decide)]; exact hr
    simp (disch := omega) only [↓jM_e, li_0, li_1, li_2, li_3, li_4, li_5, li_6, li_7, li_8, li_9, li_10, li_13, li_14, li_15, li_16, li_31, li_35, li_47, li_48, li_49, li_50, li_57, li_99, li_100, li_126, li_139, li_140, li_149, li_150, li_280, li_284, li_285, li_290, li_434, li_1260, li_3472, li_9999, li_65536, nm, nm_w, sf_w, cp_w, ld_I, sa_I, nI_add, pk_mul, Nat.zero_add, nI_leI, nI_ltI, nI_eq, nI_neM, M_neI, nI_ltM, nI_nltM, M_ltI, M_leI, nI_nleM, bnd_some, if_pos, if_neg, dif_t, dif_f, my_M hr2 (show 16 < K by omega)]
    exact ⟨u, rfl, RelM_c hr (fun j hj => h2 j hj), h1⟩
  · have hlt : t < 434 := by omega
    have e : u 158 t = w 158 t := by rw [h1 158 (by decide)]
    simp (disch := omega) only [↓jM_e, li_0, li_1, li_2, li_3, li_4, li_5, li_6, li_7, li_8, li_9, li_10, li_13, li_14, li_15, li_16, li_31, li_35, li_47, li_48, li_49, li_50, li_57, li_99, li_100, li_126, li_139, li_140, li_149, li_150, li_280, li_284, li_285, li_290, li_434, li_1260, li_3472, li_9999, li_65536, nm, nm_w, sf_w, cp_w, ld_I, sa_I, nI_add, pk_mul, Nat.zero_add, nI_leI, nI_ltI, nI_eq, nI_neM, M_neI, nI_ltM, nI_nltM, M_ltI, M_leI, nI_nleM, bnd_some, if_pos, if_neg, dif_t, dif_f, e]
    refine hk hlt _ _ ⟨rfl, fun p hp => by rw [s2_ne hp]; exact h1 p hp, fun j hj => ?_⟩
    rw [s2_upd]
    by_cases hjt : j = t
    · rw [hjt, pk_us]
    · rw [pk_un hjt]
      exact h2 j (by omega)
theorem a_28 (hC : CW W r v n) (hM : MW W v) (hI : IW B W) (hK : 400000 < K) : ∃ (y z : Int32 × sV), fX6_save K v = some y ∧ fX7_save K y.2 = some z ∧ y.1 = z.1 ∧ GOOD B r z.2 n := by
  obtain ⟨S, ⟨c, nx⟩, H, sv, le, L⟩ := W
  obtain ⟨g1, g2, g3, g4, g5, g6⟩ := hC
  obtain ⟨v1, ec, f1, f2⟩ := copy_ok (v := v) (b := 141) (d := 1) (by omega)
  have hr1 : RelC 1 S (s2 v1 0 6 (nI 1)) := rcF g1 (fun p p1 p2 => by rw [s2_ne (by omega), f2 p (by omega)])
  have hf : ∀ p, p ≠ 0 → ¬ (141 ≤ p ∧ p < 154) → s2 v1 0 6 (nI 1) p = v p := fun p h0 h1 => by rw [s2_ne h0, f2 p h1]
  have hM1 : MW (S, (c, nx), H, sv, le, L) (s2 v1 0 6 (nI 1)) := MW_f hM (fun p p1 p2 _ => hf p (by omega) (by omega)) (by rw [hf 157 (by decide) (by decide)]) (by rw [hf 157 (by decide) (by decide)]) (by rw [hf 157 (by decide) (by decide)])
  have hM2 := MW_t (y := nI 0) hM1
  obtain ⟨w2, t1, t2, t3⟩ := sv_M (K := K) hM2.1.1 (by omega)
  refine ⟨(nI (cnI (exS S) 16), s2 v1 0 6 (nI 1)), (nI (cnI (exS S) 16), s2 w2 157 4 (nI 1)), ?_, ?_, rfl, (S, (c, nx), H, some S, le, L), ?_, ?_, ?_⟩
  · unfold fX6_save
    simp (disch := omega) only [↓jM_e, li_0, li_1, li_2, li_3, li_4, li_5, li_6, li_7, li_8, li_9, li_10, li_13, li_14, li_15, li_16, li_31, li_35, li_47, li_48, li_49, li_50, li_57, li_99, li_100, li_126, li_139, li_140, li_149, li_150, li_280, li_284, li_285, li_290, li_434, li_1260, li_3472, li_9999, li_65536, nm, nm_w, sf_w, cp_w, ld_I, sa_I, nI_add, pk_mul, Nat.zero_add, nI_leI, nI_ltI, nI_eq, nI_neM, M_neI, nI_ltM, nI_nltM, M_ltI, M_leI, nI_nleM, bnd_some, if_pos, if_neg, dif_t, dif_f, ec, al_C hr1 (show 16 < K by omega), bc_mk]
  · unfold fX7_save
    simp (disch := omega) only [↓jM_e, li_0, li_1, li_2, li_3, li_4, li_5, li_6, li_7, li_8, li_9, li_10, li_13, li_14, li_15, li_16, li_31, li_35, li_47, li_48, li_49, li_50, li_57, li_99, li_100, li_126, li_139, li_140, li_149, li_150, li_280, li_284, li_285, li_290, li_434, li_1260, li_3472, li_9999, li_65536, nm, nm_w, sf_w, cp_w, ld_I, sa_I, nI_add, pk_mul, Nat.zero_add, nI_leI, nI_ltI, nI_eq, nI_neM, M_neI, nI_ltM, nI_nltM, M_ltI, M_leI, nI_nleM, bnd_some, if_pos, if_neg, dif_t, dif_f, t1]
  · have hw : ∀ p, p ≠ 157 → p ≠ 159 → s2 w2 157 4 (nI 1) p = s2 v1 0 6 (nI 1) p := fun p p1 p2 => by rw [s2_ne p1, t3 p p2, s2_ne p1]
    have hw2 : ∀ p, p < 157 ∨ 172 ≤ p → s2 w2 157 4 (nI 1) p = s2 v1 0 6 (nI 1) p := fun p hp => hw p (by omega) (by omega)
    refine CW_g (v := s2 v1 0 6 (nI 1)) ?_ hw2
    refine ⟨hr1, cacC_v g2 (fun p hp => hf p (by omega) (by omega)), ?_, ⟨fun k hk => rcF (g4.1 k hk) (fun p p1 p2 => ?_), fun k hk => by rw [hf 36 (by decide) (by decide)]; exact g4.2 k hk⟩, ⟨s2_i, fun S' hS' => ?_⟩, ?_⟩
    · rw [hf 35 (by decide) (by decide)]; exact g3
    · have := @slot_b nx c k
      have p1 : slot nx c k ≤ p := p1
      have p2 : p < slot nx c k + 13 := p2
      exact hf p (by omega) (by omega)
    · cases hS'
      exact rcF (f1 S g1) (fun p p1 p2 => by rw [s2_ne (by omega)])
    · rw [hf 154 (by decide) (by decide), hf 155 (by decide) (by decide)]; exact g6
  · obtain ⟨m1, m2, m3, m4, m5⟩ := hM2
    have hw : ∀ p, p ≠ 157 → p ≠ 159 → s2 w2 157 4 (nI 1) p = s2 (s2 v1 0 6 (nI 1)) 157 6 (nI 0) p := fun p p1 p2 => by rw [s2_ne p1, t3 p p2]
    show MW (S, (c, nx), H, some S, le, L) (s2 w2 157 4 (nI 1))
    refine ⟨⟨by rw [hw 158 (by decide) (by decide)]; exact m1.1, cacM_v m1.2 (hw 164 (by decide) (by decide)) (hw 162 (by decide) (by decide))⟩, ?_, ?_, ⟨s2_i, fun S' hS' => ?_⟩, ?_⟩
    · rw [s2_j (by decide), t3 157 (by decide)]; exact m2
    · rw [hw 161 (by decide) (by decide)]; exact m3
    · cases hS'
      rw [s2_ne (by decide)]
      exact t2
    · rw [hw 168 (by decide) (by decide), s2_j (by decide), t3 157 (by decide)]; exact m5
  · exact ⟨hI.1, hI.2.1, fun S' hS' => by cases hS'; exact hI.1, hI.2.2.2⟩
theorem re_M {S : aS} {w : sV} (hr : RelM S (w 159)) (hK : 4000 < K) : ∃ w2, fx2 (gX7_restore_27 K) K (nI 0) w = some (nI (cnI (exS S) 16), w2) ∧ mI S w2 ∧ (∀ p, p ≠ 157 → p ≠ 158 → p ≠ 164 → w2 p = w p) ∧ w2 157 = s2 w 157 5 (nI 0) 157 := by
  refine fx2_go (P := fun t x1 (u : sV) => x1 = nI t ∧ (∀ p, p ≠ 158 → u p = w p) ∧ ∀ j, j < t → u 158 j = w 159 j) (Q := fun o => ∃ w2, o = some (nI (cnI (exS S) 16), w2) ∧ mI S w2 ∧ (∀ p, p ≠ 157 → p ≠ 158 → p ≠ 164 → w2 p = w p) ∧ w2 157 = s2 w 157 5 (nI 0) 157) (N := 434) ?_ ⟨rfl, fun _ _ => rfl, fun j hj => absurd hj (Nat.not_lt_zero j)⟩ (by omega)
  intro t x1 u ht ⟨e1, h1, h2⟩ k hk
  subst e1
  unfold gX7_restore_27
  by_cases ht1 : t = 434
  · subst ht1
    have hr2 : RelM S (s2 u 157 5 (nI 0) 158) := by rw [s2_ne (by decide)]; exact RelM_c hr (fun j hj => h2 j hj)
    obtain ⟨w2, f1, f2, f3⟩ := forget_M (K := K) hr2 (by omega)
    simp (disch := omega) only [↓jM_e, li_0, li_1, li_2, li_3, li_4, li_5, li_6, li_7, li_8, li_9, li_10, li_13, li_14, li_15, li_16, li_31, li_35, li_47, li_48, li_49, li_50, li_57, li_99, li_100, li_126, li_139, li_140, li_149, li_150, li_280, li_284, li_285, li_290, li_434, li_1260, li_3472, li_9999, li_65536, nm, nm_w, sf_w, cp_w, ld_I, sa_I, nI_add, pk_mul, Nat.zero_add, nI_leI, nI_ltI, nI_eq, nI_neM, M_neI, nI_ltM, nI_nltM, M_ltI, M_leI, nI_nleM, bnd_some, if_pos, if_neg, dif_t, dif_f, f1, my_M f2.1 (show 16 < K by omega)]
    refine ⟨w2, rfl, f2, fun p p0 p1 p2 => by rw [f3 p p2, s2_ne p0, h1 p p1], ?_⟩
    rw [f3 157 (by decide), s2_upd, s2_upd, h1 157 (by decide)]
  · have hlt : t < 434 := by omega
    have e : u 159 t = w 159 t := by rw [h1 159 (by decide)]
    simp (disch := omega) only [↓jM_e, li_0, li_1, li_2, li_3, li_4, li_5, li_6, li_7, li_8, li_9, li_10, li_13, li_14, li_15, li_16, li_31, li_35, li_47, li_48, li_49, li_50, li_57, li_99, li_100, li_126, li_139, li_140, li_149, li_150, li_280, li_284, li_285, li_290, li_434, li_1260, li_3472, li_9999, li_65536, nm, nm_w, sf_w, cp_w, ld_I, sa_I, nI_add, pk_mul, Nat.zero_add, nI_leI, nI_ltI, nI_eq, nI_neM, M_neI, nI_ltM, nI_nltM, M_ltI, M_leI, nI_nleM, bnd_some, if_pos, if_neg, dif_t, dif_f, e]
    refine hk hlt _ _ ⟨rfl, fun p hp => by rw [s2_ne hp]; exact h1 p hp, fun j hj => ?_⟩
    rw [s2_upd]
    by_cases hjt : j = t
    · rw [hjt, pk_us]
    · rw [pk_un hjt]
      exact h2 j (by omega)
theorem a_29 (hC : CW W r v n) (hM : MW W v) (hI : IW B W) (hK : 400000 < K) : OUT B (fL_restore K r v n x) (fX7_restore K) PI n := by
  obtain ⟨S, ⟨c, nx⟩, H, sv, le, L⟩ := W
  have hsh := hC.2.1.1
  cases sv with
  | none =>
    refine fin_thr hC hM hI (code := 1) (z := nI 0) (x' := x) (by decide) ?_ (fun w hw => ?_)
    · have e : v 0 6 = nI 0 := hC.2.2.2.2.1.1
      unfold fL_restore fX6_restore
      simp (disch := omega) only [↓jM_e, li_0, li_1, li_2, li_3, li_4, li_5, li_6, li_7, li_8, li_9, li_10, li_13, li_14, li_15, li_16, li_31, li_35, li_47, li_48, li_49, li_50, li_57, li_99, li_100, li_126, li_139, li_140, li_149, li_150, li_280, li_284, li_285, li_290, li_434, li_1260, li_3472, li_9999, li_65536, nm, nm_w, sf_w, cp_w, ld_I, sa_I, nI_add, pk_mul, Nat.zero_add, nI_leI, nI_ltI, nI_eq, nI_neM, M_neI, nI_ltM, nI_nltM, M_ltI, M_leI, nI_nleM, bnd_some, if_pos, if_neg, dif_t, dif_f, e]
      rfl
    · have e : w 157 4 = nI 0 := hw.2.2.2.1.1
      unfold fX7_restore bX7_restore_13
      simp (disch := omega) only [↓jM_e, li_0, li_1, li_2, li_3, li_4, li_5, li_6, li_7, li_8, li_9, li_10, li_13, li_14, li_15, li_16, li_31, li_35, li_47, li_48, li_49, li_50, li_57, li_99, li_100, li_126, li_139, li_140, li_149, li_150, li_280, li_284, li_285, li_290, li_434, li_1260, li_3472, li_9999, li_65536, nm, nm_w, sf_w, cp_w, ld_I, sa_I, nI_add, pk_mul, Nat.zero_add, nI_leI, nI_ltI, nI_eq, nI_neM, M_neI, nI_ltM, nI_nltM, M_ltI, M_leI, nI_nleM, bnd_some, if_pos, if_neg, dif_t, dif_f, e, s2_i]
  | some S' =>
    obtain ⟨g1, g2, g3, g4, g5, g6⟩ := hC
    have e06 : v 0 6 = nI 1 := g5.1
    obtain ⟨v1, ec, f1, f2⟩ := copy_ok (v := v) (b := 1) (d := 141) (by omega)
    have hr1 : RelC 1 S' v1 := f1 S' (g5.2 S' rfl)
    have hcac : cacC (coS S) r (s2 v1 35 2 (nI 0)) n := cacC_v g2 (fun p hp => by rw [s2_ne (by omega), f2 p (by omega)])
    obtain ⟨u, v3, q1, q2, q3⟩ := forget_C (co' := coS S') hcac (K := K) (by omega)
    have hv3 : ∀ p, p < 172 → ¬ (1 ≤ p ∧ p < 14) → p ≠ 35 → v3 p = v p := fun p hp h1 h2 => by rw [q3 p hp, s2_ne h2, f2 p h1]
    have hr3 : RelC 1 S' v3 := rcF hr1 (fun p p1 p2 => by rw [q3 p (by omega), s2_ne (by omega)])
    have hC' : CW (S', (0, nx), H, some S', le, L) r v3 (n + 0) := by
      refine ⟨hr3, q2, ⟨?_, ?_⟩, ⟨fun k hk => absurd hk (Nat.not_lt_zero k), fun k hk => absurd hk (Nat.not_lt_zero k)⟩, ?_, ?_⟩
      · rw [q3 35 (by decide), s2_i]
      · rw [q3 35 (by decide), s2_j (by decide), f2 35 (by decide)]; exact g3.2
      · rw [hv3 0 (by decide) (by decide) (by decide)]
        exact ⟨g5.1, fun S2 hS2 => rcF (g5.2 S2 hS2) (fun p p1 p2 => hv3 p (by omega) (by omega) (by omega))⟩
      · rw [hv3 154 (by decide) (by decide) (by decide), hv3 155 (by decide) (by decide) (by decide)]
        exact g6
    refine fin_ok (W' := (S', (0, nx), H, some S', le, L)) (code := nI 0) (x' := ((nI (cnI (exS S') 16)).toInt64, x.2)) hM (k1 := 0) (r1 := r) (v1 := v3) ?_ hC' (fun p p1 p2 => hv3 p p2 (by omega) (by omega)) ⟨hI.2.2.1 S' rfl, fun k hk => absurd hk (Nat.not_lt_zero k), hI.2.2.1, Nat.zero_le 8, hI.2.2.2.2⟩ (fun w hw => ?_)
    · unfold fL_restore fX6_restore fX3_clear
      simp (disch := omega) only [↓jM_e, li_0, li_1, li_2, li_3, li_4, li_5, li_6, li_7, li_8, li_9, li_10, li_13, li_14, li_15, li_16, li_31, li_35, li_47, li_48, li_49, li_50, li_57, li_99, li_100, li_126, li_139, li_140, li_149, li_150, li_280, li_284, li_285, li_290, li_434, li_1260, li_3472, li_9999, li_65536, nm, nm_w, sf_w, cp_w, ld_I, sa_I, nI_add, pk_mul, Nat.zero_add, nI_leI, nI_ltI, nI_eq, nI_neM, M_neI, nI_ltM, nI_nltM, M_ltI, M_leI, nI_nleM, bnd_some, if_pos, if_neg, dif_t, dif_f, e06, ec, q1, ac_0, ck_i hsh, al_C hr3 (show 16 < K by omega), bc_mk]
      rfl
    · obtain ⟨m1, m2, m3, m4, m5⟩ := hw
      have m41 : w 157 4 = nI 1 := m4.1
      have m42 : RelM S' (s2 w 157 6 (nI 0) 159) := by rw [s2_ne (by decide)]; exact m4.2 S' rfl
      obtain ⟨w2, t1, t2, t3, t4⟩ := re_M (K := K) m42 (by omega)
      have tw : ∀ p, p ≠ 157 → p ≠ 158 → p ≠ 164 → w2 p = w p := fun p p0 p1 p2 => by rw [t3 p p0 p1 p2, s2_ne p0]
      refine ⟨nI (cnI (exS S') 16), w2, ?_, ?_, fun _ => rfl, ⟨t2, ?_, fun k hk => absurd hk (Nat.not_lt_zero k), ?_, ?_⟩, fun p hp => tw p (by omega) (by omega) (by omega)⟩
      · unfold fX7_restore bX7_restore_13
        simp (disch := omega) only [↓jM_e, li_0, li_1, li_2, li_3, li_4, li_5, li_6, li_7, li_8, li_9, li_10, li_13, li_14, li_15, li_16, li_31, li_35, li_47, li_48, li_49, li_50, li_57, li_99, li_100, li_126, li_139, li_140, li_149, li_150, li_280, li_284, li_285, li_290, li_434, li_1260, li_3472, li_9999, li_65536, nm, nm_w, sf_w, cp_w, ld_I, sa_I, nI_add, pk_mul, Nat.zero_add, nI_leI, nI_ltI, nI_eq, nI_neM, M_neI, nI_ltM, nI_nltM, M_ltI, M_leI, nI_nleM, bnd_some, if_pos, if_neg, dif_t, dif_f, m41, s2_i, t1]
      · rw [t4, s2_j (by decide), s2_i]
      · rw [t4, s2_i]
      · rw [tw 159 (by decide) (by decide) (by decide), t4, s2_j (by decide), s2_j (by decide)]
        exact m4
      · rw [tw 168 (by decide) (by decide) (by decide), t4, s2_j (by decide), s2_j (by decide)]
        exact m5
theorem caI_n {i j : Nat} (hi : i < 14) (hj : j < 10) : caI (nI i) (nI j) = nI (14 * j + i) := by
  unfold caI
  simp (disch := omega) only [↓jM_e, li_0, li_1, li_2, li_3, li_4, li_5, li_6, li_7, li_8, li_9, li_10, li_13, li_14, li_15, li_16, li_31, li_35, li_47, li_48, li_49, li_50, li_57, li_99, li_100, li_126, li_139, li_140, li_149, li_150, li_280, li_284, li_285, li_290, li_434, li_1260, li_3472, li_9999, li_65536, nm, nm_w, sf_w, cp_w, ld_I, sa_I, nI_add, pk_mul, Nat.zero_add, nI_leI, nI_ltI, nI_eq, nI_neM, M_neI, nI_ltM, nI_nltM, M_ltI, M_leI, nI_nleM, bnd_some, if_pos, if_neg, dif_t, dif_f]
  rw [Nat.mul_comm j 14]
theorem ch_10 : ∀ k, k < 10 → ((nI (48 + k)).toUInt32 % 65536).toInt32 = nI (48 + k) := by decide +kernel
theorem a_26 (x1 : Int32) (hC : CW W r v n) (hM : MW W v) (hI : IW B W) : OUT B (fL_map x1 r v n x) (fX7_map x1) PI n := by
  have hp : (x1 ≤ nI 148) = ¬ (nI 149 ≤ x1) := le_pred (n := 148) (by decide)
  have hthr : (x1 < nI 0 ∨ nI 149 ≤ x1) → OUT B (fL_map x1 r v n x) (fX7_map x1) PI n := by
    intro h2
    have h1 : ¬ (nI 0 ≤ x1 ∧ x1 ≤ nI 148) := fun g => h2.elim (fun q => Int32.not_le.mpr q g.1) (fun q => by rw [hp] at g; exact g.2 q)
    refine fin_thr hC hM hI (code := 1) (z := nI 0) (x' := x) (by decide) ?_ (fun w hw => ?_)
    · unfold fL_map fX6_map
      by_cases h0 : x1 < nI 0
      · simp (disch := omega) only [↓jM_e, li_0, li_1, li_2, li_3, li_4, li_5, li_6, li_7, li_8, li_9, li_10, li_13, li_14, li_15, li_16, li_31, li_35, li_47, li_48, li_49, li_50, li_57, li_99, li_100, li_126, li_139, li_140, li_149, li_150, li_280, li_284, li_285, li_290, li_434, li_1260, li_3472, li_9999, li_65536, nm, nm_w, sf_w, cp_w, ld_I, sa_I, nI_add, pk_mul, Nat.zero_add, nI_leI, nI_ltI, nI_eq, nI_neM, M_neI, nI_ltM, nI_nltM, M_ltI, M_leI, nI_nleM, bnd_some, if_pos, if_neg, dif_t, dif_f, if_pos h0]
        rfl
      · have h6 : ¬ x1 < nI 149 := Int32.not_lt.mpr (h2.resolve_left h0)
        simp (disch := omega) only [↓jM_e, li_0, li_1, li_2, li_3, li_4, li_5, li_6, li_7, li_8, li_9, li_10, li_13, li_14, li_15, li_16, li_31, li_35, li_47, li_48, li_49, li_50, li_57, li_99, li_100, li_126, li_139, li_140, li_149, li_150, li_280, li_284, li_285, li_290, li_434, li_1260, li_3472, li_9999, li_65536, nm, nm_w, sf_w, cp_w, ld_I, sa_I, nI_add, pk_mul, Nat.zero_add, nI_leI, nI_ltI, nI_eq, nI_neM, M_neI, nI_ltM, nI_nltM, M_ltI, M_leI, nI_nleM, bnd_some, if_pos, if_neg, dif_t, dif_f, if_neg h0, if_neg h6]
        rfl
    · unfold fX7_map bX7_map_17
      simp (disch := omega) only [↓jM_e, li_0, li_1, li_2, li_3, li_4, li_5, li_6, li_7, li_8, li_9, li_10, li_13, li_14, li_15, li_16, li_31, li_35, li_47, li_48, li_49, li_50, li_57, li_99, li_100, li_126, li_139, li_140, li_149, li_150, li_280, li_284, li_285, li_290, li_434, li_1260, li_3472, li_9999, li_65536, nm, nm_w, sf_w, cp_w, ld_I, sa_I, nI_add, pk_mul, Nat.zero_add, nI_leI, nI_ltI, nI_eq, nI_neM, M_neI, nI_ltM, nI_nltM, M_ltI, M_leI, nI_nleM, bnd_some, if_pos, if_neg, dif_t, dif_f, ii_M, show (148 : Int32) = nI 148 from rfl, if_neg h1, s2_i]
  rcases pk_ix x1 (n := 149) (by decide) with h0 | h5 | ⟨m, hm, rfl⟩
  · exact hthr (Or.inl h0)
  · exact hthr (Or.inr h5)
  have hrem : nI m - nI m / nI 15 * nI 15 = nI (m % 15) := pk_rem (by omega) (by decide) (by decide)
  have hdiv : nI m / nI 15 = nI (m / 15) := pk_div (by omega) (by decide) (by decide)
  have hrem2 : nI m - nI (m / 15 * 15) = nI (m % 15) := by
    rw [pk_sub (by omega)]
    congr 1
    omega
  by_cases h14 : m % 15 = 14
  · refine fin_rd hC hM hI (x' := ((nI 47).toInt64, x.2)) ?_ (fun w hw => ⟨nI 47, ?_, rfl⟩)
    · unfold fL_map fX6_map
      simp (disch := omega) only [↓jM_e, li_0, li_1, li_2, li_3, li_4, li_5, li_6, li_7, li_8, li_9, li_10, li_13, li_14, li_15, li_16, li_31, li_35, li_47, li_48, li_49, li_50, li_57, li_99, li_100, li_126, li_139, li_140, li_149, li_150, li_280, li_284, li_285, li_290, li_434, li_1260, li_3472, li_9999, li_65536, nm, nm_w, sf_w, cp_w, ld_I, sa_I, nI_add, pk_mul, Nat.zero_add, nI_leI, nI_ltI, nI_eq, nI_neM, M_neI, nI_ltM, nI_nltM, M_ltI, M_leI, nI_nleM, bnd_some, if_pos, if_neg, dif_t, dif_f, hrem, h14, show (149 : Int32) = nI 149 from rfl]
      rfl
    · unfold fX7_map bX7_map_17 bX7_map_59
      simp (disch := omega) only [↓jM_e, li_0, li_1, li_2, li_3, li_4, li_5, li_6, li_7, li_8, li_9, li_10, li_13, li_14, li_15, li_16, li_31, li_35, li_47, li_48, li_49, li_50, li_57, li_99, li_100, li_126, li_139, li_140, li_149, li_150, li_280, li_284, li_285, li_290, li_434, li_1260, li_3472, li_9999, li_65536, nm, nm_w, sf_w, cp_w, ld_I, sa_I, nI_add, pk_mul, Nat.zero_add, nI_leI, nI_ltI, nI_eq, nI_neM, M_neI, nI_ltM, nI_nltM, M_ltI, M_leI, nI_nleM, bnd_some, if_pos, if_neg, dif_t, dif_f, ii_M, show (148 : Int32) = nI 148 from rfl, s2_i, hrem, h14, show ¬ (nI 0 ≤ jM) from by decide]
  · have hi : m % 15 < 14 := by omega
    have hj : m / 15 < 10 := by omega
    have hq : 14 * (m / 15) + m % 15 < 140 := by omega
    have hne : caI (nI (m % 15)) (nI (m / 15)) ≠ jM := by rw [caI_n hi hj, ne_eq, nI_neM (by omega)]; exact id
    have hcaM := ca_M hne
    rw [caI_n hi hj] at hcaM
    have hco := hI.1.1 _ hq
    refine fin_rd hC hM hI (x' := ((if coS W.1 (14 * (m / 15) + m % 15) = 0 then nI 35 else nI (48 + coS W.1 (14 * (m / 15) + m % 15))).toInt64, x.2)) ?_ (fun w hw => ⟨if coS W.1 (14 * (m / 15) + m % 15) = 0 then nI 35 else nI (48 + coS W.1 (14 * (m / 15) + m % 15)), ?_, rfl⟩)
    · have e0 : v 2 (14 * (m / 15) + m % 15) = nI (coS W.1 (14 * (m / 15) + m % 15)) := (rc0 hC.1 hq).trans hco.1
      unfold fL_map fX6_map
      by_cases h0 : coS W.1 (14 * (m / 15) + m % 15) = 0
      · rw [h0] at e0
        simp (disch := omega) only [↓jM_e, li_0, li_1, li_2, li_3, li_4, li_5, li_6, li_7, li_8, li_9, li_10, li_13, li_14, li_15, li_16, li_31, li_35, li_47, li_48, li_49, li_50, li_57, li_99, li_100, li_126, li_139, li_140, li_149, li_150, li_280, li_284, li_285, li_290, li_434, li_1260, li_3472, li_9999, li_65536, nm, nm_w, sf_w, cp_w, ld_I, sa_I, nI_add, pk_mul, Nat.zero_add, nI_leI, nI_ltI, nI_eq, nI_neM, M_neI, nI_ltM, nI_nltM, M_ltI, M_leI, nI_nleM, bnd_some, if_pos, if_neg, dif_t, dif_f, hrem2, hdiv, show (149 : Int32) = nI 149 from rfl, ca_C, caI_n hi hj, e0, if_pos h0]
        rfl
      · have hch := ch_10 (coS W.1 (14 * (m / 15) + m % 15)) (by omega)
        have hck : 0 ≤ (nI (48 + coS W.1 (14 * (m / 15) + m % 15))).toInt ∧ (nI (48 + coS W.1 (14 * (m / 15) + m % 15))).toInt < 65536 := by
          rw [nI_toInt (by omega)]; omega
        simp (disch := omega) only [↓jM_e, li_0, li_1, li_2, li_3, li_4, li_5, li_6, li_7, li_8, li_9, li_10, li_13, li_14, li_15, li_16, li_31, li_35, li_47, li_48, li_49, li_50, li_57, li_99, li_100, li_126, li_139, li_140, li_149, li_150, li_280, li_284, li_285, li_290, li_434, li_1260, li_3472, li_9999, li_65536, nm, nm_w, sf_w, cp_w, ld_I, sa_I, nI_add, pk_mul, Nat.zero_add, nI_leI, nI_ltI, nI_eq, nI_neM, M_neI, nI_ltM, nI_nltM, M_ltI, M_leI, nI_nleM, bnd_some, if_pos, if_neg, dif_t, dif_f, hrem2, hdiv, show (149 : Int32) = nI 149 from rfl, ca_C, caI_n hi hj, e0, if_neg h0, hch, ckc_y hck]
        rfl
    · have hw' := (MW_t (y := nI 0) hw).1.1
      have e0 : s2 w 157 6 (nI 0) 158 (14 * (m / 15) + m % 15) = nI (coS W.1 (14 * (m / 15) + m % 15)) := (hw'.1 _ hq).trans hco.1
      unfold fX7_map bX7_map_17 bX7_map_59
      by_cases h0 : coS W.1 (14 * (m / 15) + m % 15) = 0
      · rw [h0] at e0
        simp (disch := omega) only [↓jM_e, li_0, li_1, li_2, li_3, li_4, li_5, li_6, li_7, li_8, li_9, li_10, li_13, li_14, li_15, li_16, li_31, li_35, li_47, li_48, li_49, li_50, li_57, li_99, li_100, li_126, li_139, li_140, li_149, li_150, li_280, li_284, li_285, li_290, li_434, li_1260, li_3472, li_9999, li_65536, nm, nm_w, sf_w, cp_w, ld_I, sa_I, nI_add, pk_mul, Nat.zero_add, nI_leI, nI_ltI, nI_eq, nI_neM, M_neI, nI_ltM, nI_nltM, M_ltI, M_leI, nI_nleM, bnd_some, if_pos, if_neg, dif_t, dif_f, ii_M, show (148 : Int32) = nI 148 from rfl, s2_i, hrem2, hdiv, hcaM, e0, if_pos h0]
      · have hch := ch_10 (coS W.1 (14 * (m / 15) + m % 15)) (by omega)
        have hck : 0 ≤ (nI (48 + coS W.1 (14 * (m / 15) + m % 15))).toInt ∧ (nI (48 + coS W.1 (14 * (m / 15) + m % 15))).toInt < 65536 := by
          rw [nI_toInt (by omega)]; omega
        simp (disch := omega) only [↓jM_e, li_0, li_1, li_2, li_3, li_4, li_5, li_6, li_7, li_8, li_9, li_10, li_13, li_14, li_15, li_16, li_31, li_35, li_47, li_48, li_49, li_50, li_57, li_99, li_100, li_126, li_139, li_140, li_149, li_150, li_280, li_284, li_285, li_290, li_434, li_1260, li_3472, li_9999, li_65536, nm, nm_w, sf_w, cp_w, ld_I, sa_I, nI_add, pk_mul, Nat.zero_add, nI_leI, nI_ltI, nI_eq, nI_neM, M_neI, nI_ltM, nI_nltM, M_ltI, M_leI, nI_nleM, bnd_some, if_pos, if_neg, dif_t, dif_f, ii_M, show (148 : Int32) = nI 148 from rfl, s2_i, hrem2, hdiv, hcaM, e0, if_neg h0, hch, ckc_y hck]
end
