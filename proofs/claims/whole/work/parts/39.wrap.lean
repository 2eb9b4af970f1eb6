/-! THE LAW'S WRAPPERS: rows for the law's long and double cell; a call that may throw, caught -/
theorem sks_13 {q : Nat} (h : (sks q).1 = 13) : q = 170 := by
  unfold sks at h
  split at h
  · rename_i h1
    have h2 : ∀ q, q < 172 → (sTab.getD q (0, 0)).1 = 13 → q = 170 := by decide +kernel
    exact h2 q h1 h
  · split at h <;> exact absurd h (by decide)
theorem sks_14 {q : Nat} (h : (sks q).1 = 14) : q = 171 := by
  unfold sks at h
  split at h
  · rename_i h1
    have h2 : ∀ q, q < 172 → (sTab.getD q (0, 0)).1 = 14 → q = 171 := by decide +kernel
    exact h2 q h1 h
  · split at h <;> exact absurd h (by decide)
theorem sC_x {G : Nat → ClassId} {ad : Nat → Nat} {r : sR} {v : sV} {x x' : Int64 × UInt64} {q : Nat} (h1 : q = 170 → x'.1 = x.1) (h2 : q = 171 → x'.2 = x.2) : sC G ad r v x' q = sC G ad r v x q := by
  by_cases ha : (sks q).1 = 13
  · simp only [sC, h1 (sks_13 ha), ha, if_neg (by decide : ¬ 13 < 10), if_pos]
  · by_cases hb : (sks q).1 = 14
    · simp only [sC, h2 (sks_14 hb), hb, if_neg (by decide : ¬ 14 < 10), if_neg (by decide : ¬ 14 = 13), if_pos]
    · simp only [sC, if_neg ha, if_neg hb]
section SWR
variable {p : Program} {l : Launch} {e : Env} {R : Room} {s : State} {m : MethodId} {args : Array Value} {below : List Frame} {meth : Method} {c : Code} {H : Heap} {locs : List Loc} {cells slots : Nat} {Q : State → Prop} {pc : Nat} {ls : Array Slot} {rest st0 As : List Value} {cc : ByteArray} {nL : Nat} {own : String} {Ts : List Cond}
variable {D : va_G} {G : Nat → ClassId} {A : Nat → Prop} {H0 : Heap} {ad ad0 : Nat → Nat} {r r0 : sR} {v : sV} {n n0 : Nat} {x : Int64 × UInt64} {α ρ β : Type} {res : ρ}
theorem s_last (E : CallFix p m c cc nL s args Ts own) (hU : sU D G s) (hB : sB D G A H0 ad r v n x H locs) (hq : lv r n 170) {y : Int64} (hdg : decode cc pc = .ok (.lastore, 1))
    (k : ∀ (H : Heap) (locs : List Loc), sB D G A H0 ad r v n (y, x.2) H locs → W p l e R s m args below meth c H locs cells slots Q (F0 m (pc + 1) ls rest)) : W p l e R s m args below meth c H locs cells slots Q (F0 m pc ls (.long y :: .int 0 :: .ref (ad 170) :: rest)) := by
  refine va_last E.1 E.2.1 hU.1 hB.1 hB.2.1 hB.2.2 (sIx r 170) 3 (cA := G 3) (n := 1) (f := fun _ => x.1) (by rw [sWl_get hq]; rfl) rfl (s_in (by decide)) hdg (fun H1 locs1 h1 h2 h3 => ?_)
  refine k H1 locs1 ⟨fun k9 e9 he => ?_, sD_any hB.2.1, h3⟩
  obtain ⟨q, hlt, rfl, rfl⟩ := sWl_out he
  by_cases hq2 : q = 170
  · subst hq2
    have h := h1 (sIx r 170) _ (by rw [List.getElem?_set_self ((List.getElem?_eq_some_iff.mp (sWl_get hq)).1)])
    exact h
  · have h := h1 (sIx r q) _ ((List.getElem?_set_ne (fun h9 => hq2 (sIx_inj hlt hq h9.symm))).trans (sWl_get hlt))
    rw [sC_x (x := x) (x' := (y, x.2)) (fun h9 => absurd h9 hq2) (fun _ => rfl)]
    exact h
theorem s_dast (E : CallFix p m c cc nL s args Ts own) (hU : sU D G s) (hB : sB D G A H0 ad r v n x H locs) (hq : lv r n 171) {y : UInt64} (hdg : decode cc pc = .ok (.dastore, 1))
    (k : ∀ (H : Heap) (locs : List Loc), sB D G A H0 ad r v n (x.1, y) H locs → W p l e R s m args below meth c H locs cells slots Q (F0 m (pc + 1) ls rest)) : W p l e R s m args below meth c H locs cells slots Q (F0 m pc ls (.double y :: .int 0 :: .ref (ad 171) :: rest)) := by
  refine va_dast E.1 E.2.1 hU.1 hB.1 hB.2.1 hB.2.2 (sIx r 171) 4 (cA := G 4) (n := 1) (f := fun _ => x.2) (by rw [sWl_get hq]; rfl) rfl (s_in (by decide)) hdg (fun H1 locs1 h1 h2 h3 => ?_)
  refine k H1 locs1 ⟨fun k9 e9 he => ?_, sD_any hB.2.1, h3⟩
  obtain ⟨q, hlt, rfl, rfl⟩ := sWl_out he
  by_cases hq2 : q = 171
  · subst hq2
    have h := h1 (sIx r 171) _ (by rw [List.getElem?_set_self ((List.getElem?_eq_some_iff.mp (sWl_get hq)).1)])
    exact h
  · have h := h1 (sIx r q) _ ((List.getElem?_set_ne (fun h9 => hq2 (sIx_inj hlt hq h9.symm))).trans (sWl_get hlt))
    rw [sC_x (x := x) (x' := (x.1, y)) (fun _ => rfl) (fun h9 => absurd h9 hq2)]
    exact h
/-- float to double: where the double is no NaN beyond the ordinary ones -/
def fdd (a : UInt32) (f : UInt64 → Option β) : Option β := if FP.f2d a &&& 0x7fffffffffffffff ≤ 0x7ff0000000000000 then f (FP.f2d a) else none
theorem s_f2d (E : CallFix p m c cc nL s args Ts own) {a : UInt32} {f : UInt64 → Option ρ} (hdg : decode cc pc = .ok (.f2d, 1)) (hf : fdd a f = some res) (k : ∀ y : UInt64, f y = some res → W p l e R s m args below meth c H locs cells slots Q (F0 m (pc + 1) ls (.double y :: rest))) : W p l e R s m args below meth c H locs cells slots Q (F0 m pc ls (.float a :: rest)) := by
  unfold fdd at hf
  split at hf
  · rename_i h
    exact lv_f2d E.1 E.2.1 hdg h (k _ hf)
  · cases hf
end SWR
/-- a call of a method that may throw, the exceptions caught: g says what number is answered for which -/
def acC {γ β : Type} (q : Sum γ Nat × sR × sV × Nat) (n : Nat) (f : γ → sR → sV → Nat → Option (β × sR × sV × Nat)) (g : Nat → Option β) : Option (β × sR × sV × Nat) := match q.1 with
  | .inl a => ac (a, q.2.1, q.2.2.1, q.2.2.2) n f
  | .inr k => (g k).map (fun b => (b, q.2.1, q.2.2.1, q.2.2.2))
def mcL {β : Type} (n : Nat) (fin : β × sR × sV × Nat) : Nat := fin.2.2.2 - n + 1
def msL {β : Type} (n : Nat) (fin : β × sR × sV × Nat) : Nat := sz fin.2.2.2 - sz n + 6
section SWC
variable {p : Program} {l : Launch} {e : Env} {R : Room} {s : State} {m : MethodId} {args : Array Value} {below : List Frame} {meth : Method} {c : Code} {H : Heap} {locs : List Loc} {cells slots : Nat} {Q : State → Prop} {pc : Nat} {ls : Array Slot} {rest st0 As : List Value} {cc : ByteArray} {nL : Nat} {own : String} {Ts : List Cond}
variable {D : va_G} {G : Nat → ClassId} {A : Nat → Prop} {H0 : Heap} {ad ad0 : Nat → Nat} {r r0 : sR} {v : sV} {n n0 : Nat} {x : Int64 × UInt64} {α ρ β γ : Type} {res : ρ} {rez fin : β × sR × sV × Nat}
theorem acC_in {q : Sum γ Nat × sR × sV × Nat} {f : γ → sR → sV → Nat → Option (β × sR × sV × Nat)} {g : Nat → Option β} {a : γ} (h1 : q.1 = .inl a) (hf : acC q n f g = some rez) : ∃ z1, f a q.2.1 q.2.2.1 (n + q.2.2.2) = some z1 ∧ fz n rez = fz (n + q.2.2.2) z1 := by
  unfold acC at hf
  rw [h1] at hf
  exact ac_e hf
theorem acC_out {q : Sum γ Nat × sR × sV × Nat} {f : γ → sR → sV → Nat → Option (β × sR × sV × Nat)} {g : Nat → Option β} {ke : Nat} (h1 : q.1 = .inr ke) (hf : acC q n f g = some rez) : ∃ b, g ke = some b ∧ fz n rez = fz (n + q.2.2.2) (b, q.2.1, q.2.2.1, 0) := by
  unfold acC at hf
  rw [h1] at hf
  cases hg : g ke with
  | none => simp [hg] at hf
  | some b =>
    simp only [hg, Option.map_some, Option.some.injEq] at hf
    subst hf
    exact ⟨b, rfl, rfl⟩
theorem acC_le {q : Sum γ Nat × sR × sV × Nat} {f : γ → sR → sV → Nat → Option (β × sR × sV × Nat)} {g : Nat → Option β} (hf : acC q n f g = some rez) (he : fin = fz n rez) : n + q.2.2.2 ≤ fin.2.2.2 := by
  cases h1 : q.1 with
  | inl a =>
    obtain ⟨z1, h2, h3⟩ := acC_in h1 hf
    rw [he, h3]
    exact Nat.le_add_right _ _
  | inr k =>
    obtain ⟨b, h2, h3⟩ := acC_out h1 hf
    rw [he, h3]
    exact Nat.le_add_right _ _
theorem acC_room {q : Sum γ Nat × sR × sV × Nat} {f : γ → sR → sV → Nat → Option (β × sR × sV × Nat)} {g : Nat → Option β} (hf : acC q n f g = some rez) (he : fin = fz n rez) (h0 : n0 ≤ n) : (n - n0) + mcT n (fz n q) ≤ mcL n0 fin ∧ (sz n - sz n0) + msT n (fz n q) ≤ msL n0 fin := by
  have h1 := acC_le hf he
  have h5 := sz_le (Nat.le_add_right n q.2.2.2)
  have h6 := sz_le h1
  have h7 := sz_le h0
  have h8 : exc (fz n q).1 ≤ 1 := by
    show exc q.1 ≤ 1
    cases q.1 with
    | inl a => exact Nat.zero_le _
    | inr k => exact Nat.le_refl _
  have h9 : (fz n q).2.2.2 = n + q.2.2.2 := rfl
  unfold mcT msT mcL msL
  rw [h9]
  constructor <;> omega
theorem sc_Ci (hB : sB D G (sA ad0 r0 n0 s.heap.size) s.heap ad r v n x H locs) (hgo : sGo r0 n0 ad0 r n ad) (hRc : mcL n0 fin ≤ R.cells ∧ msL n0 fin ≤ R.slots) {o : Option (Sum Int32 Nat × sR × sV × Nat)} {f : Int32 → sR → sV → Nat → Option (β × sR × sV × Nat)} {g : Nat → Option β} {a : Array Value} (hf : o.bind (fun q => acC q n f g) = some rez) (he : fin = fz n rez)
    (hr : ∀ q0, o = some q0 → (n - n0) + mcT n (fz n q0) ≤ R.cells ∧ (sz n - sz n0) + msT n (fz n q0) ≤ R.slots → vx_Run p l e R s m args below meth c H locs (n - n0) (sz n - sz n0) (mcT n (fz n q0)) (msT n (fz n q0)) (F0 m pc ls st0) rest (sQTi D G ad r n x H.size (fz n q0) a) (sXC D G ad r n x H.size (fz n q0)) (sA ad r n H.size))
    (kx : ∀ (ke : Nat) (b : β) (r1 : sR) (v1 : sV) (n1 : Nat), g ke = some b → fin = fz n1 (b, r1, v1, 0) → ∀ ad1 : Nat → Nat, sGo r0 n0 ad0 r1 n1 ad1 → n ≤ n1 → ∀ (cells slots : Nat), cells ≤ mcL n0 fin → slots ≤ msL n0 fin → ∀ (H : Heap) (locs : List Loc), sB D G (sA ad0 r0 n0 s.heap.size) s.heap ad1 r1 v1 n1 x H locs → ∀ (q9 : Nat) (ce : Cell), H[q9]? = some ce → ce.vm = .none → s.vm.findClass (exn ke) = some ce.cls → vx_W p l e R s m args below meth c H locs cells slots Q (F0 m pc ls rest) q9)
    (kk : ∀ (y : Int32) (r1 : sR) (v1 : sV) (n1 : Nat) (rez : β × sR × sV × Nat), f y r1 v1 n1 = some rez → fin = fz n1 rez → ∀ ad1 : Nat → Nat, sGo r n ad r1 n1 ad1 → n ≤ n1 → ∀ (cells slots : Nat), cells ≤ mcL n0 fin → slots ≤ msL n0 fin → ∀ (H : Heap) (locs : List Loc), sB D G (sA ad0 r0 n0 s.heap.size) s.heap ad1 r1 v1 n1 x H locs → W p l e R s m args below meth c H locs cells slots Q (F0 m (pc + 3) ls (.int y :: rest))) : W p l e R s m args below meth c H locs (n - n0) (sz n - sz n0) Q (F0 m pc ls st0) := by
  obtain ⟨q0, h1, hf⟩ := bi_e hf
  have hrm := acC_room hf he hgo.1
  have hA0 : ∀ q, s.heap.size ≤ q → sA ad0 r0 n0 s.heap.size q := fun q h => Or.inr h
  refine vx_calli (hr q0 h1 ⟨Nat.le_trans hrm.1 hRc.1, Nat.le_trans hrm.2 hRc.2⟩) hB.2.2 (fun q _ h => sA_in hB hA0 q h) (sA_in hB hA0) (fun q _ h => sA_in hB hA0 q h) (fun E0 ce q9 ad1 t H1 locs1 ht ha hp hb hz hk hS hce hcv hcl => ?_) (fun y ad1 t H1 locs1 ht hvm hw hb hz hk hS => ?_)
  · obtain ⟨⟨ke, hke, rfl⟩, hE⟩ := hb
    have hke : q0.1 = .inr ke := hke
    obtain ⟨b, h2, h3⟩ := acC_out hke hf
    refine kx ke b _ _ _ h2 (he.trans h3) ad1 (hgo.trans hp) (Nat.le_add_right _ _) _ _ hrm.1 hrm.2 H1 locs1 ⟨?_, ⟨hE.2.1, fun k z hz => sA_in hB hA0 _ (hE.2.2 k z hz)⟩, hS⟩ q9 ce hce hcv hcl
    rw [← ht]; exact hE.1
  · obtain ⟨hw, hg1⟩ := hw
    have hw : q0.1 = .inl y := hw
    obtain ⟨z1, hf, h2⟩ := acC_in hw hf
    refine kk y _ _ _ z1 hf (he.trans h2) ad1 hg1 (Nat.le_add_right _ _) _ _ hrm.1 hrm.2 H1 locs1 ⟨?_, ⟨hb.2.1, fun k z hz => sA_in hB hA0 _ (hb.2.2 k z hz)⟩, hS⟩
    rw [← ht]; exact hb.1
theorem sc_Cd (hB : sB D G (sA ad0 r0 n0 s.heap.size) s.heap ad r v n x H locs) (hgo : sGo r0 n0 ad0 r n ad) (hRc : mcL n0 fin ≤ R.cells ∧ msL n0 fin ≤ R.slots) {o : Option (Sum UInt64 Nat × sR × sV × Nat)} {f : UInt64 → sR → sV → Nat → Option (β × sR × sV × Nat)} {g : Nat → Option β} {a : Array Value} (hf : o.bind (fun q => acC q n f g) = some rez) (he : fin = fz n rez)
    (hr : ∀ q0, o = some q0 → (n - n0) + mcT n (fz n q0) ≤ R.cells ∧ (sz n - sz n0) + msT n (fz n q0) ≤ R.slots → vx_Run p l e R s m args below meth c H locs (n - n0) (sz n - sz n0) (mcT n (fz n q0)) (msT n (fz n q0)) (F0 m pc ls st0) rest (sQTd D G ad r n x H.size (fz n q0) a) (sXC D G ad r n x H.size (fz n q0)) (sA ad r n H.size))
    (kx : ∀ (ke : Nat) (b : β) (r1 : sR) (v1 : sV) (n1 : Nat), g ke = some b → fin = fz n1 (b, r1, v1, 0) → ∀ ad1 : Nat → Nat, sGo r0 n0 ad0 r1 n1 ad1 → n ≤ n1 → ∀ (cells slots : Nat), cells ≤ mcL n0 fin → slots ≤ msL n0 fin → ∀ (H : Heap) (locs : List Loc), sB D G (sA ad0 r0 n0 s.heap.size) s.heap ad1 r1 v1 n1 x H locs → ∀ (q9 : Nat) (ce : Cell), H[q9]? = some ce → ce.vm = .none → s.vm.findClass (exn ke) = some ce.cls → vx_W p l e R s m args below meth c H locs cells slots Q (F0 m pc ls rest) q9)
    (kk : ∀ (y : UInt64) (r1 : sR) (v1 : sV) (n1 : Nat) (rez : β × sR × sV × Nat), f y r1 v1 n1 = some rez → fin = fz n1 rez → ∀ ad1 : Nat → Nat, sGo r n ad r1 n1 ad1 → n ≤ n1 → ∀ (cells slots : Nat), cells ≤ mcL n0 fin → slots ≤ msL n0 fin → ∀ (H : Heap) (locs : List Loc), sB D G (sA ad0 r0 n0 s.heap.size) s.heap ad1 r1 v1 n1 x H locs → W p l e R s m args below meth c H locs cells slots Q (F0 m (pc + 3) ls (.double y :: rest))) : W p l e R s m args below meth c H locs (n - n0) (sz n - sz n0) Q (F0 m pc ls st0) := by
  obtain ⟨q0, h1, hf⟩ := bi_e hf
  have hrm := acC_room hf he hgo.1
  have hA0 : ∀ q, s.heap.size ≤ q → sA ad0 r0 n0 s.heap.size q := fun q h => Or.inr h
  refine vx_calld (hr q0 h1 ⟨Nat.le_trans hrm.1 hRc.1, Nat.le_trans hrm.2 hRc.2⟩) hB.2.2 (fun q _ h => sA_in hB hA0 q h) (sA_in hB hA0) (fun q _ h => sA_in hB hA0 q h) (fun E0 ce q9 ad1 t H1 locs1 ht ha hp hb hz hk hS hce hcv hcl => ?_) (fun y ad1 t H1 locs1 ht hvm hw hb hz hk hS => ?_)
  · obtain ⟨⟨ke, hke, rfl⟩, hE⟩ := hb
    have hke : q0.1 = .inr ke := hke
    obtain ⟨b, h2, h3⟩ := acC_out hke hf
    refine kx ke b _ _ _ h2 (he.trans h3) ad1 (hgo.trans hp) (Nat.le_add_right _ _) _ _ hrm.1 hrm.2 H1 locs1 ⟨?_, ⟨hE.2.1, fun k z hz => sA_in hB hA0 _ (hE.2.2 k z hz)⟩, hS⟩ q9 ce hce hcv hcl
    rw [← ht]; exact hE.1
  · obtain ⟨hw, hg1⟩ := hw
    have hw : q0.1 = .inl y := hw
    obtain ⟨z1, hf, h2⟩ := acC_in hw hf
    refine kk y _ _ _ z1 hf (he.trans h2) ad1 hg1 (Nat.le_add_right _ _) _ _ hrm.1 hrm.2 H1 locs1 ⟨?_, ⟨hb.2.1, fun k z hz => sA_in hB hA0 _ (hb.2.2 k z hz)⟩, hS⟩
    rw [← ht]; exact hb.1
theorem sc_Cf (hB : sB D G (sA ad0 r0 n0 s.heap.size) s.heap ad r v n x H locs) (hgo : sGo r0 n0 ad0 r n ad) (hRc : mcL n0 fin ≤ R.cells ∧ msL n0 fin ≤ R.slots) {o : Option (Sum UInt32 Nat × sR × sV × Nat)} {f : UInt32 → sR → sV → Nat → Option (β × sR × sV × Nat)} {g : Nat → Option β} {a : Array Value} (hf : o.bind (fun q => acC q n f g) = some rez) (he : fin = fz n rez)
    (hr : ∀ q0, o = some q0 → (n - n0) + mcT n (fz n q0) ≤ R.cells ∧ (sz n - sz n0) + msT n (fz n q0) ≤ R.slots → vx_Run p l e R s m args below meth c H locs (n - n0) (sz n - sz n0) (mcT n (fz n q0)) (msT n (fz n q0)) (F0 m pc ls st0) rest (sQTf D G ad r n x H.size (fz n q0) a) (sXC D G ad r n x H.size (fz n q0)) (sA ad r n H.size))
    (kx : ∀ (ke : Nat) (b : β) (r1 : sR) (v1 : sV) (n1 : Nat), g ke = some b → fin = fz n1 (b, r1, v1, 0) → ∀ ad1 : Nat → Nat, sGo r0 n0 ad0 r1 n1 ad1 → n ≤ n1 → ∀ (cells slots : Nat), cells ≤ mcL n0 fin → slots ≤ msL n0 fin → ∀ (H : Heap) (locs : List Loc), sB D G (sA ad0 r0 n0 s.heap.size) s.heap ad1 r1 v1 n1 x H locs → ∀ (q9 : Nat) (ce : Cell), H[q9]? = some ce → ce.vm = .none → s.vm.findClass (exn ke) = some ce.cls → vx_W p l e R s m args below meth c H locs cells slots Q (F0 m pc ls rest) q9)
    (kk : ∀ (y : UInt32) (r1 : sR) (v1 : sV) (n1 : Nat) (rez : β × sR × sV × Nat), f y r1 v1 n1 = some rez → fin = fz n1 rez → ∀ ad1 : Nat → Nat, sGo r n ad r1 n1 ad1 → n ≤ n1 → ∀ (cells slots : Nat), cells ≤ mcL n0 fin → slots ≤ msL n0 fin → ∀ (H : Heap) (locs : List Loc), sB D G (sA ad0 r0 n0 s.heap.size) s.heap ad1 r1 v1 n1 x H locs → W p l e R s m args below meth c H locs cells slots Q (F0 m (pc + 3) ls (.float y :: rest))) : W p l e R s m args below meth c H locs (n - n0) (sz n - sz n0) Q (F0 m pc ls st0) := by
  obtain ⟨q0, h1, hf⟩ := bi_e hf
  have hrm := acC_room hf he hgo.1
  have hA0 : ∀ q, s.heap.size ≤ q → sA ad0 r0 n0 s.heap.size q := fun q h => Or.inr h
  refine vx_callf (hr q0 h1 ⟨Nat.le_trans hrm.1 hRc.1, Nat.le_trans hrm.2 hRc.2⟩) hB.2.2 (fun q _ h => sA_in hB hA0 q h) (sA_in hB hA0) (fun q _ h => sA_in hB hA0 q h) (fun E0 ce q9 ad1 t H1 locs1 ht ha hp hb hz hk hS hce hcv hcl => ?_) (fun y ad1 t H1 locs1 ht hvm hw hb hz hk hS => ?_)
  · obtain ⟨⟨ke, hke, rfl⟩, hE⟩ := hb
    have hke : q0.1 = .inr ke := hke
    obtain ⟨b, h2, h3⟩ := acC_out hke hf
    refine kx ke b _ _ _ h2 (he.trans h3) ad1 (hgo.trans hp) (Nat.le_add_right _ _) _ _ hrm.1 hrm.2 H1 locs1 ⟨?_, ⟨hE.2.1, fun k z hz => sA_in hB hA0 _ (hE.2.2 k z hz)⟩, hS⟩ q9 ce hce hcv hcl
    rw [← ht]; exact hE.1
  · obtain ⟨hw, hg1⟩ := hw
    have hw : q0.1 = .inl y := hw
    obtain ⟨z1, hf, h2⟩ := acC_in hw hf
    refine kk y _ _ _ z1 hf (he.trans h2) ad1 hg1 (Nat.le_add_right _ _) _ _ hrm.1 hrm.2 H1 locs1 ⟨?_, ⟨hb.2.1, fun k z hz => sA_in hB hA0 _ (hb.2.2 k z hz)⟩, hS⟩
    rw [← ht]; exact hb.1
end SWC
/-- which exceptions are not of which other's kind -/
def sNc (U : State) : Prop := ∀ w ∈ [(2, 1), (3, 1), (3, 2), (4, 1)], va_Nc (exn w.1) (exn w.2) U
def sPL (D : va_G) (G : Nat → ClassId) (ad : Nat → Nat) (r : sR) (v : sV) (n : Nat) (x : Int64 × UInt64) (sz0 : Nat) (av : List Value) : Array Value → State → Prop := fun a U => sPT D G ad r v n x sz0 av a U ∧ sNc U
theorem sNc.warm {s U : State} (hW : s.WarmedH U.vm) (h : sNc s) : sNc U := fun w hw => va_Nc.moved hW.alike (h w hw)
theorem fb_L {D : va_G} {G : Nat → ClassId} {ad : Nat → Nat} {r : sR} {v : sV} {n : Nat} {x : Int64 × UInt64} {sz0 : Nat} {av : List Value} : FrameBlind (sPL D G ad r v n x sz0 av) := fun a U g mk q => ⟨fb_T _ _ _ _ q.1, sNc.warm (s := U) (U := U.calling g mk a) (State.WarmedH.refl U) q.2⟩
def sWX : String → State → State → Prop := fun _ _ _ => False
def sQL (D : va_G) (G : Nat → ClassId) (ad : Nat → Nat) (r : sR) (n : Nat) (sz0 : Nat) (fin : (Int32 × (Int64 × UInt64)) × sR × sV × Nat) : Array Value → State → Outcome → State → Prop := va_Qi (fun (q : Int32) (ad' : Nat → Nat) => q = fin.1.1 ∧ sGo r n ad fin.2.1 fin.2.2.2 ad') (fun ad' t => sE D G ad r n fin.1.2 sz0 fin.2.1 fin.2.2.1 fin.2.2.2 ad' t) (sA ad r n sz0)
def sML (l : Launch) (y : MethodName) (ws : List Cond) (rm : Nat → Nat → Room) (D : va_G) (G : Nat → ClassId) (ad : Nat → Nat) (r : sR) (v : sV) (n : Nat) (x : Int64 × UInt64) (av : List Value) (o : Option ((Int32 × (Int64 × UInt64)) × sR × sV × Nat)) : Prop :=
  ∀ (sz0 : Nat) (q0 : (Int32 × (Int64 × UInt64)) × sR × sV × Nat), o = some q0 → vx_Met l y ws (rm (mcL n (fz n q0)) (msL n (fz n q0))) (sPL D G ad r v n x sz0 av) (sQL D G ad r n sz0 (fz n q0)) sWX (mcL n (fz n q0)) (msL n (fz n q0)) (sA ad r n sz0)
section SWL
variable {p : Program} {l : Launch} {e : Env} {R : Room} {s : State} {m : MethodId} {args : Array Value} {below : List Frame} {meth : Method} {c : Code} {H : Heap} {locs : List Loc} {cells slots : Nat} {Q : State → Prop} {pc : Nat} {ls : Array Slot} {rest : List Value} {cc : ByteArray} {nL : Nat} {own : String} {Ts : List Cond}
variable {D : va_G} {G : Nat → ClassId} {ad ad0 : Nat → Nat} {r r0 : sR} {v : sV} {n n0 : Nat} {x x0 : Int64 × UInt64} {fin : (Int32 × (Int64 × UInt64)) × sR × sV × Nat}
theorem s_iretL (E : CallFix p m c cc nL s args Ts own) (hr : meth.sig.returnType = some .int) (hlocks : meth.locks = false) (hB : sB D G (sA ad0 r0 n0 s.heap.size) s.heap ad r v n x H locs) (hgo : sGo r0 n0 ad0 r n ad) {y : Int32} (he : fin = fz n ((y, x), r, v, 0)) (hc : cells ≤ mcL n0 fin) (hs : slots ≤ msL n0 fin) (hdg : decode cc pc = .ok (.ireturn, 1)) : W p l e R s m args below meth c H locs cells slots (vx_MQ below (sQL D G ad0 r0 n0 s.heap.size fin) sWX args s (mcL n0 fin) (msL n0 fin) (sA ad0 r0 n0 s.heap.size)) (F0 m pc ls [.int y]) := by
  subst he
  have h : W p l e R s m args below meth c H locs (mcL n0 (fz n ((y, x), r, v, 0))) (msL n0 (fz n ((y, x), r, v, 0))) (vx_MQ below (sQL D G ad0 r0 n0 s.heap.size (fz n ((y, x), r, v, 0))) sWX args s (mcL n0 (fz n ((y, x), r, v, 0))) (msL n0 (fz n ((y, x), r, v, 0))) (sA ad0 r0 n0 s.heap.size)) (F0 m pc ls [.int y]) :=
    vx_ret (W.iret (v := y) E.1 E.2.1 hr (fun t ht hW => ⟨⟨y, ad, rfl, ⟨rfl, hgo⟩, sB_at hB ht, hB.2.1⟩, hB.2.2.F ht⟩) hB.2.2.2.2 hdg hlocks)
  intro T hT X
  exact h T hT (X.mono hc hs)
end SWL
