/-! THE LAW'S WRAPPERS: rows for the law's long and double cell; a call that may throw, caught -/
theorem sks_13 {q : Nat} (h : (sks q).1 = 13) : q = 170 := by
  unfold sks at h
  split at h
  · rename_i h1
    have h2 : ∀ q, q < 172 → (sTab.getD q (0, 0)).1 = 13 → q = 170 := by decide +kernel
    exact h2 q h1 h
  · split at h <;> exact absurd h (by decide)
theorem sks_14 {q : Nat} (h : (sks q).1 = 14) : q = 171 := by
  unfold sks at h
  split at h
  · rename_i h1
    have h2 : ∀ q, q < 172 → (sTab.getD q (0, 0)).1 = 14 → q = 171 := by decide +kernel
    exact h2 q h1 h
  · split at h <;> exact absurd h (by decide)
theorem sC_x {G : Nat → ClassId} {ad : Nat → Nat} {r : sR} {v : sV} {x x' : Int64 × UInt64} {q : Nat} (h1 : q = 170 → x'.1 = x.1) (h2 : q = 171 → x'.2 = x.2) : sC G ad r v x' q = sC G ad r v x q := by
  by_cases ha : (sks q).1 = 13
  · simp only [sC, h1 (sks_13 ha), ha, if_neg (by decide : ¬ 13 < 10), if_pos]
  · by_cases hb : (sks q).1 = 14
    · simp only [sC, h2 (sks_14 hb), hb, if_neg (by decide : ¬ 14 < 10), if_neg (by decide : ¬ 14 = 13), if_pos]
    · simp only [sC, if_neg ha, if_neg hb]
section SWR
variable {p : Program} {l : Launch} {e : Env} {R : Room} {s : State} {m : MethodId} {args : Array Value} {below : List Frame} {meth : Method} {c : Code} {H : Heap} {locs : List Loc} {cells slots : Nat} {Q : State → Prop} {pc : Nat} {ls : Array Slot} {rest st0 As : List Value} {cc : ByteArray} {nL : Nat} {own : String} {Ts : List Cond}
variable {D : va_G} {G : Nat → ClassId} {A : Nat → Prop} {H0 : Heap} {ad ad0 : Nat → Nat} {r : sR} {v : sV} {n n0 : Nat} {x : Int64 × UInt64} {α ρ β : Type} {res : ρ}
theorem s_last (E : CallFix p m c cc nL s args Ts own) (hU : sU D G s) (hB : sB D G A H0 ad r v n x H locs) (hq : 170 < n) {y : Int64} (hdg : decode cc pc = .ok (.lastore, 1))
    (k : ∀ (H : Heap) (locs : List Loc), sB D G A H0 ad r v n (y, x.2) H locs → W p l e R s m args below meth c H locs cells slots Q (F0 m (pc + 1) ls rest)) : W p l e R s m args below meth c H locs cells slots Q (F0 m pc ls (.long y :: .int 0 :: .ref (ad 170) :: rest)) := by
  refine va_last E.1 E.2.1 hU.1 hB.1 hB.2.1 hB.2.2 170 3 (cA := G 3) (n := 1) (f := fun _ => x.1) (by rw [sWl_get hq]; rfl) rfl (s_in (by decide)) hdg (fun H1 locs1 h1 h2 h3 => ?_)
  refine k H1 locs1 ⟨fun q e9 he => ?_, sD_any hB.2.1, h3⟩
  obtain ⟨hlt, rfl⟩ := sWl_out he
  by_cases hq2 : q = 170
  · subst hq2
    have h := h1 170 _ (by rw [List.getElem?_set_self (by rw [sWl_len]; exact hq)])
    exact h
  · have h := h1 q _ ((List.getElem?_set_ne (Ne.symm hq2)).trans (sWl_get hlt))
    rw [sC_x (x := x) (x' := (y, x.2)) (fun h9 => absurd h9 hq2) (fun _ => rfl)]
    exact h
theorem s_dast (E : CallFix p m c cc nL s args Ts own) (hU : sU D G s) (hB : sB D G A H0 ad r v n x H locs) (hq : 171 < n) {y : UInt64} (hdg : decode cc pc = .ok (.dastore, 1))
    (k : ∀ (H : Heap) (locs : List Loc), sB D G A H0 ad r v n (x.1, y) H locs → W p l e R s m args below meth c H locs cells slots Q (F0 m (pc + 1) ls rest)) : W p l e R s m args below meth c H locs cells slots Q (F0 m pc ls (.double y :: .int 0 :: .ref (ad 171) :: rest)) := by
  refine va_dast E.1 E.2.1 hU.1 hB.1 hB.2.1 hB.2.2 171 4 (cA := G 4) (n := 1) (f := fun _ => x.2) (by rw [sWl_get hq]; rfl) rfl (s_in (by decide)) hdg (fun H1 locs1 h1 h2 h3 => ?_)
  refine k H1 locs1 ⟨fun q e9 he => ?_, sD_any hB.2.1, h3⟩
  obtain ⟨hlt, rfl⟩ := sWl_out he
  by_cases hq2 : q = 171
  · subst hq2
    have h := h1 171 _ (by rw [List.getElem?_set_self (by rw [sWl_len]; exact hq)])
    exact h
  · have h := h1 q _ ((List.getElem?_set_ne (Ne.symm hq2)).trans (sWl_get hlt))
    rw [sC_x (x := x) (x' := (x.1, y)) (fun _ => rfl) (fun h9 => absurd h9 hq2)]
    exact h
/-- float to double: where the double is no NaN beyond the ordinary ones -/
def fdd (a : UInt32) (f : UInt64 → Option β) : Option β := if FP.f2d a &&& 0x7fffffffffffffff ≤ 0x7ff0000000000000 then f (FP.f2d a) else none
theorem s_f2d (E : CallFix p m c cc nL s args Ts own) {a : UInt32} {f : UInt64 → Option ρ} (hdg : decode cc pc = .ok (.f2d, 1)) (hf : fdd a f = some res) (k : ∀ y : UInt64, f y = some res → W p l e R s m args below meth c H locs cells slots Q (F0 m (pc + 1) ls (.double y :: rest))) : W p l e R s m args below meth c H locs cells slots Q (F0 m pc ls (.float a :: rest)) := by
  unfold fdd at hf
  split at hf
  · rename_i h
    exact lv_f2d E.1 E.2.1 hdg h (k _ hf)
  · cases hf
end SWR
