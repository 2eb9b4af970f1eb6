/-! ROWS over the world of part 10 -/
section SRW
variable {p : Program} {l : Launch} {e : Env} {R : Room} {s : State} {m : MethodId} {args : Array Value} {below : List Frame} {meth : Method} {c : Code} {H : Heap} {locs : List Loc} {cells slots : Nat} {Q : State → Prop} {pc : Nat} {ls : Array Slot} {rest : List Value} {cc : ByteArray} {nL : Nat} {Ts : List Cond} {own : String}
variable {D : va_G} {G : Nat → ClassId} {A : Nat → Prop} {H0 : Heap} {ad : Nat → Nat} {r : sR} {v : sV} {n : Nat} {x : Int64 × UInt64} {ρ : Type} {res : ρ}
theorem s_in {i : Int32} {N : Nat} (h : 0 ≤ i.toInt ∧ i.toInt < N) : vp_in i N := vp_in_iff.mpr h
/-- a name for a computed number -/
theorem s_nm {y : Int32} {f : Int32 → Option ρ} (hf : nm y f = some res) (k : ∀ z : Int32, f z = some res → W p l e R s m args below meth c H locs cells slots Q (F0 m pc ls (.int z :: rest))) : W p l e R s m args below meth c H locs cells slots Q (F0 m pc ls (.int y :: rest)) := k y hf
theorem s_iald (E : CallFix p m c cc nL s args Ts own) (hU : sU D G s) (hP : va_P D vwCl (sWl G ad r v n x) H) {q N : Nat} {i : Int32} {f : Int32 → Option ρ} (hq : lv r n q) (hk : sks q = (10, N)) (hdg : decode cc pc = .ok (.iaload, 1)) (hf : ld v q N i f = some res)
    (k : ∀ y : Int32, f y = some res → W p l e R s m args below meth c H locs cells slots Q (F0 m (pc + 1) ls (.int y :: rest))) : W p l e R s m args below meth c H locs cells slots Q (F0 m pc ls (.int i :: .ref (ad q) :: rest)) := by
  obtain ⟨hin, hf⟩ := ld_e hf
  exact va_iald E.1 E.2.1 hU.1 hP (sIx r q) 0 (cA := G 0) (n := N) (f := v q) (by rw [sWl_get hq]; simp [sC, hk]) rfl (s_in hin) hdg (k _ hf)
theorem s_zald (E : CallFix p m c cc nL s args Ts own) (hU : sU D G s) (hP : va_P D vwCl (sWl G ad r v n x) H) {q N : Nat} {i : Int32} {f : Int32 → Option ρ} (hq : lv r n q) (hk : sks q = (11, N)) (hdg : decode cc pc = .ok (.baload, 1)) (hf : ld v q N i f = some res)
    (k : ∀ y : Int32, f y = some res → W p l e R s m args below meth c H locs cells slots Q (F0 m (pc + 1) ls (.int y :: rest))) : W p l e R s m args below meth c H locs cells slots Q (F0 m pc ls (.int i :: .ref (ad q) :: rest)) := by
  obtain ⟨hin, hf⟩ := ld_e hf
  exact va_zald E.1 E.2.1 hU.1 hP (sIx r q) 1 (cA := G 1) (n := N) (f := v q) (by rw [sWl_get hq]; simp [sC, hk]) rfl (s_in hin) hdg (k _ hf)
theorem s_cald (E : CallFix p m c cc nL s args Ts own) (hU : sU D G s) (hP : va_P D vwCl (sWl G ad r v n x) H) {q N : Nat} {i : Int32} {f : Int32 → Option ρ} (hq : lv r n q) (hk : sks q = (12, N)) (hdg : decode cc pc = .ok (.caload, 1)) (hf : ld v q N i f = some res)
    (k : ∀ y : Int32, f y = some res → W p l e R s m args below meth c H locs cells slots Q (F0 m (pc + 1) ls (.int y :: rest))) : W p l e R s m args below meth c H locs cells slots Q (F0 m pc ls (.int i :: .ref (ad q) :: rest)) := by
  obtain ⟨hin, hf⟩ := ld_e hf
  exact va_cald E.1 E.2.1 hU.1 hP (sIx r q) 2 (cA := G 2) (n := N) (f := v q) (by rw [sWl_get hq]; simp [sC, hk]) rfl (s_in hin) hdg (k _ hf)
theorem s_iast (E : CallFix p m c cc nL s args Ts own) (hU : sU D G s) (hB : sB D G A H0 ad r v n x H locs) {q N : Nat} {i y : Int32} {f : sV → Option ρ} (hq : lv r n q) (hk : sks q = (10, N)) (hdg : decode cc pc = .ok (.iastore, 1)) (hf : sa v q N i y f = some res)
    (k : ∀ v : sV, f v = some res → ∀ (H : Heap) (locs : List Loc), sB D G A H0 ad r v n x H locs → W p l e R s m args below meth c H locs cells slots Q (F0 m (pc + 1) ls rest)) : W p l e R s m args below meth c H locs cells slots Q (F0 m pc ls (.int y :: .int i :: .ref (ad q) :: rest)) := by
  obtain ⟨hin, hf⟩ := sa_e hf
  have hset : (sWl G ad r v n x).set (sIx r q) (ad q, .inl (G 0, N, .inl (upd (v q) i.toNatClampNeg y))) = sWl G ad r (s2 v q i.toNatClampNeg y) n x := by
    refine sWl_set hq (fun _ _ => Iff.rfl) ?_ (fun q' _ h' => sC_ne rfl (s2_ne h'))
    simp [sC, hk, s2_upd]
  refine va_iast E.1 E.2.1 hU.1 hB.1 hB.2.1 hB.2.2 (sIx r q) 0 (cA := G 0) (n := N) (f := v q) (by rw [sWl_get hq]; simp [sC, hk]) rfl (s_in hin) hdg (fun H1 locs1 h1 h2 h3 => ?_)
  rw [hset] at h1 h2
  exact k _ hf H1 locs1 ⟨h1, h2, h3⟩
theorem s_zast (E : CallFix p m c cc nL s args Ts own) (hU : sU D G s) (hB : sB D G A H0 ad r v n x H locs) {q N : Nat} {i y : Int32} {f : sV → Option ρ} (hq : lv r n q) (hk : sks q = (11, N)) (hy : vp_nar .boolean y = y) (hdg : decode cc pc = .ok (.bastore, 1)) (hf : sa v q N i y f = some res)
    (k : ∀ v : sV, f v = some res → ∀ (H : Heap) (locs : List Loc), sB D G A H0 ad r v n x H locs → W p l e R s m args below meth c H locs cells slots Q (F0 m (pc + 1) ls rest)) : W p l e R s m args below meth c H locs cells slots Q (F0 m pc ls (.int y :: .int i :: .ref (ad q) :: rest)) := by
  obtain ⟨hin, hf⟩ := sa_e hf
  have hset : (sWl G ad r v n x).set (sIx r q) (ad q, .inl (G 1, N, .inl (upd (v q) i.toNatClampNeg (vp_nar .boolean y)))) = sWl G ad r (s2 v q i.toNatClampNeg y) n x := by
    refine sWl_set hq (fun _ _ => Iff.rfl) ?_ (fun q' _ h' => sC_ne rfl (s2_ne h'))
    simp [sC, hk, s2_upd, hy]
  refine va_zast E.1 E.2.1 hU.1 hB.1 hB.2.1 hB.2.2 (sIx r q) 1 (cA := G 1) (n := N) (f := v q) (by rw [sWl_get hq]; simp [sC, hk]) rfl (s_in hin) hdg (fun H1 locs1 h1 h2 h3 => ?_)
  rw [hset] at h1 h2
  exact k _ hf H1 locs1 ⟨h1, h2, h3⟩
theorem s_cast (E : CallFix p m c cc nL s args Ts own) (hU : sU D G s) (hB : sB D G A H0 ad r v n x H locs) {q N : Nat} {i y : Int32} {f : sV → Option ρ} (hq : lv r n q) (hk : sks q = (12, N)) (hdg : decode cc pc = .ok (.castore, 1)) (hf : ckc y (sa v q N i y f) = some res)
    (k : ∀ v : sV, f v = some res → ∀ (H : Heap) (locs : List Loc), sB D G A H0 ad r v n x H locs → W p l e R s m args below meth c H locs cells slots Q (F0 m (pc + 1) ls rest)) : W p l e R s m args below meth c H locs cells slots Q (F0 m pc ls (.int y :: .int i :: .ref (ad q) :: rest)) := by
  obtain ⟨hc9, hf⟩ := ckc_e hf
  obtain ⟨hin, hf⟩ := sa_e hf
  have hy : vp_nar .char y = y := by
    obtain ⟨k9, hk9, rfl⟩ := vp_in_of (n := 65536) (s_in hc9) (by decide)
    have h9 := (pk_charN hk9).1
    unfold vp_nar
    rw [h9]
  have hset : (sWl G ad r v n x).set (sIx r q) (ad q, .inl (G 2, N, .inl (upd (v q) i.toNatClampNeg (vp_nar .char y)))) = sWl G ad r (s2 v q i.toNatClampNeg y) n x := by
    refine sWl_set hq (fun _ _ => Iff.rfl) ?_ (fun q' _ h' => sC_ne rfl (s2_ne h'))
    simp [sC, hk, s2_upd, hy]
  refine va_cast E.1 E.2.1 hU.1 hB.1 hB.2.1 hB.2.2 (sIx r q) 2 (cA := G 2) (n := N) (f := v q) (by rw [sWl_get hq]; simp [sC, hk]) rfl (s_in hin) hdg (fun H1 locs1 h1 h2 h3 => ?_)
  rw [hset] at h1 h2
  exact k _ hf H1 locs1 ⟨h1, h2, h3⟩
theorem s_getV (E : CallFix p m c cc nL s args Ts own) (hU : sU D G s) (hP : va_P D vwCl (sWl G ad r v n x) H) {q k ci N index : Nat} {C ref : String} {T : u_T} {ty : Nat → FieldType} (hcl : sCls ci C T N ty) (hq : lv r n q) (hk : sks q = (ci, N)) (hin : ∀ w ∈ u_ws C T N, w ∈ Ts) (hkN : k < N) (hre : (T k).1 = ref) (hlink : Cond.fieldLink own index ref (T k).2.1 (T k).2.2.1 ∈ Ts) (hdg : decode cc pc = .ok (.getfield index, 3))
    (kk : W p l e R s m args below meth c H locs cells slots Q (F0 m (pc + 3) ls (sF1 ad (r q) (v q) (sFl ci) k :: rest))) : W p l e R s m args below meth c H locs cells slots Q (F0 m pc ls (.ref (ad q) :: rest)) := by
  obtain ⟨h1, h2, h3, h4, h5⟩ := hcl
  exact va_get E.1 E.2.1 E.2.2.2.2 hin E.2.2.2.1 hU.1 hP (sIx r q) (fs := sFs ad (r q) (v q) (sFl ci)) (by rw [sWl_get hq]; simp only [sC, hk, h1, if_true]) h2 k hkN (E.2.2.2.2 _ hlink) (fun x9 h9 => by rw [← hre]; exact h9) (by rw [sFs_get (by rw [h3]; exact hkN)]) hdg kk
theorem s_getI (E : CallFix p m c cc nL s args Ts own) (hU : sU D G s) (hP : va_P D vwCl (sWl G ad r v n x) H) {q k ci N index : Nat} {C ref : String} {T : u_T} {ty : Nat → FieldType} (hcl : sCls ci C T N ty) (hq : lv r n q) (hk : sks q = (ci, N)) (hin : ∀ w ∈ u_ws C T N, w ∈ Ts) (hkN : k < N) (hre : (T k).1 = ref) (hfl : (sFl ci).getD k false = false) (hlink : Cond.fieldLink own index ref (T k).2.1 (T k).2.2.1 ∈ Ts) (hdg : decode cc pc = .ok (.getfield index, 3))
    (kk : W p l e R s m args below meth c H locs cells slots Q (F0 m (pc + 3) ls (.int (v q k) :: rest))) : W p l e R s m args below meth c H locs cells slots Q (F0 m pc ls (.ref (ad q) :: rest)) := by
  refine s_getV E hU hP hcl hq hk hin hkN hre hlink hdg ?_
  rw [show sF1 ad (r q) (v q) (sFl ci) k = .int (v q k) from if_neg (by rw [hfl]; decide)]
  exact kk
theorem s_getR (E : CallFix p m c cc nL s args Ts own) (hU : sU D G s) (hP : va_P D vwCl (sWl G ad r v n x) H) {q k ci N index t : Nat} {C ref : String} {T : u_T} {ty : Nat → FieldType} (hcl : sCls ci C T N ty) (hq : lv r n q) (hk : sks q = (ci, N)) (hin : ∀ w ∈ u_ws C T N, w ∈ Ts) (hkN : k < N) (hre : (T k).1 = ref) (hfl : (sFl ci).getD k false = true) (hlink : Cond.fieldLink own index ref (T k).2.1 (T k).2.2.1 ∈ Ts) (hr : r q k = t + 1) (hdg : decode cc pc = .ok (.getfield index, 3))
    (kk : W p l e R s m args below meth c H locs cells slots Q (F0 m (pc + 3) ls (.ref (ad t) :: rest))) : W p l e R s m args below meth c H locs cells slots Q (F0 m pc ls (.ref (ad q) :: rest)) := by
  refine s_getV E hU hP hcl hq hk hin hkN hre hlink hdg ?_
  rw [show sF1 ad (r q) (v q) (sFl ci) k = .ref (ad t) by unfold sF1; rw [if_pos hfl, hr]; rfl]
  exact kk
theorem s_putI (E : CallFix p m c cc nL s args Ts own) (hU : sU D G s) (hB : sB D G A H0 ad r v n x H locs) {q k ci N index : Nat} {C ref : String} {T : u_T} {ty : Nat → FieldType} {ty1 : FieldType} {y : Int32} {f : sV → Option ρ} (hcl : sCls ci C T N ty) (hq : lv r n q) (hk : sks q = (ci, N)) (hin : ∀ w ∈ u_ws C T N, w ∈ Ts) (hkN : k < N) (hre : (T k).1 = ref) (hfl : (sFl ci).getD k false = false) (hlink : Cond.fieldLink own index ref (T k).2.1 (T k).2.2.1 ∈ Ts) (hfin : (T k).2.2.2 = false) (hty : ty k = ty1) (hn : narrow ty1 (.int y) = .int y) (hfit : fits ty1 (.int y) = true) (hdg : decode cc pc = .ok (.putfield index, 3)) (hf : sf v q k y f = some res)
    (kk : ∀ v : sV, f v = some res → ∀ (H : Heap) (locs : List Loc), sB D G A H0 ad r v n x H locs → W p l e R s m args below meth c H locs cells slots Q (F0 m (pc + 3) ls rest)) : W p l e R s m args below meth c H locs cells slots Q (F0 m pc ls (.int y :: .ref (ad q) :: rest)) := by
  obtain ⟨h1, h2, h3, h4, h5⟩ := hcl
  have hset : (sWl G ad r v n x).set (sIx r q) (ad q, .inr (ci, (sFs ad (r q) (v q) (sFl ci)).set k (.int y))) = sWl G ad r (s2 v q k y) n x := by
    refine sWl_set hq (fun _ _ => Iff.rfl) ?_ (fun q' _ h' => sC_ne rfl (s2_ne h'))
    simp only [sC, hk, h1, if_true]
    rw [sFs_set (r' := r q) (v' := s2 v q k y q) (by rw [h3]; exact hkN) (by unfold sF1; rw [if_neg (by rw [hfl]; decide)]; simp [s2]) (fun j _ hj => by unfold sF1; simp [s2, hj])]
  refine va_put E.1 E.2.1 E.2.2.2.2 hin ty h4 h5 E.2.2.2.1 hU.1 hB.1 hB.2.1 hB.2.2 (sIx r q) (fs := sFs ad (r q) (v q) (sFl ci)) (by rw [sWl_get hq]; simp only [sC, hk, h1, if_true]) h2 k hkN (E.2.2.2.2 _ hlink) (fun x9 h9 => by rw [← hre]; exact h9) hfin (ty := ty1) (by rw [h4 k hkN, hty]) hn hfit (by rw [sFs_len, h3]; exact hkN) hdg (fun H1 locs1 g1 g2 g3 => ?_)
  rw [hset] at g1 g2
  exact kk _ hf H1 locs1 ⟨g1, g2, g3⟩
theorem s_alen (E : CallFix p m c cc nL s args Ts own) (hU : sU D G s) (hP : va_P D vwCl (sWl G ad r v n x) H) {q N : Nat} (hq : lv r n q) (hk : sks q = (10, N)) (hdg : decode cc pc = .ok (.arraylength, 1))
    (k : W p l e R s m args below meth c H locs cells slots Q (F0 m (pc + 1) ls (.int (nI N) :: rest))) : W p l e R s m args below meth c H locs cells slots Q (F0 m pc ls (.ref (ad q) :: rest)) :=
  va_alen E.1 E.2.1 hU.1 hP (sIx r q) 0 (cA := G 0) (x := (N, .inl (v q))) (by rw [sWl_get hq]; simp [sC, hk]) rfl rfl hdg k
theorem s_ddiv (E : CallFix p m c cc nL s args Ts own) {a b : UInt64} {f : UInt64 → Option ρ} (hdg : decode cc pc = .ok (.ddiv, 1)) (hf : ddv a b f = some res) (k : ∀ y : UInt64, f y = some res → W p l e R s m args below meth c H locs cells slots Q (F0 m (pc + 1) ls (.double y :: rest))) : W p l e R s m args below meth c H locs cells slots Q (F0 m pc ls (.double b :: .double a :: rest)) := by
  unfold ddv at hf
  split at hf
  · exact lv_ddiv E.1 E.2.1 hdg (by assumption) (k _ hf)
  · cases hf
theorem s_fdiv (E : CallFix p m c cc nL s args Ts own) {a b : UInt32} {f : UInt32 → Option ρ} (hdg : decode cc pc = .ok (.fdiv, 1)) (hf : fdv a b f = some res) (k : ∀ y : UInt32, f y = some res → W p l e R s m args below meth c H locs cells slots Q (F0 m (pc + 1) ls (.float y :: rest))) : W p l e R s m args below meth c H locs cells slots Q (F0 m pc ls (.float b :: .float a :: rest)) := by
  unfold fdv at hf
  split at hf
  · exact lv_fdiv E.1 E.2.1 hdg (by assumption) (k _ hf)
  · cases hf
/-! branches: the term goes with the branch that is taken -/
theorem ite_t {P : Prop} [Decidable P] {a b : Option ρ} (h : (if P then a else b) = some res) (hp : P) : a = some res := by rwa [if_pos hp] at h
theorem ite_f {P : Prop} [Decidable P] {a b : Option ρ} (h : (if P then a else b) = some res) (hp : ¬ P) : b = some res := by rwa [if_neg hp] at h
end SRW
