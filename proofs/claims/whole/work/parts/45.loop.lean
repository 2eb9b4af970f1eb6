/-! THE LAW'S LOOP: sOne: what one call of the script asks of the pure sides; sRun: all that are left -/
def sO {β : Type} (o : Option ((Int32 × (Int64 × UInt64)) × sR × sV × Nat)) (f : sV → Option (β × sV)) (P : Int64 × UInt64 → β → Prop) (r' : sR) (v' : sV) (k : Nat) (x' : Int64 × UInt64) : Prop :=
  ∃ (q0 : (Int32 × (Int64 × UInt64)) × sR × sV × Nat) (z : β × sV), o = some q0 ∧ sSh q0.2.1 ∧ f q0.2.2.1 = some z ∧ fX7_thrown z.2 = some q0.1.1 ∧ (q0.1.1 = 0 → P q0.1.2 z.1) ∧ r' = q0.2.1 ∧ v' = z.2 ∧ k = q0.2.2.2 ∧ x' = q0.1.2
def sOne (K : Nat) (xs : Nat → Int32) (i op : Nat) (r : sR) (v : sV) (n : Nat) (x : Int64 × UInt64) (r' : sR) (v' : sV) (k : Nat) (x' : Int64 × UInt64) : Prop := match op with
  | 0 => sO (fL_setCell K (xs (i + 1)) (xs (i + 2)) (xs (i + 3)) r v n x) (fX7_setCell K (xs (i + 1)) (xs (i + 2)) (xs (i + 3))) (fun c z => c.1 = z.toInt64) r' v' k x'
  | 1 => sO (fL_cell K (xs (i + 1)) (xs (i + 2)) (xs (i + 3)) r v n x) (fX7_cell K (xs (i + 1)) (xs (i + 2)) (xs (i + 3))) (fun c z => c.1 = z.toInt64) r' v' k x'
  | 2 => sO (fL_setGoal K (xs (i + 1)) (xs (i + 2)) (xs (i + 3)) r v n x) (fX7_setGoal K (xs (i + 1)) (xs (i + 2)) (xs (i + 3))) (fun c z => c.1 = z.toInt64) r' v' k x'
  | 3 => sO (fL_dropGoal K (xs (i + 1)) r v n x) (fX7_dropGoal K (xs (i + 1))) (fun c z => c.1 = z.toInt64) r' v' k x'
  | 4 => sO (fL_distance K (xs (i + 1)) (xs (i + 2)) (xs (i + 3)) r v n x) (fX7_distance K (xs (i + 1)) (xs (i + 2)) (xs (i + 3))) (fun c z => c.1 = z.toInt64) r' v' k x'
  | 5 => sO (fL_flow K (xs (i + 1)) (xs (i + 2)) (xs (i + 3)) r v n x) (fX7_flow K (xs (i + 1)) (xs (i + 2)) (xs (i + 3))) (fun c z => c.1 = z.toInt64) r' v' k x'
  | 6 => sO (fL_steps K (xs (i + 1)) (xs (i + 2)) (xs (i + 3)) r v n x) (fX7_steps K (xs (i + 1)) (xs (i + 2)) (xs (i + 3))) (fun c z => c.1 = z.toInt64) r' v' k x'
  | 7 => sO (fL_setPatience K (xs (i + 1)) r v n x) (fX7_setPatience K (xs (i + 1))) (fun c z => c.1 = z.toInt64) r' v' k x'
  | 8 => sO (fL_add K (xs (i + 1)) (xs (i + 2)) (xs (i + 3)) (xs (i + 4)) r v n x) (fX7_add K (xs (i + 1)) (xs (i + 2)) (xs (i + 3)) (xs (i + 4))) (fun c z => c.1 = z.toInt64) r' v' k x'
  | 9 => sO (fL_remove K (xs (i + 1)) r v n x) (fX7_remove K (xs (i + 1))) (fun c z => c.1 = z.toInt64) r' v' k x'
  | 10 => sO (fL_change K (xs (i + 1)) (if xs (i + 2) = 0 then 0 else 1) (xs (i + 3)) r v n x) (fX7_change K (xs (i + 1)) (if xs (i + 2) = 0 then 0 else 1) (xs (i + 3))) (fun c z => c.1 = z.toInt64) r' v' k x'
  | 11 => sO (fL_agent K (xs (i + 1)) (xs (i + 2)) r v n x) (fX7_agent K (xs (i + 1)) (xs (i + 2))) (fun c z => c.1 = z.toInt64) r' v' k x'
  | 12 => sO (fL_agents K (xs (i + 1)) r v n x) (fX7_agents K (xs (i + 1))) (fun c z => c.1 = z.toInt64) r' v' k x'
  | 13 => sO (fL_join K (xs (i + 1)) (xs (i + 2)) (xs (i + 3)) (xs (i + 4)) r v n x) (fX7_join K (xs (i + 1)) (xs (i + 2)) (xs (i + 3)) (xs (i + 4))) (fun c z => c.1 = z.toInt64) r' v' k x'
  | 14 => sO (fL_leave K (xs (i + 1)) r v n x) (fX7_leave K (xs (i + 1))) (fun c z => c.1 = z.toInt64) r' v' k x'
  | 15 => sO (fL_disorder K (xs (i + 1)) r v n x) (fX7_disorder K (xs (i + 1))) (fun c z => c.1 = z.toInt64) r' v' k x'
  | 16 => sO (fL_tick K (xs (i + 1)) r v n x) (fX7_tick K (xs (i + 1))) (fun c z => c.1 = z.toInt64) r' v' k x'
  | 17 => sO (fL_statistic (xs (i + 1)) r v n x) (fX7_statistic (xs (i + 1))) (fun c z => c.1 = z.toInt64) r' v' k x'
  | 18 => sO (fL_forecast K (xs (i + 1)) r v n x) (fX7_forecast K (xs (i + 1))) (fun c z => c.1 = z.toInt64) r' v' k x'
  | 19 => sO (fL_bottleneck K r v n x) (fX7_bottleneck K) (fun c z => c.1 = z.toInt64) r' v' k x'
  | 20 => ∃ (y : Int32) (z : Int32 × sV), fX6_jams K v = some y ∧ fX7_jams K v = some z ∧ y = z.1 ∧ r' = r ∧ v' = z.2 ∧ k = 0 ∧ x' = x
  | 21 => sO (fL_jam K (xs (i + 1)) (xs (i + 2)) r v n x) (fX7_jam K (xs (i + 1)) (xs (i + 2))) (fun c z => c.1 = z.toInt64) r' v' k x'
  | 22 => sO (fL_meanDistance K r v n x) (fX7_meanDistance K) (fun c z => Op.cmpValue (FP.dcmp c.2 z) .l = 0) r' v' k x'
  | 23 => sO (fL_density K r v n x) (fX7_density K) (fun c z => vf_n64 (FP.f2d z) ∧ Op.cmpValue (FP.dcmp c.2 (FP.f2d z)) .l = 0) r' v' k x'
  | 24 => sO (fL_feed (((xs (i + 1)).toUInt32 % 65536).toInt32) r v n x) (fX7_feed (((xs (i + 1)).toUInt32 % 65536).toInt32)) (fun c z => c.1 = z.toInt64) r' v' k x'
  | 25 => sO (fL_readMap K r v n x) (fX7_readMap K) (fun c z => c.1 = z.toInt64) r' v' k x'
  | 26 => sO (fL_map (xs (i + 1)) r v n x) (fX7_map (xs (i + 1))) (fun c z => c.1 = z.toInt64) r' v' k x'
  | 27 => sO (fL_undo K r v n x) (fX7_undo K) (fun c z => c.1 = z.toInt64) r' v' k x'
  | 28 => ∃ (y : Int32 × sV) (z : Int32 × sV), fX6_save K v = some y ∧ fX7_save K y.2 = some z ∧ y.1 = z.1 ∧ r' = r ∧ v' = z.2 ∧ k = 0 ∧ x' = x
  | 29 => sO (fL_restore K r v n x) (fX7_restore K) (fun c z => c.1 = z.toInt64) r' v' k x'
  | _ => r' = r ∧ v' = v ∧ k = 0 ∧ x' = x
def sOp (y : Int32) : Nat := (y &&& 31).toInt.toNat
def sRun (K : Nat) (xs : Nat → Int32) (L : Nat) : Nat → Nat → sR → sV → Nat → Int64 × UInt64 → Prop
  | 0, _, _, _, _, _ => True
  | N + 1, i, r, v, n, x => i + 5 ≤ L → ∃ (r' : sR) (v' : sV) (k : Nat) (x' : Int64 × UInt64), sOne K xs i (sOp (xs i)) r v n x r' v' k x' ∧ sSh r' ∧ n + k ≤ 660 ∧ sRun K xs L N (i + 5) r' v' (n + k) x'
theorem sOp_ok (y : Int32) : ((sOp y : Nat) : Int) = (y &&& 31).toInt ∧ sOp y < 32 := by
  have h : (y &&& 31).toBitVec.toNat ≤ 31 := by
    rw [Int32.toBitVec_and, BitVec.toNat_and]
    exact Nat.and_le_right
  have e : (y &&& 31).toInt = ((y &&& 31).toBitVec.toNat : Int) := by
    show (y &&& 31).toBitVec.toInt = _
    exact BitVec.toInt_eq_toNat_of_lt (by omega)
  unfold sOp
  omega
def sPcs : List Nat := [180, 260, 340, 420, 476, 556, 636, 716, 772, 864, 920, 1016, 1084, 1140, 1232, 1288, 1344, 1400, 1456, 1512, 1556, 1569, 1637, 1702, 1768, 1826, 1870, 1926, 1970, 1983]
def sOffs : Array Int := #[136, 216, 296, 376, 432, 512, 592, 672, 728, 820, 876, 972, 1040, 1096, 1188, 1244, 1300, 1356, 1412, 1468, 1512, 1525, 1593, 1658, 1724, 1782, 1826, 1882, 1926, 1939]
theorem sOffs_ok : ∀ op, op < 30 → ∃ off, sOffs[op]? = some off ∧ ((44 : Nat) : Int) + off = ((sPcs.getD op 0 : Nat) : Int) := by
  intro op h
  refine ⟨sOffs.getD op 0, ?_, ?_⟩
  · have : ∀ op : Fin 30, sOffs[op.val]? = some (sOffs.getD op.val 0) := by decide +kernel
    exact this ⟨op, h⟩
  · have : ∀ op : Fin 30, ((44 : Nat) : Int) + sOffs.getD op.val 0 = ((sPcs.getD op.val 0 : Nat) : Int) := by decide +kernel
    exact this ⟨op, h⟩
theorem sL5 {L : Nat} (hL : L ≤ 2560) : (Int32.ofNat L - 5).toInt = (L : Int) - 5 := by
  have h : (Int32.ofNat L).toInt = (L : Int) := Int32.toInt_ofNat_of_lt (by omega)
  rw [Int32.toInt_sub, h, show (5 : Int32).toInt = 5 from rfl]
  exact Int.bmod_eq_of_le (by omega) (by omega)
section
variable {p : Program} {l : Launch} {e : Env} {R : Room} {s : State} {m : MethodId} {args : Array Value} {below : List Frame} {meth : Method} {c : Code} {H : Heap} {locs : List Loc} {cells slots : Nat} {Q : State → Prop} {ls : Array Slot}
variable {D : va_G} {G : Nat → ClassId} {A : Nat → Prop} {ad : Nat → Nat} {r : sR} {v : sV} {n : Nat} {x : Int64 × UInt64} {b L i : Nat} {xs : Nat → Int32}
theorem law_arm (K : Nat) (C : sLC p R l s m c cells slots args A D G b L xs i) (hsh : sSh r) (hn : 172 ≤ n) (hl : lv_has ls 9 (sLl b ad i)) (hB : sB D G A s.heap ad r v n x H locs) {r' : sR} {v' : sV} {k : Nat} {x' : Int64 × UInt64} (hcs : cells + (k + 1) ≤ R.cells ∧ slots + (sz (n + k) - sz n + 6) ≤ R.slots)
    (kk : ∀ ad1 : Nat → Nat, sGo r n ad r' (n + k) ad1 → ∀ (H : Heap) (locs : List Loc), sB D G A s.heap ad1 r' v' (n + k) x' H locs → ∀ ls : Array Slot, lv_has ls 9 (sLl b ad1 i) → W p l e R s m args below meth c H locs (cells + (k + 1)) (slots + (sz (n + k) - sz n + 6)) Q (F0 m 2027 ls [])) : ∀ op : Nat, op < 30 → sOne K xs i op r v n x r' v' k x' → W p l e R s m args below meth c H locs cells slots Q (F0 m (sPcs.getD op 0) ls [])
  | 0, _, h1 => by
    obtain ⟨q0, z, h1, h2, h3, h4, h5, rfl, rfl, rfl, rfl⟩ := h1
    exact aL_0 K C hsh hn hl hB h1 h2 h3 h4 h5 hcs kk
  | 1, _, h1 => by
    obtain ⟨q0, z, h1, h2, h3, h4, h5, rfl, rfl, rfl, rfl⟩ := h1
    exact aL_1 K C hsh hn hl hB h1 h2 h3 h4 h5 hcs kk
  | 2, _, h1 => by
    obtain ⟨q0, z, h1, h2, h3, h4, h5, rfl, rfl, rfl, rfl⟩ := h1
    exact aL_2 K C hsh hn hl hB h1 h2 h3 h4 h5 hcs kk
  | 3, _, h1 => by
    obtain ⟨q0, z, h1, h2, h3, h4, h5, rfl, rfl, rfl, rfl⟩ := h1
    exact aL_3 K C hsh hn hl hB h1 h2 h3 h4 h5 hcs kk
  | 4, _, h1 => by
    obtain ⟨q0, z, h1, h2, h3, h4, h5, rfl, rfl, rfl, rfl⟩ := h1
    exact aL_4 K C hsh hn hl hB h1 h2 h3 h4 h5 hcs kk
  | 5, _, h1 => by
    obtain ⟨q0, z, h1, h2, h3, h4, h5, rfl, rfl, rfl, rfl⟩ := h1
    exact aL_5 K C hsh hn hl hB h1 h2 h3 h4 h5 hcs kk
  | 6, _, h1 => by
    obtain ⟨q0, z, h1, h2, h3, h4, h5, rfl, rfl, rfl, rfl⟩ := h1
    exact aL_6 K C hsh hn hl hB h1 h2 h3 h4 h5 hcs kk
  | 7, _, h1 => by
    obtain ⟨q0, z, h1, h2, h3, h4, h5, rfl, rfl, rfl, rfl⟩ := h1
    exact aL_7 K C hsh hn hl hB h1 h2 h3 h4 h5 hcs kk
  | 8, _, h1 => by
    obtain ⟨q0, z, h1, h2, h3, h4, h5, rfl, rfl, rfl, rfl⟩ := h1
    exact aL_8 K C hsh hn hl hB h1 h2 h3 h4 h5 hcs kk
  | 9, _, h1 => by
    obtain ⟨q0, z, h1, h2, h3, h4, h5, rfl, rfl, rfl, rfl⟩ := h1
    exact aL_9 K C hsh hn hl hB h1 h2 h3 h4 h5 hcs kk
  | 10, _, h1 => by
    obtain ⟨q0, z, h1, h2, h3, h4, h5, rfl, rfl, rfl, rfl⟩ := h1
    exact aL_10 K C hsh hn hl hB h1 h2 h3 h4 h5 hcs kk
  | 11, _, h1 => by
    obtain ⟨q0, z, h1, h2, h3, h4, h5, rfl, rfl, rfl, rfl⟩ := h1
    exact aL_11 K C hsh hn hl hB h1 h2 h3 h4 h5 hcs kk
  | 12, _, h1 => by
    obtain ⟨q0, z, h1, h2, h3, h4, h5, rfl, rfl, rfl, rfl⟩ := h1
    exact aL_12 K C hsh hn hl hB h1 h2 h3 h4 h5 hcs kk
  | 13, _, h1 => by
    obtain ⟨q0, z, h1, h2, h3, h4, h5, rfl, rfl, rfl, rfl⟩ := h1
    exact aL_13 K C hsh hn hl hB h1 h2 h3 h4 h5 hcs kk
  | 14, _, h1 => by
    obtain ⟨q0, z, h1, h2, h3, h4, h5, rfl, rfl, rfl, rfl⟩ := h1
    exact aL_14 K C hsh hn hl hB h1 h2 h3 h4 h5 hcs kk
  | 15, _, h1 => by
    obtain ⟨q0, z, h1, h2, h3, h4, h5, rfl, rfl, rfl, rfl⟩ := h1
    exact aL_15 K C hsh hn hl hB h1 h2 h3 h4 h5 hcs kk
  | 16, _, h1 => by
    obtain ⟨q0, z, h1, h2, h3, h4, h5, rfl, rfl, rfl, rfl⟩ := h1
    exact aL_16 K C hsh hn hl hB h1 h2 h3 h4 h5 hcs kk
  | 17, _, h1 => by
    obtain ⟨q0, z, h1, h2, h3, h4, h5, rfl, rfl, rfl, rfl⟩ := h1
    exact aL_17 K C hsh hn hl hB h1 h2 h3 h4 h5 hcs kk
  | 18, _, h1 => by
    obtain ⟨q0, z, h1, h2, h3, h4, h5, rfl, rfl, rfl, rfl⟩ := h1
    exact aL_18 K C hsh hn hl hB h1 h2 h3 h4 h5 hcs kk
  | 19, _, h1 => by
    obtain ⟨q0, z, h1, h2, h3, h4, h5, rfl, rfl, rfl, rfl⟩ := h1
    exact aL_19 K C hsh hn hl hB h1 h2 h3 h4 h5 hcs kk
  | 20, _, h1 => by
    obtain ⟨y, z, h1, h2, h4, rfl, rfl, rfl, rfl⟩ := h1
    refine aL_20 K C hsh hn hl hB h1 h2 h4 ⟨by omega, by omega⟩ (fun H locs hB => ?_)
    exact W.widen (by omega) (by omega) (kk ad sGo.rf H locs hB ls hl)
  | 21, _, h1 => by
    obtain ⟨q0, z, h1, h2, h3, h4, h5, rfl, rfl, rfl, rfl⟩ := h1
    exact aL_21 K C hsh hn hl hB h1 h2 h3 h4 h5 hcs kk
  | 22, _, h1 => by
    obtain ⟨q0, z, h1, h2, h3, h4, h5, rfl, rfl, rfl, rfl⟩ := h1
    exact aL_22 K C hsh hn hl hB h1 h2 h3 h4 h5 hcs kk
  | 23, _, h1 => by
    obtain ⟨q0, z, h1, h2, h3, h4, h5, rfl, rfl, rfl, rfl⟩ := h1
    exact aL_23 K C hsh hn hl hB h1 h2 h3 h4 h5 hcs kk
  | 24, _, h1 => by
    obtain ⟨q0, z, h1, h2, h3, h4, h5, rfl, rfl, rfl, rfl⟩ := h1
    exact aL_24 K C hsh hn hl hB h1 h2 h3 h4 h5 hcs kk
  | 25, _, h1 => by
    obtain ⟨q0, z, h1, h2, h3, h4, h5, rfl, rfl, rfl, rfl⟩ := h1
    exact aL_25 K C hsh hn hl hB h1 h2 h3 h4 h5 hcs kk
  | 26, _, h1 => by
    obtain ⟨q0, z, h1, h2, h3, h4, h5, rfl, rfl, rfl, rfl⟩ := h1
    exact aL_26 K C hsh hn hl hB h1 h2 h3 h4 h5 hcs kk
  | 27, _, h1 => by
    obtain ⟨q0, z, h1, h2, h3, h4, h5, rfl, rfl, rfl, rfl⟩ := h1
    exact aL_27 K C hsh hn hl hB h1 h2 h3 h4 h5 hcs kk
  | 28, _, h1 => by
    obtain ⟨y, z, h1, h2, h4, rfl, rfl, rfl, rfl⟩ := h1
    refine aL_28 K C hsh hn hl hB h1 h2 h4 ⟨by omega, by omega⟩ (fun H locs hB => ?_)
    exact W.widen (by omega) (by omega) (kk ad sGo.rf H locs hB ls hl)
  | 29, _, h1 => by
    obtain ⟨q0, z, h1, h2, h3, h4, h5, rfl, rfl, rfl, rfl⟩ := h1
    exact aL_29 K C hsh hn hl hB h1 h2 h3 h4 h5 hcs kk
  | q + 30, h, _ => absurd h (by omega)
set_option maxRecDepth 100000 in
set_option maxHeartbeats 4000000 in
theorem law_step (K : Nat) (C : sLC p R l s m c cells slots args A D G b L xs i) (hsh : sSh r) (hn : 172 ≤ n) (hl : lv_has ls 9 (sLl b ad i)) (hB : sB D G A s.heap ad r v n x H locs) {r' : sR} {v' : sV} {k : Nat} {x' : Int64 × UInt64} (h1 : sOne K xs i (sOp (xs i)) r v n x r' v' k x') (hcs : cells + (k + 1) ≤ R.cells ∧ slots + (sz (n + k) - sz n + 6) ≤ R.slots)
    (kk : ∀ ad1 : Nat → Nat, sGo r n ad r' (n + k) ad1 → ∀ (H : Heap) (locs : List Loc), sB D G A s.heap ad1 r' v' (n + k) x' H locs → ∀ ls : Array Slot, lv_has ls 9 (sLl b ad1 (i + 5)) → W p l e R s m args below meth c H locs (cells + (k + 1)) (slots + (sz (n + k) - sz n + 6)) Q (F0 m 28 ls [])) : W p l e R s m args below meth c H locs cells slots Q (F0 m 28 ls []) := by
  obtain ⟨E, hU, hNc, hZ, hA0, hst, hX, hbl, hbA, hL, hi, hR⟩ := id C
  have hx : p.tables.exec = Jvm.exec := E.1
  have hb := E.2.1
  have hl0 : lv_has ls 9 [(5, .int (Int32.ofNat i)), (4, .ref (ad 171)), (3, .ref (ad 170)), (2, .ref (ad 157)), (1, .ref (ad 0)), (0, .ref b)] := hl
  have hti : (Int32.ofNat i).toInt = (i : Int) := Int32.toInt_ofNat_of_lt (by omega)
  have hix : (Int32.ofNat i).toNatClampNeg = i := by
    show (Int32.ofNat i).toInt.toNat = i
    rw [hti]; rfl
  refine lv_iload hx hb dL_law_28 (lv_at hl0 0 rfl) ?_
  refine lv_aload_n hx hb dL_law_30 rfl (lv_at hl0 5 rfl) ?_
  refine va_slen hx hb hX hbl hbA hB.2.2 dL_law_31 ?_
  refine lv_iconst (v := 5) hx hb dL_law_32 rfl ?_
  refine lv_isub hx hb dL_law_33 ?_
  refine lv_icmp_gt (tgt := 2033) hx hb dL_law_34 rfl (fun h => ?_) (fun _ => ?_)
  · rw [Int32.lt_iff_toInt_lt, sL5 hL, hti] at h
    omega
  refine lv_aload_n hx hb dL_law_37 rfl (lv_at hl0 5 rfl) ?_
  refine lv_iload hx hb dL_law_38 (lv_at hl0 0 rfl) ?_
  refine va_sld hx hb hX hbl hbA hB.2.2 (s_in (by rw [hti]; omega)) dL_law_40 ?_
  rw [hix]
  refine lv_bipush (v := 31) hx hb dL_law_41 rfl ?_
  refine lv_iand hx hb dL_law_43 ?_
  obtain ⟨ho1, ho2⟩ := sOp_ok (xs i)
  have K9 : ∀ ad1 : Nat → Nat, sGo r n ad r' (n + k) ad1 → ∀ (H : Heap) (locs : List Loc), sB D G A s.heap ad1 r' v' (n + k) x' H locs → ∀ ls : Array Slot, lv_has ls 9 (sLl b ad1 i) → W p l e R s m args below meth c H locs (cells + (k + 1)) (slots + (sz (n + k) - sz n + 6)) Q (F0 m 2027 ls []) := by
    intro ad1 hg H locs hB ls hl
    have hl1 : lv_has ls 9 [(5, .int (Int32.ofNat i)), (4, .ref (ad1 171)), (3, .ref (ad1 170)), (2, .ref (ad1 157)), (1, .ref (ad1 0)), (0, .ref b)] := hl
    refine lv_iinc (v := Int32.ofNat (i + 5)) hx hb dL_law_2027 hl1 (k := 0) rfl (Int32.ofNat_add i 5).symm (by decide) rfl (fun ls hl => ?_)
    exact lv_goto (tgt := 28) hx hb dL_law_2030 rfl (kk ad1 hg H locs hB ls hl)
  by_cases h30 : sOp (xs i) < 30
  · obtain ⟨off, hoff, htg⟩ := sOffs_ok _ h30
    refine lv_tableIn (tgt := sPcs.getD (sOp (xs i)) 0) (off := off) hx hb dL_law_44 (by rw [← ho1]; omega) (by rw [← ho1]; omega) (by rw [← ho1]; exact hoff) htg ?_
    exact law_arm K C hsh hn hl hB hcs K9 _ h30 h1
  · refine lv_tableOut (tgt := 2027) hx hb dL_law_44 (Or.inr (by rw [← ho1]; omega)) rfl ?_
    have e : r' = r ∧ v' = v ∧ k = 0 ∧ x' = x := by
      generalize sOp (xs i) = op at h1 h30
      match op, h1, h30 with
      | q + 30, h1, _ => exact h1
    obtain ⟨rfl, rfl, rfl, rfl⟩ := e
    exact W.widen (by omega) (by omega) (K9 ad sGo.rf H locs hB ls hl)
set_option maxRecDepth 100000 in
set_option maxHeartbeats 4000000 in
theorem law_loop (K : Nat) (E : CallFix p m c cL_law 9 s args wsL_law RL) (hU : sU D G s) (hNc : sNc s) (hZ : sZ A s) (hA0 : ∀ q, s.heap.size ≤ q → A q) (hst : l.stackTraces = false) (hX : va_X b L xs s s.heap) (hbl : b < s.heap.size) (hbA : ¬ A b) (hL : L ≤ 2560) (hR : 13 ≤ R.frames ∧ 400 ≤ R.locals)
    (hE : ∀ (H : Heap) (locs : List Loc) (cells slots : Nat) (ls : Array Slot), cells ≤ R.cells → slots ≤ R.slots → va_S A s.heap H locs → W p l e R s m args below meth c H locs cells slots Q (F0 m 2033 ls [])) :
    ∀ (N i : Nat) (r : sR) (v : sV) (n : Nat) (x : Int64 × UInt64) (ad : Nat → Nat) (H : Heap) (locs : List Loc) (ls : Array Slot) (cells slots : Nat), i ≤ L → L < i + 5 * N + 5 → sRun K xs L N i r v n x → sSh r → 172 ≤ n → n ≤ 660 → cells + (660 - n) + N ≤ R.cells → slots + (sz 660 - sz n) + 6 * N ≤ R.slots → lv_has ls 9 (sLl b ad i) → sB D G A s.heap ad r v n x H locs → W p l e R s m args below meth c H locs cells slots Q (F0 m 28 ls []) := by
  intro N
  have hx : p.tables.exec = Jvm.exec := E.1
  have hb := E.2.1
  have K8 : ∀ (i : Nat) (r : sR) (v : sV) (n : Nat) (x : Int64 × UInt64) (ad : Nat → Nat) (H : Heap) (locs : List Loc) (ls : Array Slot) (cells slots : Nat), i ≤ L → L < i + 5 → cells ≤ R.cells → slots ≤ R.slots → lv_has ls 9 (sLl b ad i) → sB D G A s.heap ad r v n x H locs → W p l e R s m args below meth c H locs cells slots Q (F0 m 28 ls []) := by
    intro i r v n x ad H locs ls cells slots hi hi5 hc hs hl hB
    have hl0 : lv_has ls 9 [(5, .int (Int32.ofNat i)), (4, .ref (ad 171)), (3, .ref (ad 170)), (2, .ref (ad 157)), (1, .ref (ad 0)), (0, .ref b)] := hl
    have hti : (Int32.ofNat i).toInt = (i : Int) := Int32.toInt_ofNat_of_lt (by omega)
    refine lv_iload hx hb dL_law_28 (lv_at hl0 0 rfl) ?_
    refine lv_aload_n hx hb dL_law_30 rfl (lv_at hl0 5 rfl) ?_
    refine va_slen hx hb hX hbl hbA hB.2.2 dL_law_31 ?_
    refine lv_iconst (v := 5) hx hb dL_law_32 rfl ?_
    refine lv_isub hx hb dL_law_33 ?_
    refine lv_icmp_gt (tgt := 2033) hx hb dL_law_34 rfl (fun _ => hE H locs cells slots ls hc hs hB.2.2) (fun h => ?_)
    rw [Int32.lt_iff_toInt_lt, sL5 hL, hti] at h
    omega
  induction N with
  | zero =>
    intro i r v n x ad H locs ls cells slots hi hi5 _ _ _ _ hc hs hl hB
    exact K8 i r v n x ad H locs ls cells slots hi (by omega) (by omega) (by omega) hl hB
  | succ N ih =>
    intro i r v n x ad H locs ls cells slots hi hi5 hrun hsh hn hn2 hc hs hl hB
    by_cases h5 : i + 5 ≤ L
    · obtain ⟨r', v', k, x', h1, hsh1, hk, hrun⟩ := hrun h5
      have z1 := sz_le (show n ≤ n + k by omega)
      have z2 := sz_le hk
      refine law_step K (i := i) ⟨E, hU, hNc, hZ, hA0, hst, hX, hbl, hbA, hL, h5, hR⟩ hsh hn hl hB h1 ⟨by omega, by omega⟩ (fun ad1 hg H locs hB ls hl => ?_)
      exact ih (i + 5) r' v' (n + k) x' ad1 H locs ls _ _ h5 (by omega) hrun hsh1 (by omega) hk (by omega) (by omega) hl hB
    · exact K8 i r v n x ad H locs ls cells slots hi (by omega) (by omega) (by omega) hl hB
end
