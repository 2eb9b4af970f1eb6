section
variable {p : Program} {l : Launch} {e : Env} {R : Room} {s : State} {m : MethodId} {args : Array Value} {below : List Frame} {meth : Method} {c : Code} {H : Heap} {locs : List Loc} {cells slots : Nat} {Q : State → Prop} {ls : Array Slot}
variable {D : va_G} {G : Nat → ClassId} {A : Nat → Prop} {ad : Nat → Nat} {r : sR} {v : sV} {n : Nat} {x : Int64 × UInt64} {b L i : Nat} {xs : Nat → Int32}
set_option maxRecDepth 100000 in
set_option maxHeartbeats 4000000 in
theorem aL_0 (K : Nat) (C : sLC p R l s m c cells slots args A D G b L xs i) (hsh : sSh r) (hn : 172 ≤ n) (hl : lv_has ls 9 (sLl b ad i)) (hB : sB D G A s.heap ad r v n x H locs) {q0 : (Int32 × (Int64 × UInt64)) × sR × sV × Nat} (h1 : fL_setCell K (xs (i + 1)) (xs (i + 2)) (xs (i + 3)) r v n x = some q0) (hsh1 : sSh q0.2.1) {z : Int32 × sV} (h2 : fX7_setCell K (xs (i + 1)) (xs (i + 2)) (xs (i + 3)) q0.2.2.1 = some z) (h3 : fX7_thrown z.2 = some q0.1.1) (h4 : q0.1.1 = 0 → q0.1.2.1 = z.1.toInt64) (hcs : cells + (q0.2.2.2 + 1) ≤ R.cells ∧ slots + (sz (n + q0.2.2.2) - sz n + 6) ≤ R.slots)
    (kk : ∀ ad1 : Nat → Nat, sGo r n ad q0.2.1 (n + q0.2.2.2) ad1 → ∀ (H : Heap) (locs : List Loc), sB D G A s.heap ad1 q0.2.1 z.2 (n + q0.2.2.2) q0.1.2 H locs → ∀ ls : Array Slot, lv_has ls 9 (sLl b ad1 i) → W p l e R s m args below meth c H locs (cells + (q0.2.2.2 + 1)) (slots + (sz (n + q0.2.2.2) - sz n + 6)) Q (F0 m 2027 ls [])) : W p l e R s m args below meth c H locs cells slots Q (F0 m 180 ls []) := by
  obtain ⟨E, hU, hNc, hZ, hA0, hst, hX, hbl, hbA, hL, hi, hR⟩ := C
  have hts := E.2.2.2.2
  have hx : p.tables.exec = Jvm.exec := E.1
  have hb := E.2.1
  have hl : lv_has ls 9 [(5, .int (Int32.ofNat i)), (4, .ref (ad 171)), (3, .ref (ad 170)), (2, .ref (ad 157)), (1, .ref (ad 0)), (0, .ref b)] := hl
  refine lv_aload_n hx hb dL_law_180 rfl (lv_at hl 4 rfl) ?_
  refine s_arg E hX hbl hbA hB.2.2 hl (k0 := 5) (k5 := 0) (kk := 1) rfl rfl rfl (by omega) hL dL_law_181 dL_law_182 dL_law_184 dL_law_185 dL_law_186 ?_
  refine s_arg E hX hbl hbA hB.2.2 hl (k0 := 5) (k5 := 0) (kk := 2) rfl rfl rfl (by omega) hL dL_law_187 dL_law_188 dL_law_190 dL_law_191 dL_law_192 ?_
  refine s_arg E hX hbl hbA hB.2.2 hl (k0 := 5) (k5 := 0) (kk := 3) rfl rfl rfl (by omega) hL dL_law_193 dL_law_194 dL_law_196 dL_law_197 dL_law_198 ?_
  refine lv_aload_n hx hb dL_law_199 rfl (lv_at hl 2 rfl) ?_
  refine sl_W hB hA0 (rS_L (As := [.ref (ad 0), .int (xs (i + 1)), .int (xs (i + 2)), .int (xs (i + 3)), .ref (ad 170)]) (rest := []) E hU hNc hZ hA0 hB (mL_setCell l K hst D G ad r _ n x hsh hn (xs (i + 1)) (xs (i + 2)) (xs (i + 3)) _ _ h1) (cwGH 5 okL_setCell wmL_117 hts rfl rfl (sl_fr hR)) rfl hl.1 (Nat.le_of_ble_eq_true rfl) dL_law_200 (sl_room hcs) rfl) (fun ad1 hg H locs hB => ?_)
  refine lv_istore hx hb dL_law_203 hl (Nat.le_of_ble_eq_true rfl) rfl (fun ls hl => ?_)
  rw [← (hg.2 0 (slt hsh hn 0 rfl)).2, ← (hg.2 157 (slt hsh hn 157 rfl)).2, ← (hg.2 170 (slt hsh hn 170 rfl)).2, ← (hg.2 171 (slt hsh hn 171 rfl)).2] at hl
  have hn1 : 172 ≤ n + q0.2.2.2 := by omega
  refine lv_aload_n hx hb dL_law_205 rfl (lv_at hl 4 rfl) ?_
  refine s_arg E hX hbl hbA hB.2.2 hl (k0 := 6) (k5 := 1) (kk := 1) rfl rfl rfl (by omega) hL dL_law_206 dL_law_207 dL_law_209 dL_law_210 dL_law_211 ?_
  refine s_arg E hX hbl hbA hB.2.2 hl (k0 := 6) (k5 := 1) (kk := 2) rfl rfl rfl (by omega) hL dL_law_212 dL_law_213 dL_law_215 dL_law_216 dL_law_217 ?_
  refine s_arg E hX hbl hbA hB.2.2 hl (k0 := 6) (k5 := 1) (kk := 3) rfl rfl rfl (by omega) hL dL_law_218 dL_law_219 dL_law_221 dL_law_222 dL_law_223 ?_
  refine sc_I hB hA0 (o := fX7_setCell K (xs (i + 1)) (xs (i + 2)) (xs (i + 3)) q0.2.2.1) (f := fun z => some z) (res := z) (by rw [h2]; rfl) (fun q9 h9 => rV_W (As := [.int (xs (i + 1)), .int (xs (i + 2)), .int (xs (i + 3))]) (rest := []) E hU hB sc9 (slt hsh1 hn1 157 rfl) rfl ((mX7_setCell l K D G ad1 q0.2.1 _ _ q0.1.2 hsh1 hn1 (xs (i + 1)) (xs (i + 2)) (xs (i + 3))) _ _ h9) (cwGV 3 okX7_setCell wmL_122 hts rfl rfl (sl_fx hR (by decide))) rfl hl.1 (Nat.le_of_ble_eq_true rfl) dL_law_224 ⟨hcs.1, hcs.2⟩ rfl) (fun y1 v1 hz H locs hB => ?_)
  obtain rfl := Option.some.inj hz
  refine lv_istore hx hb dL_law_227 hl (Nat.le_of_ble_eq_true rfl) rfl (fun ls hl => ?_)
  refine lv_aload_n hx hb dL_law_229 rfl (lv_at hl 5 rfl) ?_
  refine sc_R (o := fX7_thrown v1) (f := fun t => some t) (res := q0.1.1) (by rw [h3]; rfl) (rV_R (As := []) (rest := []) E hU hB.1 sc9 (slt hsh1 hn1 157 rfl) rfl (mX7_thrown l D G ad1 q0.2.1 _ _ q0.1.2 hsh1 hn1) (cwGV 0 okX7_thrown wmL_123 hts rfl rfl (sl_fx hR (by decide))) rfl hl.1 (Nat.le_of_ble_eq_true rfl) dL_law_230 ⟨hcs.1, hcs.2⟩ rfl) (fun t9 ht => ?_)
  obtain rfl := Option.some.inj ht
  refine lv_iload hx hb dL_law_233 (lv_at hl 1 rfl) ?_
  refine lv_icmp_eq (tgt := 240) hx hb dL_law_235 rfl (fun _ => ?_) (fun hne => absurd rfl hne)
  refine lv_iload hx hb dL_law_240 (lv_at hl 1 rfl) ?_
  refine lv_if_ne (tgt := 257) hx hb dL_law_242 rfl (fun _ => ?_) (fun heq => ?_)
  · refine lv_goto hx hb dL_law_257 rfl ?_
    exact kk ad1 hg H locs hB ls (lv_sub hl [2, 3, 4, 5, 6, 7] rfl)
  · refine lv_aload_n hx hb dL_law_245 rfl (lv_at hl 4 rfl) ?_
    refine lv_iconst hx hb dL_law_246 rfl ?_
    refine s_lald E hU hB.1 (slt hsh1 hn1 170 rfl) dL_law_247 ?_
    refine lv_iload hx hb dL_law_248 (lv_at hl 0 rfl) ?_
    refine lv_i2l hx hb dL_law_250 rfl ?_
    refine s_lcmp0 E (h4 heq) dL_law_251 ?_
    refine lv_if_eq (tgt := 257) hx hb dL_law_252 rfl (fun _ => ?_) (fun hne => absurd rfl hne)
    refine lv_goto hx hb dL_law_257 rfl ?_
    exact kk ad1 hg H locs hB ls (lv_sub hl [2, 3, 4, 5, 6, 7] rfl)
set_option maxRecDepth 100000 in
set_option maxHeartbeats 4000000 in
theorem aL_1 (K : Nat) (C : sLC p R l s m c cells slots args A D G b L xs i) (hsh : sSh r) (hn : 172 ≤ n) (hl : lv_has ls 9 (sLl b ad i)) (hB : sB D G A s.heap ad r v n x H locs) {q0 : (Int32 × (Int64 × UInt64)) × sR × sV × Nat} (h1 : fL_cell K (xs (i + 1)) (xs (i + 2)) (xs (i + 3)) r v n x = some q0) (hsh1 : sSh q0.2.1) {z : Int32 × sV} (h2 : fX7_cell K (xs (i + 1)) (xs (i + 2)) (xs (i + 3)) q0.2.2.1 = some z) (h3 : fX7_thrown z.2 = some q0.1.1) (h4 : q0.1.1 = 0 → q0.1.2.1 = z.1.toInt64) (hcs : cells + (q0.2.2.2 + 1) ≤ R.cells ∧ slots + (sz (n + q0.2.2.2) - sz n + 6) ≤ R.slots)
    (kk : ∀ ad1 : Nat → Nat, sGo r n ad q0.2.1 (n + q0.2.2.2) ad1 → ∀ (H : Heap) (locs : List Loc), sB D G A s.heap ad1 q0.2.1 z.2 (n + q0.2.2.2) q0.1.2 H locs → ∀ ls : Array Slot, lv_has ls 9 (sLl b ad1 i) → W p l e R s m args below meth c H locs (cells + (q0.2.2.2 + 1)) (slots + (sz (n + q0.2.2.2) - sz n + 6)) Q (F0 m 2027 ls [])) : W p l e R s m args below meth c H locs cells slots Q (F0 m 260 ls []) := by
  obtain ⟨E, hU, hNc, hZ, hA0, hst, hX, hbl, hbA, hL, hi, hR⟩ := C
  have hts := E.2.2.2.2
  have hx : p.tables.exec = Jvm.exec := E.1
  have hb := E.2.1
  have hl : lv_has ls 9 [(5, .int (Int32.ofNat i)), (4, .ref (ad 171)), (3, .ref (ad 170)), (2, .ref (ad 157)), (1, .ref (ad 0)), (0, .ref b)] := hl
  refine lv_aload_n hx hb dL_law_260 rfl (lv_at hl 4 rfl) ?_
  refine s_arg E hX hbl hbA hB.2.2 hl (k0 := 5) (k5 := 0) (kk := 1) rfl rfl rfl (by omega) hL dL_law_261 dL_law_262 dL_law_264 dL_law_265 dL_law_266 ?_
  refine s_arg E hX hbl hbA hB.2.2 hl (k0 := 5) (k5 := 0) (kk := 2) rfl rfl rfl (by omega) hL dL_law_267 dL_law_268 dL_law_270 dL_law_271 dL_law_272 ?_
  refine s_arg E hX hbl hbA hB.2.2 hl (k0 := 5) (k5 := 0) (kk := 3) rfl rfl rfl (by omega) hL dL_law_273 dL_law_274 dL_law_276 dL_law_277 dL_law_278 ?_
  refine lv_aload_n hx hb dL_law_279 rfl (lv_at hl 2 rfl) ?_
  refine sl_W hB hA0 (rS_L (As := [.ref (ad 0), .int (xs (i + 1)), .int (xs (i + 2)), .int (xs (i + 3)), .ref (ad 170)]) (rest := []) E hU hNc hZ hA0 hB (mL_cell l K hst D G ad r _ n x hsh hn (xs (i + 1)) (xs (i + 2)) (xs (i + 3)) _ _ h1) (cwGH 5 okL_cell wmL_126 hts rfl rfl (sl_fr hR)) rfl hl.1 (Nat.le_of_ble_eq_true rfl) dL_law_280 (sl_room hcs) rfl) (fun ad1 hg H locs hB => ?_)
  refine lv_istore hx hb dL_law_283 hl (Nat.le_of_ble_eq_true rfl) rfl (fun ls hl => ?_)
  rw [← (hg.2 0 (slt hsh hn 0 rfl)).2, ← (hg.2 157 (slt hsh hn 157 rfl)).2, ← (hg.2 170 (slt hsh hn 170 rfl)).2, ← (hg.2 171 (slt hsh hn 171 rfl)).2] at hl
  have hn1 : 172 ≤ n + q0.2.2.2 := by omega
  refine lv_aload_n hx hb dL_law_285 rfl (lv_at hl 4 rfl) ?_
  refine s_arg E hX hbl hbA hB.2.2 hl (k0 := 6) (k5 := 1) (kk := 1) rfl rfl rfl (by omega) hL dL_law_286 dL_law_287 dL_law_289 dL_law_290 dL_law_291 ?_
  refine s_arg E hX hbl hbA hB.2.2 hl (k0 := 6) (k5 := 1) (kk := 2) rfl rfl rfl (by omega) hL dL_law_292 dL_law_293 dL_law_295 dL_law_296 dL_law_297 ?_
  refine s_arg E hX hbl hbA hB.2.2 hl (k0 := 6) (k5 := 1) (kk := 3) rfl rfl rfl (by omega) hL dL_law_298 dL_law_299 dL_law_301 dL_law_302 dL_law_303 ?_
  refine sc_I hB hA0 (o := fX7_cell K (xs (i + 1)) (xs (i + 2)) (xs (i + 3)) q0.2.2.1) (f := fun z => some z) (res := z) (by rw [h2]; rfl) (fun q9 h9 => rV_W (As := [.int (xs (i + 1)), .int (xs (i + 2)), .int (xs (i + 3))]) (rest := []) E hU hB sc9 (slt hsh1 hn1 157 rfl) rfl ((mX7_cell l K D G ad1 q0.2.1 _ _ q0.1.2 hsh1 hn1 (xs (i + 1)) (xs (i + 2)) (xs (i + 3))) _ _ h9) (cwGV 3 okX7_cell wmL_128 hts rfl rfl (sl_fx hR (by decide))) rfl hl.1 (Nat.le_of_ble_eq_true rfl) dL_law_304 ⟨hcs.1, hcs.2⟩ rfl) (fun y1 v1 hz H locs hB => ?_)
  obtain rfl := Option.some.inj hz
  refine lv_istore hx hb dL_law_307 hl (Nat.le_of_ble_eq_true rfl) rfl (fun ls hl => ?_)
  refine lv_aload_n hx hb dL_law_309 rfl (lv_at hl 5 rfl) ?_
  refine sc_R (o := fX7_thrown v1) (f := fun t => some t) (res := q0.1.1) (by rw [h3]; rfl) (rV_R (As := []) (rest := []) E hU hB.1 sc9 (slt hsh1 hn1 157 rfl) rfl (mX7_thrown l D G ad1 q0.2.1 _ _ q0.1.2 hsh1 hn1) (cwGV 0 okX7_thrown wmL_123 hts rfl rfl (sl_fx hR (by decide))) rfl hl.1 (Nat.le_of_ble_eq_true rfl) dL_law_310 ⟨hcs.1, hcs.2⟩ rfl) (fun t9 ht => ?_)
  obtain rfl := Option.some.inj ht
  refine lv_iload hx hb dL_law_313 (lv_at hl 1 rfl) ?_
  refine lv_icmp_eq (tgt := 320) hx hb dL_law_315 rfl (fun _ => ?_) (fun hne => absurd rfl hne)
  refine lv_iload hx hb dL_law_320 (lv_at hl 1 rfl) ?_
  refine lv_if_ne (tgt := 337) hx hb dL_law_322 rfl (fun _ => ?_) (fun heq => ?_)
  · refine lv_goto hx hb dL_law_337 rfl ?_
    exact kk ad1 hg H locs hB ls (lv_sub hl [2, 3, 4, 5, 6, 7] rfl)
  · refine lv_aload_n hx hb dL_law_325 rfl (lv_at hl 4 rfl) ?_
    refine lv_iconst hx hb dL_law_326 rfl ?_
    refine s_lald E hU hB.1 (slt hsh1 hn1 170 rfl) dL_law_327 ?_
    refine lv_iload hx hb dL_law_328 (lv_at hl 0 rfl) ?_
    refine lv_i2l hx hb dL_law_330 rfl ?_
    refine s_lcmp0 E (h4 heq) dL_law_331 ?_
    refine lv_if_eq (tgt := 337) hx hb dL_law_332 rfl (fun _ => ?_) (fun hne => absurd rfl hne)
    refine lv_goto hx hb dL_law_337 rfl ?_
    exact kk ad1 hg H locs hB ls (lv_sub hl [2, 3, 4, 5, 6, 7] rfl)
set_option maxRecDepth 100000 in
set_option maxHeartbeats 4000000 in
theorem aL_2 (K : Nat) (C : sLC p R l s m c cells slots args A D G b L xs i) (hsh : sSh r) (hn : 172 ≤ n) (hl : lv_has ls 9 (sLl b ad i)) (hB : sB D G A s.heap ad r v n x H locs) {q0 : (Int32 × (Int64 × UInt64)) × sR × sV × Nat} (h1 : fL_setGoal K (xs (i + 1)) (xs (i + 2)) (xs (i + 3)) r v n x = some q0) (hsh1 : sSh q0.2.1) {z : Int32 × sV} (h2 : fX7_setGoal K (xs (i + 1)) (xs (i + 2)) (xs (i + 3)) q0.2.2.1 = some z) (h3 : fX7_thrown z.2 = some q0.1.1) (h4 : q0.1.1 = 0 → q0.1.2.1 = z.1.toInt64) (hcs : cells + (q0.2.2.2 + 1) ≤ R.cells ∧ slots + (sz (n + q0.2.2.2) - sz n + 6) ≤ R.slots)
    (kk : ∀ ad1 : Nat → Nat, sGo r n ad q0.2.1 (n + q0.2.2.2) ad1 → ∀ (H : Heap) (locs : List Loc), sB D G A s.heap ad1 q0.2.1 z.2 (n + q0.2.2.2) q0.1.2 H locs → ∀ ls : Array Slot, lv_has ls 9 (sLl b ad1 i) → W p l e R s m args below meth c H locs (cells + (q0.2.2.2 + 1)) (slots + (sz (n + q0.2.2.2) - sz n + 6)) Q (F0 m 2027 ls [])) : W p l e R s m args below meth c H locs cells slots Q (F0 m 340 ls []) := by
  obtain ⟨E, hU, hNc, hZ, hA0, hst, hX, hbl, hbA, hL, hi, hR⟩ := C
  have hts := E.2.2.2.2
  have hx : p.tables.exec = Jvm.exec := E.1
  have hb := E.2.1
  have hl : lv_has ls 9 [(5, .int (Int32.ofNat i)), (4, .ref (ad 171)), (3, .ref (ad 170)), (2, .ref (ad 157)), (1, .ref (ad 0)), (0, .ref b)] := hl
  refine lv_aload_n hx hb dL_law_340 rfl (lv_at hl 4 rfl) ?_
  refine s_arg E hX hbl hbA hB.2.2 hl (k0 := 5) (k5 := 0) (kk := 1) rfl rfl rfl (by omega) hL dL_law_341 dL_law_342 dL_law_344 dL_law_345 dL_law_346 ?_
  refine s_arg E hX hbl hbA hB.2.2 hl (k0 := 5) (k5 := 0) (kk := 2) rfl rfl rfl (by omega) hL dL_law_347 dL_law_348 dL_law_350 dL_law_351 dL_law_352 ?_
  refine s_arg E hX hbl hbA hB.2.2 hl (k0 := 5) (k5 := 0) (kk := 3) rfl rfl rfl (by omega) hL dL_law_353 dL_law_354 dL_law_356 dL_law_357 dL_law_358 ?_
  refine lv_aload_n hx hb dL_law_359 rfl (lv_at hl 2 rfl) ?_
  refine sl_W hB hA0 (rS_L (As := [.ref (ad 0), .int (xs (i + 1)), .int (xs (i + 2)), .int (xs (i + 3)), .ref (ad 170)]) (rest := []) E hU hNc hZ hA0 hB (mL_setGoal l K hst D G ad r _ n x hsh hn (xs (i + 1)) (xs (i + 2)) (xs (i + 3)) _ _ h1) (cwGH 5 okL_setGoal wmL_129 hts rfl rfl (sl_fr hR)) rfl hl.1 (Nat.le_of_ble_eq_true rfl) dL_law_360 (sl_room hcs) rfl) (fun ad1 hg H locs hB => ?_)
  refine lv_istore hx hb dL_law_363 hl (Nat.le_of_ble_eq_true rfl) rfl (fun ls hl => ?_)
  rw [← (hg.2 0 (slt hsh hn 0 rfl)).2, ← (hg.2 157 (slt hsh hn 157 rfl)).2, ← (hg.2 170 (slt hsh hn 170 rfl)).2, ← (hg.2 171 (slt hsh hn 171 rfl)).2] at hl
  have hn1 : 172 ≤ n + q0.2.2.2 := by omega
  refine lv_aload_n hx hb dL_law_365 rfl (lv_at hl 4 rfl) ?_
  refine s_arg E hX hbl hbA hB.2.2 hl (k0 := 6) (k5 := 1) (kk := 1) rfl rfl rfl (by omega) hL dL_law_366 dL_law_367 dL_law_369 dL_law_370 dL_law_371 ?_
  refine s_arg E hX hbl hbA hB.2.2 hl (k0 := 6) (k5 := 1) (kk := 2) rfl rfl rfl (by omega) hL dL_law_372 dL_law_373 dL_law_375 dL_law_376 dL_law_377 ?_
  refine s_arg E hX hbl hbA hB.2.2 hl (k0 := 6) (k5 := 1) (kk := 3) rfl rfl rfl (by omega) hL dL_law_378 dL_law_379 dL_law_381 dL_law_382 dL_law_383 ?_
  refine sc_I hB hA0 (o := fX7_setGoal K (xs (i + 1)) (xs (i + 2)) (xs (i + 3)) q0.2.2.1) (f := fun z => some z) (res := z) (by rw [h2]; rfl) (fun q9 h9 => rV_W (As := [.int (xs (i + 1)), .int (xs (i + 2)), .int (xs (i + 3))]) (rest := []) E hU hB sc9 (slt hsh1 hn1 157 rfl) rfl ((mX7_setGoal l K D G ad1 q0.2.1 _ _ q0.1.2 hsh1 hn1 (xs (i + 1)) (xs (i + 2)) (xs (i + 3))) _ _ h9) (cwGV 3 okX7_setGoal wmL_131 hts rfl rfl (sl_fx hR (by decide))) rfl hl.1 (Nat.le_of_ble_eq_true rfl) dL_law_384 ⟨hcs.1, hcs.2⟩ rfl) (fun y1 v1 hz H locs hB => ?_)
  obtain rfl := Option.some.inj hz
  refine lv_istore hx hb dL_law_387 hl (Nat.le_of_ble_eq_true rfl) rfl (fun ls hl => ?_)
  refine lv_aload_n hx hb dL_law_389 rfl (lv_at hl 5 rfl) ?_
  refine sc_R (o := fX7_thrown v1) (f := fun t => some t) (res := q0.1.1) (by rw [h3]; rfl) (rV_R (As := []) (rest := []) E hU hB.1 sc9 (slt hsh1 hn1 157 rfl) rfl (mX7_thrown l D G ad1 q0.2.1 _ _ q0.1.2 hsh1 hn1) (cwGV 0 okX7_thrown wmL_123 hts rfl rfl (sl_fx hR (by decide))) rfl hl.1 (Nat.le_of_ble_eq_true rfl) dL_law_390 ⟨hcs.1, hcs.2⟩ rfl) (fun t9 ht => ?_)
  obtain rfl := Option.some.inj ht
  refine lv_iload hx hb dL_law_393 (lv_at hl 1 rfl) ?_
  refine lv_icmp_eq (tgt := 400) hx hb dL_law_395 rfl (fun _ => ?_) (fun hne => absurd rfl hne)
  refine lv_iload hx hb dL_law_400 (lv_at hl 1 rfl) ?_
  refine lv_if_ne (tgt := 417) hx hb dL_law_402 rfl (fun _ => ?_) (fun heq => ?_)
  · refine lv_goto hx hb dL_law_417 rfl ?_
    exact kk ad1 hg H locs hB ls (lv_sub hl [2, 3, 4, 5, 6, 7] rfl)
  · refine lv_aload_n hx hb dL_law_405 rfl (lv_at hl 4 rfl) ?_
    refine lv_iconst hx hb dL_law_406 rfl ?_
    refine s_lald E hU hB.1 (slt hsh1 hn1 170 rfl) dL_law_407 ?_
    refine lv_iload hx hb dL_law_408 (lv_at hl 0 rfl) ?_
    refine lv_i2l hx hb dL_law_410 rfl ?_
    refine s_lcmp0 E (h4 heq) dL_law_411 ?_
    refine lv_if_eq (tgt := 417) hx hb dL_law_412 rfl (fun _ => ?_) (fun hne => absurd rfl hne)
    refine lv_goto hx hb dL_law_417 rfl ?_
    exact kk ad1 hg H locs hB ls (lv_sub hl [2, 3, 4, 5, 6, 7] rfl)
set_option maxRecDepth 100000 in
set_option maxHeartbeats 4000000 in
theorem aL_3 (K : Nat) (C : sLC p R l s m c cells slots args A D G b L xs i) (hsh : sSh r) (hn : 172 ≤ n) (hl : lv_has ls 9 (sLl b ad i)) (hB : sB D G A s.heap ad r v n x H locs) {q0 : (Int32 × (Int64 × UInt64)) × sR × sV × Nat} (h1 : fL_dropGoal K (xs (i + 1)) r v n x = some q0) (hsh1 : sSh q0.2.1) {z : Int32 × sV} (h2 : fX7_dropGoal K (xs (i + 1)) q0.2.2.1 = some z) (h3 : fX7_thrown z.2 = some q0.1.1) (h4 : q0.1.1 = 0 → q0.1.2.1 = z.1.toInt64) (hcs : cells + (q0.2.2.2 + 1) ≤ R.cells ∧ slots + (sz (n + q0.2.2.2) - sz n + 6) ≤ R.slots)
    (kk : ∀ ad1 : Nat → Nat, sGo r n ad q0.2.1 (n + q0.2.2.2) ad1 → ∀ (H : Heap) (locs : List Loc), sB D G A s.heap ad1 q0.2.1 z.2 (n + q0.2.2.2) q0.1.2 H locs → ∀ ls : Array Slot, lv_has ls 9 (sLl b ad1 i) → W p l e R s m args below meth c H locs (cells + (q0.2.2.2 + 1)) (slots + (sz (n + q0.2.2.2) - sz n + 6)) Q (F0 m 2027 ls [])) : W p l e R s m args below meth c H locs cells slots Q (F0 m 420 ls []) := by
  obtain ⟨E, hU, hNc, hZ, hA0, hst, hX, hbl, hbA, hL, hi, hR⟩ := C
  have hts := E.2.2.2.2
  have hx : p.tables.exec = Jvm.exec := E.1
  have hb := E.2.1
  have hl : lv_has ls 9 [(5, .int (Int32.ofNat i)), (4, .ref (ad 171)), (3, .ref (ad 170)), (2, .ref (ad 157)), (1, .ref (ad 0)), (0, .ref b)] := hl
  refine lv_aload_n hx hb dL_law_420 rfl (lv_at hl 4 rfl) ?_
  refine s_arg E hX hbl hbA hB.2.2 hl (k0 := 5) (k5 := 0) (kk := 1) rfl rfl rfl (by omega) hL dL_law_421 dL_law_422 dL_law_424 dL_law_425 dL_law_426 ?_
  refine lv_aload_n hx hb dL_law_427 rfl (lv_at hl 2 rfl) ?_
  refine sl_W hB hA0 (rS_L (As := [.ref (ad 0), .int (xs (i + 1)), .ref (ad 170)]) (rest := []) E hU hNc hZ hA0 hB (mL_dropGoal l K hst D G ad r _ n x hsh hn (xs (i + 1)) _ _ h1) (cwGH 3 okL_dropGoal wmL_132 hts rfl rfl (sl_fr hR)) rfl hl.1 (Nat.le_of_ble_eq_true rfl) dL_law_428 (sl_room hcs) rfl) (fun ad1 hg H locs hB => ?_)
  refine lv_istore hx hb dL_law_431 hl (Nat.le_of_ble_eq_true rfl) rfl (fun ls hl => ?_)
  rw [← (hg.2 0 (slt hsh hn 0 rfl)).2, ← (hg.2 157 (slt hsh hn 157 rfl)).2, ← (hg.2 170 (slt hsh hn 170 rfl)).2, ← (hg.2 171 (slt hsh hn 171 rfl)).2] at hl
  have hn1 : 172 ≤ n + q0.2.2.2 := by omega
  refine lv_aload_n hx hb dL_law_433 rfl (lv_at hl 4 rfl) ?_
  refine s_arg E hX hbl hbA hB.2.2 hl (k0 := 6) (k5 := 1) (kk := 1) rfl rfl rfl (by omega) hL dL_law_434 dL_law_435 dL_law_437 dL_law_438 dL_law_439 ?_
  refine sc_I hB hA0 (o := fX7_dropGoal K (xs (i + 1)) q0.2.2.1) (f := fun z => some z) (res := z) (by rw [h2]; rfl) (fun q9 h9 => rV_W (As := [.int (xs (i + 1))]) (rest := []) E hU hB sc9 (slt hsh1 hn1 157 rfl) rfl ((mX7_dropGoal l K D G ad1 q0.2.1 _ _ q0.1.2 hsh1 hn1 (xs (i + 1))) _ _ h9) (cwGV 1 okX7_dropGoal wmL_135 hts rfl rfl (sl_fx hR (by decide))) rfl hl.1 (Nat.le_of_ble_eq_true rfl) dL_law_440 ⟨hcs.1, hcs.2⟩ rfl) (fun y1 v1 hz H locs hB => ?_)
  obtain rfl := Option.some.inj hz
  refine lv_istore hx hb dL_law_443 hl (Nat.le_of_ble_eq_true rfl) rfl (fun ls hl => ?_)
  refine lv_aload_n hx hb dL_law_445 rfl (lv_at hl 5 rfl) ?_
  refine sc_R (o := fX7_thrown v1) (f := fun t => some t) (res := q0.1.1) (by rw [h3]; rfl) (rV_R (As := []) (rest := []) E hU hB.1 sc9 (slt hsh1 hn1 157 rfl) rfl (mX7_thrown l D G ad1 q0.2.1 _ _ q0.1.2 hsh1 hn1) (cwGV 0 okX7_thrown wmL_123 hts rfl rfl (sl_fx hR (by decide))) rfl hl.1 (Nat.le_of_ble_eq_true rfl) dL_law_446 ⟨hcs.1, hcs.2⟩ rfl) (fun t9 ht => ?_)
  obtain rfl := Option.some.inj ht
  refine lv_iload hx hb dL_law_449 (lv_at hl 1 rfl) ?_
  refine lv_icmp_eq (tgt := 456) hx hb dL_law_451 rfl (fun _ => ?_) (fun hne => absurd rfl hne)
  refine lv_iload hx hb dL_law_456 (lv_at hl 1 rfl) ?_
  refine lv_if_ne (tgt := 473) hx hb dL_law_458 rfl (fun _ => ?_) (fun heq => ?_)
  · refine lv_goto hx hb dL_law_473 rfl ?_
    exact kk ad1 hg H locs hB ls (lv_sub hl [2, 3, 4, 5, 6, 7] rfl)
  · refine lv_aload_n hx hb dL_law_461 rfl (lv_at hl 4 rfl) ?_
    refine lv_iconst hx hb dL_law_462 rfl ?_
    refine s_lald E hU hB.1 (slt hsh1 hn1 170 rfl) dL_law_463 ?_
    refine lv_iload hx hb dL_law_464 (lv_at hl 0 rfl) ?_
    refine lv_i2l hx hb dL_law_466 rfl ?_
    refine s_lcmp0 E (h4 heq) dL_law_467 ?_
    refine lv_if_eq (tgt := 473) hx hb dL_law_468 rfl (fun _ => ?_) (fun hne => absurd rfl hne)
    refine lv_goto hx hb dL_law_473 rfl ?_
    exact kk ad1 hg H locs hB ls (lv_sub hl [2, 3, 4, 5, 6, 7] rfl)
set_option maxRecDepth 100000 in
set_option maxHeartbeats 4000000 in
theorem aL_4 (K : Nat) (C : sLC p R l s m c cells slots args A D G b L xs i) (hsh : sSh r) (hn : 172 ≤ n) (hl : lv_has ls 9 (sLl b ad i)) (hB : sB D G A s.heap ad r v n x H locs) {q0 : (Int32 × (Int64 × UInt64)) × sR × sV × Nat} (h1 : fL_distance K (xs (i + 1)) (xs (i + 2)) (xs (i + 3)) r v n x = some q0) (hsh1 : sSh q0.2.1) {z : Int32 × sV} (h2 : fX7_distance K (xs (i + 1)) (xs (i + 2)) (xs (i + 3)) q0.2.2.1 = some z) (h3 : fX7_thrown z.2 = some q0.1.1) (h4 : q0.1.1 = 0 → q0.1.2.1 = z.1.toInt64) (hcs : cells + (q0.2.2.2 + 1) ≤ R.cells ∧ slots + (sz (n + q0.2.2.2) - sz n + 6) ≤ R.slots)
    (kk : ∀ ad1 : Nat → Nat, sGo r n ad q0.2.1 (n + q0.2.2.2) ad1 → ∀ (H : Heap) (locs : List Loc), sB D G A s.heap ad1 q0.2.1 z.2 (n + q0.2.2.2) q0.1.2 H locs → ∀ ls : Array Slot, lv_has ls 9 (sLl b ad1 i) → W p l e R s m args below meth c H locs (cells + (q0.2.2.2 + 1)) (slots + (sz (n + q0.2.2.2) - sz n + 6)) Q (F0 m 2027 ls [])) : W p l e R s m args below meth c H locs cells slots Q (F0 m 476 ls []) := by
  obtain ⟨E, hU, hNc, hZ, hA0, hst, hX, hbl, hbA, hL, hi, hR⟩ := C
  have hts := E.2.2.2.2
  have hx : p.tables.exec = Jvm.exec := E.1
  have hb := E.2.1
  have hl : lv_has ls 9 [(5, .int (Int32.ofNat i)), (4, .ref (ad 171)), (3, .ref (ad 170)), (2, .ref (ad 157)), (1, .ref (ad 0)), (0, .ref b)] := hl
  refine lv_aload_n hx hb dL_law_476 rfl (lv_at hl 4 rfl) ?_
  refine s_arg E hX hbl hbA hB.2.2 hl (k0 := 5) (k5 := 0) (kk := 1) rfl rfl rfl (by omega) hL dL_law_477 dL_law_478 dL_law_480 dL_law_481 dL_law_482 ?_
  refine s_arg E hX hbl hbA hB.2.2 hl (k0 := 5) (k5 := 0) (kk := 2) rfl rfl rfl (by omega) hL dL_law_483 dL_law_484 dL_law_486 dL_law_487 dL_law_488 ?_
  refine s_arg E hX hbl hbA hB.2.2 hl (k0 := 5) (k5 := 0) (kk := 3) rfl rfl rfl (by omega) hL dL_law_489 dL_law_490 dL_law_492 dL_law_493 dL_law_494 ?_
  refine lv_aload_n hx hb dL_law_495 rfl (lv_at hl 2 rfl) ?_
  refine sl_W hB hA0 (rS_L (As := [.ref (ad 0), .int (xs (i + 1)), .int (xs (i + 2)), .int (xs (i + 3)), .ref (ad 170)]) (rest := []) E hU hNc hZ hA0 hB (mL_distance l K hst D G ad r _ n x hsh hn (xs (i + 1)) (xs (i + 2)) (xs (i + 3)) _ _ h1) (cwGH 5 okL_distance wmL_136 hts rfl rfl (sl_fr hR)) rfl hl.1 (Nat.le_of_ble_eq_true rfl) dL_law_496 (sl_room hcs) rfl) (fun ad1 hg H locs hB => ?_)
  refine lv_istore hx hb dL_law_499 hl (Nat.le_of_ble_eq_true rfl) rfl (fun ls hl => ?_)
  rw [← (hg.2 0 (slt hsh hn 0 rfl)).2, ← (hg.2 157 (slt hsh hn 157 rfl)).2, ← (hg.2 170 (slt hsh hn 170 rfl)).2, ← (hg.2 171 (slt hsh hn 171 rfl)).2] at hl
  have hn1 : 172 ≤ n + q0.2.2.2 := by omega
  refine lv_aload_n hx hb dL_law_501 rfl (lv_at hl 4 rfl) ?_
  refine s_arg E hX hbl hbA hB.2.2 hl (k0 := 6) (k5 := 1) (kk := 1) rfl rfl rfl (by omega) hL dL_law_502 dL_law_503 dL_law_505 dL_law_506 dL_law_507 ?_
  refine s_arg E hX hbl hbA hB.2.2 hl (k0 := 6) (k5 := 1) (kk := 2) rfl rfl rfl (by omega) hL dL_law_508 dL_law_509 dL_law_511 dL_law_512 dL_law_513 ?_
  refine s_arg E hX hbl hbA hB.2.2 hl (k0 := 6) (k5 := 1) (kk := 3) rfl rfl rfl (by omega) hL dL_law_514 dL_law_515 dL_law_517 dL_law_518 dL_law_519 ?_
  refine sc_I hB hA0 (o := fX7_distance K (xs (i + 1)) (xs (i + 2)) (xs (i + 3)) q0.2.2.1) (f := fun z => some z) (res := z) (by rw [h2]; rfl) (fun q9 h9 => rV_W (As := [.int (xs (i + 1)), .int (xs (i + 2)), .int (xs (i + 3))]) (rest := []) E hU hB sc9 (slt hsh1 hn1 157 rfl) rfl ((mX7_distance l K D G ad1 q0.2.1 _ _ q0.1.2 hsh1 hn1 (xs (i + 1)) (xs (i + 2)) (xs (i + 3))) _ _ h9) (cwGV 3 okX7_distance wmL_138 hts rfl rfl (sl_fx hR (by decide))) rfl hl.1 (Nat.le_of_ble_eq_true rfl) dL_law_520 ⟨hcs.1, hcs.2⟩ rfl) (fun y1 v1 hz H locs hB => ?_)
  obtain rfl := Option.some.inj hz
  refine lv_istore hx hb dL_law_523 hl (Nat.le_of_ble_eq_true rfl) rfl (fun ls hl => ?_)
  refine lv_aload_n hx hb dL_law_525 rfl (lv_at hl 5 rfl) ?_
  refine sc_R (o := fX7_thrown v1) (f := fun t => some t) (res := q0.1.1) (by rw [h3]; rfl) (rV_R (As := []) (rest := []) E hU hB.1 sc9 (slt hsh1 hn1 157 rfl) rfl (mX7_thrown l D G ad1 q0.2.1 _ _ q0.1.2 hsh1 hn1) (cwGV 0 okX7_thrown wmL_123 hts rfl rfl (sl_fx hR (by decide))) rfl hl.1 (Nat.le_of_ble_eq_true rfl) dL_law_526 ⟨hcs.1, hcs.2⟩ rfl) (fun t9 ht => ?_)
  obtain rfl := Option.some.inj ht
  refine lv_iload hx hb dL_law_529 (lv_at hl 1 rfl) ?_
  refine lv_icmp_eq (tgt := 536) hx hb dL_law_531 rfl (fun _ => ?_) (fun hne => absurd rfl hne)
  refine lv_iload hx hb dL_law_536 (lv_at hl 1 rfl) ?_
  refine lv_if_ne (tgt := 553) hx hb dL_law_538 rfl (fun _ => ?_) (fun heq => ?_)
  · refine lv_goto hx hb dL_law_553 rfl ?_
    exact kk ad1 hg H locs hB ls (lv_sub hl [2, 3, 4, 5, 6, 7] rfl)
  · refine lv_aload_n hx hb dL_law_541 rfl (lv_at hl 4 rfl) ?_
    refine lv_iconst hx hb dL_law_542 rfl ?_
    refine s_lald E hU hB.1 (slt hsh1 hn1 170 rfl) dL_law_543 ?_
    refine lv_iload hx hb dL_law_544 (lv_at hl 0 rfl) ?_
    refine lv_i2l hx hb dL_law_546 rfl ?_
    refine s_lcmp0 E (h4 heq) dL_law_547 ?_
    refine lv_if_eq (tgt := 553) hx hb dL_law_548 rfl (fun _ => ?_) (fun hne => absurd rfl hne)
    refine lv_goto hx hb dL_law_553 rfl ?_
    exact kk ad1 hg H locs hB ls (lv_sub hl [2, 3, 4, 5, 6, 7] rfl)
set_option maxRecDepth 100000 in
set_option maxHeartbeats 4000000 in
theorem aL_5 (K : Nat) (C : sLC p R l s m c cells slots args A D G b L xs i) (hsh : sSh r) (hn : 172 ≤ n) (hl : lv_has ls 9 (sLl b ad i)) (hB : sB D G A s.heap ad r v n x H locs) {q0 : (Int32 × (Int64 × UInt64)) × sR × sV × Nat} (h1 : fL_flow K (xs (i + 1)) (xs (i + 2)) (xs (i + 3)) r v n x = some q0) (hsh1 : sSh q0.2.1) {z : Int32 × sV} (h2 : fX7_flow K (xs (i + 1)) (xs (i + 2)) (xs (i + 3)) q0.2.2.1 = some z) (h3 : fX7_thrown z.2 = some q0.1.1) (h4 : q0.1.1 = 0 → q0.1.2.1 = z.1.toInt64) (hcs : cells + (q0.2.2.2 + 1) ≤ R.cells ∧ slots + (sz (n + q0.2.2.2) - sz n + 6) ≤ R.slots)
    (kk : ∀ ad1 : Nat → Nat, sGo r n ad q0.2.1 (n + q0.2.2.2) ad1 → ∀ (H : Heap) (locs : List Loc), sB D G A s.heap ad1 q0.2.1 z.2 (n + q0.2.2.2) q0.1.2 H locs → ∀ ls : Array Slot, lv_has ls 9 (sLl b ad1 i) → W p l e R s m args below meth c H locs (cells + (q0.2.2.2 + 1)) (slots + (sz (n + q0.2.2.2) - sz n + 6)) Q (F0 m 2027 ls [])) : W p l e R s m args below meth c H locs cells slots Q (F0 m 556 ls []) := by
  obtain ⟨E, hU, hNc, hZ, hA0, hst, hX, hbl, hbA, hL, hi, hR⟩ := C
  have hts := E.2.2.2.2
  have hx : p.tables.exec = Jvm.exec := E.1
  have hb := E.2.1
  have hl : lv_has ls 9 [(5, .int (Int32.ofNat i)), (4, .ref (ad 171)), (3, .ref (ad 170)), (2, .ref (ad 157)), (1, .ref (ad 0)), (0, .ref b)] := hl
  refine lv_aload_n hx hb dL_law_556 rfl (lv_at hl 4 rfl) ?_
  refine s_arg E hX hbl hbA hB.2.2 hl (k0 := 5) (k5 := 0) (kk := 1) rfl rfl rfl (by omega) hL dL_law_557 dL_law_558 dL_law_560 dL_law_561 dL_law_562 ?_
  refine s_arg E hX hbl hbA hB.2.2 hl (k0 := 5) (k5 := 0) (kk := 2) rfl rfl rfl (by omega) hL dL_law_563 dL_law_564 dL_law_566 dL_law_567 dL_law_568 ?_
  refine s_arg E hX hbl hbA hB.2.2 hl (k0 := 5) (k5 := 0) (kk := 3) rfl rfl rfl (by omega) hL dL_law_569 dL_law_570 dL_law_572 dL_law_573 dL_law_574 ?_
  refine lv_aload_n hx hb dL_law_575 rfl (lv_at hl 2 rfl) ?_
  refine sl_W hB hA0 (rS_L (As := [.ref (ad 0), .int (xs (i + 1)), .int (xs (i + 2)), .int (xs (i + 3)), .ref (ad 170)]) (rest := []) E hU hNc hZ hA0 hB (mL_flow l K hst D G ad r _ n x hsh hn (xs (i + 1)) (xs (i + 2)) (xs (i + 3)) _ _ h1) (cwGH 5 okL_flow wmL_139 hts rfl rfl (sl_fr hR)) rfl hl.1 (Nat.le_of_ble_eq_true rfl) dL_law_576 (sl_room hcs) rfl) (fun ad1 hg H locs hB => ?_)
  refine lv_istore hx hb dL_law_579 hl (Nat.le_of_ble_eq_true rfl) rfl (fun ls hl => ?_)
  rw [← (hg.2 0 (slt hsh hn 0 rfl)).2, ← (hg.2 157 (slt hsh hn 157 rfl)).2, ← (hg.2 170 (slt hsh hn 170 rfl)).2, ← (hg.2 171 (slt hsh hn 171 rfl)).2] at hl
  have hn1 : 172 ≤ n + q0.2.2.2 := by omega
  refine lv_aload_n hx hb dL_law_581 rfl (lv_at hl 4 rfl) ?_
  refine s_arg E hX hbl hbA hB.2.2 hl (k0 := 6) (k5 := 1) (kk := 1) rfl rfl rfl (by omega) hL dL_law_582 dL_law_583 dL_law_585 dL_law_586 dL_law_587 ?_
  refine s_arg E hX hbl hbA hB.2.2 hl (k0 := 6) (k5 := 1) (kk := 2) rfl rfl rfl (by omega) hL dL_law_588 dL_law_589 dL_law_591 dL_law_592 dL_law_593 ?_
  refine s_arg E hX hbl hbA hB.2.2 hl (k0 := 6) (k5 := 1) (kk := 3) rfl rfl rfl (by omega) hL dL_law_594 dL_law_595 dL_law_597 dL_law_598 dL_law_599 ?_
  refine sc_I hB hA0 (o := fX7_flow K (xs (i + 1)) (xs (i + 2)) (xs (i + 3)) q0.2.2.1) (f := fun z => some z) (res := z) (by rw [h2]; rfl) (fun q9 h9 => rV_W (As := [.int (xs (i + 1)), .int (xs (i + 2)), .int (xs (i + 3))]) (rest := []) E hU hB sc9 (slt hsh1 hn1 157 rfl) rfl ((mX7_flow l K D G ad1 q0.2.1 _ _ q0.1.2 hsh1 hn1 (xs (i + 1)) (xs (i + 2)) (xs (i + 3))) _ _ h9) (cwGV 3 okX7_flow wmL_141 hts rfl rfl (sl_fx hR (by decide))) rfl hl.1 (Nat.le_of_ble_eq_true rfl) dL_law_600 ⟨hcs.1, hcs.2⟩ rfl) (fun y1 v1 hz H locs hB => ?_)
  obtain rfl := Option.some.inj hz
  refine lv_istore hx hb dL_law_603 hl (Nat.le_of_ble_eq_true rfl) rfl (fun ls hl => ?_)
  refine lv_aload_n hx hb dL_law_605 rfl (lv_at hl 5 rfl) ?_
  refine sc_R (o := fX7_thrown v1) (f := fun t => some t) (res := q0.1.1) (by rw [h3]; rfl) (rV_R (As := []) (rest := []) E hU hB.1 sc9 (slt hsh1 hn1 157 rfl) rfl (mX7_thrown l D G ad1 q0.2.1 _ _ q0.1.2 hsh1 hn1) (cwGV 0 okX7_thrown wmL_123 hts rfl rfl (sl_fx hR (by decide))) rfl hl.1 (Nat.le_of_ble_eq_true rfl) dL_law_606 ⟨hcs.1, hcs.2⟩ rfl) (fun t9 ht => ?_)
  obtain rfl := Option.some.inj ht
  refine lv_iload hx hb dL_law_609 (lv_at hl 1 rfl) ?_
  refine lv_icmp_eq (tgt := 616) hx hb dL_law_611 rfl (fun _ => ?_) (fun hne => absurd rfl hne)
  refine lv_iload hx hb dL_law_616 (lv_at hl 1 rfl) ?_
  refine lv_if_ne (tgt := 633) hx hb dL_law_618 rfl (fun _ => ?_) (fun heq => ?_)
  · refine lv_goto hx hb dL_law_633 rfl ?_
    exact kk ad1 hg H locs hB ls (lv_sub hl [2, 3, 4, 5, 6, 7] rfl)
  · refine lv_aload_n hx hb dL_law_621 rfl (lv_at hl 4 rfl) ?_
    refine lv_iconst hx hb dL_law_622 rfl ?_
    refine s_lald E hU hB.1 (slt hsh1 hn1 170 rfl) dL_law_623 ?_
    refine lv_iload hx hb dL_law_624 (lv_at hl 0 rfl) ?_
    refine lv_i2l hx hb dL_law_626 rfl ?_
    refine s_lcmp0 E (h4 heq) dL_law_627 ?_
    refine lv_if_eq (tgt := 633) hx hb dL_law_628 rfl (fun _ => ?_) (fun hne => absurd rfl hne)
    refine lv_goto hx hb dL_law_633 rfl ?_
    exact kk ad1 hg H locs hB ls (lv_sub hl [2, 3, 4, 5, 6, 7] rfl)
set_option maxRecDepth 100000 in
set_option maxHeartbeats 4000000 in
theorem aL_6 (K : Nat) (C : sLC p R l s m c cells slots args A D G b L xs i) (hsh : sSh r) (hn : 172 ≤ n) (hl : lv_has ls 9 (sLl b ad i)) (hB : sB D G A s.heap ad r v n x H locs) {q0 : (Int32 × (Int64 × UInt64)) × sR × sV × Nat} (h1 : fL_steps K (xs (i + 1)) (xs (i + 2)) (xs (i + 3)) r v n x = some q0) (hsh1 : sSh q0.2.1) {z : Int32 × sV} (h2 : fX7_steps K (xs (i + 1)) (xs (i + 2)) (xs (i + 3)) q0.2.2.1 = some z) (h3 : fX7_thrown z.2 = some q0.1.1) (h4 : q0.1.1 = 0 → q0.1.2.1 = z.1.toInt64) (hcs : cells + (q0.2.2.2 + 1) ≤ R.cells ∧ slots + (sz (n + q0.2.2.2) - sz n + 6) ≤ R.slots)
    (kk : ∀ ad1 : Nat → Nat, sGo r n ad q0.2.1 (n + q0.2.2.2) ad1 → ∀ (H : Heap) (locs : List Loc), sB D G A s.heap ad1 q0.2.1 z.2 (n + q0.2.2.2) q0.1.2 H locs → ∀ ls : Array Slot, lv_has ls 9 (sLl b ad1 i) → W p l e R s m args below meth c H locs (cells + (q0.2.2.2 + 1)) (slots + (sz (n + q0.2.2.2) - sz n + 6)) Q (F0 m 2027 ls [])) : W p l e R s m args below meth c H locs cells slots Q (F0 m 636 ls []) := by
  obtain ⟨E, hU, hNc, hZ, hA0, hst, hX, hbl, hbA, hL, hi, hR⟩ := C
  have hts := E.2.2.2.2
  have hx : p.tables.exec = Jvm.exec := E.1
  have hb := E.2.1
  have hl : lv_has ls 9 [(5, .int (Int32.ofNat i)), (4, .ref (ad 171)), (3, .ref (ad 170)), (2, .ref (ad 157)), (1, .ref (ad 0)), (0, .ref b)] := hl
  refine lv_aload_n hx hb dL_law_636 rfl (lv_at hl 4 rfl) ?_
  refine s_arg E hX hbl hbA hB.2.2 hl (k0 := 5) (k5 := 0) (kk := 1) rfl rfl rfl (by omega) hL dL_law_637 dL_law_638 dL_law_640 dL_law_641 dL_law_642 ?_
  refine s_arg E hX hbl hbA hB.2.2 hl (k0 := 5) (k5 := 0) (kk := 2) rfl rfl rfl (by omega) hL dL_law_643 dL_law_644 dL_law_646 dL_law_647 dL_law_648 ?_
  refine s_arg E hX hbl hbA hB.2.2 hl (k0 := 5) (k5 := 0) (kk := 3) rfl rfl rfl (by omega) hL dL_law_649 dL_law_650 dL_law_652 dL_law_653 dL_law_654 ?_
  refine lv_aload_n hx hb dL_law_655 rfl (lv_at hl 2 rfl) ?_
  refine sl_W hB hA0 (rS_L (As := [.ref (ad 0), .int (xs (i + 1)), .int (xs (i + 2)), .int (xs (i + 3)), .ref (ad 170)]) (rest := []) E hU hNc hZ hA0 hB (mL_steps l K hst D G ad r _ n x hsh hn (xs (i + 1)) (xs (i + 2)) (xs (i + 3)) _ _ h1) (cwGH 5 okL_steps wmL_142 hts rfl rfl (sl_fr hR)) rfl hl.1 (Nat.le_of_ble_eq_true rfl) dL_law_656 (sl_room hcs) rfl) (fun ad1 hg H locs hB => ?_)
  refine lv_istore hx hb dL_law_659 hl (Nat.le_of_ble_eq_true rfl) rfl (fun ls hl => ?_)
  rw [← (hg.2 0 (slt hsh hn 0 rfl)).2, ← (hg.2 157 (slt hsh hn 157 rfl)).2, ← (hg.2 170 (slt hsh hn 170 rfl)).2, ← (hg.2 171 (slt hsh hn 171 rfl)).2] at hl
  have hn1 : 172 ≤ n + q0.2.2.2 := by omega
  refine lv_aload_n hx hb dL_law_661 rfl (lv_at hl 4 rfl) ?_
  refine s_arg E hX hbl hbA hB.2.2 hl (k0 := 6) (k5 := 1) (kk := 1) rfl rfl rfl (by omega) hL dL_law_662 dL_law_663 dL_law_665 dL_law_666 dL_law_667 ?_
  refine s_arg E hX hbl hbA hB.2.2 hl (k0 := 6) (k5 := 1) (kk := 2) rfl rfl rfl (by omega) hL dL_law_668 dL_law_669 dL_law_671 dL_law_672 dL_law_673 ?_
  refine s_arg E hX hbl hbA hB.2.2 hl (k0 := 6) (k5 := 1) (kk := 3) rfl rfl rfl (by omega) hL dL_law_674 dL_law_675 dL_law_677 dL_law_678 dL_law_679 ?_
  refine sc_I hB hA0 (o := fX7_steps K (xs (i + 1)) (xs (i + 2)) (xs (i + 3)) q0.2.2.1) (f := fun z => some z) (res := z) (by rw [h2]; rfl) (fun q9 h9 => rV_W (As := [.int (xs (i + 1)), .int (xs (i + 2)), .int (xs (i + 3))]) (rest := []) E hU hB sc9 (slt hsh1 hn1 157 rfl) rfl ((mX7_steps l K D G ad1 q0.2.1 _ _ q0.1.2 hsh1 hn1 (xs (i + 1)) (xs (i + 2)) (xs (i + 3))) _ _ h9) (cwGV 3 okX7_steps wmL_144 hts rfl rfl (sl_fx hR (by decide))) rfl hl.1 (Nat.le_of_ble_eq_true rfl) dL_law_680 ⟨hcs.1, hcs.2⟩ rfl) (fun y1 v1 hz H locs hB => ?_)
  obtain rfl := Option.some.inj hz
  refine lv_istore hx hb dL_law_683 hl (Nat.le_of_ble_eq_true rfl) rfl (fun ls hl => ?_)
  refine lv_aload_n hx hb dL_law_685 rfl (lv_at hl 5 rfl) ?_
  refine sc_R (o := fX7_thrown v1) (f := fun t => some t) (res := q0.1.1) (by rw [h3]; rfl) (rV_R (As := []) (rest := []) E hU hB.1 sc9 (slt hsh1 hn1 157 rfl) rfl (mX7_thrown l D G ad1 q0.2.1 _ _ q0.1.2 hsh1 hn1) (cwGV 0 okX7_thrown wmL_123 hts rfl rfl (sl_fx hR (by decide))) rfl hl.1 (Nat.le_of_ble_eq_true rfl) dL_law_686 ⟨hcs.1, hcs.2⟩ rfl) (fun t9 ht => ?_)
  obtain rfl := Option.some.inj ht
  refine lv_iload hx hb dL_law_689 (lv_at hl 1 rfl) ?_
  refine lv_icmp_eq (tgt := 696) hx hb dL_law_691 rfl (fun _ => ?_) (fun hne => absurd rfl hne)
  refine lv_iload hx hb dL_law_696 (lv_at hl 1 rfl) ?_
  refine lv_if_ne (tgt := 713) hx hb dL_law_698 rfl (fun _ => ?_) (fun heq => ?_)
  · refine lv_goto hx hb dL_law_713 rfl ?_
    exact kk ad1 hg H locs hB ls (lv_sub hl [2, 3, 4, 5, 6, 7] rfl)
  · refine lv_aload_n hx hb dL_law_701 rfl (lv_at hl 4 rfl) ?_
    refine lv_iconst hx hb dL_law_702 rfl ?_
    refine s_lald E hU hB.1 (slt hsh1 hn1 170 rfl) dL_law_703 ?_
    refine lv_iload hx hb dL_law_704 (lv_at hl 0 rfl) ?_
    refine lv_i2l hx hb dL_law_706 rfl ?_
    refine s_lcmp0 E (h4 heq) dL_law_707 ?_
    refine lv_if_eq (tgt := 713) hx hb dL_law_708 rfl (fun _ => ?_) (fun hne => absurd rfl hne)
    refine lv_goto hx hb dL_law_713 rfl ?_
    exact kk ad1 hg H locs hB ls (lv_sub hl [2, 3, 4, 5, 6, 7] rfl)
set_option maxRecDepth 100000 in
set_option maxHeartbeats 4000000 in
theorem aL_7 (K : Nat) (C : sLC p R l s m c cells slots args A D G b L xs i) (hsh : sSh r) (hn : 172 ≤ n) (hl : lv_has ls 9 (sLl b ad i)) (hB : sB D G A s.heap ad r v n x H locs) {q0 : (Int32 × (Int64 × UInt64)) × sR × sV × Nat} (h1 : fL_setPatience K (xs (i + 1)) r v n x = some q0) (hsh1 : sSh q0.2.1) {z : Int32 × sV} (h2 : fX7_setPatience K (xs (i + 1)) q0.2.2.1 = some z) (h3 : fX7_thrown z.2 = some q0.1.1) (h4 : q0.1.1 = 0 → q0.1.2.1 = z.1.toInt64) (hcs : cells + (q0.2.2.2 + 1) ≤ R.cells ∧ slots + (sz (n + q0.2.2.2) - sz n + 6) ≤ R.slots)
    (kk : ∀ ad1 : Nat → Nat, sGo r n ad q0.2.1 (n + q0.2.2.2) ad1 → ∀ (H : Heap) (locs : List Loc), sB D G A s.heap ad1 q0.2.1 z.2 (n + q0.2.2.2) q0.1.2 H locs → ∀ ls : Array Slot, lv_has ls 9 (sLl b ad1 i) → W p l e R s m args below meth c H locs (cells + (q0.2.2.2 + 1)) (slots + (sz (n + q0.2.2.2) - sz n + 6)) Q (F0 m 2027 ls [])) : W p l e R s m args below meth c H locs cells slots Q (F0 m 716 ls []) := by
  obtain ⟨E, hU, hNc, hZ, hA0, hst, hX, hbl, hbA, hL, hi, hR⟩ := C
  have hts := E.2.2.2.2
  have hx : p.tables.exec = Jvm.exec := E.1
  have hb := E.2.1
  have hl : lv_has ls 9 [(5, .int (Int32.ofNat i)), (4, .ref (ad 171)), (3, .ref (ad 170)), (2, .ref (ad 157)), (1, .ref (ad 0)), (0, .ref b)] := hl
  refine lv_aload_n hx hb dL_law_716 rfl (lv_at hl 4 rfl) ?_
  refine s_arg E hX hbl hbA hB.2.2 hl (k0 := 5) (k5 := 0) (kk := 1) rfl rfl rfl (by omega) hL dL_law_717 dL_law_718 dL_law_720 dL_law_721 dL_law_722 ?_
  refine lv_aload_n hx hb dL_law_723 rfl (lv_at hl 2 rfl) ?_
  refine sl_W hB hA0 (rS_L (As := [.ref (ad 0), .int (xs (i + 1)), .ref (ad 170)]) (rest := []) E hU hNc hZ hA0 hB (mL_setPatience l K hst D G ad r _ n x hsh hn (xs (i + 1)) _ _ h1) (cwGH 3 okL_setPatience wmL_145 hts rfl rfl (sl_fr hR)) rfl hl.1 (Nat.le_of_ble_eq_true rfl) dL_law_724 (sl_room hcs) rfl) (fun ad1 hg H locs hB => ?_)
  refine lv_istore hx hb dL_law_727 hl (Nat.le_of_ble_eq_true rfl) rfl (fun ls hl => ?_)
  rw [← (hg.2 0 (slt hsh hn 0 rfl)).2, ← (hg.2 157 (slt hsh hn 157 rfl)).2, ← (hg.2 170 (slt hsh hn 170 rfl)).2, ← (hg.2 171 (slt hsh hn 171 rfl)).2] at hl
  have hn1 : 172 ≤ n + q0.2.2.2 := by omega
  refine lv_aload_n hx hb dL_law_729 rfl (lv_at hl 4 rfl) ?_
  refine s_arg E hX hbl hbA hB.2.2 hl (k0 := 6) (k5 := 1) (kk := 1) rfl rfl rfl (by omega) hL dL_law_730 dL_law_731 dL_law_733 dL_law_734 dL_law_735 ?_
  refine sc_I hB hA0 (o := fX7_setPatience K (xs (i + 1)) q0.2.2.1) (f := fun z => some z) (res := z) (by rw [h2]; rfl) (fun q9 h9 => rV_W (As := [.int (xs (i + 1))]) (rest := []) E hU hB sc9 (slt hsh1 hn1 157 rfl) rfl ((mX7_setPatience l K D G ad1 q0.2.1 _ _ q0.1.2 hsh1 hn1 (xs (i + 1))) _ _ h9) (cwGV 1 okX7_setPatience wmL_147 hts rfl rfl (sl_fx hR (by decide))) rfl hl.1 (Nat.le_of_ble_eq_true rfl) dL_law_736 ⟨hcs.1, hcs.2⟩ rfl) (fun y1 v1 hz H locs hB => ?_)
  obtain rfl := Option.some.inj hz
  refine lv_istore hx hb dL_law_739 hl (Nat.le_of_ble_eq_true rfl) rfl (fun ls hl => ?_)
  refine lv_aload_n hx hb dL_law_741 rfl (lv_at hl 5 rfl) ?_
  refine sc_R (o := fX7_thrown v1) (f := fun t => some t) (res := q0.1.1) (by rw [h3]; rfl) (rV_R (As := []) (rest := []) E hU hB.1 sc9 (slt hsh1 hn1 157 rfl) rfl (mX7_thrown l D G ad1 q0.2.1 _ _ q0.1.2 hsh1 hn1) (cwGV 0 okX7_thrown wmL_123 hts rfl rfl (sl_fx hR (by decide))) rfl hl.1 (Nat.le_of_ble_eq_true rfl) dL_law_742 ⟨hcs.1, hcs.2⟩ rfl) (fun t9 ht => ?_)
  obtain rfl := Option.some.inj ht
  refine lv_iload hx hb dL_law_745 (lv_at hl 1 rfl) ?_
  refine lv_icmp_eq (tgt := 752) hx hb dL_law_747 rfl (fun _ => ?_) (fun hne => absurd rfl hne)
  refine lv_iload hx hb dL_law_752 (lv_at hl 1 rfl) ?_
  refine lv_if_ne (tgt := 769) hx hb dL_law_754 rfl (fun _ => ?_) (fun heq => ?_)
  · refine lv_goto hx hb dL_law_769 rfl ?_
    exact kk ad1 hg H locs hB ls (lv_sub hl [2, 3, 4, 5, 6, 7] rfl)
  · refine lv_aload_n hx hb dL_law_757 rfl (lv_at hl 4 rfl) ?_
    refine lv_iconst hx hb dL_law_758 rfl ?_
    refine s_lald E hU hB.1 (slt hsh1 hn1 170 rfl) dL_law_759 ?_
    refine lv_iload hx hb dL_law_760 (lv_at hl 0 rfl) ?_
    refine lv_i2l hx hb dL_law_762 rfl ?_
    refine s_lcmp0 E (h4 heq) dL_law_763 ?_
    refine lv_if_eq (tgt := 769) hx hb dL_law_764 rfl (fun _ => ?_) (fun hne => absurd rfl hne)
    refine lv_goto hx hb dL_law_769 rfl ?_
    exact kk ad1 hg H locs hB ls (lv_sub hl [2, 3, 4, 5, 6, 7] rfl)
set_option maxRecDepth 100000 in
set_option maxHeartbeats 4000000 in
theorem aL_8 (K : Nat) (C : sLC p R l s m c cells slots args A D G b L xs i) (hsh : sSh r) (hn : 172 ≤ n) (hl : lv_has ls 9 (sLl b ad i)) (hB : sB D G A s.heap ad r v n x H locs) {q0 : (Int32 × (Int64 × UInt64)) × sR × sV × Nat} (h1 : fL_add K (xs (i + 1)) (xs (i + 2)) (xs (i + 3)) (xs (i + 4)) r v n x = some q0) (hsh1 : sSh q0.2.1) {z : Int32 × sV} (h2 : fX7_add K (xs (i + 1)) (xs (i + 2)) (xs (i + 3)) (xs (i + 4)) q0.2.2.1 = some z) (h3 : fX7_thrown z.2 = some q0.1.1) (h4 : q0.1.1 = 0 → q0.1.2.1 = z.1.toInt64) (hcs : cells + (q0.2.2.2 + 1) ≤ R.cells ∧ slots + (sz (n + q0.2.2.2) - sz n + 6) ≤ R.slots)
    (kk : ∀ ad1 : Nat → Nat, sGo r n ad q0.2.1 (n + q0.2.2.2) ad1 → ∀ (H : Heap) (locs : List Loc), sB D G A s.heap ad1 q0.2.1 z.2 (n + q0.2.2.2) q0.1.2 H locs → ∀ ls : Array Slot, lv_has ls 9 (sLl b ad1 i) → W p l e R s m args below meth c H locs (cells + (q0.2.2.2 + 1)) (slots + (sz (n + q0.2.2.2) - sz n + 6)) Q (F0 m 2027 ls [])) : W p l e R s m args below meth c H locs cells slots Q (F0 m 772 ls []) := by
  obtain ⟨E, hU, hNc, hZ, hA0, hst, hX, hbl, hbA, hL, hi, hR⟩ := C
  have hts := E.2.2.2.2
  have hx : p.tables.exec = Jvm.exec := E.1
  have hb := E.2.1
  have hl : lv_has ls 9 [(5, .int (Int32.ofNat i)), (4, .ref (ad 171)), (3, .ref (ad 170)), (2, .ref (ad 157)), (1, .ref (ad 0)), (0, .ref b)] := hl
  refine lv_aload_n hx hb dL_law_772 rfl (lv_at hl 4 rfl) ?_
  refine s_arg E hX hbl hbA hB.2.2 hl (k0 := 5) (k5 := 0) (kk := 1) rfl rfl rfl (by omega) hL dL_law_773 dL_law_774 dL_law_776 dL_law_777 dL_law_778 ?_
  refine s_arg E hX hbl hbA hB.2.2 hl (k0 := 5) (k5 := 0) (kk := 2) rfl rfl rfl (by omega) hL dL_law_779 dL_law_780 dL_law_782 dL_law_783 dL_law_784 ?_
  refine s_arg E hX hbl hbA hB.2.2 hl (k0 := 5) (k5 := 0) (kk := 3) rfl rfl rfl (by omega) hL dL_law_785 dL_law_786 dL_law_788 dL_law_789 dL_law_790 ?_
  refine s_arg E hX hbl hbA hB.2.2 hl (k0 := 5) (k5 := 0) (kk := 4) rfl rfl rfl (by omega) hL dL_law_791 dL_law_792 dL_law_794 dL_law_795 dL_law_796 ?_
  refine lv_aload_n hx hb dL_law_797 rfl (lv_at hl 2 rfl) ?_
  refine sl_W hB hA0 (rS_L (As := [.ref (ad 0), .int (xs (i + 1)), .int (xs (i + 2)), .int (xs (i + 3)), .int (xs (i + 4)), .ref (ad 170)]) (rest := []) E hU hNc hZ hA0 hB (mL_add l K hst D G ad r _ n x hsh hn (xs (i + 1)) (xs (i + 2)) (xs (i + 3)) (xs (i + 4)) _ _ h1) (cwGH 6 okL_add wmL_148 hts rfl rfl (sl_fr hR)) rfl hl.1 (Nat.le_of_ble_eq_true rfl) dL_law_798 (sl_room hcs) rfl) (fun ad1 hg H locs hB => ?_)
  refine lv_istore hx hb dL_law_801 hl (Nat.le_of_ble_eq_true rfl) rfl (fun ls hl => ?_)
  rw [← (hg.2 0 (slt hsh hn 0 rfl)).2, ← (hg.2 157 (slt hsh hn 157 rfl)).2, ← (hg.2 170 (slt hsh hn 170 rfl)).2, ← (hg.2 171 (slt hsh hn 171 rfl)).2] at hl
  have hn1 : 172 ≤ n + q0.2.2.2 := by omega
  refine lv_aload_n hx hb dL_law_803 rfl (lv_at hl 4 rfl) ?_
  refine s_arg E hX hbl hbA hB.2.2 hl (k0 := 6) (k5 := 1) (kk := 1) rfl rfl rfl (by omega) hL dL_law_804 dL_law_805 dL_law_807 dL_law_808 dL_law_809 ?_
  refine s_arg E hX hbl hbA hB.2.2 hl (k0 := 6) (k5 := 1) (kk := 2) rfl rfl rfl (by omega) hL dL_law_810 dL_law_811 dL_law_813 dL_law_814 dL_law_815 ?_
  refine s_arg E hX hbl hbA hB.2.2 hl (k0 := 6) (k5 := 1) (kk := 3) rfl rfl rfl (by omega) hL dL_law_816 dL_law_817 dL_law_819 dL_law_820 dL_law_821 ?_
  refine s_arg E hX hbl hbA hB.2.2 hl (k0 := 6) (k5 := 1) (kk := 4) rfl rfl rfl (by omega) hL dL_law_822 dL_law_823 dL_law_825 dL_law_826 dL_law_827 ?_
  refine sc_I hB hA0 (o := fX7_add K (xs (i + 1)) (xs (i + 2)) (xs (i + 3)) (xs (i + 4)) q0.2.2.1) (f := fun z => some z) (res := z) (by rw [h2]; rfl) (fun q9 h9 => rV_W (As := [.int (xs (i + 1)), .int (xs (i + 2)), .int (xs (i + 3)), .int (xs (i + 4))]) (rest := []) E hU hB sc9 (slt hsh1 hn1 157 rfl) rfl ((mX7_add l K D G ad1 q0.2.1 _ _ q0.1.2 hsh1 hn1 (xs (i + 1)) (xs (i + 2)) (xs (i + 3)) (xs (i + 4))) _ _ h9) (cwGV 4 okX7_add wmL_151 hts rfl rfl (sl_fx hR (by decide))) rfl hl.1 (Nat.le_of_ble_eq_true rfl) dL_law_828 ⟨hcs.1, hcs.2⟩ rfl) (fun y1 v1 hz H locs hB => ?_)
  obtain rfl := Option.some.inj hz
  refine lv_istore hx hb dL_law_831 hl (Nat.le_of_ble_eq_true rfl) rfl (fun ls hl => ?_)
  refine lv_aload_n hx hb dL_law_833 rfl (lv_at hl 5 rfl) ?_
  refine sc_R (o := fX7_thrown v1) (f := fun t => some t) (res := q0.1.1) (by rw [h3]; rfl) (rV_R (As := []) (rest := []) E hU hB.1 sc9 (slt hsh1 hn1 157 rfl) rfl (mX7_thrown l D G ad1 q0.2.1 _ _ q0.1.2 hsh1 hn1) (cwGV 0 okX7_thrown wmL_123 hts rfl rfl (sl_fx hR (by decide))) rfl hl.1 (Nat.le_of_ble_eq_true rfl) dL_law_834 ⟨hcs.1, hcs.2⟩ rfl) (fun t9 ht => ?_)
  obtain rfl := Option.some.inj ht
  refine lv_iload hx hb dL_law_837 (lv_at hl 1 rfl) ?_
  refine lv_icmp_eq (tgt := 844) hx hb dL_law_839 rfl (fun _ => ?_) (fun hne => absurd rfl hne)
  refine lv_iload hx hb dL_law_844 (lv_at hl 1 rfl) ?_
  refine lv_if_ne (tgt := 861) hx hb dL_law_846 rfl (fun _ => ?_) (fun heq => ?_)
  · refine lv_goto hx hb dL_law_861 rfl ?_
    exact kk ad1 hg H locs hB ls (lv_sub hl [2, 3, 4, 5, 6, 7] rfl)
  · refine lv_aload_n hx hb dL_law_849 rfl (lv_at hl 4 rfl) ?_
    refine lv_iconst hx hb dL_law_850 rfl ?_
    refine s_lald E hU hB.1 (slt hsh1 hn1 170 rfl) dL_law_851 ?_
    refine lv_iload hx hb dL_law_852 (lv_at hl 0 rfl) ?_
    refine lv_i2l hx hb dL_law_854 rfl ?_
    refine s_lcmp0 E (h4 heq) dL_law_855 ?_
    refine lv_if_eq (tgt := 861) hx hb dL_law_856 rfl (fun _ => ?_) (fun hne => absurd rfl hne)
    refine lv_goto hx hb dL_law_861 rfl ?_
    exact kk ad1 hg H locs hB ls (lv_sub hl [2, 3, 4, 5, 6, 7] rfl)
set_option maxRecDepth 100000 in
set_option maxHeartbeats 4000000 in
theorem aL_9 (K : Nat) (C : sLC p R l s m c cells slots args A D G b L xs i) (hsh : sSh r) (hn : 172 ≤ n) (hl : lv_has ls 9 (sLl b ad i)) (hB : sB D G A s.heap ad r v n x H locs) {q0 : (Int32 × (Int64 × UInt64)) × sR × sV × Nat} (h1 : fL_remove K (xs (i + 1)) r v n x = some q0) (hsh1 : sSh q0.2.1) {z : Int32 × sV} (h2 : fX7_remove K (xs (i + 1)) q0.2.2.1 = some z) (h3 : fX7_thrown z.2 = some q0.1.1) (h4 : q0.1.1 = 0 → q0.1.2.1 = z.1.toInt64) (hcs : cells + (q0.2.2.2 + 1) ≤ R.cells ∧ slots + (sz (n + q0.2.2.2) - sz n + 6) ≤ R.slots)
    (kk : ∀ ad1 : Nat → Nat, sGo r n ad q0.2.1 (n + q0.2.2.2) ad1 → ∀ (H : Heap) (locs : List Loc), sB D G A s.heap ad1 q0.2.1 z.2 (n + q0.2.2.2) q0.1.2 H locs → ∀ ls : Array Slot, lv_has ls 9 (sLl b ad1 i) → W p l e R s m args below meth c H locs (cells + (q0.2.2.2 + 1)) (slots + (sz (n + q0.2.2.2) - sz n + 6)) Q (F0 m 2027 ls [])) : W p l e R s m args below meth c H locs cells slots Q (F0 m 864 ls []) := by
  obtain ⟨E, hU, hNc, hZ, hA0, hst, hX, hbl, hbA, hL, hi, hR⟩ := C
  have hts := E.2.2.2.2
  have hx : p.tables.exec = Jvm.exec := E.1
  have hb := E.2.1
  have hl : lv_has ls 9 [(5, .int (Int32.ofNat i)), (4, .ref (ad 171)), (3, .ref (ad 170)), (2, .ref (ad 157)), (1, .ref (ad 0)), (0, .ref b)] := hl
  refine lv_aload_n hx hb dL_law_864 rfl (lv_at hl 4 rfl) ?_
  refine s_arg E hX hbl hbA hB.2.2 hl (k0 := 5) (k5 := 0) (kk := 1) rfl rfl rfl (by omega) hL dL_law_865 dL_law_866 dL_law_868 dL_law_869 dL_law_870 ?_
  refine lv_aload_n hx hb dL_law_871 rfl (lv_at hl 2 rfl) ?_
  refine sl_W hB hA0 (rS_L (As := [.ref (ad 0), .int (xs (i + 1)), .ref (ad 170)]) (rest := []) E hU hNc hZ hA0 hB (mL_remove l K hst D G ad r _ n x hsh hn (xs (i + 1)) _ _ h1) (cwGH 3 okL_remove wmL_152 hts rfl rfl (sl_fr hR)) rfl hl.1 (Nat.le_of_ble_eq_true rfl) dL_law_872 (sl_room hcs) rfl) (fun ad1 hg H locs hB => ?_)
  refine lv_istore hx hb dL_law_875 hl (Nat.le_of_ble_eq_true rfl) rfl (fun ls hl => ?_)
  rw [← (hg.2 0 (slt hsh hn 0 rfl)).2, ← (hg.2 157 (slt hsh hn 157 rfl)).2, ← (hg.2 170 (slt hsh hn 170 rfl)).2, ← (hg.2 171 (slt hsh hn 171 rfl)).2] at hl
  have hn1 : 172 ≤ n + q0.2.2.2 := by omega
  refine lv_aload_n hx hb dL_law_877 rfl (lv_at hl 4 rfl) ?_
  refine s_arg E hX hbl hbA hB.2.2 hl (k0 := 6) (k5 := 1) (kk := 1) rfl rfl rfl (by omega) hL dL_law_878 dL_law_879 dL_law_881 dL_law_882 dL_law_883 ?_
  refine sc_I hB hA0 (o := fX7_remove K (xs (i + 1)) q0.2.2.1) (f := fun z => some z) (res := z) (by rw [h2]; rfl) (fun q9 h9 => rV_W (As := [.int (xs (i + 1))]) (rest := []) E hU hB sc9 (slt hsh1 hn1 157 rfl) rfl ((mX7_remove l K D G ad1 q0.2.1 _ _ q0.1.2 hsh1 hn1 (xs (i + 1))) _ _ h9) (cwGV 1 okX7_remove wmL_154 hts rfl rfl (sl_fx hR (by decide))) rfl hl.1 (Nat.le_of_ble_eq_true rfl) dL_law_884 ⟨hcs.1, hcs.2⟩ rfl) (fun y1 v1 hz H locs hB => ?_)
  obtain rfl := Option.some.inj hz
  refine lv_istore hx hb dL_law_887 hl (Nat.le_of_ble_eq_true rfl) rfl (fun ls hl => ?_)
  refine lv_aload_n hx hb dL_law_889 rfl (lv_at hl 5 rfl) ?_
  refine sc_R (o := fX7_thrown v1) (f := fun t => some t) (res := q0.1.1) (by rw [h3]; rfl) (rV_R (As := []) (rest := []) E hU hB.1 sc9 (slt hsh1 hn1 157 rfl) rfl (mX7_thrown l D G ad1 q0.2.1 _ _ q0.1.2 hsh1 hn1) (cwGV 0 okX7_thrown wmL_123 hts rfl rfl (sl_fx hR (by decide))) rfl hl.1 (Nat.le_of_ble_eq_true rfl) dL_law_890 ⟨hcs.1, hcs.2⟩ rfl) (fun t9 ht => ?_)
  obtain rfl := Option.some.inj ht
  refine lv_iload hx hb dL_law_893 (lv_at hl 1 rfl) ?_
  refine lv_icmp_eq (tgt := 900) hx hb dL_law_895 rfl (fun _ => ?_) (fun hne => absurd rfl hne)
  refine lv_iload hx hb dL_law_900 (lv_at hl 1 rfl) ?_
  refine lv_if_ne (tgt := 917) hx hb dL_law_902 rfl (fun _ => ?_) (fun heq => ?_)
  · refine lv_goto hx hb dL_law_917 rfl ?_
    exact kk ad1 hg H locs hB ls (lv_sub hl [2, 3, 4, 5, 6, 7] rfl)
  · refine lv_aload_n hx hb dL_law_905 rfl (lv_at hl 4 rfl) ?_
    refine lv_iconst hx hb dL_law_906 rfl ?_
    refine s_lald E hU hB.1 (slt hsh1 hn1 170 rfl) dL_law_907 ?_
    refine lv_iload hx hb dL_law_908 (lv_at hl 0 rfl) ?_
    refine lv_i2l hx hb dL_law_910 rfl ?_
    refine s_lcmp0 E (h4 heq) dL_law_911 ?_
    refine lv_if_eq (tgt := 917) hx hb dL_law_912 rfl (fun _ => ?_) (fun hne => absurd rfl hne)
    refine lv_goto hx hb dL_law_917 rfl ?_
    exact kk ad1 hg H locs hB ls (lv_sub hl [2, 3, 4, 5, 6, 7] rfl)
set_option maxRecDepth 100000 in
set_option maxHeartbeats 4000000 in
theorem aL_10 (K : Nat) (C : sLC p R l s m c cells slots args A D G b L xs i) (hsh : sSh r) (hn : 172 ≤ n) (hl : lv_has ls 9 (sLl b ad i)) (hB : sB D G A s.heap ad r v n x H locs) {q0 : (Int32 × (Int64 × UInt64)) × sR × sV × Nat} (h1 : fL_change K (xs (i + 1)) (if xs (i + 2) = 0 then 0 else 1) (xs (i + 3)) r v n x = some q0) (hsh1 : sSh q0.2.1) {z : Int32 × sV} (h2 : fX7_change K (xs (i + 1)) (if xs (i + 2) = 0 then 0 else 1) (xs (i + 3)) q0.2.2.1 = some z) (h3 : fX7_thrown z.2 = some q0.1.1) (h4 : q0.1.1 = 0 → q0.1.2.1 = z.1.toInt64) (hcs : cells + (q0.2.2.2 + 1) ≤ R.cells ∧ slots + (sz (n + q0.2.2.2) - sz n + 6) ≤ R.slots)
    (kk : ∀ ad1 : Nat → Nat, sGo r n ad q0.2.1 (n + q0.2.2.2) ad1 → ∀ (H : Heap) (locs : List Loc), sB D G A s.heap ad1 q0.2.1 z.2 (n + q0.2.2.2) q0.1.2 H locs → ∀ ls : Array Slot, lv_has ls 9 (sLl b ad1 i) → W p l e R s m args below meth c H locs (cells + (q0.2.2.2 + 1)) (slots + (sz (n + q0.2.2.2) - sz n + 6)) Q (F0 m 2027 ls [])) : W p l e R s m args below meth c H locs cells slots Q (F0 m 920 ls []) := by
  obtain ⟨E, hU, hNc, hZ, hA0, hst, hX, hbl, hbA, hL, hi, hR⟩ := C
  have hts := E.2.2.2.2
  have hx : p.tables.exec = Jvm.exec := E.1
  have hb := E.2.1
  have hl : lv_has ls 9 [(5, .int (Int32.ofNat i)), (4, .ref (ad 171)), (3, .ref (ad 170)), (2, .ref (ad 157)), (1, .ref (ad 0)), (0, .ref b)] := hl
  refine lv_aload_n hx hb dL_law_920 rfl (lv_at hl 4 rfl) ?_
  refine s_arg E hX hbl hbA hB.2.2 hl (k0 := 5) (k5 := 0) (kk := 1) rfl rfl rfl (by omega) hL dL_law_921 dL_law_922 dL_law_924 dL_law_925 dL_law_926 ?_
  refine s_arg E hX hbl hbA hB.2.2 hl (k0 := 5) (k5 := 0) (kk := 2) rfl rfl rfl (by omega) hL dL_law_927 dL_law_928 dL_law_930 dL_law_931 dL_law_932 ?_
  refine s_b01 E dL_law_933 dL_law_936 dL_law_937 dL_law_940 ?_
  refine s_arg E hX hbl hbA hB.2.2 hl (k0 := 5) (k5 := 0) (kk := 3) rfl rfl rfl (by omega) hL dL_law_941 dL_law_942 dL_law_944 dL_law_945 dL_law_946 ?_
  refine lv_aload_n hx hb dL_law_947 rfl (lv_at hl 2 rfl) ?_
  refine sl_W hB hA0 (rS_L (As := [.ref (ad 0), .int (xs (i + 1)), .int (if xs (i + 2) = 0 then 0 else 1), .int (xs (i + 3)), .ref (ad 170)]) (rest := []) E hU hNc hZ hA0 hB (mL_change l K hst D G ad r _ n x hsh hn (xs (i + 1)) (if xs (i + 2) = 0 then 0 else 1) (xs (i + 3)) _ _ h1) (cwGH 5 okL_change wmL_155 hts rfl rfl (sl_fr hR)) rfl hl.1 (Nat.le_of_ble_eq_true rfl) dL_law_948 (sl_room hcs) rfl) (fun ad1 hg H locs hB => ?_)
  refine lv_istore hx hb dL_law_951 hl (Nat.le_of_ble_eq_true rfl) rfl (fun ls hl => ?_)
  rw [← (hg.2 0 (slt hsh hn 0 rfl)).2, ← (hg.2 157 (slt hsh hn 157 rfl)).2, ← (hg.2 170 (slt hsh hn 170 rfl)).2, ← (hg.2 171 (slt hsh hn 171 rfl)).2] at hl
  have hn1 : 172 ≤ n + q0.2.2.2 := by omega
  refine lv_aload_n hx hb dL_law_953 rfl (lv_at hl 4 rfl) ?_
  refine s_arg E hX hbl hbA hB.2.2 hl (k0 := 6) (k5 := 1) (kk := 1) rfl rfl rfl (by omega) hL dL_law_954 dL_law_955 dL_law_957 dL_law_958 dL_law_959 ?_
  refine s_arg E hX hbl hbA hB.2.2 hl (k0 := 6) (k5 := 1) (kk := 2) rfl rfl rfl (by omega) hL dL_law_960 dL_law_961 dL_law_963 dL_law_964 dL_law_965 ?_
  refine s_b01 E dL_law_966 dL_law_969 dL_law_970 dL_law_973 ?_
  refine s_arg E hX hbl hbA hB.2.2 hl (k0 := 6) (k5 := 1) (kk := 3) rfl rfl rfl (by omega) hL dL_law_974 dL_law_975 dL_law_977 dL_law_978 dL_law_979 ?_
  refine sc_I hB hA0 (o := fX7_change K (xs (i + 1)) (if xs (i + 2) = 0 then 0 else 1) (xs (i + 3)) q0.2.2.1) (f := fun z => some z) (res := z) (by rw [h2]; rfl) (fun q9 h9 => rV_W (As := [.int (xs (i + 1)), .int (if xs (i + 2) = 0 then 0 else 1), .int (xs (i + 3))]) (rest := []) E hU hB sc9 (slt hsh1 hn1 157 rfl) rfl ((mX7_change l K D G ad1 q0.2.1 _ _ q0.1.2 hsh1 hn1 (xs (i + 1)) (if xs (i + 2) = 0 then 0 else 1) (xs (i + 3))) _ _ h9) (cwGV 3 okX7_change wmL_158 hts rfl rfl (sl_fx hR (by decide))) rfl hl.1 (Nat.le_of_ble_eq_true rfl) dL_law_980 ⟨hcs.1, hcs.2⟩ rfl) (fun y1 v1 hz H locs hB => ?_)
  obtain rfl := Option.some.inj hz
  refine lv_istore hx hb dL_law_983 hl (Nat.le_of_ble_eq_true rfl) rfl (fun ls hl => ?_)
  refine lv_aload_n hx hb dL_law_985 rfl (lv_at hl 5 rfl) ?_
  refine sc_R (o := fX7_thrown v1) (f := fun t => some t) (res := q0.1.1) (by rw [h3]; rfl) (rV_R (As := []) (rest := []) E hU hB.1 sc9 (slt hsh1 hn1 157 rfl) rfl (mX7_thrown l D G ad1 q0.2.1 _ _ q0.1.2 hsh1 hn1) (cwGV 0 okX7_thrown wmL_123 hts rfl rfl (sl_fx hR (by decide))) rfl hl.1 (Nat.le_of_ble_eq_true rfl) dL_law_986 ⟨hcs.1, hcs.2⟩ rfl) (fun t9 ht => ?_)
  obtain rfl := Option.some.inj ht
  refine lv_iload hx hb dL_law_989 (lv_at hl 1 rfl) ?_
  refine lv_icmp_eq (tgt := 996) hx hb dL_law_991 rfl (fun _ => ?_) (fun hne => absurd rfl hne)
  refine lv_iload hx hb dL_law_996 (lv_at hl 1 rfl) ?_
  refine lv_if_ne (tgt := 1013) hx hb dL_law_998 rfl (fun _ => ?_) (fun heq => ?_)
  · refine lv_goto hx hb dL_law_1013 rfl ?_
    exact kk ad1 hg H locs hB ls (lv_sub hl [2, 3, 4, 5, 6, 7] rfl)
  · refine lv_aload_n hx hb dL_law_1001 rfl (lv_at hl 4 rfl) ?_
    refine lv_iconst hx hb dL_law_1002 rfl ?_
    refine s_lald E hU hB.1 (slt hsh1 hn1 170 rfl) dL_law_1003 ?_
    refine lv_iload hx hb dL_law_1004 (lv_at hl 0 rfl) ?_
    refine lv_i2l hx hb dL_law_1006 rfl ?_
    refine s_lcmp0 E (h4 heq) dL_law_1007 ?_
    refine lv_if_eq (tgt := 1013) hx hb dL_law_1008 rfl (fun _ => ?_) (fun hne => absurd rfl hne)
    refine lv_goto hx hb dL_law_1013 rfl ?_
    exact kk ad1 hg H locs hB ls (lv_sub hl [2, 3, 4, 5, 6, 7] rfl)
set_option maxRecDepth 100000 in
set_option maxHeartbeats 4000000 in
theorem aL_11 (K : Nat) (C : sLC p R l s m c cells slots args A D G b L xs i) (hsh : sSh r) (hn : 172 ≤ n) (hl : lv_has ls 9 (sLl b ad i)) (hB : sB D G A s.heap ad r v n x H locs) {q0 : (Int32 × (Int64 × UInt64)) × sR × sV × Nat} (h1 : fL_agent K (xs (i + 1)) (xs (i + 2)) r v n x = some q0) (hsh1 : sSh q0.2.1) {z : Int32 × sV} (h2 : fX7_agent K (xs (i + 1)) (xs (i + 2)) q0.2.2.1 = some z) (h3 : fX7_thrown z.2 = some q0.1.1) (h4 : q0.1.1 = 0 → q0.1.2.1 = z.1.toInt64) (hcs : cells + (q0.2.2.2 + 1) ≤ R.cells ∧ slots + (sz (n + q0.2.2.2) - sz n + 6) ≤ R.slots)
    (kk : ∀ ad1 : Nat → Nat, sGo r n ad q0.2.1 (n + q0.2.2.2) ad1 → ∀ (H : Heap) (locs : List Loc), sB D G A s.heap ad1 q0.2.1 z.2 (n + q0.2.2.2) q0.1.2 H locs → ∀ ls : Array Slot, lv_has ls 9 (sLl b ad1 i) → W p l e R s m args below meth c H locs (cells + (q0.2.2.2 + 1)) (slots + (sz (n + q0.2.2.2) - sz n + 6)) Q (F0 m 2027 ls [])) : W p l e R s m args below meth c H locs cells slots Q (F0 m 1016 ls []) := by
  obtain ⟨E, hU, hNc, hZ, hA0, hst, hX, hbl, hbA, hL, hi, hR⟩ := C
  have hts := E.2.2.2.2
  have hx : p.tables.exec = Jvm.exec := E.1
  have hb := E.2.1
  have hl : lv_has ls 9 [(5, .int (Int32.ofNat i)), (4, .ref (ad 171)), (3, .ref (ad 170)), (2, .ref (ad 157)), (1, .ref (ad 0)), (0, .ref b)] := hl
  refine lv_aload_n hx hb dL_law_1016 rfl (lv_at hl 4 rfl) ?_
  refine s_arg E hX hbl hbA hB.2.2 hl (k0 := 5) (k5 := 0) (kk := 1) rfl rfl rfl (by omega) hL dL_law_1017 dL_law_1018 dL_law_1020 dL_law_1021 dL_law_1022 ?_
  refine s_arg E hX hbl hbA hB.2.2 hl (k0 := 5) (k5 := 0) (kk := 2) rfl rfl rfl (by omega) hL dL_law_1023 dL_law_1024 dL_law_1026 dL_law_1027 dL_law_1028 ?_
  refine lv_aload_n hx hb dL_law_1029 rfl (lv_at hl 2 rfl) ?_
  refine sl_W hB hA0 (rS_L (As := [.ref (ad 0), .int (xs (i + 1)), .int (xs (i + 2)), .ref (ad 170)]) (rest := []) E hU hNc hZ hA0 hB (mL_agent l K hst D G ad r _ n x hsh hn (xs (i + 1)) (xs (i + 2)) _ _ h1) (cwGH 4 okL_agent wmL_159 hts rfl rfl (sl_fr hR)) rfl hl.1 (Nat.le_of_ble_eq_true rfl) dL_law_1030 (sl_room hcs) rfl) (fun ad1 hg H locs hB => ?_)
  refine lv_istore hx hb dL_law_1033 hl (Nat.le_of_ble_eq_true rfl) rfl (fun ls hl => ?_)
  rw [← (hg.2 0 (slt hsh hn 0 rfl)).2, ← (hg.2 157 (slt hsh hn 157 rfl)).2, ← (hg.2 170 (slt hsh hn 170 rfl)).2, ← (hg.2 171 (slt hsh hn 171 rfl)).2] at hl
  have hn1 : 172 ≤ n + q0.2.2.2 := by omega
  refine lv_aload_n hx hb dL_law_1035 rfl (lv_at hl 4 rfl) ?_
  refine s_arg E hX hbl hbA hB.2.2 hl (k0 := 6) (k5 := 1) (kk := 1) rfl rfl rfl (by omega) hL dL_law_1036 dL_law_1037 dL_law_1039 dL_law_1040 dL_law_1041 ?_
  refine s_arg E hX hbl hbA hB.2.2 hl (k0 := 6) (k5 := 1) (kk := 2) rfl rfl rfl (by omega) hL dL_law_1042 dL_law_1043 dL_law_1045 dL_law_1046 dL_law_1047 ?_
  refine sc_I hB hA0 (o := fX7_agent K (xs (i + 1)) (xs (i + 2)) q0.2.2.1) (f := fun z => some z) (res := z) (by rw [h2]; rfl) (fun q9 h9 => rV_W (As := [.int (xs (i + 1)), .int (xs (i + 2))]) (rest := []) E hU hB sc9 (slt hsh1 hn1 157 rfl) rfl ((mX7_agent l K D G ad1 q0.2.1 _ _ q0.1.2 hsh1 hn1 (xs (i + 1)) (xs (i + 2))) _ _ h9) (cwGV 2 okX7_agent wmL_162 hts rfl rfl (sl_fx hR (by decide))) rfl hl.1 (Nat.le_of_ble_eq_true rfl) dL_law_1048 ⟨hcs.1, hcs.2⟩ rfl) (fun y1 v1 hz H locs hB => ?_)
  obtain rfl := Option.some.inj hz
  refine lv_istore hx hb dL_law_1051 hl (Nat.le_of_ble_eq_true rfl) rfl (fun ls hl => ?_)
  refine lv_aload_n hx hb dL_law_1053 rfl (lv_at hl 5 rfl) ?_
  refine sc_R (o := fX7_thrown v1) (f := fun t => some t) (res := q0.1.1) (by rw [h3]; rfl) (rV_R (As := []) (rest := []) E hU hB.1 sc9 (slt hsh1 hn1 157 rfl) rfl (mX7_thrown l D G ad1 q0.2.1 _ _ q0.1.2 hsh1 hn1) (cwGV 0 okX7_thrown wmL_123 hts rfl rfl (sl_fx hR (by decide))) rfl hl.1 (Nat.le_of_ble_eq_true rfl) dL_law_1054 ⟨hcs.1, hcs.2⟩ rfl) (fun t9 ht => ?_)
  obtain rfl := Option.some.inj ht
  refine lv_iload hx hb dL_law_1057 (lv_at hl 1 rfl) ?_
  refine lv_icmp_eq (tgt := 1064) hx hb dL_law_1059 rfl (fun _ => ?_) (fun hne => absurd rfl hne)
  refine lv_iload hx hb dL_law_1064 (lv_at hl 1 rfl) ?_
  refine lv_if_ne (tgt := 1081) hx hb dL_law_1066 rfl (fun _ => ?_) (fun heq => ?_)
  · refine lv_goto hx hb dL_law_1081 rfl ?_
    exact kk ad1 hg H locs hB ls (lv_sub hl [2, 3, 4, 5, 6, 7] rfl)
  · refine lv_aload_n hx hb dL_law_1069 rfl (lv_at hl 4 rfl) ?_
    refine lv_iconst hx hb dL_law_1070 rfl ?_
    refine s_lald E hU hB.1 (slt hsh1 hn1 170 rfl) dL_law_1071 ?_
    refine lv_iload hx hb dL_law_1072 (lv_at hl 0 rfl) ?_
    refine lv_i2l hx hb dL_law_1074 rfl ?_
    refine s_lcmp0 E (h4 heq) dL_law_1075 ?_
    refine lv_if_eq (tgt := 1081) hx hb dL_law_1076 rfl (fun _ => ?_) (fun hne => absurd rfl hne)
    refine lv_goto hx hb dL_law_1081 rfl ?_
    exact kk ad1 hg H locs hB ls (lv_sub hl [2, 3, 4, 5, 6, 7] rfl)
set_option maxRecDepth 100000 in
set_option maxHeartbeats 4000000 in
theorem aL_12 (K : Nat) (C : sLC p R l s m c cells slots args A D G b L xs i) (hsh : sSh r) (hn : 172 ≤ n) (hl : lv_has ls 9 (sLl b ad i)) (hB : sB D G A s.heap ad r v n x H locs) {q0 : (Int32 × (Int64 × UInt64)) × sR × sV × Nat} (h1 : fL_agents K (xs (i + 1)) r v n x = some q0) (hsh1 : sSh q0.2.1) {z : Int32 × sV} (h2 : fX7_agents K (xs (i + 1)) q0.2.2.1 = some z) (h3 : fX7_thrown z.2 = some q0.1.1) (h4 : q0.1.1 = 0 → q0.1.2.1 = z.1.toInt64) (hcs : cells + (q0.2.2.2 + 1) ≤ R.cells ∧ slots + (sz (n + q0.2.2.2) - sz n + 6) ≤ R.slots)
    (kk : ∀ ad1 : Nat → Nat, sGo r n ad q0.2.1 (n + q0.2.2.2) ad1 → ∀ (H : Heap) (locs : List Loc), sB D G A s.heap ad1 q0.2.1 z.2 (n + q0.2.2.2) q0.1.2 H locs → ∀ ls : Array Slot, lv_has ls 9 (sLl b ad1 i) → W p l e R s m args below meth c H locs (cells + (q0.2.2.2 + 1)) (slots + (sz (n + q0.2.2.2) - sz n + 6)) Q (F0 m 2027 ls [])) : W p l e R s m args below meth c H locs cells slots Q (F0 m 1084 ls []) := by
  obtain ⟨E, hU, hNc, hZ, hA0, hst, hX, hbl, hbA, hL, hi, hR⟩ := C
  have hts := E.2.2.2.2
  have hx : p.tables.exec = Jvm.exec := E.1
  have hb := E.2.1
  have hl : lv_has ls 9 [(5, .int (Int32.ofNat i)), (4, .ref (ad 171)), (3, .ref (ad 170)), (2, .ref (ad 157)), (1, .ref (ad 0)), (0, .ref b)] := hl
  refine lv_aload_n hx hb dL_law_1084 rfl (lv_at hl 4 rfl) ?_
  refine s_arg E hX hbl hbA hB.2.2 hl (k0 := 5) (k5 := 0) (kk := 1) rfl rfl rfl (by omega) hL dL_law_1085 dL_law_1086 dL_law_1088 dL_law_1089 dL_law_1090 ?_
  refine lv_aload_n hx hb dL_law_1091 rfl (lv_at hl 2 rfl) ?_
  refine sl_W hB hA0 (rS_L (As := [.ref (ad 0), .int (xs (i + 1)), .ref (ad 170)]) (rest := []) E hU hNc hZ hA0 hB (mL_agents l K hst D G ad r _ n x hsh hn (xs (i + 1)) _ _ h1) (cwGH 3 okL_agents wmL_163 hts rfl rfl (sl_fr hR)) rfl hl.1 (Nat.le_of_ble_eq_true rfl) dL_law_1092 (sl_room hcs) rfl) (fun ad1 hg H locs hB => ?_)
  refine lv_istore hx hb dL_law_1095 hl (Nat.le_of_ble_eq_true rfl) rfl (fun ls hl => ?_)
  rw [← (hg.2 0 (slt hsh hn 0 rfl)).2, ← (hg.2 157 (slt hsh hn 157 rfl)).2, ← (hg.2 170 (slt hsh hn 170 rfl)).2, ← (hg.2 171 (slt hsh hn 171 rfl)).2] at hl
  have hn1 : 172 ≤ n + q0.2.2.2 := by omega
  refine lv_aload_n hx hb dL_law_1097 rfl (lv_at hl 4 rfl) ?_
  refine s_arg E hX hbl hbA hB.2.2 hl (k0 := 6) (k5 := 1) (kk := 1) rfl rfl rfl (by omega) hL dL_law_1098 dL_law_1099 dL_law_1101 dL_law_1102 dL_law_1103 ?_
  refine sc_I hB hA0 (o := fX7_agents K (xs (i + 1)) q0.2.2.1) (f := fun z => some z) (res := z) (by rw [h2]; rfl) (fun q9 h9 => rV_W (As := [.int (xs (i + 1))]) (rest := []) E hU hB sc9 (slt hsh1 hn1 157 rfl) rfl ((mX7_agents l K D G ad1 q0.2.1 _ _ q0.1.2 hsh1 hn1 (xs (i + 1))) _ _ h9) (cwGV 1 okX7_agents wmL_165 hts rfl rfl (sl_fx hR (by decide))) rfl hl.1 (Nat.le_of_ble_eq_true rfl) dL_law_1104 ⟨hcs.1, hcs.2⟩ rfl) (fun y1 v1 hz H locs hB => ?_)
  obtain rfl := Option.some.inj hz
  refine lv_istore hx hb dL_law_1107 hl (Nat.le_of_ble_eq_true rfl) rfl (fun ls hl => ?_)
  refine lv_aload_n hx hb dL_law_1109 rfl (lv_at hl 5 rfl) ?_
  refine sc_R (o := fX7_thrown v1) (f := fun t => some t) (res := q0.1.1) (by rw [h3]; rfl) (rV_R (As := []) (rest := []) E hU hB.1 sc9 (slt hsh1 hn1 157 rfl) rfl (mX7_thrown l D G ad1 q0.2.1 _ _ q0.1.2 hsh1 hn1) (cwGV 0 okX7_thrown wmL_123 hts rfl rfl (sl_fx hR (by decide))) rfl hl.1 (Nat.le_of_ble_eq_true rfl) dL_law_1110 ⟨hcs.1, hcs.2⟩ rfl) (fun t9 ht => ?_)
  obtain rfl := Option.some.inj ht
  refine lv_iload hx hb dL_law_1113 (lv_at hl 1 rfl) ?_
  refine lv_icmp_eq (tgt := 1120) hx hb dL_law_1115 rfl (fun _ => ?_) (fun hne => absurd rfl hne)
  refine lv_iload hx hb dL_law_1120 (lv_at hl 1 rfl) ?_
  refine lv_if_ne (tgt := 1137) hx hb dL_law_1122 rfl (fun _ => ?_) (fun heq => ?_)
  · refine lv_goto hx hb dL_law_1137 rfl ?_
    exact kk ad1 hg H locs hB ls (lv_sub hl [2, 3, 4, 5, 6, 7] rfl)
  · refine lv_aload_n hx hb dL_law_1125 rfl (lv_at hl 4 rfl) ?_
    refine lv_iconst hx hb dL_law_1126 rfl ?_
    refine s_lald E hU hB.1 (slt hsh1 hn1 170 rfl) dL_law_1127 ?_
    refine lv_iload hx hb dL_law_1128 (lv_at hl 0 rfl) ?_
    refine lv_i2l hx hb dL_law_1130 rfl ?_
    refine s_lcmp0 E (h4 heq) dL_law_1131 ?_
    refine lv_if_eq (tgt := 1137) hx hb dL_law_1132 rfl (fun _ => ?_) (fun hne => absurd rfl hne)
    refine lv_goto hx hb dL_law_1137 rfl ?_
    exact kk ad1 hg H locs hB ls (lv_sub hl [2, 3, 4, 5, 6, 7] rfl)
set_option maxRecDepth 100000 in
set_option maxHeartbeats 4000000 in
theorem aL_13 (K : Nat) (C : sLC p R l s m c cells slots args A D G b L xs i) (hsh : sSh r) (hn : 172 ≤ n) (hl : lv_has ls 9 (sLl b ad i)) (hB : sB D G A s.heap ad r v n x H locs) {q0 : (Int32 × (Int64 × UInt64)) × sR × sV × Nat} (h1 : fL_join K (xs (i + 1)) (xs (i + 2)) (xs (i + 3)) (xs (i + 4)) r v n x = some q0) (hsh1 : sSh q0.2.1) {z : Int32 × sV} (h2 : fX7_join K (xs (i + 1)) (xs (i + 2)) (xs (i + 3)) (xs (i + 4)) q0.2.2.1 = some z) (h3 : fX7_thrown z.2 = some q0.1.1) (h4 : q0.1.1 = 0 → q0.1.2.1 = z.1.toInt64) (hcs : cells + (q0.2.2.2 + 1) ≤ R.cells ∧ slots + (sz (n + q0.2.2.2) - sz n + 6) ≤ R.slots)
    (kk : ∀ ad1 : Nat → Nat, sGo r n ad q0.2.1 (n + q0.2.2.2) ad1 → ∀ (H : Heap) (locs : List Loc), sB D G A s.heap ad1 q0.2.1 z.2 (n + q0.2.2.2) q0.1.2 H locs → ∀ ls : Array Slot, lv_has ls 9 (sLl b ad1 i) → W p l e R s m args below meth c H locs (cells + (q0.2.2.2 + 1)) (slots + (sz (n + q0.2.2.2) - sz n + 6)) Q (F0 m 2027 ls [])) : W p l e R s m args below meth c H locs cells slots Q (F0 m 1140 ls []) := by
  obtain ⟨E, hU, hNc, hZ, hA0, hst, hX, hbl, hbA, hL, hi, hR⟩ := C
  have hts := E.2.2.2.2
  have hx : p.tables.exec = Jvm.exec := E.1
  have hb := E.2.1
  have hl : lv_has ls 9 [(5, .int (Int32.ofNat i)), (4, .ref (ad 171)), (3, .ref (ad 170)), (2, .ref (ad 157)), (1, .ref (ad 0)), (0, .ref b)] := hl
  refine lv_aload_n hx hb dL_law_1140 rfl (lv_at hl 4 rfl) ?_
  refine s_arg E hX hbl hbA hB.2.2 hl (k0 := 5) (k5 := 0) (kk := 1) rfl rfl rfl (by omega) hL dL_law_1141 dL_law_1142 dL_law_1144 dL_law_1145 dL_law_1146 ?_
  refine s_arg E hX hbl hbA hB.2.2 hl (k0 := 5) (k5 := 0) (kk := 2) rfl rfl rfl (by omega) hL dL_law_1147 dL_law_1148 dL_law_1150 dL_law_1151 dL_law_1152 ?_
  refine s_arg E hX hbl hbA hB.2.2 hl (k0 := 5) (k5 := 0) (kk := 3) rfl rfl rfl (by omega) hL dL_law_1153 dL_law_1154 dL_law_1156 dL_law_1157 dL_law_1158 ?_
  refine s_arg E hX hbl hbA hB.2.2 hl (k0 := 5) (k5 := 0) (kk := 4) rfl rfl rfl (by omega) hL dL_law_1159 dL_law_1160 dL_law_1162 dL_law_1163 dL_law_1164 ?_
  refine lv_aload_n hx hb dL_law_1165 rfl (lv_at hl 2 rfl) ?_
  refine sl_W hB hA0 (rS_L (As := [.ref (ad 0), .int (xs (i + 1)), .int (xs (i + 2)), .int (xs (i + 3)), .int (xs (i + 4)), .ref (ad 170)]) (rest := []) E hU hNc hZ hA0 hB (mL_join l K hst D G ad r _ n x hsh hn (xs (i + 1)) (xs (i + 2)) (xs (i + 3)) (xs (i + 4)) _ _ h1) (cwGH 6 okL_join wmL_166 hts rfl rfl (sl_fr hR)) rfl hl.1 (Nat.le_of_ble_eq_true rfl) dL_law_1166 (sl_room hcs) rfl) (fun ad1 hg H locs hB => ?_)
  refine lv_istore hx hb dL_law_1169 hl (Nat.le_of_ble_eq_true rfl) rfl (fun ls hl => ?_)
  rw [← (hg.2 0 (slt hsh hn 0 rfl)).2, ← (hg.2 157 (slt hsh hn 157 rfl)).2, ← (hg.2 170 (slt hsh hn 170 rfl)).2, ← (hg.2 171 (slt hsh hn 171 rfl)).2] at hl
  have hn1 : 172 ≤ n + q0.2.2.2 := by omega
  refine lv_aload_n hx hb dL_law_1171 rfl (lv_at hl 4 rfl) ?_
  refine s_arg E hX hbl hbA hB.2.2 hl (k0 := 6) (k5 := 1) (kk := 1) rfl rfl rfl (by omega) hL dL_law_1172 dL_law_1173 dL_law_1175 dL_law_1176 dL_law_1177 ?_
  refine s_arg E hX hbl hbA hB.2.2 hl (k0 := 6) (k5 := 1) (kk := 2) rfl rfl rfl (by omega) hL dL_law_1178 dL_law_1179 dL_law_1181 dL_law_1182 dL_law_1183 ?_
  refine s_arg E hX hbl hbA hB.2.2 hl (k0 := 6) (k5 := 1) (kk := 3) rfl rfl rfl (by omega) hL dL_law_1184 dL_law_1185 dL_law_1187 dL_law_1188 dL_law_1189 ?_
  refine s_arg E hX hbl hbA hB.2.2 hl (k0 := 6) (k5 := 1) (kk := 4) rfl rfl rfl (by omega) hL dL_law_1190 dL_law_1191 dL_law_1193 dL_law_1194 dL_law_1195 ?_
  refine sc_I hB hA0 (o := fX7_join K (xs (i + 1)) (xs (i + 2)) (xs (i + 3)) (xs (i + 4)) q0.2.2.1) (f := fun z => some z) (res := z) (by rw [h2]; rfl) (fun q9 h9 => rV_W (As := [.int (xs (i + 1)), .int (xs (i + 2)), .int (xs (i + 3)), .int (xs (i + 4))]) (rest := []) E hU hB sc9 (slt hsh1 hn1 157 rfl) rfl ((mX7_join l K D G ad1 q0.2.1 _ _ q0.1.2 hsh1 hn1 (xs (i + 1)) (xs (i + 2)) (xs (i + 3)) (xs (i + 4))) _ _ h9) (cwGV 4 okX7_join wmL_168 hts rfl rfl (sl_fx hR (by decide))) rfl hl.1 (Nat.le_of_ble_eq_true rfl) dL_law_1196 ⟨hcs.1, hcs.2⟩ rfl) (fun y1 v1 hz H locs hB => ?_)
  obtain rfl := Option.some.inj hz
  refine lv_istore hx hb dL_law_1199 hl (Nat.le_of_ble_eq_true rfl) rfl (fun ls hl => ?_)
  refine lv_aload_n hx hb dL_law_1201 rfl (lv_at hl 5 rfl) ?_
  refine sc_R (o := fX7_thrown v1) (f := fun t => some t) (res := q0.1.1) (by rw [h3]; rfl) (rV_R (As := []) (rest := []) E hU hB.1 sc9 (slt hsh1 hn1 157 rfl) rfl (mX7_thrown l D G ad1 q0.2.1 _ _ q0.1.2 hsh1 hn1) (cwGV 0 okX7_thrown wmL_123 hts rfl rfl (sl_fx hR (by decide))) rfl hl.1 (Nat.le_of_ble_eq_true rfl) dL_law_1202 ⟨hcs.1, hcs.2⟩ rfl) (fun t9 ht => ?_)
  obtain rfl := Option.some.inj ht
  refine lv_iload hx hb dL_law_1205 (lv_at hl 1 rfl) ?_
  refine lv_icmp_eq (tgt := 1212) hx hb dL_law_1207 rfl (fun _ => ?_) (fun hne => absurd rfl hne)
  refine lv_iload hx hb dL_law_1212 (lv_at hl 1 rfl) ?_
  refine lv_if_ne (tgt := 1229) hx hb dL_law_1214 rfl (fun _ => ?_) (fun heq => ?_)
  · refine lv_goto hx hb dL_law_1229 rfl ?_
    exact kk ad1 hg H locs hB ls (lv_sub hl [2, 3, 4, 5, 6, 7] rfl)
  · refine lv_aload_n hx hb dL_law_1217 rfl (lv_at hl 4 rfl) ?_
    refine lv_iconst hx hb dL_law_1218 rfl ?_
    refine s_lald E hU hB.1 (slt hsh1 hn1 170 rfl) dL_law_1219 ?_
    refine lv_iload hx hb dL_law_1220 (lv_at hl 0 rfl) ?_
    refine lv_i2l hx hb dL_law_1222 rfl ?_
    refine s_lcmp0 E (h4 heq) dL_law_1223 ?_
    refine lv_if_eq (tgt := 1229) hx hb dL_law_1224 rfl (fun _ => ?_) (fun hne => absurd rfl hne)
    refine lv_goto hx hb dL_law_1229 rfl ?_
    exact kk ad1 hg H locs hB ls (lv_sub hl [2, 3, 4, 5, 6, 7] rfl)
set_option maxRecDepth 100000 in
set_option maxHeartbeats 4000000 in
theorem aL_14 (K : Nat) (C : sLC p R l s m c cells slots args A D G b L xs i) (hsh : sSh r) (hn : 172 ≤ n) (hl : lv_has ls 9 (sLl b ad i)) (hB : sB D G A s.heap ad r v n x H locs) {q0 : (Int32 × (Int64 × UInt64)) × sR × sV × Nat} (h1 : fL_leave K (xs (i + 1)) r v n x = some q0) (hsh1 : sSh q0.2.1) {z : Int32 × sV} (h2 : fX7_leave K (xs (i + 1)) q0.2.2.1 = some z) (h3 : fX7_thrown z.2 = some q0.1.1) (h4 : q0.1.1 = 0 → q0.1.2.1 = z.1.toInt64) (hcs : cells + (q0.2.2.2 + 1) ≤ R.cells ∧ slots + (sz (n + q0.2.2.2) - sz n + 6) ≤ R.slots)
    (kk : ∀ ad1 : Nat → Nat, sGo r n ad q0.2.1 (n + q0.2.2.2) ad1 → ∀ (H : Heap) (locs : List Loc), sB D G A s.heap ad1 q0.2.1 z.2 (n + q0.2.2.2) q0.1.2 H locs → ∀ ls : Array Slot, lv_has ls 9 (sLl b ad1 i) → W p l e R s m args below meth c H locs (cells + (q0.2.2.2 + 1)) (slots + (sz (n + q0.2.2.2) - sz n + 6)) Q (F0 m 2027 ls [])) : W p l e R s m args below meth c H locs cells slots Q (F0 m 1232 ls []) := by
  obtain ⟨E, hU, hNc, hZ, hA0, hst, hX, hbl, hbA, hL, hi, hR⟩ := C
  have hts := E.2.2.2.2
  have hx : p.tables.exec = Jvm.exec := E.1
  have hb := E.2.1
  have hl : lv_has ls 9 [(5, .int (Int32.ofNat i)), (4, .ref (ad 171)), (3, .ref (ad 170)), (2, .ref (ad 157)), (1, .ref (ad 0)), (0, .ref b)] := hl
  refine lv_aload_n hx hb dL_law_1232 rfl (lv_at hl 4 rfl) ?_
  refine s_arg E hX hbl hbA hB.2.2 hl (k0 := 5) (k5 := 0) (kk := 1) rfl rfl rfl (by omega) hL dL_law_1233 dL_law_1234 dL_law_1236 dL_law_1237 dL_law_1238 ?_
  refine lv_aload_n hx hb dL_law_1239 rfl (lv_at hl 2 rfl) ?_
  refine sl_W hB hA0 (rS_L (As := [.ref (ad 0), .int (xs (i + 1)), .ref (ad 170)]) (rest := []) E hU hNc hZ hA0 hB (mL_leave l K hst D G ad r _ n x hsh hn (xs (i + 1)) _ _ h1) (cwGH 3 okL_leave wmL_169 hts rfl rfl (sl_fr hR)) rfl hl.1 (Nat.le_of_ble_eq_true rfl) dL_law_1240 (sl_room hcs) rfl) (fun ad1 hg H locs hB => ?_)
  refine lv_istore hx hb dL_law_1243 hl (Nat.le_of_ble_eq_true rfl) rfl (fun ls hl => ?_)
  rw [← (hg.2 0 (slt hsh hn 0 rfl)).2, ← (hg.2 157 (slt hsh hn 157 rfl)).2, ← (hg.2 170 (slt hsh hn 170 rfl)).2, ← (hg.2 171 (slt hsh hn 171 rfl)).2] at hl
  have hn1 : 172 ≤ n + q0.2.2.2 := by omega
  refine lv_aload_n hx hb dL_law_1245 rfl (lv_at hl 4 rfl) ?_
  refine s_arg E hX hbl hbA hB.2.2 hl (k0 := 6) (k5 := 1) (kk := 1) rfl rfl rfl (by omega) hL dL_law_1246 dL_law_1247 dL_law_1249 dL_law_1250 dL_law_1251 ?_
  refine sc_I hB hA0 (o := fX7_leave K (xs (i + 1)) q0.2.2.1) (f := fun z => some z) (res := z) (by rw [h2]; rfl) (fun q9 h9 => rV_W (As := [.int (xs (i + 1))]) (rest := []) E hU hB sc9 (slt hsh1 hn1 157 rfl) rfl ((mX7_leave l K D G ad1 q0.2.1 _ _ q0.1.2 hsh1 hn1 (xs (i + 1))) _ _ h9) (cwGV 1 okX7_leave wmL_171 hts rfl rfl (sl_fx hR (by decide))) rfl hl.1 (Nat.le_of_ble_eq_true rfl) dL_law_1252 ⟨hcs.1, hcs.2⟩ rfl) (fun y1 v1 hz H locs hB => ?_)
  obtain rfl := Option.some.inj hz
  refine lv_istore hx hb dL_law_1255 hl (Nat.le_of_ble_eq_true rfl) rfl (fun ls hl => ?_)
  refine lv_aload_n hx hb dL_law_1257 rfl (lv_at hl 5 rfl) ?_
  refine sc_R (o := fX7_thrown v1) (f := fun t => some t) (res := q0.1.1) (by rw [h3]; rfl) (rV_R (As := []) (rest := []) E hU hB.1 sc9 (slt hsh1 hn1 157 rfl) rfl (mX7_thrown l D G ad1 q0.2.1 _ _ q0.1.2 hsh1 hn1) (cwGV 0 okX7_thrown wmL_123 hts rfl rfl (sl_fx hR (by decide))) rfl hl.1 (Nat.le_of_ble_eq_true rfl) dL_law_1258 ⟨hcs.1, hcs.2⟩ rfl) (fun t9 ht => ?_)
  obtain rfl := Option.some.inj ht
  refine lv_iload hx hb dL_law_1261 (lv_at hl 1 rfl) ?_
  refine lv_icmp_eq (tgt := 1268) hx hb dL_law_1263 rfl (fun _ => ?_) (fun hne => absurd rfl hne)
  refine lv_iload hx hb dL_law_1268 (lv_at hl 1 rfl) ?_
  refine lv_if_ne (tgt := 1285) hx hb dL_law_1270 rfl (fun _ => ?_) (fun heq => ?_)
  · refine lv_goto hx hb dL_law_1285 rfl ?_
    exact kk ad1 hg H locs hB ls (lv_sub hl [2, 3, 4, 5, 6, 7] rfl)
  · refine lv_aload_n hx hb dL_law_1273 rfl (lv_at hl 4 rfl) ?_
    refine lv_iconst hx hb dL_law_1274 rfl ?_
    refine s_lald E hU hB.1 (slt hsh1 hn1 170 rfl) dL_law_1275 ?_
    refine lv_iload hx hb dL_law_1276 (lv_at hl 0 rfl) ?_
    refine lv_i2l hx hb dL_law_1278 rfl ?_
    refine s_lcmp0 E (h4 heq) dL_law_1279 ?_
    refine lv_if_eq (tgt := 1285) hx hb dL_law_1280 rfl (fun _ => ?_) (fun hne => absurd rfl hne)
    refine lv_goto hx hb dL_law_1285 rfl ?_
    exact kk ad1 hg H locs hB ls (lv_sub hl [2, 3, 4, 5, 6, 7] rfl)
set_option maxRecDepth 100000 in
set_option maxHeartbeats 4000000 in
theorem aL_15 (K : Nat) (C : sLC p R l s m c cells slots args A D G b L xs i) (hsh : sSh r) (hn : 172 ≤ n) (hl : lv_has ls 9 (sLl b ad i)) (hB : sB D G A s.heap ad r v n x H locs) {q0 : (Int32 × (Int64 × UInt64)) × sR × sV × Nat} (h1 : fL_disorder K (xs (i + 1)) r v n x = some q0) (hsh1 : sSh q0.2.1) {z : Int32 × sV} (h2 : fX7_disorder K (xs (i + 1)) q0.2.2.1 = some z) (h3 : fX7_thrown z.2 = some q0.1.1) (h4 : q0.1.1 = 0 → q0.1.2.1 = z.1.toInt64) (hcs : cells + (q0.2.2.2 + 1) ≤ R.cells ∧ slots + (sz (n + q0.2.2.2) - sz n + 6) ≤ R.slots)
    (kk : ∀ ad1 : Nat → Nat, sGo r n ad q0.2.1 (n + q0.2.2.2) ad1 → ∀ (H : Heap) (locs : List Loc), sB D G A s.heap ad1 q0.2.1 z.2 (n + q0.2.2.2) q0.1.2 H locs → ∀ ls : Array Slot, lv_has ls 9 (sLl b ad1 i) → W p l e R s m args below meth c H locs (cells + (q0.2.2.2 + 1)) (slots + (sz (n + q0.2.2.2) - sz n + 6)) Q (F0 m 2027 ls [])) : W p l e R s m args below meth c H locs cells slots Q (F0 m 1288 ls []) := by
  obtain ⟨E, hU, hNc, hZ, hA0, hst, hX, hbl, hbA, hL, hi, hR⟩ := C
  have hts := E.2.2.2.2
  have hx : p.tables.exec = Jvm.exec := E.1
  have hb := E.2.1
  have hl : lv_has ls 9 [(5, .int (Int32.ofNat i)), (4, .ref (ad 171)), (3, .ref (ad 170)), (2, .ref (ad 157)), (1, .ref (ad 0)), (0, .ref b)] := hl
  refine lv_aload_n hx hb dL_law_1288 rfl (lv_at hl 4 rfl) ?_
  refine s_arg E hX hbl hbA hB.2.2 hl (k0 := 5) (k5 := 0) (kk := 1) rfl rfl rfl (by omega) hL dL_law_1289 dL_law_1290 dL_law_1292 dL_law_1293 dL_law_1294 ?_
  refine lv_aload_n hx hb dL_law_1295 rfl (lv_at hl 2 rfl) ?_
  refine sl_W hB hA0 (rS_L (As := [.ref (ad 0), .int (xs (i + 1)), .ref (ad 170)]) (rest := []) E hU hNc hZ hA0 hB (mL_disorder l K hst D G ad r _ n x hsh hn (xs (i + 1)) _ _ h1) (cwGH 3 okL_disorder wmL_172 hts rfl rfl (sl_fr hR)) rfl hl.1 (Nat.le_of_ble_eq_true rfl) dL_law_1296 (sl_room hcs) rfl) (fun ad1 hg H locs hB => ?_)
  refine lv_istore hx hb dL_law_1299 hl (Nat.le_of_ble_eq_true rfl) rfl (fun ls hl => ?_)
  rw [← (hg.2 0 (slt hsh hn 0 rfl)).2, ← (hg.2 157 (slt hsh hn 157 rfl)).2, ← (hg.2 170 (slt hsh hn 170 rfl)).2, ← (hg.2 171 (slt hsh hn 171 rfl)).2] at hl
  have hn1 : 172 ≤ n + q0.2.2.2 := by omega
  refine lv_aload_n hx hb dL_law_1301 rfl (lv_at hl 4 rfl) ?_
  refine s_arg E hX hbl hbA hB.2.2 hl (k0 := 6) (k5 := 1) (kk := 1) rfl rfl rfl (by omega) hL dL_law_1302 dL_law_1303 dL_law_1305 dL_law_1306 dL_law_1307 ?_
  refine sc_I hB hA0 (o := fX7_disorder K (xs (i + 1)) q0.2.2.1) (f := fun z => some z) (res := z) (by rw [h2]; rfl) (fun q9 h9 => rV_W (As := [.int (xs (i + 1))]) (rest := []) E hU hB sc9 (slt hsh1 hn1 157 rfl) rfl ((mX7_disorder l K D G ad1 q0.2.1 _ _ q0.1.2 hsh1 hn1 (xs (i + 1))) _ _ h9) (cwGV 1 okX7_disorder wmL_174 hts rfl rfl (sl_fx hR (by decide))) rfl hl.1 (Nat.le_of_ble_eq_true rfl) dL_law_1308 ⟨hcs.1, hcs.2⟩ rfl) (fun y1 v1 hz H locs hB => ?_)
  obtain rfl := Option.some.inj hz
  refine lv_istore hx hb dL_law_1311 hl (Nat.le_of_ble_eq_true rfl) rfl (fun ls hl => ?_)
  refine lv_aload_n hx hb dL_law_1313 rfl (lv_at hl 5 rfl) ?_
  refine sc_R (o := fX7_thrown v1) (f := fun t => some t) (res := q0.1.1) (by rw [h3]; rfl) (rV_R (As := []) (rest := []) E hU hB.1 sc9 (slt hsh1 hn1 157 rfl) rfl (mX7_thrown l D G ad1 q0.2.1 _ _ q0.1.2 hsh1 hn1) (cwGV 0 okX7_thrown wmL_123 hts rfl rfl (sl_fx hR (by decide))) rfl hl.1 (Nat.le_of_ble_eq_true rfl) dL_law_1314 ⟨hcs.1, hcs.2⟩ rfl) (fun t9 ht => ?_)
  obtain rfl := Option.some.inj ht
  refine lv_iload hx hb dL_law_1317 (lv_at hl 1 rfl) ?_
  refine lv_icmp_eq (tgt := 1324) hx hb dL_law_1319 rfl (fun _ => ?_) (fun hne => absurd rfl hne)
  refine lv_iload hx hb dL_law_1324 (lv_at hl 1 rfl) ?_
  refine lv_if_ne (tgt := 1341) hx hb dL_law_1326 rfl (fun _ => ?_) (fun heq => ?_)
  · refine lv_goto hx hb dL_law_1341 rfl ?_
    exact kk ad1 hg H locs hB ls (lv_sub hl [2, 3, 4, 5, 6, 7] rfl)
  · refine lv_aload_n hx hb dL_law_1329 rfl (lv_at hl 4 rfl) ?_
    refine lv_iconst hx hb dL_law_1330 rfl ?_
    refine s_lald E hU hB.1 (slt hsh1 hn1 170 rfl) dL_law_1331 ?_
    refine lv_iload hx hb dL_law_1332 (lv_at hl 0 rfl) ?_
    refine lv_i2l hx hb dL_law_1334 rfl ?_
    refine s_lcmp0 E (h4 heq) dL_law_1335 ?_
    refine lv_if_eq (tgt := 1341) hx hb dL_law_1336 rfl (fun _ => ?_) (fun hne => absurd rfl hne)
    refine lv_goto hx hb dL_law_1341 rfl ?_
    exact kk ad1 hg H locs hB ls (lv_sub hl [2, 3, 4, 5, 6, 7] rfl)
set_option maxRecDepth 100000 in
set_option maxHeartbeats 4000000 in
theorem aL_16 (K : Nat) (C : sLC p R l s m c cells slots args A D G b L xs i) (hsh : sSh r) (hn : 172 ≤ n) (hl : lv_has ls 9 (sLl b ad i)) (hB : sB D G A s.heap ad r v n x H locs) {q0 : (Int32 × (Int64 × UInt64)) × sR × sV × Nat} (h1 : fL_tick K (xs (i + 1)) r v n x = some q0) (hsh1 : sSh q0.2.1) {z : Int32 × sV} (h2 : fX7_tick K (xs (i + 1)) q0.2.2.1 = some z) (h3 : fX7_thrown z.2 = some q0.1.1) (h4 : q0.1.1 = 0 → q0.1.2.1 = z.1.toInt64) (hcs : cells + (q0.2.2.2 + 1) ≤ R.cells ∧ slots + (sz (n + q0.2.2.2) - sz n + 6) ≤ R.slots)
    (kk : ∀ ad1 : Nat → Nat, sGo r n ad q0.2.1 (n + q0.2.2.2) ad1 → ∀ (H : Heap) (locs : List Loc), sB D G A s.heap ad1 q0.2.1 z.2 (n + q0.2.2.2) q0.1.2 H locs → ∀ ls : Array Slot, lv_has ls 9 (sLl b ad1 i) → W p l e R s m args below meth c H locs (cells + (q0.2.2.2 + 1)) (slots + (sz (n + q0.2.2.2) - sz n + 6)) Q (F0 m 2027 ls [])) : W p l e R s m args below meth c H locs cells slots Q (F0 m 1344 ls []) := by
  obtain ⟨E, hU, hNc, hZ, hA0, hst, hX, hbl, hbA, hL, hi, hR⟩ := C
  have hts := E.2.2.2.2
  have hx : p.tables.exec = Jvm.exec := E.1
  have hb := E.2.1
  have hl : lv_has ls 9 [(5, .int (Int32.ofNat i)), (4, .ref (ad 171)), (3, .ref (ad 170)), (2, .ref (ad 157)), (1, .ref (ad 0)), (0, .ref b)] := hl
  refine lv_aload_n hx hb dL_law_1344 rfl (lv_at hl 4 rfl) ?_
  refine s_arg E hX hbl hbA hB.2.2 hl (k0 := 5) (k5 := 0) (kk := 1) rfl rfl rfl (by omega) hL dL_law_1345 dL_law_1346 dL_law_1348 dL_law_1349 dL_law_1350 ?_
  refine lv_aload_n hx hb dL_law_1351 rfl (lv_at hl 2 rfl) ?_
  refine sl_W hB hA0 (rS_L (As := [.ref (ad 0), .int (xs (i + 1)), .ref (ad 170)]) (rest := []) E hU hNc hZ hA0 hB (mL_tick l K hst D G ad r _ n x hsh hn (xs (i + 1)) _ _ h1) (cwGH 3 okL_tick wmL_175 hts rfl rfl (sl_fr hR)) rfl hl.1 (Nat.le_of_ble_eq_true rfl) dL_law_1352 (sl_room hcs) rfl) (fun ad1 hg H locs hB => ?_)
  refine lv_istore hx hb dL_law_1355 hl (Nat.le_of_ble_eq_true rfl) rfl (fun ls hl => ?_)
  rw [← (hg.2 0 (slt hsh hn 0 rfl)).2, ← (hg.2 157 (slt hsh hn 157 rfl)).2, ← (hg.2 170 (slt hsh hn 170 rfl)).2, ← (hg.2 171 (slt hsh hn 171 rfl)).2] at hl
  have hn1 : 172 ≤ n + q0.2.2.2 := by omega
  refine lv_aload_n hx hb dL_law_1357 rfl (lv_at hl 4 rfl) ?_
  refine s_arg E hX hbl hbA hB.2.2 hl (k0 := 6) (k5 := 1) (kk := 1) rfl rfl rfl (by omega) hL dL_law_1358 dL_law_1359 dL_law_1361 dL_law_1362 dL_law_1363 ?_
  refine sc_I hB hA0 (o := fX7_tick K (xs (i + 1)) q0.2.2.1) (f := fun z => some z) (res := z) (by rw [h2]; rfl) (fun q9 h9 => rV_W (As := [.int (xs (i + 1))]) (rest := []) E hU hB sc9 (slt hsh1 hn1 157 rfl) rfl ((mX7_tick l K D G ad1 q0.2.1 _ _ q0.1.2 hsh1 hn1 (xs (i + 1))) _ _ h9) (cwGV 1 okX7_tick wmL_177 hts rfl rfl (sl_fx hR (by decide))) rfl hl.1 (Nat.le_of_ble_eq_true rfl) dL_law_1364 ⟨hcs.1, hcs.2⟩ rfl) (fun y1 v1 hz H locs hB => ?_)
  obtain rfl := Option.some.inj hz
  refine lv_istore hx hb dL_law_1367 hl (Nat.le_of_ble_eq_true rfl) rfl (fun ls hl => ?_)
  refine lv_aload_n hx hb dL_law_1369 rfl (lv_at hl 5 rfl) ?_
  refine sc_R (o := fX7_thrown v1) (f := fun t => some t) (res := q0.1.1) (by rw [h3]; rfl) (rV_R (As := []) (rest := []) E hU hB.1 sc9 (slt hsh1 hn1 157 rfl) rfl (mX7_thrown l D G ad1 q0.2.1 _ _ q0.1.2 hsh1 hn1) (cwGV 0 okX7_thrown wmL_123 hts rfl rfl (sl_fx hR (by decide))) rfl hl.1 (Nat.le_of_ble_eq_true rfl) dL_law_1370 ⟨hcs.1, hcs.2⟩ rfl) (fun t9 ht => ?_)
  obtain rfl := Option.some.inj ht
  refine lv_iload hx hb dL_law_1373 (lv_at hl 1 rfl) ?_
  refine lv_icmp_eq (tgt := 1380) hx hb dL_law_1375 rfl (fun _ => ?_) (fun hne => absurd rfl hne)
  refine lv_iload hx hb dL_law_1380 (lv_at hl 1 rfl) ?_
  refine lv_if_ne (tgt := 1397) hx hb dL_law_1382 rfl (fun _ => ?_) (fun heq => ?_)
  · refine lv_goto hx hb dL_law_1397 rfl ?_
    exact kk ad1 hg H locs hB ls (lv_sub hl [2, 3, 4, 5, 6, 7] rfl)
  · refine lv_aload_n hx hb dL_law_1385 rfl (lv_at hl 4 rfl) ?_
    refine lv_iconst hx hb dL_law_1386 rfl ?_
    refine s_lald E hU hB.1 (slt hsh1 hn1 170 rfl) dL_law_1387 ?_
    refine lv_iload hx hb dL_law_1388 (lv_at hl 0 rfl) ?_
    refine lv_i2l hx hb dL_law_1390 rfl ?_
    refine s_lcmp0 E (h4 heq) dL_law_1391 ?_
    refine lv_if_eq (tgt := 1397) hx hb dL_law_1392 rfl (fun _ => ?_) (fun hne => absurd rfl hne)
    refine lv_goto hx hb dL_law_1397 rfl ?_
    exact kk ad1 hg H locs hB ls (lv_sub hl [2, 3, 4, 5, 6, 7] rfl)
set_option maxRecDepth 100000 in
set_option maxHeartbeats 4000000 in
theorem aL_17 (K : Nat) (C : sLC p R l s m c cells slots args A D G b L xs i) (hsh : sSh r) (hn : 172 ≤ n) (hl : lv_has ls 9 (sLl b ad i)) (hB : sB D G A s.heap ad r v n x H locs) {q0 : (Int32 × (Int64 × UInt64)) × sR × sV × Nat} (h1 : fL_statistic (xs (i + 1)) r v n x = some q0) (hsh1 : sSh q0.2.1) {z : Int32 × sV} (h2 : fX7_statistic (xs (i + 1)) q0.2.2.1 = some z) (h3 : fX7_thrown z.2 = some q0.1.1) (h4 : q0.1.1 = 0 → q0.1.2.1 = z.1.toInt64) (hcs : cells + (q0.2.2.2 + 1) ≤ R.cells ∧ slots + (sz (n + q0.2.2.2) - sz n + 6) ≤ R.slots)
    (kk : ∀ ad1 : Nat → Nat, sGo r n ad q0.2.1 (n + q0.2.2.2) ad1 → ∀ (H : Heap) (locs : List Loc), sB D G A s.heap ad1 q0.2.1 z.2 (n + q0.2.2.2) q0.1.2 H locs → ∀ ls : Array Slot, lv_has ls 9 (sLl b ad1 i) → W p l e R s m args below meth c H locs (cells + (q0.2.2.2 + 1)) (slots + (sz (n + q0.2.2.2) - sz n + 6)) Q (F0 m 2027 ls [])) : W p l e R s m args below meth c H locs cells slots Q (F0 m 1400 ls []) := by
  obtain ⟨E, hU, hNc, hZ, hA0, hst, hX, hbl, hbA, hL, hi, hR⟩ := C
  have hts := E.2.2.2.2
  have hx : p.tables.exec = Jvm.exec := E.1
  have hb := E.2.1
  have hl : lv_has ls 9 [(5, .int (Int32.ofNat i)), (4, .ref (ad 171)), (3, .ref (ad 170)), (2, .ref (ad 157)), (1, .ref (ad 0)), (0, .ref b)] := hl
  refine lv_aload_n hx hb dL_law_1400 rfl (lv_at hl 4 rfl) ?_
  refine s_arg E hX hbl hbA hB.2.2 hl (k0 := 5) (k5 := 0) (kk := 1) rfl rfl rfl (by omega) hL dL_law_1401 dL_law_1402 dL_law_1404 dL_law_1405 dL_law_1406 ?_
  refine lv_aload_n hx hb dL_law_1407 rfl (lv_at hl 2 rfl) ?_
  refine sl_W hB hA0 (rS_L (As := [.ref (ad 0), .int (xs (i + 1)), .ref (ad 170)]) (rest := []) E hU hNc hZ hA0 hB (mL_statistic l hst D G ad r _ n x hsh hn (xs (i + 1)) _ _ h1) (cwGH 3 okL_statistic wmL_178 hts rfl rfl (sl_fr hR)) rfl hl.1 (Nat.le_of_ble_eq_true rfl) dL_law_1408 (sl_room hcs) rfl) (fun ad1 hg H locs hB => ?_)
  refine lv_istore hx hb dL_law_1411 hl (Nat.le_of_ble_eq_true rfl) rfl (fun ls hl => ?_)
  rw [← (hg.2 0 (slt hsh hn 0 rfl)).2, ← (hg.2 157 (slt hsh hn 157 rfl)).2, ← (hg.2 170 (slt hsh hn 170 rfl)).2, ← (hg.2 171 (slt hsh hn 171 rfl)).2] at hl
  have hn1 : 172 ≤ n + q0.2.2.2 := by omega
  refine lv_aload_n hx hb dL_law_1413 rfl (lv_at hl 4 rfl) ?_
  refine s_arg E hX hbl hbA hB.2.2 hl (k0 := 6) (k5 := 1) (kk := 1) rfl rfl rfl (by omega) hL dL_law_1414 dL_law_1415 dL_law_1417 dL_law_1418 dL_law_1419 ?_
  refine sc_I hB hA0 (o := fX7_statistic (xs (i + 1)) q0.2.2.1) (f := fun z => some z) (res := z) (by rw [h2]; rfl) (fun q9 h9 => rV_W (As := [.int (xs (i + 1))]) (rest := []) E hU hB sc9 (slt hsh1 hn1 157 rfl) rfl ((mX7_statistic l D G ad1 q0.2.1 _ _ q0.1.2 hsh1 hn1 (xs (i + 1))) _ _ h9) (cwGV 1 okX7_statistic wmL_180 hts rfl rfl (sl_fx hR (by decide))) rfl hl.1 (Nat.le_of_ble_eq_true rfl) dL_law_1420 ⟨hcs.1, hcs.2⟩ rfl) (fun y1 v1 hz H locs hB => ?_)
  obtain rfl := Option.some.inj hz
  refine lv_istore hx hb dL_law_1423 hl (Nat.le_of_ble_eq_true rfl) rfl (fun ls hl => ?_)
  refine lv_aload_n hx hb dL_law_1425 rfl (lv_at hl 5 rfl) ?_
  refine sc_R (o := fX7_thrown v1) (f := fun t => some t) (res := q0.1.1) (by rw [h3]; rfl) (rV_R (As := []) (rest := []) E hU hB.1 sc9 (slt hsh1 hn1 157 rfl) rfl (mX7_thrown l D G ad1 q0.2.1 _ _ q0.1.2 hsh1 hn1) (cwGV 0 okX7_thrown wmL_123 hts rfl rfl (sl_fx hR (by decide))) rfl hl.1 (Nat.le_of_ble_eq_true rfl) dL_law_1426 ⟨hcs.1, hcs.2⟩ rfl) (fun t9 ht => ?_)
  obtain rfl := Option.some.inj ht
  refine lv_iload hx hb dL_law_1429 (lv_at hl 1 rfl) ?_
  refine lv_icmp_eq (tgt := 1436) hx hb dL_law_1431 rfl (fun _ => ?_) (fun hne => absurd rfl hne)
  refine lv_iload hx hb dL_law_1436 (lv_at hl 1 rfl) ?_
  refine lv_if_ne (tgt := 1453) hx hb dL_law_1438 rfl (fun _ => ?_) (fun heq => ?_)
  · refine lv_goto hx hb dL_law_1453 rfl ?_
    exact kk ad1 hg H locs hB ls (lv_sub hl [2, 3, 4, 5, 6, 7] rfl)
  · refine lv_aload_n hx hb dL_law_1441 rfl (lv_at hl 4 rfl) ?_
    refine lv_iconst hx hb dL_law_1442 rfl ?_
    refine s_lald E hU hB.1 (slt hsh1 hn1 170 rfl) dL_law_1443 ?_
    refine lv_iload hx hb dL_law_1444 (lv_at hl 0 rfl) ?_
    refine lv_i2l hx hb dL_law_1446 rfl ?_
    refine s_lcmp0 E (h4 heq) dL_law_1447 ?_
    refine lv_if_eq (tgt := 1453) hx hb dL_law_1448 rfl (fun _ => ?_) (fun hne => absurd rfl hne)
    refine lv_goto hx hb dL_law_1453 rfl ?_
    exact kk ad1 hg H locs hB ls (lv_sub hl [2, 3, 4, 5, 6, 7] rfl)
set_option maxRecDepth 100000 in
set_option maxHeartbeats 4000000 in
theorem aL_18 (K : Nat) (C : sLC p R l s m c cells slots args A D G b L xs i) (hsh : sSh r) (hn : 172 ≤ n) (hl : lv_has ls 9 (sLl b ad i)) (hB : sB D G A s.heap ad r v n x H locs) {q0 : (Int32 × (Int64 × UInt64)) × sR × sV × Nat} (h1 : fL_forecast K (xs (i + 1)) r v n x = some q0) (hsh1 : sSh q0.2.1) {z : Int32 × sV} (h2 : fX7_forecast K (xs (i + 1)) q0.2.2.1 = some z) (h3 : fX7_thrown z.2 = some q0.1.1) (h4 : q0.1.1 = 0 → q0.1.2.1 = z.1.toInt64) (hcs : cells + (q0.2.2.2 + 1) ≤ R.cells ∧ slots + (sz (n + q0.2.2.2) - sz n + 6) ≤ R.slots)
    (kk : ∀ ad1 : Nat → Nat, sGo r n ad q0.2.1 (n + q0.2.2.2) ad1 → ∀ (H : Heap) (locs : List Loc), sB D G A s.heap ad1 q0.2.1 z.2 (n + q0.2.2.2) q0.1.2 H locs → ∀ ls : Array Slot, lv_has ls 9 (sLl b ad1 i) → W p l e R s m args below meth c H locs (cells + (q0.2.2.2 + 1)) (slots + (sz (n + q0.2.2.2) - sz n + 6)) Q (F0 m 2027 ls [])) : W p l e R s m args below meth c H locs cells slots Q (F0 m 1456 ls []) := by
  obtain ⟨E, hU, hNc, hZ, hA0, hst, hX, hbl, hbA, hL, hi, hR⟩ := C
  have hts := E.2.2.2.2
  have hx : p.tables.exec = Jvm.exec := E.1
  have hb := E.2.1
  have hl : lv_has ls 9 [(5, .int (Int32.ofNat i)), (4, .ref (ad 171)), (3, .ref (ad 170)), (2, .ref (ad 157)), (1, .ref (ad 0)), (0, .ref b)] := hl
  refine lv_aload_n hx hb dL_law_1456 rfl (lv_at hl 4 rfl) ?_
  refine s_arg E hX hbl hbA hB.2.2 hl (k0 := 5) (k5 := 0) (kk := 1) rfl rfl rfl (by omega) hL dL_law_1457 dL_law_1458 dL_law_1460 dL_law_1461 dL_law_1462 ?_
  refine lv_aload_n hx hb dL_law_1463 rfl (lv_at hl 2 rfl) ?_
  refine sl_W hB hA0 (rS_L (As := [.ref (ad 0), .int (xs (i + 1)), .ref (ad 170)]) (rest := []) E hU hNc hZ hA0 hB (mL_forecast l K hst D G ad r _ n x hsh hn (xs (i + 1)) _ _ h1) (cwGH 3 okL_forecast wmL_181 hts rfl rfl (sl_fr hR)) rfl hl.1 (Nat.le_of_ble_eq_true rfl) dL_law_1464 (sl_room hcs) rfl) (fun ad1 hg H locs hB => ?_)
  refine lv_istore hx hb dL_law_1467 hl (Nat.le_of_ble_eq_true rfl) rfl (fun ls hl => ?_)
  rw [← (hg.2 0 (slt hsh hn 0 rfl)).2, ← (hg.2 157 (slt hsh hn 157 rfl)).2, ← (hg.2 170 (slt hsh hn 170 rfl)).2, ← (hg.2 171 (slt hsh hn 171 rfl)).2] at hl
  have hn1 : 172 ≤ n + q0.2.2.2 := by omega
  refine lv_aload_n hx hb dL_law_1469 rfl (lv_at hl 4 rfl) ?_
  refine s_arg E hX hbl hbA hB.2.2 hl (k0 := 6) (k5 := 1) (kk := 1) rfl rfl rfl (by omega) hL dL_law_1470 dL_law_1471 dL_law_1473 dL_law_1474 dL_law_1475 ?_
  refine sc_I hB hA0 (o := fX7_forecast K (xs (i + 1)) q0.2.2.1) (f := fun z => some z) (res := z) (by rw [h2]; rfl) (fun q9 h9 => rV_W (As := [.int (xs (i + 1))]) (rest := []) E hU hB sc9 (slt hsh1 hn1 157 rfl) rfl ((mX7_forecast l K D G ad1 q0.2.1 _ _ q0.1.2 hsh1 hn1 (xs (i + 1))) _ _ h9) (cwGV 1 okX7_forecast wmL_183 hts rfl rfl (sl_fx hR (by decide))) rfl hl.1 (Nat.le_of_ble_eq_true rfl) dL_law_1476 ⟨hcs.1, hcs.2⟩ rfl) (fun y1 v1 hz H locs hB => ?_)
  obtain rfl := Option.some.inj hz
  refine lv_istore hx hb dL_law_1479 hl (Nat.le_of_ble_eq_true rfl) rfl (fun ls hl => ?_)
  refine lv_aload_n hx hb dL_law_1481 rfl (lv_at hl 5 rfl) ?_
  refine sc_R (o := fX7_thrown v1) (f := fun t => some t) (res := q0.1.1) (by rw [h3]; rfl) (rV_R (As := []) (rest := []) E hU hB.1 sc9 (slt hsh1 hn1 157 rfl) rfl (mX7_thrown l D G ad1 q0.2.1 _ _ q0.1.2 hsh1 hn1) (cwGV 0 okX7_thrown wmL_123 hts rfl rfl (sl_fx hR (by decide))) rfl hl.1 (Nat.le_of_ble_eq_true rfl) dL_law_1482 ⟨hcs.1, hcs.2⟩ rfl) (fun t9 ht => ?_)
  obtain rfl := Option.some.inj ht
  refine lv_iload hx hb dL_law_1485 (lv_at hl 1 rfl) ?_
  refine lv_icmp_eq (tgt := 1492) hx hb dL_law_1487 rfl (fun _ => ?_) (fun hne => absurd rfl hne)
  refine lv_iload hx hb dL_law_1492 (lv_at hl 1 rfl) ?_
  refine lv_if_ne (tgt := 1509) hx hb dL_law_1494 rfl (fun _ => ?_) (fun heq => ?_)
  · refine lv_goto hx hb dL_law_1509 rfl ?_
    exact kk ad1 hg H locs hB ls (lv_sub hl [2, 3, 4, 5, 6, 7] rfl)
  · refine lv_aload_n hx hb dL_law_1497 rfl (lv_at hl 4 rfl) ?_
    refine lv_iconst hx hb dL_law_1498 rfl ?_
    refine s_lald E hU hB.1 (slt hsh1 hn1 170 rfl) dL_law_1499 ?_
    refine lv_iload hx hb dL_law_1500 (lv_at hl 0 rfl) ?_
    refine lv_i2l hx hb dL_law_1502 rfl ?_
    refine s_lcmp0 E (h4 heq) dL_law_1503 ?_
    refine lv_if_eq (tgt := 1509) hx hb dL_law_1504 rfl (fun _ => ?_) (fun hne => absurd rfl hne)
    refine lv_goto hx hb dL_law_1509 rfl ?_
    exact kk ad1 hg H locs hB ls (lv_sub hl [2, 3, 4, 5, 6, 7] rfl)
set_option maxRecDepth 100000 in
set_option maxHeartbeats 4000000 in
theorem aL_19 (K : Nat) (C : sLC p R l s m c cells slots args A D G b L xs i) (hsh : sSh r) (hn : 172 ≤ n) (hl : lv_has ls 9 (sLl b ad i)) (hB : sB D G A s.heap ad r v n x H locs) {q0 : (Int32 × (Int64 × UInt64)) × sR × sV × Nat} (h1 : fL_bottleneck K r v n x = some q0) (hsh1 : sSh q0.2.1) {z : Int32 × sV} (h2 : fX7_bottleneck K q0.2.2.1 = some z) (h3 : fX7_thrown z.2 = some q0.1.1) (h4 : q0.1.1 = 0 → q0.1.2.1 = z.1.toInt64) (hcs : cells + (q0.2.2.2 + 1) ≤ R.cells ∧ slots + (sz (n + q0.2.2.2) - sz n + 6) ≤ R.slots)
    (kk : ∀ ad1 : Nat → Nat, sGo r n ad q0.2.1 (n + q0.2.2.2) ad1 → ∀ (H : Heap) (locs : List Loc), sB D G A s.heap ad1 q0.2.1 z.2 (n + q0.2.2.2) q0.1.2 H locs → ∀ ls : Array Slot, lv_has ls 9 (sLl b ad1 i) → W p l e R s m args below meth c H locs (cells + (q0.2.2.2 + 1)) (slots + (sz (n + q0.2.2.2) - sz n + 6)) Q (F0 m 2027 ls [])) : W p l e R s m args below meth c H locs cells slots Q (F0 m 1512 ls []) := by
  obtain ⟨E, hU, hNc, hZ, hA0, hst, hX, hbl, hbA, hL, hi, hR⟩ := C
  have hts := E.2.2.2.2
  have hx : p.tables.exec = Jvm.exec := E.1
  have hb := E.2.1
  have hl : lv_has ls 9 [(5, .int (Int32.ofNat i)), (4, .ref (ad 171)), (3, .ref (ad 170)), (2, .ref (ad 157)), (1, .ref (ad 0)), (0, .ref b)] := hl
  refine lv_aload_n hx hb dL_law_1512 rfl (lv_at hl 4 rfl) ?_
  refine lv_aload_n hx hb dL_law_1513 rfl (lv_at hl 2 rfl) ?_
  refine sl_W hB hA0 (rS_L (As := [.ref (ad 0), .ref (ad 170)]) (rest := []) E hU hNc hZ hA0 hB (mL_bottleneck l K hst D G ad r _ n x hsh hn _ _ h1) (cwGH 2 okL_bottleneck wmL_184 hts rfl rfl (sl_fr hR)) rfl hl.1 (Nat.le_of_ble_eq_true rfl) dL_law_1514 (sl_room hcs) rfl) (fun ad1 hg H locs hB => ?_)
  refine lv_istore hx hb dL_law_1517 hl (Nat.le_of_ble_eq_true rfl) rfl (fun ls hl => ?_)
  rw [← (hg.2 0 (slt hsh hn 0 rfl)).2, ← (hg.2 157 (slt hsh hn 157 rfl)).2, ← (hg.2 170 (slt hsh hn 170 rfl)).2, ← (hg.2 171 (slt hsh hn 171 rfl)).2] at hl
  have hn1 : 172 ≤ n + q0.2.2.2 := by omega
  refine lv_aload_n hx hb dL_law_1519 rfl (lv_at hl 4 rfl) ?_
  refine sc_I hB hA0 (o := fX7_bottleneck K q0.2.2.1) (f := fun z => some z) (res := z) (by rw [h2]; rfl) (fun q9 h9 => rV_W (As := []) (rest := []) E hU hB sc9 (slt hsh1 hn1 157 rfl) rfl ((mX7_bottleneck l K D G ad1 q0.2.1 _ _ q0.1.2 hsh1 hn1) _ _ h9) (cwGV 0 okX7_bottleneck wmL_187 hts rfl rfl (sl_fx hR (by decide))) rfl hl.1 (Nat.le_of_ble_eq_true rfl) dL_law_1520 ⟨hcs.1, hcs.2⟩ rfl) (fun y1 v1 hz H locs hB => ?_)
  obtain rfl := Option.some.inj hz
  refine lv_istore hx hb dL_law_1523 hl (Nat.le_of_ble_eq_true rfl) rfl (fun ls hl => ?_)
  refine lv_aload_n hx hb dL_law_1525 rfl (lv_at hl 5 rfl) ?_
  refine sc_R (o := fX7_thrown v1) (f := fun t => some t) (res := q0.1.1) (by rw [h3]; rfl) (rV_R (As := []) (rest := []) E hU hB.1 sc9 (slt hsh1 hn1 157 rfl) rfl (mX7_thrown l D G ad1 q0.2.1 _ _ q0.1.2 hsh1 hn1) (cwGV 0 okX7_thrown wmL_123 hts rfl rfl (sl_fx hR (by decide))) rfl hl.1 (Nat.le_of_ble_eq_true rfl) dL_law_1526 ⟨hcs.1, hcs.2⟩ rfl) (fun t9 ht => ?_)
  obtain rfl := Option.some.inj ht
  refine lv_iload hx hb dL_law_1529 (lv_at hl 1 rfl) ?_
  refine lv_icmp_eq (tgt := 1536) hx hb dL_law_1531 rfl (fun _ => ?_) (fun hne => absurd rfl hne)
  refine lv_iload hx hb dL_law_1536 (lv_at hl 1 rfl) ?_
  refine lv_if_ne (tgt := 1553) hx hb dL_law_1538 rfl (fun _ => ?_) (fun heq => ?_)
  · refine lv_goto hx hb dL_law_1553 rfl ?_
    exact kk ad1 hg H locs hB ls (lv_sub hl [2, 3, 4, 5, 6, 7] rfl)
  · refine lv_aload_n hx hb dL_law_1541 rfl (lv_at hl 4 rfl) ?_
    refine lv_iconst hx hb dL_law_1542 rfl ?_
    refine s_lald E hU hB.1 (slt hsh1 hn1 170 rfl) dL_law_1543 ?_
    refine lv_iload hx hb dL_law_1544 (lv_at hl 0 rfl) ?_
    refine lv_i2l hx hb dL_law_1546 rfl ?_
    refine s_lcmp0 E (h4 heq) dL_law_1547 ?_
    refine lv_if_eq (tgt := 1553) hx hb dL_law_1548 rfl (fun _ => ?_) (fun hne => absurd rfl hne)
    refine lv_goto hx hb dL_law_1553 rfl ?_
    exact kk ad1 hg H locs hB ls (lv_sub hl [2, 3, 4, 5, 6, 7] rfl)
set_option maxRecDepth 100000 in
set_option maxHeartbeats 4000000 in
theorem aL_21 (K : Nat) (C : sLC p R l s m c cells slots args A D G b L xs i) (hsh : sSh r) (hn : 172 ≤ n) (hl : lv_has ls 9 (sLl b ad i)) (hB : sB D G A s.heap ad r v n x H locs) {q0 : (Int32 × (Int64 × UInt64)) × sR × sV × Nat} (h1 : fL_jam K (xs (i + 1)) (xs (i + 2)) r v n x = some q0) (hsh1 : sSh q0.2.1) {z : Int32 × sV} (h2 : fX7_jam K (xs (i + 1)) (xs (i + 2)) q0.2.2.1 = some z) (h3 : fX7_thrown z.2 = some q0.1.1) (h4 : q0.1.1 = 0 → q0.1.2.1 = z.1.toInt64) (hcs : cells + (q0.2.2.2 + 1) ≤ R.cells ∧ slots + (sz (n + q0.2.2.2) - sz n + 6) ≤ R.slots)
    (kk : ∀ ad1 : Nat → Nat, sGo r n ad q0.2.1 (n + q0.2.2.2) ad1 → ∀ (H : Heap) (locs : List Loc), sB D G A s.heap ad1 q0.2.1 z.2 (n + q0.2.2.2) q0.1.2 H locs → ∀ ls : Array Slot, lv_has ls 9 (sLl b ad1 i) → W p l e R s m args below meth c H locs (cells + (q0.2.2.2 + 1)) (slots + (sz (n + q0.2.2.2) - sz n + 6)) Q (F0 m 2027 ls [])) : W p l e R s m args below meth c H locs cells slots Q (F0 m 1569 ls []) := by
  obtain ⟨E, hU, hNc, hZ, hA0, hst, hX, hbl, hbA, hL, hi, hR⟩ := C
  have hts := E.2.2.2.2
  have hx : p.tables.exec = Jvm.exec := E.1
  have hb := E.2.1
  have hl : lv_has ls 9 [(5, .int (Int32.ofNat i)), (4, .ref (ad 171)), (3, .ref (ad 170)), (2, .ref (ad 157)), (1, .ref (ad 0)), (0, .ref b)] := hl
  refine lv_aload_n hx hb dL_law_1569 rfl (lv_at hl 4 rfl) ?_
  refine s_arg E hX hbl hbA hB.2.2 hl (k0 := 5) (k5 := 0) (kk := 1) rfl rfl rfl (by omega) hL dL_law_1570 dL_law_1571 dL_law_1573 dL_law_1574 dL_law_1575 ?_
  refine s_arg E hX hbl hbA hB.2.2 hl (k0 := 5) (k5 := 0) (kk := 2) rfl rfl rfl (by omega) hL dL_law_1576 dL_law_1577 dL_law_1579 dL_law_1580 dL_law_1581 ?_
  refine lv_aload_n hx hb dL_law_1582 rfl (lv_at hl 2 rfl) ?_
  refine sl_W hB hA0 (rS_L (As := [.ref (ad 0), .int (xs (i + 1)), .int (xs (i + 2)), .ref (ad 170)]) (rest := []) E hU hNc hZ hA0 hB (mL_jam l K hst D G ad r _ n x hsh hn (xs (i + 1)) (xs (i + 2)) _ _ h1) (cwGH 4 okL_jam wmL_192 hts rfl rfl (sl_fr hR)) rfl hl.1 (Nat.le_of_ble_eq_true rfl) dL_law_1583 (sl_room hcs) rfl) (fun ad1 hg H locs hB => ?_)
  refine lv_istore hx hb dL_law_1586 hl (Nat.le_of_ble_eq_true rfl) rfl (fun ls hl => ?_)
  rw [← (hg.2 0 (slt hsh hn 0 rfl)).2, ← (hg.2 157 (slt hsh hn 157 rfl)).2, ← (hg.2 170 (slt hsh hn 170 rfl)).2, ← (hg.2 171 (slt hsh hn 171 rfl)).2] at hl
  have hn1 : 172 ≤ n + q0.2.2.2 := by omega
  refine lv_aload_n hx hb dL_law_1588 rfl (lv_at hl 4 rfl) ?_
  refine s_arg E hX hbl hbA hB.2.2 hl (k0 := 6) (k5 := 1) (kk := 1) rfl rfl rfl (by omega) hL dL_law_1589 dL_law_1590 dL_law_1592 dL_law_1593 dL_law_1594 ?_
  refine s_arg E hX hbl hbA hB.2.2 hl (k0 := 6) (k5 := 1) (kk := 2) rfl rfl rfl (by omega) hL dL_law_1595 dL_law_1596 dL_law_1598 dL_law_1599 dL_law_1600 ?_
  refine sc_I hB hA0 (o := fX7_jam K (xs (i + 1)) (xs (i + 2)) q0.2.2.1) (f := fun z => some z) (res := z) (by rw [h2]; rfl) (fun q9 h9 => rV_W (As := [.int (xs (i + 1)), .int (xs (i + 2))]) (rest := []) E hU hB sc9 (slt hsh1 hn1 157 rfl) rfl ((mX7_jam l K D G ad1 q0.2.1 _ _ q0.1.2 hsh1 hn1 (xs (i + 1)) (xs (i + 2))) _ _ h9) (cwGV 2 okX7_jam wmL_194 hts rfl rfl (sl_fx hR (by decide))) rfl hl.1 (Nat.le_of_ble_eq_true rfl) dL_law_1601 ⟨hcs.1, hcs.2⟩ rfl) (fun y1 v1 hz H locs hB => ?_)
  obtain rfl := Option.some.inj hz
  refine lv_istore hx hb dL_law_1604 hl (Nat.le_of_ble_eq_true rfl) rfl (fun ls hl => ?_)
  refine lv_aload_n hx hb dL_law_1606 rfl (lv_at hl 5 rfl) ?_
  refine sc_R (o := fX7_thrown v1) (f := fun t => some t) (res := q0.1.1) (by rw [h3]; rfl) (rV_R (As := []) (rest := []) E hU hB.1 sc9 (slt hsh1 hn1 157 rfl) rfl (mX7_thrown l D G ad1 q0.2.1 _ _ q0.1.2 hsh1 hn1) (cwGV 0 okX7_thrown wmL_123 hts rfl rfl (sl_fx hR (by decide))) rfl hl.1 (Nat.le_of_ble_eq_true rfl) dL_law_1607 ⟨hcs.1, hcs.2⟩ rfl) (fun t9 ht => ?_)
  obtain rfl := Option.some.inj ht
  refine lv_iload hx hb dL_law_1610 (lv_at hl 1 rfl) ?_
  refine lv_icmp_eq (tgt := 1617) hx hb dL_law_1612 rfl (fun _ => ?_) (fun hne => absurd rfl hne)
  refine lv_iload hx hb dL_law_1617 (lv_at hl 1 rfl) ?_
  refine lv_if_ne (tgt := 1634) hx hb dL_law_1619 rfl (fun _ => ?_) (fun heq => ?_)
  · refine lv_goto hx hb dL_law_1634 rfl ?_
    exact kk ad1 hg H locs hB ls (lv_sub hl [2, 3, 4, 5, 6, 7] rfl)
  · refine lv_aload_n hx hb dL_law_1622 rfl (lv_at hl 4 rfl) ?_
    refine lv_iconst hx hb dL_law_1623 rfl ?_
    refine s_lald E hU hB.1 (slt hsh1 hn1 170 rfl) dL_law_1624 ?_
    refine lv_iload hx hb dL_law_1625 (lv_at hl 0 rfl) ?_
    refine lv_i2l hx hb dL_law_1627 rfl ?_
    refine s_lcmp0 E (h4 heq) dL_law_1628 ?_
    refine lv_if_eq (tgt := 1634) hx hb dL_law_1629 rfl (fun _ => ?_) (fun hne => absurd rfl hne)
    refine lv_goto hx hb dL_law_1634 rfl ?_
    exact kk ad1 hg H locs hB ls (lv_sub hl [2, 3, 4, 5, 6, 7] rfl)
set_option maxRecDepth 100000 in
set_option maxHeartbeats 4000000 in
theorem aL_24 (K : Nat) (C : sLC p R l s m c cells slots args A D G b L xs i) (hsh : sSh r) (hn : 172 ≤ n) (hl : lv_has ls 9 (sLl b ad i)) (hB : sB D G A s.heap ad r v n x H locs) {q0 : (Int32 × (Int64 × UInt64)) × sR × sV × Nat} (h1 : fL_feed (((xs (i + 1)).toUInt32 % 65536).toInt32) r v n x = some q0) (hsh1 : sSh q0.2.1) {z : Int32 × sV} (h2 : fX7_feed (((xs (i + 1)).toUInt32 % 65536).toInt32) q0.2.2.1 = some z) (h3 : fX7_thrown z.2 = some q0.1.1) (h4 : q0.1.1 = 0 → q0.1.2.1 = z.1.toInt64) (hcs : cells + (q0.2.2.2 + 1) ≤ R.cells ∧ slots + (sz (n + q0.2.2.2) - sz n + 6) ≤ R.slots)
    (kk : ∀ ad1 : Nat → Nat, sGo r n ad q0.2.1 (n + q0.2.2.2) ad1 → ∀ (H : Heap) (locs : List Loc), sB D G A s.heap ad1 q0.2.1 z.2 (n + q0.2.2.2) q0.1.2 H locs → ∀ ls : Array Slot, lv_has ls 9 (sLl b ad1 i) → W p l e R s m args below meth c H locs (cells + (q0.2.2.2 + 1)) (slots + (sz (n + q0.2.2.2) - sz n + 6)) Q (F0 m 2027 ls [])) : W p l e R s m args below meth c H locs cells slots Q (F0 m 1768 ls []) := by
  obtain ⟨E, hU, hNc, hZ, hA0, hst, hX, hbl, hbA, hL, hi, hR⟩ := C
  have hts := E.2.2.2.2
  have hx : p.tables.exec = Jvm.exec := E.1
  have hb := E.2.1
  have hl : lv_has ls 9 [(5, .int (Int32.ofNat i)), (4, .ref (ad 171)), (3, .ref (ad 170)), (2, .ref (ad 157)), (1, .ref (ad 0)), (0, .ref b)] := hl
  refine lv_aload_n hx hb dL_law_1768 rfl (lv_at hl 4 rfl) ?_
  refine s_arg E hX hbl hbA hB.2.2 hl (k0 := 5) (k5 := 0) (kk := 1) rfl rfl rfl (by omega) hL dL_law_1769 dL_law_1770 dL_law_1772 dL_law_1773 dL_law_1774 ?_
  refine lv_i2c hx hb dL_law_1775 rfl ?_
  refine lv_aload_n hx hb dL_law_1776 rfl (lv_at hl 2 rfl) ?_
  refine sl_W hB hA0 (rS_L (As := [.ref (ad 0), .int (((xs (i + 1)).toUInt32 % 65536).toInt32), .ref (ad 170)]) (rest := []) E hU hNc hZ hA0 hB (mL_feed l hst D G ad r _ n x hsh hn (((xs (i + 1)).toUInt32 % 65536).toInt32) _ _ h1) (cwGH 3 okL_feed wmL_202 hts rfl rfl (sl_fr hR)) rfl hl.1 (Nat.le_of_ble_eq_true rfl) dL_law_1777 (sl_room hcs) rfl) (fun ad1 hg H locs hB => ?_)
  refine lv_istore hx hb dL_law_1780 hl (Nat.le_of_ble_eq_true rfl) rfl (fun ls hl => ?_)
  rw [← (hg.2 0 (slt hsh hn 0 rfl)).2, ← (hg.2 157 (slt hsh hn 157 rfl)).2, ← (hg.2 170 (slt hsh hn 170 rfl)).2, ← (hg.2 171 (slt hsh hn 171 rfl)).2] at hl
  have hn1 : 172 ≤ n + q0.2.2.2 := by omega
  refine lv_aload_n hx hb dL_law_1782 rfl (lv_at hl 4 rfl) ?_
  refine s_arg E hX hbl hbA hB.2.2 hl (k0 := 6) (k5 := 1) (kk := 1) rfl rfl rfl (by omega) hL dL_law_1783 dL_law_1784 dL_law_1786 dL_law_1787 dL_law_1788 ?_
  refine lv_i2c hx hb dL_law_1789 rfl ?_
  refine sc_I hB hA0 (o := fX7_feed (((xs (i + 1)).toUInt32 % 65536).toInt32) q0.2.2.1) (f := fun z => some z) (res := z) (by rw [h2]; rfl) (fun q9 h9 => rV_W (As := [.int (((xs (i + 1)).toUInt32 % 65536).toInt32)]) (rest := []) E hU hB sc9 (slt hsh1 hn1 157 rfl) rfl ((mX7_feed l D G ad1 q0.2.1 _ _ q0.1.2 hsh1 hn1 (((xs (i + 1)).toUInt32 % 65536).toInt32)) _ _ h9) (cwGV 1 okX7_feed wmL_205 hts rfl rfl (sl_fx hR (by decide))) rfl hl.1 (Nat.le_of_ble_eq_true rfl) dL_law_1790 ⟨hcs.1, hcs.2⟩ rfl) (fun y1 v1 hz H locs hB => ?_)
  obtain rfl := Option.some.inj hz
  refine lv_istore hx hb dL_law_1793 hl (Nat.le_of_ble_eq_true rfl) rfl (fun ls hl => ?_)
  refine lv_aload_n hx hb dL_law_1795 rfl (lv_at hl 5 rfl) ?_
  refine sc_R (o := fX7_thrown v1) (f := fun t => some t) (res := q0.1.1) (by rw [h3]; rfl) (rV_R (As := []) (rest := []) E hU hB.1 sc9 (slt hsh1 hn1 157 rfl) rfl (mX7_thrown l D G ad1 q0.2.1 _ _ q0.1.2 hsh1 hn1) (cwGV 0 okX7_thrown wmL_123 hts rfl rfl (sl_fx hR (by decide))) rfl hl.1 (Nat.le_of_ble_eq_true rfl) dL_law_1796 ⟨hcs.1, hcs.2⟩ rfl) (fun t9 ht => ?_)
  obtain rfl := Option.some.inj ht
  refine lv_iload hx hb dL_law_1799 (lv_at hl 1 rfl) ?_
  refine lv_icmp_eq (tgt := 1806) hx hb dL_law_1801 rfl (fun _ => ?_) (fun hne => absurd rfl hne)
  refine lv_iload hx hb dL_law_1806 (lv_at hl 1 rfl) ?_
  refine lv_if_ne (tgt := 1823) hx hb dL_law_1808 rfl (fun _ => ?_) (fun heq => ?_)
  · refine lv_goto hx hb dL_law_1823 rfl ?_
    exact kk ad1 hg H locs hB ls (lv_sub hl [2, 3, 4, 5, 6, 7] rfl)
  · refine lv_aload_n hx hb dL_law_1811 rfl (lv_at hl 4 rfl) ?_
    refine lv_iconst hx hb dL_law_1812 rfl ?_
    refine s_lald E hU hB.1 (slt hsh1 hn1 170 rfl) dL_law_1813 ?_
    refine lv_iload hx hb dL_law_1814 (lv_at hl 0 rfl) ?_
    refine lv_i2l hx hb dL_law_1816 rfl ?_
    refine s_lcmp0 E (h4 heq) dL_law_1817 ?_
    refine lv_if_eq (tgt := 1823) hx hb dL_law_1818 rfl (fun _ => ?_) (fun hne => absurd rfl hne)
    refine lv_goto hx hb dL_law_1823 rfl ?_
    exact kk ad1 hg H locs hB ls (lv_sub hl [2, 3, 4, 5, 6, 7] rfl)
set_option maxRecDepth 100000 in
set_option maxHeartbeats 4000000 in
theorem aL_25 (K : Nat) (C : sLC p R l s m c cells slots args A D G b L xs i) (hsh : sSh r) (hn : 172 ≤ n) (hl : lv_has ls 9 (sLl b ad i)) (hB : sB D G A s.heap ad r v n x H locs) {q0 : (Int32 × (Int64 × UInt64)) × sR × sV × Nat} (h1 : fL_readMap K r v n x = some q0) (hsh1 : sSh q0.2.1) {z : Int32 × sV} (h2 : fX7_readMap K q0.2.2.1 = some z) (h3 : fX7_thrown z.2 = some q0.1.1) (h4 : q0.1.1 = 0 → q0.1.2.1 = z.1.toInt64) (hcs : cells + (q0.2.2.2 + 1) ≤ R.cells ∧ slots + (sz (n + q0.2.2.2) - sz n + 6) ≤ R.slots)
    (kk : ∀ ad1 : Nat → Nat, sGo r n ad q0.2.1 (n + q0.2.2.2) ad1 → ∀ (H : Heap) (locs : List Loc), sB D G A s.heap ad1 q0.2.1 z.2 (n + q0.2.2.2) q0.1.2 H locs → ∀ ls : Array Slot, lv_has ls 9 (sLl b ad1 i) → W p l e R s m args below meth c H locs (cells + (q0.2.2.2 + 1)) (slots + (sz (n + q0.2.2.2) - sz n + 6)) Q (F0 m 2027 ls [])) : W p l e R s m args below meth c H locs cells slots Q (F0 m 1826 ls []) := by
  obtain ⟨E, hU, hNc, hZ, hA0, hst, hX, hbl, hbA, hL, hi, hR⟩ := C
  have hts := E.2.2.2.2
  have hx : p.tables.exec = Jvm.exec := E.1
  have hb := E.2.1
  have hl : lv_has ls 9 [(5, .int (Int32.ofNat i)), (4, .ref (ad 171)), (3, .ref (ad 170)), (2, .ref (ad 157)), (1, .ref (ad 0)), (0, .ref b)] := hl
  refine lv_aload_n hx hb dL_law_1826 rfl (lv_at hl 4 rfl) ?_
  refine lv_aload_n hx hb dL_law_1827 rfl (lv_at hl 2 rfl) ?_
  refine sl_W hB hA0 (rS_L (As := [.ref (ad 0), .ref (ad 170)]) (rest := []) E hU hNc hZ hA0 hB (mL_readMap l K hst D G ad r _ n x hsh hn _ _ h1) (cwGH 2 okL_readMap wmL_206 hts rfl rfl (sl_fr hR)) rfl hl.1 (Nat.le_of_ble_eq_true rfl) dL_law_1828 (sl_room hcs) rfl) (fun ad1 hg H locs hB => ?_)
  refine lv_istore hx hb dL_law_1831 hl (Nat.le_of_ble_eq_true rfl) rfl (fun ls hl => ?_)
  rw [← (hg.2 0 (slt hsh hn 0 rfl)).2, ← (hg.2 157 (slt hsh hn 157 rfl)).2, ← (hg.2 170 (slt hsh hn 170 rfl)).2, ← (hg.2 171 (slt hsh hn 171 rfl)).2] at hl
  have hn1 : 172 ≤ n + q0.2.2.2 := by omega
  refine lv_aload_n hx hb dL_law_1833 rfl (lv_at hl 4 rfl) ?_
  refine sc_I hB hA0 (o := fX7_readMap K q0.2.2.1) (f := fun z => some z) (res := z) (by rw [h2]; rfl) (fun q9 h9 => rV_W (As := []) (rest := []) E hU hB sc9 (slt hsh1 hn1 157 rfl) rfl ((mX7_readMap l K D G ad1 q0.2.1 _ _ q0.1.2 hsh1 hn1) _ _ h9) (cwGV 0 okX7_readMap wmL_208 hts rfl rfl (sl_fx hR (by decide))) rfl hl.1 (Nat.le_of_ble_eq_true rfl) dL_law_1834 ⟨hcs.1, hcs.2⟩ rfl) (fun y1 v1 hz H locs hB => ?_)
  obtain rfl := Option.some.inj hz
  refine lv_istore hx hb dL_law_1837 hl (Nat.le_of_ble_eq_true rfl) rfl (fun ls hl => ?_)
  refine lv_aload_n hx hb dL_law_1839 rfl (lv_at hl 5 rfl) ?_
  refine sc_R (o := fX7_thrown v1) (f := fun t => some t) (res := q0.1.1) (by rw [h3]; rfl) (rV_R (As := []) (rest := []) E hU hB.1 sc9 (slt hsh1 hn1 157 rfl) rfl (mX7_thrown l D G ad1 q0.2.1 _ _ q0.1.2 hsh1 hn1) (cwGV 0 okX7_thrown wmL_123 hts rfl rfl (sl_fx hR (by decide))) rfl hl.1 (Nat.le_of_ble_eq_true rfl) dL_law_1840 ⟨hcs.1, hcs.2⟩ rfl) (fun t9 ht => ?_)
  obtain rfl := Option.some.inj ht
  refine lv_iload hx hb dL_law_1843 (lv_at hl 1 rfl) ?_
  refine lv_icmp_eq (tgt := 1850) hx hb dL_law_1845 rfl (fun _ => ?_) (fun hne => absurd rfl hne)
  refine lv_iload hx hb dL_law_1850 (lv_at hl 1 rfl) ?_
  refine lv_if_ne (tgt := 1867) hx hb dL_law_1852 rfl (fun _ => ?_) (fun heq => ?_)
  · refine lv_goto hx hb dL_law_1867 rfl ?_
    exact kk ad1 hg H locs hB ls (lv_sub hl [2, 3, 4, 5, 6, 7] rfl)
  · refine lv_aload_n hx hb dL_law_1855 rfl (lv_at hl 4 rfl) ?_
    refine lv_iconst hx hb dL_law_1856 rfl ?_
    refine s_lald E hU hB.1 (slt hsh1 hn1 170 rfl) dL_law_1857 ?_
    refine lv_iload hx hb dL_law_1858 (lv_at hl 0 rfl) ?_
    refine lv_i2l hx hb dL_law_1860 rfl ?_
    refine s_lcmp0 E (h4 heq) dL_law_1861 ?_
    refine lv_if_eq (tgt := 1867) hx hb dL_law_1862 rfl (fun _ => ?_) (fun hne => absurd rfl hne)
    refine lv_goto hx hb dL_law_1867 rfl ?_
    exact kk ad1 hg H locs hB ls (lv_sub hl [2, 3, 4, 5, 6, 7] rfl)
set_option maxRecDepth 100000 in
set_option maxHeartbeats 4000000 in
theorem aL_26 (K : Nat) (C : sLC p R l s m c cells slots args A D G b L xs i) (hsh : sSh r) (hn : 172 ≤ n) (hl : lv_has ls 9 (sLl b ad i)) (hB : sB D G A s.heap ad r v n x H locs) {q0 : (Int32 × (Int64 × UInt64)) × sR × sV × Nat} (h1 : fL_map (xs (i + 1)) r v n x = some q0) (hsh1 : sSh q0.2.1) {z : Int32 × sV} (h2 : fX7_map (xs (i + 1)) q0.2.2.1 = some z) (h3 : fX7_thrown z.2 = some q0.1.1) (h4 : q0.1.1 = 0 → q0.1.2.1 = z.1.toInt64) (hcs : cells + (q0.2.2.2 + 1) ≤ R.cells ∧ slots + (sz (n + q0.2.2.2) - sz n + 6) ≤ R.slots)
    (kk : ∀ ad1 : Nat → Nat, sGo r n ad q0.2.1 (n + q0.2.2.2) ad1 → ∀ (H : Heap) (locs : List Loc), sB D G A s.heap ad1 q0.2.1 z.2 (n + q0.2.2.2) q0.1.2 H locs → ∀ ls : Array Slot, lv_has ls 9 (sLl b ad1 i) → W p l e R s m args below meth c H locs (cells + (q0.2.2.2 + 1)) (slots + (sz (n + q0.2.2.2) - sz n + 6)) Q (F0 m 2027 ls [])) : W p l e R s m args below meth c H locs cells slots Q (F0 m 1870 ls []) := by
  obtain ⟨E, hU, hNc, hZ, hA0, hst, hX, hbl, hbA, hL, hi, hR⟩ := C
  have hts := E.2.2.2.2
  have hx : p.tables.exec = Jvm.exec := E.1
  have hb := E.2.1
  have hl : lv_has ls 9 [(5, .int (Int32.ofNat i)), (4, .ref (ad 171)), (3, .ref (ad 170)), (2, .ref (ad 157)), (1, .ref (ad 0)), (0, .ref b)] := hl
  refine lv_aload_n hx hb dL_law_1870 rfl (lv_at hl 4 rfl) ?_
  refine s_arg E hX hbl hbA hB.2.2 hl (k0 := 5) (k5 := 0) (kk := 1) rfl rfl rfl (by omega) hL dL_law_1871 dL_law_1872 dL_law_1874 dL_law_1875 dL_law_1876 ?_
  refine lv_aload_n hx hb dL_law_1877 rfl (lv_at hl 2 rfl) ?_
  refine sl_W hB hA0 (rS_L (As := [.ref (ad 0), .int (xs (i + 1)), .ref (ad 170)]) (rest := []) E hU hNc hZ hA0 hB (mL_map l hst D G ad r _ n x hsh hn (xs (i + 1)) _ _ h1) (cwGH 3 okL_map wmL_209 hts rfl rfl (sl_fr hR)) rfl hl.1 (Nat.le_of_ble_eq_true rfl) dL_law_1878 (sl_room hcs) rfl) (fun ad1 hg H locs hB => ?_)
  refine lv_istore hx hb dL_law_1881 hl (Nat.le_of_ble_eq_true rfl) rfl (fun ls hl => ?_)
  rw [← (hg.2 0 (slt hsh hn 0 rfl)).2, ← (hg.2 157 (slt hsh hn 157 rfl)).2, ← (hg.2 170 (slt hsh hn 170 rfl)).2, ← (hg.2 171 (slt hsh hn 171 rfl)).2] at hl
  have hn1 : 172 ≤ n + q0.2.2.2 := by omega
  refine lv_aload_n hx hb dL_law_1883 rfl (lv_at hl 4 rfl) ?_
  refine s_arg E hX hbl hbA hB.2.2 hl (k0 := 6) (k5 := 1) (kk := 1) rfl rfl rfl (by omega) hL dL_law_1884 dL_law_1885 dL_law_1887 dL_law_1888 dL_law_1889 ?_
  refine sc_I hB hA0 (o := fX7_map (xs (i + 1)) q0.2.2.1) (f := fun z => some z) (res := z) (by rw [h2]; rfl) (fun q9 h9 => rV_W (As := [.int (xs (i + 1))]) (rest := []) E hU hB sc9 (slt hsh1 hn1 157 rfl) rfl ((mX7_map l D G ad1 q0.2.1 _ _ q0.1.2 hsh1 hn1 (xs (i + 1))) _ _ h9) (cwGV 1 okX7_map wmL_211 hts rfl rfl (sl_fx hR (by decide))) rfl hl.1 (Nat.le_of_ble_eq_true rfl) dL_law_1890 ⟨hcs.1, hcs.2⟩ rfl) (fun y1 v1 hz H locs hB => ?_)
  obtain rfl := Option.some.inj hz
  refine lv_istore hx hb dL_law_1893 hl (Nat.le_of_ble_eq_true rfl) rfl (fun ls hl => ?_)
  refine lv_aload_n hx hb dL_law_1895 rfl (lv_at hl 5 rfl) ?_
  refine sc_R (o := fX7_thrown v1) (f := fun t => some t) (res := q0.1.1) (by rw [h3]; rfl) (rV_R (As := []) (rest := []) E hU hB.1 sc9 (slt hsh1 hn1 157 rfl) rfl (mX7_thrown l D G ad1 q0.2.1 _ _ q0.1.2 hsh1 hn1) (cwGV 0 okX7_thrown wmL_123 hts rfl rfl (sl_fx hR (by decide))) rfl hl.1 (Nat.le_of_ble_eq_true rfl) dL_law_1896 ⟨hcs.1, hcs.2⟩ rfl) (fun t9 ht => ?_)
  obtain rfl := Option.some.inj ht
  refine lv_iload hx hb dL_law_1899 (lv_at hl 1 rfl) ?_
  refine lv_icmp_eq (tgt := 1906) hx hb dL_law_1901 rfl (fun _ => ?_) (fun hne => absurd rfl hne)
  refine lv_iload hx hb dL_law_1906 (lv_at hl 1 rfl) ?_
  refine lv_if_ne (tgt := 1923) hx hb dL_law_1908 rfl (fun _ => ?_) (fun heq => ?_)
  · refine lv_goto hx hb dL_law_1923 rfl ?_
    exact kk ad1 hg H locs hB ls (lv_sub hl [2, 3, 4, 5, 6, 7] rfl)
  · refine lv_aload_n hx hb dL_law_1911 rfl (lv_at hl 4 rfl) ?_
    refine lv_iconst hx hb dL_law_1912 rfl ?_
    refine s_lald E hU hB.1 (slt hsh1 hn1 170 rfl) dL_law_1913 ?_
    refine lv_iload hx hb dL_law_1914 (lv_at hl 0 rfl) ?_
    refine lv_i2l hx hb dL_law_1916 rfl ?_
    refine s_lcmp0 E (h4 heq) dL_law_1917 ?_
    refine lv_if_eq (tgt := 1923) hx hb dL_law_1918 rfl (fun _ => ?_) (fun hne => absurd rfl hne)
    refine lv_goto hx hb dL_law_1923 rfl ?_
    exact kk ad1 hg H locs hB ls (lv_sub hl [2, 3, 4, 5, 6, 7] rfl)
set_option maxRecDepth 100000 in
set_option maxHeartbeats 4000000 in
theorem aL_27 (K : Nat) (C : sLC p R l s m c cells slots args A D G b L xs i) (hsh : sSh r) (hn : 172 ≤ n) (hl : lv_has ls 9 (sLl b ad i)) (hB : sB D G A s.heap ad r v n x H locs) {q0 : (Int32 × (Int64 × UInt64)) × sR × sV × Nat} (h1 : fL_undo K r v n x = some q0) (hsh1 : sSh q0.2.1) {z : Int32 × sV} (h2 : fX7_undo K q0.2.2.1 = some z) (h3 : fX7_thrown z.2 = some q0.1.1) (h4 : q0.1.1 = 0 → q0.1.2.1 = z.1.toInt64) (hcs : cells + (q0.2.2.2 + 1) ≤ R.cells ∧ slots + (sz (n + q0.2.2.2) - sz n + 6) ≤ R.slots)
    (kk : ∀ ad1 : Nat → Nat, sGo r n ad q0.2.1 (n + q0.2.2.2) ad1 → ∀ (H : Heap) (locs : List Loc), sB D G A s.heap ad1 q0.2.1 z.2 (n + q0.2.2.2) q0.1.2 H locs → ∀ ls : Array Slot, lv_has ls 9 (sLl b ad1 i) → W p l e R s m args below meth c H locs (cells + (q0.2.2.2 + 1)) (slots + (sz (n + q0.2.2.2) - sz n + 6)) Q (F0 m 2027 ls [])) : W p l e R s m args below meth c H locs cells slots Q (F0 m 1926 ls []) := by
  obtain ⟨E, hU, hNc, hZ, hA0, hst, hX, hbl, hbA, hL, hi, hR⟩ := C
  have hts := E.2.2.2.2
  have hx : p.tables.exec = Jvm.exec := E.1
  have hb := E.2.1
  have hl : lv_has ls 9 [(5, .int (Int32.ofNat i)), (4, .ref (ad 171)), (3, .ref (ad 170)), (2, .ref (ad 157)), (1, .ref (ad 0)), (0, .ref b)] := hl
  refine lv_aload_n hx hb dL_law_1926 rfl (lv_at hl 4 rfl) ?_
  refine lv_aload_n hx hb dL_law_1927 rfl (lv_at hl 2 rfl) ?_
  refine sl_W hB hA0 (rS_L (As := [.ref (ad 0), .ref (ad 170)]) (rest := []) E hU hNc hZ hA0 hB (mL_undo l K hst D G ad r _ n x hsh hn _ _ h1) (cwGH 2 okL_undo wmL_212 hts rfl rfl (sl_fr hR)) rfl hl.1 (Nat.le_of_ble_eq_true rfl) dL_law_1928 (sl_room hcs) rfl) (fun ad1 hg H locs hB => ?_)
  refine lv_istore hx hb dL_law_1931 hl (Nat.le_of_ble_eq_true rfl) rfl (fun ls hl => ?_)
  rw [← (hg.2 0 (slt hsh hn 0 rfl)).2, ← (hg.2 157 (slt hsh hn 157 rfl)).2, ← (hg.2 170 (slt hsh hn 170 rfl)).2, ← (hg.2 171 (slt hsh hn 171 rfl)).2] at hl
  have hn1 : 172 ≤ n + q0.2.2.2 := by omega
  refine lv_aload_n hx hb dL_law_1933 rfl (lv_at hl 4 rfl) ?_
  refine sc_I hB hA0 (o := fX7_undo K q0.2.2.1) (f := fun z => some z) (res := z) (by rw [h2]; rfl) (fun q9 h9 => rV_W (As := []) (rest := []) E hU hB sc9 (slt hsh1 hn1 157 rfl) rfl ((mX7_undo l K D G ad1 q0.2.1 _ _ q0.1.2 hsh1 hn1) _ _ h9) (cwGV 0 okX7_undo wmL_214 hts rfl rfl (sl_fx hR (by decide))) rfl hl.1 (Nat.le_of_ble_eq_true rfl) dL_law_1934 ⟨hcs.1, hcs.2⟩ rfl) (fun y1 v1 hz H locs hB => ?_)
  obtain rfl := Option.some.inj hz
  refine lv_istore hx hb dL_law_1937 hl (Nat.le_of_ble_eq_true rfl) rfl (fun ls hl => ?_)
  refine lv_aload_n hx hb dL_law_1939 rfl (lv_at hl 5 rfl) ?_
  refine sc_R (o := fX7_thrown v1) (f := fun t => some t) (res := q0.1.1) (by rw [h3]; rfl) (rV_R (As := []) (rest := []) E hU hB.1 sc9 (slt hsh1 hn1 157 rfl) rfl (mX7_thrown l D G ad1 q0.2.1 _ _ q0.1.2 hsh1 hn1) (cwGV 0 okX7_thrown wmL_123 hts rfl rfl (sl_fx hR (by decide))) rfl hl.1 (Nat.le_of_ble_eq_true rfl) dL_law_1940 ⟨hcs.1, hcs.2⟩ rfl) (fun t9 ht => ?_)
  obtain rfl := Option.some.inj ht
  refine lv_iload hx hb dL_law_1943 (lv_at hl 1 rfl) ?_
  refine lv_icmp_eq (tgt := 1950) hx hb dL_law_1945 rfl (fun _ => ?_) (fun hne => absurd rfl hne)
  refine lv_iload hx hb dL_law_1950 (lv_at hl 1 rfl) ?_
  refine lv_if_ne (tgt := 1967) hx hb dL_law_1952 rfl (fun _ => ?_) (fun heq => ?_)
  · refine lv_goto hx hb dL_law_1967 rfl ?_
    exact kk ad1 hg H locs hB ls (lv_sub hl [2, 3, 4, 5, 6, 7] rfl)
  · refine lv_aload_n hx hb dL_law_1955 rfl (lv_at hl 4 rfl) ?_
    refine lv_iconst hx hb dL_law_1956 rfl ?_
    refine s_lald E hU hB.1 (slt hsh1 hn1 170 rfl) dL_law_1957 ?_
    refine lv_iload hx hb dL_law_1958 (lv_at hl 0 rfl) ?_
    refine lv_i2l hx hb dL_law_1960 rfl ?_
    refine s_lcmp0 E (h4 heq) dL_law_1961 ?_
    refine lv_if_eq (tgt := 1967) hx hb dL_law_1962 rfl (fun _ => ?_) (fun hne => absurd rfl hne)
    refine lv_goto hx hb dL_law_1967 rfl ?_
    exact kk ad1 hg H locs hB ls (lv_sub hl [2, 3, 4, 5, 6, 7] rfl)
set_option maxRecDepth 100000 in
set_option maxHeartbeats 4000000 in
theorem aL_29 (K : Nat) (C : sLC p R l s m c cells slots args A D G b L xs i) (hsh : sSh r) (hn : 172 ≤ n) (hl : lv_has ls 9 (sLl b ad i)) (hB : sB D G A s.heap ad r v n x H locs) {q0 : (Int32 × (Int64 × UInt64)) × sR × sV × Nat} (h1 : fL_restore K r v n x = some q0) (hsh1 : sSh q0.2.1) {z : Int32 × sV} (h2 : fX7_restore K q0.2.2.1 = some z) (h3 : fX7_thrown z.2 = some q0.1.1) (h4 : q0.1.1 = 0 → q0.1.2.1 = z.1.toInt64) (hcs : cells + (q0.2.2.2 + 1) ≤ R.cells ∧ slots + (sz (n + q0.2.2.2) - sz n + 6) ≤ R.slots)
    (kk : ∀ ad1 : Nat → Nat, sGo r n ad q0.2.1 (n + q0.2.2.2) ad1 → ∀ (H : Heap) (locs : List Loc), sB D G A s.heap ad1 q0.2.1 z.2 (n + q0.2.2.2) q0.1.2 H locs → ∀ ls : Array Slot, lv_has ls 9 (sLl b ad1 i) → W p l e R s m args below meth c H locs (cells + (q0.2.2.2 + 1)) (slots + (sz (n + q0.2.2.2) - sz n + 6)) Q (F0 m 2027 ls [])) : W p l e R s m args below meth c H locs cells slots Q (F0 m 1983 ls []) := by
  obtain ⟨E, hU, hNc, hZ, hA0, hst, hX, hbl, hbA, hL, hi, hR⟩ := C
  have hts := E.2.2.2.2
  have hx : p.tables.exec = Jvm.exec := E.1
  have hb := E.2.1
  have hl : lv_has ls 9 [(5, .int (Int32.ofNat i)), (4, .ref (ad 171)), (3, .ref (ad 170)), (2, .ref (ad 157)), (1, .ref (ad 0)), (0, .ref b)] := hl
  refine lv_aload_n hx hb dL_law_1983 rfl (lv_at hl 4 rfl) ?_
  refine lv_aload_n hx hb dL_law_1984 rfl (lv_at hl 2 rfl) ?_
  refine sl_W hB hA0 (rS_L (As := [.ref (ad 0), .ref (ad 170)]) (rest := []) E hU hNc hZ hA0 hB (mL_restore l K hst D G ad r _ n x hsh hn _ _ h1) (cwGH 2 okL_restore wmL_219 hts rfl rfl (sl_fr hR)) rfl hl.1 (Nat.le_of_ble_eq_true rfl) dL_law_1985 (sl_room hcs) rfl) (fun ad1 hg H locs hB => ?_)
  refine lv_istore hx hb dL_law_1988 hl (Nat.le_of_ble_eq_true rfl) rfl (fun ls hl => ?_)
  rw [← (hg.2 0 (slt hsh hn 0 rfl)).2, ← (hg.2 157 (slt hsh hn 157 rfl)).2, ← (hg.2 170 (slt hsh hn 170 rfl)).2, ← (hg.2 171 (slt hsh hn 171 rfl)).2] at hl
  have hn1 : 172 ≤ n + q0.2.2.2 := by omega
  refine lv_aload_n hx hb dL_law_1990 rfl (lv_at hl 4 rfl) ?_
  refine sc_I hB hA0 (o := fX7_restore K q0.2.2.1) (f := fun z => some z) (res := z) (by rw [h2]; rfl) (fun q9 h9 => rV_W (As := []) (rest := []) E hU hB sc9 (slt hsh1 hn1 157 rfl) rfl ((mX7_restore l K D G ad1 q0.2.1 _ _ q0.1.2 hsh1 hn1) _ _ h9) (cwGV 0 okX7_restore wmL_221 hts rfl rfl (sl_fx hR (by decide))) rfl hl.1 (Nat.le_of_ble_eq_true rfl) dL_law_1991 ⟨hcs.1, hcs.2⟩ rfl) (fun y1 v1 hz H locs hB => ?_)
  obtain rfl := Option.some.inj hz
  refine lv_istore hx hb dL_law_1994 hl (Nat.le_of_ble_eq_true rfl) rfl (fun ls hl => ?_)
  refine lv_aload_n hx hb dL_law_1996 rfl (lv_at hl 5 rfl) ?_
  refine sc_R (o := fX7_thrown v1) (f := fun t => some t) (res := q0.1.1) (by rw [h3]; rfl) (rV_R (As := []) (rest := []) E hU hB.1 sc9 (slt hsh1 hn1 157 rfl) rfl (mX7_thrown l D G ad1 q0.2.1 _ _ q0.1.2 hsh1 hn1) (cwGV 0 okX7_thrown wmL_123 hts rfl rfl (sl_fx hR (by decide))) rfl hl.1 (Nat.le_of_ble_eq_true rfl) dL_law_1997 ⟨hcs.1, hcs.2⟩ rfl) (fun t9 ht => ?_)
  obtain rfl := Option.some.inj ht
  refine lv_iload hx hb dL_law_2000 (lv_at hl 1 rfl) ?_
  refine lv_icmp_eq (tgt := 2007) hx hb dL_law_2002 rfl (fun _ => ?_) (fun hne => absurd rfl hne)
  refine lv_iload hx hb dL_law_2007 (lv_at hl 1 rfl) ?_
  refine lv_if_ne (tgt := 2024) hx hb dL_law_2009 rfl (fun _ => ?_) (fun heq => ?_)
  · refine lv_goto hx hb dL_law_2024 rfl ?_
    exact kk ad1 hg H locs hB ls (lv_sub hl [2, 3, 4, 5, 6, 7] rfl)
  · refine lv_aload_n hx hb dL_law_2012 rfl (lv_at hl 4 rfl) ?_
    refine lv_iconst hx hb dL_law_2013 rfl ?_
    refine s_lald E hU hB.1 (slt hsh1 hn1 170 rfl) dL_law_2014 ?_
    refine lv_iload hx hb dL_law_2015 (lv_at hl 0 rfl) ?_
    refine lv_i2l hx hb dL_law_2017 rfl ?_
    refine s_lcmp0 E (h4 heq) dL_law_2018 ?_
    refine lv_if_eq (tgt := 2024) hx hb dL_law_2019 rfl (fun _ => ?_) (fun hne => absurd rfl hne)
    refine lv_goto hx hb dL_law_2024 rfl ?_
    exact kk ad1 hg H locs hB ls (lv_sub hl [2, 3, 4, 5, 6, 7] rfl)
set_option maxRecDepth 100000 in
set_option maxHeartbeats 4000000 in
theorem aL_22 (K : Nat) (C : sLC p R l s m c cells slots args A D G b L xs i) (hsh : sSh r) (hn : 172 ≤ n) (hl : lv_has ls 9 (sLl b ad i)) (hB : sB D G A s.heap ad r v n x H locs) {q0 : (Int32 × (Int64 × UInt64)) × sR × sV × Nat} (h1 : fL_meanDistance K r v n x = some q0) (hsh1 : sSh q0.2.1) {z : UInt64 × sV} (h2 : fX7_meanDistance K q0.2.2.1 = some z) (h3 : fX7_thrown z.2 = some q0.1.1) (h4 : q0.1.1 = 0 → Op.cmpValue (FP.dcmp q0.1.2.2 z.1) .l = 0) (hcs : cells + (q0.2.2.2 + 1) ≤ R.cells ∧ slots + (sz (n + q0.2.2.2) - sz n + 6) ≤ R.slots)
    (kk : ∀ ad1 : Nat → Nat, sGo r n ad q0.2.1 (n + q0.2.2.2) ad1 → ∀ (H : Heap) (locs : List Loc), sB D G A s.heap ad1 q0.2.1 z.2 (n + q0.2.2.2) q0.1.2 H locs → ∀ ls : Array Slot, lv_has ls 9 (sLl b ad1 i) → W p l e R s m args below meth c H locs (cells + (q0.2.2.2 + 1)) (slots + (sz (n + q0.2.2.2) - sz n + 6)) Q (F0 m 2027 ls [])) : W p l e R s m args below meth c H locs cells slots Q (F0 m 1637 ls []) := by
  obtain ⟨E, hU, hNc, hZ, hA0, hst, hX, hbl, hbA, hL, hi, hR⟩ := C
  have hts := E.2.2.2.2
  have hx : p.tables.exec = Jvm.exec := E.1
  have hb := E.2.1
  have hl : lv_has ls 9 [(5, .int (Int32.ofNat i)), (4, .ref (ad 171)), (3, .ref (ad 170)), (2, .ref (ad 157)), (1, .ref (ad 0)), (0, .ref b)] := hl
  refine lv_aload_n hx hb dL_law_1637 rfl (lv_at hl 4 rfl) ?_
  refine lv_aload hx hb dL_law_1638 (lv_at hl 1 rfl) ?_
  refine sl_W hB hA0 (rS_L (As := [.ref (ad 0), .ref (ad 171)]) (rest := []) E hU hNc hZ hA0 hB (mL_meanDistance l K hst D G ad r _ n x hsh hn _ _ h1) (cwGH 2 okL_meanDistance wmL_195 hts rfl rfl (sl_fr hR)) rfl hl.1 (Nat.le_of_ble_eq_true rfl) dL_law_1640 (sl_room hcs) rfl) (fun ad1 hg H locs hB => ?_)
  refine lv_istore hx hb dL_law_1643 hl (Nat.le_of_ble_eq_true rfl) rfl (fun ls hl => ?_)
  rw [← (hg.2 0 (slt hsh hn 0 rfl)).2, ← (hg.2 157 (slt hsh hn 157 rfl)).2, ← (hg.2 170 (slt hsh hn 170 rfl)).2, ← (hg.2 171 (slt hsh hn 171 rfl)).2] at hl
  have hn1 : 172 ≤ n + q0.2.2.2 := by omega
  refine lv_aload_n hx hb dL_law_1645 rfl (lv_at hl 4 rfl) ?_
  refine sc_D hB hA0 (o := fX7_meanDistance K q0.2.2.1) (f := fun z => some z) (res := z) (by rw [h2]; rfl) (fun q9 h9 => rV_W (As := []) (rest := []) E hU hB sc9 (slt hsh1 hn1 157 rfl) rfl ((mX7_meanDistance l K D G ad1 q0.2.1 _ _ q0.1.2 hsh1 hn1) _ _ h9) (cwGV 0 okX7_meanDistance wmL_198 hts rfl rfl (sl_fx hR (by decide))) rfl hl.1 (Nat.le_of_ble_eq_true rfl) dL_law_1646 ⟨hcs.1, hcs.2⟩ rfl) (fun y1 v1 hz H locs hB => ?_)
  obtain rfl := Option.some.inj hz
  refine lv_dstore hx hb dL_law_1649 hl (Nat.le_of_ble_eq_true rfl) rfl (fun ls hl => ?_)
  refine lv_aload_n hx hb dL_law_1651 rfl (lv_at hl 5 rfl) ?_
  refine sc_R (o := fX7_thrown v1) (f := fun t => some t) (res := q0.1.1) (by rw [h3]; rfl) (rV_R (As := []) (rest := []) E hU hB.1 sc9 (slt hsh1 hn1 157 rfl) rfl (mX7_thrown l D G ad1 q0.2.1 _ _ q0.1.2 hsh1 hn1) (cwGV 0 okX7_thrown wmL_123 hts rfl rfl (sl_fx hR (by decide))) rfl hl.1 (Nat.le_of_ble_eq_true rfl) dL_law_1652 ⟨hcs.1, hcs.2⟩ rfl) (fun t9 ht => ?_)
  obtain rfl := Option.some.inj ht
  refine lv_iload hx hb dL_law_1655 (lv_at hl 1 rfl) ?_
  refine lv_icmp_eq (tgt := 1662) hx hb dL_law_1657 rfl (fun _ => ?_) (fun hne => absurd rfl hne)
  refine lv_iload hx hb dL_law_1662 (lv_at hl 1 rfl) ?_
  refine lv_if_ne (tgt := 1699) hx hb dL_law_1664 rfl (fun _ => ?_) (fun heq => ?_)
  · refine lv_goto hx hb dL_law_1699 rfl ?_
    exact kk ad1 hg H locs hB ls (lv_sub hl [2, 3, 4, 5, 6, 7] rfl)
  · refine lv_aload hx hb dL_law_1667 (lv_at hl 3 rfl) ?_
    refine lv_iconst hx hb dL_law_1669 rfl ?_
    refine s_dald E hU hB.1 (slt hsh1 hn1 171 rfl) dL_law_1670 ?_
    refine lv_dload hx hb dL_law_1671 (lv_at hl 0 rfl) ?_
    refine lv_dcmp hx hb dL_law_1673 ?_
    refine lv_if_eq (tgt := 1699) hx hb dL_law_1674 rfl (fun _ => ?_) (fun hne => absurd (h4 heq) hne)
    refine lv_goto hx hb dL_law_1699 rfl ?_
    exact kk ad1 hg H locs hB ls (lv_sub hl [2, 3, 4, 5, 6, 7] rfl)
set_option maxRecDepth 100000 in
set_option maxHeartbeats 4000000 in
theorem aL_23 (K : Nat) (C : sLC p R l s m c cells slots args A D G b L xs i) (hsh : sSh r) (hn : 172 ≤ n) (hl : lv_has ls 9 (sLl b ad i)) (hB : sB D G A s.heap ad r v n x H locs) {q0 : (Int32 × (Int64 × UInt64)) × sR × sV × Nat} (h1 : fL_density K r v n x = some q0) (hsh1 : sSh q0.2.1) {z : UInt32 × sV} (h2 : fX7_density K q0.2.2.1 = some z) (h3 : fX7_thrown z.2 = some q0.1.1) (h4 : q0.1.1 = 0 → vf_n64 (FP.f2d z.1) ∧ Op.cmpValue (FP.dcmp q0.1.2.2 (FP.f2d z.1)) .l = 0) (hcs : cells + (q0.2.2.2 + 1) ≤ R.cells ∧ slots + (sz (n + q0.2.2.2) - sz n + 6) ≤ R.slots)
    (kk : ∀ ad1 : Nat → Nat, sGo r n ad q0.2.1 (n + q0.2.2.2) ad1 → ∀ (H : Heap) (locs : List Loc), sB D G A s.heap ad1 q0.2.1 z.2 (n + q0.2.2.2) q0.1.2 H locs → ∀ ls : Array Slot, lv_has ls 9 (sLl b ad1 i) → W p l e R s m args below meth c H locs (cells + (q0.2.2.2 + 1)) (slots + (sz (n + q0.2.2.2) - sz n + 6)) Q (F0 m 2027 ls [])) : W p l e R s m args below meth c H locs cells slots Q (F0 m 1702 ls []) := by
  obtain ⟨E, hU, hNc, hZ, hA0, hst, hX, hbl, hbA, hL, hi, hR⟩ := C
  have hts := E.2.2.2.2
  have hx : p.tables.exec = Jvm.exec := E.1
  have hb := E.2.1
  have hl : lv_has ls 9 [(5, .int (Int32.ofNat i)), (4, .ref (ad 171)), (3, .ref (ad 170)), (2, .ref (ad 157)), (1, .ref (ad 0)), (0, .ref b)] := hl
  refine lv_aload_n hx hb dL_law_1702 rfl (lv_at hl 4 rfl) ?_
  refine lv_aload hx hb dL_law_1703 (lv_at hl 1 rfl) ?_
  refine sl_W hB hA0 (rS_L (As := [.ref (ad 0), .ref (ad 171)]) (rest := []) E hU hNc hZ hA0 hB (mL_density l K hst D G ad r _ n x hsh hn _ _ h1) (cwGH 2 okL_density wmL_199 hts rfl rfl (sl_fr hR)) rfl hl.1 (Nat.le_of_ble_eq_true rfl) dL_law_1705 (sl_room hcs) rfl) (fun ad1 hg H locs hB => ?_)
  refine lv_istore hx hb dL_law_1708 hl (Nat.le_of_ble_eq_true rfl) rfl (fun ls hl => ?_)
  rw [← (hg.2 0 (slt hsh hn 0 rfl)).2, ← (hg.2 157 (slt hsh hn 157 rfl)).2, ← (hg.2 170 (slt hsh hn 170 rfl)).2, ← (hg.2 171 (slt hsh hn 171 rfl)).2] at hl
  have hn1 : 172 ≤ n + q0.2.2.2 := by omega
  refine lv_aload_n hx hb dL_law_1710 rfl (lv_at hl 4 rfl) ?_
  refine sc_F hB hA0 (o := fX7_density K q0.2.2.1) (f := fun z => some z) (res := z) (by rw [h2]; rfl) (fun q9 h9 => rV_W (As := []) (rest := []) E hU hB sc9 (slt hsh1 hn1 157 rfl) rfl ((mX7_density l K D G ad1 q0.2.1 _ _ q0.1.2 hsh1 hn1) _ _ h9) (cwGV 0 okX7_density wmL_201 hts rfl rfl (sl_fx hR (by decide))) rfl hl.1 (Nat.le_of_ble_eq_true rfl) dL_law_1711 ⟨hcs.1, hcs.2⟩ rfl) (fun y1 v1 hz H locs hB => ?_)
  obtain rfl := Option.some.inj hz
  refine lv_fstore hx hb dL_law_1714 hl (Nat.le_of_ble_eq_true rfl) rfl (fun ls hl => ?_)
  refine lv_aload_n hx hb dL_law_1716 rfl (lv_at hl 5 rfl) ?_
  refine sc_R (o := fX7_thrown v1) (f := fun t => some t) (res := q0.1.1) (by rw [h3]; rfl) (rV_R (As := []) (rest := []) E hU hB.1 sc9 (slt hsh1 hn1 157 rfl) rfl (mX7_thrown l D G ad1 q0.2.1 _ _ q0.1.2 hsh1 hn1) (cwGV 0 okX7_thrown wmL_123 hts rfl rfl (sl_fx hR (by decide))) rfl hl.1 (Nat.le_of_ble_eq_true rfl) dL_law_1717 ⟨hcs.1, hcs.2⟩ rfl) (fun t9 ht => ?_)
  obtain rfl := Option.some.inj ht
  refine lv_iload hx hb dL_law_1720 (lv_at hl 1 rfl) ?_
  refine lv_icmp_eq (tgt := 1727) hx hb dL_law_1722 rfl (fun _ => ?_) (fun hne => absurd rfl hne)
  refine lv_iload hx hb dL_law_1727 (lv_at hl 1 rfl) ?_
  refine lv_if_ne (tgt := 1765) hx hb dL_law_1729 rfl (fun _ => ?_) (fun heq => ?_)
  · refine lv_goto hx hb dL_law_1765 rfl ?_
    exact kk ad1 hg H locs hB ls (lv_sub hl [2, 3, 4, 5, 6, 7] rfl)
  · refine lv_aload hx hb dL_law_1732 (lv_at hl 3 rfl) ?_
    refine lv_iconst hx hb dL_law_1734 rfl ?_
    refine s_dald E hU hB.1 (slt hsh1 hn1 171 rfl) dL_law_1735 ?_
    refine lv_fload hx hb dL_law_1736 (lv_at hl 0 rfl) ?_
    refine lv_f2d hx hb dL_law_1738 (h4 heq).1 ?_
    refine lv_dcmp hx hb dL_law_1739 ?_
    refine lv_if_eq (tgt := 1765) hx hb dL_law_1740 rfl (fun _ => ?_) (fun hne => absurd (h4 heq).2 hne)
    refine lv_goto hx hb dL_law_1765 rfl ?_
    exact kk ad1 hg H locs hB ls (lv_sub hl [2, 3, 4, 5, 6, 7] rfl)
set_option maxRecDepth 100000 in
set_option maxHeartbeats 4000000 in
theorem aL_20 (K : Nat) (C : sLC p R l s m c cells slots args A D G b L xs i) (hsh : sSh r) (hn : 172 ≤ n) (hl : lv_has ls 9 (sLl b ad i)) (hB : sB D G A s.heap ad r v n x H locs) {y : Int32} (h1 : fX6_jams K v = some y) {z : Int32 × sV} (h2 : fX7_jams K v = some z) (h4 : y = z.1) (hcs : cells ≤ R.cells ∧ slots ≤ R.slots)
    (kk : ∀ (H : Heap) (locs : List Loc), sB D G A s.heap ad r z.2 n x H locs → W p l e R s m args below meth c H locs cells slots Q (F0 m 2027 ls [])) : W p l e R s m args below meth c H locs cells slots Q (F0 m 1556 ls []) := by
  obtain ⟨E, hU, hNc, hZ, hA0, hst, hX, hbl, hbA, hL, hi, hR⟩ := C
  have hts := E.2.2.2.2
  have hx : p.tables.exec = Jvm.exec := E.1
  have hb := E.2.1
  have hl : lv_has ls 9 [(5, .int (Int32.ofNat i)), (4, .ref (ad 171)), (3, .ref (ad 170)), (2, .ref (ad 157)), (1, .ref (ad 0)), (0, .ref b)] := hl
  refine lv_aload_n hx hb dL_law_1556 rfl (lv_at hl 4 rfl) ?_
  refine sc_R (o := fX6_jams K v) (f := fun t => some t) (res := y) (by rw [h1]; rfl) (rV_R (As := []) (rest := []) E hU hB.1 sc8 (slt hsh hn 0 rfl) rfl (mX6_jams l K D G ad r _ n x hsh hn) (cwGV 0 okX6_jams wmL_188 hts rfl rfl (sl_fx hR (by decide))) rfl hl.1 (Nat.le_of_ble_eq_true rfl) dL_law_1557 ⟨hcs.1, hcs.2⟩ rfl) (fun t9 ht => ?_)
  obtain rfl := Option.some.inj ht
  refine lv_aload_n hx hb dL_law_1560 rfl (lv_at hl 3 rfl) ?_
  refine sc_I hB hA0 (o := fX7_jams K v) (f := fun z => some z) (res := z) (by rw [h2]; rfl) (fun q9 h9 => rV_W (As := []) (rest := [.int t9]) E hU hB sc9 (slt hsh hn 157 rfl) rfl ((mX7_jams l K D G ad r _ n x hsh hn) _ _ h9) (cwGV 0 okX7_jams wmL_191 hts rfl rfl (sl_fx hR (by decide))) rfl hl.1 (Nat.le_of_ble_eq_true rfl) dL_law_1561 ⟨hcs.1, hcs.2⟩ rfl) (fun y1 v1 hz H locs hB => ?_)
  obtain rfl := Option.some.inj hz
  exact lv_icmp_eq (tgt := 2027) hx hb dL_law_1564 rfl (fun _ => kk H locs hB) (fun hne => absurd h4 hne)
set_option maxRecDepth 100000 in
set_option maxHeartbeats 4000000 in
theorem aL_28 (K : Nat) (C : sLC p R l s m c cells slots args A D G b L xs i) (hsh : sSh r) (hn : 172 ≤ n) (hl : lv_has ls 9 (sLl b ad i)) (hB : sB D G A s.heap ad r v n x H locs) {y : Int32 × sV} (h1 : fX6_save K v = some y) {z : Int32 × sV} (h2 : fX7_save K y.2 = some z) (h4 : y.1 = z.1) (hcs : cells ≤ R.cells ∧ slots ≤ R.slots)
    (kk : ∀ (H : Heap) (locs : List Loc), sB D G A s.heap ad r z.2 n x H locs → W p l e R s m args below meth c H locs cells slots Q (F0 m 2027 ls [])) : W p l e R s m args below meth c H locs cells slots Q (F0 m 1970 ls []) := by
  obtain ⟨E, hU, hNc, hZ, hA0, hst, hX, hbl, hbA, hL, hi, hR⟩ := C
  have hts := E.2.2.2.2
  have hx : p.tables.exec = Jvm.exec := E.1
  have hb := E.2.1
  have hl : lv_has ls 9 [(5, .int (Int32.ofNat i)), (4, .ref (ad 171)), (3, .ref (ad 170)), (2, .ref (ad 157)), (1, .ref (ad 0)), (0, .ref b)] := hl
  refine lv_aload_n hx hb dL_law_1970 rfl (lv_at hl 4 rfl) ?_
  refine sc_I hB hA0 (o := fX6_save K v) (f := fun z => some z) (res := y) (by rw [h1]; rfl) (fun q9 h9 => rV_W (As := []) (rest := []) E hU hB sc8 (slt hsh hn 0 rfl) rfl ((mX6_save l K D G ad r _ n x hsh hn) _ _ h9) (cwGV 0 okX6_save wmL_215 hts rfl rfl (sl_fx hR (by decide))) rfl hl.1 (Nat.le_of_ble_eq_true rfl) dL_law_1971 ⟨hcs.1, hcs.2⟩ rfl) (fun t9 v9 ht H locs hB => ?_)
  obtain rfl := Option.some.inj ht
  refine lv_aload_n hx hb dL_law_1974 rfl (lv_at hl 3 rfl) ?_
  refine sc_I hB hA0 (o := fX7_save K v9) (f := fun z => some z) (res := z) (by rw [h2]; rfl) (fun q9 h9 => rV_W (As := []) (rest := [.int t9]) E hU hB sc9 (slt hsh hn 157 rfl) rfl ((mX7_save l K D G ad r _ n x hsh hn) _ _ h9) (cwGV 0 okX7_save wmL_218 hts rfl rfl (sl_fx hR (by decide))) rfl hl.1 (Nat.le_of_ble_eq_true rfl) dL_law_1975 ⟨hcs.1, hcs.2⟩ rfl) (fun y1 v1 hz H locs hB => ?_)
  obtain rfl := Option.some.inj hz
  exact lv_icmp_eq (tgt := 2027) hx hb dL_law_1978 rfl (fun _ => kk H locs hB) (fun hne => absurd h4 hne)
end
