section
variable {p : Program} {l : Launch} {e : Env} {R : Room} {s : State} {m : MethodId} {args : Array Value} {below : List Frame} {meth : Method} {c : Code} {H : Heap} {locs : List Loc} {cells slots : Nat} {Q : State → Prop} {ls : Array Slot}
variable {D : va_G} {G : Nat → ClassId} {A : Nat → Prop} {ad : Nat → Nat} {r : sR} {v : sV} {n : Nat} {x : Int64 × UInt64} {b L i : Nat} {xs : Nat → Int32}
set_option maxRecDepth 100000 in
set_option maxHeartbeats 4000000 in
theorem aL_0 (K : Nat) (C : sLC p R l s m c cells slots args A D G b L xs i) (hsh : sSh r) (hn : 172 ≤ n) (hl : lv_has ls 9 (sLl b ad i)) (hB : sB D G A s.heap ad r v n x H locs) {q0 : (Int32 × (Int64 × UInt64)) × sR × sV × Nat} (h1 : fL_setCell K (xs (i + 1)) (xs (i + 2)) (xs (i + 3)) r v n x = some q0) (hsh1 : sSh q0.2.1) {z : Int32 × sV} (h2 : fX7_setCell K (xs (i + 1)) (xs (i + 2)) (xs (i + 3)) q0.2.2.1 = some z) (h3 : fX7_thrown z.2 = some q0.1.1) (h4 : q0.1.1 = 0 → q0.1.2.1 = z.1.toInt64) (hcs : cells + (q0.2.2.2 + 1) ≤ R.cells ∧ slots + (sz (n + q0.2.2.2) - sz n + 6) ≤ R.slots)
    (kk : ∀ ad1 : Nat → Nat, sGo n ad (n + q0.2.2.2) ad1 → ∀ (H : Heap) (locs : List Loc), sB D G A s.heap ad1 q0.2.1 z.2 (n + q0.2.2.2) q0.1.2 H locs → ∀ ls : Array Slot, lv_has ls 9 (sLl b ad1 i) → W p l e R s m args below meth c H locs (cells + (q0.2.2.2 + 1)) (slots + (sz (n + q0.2.2.2) - sz n + 6)) Q (F0 m 2027 ls [])) : W p l e R s m args below meth c H locs cells slots Q (F0 m 180 ls []) := by
  obtain ⟨E, hU, hNc, hZ, hA0, hst, hX, hbl, hbA, hL, hi, hR⟩ := C
  have hts := E.2.2.2.2
  have hx : p.tables.exec = Jvm.exec := E.1
  have hb := E.2.1
  have hl : lv_has ls 9 [(5, .int (Int32.ofNat i)), (4, .ref (ad 171)), (3, .ref (ad 170)), (2, .ref (ad 157)), (1, .ref (ad 0)), (0, .ref b)] := hl
  refine lv_aload_n hx hb dL_law_180 rfl (lv_at hl 4 rfl) ?_
  refine s_arg E hX hbl hbA hB.2.2 hl (k0 := 5) (k5 := 0) (kk := 1) rfl rfl rfl (by omega) hL dL_law_181 dL_law_182 dL_law_184 dL_law_185 dL_law_186 ?_
  refine s_arg E hX hbl hbA hB.2.2 hl (k0 := 5) (k5 := 0) (kk := 2) rfl rfl rfl (by omega) hL dL_law_187 dL_law_188 dL_law_190 dL_law_191 dL_law_192 ?_
  refine s_arg E hX hbl hbA hB.2.2 hl (k0 := 5) (k5 := 0) (kk := 3) rfl rfl rfl (by omega) hL dL_law_193 dL_law_194 dL_law_196 dL_law_197 dL_law_198 ?_
  refine lv_aload_n hx hb dL_law_199 rfl (lv_at hl 2 rfl) ?_
  refine sl_W hB hA0 (rS_L (As := [.ref (ad 0), .int (xs (i + 1)), .int (xs (i + 2)), .int (xs (i + 3)), .ref (ad 170)]) (rest := []) E hU hNc hZ hA0 hB (mL_setCell l K hst D G ad r _ n x hsh hn (xs (i + 1)) (xs (i + 2)) (xs (i + 3)) _ _ h1) (cwGH 5 okL_setCell wmL_117 hts rfl rfl (sl_fr hR)) rfl hl.1 (Nat.le_of_ble_eq_true rfl) dL_law_200 (sl_room hcs) rfl) (fun ad1 hg H locs hB => ?_)
  refine lv_istore hx hb dL_law_203 hl (Nat.le_of_ble_eq_true rfl) rfl (fun ls hl => ?_)
  rw [← hg.2 0 (slt hn 0 rfl), ← hg.2 157 (slt hn 157 rfl), ← hg.2 170 (slt hn 170 rfl), ← hg.2 171 (slt hn 171 rfl)] at hl
  have hn1 : 172 ≤ n + q0.2.2.2 := by omega
  refine lv_aload_n hx hb dL_law_205 rfl (lv_at hl 4 rfl) ?_
  refine s_arg E hX hbl hbA hB.2.2 hl (k0 := 6) (k5 := 1) (kk := 1) rfl rfl rfl (by omega) hL dL_law_206 dL_law_207 dL_law_209 dL_law_210 dL_law_211 ?_
  refine s_arg E hX hbl hbA hB.2.2 hl (k0 := 6) (k5 := 1) (kk := 2) rfl rfl rfl (by omega) hL dL_law_212 dL_law_213 dL_law_215 dL_law_216 dL_law_217 ?_
  refine s_arg E hX hbl hbA hB.2.2 hl (k0 := 6) (k5 := 1) (kk := 3) rfl rfl rfl (by omega) hL dL_law_218 dL_law_219 dL_law_221 dL_law_222 dL_law_223 ?_
  refine sc_I hB hA0 (o := fX7_setCell K (xs (i + 1)) (xs (i + 2)) (xs (i + 3)) q0.2.2.1) (f := fun z => some z) (res := z) (by rw [h2]; rfl) (fun q9 h9 => rV_W (As := [.int (xs (i + 1)), .int (xs (i + 2)), .int (xs (i + 3))]) (rest := []) E hU hB sc9 (slt hn1 157 rfl) rfl ((mX7_setCell l K D G ad1 q0.2.1 _ _ q0.1.2 hsh1 hn1 (xs (i + 1)) (xs (i + 2)) (xs (i + 3))) _ _ h9) (cwGV 3 okX7_setCell wmL_122 hts rfl rfl (sl_fx hR (by decide))) rfl hl.1 (Nat.le_of_ble_eq_true rfl) dL_law_224 ⟨hcs.1, hcs.2⟩ rfl) (fun y1 v1 hz H locs hB => ?_)
  obtain rfl := Option.some.inj hz
  refine lv_istore hx hb dL_law_227 hl (Nat.le_of_ble_eq_true rfl) rfl (fun ls hl => ?_)
  refine lv_aload_n hx hb dL_law_229 rfl (lv_at hl 5 rfl) ?_
  refine sc_R (o := fX7_thrown v1) (f := fun t => some t) (res := q0.1.1) (by rw [h3]; rfl) (rV_R (As := []) (rest := []) E hU hB.1 sc9 (slt hn1 157 rfl) rfl (mX7_thrown l D G ad1 q0.2.1 _ _ q0.1.2 hsh1 hn1) (cwGV 0 okX7_thrown wmL_123 hts rfl rfl (sl_fx hR (by decide))) rfl hl.1 (Nat.le_of_ble_eq_true rfl) dL_law_230 ⟨hcs.1, hcs.2⟩ rfl) (fun t9 ht => ?_)
  obtain rfl := Option.some.inj ht
  refine lv_iload hx hb dL_law_233 (lv_at hl 1 rfl) ?_
  refine lv_icmp_eq (tgt := 240) hx hb dL_law_235 rfl (fun _ => ?_) (fun hne => absurd rfl hne)
  refine lv_iload hx hb dL_law_240 (lv_at hl 1 rfl) ?_
  refine lv_if_ne (tgt := 257) hx hb dL_law_242 rfl (fun _ => ?_) (fun heq => ?_)
  · refine lv_goto hx hb dL_law_257 rfl ?_
    exact kk ad1 hg H locs hB ls (lv_sub hl [2, 3, 4, 5, 6, 7] rfl)
  · refine lv_aload_n hx hb dL_law_245 rfl (lv_at hl 4 rfl) ?_
    refine lv_iconst hx hb dL_law_246 rfl ?_
    refine s_lald E hU hB.1 (slt hn1 170 rfl) dL_law_247 ?_
    refine lv_iload hx hb dL_law_248 (lv_at hl 0 rfl) ?_
    refine lv_i2l hx hb dL_law_250 rfl ?_
    refine s_lcmp0 E (h4 heq) dL_law_251 ?_
    refine lv_if_eq (tgt := 257) hx hb dL_law_252 rfl (fun _ => ?_) (fun hne => absurd rfl hne)
    refine lv_goto hx hb dL_law_257 rfl ?_
    exact kk ad1 hg H locs hB ls (lv_sub hl [2, 3, 4, 5, 6, 7] rfl)
end
