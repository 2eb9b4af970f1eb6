section
variable {p : Program} {l : Launch} {e : Env} {R : Room} {s : State} {m : MethodId} {args : Array Value} {below : List Frame} {meth : Method} {c : Code} {H : Heap} {locs : List Loc} {cells slots : Nat} {Q : State → Prop} {ls : Array Slot}
variable {D : va_G} {G : Nat → ClassId} {A : Nat → Prop} {ad : Nat → Nat} {r : sR} {v : sV} {n : Nat} {x : Int64 × UInt64} {b L i : Nat} {xs : Nat → Int32}
set_option maxRecDepth 100000 in
set_option maxHeartbeats 4000000 in
theorem aL_10 (K : Nat) (C : sLC p R l s m c cells slots args A D G b L xs i) (hsh : sSh r) (hn : 172 ≤ n) (hl : lv_has ls 9 (sLl b ad i)) (hB : sB D G A s.heap ad r v n x H locs) {q0 : (Int32 × (Int64 × UInt64)) × sR × sV × Nat} (h1 : fL_change (xs (i + 1)) (if xs (i + 2) = 0 then 0 else 1) (xs (i + 3)) r v n x = some q0) (hsh1 : sSh q0.2.1) {z : Int32 × sV} (h2 : fX7_change K (xs (i + 1)) (if xs (i + 2) = 0 then 0 else 1) (xs (i + 3)) q0.2.2.1 = some z) (h3 : fX7_thrown z.2 = some q0.1.1) (h4 : q0.1.1 = 0 → q0.1.2.1 = z.1.toInt64) (hcs : cells + (q0.2.2.2 + 1) ≤ R.cells ∧ slots + (sz (n + q0.2.2.2) - sz n + 6) ≤ R.slots)
    (kk : ∀ ad1 : Nat → Nat, sGo n ad (n + q0.2.2.2) ad1 → ∀ (H : Heap) (locs : List Loc), sB D G A s.heap ad1 q0.2.1 z.2 (n + q0.2.2.2) q0.1.2 H locs → ∀ ls : Array Slot, lv_has ls 9 (sLl b ad1 i) → W p l e R s m args below meth c H locs (cells + (q0.2.2.2 + 1)) (slots + (sz (n + q0.2.2.2) - sz n + 6)) Q (F0 m 2027 ls [])) : W p l e R s m args below meth c H locs cells slots Q (F0 m 920 ls []) := by
  obtain ⟨E, hU, hNc, hZ, hA0, hst, hX, hbl, hbA, hL, hi, hR⟩ := C
  have hts := E.2.2.2.2
  have hx : p.tables.exec = Jvm.exec := E.1
  have hb := E.2.1
  have hl : lv_has ls 9 [(5, .int (Int32.ofNat i)), (4, .ref (ad 171)), (3, .ref (ad 170)), (2, .ref (ad 157)), (1, .ref (ad 0)), (0, .ref b)] := hl
  refine lv_aload_n hx hb dL_law_920 rfl (lv_at hl 4 rfl) ?_
  refine s_arg E hX hbl hbA hB.2.2 hl (k0 := 5) (k5 := 0) (kk := 1) rfl rfl rfl (by omega) hL dL_law_921 dL_law_922 dL_law_924 dL_law_925 dL_law_926 ?_
  refine s_arg E hX hbl hbA hB.2.2 hl (k0 := 5) (k5 := 0) (kk := 2) rfl rfl rfl (by omega) hL dL_law_927 dL_law_928 dL_law_930 dL_law_931 dL_law_932 ?_
  refine s_b01 E dL_law_933 dL_law_936 dL_law_937 dL_law_940 ?_
  refine s_arg E hX hbl hbA hB.2.2 hl (k0 := 5) (k5 := 0) (kk := 3) rfl rfl rfl (by omega) hL dL_law_941 dL_law_942 dL_law_944 dL_law_945 dL_law_946 ?_
  refine lv_aload_n hx hb dL_law_947 rfl (lv_at hl 2 rfl) ?_
  refine sl_W hB hA0 (rS_L (As := [.ref (ad 0), .int (xs (i + 1)), .int (if xs (i + 2) = 0 then 0 else 1), .int (xs (i + 3)), .ref (ad 170)]) (rest := []) E hU hNc hZ hA0 hB (mL_change l hst D G ad r _ n x hsh hn (xs (i + 1)) (if xs (i + 2) = 0 then 0 else 1) (xs (i + 3)) _ _ h1) (cwGH 5 okL_change wmL_155 hts rfl rfl (sl_fr hR)) rfl hl.1 (Nat.le_of_ble_eq_true rfl) dL_law_948 (sl_room hcs) rfl) (fun ad1 hg H locs hB => ?_)
  refine lv_istore hx hb dL_law_951 hl (Nat.le_of_ble_eq_true rfl) rfl (fun ls hl => ?_)
  rw [← hg.2 0 (slt hn 0 rfl), ← hg.2 157 (slt hn 157 rfl), ← hg.2 170 (slt hn 170 rfl), ← hg.2 171 (slt hn 171 rfl)] at hl
  have hn1 : 172 ≤ n + q0.2.2.2 := by omega
  refine lv_aload_n hx hb dL_law_953 rfl (lv_at hl 4 rfl) ?_
  refine s_arg E hX hbl hbA hB.2.2 hl (k0 := 6) (k5 := 1) (kk := 1) rfl rfl rfl (by omega) hL dL_law_954 dL_law_955 dL_law_957 dL_law_958 dL_law_959 ?_
  refine s_arg E hX hbl hbA hB.2.2 hl (k0 := 6) (k5 := 1) (kk := 2) rfl rfl rfl (by omega) hL dL_law_960 dL_law_961 dL_law_963 dL_law_964 dL_law_965 ?_
  refine s_b01 E dL_law_966 dL_law_969 dL_law_970 dL_law_973 ?_
  refine s_arg E hX hbl hbA hB.2.2 hl (k0 := 6) (k5 := 1) (kk := 3) rfl rfl rfl (by omega) hL dL_law_974 dL_law_975 dL_law_977 dL_law_978 dL_law_979 ?_
  refine sc_I hB hA0 (o := fX7_change K (xs (i + 1)) (if xs (i + 2) = 0 then 0 else 1) (xs (i + 3)) q0.2.2.1) (f := fun z => some z) (res := z) (by rw [h2]; rfl) (fun q9 h9 => rV_W (As := [.int (xs (i + 1)), .int (if xs (i + 2) = 0 then 0 else 1), .int (xs (i + 3))]) (rest := []) E hU hB sc9 (slt hn1 157 rfl) rfl ((mX7_change l K D G ad1 q0.2.1 _ _ q0.1.2 hsh1 hn1 (xs (i + 1)) (if xs (i + 2) = 0 then 0 else 1) (xs (i + 3))) _ _ h9) (cwGV 3 okX7_change wmL_158 hts rfl rfl (sl_fx hR (by decide))) rfl hl.1 (Nat.le_of_ble_eq_true rfl) dL_law_980 ⟨hcs.1, hcs.2⟩ rfl) (fun y1 v1 hz H locs hB => ?_)
  obtain rfl := Option.some.inj hz
  refine lv_istore hx hb dL_law_983 hl (Nat.le_of_ble_eq_true rfl) rfl (fun ls hl => ?_)
  refine lv_aload_n hx hb dL_law_985 rfl (lv_at hl 5 rfl) ?_
  refine sc_R (o := fX7_thrown v1) (f := fun t => some t) (res := q0.1.1) (by rw [h3]; rfl) (rV_R (As := []) (rest := []) E hU hB.1 sc9 (slt hn1 157 rfl) rfl (mX7_thrown l D G ad1 q0.2.1 _ _ q0.1.2 hsh1 hn1) (cwGV 0 okX7_thrown wmL_123 hts rfl rfl (sl_fx hR (by decide))) rfl hl.1 (Nat.le_of_ble_eq_true rfl) dL_law_986 ⟨hcs.1, hcs.2⟩ rfl) (fun t9 ht => ?_)
  obtain rfl := Option.some.inj ht
  refine lv_iload hx hb dL_law_989 (lv_at hl 1 rfl) ?_
  refine lv_icmp_eq (tgt := 996) hx hb dL_law_991 rfl (fun _ => ?_) (fun hne => absurd rfl hne)
  refine lv_iload hx hb dL_law_996 (lv_at hl 1 rfl) ?_
  refine lv_if_ne (tgt := 1013) hx hb dL_law_998 rfl (fun _ => ?_) (fun heq => ?_)
  · refine lv_goto hx hb dL_law_1013 rfl ?_
    exact kk ad1 hg H locs hB ls (lv_sub hl [2, 3, 4, 5, 6, 7] rfl)
  · refine lv_aload_n hx hb dL_law_1001 rfl (lv_at hl 4 rfl) ?_
    refine lv_iconst hx hb dL_law_1002 rfl ?_
    refine s_lald E hU hB.1 (slt hn1 170 rfl) dL_law_1003 ?_
    refine lv_iload hx hb dL_law_1004 (lv_at hl 0 rfl) ?_
    refine lv_i2l hx hb dL_law_1006 rfl ?_
    refine s_lcmp0 E (h4 heq) dL_law_1007 ?_
    refine lv_if_eq (tgt := 1013) hx hb dL_law_1008 rfl (fun _ => ?_) (fun hne => absurd rfl hne)
    refine lv_goto hx hb dL_law_1013 rfl ?_
    exact kk ad1 hg H locs hB ls (lv_sub hl [2, 3, 4, 5, 6, 7] rfl)
set_option maxRecDepth 100000 in
set_option maxHeartbeats 4000000 in
theorem aL_24 (K : Nat) (C : sLC p R l s m c cells slots args A D G b L xs i) (hsh : sSh r) (hn : 172 ≤ n) (hl : lv_has ls 9 (sLl b ad i)) (hB : sB D G A s.heap ad r v n x H locs) {q0 : (Int32 × (Int64 × UInt64)) × sR × sV × Nat} (h1 : fL_feed (((xs (i + 1)).toUInt32 % 65536).toInt32) r v n x = some q0) (hsh1 : sSh q0.2.1) {z : Int32 × sV} (h2 : fX7_feed (((xs (i + 1)).toUInt32 % 65536).toInt32) q0.2.2.1 = some z) (h3 : fX7_thrown z.2 = some q0.1.1) (h4 : q0.1.1 = 0 → q0.1.2.1 = z.1.toInt64) (hcs : cells + (q0.2.2.2 + 1) ≤ R.cells ∧ slots + (sz (n + q0.2.2.2) - sz n + 6) ≤ R.slots)
    (kk : ∀ ad1 : Nat → Nat, sGo n ad (n + q0.2.2.2) ad1 → ∀ (H : Heap) (locs : List Loc), sB D G A s.heap ad1 q0.2.1 z.2 (n + q0.2.2.2) q0.1.2 H locs → ∀ ls : Array Slot, lv_has ls 9 (sLl b ad1 i) → W p l e R s m args below meth c H locs (cells + (q0.2.2.2 + 1)) (slots + (sz (n + q0.2.2.2) - sz n + 6)) Q (F0 m 2027 ls [])) : W p l e R s m args below meth c H locs cells slots Q (F0 m 1768 ls []) := by
  obtain ⟨E, hU, hNc, hZ, hA0, hst, hX, hbl, hbA, hL, hi, hR⟩ := C
  have hts := E.2.2.2.2
  have hx : p.tables.exec = Jvm.exec := E.1
  have hb := E.2.1
  have hl : lv_has ls 9 [(5, .int (Int32.ofNat i)), (4, .ref (ad 171)), (3, .ref (ad 170)), (2, .ref (ad 157)), (1, .ref (ad 0)), (0, .ref b)] := hl
  refine lv_aload_n hx hb dL_law_1768 rfl (lv_at hl 4 rfl) ?_
  refine s_arg E hX hbl hbA hB.2.2 hl (k0 := 5) (k5 := 0) (kk := 1) rfl rfl rfl (by omega) hL dL_law_1769 dL_law_1770 dL_law_1772 dL_law_1773 dL_law_1774 ?_
  refine lv_i2c hx hb dL_law_1775 rfl ?_
  refine lv_aload_n hx hb dL_law_1776 rfl (lv_at hl 2 rfl) ?_
  refine sl_W hB hA0 (rS_L (As := [.ref (ad 0), .int (((xs (i + 1)).toUInt32 % 65536).toInt32), .ref (ad 170)]) (rest := []) E hU hNc hZ hA0 hB (mL_feed l hst D G ad r _ n x hsh hn (((xs (i + 1)).toUInt32 % 65536).toInt32) _ _ h1) (cwGH 3 okL_feed wmL_202 hts rfl rfl (sl_fr hR)) rfl hl.1 (Nat.le_of_ble_eq_true rfl) dL_law_1777 (sl_room hcs) rfl) (fun ad1 hg H locs hB => ?_)
  refine lv_istore hx hb dL_law_1780 hl (Nat.le_of_ble_eq_true rfl) rfl (fun ls hl => ?_)
  rw [← hg.2 0 (slt hn 0 rfl), ← hg.2 157 (slt hn 157 rfl), ← hg.2 170 (slt hn 170 rfl), ← hg.2 171 (slt hn 171 rfl)] at hl
  have hn1 : 172 ≤ n + q0.2.2.2 := by omega
  refine lv_aload_n hx hb dL_law_1782 rfl (lv_at hl 4 rfl) ?_
  refine s_arg E hX hbl hbA hB.2.2 hl (k0 := 6) (k5 := 1) (kk := 1) rfl rfl rfl (by omega) hL dL_law_1783 dL_law_1784 dL_law_1786 dL_law_1787 dL_law_1788 ?_
  refine lv_i2c hx hb dL_law_1789 rfl ?_
  refine sc_I hB hA0 (o := fX7_feed (((xs (i + 1)).toUInt32 % 65536).toInt32) q0.2.2.1) (f := fun z => some z) (res := z) (by rw [h2]; rfl) (fun q9 h9 => rV_W (As := [.int (((xs (i + 1)).toUInt32 % 65536).toInt32)]) (rest := []) E hU hB sc9 (slt hn1 157 rfl) rfl ((mX7_feed l D G ad1 q0.2.1 _ _ q0.1.2 hsh1 hn1 (((xs (i + 1)).toUInt32 % 65536).toInt32)) _ _ h9) (cwGV 1 okX7_feed wmL_205 hts rfl rfl (sl_fx hR (by decide))) rfl hl.1 (Nat.le_of_ble_eq_true rfl) dL_law_1790 ⟨hcs.1, hcs.2⟩ rfl) (fun y1 v1 hz H locs hB => ?_)
  obtain rfl := Option.some.inj hz
  refine lv_istore hx hb dL_law_1793 hl (Nat.le_of_ble_eq_true rfl) rfl (fun ls hl => ?_)
  refine lv_aload_n hx hb dL_law_1795 rfl (lv_at hl 5 rfl) ?_
  refine sc_R (o := fX7_thrown v1) (f := fun t => some t) (res := q0.1.1) (by rw [h3]; rfl) (rV_R (As := []) (rest := []) E hU hB.1 sc9 (slt hn1 157 rfl) rfl (mX7_thrown l D G ad1 q0.2.1 _ _ q0.1.2 hsh1 hn1) (cwGV 0 okX7_thrown wmL_123 hts rfl rfl (sl_fx hR (by decide))) rfl hl.1 (Nat.le_of_ble_eq_true rfl) dL_law_1796 ⟨hcs.1, hcs.2⟩ rfl) (fun t9 ht => ?_)
  obtain rfl := Option.some.inj ht
  refine lv_iload hx hb dL_law_1799 (lv_at hl 1 rfl) ?_
  refine lv_icmp_eq (tgt := 1806) hx hb dL_law_1801 rfl (fun _ => ?_) (fun hne => absurd rfl hne)
  refine lv_iload hx hb dL_law_1806 (lv_at hl 1 rfl) ?_
  refine lv_if_ne (tgt := 1823) hx hb dL_law_1808 rfl (fun _ => ?_) (fun heq => ?_)
  · refine lv_goto hx hb dL_law_1823 rfl ?_
    exact kk ad1 hg H locs hB ls (lv_sub hl [2, 3, 4, 5, 6, 7] rfl)
  · refine lv_aload_n hx hb dL_law_1811 rfl (lv_at hl 4 rfl) ?_
    refine lv_iconst hx hb dL_law_1812 rfl ?_
    refine s_lald E hU hB.1 (slt hn1 170 rfl) dL_law_1813 ?_
    refine lv_iload hx hb dL_law_1814 (lv_at hl 0 rfl) ?_
    refine lv_i2l hx hb dL_law_1816 rfl ?_
    refine s_lcmp0 E (h4 heq) dL_law_1817 ?_
    refine lv_if_eq (tgt := 1823) hx hb dL_law_1818 rfl (fun _ => ?_) (fun hne => absurd rfl hne)
    refine lv_goto hx hb dL_law_1823 rfl ?_
    exact kk ad1 hg H locs hB ls (lv_sub hl [2, 3, 4, 5, 6, 7] rfl)
end
