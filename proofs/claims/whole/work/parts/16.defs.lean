/-! WHAT EACH METHOD COMPUTES, by program out of its bytecode -/
def fX0_exists (cq : Nat) (bq : Nat) (x1 : Int32) (v : sV) : Option Int32 :=
  if x1 < 0 then (some 0) else (if 16 ≤ x1 then (some 0) else (ld v (bq + 4) 16 x1 (fun y1 => if y1 = (-1) then (some 0) else (some 1))))
def gX0_stuckOnes_4 (K : Nat) (cq : Nat) (bq : Nat) (v : sV) (k4 : Int32 → Int32 → Option Int32) (x1 : Int32) (x2 : Int32) : Option Int32 :=
  if 16 ≤ x2 then (some x1) else ((fX0_exists cq bq x2 v).bind (fun y1 => if y1 = 0 then (nm (x2 + 1) (fun z2 => k4 x1 z2)) else (ld v (bq + 8) 16 x2 (fun y3 => if y3 < 2 then (nm (x2 + 1) (fun z4 => k4 x1 z4)) else (nm (x1 ||| (1 <<< (x2 &&& 31))) (fun z5 => nm (x2 + 1) (fun z6 => k4 z5 z6)))))))
def fX0_stuckOnes (K : Nat) (cq : Nat) (bq : Nat) (v : sV) : Option Int32 :=
  fx2 (gX0_stuckOnes_4 K cq bq v) K 0 0
def fX6_isIn (x0 : Int32) (x1 : Int32) : Option Int32 :=
  if (x0 &&& (1 <<< (x1 &&& 31))) = 0 then (some 0) else (some 1)
def fX6_neighborOf (x0 : Int32) (x1 : Int32) : Option Int32 :=
  if x0 < 0 then (some (-1)) else (if x0 < 140 then (if x1 = 0 then (if x0 < 14 then (some (-1)) else (some (x0 - 14))) else (if x1 = 1 then (if 13 ≤ (x0 - x0 / 14 * 14) then (some (-1)) else (some (x0 + 1))) else (if x1 = 2 then (if 126 ≤ x0 then (some (-1)) else (some (x0 + 14))) else (if x1 = 3 then (if (x0 - x0 / 14 * 14) ≤ 0 then (some (-1)) else (some (x0 - 1))) else (some (-1)))))) else (some (-1)))
def gX0_agentOn_2 (K : Nat) (cq : Nat) (bq : Nat) (x1 : Int32) (v : sV) (k2 : Int32 → Option Int32) (x2 : Int32) : Option Int32 :=
  if x1 = (-1) then (some (-1)) else (if 16 ≤ x2 then (some (-1)) else (ld v (bq + 4) 16 x2 (fun y1 => if y1 = x1 then (some x2) else (nm (x2 + 1) (fun z2 => k2 z2)))))
def fX0_agentOn (K : Nat) (cq : Nat) (bq : Nat) (x1 : Int32) (v : sV) : Option Int32 :=
  fx1 (gX0_agentOn_2 K cq bq x1 v) K 0
def gX0_agentsBeside_4 (K : Nat) (cq : Nat) (bq : Nat) (x1 : Int32) (v : sV) (k4 : Int32 → Int32 → Option Int32) (x2 : Int32) (x3 : Int32) : Option Int32 :=
  if 4 ≤ x3 then (some x2) else ((fX6_neighborOf x1 x3).bind (fun y1 => (fX0_agentOn K cq bq y1 v).bind (fun y2 => if y2 = (-1) then (nm (x3 + 1) (fun z3 => k4 x2 z3)) else (nm (x2 ||| (1 <<< (y2 &&& 31))) (fun z4 => nm (x3 + 1) (fun z5 => k4 z4 z5))))))
def fX0_agentsBeside (K : Nat) (cq : Nat) (bq : Nat) (x1 : Int32) (v : sV) : Option Int32 :=
  fx2 (gX0_agentsBeside_4 K cq bq x1 v) K 0 0
def gX0_neighborsOf_4 (K : Nat) (cq : Nat) (bq : Nat) (x1 : Int32) (v : sV) (k4 : Int32 → Int32 → Option Int32) (x2 : Int32) (x3 : Int32) : Option Int32 :=
  if 16 ≤ x3 then (some x2) else ((fX6_isIn x1 x3).bind (fun y1 => if y1 = 0 then (nm (x3 + 1) (fun z2 => k4 x2 z2)) else (ld v (bq + 4) 16 x3 (fun y3 => (fX0_agentsBeside K cq bq y3 v).bind (fun y4 => nm (x2 ||| y4) (fun z5 => nm (x3 + 1) (fun z6 => k4 z5 z6)))))))
def fX0_neighborsOf (K : Nat) (cq : Nat) (bq : Nat) (x1 : Int32) (v : sV) : Option Int32 :=
  fx2 (gX0_neighborsOf_4 K cq bq x1 v) K 0 0
def fJ6_bitCount_0f7a4 (x0 : Int32) : Option Int32 :=
  nm (x0 - ((((x0 : Int32).toUInt32 >>> ((1 : Int32).toUInt32 &&& Int32.toUInt32 31)).toInt32) &&& 1431655765)) (fun z1 => nm ((z1 &&& 858993459) + ((((z1 : Int32).toUInt32 >>> ((2 : Int32).toUInt32 &&& Int32.toUInt32 31)).toInt32) &&& 858993459)) (fun z2 => nm ((z2 + (((z2 : Int32).toUInt32 >>> ((4 : Int32).toUInt32 &&& Int32.toUInt32 31)).toInt32)) &&& 252645135) (fun z3 => nm (z3 + (((z3 : Int32).toUInt32 >>> ((8 : Int32).toUInt32 &&& Int32.toUInt32 31)).toInt32)) (fun z4 => nm (z4 + (((z4 : Int32).toUInt32 >>> ((16 : Int32).toUInt32 &&& Int32.toUInt32 31)).toInt32)) (fun z5 => some (z5 &&& 63))))))
def bX0_jamFrom_68 (K : Nat) (cq : Nat) (bq : Nat) (x3 : Int32) (t0 : Int32) (v : sV) : Option Int32 :=
  if t0 = 0 then (some 0) else ((fJ6_bitCount_0f7a4 x3).bind (fun y3 => if y3 < 2 then (some 0) else (some x3)))
def bX0_jamFrom_53 (K : Nat) (cq : Nat) (bq : Nat) (x1 : Int32) (x3 : Int32) (v : sV) : Option Int32 :=
  if (x3 &&& ((1 <<< (x1 &&& 31)) - 1)) = 0 then (bX0_jamFrom_68 K cq bq x3 1 v) else (bX0_jamFrom_68 K cq bq x3 0 v)
def gX0_jamFrom_17 (K : Nat) (cq : Nat) (bq : Nat) (x1 : Int32) (x2 : Int32) (v : sV) (k17 : Int32 → Int32 → Option Int32) (x3 : Int32) (x4 : Int32) : Option Int32 :=
  if 16 ≤ x4 then (bX0_jamFrom_53 K cq bq x1 x3 v) else ((fX0_neighborsOf K cq bq x3 v).bind (fun y4 => nm (x3 ||| (y4 &&& x2)) (fun z5 => if z5 = x3 then (bX0_jamFrom_53 K cq bq x1 x3 v) else (nm (x4 + 1) (fun z6 => k17 z5 z6)))))
def fX0_jamFrom (K : Nat) (cq : Nat) (bq : Nat) (x1 : Int32) (x2 : Int32) (v : sV) : Option Int32 :=
  (fX6_isIn x2 x1).bind (fun y1 => if y1 = 0 then (some 0) else (nm (1 <<< (x1 &&& 31)) (fun z2 => fx2 (gX0_jamFrom_17 K cq bq x1 x2 v) K z2 1)))
def gX6_jams_12 (K : Nat) (x1 : Int32) (v : sV) (k12 : Int32 → Int32 → Option Int32) (x2 : Int32) (x3 : Int32) : Option Int32 :=
  if 16 ≤ x3 then (some x2) else ((fX0_jamFrom K 20 1 x3 x1 v).bind (fun y2 => if y2 = 0 then (nm (x3 + 1) (fun z3 => k12 x2 z3)) else (nm (x2 + 1) (fun z4 => nm (x3 + 1) (fun z5 => k12 z4 z5)))))
def fX6_jams (K : Nat) (v : sV) : Option Int32 :=
  (fX0_stuckOnes K 20 1 v).bind (fun y1 => fx2 (gX6_jams_12 K y1 v) K 0 0)
def fX5_copyFrom (bq : Nat) (dq : Nat) (v : sV) : Option sV :=
  cp v (bq + 1) (dq + 1) 140 (fun v1 => cp v1 (bq + 2) (dq + 2) 140 (fun v2 => cp v2 (bq + 3) (dq + 3) 4 (fun v3 => cp v3 (bq + 4) (dq + 4) 16 (fun v4 => cp v4 (bq + 5) (dq + 5) 16 (fun v5 => cp v5 (bq + 6) (dq + 6) 16 (fun v6 => cp v6 (bq + 7) (dq + 7) 16 (fun v7 => cp v7 (bq + 8) (dq + 8) 16 (fun v8 => cp v8 (bq + 9) (dq + 9) 16 (fun v9 => cp v9 (bq + 10) (dq + 10) 16 (fun v10 => cp v10 (bq + 11) (dq + 11) 16 (fun v11 => cp v11 (bq + 12) (dq + 12) 5 (fun v12 => sf v12 bq 12 (v12 dq 12) (fun v13 => some v13)))))))))))))
def gX0_all_4 (K : Nat) (cq : Nat) (bq : Nat) (v : sV) (k4 : Int32 → Int32 → Option Int32) (x1 : Int32) (x2 : Int32) : Option Int32 :=
  if 16 ≤ x2 then (some x1) else ((fX0_exists cq bq x2 v).bind (fun y1 => if y1 = 0 then (nm (x2 + 1) (fun z2 => k4 x1 z2)) else (nm (x1 ||| (1 <<< (x2 &&& 31))) (fun z3 => nm (x2 + 1) (fun z4 => k4 z3 z4)))))
def fX0_all (K : Nat) (cq : Nat) (bq : Nat) (v : sV) : Option Int32 :=
  fx2 (gX0_all_4 K cq bq v) K 0 0
def fX6_save (K : Nat) (v : sV) : Option (Int32 × sV) :=
  (fX5_copyFrom 141 1 v).bind (fun v1 => sf v1 0 6 1 (fun v2 => (fX0_all K 20 1 v2).bind (fun y3 => (fJ6_bitCount_0f7a4 y3).bind (fun y4 => some (y4, v2)))))
def fX6_isGoalOrNone (x0 : Int32) : Option Int32 :=
  if x0 < (-1) then (some 0) else (if 4 ≤ x0 then (some 0) else (some 1))
def fX6_isPriority (x0 : Int32) : Option Int32 :=
  if x0 < 0 then (some 0) else (if 9 < x0 then (some 0) else (some 1))
def fX6_isOffset (x0 : Int32) : Option Int32 :=
  if x0 < (-3) then (some 0) else (if 3 < x0 then (some 0) else (some 1))
def bX6_cellAt_25 (x0 : Int32) (x1 : Int32) (t0 : Int32) : Option Int32 :=
  if t0 = 0 then (some (-1)) else (some ((x1 * 14) + x0))
def fX6_cellAt (x0 : Int32) (x1 : Int32) : Option Int32 :=
  if x0 < 0 then (bX6_cellAt_25 x0 x1 0) else (if 14 ≤ x0 then (bX6_cellAt_25 x0 x1 0) else (if x1 < 0 then (bX6_cellAt_25 x0 x1 0) else (if 10 ≤ x1 then (bX6_cellAt_25 x0 x1 0) else (bX6_cellAt_25 x0 x1 1))))
def fX6_columnOf (x0 : Int32) : Option Int32 :=
  if x0 = (-1) then (some (-1)) else (some (x0 - x0 / 14 * 14))
def fX6_rowOf (x0 : Int32) : Option Int32 :=
  if x0 = (-1) then (some (-1)) else (some (x0 / 14))
def fX7_thrown (v : sV) : Option Int32 :=
  some (v 157 6)
def fX7_isIn (x0 : Int32) (x1 : Int32) (x2 : Int32) : Option Int32 :=
  if x0 < x1 then (some 0) else (if x2 < x0 then (some 0) else (some 1))
def fX7_isCell (x0 : Int32) (x1 : Int32) : Option Int32 :=
  (fX7_isIn x0 0 13).bind (fun y1 => if y1 = 0 then (some 0) else ((fX7_isIn x1 0 9).bind (fun y2 => if y2 = 0 then (some 0) else (some 1))))
def fX7_cellAt (x0 : Int32) (x1 : Int32) : Option Int32 :=
  some ((14 * x1) + x0)
def fX7_columnOf (x0 : Int32) : Option Int32 :=
  some (x0 - x0 / 14 * 14)
def fX7_rowOf (x0 : Int32) : Option Int32 :=
  some (x0 / 14)
def bX7_neighbor_47 (x2 : Int32) (t0 : Int32) (t1 : Int32) : Option Int32 :=
  nm (t0 + t1) (fun z4 => (fX7_isCell x2 z4).bind (fun y5 => if y5 = 0 then (some (-1)) else ((fX7_cellAt x2 z4).bind (fun y6 => some y6))))
def bX7_neighbor_23 (x0 : Int32) (x1 : Int32) (t0 : Int32) (t1 : Int32) : Option Int32 :=
  nm (t0 + t1) (fun z2 => (fX7_rowOf x0).bind (fun y3 => if x1 = 2 then (bX7_neighbor_47 z2 y3 1) else (if x1 = 0 then (bX7_neighbor_47 z2 y3 (-1)) else (bX7_neighbor_47 z2 y3 0))))
def fX7_neighbor (x0 : Int32) (x1 : Int32) : Option Int32 :=
  (fX7_columnOf x0).bind (fun y1 => if x1 = 1 then (bX7_neighbor_23 x0 x1 y1 1) else (if x1 = 3 then (bX7_neighbor_23 x0 x1 y1 (-1)) else (bX7_neighbor_23 x0 x1 y1 0)))
def fX7_isFree (x1 : Int32) (v : sV) : Option Int32 :=
  if x1 < 0 then (some 0) else (ld v 158 434 (0 + x1) (fun y1 => if y1 ≤ 0 then (some 0) else (some 1)))
def gX7_keeps_54 (K : Nat) (k54 : Int32 → sV → Option sV) (x1 : Int32) (v : sV) : Option sV :=
  if 434 ≤ x1 then (sf v 157 5 ((v 157 5) + 1) (fun v1 => some v1)) else (ld v 158 434 x1 (fun y2 => sa v 161 3472 ((434 * (v 157 5)) + x1) y2 (fun v3 => nm (x1 + 1) (fun z4 => k54 z4 v3))))
def gX7_keeps_13 (K : Nat) (k13 : Int32 → sV → Option sV) (x1 : Int32) (v : sV) : Option sV :=
  if 3472 ≤ x1 then (sf v 157 5 ((v 157 5) - 1) (fun v5 => fx2 (gX7_keeps_54 K) K 0 v5)) else (ld v 161 3472 x1 (fun y6 => sa v 161 3472 (x1 - 434) y6 (fun v7 => nm (x1 + 1) (fun z8 => k13 z8 v7))))
def fX7_keeps (K : Nat) (v : sV) : Option sV :=
  if (v 157 5) = 8 then (fx2 (gX7_keeps_13 K) K 434 v) else (fx2 (gX7_keeps_54 K) K 0 v)
def gX7_forgets_2 (K : Nat) (k2 : Int32 → sV → Option sV) (x1 : Int32) (v : sV) : Option sV :=
  if 140 ≤ x1 then (some v) else (sa v 164 140 x1 0 (fun v1 => nm (x1 + 1) (fun z2 => k2 z2 v1)))
def fX7_forgets (K : Nat) (v : sV) : Option sV :=
  fx2 (gX7_forgets_2 K) K 0 v
def gX7_undo_37 (K : Nat) (k37 : Int32 → sV → Option (Int32 × sV)) (x1 : Int32) (v : sV) : Option (Int32 × sV) :=
  if 434 ≤ x1 then ((fX7_forgets K v).bind (fun v3 => some ((v3 157 5), v3))) else (ld v 161 3472 ((434 * (v 157 5)) + x1) (fun y4 => sa v 158 434 x1 y4 (fun v5 => nm (x1 + 1) (fun z6 => k37 z6 v5))))
def bX7_undo_13 (K : Nat) (t1 : Int32) (v : sV) : Option (Int32 × sV) :=
  sf v 157 6 t1 (fun v1 => if (v1 157 6) = 0 then (sf v1 157 5 ((v1 157 5) - 1) (fun v2 => fx2 (gX7_undo_37 K) K 0 v2)) else (some (0, v1)))
def fX7_undo (K : Nat) (v : sV) : Option (Int32 × sV) :=
  if (v 157 5) = 0 then (bX7_undo_13 K 1 v) else (bX7_undo_13 K 0 v)
def bX7_measures_172 (K : Nat) (k59 : Int32 → Int32 → sV → Option sV) (k118 : Int32 → Int32 → sV → Option sV) (x1 : Int32) (x2 : Int32) (x3 : Int32) (x4 : Int32) (x5 : Int32) (x6 : Int32) (x7 : Int32) (v : sV) : Option sV :=
  sa v 162 19600 ((140 * x1) + x7) x5 (fun v14 => ld v14 165 140 x7 (fun y15 => if y15 = 0 then (sa v14 163 140 ((x2 + x3) - (x2 + x3) / 140 * 140) x7 (fun v17 => sa v17 165 140 x7 1 (fun v18 => nm (x3 + 1) (fun z19 => nm (x6 + 1) (fun z20 => k118 z19 z20 v18))))) else (nm (x6 + 1) (fun z16 => k118 x3 z16 v14))))
def gX7_measures_118 (K : Nat) (k59 : Int32 → Int32 → sV → Option sV) (x1 : Int32) (x2 : Int32) (x4 : Int32) (x5 : Int32) (k118 : Int32 → Int32 → sV → Option sV) (x3 : Int32) (x6 : Int32) (v : sV) : Option sV :=
  if 4 ≤ x6 then (k59 x2 x3 v) else ((fX7_neighbor x4 x6).bind (fun y11 => (fX7_isFree y11 v).bind (fun y12 => if y12 = 0 then (nm (x6 + 1) (fun z22 => k118 x3 z22 v)) else (ld v 162 19600 ((140 * x1) + y11) (fun y13 => if y13 < 0 then (bX7_measures_172 K k59 k118 x1 x2 x3 x4 x5 x6 y11 v) else (if y13 ≤ x5 then (nm (x6 + 1) (fun z21 => k118 x3 z21 v)) else (bX7_measures_172 K k59 k118 x1 x2 x3 x4 x5 x6 y11 v)))))))
def gX7_measures_59 (K : Nat) (x1 : Int32) (k59 : Int32 → Int32 → sV → Option sV) (x2 : Int32) (x3 : Int32) (v : sV) : Option sV :=
  if x3 ≤ 0 then (sa v 164 140 x1 1 (fun v3 => some v3)) else (ld v 163 140 x2 (fun y4 => nm ((x2 + 1) - (x2 + 1) / 140 * 140) (fun z5 => nm (x3 + (-1)) (fun z6 => sa v 165 140 y4 0 (fun v7 => ld v7 162 19600 ((140 * x1) + y4) (fun y8 => ld v7 158 434 (0 + y4) (fun y9 => nm (y8 + y9) (fun z10 => fx3 (gX7_measures_118 K k59 x1 z5 y4 z10) K z6 0 v7))))))))
def gX7_measures_2 (K : Nat) (x1 : Int32) (k2 : Int32 → sV → Option sV) (x2 : Int32) (v : sV) : Option sV :=
  if 140 ≤ x2 then (sa v 162 19600 ((140 * x1) + x1) 0 (fun v1 => sa v1 163 140 0 x1 (fun v2 => fx3 (gX7_measures_59 K x1) K 0 1 v2))) else (sa v 162 19600 ((140 * x1) + x2) (-1) (fun v23 => sa v23 165 140 x2 0 (fun v24 => nm (x2 + 1) (fun z25 => k2 z25 v24))))
def fX7_measures (K : Nat) (x1 : Int32) (v : sV) : Option sV :=
  fx2 (gX7_measures_2 K x1) K 0 v
def bX7_far_14 (K : Nat) (x1 : Int32) (x2 : Int32) (v : sV) : Option (Int32 × sV) :=
  ld v 162 19600 ((140 * x1) + x2) (fun y2 => some (y2, v))
def fX7_far (K : Nat) (x1 : Int32) (x2 : Int32) (v : sV) : Option (Int32 × sV) :=
  ld v 164 140 x1 (fun y1 => if y1 = 0 then ((fX7_measures K x1 v).bind (fun v3 => bX7_far_14 K x1 x2 v3)) else (bX7_far_14 K x1 x2 v))
def gX7_flowOf_10 (K : Nat) (x1 : Int32) (x2 : Int32) (x3 : Int32) (k10 : Int32 → sV → Option (Int32 × sV)) (x4 : Int32) (v : sV) : Option (Int32 × sV) :=
  if 4 ≤ x4 then (some ((-1), v)) else (if x3 ≤ 0 then (some ((-1), v)) else ((fX7_neighbor x2 x4).bind (fun y3 => (fX7_isFree y3 v).bind (fun y4 => if y4 = 0 then (nm (x4 + 1) (fun z5 => k10 z5 v)) else ((fX7_far K x1 y3 v).bind (fun (q9 : Int32 × sV) => (fun (y7 : Int32) (v6 : sV) => if y7 < 0 then (nm (x4 + 1) (fun z8 => k10 z8 v6)) else ((fX7_far K x1 y3 v6).bind (fun (q9 : Int32 × sV) => (fun (y10 : Int32) (v9 : sV) => ld v9 158 434 (0 + y3) (fun y11 => if (y10 + y11) = x3 then (some (x4, v9)) else (nm (x4 + 1) (fun z12 => k10 z12 v9)))) q9.1 q9.2))) q9.1 q9.2))))))
def fX7_flowOf (K : Nat) (x1 : Int32) (x2 : Int32) (v : sV) : Option (Int32 × sV) :=
  (fX7_far K x1 x2 v).bind (fun (q9 : Int32 × sV) => (fun (y2 : Int32) (v1 : sV) => fx2 (gX7_flowOf_10 K x1 x2 y2) K 0 v1) q9.1 q9.2)
def gX7_hasGoal_2 (K : Nat) (x1 : Int32) (v : sV) (k2 : Int32 → Option Int32) (x2 : Int32) : Option Int32 :=
  if 4 ≤ x2 then (some 0) else (ld v 158 434 (280 + x2) (fun y1 => if y1 = x1 then (some 1) else (nm (x2 + 1) (fun z2 => k2 z2))))
def fX7_hasGoal (K : Nat) (x1 : Int32) (v : sV) : Option Int32 :=
  fx1 (gX7_hasGoal_2 K x1 v) K 0
def fX7_at (x1 : Int32) (x2 : Int32) (v : sV) : Option Int32 :=
  ld v 158 434 ((290 + (9 * x1)) + x2) (fun y1 => some y1)
def fX7_isAgent (x1 : Int32) (v : sV) : Option Int32 :=
  (fX7_isIn x1 0 15).bind (fun y1 => if y1 = 0 then (some 0) else ((fX7_at x1 0 v).bind (fun y2 => if y2 = 1 then (some 1) else (some 0))))
def gX7_agentOn_2 (K : Nat) (x1 : Int32) (v : sV) (k2 : Int32 → Option Int32) (x2 : Int32) : Option Int32 :=
  if 16 ≤ x2 then (some (-1)) else ((fX7_isAgent x2 v).bind (fun y1 => if y1 = 0 then (nm (x2 + 1) (fun z2 => k2 z2)) else ((fX7_at x2 1 v).bind (fun y3 => if y3 = x1 then (some x2) else (nm (x2 + 1) (fun z4 => k2 z4))))))
def fX7_agentOn (K : Nat) (x1 : Int32) (v : sV) : Option Int32 :=
  fx1 (gX7_agentOn_2 K x1 v) K 0
def bX7_setCell_75 (K : Nat) (x3 : Int32) (x4 : Int32) (t1 : Int32) (v : sV) : Option (Int32 × sV) :=
  sf v 157 6 t1 (fun v5 => if (v5 157 6) = 0 then ((fX7_keeps K v5).bind (fun v6 => ld v6 158 434 (0 + x4) (fun y7 => sa v6 158 434 (0 + x4) x3 (fun v8 => (fX7_forgets K v8).bind (fun v9 => some (y7, v9)))))) else (some (0, v5)))
def bX7_setCell_28 (K : Nat) (x1 : Int32) (x2 : Int32) (x3 : Int32) (t1 : Int32) (v : sV) : Option (Int32 × sV) :=
  sf v 157 6 t1 (fun v3 => if (v3 157 6) = 0 then ((fX7_cellAt x1 x2).bind (fun y4 => if x3 = 0 then ((fX7_hasGoal K y4 v3).bind (fun y10 => if y10 = 0 then ((fX7_agentOn K y4 v3).bind (fun y11 => if y11 < 0 then (bX7_setCell_75 K x3 y4 0 v3) else (bX7_setCell_75 K x3 y4 3 v3))) else (bX7_setCell_75 K x3 y4 3 v3))) else (bX7_setCell_75 K x3 y4 0 v3))) else (some (0, v3)))
def fX7_setCell (K : Nat) (x1 : Int32) (x2 : Int32) (x3 : Int32) (v : sV) : Option (Int32 × sV) :=
  (fX7_isCell x1 x2).bind (fun y1 => if y1 = 0 then (bX7_setCell_28 K x1 x2 x3 1 v) else ((fX7_isIn x3 0 9).bind (fun y2 => if y2 = 0 then (bX7_setCell_28 K x1 x2 x3 2 v) else (bX7_setCell_28 K x1 x2 x3 0 v))))
def bX7_cell_82 (K : Nat) (x5 : Int32) (v : sV) : Option (Int32 × sV) :=
  if 4 ≤ x5 then (some ((-1), v)) else (some (x5, v))
def gX7_cell_54 (K : Nat) (x4 : Int32) (v : sV) (k54 : Int32 → Option (Int32 × sV)) (x5 : Int32) : Option (Int32 × sV) :=
  if 4 ≤ x5 then (bX7_cell_82 K x5 v) else (ld v 158 434 (280 + x5) (fun y8 => if y8 = x4 then (bX7_cell_82 K x5 v) else (nm (x5 + 1) (fun z9 => k54 z9))))
def bX7_cell_27 (K : Nat) (x1 : Int32) (x2 : Int32) (x3 : Int32) (t1 : Int32) (v : sV) : Option (Int32 × sV) :=
  sf v 157 6 t1 (fun v3 => if (v3 157 6) = 0 then ((fX7_cellAt x1 x2).bind (fun y4 => if x3 = 3 then (fx1 (gX7_cell_54 K y4 v3) K 0) else (if x3 = 0 then (ld v3 158 434 (0 + y4) (fun y7 => some (y7, v3))) else (if x3 = 1 then ((fX7_agentOn K y4 v3).bind (fun y6 => some (y6, v3))) else (ld v3 158 434 (140 + y4) (fun y5 => some (y5, v3))))))) else (some (0, v3)))
def fX7_cell (K : Nat) (x1 : Int32) (x2 : Int32) (x3 : Int32) (v : sV) : Option (Int32 × sV) :=
  (fX7_isCell x1 x2).bind (fun y1 => if y1 = 0 then (bX7_cell_27 K x1 x2 x3 1 v) else ((fX7_isIn x3 0 3).bind (fun y2 => if y2 = 0 then (bX7_cell_27 K x1 x2 x3 2 v) else (bX7_cell_27 K x1 x2 x3 0 v))))
def fX7_isGoal (x0 : Int32) : Option Int32 :=
  (fX7_isIn x0 0 3).bind (fun y1 => ckz y1 (some y1))
def gX7_setGoal_78 (K : Nat) (x4 : Int32) (k78 : Int32 → Int32 → sV → Option (Int32 × sV)) (x5 : Int32) (x6 : Int32) (v : sV) : Option (Int32 × sV) :=
  if 140 ≤ x6 then (some (x5, v)) else ((fX7_far K x4 x6 v).bind (fun (q9 : Int32 × sV) => (fun (y7 : Int32) (v6 : sV) => if y7 < 0 then (nm (x5 + 0) (fun z8 => nm (x6 + 1) (fun z9 => k78 z8 z9 v6))) else (nm (x5 + 1) (fun z10 => nm (x6 + 1) (fun z11 => k78 z10 z11 v6)))) q9.1 q9.2))
def bX7_setGoal_37 (K : Nat) (x1 : Int32) (x2 : Int32) (x3 : Int32) (t1 : Int32) (v : sV) : Option (Int32 × sV) :=
  sf v 157 6 t1 (fun v2 => if (v2 157 6) = 0 then ((fX7_keeps K v2).bind (fun v3 => (fX7_cellAt x2 x3).bind (fun y4 => sa v3 158 434 (280 + x1) y4 (fun v5 => fx3 (gX7_setGoal_78 K y4) K 0 0 v5)))) else (some (0, v2)))
def fX7_setGoal (K : Nat) (x1 : Int32) (x2 : Int32) (x3 : Int32) (v : sV) : Option (Int32 × sV) :=
  (fX7_isGoal x1).bind (fun y1 => if y1 = 0 then (bX7_setGoal_37 K x1 x2 x3 1 v) else ((fX7_isCell x2 x3).bind (fun y12 => if y12 = 0 then (bX7_setGoal_37 K x1 x2 x3 1 v) else ((fX7_cellAt x2 x3).bind (fun y13 => (fX7_isFree y13 v).bind (fun y14 => if y14 = 0 then (bX7_setGoal_37 K x1 x2 x3 2 v) else (bX7_setGoal_37 K x1 x2 x3 0 v)))))))
def gX7_dropGoal_61 (K : Nat) (x1 : Int32) (v : sV) (k61 : Int32 → Int32 → Option (Int32 × sV)) (x2 : Int32) (x3 : Int32) : Option (Int32 × sV) :=
  if 16 ≤ x3 then (some (x2, v)) else ((fX7_isAgent x3 v).bind (fun y6 => if y6 = 0 then (nm (x2 + 0) (fun z7 => nm (x3 + 1) (fun z8 => k61 z7 z8))) else ((fX7_at x3 2 v).bind (fun y9 => if y9 = x1 then (nm (x2 + 1) (fun z12 => nm (x3 + 1) (fun z13 => k61 z12 z13))) else (nm (x2 + 0) (fun z10 => nm (x3 + 1) (fun z11 => k61 z10 z11)))))))
def bX7_dropGoal_30 (K : Nat) (x1 : Int32) (t1 : Int32) (v : sV) : Option (Int32 × sV) :=
  sf v 157 6 t1 (fun v3 => if (v3 157 6) = 0 then ((fX7_keeps K v3).bind (fun v4 => sa v4 158 434 (280 + x1) (-1) (fun v5 => fx2 (gX7_dropGoal_61 K x1 v5) K 0 0))) else (some (0, v3)))
def fX7_dropGoal (K : Nat) (x1 : Int32) (v : sV) : Option (Int32 × sV) :=
  (fX7_isGoal x1).bind (fun y1 => if y1 = 0 then (bX7_dropGoal_30 K x1 1 v) else (ld v 158 434 (280 + x1) (fun y2 => if 0 ≤ y2 then (bX7_dropGoal_30 K x1 0 v) else (bX7_dropGoal_30 K x1 2 v))))
def fX7_wrongGoal (x1 : Int32) (x2 : Int32) (x3 : Int32) (v : sV) : Option Int32 :=
  (fX7_isGoal x1).bind (fun y1 => if y1 = 0 then (some 1) else ((fX7_isCell x2 x3).bind (fun y2 => if y2 = 0 then (some 1) else (ld v 158 434 (280 + x1) (fun y3 => if 0 ≤ y3 then (some 0) else (some 2))))))
def fX7_distance (K : Nat) (x1 : Int32) (x2 : Int32) (x3 : Int32) (v : sV) : Option (Int32 × sV) :=
  (fX7_wrongGoal x1 x2 x3 v).bind (fun y1 => sf v 157 6 y1 (fun v2 => if (v2 157 6) = 0 then (ld v2 158 434 (280 + x1) (fun y3 => (fX7_cellAt x2 x3).bind (fun y4 => (fX7_far K y3 y4 v2).bind (fun (q9 : Int32 × sV) => (fun (y6 : Int32) (v5 : sV) => some (y6, v5)) q9.1 q9.2)))) else (some (0, v2))))
def fX7_flow (K : Nat) (x1 : Int32) (x2 : Int32) (x3 : Int32) (v : sV) : Option (Int32 × sV) :=
  (fX7_wrongGoal x1 x2 x3 v).bind (fun y1 => sf v 157 6 y1 (fun v2 => if (v2 157 6) = 0 then (ld v2 158 434 (280 + x1) (fun y3 => (fX7_cellAt x2 x3).bind (fun y4 => (fX7_flowOf K y3 y4 v2).bind (fun (q9 : Int32 × sV) => (fun (y6 : Int32) (v5 : sV) => some (y6, v5)) q9.1 q9.2)))) else (some (0, v2))))
def gX7_steps_55 (K : Nat) (x5 : Int32) (k55 : Int32 → Int32 → sV → Option (Int32 × sV)) (x4 : Int32) (x6 : Int32) (v : sV) : Option (Int32 × sV) :=
  if x4 = x5 then (some (x6, v)) else ((fX7_flowOf K x5 x4 v).bind (fun (q9 : Int32 × sV) => (fun (y8 : Int32) (v7 : sV) => (fX7_neighbor x4 y8).bind (fun y9 => nm (x6 + 1) (fun z10 => k55 y9 z10 v7))) q9.1 q9.2))
def fX7_steps (K : Nat) (x1 : Int32) (x2 : Int32) (x3 : Int32) (v : sV) : Option (Int32 × sV) :=
  (fX7_wrongGoal x1 x2 x3 v).bind (fun y1 => sf v 157 6 y1 (fun v2 => if (v2 157 6) = 0 then ((fX7_cellAt x2 x3).bind (fun y3 => ld v2 158 434 (280 + x1) (fun y4 => (fX7_far K y4 y3 v2).bind (fun (q9 : Int32 × sV) => (fun (y6 : Int32) (v5 : sV) => if 0 ≤ y6 then (fx3 (gX7_steps_55 K y4) K y3 0 v5) else (some ((-1), v5))) q9.1 q9.2)))) else (some (0, v2))))
def bX7_setPatience_16 (K : Nat) (x1 : Int32) (t1 : Int32) (v : sV) : Option (Int32 × sV) :=
  sf v 157 6 t1 (fun v2 => if (v2 157 6) = 0 then ((fX7_keeps K v2).bind (fun v3 => ld v3 158 434 284 (fun y4 => sa v3 158 434 284 x1 (fun v5 => some (y4, v5))))) else (some (0, v2)))
def fX7_setPatience (K : Nat) (x1 : Int32) (v : sV) : Option (Int32 × sV) :=
  (fX7_isIn x1 0 9).bind (fun y1 => if y1 = 0 then (bX7_setPatience_16 K x1 1 v) else (bX7_setPatience_16 K x1 0 v))
def fX7_put (x1 : Int32) (x2 : Int32) (x3 : Int32) (v : sV) : Option sV :=
  sa v 158 434 ((290 + (9 * x1)) + x2) x3 (fun v1 => some v1)
def gX7_many_4 (K : Nat) (v : sV) (k4 : Int32 → Int32 → Option Int32) (x1 : Int32) (x2 : Int32) : Option Int32 :=
  if 16 ≤ x2 then (some x1) else ((fX7_isAgent x2 v).bind (fun y1 => if y1 = 0 then (nm (x1 + 0) (fun z2 => nm (x2 + 1) (fun z3 => k4 z2 z3))) else (nm (x1 + 1) (fun z4 => nm (x2 + 1) (fun z5 => k4 z4 z5)))))
def fX7_many (K : Nat) (v : sV) : Option Int32 :=
  fx2 (gX7_many_4 K v) K 0 0
def gX7_add_127 (K : Nat) (x3 : Int32) (x4 : Int32) (x5 : Int32) (x6 : Int32) (k127 : Int32 → sV → Option (Int32 × sV)) (x7 : Int32) (v : sV) : Option (Int32 × sV) :=
  if 9 ≤ x7 then ((fX7_put x6 0 1 v).bind (fun v9 => (fX7_put x6 1 x5 v9).bind (fun v10 => (fX7_put x6 2 x3 v10).bind (fun v11 => (fX7_put x6 3 x4 v11).bind (fun v12 => (fX7_put x6 6 (-1) v12).bind (fun v13 => some (x6, v13))))))) else ((fX7_put x6 x7 0 v).bind (fun v14 => nm (x7 + 1) (fun z15 => k127 z15 v14)))
def gX7_add_109 (K : Nat) (x3 : Int32) (x4 : Int32) (x5 : Int32) (v : sV) (k109 : Int32 → Option (Int32 × sV)) (x6 : Int32) : Option (Int32 × sV) :=
  (fX7_isAgent x6 v).bind (fun y8 => if y8 = 0 then (fx2 (gX7_add_127 K x3 x4 x5 x6) K 0 v) else (nm (x6 + 1) (fun z16 => k109 z16)))
def bX7_add_90 (K : Nat) (x3 : Int32) (x4 : Int32) (x5 : Int32) (t1 : Int32) (v : sV) : Option (Int32 × sV) :=
  sf v 157 6 t1 (fun v6 => if (v6 157 6) = 0 then ((fX7_keeps K v6).bind (fun v7 => fx1 (gX7_add_109 K x3 x4 x5 v7) K 0)) else (some (0, v6)))
def bX7_add_38 (K : Nat) (x1 : Int32) (x2 : Int32) (x3 : Int32) (x4 : Int32) (t1 : Int32) (v : sV) : Option (Int32 × sV) :=
  sf v 157 6 t1 (fun v3 => if (v3 157 6) = 0 then ((fX7_cellAt x1 x2).bind (fun y4 => (fX7_isFree y4 v3).bind (fun y5 => if y5 = 0 then (bX7_add_90 K x3 x4 y4 3 v3) else ((fX7_agentOn K y4 v3).bind (fun y17 => if 0 ≤ y17 then (bX7_add_90 K x3 x4 y4 3 v3) else ((fX7_many K v3).bind (fun y18 => if y18 = 16 then (bX7_add_90 K x3 x4 y4 3 v3) else (bX7_add_90 K x3 x4 y4 0 v3)))))))) else (some (0, v3)))
def fX7_add (K : Nat) (x1 : Int32) (x2 : Int32) (x3 : Int32) (x4 : Int32) (v : sV) : Option (Int32 × sV) :=
  (fX7_isCell x1 x2).bind (fun y1 => if y1 = 0 then (bX7_add_38 K x1 x2 x3 x4 1 v) else ((fX7_isIn x3 (-1) 3).bind (fun y2 => if y2 = 0 then (bX7_add_38 K x1 x2 x3 x4 2 v) else ((fX7_isIn x4 0 9).bind (fun y19 => if y19 = 0 then (bX7_add_38 K x1 x2 x3 x4 2 v) else (bX7_add_38 K x1 x2 x3 x4 0 v))))))
def gX7_members_4 (K : Nat) (x1 : Int32) (v : sV) (k4 : Int32 → Int32 → Option Int32) (x2 : Int32) (x3 : Int32) : Option Int32 :=
  if 16 ≤ x3 then (some x2) else ((fX7_isAgent x3 v).bind (fun y1 => if y1 = 0 then (nm (x2 + 0) (fun z2 => nm (x3 + 1) (fun z3 => k4 z2 z3))) else ((fX7_at x3 6 v).bind (fun y4 => if y4 = x1 then (nm (x2 + 1) (fun z7 => nm (x3 + 1) (fun z8 => k4 z7 z8))) else (nm (x2 + 0) (fun z5 => nm (x3 + 1) (fun z6 => k4 z5 z6)))))))
def fX7_members (K : Nat) (x1 : Int32) (v : sV) : Option Int32 :=
  fx2 (gX7_members_4 K x1 v) K 0 0
def gX7_remove_39 (K : Nat) (x1 : Int32) (k39 : Int32 → sV → Option (Int32 × sV)) (x2 : Int32) (v : sV) : Option (Int32 × sV) :=
  if 16 ≤ x2 then ((fX7_many K v).bind (fun y5 => some (y5, v))) else ((fX7_isAgent x2 v).bind (fun y6 => if y6 = 0 then (nm (x2 + 1) (fun z7 => k39 z7 v)) else ((fX7_at x2 6 v).bind (fun y8 => if y8 = x1 then ((fX7_put x2 6 (-1) v).bind (fun v10 => nm (x2 + 1) (fun z11 => k39 z11 v10))) else (nm (x2 + 1) (fun z9 => k39 z9 v))))))
def bX7_remove_14 (K : Nat) (x1 : Int32) (t1 : Int32) (v : sV) : Option (Int32 × sV) :=
  sf v 157 6 t1 (fun v2 => if (v2 157 6) = 0 then ((fX7_keeps K v2).bind (fun v3 => (fX7_put x1 0 0 v3).bind (fun v4 => fx2 (gX7_remove_39 K x1) K 0 v4))) else (some (0, v2)))
def fX7_remove (K : Nat) (x1 : Int32) (v : sV) : Option (Int32 × sV) :=
  (fX7_isAgent x1 v).bind (fun y1 => if y1 = 0 then (bX7_remove_14 K x1 1 v) else (bX7_remove_14 K x1 0 v))
def bX7_change_69 (K : Nat) (x1 : Int32) (x3 : Int32) (t0 : Int32) (v : sV) : Option (Int32 × sV) :=
  (fX7_at x1 t0 v).bind (fun y5 => (fX7_put x1 t0 x3 v).bind (fun v6 => some (y5, v6)))
def bX7_change_44 (K : Nat) (x1 : Int32) (x2 : Int32) (x3 : Int32) (t1 : Int32) (v : sV) : Option (Int32 × sV) :=
  sf v 157 6 t1 (fun v3 => if (v3 157 6) = 0 then ((fX7_keeps K v3).bind (fun v4 => if x2 = 0 then (bX7_change_69 K x1 x3 3 v4) else (bX7_change_69 K x1 x3 2 v4))) else (some (0, v3)))
def fX7_change (K : Nat) (x1 : Int32) (x2 : Int32) (x3 : Int32) (v : sV) : Option (Int32 × sV) :=
  (fX7_isAgent x1 v).bind (fun y1 => if y1 = 0 then (bX7_change_44 K x1 x2 x3 1 v) else (if x2 = 0 then ((fX7_isIn x3 0 9).bind (fun y2 => if y2 = 0 then (bX7_change_44 K x1 x2 x3 2 v) else (bX7_change_44 K x1 x2 x3 0 v))) else ((fX7_isIn x3 (-1) 3).bind (fun y7 => if y7 = 0 then (bX7_change_44 K x1 x2 x3 2 v) else (bX7_change_44 K x1 x2 x3 0 v)))))
def bX7_target_136 (x2 : Int32) (x6 : Int32) (t0 : Int32) (v : sV) : Option Int32 :=
  (fX7_at x2 1 v).bind (fun y5 => (fX7_columnOf y5).bind (fun y6 => nm (y6 + x6) (fun z7 => (fX7_rowOf y5).bind (fun y8 => nm (y8 + t0) (fun z9 => (fX7_isCell z7 z9).bind (fun y10 => if y10 = 0 then (some y5) else ((fX7_cellAt z7 z9).bind (fun y11 => (fX7_isFree y11 v).bind (fun y12 => if y12 = 0 then (some y5) else ((fX7_cellAt z7 z9).bind (fun y13 => some y13)))))))))))
def bX7_target_100 (x2 : Int32) (x3 : Int32) (x4 : Int32) (x5 : Int32) (t0 : Int32) (v : sV) : Option Int32 :=
  if x5 = 0 then (bX7_target_136 x2 t0 x4 v) else (if x5 = 1 then (bX7_target_136 x2 t0 x3 v) else (if x5 = 2 then (bX7_target_136 x2 t0 (-x4) v) else (bX7_target_136 x2 t0 (-x3) v)))
def fX7_target (x1 : Int32) (v : sV) : Option Int32 :=
  (fX7_at x1 6 v).bind (fun y1 => if 0 ≤ y1 then ((fX7_at x1 7 v).bind (fun y2 => (fX7_at x1 8 v).bind (fun y3 => (fX7_at y1 4 v).bind (fun y4 => if y4 = 0 then (bX7_target_100 y1 y2 y3 y4 y2 v) else (if y4 = 1 then (bX7_target_100 y1 y2 y3 y4 (-y3) v) else (if y4 = 2 then (bX7_target_100 y1 y2 y3 y4 (-y2) v) else (bX7_target_100 y1 y2 y3 y4 y3 v))))))) else ((fX7_at x1 2 v).bind (fun y14 => if 0 ≤ y14 then ((fX7_at x1 2 v).bind (fun y15 => ld v 158 434 (280 + y15) (fun y16 => some y16))) else (some (-1)))))
def fX7_isSettled (x1 : Int32) (v : sV) : Option Int32 :=
  (fX7_target x1 v).bind (fun y1 => if y1 < 0 then (some 1) else ((fX7_at x1 1 v).bind (fun y2 => if y1 = y2 then (some 1) else (some 0))))
def fX7_farFor (K : Nat) (x1 : Int32) (x2 : Int32) (v : sV) : Option (Int32 × sV) :=
  (fX7_target x1 v).bind (fun y1 => if 0 ≤ y1 then ((fX7_far K y1 x2 v).bind (fun (q9 : Int32 × sV) => (fun (y3 : Int32) (v2 : sV) => some (y3, v2)) q9.1 q9.2)) else (some ((-1), v)))
def bX7_agent_28 (K : Nat) (x1 : Int32) (x2 : Int32) (t1 : Int32) (v : sV) : Option (Int32 × sV) :=
  sf v 157 6 t1 (fun v3 => if (v3 157 6) = 0 then ((fX7_target x1 v3).bind (fun y4 => if x2 = 0 then ((fX7_at x1 1 v3).bind (fun y5 => (fX7_columnOf y5).bind (fun y6 => some (y6, v3)))) else (if x2 = 1 then ((fX7_at x1 1 v3).bind (fun y7 => (fX7_rowOf y7).bind (fun y8 => some (y8, v3)))) else (if x2 = 2 then ((fX7_at x1 x2 v3).bind (fun y9 => some (y9, v3))) else (if x2 = 3 then ((fX7_at x1 x2 v3).bind (fun y10 => some (y10, v3))) else (if x2 = 4 then ((fX7_at x1 x2 v3).bind (fun y11 => some (y11, v3))) else (if x2 = 5 then ((fX7_at x1 x2 v3).bind (fun y12 => some (y12, v3))) else (if x2 = 6 then ((fX7_at x1 x2 v3).bind (fun y13 => some (y13, v3))) else (if x2 = 7 then (if 0 ≤ y4 then ((fX7_columnOf y4).bind (fun y14 => some (y14, v3))) else (some ((-1), v3))) else (if x2 = 8 then (if 0 ≤ y4 then ((fX7_rowOf y4).bind (fun y15 => some (y15, v3))) else (some ((-1), v3))) else (if x2 = 9 then ((fX7_at x1 1 v3).bind (fun y16 => (fX7_farFor K x1 y16 v3).bind (fun (q9 : Int32 × sV) => (fun (y18 : Int32) (v17 : sV) => some (y18, v17)) q9.1 q9.2))) else (if x2 = 10 then ((fX7_isSettled x1 v3).bind (fun y19 => if y19 = 0 then (some (0, v3)) else (some (1, v3)))) else ((fX7_at x1 x2 v3).bind (fun y20 => some (y20, v3))))))))))))))) else (some (0, v3)))
def fX7_agent (K : Nat) (x1 : Int32) (x2 : Int32) (v : sV) : Option (Int32 × sV) :=
  (fX7_isAgent x1 v).bind (fun y1 => if y1 = 0 then (bX7_agent_28 K x1 x2 1 v) else ((fX7_isIn x2 0 10).bind (fun y2 => if y2 = 0 then (bX7_agent_28 K x1 x2 2 v) else (bX7_agent_28 K x1 x2 0 v))))
def fX7_isStuck (x1 : Int32) (v : sV) : Option Int32 :=
  (fX7_isAgent x1 v).bind (fun y1 => if y1 = 0 then (some 0) else ((fX7_at x1 5 v).bind (fun y2 => if y2 < 2 then (some 0) else (some 1))))
def bX7_agents_106 (K : Nat) (k22 : Int32 → Int32 → Option (Int32 × sV)) (x1 : Int32) (x2 : Int32) (x3 : Int32) (t0 : Int32) (v : sV) : Option (Int32 × sV) :=
  if t0 = 0 then (nm (x2 ||| 0) (fun z4 => nm (x3 + 1) (fun z5 => k22 z4 z5))) else (nm (x2 ||| (1 <<< (x3 &&& 31))) (fun z6 => nm (x3 + 1) (fun z7 => k22 z6 z7)))
def bX7_agents_86 (K : Nat) (k22 : Int32 → Int32 → Option (Int32 × sV)) (x1 : Int32) (x2 : Int32) (x3 : Int32) (v : sV) : Option (Int32 × sV) :=
  if x1 = 4 then ((fX7_at x3 6 v).bind (fun y8 => if y8 < 0 then (bX7_agents_106 K k22 x1 x2 x3 0 v) else (bX7_agents_106 K k22 x1 x2 x3 1 v))) else (bX7_agents_106 K k22 x1 x2 x3 0 v)
def bX7_agents_73 (K : Nat) (k22 : Int32 → Int32 → Option (Int32 × sV)) (x1 : Int32) (x2 : Int32) (x3 : Int32) (v : sV) : Option (Int32 × sV) :=
  if x1 = 3 then ((fX7_members K x3 v).bind (fun y9 => if 0 < y9 then (bX7_agents_106 K k22 x1 x2 x3 1 v) else (bX7_agents_86 K k22 x1 x2 x3 v))) else (bX7_agents_86 K k22 x1 x2 x3 v)
def bX7_agents_60 (K : Nat) (k22 : Int32 → Int32 → Option (Int32 × sV)) (x1 : Int32) (x2 : Int32) (x3 : Int32) (v : sV) : Option (Int32 × sV) :=
  if x1 = 2 then ((fX7_isStuck x3 v).bind (fun y10 => if y10 = 0 then (bX7_agents_73 K k22 x1 x2 x3 v) else (bX7_agents_106 K k22 x1 x2 x3 1 v))) else (bX7_agents_73 K k22 x1 x2 x3 v)
def gX7_agents_22 (K : Nat) (x1 : Int32) (v : sV) (k22 : Int32 → Int32 → Option (Int32 × sV)) (x2 : Int32) (x3 : Int32) : Option (Int32 × sV) :=
  if 16 ≤ x3 then (some (x2, v)) else (if (v 157 6) = 0 then ((fX7_isAgent x3 v).bind (fun y3 => if y3 = 0 then (bX7_agents_106 K k22 x1 x2 x3 0 v) else (if x1 = 0 then (bX7_agents_106 K k22 x1 x2 x3 1 v) else (if x1 = 1 then ((fX7_isSettled x3 v).bind (fun y11 => if y11 = 0 then (bX7_agents_60 K k22 x1 x2 x3 v) else (bX7_agents_106 K k22 x1 x2 x3 1 v))) else (bX7_agents_60 K k22 x1 x2 x3 v))))) else (some (x2, v)))
def fX7_agents (K : Nat) (x1 : Int32) (v : sV) : Option (Int32 × sV) :=
  (fX7_isIn x1 0 4).bind (fun y1 => if y1 = 0 then (sf v 157 6 1 (fun v2 => fx2 (gX7_agents_22 K x1 v2) K 0 0)) else (sf v 157 6 0 (fun v12 => fx2 (gX7_agents_22 K x1 v12) K 0 0)))
def bX7_join_83 (K : Nat) (x1 : Int32) (x2 : Int32) (x3 : Int32) (x4 : Int32) (t1 : Int32) (v : sV) : Option (Int32 × sV) :=
  sf v 157 6 t1 (fun v2 => if (v2 157 6) = 0 then ((fX7_keeps K v2).bind (fun v3 => (fX7_put x1 6 x2 v3).bind (fun v4 => (fX7_put x1 7 x3 v4).bind (fun v5 => (fX7_put x1 8 x4 v5).bind (fun v6 => (fX7_members K x2 v6).bind (fun y7 => some (y7, v6))))))) else (some (0, v2)))
def bX7_join_60 (K : Nat) (x1 : Int32) (x2 : Int32) (x3 : Int32) (x4 : Int32) (v : sV) : Option (Int32 × sV) :=
  (fX7_members K x1 v).bind (fun y11 => if 0 < y11 then (bX7_join_83 K x1 x2 x3 x4 3 v) else ((fX7_at x2 6 v).bind (fun y12 => if y12 < 0 then (bX7_join_83 K x1 x2 x3 x4 0 v) else (bX7_join_83 K x1 x2 x3 x4 3 v))))
def fX7_join (K : Nat) (x1 : Int32) (x2 : Int32) (x3 : Int32) (x4 : Int32) (v : sV) : Option (Int32 × sV) :=
  (fX7_isAgent x1 v).bind (fun y1 => if y1 = 0 then (bX7_join_83 K x1 x2 x3 x4 1 v) else ((fX7_isAgent x2 v).bind (fun y8 => if y8 = 0 then (bX7_join_83 K x1 x2 x3 x4 1 v) else (if x1 = x2 then (bX7_join_83 K x1 x2 x3 x4 2 v) else ((fX7_isIn x3 (-3) 3).bind (fun y9 => if y9 = 0 then (bX7_join_83 K x1 x2 x3 x4 2 v) else ((fX7_isIn x4 (-3) 3).bind (fun y10 => if y10 = 0 then (bX7_join_83 K x1 x2 x3 x4 2 v) else (if x3 = 0 then (if x4 = 0 then (bX7_join_83 K x1 x2 x3 x4 2 v) else (bX7_join_60 K x1 x2 x3 x4 v)) else (bX7_join_60 K x1 x2 x3 x4 v))))))))))
def bX7_leave_28 (K : Nat) (x1 : Int32) (t1 : Int32) (v : sV) : Option (Int32 × sV) :=
  sf v 157 6 t1 (fun v3 => if (v3 157 6) = 0 then ((fX7_keeps K v3).bind (fun v4 => (fX7_at x1 6 v4).bind (fun y5 => (fX7_put x1 6 (-1) v4).bind (fun v6 => some (y5, v6))))) else (some (0, v3)))
def fX7_leave (K : Nat) (x1 : Int32) (v : sV) : Option (Int32 × sV) :=
  (fX7_isAgent x1 v).bind (fun y1 => if y1 = 0 then (bX7_leave_28 K x1 1 v) else ((fX7_at x1 6 v).bind (fun y2 => if 0 ≤ y2 then (bX7_leave_28 K x1 0 v) else (bX7_leave_28 K x1 2 v))))
def fX7_apart (x0 : Int32) (x1 : Int32) : Option Int32 :=
  (fX7_columnOf x0).bind (fun y1 => (fX7_columnOf x1).bind (fun y2 => (fX7_rowOf x0).bind (fun y3 => (fX7_rowOf x1).bind (fun y4 => some ((if 0 ≤ (y1 - y2) then (y1 - y2) else 0 - (y1 - y2)) + (if 0 ≤ (y3 - y4) then (y3 - y4) else 0 - (y3 - y4)))))))
def gX7_disorder_33 (K : Nat) (x1 : Int32) (v : sV) (k33 : Int32 → Int32 → Option (Int32 × sV)) (x2 : Int32) (x3 : Int32) : Option (Int32 × sV) :=
  if 16 ≤ x3 then (some (x2, v)) else (if (v 157 6) = 0 then ((fX7_isAgent x3 v).bind (fun y4 => if y4 = 0 then (nm (x2 + 0) (fun z5 => nm (x3 + 1) (fun z6 => k33 z5 z6))) else ((fX7_at x3 6 v).bind (fun y7 => if y7 = x1 then ((fX7_at x3 1 v).bind (fun y10 => (fX7_target x3 v).bind (fun y11 => (fX7_apart y10 y11).bind (fun y12 => nm (x2 + y12) (fun z13 => nm (x3 + 1) (fun z14 => k33 z13 z14)))))) else (nm (x2 + 0) (fun z8 => nm (x3 + 1) (fun z9 => k33 z8 z9))))))) else (some (x2, v)))
def fX7_disorder (K : Nat) (x1 : Int32) (v : sV) : Option (Int32 × sV) :=
  (fX7_isAgent x1 v).bind (fun y1 => if y1 = 0 then (sf v 157 6 1 (fun v16 => fx2 (gX7_disorder_33 K x1 v16) K 0 0)) else ((fX7_members K x1 v).bind (fun y2 => if y2 = 0 then (sf v 157 6 2 (fun v15 => fx2 (gX7_disorder_33 K x1 v15) K 0 0)) else (sf v 157 6 0 (fun v3 => fx2 (gX7_disorder_33 K x1 v3) K 0 0)))))
def fX7_moves (x1 : Int32) (x2 : Int32) (v : sV) : Option sV :=
  (fX7_at x1 1 v).bind (fun y1 => (fX7_neighbor y1 x2).bind (fun y2 => (fX7_put x1 1 y2 v).bind (fun v3 => (fX7_put x1 4 x2 v3).bind (fun v4 => ld v4 158 434 (140 + y2) (fun y5 => sa v4 158 434 (140 + y2) (y5 + 1) (fun v6 => some v6))))))
def fX7_movesItself (x1 : Int32) (x2 : Int32) (v : sV) : Option sV :=
  (fX7_moves x1 x2 v).bind (fun v1 => (fX7_put x1 5 0 v1).bind (fun v2 => ld v2 158 434 286 (fun y3 => sa v2 158 434 286 (y3 + 1) (fun v4 => some v4))))
def fX7_isEmpty (K : Nat) (x1 : Int32) (v : sV) : Option Int32 :=
  (fX7_isFree x1 v).bind (fun y1 => if y1 = 0 then (some 0) else ((fX7_agentOn K x1 v).bind (fun y2 => if 0 ≤ y2 then (some 0) else (some 1))))
def bX7_isPushed_60 (K : Nat) (k7 : Int32 → Int32 → Int32 → sV → Option (Int32 × sV)) (x1 : Int32) (x2 : Int32) (x3 : Int32) (x4 : Int32) (t0 : Int32) (v : sV) : Option (Int32 × sV) :=
  if x2 < 0 then (nm (x4 + 1) (fun z10 => k7 x4 t0 z10 v)) else (if x3 ≤ t0 then (nm (x4 + 1) (fun z11 => k7 x2 x3 z11 v)) else (nm (x4 + 1) (fun z12 => k7 x4 t0 z12 v)))
def gX7_isPushed_7 (K : Nat) (x1 : Int32) (k7 : Int32 → Int32 → Int32 → sV → Option (Int32 × sV)) (x2 : Int32) (x3 : Int32) (x4 : Int32) (v : sV) : Option (Int32 × sV) :=
  if 4 ≤ x4 then (if 0 ≤ x2 then ((fX7_moves x1 x2 v).bind (fun v1 => sa v1 167 16 x1 1 (fun v2 => ld v2 158 434 287 (fun y3 => sa v2 158 434 287 (y3 + 1) (fun v4 => some (1, v4)))))) else (some (0, v))) else ((fX7_at x1 1 v).bind (fun y5 => (fX7_neighbor y5 x4).bind (fun y6 => (fX7_isEmpty K y6 v).bind (fun y7 => if y7 = 0 then (nm (x4 + 1) (fun z13 => k7 x2 x3 z13 v)) else ((fX7_farFor K x1 y6 v).bind (fun (q9 : Int32 × sV) => (fun (y9 : Int32) (v8 : sV) => if 0 ≤ y9 then (bX7_isPushed_60 K k7 x1 x2 x3 x4 y9 v8) else (bX7_isPushed_60 K k7 x1 x2 x3 x4 9999 v8)) q9.1 q9.2))))))
def fX7_isPushed (K : Nat) (x1 : Int32) (v : sV) : Option (Int32 × sV) :=
  fx4 (gX7_isPushed_7 K x1) K (-1) 0 0 v
def gX7_detour_11 (K : Nat) (x1 : Int32) (x2 : Int32) (k11 : Int32 → Int32 → Int32 → sV → Option (Int32 × sV)) (x4 : Int32) (x5 : Int32) (x6 : Int32) (v : sV) : Option (Int32 × sV) :=
  if 4 ≤ x6 then (some (x4, v)) else ((fX7_at x1 1 v).bind (fun y2 => (fX7_neighbor y2 x6).bind (fun y3 => (fX7_isEmpty K y3 v).bind (fun y4 => if y4 = 0 then (nm (x6 + 1) (fun z5 => k11 x4 x5 z5 v)) else ((fX7_far K x2 y3 v).bind (fun (q9 : Int32 × sV) => (fun (y7 : Int32) (v6 : sV) => if y7 < 0 then (nm (x6 + 1) (fun z8 => k11 x4 x5 z8 v6)) else ((fX7_far K x2 y3 v6).bind (fun (q9 : Int32 × sV) => (fun (y10 : Int32) (v9 : sV) => if x5 ≤ y10 then (nm (x6 + 1) (fun z11 => k11 x4 x5 z11 v9)) else ((fX7_far K x2 y3 v9).bind (fun (q9 : Int32 × sV) => (fun (y13 : Int32) (v12 : sV) => nm (x6 + 1) (fun z14 => k11 x6 y13 z14 v12)) q9.1 q9.2))) q9.1 q9.2))) q9.1 q9.2))))))
def fX7_detour (K : Nat) (x1 : Int32) (x2 : Int32) (x3 : Int32) (v : sV) : Option (Int32 × sV) :=
  nm (x3 + 3) (fun z1 => fx4 (gX7_detour_11 K x1 x2) K (-1) z1 0 v)
def fX7_waits (x1 : Int32) (v : sV) : Option sV :=
  (fX7_at x1 5 v).bind (fun y1 => (fX7_put x1 5 (y1 + 1) v).bind (fun v2 => ld v2 158 434 289 (fun y3 => sa v2 158 434 289 (y3 + 1) (fun v4 => some v4))))
def bX7_turns_187 (K : Nat) (x1 : Int32) (t0 : Int32) (v : sV) : Option sV :=
  if 0 ≤ t0 then ((fX7_movesItself x1 t0 v).bind (fun v16 => ld v16 158 434 288 (fun y17 => sa v16 158 434 288 (y17 + 1) (fun v18 => some v18)))) else ((fX7_waits x1 v).bind (fun v19 => some v19))
def bX7_turns_159 (K : Nat) (x1 : Int32) (x2 : Int32) (x3 : Int32) (v : sV) : Option sV :=
  (fX7_at x1 5 v).bind (fun y14 => ld v 158 434 284 (fun y15 => if y14 < y15 then (bX7_turns_187 K x1 (-1) v) else ((fX7_detour K x1 x2 x3 v).bind (fun (q9 : Int32 × sV) => (fun (y21 : Int32) (v20 : sV) => bX7_turns_187 K x1 y21 v20) q9.1 q9.2))))
def bX7_turns_130 (K : Nat) (x1 : Int32) (x2 : Int32) (x3 : Int32) (x4 : Int32) (x5 : Int32) (t0 : Int32) (v : sV) : Option sV :=
  if x5 < 0 then ((fX7_movesItself x1 x4 v).bind (fun v13 => some v13)) else (if t0 = 0 then (bX7_turns_159 K x1 x2 x3 v) else ((fX7_isPushed K x5 v).bind (fun (q9 : Int32 × sV) => (fun (y23 : Int32) (v22 : sV) => if y23 = 0 then (bX7_turns_159 K x1 x2 x3 v22) else ((fX7_movesItself x1 x4 v22).bind (fun v24 => some v24))) q9.1 q9.2)))
def fX7_turns (K : Nat) (x1 : Int32) (v : sV) : Option sV :=
  (fX7_isSettled x1 v).bind (fun y1 => if y1 = 0 then (ld v 167 16 x1 (fun y2 => if y2 = 0 then ((fX7_target x1 v).bind (fun y3 => (fX7_at x1 1 v).bind (fun y4 => (fX7_far K y3 y4 v).bind (fun (q9 : Int32 × sV) => (fun (y6 : Int32) (v5 : sV) => if 0 ≤ y6 then ((fX7_at x1 1 v5).bind (fun y7 => (fX7_flowOf K y3 y7 v5).bind (fun (q9 : Int32 × sV) => (fun (y9 : Int32) (v8 : sV) => (fX7_at x1 1 v8).bind (fun y10 => (fX7_neighbor y10 y9).bind (fun y11 => (fX7_agentOn K y11 v8).bind (fun y12 => if y12 < 0 then (bX7_turns_130 K x1 y3 y6 y9 y12 0 v8) else ((fX7_at y12 3 v8).bind (fun y25 => (fX7_at x1 3 v8).bind (fun y26 => if y26 ≤ y25 then (bX7_turns_130 K x1 y3 y6 y9 y12 0 v8) else (ld v8 166 16 y12 (fun y27 => if y27 = 0 then (ld v8 167 16 y12 (fun y28 => if y28 = 0 then (bX7_turns_130 K x1 y3 y6 y9 y12 1 v8) else (bX7_turns_130 K x1 y3 y6 y9 y12 0 v8))) else (bX7_turns_130 K x1 y3 y6 y9 y12 0 v8)))))))))) q9.1 q9.2))) else ((fX7_waits x1 v5).bind (fun v29 => some v29))) q9.1 q9.2)))) else (some v))) else ((fX7_put x1 5 0 v).bind (fun v30 => some v30)))
def gX7_nextInTurn_4 (K : Nat) (v : sV) (k4 : Int32 → Int32 → Option Int32) (x1 : Int32) (x2 : Int32) : Option Int32 :=
  if 16 ≤ x2 then (some x1) else ((fX7_isAgent x2 v).bind (fun y1 => if y1 = 0 then (nm (x2 + 1) (fun z2 => k4 x1 z2)) else (ld v 166 16 x2 (fun y3 => if y3 = 0 then (if x1 < 0 then (nm (x2 + 1) (fun z5 => k4 x2 z5)) else ((fX7_at x2 3 v).bind (fun y6 => (fX7_at x1 3 v).bind (fun y7 => if y6 ≤ y7 then (nm (x2 + 1) (fun z8 => k4 x1 z8)) else (nm (x2 + 1) (fun z9 => k4 x2 z9)))))) else (nm (x2 + 1) (fun z4 => k4 x1 z4))))))
def fX7_nextInTurn (K : Nat) (v : sV) : Option Int32 :=
  fx2 (gX7_nextInTurn_4 K v) K (-1) 0
def gX7_ticks_45 (K : Nat) (k45 : Int32 → sV → Option sV) (x1 : Int32) (v : sV) : Option sV :=
  if x1 < 0 then (some v) else (sa v 166 16 x1 1 (fun v4 => (fX7_turns K x1 v4).bind (fun v5 => (fX7_nextInTurn K v5).bind (fun y6 => k45 y6 v5))))
def gX7_ticks_14 (K : Nat) (k14 : Int32 → sV → Option sV) (x1 : Int32) (v : sV) : Option sV :=
  if 16 ≤ x1 then ((fX7_nextInTurn K v).bind (fun y3 => fx2 (gX7_ticks_45 K) K y3 v)) else (sa v 166 16 x1 0 (fun v7 => sa v7 167 16 x1 0 (fun v8 => nm (x1 + 1) (fun z9 => k14 z9 v8))))
def fX7_ticks (K : Nat) (v : sV) : Option sV :=
  ld v 158 434 285 (fun y1 => sa v 158 434 285 (y1 + 1) (fun v2 => fx2 (gX7_ticks_14 K) K 0 v2))
def gX7_tick_34 (K : Nat) (x1 : Int32) (k34 : Int32 → sV → Option (Int32 × sV)) (x2 : Int32) (v : sV) : Option (Int32 × sV) :=
  if x1 ≤ x2 then (ld v 158 434 285 (fun y4 => some (y4, v))) else ((fX7_ticks K v).bind (fun v5 => nm (x2 + 1) (fun z6 => k34 z6 v5)))
def bX7_tick_16 (K : Nat) (x1 : Int32) (t1 : Int32) (v : sV) : Option (Int32 × sV) :=
  sf v 157 6 t1 (fun v2 => if (v2 157 6) = 0 then ((fX7_keeps K v2).bind (fun v3 => fx2 (gX7_tick_34 K x1) K 0 v3)) else (some (0, v2)))
def fX7_tick (K : Nat) (x1 : Int32) (v : sV) : Option (Int32 × sV) :=
  (fX7_isIn x1 1 50).bind (fun y1 => if y1 = 0 then (bX7_tick_16 K x1 1 v) else (bX7_tick_16 K x1 0 v))
def bX7_statistic_15 (x1 : Int32) (t1 : Int32) (v : sV) : Option (Int32 × sV) :=
  sf v 157 6 t1 (fun v2 => if (v2 157 6) = 0 then (ld v2 158 434 (285 + x1) (fun y3 => some (y3, v2))) else (some (0, v2)))
def fX7_statistic (x1 : Int32) (v : sV) : Option (Int32 × sV) :=
  (fX7_isIn x1 0 4).bind (fun y1 => if y1 = 0 then (bX7_statistic_15 x1 1 v) else (bX7_statistic_15 x1 0 v))
def gX7_forecast_98 (K : Nat) (x2 : Int32) (k98 : Int32 → sV → Option (Int32 × sV)) (x3 : Int32) (v : sV) : Option (Int32 × sV) :=
  if 434 ≤ x3 then (if (v 157 6) = 0 then (some (x2, v)) else (some (0, v))) else (ld v 160 434 x3 (fun y5 => sa v 158 434 x3 y5 (fun v6 => nm (x3 + 1) (fun z7 => k98 z7 v6))))
def bX7_forecast_79 (K : Nat) (x1 : Int32) (x2 : Int32) (v : sV) : Option (Int32 × sV) :=
  (fX7_isSettled x1 v).bind (fun y3 => if y3 = 0 then (sf v 157 6 2 (fun v4 => fx2 (gX7_forecast_98 K x2) K 0 v4)) else (sf v 157 6 0 (fun v8 => fx2 (gX7_forecast_98 K x2) K 0 v8)))
def gX7_forecast_55 (K : Nat) (x1 : Int32) (k55 : Int32 → sV → Option (Int32 × sV)) (x2 : Int32) (v : sV) : Option (Int32 × sV) :=
  if 100 ≤ x2 then (bX7_forecast_79 K x1 x2 v) else ((fX7_isSettled x1 v).bind (fun y9 => if y9 = 0 then ((fX7_ticks K v).bind (fun v10 => nm (x2 + 1) (fun z11 => k55 z11 v10))) else (bX7_forecast_79 K x1 x2 v)))
def gX7_forecast_28 (K : Nat) (x1 : Int32) (k28 : Int32 → sV → Option (Int32 × sV)) (x2 : Int32) (v : sV) : Option (Int32 × sV) :=
  if 434 ≤ x2 then (fx2 (gX7_forecast_55 K x1) K 0 v) else (ld v 158 434 x2 (fun y12 => sa v 160 434 x2 y12 (fun v13 => nm (x2 + 1) (fun z14 => k28 z14 v13))))
def bX7_forecast_14 (K : Nat) (x1 : Int32) (t1 : Int32) (v : sV) : Option (Int32 × sV) :=
  sf v 157 6 t1 (fun v2 => if (v2 157 6) = 0 then (fx2 (gX7_forecast_28 K x1) K 0 v2) else (some (0, v2)))
def fX7_forecast (K : Nat) (x1 : Int32) (v : sV) : Option (Int32 × sV) :=
  (fX7_isAgent x1 v).bind (fun y1 => if y1 = 0 then (bX7_forecast_14 K x1 1 v) else (bX7_forecast_14 K x1 0 v))
def bX7_bottleneck_65 (K : Nat) (x1 : Int32) (t1 : Int32) (v : sV) : Option (Int32 × sV) :=
  sf v 157 6 t1 (fun v2 => if (v2 157 6) = 0 then ((fX7_rowOf x1).bind (fun y3 => (fX7_columnOf x1).bind (fun y4 => some (((100 * y3) + y4), v2)))) else (some (0, v2)))
def gX7_bottleneck_4 (K : Nat) (v : sV) (k4 : Int32 → Int32 → Option (Int32 × sV)) (x1 : Int32) (x2 : Int32) : Option (Int32 × sV) :=
  if 140 ≤ x2 then (ld v 158 434 (140 + x1) (fun y1 => if y1 = 0 then (bX7_bottleneck_65 K x1 1 v) else (bX7_bottleneck_65 K x1 0 v))) else (ld v 158 434 (140 + x2) (fun y5 => ld v 158 434 (140 + x1) (fun y6 => if y5 ≤ y6 then (nm (x2 + 1) (fun z7 => k4 x1 z7)) else (nm (x2 + 1) (fun z8 => k4 x2 z8)))))
def fX7_bottleneck (K : Nat) (v : sV) : Option (Int32 × sV) :=
  fx2 (gX7_bottleneck_4 K v) K 0 1
def gX7_bits_4 (K : Nat) (k4 : Int32 → Int32 → Option Int32) (x1 : Int32) (x2 : Int32) : Option Int32 :=
  if x2 = 0 then (some x1) else (nm (x1 + 1) (fun z1 => nm (x2 &&& (x2 - 1)) (fun z2 => k4 z1 z2)))
def fX7_bits (K : Nat) (x0 : Int32) : Option Int32 :=
  fx2 (gX7_bits_4 K) K 0 x0
def gX7_connected_26 (K : Nat) (k6 : Int32 → Int32 → Option Int32) (k16 : Int32 → Int32 → Option Int32) (x3 : Int32) (x4 : Int32) (v : sV) (k26 : Int32 → Int32 → Option Int32) (x2 : Int32) (x5 : Int32) : Option Int32 :=
  if 16 ≤ x5 then (nm (x4 + 1) (fun z2 => k16 x2 z2)) else (if ((x3 >>> (x4 &&& 31)) &&& 1) = 1 then ((fX7_isStuck x5 v).bind (fun y4 => if y4 = 0 then (nm (x2 ||| 0) (fun z5 => nm (x5 + 1) (fun z6 => k26 z5 z6))) else ((fX7_at x4 1 v).bind (fun y7 => (fX7_at x5 1 v).bind (fun y8 => (fX7_apart y7 y8).bind (fun y9 => if y9 = 1 then (nm (x2 ||| (1 <<< (x5 &&& 31))) (fun z12 => nm (x5 + 1) (fun z13 => k26 z12 z13))) else (nm (x2 ||| 0) (fun z10 => nm (x5 + 1) (fun z11 => k26 z10 z11))))))))) else (nm (x4 + 1) (fun z3 => k16 x2 z3)))
def gX7_connected_16 (K : Nat) (k6 : Int32 → Int32 → Option Int32) (x3 : Int32) (v : sV) (k16 : Int32 → Int32 → Option Int32) (x2 : Int32) (x4 : Int32) : Option Int32 :=
  if 16 ≤ x4 then (k6 x2 x3) else (fx2 (gX7_connected_26 K k6 k16 x3 x4 v) K x2 0)
def gX7_connected_6 (K : Nat) (v : sV) (k6 : Int32 → Int32 → Option Int32) (x2 : Int32) (x3 : Int32) : Option Int32 :=
  if x2 = x3 then (some x2) else (fx2 (gX7_connected_16 K k6 x2 v) K x2 0)
def fX7_connected (K : Nat) (x1 : Int32) (v : sV) : Option Int32 :=
  nm (1 <<< (x1 &&& 31)) (fun z1 => fx2 (gX7_connected_6 K v) K z1 0)
def gX7_jamOf_7 (K : Nat) (x1 : Int32) (v : sV) (k7 : Int32 → Int32 → Int32 → Option Int32) (x2 : Int32) (x3 : Int32) (x4 : Int32) : Option Int32 :=
  if 16 ≤ x4 then (if 0 ≤ x1 then (some 0) else (some x3)) else ((fX7_isStuck x4 v).bind (fun y1 => if y1 = 0 then (nm (x4 + 1) (fun z2 => k7 x2 x3 z2)) else (if ((x2 >>> (x4 &&& 31)) &&& 1) = 1 then (nm (x4 + 1) (fun z9 => k7 x2 x3 z9)) else ((fX7_connected K x4 v).bind (fun y3 => nm (x2 ||| y3) (fun z4 => (fX7_bits K y3).bind (fun y5 => if y5 ≤ 1 then (nm (x4 + 1) (fun z6 => k7 z4 x3 z6)) else (if x3 = x1 then (some y3) else (nm (x3 + 1) (fun z7 => nm (x4 + 1) (fun z8 => k7 z4 z7 z8)))))))))))
def fX7_jamOf (K : Nat) (x1 : Int32) (v : sV) : Option Int32 :=
  fx3 (gX7_jamOf_7 K x1 v) K 0 0 0
def fX7_jams (K : Nat) (v : sV) : Option (Int32 × sV) :=
  sf v 157 6 0 (fun v1 => (fX7_jamOf K (-1) v1).bind (fun y2 => some (y2, v1)))
def bX7_freeAround_73 (K : Nat) (k4 : Int32 → Int32 → Option Int32) (x1 : Int32) (x2 : Int32) (x3 : Int32) (x4 : Int32) (v : sV) : Option Int32 :=
  if x4 = 0 then (nm (x2 + 0) (fun z1 => nm (x3 + 1) (fun z2 => k4 z1 z2))) else (nm (x2 + 1) (fun z3 => nm (x3 + 1) (fun z4 => k4 z3 z4)))
def gX7_freeAround_17 (K : Nat) (k4 : Int32 → Int32 → Option Int32) (x1 : Int32) (x2 : Int32) (x3 : Int32) (v : sV) (k17 : Int32 → Int32 → Option Int32) (x4 : Int32) (x5 : Int32) : Option Int32 :=
  if 16 ≤ x5 then (bX7_freeAround_73 K k4 x1 x2 x3 x4 v) else ((fX7_isEmpty K x3 v).bind (fun y5 => if y5 = 0 then (bX7_freeAround_73 K k4 x1 x2 x3 x4 v) else (if ((x1 >>> (x5 &&& 31)) &&& 1) = 1 then ((fX7_at x5 1 v).bind (fun y8 => (fX7_apart y8 x3).bind (fun y9 => if y9 = 1 then (nm (x4 ||| 1) (fun z12 => nm (x5 + 1) (fun z13 => k17 z12 z13))) else (nm (x4 ||| 0) (fun z10 => nm (x5 + 1) (fun z11 => k17 z10 z11)))))) else (nm (x4 ||| 0) (fun z6 => nm (x5 + 1) (fun z7 => k17 z6 z7))))))
def gX7_freeAround_4 (K : Nat) (x1 : Int32) (v : sV) (k4 : Int32 → Int32 → Option Int32) (x2 : Int32) (x3 : Int32) : Option Int32 :=
  if 140 ≤ x3 then (some x2) else (fx2 (gX7_freeAround_17 K k4 x1 x2 x3 v) K 0 0)
def fX7_freeAround (K : Nat) (x1 : Int32) (v : sV) : Option Int32 :=
  fx2 (gX7_freeAround_4 K x1 v) K 0 0
def gX7_waitsOf_4 (K : Nat) (x1 : Int32) (v : sV) (k4 : Int32 → Int32 → Option Int32) (x2 : Int32) (x3 : Int32) : Option Int32 :=
  if 16 ≤ x3 then (some x2) else (if ((x1 >>> (x3 &&& 31)) &&& 1) = 1 then ((fX7_at x3 5 v).bind (fun y3 => nm (x2 + y3) (fun z4 => nm (x3 + 1) (fun z5 => k4 z4 z5)))) else (nm (x2 + 0) (fun z1 => nm (x3 + 1) (fun z2 => k4 z1 z2))))
def fX7_waitsOf (K : Nat) (x1 : Int32) (v : sV) : Option Int32 :=
  fx2 (gX7_waitsOf_4 K x1 v) K 0 0
def bX7_jam_37 (K : Nat) (x2 : Int32) (x3 : Int32) (t1 : Int32) (v : sV) : Option (Int32 × sV) :=
  sf v 157 6 t1 (fun v3 => if (v3 157 6) = 0 then (if x2 = 0 then (some (x3, v3)) else (if x2 = 1 then ((fX7_bits K x3).bind (fun y6 => some (y6, v3))) else (if x2 = 2 then ((fX7_waitsOf K x3 v3).bind (fun y5 => some (y5, v3))) else ((fX7_freeAround K x3 v3).bind (fun y4 => some (y4, v3)))))) else (some (0, v3)))
def bX7_jam_13 (K : Nat) (x2 : Int32) (t0 : Int32) (v : sV) : Option (Int32 × sV) :=
  if t0 = 0 then (bX7_jam_37 K x2 t0 1 v) else ((fX7_isIn x2 0 3).bind (fun y2 => if y2 = 0 then (bX7_jam_37 K x2 t0 2 v) else (bX7_jam_37 K x2 t0 0 v)))
def fX7_jam (K : Nat) (x1 : Int32) (x2 : Int32) (v : sV) : Option (Int32 × sV) :=
  if 0 ≤ x1 then ((fX7_jamOf K x1 v).bind (fun y1 => bX7_jam_13 K x2 y1 v)) else (bX7_jam_13 K x2 0 v)
def bX7_meanDistance_75 (K : Nat) (x1 : Int32) (x2 : Int32) (t1 : Int32) (v : sV) : Option (UInt64 × sV) :=
  sf v 157 6 t1 (fun v1 => if (v1 157 6) = 0 then (ddv (FP.i2d x2) (FP.i2d x1) (fun y2 => some (y2, v1))) else (some (FP.dconst0, v1)))
def bX7_meanDistance_48 (K : Nat) (k6 : Int32 → Int32 → Int32 → sV → Option (UInt64 × sV)) (x2 : Int32) (x3 : Int32) (x4 : Int32) (t0 : Int32) (t1 : Int32) (v : sV) : Option (UInt64 × sV) :=
  nm (t0 + t1) (fun z4 => nm (x2 + (if 0 < x4 then x4 else 0)) (fun z5 => nm (x3 + 1) (fun z6 => k6 z4 z5 z6 v)))
def bX7_meanDistance_35 (K : Nat) (k6 : Int32 → Int32 → Int32 → sV → Option (UInt64 × sV)) (x1 : Int32) (x2 : Int32) (x3 : Int32) (t0 : Int32) (v : sV) : Option (UInt64 × sV) :=
  if 0 ≤ t0 then (bX7_meanDistance_48 K k6 x2 x3 t0 x1 1 v) else (bX7_meanDistance_48 K k6 x2 x3 t0 x1 0 v)
def gX7_meanDistance_6 (K : Nat) (k6 : Int32 → Int32 → Int32 → sV → Option (UInt64 × sV)) (x1 : Int32) (x2 : Int32) (x3 : Int32) (v : sV) : Option (UInt64 × sV) :=
  if 16 ≤ x3 then (if x1 = 0 then (bX7_meanDistance_75 K x1 x2 1 v) else (bX7_meanDistance_75 K x1 x2 0 v)) else ((fX7_isAgent x3 v).bind (fun y3 => if y3 = 0 then (bX7_meanDistance_35 K k6 x1 x2 x3 (-1) v) else ((fX7_at x3 1 v).bind (fun y7 => (fX7_farFor K x3 y7 v).bind (fun (q9 : Int32 × sV) => (fun (y9 : Int32) (v8 : sV) => bX7_meanDistance_35 K k6 x1 x2 x3 y9 v8) q9.1 q9.2)))))
def fX7_meanDistance (K : Nat) (v : sV) : Option (UInt64 × sV) :=
  fx4 (gX7_meanDistance_6 K) K 0 0 0 v
def bX7_density_43 (K : Nat) (x1 : Int32) (t1 : Int32) (v : sV) : Option (UInt32 × sV) :=
  sf v 157 6 t1 (fun v1 => if (v1 157 6) = 0 then ((fX7_many K v1).bind (fun y2 => fdv (FP.i2f y2) (FP.i2f x1) (fun y3 => some (y3, v1)))) else (some (FP.fconst0, v1)))
def gX7_density_4 (K : Nat) (v : sV) (k4 : Int32 → Int32 → Option (UInt32 × sV)) (x1 : Int32) (x2 : Int32) : Option (UInt32 × sV) :=
  if 140 ≤ x2 then (if x1 = 0 then (bX7_density_43 K x1 1 v) else (bX7_density_43 K x1 0 v)) else ((fX7_isFree x2 v).bind (fun y4 => if y4 = 0 then (nm (x1 + 0) (fun z5 => nm (x2 + 1) (fun z6 => k4 z5 z6))) else (nm (x1 + 1) (fun z7 => nm (x2 + 1) (fun z8 => k4 z7 z8)))))
def fX7_density (K : Nat) (v : sV) : Option (UInt32 × sV) :=
  fx2 (gX7_density_4 K v) K 0 0
def bX7_feed_16 (x1 : Int32) (t1 : Int32) (v : sV) : Option (Int32 × sV) :=
  sf v 157 6 t1 (fun v1 => if (v1 157 6) = 0 then (sa v1 168 150 (v1 157 15) x1 (fun v2 => sf v2 157 15 ((v2 157 15) + 1) (fun v3 => some ((v3 157 15), v3)))) else (some (0, v1)))
def fX7_feed (x1 : Int32) (v : sV) : Option (Int32 × sV) :=
  if (v 157 15) = 150 then (bX7_feed_16 x1 1 v) else (bX7_feed_16 x1 0 v)
def bX7_reads_88 (K : Nat) (k28 : Int32 → Int32 → Int32 → sV → Option (Int32 × sV)) (x1 : Int32) (x2 : Int32) (x3 : Int32) (v : sV) : Option (Int32 × sV) :=
  if 14 ≤ x1 then (some (x3, v)) else ((fX7_cellAt x1 x2).bind (fun y3 => ld v 168 150 x3 (fun y4 => if y4 = 35 then (sa v 169 140 y3 0 (fun v9 => nm (x1 + 1) (fun z10 => nm (x3 + 1) (fun z11 => k28 z10 x2 z11 v9)))) else (ld v 168 150 x3 (fun y5 => sa v 169 140 y3 (y5 - 48) (fun v6 => nm (x1 + 1) (fun z7 => nm (x3 + 1) (fun z8 => k28 z7 x2 z8 v6))))))))
def bX7_reads_61 (K : Nat) (k28 : Int32 → Int32 → Int32 → sV → Option (Int32 × sV)) (x1 : Int32) (x2 : Int32) (x3 : Int32) (v : sV) : Option (Int32 × sV) :=
  ld v 168 150 x3 (fun y2 => if y2 = 35 then (bX7_reads_88 K k28 x1 x2 x3 v) else (ld v 168 150 x3 (fun y12 => (fX7_isIn y12 49 57).bind (fun y13 => if y13 = 0 then (some (x3, v)) else (bX7_reads_88 K k28 x1 x2 x3 v)))))
def gX7_reads_28 (K : Nat) (k28 : Int32 → Int32 → Int32 → sV → Option (Int32 × sV)) (x1 : Int32) (x2 : Int32) (x3 : Int32) (v : sV) : Option (Int32 × sV) :=
  if (v 157 15) ≤ x3 then (some ((-1), v)) else (ld v 168 150 x3 (fun y1 => if y1 = 47 then (if 9 ≤ x2 then (bX7_reads_61 K k28 x1 x2 x3 v) else (nm (x2 + 1) (fun z14 => nm (x3 + 1) (fun z15 => k28 0 z14 z15 v)))) else (bX7_reads_61 K k28 x1 x2 x3 v)))
def gX7_reads_6 (K : Nat) (x1 : Int32) (x2 : Int32) (k6 : Int32 → sV → Option (Int32 × sV)) (x3 : Int32) (v : sV) : Option (Int32 × sV) :=
  if 140 ≤ x3 then (fx4 (gX7_reads_28 K) K x1 x2 0 v) else (sa v 169 140 x3 (-1) (fun v16 => nm (x3 + 1) (fun z17 => k6 z17 v16)))
def fX7_reads (K : Nat) (v : sV) : Option (Int32 × sV) :=
  fx2 (gX7_reads_6 K 0 0) K 0 v
def gX7_readMap_110 (K : Nat) (x2 : Int32) (k110 : Int32 → sV → Option (Int32 × sV)) (x3 : Int32) (v : sV) : Option (Int32 × sV) :=
  if 140 ≤ x3 then ((fX7_forgets K v).bind (fun v6 => some (x2, v6))) else (ld v 169 140 x3 (fun y7 => if y7 < 0 then (ld v 158 434 (0 + x3) (fun y8 => sa v 158 434 (0 + x3) y8 (fun v9 => nm (x3 + 1) (fun z10 => k110 z10 v9)))) else (ld v 169 140 x3 (fun y11 => sa v 158 434 (0 + x3) y11 (fun v12 => nm (x3 + 1) (fun z13 => k110 z13 v12))))))
def bX7_readMap_50 (K : Nat) (k28 : Int32 → Int32 → sV → Option (Int32 × sV)) (x3 : Int32) (t0 : Int32) (t1 : Int32) (v : sV) : Option (Int32 × sV) :=
  nm (t0 + t1) (fun z15 => ld v 169 140 x3 (fun y16 => if y16 = 0 then ((fX7_hasGoal K x3 v).bind (fun y19 => if y19 = 0 then ((fX7_agentOn K x3 v).bind (fun y22 => if y22 < 0 then (sf v 157 6 (v 157 6) (fun v23 => nm (x3 + 1) (fun z24 => k28 z15 z24 v23))) else (sf v 157 6 1 (fun v25 => nm (x3 + 1) (fun z26 => k28 z15 z26 v25))))) else (sf v 157 6 1 (fun v20 => nm (x3 + 1) (fun z21 => k28 z15 z21 v20))))) else (sf v 157 6 (v 157 6) (fun v17 => nm (x3 + 1) (fun z18 => k28 z15 z18 v17)))))
def gX7_readMap_28 (K : Nat) (k28 : Int32 → Int32 → sV → Option (Int32 × sV)) (x2 : Int32) (x3 : Int32) (v : sV) : Option (Int32 × sV) :=
  if 140 ≤ x3 then (if (v 157 6) = 0 then ((fX7_keeps K v).bind (fun v5 => fx2 (gX7_readMap_110 K x2) K 0 v5)) else (some (0, v))) else (ld v 169 140 x3 (fun y14 => if y14 < 0 then (bX7_readMap_50 K k28 x3 x2 0 v) else (bX7_readMap_50 K k28 x3 x2 1 v)))
def fX7_readMap (K : Nat) (v : sV) : Option (Int32 × sV) :=
  sf v 157 6 0 (fun v1 => (fX7_reads K v1).bind (fun (q9 : Int32 × sV) => (fun (y3 : Int32) (v2 : sV) => sf v2 157 15 0 (fun v4 => if y3 < 0 then (fx3 (gX7_readMap_28 K) K 0 0 v4) else (some (((-100) - y3), v4)))) q9.1 q9.2))
def bX7_map_59 (t0 : Int32) (v : sV) : Option (Int32 × sV) :=
  if 0 ≤ t0 then (if t0 = 0 then (some (35, v)) else (ckc ((((48 + t0) : Int32).toUInt32 % 65536).toInt32) (some (((((48 + t0) : Int32).toUInt32 % 65536).toInt32), v)))) else (some (47, v))
def bX7_map_17 (x1 : Int32) (t1 : Int32) (v : sV) : Option (Int32 × sV) :=
  sf v 157 6 t1 (fun v2 => if (v2 157 6) = 0 then (nm (x1 - x1 / 15 * 15) (fun z3 => if z3 = 14 then (bX7_map_59 (-1) v2) else ((fX7_cellAt z3 (x1 / 15)).bind (fun y4 => ld v2 158 434 (0 + y4) (fun y5 => bX7_map_59 y5 v2))))) else (some (0, v2)))
def fX7_map (x1 : Int32) (v : sV) : Option (Int32 × sV) :=
  (fX7_isIn x1 0 148).bind (fun y1 => if y1 = 0 then (bX7_map_17 x1 1 v) else (bX7_map_17 x1 0 v))
def gX7_save_7 (K : Nat) (k7 : Int32 → sV → Option (Int32 × sV)) (x1 : Int32) (v : sV) : Option (Int32 × sV) :=
  if 434 ≤ x1 then (sf v 157 4 1 (fun v2 => (fX7_many K v2).bind (fun y3 => some (y3, v2)))) else (ld v 158 434 x1 (fun y4 => sa v 159 434 x1 y4 (fun v5 => nm (x1 + 1) (fun z6 => k7 z6 v5))))
def fX7_save (K : Nat) (v : sV) : Option (Int32 × sV) :=
  sf v 157 6 0 (fun v1 => fx2 (gX7_save_7 K) K 0 v1)
def gX7_restore_27 (K : Nat) (k27 : Int32 → sV → Option (Int32 × sV)) (x1 : Int32) (v : sV) : Option (Int32 × sV) :=
  if 434 ≤ x1 then (sf v 157 5 0 (fun v2 => (fX7_forgets K v2).bind (fun v3 => (fX7_many K v3).bind (fun y4 => some (y4, v3))))) else (ld v 159 434 x1 (fun y5 => sa v 158 434 x1 y5 (fun v6 => nm (x1 + 1) (fun z7 => k27 z7 v6))))
def bX7_restore_13 (K : Nat) (t1 : Int32) (v : sV) : Option (Int32 × sV) :=
  sf v 157 6 t1 (fun v1 => if (v1 157 6) = 0 then (fx2 (gX7_restore_27 K) K 0 v1) else (some (0, v1)))
def fX7_restore (K : Nat) (v : sV) : Option (Int32 × sV) :=
  if (v 157 4) = 0 then (bX7_restore_13 K 1 v) else (bX7_restore_13 K 0 v)
def gX0_lowestUnused_2 (K : Nat) (cq : Nat) (bq : Nat) (v : sV) (k2 : Int32 → Option Int32) (x1 : Int32) : Option Int32 :=
  if 16 ≤ x1 then (some (-1)) else ((fX0_exists cq bq x1 v).bind (fun y1 => if y1 = 0 then (some x1) else (nm (x1 + 1) (fun z2 => k2 z2))))
def fX0_lowestUnused (K : Nat) (cq : Nat) (bq : Nat) (v : sV) : Option Int32 :=
  fx1 (gX0_lowestUnused_2 K cq bq v) K 0
def gX0_goalOn_2 (K : Nat) (cq : Nat) (bq : Nat) (x1 : Int32) (v : sV) (k2 : Int32 → Option Int32) (x2 : Int32) : Option Int32 :=
  if x1 = (-1) then (some (-1)) else (if 4 ≤ x2 then (some (-1)) else (ld v (bq + 3) 4 x2 (fun y1 => if y1 = x1 then (some x2) else (nm (x2 + 1) (fun z2 => k2 z2)))))
def fX0_goalOn (K : Nat) (cq : Nat) (bq : Nat) (x1 : Int32) (v : sV) : Option Int32 :=
  fx1 (gX0_goalOn_2 K cq bq x1 v) K 0
def fX0_isInUse (K : Nat) (cq : Nat) (bq : Nat) (x1 : Int32) (v : sV) : Option Int32 :=
  (fX0_agentOn K cq bq x1 v).bind (fun y1 => if y1 = (-1) then ((fX0_goalOn K cq bq x1 v).bind (fun y2 => if y2 = (-1) then (some 0) else (some 1))) else (some 1))
def fX0_isOpen (cq : Nat) (bq : Nat) (x1 : Int32) (v : sV) : Option Int32 :=
  if x1 < 0 then (some 0) else (if 140 ≤ x1 then (some 0) else (ld v (bq + 1) 140 x1 (fun y1 => if y1 = 0 then (some 0) else (some 1))))
def fX0_isFree (K : Nat) (cq : Nat) (bq : Nat) (x1 : Int32) (v : sV) : Option Int32 :=
  (fX0_isOpen cq bq x1 v).bind (fun y1 => if y1 = 0 then (some 0) else ((fX0_agentOn K cq bq x1 v).bind (fun y2 => if y2 = (-1) then (some 1) else (some 0))))
def fX0_isMember (cq : Nat) (bq : Nat) (x1 : Int32) (v : sV) : Option Int32 :=
  ld v (bq + 9) 16 x1 (fun y1 => if y1 = (-1) then (some 0) else (some 1))
def gX0_membersOf_4 (K : Nat) (cq : Nat) (bq : Nat) (x1 : Int32) (v : sV) (k4 : Int32 → Int32 → Option Int32) (x2 : Int32) (x3 : Int32) : Option Int32 :=
  if 16 ≤ x3 then (some x2) else (ld v (bq + 9) 16 x3 (fun y1 => if y1 = x1 then (nm (x2 ||| (1 <<< (x3 &&& 31))) (fun z3 => nm (x3 + 1) (fun z4 => k4 z3 z4))) else (nm (x3 + 1) (fun z2 => k4 x2 z2))))
def fX0_membersOf (K : Nat) (cq : Nat) (bq : Nat) (x1 : Int32) (v : sV) : Option Int32 :=
  fx2 (gX0_membersOf_4 K cq bq x1 v) K 0 0
def fX0_isLeader (K : Nat) (cq : Nat) (bq : Nat) (x1 : Int32) (v : sV) : Option Int32 :=
  (fX0_membersOf K cq bq x1 v).bind (fun y1 => if y1 = 0 then (some 0) else (some 1))
def fX0_slotOf (cq : Nat) (bq : Nat) (x1 : Int32) (x2 : Int32) (v : sV) : Option Int32 :=
  ld v (bq + 10) 16 x1 (fun y1 => ld v (bq + 11) 16 x1 (fun y2 => ld v (bq + 4) 16 x2 (fun y3 => (fX6_columnOf y3).bind (fun y4 => ld v (bq + 4) 16 x2 (fun y5 => (fX6_rowOf y5).bind (fun y6 => ld v (bq + 7) 16 x2 (fun y7 => if y7 = 1 then ((fX6_cellAt (y4 - y2) (y6 + y1)).bind (fun y8 => some y8)) else (if y7 = 2 then ((fX6_cellAt (y4 - y1) (y6 - y2)).bind (fun y9 => some y9)) else (if y7 = 3 then ((fX6_cellAt (y4 + y2) (y6 - y1)).bind (fun y10 => some y10)) else ((fX6_cellAt (y4 + y1) (y6 + y2)).bind (fun y11 => some y11)))))))))))
def fX0_targetOf (cq : Nat) (bq : Nat) (x1 : Int32) (v : sV) : Option Int32 :=
  ld v (bq + 9) 16 x1 (fun y1 => (fX0_exists cq bq y1 v).bind (fun y2 => if y2 = 0 then (ld v (bq + 5) 16 x1 (fun y3 => if y3 < 0 then (some (-1)) else (if 4 ≤ y3 then (some (-1)) else (ld v (bq + 3) 4 y3 (fun y4 => some y4))))) else ((fX0_slotOf cq bq x1 y1 v).bind (fun y5 => (fX0_isOpen cq bq y5 v).bind (fun y6 => if y6 = 0 then (ld v (bq + 4) 16 y1 (fun y7 => some y7)) else (some y5))))))
def fX0_isSettled (cq : Nat) (bq : Nat) (x1 : Int32) (v : sV) : Option Int32 :=
  (fX0_targetOf cq bq x1 v).bind (fun y1 => if y1 = (-1) then (some 1) else (ld v (bq + 4) 16 x1 (fun y2 => if y1 = y2 then (some 1) else (some 0))))
def gX0_settledOnes_4 (K : Nat) (cq : Nat) (bq : Nat) (v : sV) (k4 : Int32 → Int32 → Option Int32) (x1 : Int32) (x2 : Int32) : Option Int32 :=
  if 16 ≤ x2 then (some x1) else ((fX0_exists cq bq x2 v).bind (fun y1 => if y1 = 0 then (nm (x2 + 1) (fun z2 => k4 x1 z2)) else ((fX0_isSettled cq bq x2 v).bind (fun y3 => if y3 = 0 then (nm (x2 + 1) (fun z4 => k4 x1 z4)) else (nm (x1 ||| (1 <<< (x2 &&& 31))) (fun z5 => nm (x2 + 1) (fun z6 => k4 z5 z6)))))))
def fX0_settledOnes (K : Nat) (cq : Nat) (bq : Nat) (v : sV) : Option Int32 :=
  fx2 (gX0_settledOnes_4 K cq bq v) K 0 0
def gX0_leadingOnes_4 (K : Nat) (cq : Nat) (bq : Nat) (v : sV) (k4 : Int32 → Int32 → Option Int32) (x1 : Int32) (x2 : Int32) : Option Int32 :=
  if 16 ≤ x2 then (some x1) else ((fX0_isMember cq bq x2 v).bind (fun y1 => if y1 = 0 then (nm (x2 + 1) (fun z2 => k4 x1 z2)) else (ld v (bq + 9) 16 x2 (fun y3 => nm (x1 ||| (1 <<< (y3 &&& 31))) (fun z4 => nm (x2 + 1) (fun z5 => k4 z4 z5))))))
def fX0_leadingOnes (K : Nat) (cq : Nat) (bq : Nat) (v : sV) : Option Int32 :=
  fx2 (gX0_leadingOnes_4 K cq bq v) K 0 0
def gX0_memberOnes_4 (K : Nat) (cq : Nat) (bq : Nat) (v : sV) (k4 : Int32 → Int32 → Option Int32) (x1 : Int32) (x2 : Int32) : Option Int32 :=
  if 16 ≤ x2 then (some x1) else ((fX0_isMember cq bq x2 v).bind (fun y1 => if y1 = 0 then (nm (x2 + 1) (fun z2 => k4 x1 z2)) else (nm (x1 ||| (1 <<< (x2 &&& 31))) (fun z3 => nm (x2 + 1) (fun z4 => k4 z3 z4)))))
def fX0_memberOnes (K : Nat) (cq : Nat) (bq : Nat) (v : sV) : Option Int32 :=
  fx2 (gX0_memberOnes_4 K cq bq v) K 0 0
def fX0_delay (cq : Nat) (bq : Nat) (x1 : Int32) (v : sV) : Option sV :=
  ld v (bq + 8) 16 x1 (fun y1 => sa v (bq + 8) 16 x1 (y1 + 1) (fun v2 => ld v2 (bq + 12) 5 4 (fun y3 => sa v2 (bq + 12) 5 4 (y3 + 1) (fun v4 => some v4))))
def fX0_shift (cq : Nat) (bq : Nat) (x1 : Int32) (x2 : Int32) (v : sV) : Option sV :=
  ld v (bq + 4) 16 x1 (fun y1 => (fX6_neighborOf y1 x2).bind (fun y2 => if y2 = (-1) then (some v) else (sa v (bq + 4) 16 x1 y2 (fun v3 => sa v3 (bq + 7) 16 x1 x2 (fun v4 => ld v4 (bq + 2) 140 y2 (fun y5 => sa v4 (bq + 2) 140 y2 (y5 + 1) (fun v6 => some v6)))))))
def fX0_advance (cq : Nat) (bq : Nat) (x1 : Int32) (x2 : Int32) (v : sV) : Option sV :=
  (fX0_shift cq bq x1 x2 v).bind (fun v1 => sa v1 (bq + 8) 16 x1 0 (fun v2 => ld v2 (bq + 12) 5 1 (fun y3 => sa v2 (bq + 12) 5 1 (y3 + 1) (fun v4 => some v4))))
def fX1_distanceOf (fq : Nat) (x1 : Int32) (v : sV) : Option Int32 :=
  if x1 < 0 then (some (-1)) else (if 140 ≤ x1 then (some (-1)) else (ld v (fq + 1) 140 x1 (fun y1 => some y1)))
def bX0_bestFreeDirection_56 (K : Nat) (cq : Nat) (bq : Nat) (fq : Nat) (k11 : Int32 → Int32 → Int32 → Option Int32) (x1 : Int32) (x4 : Int32) (x5 : Int32) (x6 : Int32) (t0 : Int32) (v : sV) : Option Int32 :=
  if x5 ≤ t0 then (nm (x6 + 1) (fun z6 => k11 x4 x5 z6)) else (nm (x6 + 1) (fun z7 => k11 x6 t0 z7))
def gX0_bestFreeDirection_11 (K : Nat) (cq : Nat) (bq : Nat) (fq : Nat) (x1 : Int32) (v : sV) (k11 : Int32 → Int32 → Int32 → Option Int32) (x4 : Int32) (x5 : Int32) (x6 : Int32) : Option Int32 :=
  if 4 ≤ x6 then (some x4) else ((fX6_neighborOf x1 x6).bind (fun y2 => (fX0_isFree K cq bq y2 v).bind (fun y3 => if y3 = 0 then (nm (x6 + 1) (fun z4 => k11 x4 x5 z4)) else ((fX1_distanceOf fq y2 v).bind (fun y5 => if y5 = (-1) then (bX0_bestFreeDirection_56 K cq bq fq k11 x1 x4 x5 x6 9999 v) else (bX0_bestFreeDirection_56 K cq bq fq k11 x1 x4 x5 x6 y5 v))))))
def fX0_bestFreeDirection (K : Nat) (cq : Nat) (bq : Nat) (fq : Nat) (x1 : Int32) (x3 : Int32) (v : sV) : Option Int32 :=
  nm (x3 + 1) (fun z1 => fx3 (gX0_bestFreeDirection_11 K cq bq fq x1 v) K (-1) z1 0)
def fX0_detourOf (K : Nat) (cq : Nat) (bq : Nat) (fq : Nat) (x1 : Int32) (v : sV) : Option Int32 :=
  ld v (bq + 8) 16 x1 (fun y1 => if (v bq 12) ≤ y1 then (ld v (bq + 4) 16 x1 (fun y2 => (fX1_distanceOf fq y2 v).bind (fun y3 => (fX0_bestFreeDirection K cq bq fq y2 (y3 + 2) v).bind (fun y4 => some y4)))) else (some (-1)))
def gX0_jamNumber_10 (K : Nat) (cq : Nat) (bq : Nat) (x1 : Int32) (x2 : Int32) (v : sV) (k10 : Int32 → Int32 → Option Int32) (x3 : Int32) (x4 : Int32) : Option Int32 :=
  if 16 ≤ x4 then (some 0) else ((fX0_jamFrom K cq bq x4 x2 v).bind (fun y2 => if y2 = 0 then (nm (x4 + 1) (fun z3 => k10 x3 z3)) else (if x3 = x1 then (some y2) else (nm (x3 + 1) (fun z4 => nm (x4 + 1) (fun z5 => k10 z4 z5))))))
def fX0_jamNumber (K : Nat) (cq : Nat) (bq : Nat) (x1 : Int32) (v : sV) : Option Int32 :=
  (fX0_stuckOnes K cq bq v).bind (fun y1 => fx2 (gX0_jamNumber_10 K cq bq x1 y1 v) K 0 0)
def gX0_sumOfWaits_4 (K : Nat) (cq : Nat) (bq : Nat) (x1 : Int32) (v : sV) (k4 : Int32 → Int32 → Option Int32) (x2 : Int32) (x3 : Int32) : Option Int32 :=
  if 16 ≤ x3 then (some x2) else ((fX6_isIn x1 x3).bind (fun y1 => if y1 = 0 then (nm (x3 + 1) (fun z2 => k4 x2 z2)) else (ld v (bq + 8) 16 x3 (fun y3 => nm (x2 + y3) (fun z4 => nm (x3 + 1) (fun z5 => k4 z4 z5))))))
def fX0_sumOfWaits (K : Nat) (cq : Nat) (bq : Nat) (x1 : Int32) (v : sV) : Option Int32 :=
  fx2 (gX0_sumOfWaits_4 K cq bq x1 v) K 0 0
def gX0_freeCellsAround_4 (K : Nat) (cq : Nat) (bq : Nat) (x1 : Int32) (v : sV) (k4 : Int32 → Int32 → Option Int32) (x2 : Int32) (x3 : Int32) : Option Int32 :=
  if 140 ≤ x3 then (some x2) else ((fX0_isFree K cq bq x3 v).bind (fun y1 => if y1 = 0 then (nm (x3 + 1) (fun z2 => k4 x2 z2)) else ((fX0_agentsBeside K cq bq x3 v).bind (fun y3 => if (y3 &&& x1) = 0 then (nm (x3 + 1) (fun z4 => k4 x2 z4)) else (nm (x2 + 1) (fun z5 => nm (x3 + 1) (fun z6 => k4 z5 z6)))))))
def fX0_freeCellsAround (K : Nat) (cq : Nat) (bq : Nat) (x1 : Int32) (v : sV) : Option Int32 :=
  fx2 (gX0_freeCellsAround_4 K cq bq x1 v) K 0 0
def gX1_flowOf_15 (K : Nat) (fq : Nat) (a2 : Nat) (x1 : Int32) (x3 : Int32) (v : sV) (k15 : Int32 → Option Int32) (x4 : Int32) : Option Int32 :=
  if 4 ≤ x4 then (some (-1)) else ((fX6_neighborOf x1 x4).bind (fun y2 => (fX1_distanceOf fq y2 v).bind (fun y3 => if y3 = (-1) then (nm (x4 + 1) (fun z4 => k15 z4)) else (ld v a2 140 y2 (fun y5 => if (y3 + y5) = x3 then (some x4) else (nm (x4 + 1) (fun z6 => k15 z6)))))))
def fX1_flowOf (K : Nat) (fq : Nat) (a2 : Nat) (x1 : Int32) (v : sV) : Option Int32 :=
  (fX1_distanceOf fq x1 v).bind (fun y1 => if 0 < y1 then (fx1 (gX1_flowOf_15 K fq a2 x1 y1 v) K 0) else (some (-1)))
def gX1_stepsFrom_16 (K : Nat) (fq : Nat) (a2 : Nat) (v : sV) (k16 : Int32 → Int32 → Option Int32) (x3 : Int32) (x4 : Int32) : Option Int32 :=
  (fX1_distanceOf fq x4 v).bind (fun y2 => if y2 ≤ 0 then (some x3) else (if 140 ≤ x3 then (some x3) else ((fX1_flowOf K fq a2 x4 v).bind (fun y3 => (fX6_neighborOf x4 y3).bind (fun y4 => nm (x3 + 1) (fun z5 => k16 z5 y4))))))
def fX1_stepsFrom (K : Nat) (fq : Nat) (a2 : Nat) (x1 : Int32) (v : sV) : Option Int32 :=
  (fX1_distanceOf fq x1 v).bind (fun y1 => if y1 = (-1) then (some (-1)) else (fx2 (gX1_stepsFrom_16 K fq a2 v) K 0 x1))
def gX1_reachedCells_4 (K : Nat) (fq : Nat) (v : sV) (k4 : Int32 → Int32 → Option Int32) (x1 : Int32) (x2 : Int32) : Option Int32 :=
  if 140 ≤ x2 then (some x1) else (ld v (fq + 1) 140 x2 (fun y1 => if y1 = (-1) then (nm (x2 + 1) (fun z2 => k4 x1 z2)) else (nm (x1 + 1) (fun z3 => nm (x2 + 1) (fun z4 => k4 z3 z4)))))
def fX1_reachedCells (K : Nat) (fq : Nat) (v : sV) : Option Int32 :=
  fx2 (gX1_reachedCells_4 K fq v) K 0 0
def gJ7_fill_53178_5 (K : Nat) (a0 : Nat) (N0 : Nat) (x1 : Int32) (x3 : Int32) (k5 : Int32 → sV → Option sV) (x2 : Int32) (v : sV) : Option sV :=
  if x3 ≤ x2 then (some v) else (sa v a0 N0 x2 x1 (fun v2 => nm (x2 + 1) (fun z3 => k5 z3 v2)))
def fJ7_fill_53178 (K : Nat) (a0 : Nat) (N0 : Nat) (x1 : Int32) (v : sV) : Option sV :=
  nm (nI N0) (fun z1 => fx2 (gJ7_fill_53178_5 K a0 N0 x1 z1) K 0 v)
def fX2_enqueue (x1 : Int32) (x2 : Int32) (v : sV) : Option sV :=
  nm (x2 - x2 / 10 * 10) (fun z1 => ld v 18 10 z1 (fun y2 => sa v 19 140 x1 y2 (fun v3 => sa v3 18 10 z1 x1 (fun v4 => some v4))))
def gX2_spread_90 (K : Nat) (a2 : Nat) (a3 : Nat) (k31 : Int32 → Int32 → sV → Option sV) (k70 : Int32 → Int32 → Int32 → sV → Option sV) (x5 : Int32) (x6 : Int32) (x7 : Int32) (k90 : Int32 → Int32 → sV → Option sV) (x4 : Int32) (x8 : Int32) (v : sV) : Option sV :=
  if 4 ≤ x8 then (ld v 19 140 x6 (fun y11 => nm (x7 + 1) (fun z12 => k70 x4 y11 z12 v))) else ((fX6_neighborOf x6 x8).bind (fun y13 => if y13 = (-1) then (nm (x8 + 1) (fun z14 => k90 x4 z14 v)) else (ld v a2 140 y13 (fun y15 => if y15 = 0 then (nm (x8 + 1) (fun z16 => k90 x4 z16 v)) else (ld v a3 140 y13 (fun y17 => if y17 = (-1) then (sa v a3 140 y13 x5 (fun v19 => ld v19 a2 140 y13 (fun y20 => (fX2_enqueue y13 (x5 + y20) v19).bind (fun v21 => nm (x4 + 1) (fun z22 => nm (x8 + 1) (fun z23 => k90 z22 z23 v21)))))) else (nm (x8 + 1) (fun z18 => k90 x4 z18 v))))))))
def gX2_spread_70 (K : Nat) (a2 : Nat) (a3 : Nat) (k31 : Int32 → Int32 → sV → Option sV) (x5 : Int32) (k70 : Int32 → Int32 → Int32 → sV → Option sV) (x4 : Int32) (x6 : Int32) (x7 : Int32) (v : sV) : Option sV :=
  if 140 ≤ x7 then (nm (x5 + 1) (fun z8 => k31 x4 z8 v)) else (if x6 = (-1) then (nm (x5 + 1) (fun z9 => k31 x4 z9 v)) else (nm (x4 + (-1)) (fun z10 => fx3 (gX2_spread_90 K a2 a3 k31 k70 x5 x6 x7) K z10 0 v)))
def gX2_spread_31 (K : Nat) (a2 : Nat) (a3 : Nat) (k31 : Int32 → Int32 → sV → Option sV) (x4 : Int32) (x5 : Int32) (v : sV) : Option sV :=
  if 1260 < x5 then (some v) else (if x4 ≤ 0 then (some v) else (ld v 18 10 (x5 - x5 / 10 * 10) (fun y6 => sa v 18 10 (x5 - x5 / 10 * 10) (-1) (fun v7 => fx4 (gX2_spread_70 K a2 a3 k31 x5) K x4 y6 0 v7))))
def fX2_spread (K : Nat) (a2 : Nat) (a3 : Nat) (x1 : Int32) (v : sV) : Option sV :=
  (fJ7_fill_53178 K a3 140 (-1) v).bind (fun v1 => (fJ7_fill_53178 K 18 10 (-1) v1).bind (fun v2 => sa v2 a3 140 x1 0 (fun v3 => ld v3 a2 140 x1 (fun y4 => (fX2_enqueue x1 y4 v3).bind (fun v5 => fx3 (gX2_spread_31 K a2 a3) K 1 1 v5)))))
def fX3_clear (v : sV) : Option sV :=
  sf v 35 2 0 (fun v1 => some v1)
def fX4_isFull (v : sV) : Option Int32 :=
  if (v 154 1) < 150 then (some 0) else (some 1)
def fX4_append (x1 : Int32) (v : sV) : Option (Int32 × sV) :=
  (fX4_isFull v).bind (fun y1 => if y1 = 0 then (ckc x1 (sa v 155 150 (v 154 1) x1 (fun v2 => sf v2 154 1 ((v2 154 1) + 1) (fun v3 => some ((v3 154 1), v3))))) else (some ((v 154 1), v)))
def fX4_empty (v : sV) : Option sV :=
  sf v 154 1 0 (fun v1 => some v1)
def fX4_costOf (x0 : Int32) : Option Int32 :=
  if x0 = 35 then (some 0) else (if x0 < 49 then (some (-1)) else (if 57 < x0 then (some (-1)) else (some (x0 - 48))))
def gX4_parse_14 (K : Nat) (k14 : Int32 → Int32 → Int32 → sV → Option (Int32 × sV)) (x1 : Int32) (x2 : Int32) (x3 : Int32) (v : sV) : Option (Int32 × sV) :=
  if (v 154 1) ≤ x3 then (some ((-1), v)) else (ld v 155 150 x3 (fun y2 => if y2 = 47 then (nm (x2 + 1) (fun z9 => if z9 < 10 then (nm (x3 + 1) (fun z10 => k14 0 z9 z10 v)) else (some (x3, v)))) else ((fX6_cellAt x1 x2).bind (fun y3 => ld v 155 150 x3 (fun y4 => (fX4_costOf y4).bind (fun y5 => if y3 = (-1) then (some (x3, v)) else (if y5 = (-1) then (some (x3, v)) else (sa v 156 140 y3 y5 (fun v6 => nm (x1 + 1) (fun z7 => nm (x3 + 1) (fun z8 => k14 z7 x2 z8 v6)))))))))))
def fX4_parse (K : Nat) (v : sV) : Option (Int32 × sV) :=
  (fJ7_fill_53178 K 156 140 (-1) v).bind (fun v1 => fx4 (gX4_parse_14 K) K 0 0 0 v1)
def fX5_place (bq : Nat) (x1 : Int32) (x2 : Int32) (x3 : Int32) (x4 : Int32) (v : sV) : Option sV :=
  sa v (bq + 4) 16 x1 x2 (fun v1 => sa v1 (bq + 5) 16 x1 x3 (fun v2 => sa v2 (bq + 6) 16 x1 x4 (fun v3 => sa v3 (bq + 7) 16 x1 0 (fun v4 => sa v4 (bq + 8) 16 x1 0 (fun v5 => sa v5 (bq + 9) 16 x1 (-1) (fun v6 => some v6))))))
def gX5_erase_23 (K : Nat) (bq : Nat) (x1 : Int32) (k23 : Int32 → sV → Option sV) (x2 : Int32) (v : sV) : Option sV :=
  if 16 ≤ x2 then (some v) else (ld v (bq + 9) 16 x2 (fun y4 => if y4 = x1 then (sa v (bq + 9) 16 x2 (-1) (fun v6 => nm (x2 + 1) (fun z7 => k23 z7 v6))) else (nm (x2 + 1) (fun z5 => k23 z5 v))))
def fX5_erase (K : Nat) (bq : Nat) (x1 : Int32) (v : sV) : Option sV :=
  sa v (bq + 4) 16 x1 (-1) (fun v1 => sa v1 (bq + 5) 16 x1 (-1) (fun v2 => sa v2 (bq + 9) 16 x1 (-1) (fun v3 => fx2 (gX5_erase_23 K bq x1) K 0 v3)))
