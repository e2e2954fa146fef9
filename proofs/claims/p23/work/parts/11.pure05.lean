def f_X0_becomeLike_18  : Nat → Int32 → mg_St → Option (Int32 × mg_St)
  | 0, _, _ => none
  | n + 1, x2, σ =>
    (if 30 ≤ x2 then
    some (x2, σ)
    else
    (mg_rd σ 21 30 x2).bind fun v1 =>
    (mg_wr σ 23 30 x2 v1).bind fun s2 =>
    f_X0_becomeLike_18  n (x2 + 1) s2)
def f_X0_becomeLike_44  : Nat → Int32 → mg_St → Option (Int32 × mg_St)
  | 0, _, _ => none
  | n + 1, x2, σ =>
    (if 5 ≤ x2 then
    some (x2, σ)
    else
    (mg_rd σ 22 5 x2).bind fun v4 =>
    (mg_wr σ 24 5 x2 v4).bind fun s5 =>
    f_X0_becomeLike_44  n (x2 + 1) s5)
def f_X0_becomeLike (σ : mg_St)  : Option mg_St :=
  (Option.bind (f_X0_becomeLike_18  5000 0 (mg_su (mg_su σ 6 0 (σ 5 0)) 6 1 ((mg_su σ 6 0 (σ 5 0)) 5 1))) fun y3 =>
  (Option.bind (f_X0_becomeLike_44  5000 0 y3.2) fun y6 =>
  some y6.2))
def f_X0_isFullMoon (σ : mg_St) (b : Nat)  : Option Int32 :=
  (if ((σ b 0) - (σ b 0) / 8 * 8) = 4 then
  some 1
  else
  some 0)
def f_X0_carpSize (σ : mg_St) (b : Nat) (x1 : Int32) : Option Int32 :=
  (if x1 < 0 then
  some 0
  else
  (if 30 ≤ x1 then
  some 0
  else
  (mg_rd σ (2 * b + 11) 30 x1).bind fun v1 =>
  some v1))
def f_X0_setCarpSize (σ : mg_St) (b : Nat) (x1 : Int32) (x2 : Int32) : Option mg_St :=
  (if x1 < 0 then
  some σ
  else
  (if 30 ≤ x1 then
  some σ
  else
  (mg_wr σ (2 * b + 11) 30 x1 (if 1 < (if x2 < 40 then x2 else 40) then (if x2 < 40 then x2 else 40) else 1)).bind fun s1 =>
  some s1))
def f_X0_written (σ : mg_St) (b : Nat) (x1 : Int32) : Option Int32 :=
  (if x1 < 0 then
  some 0
  else
  (if 5 ≤ x1 then
  some 0
  else
  (mg_rd σ (2 * b + 12) 5 x1).bind fun v1 =>
  some v1))
def f_X0_addWritten (σ : mg_St) (b : Nat) (x1 : Int32) (x2 : Int32) : Option mg_St :=
  (if x1 < 0 then
  some σ
  else
  (if 5 ≤ x1 then
  some σ
  else
  (mg_rd σ (2 * b + 12) 5 x1).bind fun v1 =>
  (mg_wr σ (2 * b + 12) 5 x1 (v1 + x2)).bind fun s2 =>
  some s2))
def f_X0_writtenByAll_4 (σ : mg_St) (b : Nat) : Nat → Int32 → Int32 → Option (Int32 × Int32)
  | 0, _, _ => none
  | n + 1, x1, x2 =>
    (if 5 ≤ x2 then
    some (x1, x2)
    else
    (mg_rd σ (2 * b + 12) 5 x2).bind fun v1 =>
    f_X0_writtenByAll_4 σ b n (x1 + v1) (x2 + 1))
def f_X0_writtenByAll (σ : mg_St) (b : Nat)  : Option Int32 :=
  (Option.bind (f_X0_writtenByAll_4 σ b 5000 0 0) fun y2 =>
  some y2.1)
def f_X1_isInside (σ : mg_St) (x0 : Int32) (x1 : Int32) : Option Int32 :=
  (if x0 < 0 then
  some 0
  else
  (if 10 ≤ x0 then
  some 0
  else
  (if x1 < 0 then
  some 0
  else
  (if 7 ≤ x1 then
  some 0
  else
  some 1))))
def f_X1_numberOf (σ : mg_St) (x0 : Int32) (x1 : Int32) : Option Int32 :=
  some ((10 * x1) + x0)
def f_X1_isDirection (σ : mg_St) (x0 : Int32) : Option Int32 :=
  (if x0 < 0 then
  some 0
  else
  (if 4 ≤ x0 then
  some 0
  else
  some 1))
def f_X1_isPlace (σ : mg_St) (x0 : Int32) : Option Int32 :=
  (if x0 < 0 then
  some 0
  else
  (if 70 ≤ x0 then
  some 0
  else
  some 1))
def f_X1_beside (σ : mg_St) (x1 : Int32) (x2 : Int32) : Option Int32 :=
  (Option.bind (f_X1_isPlace σ x1) fun y1 =>
  (if y1 = 0 then
  some (-1)
  else
  (Option.bind (f_X1_isDirection σ x2) fun y2 =>
  (if y2 = 0 then
  some (-1)
  else
  (mg_rt mg_sx 4 x2).bind fun v3 =>
  (mg_rt mg_sy 4 x2).bind fun v4 =>
  (Option.bind (f_X1_isInside σ ((x1 - x1 / 10 * 10) + v3) ((x1 / 10) + v4)) fun y5 =>
  (if y5 = 0 then
  some (-1)
  else
  (Option.bind (f_X1_numberOf σ ((x1 - x1 / 10 * 10) + v3) ((x1 / 10) + v4)) fun y6 =>
  some y6)))))))
def f_X1_kindAt (σ : mg_St) (x1 : Int32) : Option Int32 :=
  (Option.bind (f_X1_isPlace σ x1) fun y1 =>
  (if y1 = 0 then
  some (-1)
  else
  (mg_rd σ 8 70 x1).bind fun v2 =>
  some v2))
def f_X1_shapeAt (σ : mg_St) (x1 : Int32) : Option Int32 :=
  (Option.bind (f_X1_isPlace σ x1) fun y1 =>
  (if y1 = 0 then
  some (-1)
  else
  (mg_rd σ 9 70 x1).bind fun v2 =>
  some v2))
def f_X1_sizeAt (σ : mg_St) (x1 : Int32) : Option Int32 :=
  (Option.bind (f_X1_isPlace σ x1) fun y1 =>
  (if y1 = 0 then
  some 0
  else
  (mg_rd σ 10 70 x1).bind fun v2 =>
  some v2))
def f_X1_isBare (σ : mg_St) (x1 : Int32) : Option Int32 :=
  (Option.bind (f_X1_kindAt σ x1) fun y1 =>
  (if y1 = 0 then
  some 1
  else
  some 0))
def f_X1_isPond (σ : mg_St) (x1 : Int32) : Option Int32 :=
  (Option.bind (f_X1_kindAt σ x1) fun y1 =>
  (if y1 = 2 then
  some 1
  else
  some 0))
def f_X1_isWall (σ : mg_St) (x1 : Int32) : Option Int32 :=
  (Option.bind (f_X1_kindAt σ x1) fun y1 =>
  (if y1 = 3 then
  some 1
  else
  some 0))
def f_X1_isGreatRock (σ : mg_St) (x1 : Int32) : Option Int32 :=
  (Option.bind (f_X1_kindAt σ x1) fun y1 =>
  (if y1 = 1 then
  (Option.bind (f_X1_sizeAt σ x1) fun y2 =>
  (if y2 < 7 then
  some 0
  else
  some 1))
  else
  some 0))
def f_X1_hasCarps (σ : mg_St) (x1 : Int32) : Option Int32 :=
  (Option.bind (f_X1_isPlace σ x1) fun y1 =>
  (if y1 = 0 then
  some 0
  else
  (mg_rd σ 11 70 x1).bind fun v2 =>
  (if v2 ≤ 0 then
  some 0
  else
  some 1)))
def f_X1_manyOf_4 (σ : mg_St) (a1 : Int32) : Nat → Int32 → Int32 → Option (Int32 × Int32)
  | 0, _, _ => none
  | n + 1, x2, x3 =>
    (if 70 ≤ x3 then
    some (x2, x3)
    else
    (mg_rd σ 8 70 x3).bind fun v1 =>
    (if v1 = a1 then
    f_X1_manyOf_4 σ a1 n (x2 + 1) (x3 + 1)
    else
    f_X1_manyOf_4 σ a1 n x2 (x3 + 1)))
def f_X1_manyOf (σ : mg_St) (x1 : Int32) : Option Int32 :=
  (Option.bind (f_X1_manyOf_4 σ x1 5000 0 0) fun y2 =>
  some y2.1)
def f_X1_setCell (σ : mg_St) (x1 : Int32) (x2 : Int32) (x3 : Int32) (x4 : Int32) : Option mg_St :=
  (Option.bind (f_X1_isPlace σ x1) fun y1 =>
  (if y1 = 0 then
  some σ
  else
  (mg_wr σ 8 70 x1 x2).bind fun s2 =>
  (mg_wr s2 9 70 x1 x3).bind fun s3 =>
  (mg_wr s3 10 70 x1 x4).bind fun s4 =>
  some s4))
def f_X1_setRock (σ : mg_St) (x1 : Int32) (x2 : Int32) (x3 : Int32) : Option mg_St :=
  (Option.bind (f_X1_setCell σ x1 1 x2 x3) fun y1 =>
  some y1)
def f_X1_takeRock (σ : mg_St) (x1 : Int32) : Option mg_St :=
  (Option.bind (f_X1_setCell σ x1 0 (-1) 0) fun y1 =>
  some y1)
def f_X1_isUnknownPond (σ : mg_St) (x1 : Int32) : Option Int32 :=
  (Option.bind (f_X1_isPlace σ x1) fun y1 =>
  (if y1 = 0 then
  some 0
  else
  (mg_rd σ 8 70 x1).bind fun v2 =>
  (if v2 = 2 then
  (mg_rd σ 12 70 x1).bind fun v3 =>
  (if v3 = (-1) then
  some 1
  else
  some 0)
  else
  some 0)))
def f_X1_reachOnFrom_6 (a1 : Int32) (a2 : Int32) (a3 : Int32) : Nat → Int32 → Int32 → mg_St → Option (Int32 × Int32 × mg_St)
  | 0, _, _, _ => none
  | n + 1, x4, x5, σ =>
    (if 4 ≤ x5 then
    some (x4, x5, σ)
    else
    (Option.bind (f_X1_beside σ a1 x5) fun y1 =>
    (Option.bind (f_X1_isUnknownPond σ y1) fun y2 =>
    (if y2 = 0 then
    f_X1_reachOnFrom_6 a1 a2 a3 n x4 (x5 + 1) σ
    else
    (if x4 < 0 then
    f_X1_reachOnFrom_6 a1 a2 a3 n x4 (x5 + 1) σ
    else
    (if 70 ≤ x4 then
    f_X1_reachOnFrom_6 a1 a2 a3 n x4 (x5 + 1) σ
    else
    (mg_wr σ 12 70 y1 a2).bind fun s3 =>
    (mg_wr s3 15 70 x4 y1).bind fun s4 =>
    f_X1_reachOnFrom_6 a1 a2 a3 n (x4 + 1) (x5 + 1) s4))))))
def f_X1_reachOnFrom (σ : mg_St) (x1 : Int32) (x2 : Int32) (x3 : Int32) : Option (Int32 × mg_St) :=
  (Option.bind (f_X1_reachOnFrom_6 x1 x2 x3 5000 x3 0 σ) fun y5 =>
  some (y5.1, y5.2.2))
def f_X1_surveyPond_48 (a1 : Int32) (a2 : Int32) : Nat → Int32 → Int32 → mg_St → Option (Int32 × Int32 × mg_St)
  | 0, _, _, _ => none
  | n + 1, x3, x4, σ =>
    (if x3 ≤ x4 then
    some (x3, x4, σ)
    else
    (if 70 ≤ x4 then
    some (x3, x4, σ)
    else
    (mg_rd σ 15 70 x4).bind fun v7 =>
    (mg_rd σ 13 70 a1).bind fun v8 =>
    (mg_wr σ 13 70 a1 (v8 + 1)).bind fun s9 =>
    (mg_rd s9 14 70 a1).bind fun v10 =>
    (Option.bind (f_X1_isPlace s9 v7) fun y11 =>
    (Option.bind (if y11 = 0 then
    some 0
    else
    (mg_rd s9 11 70 v7).bind fun v13 =>
    some v13) fun (y12 : Int32) =>
    (mg_wr s9 14 70 a1 (v10 + y12)).bind fun s14 =>
    (Option.bind (f_X1_reachOnFrom s14 v7 a1 x3) fun y15 =>
    f_X1_surveyPond_48 a1 a2 n y15.1 (x4 + 1) y15.2)))))
def f_X1_surveyPond (σ : mg_St) (x1 : Int32) (x2 : Int32) : Option mg_St :=
  (Option.bind (f_X1_isPlace σ x1) fun y1 =>
  (if y1 = 0 then
  some σ
  else
  (Option.bind (f_X1_isPlace σ x2) fun y2 =>
  (if y2 = 0 then
  some σ
  else
  (mg_wr σ 13 70 x1 0).bind fun s3 =>
  (mg_wr s3 14 70 x1 0).bind fun s4 =>
  (mg_wr s4 12 70 x2 x1).bind fun s5 =>
  (mg_wr s5 15 70 0 x2).bind fun s6 =>
  (Option.bind (f_X1_surveyPond_48 x1 x2 5000 1 0 s6) fun y16 =>
  some y16.2.2)))))
def f_X1_surveyPonds_2  : Nat → Int32 → mg_St → Option (Int32 × mg_St)
  | 0, _, _ => none
  | n + 1, x1, σ =>
    (if 70 ≤ x1 then
    some (x1, σ)
    else
    (mg_wr σ 12 70 x1 (-1)).bind fun s1 =>
    f_X1_surveyPonds_2  n (x1 + 1) s1)
def f_X1_surveyPonds_28  : Nat → Int32 → mg_St → Option (Int32 × mg_St)
  | 0, _, _ => none
  | n + 1, x1, σ =>
    (if 70 ≤ x1 then
    some (x1, σ)
    else
    (Option.bind (f_X1_isUnknownPond σ x1) fun y3 =>
    (if y3 = 0 then
    f_X1_surveyPonds_28  n (x1 + 1) σ
    else
    (Option.bind (f_X1_surveyPond σ (σ 1 8) x1) fun y4 =>
    f_X1_surveyPonds_28  n (x1 + 1) (mg_su y4 1 8 ((y4 1 8) + 1))))))
def f_X1_surveyPonds (σ : mg_St)  : Option mg_St :=
  (Option.bind (f_X1_surveyPonds_2  5000 0 σ) fun y2 =>
  (Option.bind (f_X1_surveyPonds_28  5000 0 (mg_su y2.2 1 8 0)) fun y5 =>
  some y5.2))
def f_X1_setPond (σ : mg_St) (x1 : Int32) : Option mg_St :=
  (Option.bind (f_X1_setCell σ x1 2 (-1) 0) fun y1 =>
  (Option.bind (f_X1_surveyPonds y1) fun y2 =>
  some y2))
def f_X1_setWall (σ : mg_St) (x1 : Int32) : Option mg_St :=
  (Option.bind (f_X1_setCell σ x1 3 (-1) 0) fun y1 =>
  some y1)
def f_X1_setBare (σ : mg_St) (x1 : Int32) : Option mg_St :=
  (Option.bind (f_X1_isPond σ x1) fun y1 =>
  (Option.bind (f_X1_setCell σ x1 0 (-1) 0) fun y2 =>
  (if y1 = 0 then
  some y2
  else
  (Option.bind (f_X1_surveyPonds y2) fun y3 =>
  some y3))))
def f_X1_pondAt (σ : mg_St) (x1 : Int32) : Option Int32 :=
  (Option.bind (f_X1_isPlace σ x1) fun y1 =>
  (Option.bind (if y1 = 0 then
  some (-1)
  else
  (mg_rd σ 12 70 x1).bind fun v3 =>
  some v3) fun (y2 : Int32) =>
  (if y2 < 0 then
  some (-1)
  else
  (if 70 ≤ y2 then
  some (-1)
  else
  some y2))))
def f_X1_changeCarps (σ : mg_St) (x1 : Int32) (x2 : Int32) : Option mg_St :=
  (Option.bind (f_X1_pondAt σ x1) fun y1 =>
  (if y1 = (-1) then
  some σ
  else
  (mg_rd σ 11 70 x1).bind fun v2 =>
  (mg_wr σ 11 70 x1 (v2 + x2)).bind fun s3 =>
  (mg_rd s3 14 70 y1).bind fun v4 =>
  (mg_wr s3 14 70 y1 (v4 + x2)).bind fun s5 =>
  some s5))
def f_X1_cellsOfPondAt (σ : mg_St) (x1 : Int32) : Option Int32 :=
  (Option.bind (f_X1_pondAt σ x1) fun y1 =>
  (if y1 = (-1) then
  some 0
  else
  (mg_rd σ 13 70 y1).bind fun v2 =>
  some v2))
def f_X1_carpsOfPondAt (σ : mg_St) (x1 : Int32) : Option Int32 :=
  (Option.bind (f_X1_pondAt σ x1) fun y1 =>
  (if y1 = (-1) then
  some 0
  else
  (mg_rd σ 14 70 y1).bind fun v2 =>
  some v2))
def f_X1_isTooFull (σ : mg_St) (x1 : Int32) : Option Int32 :=
  (Option.bind (f_X1_carpsOfPondAt σ x1) fun y1 =>
  (Option.bind (f_X1_cellsOfPondAt σ x1) fun y2 =>
  (if y1 ≤ (2 * y2) then
  some 0
  else
  some 1)))
def f_X2_isNumber (σ : mg_St) (x1 : Int32) : Option Int32 :=
  (if x1 < 0 then
  some 0
  else
  (if (σ 3 2) ≤ x1 then
  some 0
  else
  (if 6 ≤ x1 then
  some 0
  else
  some 1)))
def f_X2_add (σ : mg_St) (x1 : Int32) (x2 : Int32) : Option (Int32 × mg_St) :=
  (if (σ 3 2) < 0 then
  some ((σ 3 2), σ)
  else
  (if 6 ≤ (σ 3 2) then
  some ((σ 3 2), σ)
  else
  (mg_wr σ 18 6 (σ 3 2) x1).bind fun s1 =>
  (mg_wr s1 19 6 (σ 3 2) x2).bind fun s2 =>
  some ((σ 3 2), (mg_su s2 3 2 ((s2 3 2) + 1)))))
def f_X2_placeOf (σ : mg_St) (x1 : Int32) : Option Int32 :=
  (Option.bind (f_X2_isNumber σ x1) fun y1 =>
  (if y1 = 0 then
  some (-1)
  else
  (mg_rd σ 18 6 x1).bind fun v2 =>
  some v2))
def f_X2_directionOf (σ : mg_St) (x1 : Int32) : Option Int32 :=
  (Option.bind (f_X2_isNumber σ x1) fun y1 =>
  (if y1 = 0 then
  some (-1)
  else
  (mg_rd σ 19 6 x1).bind fun v2 =>
  some v2))
def f_X3_isNumber (σ : mg_St) (x1 : Int32) : Option Int32 :=
  (if x1 < 0 then
  some 0
  else
  (if (σ 4 1) ≤ x1 then
  some 0
  else
  (if 5 ≤ x1 then
  some 0
  else
  some 1)))
def f_X3_add (σ : mg_St) (x1 : Int32) : Option (Int32 × mg_St) :=
  (if (σ 4 1) < 0 then
  some ((σ 4 1), σ)
  else
  (if 5 ≤ (σ 4 1) then
  some ((σ 4 1), σ)
  else
  (mg_wr σ 20 5 (σ 4 1) x1).bind fun s1 =>
  some ((σ 4 1), (mg_su s1 4 1 ((s1 4 1) + 1)))))
def f_X3_gateOf (σ : mg_St) (x1 : Int32) : Option Int32 :=
  (Option.bind (f_X3_isNumber σ x1) fun y1 =>
  (if y1 = 0 then
  some (-1)
  else
  (mg_rd σ 20 5 x1).bind fun v2 =>
  some v2))
def f_X3_setGate (σ : mg_St) (x1 : Int32) (x2 : Int32) : Option mg_St :=
  (Option.bind (f_X3_isNumber σ x1) fun y1 =>
  (if y1 = 0 then
  some σ
  else
  (mg_wr σ 20 5 x1 x2).bind fun s2 =>
  some s2))
def f_X3_manyAt_4 (σ : mg_St) (a1 : Int32) : Nat → Int32 → Int32 → Option (Int32 × Int32)
  | 0, _, _ => none
  | n + 1, x2, x3 =>
    (if (σ 4 1) ≤ x3 then
    some (x2, x3)
    else
    (Option.bind (f_X3_gateOf σ x3) fun y1 =>
    (if y1 = a1 then
    f_X3_manyAt_4 σ a1 n (x2 + 1) (x3 + 1)
    else
    f_X3_manyAt_4 σ a1 n x2 (x3 + 1))))
def f_X3_manyAt (σ : mg_St) (x1 : Int32) : Option Int32 :=
  (Option.bind (f_X3_manyAt_4 σ x1 5000 0 0) fun y2 =>
  some y2.1)
def f_X4_isNumber (σ : mg_St) (x1 : Int32) : Option Int32 :=
  (if x1 < 0 then
  some 0
  else
  (if (σ 2 2) ≤ x1 then
  some 0
  else
  (if 30 ≤ x1 then
  some 0
  else
  some 1)))
def f_X4_add (σ : mg_St) (x1 : Int32) : Option (Int32 × mg_St) :=
  (if (σ 2 2) < 0 then
  some ((σ 2 2), σ)
  else
  (if 30 ≤ (σ 2 2) then
  some ((σ 2 2), σ)
  else
  (mg_wr σ 16 30 (σ 2 2) x1).bind fun s1 =>
  (mg_wr s1 17 30 (σ 2 2) 0).bind fun s2 =>
  some ((σ 2 2), (mg_su s2 2 2 ((s2 2 2) + 1)))))
def f_X4_takeOut (σ : mg_St) (x1 : Int32) : Option mg_St :=
  (Option.bind (f_X4_isNumber σ x1) fun y1 =>
  (if y1 = 0 then
  some σ
  else
  (mg_wr σ 17 30 x1 1).bind fun s2 =>
  some s2))
def f_X4_isHere (σ : mg_St) (x1 : Int32) : Option Int32 :=
  (Option.bind (f_X4_isNumber σ x1) fun y1 =>
  (if y1 = 0 then
  some 0
  else
  (mg_rd σ 17 30 x1).bind fun v2 =>
  (if v2 = 0 then
  some 1
  else
  some 0)))
def f_X4_placeOf (σ : mg_St) (x1 : Int32) : Option Int32 :=
  (Option.bind (f_X4_isNumber σ x1) fun y1 =>
  (if y1 = 0 then
  some (-1)
  else
  (mg_rd σ 16 30 x1).bind fun v2 =>
  some v2))
def f_X4_manyHere_4 (σ : mg_St) : Nat → Int32 → Int32 → Option (Int32 × Int32)
  | 0, _, _ => none
  | n + 1, x1, x2 =>
    (if (σ 2 2) ≤ x2 then
    some (x1, x2)
    else
    (Option.bind (f_X4_isHere σ x2) fun y1 =>
    (if y1 = 0 then
    f_X4_manyHere_4 σ n x1 (x2 + 1)
    else
    f_X4_manyHere_4 σ n (x1 + 1) (x2 + 1))))
def f_X4_manyHere (σ : mg_St)  : Option Int32 :=
  (Option.bind (f_X4_manyHere_4 σ 5000 0 0) fun y2 =>
  some y2.1)
def f_X4_sizesHere_4 (σ : mg_St) (b : Nat) : Nat → Int32 → Int32 → Option (Int32 × Int32)
  | 0, _, _ => none
  | n + 1, x2, x3 =>
    (if (σ 2 2) ≤ x3 then
    some (x2, x3)
    else
    (Option.bind (f_X4_isHere σ x3) fun y1 =>
    (if y1 = 0 then
    f_X4_sizesHere_4 σ b n x2 (x3 + 1)
    else
    (Option.bind (f_X0_carpSize σ b x3) fun y2 =>
    f_X4_sizesHere_4 σ b n (x2 + y2) (x3 + 1)))))
def f_X4_sizesHere (σ : mg_St) (b : Nat)  : Option Int32 :=
  (Option.bind (f_X4_sizesHere_4 σ b 5000 0 0) fun y3 =>
  some y3.1)
def f_X4_sizesIn_5 (σ : mg_St) (b : Nat) (a1 : Int32) : Nat → Int32 → Int32 → Option (Int32 × Int32)
  | 0, _, _ => none
  | n + 1, x3, x4 =>
    (if (σ 2 2) ≤ x4 then
    some (x3, x4)
    else
    (if 30 ≤ x4 then
    some (x3, x4)
    else
    (mg_rd σ 16 30 x4).bind fun v1 =>
    (if v1 = a1 then
    (mg_rd σ 17 30 x4).bind fun v2 =>
    (if v2 = 0 then
    (Option.bind (f_X0_carpSize σ b x4) fun y3 =>
    f_X4_sizesIn_5 σ b a1 n (x3 + y3) (x4 + 1))
    else
    f_X4_sizesIn_5 σ b a1 n x3 (x4 + 1))
    else
    f_X4_sizesIn_5 σ b a1 n x3 (x4 + 1))))
def f_X4_sizesIn (σ : mg_St) (b : Nat) (x1 : Int32) : Option Int32 :=
  (Option.bind (f_X4_sizesIn_5 σ b x1 5000 0 0) fun y4 =>
  some y4.1)
def f_X5_begin (σ : mg_St)  : Option mg_St :=
  some (mg_su (mg_su (mg_su (mg_su (mg_su σ 7 0 0) 7 1 0) 7 2 0) 7 3 0) 7 4 0)
def f_X5_addRock (σ : mg_St) (x1 : Int32) (x2 : Int32) : Option mg_St :=
  (Option.bind (if (((mg_su (mg_su σ 7 1 ((σ 7 1) + 1)) 7 3 (((mg_su σ 7 1 ((σ 7 1) + 1)) 7 3) + x2)) 7 4) &&& (1 <<< (x1 &&& 31))) = 0 then
  some (mg_su (mg_su (mg_su σ 7 1 ((σ 7 1) + 1)) 7 3 (((mg_su σ 7 1 ((σ 7 1) + 1)) 7 3) + x2)) 7 3 (((mg_su (mg_su σ 7 1 ((σ 7 1) + 1)) 7 3 (((mg_su σ 7 1 ((σ 7 1) + 1)) 7 3) + x2)) 7 3) + 4))
  else
  some (mg_su (mg_su σ 7 1 ((σ 7 1) + 1)) 7 3 (((mg_su σ 7 1 ((σ 7 1) + 1)) 7 3) + x2))) fun (y1 : mg_St) =>
  some (mg_su y1 7 4 ((y1 7 4) ||| (1 <<< (x1 &&& 31)))))
def f_X5_addPondCell (σ : mg_St) (x1 : Int32) : Option mg_St :=
  some (mg_su (mg_su σ 7 2 ((σ 7 2) + 1)) 7 3 (((mg_su σ 7 2 ((σ 7 2) + 1)) 7 3) + (3 + (x1 / 10))))
