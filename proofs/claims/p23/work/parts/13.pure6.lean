def f_X6_checkPlace (σ : mg_St) (x1 : Int32) (x2 : Int32) : Option (Except (Fin 3) Unit × mg_St) :=
  (Option.bind (f_X1_isInside σ x1 x2) fun y1 =>
  (if y1 = 0 then
  some (.error 0, σ)
  else
  some (.ok (), σ)))
def f_X6_checkRock (σ : mg_St) (x1 : Int32) (x2 : Int32) : Option (Except (Fin 3) Unit × mg_St) :=
  (if x1 < 0 then
  some (.error 1, σ)
  else
  (if x1 ≤ 5 then
  (if x2 < 1 then
  some (.error 1, σ)
  else
  (if x2 ≤ 9 then
  some (.ok (), σ)
  else
  some (.error 1, σ)))
  else
  some (.error 1, σ)))
def f_X6_checkBare (σ : mg_St) (x1 : Int32) : Option (Except (Fin 3) Unit × mg_St) :=
  (Option.bind (f_X1_isBare σ x1) fun y1 =>
  (if y1 = 0 then
  some (.error 2, σ)
  else
  some (.ok (), σ)))
def f_X6_spend (σ : mg_St) (x1 : Int32) : Option (Except (Fin 3) Unit × mg_St) :=
  (if x1 ≤ (σ 5 1) then
  some (.ok (), (mg_su σ 5 1 ((σ 5 1) - x1)))
  else
  some (.error 2, σ))
def f_X6_rock (σ : mg_St) (x1 : Int32) (x2 : Int32) (x3 : Int32) (x4 : Int32) : Option (Except (Fin 3) Int32 × mg_St) :=
  (mg_xb (f_X6_checkPlace σ x1 x2) fun _ s2 =>
  (mg_xb (f_X6_checkRock s2 x3 x4) fun _ s4 =>
  (Option.bind (f_X1_numberOf s4 x1 x2) fun y5 =>
  (mg_xb (f_X6_checkBare s4 y5) fun _ s7 =>
  (mg_xb (f_X6_spend s7 (2 * x4)) fun _ s9 =>
  (Option.bind (f_X1_setRock s9 y5 x3 x4) fun y10 =>
  some (.ok (y10 5 1), y10)))))))
def f_X6_dig (σ : mg_St) (x1 : Int32) (x2 : Int32) : Option (Except (Fin 3) Int32 × mg_St) :=
  (mg_xb (f_X6_checkPlace σ x1 x2) fun _ s2 =>
  (Option.bind (f_X1_numberOf s2 x1 x2) fun y3 =>
  (mg_xb (f_X6_checkBare s2 y3) fun _ s5 =>
  (mg_xb (f_X6_spend s5 6) fun _ s7 =>
  (Option.bind (f_X1_setPond s7 y3) fun y8 =>
  (Option.bind (f_X1_cellsOfPondAt y8 y3) fun y9 =>
  some (.ok y9, y8)))))))
def f_X6_wall (σ : mg_St) (x1 : Int32) (x2 : Int32) : Option (Except (Fin 3) Int32 × mg_St) :=
  (mg_xb (f_X6_checkPlace σ x1 x2) fun _ s2 =>
  (Option.bind (f_X1_numberOf s2 x1 x2) fun y3 =>
  (mg_xb (f_X6_checkBare s2 y3) fun _ s5 =>
  (mg_xb (f_X6_spend s5 3) fun _ s7 =>
  (Option.bind (f_X1_setWall s7 y3) fun y8 =>
  some (.ok (y8 5 1), y8))))))
def f_X6_clear (σ : mg_St) (x1 : Int32) (x2 : Int32) : Option (Except (Fin 3) Int32 × mg_St) :=
  (mg_xb (f_X6_checkPlace σ x1 x2) fun _ s2 =>
  (Option.bind (f_X1_numberOf s2 x1 x2) fun y3 =>
  (Option.bind (f_X1_isBare s2 y3) fun y4 =>
  (if y4 = 0 then
  (Option.bind (f_X1_hasCarps s2 y3) fun y5 =>
  (if y5 = 0 then
  (Option.bind (f_X1_sizeAt s2 y3) fun y6 =>
  (Option.bind (f_X1_setBare (mg_su s2 5 1 ((s2 5 1) + y6)) y3) fun y7 =>
  some (.ok (y7 5 1), y7)))
  else
  some (.error 2, s2)))
  else
  some (.error 2, s2)))))
def f_X6_checkWhat (σ : mg_St) (x1 : Int32) (x2 : Int32) : Option (Except (Fin 3) Unit × mg_St) :=
  (if x1 < 0 then
  some (.error 0, σ)
  else
  (if x1 < x2 then
  some (.ok (), σ)
  else
  some (.error 0, σ)))
def f_X6_cell (σ : mg_St) (x1 : Int32) (x2 : Int32) (x3 : Int32) : Option (Except (Fin 3) Int32 × mg_St) :=
  (mg_xb (f_X6_checkPlace σ x1 x2) fun _ s2 =>
  (mg_xb (f_X6_checkWhat s2 x3 5) fun _ s4 =>
  (Option.bind (f_X1_numberOf s4 x1 x2) fun y5 =>
  (if x3 = 0 then
  (Option.bind (f_X1_kindAt s4 y5) fun y6 =>
  some (.ok y6, s4))
  else
  (if x3 = 1 then
  (Option.bind (f_X1_shapeAt s4 y5) fun y7 =>
  some (.ok y7, s4))
  else
  (if x3 = 2 then
  (Option.bind (f_X1_sizeAt s4 y5) fun y8 =>
  some (.ok y8, s4))
  else
  (if x3 = 3 then
  (Option.bind (f_X1_cellsOfPondAt s4 y5) fun y9 =>
  some (.ok y9, s4))
  else
  (Option.bind (f_X1_carpsOfPondAt s4 y5) fun y10 =>
  some (.ok y10, s4)))))))))
def f_X6_carp (σ : mg_St) (x1 : Int32) (x2 : Int32) : Option (Except (Fin 3) Int32 × mg_St) :=
  (mg_xb (f_X6_checkPlace σ x1 x2) fun _ s2 =>
  (Option.bind (f_X1_numberOf s2 x1 x2) fun y3 =>
  (Option.bind (f_X1_isPond s2 y3) fun y4 =>
  (if y4 = 0 then
  some (.error 2, s2)
  else
  (if (s2 2 2) < 30 then
  (mg_xb (f_X6_spend s2 4) fun _ s6 =>
  (Option.bind (f_X4_add s6 y3) fun y7 =>
  (Option.bind (f_X0_setCarpSize y7.2 5 y7.1 1) fun y8 =>
  (Option.bind (f_X1_changeCarps y8 y3 1) fun y9 =>
  some (.ok y7.1, y9)))))
  else
  some (.error 2, s2))))))
def f_X6_checkCarp (σ : mg_St) (x1 : Int32) : Option (Except (Fin 3) Unit × mg_St) :=
  (if x1 < 0 then
  some (.error 0, σ)
  else
  (if x1 < (σ 2 2) then
  some (.ok (), σ)
  else
  some (.error 0, σ)))
def f_X6_sell (σ : mg_St) (x1 : Int32) : Option (Except (Fin 3) Int32 × mg_St) :=
  (mg_xb (f_X6_checkCarp σ x1) fun _ s2 =>
  (Option.bind (f_X4_isHere s2 x1) fun y3 =>
  (if y3 = 0 then
  some (.error 2, s2)
  else
  (Option.bind (f_X4_takeOut s2 x1) fun y4 =>
  (Option.bind (f_X4_placeOf y4 x1) fun y5 =>
  (Option.bind (f_X1_changeCarps y4 y5 (-1)) fun y6 =>
  (Option.bind (f_X0_carpSize y6 5 x1) fun y7 =>
  some (.ok ((mg_su y6 5 1 ((y6 5 1) + ((y7 / 2) + 1))) 5 1), (mg_su y6 5 1 ((y6 5 1) + ((y7 / 2) + 1)))))))))))
def f_X6_rankOf_17 (σ : mg_St) (a1 : Int32) : Nat → Int32 → Int32 → Option (Int32 × Int32)
  | 0, _, _ => none
  | n + 1, x2, x3 =>
    (if (σ 2 2) ≤ x3 then
    some (x2, x3)
    else
    (Option.bind (f_X4_isHere σ x3) fun y2 =>
    (if y2 = 0 then
    f_X6_rankOf_17 σ a1 n x2 (x3 + 1)
    else
    (Option.bind (f_X0_carpSize σ 5 x3) fun y3 =>
    (Option.bind (f_X0_carpSize σ 5 a1) fun y4 =>
    (if y3 ≤ y4 then
    f_X6_rankOf_17 σ a1 n x2 (x3 + 1)
    else
    f_X6_rankOf_17 σ a1 n (x2 + 1) (x3 + 1)))))))
def f_X6_rankOf (σ : mg_St) (x1 : Int32) : Option Int32 :=
  (Option.bind (f_X4_isHere σ x1) fun y1 =>
  (if y1 = 0 then
  some 0
  else
  (Option.bind (f_X6_rankOf_17 σ x1 5000 1 0) fun y5 =>
  some y5.1)))
def f_X6_told (σ : mg_St) (x1 : Int32) (x2 : Int32) : Option (Except (Fin 3) Int32 × mg_St) :=
  (mg_xb (f_X6_checkCarp σ x1) fun _ s2 =>
  (mg_xb (f_X6_checkWhat s2 x2 5) fun _ s4 =>
  (if x2 = 0 then
  (Option.bind (f_X4_placeOf s4 x1) fun y5 =>
  some (.ok (y5 - y5 / 10 * 10), s4))
  else
  (if x2 = 1 then
  (Option.bind (f_X4_placeOf s4 x1) fun y6 =>
  some (.ok (y6 / 10), s4))
  else
  (if x2 = 2 then
  (Option.bind (f_X0_carpSize s4 5 x1) fun y7 =>
  some (.ok y7, s4))
  else
  (if x2 = 3 then
  (Option.bind (f_X4_isHere s4 x1) fun y8 =>
  (if y8 = 0 then
  some (.ok 1, s4)
  else
  some (.ok 0, s4)))
  else
  (Option.bind (f_X6_rankOf s4 x1) fun y9 =>
  some (.ok y9, s4))))))))
def f_X6_gate (σ : mg_St) (x1 : Int32) (x2 : Int32) (x3 : Int32) : Option (Except (Fin 3) Int32 × mg_St) :=
  (mg_xb (f_X6_checkPlace σ x1 x2) fun _ s2 =>
  (Option.bind (f_X1_isDirection s2 x3) fun y3 =>
  (if y3 = 0 then
  some (.error 1, s2)
  else
  (if (s2 3 2) < 6 then
  (Option.bind (f_X1_numberOf s2 x1 x2) fun y4 =>
  (Option.bind (f_X2_add s2 y4 x3) fun y5 =>
  some (.ok y5.1, y5.2)))
  else
  some (.error 2, s2)))))
def f_X6_checkGate (σ : mg_St) (x1 : Int32) : Option (Except (Fin 3) Unit × mg_St) :=
  (if x1 < 0 then
  some (.error 0, σ)
  else
  (if x1 < (σ 3 2) then
  some (.ok (), σ)
  else
  some (.error 0, σ)))
def f_X6_show (σ : mg_St) (b : Nat) (x1 : Int32) : Option mg_St :=
  (Option.bind (f_X1_kindAt (mg_su σ 7 0 ((σ 7 0) + 1)) x1) fun y1 =>
  (if y1 = 1 then
  (Option.bind (f_X1_shapeAt (mg_su σ 7 0 ((σ 7 0) + 1)) x1) fun y4 =>
  (Option.bind (f_X1_sizeAt (mg_su σ 7 0 ((σ 7 0) + 1)) x1) fun y5 =>
  (Option.bind (f_X5_addRock (mg_su σ 7 0 ((σ 7 0) + 1)) y4 y5) fun y6 =>
  some y6)))
  else
  (if y1 = 2 then
  (Option.bind (f_X4_sizesIn (mg_su σ 7 0 ((σ 7 0) + 1)) b x1) fun y2 =>
  (Option.bind (f_X5_addPondCell (mg_su σ 7 0 ((σ 7 0) + 1)) y2) fun y3 =>
  some y3))
  else
  some (mg_su σ 7 0 ((σ 7 0) + 1)))))
def f_X6_look_37 (b : Nat) (a1 : Int32) (a3 : Int32) : Nat → Int32 → Int32 → mg_St → Option (Int32 × Int32 × mg_St)
  | 0, _, _, _ => none
  | n + 1, x4, x5, σ =>
    (if 10 ≤ x5 then
    some (x4, x5, σ)
    else
    (if x4 = (-1) then
    some (x4, x5, σ)
    else
    (Option.bind (f_X1_isWall σ x4) fun y5 =>
    (if y5 = 0 then
    (Option.bind (f_X6_show σ b x4) fun y6 =>
    (Option.bind (f_X1_isGreatRock y6 x4) fun y7 =>
    (if y7 = 0 then
    (Option.bind (f_X1_beside y6 x4 a3) fun y8 =>
    f_X6_look_37 b a1 a3 n y8 (x5 + 1) y6)
    else
    f_X6_look_37 b a1 a3 n (-1) (x5 + 1) y6)))
    else
    some (x4, x5, σ)))))
def f_X6_look (σ : mg_St) (b : Nat) (x1 : Int32) : Option (Int32 × mg_St) :=
  (Option.bind (f_X5_begin σ) fun y1 =>
  (Option.bind (f_X2_directionOf y1 x1) fun y2 =>
  (Option.bind (f_X2_placeOf y1 x1) fun y3 =>
  (Option.bind (f_X1_beside y1 y3 y2) fun y4 =>
  (Option.bind (f_X6_look_37 b x1 y2 5000 y4 0 y1) fun y9 =>
  some ((y9.2.2 7 3), y9.2.2))))))
def f_X6_about (σ : mg_St) (x1 : Int32) (x2 : Int32) : Option (Except (Fin 3) Int32 × mg_St) :=
  (mg_xb (f_X6_checkGate σ x1) fun _ s2 =>
  (mg_xb (f_X6_checkWhat s2 x2 5) fun _ s4 =>
  (Option.bind (f_X6_look s4 5 x1) fun y5 =>
  (if x2 = 0 then
  some (.ok (y5.2 7 0), y5.2)
  else
  (if x2 = 1 then
  some (.ok (y5.2 7 1), y5.2)
  else
  (if x2 = 2 then
  some (.ok (y5.2 7 2), y5.2)
  else
  (if x2 = 3 then
  some (.ok (y5.2 7 3), y5.2)
  else
  (Option.bind (f_X3_manyAt y5.2 x1) fun y6 =>
  some (.ok y6, y5.2)))))))))
def f_X6_invite (σ : mg_St) (x1 : Int32) : Option (Except (Fin 3) Int32 × mg_St) :=
  (mg_xb (f_X6_checkGate σ x1) fun _ s2 =>
  (if (s2 4 1) < 5 then
  (Option.bind (f_X3_add s2 x1) fun y3 =>
  some (.ok y3.1, y3.2))
  else
  some (.error 2, s2)))
def f_X6_checkPoet (σ : mg_St) (x1 : Int32) : Option (Except (Fin 3) Unit × mg_St) :=
  (if x1 < 0 then
  some (.error 0, σ)
  else
  (if x1 < (σ 4 1) then
  some (.ok (), σ)
  else
  some (.error 0, σ)))
def f_X6_lead (σ : mg_St) (x1 : Int32) (x2 : Int32) : Option (Except (Fin 3) Int32 × mg_St) :=
  (mg_xb (f_X6_checkPoet σ x1) fun _ s2 =>
  (mg_xb (f_X6_checkGate s2 x2) fun _ s4 =>
  (Option.bind (f_X3_gateOf s4 x1) fun y5 =>
  (Option.bind (f_X3_setGate s4 x1 x2) fun y6 =>
  some (.ok y5, y6)))))
def f_X6_lines (σ : mg_St) (x1 : Int32) : Option (Except (Fin 3) Int32 × mg_St) :=
  (mg_xb (f_X6_checkPoet σ x1) fun _ s2 =>
  (Option.bind (f_X0_written s2 5 x1) fun y3 =>
  some (.ok y3, s2)))
def f_X6_changingCount (σ : mg_St) (b : Nat) (x1 : Int32) : Option Int32 :=
  (if x1 = 2 then
  some (σ b 1)
  else
  (if x1 = 7 then
  (Option.bind (f_X4_sizesHere σ b) fun y1 =>
  some y1)
  else
  (Option.bind (f_X0_writtenByAll σ b) fun y2 =>
  some y2)))
def f_X6_count (σ : mg_St) (x1 : Int32) : Option (Except (Fin 3) Int32 × mg_St) :=
  (mg_xb (f_X6_checkWhat σ x1 11) fun _ s2 =>
  (if x1 = 0 then
  some (.ok (s2 5 0), s2)
  else
  (if x1 = 1 then
  (Option.bind (f_X0_isFullMoon s2 5) fun y3 =>
  (if y3 = 0 then
  some (.ok 0, s2)
  else
  some (.ok 1, s2)))
  else
  (if x1 = 2 then
  (Option.bind (f_X6_changingCount s2 5 x1) fun y4 =>
  some (.ok y4, s2))
  else
  (if x1 = 3 then
  (Option.bind (f_X1_manyOf s2 1) fun y5 =>
  some (.ok y5, s2))
  else
  (if x1 = 4 then
  (Option.bind (f_X1_manyOf s2 2) fun y6 =>
  some (.ok y6, s2))
  else
  (if x1 = 5 then
  some (.ok (s2 1 8), s2)
  else
  (if x1 = 6 then
  (Option.bind (f_X4_manyHere s2) fun y7 =>
  some (.ok y7, s2))
  else
  (if x1 = 7 then
  (Option.bind (f_X6_changingCount s2 5 x1) fun y8 =>
  some (.ok y8, s2))
  else
  (if x1 = 8 then
  some (.ok (s2 3 2), s2)
  else
  (if x1 = 9 then
  some (.ok (s2 4 1), s2)
  else
  (Option.bind (f_X6_changingCount s2 5 x1) fun y9 =>
  some (.ok y9, s2)))))))))))))
def f_X6_checkDays (σ : mg_St) (x1 : Int32) : Option (Except (Fin 3) Unit × mg_St) :=
  (if x1 < 1 then
  some (.error 1, σ)
  else
  (if x1 ≤ 60 then
  some (.ok (), σ)
  else
  some (.error 1, σ)))
def f_X6_letCarpsGrow_2 (b : Nat) : Nat → Int32 → mg_St → Option (Int32 × mg_St)
  | 0, _, _ => none
  | n + 1, x2, σ =>
    (if (σ 2 2) ≤ x2 then
    some (x2, σ)
    else
    (Option.bind (f_X4_isHere σ x2) fun y1 =>
    (if y1 = 0 then
    f_X6_letCarpsGrow_2 b n (x2 + 1) σ
    else
    (Option.bind (f_X4_placeOf σ x2) fun y2 =>
    (Option.bind (f_X1_isTooFull σ y2) fun y3 =>
    (Option.bind (if y3 = 0 then
    some 1
    else
    some (-1)) fun (y4 : Int32) =>
    (Option.bind (f_X0_carpSize σ b x2) fun y5 =>
    (Option.bind (f_X0_setCarpSize σ b x2 (y5 + y4)) fun y6 =>
    f_X6_letCarpsGrow_2 b n (x2 + 1) y6))))))))
def f_X6_letCarpsGrow (σ : mg_St) (b : Nat)  : Option mg_St :=
  (Option.bind (f_X6_letCarpsGrow_2 b 5000 0 σ) fun y7 =>
  some y7.2)
def f_X6_letPoetsWrite_18 (b : Nat) (a3 : Int32) : Nat → Int32 → Int32 → mg_St → Option (Int32 × Int32 × mg_St)
  | 0, _, _, _ => none
  | n + 1, x2, x4, σ =>
    (if (σ 4 1) ≤ x4 then
    some (x2, x4, σ)
    else
    (Option.bind (f_X3_gateOf σ x4) fun y3 =>
    (Option.bind (f_X6_look σ b y3) fun y4 =>
    (Option.bind (f_X0_addWritten y4.2 b x4 (a3 * (y4.1 / 5))) fun y5 =>
    f_X6_letPoetsWrite_18 b a3 n (x2 + (a3 * (y4.1 / 5))) (x4 + 1) y5))))
def f_X6_letPoetsWrite (σ : mg_St) (b : Nat)  : Option (Int32 × mg_St) :=
  (Option.bind (f_X0_isFullMoon σ b) fun y1 =>
  (Option.bind (if y1 = 0 then
  some 1
  else
  some 2) fun (y2 : Int32) =>
  (Option.bind (f_X6_letPoetsWrite_18 b y2 5000 0 0 σ) fun y6 =>
  some (y6.1, y6.2.2))))
def f_X6_letPass_5 (b : Nat) (a1 : Int32) : Nat → Int32 → Int32 → mg_St → Option (Int32 × Int32 × mg_St)
  | 0, _, _, _ => none
  | n + 1, x3, x4, σ =>
    (if a1 ≤ x4 then
    some (x3, x4, σ)
    else
    (Option.bind (f_X6_letCarpsGrow σ b) fun y1 =>
    (Option.bind (f_X6_letPoetsWrite y1 b) fun y2 =>
    f_X6_letPass_5 b a1 n (x3 + y2.1) (x4 + 1) (mg_su (mg_su y2.2 b 1 ((y2.2 b 1) + (y2.1 / 10))) b 0 (((mg_su y2.2 b 1 ((y2.2 b 1) + (y2.1 / 10))) b 0) + 1)))))
def f_X6_letPass (σ : mg_St) (b : Nat) (x1 : Int32) : Option (Int32 × mg_St) :=
  (Option.bind (f_X6_letPass_5 b x1 5000 0 0 σ) fun y3 =>
  some (y3.1, y3.2.2))
def f_X6_pass (σ : mg_St) (x1 : Int32) : Option (Except (Fin 3) Int32 × mg_St) :=
  (mg_xb (f_X6_checkDays σ x1) fun _ s2 =>
  (Option.bind (f_X6_letPass s2 5 x1) fun y3 =>
  some (.ok y3.1, y3.2)))
def f_X6_foresee (σ : mg_St) (x1 : Int32) (x2 : Int32) : Option (Except (Fin 3) Int32 × mg_St) :=
  (mg_xb (f_X6_checkDays σ x1) fun _ s2 =>
  (if x2 = 2 then
  (Option.bind (f_X0_becomeLike s2) fun y3 =>
  (Option.bind (f_X6_letPass y3 6 x1) fun y4 =>
  (Option.bind (f_X6_changingCount y4.2 6 x2) fun y5 =>
  some (.ok y5, y4.2))))
  else
  (if x2 = 7 then
  (Option.bind (f_X0_becomeLike s2) fun y6 =>
  (Option.bind (f_X6_letPass y6 6 x1) fun y7 =>
  (Option.bind (f_X6_changingCount y7.2 6 x2) fun y8 =>
  some (.ok y8, y7.2))))
  else
  (if x2 = 10 then
  (Option.bind (f_X0_becomeLike s2) fun y9 =>
  (Option.bind (f_X6_letPass y9 6 x1) fun y10 =>
  (Option.bind (f_X6_changingCount y10.2 6 x2) fun y11 =>
  some (.ok y11, y10.2))))
  else
  some (.error 0, s2)))))
def f_X6_beautyWithRock (σ : mg_St) (x1 : Int32) (x2 : Int32) (x3 : Int32) (x4 : Int32) : Option (Int32 × mg_St) :=
  (Option.bind (f_X1_setRock σ x2 x3 x4) fun y1 =>
  (Option.bind (f_X6_look y1 5 x1) fun y2 =>
  (Option.bind (f_X1_takeRock y2.2 x2) fun y3 =>
  some (y2.1, y3))))
def f_X6_advise_28 (a1 : Int32) (a2 : Int32) (a3 : Int32) : Nat → Int32 → Int32 → Int32 → mg_St → Option (Int32 × Int32 × Int32 × mg_St)
  | 0, _, _, _, _ => none
  | n + 1, x4, x5, x6, σ =>
    (if 70 ≤ x6 then
    some (x4, x5, x6, σ)
    else
    (Option.bind (f_X1_isBare σ x6) fun y6 =>
    (if y6 = 0 then
    f_X6_advise_28 a1 a2 a3 n x4 x5 (x6 + 1) σ
    else
    (Option.bind (f_X6_beautyWithRock σ a1 x6 a2 a3) fun y7 =>
    (if y7.1 ≤ x5 then
    f_X6_advise_28 a1 a2 a3 n x4 x5 (x6 + 1) y7.2
    else
    f_X6_advise_28 a1 a2 a3 n x6 y7.1 (x6 + 1) y7.2)))))
def f_X6_advise (σ : mg_St) (x1 : Int32) (x2 : Int32) (x3 : Int32) : Option (Except (Fin 3) Int32 × mg_St) :=
  (mg_xb (f_X6_checkGate σ x1) fun _ s2 =>
  (mg_xb (f_X6_checkRock s2 x2 x3) fun _ s4 =>
  (Option.bind (f_X6_look s4 5 x1) fun y5 =>
  (Option.bind (f_X6_advise_28 x1 x2 x3 5000 (-1) y5.1 0 y5.2) fun y8 =>
  some (.ok y8.1, y8.2.2.2)))))
def f_X6_finest_6  : Nat → Int32 → Int32 → Int32 → mg_St → Option (Int32 × Int32 × Int32 × mg_St)
  | 0, _, _, _, _ => none
  | n + 1, x1, x2, x3, σ =>
    (if (σ 3 2) ≤ x3 then
    some (x1, x2, x3, σ)
    else
    (Option.bind (f_X6_look σ 5 x3) fun y1 =>
    (if y1.1 ≤ x2 then
    f_X6_finest_6  n x1 x2 (x3 + 1) y1.2
    else
    f_X6_finest_6  n x3 y1.1 (x3 + 1) y1.2)))
def f_X6_finest (σ : mg_St)  : Option (Int32 × mg_St) :=
  (Option.bind (f_X6_finest_6  5000 (-1) (-1) 0 σ) fun y2 =>
  some (y2.1, y2.2.2.2))
def f_X6_mean_16  : Nat → Int32 → Int32 → mg_St → Option (Int32 × Int32 × mg_St)
  | 0, _, _, _ => none
  | n + 1, x1, x2, σ =>
    (if (σ 3 2) ≤ x2 then
    some (x1, x2, σ)
    else
    (Option.bind (f_X6_look σ 5 x2) fun y1 =>
    f_X6_mean_16  n (x1 + y1.1) (x2 + 1) y1.2))
def f_X6_mean (σ : mg_St)  : Option (UInt64 × mg_St) :=
  (if 0 < (σ 3 2) then
  (Option.bind (f_X6_mean_16  5000 0 0 σ) fun y2 =>
  some ((FP.ddiv (FP.i2d y2.1) (FP.i2d (y2.2.2 3 2))), y2.2.2))
  else
  some (FP.dconst0, σ))
def f_X6_digestOfCells_25 (a1 : Int64) (a5 : Int32) (a6 : Int32) : Nat → Int64 → Int32 → mg_St → Option (Int64 × Int32 × mg_St)
  | 0, _, _, _ => none
  | n + 1, x3, x7, σ =>
    (if 5 ≤ x7 then
    some (x3, x7, σ)
    else
    (mg_xq (f_X6_cell σ a6 a5 x7) fun v1 s2 =>
    f_X6_digestOfCells_25 a1 a5 a6 n ((x3 * 31) + (Int32.toInt64 v1)) (x7 + 1) s2))
def f_X6_digestOfCells_15 (a1 : Int64) (a5 : Int32) : Nat → Int64 → Int32 → mg_St → Option (Int64 × Int32 × mg_St)
  | 0, _, _, _ => none
  | n + 1, x3, x6, σ =>
    (if 10 ≤ x6 then
    some (x3, x6, σ)
    else
    (Option.bind (f_X6_digestOfCells_25 a1 a5 x6 5000 x3 0 σ) fun y3 =>
    f_X6_digestOfCells_15 a1 a5 n y3.1 (x6 + 1) y3.2.2))
def f_X6_digestOfCells_5 (a1 : Int64) : Nat → Int64 → Int32 → mg_St → Option (Int64 × Int32 × mg_St)
  | 0, _, _, _ => none
  | n + 1, x3, x5, σ =>
    (if 7 ≤ x5 then
    some (x3, x5, σ)
    else
    (Option.bind (f_X6_digestOfCells_15 a1 x5 5000 x3 0 σ) fun y4 =>
    f_X6_digestOfCells_5 a1 n y4.1 (x5 + 1) y4.2.2))
def f_X6_digestOfCells (σ : mg_St) (x1 : Int64) : Option (Int64 × mg_St) :=
  (Option.bind (f_X6_digestOfCells_5 x1 5000 x1 0 σ) fun y5 =>
  some (y5.1, y5.2.2))
def f_X6_digestOfCarps_20 (a1 : Int64) (a5 : Int32) : Nat → Int64 → Int32 → mg_St → Option (Int64 × Int32 × mg_St)
  | 0, _, _, _ => none
  | n + 1, x3, x6, σ =>
    (if 5 ≤ x6 then
    some (x3, x6, σ)
    else
    (mg_xq (f_X6_told σ a5 x6) fun v1 s2 =>
    f_X6_digestOfCarps_20 a1 a5 n ((x3 * 31) + (Int32.toInt64 v1)) (x6 + 1) s2))
def f_X6_digestOfCarps_5 (a1 : Int64) : Nat → Int64 → Int32 → mg_St → Option (Int64 × Int32 × mg_St)
  | 0, _, _, _ => none
  | n + 1, x3, x5, σ =>
    (if (σ 2 2) ≤ x5 then
    some (x3, x5, σ)
    else
    (Option.bind (f_X6_digestOfCarps_20 a1 x5 5000 x3 0 σ) fun y3 =>
    f_X6_digestOfCarps_5 a1 n y3.1 (x5 + 1) y3.2.2))
def f_X6_digestOfCarps (σ : mg_St) (x1 : Int64) : Option (Int64 × mg_St) :=
  (Option.bind (f_X6_digestOfCarps_5 x1 5000 x1 0 σ) fun y4 =>
  some (y4.1, y4.2.2))
def f_X6_digestOfGates_20 (a1 : Int64) (a5 : Int32) : Nat → Int64 → Int32 → mg_St → Option (Int64 × Int32 × mg_St)
  | 0, _, _, _ => none
  | n + 1, x3, x6, σ =>
    (if 5 ≤ x6 then
    some (x3, x6, σ)
    else
    (mg_xq (f_X6_about σ a5 x6) fun v1 s2 =>
    f_X6_digestOfGates_20 a1 a5 n ((x3 * 31) + (Int32.toInt64 v1)) (x6 + 1) s2))
def f_X6_digestOfGates_5 (a1 : Int64) : Nat → Int64 → Int32 → mg_St → Option (Int64 × Int32 × mg_St)
  | 0, _, _, _ => none
  | n + 1, x3, x5, σ =>
    (if (σ 3 2) ≤ x5 then
    some (x3, x5, σ)
    else
    (Option.bind (f_X6_digestOfGates_20 a1 x5 5000 x3 0 σ) fun y3 =>
    f_X6_digestOfGates_5 a1 n y3.1 (x5 + 1) y3.2.2))
def f_X6_digestOfGates (σ : mg_St) (x1 : Int64) : Option (Int64 × mg_St) :=
  (Option.bind (f_X6_digestOfGates_5 x1 5000 x1 0 σ) fun y4 =>
  some (y4.1, y4.2.2))
def f_X6_digest_6  : Nat → Int64 → Int32 → mg_St → Option (Int64 × Int32 × mg_St)
  | 0, _, _, _ => none
  | n + 1, x1, x3, σ =>
    (if 11 ≤ x3 then
    some (x1, x3, σ)
    else
    (mg_xq (f_X6_count σ x3) fun v1 s2 =>
    f_X6_digest_6  n ((x1 * 31) + (Int32.toInt64 v1)) (x3 + 1) s2))
def f_X6_digest_51  : Nat → Int64 → Int32 → mg_St → Option (Int64 × Int32 × mg_St)
  | 0, _, _, _ => none
  | n + 1, x1, x3, σ =>
    (if (σ 4 1) ≤ x3 then
    some (x1, x3, σ)
    else
    (mg_xq (f_X6_lines σ x3) fun v7 s8 =>
    f_X6_digest_51  n ((x1 * 31) + (Int32.toInt64 v7)) (x3 + 1) s8))
def f_X6_digest (σ : mg_St)  : Option (Int64 × mg_St) :=
  (Option.bind (f_X6_digest_6  5000 1193 0 σ) fun y3 =>
  (Option.bind (f_X6_digestOfCells y3.2.2 y3.1) fun y4 =>
  (Option.bind (f_X6_digestOfCarps y4.2 y4.1) fun y5 =>
  (Option.bind (f_X6_digestOfGates y5.2 y5.1) fun y6 =>
  (Option.bind (f_X6_digest_51  5000 y6.1 0 y6.2) fun y9 =>
  some (y9.1, y9.2.2))))))
