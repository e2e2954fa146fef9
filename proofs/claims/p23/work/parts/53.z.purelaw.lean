/-- the garden by hand, at first -/
def mg_z0 : mg_Sz := (fun t _ i => if t = 0 ∧ i = 1 then 100 else 0, fun _ => 0)
def f_L_below (x0 : Int32) (x1 : Int32) : Option (Int32) :=
  (mg_gd (¬ x1 = 0)).bind fun _ =>
  some ((x0 &&& 2147483647) - (x0 &&& 2147483647) / x1 * x1)
def f_L_cell (xs : Nat → Int32) (Ln : Nat) (x1 : Int32) : Option (Int32) :=
  (if (nI Ln) ≤ x1 then
  some (790386105 * (x1 + 3))
  else
  (mg_rt xs Ln x1).bind fun v1 =>
  some v1)
def f_X7_pond_61 (a5 : Int32) (cS : mg_Sz) : Nat → Int32 → Int32 → (Nat → Nat → Int32) → Option (Int32 × Int32 × (Nat → Nat → Int32))
  | 0, _, _, _ => none
  | n + 1, x4, x6, cM4 =>
    (if 10 ≤ x6 then
    some (x4, x6, cM4)
    else
    (Option.bind (if x6 ≤ 0 then
    (if 9 ≤ x6 then
    (if a5 ≤ 0 then
    (if 6 ≤ a5 then
    some 0
    else
    (mg_ix 7 (a5 + 1)).bind fun j11 =>
    (mg_ix 10 x6).bind fun j12 =>
    (if ((cM4 j11) j12) = 0 then
    some 0
    else
    some 1))
    else
    (mg_ix 7 (a5 - 1)).bind fun j13 =>
    (mg_ix 10 x6).bind fun j14 =>
    (if ((cM4 j13) j14) = 0 then
    (if 6 ≤ a5 then
    some 0
    else
    (mg_ix 7 (a5 + 1)).bind fun j15 =>
    (mg_ix 10 x6).bind fun j16 =>
    (if ((cM4 j15) j16) = 0 then
    some 0
    else
    some 1))
    else
    some 1))
    else
    (mg_ix 7 a5).bind fun j17 =>
    (mg_ix 10 (x6 + 1)).bind fun j18 =>
    (if ((cM4 j17) j18) = 0 then
    (if a5 ≤ 0 then
    (if 6 ≤ a5 then
    some 0
    else
    (mg_ix 7 (a5 + 1)).bind fun j19 =>
    (mg_ix 10 x6).bind fun j20 =>
    (if ((cM4 j19) j20) = 0 then
    some 0
    else
    some 1))
    else
    (mg_ix 7 (a5 - 1)).bind fun j21 =>
    (mg_ix 10 x6).bind fun j22 =>
    (if ((cM4 j21) j22) = 0 then
    (if 6 ≤ a5 then
    some 0
    else
    (mg_ix 7 (a5 + 1)).bind fun j23 =>
    (mg_ix 10 x6).bind fun j24 =>
    (if ((cM4 j23) j24) = 0 then
    some 0
    else
    some 1))
    else
    some 1))
    else
    some 1))
    else
    (mg_ix 7 a5).bind fun j25 =>
    (mg_ix 10 (x6 - 1)).bind fun j26 =>
    (if ((cM4 j25) j26) = 0 then
    (if 9 ≤ x6 then
    (if a5 ≤ 0 then
    (if 6 ≤ a5 then
    some 0
    else
    (mg_ix 7 (a5 + 1)).bind fun j27 =>
    (mg_ix 10 x6).bind fun j28 =>
    (if ((cM4 j27) j28) = 0 then
    some 0
    else
    some 1))
    else
    (mg_ix 7 (a5 - 1)).bind fun j29 =>
    (mg_ix 10 x6).bind fun j30 =>
    (if ((cM4 j29) j30) = 0 then
    (if 6 ≤ a5 then
    some 0
    else
    (mg_ix 7 (a5 + 1)).bind fun j31 =>
    (mg_ix 10 x6).bind fun j32 =>
    (if ((cM4 j31) j32) = 0 then
    some 0
    else
    some 1))
    else
    some 1))
    else
    (mg_ix 7 a5).bind fun j33 =>
    (mg_ix 10 (x6 + 1)).bind fun j34 =>
    (if ((cM4 j33) j34) = 0 then
    (if a5 ≤ 0 then
    (if 6 ≤ a5 then
    some 0
    else
    (mg_ix 7 (a5 + 1)).bind fun j35 =>
    (mg_ix 10 x6).bind fun j36 =>
    (if ((cM4 j35) j36) = 0 then
    some 0
    else
    some 1))
    else
    (mg_ix 7 (a5 - 1)).bind fun j37 =>
    (mg_ix 10 x6).bind fun j38 =>
    (if ((cM4 j37) j38) = 0 then
    (if 6 ≤ a5 then
    some 0
    else
    (mg_ix 7 (a5 + 1)).bind fun j39 =>
    (mg_ix 10 x6).bind fun j40 =>
    (if ((cM4 j39) j40) = 0 then
    some 0
    else
    some 1))
    else
    some 1))
    else
    some 1))
    else
    some 1)) fun (y10 : Int32) =>
    (mg_ix 7 a5).bind fun j41 =>
    (mg_ix 10 x6).bind fun j42 =>
    (if ((cM4 j41) j42) = 0 then
    (mg_ix 7 a5).bind fun j43 =>
    (mg_ix 10 x6).bind fun j44 =>
    (if ((cS.1 2 (10 * j43 + j44)) 0) = 2 then
    (if y10 = 0 then
    f_X7_pond_61 a5 cS n x4 (x6 + 1) cM4
    else
    (mg_ix 7 a5).bind fun j45 =>
    (mg_ix 10 x6).bind fun j46 =>
    f_X7_pond_61 a5 cS n 1 (x6 + 1) (mg_mu cM4 j45 j46 (vp_nar .boolean 1)))
    else
    f_X7_pond_61 a5 cS n x4 (x6 + 1) cM4)
    else
    f_X7_pond_61 a5 cS n x4 (x6 + 1) cM4)))
def f_X7_pond_51 (cS : mg_Sz) : Nat → Int32 → Int32 → (Nat → Nat → Int32) → Option (Int32 × Int32 × (Nat → Nat → Int32))
  | 0, _, _, _ => none
  | n + 1, x4, x5, cM4 =>
    (if 7 ≤ x5 then
    some (x4, x5, cM4)
    else
    (Option.bind (f_X7_pond_61 x5 cS 5000 x4 0 cM4) fun y47 =>
    f_X7_pond_51 cS n y47.1 (x5 + 1) y47.2.2))
def f_X7_pond_40 (cS : mg_Sz) : Nat → Int32 → (Nat → Nat → Int32) → Option (Int32 × (Nat → Nat → Int32))
  | 0, _, _ => none
  | n + 1, x4, cM4 =>
    (if x4 = 0 then
    some (x4, cM4)
    else
    (Option.bind (f_X7_pond_51 cS 5000 0 0 cM4) fun y48 =>
    f_X7_pond_40 cS n y48.1 y48.2.2))
def f_X7_pond (ζ : mg_Sz) (x1 : Int32) (x2 : Int32) : Option (Nat → Nat → Int32) :=
  (mg_ix 7 x2).bind fun j3 =>
  (mg_ix 7 x2).bind fun j4 =>
  (mg_ix 10 x1).bind fun j5 =>
  (Option.bind (if ((ζ.1 2 (10 * j4 + j5)) 0) = 2 then
  some 1
  else
  some 0) fun (y6 : Int32) =>
  (mg_ix 10 x1).bind fun j7 =>
  (mg_ix 7 x2).bind fun j8 =>
  (mg_ix 10 x1).bind fun j9 =>
  (Option.bind (f_X7_pond_40 ζ 5000 (((mg_mu (fun _ _ => 0) j3 j7 (vp_nar .boolean y6)) j8) j9) (mg_mu (fun _ _ => 0) j3 j7 (vp_nar .boolean y6))) fun y49 =>
  some y49.2))
def f_X7_many_34 (j1 : Nat) (a3 : Int32) (a4 : Int32) (a7 : Int32) (cM : Nat → Nat → Int32) : Nat → Int32 → Int32 → Option (Int32 × Int32)
  | 0, _, _ => none
  | n + 1, x1, x8 =>
    (if a7 ≤ x8 then
    some (x1, x8)
    else
    (mg_ix 10 x8).bind fun j2 =>
    (if ((cM j1) j2) = 0 then
    f_X7_many_34 j1 a3 a4 a7 cM n (x1 + 0) (x8 + 1)
    else
    f_X7_many_34 j1 a3 a4 a7 cM n (x1 + 1) (x8 + 1)))
def f_X7_many_10 (a3 : Int32) (cM : Nat → Nat → Int32) : Nat → Int32 → Int32 → Option (Int32 × Int32)
  | 0, _, _ => none
  | n + 1, x1, x4 =>
    (if a3 ≤ x4 then
    some (x1, x4)
    else
    (mg_ix 7 x4).bind fun j1 =>
    (Option.bind (f_X7_many_34 j1 a3 x4 (nI 10) cM 5000 x1 0) fun y3 =>
    f_X7_many_10 a3 cM n y3.1 (x4 + 1)))
def f_X7_many (μ : Nat → Nat → Int32) : Option (Int32) :=
  (Option.bind (f_X7_many_10 (nI 7) μ 5000 0 0) fun y4 =>
  some y4.1)
def f_X7_carpsIn_14 (a4 : Int32) (cS : mg_Sz) (cM : Nat → Nat → Int32) : Nat → Int32 → Int32 → Option (Int32 × Int32)
  | 0, _, _ => none
  | n + 1, x2, x5 =>
    (if a4 ≤ x5 then
    some (x2, x5)
    else
    (mg_ix (cS.2 0) x5).bind fun j1 =>
    (if ((cS.1 3 j1) 3) = 0 then
    (mg_ix 7 ((cS.1 3 j1) 1)).bind fun j2 =>
    (mg_ix 10 ((cS.1 3 j1) 0)).bind fun j3 =>
    (if ((cM j2) j3) = 0 then
    f_X7_carpsIn_14 a4 cS cM n (x2 + 0) (x5 + 1)
    else
    f_X7_carpsIn_14 a4 cS cM n (x2 + 1) (x5 + 1))
    else
    f_X7_carpsIn_14 a4 cS cM n (x2 + 0) (x5 + 1)))
def f_X7_carpsIn (ζ : mg_Sz) (μ : Nat → Nat → Int32) : Option (Int32) :=
  (Option.bind (f_X7_carpsIn_14 (nI (ζ.2 0)) ζ μ 5000 0 0) fun y4 =>
  some y4.1)
def f_X7_shows_14 (k0 : Nat) (cS : mg_Sz) : Nat → Int32 → Int32 → Nat → (Nat → Nat → Int32) → Option (Nat × (Nat → Nat → Int32))
  | 0, _, _, _, _ => none
  | n + 1, x3, x4, nP, cP =>
    (Option.bind (if ((cS.1 4 k0) 2) = 1 then
    some 1
    else
    (if ((cS.1 4 k0) 2) = 3 then
    some (-1)
    else
    some 0)) fun (y2 : Int32) =>
    (Option.bind (if ((cS.1 4 k0) 2) = 2 then
    some 1
    else
    (if ((cS.1 4 k0) 2) = 0 then
    some (-1)
    else
    some 0)) fun (y3 : Int32) =>
    (if (x3 + y2) < 0 then
    some (nP, cP)
    else
    (if 9 < (x3 + y2) then
    some (nP, cP)
    else
    (if (x4 + y3) < 0 then
    some (nP, cP)
    else
    (if 6 < (x4 + y3) then
    some (nP, cP)
    else
    (mg_ix 7 (x4 + y3)).bind fun j4 =>
    (mg_ix 10 (x3 + y2)).bind fun j5 =>
    (if ((cS.1 2 (10 * j4 + j5)) 0) = 3 then
    some (nP, cP)
    else
    (mg_gd (nP ≤ 30)).bind fun _ =>
    (mg_ix 7 (x4 + y3)).bind fun j9 =>
    (mg_ix 10 (x3 + y2)).bind fun j10 =>
    (if ((cS.1 2 (10 * j9 + j10)) 0) = 1 then
    (mg_ix 7 (x4 + y3)).bind fun j11 =>
    (mg_ix 10 (x3 + y2)).bind fun j12 =>
    (if ((cS.1 2 (10 * j11 + j12)) 2) ≤ 6 then
    f_X7_shows_14 k0 cS n (x3 + y2) (x4 + y3) (nP + 1) (mg_pu cP nP (upd (upd (fun _ => 0) 0 (x3 + y2)) 1 (x4 + y3)))
    else
    some ((nP + 1), (mg_pu cP nP (upd (upd (fun _ => 0) 0 (x3 + y2)) 1 (x4 + y3)))))
    else
    f_X7_shows_14 k0 cS n (x3 + y2) (x4 + y3) (nP + 1) (mg_pu cP nP (upd (upd (fun _ => 0) 0 (x3 + y2)) 1 (x4 + y3)))))))))))
def f_X7_shows (k0 : Nat) (ζ : mg_Sz) : Option (Nat × (Nat → Nat → Int32)) :=
  f_X7_shows_14 k0 ζ 11 ((ζ.1 4 k0) 0) ((ζ.1 4 k0) 1) 0 (fun _ _ => 0)
def f_X7_beauty_52 (k0 : Nat) (j4 : Nat) (j6 : Nat) (a3 : Int32) (a4 : Int32) (cS : mg_Sz) (nP2 : Nat) (cP2 : Nat → Nat → Int32) : Nat → Int32 → Int32 → Option (Int32 × Int32)
  | 0, _, _ => none
  | n + 1, x6, x7 =>
    (if a4 ≤ x7 then
    some (x6, x7)
    else
    (mg_ix nP2 x7).bind fun j8 =>
    (mg_ix 7 ((cP2 j8) 1)).bind fun j9 =>
    (mg_ix nP2 x7).bind fun j10 =>
    (mg_ix 10 ((cP2 j10) 0)).bind fun j11 =>
    (if ((cS.1 2 (10 * j9 + j11)) 0) = 1 then
    (mg_ix nP2 x7).bind fun j12 =>
    (mg_ix 7 ((cP2 j12) 1)).bind fun j13 =>
    (mg_ix nP2 x7).bind fun j14 =>
    (mg_ix 10 ((cP2 j14) 0)).bind fun j15 =>
    (if ((cS.1 2 (10 * j13 + j15)) 1) = ((cS.1 2 (10 * j4 + j6)) 1) then
    f_X7_beauty_52 k0 j4 j6 a3 a4 cS nP2 cP2 n (x6 &&& 0) (x7 + 1)
    else
    f_X7_beauty_52 k0 j4 j6 a3 a4 cS nP2 cP2 n (x6 &&& 1) (x7 + 1))
    else
    f_X7_beauty_52 k0 j4 j6 a3 a4 cS nP2 cP2 n (x6 &&& 1) (x7 + 1)))
def f_X7_beauty_169 (k0 : Nat) (a3 : Int32) (a4 : Int32) (a8 : Int32) (cS : mg_Sz) (nP2 : Nat) (cP2 : Nat → Nat → Int32) : Nat → Int32 → Int32 → Option (Int32 × Int32)
  | 0, _, _ => none
  | n + 1, x6, x9 =>
    (if a8 ≤ x9 then
    some (x6, x9)
    else
    (mg_ix (cS.2 0) x9).bind fun j17 =>
    (if ((cS.1 3 j17) 3) = 0 then
    (mg_ix nP2 a4).bind fun j18 =>
    (if ((cS.1 3 j17) 0) = ((cP2 j18) 0) then
    (mg_ix nP2 a4).bind fun j19 =>
    (if ((cS.1 3 j17) 1) = ((cP2 j19) 1) then
    f_X7_beauty_169 k0 a3 a4 a8 cS nP2 cP2 n (x6 + ((cS.1 3 j17) 2)) (x9 + 1)
    else
    f_X7_beauty_169 k0 a3 a4 a8 cS nP2 cP2 n x6 (x9 + 1))
    else
    f_X7_beauty_169 k0 a3 a4 a8 cS nP2 cP2 n x6 (x9 + 1))
    else
    f_X7_beauty_169 k0 a3 a4 a8 cS nP2 cP2 n x6 (x9 + 1)))
def f_X7_beauty_11 (k0 : Nat) (cS : mg_Sz) (nP2 : Nat) (cP2 : Nat → Nat → Int32) : Nat → Int32 → Int32 → Option (Int32 × Int32)
  | 0, _, _ => none
  | n + 1, x3, x4 =>
    (if (nI nP2) ≤ x4 then
    some (x3, x4)
    else
    (mg_ix nP2 x4).bind fun j3 =>
    (mg_ix 7 ((cP2 j3) 1)).bind fun j4 =>
    (mg_ix nP2 x4).bind fun j5 =>
    (mg_ix 10 ((cP2 j5) 0)).bind fun j6 =>
    (Option.bind (if ((cS.1 2 (10 * j4 + j6)) 0) = 1 then
    (Option.bind (f_X7_beauty_52 k0 j4 j6 x3 x4 cS nP2 cP2 5000 1 0) fun y16 =>
    (if y16.1 = 0 then
    some (x3 + (((cS.1 2 (10 * j4 + j6)) 2) + 0))
    else
    some (x3 + (((cS.1 2 (10 * j4 + j6)) 2) + 4))))
    else
    some x3) fun (y7 : Int32) =>
    (if ((cS.1 2 (10 * j4 + j6)) 0) = 2 then
    (Option.bind (f_X7_beauty_169 k0 y7 x4 (nI (cS.2 0)) cS nP2 cP2 5000 0 0) fun y20 =>
    f_X7_beauty_11 k0 cS nP2 cP2 n (y7 + (3 + (y20.1 / 10))) (x4 + 1))
    else
    f_X7_beauty_11 k0 cS nP2 cP2 n y7 (x4 + 1))))
def f_X7_beauty (k0 : Nat) (ζ : mg_Sz) : Option (Int32) :=
  (Option.bind (f_X7_shows k0 ζ) fun y1 =>
  (Option.bind (f_X7_beauty_11 k0 ζ y1.1 y1.2 5000 0 0) fun y21 =>
  some y21.1))
def f_X7_pass_10 (a2 : Int32) : Nat → Int32 → mg_Sz → Option (Int32 × mg_Sz)
  | 0, _, _ => none
  | n + 1, x3, cS =>
    (if a2 ≤ x3 then
    some (x3, cS)
    else
    (mg_ix (cS.2 0) x3).bind fun j1 =>
    (if ((cS.1 3 j1) 3) = 1 then
    f_X7_pass_10 a2 n (x3 + 1) cS
    else
    (Option.bind (f_X7_pond cS ((cS.1 3 j1) 0) ((cS.1 3 j1) 1)) fun y2 =>
    (Option.bind (f_X7_carpsIn cS y2) fun y4 =>
    (Option.bind (f_X7_many y2) fun y6 =>
    (if y4 ≤ (2 * y6) then
    (if 40 ≤ ((cS.1 3 j1) 2) then
    f_X7_pass_10 a2 n (x3 + 1) (mg_zu cS 3 j1 2 40)
    else
    f_X7_pass_10 a2 n (x3 + 1) (mg_zu cS 3 j1 2 (((cS.1 3 j1) 2) + 1)))
    else
    (if ((cS.1 3 j1) 2) ≤ 1 then
    f_X7_pass_10 a2 n (x3 + 1) (mg_zu cS 3 j1 2 1)
    else
    f_X7_pass_10 a2 n (x3 + 1) (mg_zu cS 3 j1 2 (((cS.1 3 j1) 2) - 1)))))))))
def f_X7_pass_129 (a3 : Int32) : Nat → Int32 → Int32 → mg_Sz → Option (Int32 × Int32 × mg_Sz)
  | 0, _, _, _ => none
  | n + 1, x1, x4, cS =>
    (if a3 ≤ x4 then
    some (x1, x4, cS)
    else
    (mg_ix (cS.2 2) x4).bind fun j9 =>
    (mg_ix (cS.2 1) ((cS.1 5 j9) 0)).bind fun j10 =>
    (Option.bind (f_X7_beauty j10 cS) fun y11 =>
    (Option.bind (if ((cS.1 0 0 0) - (cS.1 0 0 0) / 8 * 8) = 4 then
    some ((y11 / 5) + (y11 / 5))
    else
    some (y11 / 5)) fun (y13 : Int32) =>
    f_X7_pass_129 a3 n (x1 + y13) (x4 + 1) (mg_zu cS 5 j9 1 (((cS.1 5 j9) 1) + y13)))))
def f_X7_pass (ζ : mg_Sz) : Option (Int32 × mg_Sz) :=
  (Option.bind (f_X7_pass_10 (nI (ζ.2 0)) 31 0 ζ) fun y8 =>
  (Option.bind (f_X7_pass_129 (nI (y8.2.2 2)) 6 0 0 y8.2) fun y14 =>
  some (y14.1, (mg_zu (mg_zu y14.2.2 0 0 1 ((y14.2.2.1 0 0 1) + (y14.1 / 10))) 0 0 0 (((mg_zu y14.2.2 0 0 1 ((y14.2.2.1 0 0 1) + (y14.1 / 10))).1 0 0 0) + 1)))))
def f_X7_counts_122 (a1 : Int32) (a2 : Int32) (a3 : Int32) (a5 : Int32) (a6 : Int32) (a8 : Int32) (cS : mg_Sz) (cM104 : Nat → Nat → Int32) : Nat → Int32 → (Nat → Nat → Int32) → Option (Int32 × (Nat → Nat → Int32))
  | 0, _, _ => none
  | n + 1, x9, cM10 =>
    (if 10 ≤ x9 then
    some (x9, cM10)
    else
    (mg_ix 7 a8).bind fun j12 =>
    (mg_ix 10 x9).bind fun j13 =>
    (mg_ix 7 a8).bind fun j14 =>
    (mg_ix 10 x9).bind fun j15 =>
    (mg_ix 10 x9).bind fun j16 =>
    f_X7_counts_122 a1 a2 a3 a5 a6 a8 cS cM104 n (x9 + 1) (mg_mu cM10 j12 j16 (vp_nar .boolean (((cM10 j12) j13) ||| ((cM104 j14) j15)))))
def f_X7_counts_112 (a1 : Int32) (a2 : Int32) (a3 : Int32) (a5 : Int32) (a6 : Int32) (cS : mg_Sz) (cM104 : Nat → Nat → Int32) : Nat → Int32 → (Nat → Nat → Int32) → Option (Int32 × (Nat → Nat → Int32))
  | 0, _, _ => none
  | n + 1, x8, cM10 =>
    (if 7 ≤ x8 then
    some (x8, cM10)
    else
    (Option.bind (f_X7_counts_122 a1 a2 a3 a5 a6 x8 cS cM104 5000 0 cM10) fun y17 =>
    f_X7_counts_112 a1 a2 a3 a5 a6 cS cM104 n (x8 + 1) y17.2))
def f_X7_counts_29 (a5 : Int32) (cS : mg_Sz) : Nat → Int32 → Int32 → Int32 → Int32 → (Nat → Nat → Int32) → Option (Int32 × Int32 × Int32 × Int32 × (Nat → Nat → Int32))
  | 0, _, _, _, _, _ => none
  | n + 1, x1, x2, x3, x6, cM10 =>
    (if 10 ≤ x6 then
    some (x1, x2, x3, x6, cM10)
    else
    (mg_ix 7 a5).bind fun j3 =>
    (mg_ix 10 x6).bind fun j4 =>
    (Option.bind (if ((cS.1 2 (10 * j3 + j4)) 0) = 1 then
    some 1
    else
    some 0) fun (y5 : Int32) =>
    (mg_ix 7 a5).bind fun j6 =>
    (mg_ix 10 x6).bind fun j7 =>
    (if ((cS.1 2 (10 * j6 + j7)) 0) = 2 then
    (mg_ix 7 a5).bind fun j8 =>
    (mg_ix 10 x6).bind fun j9 =>
    (if ((cM10 j8) j9) = 0 then
    (Option.bind (f_X7_pond cS x6 a5) fun y10 =>
    (Option.bind (f_X7_counts_112 (x1 + y5) (x2 + 1) (x3 + 1) a5 x6 cS y10 5000 0 cM10) fun y18 =>
    f_X7_counts_29 a5 cS n (x1 + y5) (x2 + 1) (x3 + 1) (x6 + 1) y18.2))
    else
    f_X7_counts_29 a5 cS n (x1 + y5) (x2 + 1) x3 (x6 + 1) cM10)
    else
    f_X7_counts_29 a5 cS n (x1 + y5) x2 x3 (x6 + 1) cM10)))
def f_X7_counts_19 (cS : mg_Sz) : Nat → Int32 → Int32 → Int32 → Int32 → (Nat → Nat → Int32) → Option (Int32 × Int32 × Int32 × Int32 × (Nat → Nat → Int32))
  | 0, _, _, _, _, _ => none
  | n + 1, x1, x2, x3, x5, cM10 =>
    (if 7 ≤ x5 then
    some (x1, x2, x3, x5, cM10)
    else
    (Option.bind (f_X7_counts_29 x5 cS 11 x1 x2 x3 0 cM10) fun y19 =>
    f_X7_counts_19 cS n y19.1 y19.2.1 y19.2.2.1 (x5 + 1) y19.2.2.2.2))
def f_X7_counts_192 (a1 : Int32) (a2 : Int32) (a3 : Int32) (a8 : Int32) (cS : mg_Sz) : Nat → Int32 → Int32 → Int32 → Option (Int32 × Int32 × Int32)
  | 0, _, _, _ => none
  | n + 1, x5, x6, x9 =>
    (if a8 ≤ x9 then
    some (x5, x6, x9)
    else
    (mg_ix (cS.2 0) x9).bind fun j21 =>
    (if ((cS.1 3 j21) 3) = 0 then
    f_X7_counts_192 a1 a2 a3 a8 cS n (x5 + (1 - ((cS.1 3 j21) 3))) (x6 + ((cS.1 3 j21) 2)) (x9 + 1)
    else
    f_X7_counts_192 a1 a2 a3 a8 cS n (x5 + (1 - ((cS.1 3 j21) 3))) (x6 + 0) (x9 + 1)))
def f_X7_counts_260 (a1 : Int32) (a2 : Int32) (a3 : Int32) (a5 : Int32) (a6 : Int32) (a9 : Int32) (cS : mg_Sz) : Nat → Int32 → Int32 → Option (Int32 × Int32)
  | 0, _, _ => none
  | n + 1, x7, x10 =>
    (if a9 ≤ x10 then
    some (x7, x10)
    else
    (mg_ix (cS.2 2) x10).bind fun j23 =>
    f_X7_counts_260 a1 a2 a3 a5 a6 a9 cS n (x7 + ((cS.1 5 j23) 1)) (x10 + 1))
def f_X7_counts (ζ : mg_Sz) : Option (Nat → Int32) :=
  (Option.bind (f_X7_counts_19 ζ 8 0 0 0 0 (fun _ _ => 0)) fun y20 =>
  (Option.bind (f_X7_counts_192 y20.1 y20.2.1 y20.2.2.1 (nI (ζ.2 0)) ζ 5000 0 0 0) fun y22 =>
  (Option.bind (f_X7_counts_260 y20.1 y20.2.1 y20.2.2.1 y22.1 y22.2.1 (nI (ζ.2 2)) ζ 5000 0 0) fun y24 =>
  (Option.bind (if ((ζ.1 0 0 0) - (ζ.1 0 0 0) / 8 * 8) = 4 then
  some 1
  else
  some 0) fun (y26 : Int32) =>
  some (upd (upd (upd (upd (upd (upd (upd (upd (upd (upd (upd (fun _ => 0) 0 (ζ.1 0 0 0)) 1 y26) 2 (ζ.1 0 0 1)) 3 y20.1) 4 y20.2.1) 5 y20.2.2.1) 6 y22.1) 7 y22.2.1) 8 (nI (ζ.2 1))) 9 (nI (ζ.2 2))) 10 y24.1)))))
def f_X7_isSame_104 (a2 : Int32) (a3 : Int32) (cI35 : Nat → Int32) (cS : mg_Sz) : Nat → Int32 → mg_St → Option (Int32 × mg_St)
  | 0, _, _ => none
  | n + 1, x7, cC =>
    (if 5 ≤ x7 then
    some (x7, cC)
    else
    (mg_xq (f_X6_cell cC a3 a2 x7) fun v12 s13 =>
    (mg_ix 5 x7).bind fun j14 =>
    (if v12 = (cI35 j14) then
    f_X7_isSame_104 a2 a3 cI35 cS n (x7 + 1) s13
    else
    none)))
def f_X7_isSame_10 (a2 : Int32) (cS : mg_Sz) : Nat → Int32 → mg_St → Option (Int32 × mg_St)
  | 0, _, _ => none
  | n + 1, x3, cC =>
    (if 10 ≤ x3 then
    some (x3, cC)
    else
    (mg_ix 7 a2).bind fun j1 =>
    (mg_ix 10 x3).bind fun j2 =>
    (Option.bind (f_X7_pond cS x3 a2) fun y3 =>
    (Option.bind (if ((cS.1 2 (10 * j1 + j2)) 0) = 1 then
    some ((cS.1 2 (10 * j1 + j2)) 1)
    else
    some (-1)) fun (y6 : Int32) =>
    (Option.bind (if ((cS.1 2 (10 * j1 + j2)) 0) = 1 then
    some ((cS.1 2 (10 * j1 + j2)) 2)
    else
    some 0) fun (y7 : Int32) =>
    (Option.bind (f_X7_many y3) fun y8 =>
    (Option.bind (f_X7_carpsIn cS y3) fun y10 =>
    (Option.bind (f_X7_isSame_104 a2 x3 (upd (upd (upd (upd (upd (fun _ => 0) 0 ((cS.1 2 (10 * j1 + j2)) 0)) 1 y6) 2 y7) 3 y8) 4 y10) cS 5000 0 cC) fun y15 =>
    f_X7_isSame_10 a2 cS n (x3 + 1) y15.2)))))))
def f_X7_isSame_2 (cS : mg_Sz) : Nat → Int32 → mg_St → Option (Int32 × mg_St)
  | 0, _, _ => none
  | n + 1, x2, cC =>
    (if 7 ≤ x2 then
    some (x2, cC)
    else
    (Option.bind (f_X7_isSame_10 x2 cS 11 0 cC) fun y16 =>
    f_X7_isSame_2 cS n (x2 + 1) y16.2))
def f_X7_isSame_181 (j18 : Nat) (a2 : Int32) (a6 : Int32) (cC : mg_St) (cS : mg_Sz) : Nat → Int32 → Int32 → Option (Int32 × Int32)
  | 0, _, _ => none
  | n + 1, x4, x7 =>
    (if a6 ≤ x7 then
    some (x4, x7)
    else
    (mg_ix (cS.2 0) x7).bind fun j19 =>
    (if ((cS.1 3 j19) 3) = 0 then
    (if ((cS.1 3 j19) 2) ≤ ((cS.1 3 j18) 2) then
    f_X7_isSame_181 j18 a2 a6 cC cS n (x4 + 0) (x7 + 1)
    else
    f_X7_isSame_181 j18 a2 a6 cC cS n (x4 + 1) (x7 + 1))
    else
    f_X7_isSame_181 j18 a2 a6 cC cS n (x4 + 0) (x7 + 1)))
def f_X7_isSame_276 (a2 : Int32) (cS : mg_Sz) (cI229 : Nat → Int32) : Nat → Int32 → mg_St → Option (Int32 × mg_St)
  | 0, _, _ => none
  | n + 1, x6, cC =>
    (if 5 ≤ x6 then
    some (x6, cC)
    else
    (mg_xq (f_X6_told cC a2 x6) fun v23 s24 =>
    (mg_ix 5 x6).bind fun j25 =>
    (if v23 = (cI229 j25) then
    f_X7_isSame_276 a2 cS cI229 n (x6 + 1) s24
    else
    none)))
def f_X7_isSame_148 (cS : mg_Sz) : Nat → Int32 → mg_St → Option (Int32 × mg_St)
  | 0, _, _ => none
  | n + 1, x2, cC =>
    (if (nI (cS.2 0)) ≤ x2 then
    some (x2, cC)
    else
    (mg_ix (cS.2 0) x2).bind fun j18 =>
    (Option.bind (f_X7_isSame_181 j18 x2 (nI (cS.2 0)) cC cS 5000 1 0) fun y20 =>
    (Option.bind (if ((cS.1 3 j18) 3) = 1 then
    some 0
    else
    some y20.1) fun (y22 : Int32) =>
    (Option.bind (f_X7_isSame_276 x2 cS (upd (upd (upd (upd (upd (fun _ => 0) 0 ((cS.1 3 j18) 0)) 1 ((cS.1 3 j18) 1)) 2 ((cS.1 3 j18) 2)) 3 ((cS.1 3 j18) 3)) 4 y22) 5000 0 cC) fun y26 =>
    f_X7_isSame_148 cS n (x2 + 1) y26.2))))
def f_X7_isSame_360 (a2 : Int32) (a3 : Int32) (a4 : Int32) (a9 : Int32) (cC : mg_St) (cS : mg_Sz) (nP337 : Nat) (cP337 : Nat → Nat → Int32) : Nat → Int32 → Int32 → Int32 → Option (Int32 × Int32 × Int32)
  | 0, _, _, _ => none
  | n + 1, x6, x7, x10 =>
    (if a9 ≤ x10 then
    some (x6, x7, x10)
    else
    (mg_ix nP337 x10).bind fun j31 =>
    (mg_ix 7 ((cP337 j31) 1)).bind fun j32 =>
    (mg_ix 10 ((cP337 j31) 0)).bind fun j33 =>
    (Option.bind (if ((cS.1 2 (10 * j32 + j33)) 0) = 1 then
    some 1
    else
    some 0) fun (y34 : Int32) =>
    (mg_ix 7 ((cP337 j31) 1)).bind fun j35 =>
    (mg_ix 10 ((cP337 j31) 0)).bind fun j36 =>
    (if ((cS.1 2 (10 * j35 + j36)) 0) = 2 then
    f_X7_isSame_360 a2 a3 a4 a9 cC cS nP337 cP337 n (x6 + y34) (x7 + 1) (x10 + 1)
    else
    f_X7_isSame_360 a2 a3 a4 a9 cC cS nP337 cP337 n (x6 + y34) (x7 + 0) (x10 + 1))))
def f_X7_isSame_457 (a2 : Int32) (a3 : Int32) (a4 : Int32) (a6 : Int32) (a7 : Int32) (a10 : Int32) (cC : mg_St) (cS : mg_Sz) (nP337 : Nat) (cP337 : Nat → Nat → Int32) : Nat → Int32 → Int32 → Option (Int32 × Int32)
  | 0, _, _ => none
  | n + 1, x8, x11 =>
    (if a10 ≤ x11 then
    some (x8, x11)
    else
    (mg_ix (cS.2 2) x11).bind fun j38 =>
    (if ((cS.1 5 j38) 0) = a4 then
    f_X7_isSame_457 a2 a3 a4 a6 a7 a10 cC cS nP337 cP337 n (x8 + 1) (x11 + 1)
    else
    f_X7_isSame_457 a2 a3 a4 a6 a7 a10 cC cS nP337 cP337 n (x8 + 0) (x11 + 1)))
def f_X7_isSame_539 (a2 : Int32) (a3 : Int32) (a4 : Int32) (cI497 : Nat → Int32) (cS : mg_Sz) : Nat → Int32 → mg_St → Option (Int32 × mg_St)
  | 0, _, _ => none
  | n + 1, x10, cC =>
    (if 5 ≤ x10 then
    some (x10, cC)
    else
    (mg_xq (f_X6_about cC a4 x10) fun v44 s45 =>
    (mg_ix 5 x10).bind fun j46 =>
    (if v44 = (cI497 j46) then
    f_X7_isSame_539 a2 a3 a4 cI497 cS n (x10 + 1) s45
    else
    none)))
def f_X7_isSame_324 (cS : mg_Sz) : Nat → Int32 → Int32 → Int32 → mg_St → Option (Int32 × Int32 × Int32 × mg_St)
  | 0, _, _, _, _ => none
  | n + 1, x2, x3, x4, cC =>
    (if x4 < 0 then
    some (x2, x3, x4, cC)
    else
    (mg_ix (cS.2 1) x4).bind fun j28 =>
    (Option.bind (f_X7_shows j28 cS) fun y29 =>
    (Option.bind (f_X7_isSame_360 x2 x3 x4 (nI y29.1) cC cS y29.1 y29.2 5000 0 0 0) fun y37 =>
    (Option.bind (f_X7_isSame_457 x2 x3 x4 y37.1 y37.2.1 (nI (cS.2 2)) cC cS y29.1 y29.2 5000 0 0) fun y39 =>
    (mg_ix (cS.2 1) x4).bind fun j41 =>
    (Option.bind (f_X7_beauty j41 cS) fun y42 =>
    (Option.bind (f_X7_isSame_539 x2 x3 x4 (upd (upd (upd (upd (upd (fun _ => 0) 0 (nI y29.1)) 1 y37.1) 2 y37.2.1) 3 y42) 4 y39.1) cS 5000 0 cC) fun y47 =>
    (if x3 < 0 then
    f_X7_isSame_324 cS n (x2 + ((upd (upd (upd (upd (upd (fun _ => 0) 0 (nI y29.1)) 1 y37.1) 2 y37.2.1) 3 y42) 4 y39.1) 3)) x4 (x4 + (-1)) y47.2
    else
    (mg_ix (cS.2 1) x3).bind fun j48 =>
    (Option.bind (f_X7_beauty j48 cS) fun y49 =>
    (if ((upd (upd (upd (upd (upd (fun _ => 0) 0 (nI y29.1)) 1 y37.1) 2 y37.2.1) 3 y42) 4 y39.1) 3) < y49 then
    f_X7_isSame_324 cS n (x2 + ((upd (upd (upd (upd (upd (fun _ => 0) 0 (nI y29.1)) 1 y37.1) 2 y37.2.1) 3 y42) 4 y39.1) 3)) x3 (x4 + (-1)) y47.2
    else
    f_X7_isSame_324 cS n (x2 + ((upd (upd (upd (upd (upd (fun _ => 0) 0 (nI y29.1)) 1 y37.1) 2 y37.2.1) 3 y42) 4 y39.1) 3)) x4 (x4 + (-1)) y47.2)))))))))
def f_X7_isSame_609 (a2 : Int32) (a3 : Int32) (cS : mg_Sz) : Nat → Int32 → mg_St → Option (Int32 × mg_St)
  | 0, _, _ => none
  | n + 1, x4, cC =>
    (if (nI (cS.2 2)) ≤ x4 then
    some (x4, cC)
    else
    (mg_xq (f_X6_lines cC x4) fun v52 s53 =>
    (mg_ix (cS.2 2) x4).bind fun j54 =>
    (if v52 = ((cS.1 5 j54) 1) then
    f_X7_isSame_609 a2 a3 cS n (x4 + 1) s53
    else
    none)))
def f_X7_isSame_654 (a2 : Int32) (a3 : Int32) (cS : mg_Sz) (cI646 : Nat → Int32) : Nat → Int32 → mg_St → Option (Int32 × mg_St)
  | 0, _, _ => none
  | n + 1, x5, cC =>
    (if 11 ≤ x5 then
    some (x5, cC)
    else
    (mg_xq (f_X6_count cC x5) fun v58 s59 =>
    (mg_ix 11 x5).bind fun j60 =>
    (if v58 = (cI646 j60) then
    f_X7_isSame_654 a2 a3 cS cI646 n (x5 + 1) s59
    else
    none)))
def f_X7_isSame (σ : mg_St) (ζ : mg_Sz) : Option (Unit) :=
  (Option.bind (f_X7_isSame_2 ζ 8 0 σ) fun y17 =>
  (Option.bind (f_X7_isSame_148 ζ 31 0 y17.2) fun y27 =>
  (Option.bind (f_X7_isSame_324 ζ 7 0 (-1) ((nI (ζ.2 1)) - 1) y27.2) fun y51 =>
  (Option.bind (f_X7_isSame_609 y51.1 y51.2.1 ζ 5000 0 y51.2.2.2) fun y55 =>
  (Option.bind (f_X7_counts ζ) fun y56 =>
  (Option.bind (f_X7_isSame_654 y51.1 y51.2.1 ζ y56 5000 0 y55.2) fun y61 =>
  (Option.bind (f_X6_finest y61.2) fun y62 =>
  (if y62.1 = y51.2.1 then
  (Option.bind (f_X6_mean y62.2) fun y63 =>
  (mg_gd (ζ.2 1 ≤ 30 ∧ y63.1 = (if ζ.2 1 = 0 then FP.dconst0 else FP.ddiv (FP.i2d y51.1) (FP.i2d (nI (ζ.2 1)))) ∧ isNaN64 y63.1 = false)).bind fun _ =>
  some ())
  else
  none))))))))
def f_L_act_152 (j15 : Nat) (j16 : Nat) (σ : mg_St) (ζ : mg_Sz) (a2 : Int32) (a3 : Int32) (a4 : Int32) : Option (mg_St × mg_Sz) :=
  (Option.bind (f_L_below (a2 >>> (4 &&& 31)) 6) fun y19 =>
  (Option.bind (f_L_below (a2 >>> (3 &&& 31)) 2) fun y21 =>
  (Option.bind (if y21 = 0 then
  some 9
  else
  some 4) fun (y23 : Int32) =>
  (Option.bind (f_L_below (a2 >>> (7 &&& 31)) y23) fun y24 =>
  (Option.bind (if ((ζ.1 2 (10 * j15 + j16)) 0) = 0 then
  (if (ζ.1 0 0 1) < (2 * (1 + y24)) then
  some 0
  else
  some 1)
  else
  some 0) fun (y26 : Int32) =>
  (mg_xc (f_X6_rock σ a3 a4 y19 (1 + y24)) fun v27 s28 =>
  (Option.bind (if y26 = 0 then
  some ζ
  else
  (mg_ix 7 a4).bind fun j31 =>
  (mg_ix 10 a3).bind fun j32 =>
  some (mg_zu (mg_zr ζ (10 * j31 + j32) (upd (upd (upd (fun _ => 0) 0 1) 1 y19) 2 (1 + y24))) 0 0 1 (((mg_zr ζ (10 * j31 + j32) (upd (upd (upd (fun _ => 0) 0 1) 1 y19) 2 (1 + y24))).1 0 0 1) - (2 * (1 + y24))))) fun (y29 : mg_Sz) =>
  (if y26 = 0 then
  (if v27 = (-1) then
  some (s28, y29)
  else
  none)
  else
  (if v27 = (y29.1 0 0 1) then
  some (s28, y29)
  else
  none)))))))))
def f_L_act_307 (j15 : Nat) (j16 : Nat) (σ : mg_St) (ζ : mg_Sz) (a3 : Int32) (a4 : Int32) : Option (mg_St × mg_Sz) :=
  (Option.bind (if ((ζ.1 2 (10 * j15 + j16)) 0) = 0 then
  (if (ζ.1 0 0 1) ≤ 5 then
  some 0
  else
  some 1)
  else
  some 0) fun (y33 : Int32) =>
  (mg_xc (f_X6_dig σ a3 a4) fun v34 s35 =>
  (Option.bind (if y33 = 0 then
  some ζ
  else
  some (mg_zu (mg_zu ζ 2 (10 * j15 + j16) 0 2) 0 0 1 (((mg_zu ζ 2 (10 * j15 + j16) 0 2).1 0 0 1) - 6))) fun (y36 : mg_Sz) =>
  (if y33 = 0 then
  (if v34 = (-1) then
  some (s35, y36)
  else
  none)
  else
  (Option.bind (f_X7_pond y36 a3 a4) fun y37 =>
  (Option.bind (f_X7_many y37) fun y39 =>
  (if v34 = y39 then
  some (s35, y36)
  else
  none)))))))
def f_L_act_397 (j15 : Nat) (j16 : Nat) (σ : mg_St) (ζ : mg_Sz) (a3 : Int32) (a4 : Int32) : Option (mg_St × mg_Sz) :=
  (Option.bind (if ((ζ.1 2 (10 * j15 + j16)) 0) = 0 then
  (if (ζ.1 0 0 1) ≤ 2 then
  some 0
  else
  some 1)
  else
  some 0) fun (y41 : Int32) =>
  (mg_xc (f_X6_wall σ a3 a4) fun v42 s43 =>
  (Option.bind (if y41 = 0 then
  some ζ
  else
  some (mg_zu (mg_zu ζ 2 (10 * j15 + j16) 0 3) 0 0 1 (((mg_zu ζ 2 (10 * j15 + j16) 0 3).1 0 0 1) - 3))) fun (y44 : mg_Sz) =>
  (if y41 = 0 then
  (if v42 = (-1) then
  some (s43, y44)
  else
  none)
  else
  (if v42 = (y44.1 0 0 1) then
  some (s43, y44)
  else
  none)))))
def f_L_act_508 (j15 : Nat) (j16 : Nat) (a3 : Int32) (a4 : Int32) (a9 : Int32) (cC : mg_St) (cS : mg_Sz) : Nat → Int32 → Int32 → Option (Int32 × Int32)
  | 0, _, _ => none
  | n + 1, x7, x10 =>
    (if a9 ≤ x10 then
    some (x7, x10)
    else
    (mg_ix (cS.2 0) x10).bind fun j46 =>
    (if ((cS.1 3 j46) 3) = 1 then
    f_L_act_508 j15 j16 a3 a4 a9 cC cS n (x7 &&& 1) (x10 + 1)
    else
    (if ((cS.1 3 j46) 0) = a3 then
    (if ((cS.1 3 j46) 1) = a4 then
    f_L_act_508 j15 j16 a3 a4 a9 cC cS n (x7 &&& 0) (x10 + 1)
    else
    f_L_act_508 j15 j16 a3 a4 a9 cC cS n (x7 &&& 1) (x10 + 1))
    else
    f_L_act_508 j15 j16 a3 a4 a9 cC cS n (x7 &&& 1) (x10 + 1))))
def f_L_act_480 (j15 : Nat) (j16 : Nat) (σ : mg_St) (ζ : mg_Sz) (a3 : Int32) (a4 : Int32) : Option (mg_St × mg_Sz) :=
  (Option.bind (if ((ζ.1 2 (10 * j15 + j16)) 0) = 0 then
  some 0
  else
  some 1) fun (y45 : Int32) =>
  (Option.bind (f_L_act_508 j15 j16 a3 a4 (nI (ζ.2 0)) σ ζ 5000 y45 0) fun y47 =>
  (mg_xc (f_X6_clear σ a3 a4) fun v48 s49 =>
  (Option.bind (if y47.1 = 0 then
  some ζ
  else
  (Option.bind (if ((ζ.1 2 (10 * j15 + j16)) 0) = 1 then
  some ((ζ.1 2 (10 * j15 + j16)) 2)
  else
  some 0) fun (y51 : Int32) =>
  some (mg_zu (mg_zu ζ 0 0 1 ((ζ.1 0 0 1) + y51)) 2 (10 * j15 + j16) 0 0))) fun (y50 : mg_Sz) =>
  (if y47.1 = 0 then
  (if v48 = (-1) then
  some (s49, y50)
  else
  none)
  else
  (if v48 = (y50.1 0 0 1) then
  some (s49, y50)
  else
  none))))))
def f_L_act_639 (j15 : Nat) (j16 : Nat) (σ : mg_St) (ζ : mg_Sz) (a3 : Int32) (a4 : Int32) : Option (mg_St × mg_Sz) :=
  (Option.bind (if ((ζ.1 2 (10 * j15 + j16)) 0) = 2 then
  (if (ζ.1 0 0 1) ≤ 3 then
  some 0
  else
  (if 30 ≤ (nI (ζ.2 0)) then
  some 0
  else
  some 1))
  else
  some 0) fun (y52 : Int32) =>
  (mg_xc (f_X6_carp σ a3 a4) fun v53 s54 =>
  (Option.bind (if y52 = 0 then
  some (-1)
  else
  some (nI (ζ.2 0))) fun (y55 : Int32) =>
  (if v53 = y55 then
  (if y52 = 0 then
  some (s54, ζ)
  else
  (mg_gd ((ζ.2 0) ≤ 30)).bind fun _ =>
  some (s54, (mg_zu (mg_zm ζ 0 (upd (upd (upd (upd (fun _ => 0) 0 a3) 1 a4) 2 1) 3 0)) 0 0 1 (((mg_zm ζ 0 (upd (upd (upd (upd (fun _ => 0) 0 a3) 1 a4) 2 1) 3 0)).1 0 0 1) - 4))))
  else
  none))))
def f_L_act_764 (σ : mg_St) (ζ : mg_Sz) (a2 : Int32) : Option (mg_St × mg_Sz) :=
  (if (nI (ζ.2 0)) = 0 then
  some (σ, ζ)
  else
  (Option.bind (f_L_below (a2 >>> (7 &&& 31)) 3) fun y59 =>
  (if y59 ≤ 0 then
  (Option.bind (f_L_below (a2 >>> (4 &&& 31)) (nI (ζ.2 0))) fun y61 =>
  (mg_ix (ζ.2 0) y61).bind fun j63 =>
  (Option.bind (if ((ζ.1 3 j63) 3) = 0 then
  some 1
  else
  some 0) fun (y64 : Int32) =>
  (mg_xc (f_X6_sell σ y61) fun v65 s66 =>
  (Option.bind (if y64 = 0 then
  some ζ
  else
  some (mg_zu (mg_zu ζ 3 j63 3 1) 0 0 1 (((mg_zu ζ 3 j63 3 1).1 0 0 1) + (((((mg_zu ζ 3 j63 3 1).1 3 j63) 2) / 2) + 1)))) fun (y67 : mg_Sz) =>
  (if y64 = 0 then
  (if v65 = (-1) then
  some (s66, y67)
  else
  none)
  else
  (if v65 = (y67.1 0 0 1) then
  some (s66, y67)
  else
  none))))))
  else
  some (σ, ζ))))
def f_L_act_888 (σ : mg_St) (ζ : mg_Sz) (a2 : Int32) (a3 : Int32) (a4 : Int32) : Option (mg_St × mg_Sz) :=
  (Option.bind (f_L_below (a2 >>> (5 &&& 31)) 4) fun y69 =>
  (mg_xc (f_X6_gate σ a3 a4 ((upd (upd (upd (fun _ => 0) 0 a3) 1 a4) 2 y69) 2)) fun v71 s72 =>
  (Option.bind (if 6 ≤ (nI (ζ.2 1)) then
  some (-1)
  else
  some (nI (ζ.2 1))) fun (y73 : Int32) =>
  (if v71 = y73 then
  (if v71 < 0 then
  some (s72, ζ)
  else
  (mg_gd ((ζ.2 1) ≤ 30)).bind fun _ =>
  some (s72, (mg_zm ζ 1 (upd (upd (upd (fun _ => 0) 0 a3) 1 a4) 2 y69))))
  else
  none))))
def f_L_act_980 (σ : mg_St) (ζ : mg_Sz) (a2 : Int32) : Option (mg_St × mg_Sz) :=
  (if (nI (ζ.2 1)) = 0 then
  some (σ, ζ)
  else
  (Option.bind (f_L_below (a2 >>> (4 &&& 31)) (nI (ζ.2 1))) fun y77 =>
  (mg_xc (f_X6_invite σ ((upd (upd (fun _ => 0) 0 y77) 1 0) 0)) fun v79 s80 =>
  (Option.bind (if 5 ≤ (nI (ζ.2 2)) then
  some (-1)
  else
  some (nI (ζ.2 2))) fun (y81 : Int32) =>
  (if v79 = y81 then
  (if v79 < 0 then
  some (s80, ζ)
  else
  (mg_gd ((ζ.2 2) ≤ 30)).bind fun _ =>
  some (s80, (mg_zm ζ 2 (upd (upd (fun _ => 0) 0 y77) 1 0))))
  else
  none)))))
def f_L_act_1077 (σ : mg_St) (ζ : mg_Sz) (a2 : Int32) : Option (mg_St × mg_Sz) :=
  (if (nI (ζ.2 2)) = 0 then
  some (σ, ζ)
  else
  (Option.bind (f_L_below (a2 >>> (4 &&& 31)) (nI (ζ.2 2))) fun y84 =>
  (mg_ix (ζ.2 2) y84).bind fun j86 =>
  (mg_ix (ζ.2 2) y84).bind fun j87 =>
  (Option.bind (f_L_below (a2 >>> (6 &&& 31)) (nI (ζ.2 1))) fun y88 =>
  (mg_ix ((mg_zu ζ 5 j87 0 y88).2 2) y84).bind fun j90 =>
  (mg_xq (f_X6_lead σ y84 (((mg_zu ζ 5 j87 0 y88).1 5 j90) 0)) fun v91 s92 =>
  (if v91 = ((ζ.1 5 j86) 0) then
  some (s92, (mg_zu ζ 5 j87 0 y88))
  else
  none)))))
def f_L_act (σ : mg_St) (ζ : mg_Sz) (x2 : Int32) : Option (mg_St × mg_Sz) :=
  (Option.bind (f_L_below (x2 >>> (9 &&& 31)) 2) fun y1 =>
  (Option.bind (if y1 = 0 then
  (Option.bind (f_L_below (x2 >>> (3 &&& 31)) 10) fun y6 =>
  some y6)
  else
  (Option.bind (f_L_below (x2 >>> (4 &&& 31)) 4) fun y4 =>
  some (3 + y4))) fun (y3 : Int32) =>
  (Option.bind (f_L_below (x2 >>> (8 &&& 31)) 2) fun y8 =>
  (Option.bind (if y8 = 0 then
  (Option.bind (f_L_below (x2 >>> (6 &&& 31)) 7) fun y13 =>
  some y13)
  else
  (Option.bind (f_L_below (x2 >>> (5 &&& 31)) 3) fun y11 =>
  some (2 + y11))) fun (y10 : Int32) =>
  (mg_ix 7 y10).bind fun j15 =>
  (mg_ix 10 y3).bind fun j16 =>
  (Option.bind (f_L_below x2 15) fun y17 =>
  (if y17 = 0 then
  f_L_act_152 j15 j16 σ ζ x2 y3 y10
  else
  (if y17 = 1 then
  f_L_act_152 j15 j16 σ ζ x2 y3 y10
  else
  (if y17 = 2 then
  f_L_act_307 j15 j16 σ ζ y3 y10
  else
  (if y17 = 3 then
  f_L_act_307 j15 j16 σ ζ y3 y10
  else
  (if y17 = 4 then
  f_L_act_307 j15 j16 σ ζ y3 y10
  else
  (if y17 = 5 then
  f_L_act_397 j15 j16 σ ζ y3 y10
  else
  (if y17 = 6 then
  f_L_act_480 j15 j16 σ ζ y3 y10
  else
  (if y17 = 7 then
  f_L_act_639 j15 j16 σ ζ y3 y10
  else
  (if y17 = 8 then
  f_L_act_639 j15 j16 σ ζ y3 y10
  else
  (if y17 = 9 then
  f_L_act_639 j15 j16 σ ζ y3 y10
  else
  (if y17 = 10 then
  f_L_act_764 σ ζ x2
  else
  (if y17 = 11 then
  f_L_act_888 σ ζ x2 y3 y10
  else
  (if y17 = 12 then
  f_L_act_888 σ ζ x2 y3 y10
  else
  (if y17 = 13 then
  f_L_act_980 σ ζ x2
  else
  f_L_act_1077 σ ζ x2)))))))))))))))))))
def f_L_build_77 (xs : Nat → Int32) (Ln : Nat) (cI10 : Nat → Int32) : Nat → Int32 → mg_St → mg_Sz → Option (Int32 × mg_St × mg_Sz)
  | 0, _, _, _ => none
  | n + 1, x4, cC, cS =>
    (if 44 ≤ x4 then
    some (x4, cC, cS)
    else
    (Option.bind (f_L_cell xs Ln (x4 - x4 / 16 * 16)) fun y2 =>
    (Option.bind (if 12 ≤ x4 then
    some ((y2 >>> (((x4 / 16) * 5) &&& 31)) + (61 * x4))
    else
    (Option.bind (f_L_below ((y2 >>> (((x4 / 16) * 5) &&& 31)) + (61 * x4)) 100000) fun y5 =>
    (mg_ix 12 x4).bind fun j7 =>
    some ((y5 * 15) + (cI10 j7)))) fun (y4 : Int32) =>
    (Option.bind (f_L_act cC cS y4) fun y8 =>
    (if (1 : Int32) = 0 then
    none
    else
    (if x4 ≤ 9 then
    f_L_build_77 xs Ln cI10 n (x4 + 1) y8.1 y8.2
    else
    (Option.bind (f_L_below (y4 >>> (5 &&& 31)) 2) fun y10 =>
    (if y10 = 0 then
    (mg_xq (f_X6_pass y8.1 1) fun v12 s13 =>
    (Option.bind (f_X7_pass y8.2) fun y14 =>
    (if v12 = y14.1 then
    f_L_build_77 xs Ln cI10 n (x4 + 1) s13 y14.2
    else
    none)))
    else
    f_L_build_77 xs Ln cI10 n (x4 + 1) y8.1 y8.2))))))))
def f_L_build (xs : Nat → Int32) (Ln : Nat) (σ : mg_St) : Option (mg_St × mg_Sz) :=
  (Option.bind (f_L_build_77 xs Ln (upd (upd (upd (upd (upd (upd (upd (upd (upd (upd (upd (upd (fun _ => 0) 0 2) 1 3) 2 0) 3 11) 4 13) 5 7) 6 1) 7 8) 8 12) 9 13) 10 2) 11 9) 45 0 σ mg_z0) fun y16 =>
  some (y16.2.1, y16.2.2))
def f_L_law_142 (xs : Nat → Int32) (Ln : Nat) (a3 : Int32) (a4 : Int32) (a6 : Int32) (a7 : Int32) (a8 : Int32) (a11 : Int32) (a12 : Int32) (cS : mg_Sz) : Nat → Int32 → Int32 → Int32 → mg_St → Option (Int32 × Int32 × Int32 × mg_St)
  | 0, _, _, _, _ => none
  | n + 1, x9, x10, x13, cC =>
    (if 10 ≤ x13 then
    some (x9, x10, x13, cC)
    else
    (mg_xq (f_X6_cell cC x13 a12 0) fun v17 s18 =>
    (Option.bind (if v17 = 2 then
    some 1
    else
    some 0) fun (y19 : Int32) =>
    (Option.bind (if v17 = 1 then
    some 1
    else
    some 0) fun (y20 : Int32) =>
    (if v17 < 0 then
    none
    else
    (if 3 < v17 then
    none
    else
    (Option.bind (if v17 = 1 then
    some 1
    else
    some 0) fun (y21 : Int32) =>
    (mg_xq (f_X6_cell s18 x13 a12 1) fun v22 s23 =>
    (Option.bind (if v22 < 0 then
    some 0
    else
    some 1) fun (y24 : Int32) =>
    (if y21 = y24 then
    (Option.bind (if v17 = 1 then
    some 1
    else
    some 0) fun (y25 : Int32) =>
    (mg_xq (f_X6_cell s23 x13 a12 2) fun v26 s27 =>
    (Option.bind (if v26 ≤ 0 then
    some 0
    else
    some 1) fun (y28 : Int32) =>
    (if y25 = y28 then
    (Option.bind (if v17 = 2 then
    some 1
    else
    some 0) fun (y29 : Int32) =>
    (mg_xq (f_X6_cell s27 x13 a12 3) fun v30 s31 =>
    (Option.bind (if v30 ≤ 0 then
    some 0
    else
    some 1) fun (y32 : Int32) =>
    (if y29 = y32 then
    (Option.bind (if v17 = 2 then
    some s31
    else
    (mg_xq (f_X6_cell s31 x13 a12 4) fun v34 s35 =>
    (if v34 = 0 then
    some s35
    else
    none))) fun (y33 : mg_St) =>
    (Option.bind (if v17 = 2 then
    (if 9 ≤ x13 then
    some y33
    else
    (mg_xq (f_X6_cell y33 (x13 + 1) a12 0) fun v37 s38 =>
    (if v37 = 2 then
    (mg_xq (f_X6_cell s38 (x13 + 1) a12 3) fun v39 s40 =>
    (mg_xq (f_X6_cell s40 x13 a12 3) fun v41 s42 =>
    (if v39 = v41 then
    (mg_xq (f_X6_cell s42 (x13 + 1) a12 4) fun v43 s44 =>
    (mg_xq (f_X6_cell s44 x13 a12 4) fun v45 s46 =>
    (if v43 = v45 then
    some s46
    else
    none)))
    else
    none)))
    else
    some s38)))
    else
    some y33) fun (y36 : mg_St) =>
    (if v17 = 2 then
    (if 6 ≤ a12 then
    f_L_law_142 xs Ln a3 a4 a6 a7 a8 a11 a12 cS n (x9 + y19) (x10 + y20) (x13 + 1) y36
    else
    (mg_xq (f_X6_cell y36 x13 (a12 + 1) 0) fun v47 s48 =>
    (if v47 = 2 then
    (mg_xq (f_X6_cell s48 x13 (a12 + 1) 3) fun v49 s50 =>
    (mg_xq (f_X6_cell s50 x13 a12 3) fun v51 s52 =>
    (if v49 = v51 then
    f_L_law_142 xs Ln a3 a4 a6 a7 a8 a11 a12 cS n (x9 + y19) (x10 + y20) (x13 + 1) s52
    else
    none)))
    else
    f_L_law_142 xs Ln a3 a4 a6 a7 a8 a11 a12 cS n (x9 + y19) (x10 + y20) (x13 + 1) s48)))
    else
    f_L_law_142 xs Ln a3 a4 a6 a7 a8 a11 a12 cS n (x9 + y19) (x10 + y20) (x13 + 1) y36)))
    else
    none))))
    else
    none))))
    else
    none))))))))))
def f_L_law_132 (xs : Nat → Int32) (Ln : Nat) (a3 : Int32) (a4 : Int32) (a6 : Int32) (a7 : Int32) (a8 : Int32) (a11 : Int32) (cS : mg_Sz) : Nat → Int32 → Int32 → Int32 → mg_St → Option (Int32 × Int32 × Int32 × mg_St)
  | 0, _, _, _, _ => none
  | n + 1, x9, x10, x12, cC =>
    (if 7 ≤ x12 then
    some (x9, x10, x12, cC)
    else
    (Option.bind (f_L_law_142 xs Ln a3 a4 a6 a7 a8 a11 x12 cS 5000 x9 x10 0 cC) fun y53 =>
    f_L_law_132 xs Ln a3 a4 a6 a7 a8 a11 cS n y53.1 y53.2.1 (x12 + 1) y53.2.2.2))
def f_L_law_530 (xs : Nat → Int32) (Ln : Nat) (a3 : Int32) (a4 : Int32) (a6 : Int32) (a7 : Int32) (a8 : Int32) (cS : mg_Sz) (nI517 : Nat) (nZ523 : Nat) : Nat → Int32 → Int32 → mg_St → (Nat → Int32) → (Nat → Int32) → Option (Int32 × Int32 × mg_St × (Nat → Int32) × (Nat → Int32))
  | 0, _, _, _, _, _ => none
  | n + 1, x11, x14, cC, cI517, cZ523 =>
    (if a6 ≤ x14 then
    some (x11, x14, cC, cI517, cZ523)
    else
    (mg_xq (f_X6_told cC x14 2) fun v69 s70 =>
    (mg_ix nI517 x14).bind fun j71 =>
    (mg_xq (f_X6_told s70 x14 3) fun v72 s73 =>
    (Option.bind (if v72 = 1 then
    some 1
    else
    some 0) fun (y74 : Int32) =>
    (Option.bind (if y74 = 0 then
    some 1
    else
    some 0) fun (y75 : Int32) =>
    (mg_ix nI517 x14).bind fun j76 =>
    (if ((upd cI517 j71 v69) j76) < 1 then
    none
    else
    (mg_ix nI517 x14).bind fun j77 =>
    (if 40 < ((upd cI517 j71 v69) j77) then
    none
    else
    (mg_xq (f_X6_told s73 x14 4) fun v78 s79 =>
    (Option.bind (if v78 = 0 then
    some 1
    else
    some 0) fun (y80 : Int32) =>
    (if y74 = y80 then
    (Option.bind (if y74 = 0 then
    (mg_xq (f_X6_told s79 x14 0) fun v82 s83 =>
    (mg_xq (f_X6_told s83 x14 1) fun v84 s85 =>
    (mg_xq (f_X6_cell s85 v82 v84 0) fun v86 s87 =>
    (if v86 = 2 then
    some s87
    else
    none))))
    else
    some s79) fun (y81 : mg_St) =>
    (if y74 = 0 then
    (mg_xq (f_X6_told y81 x14 0) fun v89 s90 =>
    (mg_xq (f_X6_told s90 x14 1) fun v91 s92 =>
    (mg_xq (f_X6_cell s92 v89 v91 4) fun v93 s94 =>
    (mg_xq (f_X6_told s94 x14 0) fun v95 s96 =>
    (mg_xq (f_X6_told s96 x14 1) fun v97 s98 =>
    (mg_xq (f_X6_cell s98 v95 v97 3) fun v99 s100 =>
    (if (2 * v99) < v93 then
    (mg_ix nZ523 x14).bind fun j101 =>
    f_L_law_530 xs Ln a3 a4 a6 a7 a8 cS nI517 nZ523 n (x11 + y75) (x14 + 1) s100 (upd cI517 j71 v69) (upd cZ523 j101 (vp_nar .boolean 0))
    else
    (mg_ix nZ523 x14).bind fun j102 =>
    f_L_law_530 xs Ln a3 a4 a6 a7 a8 cS nI517 nZ523 n (x11 + y75) (x14 + 1) s100 (upd cI517 j71 v69) (upd cZ523 j102 (vp_nar .boolean 1)))))))))
    else
    (mg_ix nZ523 x14).bind fun j88 =>
    f_L_law_530 xs Ln a3 a4 a6 a7 a8 cS nI517 nZ523 n (x11 + y75) (x14 + 1) y81 (upd cI517 j71 v69) (upd cZ523 j88 (vp_nar .boolean 0))))
    else
    none))))))))))
def f_L_law_737 (xs : Nat → Int32) (Ln : Nat) (a3 : Int32) (a4 : Int32) (a6 : Int32) (a7 : Int32) (a8 : Int32) (cS : mg_Sz) (nI517 : Nat) (cI517 : Nat → Int32) (nZ523 : Nat) (cZ523 : Nat → Int32) (nI730 : Nat) : Nat → Int32 → mg_St → (Nat → Int32) → Option (Int32 × mg_St × (Nat → Int32))
  | 0, _, _, _ => none
  | n + 1, x15, cC, cI730 =>
    (if a8 ≤ x15 then
    some (x15, cC, cI730)
    else
    (mg_xq (f_X6_lines cC x15) fun v108 s109 =>
    (mg_ix nI730 x15).bind fun j110 =>
    f_L_law_737 xs Ln a3 a4 a6 a7 a8 cS nI517 cI517 nZ523 cZ523 nI730 n (x15 + 1) s109 (upd cI730 j110 v108)))
def f_L_law_767 (xs : Nat → Int32) (Ln : Nat) (a3 : Int32) (a4 : Int32) (a6 : Int32) (a7 : Int32) (a8 : Int32) (cS : mg_Sz) (nI517 : Nat) (cI517 : Nat → Int32) (nZ523 : Nat) (cZ523 : Nat → Int32) (nI730 : Nat) (cI730 : Nat → Int32) : Nat → Int32 → Int32 → mg_St → Option (Int32 × Int32 × mg_St)
  | 0, _, _, _ => none
  | n + 1, x15, x16, cC =>
    (if a7 ≤ x16 then
    some (x15, x16, cC)
    else
    (mg_xq (f_X6_about cC x16 3) fun v112 s113 =>
    (mg_xq (f_X6_about s113 x16 0) fun v114 s115 =>
    (if 9 < v114 then
    none
    else
    (mg_xq (f_X6_about s115 x16 1) fun v116 s117 =>
    (mg_xq (f_X6_about s117 x16 2) fun v118 s119 =>
    (mg_xq (f_X6_about s119 x16 0) fun v120 s121 =>
    (if v120 < (v116 + v118) then
    none
    else
    (mg_xq (f_X6_about s121 x16 1) fun v122 s123 =>
    (mg_xq (f_X6_about s123 x16 2) fun v124 s125 =>
    (if v112 < (v122 + (3 * v124)) then
    none
    else
    (mg_xq (f_X6_about s125 x16 1) fun v126 s127 =>
    (mg_xq (f_X6_about s127 x16 2) fun v128 s129 =>
    (mg_xq (f_X6_count s129 7) fun v130 s131 =>
    (if v112 ≤ (((13 * v126) + (3 * v128)) + (v130 / 10)) then
    f_L_law_767 xs Ln a3 a4 a6 a7 a8 cS nI517 cI517 nZ523 cZ523 nI730 cI730 n (if x15 < v112 then v112 else x15) (x16 + 1) s131
    else
    none)))))))))))))))
def f_L_law_1239 (xs : Nat → Int32) (Ln : Nat) (a3 : Int32) (a6 : Int32) (a8 : Int32) (a18 : Int32) (nI517 : Nat) (cI517 : Nat → Int32) (nZ523 : Nat) (cZ523 : Nat → Int32) (nI730 : Nat) (cI730 : Nat → Int32) (cS : mg_Sz) : Nat → Int32 → mg_St → Option (Int32 × mg_St)
  | 0, _, _ => none
  | n + 1, x27, cC =>
    (if a6 ≤ x27 then
    some (x27, cC)
    else
    (mg_xq (f_X6_told cC x27 3) fun v188 s189 =>
    (Option.bind (if v188 = 1 then
    some 1
    else
    some 0) fun (y190 : Int32) =>
    (Option.bind (if y190 = 0 then
    (mg_ix nZ523 x27).bind fun j192 =>
    (if (cZ523 j192) = 0 then
    (mg_ix nI517 x27).bind fun j193 =>
    some (if 1 < ((cI517 j193) - 1) then ((cI517 j193) - 1) else 1)
    else
    (mg_ix nI517 x27).bind fun j194 =>
    some (if ((cI517 j194) + 1) < 40 then ((cI517 j194) + 1) else 40))
    else
    (mg_ix nI517 x27).bind fun j195 =>
    some (cI517 j195)) fun (y191 : Int32) =>
    (mg_xq (f_X6_told s189 x27 2) fun v196 s197 =>
    (if v196 = y191 then
    f_L_law_1239 xs Ln a3 a6 a8 a18 nI517 cI517 nZ523 cZ523 nI730 cI730 cS n (x27 + 1) s197
    else
    none))))))
def f_L_law_1336 (xs : Nat → Int32) (Ln : Nat) (a3 : Int32) (a8 : Int32) (a18 : Int32) (nI730 : Nat) (cI730 : Nat → Int32) (cS : mg_Sz) : Nat → Int32 → mg_St → Option (Int32 × mg_St)
  | 0, _, _ => none
  | n + 1, x27, cC =>
    (if a8 ≤ x27 then
    some (x27, cC)
    else
    (mg_xq (f_X6_lines cC x27) fun v199 s200 =>
    (mg_ix nI730 x27).bind fun j201 =>
    (mg_ix (cS.2 2) x27).bind fun j202 =>
    (mg_xq (f_X6_about s200 ((cS.1 5 j202) 0) 3) fun v203 s204 =>
    (Option.bind (if a18 = 0 then
    some 1
    else
    some 2) fun (y205 : Int32) =>
    (if (v199 - (cI730 j201)) = ((v203 / 5) * y205) then
    f_L_law_1336 xs Ln a3 a8 a18 nI730 cI730 cS n (x27 + 1) s204
    else
    none)))))
def f_L_law_22 (xs : Nat → Int32) (Ln : Nat) : Nat → Int32 → mg_St → mg_Sz → Option (Int32 × mg_St × mg_Sz)
  | 0, _, _, _ => none
  | n + 1, x3, cC, cS =>
    (if 40 ≤ x3 then
    some (x3, cC, cS)
    else
    (Option.bind (f_L_cell xs Ln (x3 - x3 / 16 * 16)) fun y3 =>
    (mg_xq (f_X6_count cC 2) fun v5 s6 =>
    (Option.bind (f_L_act s6 cS (((y3 >>> (((x3 / 16) * 5) &&& 31)) + (59 * x3)) / 2)) fun y7 =>
    (if (1 : Int32) = 0 then
    none
    else
    (mg_xq (f_X6_count y7.1 2) fun v9 s10 =>
    (if v9 < 0 then
    none
    else
    (mg_xq (f_X6_count s10 2) fun v11 s12 =>
    (if (if 0 ≤ (v11 - v5) then (v11 - v5) else 0 - (v11 - v5)) ≤ 21 then
    (mg_xq (f_X6_count s12 8) fun v13 s14 =>
    (mg_xq (f_X6_count s14 9) fun v15 s16 =>
    (Option.bind (f_L_law_132 xs Ln x3 ((y3 >>> (((x3 / 16) * 5) &&& 31)) + (59 * x3)) (nI (y7.2.2 0)) v13 v15 0 y7.2 5000 0 0 0 s16) fun y54 =>
    (mg_xq (f_X6_count y54.2.2.2 4) fun v55 s56 =>
    (if y54.1 = v55 then
    (mg_xq (f_X6_count s56 3) fun v57 s58 =>
    (if y54.2.1 = v57 then
    (mg_xq (f_X6_count s58 5) fun v59 s60 =>
    (if y54.1 < v59 then
    none
    else
    (mg_xq (f_X6_count s60 5) fun v61 s62 =>
    (Option.bind (if v61 = 0 then
    some 1
    else
    some 0) fun (y63 : Int32) =>
    (Option.bind (if y54.1 = 0 then
    some 1
    else
    some 0) fun (y64 : Int32) =>
    (if y63 = y64 then
    (mg_nn 31 (nI (y7.2.2 0))).bind fun n66 =>
    (mg_nn 31 (nI (y7.2.2 0))).bind fun n68 =>
    (Option.bind (f_L_law_530 xs Ln x3 ((y3 >>> (((x3 / 16) * 5) &&& 31)) + (59 * x3)) (nI (y7.2.2 0)) v13 v15 y7.2 n66 n68 5000 0 0 s62 (fun _ => 0) (fun _ => 0)) fun y103 =>
    (mg_xq (f_X6_count y103.2.2.1 6) fun v104 s105 =>
    (if y103.1 = v104 then
    (mg_nn 31 v15).bind fun n107 =>
    (Option.bind (f_L_law_737 xs Ln x3 ((y3 >>> (((x3 / 16) * 5) &&& 31)) + (59 * x3)) (nI (y7.2.2 0)) v13 v15 y7.2 n66 y103.2.2.2.1 n68 y103.2.2.2.2 n107 5000 0 s105 (fun _ => 0)) fun y111 =>
    (Option.bind (f_L_law_767 xs Ln x3 ((y3 >>> (((x3 / 16) * 5) &&& 31)) + (59 * x3)) (nI (y7.2.2 0)) v13 v15 y7.2 n66 y103.2.2.2.1 n68 y103.2.2.2.2 n107 y111.2.2 5000 0 0 y111.2.1) fun y132 =>
    (Option.bind (f_X6_finest y132.2.2) fun y133 =>
    (Option.bind (if 0 ≤ y133.1 then
    some 0
    else
    some 1) fun (y134 : Int32) =>
    (Option.bind (if v13 = 0 then
    some 1
    else
    some 0) fun (y135 : Int32) =>
    (if y134 = y135 then
    (Option.bind (if v13 ≤ 0 then
    some y133.2
    else
    (Option.bind (f_X6_finest y133.2) fun y137 =>
    (mg_xq (f_X6_about y137.2 y137.1 3) fun v138 s139 =>
    (if v138 = y132.1 then
    some s139
    else
    none)))) fun (y136 : mg_St) =>
    (mg_xq (f_X6_count y136 2) fun v140 s141 =>
    (mg_xq (f_X6_count s141 0) fun v142 s143 =>
    (mg_xq (f_X6_count s143 10) fun v144 s145 =>
    (mg_xq (f_X6_count s145 1) fun v146 s147 =>
    (Option.bind (if v146 = 1 then
    some 1
    else
    some 0) fun (y148 : Int32) =>
    (Option.bind (f_X6_digest s147) fun y149 =>
    (mg_xq (f_X6_foresee y149.2 1 2) fun v151 s152 =>
    (mg_xq (f_X6_foresee s152 1 7) fun v153 s154 =>
    (mg_xq (f_X6_foresee s154 1 10) fun v155 s156 =>
    (Option.bind (if v13 = 0 then
    some (-1 : Int32)
    else
    (Option.bind (f_L_below (((y3 >>> (((x3 / 16) * 5) &&& 31)) + (59 * x3)) >>> (4 &&& 31)) v13) fun y158 =>
    some y158)) fun (y157 : Int32) =>
    (Option.bind (f_L_below (((y3 >>> (((x3 / 16) * 5) &&& 31)) + (59 * x3)) >>> (5 &&& 31)) 6) fun y160 =>
    (Option.bind (f_L_below (((y3 >>> (((x3 / 16) * 5) &&& 31)) + (59 * x3)) >>> (6 &&& 31)) 9) fun y162 =>
    (Option.bind (if 0 ≤ y157 then
    (mg_xq (f_X6_advise s156 y157 y160 (1 + y162)) fun v165 s166 =>
    some (v165, s166))
    else
    some ((-1), s156)) fun (y164 : Int32 × mg_St) =>
    (Option.bind (f_X6_digest y164.2) fun y167 =>
    (if (lg_cmp y167.1 y149.1) = 0 then
    (Option.bind (if (v142 - v142 / 8 * 8) = 4 then
    some 1
    else
    some 0) fun (y168 : Int32) =>
    (if y148 = y168 then
    (Option.bind (if y164.1 < 0 then
    some y167.2
    else
    (mg_xq (f_X6_cell y167.2 (y164.1 - y164.1 / 10 * 10) (y164.1 / 10) 0) fun v170 s171 =>
    (if v170 = 0 then
    some s171
    else
    none))) fun (y169 : mg_St) =>
    (mg_xq (f_X6_pass y169 1) fun v172 s173 =>
    (Option.bind (f_X7_pass y7.2) fun y174 =>
    (if v172 = y174.1 then
    (mg_xq (f_X6_count s173 2) fun v176 s177 =>
    (if v176 = ((upd (upd (upd (fun _ => 0) 0 v151) 1 v153) 2 v155) 0) then
    (mg_xq (f_X6_count s177 7) fun v178 s179 =>
    (if v178 = ((upd (upd (upd (fun _ => 0) 0 v151) 1 v153) 2 v155) 1) then
    (mg_xq (f_X6_count s179 10) fun v180 s181 =>
    (if v180 = ((upd (upd (upd (fun _ => 0) 0 v151) 1 v153) 2 v155) 2) then
    (mg_xq (f_X6_count s181 2) fun v182 s183 =>
    (if v182 = (v140 + (v172 / 10)) then
    (mg_xq (f_X6_count s183 10) fun v184 s185 =>
    (if v184 = (v144 + v172) then
    (mg_xq (f_X6_count s185 0) fun v186 s187 =>
    (if v186 = (v142 + 1) then
    (Option.bind (f_L_law_1239 xs Ln x3 (nI (y7.2.2 0)) v15 y148 n66 y103.2.2.2.1 n68 y103.2.2.2.2 n107 y111.2.2 y174.2 5000 0 s187) fun y198 =>
    (Option.bind (f_L_law_1336 xs Ln x3 v15 y148 n107 y111.2.2 y174.2 5000 0 y198.2) fun y206 =>
    f_L_law_22 xs Ln n (x3 + 1) y206.2 y174.2))
    else
    none))
    else
    none))
    else
    none))
    else
    none))
    else
    none))
    else
    none))
    else
    none))))
    else
    none))
    else
    none))))))))))))))))
    else
    none))))))
    else
    none)))
    else
    none))))))
    else
    none))
    else
    none)))))
    else
    none)))))))))
def f_L_law (xs : Nat → Int32) (Ln : Nat) (σ : mg_St) : Option Unit :=
  (Option.bind (f_L_build xs Ln σ) fun y1 =>
  (Option.bind (f_L_law_22 xs Ln 41 0 y1.1 y1.2) fun y207 =>
  (Option.bind (f_X7_isSame y207.2.1 y207.2.2) fun y9 =>
  some ())))
