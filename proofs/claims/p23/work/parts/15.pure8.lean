def mg_sr (σ : mg_St) (k : Nat) (f : Nat → Int32) : mg_St := fun a => if a = k then f else σ a
theorem mg_nz {y : Int32} (h : y = 0 ∨ y = 1) : narrow .boolean (.int y) = .int y := by
  rcases h with rfl | rfl <;> rfl
def f_X7_become (σ : mg_St)  : Option mg_St :=
  (Option.bind (some (mg_sr (mg_su (mg_su σ 2 0 (σ 1 0)) 2 1 ((mg_su σ 2 0 (σ 1 0)) 1 1)) 14 (va_cpy ((mg_su (mg_su σ 2 0 (σ 1 0)) 2 1 ((mg_su σ 2 0 (σ 1 0)) 1 1)) 12) ((mg_su (mg_su σ 2 0 (σ 1 0)) 2 1 ((mg_su σ 2 0 (σ 1 0)) 1 1)) 14) 0 0 30))) fun s1 =>
  (Option.bind (some (mg_sr s1 15 (va_cpy (s1 13) (s1 15) 0 0 5))) fun s2 =>
  some s2))
def f_X8_thrown (σ : mg_St)  : Option Int32 :=
  some (σ 0 0)
def f_X8_no (σ : mg_St) (x1 : Int32) : Option (Int32 × mg_St) :=
  some (0, (mg_su σ 0 0 x1))
def f_X8_isIn (σ : mg_St) (x0 : Int32) (x1 : Int32) (x2 : Int32) : Option Int32 :=
  (if x0 < x1 then
  some 0
  else
  (if x2 < x0 then
  some 0
  else
  some 1))
theorem zb_X8_isIn (σ : mg_St) (x0 x1 x2 y : Int32) (h : f_X8_isIn σ x0 x1 x2 = some y) : y = 0 ∨ y = 1 := by
  unfold f_X8_isIn at h
  split at h
  · cases h; exact Or.inl rfl
  · split at h
    · cases h; exact Or.inl rfl
    · cases h; exact Or.inr rfl
def f_X8_isCell (σ : mg_St) (x0 : Int32) (x1 : Int32) : Option Int32 :=
  (Option.bind (f_X8_isIn σ x0 0 9) fun y1 =>
  (if y1 = 0 then
  some 0
  else
  (Option.bind (f_X8_isIn σ x1 0 6) fun y2 =>
  (if y2 = 0 then
  some 0
  else
  some 1))))
def f_X8_isGate (σ : mg_St) (x1 : Int32) : Option Int32 :=
  (Option.bind (f_X8_isIn σ x1 0 ((σ 0 8) - 1)) fun y1 =>
  some y1)
def f_X8_isPoet (σ : mg_St) (x1 : Int32) : Option Int32 :=
  (Option.bind (f_X8_isIn σ x1 0 ((σ 0 11) - 1)) fun y1 =>
  some y1)
def f_X8_areNeighbours (σ : mg_St) (x0 : Int32) (x1 : Int32) : Option Int32 :=
  (if ((if 0 ≤ ((x0 - x0 / 10 * 10) - (x1 - x1 / 10 * 10)) then ((x0 - x0 / 10 * 10) - (x1 - x1 / 10 * 10)) else 0 - ((x0 - x0 / 10 * 10) - (x1 - x1 / 10 * 10))) + (if 0 ≤ ((x0 / 10) - (x1 / 10)) then ((x0 / 10) - (x1 / 10)) else 0 - ((x0 / 10) - (x1 / 10)))) = 1 then
  some 1
  else
  some 0)
def f_X8_markPonds_2  : Nat → Int32 → mg_St → Option (Int32 × mg_St)
  | 0, _, _ => none
  | n + 1, x1, σ =>
    (if 70 ≤ x1 then
    some (x1, σ)
    else
    (mg_rd σ 3 70 x1).bind fun v1 =>
    (if v1 = 2 then
    (mg_wr σ 6 70 x1 x1).bind fun s3 =>
    f_X8_markPonds_2  n (x1 + 1) s3
    else
    (mg_wr σ 6 70 x1 (-1)).bind fun s2 =>
    f_X8_markPonds_2  n (x1 + 1) s2))
def f_X8_markPonds_53 (a2 : Int32) : Nat → Int32 → Int32 → mg_St → Option (Int32 × Int32 × mg_St)
  | 0, _, _, _ => none
  | n + 1, x1, x3, σ =>
    (if 70 ≤ x3 then
    some (x1, x3, σ)
    else
    (mg_rd σ 6 70 a2).bind fun v5 =>
    (if v5 = (-1) then
    f_X8_markPonds_53 a2 n x1 (x3 + 1) σ
    else
    (mg_rd σ 6 70 x3).bind fun v6 =>
    (if v6 = (-1) then
    f_X8_markPonds_53 a2 n x1 (x3 + 1) σ
    else
    (mg_rd σ 6 70 x3).bind fun v7 =>
    (mg_rd σ 6 70 a2).bind fun v8 =>
    (if v8 ≤ v7 then
    f_X8_markPonds_53 a2 n x1 (x3 + 1) σ
    else
    (Option.bind (f_X8_areNeighbours σ a2 x3) fun y9 =>
    (if y9 = 0 then
    f_X8_markPonds_53 a2 n x1 (x3 + 1) σ
    else
    (mg_rd σ 6 70 x3).bind fun v10 =>
    (mg_wr σ 6 70 a2 v10).bind fun s11 =>
    f_X8_markPonds_53 a2 n 1 (x3 + 1) s11))))))
def f_X8_markPonds_45  : Nat → Int32 → Int32 → mg_St → Option (Int32 × Int32 × mg_St)
  | 0, _, _, _ => none
  | n + 1, x1, x2, σ =>
    (if 70 ≤ x2 then
    some (x1, x2, σ)
    else
    (Option.bind (f_X8_markPonds_53 x2 5000 x1 0 σ) fun y12 =>
    f_X8_markPonds_45  n y12.1 (x2 + 1) y12.2.2))
def f_X8_markPonds_37  : Nat → Int32 → mg_St → Option (Int32 × mg_St)
  | 0, _, _ => none
  | n + 1, x1, σ =>
    (if x1 = 0 then
    some (x1, σ)
    else
    (Option.bind (f_X8_markPonds_45  5000 0 0 σ) fun y13 =>
    f_X8_markPonds_37  n y13.1 y13.2.2))
def f_X8_markPonds (σ : mg_St)  : Option mg_St :=
  (Option.bind (f_X8_markPonds_2  5000 0 σ) fun y4 =>
  (Option.bind (f_X8_markPonds_37  5000 1 y4.2) fun y14 =>
  some y14.2))
def f_X8_cellsOf_14 (σ : mg_St) (a1 : Int32) (a4 : Int32) : Nat → Int32 → Int32 → Option (Int32 × Int32)
  | 0, _, _ => none
  | n + 1, x2, x5 =>
    (if a4 ≤ x5 then
    some (x2, x5)
    else
    (mg_rd σ 6 70 x5).bind fun v1 =>
    (if v1 = a1 then
    f_X8_cellsOf_14 σ a1 a4 n (x2 + 1) (x5 + 1)
    else
    f_X8_cellsOf_14 σ a1 a4 n (x2 + 0) (x5 + 1)))
def f_X8_cellsOf (σ : mg_St) (x1 : Int32) : Option Int32 :=
  (Option.bind (f_X8_cellsOf_14 σ x1 70 5000 0 0) fun y2 =>
  some y2.1)
def f_X8_carpsOf_4 (σ : mg_St) (a1 : Int32) : Nat → Int32 → Int32 → Option (Int32 × Int32)
  | 0, _, _ => none
  | n + 1, x2, x3 =>
    (if (σ 0 5) ≤ x3 then
    some (x2, x3)
    else
    (mg_rd σ 8 30 x3).bind fun v1 =>
    (if v1 = 0 then
    (mg_rd σ 7 30 x3).bind fun v2 =>
    (mg_rd σ 6 70 v2).bind fun v3 =>
    (if v3 = a1 then
    f_X8_carpsOf_4 σ a1 n (x2 + 1) (x3 + 1)
    else
    f_X8_carpsOf_4 σ a1 n (x2 + 0) (x3 + 1))
    else
    f_X8_carpsOf_4 σ a1 n (x2 + 0) (x3 + 1)))
def f_X8_carpsOf (σ : mg_St) (x1 : Int32) : Option Int32 :=
  (Option.bind (f_X8_carpsOf_4 σ x1 5000 0 0) fun y4 =>
  some y4.1)
def f_X8_isTooFull (σ : mg_St) (x1 : Int32) : Option Int32 :=
  (Option.bind (f_X8_carpsOf σ x1) fun y1 =>
  (Option.bind (f_X8_cellsOf σ x1) fun y2 =>
  (if y1 ≤ (2 * y2) then
  some 0
  else
  some 1)))
def f_X8_shows_24 (σ : mg_St) (a1 : Int32) (a2 : Int32) : Nat → Int32 → Int32 → Int32 → Option Int32
  | 0, _, _, _ => none
  | n + 1, x3, x4, x5 =>
    (mg_rd σ 10 6 a1).bind fun v3 =>
    (mg_rt mg_sx 4 v3).bind fun v4 =>
    (mg_rd σ 10 6 a1).bind fun v5 =>
    (mg_rt mg_sy 4 v5).bind fun v6 =>
    (Option.bind (f_X8_isCell σ (x3 + v4) (x4 + v6)) fun y7 =>
    (if y7 = 0 then
    some (-1)
    else
    (mg_rd σ 3 70 ((10 * (x4 + v6)) + (x3 + v4))).bind fun v8 =>
    (if v8 = 3 then
    some (-1)
    else
    (if x5 = a2 then
    some ((10 * (x4 + v6)) + (x3 + v4))
    else
    (mg_rd σ 3 70 ((10 * (x4 + v6)) + (x3 + v4))).bind fun v9 =>
    (if v9 = 1 then
    (mg_rd σ 5 70 ((10 * (x4 + v6)) + (x3 + v4))).bind fun v10 =>
    (if v10 < 7 then
    f_X8_shows_24 σ a1 a2 n (x3 + v4) (x4 + v6) (x5 + 1)
    else
    some (-1))
    else
    f_X8_shows_24 σ a1 a2 n (x3 + v4) (x4 + v6) (x5 + 1))))))
def f_X8_shows (σ : mg_St) (x1 : Int32) (x2 : Int32) : Option Int32 :=
  (mg_rd σ 9 6 x1).bind fun v1 =>
  (mg_rd σ 9 6 x1).bind fun v2 =>
  f_X8_shows_24 σ x1 x2 5000 (v1 - v1 / 10 * 10) (v2 / 10) 1
def f_X8_many_5 (σ : mg_St) (a1 : Int32) (a2 : Int32) : Nat → Int32 → Int32 → Option (Int32 × Int32)
  | 0, _, _ => none
  | n + 1, x3, x4 =>
    (Option.bind (f_X8_shows σ a1 x4) fun y1 =>
    (if y1 = (-1) then
    some (x3, x4)
    else
    (if a2 = 0 then
    f_X8_many_5 σ a1 a2 n (x3 + 1) (x4 + 1)
    else
    (Option.bind (f_X8_shows σ a1 x4) fun y2 =>
    (mg_rd σ 3 70 y2).bind fun v3 =>
    (if v3 = a2 then
    f_X8_many_5 σ a1 a2 n (x3 + 1) (x4 + 1)
    else
    f_X8_many_5 σ a1 a2 n (x3 + 0) (x4 + 1))))))
def f_X8_many (σ : mg_St) (x1 : Int32) (x2 : Int32) : Option Int32 :=
  (Option.bind (f_X8_many_5 σ x1 x2 5000 0 1) fun y4 =>
  some y4.1)
def f_X8_beauty_104 (σ : mg_St) (b : Nat) (a1 : Int32) (a3 : Int32) (a4 : Int32) (a5 : Int32) (a6 : Int32) : Nat → Int32 → Int32 → Option (Int32 × Int32)
  | 0, _, _ => none
  | n + 1, x7, x8 =>
    (if (σ 0 5) ≤ x8 then
    some (x7, x8)
    else
    (mg_rd σ 8 30 x8).bind fun v5 =>
    (if v5 = 0 then
    (mg_rd σ 7 30 x8).bind fun v6 =>
    (if v6 = a6 then
    (mg_rd σ (2 * b + 10) 30 x8).bind fun v7 =>
    f_X8_beauty_104 σ b a1 a3 a4 a5 a6 n (x7 + v7) (x8 + 1)
    else
    f_X8_beauty_104 σ b a1 a3 a4 a5 a6 n (x7 + 0) (x8 + 1))
    else
    f_X8_beauty_104 σ b a1 a3 a4 a5 a6 n (x7 + 0) (x8 + 1)))
def f_X8_beauty_8 (σ : mg_St) (b : Nat) (a1 : Int32) : Nat → Int32 → Int32 → Int32 → Option (Int32 × Int32 × Int32)
  | 0, _, _, _ => none
  | n + 1, x3, x4, x5 =>
    (Option.bind (f_X8_shows σ a1 x5) fun y1 =>
    (if y1 = (-1) then
    some (x3, x4, x5)
    else
    (Option.bind (f_X8_shows σ a1 x5) fun y2 =>
    (mg_rd σ 3 70 y2).bind fun v3 =>
    (if v3 = 1 then
    (mg_rd σ 5 70 y2).bind fun v9 =>
    (mg_rd σ 4 70 y2).bind fun v10 =>
    (Option.bind (if ((x4 >>> (v10 &&& 31)) &&& 1) = 0 then
    some 4
    else
    some 0) fun (y11 : Int32) =>
    (mg_rd σ 4 70 y2).bind fun v12 =>
    f_X8_beauty_8 σ b a1 n (x3 + (v9 + y11)) (x4 ||| (1 <<< (v12 &&& 31))) (x5 + 1))
    else
    (mg_rd σ 3 70 y2).bind fun v4 =>
    (if v4 = 2 then
    (Option.bind (f_X8_beauty_104 σ b a1 x3 x4 x5 y2 5000 0 0) fun y8 =>
    f_X8_beauty_8 σ b a1 n (x3 + (3 + (y8.1 / 10))) x4 (x5 + 1))
    else
    f_X8_beauty_8 σ b a1 n x3 x4 (x5 + 1))))))
def f_X8_beauty (σ : mg_St) (b : Nat) (x1 : Int32) : Option Int32 :=
  (Option.bind (f_X8_beauty_8 σ b x1 5000 0 0 1) fun y13 =>
  some y13.1)
def f_X8_spent (σ : mg_St) (x1 : Int32) (x2 : Int32) (x3 : Int32) (x4 : Int32) : Option (Int32 × mg_St) :=
  (mg_wr σ 3 70 ((10 * x2) + x1) x3).bind fun s1 =>
  some (((mg_su s1 1 1 ((s1 1 1) - x4)) 1 1), (mg_su s1 1 1 ((s1 1 1) - x4)))
def f_X8_canBuild (σ : mg_St) (x1 : Int32) (x2 : Int32) (x3 : Int32) : Option Int32 :=
  (mg_rd σ 3 70 ((10 * x2) + x1)).bind fun v1 =>
  (if v1 = 0 then
  (if (σ 1 1) < x3 then
  some 0
  else
  some 1)
  else
  some 0)
def f_X8_rock (σ : mg_St) (x1 : Int32) (x2 : Int32) (x3 : Int32) (x4 : Int32) : Option (Int32 × mg_St) :=
  (Option.bind (f_X8_isCell (mg_su σ 0 0 0) x1 x2) fun y1 =>
  (if y1 = 0 then
  (Option.bind (f_X8_no (mg_su σ 0 0 0) 1) fun y11 =>
  some (y11.1, y11.2))
  else
  (Option.bind (f_X8_isIn (mg_su σ 0 0 0) x3 0 5) fun y2 =>
  (if y2 = 0 then
  (Option.bind (f_X8_no (mg_su σ 0 0 0) 2) fun y3 =>
  some (y3.1, y3.2))
  else
  (Option.bind (f_X8_isIn (mg_su σ 0 0 0) x4 1 9) fun y4 =>
  (if y4 = 0 then
  (Option.bind (f_X8_no (mg_su σ 0 0 0) 2) fun y10 =>
  some (y10.1, y10.2))
  else
  (Option.bind (f_X8_canBuild (mg_su σ 0 0 0) x1 x2 (2 * x4)) fun y5 =>
  (if y5 = 0 then
  (Option.bind (f_X8_no (mg_su σ 0 0 0) 3) fun y9 =>
  some (y9.1, y9.2))
  else
  (mg_wr (mg_su σ 0 0 0) 4 70 ((10 * x2) + x1) x3).bind fun s6 =>
  (mg_wr s6 5 70 ((10 * x2) + x1) x4).bind fun s7 =>
  (Option.bind (f_X8_spent s7 x1 x2 1 (2 * x4)) fun y8 =>
  some (y8.1, y8.2))))))))))
def f_X8_dig (σ : mg_St) (x1 : Int32) (x2 : Int32) : Option (Int32 × mg_St) :=
  (Option.bind (f_X8_isCell (mg_su σ 0 0 0) x1 x2) fun y1 =>
  (if y1 = 0 then
  (Option.bind (f_X8_no (mg_su σ 0 0 0) 1) fun y8 =>
  some (y8.1, y8.2))
  else
  (Option.bind (f_X8_canBuild (mg_su σ 0 0 0) x1 x2 6) fun y2 =>
  (if y2 = 0 then
  (Option.bind (f_X8_no (mg_su σ 0 0 0) 2) fun y7 =>
  some (y7.1, y7.2))
  else
  (Option.bind (f_X8_spent (mg_su σ 0 0 0) x1 x2 2 6) fun y3 =>
  (Option.bind (f_X8_markPonds y3.2) fun y4 =>
  (mg_rd y4 6 70 ((10 * x2) + x1)).bind fun v5 =>
  (Option.bind (f_X8_cellsOf y4 v5) fun y6 =>
  some (y6, y4))))))))
def f_X8_wall (σ : mg_St) (x1 : Int32) (x2 : Int32) : Option (Int32 × mg_St) :=
  (Option.bind (f_X8_isCell (mg_su σ 0 0 0) x1 x2) fun y1 =>
  (if y1 = 0 then
  (Option.bind (f_X8_no (mg_su σ 0 0 0) 1) fun y5 =>
  some (y5.1, y5.2))
  else
  (Option.bind (f_X8_canBuild (mg_su σ 0 0 0) x1 x2 3) fun y2 =>
  (if y2 = 0 then
  (Option.bind (f_X8_no (mg_su σ 0 0 0) 2) fun y3 =>
  some (y3.1, y3.2))
  else
  (Option.bind (f_X8_spent (mg_su σ 0 0 0) x1 x2 3 3) fun y4 =>
  some (y4.1, y4.2))))))
def f_X8_clear_45 (σ : mg_St) (a1 : Int32) (a2 : Int32) (a3 : Int32) : Nat → Int32 → Int32 → Option (Int32 × Int32)
  | 0, _, _ => none
  | n + 1, x4, x5 =>
    (if (σ 0 5) ≤ x5 then
    some (x4, x5)
    else
    (mg_rd σ 8 30 x5).bind fun v4 =>
    (if v4 = 1 then
    f_X8_clear_45 σ a1 a2 a3 n (x4 &&& 1) (x5 + 1)
    else
    (mg_rd σ 7 30 x5).bind fun v5 =>
    (if v5 = a3 then
    f_X8_clear_45 σ a1 a2 a3 n (x4 &&& 0) (x5 + 1)
    else
    f_X8_clear_45 σ a1 a2 a3 n (x4 &&& 1) (x5 + 1))))
def f_X8_clear (σ : mg_St) (x1 : Int32) (x2 : Int32) : Option (Int32 × mg_St) :=
  (Option.bind (f_X8_isCell (mg_su σ 0 0 0) x1 x2) fun y1 =>
  (if y1 = 0 then
  (Option.bind (f_X8_no (mg_su σ 0 0 0) 1) fun y12 =>
  some (y12.1, y12.2))
  else
  (mg_rd (mg_su σ 0 0 0) 3 70 ((10 * x2) + x1)).bind fun v2 =>
  (Option.bind (if v2 = 0 then
  some 0
  else
  some 1) fun (y3 : Int32) =>
  (Option.bind (f_X8_clear_45 (mg_su σ 0 0 0) x1 x2 ((10 * x2) + x1) 5000 y3 0) fun y6 =>
  (if y6.1 = 0 then
  (Option.bind (f_X8_no (mg_su σ 0 0 0) 2) fun y11 =>
  some (y11.1, y11.2))
  else
  (mg_rd (mg_su σ 0 0 0) 3 70 ((10 * x2) + x1)).bind fun v7 =>
  (if v7 = 1 then
  (mg_rd (mg_su σ 0 0 0) 5 70 ((10 * x2) + x1)).bind fun v9 =>
  (Option.bind (f_X8_spent (mg_su σ 0 0 0) x1 x2 0 (-v9)) fun y10 =>
  some (y10.1, y10.2))
  else
  (Option.bind (f_X8_spent (mg_su σ 0 0 0) x1 x2 0 0) fun y8 =>
  some (y8.1, y8.2))))))))
def f_X8_cellTold (σ : mg_St) (x1 : Int32) (x2 : Int32) : Option Int32 :=
  (mg_rd σ 3 70 x1).bind fun v1 =>
  (Option.bind (if v1 = 1 then
  some 1
  else
  some 0) fun (y2 : Int32) =>
  (mg_rd σ 3 70 x1).bind fun v3 =>
  (Option.bind (if v3 = 2 then
  some 1
  else
  some 0) fun (y4 : Int32) =>
  (mg_rd σ 3 70 x1).bind fun v6 =>
  (Option.bind (if y2 = 0 then
  some (-1)
  else
  (mg_rd σ 4 70 x1).bind fun v8 =>
  some v8) fun (y7 : Int32) =>
  (Option.bind (if y2 = 0 then
  some 0
  else
  (mg_rd σ 5 70 x1).bind fun v10 =>
  some v10) fun (y9 : Int32) =>
  (Option.bind (if y4 = 0 then
  some 0
  else
  (mg_rd σ 6 70 x1).bind fun v12 =>
  (Option.bind (f_X8_cellsOf σ v12) fun y13 =>
  some y13)) fun (y11 : Int32) =>
  (Option.bind (if y4 = 0 then
  some 0
  else
  (mg_rd σ 6 70 x1).bind fun v15 =>
  (Option.bind (f_X8_carpsOf σ v15) fun y16 =>
  some y16)) fun (y14 : Int32) =>
  (mg_rt (upd (upd (upd (upd (upd (fun _ => 0) 0 v6) 1 y7) 2 y9) 3 y11) 4 y14) 5 x2).bind fun v17 =>
  some v17))))))
def f_X8_cell (σ : mg_St) (x1 : Int32) (x2 : Int32) (x3 : Int32) : Option (Int32 × mg_St) :=
  (Option.bind (f_X8_isCell (mg_su σ 0 0 0) x1 x2) fun y1 =>
  (if y1 = 0 then
  (Option.bind (f_X8_no (mg_su σ 0 0 0) 1) fun y2 =>
  some (y2.1, y2.2))
  else
  (Option.bind (f_X8_isIn (mg_su σ 0 0 0) x3 0 4) fun y3 =>
  (if y3 = 0 then
  (Option.bind (f_X8_no (mg_su σ 0 0 0) 1) fun y6 =>
  some (y6.1, y6.2))
  else
  (Option.bind (f_X8_markPonds (mg_su σ 0 0 0)) fun y4 =>
  (Option.bind (f_X8_cellTold y4 ((10 * x2) + x1) x3) fun y5 =>
  some (y5, y4)))))))
def f_X8_carp (σ : mg_St) (x1 : Int32) (x2 : Int32) : Option (Int32 × mg_St) :=
  (Option.bind (f_X8_isCell (mg_su σ 0 0 0) x1 x2) fun y1 =>
  (if y1 = 0 then
  (Option.bind (f_X8_no (mg_su σ 0 0 0) 1) fun y8 =>
  some (y8.1, y8.2))
  else
  (mg_rd (mg_su σ 0 0 0) 3 70 ((10 * x2) + x1)).bind fun v2 =>
  (if v2 = 2 then
  (if ((mg_su σ 0 0 0) 1 1) < 4 then
  (Option.bind (f_X8_no (mg_su σ 0 0 0) 2) fun y4 =>
  some (y4.1, y4.2))
  else
  (if ((mg_su σ 0 0 0) 0 5) = 30 then
  (Option.bind (f_X8_no (mg_su σ 0 0 0) 2) fun y7 =>
  some (y7.1, y7.2))
  else
  (mg_wr (mg_su (mg_su σ 0 0 0) 1 1 (((mg_su σ 0 0 0) 1 1) - 4)) 7 30 ((mg_su (mg_su σ 0 0 0) 1 1 (((mg_su σ 0 0 0) 1 1) - 4)) 0 5) ((10 * x2) + x1)).bind fun s5 =>
  (mg_wr s5 12 30 (s5 0 5) 1).bind fun s6 =>
  some ((((mg_su s6 0 5 ((s6 0 5) + 1)) 0 5) - 1), (mg_su s6 0 5 ((s6 0 5) + 1)))))
  else
  (Option.bind (f_X8_no (mg_su σ 0 0 0) 2) fun y3 =>
  some (y3.1, y3.2)))))
def f_X8_sell (σ : mg_St) (x1 : Int32) : Option (Int32 × mg_St) :=
  (Option.bind (f_X8_isIn (mg_su σ 0 0 0) x1 0 (((mg_su σ 0 0 0) 0 5) - 1)) fun y1 =>
  (if y1 = 0 then
  (Option.bind (f_X8_no (mg_su σ 0 0 0) 1) fun y6 =>
  some (y6.1, y6.2))
  else
  (mg_rd (mg_su σ 0 0 0) 8 30 x1).bind fun v2 =>
  (if v2 = 1 then
  (Option.bind (f_X8_no (mg_su σ 0 0 0) 2) fun y5 =>
  some (y5.1, y5.2))
  else
  (mg_wr (mg_su σ 0 0 0) 8 30 x1 1).bind fun s3 =>
  (mg_rd s3 12 30 x1).bind fun v4 =>
  some (((mg_su s3 1 1 ((s3 1 1) + ((v4 / 2) + 1))) 1 1), (mg_su s3 1 1 ((s3 1 1) + ((v4 / 2) + 1)))))))
def f_X8_carpTold_19 (σ : mg_St) (a1 : Int32) (a2 : Int32) : Nat → Int32 → Int32 → Option (Int32 × Int32)
  | 0, _, _ => none
  | n + 1, x3, x4 =>
    (if (σ 0 5) ≤ x4 then
    some (x3, x4)
    else
    (if x3 ≤ 0 then
    f_X8_carpTold_19 σ a1 a2 n (x3 + 0) (x4 + 1)
    else
    (mg_rd σ 8 30 x4).bind fun v3 =>
    (if v3 = 0 then
    (mg_rd σ 12 30 x4).bind fun v4 =>
    (mg_rd σ 12 30 a1).bind fun v5 =>
    (if v4 ≤ v5 then
    f_X8_carpTold_19 σ a1 a2 n (x3 + 0) (x4 + 1)
    else
    f_X8_carpTold_19 σ a1 a2 n (x3 + 1) (x4 + 1))
    else
    f_X8_carpTold_19 σ a1 a2 n (x3 + 0) (x4 + 1))))
def f_X8_carpTold (σ : mg_St) (x1 : Int32) (x2 : Int32) : Option Int32 :=
  (mg_rd σ 8 30 x1).bind fun v1 =>
  (Option.bind (if v1 = 1 then
  some 0
  else
  some 1) fun (y2 : Int32) =>
  (Option.bind (f_X8_carpTold_19 σ x1 x2 5000 y2 0) fun y6 =>
  (mg_rd σ 7 30 x1).bind fun v8 =>
  (mg_rd σ 7 30 x1).bind fun v9 =>
  (mg_rd σ 12 30 x1).bind fun v10 =>
  (mg_rd σ 8 30 x1).bind fun v11 =>
  (mg_rt (upd (upd (upd (upd (upd (fun _ => 0) 0 (v8 - v8 / 10 * 10)) 1 (v9 / 10)) 2 v10) 3 v11) 4 y6.1) 5 x2).bind fun v12 =>
  some v12))
def f_X8_told (σ : mg_St) (x1 : Int32) (x2 : Int32) : Option (Int32 × mg_St) :=
  (Option.bind (f_X8_isIn (mg_su σ 0 0 0) x1 0 (((mg_su σ 0 0 0) 0 5) - 1)) fun y1 =>
  (if y1 = 0 then
  (Option.bind (f_X8_no (mg_su σ 0 0 0) 1) fun y2 =>
  some (y2.1, y2.2))
  else
  (Option.bind (f_X8_isIn (mg_su σ 0 0 0) x2 0 4) fun y3 =>
  (if y3 = 0 then
  (Option.bind (f_X8_no (mg_su σ 0 0 0) 1) fun y4 =>
  some (y4.1, y4.2))
  else
  (Option.bind (f_X8_carpTold (mg_su σ 0 0 0) x1 x2) fun y5 =>
  some (y5, (mg_su σ 0 0 0)))))))
def f_X8_gate (σ : mg_St) (x1 : Int32) (x2 : Int32) (x3 : Int32) : Option (Int32 × mg_St) :=
  (Option.bind (f_X8_isCell (mg_su σ 0 0 0) x1 x2) fun y1 =>
  (if y1 = 0 then
  (Option.bind (f_X8_no (mg_su σ 0 0 0) 1) fun y7 =>
  some (y7.1, y7.2))
  else
  (Option.bind (f_X8_isIn (mg_su σ 0 0 0) x3 0 3) fun y2 =>
  (if y2 = 0 then
  (Option.bind (f_X8_no (mg_su σ 0 0 0) 2) fun y6 =>
  some (y6.1, y6.2))
  else
  (if ((mg_su σ 0 0 0) 0 8) = 6 then
  (Option.bind (f_X8_no (mg_su σ 0 0 0) 3) fun y5 =>
  some (y5.1, y5.2))
  else
  (mg_wr (mg_su σ 0 0 0) 9 6 ((mg_su σ 0 0 0) 0 8) ((10 * x2) + x1)).bind fun s3 =>
  (mg_wr s3 10 6 (s3 0 8) x3).bind fun s4 =>
  some ((((mg_su s4 0 8 ((s4 0 8) + 1)) 0 8) - 1), (mg_su s4 0 8 ((s4 0 8) + 1))))))))
def f_X8_gateTold_5 (σ : mg_St) (a1 : Int32) (a2 : Int32) : Nat → Int32 → Int32 → Option (Int32 × Int32)
  | 0, _, _ => none
  | n + 1, x3, x4 =>
    (if (σ 0 11) ≤ x4 then
    some (x3, x4)
    else
    (mg_rd σ 11 5 x4).bind fun v1 =>
    (if v1 = a1 then
    f_X8_gateTold_5 σ a1 a2 n (x3 + 1) (x4 + 1)
    else
    f_X8_gateTold_5 σ a1 a2 n (x3 + 0) (x4 + 1)))
def f_X8_gateTold (σ : mg_St) (x1 : Int32) (x2 : Int32) : Option Int32 :=
  (Option.bind (f_X8_gateTold_5 σ x1 x2 5000 0 0) fun y2 =>
  (if x2 = 0 then
  (Option.bind (f_X8_many σ x1 0) fun y6 =>
  some y6)
  else
  (if x2 = 1 then
  (Option.bind (f_X8_many σ x1 1) fun y5 =>
  some y5)
  else
  (if x2 = 2 then
  (Option.bind (f_X8_many σ x1 2) fun y4 =>
  some y4)
  else
  (if x2 = 3 then
  (Option.bind (f_X8_beauty σ 1 x1) fun y3 =>
  some y3)
  else
  some y2.1)))))
def f_X8_about (σ : mg_St) (x1 : Int32) (x2 : Int32) : Option (Int32 × mg_St) :=
  (Option.bind (f_X8_isGate (mg_su σ 0 0 0) x1) fun y1 =>
  (if y1 = 0 then
  (Option.bind (f_X8_no (mg_su σ 0 0 0) 1) fun y2 =>
  some (y2.1, y2.2))
  else
  (Option.bind (f_X8_isIn (mg_su σ 0 0 0) x2 0 4) fun y3 =>
  (if y3 = 0 then
  (Option.bind (f_X8_no (mg_su σ 0 0 0) 1) fun y4 =>
  some (y4.1, y4.2))
  else
  (Option.bind (f_X8_gateTold (mg_su σ 0 0 0) x1 x2) fun y5 =>
  some (y5, (mg_su σ 0 0 0)))))))
def f_X8_invite (σ : mg_St) (x1 : Int32) : Option (Int32 × mg_St) :=
  (Option.bind (f_X8_isGate (mg_su σ 0 0 0) x1) fun y1 =>
  (if y1 = 0 then
  (Option.bind (f_X8_no (mg_su σ 0 0 0) 1) fun y4 =>
  some (y4.1, y4.2))
  else
  (if ((mg_su σ 0 0 0) 0 11) = 5 then
  (Option.bind (f_X8_no (mg_su σ 0 0 0) 2) fun y3 =>
  some (y3.1, y3.2))
  else
  (mg_wr (mg_su σ 0 0 0) 11 5 ((mg_su σ 0 0 0) 0 11) x1).bind fun s2 =>
  some ((((mg_su s2 0 11 ((s2 0 11) + 1)) 0 11) - 1), (mg_su s2 0 11 ((s2 0 11) + 1))))))
def f_X8_lead (σ : mg_St) (x1 : Int32) (x2 : Int32) : Option (Int32 × mg_St) :=
  (Option.bind (f_X8_isPoet (mg_su σ 0 0 0) x1) fun y1 =>
  (if y1 = 0 then
  (Option.bind (f_X8_no (mg_su σ 0 0 0) 1) fun y2 =>
  some (y2.1, y2.2))
  else
  (Option.bind (f_X8_isGate (mg_su σ 0 0 0) x2) fun y3 =>
  (if y3 = 0 then
  (Option.bind (f_X8_no (mg_su σ 0 0 0) 1) fun y6 =>
  some (y6.1, y6.2))
  else
  (mg_rd (mg_su σ 0 0 0) 11 5 x1).bind fun v4 =>
  (mg_wr (mg_su σ 0 0 0) 11 5 x1 x2).bind fun s5 =>
  some (v4, s5)))))
def f_X8_lines (σ : mg_St) (x1 : Int32) : Option (Int32 × mg_St) :=
  (Option.bind (f_X8_isPoet (mg_su σ 0 0 0) x1) fun y1 =>
  (if y1 = 0 then
  (Option.bind (f_X8_no (mg_su σ 0 0 0) 1) fun y2 =>
  some (y2.1, y2.2))
  else
  (mg_rd (mg_su σ 0 0 0) 13 5 x1).bind fun v3 =>
  some (v3, (mg_su σ 0 0 0))))
def f_X8_cellsLike_14 (σ : mg_St) (a1 : Int32) (a4 : Int32) : Nat → Int32 → Int32 → Option (Int32 × Int32)
  | 0, _, _ => none
  | n + 1, x2, x5 =>
    (if a4 ≤ x5 then
    some (x2, x5)
    else
    (mg_rd σ 3 70 x5).bind fun v1 =>
    (if v1 = a1 then
    f_X8_cellsLike_14 σ a1 a4 n (x2 + 1) (x5 + 1)
    else
    f_X8_cellsLike_14 σ a1 a4 n (x2 + 0) (x5 + 1)))
def f_X8_cellsLike (σ : mg_St) (x1 : Int32) : Option Int32 :=
  (Option.bind (f_X8_cellsLike_14 σ x1 70 5000 0 0) fun y2 =>
  some y2.1)
def f_X8_written_4 (σ : mg_St) (b : Nat) : Nat → Int32 → Int32 → Option (Int32 × Int32)
  | 0, _, _ => none
  | n + 1, x2, x3 =>
    (if (σ 0 11) ≤ x3 then
    some (x2, x3)
    else
    (mg_rd σ (2 * b + 11) 5 x3).bind fun v1 =>
    f_X8_written_4 σ b n (x2 + v1) (x3 + 1))
def f_X8_written (σ : mg_St) (b : Nat)  : Option Int32 :=
  (Option.bind (f_X8_written_4 σ b 5000 0 0) fun y2 =>
  some y2.1)
def f_X8_sizes_4 (σ : mg_St) (b : Nat) : Nat → Int32 → Int32 → Option (Int32 × Int32)
  | 0, _, _ => none
  | n + 1, x2, x3 =>
    (if (σ 0 5) ≤ x3 then
    some (x2, x3)
    else
    (mg_rd σ 8 30 x3).bind fun v1 =>
    (if v1 = 0 then
    (mg_rd σ (2 * b + 10) 30 x3).bind fun v2 =>
    f_X8_sizes_4 σ b n (x2 + v2) (x3 + 1)
    else
    f_X8_sizes_4 σ b n (x2 + 0) (x3 + 1)))
def f_X8_sizes (σ : mg_St) (b : Nat)  : Option Int32 :=
  (Option.bind (f_X8_sizes_4 σ b 5000 0 0) fun y3 =>
  some y3.1)
def f_X8_counted_7 (σ : mg_St) (a1 : Int32) (a3 : Int32) : Nat → Int32 → Int32 → Option (Int32 × Int32)
  | 0, _, _ => none
  | n + 1, x2, x4 =>
    (if 70 ≤ x4 then
    some (x2, x4)
    else
    (mg_rd σ 6 70 x4).bind fun v1 =>
    (if v1 = x4 then
    f_X8_counted_7 σ a1 a3 n (x2 + 1) (x4 + 1)
    else
    f_X8_counted_7 σ a1 a3 n (x2 + 0) (x4 + 1)))
def f_X8_counted_43 (σ : mg_St) (a1 : Int32) (a2 : Int32) : Nat → Int32 → Int32 → Option (Int32 × Int32)
  | 0, _, _ => none
  | n + 1, x3, x4 =>
    (if (σ 0 5) ≤ x4 then
    some (x3, x4)
    else
    (mg_rd σ 8 30 x4).bind fun v3 =>
    f_X8_counted_43 σ a1 a2 n (x3 + (1 - v3)) (x4 + 1))
def f_X8_counted (σ : mg_St) (x1 : Int32) : Option Int32 :=
  (Option.bind (f_X8_counted_7 σ x1 0 5000 0 0) fun y2 =>
  (Option.bind (f_X8_counted_43 σ x1 y2.1 5000 0 0) fun y4 =>
  (Option.bind (if ((σ 1 0) - (σ 1 0) / 8 * 8) = 4 then
  some 1
  else
  some 0) fun (y6 : Int32) =>
  (Option.bind (f_X8_cellsLike σ 1) fun y7 =>
  (Option.bind (f_X8_cellsLike σ 2) fun y8 =>
  (Option.bind (f_X8_sizes σ 1) fun y9 =>
  (Option.bind (f_X8_written σ 1) fun y10 =>
  (mg_rt (upd (upd (upd (upd (upd (upd (upd (upd (upd (upd (upd (fun _ => 0) 0 (σ 1 0)) 1 y6) 2 (σ 1 1)) 3 y7) 4 y8) 5 y2.1) 6 y4.1) 7 y9) 8 (σ 0 8)) 9 (σ 0 11)) 10 y10) 11 x1).bind fun v11 =>
  some v11)))))))
def f_X8_count (σ : mg_St) (x1 : Int32) : Option (Int32 × mg_St) :=
  (Option.bind (f_X8_isIn (mg_su σ 0 0 0) x1 0 10) fun y1 =>
  (if y1 = 0 then
  (Option.bind (f_X8_no (mg_su σ 0 0 0) 1) fun y4 =>
  some (y4.1, y4.2))
  else
  (Option.bind (f_X8_markPonds (mg_su σ 0 0 0)) fun y2 =>
  (Option.bind (f_X8_counted y2 x1) fun y3 =>
  some (y3, y2)))))
def f_X8_day_2 (b : Nat) : Nat → Int32 → mg_St → Option (Int32 × mg_St)
  | 0, _, _ => none
  | n + 1, x2, σ =>
    (if (σ 0 5) ≤ x2 then
    some (x2, σ)
    else
    (mg_rd σ 8 30 x2).bind fun v1 =>
    (if v1 = 0 then
    (mg_rd σ 7 30 x2).bind fun v2 =>
    (mg_rd σ 6 70 v2).bind fun v3 =>
    (Option.bind (f_X8_isTooFull σ v3) fun y4 =>
    (if y4 = 0 then
    (mg_rd σ (2 * b + 10) 30 x2).bind fun v5 =>
    (mg_wr σ (2 * b + 10) 30 x2 (if (v5 + 1) < 40 then (v5 + 1) else 40)).bind fun s6 =>
    f_X8_day_2 b n (x2 + 1) s6
    else
    (mg_rd σ (2 * b + 10) 30 x2).bind fun v7 =>
    (mg_wr σ (2 * b + 10) 30 x2 (if 1 < (v7 - 1) then (v7 - 1) else 1)).bind fun s8 =>
    f_X8_day_2 b n (x2 + 1) s8))
    else
    f_X8_day_2 b n (x2 + 1) σ))
def f_X8_day_81 (b : Nat) : Nat → Int32 → Int32 → mg_St → Option (Int32 × Int32 × mg_St)
  | 0, _, _, _ => none
  | n + 1, x2, x3, σ =>
    (if (σ 0 11) ≤ x3 then
    some (x2, x3, σ)
    else
    (mg_rd σ 11 5 x3).bind fun v10 =>
    (Option.bind (f_X8_beauty σ b v10) fun y11 =>
    (Option.bind (if ((σ b 0) - (σ b 0) / 8 * 8) = 4 then
    some 2
    else
    some 1) fun (y12 : Int32) =>
    (mg_rd σ (2 * b + 11) 5 x3).bind fun v13 =>
    (mg_wr σ (2 * b + 11) 5 x3 (v13 + ((y11 / 5) * y12))).bind fun s14 =>
    f_X8_day_81 b n (x2 + ((y11 / 5) * y12)) (x3 + 1) s14)))
def f_X8_day (σ : mg_St) (b : Nat)  : Option (Int32 × mg_St) :=
  (Option.bind (f_X8_day_2 b 5000 0 σ) fun y9 =>
  (Option.bind (f_X8_day_81 b 5000 0 0 y9.2) fun y15 =>
  some (y15.1, (mg_su (mg_su y15.2.2 b 1 ((y15.2.2 b 1) + (y15.1 / 10))) b 0 (((mg_su y15.2.2 b 1 ((y15.2.2 b 1) + (y15.1 / 10))) b 0) + 1)))))
def f_X8_days_9 (b : Nat) (a2 : Int32) : Nat → Int32 → Int32 → mg_St → Option (Int32 × Int32 × mg_St)
  | 0, _, _, _ => none
  | n + 1, x3, x4, σ =>
    (if a2 ≤ x4 then
    some (x3, x4, σ)
    else
    (Option.bind (f_X8_day σ b) fun y2 =>
    f_X8_days_9 b a2 n (x3 + y2.1) (x4 + 1) y2.2))
def f_X8_days (σ : mg_St) (b : Nat) (x2 : Int32) : Option (Int32 × mg_St) :=
  (Option.bind (f_X8_markPonds σ) fun y1 =>
  (Option.bind (f_X8_days_9 b x2 5000 0 0 y1) fun y3 =>
  some (y3.1, y3.2.2)))
def f_X8_pass (σ : mg_St) (x1 : Int32) : Option (Int32 × mg_St) :=
  (Option.bind (f_X8_isIn (mg_su σ 0 0 0) x1 1 60) fun y1 =>
  (if y1 = 0 then
  (Option.bind (f_X8_no (mg_su σ 0 0 0) 1) fun y2 =>
  some (y2.1, y2.2))
  else
  (Option.bind (f_X8_days (mg_su σ 0 0 0) 1 x1) fun y3 =>
  some (y3.1, y3.2))))
def f_X8_foresee (σ : mg_St) (x1 : Int32) (x2 : Int32) : Option (Int32 × mg_St) :=
  (Option.bind (f_X8_isIn (mg_su σ 0 0 0) x1 1 60) fun y1 =>
  (if y1 = 0 then
  (Option.bind (f_X8_no (mg_su σ 0 0 0) 1) fun y15 =>
  some (y15.1, y15.2))
  else
  (if x2 = 2 then
  (Option.bind (f_X7_become (mg_su σ 0 0 0)) fun y2 =>
  (Option.bind (f_X8_days y2 2 x1) fun y3 =>
  (if x2 = 2 then
  some ((y3.2 2 1), y3.2)
  else
  (if x2 = 7 then
  (Option.bind (f_X8_sizes y3.2 2) fun y5 =>
  some (y5, y3.2))
  else
  (Option.bind (f_X8_written y3.2 2) fun y4 =>
  some (y4, y3.2))))))
  else
  (if x2 = 7 then
  (Option.bind (f_X7_become (mg_su σ 0 0 0)) fun y6 =>
  (Option.bind (f_X8_days y6 2 x1) fun y7 =>
  (if x2 = 2 then
  some ((y7.2 2 1), y7.2)
  else
  (if x2 = 7 then
  (Option.bind (f_X8_sizes y7.2 2) fun y9 =>
  some (y9, y7.2))
  else
  (Option.bind (f_X8_written y7.2 2) fun y8 =>
  some (y8, y7.2))))))
  else
  (if x2 = 10 then
  (Option.bind (f_X7_become (mg_su σ 0 0 0)) fun y10 =>
  (Option.bind (f_X8_days y10 2 x1) fun y11 =>
  (if x2 = 2 then
  some ((y11.2 2 1), y11.2)
  else
  (if x2 = 7 then
  (Option.bind (f_X8_sizes y11.2 2) fun y13 =>
  some (y13, y11.2))
  else
  (Option.bind (f_X8_written y11.2 2) fun y12 =>
  some (y12, y11.2))))))
  else
  (Option.bind (f_X8_no (mg_su σ 0 0 0) 2) fun y14 =>
  some (y14.1, y14.2)))))))
def f_X8_advise_61 (a1 : Int32) (a2 : Int32) (a3 : Int32) : Nat → Int32 → Int32 → Int32 → mg_St → Option (Int32 × Int32 × Int32 × mg_St)
  | 0, _, _, _, _ => none
  | n + 1, x4, x5, x6, σ =>
    (if 70 ≤ x6 then
    some (x4, x5, x6, σ)
    else
    (mg_rd σ 3 70 x6).bind fun v6 =>
    (if v6 = 0 then
    (mg_wr σ 3 70 x6 1).bind fun s7 =>
    (mg_wr s7 4 70 x6 a2).bind fun s8 =>
    (mg_wr s8 5 70 x6 a3).bind fun s9 =>
    (Option.bind (f_X8_beauty s9 1 a1) fun y10 =>
    (mg_wr s9 3 70 x6 0).bind fun s11 =>
    (if x5 < y10 then
    f_X8_advise_61 a1 a2 a3 n x6 y10 (x6 + 1) s11
    else
    f_X8_advise_61 a1 a2 a3 n x4 x5 (x6 + 1) s11))
    else
    f_X8_advise_61 a1 a2 a3 n x4 x5 (x6 + 1) σ))
def f_X8_advise (σ : mg_St) (x1 : Int32) (x2 : Int32) (x3 : Int32) : Option (Int32 × mg_St) :=
  (Option.bind (f_X8_isGate (mg_su σ 0 0 0) x1) fun y1 =>
  (if y1 = 0 then
  (Option.bind (f_X8_no (mg_su σ 0 0 0) 1) fun y14 =>
  some (y14.1, y14.2))
  else
  (Option.bind (f_X8_isIn (mg_su σ 0 0 0) x2 0 5) fun y2 =>
  (if y2 = 0 then
  (Option.bind (f_X8_no (mg_su σ 0 0 0) 2) fun y3 =>
  some (y3.1, y3.2))
  else
  (Option.bind (f_X8_isIn (mg_su σ 0 0 0) x3 1 9) fun y4 =>
  (if y4 = 0 then
  (Option.bind (f_X8_no (mg_su σ 0 0 0) 2) fun y13 =>
  some (y13.1, y13.2))
  else
  (Option.bind (f_X8_beauty (mg_su σ 0 0 0) 1 x1) fun y5 =>
  (Option.bind (f_X8_advise_61 x1 x2 x3 5000 (-1) y5 0 (mg_su σ 0 0 0)) fun y12 =>
  some (y12.1, y12.2.2.2)))))))))
def f_X8_finest_9 (σ : mg_St) : Nat → Int32 → Int32 → Option (Int32 × Int32)
  | 0, _, _ => none
  | n + 1, x1, x2 =>
    (if (σ 0 8) ≤ x2 then
    some (x1, x2)
    else
    (if x1 = (-1) then
    f_X8_finest_9 σ n x2 (x2 + 1)
    else
    (Option.bind (f_X8_beauty σ 1 x2) fun y1 =>
    (Option.bind (f_X8_beauty σ 1 x1) fun y2 =>
    (if y1 ≤ y2 then
    f_X8_finest_9 σ n x1 (x2 + 1)
    else
    f_X8_finest_9 σ n x2 (x2 + 1))))))
def f_X8_finest (σ : mg_St)  : Option (Int32 × mg_St) :=
  (Option.bind (f_X8_finest_9 (mg_su σ 0 0 0) 5000 (-1) 0) fun y3 =>
  some (y3.1, (mg_su σ 0 0 0)))
def f_X8_mean_9 (σ : mg_St) : Nat → Int32 → Int32 → Option (Int32 × Int32)
  | 0, _, _ => none
  | n + 1, x1, x2 =>
    (if (σ 0 8) ≤ x2 then
    some (x1, x2)
    else
    (Option.bind (f_X8_beauty σ 1 x2) fun y1 =>
    f_X8_mean_9 σ n (x1 + y1) (x2 + 1)))
def f_X8_mean (σ : mg_St)  : Option (UInt64 × mg_St) :=
  (Option.bind (f_X8_mean_9 (mg_su σ 0 0 0) 5000 0 0) fun y2 =>
  (if ((mg_su σ 0 0 0) 0 8) = 0 then
  some (FP.dconst0, (mg_su σ 0 0 0))
  else
  some ((FP.ddiv (FP.i2d y2.1) (FP.i2d ((mg_su σ 0 0 0) 0 8))), (mg_su σ 0 0 0))))
def f_X8_digest_15 (σ : mg_St) : Nat → Int64 → Int32 → Option (Int64 × Int32)
  | 0, _, _ => none
  | n + 1, x1, x3 =>
    (if 11 ≤ x3 then
    some (x1, x3)
    else
    (Option.bind (f_X8_counted σ x3) fun y2 =>
    f_X8_digest_15 σ n ((x1 * 31) + (Int32.toInt64 y2)) (x3 + 1)))
def f_X8_digest_51 (σ : mg_St) (a3 : Int32) : Nat → Int64 → Int32 → Option (Int64 × Int32)
  | 0, _, _ => none
  | n + 1, x1, x4 =>
    (if 5 ≤ x4 then
    some (x1, x4)
    else
    (Option.bind (f_X8_cellTold σ a3 x4) fun y4 =>
    f_X8_digest_51 σ a3 n ((x1 * 31) + (Int32.toInt64 y4)) (x4 + 1)))
def f_X8_digest_42 (σ : mg_St) : Nat → Int64 → Int32 → Option (Int64 × Int32)
  | 0, _, _ => none
  | n + 1, x1, x3 =>
    (if 70 ≤ x3 then
    some (x1, x3)
    else
    (Option.bind (f_X8_digest_51 σ x3 6 x1 0) fun y5 =>
    f_X8_digest_42 σ n y5.1 (x3 + 1)))
def f_X8_digest_97 (σ : mg_St) (a3 : Int32) : Nat → Int64 → Int32 → Option (Int64 × Int32)
  | 0, _, _ => none
  | n + 1, x1, x4 =>
    (if 5 ≤ x4 then
    some (x1, x4)
    else
    (Option.bind (f_X8_carpTold σ a3 x4) fun y7 =>
    f_X8_digest_97 σ a3 n ((x1 * 31) + (Int32.toInt64 y7)) (x4 + 1)))
def f_X8_digest_86 (σ : mg_St) : Nat → Int64 → Int32 → Option (Int64 × Int32)
  | 0, _, _ => none
  | n + 1, x1, x3 =>
    (if (σ 0 5) ≤ x3 then
    some (x1, x3)
    else
    (Option.bind (f_X8_digest_97 σ x3 6 x1 0) fun y8 =>
    f_X8_digest_86 σ n y8.1 (x3 + 1)))
def f_X8_digest_143 (σ : mg_St) (a3 : Int32) : Nat → Int64 → Int32 → Option (Int64 × Int32)
  | 0, _, _ => none
  | n + 1, x1, x4 =>
    (if 5 ≤ x4 then
    some (x1, x4)
    else
    (Option.bind (f_X8_gateTold σ a3 x4) fun y10 =>
    f_X8_digest_143 σ a3 n ((x1 * 31) + (Int32.toInt64 y10)) (x4 + 1)))
def f_X8_digest_132 (σ : mg_St) : Nat → Int64 → Int32 → Option (Int64 × Int32)
  | 0, _, _ => none
  | n + 1, x1, x3 =>
    (if (σ 0 8) ≤ x3 then
    some (x1, x3)
    else
    (Option.bind (f_X8_digest_143 σ x3 5000 x1 0) fun y11 =>
    f_X8_digest_132 σ n y11.1 (x3 + 1)))
def f_X8_digest_178 (σ : mg_St) : Nat → Int64 → Int32 → Option (Int64 × Int32)
  | 0, _, _ => none
  | n + 1, x1, x3 =>
    (if (σ 0 11) ≤ x3 then
    some (x1, x3)
    else
    (mg_rd σ 13 5 x3).bind fun v13 =>
    f_X8_digest_178 σ n ((x1 * 31) + (Int32.toInt64 v13)) (x3 + 1))
def f_X8_digest (σ : mg_St)  : Option (Int64 × mg_St) :=
  (Option.bind (f_X8_markPonds (mg_su σ 0 0 0)) fun y1 =>
  (Option.bind (f_X8_digest_15 y1 12 1193 0) fun y3 =>
  (Option.bind (f_X8_digest_42 y1 71 y3.1 0) fun y6 =>
  (Option.bind (f_X8_digest_86 y1 31 y6.1 0) fun y9 =>
  (Option.bind (f_X8_digest_132 y1 5000 y9.1 0) fun y12 =>
  (Option.bind (f_X8_digest_178 y1 5000 y12.1 0) fun y14 =>
  some (y14.1, y1)))))))
