def f_X1_init_75  : Nat → Int32 → mg_St → Option (Int32 × mg_St)
  | 0, _, _ => none
  | n + 1, x1, σ =>
    (if 70 ≤ x1 then
    some (x1, σ)
    else
    (mg_wr σ 2 70 x1 (-1)).bind fun s1 =>
    (mg_wr s1 5 70 x1 (-1)).bind fun s2 =>
    f_X1_init_75  n (x1 + 1) s2)
/-- the state of a new garden: shapes and ponds are NONE everywhere -/
def mg_g0 (k : Nat) : Nat → Int32 := fun j => if k = 2 ∨ k = 5 then (if j < 70 then -1 else 0) else 0
theorem mg_g0_loop : ∀ (n j : Nat), j ≤ 70 → 71 ≤ n + j → f_X1_init_75 n (Int32.ofNat j) (fun k i => if k = 2 ∨ k = 5 then (if i < j then -1 else 0) else 0) = some ((70 : Int32), mg_g0) := by
  intro n
  induction n with
  | zero => intro j h1 h2; omega
  | succ n ih =>
    intro j h1 h2
    rw [f_X1_init_75]
    by_cases hj : j = 70
    · subst hj
      rw [if_pos (by decide)]
      rfl
    · have hlt : j < 70 := by omega
      have e0 : ¬ (70 : Int32) ≤ Int32.ofNat j := nI_ge hlt (by decide)
      have e1 : ¬ (Int32.ofNat j < 0 ∨ 70 ≤ (Int32.ofNat j).toNatClampNeg) := nI_in hlt (by decide)
      have e2 : (Int32.ofNat j).toNatClampNeg = j := nI_clamp (by omega)
      rw [if_neg e0]
      have e3 : ∀ (σ : mg_St) (k : Nat) (v : Int32), mg_wr σ k 70 (Int32.ofNat j) v = some (mg_su σ k j v) := fun σ k v => by unfold mg_wr; rw [if_neg e1, e2]
      simp only [e3, Option.bind_some]
      rw [show Int32.ofNat j + 1 = Int32.ofNat (j + 1) from (nI_succ j).symm]
      rw [← ih (j + 1) (by omega) (by omega)]
      congr 1
      funext k i
      simp only [mg_su, upd]
      by_cases h2 : k = 2
      · subst h2
        by_cases hi : i = j
        · subst hi; simp [upd]
        · by_cases hl : i < j
          · simp [upd, hi, hl, show i < j + 1 by omega]
          · simp [upd, hi, hl, show ¬ i < j + 1 by omega]
      · by_cases h5 : k = 5
        · subst h5
          by_cases hi : i = j
          · subst hi; simp [upd]
          · by_cases hl : i < j
            · simp [upd, hi, hl, show i < j + 1 by omega]
            · simp [upd, hi, hl, show ¬ i < j + 1 by omega]
        · simp [h2, h5]
theorem mg_g0_val : f_X1_init_75 5000 0 (fun _ _ => 0) = some ((70 : Int32), mg_g0) := by
  have h := mg_g0_loop 5000 0 (by omega) (by omega)
  have e : (fun (k i : Nat) => if k = 2 ∨ k = 5 then (if i < 0 then (-1 : Int32) else 0) else 0) = (fun _ _ => 0) := by
    funext k i
    simp
  rw [e] at h
  exact h
/-- the class's and the reference's states at first -/
def mg_c0 : mg_St := fun k j => if k = 9 ∨ k = 12 then (if j < 70 then -1 else 0) else if (k = 5 ∨ k = 6) ∧ j = 1 then 100 else 0
def mg_m0 : mg_St := fun k j => if (k = 1 ∨ k = 2) ∧ j = 1 then 100 else 0

set_option maxHeartbeats 4000000 in
set_option maxRecDepth 100000 in
theorem k_X0_init (l : Launch) (D : va_G) (o : Nat → Nat) (cI cZ : ClassId) (q : Nat) (sz : Nat) : mg_CE l yX0_init wsX0_init ({ frames := 1, cells := 2, slots := 35, locals := 20 } : Room) D [(cI, .int), (cZ, .boolean)] o [(q, .inr (0, [.int 0, .int 0, .null, .null]))] sz [.ref q] (fun γ => [(q, .inr (0, [.int 0, .int 100, .ref (γ 0), .ref (γ 1)])), (γ 0, .inl (cI, 30, .inl (fun _ => 0))), (γ 1, .inl (cI, 5, .inl (fun _ => 0)))]) 2 35 := by
  unfold mg_CE
  refine Met.ofW (cc := cX0_init) (maxL := 1) (ret := none) (by decide) rfl ?_
  intro p e s m args below meth c s₁ B hml hv
  obtain ⟨rfl, hsz, hP, hK, hD0, hO⟩ := hv
  have hx := B.exec
  have hb := B.bytes
  have hr := B.returns
  have hts := atoms_spec (ws := wsX0_init) B.pre
  have hown : s.vm.findClass RX0 = some m.cls := findClass_of_methodNamed B.named
  have hlocks := B.notSynchronized
  have hin : meth.name = "<init>" := (name_of_methodNamed B.named B.method).1
  subst hsz
  have hD := hD0.self (sz := s.heap.size)
  generalize hAe : va_A [(q, .inr (0, [.int 0, .int 0, .null, .null]))] s.heap.size = A at hD hO ⊢
  have hA : ∀ q : Nat, s.heap.size ≤ q → A q := fun q h => by rw [← hAe]; exact Or.inr h
  have hw : mg_Wo D A s.heap s.heap [] [(q, .inr (0, [.int 0, .int 0, .null, .null]))] := ⟨hP, hD, va_S.rf⟩
  have G9 : CallFix p m c cX0_init 1 s ([.ref q] : List Value).toArray wsX0_init RX0 := ⟨hx, hb, hml, hown, hts⟩
  clear hP hD hD0 hAe
  have w0_ := hts (.methodLink RX0 3 objectInit) (by decide +kernel)
  have w1_ := hts (.instanceMethod objectInit) (by decide +kernel)
  have w2_ := hts (.code objectInit ⟨#[0xb1]⟩ 1 none) (by decide +kernel)
  have w3_ := hts (.fieldLink RX0 9 "MoonGate$Course" "day" "I") (by decide +kernel)
  have iX0_ : ∀ w ∈ wsX00, w ∈ wsX0_init := (fun _ h => List.mem_cons_of_mem _ (List.mem_append_right _ h))
  have w5_ := hts (.fieldLink RX0 15 "MoonGate$Course" "coins" "I") (by decide +kernel)
  have w6_ := hts (.arrayClass .int) (by decide +kernel)
  have w7_ := hts (.fieldLink RX0 18 "MoonGate$Course" "carpSizes" "[I") (by decide +kernel)
  have w8_ := hts (.fieldLink RX0 22 "MoonGate$Course" "linesWritten" "[I") (by decide +kernel)
  have hl := lv_entry ([.ref q]) (n := 1) (Nat.le_of_ble_eq_true rfl)
  rw [lg_entry_eq]
  generalize (lg_sl ([.ref q]) ++ List.replicate (1 - (lg_sl ([.ref q])).length) Slot.unset).toArray = ls at hl ⊢
  have hl : lv_has ls 1 [(0, .ref q)] := hl
  refine lv_aload_n hx hb dX0_init_0 rfl (lv_at hl 0 rfl) ?_
  refine W.objInit hx hb hown w0_ w1_ w2_ rfl (by rw [hml]; exact hl.1) rfl dX0_init_1 (Nat.le_of_ble_eq_true rfl) (Nat.le_of_ble_eq_true rfl) ?_
  refine W.eq (g2 := F0 m 4 ls []) rfl ?_
  refine lv_aload_n hx hb dX0_init_4 rfl (lv_at hl 0 rfl) ?_
  refine lv_iconst (v := 0) hx hb dX0_init_5 (by decide) ?_
  refine va_put (D := D) (ci := 0) (v := .int 0) (ty := .int) (C := RX0) (T := TX0) (N := 4) hx hb hts iX0_ tyX0 tyX0_ok nmX0 hown hK hw.1 hw.2.1 hw.2.2 0 rfl rfl 0 (by decide) w3_ (fun _ h9 => h9) rfl (by decide +kernel) rfl rfl (Nat.le_of_ble_eq_true rfl) dX0_init_6 (fun H locs hP hD hS => ?_)
  have hw : mg_Wo D A s.heap H locs [(q, .inr (0, [.int 0, .int 0, .null, .null]))] := ⟨hP, hD, hS⟩
  refine lv_aload_n hx hb dX0_init_9 rfl (lv_at hl 0 rfl) ?_
  refine lv_bipush (v := 100) hx hb dX0_init_10 (by decide) ?_
  refine va_put (D := D) (ci := 0) (v := .int 100) (ty := .int) (C := RX0) (T := TX0) (N := 4) hx hb hts iX0_ tyX0 tyX0_ok nmX0 hown hK hw.1 hw.2.1 hw.2.2 0 rfl rfl 1 (by decide) w5_ (fun _ h9 => h9) rfl (by decide +kernel) rfl rfl (Nat.le_of_ble_eq_true rfl) dX0_init_12 (fun H locs hP hD hS => ?_)
  have hw : mg_Wo D A s.heap H locs [(q, .inr (0, [.int 0, .int 100, .null, .null]))] := ⟨hP, hD, hS⟩
  refine lv_aload_n hx hb dX0_init_15 rfl (lv_at hl 0 rfl) ?_
  refine lv_bipush (v := 30) hx hb dX0_init_16 (by decide) ?_
  refine mg_newa (n := 30) (N := 30) hx hb w6_ hK hw hA 0 rfl (by decide) rfl (by decide) (Nat.le_of_ble_eq_true rfl) (Nat.le_of_ble_eq_true rfl) dX0_init_18 (fun q1 H hw => ?_)
  have hw : mg_Wo D A s.heap H locs [(q, .inr (0, [.int 0, .int 100, .null, .null])), (q1, .inl (cI, 30, .inl (fun _ => 0)))] := hw
  refine va_putF (D := D) (ci := 0) (v := .ref q1) (ty := .array .int) (C := RX0) (T := TX0) (N := 4) hx hb hts iX0_ tyX0 tyX0_ok nmX0 hown hK hw.1 hw.2.1 hw.2.2 0 rfl rfl 2 (by decide) w7_ (fun _ h9 => h9) rfl hin rfl (by decide +kernel) rfl rfl (Nat.le_of_ble_eq_true rfl) dX0_init_20 (fun H locs hP hD hS => ?_)
  have hw : mg_Wo D A s.heap H locs [(q, .inr (0, [.int 0, .int 100, .ref q1, .null])), (q1, .inl (cI, 30, .inl (fun _ => 0)))] := ⟨hP, hD, hS⟩
  refine lv_aload_n hx hb dX0_init_23 rfl (lv_at hl 0 rfl) ?_
  refine lv_iconst (v := 5) hx hb dX0_init_24 (by decide) ?_
  refine mg_newa (n := 5) (N := 5) hx hb w6_ hK hw hA 0 rfl (by decide) rfl (by decide) (Nat.le_of_ble_eq_true rfl) (Nat.le_of_ble_eq_true rfl) dX0_init_25 (fun q2 H hw => ?_)
  have hw : mg_Wo D A s.heap H locs [(q, .inr (0, [.int 0, .int 100, .ref q1, .null])), (q1, .inl (cI, 30, .inl (fun _ => 0))), (q2, .inl (cI, 5, .inl (fun _ => 0)))] := hw
  refine va_putF (D := D) (ci := 0) (v := .ref q2) (ty := .array .int) (C := RX0) (T := TX0) (N := 4) hx hb hts iX0_ tyX0 tyX0_ok nmX0 hown hK hw.1 hw.2.1 hw.2.2 0 rfl rfl 3 (by decide) w8_ (fun _ h9 => h9) rfl hin rfl (by decide +kernel) rfl rfl (Nat.le_of_ble_eq_true rfl) dX0_init_27 (fun H locs hP hD hS => ?_)
  have hw : mg_Wo D A s.heap H locs [(q, .inr (0, [.int 0, .int 100, .ref q1, .ref q2])), (q1, .inl (cI, 30, .inl (fun _ => 0))), (q2, .inl (cI, 5, .inl (fun _ => 0)))] := ⟨hP, hD, hS⟩
  exact mg_eE (w1 := (fun γ => [(q, .inr (0, [.int 0, .int 100, .ref (γ 0), .ref (γ 1)])), (γ 0, .inl (cI, 30, .inl (fun _ => 0))), (γ 1, .inl (cI, 5, .inl (fun _ => 0)))])) (fun k => [q1, q2].getD k 0) hx hb hr hlocks hw (Nat.le_of_ble_eq_true rfl) (Nat.le_of_ble_eq_true rfl) dX0_init_30
set_option maxHeartbeats 4000000 in
set_option maxRecDepth 100000 in
theorem k_X2_init (l : Launch) (D : va_G) (o : Nat → Nat) (cI cZ : ClassId) (q : Nat) (sz : Nat) : mg_CE l yX2_init wsX2_init ({ frames := 1, cells := 2, slots := 12, locals := 20 } : Room) D [(cI, .int), (cZ, .boolean)] o [(q, .inr (2, [.null, .null, .int 0]))] sz [.ref q] (fun γ => [(q, .inr (2, [.ref (γ 0), .ref (γ 1), .int 0])), (γ 0, .inl (cI, 6, .inl (fun _ => 0))), (γ 1, .inl (cI, 6, .inl (fun _ => 0)))]) 2 12 := by
  unfold mg_CE
  refine Met.ofW (cc := cX2_init) (maxL := 1) (ret := none) (by decide) rfl ?_
  intro p e s m args below meth c s₁ B hml hv
  obtain ⟨rfl, hsz, hP, hK, hD0, hO⟩ := hv
  have hx := B.exec
  have hb := B.bytes
  have hr := B.returns
  have hts := atoms_spec (ws := wsX2_init) B.pre
  have hown : s.vm.findClass RX2 = some m.cls := findClass_of_methodNamed B.named
  have hlocks := B.notSynchronized
  have hin : meth.name = "<init>" := (name_of_methodNamed B.named B.method).1
  subst hsz
  have hD := hD0.self (sz := s.heap.size)
  generalize hAe : va_A [(q, .inr (2, [.null, .null, .int 0]))] s.heap.size = A at hD hO ⊢
  have hA : ∀ q : Nat, s.heap.size ≤ q → A q := fun q h => by rw [← hAe]; exact Or.inr h
  have hw : mg_Wo D A s.heap s.heap [] [(q, .inr (2, [.null, .null, .int 0]))] := ⟨hP, hD, va_S.rf⟩
  have G9 : CallFix p m c cX2_init 1 s ([.ref q] : List Value).toArray wsX2_init RX2 := ⟨hx, hb, hml, hown, hts⟩
  clear hP hD hD0 hAe
  have w0_ := hts (.methodLink RX2 3 objectInit) (by decide +kernel)
  have w1_ := hts (.instanceMethod objectInit) (by decide +kernel)
  have w2_ := hts (.code objectInit ⟨#[0xb1]⟩ 1 none) (by decide +kernel)
  have w3_ := hts (.arrayClass .int) (by decide +kernel)
  have w4_ := hts (.fieldLink RX2 9 "MoonGate$Gates" "places" "[I") (by decide +kernel)
  have iX2_ : ∀ w ∈ wsX20, w ∈ wsX2_init := (fun _ h => List.mem_cons_of_mem _ (List.mem_append_right _ h))
  have w6_ := hts (.fieldLink RX2 15 "MoonGate$Gates" "directions" "[I") (by decide +kernel)
  have w7_ := hts (.fieldLink RX2 18 "MoonGate$Gates" "many" "I") (by decide +kernel)
  have hl := lv_entry ([.ref q]) (n := 1) (Nat.le_of_ble_eq_true rfl)
  rw [lg_entry_eq]
  generalize (lg_sl ([.ref q]) ++ List.replicate (1 - (lg_sl ([.ref q])).length) Slot.unset).toArray = ls at hl ⊢
  have hl : lv_has ls 1 [(0, .ref q)] := hl
  refine lv_aload_n hx hb dX2_init_0 rfl (lv_at hl 0 rfl) ?_
  refine W.objInit hx hb hown w0_ w1_ w2_ rfl (by rw [hml]; exact hl.1) rfl dX2_init_1 (Nat.le_of_ble_eq_true rfl) (Nat.le_of_ble_eq_true rfl) ?_
  refine W.eq (g2 := F0 m 4 ls []) rfl ?_
  refine lv_aload_n hx hb dX2_init_4 rfl (lv_at hl 0 rfl) ?_
  refine lv_bipush (v := 6) hx hb dX2_init_5 (by decide) ?_
  refine mg_newa (n := 6) (N := 6) hx hb w3_ hK hw hA 0 rfl (by decide) rfl (by decide) (Nat.le_of_ble_eq_true rfl) (Nat.le_of_ble_eq_true rfl) dX2_init_7 (fun q1 H hw => ?_)
  have hw : mg_Wo D A s.heap H [] [(q, .inr (2, [.null, .null, .int 0])), (q1, .inl (cI, 6, .inl (fun _ => 0)))] := hw
  refine va_putF (D := D) (ci := 2) (v := .ref q1) (ty := .array .int) (C := RX2) (T := TX2) (N := 3) hx hb hts iX2_ tyX2 tyX2_ok nmX2 hown hK hw.1 hw.2.1 hw.2.2 0 rfl rfl 0 (by decide) w4_ (fun _ h9 => h9) rfl hin rfl (by decide +kernel) rfl rfl (Nat.le_of_ble_eq_true rfl) dX2_init_9 (fun H locs hP hD hS => ?_)
  have hw : mg_Wo D A s.heap H locs [(q, .inr (2, [.ref q1, .null, .int 0])), (q1, .inl (cI, 6, .inl (fun _ => 0)))] := ⟨hP, hD, hS⟩
  refine lv_aload_n hx hb dX2_init_12 rfl (lv_at hl 0 rfl) ?_
  refine lv_bipush (v := 6) hx hb dX2_init_13 (by decide) ?_
  refine mg_newa (n := 6) (N := 6) hx hb w3_ hK hw hA 0 rfl (by decide) rfl (by decide) (Nat.le_of_ble_eq_true rfl) (Nat.le_of_ble_eq_true rfl) dX2_init_15 (fun q2 H hw => ?_)
  have hw : mg_Wo D A s.heap H locs [(q, .inr (2, [.ref q1, .null, .int 0])), (q1, .inl (cI, 6, .inl (fun _ => 0))), (q2, .inl (cI, 6, .inl (fun _ => 0)))] := hw
  refine va_putF (D := D) (ci := 2) (v := .ref q2) (ty := .array .int) (C := RX2) (T := TX2) (N := 3) hx hb hts iX2_ tyX2 tyX2_ok nmX2 hown hK hw.1 hw.2.1 hw.2.2 0 rfl rfl 1 (by decide) w6_ (fun _ h9 => h9) rfl hin rfl (by decide +kernel) rfl rfl (Nat.le_of_ble_eq_true rfl) dX2_init_17 (fun H locs hP hD hS => ?_)
  have hw : mg_Wo D A s.heap H locs [(q, .inr (2, [.ref q1, .ref q2, .int 0])), (q1, .inl (cI, 6, .inl (fun _ => 0))), (q2, .inl (cI, 6, .inl (fun _ => 0)))] := ⟨hP, hD, hS⟩
  refine lv_aload_n hx hb dX2_init_20 rfl (lv_at hl 0 rfl) ?_
  refine lv_iconst (v := 0) hx hb dX2_init_21 (by decide) ?_
  refine va_put (D := D) (ci := 2) (v := .int 0) (ty := .int) (C := RX2) (T := TX2) (N := 3) hx hb hts iX2_ tyX2 tyX2_ok nmX2 hown hK hw.1 hw.2.1 hw.2.2 0 rfl rfl 2 (by decide) w7_ (fun _ h9 => h9) rfl (by decide +kernel) rfl rfl (Nat.le_of_ble_eq_true rfl) dX2_init_22 (fun H locs hP hD hS => ?_)
  have hw : mg_Wo D A s.heap H locs [(q, .inr (2, [.ref q1, .ref q2, .int 0])), (q1, .inl (cI, 6, .inl (fun _ => 0))), (q2, .inl (cI, 6, .inl (fun _ => 0)))] := ⟨hP, hD, hS⟩
  exact mg_eE (w1 := (fun γ => [(q, .inr (2, [.ref (γ 0), .ref (γ 1), .int 0])), (γ 0, .inl (cI, 6, .inl (fun _ => 0))), (γ 1, .inl (cI, 6, .inl (fun _ => 0)))])) (fun k => [q1, q2].getD k 0) hx hb hr hlocks hw (Nat.le_of_ble_eq_true rfl) (Nat.le_of_ble_eq_true rfl) dX2_init_25
set_option maxHeartbeats 4000000 in
set_option maxRecDepth 100000 in
theorem k_X3_init (l : Launch) (D : va_G) (o : Nat → Nat) (cI cZ : ClassId) (q : Nat) (sz : Nat) : mg_CE l yX3_init wsX3_init ({ frames := 1, cells := 1, slots := 5, locals := 20 } : Room) D [(cI, .int), (cZ, .boolean)] o [(q, .inr (3, [.null, .int 0]))] sz [.ref q] (fun γ => [(q, .inr (3, [.ref (γ 0), .int 0])), (γ 0, .inl (cI, 5, .inl (fun _ => 0)))]) 1 5 := by
  unfold mg_CE
  refine Met.ofW (cc := cX3_init) (maxL := 1) (ret := none) (by decide) rfl ?_
  intro p e s m args below meth c s₁ B hml hv
  obtain ⟨rfl, hsz, hP, hK, hD0, hO⟩ := hv
  have hx := B.exec
  have hb := B.bytes
  have hr := B.returns
  have hts := atoms_spec (ws := wsX3_init) B.pre
  have hown : s.vm.findClass RX3 = some m.cls := findClass_of_methodNamed B.named
  have hlocks := B.notSynchronized
  have hin : meth.name = "<init>" := (name_of_methodNamed B.named B.method).1
  subst hsz
  have hD := hD0.self (sz := s.heap.size)
  generalize hAe : va_A [(q, .inr (3, [.null, .int 0]))] s.heap.size = A at hD hO ⊢
  have hA : ∀ q : Nat, s.heap.size ≤ q → A q := fun q h => by rw [← hAe]; exact Or.inr h
  have hw : mg_Wo D A s.heap s.heap [] [(q, .inr (3, [.null, .int 0]))] := ⟨hP, hD, va_S.rf⟩
  have G9 : CallFix p m c cX3_init 1 s ([.ref q] : List Value).toArray wsX3_init RX3 := ⟨hx, hb, hml, hown, hts⟩
  clear hP hD hD0 hAe
  have w0_ := hts (.methodLink RX3 3 objectInit) (by decide +kernel)
  have w1_ := hts (.instanceMethod objectInit) (by decide +kernel)
  have w2_ := hts (.code objectInit ⟨#[0xb1]⟩ 1 none) (by decide +kernel)
  have w3_ := hts (.arrayClass .int) (by decide +kernel)
  have w4_ := hts (.fieldLink RX3 9 "MoonGate$Poets" "gatesOf" "[I") (by decide +kernel)
  have iX3_ : ∀ w ∈ wsX30, w ∈ wsX3_init := (fun _ h => List.mem_cons_of_mem _ (List.mem_append_right _ h))
  have w6_ := hts (.fieldLink RX3 15 "MoonGate$Poets" "many" "I") (by decide +kernel)
  have hl := lv_entry ([.ref q]) (n := 1) (Nat.le_of_ble_eq_true rfl)
  rw [lg_entry_eq]
  generalize (lg_sl ([.ref q]) ++ List.replicate (1 - (lg_sl ([.ref q])).length) Slot.unset).toArray = ls at hl ⊢
  have hl : lv_has ls 1 [(0, .ref q)] := hl
  refine lv_aload_n hx hb dX3_init_0 rfl (lv_at hl 0 rfl) ?_
  refine W.objInit hx hb hown w0_ w1_ w2_ rfl (by rw [hml]; exact hl.1) rfl dX3_init_1 (Nat.le_of_ble_eq_true rfl) (Nat.le_of_ble_eq_true rfl) ?_
  refine W.eq (g2 := F0 m 4 ls []) rfl ?_
  refine lv_aload_n hx hb dX3_init_4 rfl (lv_at hl 0 rfl) ?_
  refine lv_iconst (v := 5) hx hb dX3_init_5 (by decide) ?_
  refine mg_newa (n := 5) (N := 5) hx hb w3_ hK hw hA 0 rfl (by decide) rfl (by decide) (Nat.le_of_ble_eq_true rfl) (Nat.le_of_ble_eq_true rfl) dX3_init_6 (fun q1 H hw => ?_)
  have hw : mg_Wo D A s.heap H [] [(q, .inr (3, [.null, .int 0])), (q1, .inl (cI, 5, .inl (fun _ => 0)))] := hw
  refine va_putF (D := D) (ci := 3) (v := .ref q1) (ty := .array .int) (C := RX3) (T := TX3) (N := 2) hx hb hts iX3_ tyX3 tyX3_ok nmX3 hown hK hw.1 hw.2.1 hw.2.2 0 rfl rfl 0 (by decide) w4_ (fun _ h9 => h9) rfl hin rfl (by decide +kernel) rfl rfl (Nat.le_of_ble_eq_true rfl) dX3_init_8 (fun H locs hP hD hS => ?_)
  have hw : mg_Wo D A s.heap H locs [(q, .inr (3, [.ref q1, .int 0])), (q1, .inl (cI, 5, .inl (fun _ => 0)))] := ⟨hP, hD, hS⟩
  refine lv_aload_n hx hb dX3_init_11 rfl (lv_at hl 0 rfl) ?_
  refine lv_iconst (v := 0) hx hb dX3_init_12 (by decide) ?_
  refine va_put (D := D) (ci := 3) (v := .int 0) (ty := .int) (C := RX3) (T := TX3) (N := 2) hx hb hts iX3_ tyX3 tyX3_ok nmX3 hown hK hw.1 hw.2.1 hw.2.2 0 rfl rfl 1 (by decide) w6_ (fun _ h9 => h9) rfl (by decide +kernel) rfl rfl (Nat.le_of_ble_eq_true rfl) dX3_init_13 (fun H locs hP hD hS => ?_)
  have hw : mg_Wo D A s.heap H locs [(q, .inr (3, [.ref q1, .int 0])), (q1, .inl (cI, 5, .inl (fun _ => 0)))] := ⟨hP, hD, hS⟩
  exact mg_eE (w1 := (fun γ => [(q, .inr (3, [.ref (γ 0), .int 0])), (γ 0, .inl (cI, 5, .inl (fun _ => 0)))])) (fun k => [q1].getD k 0) hx hb hr hlocks hw (Nat.le_of_ble_eq_true rfl) (Nat.le_of_ble_eq_true rfl) dX3_init_16
set_option maxHeartbeats 4000000 in
set_option maxRecDepth 100000 in
theorem k_X4_init (l : Launch) (D : va_G) (o : Nat → Nat) (cI cZ : ClassId) (q : Nat) (sz : Nat) : mg_CE l yX4_init wsX4_init ({ frames := 1, cells := 2, slots := 60, locals := 20 } : Room) D [(cI, .int), (cZ, .boolean)] o [(q, .inr (4, [.null, .null, .int 0]))] sz [.ref q] (fun γ => [(q, .inr (4, [.ref (γ 0), .ref (γ 1), .int 0])), (γ 0, .inl (cI, 30, .inl (fun _ => 0))), (γ 1, .inl (cZ, 30, .inl (fun _ => 0)))]) 2 60 := by
  unfold mg_CE
  refine Met.ofW (cc := cX4_init) (maxL := 1) (ret := none) (by decide) rfl ?_
  intro p e s m args below meth c s₁ B hml hv
  obtain ⟨rfl, hsz, hP, hK, hD0, hO⟩ := hv
  have hx := B.exec
  have hb := B.bytes
  have hr := B.returns
  have hts := atoms_spec (ws := wsX4_init) B.pre
  have hown : s.vm.findClass RX4 = some m.cls := findClass_of_methodNamed B.named
  have hlocks := B.notSynchronized
  have hin : meth.name = "<init>" := (name_of_methodNamed B.named B.method).1
  subst hsz
  have hD := hD0.self (sz := s.heap.size)
  generalize hAe : va_A [(q, .inr (4, [.null, .null, .int 0]))] s.heap.size = A at hD hO ⊢
  have hA : ∀ q : Nat, s.heap.size ≤ q → A q := fun q h => by rw [← hAe]; exact Or.inr h
  have hw : mg_Wo D A s.heap s.heap [] [(q, .inr (4, [.null, .null, .int 0]))] := ⟨hP, hD, va_S.rf⟩
  have G9 : CallFix p m c cX4_init 1 s ([.ref q] : List Value).toArray wsX4_init RX4 := ⟨hx, hb, hml, hown, hts⟩
  clear hP hD hD0 hAe
  have w0_ := hts (.methodLink RX4 3 objectInit) (by decide +kernel)
  have w1_ := hts (.instanceMethod objectInit) (by decide +kernel)
  have w2_ := hts (.code objectInit ⟨#[0xb1]⟩ 1 none) (by decide +kernel)
  have w3_ := hts (.arrayClass .int) (by decide +kernel)
  have w4_ := hts (.fieldLink RX4 9 "MoonGate$Shoal" "places" "[I") (by decide +kernel)
  have iX4_ : ∀ w ∈ wsX40, w ∈ wsX4_init := (fun _ h => List.mem_cons_of_mem _ (List.mem_append_right _ h))
  have w6_ := hts (.arrayClass .boolean) (by decide +kernel)
  have w7_ := hts (.fieldLink RX4 15 "MoonGate$Shoal" "sold" "[Z") (by decide +kernel)
  have w8_ := hts (.fieldLink RX4 19 "MoonGate$Shoal" "came" "I") (by decide +kernel)
  have hl := lv_entry ([.ref q]) (n := 1) (Nat.le_of_ble_eq_true rfl)
  rw [lg_entry_eq]
  generalize (lg_sl ([.ref q]) ++ List.replicate (1 - (lg_sl ([.ref q])).length) Slot.unset).toArray = ls at hl ⊢
  have hl : lv_has ls 1 [(0, .ref q)] := hl
  refine lv_aload_n hx hb dX4_init_0 rfl (lv_at hl 0 rfl) ?_
  refine W.objInit hx hb hown w0_ w1_ w2_ rfl (by rw [hml]; exact hl.1) rfl dX4_init_1 (Nat.le_of_ble_eq_true rfl) (Nat.le_of_ble_eq_true rfl) ?_
  refine W.eq (g2 := F0 m 4 ls []) rfl ?_
  refine lv_aload_n hx hb dX4_init_4 rfl (lv_at hl 0 rfl) ?_
  refine lv_bipush (v := 30) hx hb dX4_init_5 (by decide) ?_
  refine mg_newa (n := 30) (N := 30) hx hb w3_ hK hw hA 0 rfl (by decide) rfl (by decide) (Nat.le_of_ble_eq_true rfl) (Nat.le_of_ble_eq_true rfl) dX4_init_7 (fun q1 H hw => ?_)
  have hw : mg_Wo D A s.heap H [] [(q, .inr (4, [.null, .null, .int 0])), (q1, .inl (cI, 30, .inl (fun _ => 0)))] := hw
  refine va_putF (D := D) (ci := 4) (v := .ref q1) (ty := .array .int) (C := RX4) (T := TX4) (N := 3) hx hb hts iX4_ tyX4 tyX4_ok nmX4 hown hK hw.1 hw.2.1 hw.2.2 0 rfl rfl 0 (by decide) w4_ (fun _ h9 => h9) rfl hin rfl (by decide +kernel) rfl rfl (Nat.le_of_ble_eq_true rfl) dX4_init_9 (fun H locs hP hD hS => ?_)
  have hw : mg_Wo D A s.heap H locs [(q, .inr (4, [.ref q1, .null, .int 0])), (q1, .inl (cI, 30, .inl (fun _ => 0)))] := ⟨hP, hD, hS⟩
  refine lv_aload_n hx hb dX4_init_12 rfl (lv_at hl 0 rfl) ?_
  refine lv_bipush (v := 30) hx hb dX4_init_13 (by decide) ?_
  refine mg_newz (n := 30) (N := 30) hx hb w6_ hK hw hA 1 rfl (by decide) rfl (by decide) (Nat.le_of_ble_eq_true rfl) (Nat.le_of_ble_eq_true rfl) dX4_init_15 (fun q2 H hw => ?_)
  have hw : mg_Wo D A s.heap H locs [(q, .inr (4, [.ref q1, .null, .int 0])), (q1, .inl (cI, 30, .inl (fun _ => 0))), (q2, .inl (cZ, 30, .inl (fun _ => 0)))] := hw
  refine va_putF (D := D) (ci := 4) (v := .ref q2) (ty := .array .boolean) (C := RX4) (T := TX4) (N := 3) hx hb hts iX4_ tyX4 tyX4_ok nmX4 hown hK hw.1 hw.2.1 hw.2.2 0 rfl rfl 1 (by decide) w7_ (fun _ h9 => h9) rfl hin rfl (by decide +kernel) rfl rfl (Nat.le_of_ble_eq_true rfl) dX4_init_17 (fun H locs hP hD hS => ?_)
  have hw : mg_Wo D A s.heap H locs [(q, .inr (4, [.ref q1, .ref q2, .int 0])), (q1, .inl (cI, 30, .inl (fun _ => 0))), (q2, .inl (cZ, 30, .inl (fun _ => 0)))] := ⟨hP, hD, hS⟩
  refine lv_aload_n hx hb dX4_init_20 rfl (lv_at hl 0 rfl) ?_
  refine lv_iconst (v := 0) hx hb dX4_init_21 (by decide) ?_
  refine va_put (D := D) (ci := 4) (v := .int 0) (ty := .int) (C := RX4) (T := TX4) (N := 3) hx hb hts iX4_ tyX4 tyX4_ok nmX4 hown hK hw.1 hw.2.1 hw.2.2 0 rfl rfl 2 (by decide) w8_ (fun _ h9 => h9) rfl (by decide +kernel) rfl rfl (Nat.le_of_ble_eq_true rfl) dX4_init_22 (fun H locs hP hD hS => ?_)
  have hw : mg_Wo D A s.heap H locs [(q, .inr (4, [.ref q1, .ref q2, .int 0])), (q1, .inl (cI, 30, .inl (fun _ => 0))), (q2, .inl (cZ, 30, .inl (fun _ => 0)))] := ⟨hP, hD, hS⟩
  exact mg_eE (w1 := (fun γ => [(q, .inr (4, [.ref (γ 0), .ref (γ 1), .int 0])), (γ 0, .inl (cI, 30, .inl (fun _ => 0))), (γ 1, .inl (cZ, 30, .inl (fun _ => 0)))])) (fun k => [q1, q2].getD k 0) hx hb hr hlocks hw (Nat.le_of_ble_eq_true rfl) (Nat.le_of_ble_eq_true rfl) dX4_init_25
set_option maxHeartbeats 4000000 in
set_option maxRecDepth 100000 in
theorem k_X5_init (l : Launch) (D : va_G) (o : Nat → Nat) (cI cZ : ClassId) (q : Nat) (sz : Nat) : mg_CE l yX5_init wsX5_init ({ frames := 1, cells := 0, slots := 0, locals := 20 } : Room) D [(cI, .int), (cZ, .boolean)] o [(q, .inr (5, [.int 0, .int 0, .int 0, .int 0, .int 0]))] sz [.ref q] (fun γ => [(q, .inr (5, [.int 0, .int 0, .int 0, .int 0, .int 0]))]) 0 0 := by
  unfold mg_CE
  refine Met.ofW (cc := cX5_init) (maxL := 1) (ret := none) (by decide) rfl ?_
  intro p e s m args below meth c s₁ B hml hv
  obtain ⟨rfl, hsz, hP, hK, hD0, hO⟩ := hv
  have hx := B.exec
  have hb := B.bytes
  have hr := B.returns
  have hts := atoms_spec (ws := wsX5_init) B.pre
  have hown : s.vm.findClass RX5 = some m.cls := findClass_of_methodNamed B.named
  have hlocks := B.notSynchronized
  have hin : meth.name = "<init>" := (name_of_methodNamed B.named B.method).1
  subst hsz
  have hD := hD0.self (sz := s.heap.size)
  generalize hAe : va_A [(q, .inr (5, [.int 0, .int 0, .int 0, .int 0, .int 0]))] s.heap.size = A at hD hO ⊢
  have hA : ∀ q : Nat, s.heap.size ≤ q → A q := fun q h => by rw [← hAe]; exact Or.inr h
  have hw : mg_Wo D A s.heap s.heap [] [(q, .inr (5, [.int 0, .int 0, .int 0, .int 0, .int 0]))] := ⟨hP, hD, va_S.rf⟩
  have G9 : CallFix p m c cX5_init 1 s ([.ref q] : List Value).toArray wsX5_init RX5 := ⟨hx, hb, hml, hown, hts⟩
  clear hP hD hD0 hAe
  have w0_ := hts (.methodLink RX5 1 objectInit) (by decide +kernel)
  have w1_ := hts (.instanceMethod objectInit) (by decide +kernel)
  have w2_ := hts (.code objectInit ⟨#[0xb1]⟩ 1 none) (by decide +kernel)
  have hl := lv_entry ([.ref q]) (n := 1) (Nat.le_of_ble_eq_true rfl)
  rw [lg_entry_eq]
  generalize (lg_sl ([.ref q]) ++ List.replicate (1 - (lg_sl ([.ref q])).length) Slot.unset).toArray = ls at hl ⊢
  have hl : lv_has ls 1 [(0, .ref q)] := hl
  refine lv_aload_n hx hb dX5_init_0 rfl (lv_at hl 0 rfl) ?_
  refine W.objInit hx hb hown w0_ w1_ w2_ rfl (by rw [hml]; exact hl.1) rfl dX5_init_1 (Nat.le_of_ble_eq_true rfl) (Nat.le_of_ble_eq_true rfl) ?_
  refine W.eq (g2 := F0 m 4 ls []) rfl ?_
  exact mg_eE (w1 := (fun γ => [(q, .inr (5, [.int 0, .int 0, .int 0, .int 0, .int 0]))])) (fun k => [].getD k 0) hx hb hr hlocks hw (Nat.le_of_ble_eq_true rfl) (Nat.le_of_ble_eq_true rfl) dX5_init_4
set_option maxHeartbeats 4000000 in
set_option maxRecDepth 100000 in
theorem k_X1_init (l : Launch) (D : va_G) (o : Nat → Nat) (cI cZ : ClassId) (q : Nat) (sz : Nat) : mg_CE l yX1_init wsX1_init ({ frames := 1, cells := 8, slots := 560, locals := 20 } : Room) D [(cI, .int), (cZ, .boolean)] o [(q, .inr (1, [.null, .null, .null, .null, .null, .null, .null, .null, .int 0]))] sz [.ref q] (fun γ => [(q, .inr (1, [.ref (γ 0), .ref (γ 1), .ref (γ 2), .ref (γ 3), .ref (γ 4), .ref (γ 5), .ref (γ 6), .ref (γ 7), .int 0])), (γ 0, .inl (cI, 70, .inl (mg_g0 1))), (γ 1, .inl (cI, 70, .inl (mg_g0 2))), (γ 2, .inl (cI, 70, .inl (mg_g0 3))), (γ 3, .inl (cI, 70, .inl (mg_g0 4))), (γ 4, .inl (cI, 70, .inl (mg_g0 5))), (γ 5, .inl (cI, 70, .inl (mg_g0 6))), (γ 6, .inl (cI, 70, .inl (mg_g0 7))), (γ 7, .inl (cI, 70, .inl (mg_g0 8)))]) 8 560 := by
  unfold mg_CE
  refine Met.ofW (cc := cX1_init) (maxL := 2) (ret := none) (by decide) rfl ?_
  intro p e s m args below meth c s₁ B hml hv
  obtain ⟨rfl, hsz, hP, hK, hD0, hO⟩ := hv
  have hx := B.exec
  have hb := B.bytes
  have hr := B.returns
  have hts := atoms_spec (ws := wsX1_init) B.pre
  have hown : s.vm.findClass RX1 = some m.cls := findClass_of_methodNamed B.named
  have hlocks := B.notSynchronized
  have hin : meth.name = "<init>" := (name_of_methodNamed B.named B.method).1
  subst hsz
  have hD := hD0.self (sz := s.heap.size)
  generalize hAe : va_A [(q, .inr (1, [.null, .null, .null, .null, .null, .null, .null, .null, .int 0]))] s.heap.size = A at hD hO ⊢
  have hA : ∀ q : Nat, s.heap.size ≤ q → A q := fun q h => by rw [← hAe]; exact Or.inr h
  have hw : mg_Wo D A s.heap s.heap [] [(q, .inr (1, [.null, .null, .null, .null, .null, .null, .null, .null, .int 0]))] := ⟨hP, hD, va_S.rf⟩
  have G9 : CallFix p m c cX1_init 2 s ([.ref q] : List Value).toArray wsX1_init RX1 := ⟨hx, hb, hml, hown, hts⟩
  clear hP hD hD0 hAe
  have w0_ := hts (.methodLink RX1 3 objectInit) (by decide +kernel)
  have w1_ := hts (.instanceMethod objectInit) (by decide +kernel)
  have w2_ := hts (.code objectInit ⟨#[0xb1]⟩ 1 none) (by decide +kernel)
  have w3_ := hts (.arrayClass .int) (by decide +kernel)
  have w4_ := hts (.fieldLink RX1 11 "MoonGate$Garden" "kinds" "[I") (by decide +kernel)
  have iX1_ : ∀ w ∈ wsX10, w ∈ wsX1_init := (fun _ h => List.mem_cons_of_mem _ (List.mem_append_right _ h))
  have w6_ := hts (.fieldLink RX1 15 "MoonGate$Garden" "shapes" "[I") (by decide +kernel)
  have w7_ := hts (.fieldLink RX1 18 "MoonGate$Garden" "sizes" "[I") (by decide +kernel)
  have w8_ := hts (.fieldLink RX1 21 "MoonGate$Garden" "carps" "[I") (by decide +kernel)
  have w9_ := hts (.fieldLink RX1 24 "MoonGate$Garden" "pondOf" "[I") (by decide +kernel)
  have w10_ := hts (.fieldLink RX1 27 "MoonGate$Garden" "pondCells" "[I") (by decide +kernel)
  have w11_ := hts (.fieldLink RX1 30 "MoonGate$Garden" "pondCarps" "[I") (by decide +kernel)
  have w12_ := hts (.fieldLink RX1 33 "MoonGate$Garden" "reached" "[I") (by decide +kernel)
  have w13_ := hts (.fieldLink RX1 36 "MoonGate$Garden" "ponds" "I") (by decide +kernel)
  have hl := lv_entry ([.ref q]) (n := 2) (Nat.le_of_ble_eq_true rfl)
  rw [lg_entry_eq]
  generalize (lg_sl ([.ref q]) ++ List.replicate (2 - (lg_sl ([.ref q])).length) Slot.unset).toArray = ls at hl ⊢
  have hl : lv_has ls 2 [(0, .ref q)] := hl
  refine lv_aload_n hx hb dX1_init_0 rfl (lv_at hl 0 rfl) ?_
  refine W.objInit hx hb hown w0_ w1_ w2_ rfl (by rw [hml]; exact hl.1) rfl dX1_init_1 (Nat.le_of_ble_eq_true rfl) (Nat.le_of_ble_eq_true rfl) ?_
  refine W.eq (g2 := F0 m 4 ls []) rfl ?_
  refine lv_aload_n hx hb dX1_init_4 rfl (lv_at hl 0 rfl) ?_
  refine lv_bipush (v := 70) hx hb dX1_init_5 (by decide) ?_
  refine mg_newa (n := 70) (N := 70) hx hb w3_ hK hw hA 0 rfl (by decide) rfl (by decide) (Nat.le_of_ble_eq_true rfl) (Nat.le_of_ble_eq_true rfl) dX1_init_7 (fun q1 H hw => ?_)
  have hw : mg_Wo D A s.heap H [] [(q, .inr (1, [.null, .null, .null, .null, .null, .null, .null, .null, .int 0])), (q1, .inl (cI, 70, .inl (fun _ => 0)))] := hw
  refine va_putF (D := D) (ci := 1) (v := .ref q1) (ty := .array .int) (C := RX1) (T := TX1) (N := 9) hx hb hts iX1_ tyX1 tyX1_ok nmX1 hown hK hw.1 hw.2.1 hw.2.2 0 rfl rfl 0 (by decide) w4_ (fun _ h9 => h9) rfl hin rfl (by decide +kernel) rfl rfl (Nat.le_of_ble_eq_true rfl) dX1_init_9 (fun H locs hP hD hS => ?_)
  have hw : mg_Wo D A s.heap H locs [(q, .inr (1, [.ref q1, .null, .null, .null, .null, .null, .null, .null, .int 0])), (q1, .inl (cI, 70, .inl (fun _ => 0)))] := ⟨hP, hD, hS⟩
  refine lv_aload_n hx hb dX1_init_12 rfl (lv_at hl 0 rfl) ?_
  refine lv_bipush (v := 70) hx hb dX1_init_13 (by decide) ?_
  refine mg_newa (n := 70) (N := 70) hx hb w3_ hK hw hA 0 rfl (by decide) rfl (by decide) (Nat.le_of_ble_eq_true rfl) (Nat.le_of_ble_eq_true rfl) dX1_init_15 (fun q2 H hw => ?_)
  have hw : mg_Wo D A s.heap H locs [(q, .inr (1, [.ref q1, .null, .null, .null, .null, .null, .null, .null, .int 0])), (q1, .inl (cI, 70, .inl (fun _ => 0))), (q2, .inl (cI, 70, .inl (fun _ => 0)))] := hw
  refine va_putF (D := D) (ci := 1) (v := .ref q2) (ty := .array .int) (C := RX1) (T := TX1) (N := 9) hx hb hts iX1_ tyX1 tyX1_ok nmX1 hown hK hw.1 hw.2.1 hw.2.2 0 rfl rfl 1 (by decide) w6_ (fun _ h9 => h9) rfl hin rfl (by decide +kernel) rfl rfl (Nat.le_of_ble_eq_true rfl) dX1_init_17 (fun H locs hP hD hS => ?_)
  have hw : mg_Wo D A s.heap H locs [(q, .inr (1, [.ref q1, .ref q2, .null, .null, .null, .null, .null, .null, .int 0])), (q1, .inl (cI, 70, .inl (fun _ => 0))), (q2, .inl (cI, 70, .inl (fun _ => 0)))] := ⟨hP, hD, hS⟩
  refine lv_aload_n hx hb dX1_init_20 rfl (lv_at hl 0 rfl) ?_
  refine lv_bipush (v := 70) hx hb dX1_init_21 (by decide) ?_
  refine mg_newa (n := 70) (N := 70) hx hb w3_ hK hw hA 0 rfl (by decide) rfl (by decide) (Nat.le_of_ble_eq_true rfl) (Nat.le_of_ble_eq_true rfl) dX1_init_23 (fun q3 H hw => ?_)
  have hw : mg_Wo D A s.heap H locs [(q, .inr (1, [.ref q1, .ref q2, .null, .null, .null, .null, .null, .null, .int 0])), (q1, .inl (cI, 70, .inl (fun _ => 0))), (q2, .inl (cI, 70, .inl (fun _ => 0))), (q3, .inl (cI, 70, .inl (fun _ => 0)))] := hw
  refine va_putF (D := D) (ci := 1) (v := .ref q3) (ty := .array .int) (C := RX1) (T := TX1) (N := 9) hx hb hts iX1_ tyX1 tyX1_ok nmX1 hown hK hw.1 hw.2.1 hw.2.2 0 rfl rfl 2 (by decide) w7_ (fun _ h9 => h9) rfl hin rfl (by decide +kernel) rfl rfl (Nat.le_of_ble_eq_true rfl) dX1_init_25 (fun H locs hP hD hS => ?_)
  have hw : mg_Wo D A s.heap H locs [(q, .inr (1, [.ref q1, .ref q2, .ref q3, .null, .null, .null, .null, .null, .int 0])), (q1, .inl (cI, 70, .inl (fun _ => 0))), (q2, .inl (cI, 70, .inl (fun _ => 0))), (q3, .inl (cI, 70, .inl (fun _ => 0)))] := ⟨hP, hD, hS⟩
  refine lv_aload_n hx hb dX1_init_28 rfl (lv_at hl 0 rfl) ?_
  refine lv_bipush (v := 70) hx hb dX1_init_29 (by decide) ?_
  refine mg_newa (n := 70) (N := 70) hx hb w3_ hK hw hA 0 rfl (by decide) rfl (by decide) (Nat.le_of_ble_eq_true rfl) (Nat.le_of_ble_eq_true rfl) dX1_init_31 (fun q4 H hw => ?_)
  have hw : mg_Wo D A s.heap H locs [(q, .inr (1, [.ref q1, .ref q2, .ref q3, .null, .null, .null, .null, .null, .int 0])), (q1, .inl (cI, 70, .inl (fun _ => 0))), (q2, .inl (cI, 70, .inl (fun _ => 0))), (q3, .inl (cI, 70, .inl (fun _ => 0))), (q4, .inl (cI, 70, .inl (fun _ => 0)))] := hw
  refine va_putF (D := D) (ci := 1) (v := .ref q4) (ty := .array .int) (C := RX1) (T := TX1) (N := 9) hx hb hts iX1_ tyX1 tyX1_ok nmX1 hown hK hw.1 hw.2.1 hw.2.2 0 rfl rfl 3 (by decide) w8_ (fun _ h9 => h9) rfl hin rfl (by decide +kernel) rfl rfl (Nat.le_of_ble_eq_true rfl) dX1_init_33 (fun H locs hP hD hS => ?_)
  have hw : mg_Wo D A s.heap H locs [(q, .inr (1, [.ref q1, .ref q2, .ref q3, .ref q4, .null, .null, .null, .null, .int 0])), (q1, .inl (cI, 70, .inl (fun _ => 0))), (q2, .inl (cI, 70, .inl (fun _ => 0))), (q3, .inl (cI, 70, .inl (fun _ => 0))), (q4, .inl (cI, 70, .inl (fun _ => 0)))] := ⟨hP, hD, hS⟩
  refine lv_aload_n hx hb dX1_init_36 rfl (lv_at hl 0 rfl) ?_
  refine lv_bipush (v := 70) hx hb dX1_init_37 (by decide) ?_
  refine mg_newa (n := 70) (N := 70) hx hb w3_ hK hw hA 0 rfl (by decide) rfl (by decide) (Nat.le_of_ble_eq_true rfl) (Nat.le_of_ble_eq_true rfl) dX1_init_39 (fun q5 H hw => ?_)
  have hw : mg_Wo D A s.heap H locs [(q, .inr (1, [.ref q1, .ref q2, .ref q3, .ref q4, .null, .null, .null, .null, .int 0])), (q1, .inl (cI, 70, .inl (fun _ => 0))), (q2, .inl (cI, 70, .inl (fun _ => 0))), (q3, .inl (cI, 70, .inl (fun _ => 0))), (q4, .inl (cI, 70, .inl (fun _ => 0))), (q5, .inl (cI, 70, .inl (fun _ => 0)))] := hw
  refine va_putF (D := D) (ci := 1) (v := .ref q5) (ty := .array .int) (C := RX1) (T := TX1) (N := 9) hx hb hts iX1_ tyX1 tyX1_ok nmX1 hown hK hw.1 hw.2.1 hw.2.2 0 rfl rfl 4 (by decide) w9_ (fun _ h9 => h9) rfl hin rfl (by decide +kernel) rfl rfl (Nat.le_of_ble_eq_true rfl) dX1_init_41 (fun H locs hP hD hS => ?_)
  have hw : mg_Wo D A s.heap H locs [(q, .inr (1, [.ref q1, .ref q2, .ref q3, .ref q4, .ref q5, .null, .null, .null, .int 0])), (q1, .inl (cI, 70, .inl (fun _ => 0))), (q2, .inl (cI, 70, .inl (fun _ => 0))), (q3, .inl (cI, 70, .inl (fun _ => 0))), (q4, .inl (cI, 70, .inl (fun _ => 0))), (q5, .inl (cI, 70, .inl (fun _ => 0)))] := ⟨hP, hD, hS⟩
  refine lv_aload_n hx hb dX1_init_44 rfl (lv_at hl 0 rfl) ?_
  refine lv_bipush (v := 70) hx hb dX1_init_45 (by decide) ?_
  refine mg_newa (n := 70) (N := 70) hx hb w3_ hK hw hA 0 rfl (by decide) rfl (by decide) (Nat.le_of_ble_eq_true rfl) (Nat.le_of_ble_eq_true rfl) dX1_init_47 (fun q6 H hw => ?_)
  have hw : mg_Wo D A s.heap H locs [(q, .inr (1, [.ref q1, .ref q2, .ref q3, .ref q4, .ref q5, .null, .null, .null, .int 0])), (q1, .inl (cI, 70, .inl (fun _ => 0))), (q2, .inl (cI, 70, .inl (fun _ => 0))), (q3, .inl (cI, 70, .inl (fun _ => 0))), (q4, .inl (cI, 70, .inl (fun _ => 0))), (q5, .inl (cI, 70, .inl (fun _ => 0))), (q6, .inl (cI, 70, .inl (fun _ => 0)))] := hw
  refine va_putF (D := D) (ci := 1) (v := .ref q6) (ty := .array .int) (C := RX1) (T := TX1) (N := 9) hx hb hts iX1_ tyX1 tyX1_ok nmX1 hown hK hw.1 hw.2.1 hw.2.2 0 rfl rfl 5 (by decide) w10_ (fun _ h9 => h9) rfl hin rfl (by decide +kernel) rfl rfl (Nat.le_of_ble_eq_true rfl) dX1_init_49 (fun H locs hP hD hS => ?_)
  have hw : mg_Wo D A s.heap H locs [(q, .inr (1, [.ref q1, .ref q2, .ref q3, .ref q4, .ref q5, .ref q6, .null, .null, .int 0])), (q1, .inl (cI, 70, .inl (fun _ => 0))), (q2, .inl (cI, 70, .inl (fun _ => 0))), (q3, .inl (cI, 70, .inl (fun _ => 0))), (q4, .inl (cI, 70, .inl (fun _ => 0))), (q5, .inl (cI, 70, .inl (fun _ => 0))), (q6, .inl (cI, 70, .inl (fun _ => 0)))] := ⟨hP, hD, hS⟩
  refine lv_aload_n hx hb dX1_init_52 rfl (lv_at hl 0 rfl) ?_
  refine lv_bipush (v := 70) hx hb dX1_init_53 (by decide) ?_
  refine mg_newa (n := 70) (N := 70) hx hb w3_ hK hw hA 0 rfl (by decide) rfl (by decide) (Nat.le_of_ble_eq_true rfl) (Nat.le_of_ble_eq_true rfl) dX1_init_55 (fun q7 H hw => ?_)
  have hw : mg_Wo D A s.heap H locs [(q, .inr (1, [.ref q1, .ref q2, .ref q3, .ref q4, .ref q5, .ref q6, .null, .null, .int 0])), (q1, .inl (cI, 70, .inl (fun _ => 0))), (q2, .inl (cI, 70, .inl (fun _ => 0))), (q3, .inl (cI, 70, .inl (fun _ => 0))), (q4, .inl (cI, 70, .inl (fun _ => 0))), (q5, .inl (cI, 70, .inl (fun _ => 0))), (q6, .inl (cI, 70, .inl (fun _ => 0))), (q7, .inl (cI, 70, .inl (fun _ => 0)))] := hw
  refine va_putF (D := D) (ci := 1) (v := .ref q7) (ty := .array .int) (C := RX1) (T := TX1) (N := 9) hx hb hts iX1_ tyX1 tyX1_ok nmX1 hown hK hw.1 hw.2.1 hw.2.2 0 rfl rfl 6 (by decide) w11_ (fun _ h9 => h9) rfl hin rfl (by decide +kernel) rfl rfl (Nat.le_of_ble_eq_true rfl) dX1_init_57 (fun H locs hP hD hS => ?_)
  have hw : mg_Wo D A s.heap H locs [(q, .inr (1, [.ref q1, .ref q2, .ref q3, .ref q4, .ref q5, .ref q6, .ref q7, .null, .int 0])), (q1, .inl (cI, 70, .inl (fun _ => 0))), (q2, .inl (cI, 70, .inl (fun _ => 0))), (q3, .inl (cI, 70, .inl (fun _ => 0))), (q4, .inl (cI, 70, .inl (fun _ => 0))), (q5, .inl (cI, 70, .inl (fun _ => 0))), (q6, .inl (cI, 70, .inl (fun _ => 0))), (q7, .inl (cI, 70, .inl (fun _ => 0)))] := ⟨hP, hD, hS⟩
  refine lv_aload_n hx hb dX1_init_60 rfl (lv_at hl 0 rfl) ?_
  refine lv_bipush (v := 70) hx hb dX1_init_61 (by decide) ?_
  refine mg_newa (n := 70) (N := 70) hx hb w3_ hK hw hA 0 rfl (by decide) rfl (by decide) (Nat.le_of_ble_eq_true rfl) (Nat.le_of_ble_eq_true rfl) dX1_init_63 (fun q8 H hw => ?_)
  have hw : mg_Wo D A s.heap H locs [(q, .inr (1, [.ref q1, .ref q2, .ref q3, .ref q4, .ref q5, .ref q6, .ref q7, .null, .int 0])), (q1, .inl (cI, 70, .inl (fun _ => 0))), (q2, .inl (cI, 70, .inl (fun _ => 0))), (q3, .inl (cI, 70, .inl (fun _ => 0))), (q4, .inl (cI, 70, .inl (fun _ => 0))), (q5, .inl (cI, 70, .inl (fun _ => 0))), (q6, .inl (cI, 70, .inl (fun _ => 0))), (q7, .inl (cI, 70, .inl (fun _ => 0))), (q8, .inl (cI, 70, .inl (fun _ => 0)))] := hw
  refine va_putF (D := D) (ci := 1) (v := .ref q8) (ty := .array .int) (C := RX1) (T := TX1) (N := 9) hx hb hts iX1_ tyX1 tyX1_ok nmX1 hown hK hw.1 hw.2.1 hw.2.2 0 rfl rfl 7 (by decide) w12_ (fun _ h9 => h9) rfl hin rfl (by decide +kernel) rfl rfl (Nat.le_of_ble_eq_true rfl) dX1_init_65 (fun H locs hP hD hS => ?_)
  have hw : mg_Wo D A s.heap H locs [(q, .inr (1, [.ref q1, .ref q2, .ref q3, .ref q4, .ref q5, .ref q6, .ref q7, .ref q8, .int 0])), (q1, .inl (cI, 70, .inl (fun _ => 0))), (q2, .inl (cI, 70, .inl (fun _ => 0))), (q3, .inl (cI, 70, .inl (fun _ => 0))), (q4, .inl (cI, 70, .inl (fun _ => 0))), (q5, .inl (cI, 70, .inl (fun _ => 0))), (q6, .inl (cI, 70, .inl (fun _ => 0))), (q7, .inl (cI, 70, .inl (fun _ => 0))), (q8, .inl (cI, 70, .inl (fun _ => 0)))] := ⟨hP, hD, hS⟩
  refine lv_aload_n hx hb dX1_init_68 rfl (lv_at hl 0 rfl) ?_
  refine lv_iconst (v := 0) hx hb dX1_init_69 (by decide) ?_
  refine va_put (D := D) (ci := 1) (v := .int 0) (ty := .int) (C := RX1) (T := TX1) (N := 9) hx hb hts iX1_ tyX1 tyX1_ok nmX1 hown hK hw.1 hw.2.1 hw.2.2 0 rfl rfl 8 (by decide) w13_ (fun _ h9 => h9) rfl (by decide +kernel) rfl rfl (Nat.le_of_ble_eq_true rfl) dX1_init_70 (fun H locs hP hD hS => ?_)
  have hw : mg_Wo D A s.heap H locs [(q, .inr (1, [.ref q1, .ref q2, .ref q3, .ref q4, .ref q5, .ref q6, .ref q7, .ref q8, .int 0])), (q1, .inl (cI, 70, .inl (fun _ => 0))), (q2, .inl (cI, 70, .inl (fun _ => 0))), (q3, .inl (cI, 70, .inl (fun _ => 0))), (q4, .inl (cI, 70, .inl (fun _ => 0))), (q5, .inl (cI, 70, .inl (fun _ => 0))), (q6, .inl (cI, 70, .inl (fun _ => 0))), (q7, .inl (cI, 70, .inl (fun _ => 0))), (q8, .inl (cI, 70, .inl (fun _ => 0)))] := ⟨hP, hD, hS⟩
  refine lv_iconst (v := 0) hx hb dX1_init_73 (by decide) ?_
  have hw : mg_Wo D A s.heap H locs (mg_gW (fun k => if k = 0 then q else [q, q1, q2, q3, q4, q5, q6, q7, q8].getD k 0) cI (fun _ _ => 0)) := hw
  refine lv_istore_n (lv' := [(1, .int 0), (0, .ref q)]) hx hb dX1_init_74 rfl hl (by decide) rfl (fun ls hl => ?_)
  refine W.cs (cells' := 8) (slots' := 560) rfl rfl ?_
  refine W.eq (g2 := F0 m 75 ls []) rfl ?_
  have h : Option.bind (f_X1_init_75 5000 0 (fun _ _ => 0)) (fun y => some y) = some ((70 : Int32), mg_g0) := by rw [mg_g0_val]; rfl
  have L75_ : ∀ (n : Nat) (x1_75 : Int32) (s75_ : mg_St) (y75_ : Int32 × mg_St), f_X1_init_75  n x1_75 s75_ = some y75_ → (∀ (H : Heap) (locs : List Loc) (ls : Array Slot), mg_Wo D A s.heap H locs (mg_gW (fun k => if k = 0 then q else [q, q1, q2, q3, q4, q5, q6, q7, q8].getD k 0) cI y75_.2) → lv_has ls 2 [(0, .ref q), (1, .int y75_.1)] → W p l e (headSpec wsX1_init ({ frames := 1, cells := 8, slots := 560, locals := 20 } : Room)).room s m ([.ref q] : List Value).toArray below meth c H locs 8 560 (MQ below (mg_QE D (fun γ => [(q, .inr (1, [.ref (γ 0), .ref (γ 1), .ref (γ 2), .ref (γ 3), .ref (γ 4), .ref (γ 5), .ref (γ 6), .ref (γ 7), .int 0])), (γ 0, .inl (cI, 70, .inl (mg_g0 1))), (γ 1, .inl (cI, 70, .inl (mg_g0 2))), (γ 2, .inl (cI, 70, .inl (mg_g0 3))), (γ 3, .inl (cI, 70, .inl (mg_g0 4))), (γ 4, .inl (cI, 70, .inl (mg_g0 5))), (γ 5, .inl (cI, 70, .inl (mg_g0 6))), (γ 6, .inl (cI, 70, .inl (mg_g0 7))), (γ 7, .inl (cI, 70, .inl (mg_g0 8)))]) A) ([.ref q] : List Value).toArray s 8 560 A) (F0 m 101 ls [])) → ∀ (H : Heap) (locs : List Loc) (ls : Array Slot), mg_Wo D A s.heap H locs (mg_gW (fun k => if k = 0 then q else [q, q1, q2, q3, q4, q5, q6, q7, q8].getD k 0) cI s75_) → lv_has ls 2 [(0, .ref q), (1, .int x1_75)] → W p l e (headSpec wsX1_init ({ frames := 1, cells := 8, slots := 560, locals := 20 } : Room)).room s m ([.ref q] : List Value).toArray below meth c H locs 8 560 (MQ below (mg_QE D (fun γ => [(q, .inr (1, [.ref (γ 0), .ref (γ 1), .ref (γ 2), .ref (γ 3), .ref (γ 4), .ref (γ 5), .ref (γ 6), .ref (γ 7), .int 0])), (γ 0, .inl (cI, 70, .inl (mg_g0 1))), (γ 1, .inl (cI, 70, .inl (mg_g0 2))), (γ 2, .inl (cI, 70, .inl (mg_g0 3))), (γ 3, .inl (cI, 70, .inl (mg_g0 4))), (γ 4, .inl (cI, 70, .inl (mg_g0 5))), (γ 5, .inl (cI, 70, .inl (mg_g0 6))), (γ 6, .inl (cI, 70, .inl (mg_g0 7))), (γ 7, .inl (cI, 70, .inl (mg_g0 8)))]) A) ([.ref q] : List Value).toArray s 8 560 A) (F0 m 75 ls []) := by
    intro n
    induction n with
    | zero => intro x1_75 s75_ y75_ h; rw [f_X1_init_75] at h; cases h
    | succ n ih =>
      intro x1_75 s75_ y75_ h kc H locs ls hw hl
      rw [f_X1_init_75] at h
      refine lv_iload_n hx hb dX1_init_75 rfl (lv_at hl 1 rfl) ?_
      refine lv_bipush (v := 70) hx hb dX1_init_76 (by decide) ?_
      refine mg_icmp_ge (tgt := 101) hx hb h dX1_init_78 (by decide) (fun h => ?_) (fun h => ?_)
      · cases h
        exact kc H locs ls hw (lv_sub hl [0, 1] rfl)
      · refine lv_aload_n hx hb dX1_init_81 rfl (lv_at hl 0 rfl) ?_
        refine va_get (D := D) (ci := 1) (v := .ref q2) (C := RX1) (T := TX1) (N := 9) hx hb hts iX1_ hown hK hw.1 0 rfl rfl 1 (by decide) w6_ (fun _ h9 => h9) rfl dX1_init_82 ?_
        refine lv_iload_n hx hb dX1_init_85 rfl (lv_at hl 1 rfl) ?_
        refine lv_iconst (v := (-1)) hx hb dX1_init_86 (by decide) ?_
        refine mg_ast (wd := mg_gW (fun k => if k = 0 then q else [q, q1, q2, q3, q4, q5, q6, q7, q8].getD k 0) cI) (σ := s75_) (k := 2) (n := 70) hx hb hK hw 2 0 rfl (mg_gS_2 (fun k => if k = 0 then q else [q, q1, q2, q3, q4, q5, q6, q7, q8].getD k 0) cI cZ s75_) rfl h dX1_init_87 (fun s2 h H locs hw => ?_)
        refine lv_aload_n hx hb dX1_init_88 rfl (lv_at hl 0 rfl) ?_
        refine va_get (D := D) (ci := 1) (v := .ref q5) (C := RX1) (T := TX1) (N := 9) hx hb hts iX1_ hown hK hw.1 0 rfl rfl 4 (by decide) w9_ (fun _ h9 => h9) rfl dX1_init_89 ?_
        refine lv_iload_n hx hb dX1_init_92 rfl (lv_at hl 1 rfl) ?_
        refine lv_iconst (v := (-1)) hx hb dX1_init_93 (by decide) ?_
        refine mg_ast (wd := mg_gW (fun k => if k = 0 then q else [q, q1, q2, q3, q4, q5, q6, q7, q8].getD k 0) cI) (σ := s2) (k := 5) (n := 70) hx hb hK hw 5 0 rfl (mg_gS_5 (fun k => if k = 0 then q else [q, q1, q2, q3, q4, q5, q6, q7, q8].getD k 0) cI cZ s2) rfl h dX1_init_94 (fun s3 h H locs hw => ?_)
        refine lv_iinc (v := (x1_75 + 1)) (lv' := [(1, .int (x1_75 + 1)), (0, .ref q)]) hx hb dX1_init_95 hl (k := 1) rfl rfl (by decide) rfl (fun ls hl => ?_)
        refine lv_goto (tgt := 75) hx hb dX1_init_98 (by decide) ?_
        exact ih _ _ _ h kc H locs ls hw (lv_sub hl [1, 0] rfl)
  obtain ⟨y1, h9_, h⟩ := mg_bind h
  refine L75_ _ _ _ _ h9_ (fun H locs ls hw hl => ?_) H locs ls hw (lv_sub hl [1, 0] rfl)
  clear L75_ h9_
  cases h
  exact mg_eE (w1 := (fun γ => [(q, .inr (1, [.ref (γ 0), .ref (γ 1), .ref (γ 2), .ref (γ 3), .ref (γ 4), .ref (γ 5), .ref (γ 6), .ref (γ 7), .int 0])), (γ 0, .inl (cI, 70, .inl (mg_g0 1))), (γ 1, .inl (cI, 70, .inl (mg_g0 2))), (γ 2, .inl (cI, 70, .inl (mg_g0 3))), (γ 3, .inl (cI, 70, .inl (mg_g0 4))), (γ 4, .inl (cI, 70, .inl (mg_g0 5))), (γ 5, .inl (cI, 70, .inl (mg_g0 6))), (γ 6, .inl (cI, 70, .inl (mg_g0 7))), (γ 7, .inl (cI, 70, .inl (mg_g0 8)))])) (fun k => [q1, q2, q3, q4, q5, q6, q7, q8].getD k 0) hx hb hr hlocks hw (Nat.le_of_ble_eq_true rfl) (Nat.le_of_ble_eq_true rfl) dX1_init_101
set_option maxHeartbeats 4000000 in
set_option maxRecDepth 100000 in
theorem k_X6_init (l : Launch) (D : va_G) (o : Nat → Nat) (cI cZ : ClassId) (q : Nat) (sz : Nat) : mg_CE l yX6_init wsX6_init ({ frames := 2, cells := 24, slots := 737, locals := 60 } : Room) D [(cI, .int), (cZ, .boolean)] o [(q, .inr (6, [.null, .null, .null, .null, .null, .null, .null]))] sz [.ref q] (fun g => mg_cW (fun k => if k = 0 then q else g k) cI cZ mg_c0) 24 737 := by
  unfold mg_CE
  refine Met.ofW (cc := cX6_init) (maxL := 1) (ret := none) (by decide) rfl ?_
  intro p e s m args below meth c s₁ B hml hv
  obtain ⟨rfl, hsz, hP, hK, hD0, hO⟩ := hv
  have hx := B.exec
  have hb := B.bytes
  have hr := B.returns
  have hts := atoms_spec (ws := wsX6_init) B.pre
  have hown : s.vm.findClass RX6 = some m.cls := findClass_of_methodNamed B.named
  have hlocks := B.notSynchronized
  have hin : meth.name = "<init>" := (name_of_methodNamed B.named B.method).1
  subst hsz
  have hD := hD0.self (sz := s.heap.size)
  generalize hAe : va_A [(q, .inr (6, [.null, .null, .null, .null, .null, .null, .null]))] s.heap.size = A at hD hO ⊢
  have hA : ∀ q : Nat, s.heap.size ≤ q → A q := fun q h => by rw [← hAe]; exact Or.inr h
  have hw : mg_Wo D A s.heap s.heap [] [(q, .inr (6, [.null, .null, .null, .null, .null, .null, .null]))] := ⟨hP, hD, va_S.rf⟩
  have G9 : CallFix p m c cX6_init 1 s ([.ref q] : List Value).toArray wsX6_init RX6 := ⟨hx, hb, hml, hown, hts⟩
  clear hP hD hD0 hAe
  have w0_ := hts (.methodLink RX6 1 objectInit) (by decide +kernel)
  have w1_ := hts (.instanceMethod objectInit) (by decide +kernel)
  have w2_ := hts (.code objectInit ⟨#[0xb1]⟩ 1 none) (by decide +kernel)
  have iX1_ : ∀ w ∈ wsX10, w ∈ wsX6_init := (fun _ h => List.mem_cons_of_mem _ (List.mem_append_left _ (List.mem_append_left _ (List.mem_append_left _ (List.mem_append_left _ (List.mem_append_left _ (List.mem_append_left _ (List.mem_append_right _ h))))))))
  have w4_ := hts (.classLink RX6 7 RX1) (by decide +kernel)
  have w5_ := hts (.instantiable RX1 9) (by decide +kernel)
  have w6_ := hts (.initialized RX1) (by decide +kernel)
  have w7_ := hts (.instanceMethod yX1_init) (by decide +kernel)
  have w8_ := hts (.methodLink RX6 9 yX1_init) (by decide +kernel)
  have w9_ := hts (.fieldLink RX6 10 "MoonGate" "garden" "LMoonGate$Garden;") (by decide +kernel)
  have iX6_ : ∀ w ∈ wsX60, w ∈ wsX6_init := (fun _ h => List.mem_cons_of_mem _ (List.mem_append_left _ (List.mem_append_left _ (List.mem_append_left _ (List.mem_append_left _ (List.mem_append_left _ (List.mem_append_right _ h)))))))
  have iX4_ : ∀ w ∈ wsX40, w ∈ wsX6_init := (fun _ h => List.mem_cons_of_mem _ (List.mem_append_left _ (List.mem_append_left _ (List.mem_append_left _ (List.mem_append_left _ (List.mem_append_right _ h))))))
  have w12_ := hts (.classLink RX6 16 RX4) (by decide +kernel)
  have w13_ := hts (.instantiable RX4 3) (by decide +kernel)
  have w14_ := hts (.initialized RX4) (by decide +kernel)
  have w15_ := hts (.instanceMethod yX4_init) (by decide +kernel)
  have w16_ := hts (.methodLink RX6 18 yX4_init) (by decide +kernel)
  have w17_ := hts (.fieldLink RX6 19 "MoonGate" "shoal" "LMoonGate$Shoal;") (by decide +kernel)
  have iX2_ : ∀ w ∈ wsX20, w ∈ wsX6_init := (fun _ h => List.mem_cons_of_mem _ (List.mem_append_left _ (List.mem_append_left _ (List.mem_append_left _ (List.mem_append_right _ h)))))
  have w19_ := hts (.classLink RX6 23 RX2) (by decide +kernel)
  have w20_ := hts (.instantiable RX2 3) (by decide +kernel)
  have w21_ := hts (.initialized RX2) (by decide +kernel)
  have w22_ := hts (.instanceMethod yX2_init) (by decide +kernel)
  have w23_ := hts (.methodLink RX6 25 yX2_init) (by decide +kernel)
  have w24_ := hts (.fieldLink RX6 26 "MoonGate" "gates" "LMoonGate$Gates;") (by decide +kernel)
  have iX3_ : ∀ w ∈ wsX30, w ∈ wsX6_init := (fun _ h => List.mem_cons_of_mem _ (List.mem_append_left _ (List.mem_append_left _ (List.mem_append_right _ h))))
  have w26_ := hts (.classLink RX6 30 RX3) (by decide +kernel)
  have w27_ := hts (.instantiable RX3 2) (by decide +kernel)
  have w28_ := hts (.initialized RX3) (by decide +kernel)
  have w29_ := hts (.instanceMethod yX3_init) (by decide +kernel)
  have w30_ := hts (.methodLink RX6 32 yX3_init) (by decide +kernel)
  have w31_ := hts (.fieldLink RX6 33 "MoonGate" "poets" "LMoonGate$Poets;") (by decide +kernel)
  have iX0_ : ∀ w ∈ wsX00, w ∈ wsX6_init := (fun _ h => List.mem_cons_of_mem _ (List.mem_append_left _ (List.mem_append_right _ h)))
  have w33_ := hts (.classLink RX6 37 RX0) (by decide +kernel)
  have w34_ := hts (.instantiable RX0 4) (by decide +kernel)
  have w35_ := hts (.initialized RX0) (by decide +kernel)
  have w36_ := hts (.instanceMethod yX0_init) (by decide +kernel)
  have w37_ := hts (.methodLink RX6 39 yX0_init) (by decide +kernel)
  have w38_ := hts (.fieldLink RX6 40 "MoonGate" "now" "LMoonGate$Course;") (by decide +kernel)
  have w39_ := hts (.fieldLink RX6 44 "MoonGate" "ahead" "LMoonGate$Course;") (by decide +kernel)
  have iX5_ : ∀ w ∈ wsX50, w ∈ wsX6_init := (fun _ h => List.mem_cons_of_mem _ (List.mem_append_right _ h))
  have w41_ := hts (.classLink RX6 47 RX5) (by decide +kernel)
  have w42_ := hts (.instantiable RX5 5) (by decide +kernel)
  have w43_ := hts (.initialized RX5) (by decide +kernel)
  have w44_ := hts (.instanceMethod yX5_init) (by decide +kernel)
  have w45_ := hts (.fieldLink RX6 50 "MoonGate" "view" "LMoonGate$View;") (by decide +kernel)
  have hl := lv_entry ([.ref q]) (n := 1) (Nat.le_of_ble_eq_true rfl)
  rw [lg_entry_eq]
  generalize (lg_sl ([.ref q]) ++ List.replicate (1 - (lg_sl ([.ref q])).length) Slot.unset).toArray = ls at hl ⊢
  have hl : lv_has ls 1 [(0, .ref q)] := hl
  refine lv_aload_n hx hb dX6_init_0 rfl (lv_at hl 0 rfl) ?_
  refine W.objInit hx hb hown w0_ w1_ w2_ rfl (by rw [hml]; exact hl.1) rfl dX6_init_1 (Nat.le_of_ble_eq_true rfl) (Nat.le_of_ble_eq_true rfl) ?_
  refine W.eq (g2 := F0 m 4 ls []) rfl ?_
  refine lv_aload_n hx hb dX6_init_4 rfl (lv_at hl 0 rfl) ?_
  refine va_new (ci := 1) (fs := [.null, .null, .null, .null, .null, .null, .null, .null, .int 0]) (C := RX1) (T := TX1) (N := 9) hx hb hts iX1_ tyX1 tyX1_ok hown w4_ w5_ w6_ hK hw.1 hw.2.1 hw.2.2 hA rfl (fun j hj => by rcases (show j = 0 ∨ j = 1 ∨ j = 2 ∨ j = 3 ∨ j = 4 ∨ j = 5 ∨ j = 6 ∨ j = 7 ∨ j = 8 by omega) with rfl | rfl | rfl | rfl | rfl | rfl | rfl | rfl | rfl <;> rfl) (Nat.le_of_ble_eq_true rfl) (Nat.le_of_ble_eq_true rfl) dX6_init_5 (fun q1 H hP hD hS => ?_)
  have hw : mg_Wo D A s.heap H [] [(q, .inr (6, [.null, .null, .null, .null, .null, .null, .null])), (q1, .inr (1, [.null, .null, .null, .null, .null, .null, .null, .null, .int 0]))] := ⟨hP, hD, hS⟩
  refine lv_dup hx hb dX6_init_8 rfl ?_
  refine mg_kFE (wl := [(q, .inr (6, [.null, .null, .null, .null, .null, .null, .null]))]) (w0 := [(q1, .inr (1, [.null, .null, .null, .null, .null, .null, .null, .null, .int 0]))]) (va_runI (As := []) (rest := [.ref q1, .ref q]) G9 (k_X1_init l D o cI cZ q1 H.size) (cwI 0 hts gX6_init_X1_init rfl rfl rfl w6_ w8_ w7_ rfl (by decide +kernel) ⟨Nat.le_of_ble_eq_true rfl, Nat.le_of_ble_eq_true rfl⟩) (mg_pre hK hO hA (mg_sub (wl := [(q, .inr (6, [.null, .null, .null, .null, .null, .null, .null]))]) (w0 := [(q1, .inr (1, [.null, .null, .null, .null, .null, .null, .null, .null, .int 0]))]) (wr := []) hw)) rfl rfl hl.1 rfl (lv_room (Nat.le_of_ble_eq_true rfl)) dX6_init_9 ⟨Nat.le_of_ble_eq_true rfl, Nat.le_of_ble_eq_true rfl⟩) hw hA (fun g2 H locs hw => ?_)
  have hw : mg_Wo D A s.heap H locs [(q, .inr (6, [.null, .null, .null, .null, .null, .null, .null])), (q1, .inr (1, [.ref (g2 0), .ref (g2 1), .ref (g2 2), .ref (g2 3), .ref (g2 4), .ref (g2 5), .ref (g2 6), .ref (g2 7), .int 0])), (g2 0, .inl (cI, 70, .inl (mg_g0 1))), (g2 1, .inl (cI, 70, .inl (mg_g0 2))), (g2 2, .inl (cI, 70, .inl (mg_g0 3))), (g2 3, .inl (cI, 70, .inl (mg_g0 4))), (g2 4, .inl (cI, 70, .inl (mg_g0 5))), (g2 5, .inl (cI, 70, .inl (mg_g0 6))), (g2 6, .inl (cI, 70, .inl (mg_g0 7))), (g2 7, .inl (cI, 70, .inl (mg_g0 8)))] := hw
  refine va_putF (D := D) (ci := 6) (v := .ref q1) (ty := .object "MoonGate$Garden") (C := RX6) (T := TX6) (N := 7) hx hb hts iX6_ tyX6 tyX6_ok nmX6 hown hK hw.1 hw.2.1 hw.2.2 0 rfl rfl 0 (by decide) w9_ (fun _ h9 => h9) rfl hin rfl (by decide +kernel) rfl rfl (Nat.le_of_ble_eq_true rfl) dX6_init_12 (fun H locs hP hD hS => ?_)
  have hw : mg_Wo D A s.heap H locs [(q, .inr (6, [.ref q1, .null, .null, .null, .null, .null, .null])), (q1, .inr (1, [.ref (g2 0), .ref (g2 1), .ref (g2 2), .ref (g2 3), .ref (g2 4), .ref (g2 5), .ref (g2 6), .ref (g2 7), .int 0])), (g2 0, .inl (cI, 70, .inl (mg_g0 1))), (g2 1, .inl (cI, 70, .inl (mg_g0 2))), (g2 2, .inl (cI, 70, .inl (mg_g0 3))), (g2 3, .inl (cI, 70, .inl (mg_g0 4))), (g2 4, .inl (cI, 70, .inl (mg_g0 5))), (g2 5, .inl (cI, 70, .inl (mg_g0 6))), (g2 6, .inl (cI, 70, .inl (mg_g0 7))), (g2 7, .inl (cI, 70, .inl (mg_g0 8)))] := ⟨hP, hD, hS⟩
  refine lv_aload_n hx hb dX6_init_15 rfl (lv_at hl 0 rfl) ?_
  refine va_new (ci := 4) (fs := [.null, .null, .int 0]) (C := RX4) (T := TX4) (N := 3) hx hb hts iX4_ tyX4 tyX4_ok hown w12_ w13_ w14_ hK hw.1 hw.2.1 hw.2.2 hA rfl (fun j hj => by rcases (show j = 0 ∨ j = 1 ∨ j = 2 by omega) with rfl | rfl | rfl <;> rfl) (Nat.le_of_ble_eq_true rfl) (Nat.le_of_ble_eq_true rfl) dX6_init_16 (fun q3 H hP hD hS => ?_)
  have hw : mg_Wo D A s.heap H locs [(q, .inr (6, [.ref q1, .null, .null, .null, .null, .null, .null])), (q1, .inr (1, [.ref (g2 0), .ref (g2 1), .ref (g2 2), .ref (g2 3), .ref (g2 4), .ref (g2 5), .ref (g2 6), .ref (g2 7), .int 0])), (g2 0, .inl (cI, 70, .inl (mg_g0 1))), (g2 1, .inl (cI, 70, .inl (mg_g0 2))), (g2 2, .inl (cI, 70, .inl (mg_g0 3))), (g2 3, .inl (cI, 70, .inl (mg_g0 4))), (g2 4, .inl (cI, 70, .inl (mg_g0 5))), (g2 5, .inl (cI, 70, .inl (mg_g0 6))), (g2 6, .inl (cI, 70, .inl (mg_g0 7))), (g2 7, .inl (cI, 70, .inl (mg_g0 8))), (q3, .inr (4, [.null, .null, .int 0]))] := ⟨hP, hD, hS⟩
  refine lv_dup hx hb dX6_init_19 rfl ?_
  refine mg_kFE (wl := [(q, .inr (6, [.ref q1, .null, .null, .null, .null, .null, .null])), (q1, .inr (1, [.ref (g2 0), .ref (g2 1), .ref (g2 2), .ref (g2 3), .ref (g2 4), .ref (g2 5), .ref (g2 6), .ref (g2 7), .int 0])), (g2 0, .inl (cI, 70, .inl (mg_g0 1))), (g2 1, .inl (cI, 70, .inl (mg_g0 2))), (g2 2, .inl (cI, 70, .inl (mg_g0 3))), (g2 3, .inl (cI, 70, .inl (mg_g0 4))), (g2 4, .inl (cI, 70, .inl (mg_g0 5))), (g2 5, .inl (cI, 70, .inl (mg_g0 6))), (g2 6, .inl (cI, 70, .inl (mg_g0 7))), (g2 7, .inl (cI, 70, .inl (mg_g0 8)))]) (w0 := [(q3, .inr (4, [.null, .null, .int 0]))]) (va_runI (As := []) (rest := [.ref q3, .ref q]) G9 (k_X4_init l D o cI cZ q3 H.size) (cwI 0 hts gX6_init_X4_init rfl rfl rfl w14_ w16_ w15_ rfl (by decide +kernel) ⟨Nat.le_of_ble_eq_true rfl, Nat.le_of_ble_eq_true rfl⟩) (mg_pre hK hO hA (mg_sub (wl := [(q, .inr (6, [.ref q1, .null, .null, .null, .null, .null, .null])), (q1, .inr (1, [.ref (g2 0), .ref (g2 1), .ref (g2 2), .ref (g2 3), .ref (g2 4), .ref (g2 5), .ref (g2 6), .ref (g2 7), .int 0])), (g2 0, .inl (cI, 70, .inl (mg_g0 1))), (g2 1, .inl (cI, 70, .inl (mg_g0 2))), (g2 2, .inl (cI, 70, .inl (mg_g0 3))), (g2 3, .inl (cI, 70, .inl (mg_g0 4))), (g2 4, .inl (cI, 70, .inl (mg_g0 5))), (g2 5, .inl (cI, 70, .inl (mg_g0 6))), (g2 6, .inl (cI, 70, .inl (mg_g0 7))), (g2 7, .inl (cI, 70, .inl (mg_g0 8)))]) (w0 := [(q3, .inr (4, [.null, .null, .int 0]))]) (wr := []) hw)) rfl rfl hl.1 rfl (lv_room (Nat.le_of_ble_eq_true rfl)) dX6_init_20 ⟨Nat.le_of_ble_eq_true rfl, Nat.le_of_ble_eq_true rfl⟩) hw hA (fun g4 H locs hw => ?_)
  have hw : mg_Wo D A s.heap H locs [(q, .inr (6, [.ref q1, .null, .null, .null, .null, .null, .null])), (q1, .inr (1, [.ref (g2 0), .ref (g2 1), .ref (g2 2), .ref (g2 3), .ref (g2 4), .ref (g2 5), .ref (g2 6), .ref (g2 7), .int 0])), (g2 0, .inl (cI, 70, .inl (mg_g0 1))), (g2 1, .inl (cI, 70, .inl (mg_g0 2))), (g2 2, .inl (cI, 70, .inl (mg_g0 3))), (g2 3, .inl (cI, 70, .inl (mg_g0 4))), (g2 4, .inl (cI, 70, .inl (mg_g0 5))), (g2 5, .inl (cI, 70, .inl (mg_g0 6))), (g2 6, .inl (cI, 70, .inl (mg_g0 7))), (g2 7, .inl (cI, 70, .inl (mg_g0 8))), (q3, .inr (4, [.ref (g4 0), .ref (g4 1), .int 0])), (g4 0, .inl (cI, 30, .inl (fun _ => 0))), (g4 1, .inl (cZ, 30, .inl (fun _ => 0)))] := hw
  refine va_putF (D := D) (ci := 6) (v := .ref q3) (ty := .object "MoonGate$Shoal") (C := RX6) (T := TX6) (N := 7) hx hb hts iX6_ tyX6 tyX6_ok nmX6 hown hK hw.1 hw.2.1 hw.2.2 0 rfl rfl 1 (by decide) w17_ (fun _ h9 => h9) rfl hin rfl (by decide +kernel) rfl rfl (Nat.le_of_ble_eq_true rfl) dX6_init_23 (fun H locs hP hD hS => ?_)
  have hw : mg_Wo D A s.heap H locs [(q, .inr (6, [.ref q1, .ref q3, .null, .null, .null, .null, .null])), (q1, .inr (1, [.ref (g2 0), .ref (g2 1), .ref (g2 2), .ref (g2 3), .ref (g2 4), .ref (g2 5), .ref (g2 6), .ref (g2 7), .int 0])), (g2 0, .inl (cI, 70, .inl (mg_g0 1))), (g2 1, .inl (cI, 70, .inl (mg_g0 2))), (g2 2, .inl (cI, 70, .inl (mg_g0 3))), (g2 3, .inl (cI, 70, .inl (mg_g0 4))), (g2 4, .inl (cI, 70, .inl (mg_g0 5))), (g2 5, .inl (cI, 70, .inl (mg_g0 6))), (g2 6, .inl (cI, 70, .inl (mg_g0 7))), (g2 7, .inl (cI, 70, .inl (mg_g0 8))), (q3, .inr (4, [.ref (g4 0), .ref (g4 1), .int 0])), (g4 0, .inl (cI, 30, .inl (fun _ => 0))), (g4 1, .inl (cZ, 30, .inl (fun _ => 0)))] := ⟨hP, hD, hS⟩
  refine lv_aload_n hx hb dX6_init_26 rfl (lv_at hl 0 rfl) ?_
  refine va_new (ci := 2) (fs := [.null, .null, .int 0]) (C := RX2) (T := TX2) (N := 3) hx hb hts iX2_ tyX2 tyX2_ok hown w19_ w20_ w21_ hK hw.1 hw.2.1 hw.2.2 hA rfl (fun j hj => by rcases (show j = 0 ∨ j = 1 ∨ j = 2 by omega) with rfl | rfl | rfl <;> rfl) (Nat.le_of_ble_eq_true rfl) (Nat.le_of_ble_eq_true rfl) dX6_init_27 (fun q5 H hP hD hS => ?_)
  have hw : mg_Wo D A s.heap H locs [(q, .inr (6, [.ref q1, .ref q3, .null, .null, .null, .null, .null])), (q1, .inr (1, [.ref (g2 0), .ref (g2 1), .ref (g2 2), .ref (g2 3), .ref (g2 4), .ref (g2 5), .ref (g2 6), .ref (g2 7), .int 0])), (g2 0, .inl (cI, 70, .inl (mg_g0 1))), (g2 1, .inl (cI, 70, .inl (mg_g0 2))), (g2 2, .inl (cI, 70, .inl (mg_g0 3))), (g2 3, .inl (cI, 70, .inl (mg_g0 4))), (g2 4, .inl (cI, 70, .inl (mg_g0 5))), (g2 5, .inl (cI, 70, .inl (mg_g0 6))), (g2 6, .inl (cI, 70, .inl (mg_g0 7))), (g2 7, .inl (cI, 70, .inl (mg_g0 8))), (q3, .inr (4, [.ref (g4 0), .ref (g4 1), .int 0])), (g4 0, .inl (cI, 30, .inl (fun _ => 0))), (g4 1, .inl (cZ, 30, .inl (fun _ => 0))), (q5, .inr (2, [.null, .null, .int 0]))] := ⟨hP, hD, hS⟩
  refine lv_dup hx hb dX6_init_30 rfl ?_
  refine mg_kFE (wl := [(q, .inr (6, [.ref q1, .ref q3, .null, .null, .null, .null, .null])), (q1, .inr (1, [.ref (g2 0), .ref (g2 1), .ref (g2 2), .ref (g2 3), .ref (g2 4), .ref (g2 5), .ref (g2 6), .ref (g2 7), .int 0])), (g2 0, .inl (cI, 70, .inl (mg_g0 1))), (g2 1, .inl (cI, 70, .inl (mg_g0 2))), (g2 2, .inl (cI, 70, .inl (mg_g0 3))), (g2 3, .inl (cI, 70, .inl (mg_g0 4))), (g2 4, .inl (cI, 70, .inl (mg_g0 5))), (g2 5, .inl (cI, 70, .inl (mg_g0 6))), (g2 6, .inl (cI, 70, .inl (mg_g0 7))), (g2 7, .inl (cI, 70, .inl (mg_g0 8))), (q3, .inr (4, [.ref (g4 0), .ref (g4 1), .int 0])), (g4 0, .inl (cI, 30, .inl (fun _ => 0))), (g4 1, .inl (cZ, 30, .inl (fun _ => 0)))]) (w0 := [(q5, .inr (2, [.null, .null, .int 0]))]) (va_runI (As := []) (rest := [.ref q5, .ref q]) G9 (k_X2_init l D o cI cZ q5 H.size) (cwI 0 hts gX6_init_X2_init rfl rfl rfl w21_ w23_ w22_ rfl (by decide +kernel) ⟨Nat.le_of_ble_eq_true rfl, Nat.le_of_ble_eq_true rfl⟩) (mg_pre hK hO hA (mg_sub (wl := [(q, .inr (6, [.ref q1, .ref q3, .null, .null, .null, .null, .null])), (q1, .inr (1, [.ref (g2 0), .ref (g2 1), .ref (g2 2), .ref (g2 3), .ref (g2 4), .ref (g2 5), .ref (g2 6), .ref (g2 7), .int 0])), (g2 0, .inl (cI, 70, .inl (mg_g0 1))), (g2 1, .inl (cI, 70, .inl (mg_g0 2))), (g2 2, .inl (cI, 70, .inl (mg_g0 3))), (g2 3, .inl (cI, 70, .inl (mg_g0 4))), (g2 4, .inl (cI, 70, .inl (mg_g0 5))), (g2 5, .inl (cI, 70, .inl (mg_g0 6))), (g2 6, .inl (cI, 70, .inl (mg_g0 7))), (g2 7, .inl (cI, 70, .inl (mg_g0 8))), (q3, .inr (4, [.ref (g4 0), .ref (g4 1), .int 0])), (g4 0, .inl (cI, 30, .inl (fun _ => 0))), (g4 1, .inl (cZ, 30, .inl (fun _ => 0)))]) (w0 := [(q5, .inr (2, [.null, .null, .int 0]))]) (wr := []) hw)) rfl rfl hl.1 rfl (lv_room (Nat.le_of_ble_eq_true rfl)) dX6_init_31 ⟨Nat.le_of_ble_eq_true rfl, Nat.le_of_ble_eq_true rfl⟩) hw hA (fun g6 H locs hw => ?_)
  have hw : mg_Wo D A s.heap H locs [(q, .inr (6, [.ref q1, .ref q3, .null, .null, .null, .null, .null])), (q1, .inr (1, [.ref (g2 0), .ref (g2 1), .ref (g2 2), .ref (g2 3), .ref (g2 4), .ref (g2 5), .ref (g2 6), .ref (g2 7), .int 0])), (g2 0, .inl (cI, 70, .inl (mg_g0 1))), (g2 1, .inl (cI, 70, .inl (mg_g0 2))), (g2 2, .inl (cI, 70, .inl (mg_g0 3))), (g2 3, .inl (cI, 70, .inl (mg_g0 4))), (g2 4, .inl (cI, 70, .inl (mg_g0 5))), (g2 5, .inl (cI, 70, .inl (mg_g0 6))), (g2 6, .inl (cI, 70, .inl (mg_g0 7))), (g2 7, .inl (cI, 70, .inl (mg_g0 8))), (q3, .inr (4, [.ref (g4 0), .ref (g4 1), .int 0])), (g4 0, .inl (cI, 30, .inl (fun _ => 0))), (g4 1, .inl (cZ, 30, .inl (fun _ => 0))), (q5, .inr (2, [.ref (g6 0), .ref (g6 1), .int 0])), (g6 0, .inl (cI, 6, .inl (fun _ => 0))), (g6 1, .inl (cI, 6, .inl (fun _ => 0)))] := hw
  refine va_putF (D := D) (ci := 6) (v := .ref q5) (ty := .object "MoonGate$Gates") (C := RX6) (T := TX6) (N := 7) hx hb hts iX6_ tyX6 tyX6_ok nmX6 hown hK hw.1 hw.2.1 hw.2.2 0 rfl rfl 2 (by decide) w24_ (fun _ h9 => h9) rfl hin rfl (by decide +kernel) rfl rfl (Nat.le_of_ble_eq_true rfl) dX6_init_34 (fun H locs hP hD hS => ?_)
  have hw : mg_Wo D A s.heap H locs [(q, .inr (6, [.ref q1, .ref q3, .ref q5, .null, .null, .null, .null])), (q1, .inr (1, [.ref (g2 0), .ref (g2 1), .ref (g2 2), .ref (g2 3), .ref (g2 4), .ref (g2 5), .ref (g2 6), .ref (g2 7), .int 0])), (g2 0, .inl (cI, 70, .inl (mg_g0 1))), (g2 1, .inl (cI, 70, .inl (mg_g0 2))), (g2 2, .inl (cI, 70, .inl (mg_g0 3))), (g2 3, .inl (cI, 70, .inl (mg_g0 4))), (g2 4, .inl (cI, 70, .inl (mg_g0 5))), (g2 5, .inl (cI, 70, .inl (mg_g0 6))), (g2 6, .inl (cI, 70, .inl (mg_g0 7))), (g2 7, .inl (cI, 70, .inl (mg_g0 8))), (q3, .inr (4, [.ref (g4 0), .ref (g4 1), .int 0])), (g4 0, .inl (cI, 30, .inl (fun _ => 0))), (g4 1, .inl (cZ, 30, .inl (fun _ => 0))), (q5, .inr (2, [.ref (g6 0), .ref (g6 1), .int 0])), (g6 0, .inl (cI, 6, .inl (fun _ => 0))), (g6 1, .inl (cI, 6, .inl (fun _ => 0)))] := ⟨hP, hD, hS⟩
  refine lv_aload_n hx hb dX6_init_37 rfl (lv_at hl 0 rfl) ?_
  refine va_new (ci := 3) (fs := [.null, .int 0]) (C := RX3) (T := TX3) (N := 2) hx hb hts iX3_ tyX3 tyX3_ok hown w26_ w27_ w28_ hK hw.1 hw.2.1 hw.2.2 hA rfl (fun j hj => by rcases (show j = 0 ∨ j = 1 by omega) with rfl | rfl <;> rfl) (Nat.le_of_ble_eq_true rfl) (Nat.le_of_ble_eq_true rfl) dX6_init_38 (fun q7 H hP hD hS => ?_)
  have hw : mg_Wo D A s.heap H locs [(q, .inr (6, [.ref q1, .ref q3, .ref q5, .null, .null, .null, .null])), (q1, .inr (1, [.ref (g2 0), .ref (g2 1), .ref (g2 2), .ref (g2 3), .ref (g2 4), .ref (g2 5), .ref (g2 6), .ref (g2 7), .int 0])), (g2 0, .inl (cI, 70, .inl (mg_g0 1))), (g2 1, .inl (cI, 70, .inl (mg_g0 2))), (g2 2, .inl (cI, 70, .inl (mg_g0 3))), (g2 3, .inl (cI, 70, .inl (mg_g0 4))), (g2 4, .inl (cI, 70, .inl (mg_g0 5))), (g2 5, .inl (cI, 70, .inl (mg_g0 6))), (g2 6, .inl (cI, 70, .inl (mg_g0 7))), (g2 7, .inl (cI, 70, .inl (mg_g0 8))), (q3, .inr (4, [.ref (g4 0), .ref (g4 1), .int 0])), (g4 0, .inl (cI, 30, .inl (fun _ => 0))), (g4 1, .inl (cZ, 30, .inl (fun _ => 0))), (q5, .inr (2, [.ref (g6 0), .ref (g6 1), .int 0])), (g6 0, .inl (cI, 6, .inl (fun _ => 0))), (g6 1, .inl (cI, 6, .inl (fun _ => 0))), (q7, .inr (3, [.null, .int 0]))] := ⟨hP, hD, hS⟩
  refine lv_dup hx hb dX6_init_41 rfl ?_
  refine mg_kFE (wl := [(q, .inr (6, [.ref q1, .ref q3, .ref q5, .null, .null, .null, .null])), (q1, .inr (1, [.ref (g2 0), .ref (g2 1), .ref (g2 2), .ref (g2 3), .ref (g2 4), .ref (g2 5), .ref (g2 6), .ref (g2 7), .int 0])), (g2 0, .inl (cI, 70, .inl (mg_g0 1))), (g2 1, .inl (cI, 70, .inl (mg_g0 2))), (g2 2, .inl (cI, 70, .inl (mg_g0 3))), (g2 3, .inl (cI, 70, .inl (mg_g0 4))), (g2 4, .inl (cI, 70, .inl (mg_g0 5))), (g2 5, .inl (cI, 70, .inl (mg_g0 6))), (g2 6, .inl (cI, 70, .inl (mg_g0 7))), (g2 7, .inl (cI, 70, .inl (mg_g0 8))), (q3, .inr (4, [.ref (g4 0), .ref (g4 1), .int 0])), (g4 0, .inl (cI, 30, .inl (fun _ => 0))), (g4 1, .inl (cZ, 30, .inl (fun _ => 0))), (q5, .inr (2, [.ref (g6 0), .ref (g6 1), .int 0])), (g6 0, .inl (cI, 6, .inl (fun _ => 0))), (g6 1, .inl (cI, 6, .inl (fun _ => 0)))]) (w0 := [(q7, .inr (3, [.null, .int 0]))]) (va_runI (As := []) (rest := [.ref q7, .ref q]) G9 (k_X3_init l D o cI cZ q7 H.size) (cwI 0 hts gX6_init_X3_init rfl rfl rfl w28_ w30_ w29_ rfl (by decide +kernel) ⟨Nat.le_of_ble_eq_true rfl, Nat.le_of_ble_eq_true rfl⟩) (mg_pre hK hO hA (mg_sub (wl := [(q, .inr (6, [.ref q1, .ref q3, .ref q5, .null, .null, .null, .null])), (q1, .inr (1, [.ref (g2 0), .ref (g2 1), .ref (g2 2), .ref (g2 3), .ref (g2 4), .ref (g2 5), .ref (g2 6), .ref (g2 7), .int 0])), (g2 0, .inl (cI, 70, .inl (mg_g0 1))), (g2 1, .inl (cI, 70, .inl (mg_g0 2))), (g2 2, .inl (cI, 70, .inl (mg_g0 3))), (g2 3, .inl (cI, 70, .inl (mg_g0 4))), (g2 4, .inl (cI, 70, .inl (mg_g0 5))), (g2 5, .inl (cI, 70, .inl (mg_g0 6))), (g2 6, .inl (cI, 70, .inl (mg_g0 7))), (g2 7, .inl (cI, 70, .inl (mg_g0 8))), (q3, .inr (4, [.ref (g4 0), .ref (g4 1), .int 0])), (g4 0, .inl (cI, 30, .inl (fun _ => 0))), (g4 1, .inl (cZ, 30, .inl (fun _ => 0))), (q5, .inr (2, [.ref (g6 0), .ref (g6 1), .int 0])), (g6 0, .inl (cI, 6, .inl (fun _ => 0))), (g6 1, .inl (cI, 6, .inl (fun _ => 0)))]) (w0 := [(q7, .inr (3, [.null, .int 0]))]) (wr := []) hw)) rfl rfl hl.1 rfl (lv_room (Nat.le_of_ble_eq_true rfl)) dX6_init_42 ⟨Nat.le_of_ble_eq_true rfl, Nat.le_of_ble_eq_true rfl⟩) hw hA (fun g8 H locs hw => ?_)
  have hw : mg_Wo D A s.heap H locs [(q, .inr (6, [.ref q1, .ref q3, .ref q5, .null, .null, .null, .null])), (q1, .inr (1, [.ref (g2 0), .ref (g2 1), .ref (g2 2), .ref (g2 3), .ref (g2 4), .ref (g2 5), .ref (g2 6), .ref (g2 7), .int 0])), (g2 0, .inl (cI, 70, .inl (mg_g0 1))), (g2 1, .inl (cI, 70, .inl (mg_g0 2))), (g2 2, .inl (cI, 70, .inl (mg_g0 3))), (g2 3, .inl (cI, 70, .inl (mg_g0 4))), (g2 4, .inl (cI, 70, .inl (mg_g0 5))), (g2 5, .inl (cI, 70, .inl (mg_g0 6))), (g2 6, .inl (cI, 70, .inl (mg_g0 7))), (g2 7, .inl (cI, 70, .inl (mg_g0 8))), (q3, .inr (4, [.ref (g4 0), .ref (g4 1), .int 0])), (g4 0, .inl (cI, 30, .inl (fun _ => 0))), (g4 1, .inl (cZ, 30, .inl (fun _ => 0))), (q5, .inr (2, [.ref (g6 0), .ref (g6 1), .int 0])), (g6 0, .inl (cI, 6, .inl (fun _ => 0))), (g6 1, .inl (cI, 6, .inl (fun _ => 0))), (q7, .inr (3, [.ref (g8 0), .int 0])), (g8 0, .inl (cI, 5, .inl (fun _ => 0)))] := hw
  refine va_putF (D := D) (ci := 6) (v := .ref q7) (ty := .object "MoonGate$Poets") (C := RX6) (T := TX6) (N := 7) hx hb hts iX6_ tyX6 tyX6_ok nmX6 hown hK hw.1 hw.2.1 hw.2.2 0 rfl rfl 3 (by decide) w31_ (fun _ h9 => h9) rfl hin rfl (by decide +kernel) rfl rfl (Nat.le_of_ble_eq_true rfl) dX6_init_45 (fun H locs hP hD hS => ?_)
  have hw : mg_Wo D A s.heap H locs [(q, .inr (6, [.ref q1, .ref q3, .ref q5, .ref q7, .null, .null, .null])), (q1, .inr (1, [.ref (g2 0), .ref (g2 1), .ref (g2 2), .ref (g2 3), .ref (g2 4), .ref (g2 5), .ref (g2 6), .ref (g2 7), .int 0])), (g2 0, .inl (cI, 70, .inl (mg_g0 1))), (g2 1, .inl (cI, 70, .inl (mg_g0 2))), (g2 2, .inl (cI, 70, .inl (mg_g0 3))), (g2 3, .inl (cI, 70, .inl (mg_g0 4))), (g2 4, .inl (cI, 70, .inl (mg_g0 5))), (g2 5, .inl (cI, 70, .inl (mg_g0 6))), (g2 6, .inl (cI, 70, .inl (mg_g0 7))), (g2 7, .inl (cI, 70, .inl (mg_g0 8))), (q3, .inr (4, [.ref (g4 0), .ref (g4 1), .int 0])), (g4 0, .inl (cI, 30, .inl (fun _ => 0))), (g4 1, .inl (cZ, 30, .inl (fun _ => 0))), (q5, .inr (2, [.ref (g6 0), .ref (g6 1), .int 0])), (g6 0, .inl (cI, 6, .inl (fun _ => 0))), (g6 1, .inl (cI, 6, .inl (fun _ => 0))), (q7, .inr (3, [.ref (g8 0), .int 0])), (g8 0, .inl (cI, 5, .inl (fun _ => 0)))] := ⟨hP, hD, hS⟩
  refine lv_aload_n hx hb dX6_init_48 rfl (lv_at hl 0 rfl) ?_
  refine va_new (ci := 0) (fs := [.int 0, .int 0, .null, .null]) (C := RX0) (T := TX0) (N := 4) hx hb hts iX0_ tyX0 tyX0_ok hown w33_ w34_ w35_ hK hw.1 hw.2.1 hw.2.2 hA rfl (fun j hj => by rcases (show j = 0 ∨ j = 1 ∨ j = 2 ∨ j = 3 by omega) with rfl | rfl | rfl | rfl <;> rfl) (Nat.le_of_ble_eq_true rfl) (Nat.le_of_ble_eq_true rfl) dX6_init_49 (fun q9 H hP hD hS => ?_)
  have hw : mg_Wo D A s.heap H locs [(q, .inr (6, [.ref q1, .ref q3, .ref q5, .ref q7, .null, .null, .null])), (q1, .inr (1, [.ref (g2 0), .ref (g2 1), .ref (g2 2), .ref (g2 3), .ref (g2 4), .ref (g2 5), .ref (g2 6), .ref (g2 7), .int 0])), (g2 0, .inl (cI, 70, .inl (mg_g0 1))), (g2 1, .inl (cI, 70, .inl (mg_g0 2))), (g2 2, .inl (cI, 70, .inl (mg_g0 3))), (g2 3, .inl (cI, 70, .inl (mg_g0 4))), (g2 4, .inl (cI, 70, .inl (mg_g0 5))), (g2 5, .inl (cI, 70, .inl (mg_g0 6))), (g2 6, .inl (cI, 70, .inl (mg_g0 7))), (g2 7, .inl (cI, 70, .inl (mg_g0 8))), (q3, .inr (4, [.ref (g4 0), .ref (g4 1), .int 0])), (g4 0, .inl (cI, 30, .inl (fun _ => 0))), (g4 1, .inl (cZ, 30, .inl (fun _ => 0))), (q5, .inr (2, [.ref (g6 0), .ref (g6 1), .int 0])), (g6 0, .inl (cI, 6, .inl (fun _ => 0))), (g6 1, .inl (cI, 6, .inl (fun _ => 0))), (q7, .inr (3, [.ref (g8 0), .int 0])), (g8 0, .inl (cI, 5, .inl (fun _ => 0))), (q9, .inr (0, [.int 0, .int 0, .null, .null]))] := ⟨hP, hD, hS⟩
  refine lv_dup hx hb dX6_init_52 rfl ?_
  refine mg_kFE (wl := [(q, .inr (6, [.ref q1, .ref q3, .ref q5, .ref q7, .null, .null, .null])), (q1, .inr (1, [.ref (g2 0), .ref (g2 1), .ref (g2 2), .ref (g2 3), .ref (g2 4), .ref (g2 5), .ref (g2 6), .ref (g2 7), .int 0])), (g2 0, .inl (cI, 70, .inl (mg_g0 1))), (g2 1, .inl (cI, 70, .inl (mg_g0 2))), (g2 2, .inl (cI, 70, .inl (mg_g0 3))), (g2 3, .inl (cI, 70, .inl (mg_g0 4))), (g2 4, .inl (cI, 70, .inl (mg_g0 5))), (g2 5, .inl (cI, 70, .inl (mg_g0 6))), (g2 6, .inl (cI, 70, .inl (mg_g0 7))), (g2 7, .inl (cI, 70, .inl (mg_g0 8))), (q3, .inr (4, [.ref (g4 0), .ref (g4 1), .int 0])), (g4 0, .inl (cI, 30, .inl (fun _ => 0))), (g4 1, .inl (cZ, 30, .inl (fun _ => 0))), (q5, .inr (2, [.ref (g6 0), .ref (g6 1), .int 0])), (g6 0, .inl (cI, 6, .inl (fun _ => 0))), (g6 1, .inl (cI, 6, .inl (fun _ => 0))), (q7, .inr (3, [.ref (g8 0), .int 0])), (g8 0, .inl (cI, 5, .inl (fun _ => 0)))]) (w0 := [(q9, .inr (0, [.int 0, .int 0, .null, .null]))]) (va_runI (As := []) (rest := [.ref q9, .ref q]) G9 (k_X0_init l D o cI cZ q9 H.size) (cwI 0 hts gX6_init_X0_init rfl rfl rfl w35_ w37_ w36_ rfl (by decide +kernel) ⟨Nat.le_of_ble_eq_true rfl, Nat.le_of_ble_eq_true rfl⟩) (mg_pre hK hO hA (mg_sub (wl := [(q, .inr (6, [.ref q1, .ref q3, .ref q5, .ref q7, .null, .null, .null])), (q1, .inr (1, [.ref (g2 0), .ref (g2 1), .ref (g2 2), .ref (g2 3), .ref (g2 4), .ref (g2 5), .ref (g2 6), .ref (g2 7), .int 0])), (g2 0, .inl (cI, 70, .inl (mg_g0 1))), (g2 1, .inl (cI, 70, .inl (mg_g0 2))), (g2 2, .inl (cI, 70, .inl (mg_g0 3))), (g2 3, .inl (cI, 70, .inl (mg_g0 4))), (g2 4, .inl (cI, 70, .inl (mg_g0 5))), (g2 5, .inl (cI, 70, .inl (mg_g0 6))), (g2 6, .inl (cI, 70, .inl (mg_g0 7))), (g2 7, .inl (cI, 70, .inl (mg_g0 8))), (q3, .inr (4, [.ref (g4 0), .ref (g4 1), .int 0])), (g4 0, .inl (cI, 30, .inl (fun _ => 0))), (g4 1, .inl (cZ, 30, .inl (fun _ => 0))), (q5, .inr (2, [.ref (g6 0), .ref (g6 1), .int 0])), (g6 0, .inl (cI, 6, .inl (fun _ => 0))), (g6 1, .inl (cI, 6, .inl (fun _ => 0))), (q7, .inr (3, [.ref (g8 0), .int 0])), (g8 0, .inl (cI, 5, .inl (fun _ => 0)))]) (w0 := [(q9, .inr (0, [.int 0, .int 0, .null, .null]))]) (wr := []) hw)) rfl rfl hl.1 rfl (lv_room (Nat.le_of_ble_eq_true rfl)) dX6_init_53 ⟨Nat.le_of_ble_eq_true rfl, Nat.le_of_ble_eq_true rfl⟩) hw hA (fun g10 H locs hw => ?_)
  have hw : mg_Wo D A s.heap H locs [(q, .inr (6, [.ref q1, .ref q3, .ref q5, .ref q7, .null, .null, .null])), (q1, .inr (1, [.ref (g2 0), .ref (g2 1), .ref (g2 2), .ref (g2 3), .ref (g2 4), .ref (g2 5), .ref (g2 6), .ref (g2 7), .int 0])), (g2 0, .inl (cI, 70, .inl (mg_g0 1))), (g2 1, .inl (cI, 70, .inl (mg_g0 2))), (g2 2, .inl (cI, 70, .inl (mg_g0 3))), (g2 3, .inl (cI, 70, .inl (mg_g0 4))), (g2 4, .inl (cI, 70, .inl (mg_g0 5))), (g2 5, .inl (cI, 70, .inl (mg_g0 6))), (g2 6, .inl (cI, 70, .inl (mg_g0 7))), (g2 7, .inl (cI, 70, .inl (mg_g0 8))), (q3, .inr (4, [.ref (g4 0), .ref (g4 1), .int 0])), (g4 0, .inl (cI, 30, .inl (fun _ => 0))), (g4 1, .inl (cZ, 30, .inl (fun _ => 0))), (q5, .inr (2, [.ref (g6 0), .ref (g6 1), .int 0])), (g6 0, .inl (cI, 6, .inl (fun _ => 0))), (g6 1, .inl (cI, 6, .inl (fun _ => 0))), (q7, .inr (3, [.ref (g8 0), .int 0])), (g8 0, .inl (cI, 5, .inl (fun _ => 0))), (q9, .inr (0, [.int 0, .int 100, .ref (g10 0), .ref (g10 1)])), (g10 0, .inl (cI, 30, .inl (fun _ => 0))), (g10 1, .inl (cI, 5, .inl (fun _ => 0)))] := hw
  refine va_putF (D := D) (ci := 6) (v := .ref q9) (ty := .object "MoonGate$Course") (C := RX6) (T := TX6) (N := 7) hx hb hts iX6_ tyX6 tyX6_ok nmX6 hown hK hw.1 hw.2.1 hw.2.2 0 rfl rfl 4 (by decide) w38_ (fun _ h9 => h9) rfl hin rfl (by decide +kernel) rfl rfl (Nat.le_of_ble_eq_true rfl) dX6_init_56 (fun H locs hP hD hS => ?_)
  have hw : mg_Wo D A s.heap H locs [(q, .inr (6, [.ref q1, .ref q3, .ref q5, .ref q7, .ref q9, .null, .null])), (q1, .inr (1, [.ref (g2 0), .ref (g2 1), .ref (g2 2), .ref (g2 3), .ref (g2 4), .ref (g2 5), .ref (g2 6), .ref (g2 7), .int 0])), (g2 0, .inl (cI, 70, .inl (mg_g0 1))), (g2 1, .inl (cI, 70, .inl (mg_g0 2))), (g2 2, .inl (cI, 70, .inl (mg_g0 3))), (g2 3, .inl (cI, 70, .inl (mg_g0 4))), (g2 4, .inl (cI, 70, .inl (mg_g0 5))), (g2 5, .inl (cI, 70, .inl (mg_g0 6))), (g2 6, .inl (cI, 70, .inl (mg_g0 7))), (g2 7, .inl (cI, 70, .inl (mg_g0 8))), (q3, .inr (4, [.ref (g4 0), .ref (g4 1), .int 0])), (g4 0, .inl (cI, 30, .inl (fun _ => 0))), (g4 1, .inl (cZ, 30, .inl (fun _ => 0))), (q5, .inr (2, [.ref (g6 0), .ref (g6 1), .int 0])), (g6 0, .inl (cI, 6, .inl (fun _ => 0))), (g6 1, .inl (cI, 6, .inl (fun _ => 0))), (q7, .inr (3, [.ref (g8 0), .int 0])), (g8 0, .inl (cI, 5, .inl (fun _ => 0))), (q9, .inr (0, [.int 0, .int 100, .ref (g10 0), .ref (g10 1)])), (g10 0, .inl (cI, 30, .inl (fun _ => 0))), (g10 1, .inl (cI, 5, .inl (fun _ => 0)))] := ⟨hP, hD, hS⟩
  refine lv_aload_n hx hb dX6_init_59 rfl (lv_at hl 0 rfl) ?_
  refine va_new (ci := 0) (fs := [.int 0, .int 0, .null, .null]) (C := RX0) (T := TX0) (N := 4) hx hb hts iX0_ tyX0 tyX0_ok hown w33_ w34_ w35_ hK hw.1 hw.2.1 hw.2.2 hA rfl (fun j hj => by rcases (show j = 0 ∨ j = 1 ∨ j = 2 ∨ j = 3 by omega) with rfl | rfl | rfl | rfl <;> rfl) (Nat.le_of_ble_eq_true rfl) (Nat.le_of_ble_eq_true rfl) dX6_init_60 (fun q11 H hP hD hS => ?_)
  have hw : mg_Wo D A s.heap H locs [(q, .inr (6, [.ref q1, .ref q3, .ref q5, .ref q7, .ref q9, .null, .null])), (q1, .inr (1, [.ref (g2 0), .ref (g2 1), .ref (g2 2), .ref (g2 3), .ref (g2 4), .ref (g2 5), .ref (g2 6), .ref (g2 7), .int 0])), (g2 0, .inl (cI, 70, .inl (mg_g0 1))), (g2 1, .inl (cI, 70, .inl (mg_g0 2))), (g2 2, .inl (cI, 70, .inl (mg_g0 3))), (g2 3, .inl (cI, 70, .inl (mg_g0 4))), (g2 4, .inl (cI, 70, .inl (mg_g0 5))), (g2 5, .inl (cI, 70, .inl (mg_g0 6))), (g2 6, .inl (cI, 70, .inl (mg_g0 7))), (g2 7, .inl (cI, 70, .inl (mg_g0 8))), (q3, .inr (4, [.ref (g4 0), .ref (g4 1), .int 0])), (g4 0, .inl (cI, 30, .inl (fun _ => 0))), (g4 1, .inl (cZ, 30, .inl (fun _ => 0))), (q5, .inr (2, [.ref (g6 0), .ref (g6 1), .int 0])), (g6 0, .inl (cI, 6, .inl (fun _ => 0))), (g6 1, .inl (cI, 6, .inl (fun _ => 0))), (q7, .inr (3, [.ref (g8 0), .int 0])), (g8 0, .inl (cI, 5, .inl (fun _ => 0))), (q9, .inr (0, [.int 0, .int 100, .ref (g10 0), .ref (g10 1)])), (g10 0, .inl (cI, 30, .inl (fun _ => 0))), (g10 1, .inl (cI, 5, .inl (fun _ => 0))), (q11, .inr (0, [.int 0, .int 0, .null, .null]))] := ⟨hP, hD, hS⟩
  refine lv_dup hx hb dX6_init_63 rfl ?_
  refine mg_kFE (wl := [(q, .inr (6, [.ref q1, .ref q3, .ref q5, .ref q7, .ref q9, .null, .null])), (q1, .inr (1, [.ref (g2 0), .ref (g2 1), .ref (g2 2), .ref (g2 3), .ref (g2 4), .ref (g2 5), .ref (g2 6), .ref (g2 7), .int 0])), (g2 0, .inl (cI, 70, .inl (mg_g0 1))), (g2 1, .inl (cI, 70, .inl (mg_g0 2))), (g2 2, .inl (cI, 70, .inl (mg_g0 3))), (g2 3, .inl (cI, 70, .inl (mg_g0 4))), (g2 4, .inl (cI, 70, .inl (mg_g0 5))), (g2 5, .inl (cI, 70, .inl (mg_g0 6))), (g2 6, .inl (cI, 70, .inl (mg_g0 7))), (g2 7, .inl (cI, 70, .inl (mg_g0 8))), (q3, .inr (4, [.ref (g4 0), .ref (g4 1), .int 0])), (g4 0, .inl (cI, 30, .inl (fun _ => 0))), (g4 1, .inl (cZ, 30, .inl (fun _ => 0))), (q5, .inr (2, [.ref (g6 0), .ref (g6 1), .int 0])), (g6 0, .inl (cI, 6, .inl (fun _ => 0))), (g6 1, .inl (cI, 6, .inl (fun _ => 0))), (q7, .inr (3, [.ref (g8 0), .int 0])), (g8 0, .inl (cI, 5, .inl (fun _ => 0))), (q9, .inr (0, [.int 0, .int 100, .ref (g10 0), .ref (g10 1)])), (g10 0, .inl (cI, 30, .inl (fun _ => 0))), (g10 1, .inl (cI, 5, .inl (fun _ => 0)))]) (w0 := [(q11, .inr (0, [.int 0, .int 0, .null, .null]))]) (va_runI (As := []) (rest := [.ref q11, .ref q]) G9 (k_X0_init l D o cI cZ q11 H.size) (cwI 0 hts gX6_init_X0_init rfl rfl rfl w35_ w37_ w36_ rfl (by decide +kernel) ⟨Nat.le_of_ble_eq_true rfl, Nat.le_of_ble_eq_true rfl⟩) (mg_pre hK hO hA (mg_sub (wl := [(q, .inr (6, [.ref q1, .ref q3, .ref q5, .ref q7, .ref q9, .null, .null])), (q1, .inr (1, [.ref (g2 0), .ref (g2 1), .ref (g2 2), .ref (g2 3), .ref (g2 4), .ref (g2 5), .ref (g2 6), .ref (g2 7), .int 0])), (g2 0, .inl (cI, 70, .inl (mg_g0 1))), (g2 1, .inl (cI, 70, .inl (mg_g0 2))), (g2 2, .inl (cI, 70, .inl (mg_g0 3))), (g2 3, .inl (cI, 70, .inl (mg_g0 4))), (g2 4, .inl (cI, 70, .inl (mg_g0 5))), (g2 5, .inl (cI, 70, .inl (mg_g0 6))), (g2 6, .inl (cI, 70, .inl (mg_g0 7))), (g2 7, .inl (cI, 70, .inl (mg_g0 8))), (q3, .inr (4, [.ref (g4 0), .ref (g4 1), .int 0])), (g4 0, .inl (cI, 30, .inl (fun _ => 0))), (g4 1, .inl (cZ, 30, .inl (fun _ => 0))), (q5, .inr (2, [.ref (g6 0), .ref (g6 1), .int 0])), (g6 0, .inl (cI, 6, .inl (fun _ => 0))), (g6 1, .inl (cI, 6, .inl (fun _ => 0))), (q7, .inr (3, [.ref (g8 0), .int 0])), (g8 0, .inl (cI, 5, .inl (fun _ => 0))), (q9, .inr (0, [.int 0, .int 100, .ref (g10 0), .ref (g10 1)])), (g10 0, .inl (cI, 30, .inl (fun _ => 0))), (g10 1, .inl (cI, 5, .inl (fun _ => 0)))]) (w0 := [(q11, .inr (0, [.int 0, .int 0, .null, .null]))]) (wr := []) hw)) rfl rfl hl.1 rfl (lv_room (Nat.le_of_ble_eq_true rfl)) dX6_init_64 ⟨Nat.le_of_ble_eq_true rfl, Nat.le_of_ble_eq_true rfl⟩) hw hA (fun g12 H locs hw => ?_)
  have hw : mg_Wo D A s.heap H locs [(q, .inr (6, [.ref q1, .ref q3, .ref q5, .ref q7, .ref q9, .null, .null])), (q1, .inr (1, [.ref (g2 0), .ref (g2 1), .ref (g2 2), .ref (g2 3), .ref (g2 4), .ref (g2 5), .ref (g2 6), .ref (g2 7), .int 0])), (g2 0, .inl (cI, 70, .inl (mg_g0 1))), (g2 1, .inl (cI, 70, .inl (mg_g0 2))), (g2 2, .inl (cI, 70, .inl (mg_g0 3))), (g2 3, .inl (cI, 70, .inl (mg_g0 4))), (g2 4, .inl (cI, 70, .inl (mg_g0 5))), (g2 5, .inl (cI, 70, .inl (mg_g0 6))), (g2 6, .inl (cI, 70, .inl (mg_g0 7))), (g2 7, .inl (cI, 70, .inl (mg_g0 8))), (q3, .inr (4, [.ref (g4 0), .ref (g4 1), .int 0])), (g4 0, .inl (cI, 30, .inl (fun _ => 0))), (g4 1, .inl (cZ, 30, .inl (fun _ => 0))), (q5, .inr (2, [.ref (g6 0), .ref (g6 1), .int 0])), (g6 0, .inl (cI, 6, .inl (fun _ => 0))), (g6 1, .inl (cI, 6, .inl (fun _ => 0))), (q7, .inr (3, [.ref (g8 0), .int 0])), (g8 0, .inl (cI, 5, .inl (fun _ => 0))), (q9, .inr (0, [.int 0, .int 100, .ref (g10 0), .ref (g10 1)])), (g10 0, .inl (cI, 30, .inl (fun _ => 0))), (g10 1, .inl (cI, 5, .inl (fun _ => 0))), (q11, .inr (0, [.int 0, .int 100, .ref (g12 0), .ref (g12 1)])), (g12 0, .inl (cI, 30, .inl (fun _ => 0))), (g12 1, .inl (cI, 5, .inl (fun _ => 0)))] := hw
  refine va_putF (D := D) (ci := 6) (v := .ref q11) (ty := .object "MoonGate$Course") (C := RX6) (T := TX6) (N := 7) hx hb hts iX6_ tyX6 tyX6_ok nmX6 hown hK hw.1 hw.2.1 hw.2.2 0 rfl rfl 5 (by decide) w39_ (fun _ h9 => h9) rfl hin rfl (by decide +kernel) rfl rfl (Nat.le_of_ble_eq_true rfl) dX6_init_67 (fun H locs hP hD hS => ?_)
  have hw : mg_Wo D A s.heap H locs [(q, .inr (6, [.ref q1, .ref q3, .ref q5, .ref q7, .ref q9, .ref q11, .null])), (q1, .inr (1, [.ref (g2 0), .ref (g2 1), .ref (g2 2), .ref (g2 3), .ref (g2 4), .ref (g2 5), .ref (g2 6), .ref (g2 7), .int 0])), (g2 0, .inl (cI, 70, .inl (mg_g0 1))), (g2 1, .inl (cI, 70, .inl (mg_g0 2))), (g2 2, .inl (cI, 70, .inl (mg_g0 3))), (g2 3, .inl (cI, 70, .inl (mg_g0 4))), (g2 4, .inl (cI, 70, .inl (mg_g0 5))), (g2 5, .inl (cI, 70, .inl (mg_g0 6))), (g2 6, .inl (cI, 70, .inl (mg_g0 7))), (g2 7, .inl (cI, 70, .inl (mg_g0 8))), (q3, .inr (4, [.ref (g4 0), .ref (g4 1), .int 0])), (g4 0, .inl (cI, 30, .inl (fun _ => 0))), (g4 1, .inl (cZ, 30, .inl (fun _ => 0))), (q5, .inr (2, [.ref (g6 0), .ref (g6 1), .int 0])), (g6 0, .inl (cI, 6, .inl (fun _ => 0))), (g6 1, .inl (cI, 6, .inl (fun _ => 0))), (q7, .inr (3, [.ref (g8 0), .int 0])), (g8 0, .inl (cI, 5, .inl (fun _ => 0))), (q9, .inr (0, [.int 0, .int 100, .ref (g10 0), .ref (g10 1)])), (g10 0, .inl (cI, 30, .inl (fun _ => 0))), (g10 1, .inl (cI, 5, .inl (fun _ => 0))), (q11, .inr (0, [.int 0, .int 100, .ref (g12 0), .ref (g12 1)])), (g12 0, .inl (cI, 30, .inl (fun _ => 0))), (g12 1, .inl (cI, 5, .inl (fun _ => 0)))] := ⟨hP, hD, hS⟩
  refine lv_aload_n hx hb dX6_init_70 rfl (lv_at hl 0 rfl) ?_
  refine va_new (ci := 5) (fs := [.int 0, .int 0, .int 0, .int 0, .int 0]) (C := RX5) (T := TX5) (N := 5) hx hb hts iX5_ tyX5 tyX5_ok hown w41_ w42_ w43_ hK hw.1 hw.2.1 hw.2.2 hA rfl (fun j hj => by rcases (show j = 0 ∨ j = 1 ∨ j = 2 ∨ j = 3 ∨ j = 4 by omega) with rfl | rfl | rfl | rfl | rfl <;> rfl) (Nat.le_of_ble_eq_true rfl) (Nat.le_of_ble_eq_true rfl) dX6_init_71 (fun q13 H hP hD hS => ?_)
  have hw : mg_Wo D A s.heap H locs [(q, .inr (6, [.ref q1, .ref q3, .ref q5, .ref q7, .ref q9, .ref q11, .null])), (q1, .inr (1, [.ref (g2 0), .ref (g2 1), .ref (g2 2), .ref (g2 3), .ref (g2 4), .ref (g2 5), .ref (g2 6), .ref (g2 7), .int 0])), (g2 0, .inl (cI, 70, .inl (mg_g0 1))), (g2 1, .inl (cI, 70, .inl (mg_g0 2))), (g2 2, .inl (cI, 70, .inl (mg_g0 3))), (g2 3, .inl (cI, 70, .inl (mg_g0 4))), (g2 4, .inl (cI, 70, .inl (mg_g0 5))), (g2 5, .inl (cI, 70, .inl (mg_g0 6))), (g2 6, .inl (cI, 70, .inl (mg_g0 7))), (g2 7, .inl (cI, 70, .inl (mg_g0 8))), (q3, .inr (4, [.ref (g4 0), .ref (g4 1), .int 0])), (g4 0, .inl (cI, 30, .inl (fun _ => 0))), (g4 1, .inl (cZ, 30, .inl (fun _ => 0))), (q5, .inr (2, [.ref (g6 0), .ref (g6 1), .int 0])), (g6 0, .inl (cI, 6, .inl (fun _ => 0))), (g6 1, .inl (cI, 6, .inl (fun _ => 0))), (q7, .inr (3, [.ref (g8 0), .int 0])), (g8 0, .inl (cI, 5, .inl (fun _ => 0))), (q9, .inr (0, [.int 0, .int 100, .ref (g10 0), .ref (g10 1)])), (g10 0, .inl (cI, 30, .inl (fun _ => 0))), (g10 1, .inl (cI, 5, .inl (fun _ => 0))), (q11, .inr (0, [.int 0, .int 100, .ref (g12 0), .ref (g12 1)])), (g12 0, .inl (cI, 30, .inl (fun _ => 0))), (g12 1, .inl (cI, 5, .inl (fun _ => 0))), (q13, .inr (5, [.int 0, .int 0, .int 0, .int 0, .int 0]))] := ⟨hP, hD, hS⟩
  refine lv_dup hx hb dX6_init_74 rfl ?_
  refine mg_kFE (wl := [(q, .inr (6, [.ref q1, .ref q3, .ref q5, .ref q7, .ref q9, .ref q11, .null])), (q1, .inr (1, [.ref (g2 0), .ref (g2 1), .ref (g2 2), .ref (g2 3), .ref (g2 4), .ref (g2 5), .ref (g2 6), .ref (g2 7), .int 0])), (g2 0, .inl (cI, 70, .inl (mg_g0 1))), (g2 1, .inl (cI, 70, .inl (mg_g0 2))), (g2 2, .inl (cI, 70, .inl (mg_g0 3))), (g2 3, .inl (cI, 70, .inl (mg_g0 4))), (g2 4, .inl (cI, 70, .inl (mg_g0 5))), (g2 5, .inl (cI, 70, .inl (mg_g0 6))), (g2 6, .inl (cI, 70, .inl (mg_g0 7))), (g2 7, .inl (cI, 70, .inl (mg_g0 8))), (q3, .inr (4, [.ref (g4 0), .ref (g4 1), .int 0])), (g4 0, .inl (cI, 30, .inl (fun _ => 0))), (g4 1, .inl (cZ, 30, .inl (fun _ => 0))), (q5, .inr (2, [.ref (g6 0), .ref (g6 1), .int 0])), (g6 0, .inl (cI, 6, .inl (fun _ => 0))), (g6 1, .inl (cI, 6, .inl (fun _ => 0))), (q7, .inr (3, [.ref (g8 0), .int 0])), (g8 0, .inl (cI, 5, .inl (fun _ => 0))), (q9, .inr (0, [.int 0, .int 100, .ref (g10 0), .ref (g10 1)])), (g10 0, .inl (cI, 30, .inl (fun _ => 0))), (g10 1, .inl (cI, 5, .inl (fun _ => 0))), (q11, .inr (0, [.int 0, .int 100, .ref (g12 0), .ref (g12 1)])), (g12 0, .inl (cI, 30, .inl (fun _ => 0))), (g12 1, .inl (cI, 5, .inl (fun _ => 0)))]) (w0 := [(q13, .inr (5, [.int 0, .int 0, .int 0, .int 0, .int 0]))]) (va_runIN (As := []) (rest := [.ref q13, .ref q]) G9 (k_X5_init l D o cI cZ q13 H.size) ⟨va_cnB 0 hts gX6_init_X5_init_n49 rfl rfl rfl (hO.2.2.2.2.2.2.1) w43_ (by decide +kernel) ⟨Nat.le_of_ble_eq_true rfl, Nat.le_of_ble_eq_true rfl⟩, rfl, w44_⟩ (mg_pre hK hO hA (mg_sub (wl := [(q, .inr (6, [.ref q1, .ref q3, .ref q5, .ref q7, .ref q9, .ref q11, .null])), (q1, .inr (1, [.ref (g2 0), .ref (g2 1), .ref (g2 2), .ref (g2 3), .ref (g2 4), .ref (g2 5), .ref (g2 6), .ref (g2 7), .int 0])), (g2 0, .inl (cI, 70, .inl (mg_g0 1))), (g2 1, .inl (cI, 70, .inl (mg_g0 2))), (g2 2, .inl (cI, 70, .inl (mg_g0 3))), (g2 3, .inl (cI, 70, .inl (mg_g0 4))), (g2 4, .inl (cI, 70, .inl (mg_g0 5))), (g2 5, .inl (cI, 70, .inl (mg_g0 6))), (g2 6, .inl (cI, 70, .inl (mg_g0 7))), (g2 7, .inl (cI, 70, .inl (mg_g0 8))), (q3, .inr (4, [.ref (g4 0), .ref (g4 1), .int 0])), (g4 0, .inl (cI, 30, .inl (fun _ => 0))), (g4 1, .inl (cZ, 30, .inl (fun _ => 0))), (q5, .inr (2, [.ref (g6 0), .ref (g6 1), .int 0])), (g6 0, .inl (cI, 6, .inl (fun _ => 0))), (g6 1, .inl (cI, 6, .inl (fun _ => 0))), (q7, .inr (3, [.ref (g8 0), .int 0])), (g8 0, .inl (cI, 5, .inl (fun _ => 0))), (q9, .inr (0, [.int 0, .int 100, .ref (g10 0), .ref (g10 1)])), (g10 0, .inl (cI, 30, .inl (fun _ => 0))), (g10 1, .inl (cI, 5, .inl (fun _ => 0))), (q11, .inr (0, [.int 0, .int 100, .ref (g12 0), .ref (g12 1)])), (g12 0, .inl (cI, 30, .inl (fun _ => 0))), (g12 1, .inl (cI, 5, .inl (fun _ => 0)))]) (w0 := [(q13, .inr (5, [.int 0, .int 0, .int 0, .int 0, .int 0]))]) (wr := []) hw)) rfl rfl hl.1 rfl (lv_room (Nat.le_of_ble_eq_true rfl)) dX6_init_75 ⟨Nat.le_of_ble_eq_true rfl, Nat.le_of_ble_eq_true rfl⟩) hw hA (fun g14 H locs hw => ?_)
  have hw : mg_Wo D A s.heap H locs [(q, .inr (6, [.ref q1, .ref q3, .ref q5, .ref q7, .ref q9, .ref q11, .null])), (q1, .inr (1, [.ref (g2 0), .ref (g2 1), .ref (g2 2), .ref (g2 3), .ref (g2 4), .ref (g2 5), .ref (g2 6), .ref (g2 7), .int 0])), (g2 0, .inl (cI, 70, .inl (mg_g0 1))), (g2 1, .inl (cI, 70, .inl (mg_g0 2))), (g2 2, .inl (cI, 70, .inl (mg_g0 3))), (g2 3, .inl (cI, 70, .inl (mg_g0 4))), (g2 4, .inl (cI, 70, .inl (mg_g0 5))), (g2 5, .inl (cI, 70, .inl (mg_g0 6))), (g2 6, .inl (cI, 70, .inl (mg_g0 7))), (g2 7, .inl (cI, 70, .inl (mg_g0 8))), (q3, .inr (4, [.ref (g4 0), .ref (g4 1), .int 0])), (g4 0, .inl (cI, 30, .inl (fun _ => 0))), (g4 1, .inl (cZ, 30, .inl (fun _ => 0))), (q5, .inr (2, [.ref (g6 0), .ref (g6 1), .int 0])), (g6 0, .inl (cI, 6, .inl (fun _ => 0))), (g6 1, .inl (cI, 6, .inl (fun _ => 0))), (q7, .inr (3, [.ref (g8 0), .int 0])), (g8 0, .inl (cI, 5, .inl (fun _ => 0))), (q9, .inr (0, [.int 0, .int 100, .ref (g10 0), .ref (g10 1)])), (g10 0, .inl (cI, 30, .inl (fun _ => 0))), (g10 1, .inl (cI, 5, .inl (fun _ => 0))), (q11, .inr (0, [.int 0, .int 100, .ref (g12 0), .ref (g12 1)])), (g12 0, .inl (cI, 30, .inl (fun _ => 0))), (g12 1, .inl (cI, 5, .inl (fun _ => 0))), (q13, .inr (5, [.int 0, .int 0, .int 0, .int 0, .int 0]))] := hw
  refine va_putF (D := D) (ci := 6) (v := .ref q13) (ty := .object "MoonGate$View") (C := RX6) (T := TX6) (N := 7) hx hb hts iX6_ tyX6 tyX6_ok nmX6 hown hK hw.1 hw.2.1 hw.2.2 0 rfl rfl 6 (by decide) w45_ (fun _ h9 => h9) rfl hin rfl (by decide +kernel) rfl rfl (Nat.le_of_ble_eq_true rfl) dX6_init_78 (fun H locs hP hD hS => ?_)
  have hw : mg_Wo D A s.heap H locs [(q, .inr (6, [.ref q1, .ref q3, .ref q5, .ref q7, .ref q9, .ref q11, .ref q13])), (q1, .inr (1, [.ref (g2 0), .ref (g2 1), .ref (g2 2), .ref (g2 3), .ref (g2 4), .ref (g2 5), .ref (g2 6), .ref (g2 7), .int 0])), (g2 0, .inl (cI, 70, .inl (mg_g0 1))), (g2 1, .inl (cI, 70, .inl (mg_g0 2))), (g2 2, .inl (cI, 70, .inl (mg_g0 3))), (g2 3, .inl (cI, 70, .inl (mg_g0 4))), (g2 4, .inl (cI, 70, .inl (mg_g0 5))), (g2 5, .inl (cI, 70, .inl (mg_g0 6))), (g2 6, .inl (cI, 70, .inl (mg_g0 7))), (g2 7, .inl (cI, 70, .inl (mg_g0 8))), (q3, .inr (4, [.ref (g4 0), .ref (g4 1), .int 0])), (g4 0, .inl (cI, 30, .inl (fun _ => 0))), (g4 1, .inl (cZ, 30, .inl (fun _ => 0))), (q5, .inr (2, [.ref (g6 0), .ref (g6 1), .int 0])), (g6 0, .inl (cI, 6, .inl (fun _ => 0))), (g6 1, .inl (cI, 6, .inl (fun _ => 0))), (q7, .inr (3, [.ref (g8 0), .int 0])), (g8 0, .inl (cI, 5, .inl (fun _ => 0))), (q9, .inr (0, [.int 0, .int 100, .ref (g10 0), .ref (g10 1)])), (g10 0, .inl (cI, 30, .inl (fun _ => 0))), (g10 1, .inl (cI, 5, .inl (fun _ => 0))), (q11, .inr (0, [.int 0, .int 100, .ref (g12 0), .ref (g12 1)])), (g12 0, .inl (cI, 30, .inl (fun _ => 0))), (g12 1, .inl (cI, 5, .inl (fun _ => 0))), (q13, .inr (5, [.int 0, .int 0, .int 0, .int 0, .int 0]))] := ⟨hP, hD, hS⟩
  have hw : mg_Wo D A s.heap H locs (mg_cW (fun k => if k = 0 then q else (fun k => [q, q1, q3, q5, q7, q9, q11, q13, g2 0, g2 1, g2 2, g2 3, g2 4, g2 5, g2 6, g2 7, g4 0, g4 1, g6 0, g6 1, g8 0, g10 0, g10 1, g12 0, g12 1].getD k 0) k) cI cZ mg_c0) := ⟨hw.1.sub [0, 1, 10, 13, 16, 18, 21, 24, 2, 3, 4, 5, 6, 7, 8, 9, 11, 12, 14, 15, 17, 19, 20, 22, 23] rfl, hw.2.1.sub [0, 1, 10, 13, 16, 18, 21, 24, 2, 3, 4, 5, 6, 7, 8, 9, 11, 12, 14, 15, 17, 19, 20, 22, 23] (by decide) rfl, hw.2.2⟩
  exact mg_eE (w1 := (fun g => mg_cW (fun k => if k = 0 then q else g k) cI cZ mg_c0)) (fun k => [q, q1, q3, q5, q7, q9, q11, q13, g2 0, g2 1, g2 2, g2 3, g2 4, g2 5, g2 6, g2 7, g4 0, g4 1, g6 0, g6 1, g8 0, g10 0, g10 1, g12 0, g12 1].getD k 0) hx hb hr hlocks hw (Nat.le_of_ble_eq_true rfl) (Nat.le_of_ble_eq_true rfl) dX6_init_81
