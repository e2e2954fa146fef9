set_option maxHeartbeats 4000000 in
set_option maxRecDepth 100000 in
theorem k_X7_become (l : Launch) (D : va_G) (o : Nat → Nat) (cI cZ : ClassId) (g : Nat → Nat) (sz : Nat) (σ : mg_St)  (y : mg_St) (h : f_X7_become σ  = some y) : mg_CT l yX7_become wsX7_become ({ frames := 1, cells := 0, slots := 0, locals := 40 } : Room) D [(cI, .int), (cZ, .boolean)] o (mg_mW g cI cZ σ) sz [.ref (g 2), .ref (g 1)] none (mg_mW g cI cZ y) 0 0 := by
  unfold mg_CT
  refine Met.ofW (cc := cX7_become) (maxL := 2) (ret := none) (by decide) rfl ?_
  intro p e s m args below meth c s₁ B hml hv
  obtain ⟨rfl, hsz, hP, hK, hD0, hO⟩ := hv
  have hx := B.exec
  have hb := B.bytes
  have hr := B.returns
  have hts := atoms_spec (ws := wsX7_become) B.pre
  have hown : s.vm.findClass RX7 = some m.cls := findClass_of_methodNamed B.named
  have hlocks := B.notSynchronized
  subst hsz
  have hD := hD0.self (sz := s.heap.size)
  generalize hAe : va_A (mg_mW g cI cZ σ) s.heap.size = A at hD hO ⊢
  have hA : ∀ q : Nat, s.heap.size ≤ q → A q := fun q h => by rw [← hAe]; exact Or.inr h
  have hw : mg_Wo D A s.heap s.heap [] (mg_mW g cI cZ σ) := ⟨hP, hD, va_S.rf⟩
  have G9 : CallFix p m c cX7_become 2 s ([.ref (g 2), .ref (g 1)] : List Value).toArray wsX7_become RX7 := ⟨hx, hb, hml, hown, hts⟩
  clear hP hD hD0 hAe
  obtain ⟨H, hHe⟩ : ∃ H : Heap, H = s.heap := ⟨_, rfl⟩
  have w0_ := hts (.fieldLink RX7 22 "MoonGateModel$Days" "day" "I") (by decide +kernel)
  have iX7_ : ∀ w ∈ wsX70, w ∈ wsX7_become := (fun _ h => List.mem_cons_of_mem _ (List.mem_append_right _ h))
  have w2_ := hts (.fieldLink RX7 9 "MoonGateModel$Days" "coins" "I") (by decide +kernel)
  have w3_ := hts (.fieldLink RX7 15 "MoonGateModel$Days" "size" "[I") (by decide +kernel)
  have w4_ := hts (.methodLink RX7 25 arraycopyName) (by decide +kernel)
  have w5_ := hts (.native arraycopyName) (by decide +kernel)
  have w6_ := hts (.static arraycopyName) (by decide +kernel)
  have w7_ := hts (.initialized "java/lang/System") (by decide +kernel)
  have w8_ := hts (.fieldLink RX7 19 "MoonGateModel$Days" "wrote" "[I") (by decide +kernel)
  have hl := lv_entry ([.ref (g 2), .ref (g 1)]) (n := 2) (Nat.le_of_ble_eq_true rfl)
  rw [lg_entry_eq]
  generalize (lg_sl ([.ref (g 2), .ref (g 1)]) ++ List.replicate (2 - (lg_sl ([.ref (g 2), .ref (g 1)])).length) Slot.unset).toArray = ls at hl ⊢
  have hl : lv_has ls 2 [(0, .ref (g 2)), (1, .ref (g 1))] := hl
  unfold f_X7_become at h
  revert hw
  intro hw
  suffices K_ : ∀ (H : Heap) (locs : List Loc), mg_Wo D A s.heap H locs (mg_mW g cI cZ σ) → W p l e (headSpec wsX7_become ({ frames := 1, cells := 0, slots := 0, locals := 40 } : Room)).room s m ([.ref (g 2), .ref (g 1)] : List Value).toArray below meth c H locs 0 0 (MQ below (mg_Q D (mg_mW g cI cZ y) A none) ([.ref (g 2), .ref (g 1)] : List Value).toArray s 0 0 A) (F0 m 0 ls []) from K_ _ _ hw
  clear hw hHe H
  intro H locs hw
  refine lv_aload_n hx hb dX7_become_0 rfl (lv_at hl 0 rfl) ?_
  refine lv_aload_n hx hb dX7_become_1 rfl (lv_at hl 1 rfl) ?_
  refine va_get (D := D) (ci := 7) (v := .int (σ 1 0)) (C := RX7) (T := TX7) (N := 4) hx hb hts iX7_ hown hK hw.1 1 rfl rfl 0 (by decide) w0_ (fun _ h9 => h9) rfl dX7_become_2 ?_
  refine mg_put (wd := mg_mW g cI cZ) (σ := σ) (v := (σ 1 0)) (ci := 7) (C := RX7) (T := TX7) (N := 4) hx hb hts iX7_ tyX7 tyX7_ok nmX7 hown hK hw 2 2 rfl rfl 0 (by decide) w0_ (fun _ h9 => h9) rfl (by decide +kernel) (Nat.le_of_ble_eq_true rfl) rfl dX7_become_5 (fun H locs hw => ?_)
  refine lv_aload_n hx hb dX7_become_8 rfl (lv_at hl 0 rfl) ?_
  refine lv_aload_n hx hb dX7_become_9 rfl (lv_at hl 1 rfl) ?_
  refine va_get (D := D) (ci := 7) (v := .int ((mg_su σ 2 0 (σ 1 0)) 1 1)) (C := RX7) (T := TX7) (N := 4) hx hb hts iX7_ hown hK hw.1 1 rfl rfl 1 (by decide) w2_ (fun _ h9 => h9) rfl dX7_become_10 ?_
  refine mg_put (wd := mg_mW g cI cZ) (σ := (mg_su σ 2 0 (σ 1 0))) (v := ((mg_su σ 2 0 (σ 1 0)) 1 1)) (ci := 7) (C := RX7) (T := TX7) (N := 4) hx hb hts iX7_ tyX7 tyX7_ok nmX7 hown hK hw 2 2 rfl rfl 1 (by decide) w2_ (fun _ h9 => h9) rfl (by decide +kernel) (Nat.le_of_ble_eq_true rfl) rfl dX7_become_13 (fun H locs hw => ?_)
  refine lv_aload_n hx hb dX7_become_16 rfl (lv_at hl 1 rfl) ?_
  refine va_get (D := D) (ci := 7) (v := .ref (g 12)) (C := RX7) (T := TX7) (N := 4) hx hb hts iX7_ hown hK hw.1 1 rfl rfl 2 (by decide) w3_ (fun _ h9 => h9) rfl dX7_become_17 ?_
  refine lv_iconst (v := 0) hx hb dX7_become_20 (by decide) ?_
  refine lv_aload_n hx hb dX7_become_21 rfl (lv_at hl 0 rfl) ?_
  refine va_get (D := D) (ci := 7) (v := .ref (g 14)) (C := RX7) (T := TX7) (N := 4) hx hb hts iX7_ hown hK hw.1 2 rfl rfl 2 (by decide) w3_ (fun _ h9 => h9) rfl dX7_become_22 ?_
  refine lv_iconst (v := 0) hx hb dX7_become_25 (by decide) ?_
  refine lv_bipush (v := 30) hx hb dX7_become_26 (by decide) ?_
  refine va_copyi hx hb (hml.trans hl.1.symm) hown w4_ w5_ w6_ w7_ hK hw.1 hw.2.1 hw.2.2 12 14 0 0 rfl rfl rfl rfl rfl (by decide) (by decide) (by decide) (by decide) (by decide) (fun _ _ => rfl) (Nat.le_of_ble_eq_true rfl) (Nat.le_of_ble_eq_true rfl) dX7_become_28 (fun H locs hP hD hS => ?_)
  have hw : mg_Wo D A s.heap H locs (mg_mW g cI cZ (mg_sr (mg_su (mg_su σ 2 0 (σ 1 0)) 2 1 ((mg_su σ 2 0 (σ 1 0)) 1 1)) 14 (va_cpy ((mg_su (mg_su σ 2 0 (σ 1 0)) 2 1 ((mg_su σ 2 0 (σ 1 0)) 1 1)) 12) ((mg_su (mg_su σ 2 0 (σ 1 0)) 2 1 ((mg_su σ 2 0 (σ 1 0)) 1 1)) 14) 0 0 30))) := ⟨hP, hD, hS⟩
  obtain ⟨s1, e9_, h⟩ := mg_bind h
  rw [Option.some.inj e9_] at hw
  clear e9_
  refine lv_aload_n hx hb dX7_become_31 rfl (lv_at hl 1 rfl) ?_
  refine va_get (D := D) (ci := 7) (v := .ref (g 13)) (C := RX7) (T := TX7) (N := 4) hx hb hts iX7_ hown hK hw.1 1 rfl rfl 3 (by decide) w8_ (fun _ h9 => h9) rfl dX7_become_32 ?_
  refine lv_iconst (v := 0) hx hb dX7_become_35 (by decide) ?_
  refine lv_aload_n hx hb dX7_become_36 rfl (lv_at hl 0 rfl) ?_
  refine va_get (D := D) (ci := 7) (v := .ref (g 15)) (C := RX7) (T := TX7) (N := 4) hx hb hts iX7_ hown hK hw.1 2 rfl rfl 3 (by decide) w8_ (fun _ h9 => h9) rfl dX7_become_37 ?_
  refine lv_iconst (v := 0) hx hb dX7_become_40 (by decide) ?_
  refine lv_iconst (v := 5) hx hb dX7_become_41 (by decide) ?_
  refine va_copyi hx hb (hml.trans hl.1.symm) hown w4_ w5_ w6_ w7_ hK hw.1 hw.2.1 hw.2.2 13 15 0 0 rfl rfl rfl rfl rfl (by decide) (by decide) (by decide) (by decide) (by decide) (fun _ _ => rfl) (Nat.le_of_ble_eq_true rfl) (Nat.le_of_ble_eq_true rfl) dX7_become_42 (fun H locs hP hD hS => ?_)
  have hw : mg_Wo D A s.heap H locs (mg_mW g cI cZ (mg_sr s1 15 (va_cpy (s1 13) (s1 15) 0 0 5))) := ⟨hP, hD, hS⟩
  obtain ⟨s2, e9_, h⟩ := mg_bind h
  rw [Option.some.inj e9_] at hw
  clear e9_
  cases h
  exact mg_eV hx hb hr hlocks hw (Nat.zero_le _) (Nat.zero_le _) dX7_become_45
set_option maxHeartbeats 4000000 in
set_option maxRecDepth 100000 in
theorem k_X8_thrown (l : Launch) (D : va_G) (o : Nat → Nat) (cI cZ : ClassId) (g : Nat → Nat) (sz : Nat) (σ : mg_St)  (y : Int32) (h : f_X8_thrown σ  = some y) : mg_CT l yX8_thrown wsX8_thrown ({ frames := 0, cells := 0, slots := 0, locals := 0 } : Room) D [(cI, .int), (cZ, .boolean)] o (mg_mW g cI cZ σ) sz [.ref (g 0)] (some (.int y)) (mg_mW g cI cZ σ) 0 0 := by
  unfold mg_CT
  refine Met.ofW (cc := cX8_thrown) (maxL := 1) (ret := (some .int)) (by decide) rfl ?_
  intro p e s m args below meth c s₁ B hml hv
  obtain ⟨rfl, hsz, hP, hK, hD0, hO⟩ := hv
  have hx := B.exec
  have hb := B.bytes
  have hr := B.returns
  have hts := atoms_spec (ws := wsX8_thrown) B.pre
  have hown : s.vm.findClass RX8 = some m.cls := findClass_of_methodNamed B.named
  have hlocks := B.notSynchronized
  subst hsz
  have hD := hD0.self (sz := s.heap.size)
  generalize hAe : va_A (mg_mW g cI cZ σ) s.heap.size = A at hD hO ⊢
  have hA : ∀ q : Nat, s.heap.size ≤ q → A q := fun q h => by rw [← hAe]; exact Or.inr h
  have hw : mg_Wo D A s.heap s.heap [] (mg_mW g cI cZ σ) := ⟨hP, hD, va_S.rf⟩
  have G9 : CallFix p m c cX8_thrown 1 s ([.ref (g 0)] : List Value).toArray wsX8_thrown RX8 := ⟨hx, hb, hml, hown, hts⟩
  clear hP hD hD0 hAe
  obtain ⟨H, hHe⟩ : ∃ H : Heap, H = s.heap := ⟨_, rfl⟩
  have w0_ := hts (.fieldLink RX8 47 "MoonGateModel" "thrown" "I") (by decide +kernel)
  have iX8_ : ∀ w ∈ wsX80, w ∈ wsX8_thrown := (fun _ h => List.mem_cons_of_mem _ (List.mem_append_right _ h))
  have hl := lv_entry ([.ref (g 0)]) (n := 1) (Nat.le_of_ble_eq_true rfl)
  rw [lg_entry_eq]
  generalize (lg_sl ([.ref (g 0)]) ++ List.replicate (1 - (lg_sl ([.ref (g 0)])).length) Slot.unset).toArray = ls at hl ⊢
  have hl : lv_has ls 1 [(0, .ref (g 0))] := hl
  unfold f_X8_thrown at h
  revert hw
  intro hw
  suffices K_ : ∀ (H : Heap) (locs : List Loc), mg_Wo D A s.heap H locs (mg_mW g cI cZ σ) → W p l e (headSpec wsX8_thrown ({ frames := 0, cells := 0, slots := 0, locals := 0 } : Room)).room s m ([.ref (g 0)] : List Value).toArray below meth c H locs 0 0 (MQ below (mg_Q D (mg_mW g cI cZ σ) A (some (.int y))) ([.ref (g 0)] : List Value).toArray s 0 0 A) (F0 m 0 ls []) from K_ _ _ hw
  clear hw hHe H
  intro H locs hw
  refine lv_aload_n hx hb dX8_thrown_0 rfl (lv_at hl 0 rfl) ?_
  refine va_get (D := D) (ci := 8) (v := .int (σ 0 0)) (C := RX8) (T := TX8) (N := 15) hx hb hts iX8_ hown hK hw.1 0 rfl rfl 0 (by decide) w0_ (fun _ h9 => h9) rfl dX8_thrown_1 ?_
  cases h
  exact mg_eI hx hb hr hlocks hw (Nat.zero_le _) (Nat.zero_le _) dX8_thrown_4
set_option maxHeartbeats 4000000 in
set_option maxRecDepth 100000 in
theorem k_X8_no (l : Launch) (D : va_G) (o : Nat → Nat) (cI cZ : ClassId) (g : Nat → Nat) (sz : Nat) (σ : mg_St) (x1 : Int32) (y : (Int32 × mg_St)) (h : f_X8_no σ x1 = some y) : mg_CT l yX8_no wsX8_no ({ frames := 0, cells := 0, slots := 0, locals := 0 } : Room) D [(cI, .int), (cZ, .boolean)] o (mg_mW g cI cZ σ) sz [.ref (g 0), .int x1] (some (.int y.1)) (mg_mW g cI cZ y.2) 0 0 := by
  unfold mg_CT
  refine Met.ofW (cc := cX8_no) (maxL := 2) (ret := (some .int)) (by decide) rfl ?_
  intro p e s m args below meth c s₁ B hml hv
  obtain ⟨rfl, hsz, hP, hK, hD0, hO⟩ := hv
  have hx := B.exec
  have hb := B.bytes
  have hr := B.returns
  have hts := atoms_spec (ws := wsX8_no) B.pre
  have hown : s.vm.findClass RX8 = some m.cls := findClass_of_methodNamed B.named
  have hlocks := B.notSynchronized
  subst hsz
  have hD := hD0.self (sz := s.heap.size)
  generalize hAe : va_A (mg_mW g cI cZ σ) s.heap.size = A at hD hO ⊢
  have hA : ∀ q : Nat, s.heap.size ≤ q → A q := fun q h => by rw [← hAe]; exact Or.inr h
  have hw : mg_Wo D A s.heap s.heap [] (mg_mW g cI cZ σ) := ⟨hP, hD, va_S.rf⟩
  have G9 : CallFix p m c cX8_no 2 s ([.ref (g 0), .int x1] : List Value).toArray wsX8_no RX8 := ⟨hx, hb, hml, hown, hts⟩
  clear hP hD hD0 hAe
  obtain ⟨H, hHe⟩ : ∃ H : Heap, H = s.heap := ⟨_, rfl⟩
  have w0_ := hts (.fieldLink RX8 47 "MoonGateModel" "thrown" "I") (by decide +kernel)
  have iX8_ : ∀ w ∈ wsX80, w ∈ wsX8_no := (fun _ h => List.mem_cons_of_mem _ (List.mem_append_right _ h))
  have hl := lv_entry ([.ref (g 0), .int x1]) (n := 2) (Nat.le_of_ble_eq_true rfl)
  rw [lg_entry_eq]
  generalize (lg_sl ([.ref (g 0), .int x1]) ++ List.replicate (2 - (lg_sl ([.ref (g 0), .int x1])).length) Slot.unset).toArray = ls at hl ⊢
  have hl : lv_has ls 2 [(0, .ref (g 0)), (1, .int x1)] := hl
  unfold f_X8_no at h
  revert hw
  intro hw
  suffices K_ : ∀ (H : Heap) (locs : List Loc), mg_Wo D A s.heap H locs (mg_mW g cI cZ σ) → W p l e (headSpec wsX8_no ({ frames := 0, cells := 0, slots := 0, locals := 0 } : Room)).room s m ([.ref (g 0), .int x1] : List Value).toArray below meth c H locs 0 0 (MQ below (mg_Q D (mg_mW g cI cZ y.2) A (some (.int y.1))) ([.ref (g 0), .int x1] : List Value).toArray s 0 0 A) (F0 m 0 ls []) from K_ _ _ hw
  clear hw hHe H
  intro H locs hw
  refine lv_aload_n hx hb dX8_no_0 rfl (lv_at hl 0 rfl) ?_
  refine lv_iload_n hx hb dX8_no_1 rfl (lv_at hl 1 rfl) ?_
  refine mg_put (wd := mg_mW g cI cZ) (σ := σ) (v := x1) (ci := 8) (C := RX8) (T := TX8) (N := 15) hx hb hts iX8_ tyX8 tyX8_ok nmX8 hown hK hw 0 0 rfl rfl 0 (by decide) w0_ (fun _ h9 => h9) rfl (by decide +kernel) (Nat.le_of_ble_eq_true rfl) rfl dX8_no_2 (fun H locs hw => ?_)
  refine lv_iconst (v := 0) hx hb dX8_no_5 (by decide) ?_
  cases h
  exact mg_eI hx hb hr hlocks hw (Nat.zero_le _) (Nat.zero_le _) dX8_no_6
set_option maxHeartbeats 4000000 in
set_option maxRecDepth 100000 in
theorem k_X8_isIn (l : Launch) (D : va_G) (o : Nat → Nat) (cI cZ : ClassId) (g : Nat → Nat) (sz : Nat) (σ : mg_St) (x0 : Int32) (x1 : Int32) (x2 : Int32) (y : Int32) (h : f_X8_isIn σ x0 x1 x2 = some y) : mg_CT l yX8_isIn wsX8_isIn ({ frames := 0, cells := 0, slots := 0, locals := 0 } : Room) D [(cI, .int), (cZ, .boolean)] o (mg_mW g cI cZ σ) sz [.int x0, .int x1, .int x2] (some (.int y)) (mg_mW g cI cZ σ) 0 0 := by
  unfold mg_CT
  refine Met.ofW (cc := cX8_isIn) (maxL := 3) (ret := (some .boolean)) (by decide) rfl ?_
  intro p e s m args below meth c s₁ B hml hv
  obtain ⟨rfl, hsz, hP, hK, hD0, hO⟩ := hv
  have hx := B.exec
  have hb := B.bytes
  have hr := B.returns
  have hts := atoms_spec (ws := wsX8_isIn) B.pre
  have hown : s.vm.findClass RX8 = some m.cls := findClass_of_methodNamed B.named
  have hlocks := B.notSynchronized
  subst hsz
  have hD := hD0.self (sz := s.heap.size)
  generalize hAe : va_A (mg_mW g cI cZ σ) s.heap.size = A at hD hO ⊢
  have hA : ∀ q : Nat, s.heap.size ≤ q → A q := fun q h => by rw [← hAe]; exact Or.inr h
  have hw : mg_Wo D A s.heap s.heap [] (mg_mW g cI cZ σ) := ⟨hP, hD, va_S.rf⟩
  have G9 : CallFix p m c cX8_isIn 3 s ([.int x0, .int x1, .int x2] : List Value).toArray wsX8_isIn RX8 := ⟨hx, hb, hml, hown, hts⟩
  clear hP hD hD0 hAe
  obtain ⟨H, hHe⟩ : ∃ H : Heap, H = s.heap := ⟨_, rfl⟩
  have hl := lv_entry ([.int x0, .int x1, .int x2]) (n := 3) (Nat.le_of_ble_eq_true rfl)
  rw [lg_entry_eq]
  generalize (lg_sl ([.int x0, .int x1, .int x2]) ++ List.replicate (3 - (lg_sl ([.int x0, .int x1, .int x2])).length) Slot.unset).toArray = ls at hl ⊢
  have hl : lv_has ls 3 [(0, .int x0), (1, .int x1), (2, .int x2)] := hl
  unfold f_X8_isIn at h
  revert hw
  intro hw
  suffices K_ : ∀ (H : Heap) (locs : List Loc), mg_Wo D A s.heap H locs (mg_mW g cI cZ σ) → W p l e (headSpec wsX8_isIn ({ frames := 0, cells := 0, slots := 0, locals := 0 } : Room)).room s m ([.int x0, .int x1, .int x2] : List Value).toArray below meth c H locs 0 0 (MQ below (mg_Q D (mg_mW g cI cZ σ) A (some (.int y))) ([.int x0, .int x1, .int x2] : List Value).toArray s 0 0 A) (F0 m 0 ls []) from K_ _ _ hw
  clear hw hHe H
  intro H locs hw
  refine lv_iload_n hx hb dX8_isIn_0 rfl (lv_at hl 0 rfl) ?_
  refine lv_iload_n hx hb dX8_isIn_1 rfl (lv_at hl 1 rfl) ?_
  refine mg_icmp_lt (tgt := 14) hx hb h dX8_isIn_2 (by decide) (fun h => ?_) (fun h => ?_)
  · refine lv_iconst (v := 0) hx hb dX8_isIn_14 (by decide) ?_
    cases h
    exact mg_eZ hx hb hr hlocks hw rfl (Nat.zero_le _) (Nat.zero_le _) dX8_isIn_15
  · refine lv_iload_n hx hb dX8_isIn_5 rfl (lv_at hl 0 rfl) ?_
    refine lv_iload_n hx hb dX8_isIn_6 rfl (lv_at hl 2 rfl) ?_
    refine mg_icmp_gt (tgt := 14) hx hb h dX8_isIn_7 (by decide) (fun h => ?_) (fun h => ?_)
    · refine lv_iconst (v := 0) hx hb dX8_isIn_14 (by decide) ?_
      cases h
      exact mg_eZ hx hb hr hlocks hw rfl (Nat.zero_le _) (Nat.zero_le _) dX8_isIn_15
    · refine lv_iconst (v := 1) hx hb dX8_isIn_10 (by decide) ?_
      refine lv_goto (tgt := 15) hx hb dX8_isIn_11 (by decide) ?_
      cases h
      exact mg_eZ hx hb hr hlocks hw rfl (Nat.zero_le _) (Nat.zero_le _) dX8_isIn_15
set_option maxHeartbeats 4000000 in
set_option maxRecDepth 100000 in
theorem k_X8_isCell (l : Launch) (D : va_G) (o : Nat → Nat) (cI cZ : ClassId) (g : Nat → Nat) (sz : Nat) (σ : mg_St) (x0 : Int32) (x1 : Int32) (y : Int32) (h : f_X8_isCell σ x0 x1 = some y) : mg_CT l yX8_isCell wsX8_isCell ({ frames := 1, cells := 0, slots := 0, locals := 22 } : Room) D [(cI, .int), (cZ, .boolean)] o (mg_mW g cI cZ σ) sz [.int x0, .int x1] (some (.int y)) (mg_mW g cI cZ σ) 0 0 := by
  unfold mg_CT
  refine Met.ofW (cc := cX8_isCell) (maxL := 2) (ret := (some .boolean)) (by decide) rfl ?_
  intro p e s m args below meth c s₁ B hml hv
  obtain ⟨rfl, hsz, hP, hK, hD0, hO⟩ := hv
  have hx := B.exec
  have hb := B.bytes
  have hr := B.returns
  have hts := atoms_spec (ws := wsX8_isCell) B.pre
  have hown : s.vm.findClass RX8 = some m.cls := findClass_of_methodNamed B.named
  have hlocks := B.notSynchronized
  subst hsz
  have hD := hD0.self (sz := s.heap.size)
  generalize hAe : va_A (mg_mW g cI cZ σ) s.heap.size = A at hD hO ⊢
  have hA : ∀ q : Nat, s.heap.size ≤ q → A q := fun q h => by rw [← hAe]; exact Or.inr h
  have hw : mg_Wo D A s.heap s.heap [] (mg_mW g cI cZ σ) := ⟨hP, hD, va_S.rf⟩
  have G9 : CallFix p m c cX8_isCell 2 s ([.int x0, .int x1] : List Value).toArray wsX8_isCell RX8 := ⟨hx, hb, hml, hown, hts⟩
  clear hP hD hD0 hAe
  obtain ⟨H, hHe⟩ : ∃ H : Heap, H = s.heap := ⟨_, rfl⟩
  have hl := lv_entry ([.int x0, .int x1]) (n := 2) (Nat.le_of_ble_eq_true rfl)
  rw [lg_entry_eq]
  generalize (lg_sl ([.int x0, .int x1]) ++ List.replicate (2 - (lg_sl ([.int x0, .int x1])).length) Slot.unset).toArray = ls at hl ⊢
  have hl : lv_has ls 2 [(0, .int x0), (1, .int x1)] := hl
  unfold f_X8_isCell at h
  revert hw
  intro hw
  suffices K_ : ∀ (H : Heap) (locs : List Loc), mg_Wo D A s.heap H locs (mg_mW g cI cZ σ) → W p l e (headSpec wsX8_isCell ({ frames := 1, cells := 0, slots := 0, locals := 22 } : Room)).room s m ([.int x0, .int x1] : List Value).toArray below meth c H locs 0 0 (MQ below (mg_Q D (mg_mW g cI cZ σ) A (some (.int y))) ([.int x0, .int x1] : List Value).toArray s 0 0 A) (F0 m 0 ls []) from K_ _ _ hw
  clear hw hHe H
  intro H locs hw
  refine lv_iload_n hx hb dX8_isCell_0 rfl (lv_at hl 0 rfl) ?_
  refine lv_iconst (v := 0) hx hb dX8_isCell_1 (by decide) ?_
  refine lv_bipush (v := 9) hx hb dX8_isCell_2 (by decide) ?_
  obtain ⟨y1, h9_, h⟩ := mg_bind h
  have hz_y1 := zb_X8_isIn σ x0 0 9 y1 h9_
  refine mg_k (rv := (some (.int y1))) (va_runS (As := [.int x0, .int 0, .int 9]) (rest := []) G9 (k_X8_isIn l D o cI cZ g H.size σ x0 0 9 y1 h9_) (va_cwS 3 hts gX8_isCell_X8_isIn rfl rfl rfl (by decide +kernel) ⟨Nat.le_of_ble_eq_true rfl, Nat.le_of_ble_eq_true rfl⟩) (mg_pre hK hO hA hw) rfl rfl hl.1 rfl (lv_room (Nat.le_of_ble_eq_true rfl)) dX8_isCell_4 ⟨Nat.zero_le _, Nat.zero_le _⟩) hw hA (fun H locs hw => ?_)
  clear h9_
  refine mg_if_eq (tgt := 24) hx hb h dX8_isCell_7 (by decide) (fun h => ?_) (fun h => ?_)
  · refine lv_iconst (v := 0) hx hb dX8_isCell_24 (by decide) ?_
    cases h
    exact mg_eZ hx hb hr hlocks hw rfl (Nat.zero_le _) (Nat.zero_le _) dX8_isCell_25
  · refine lv_iload_n hx hb dX8_isCell_10 rfl (lv_at hl 1 rfl) ?_
    refine lv_iconst (v := 0) hx hb dX8_isCell_11 (by decide) ?_
    refine lv_bipush (v := 6) hx hb dX8_isCell_12 (by decide) ?_
    obtain ⟨y2, h9_, h⟩ := mg_bind h
    have hz_y2 := zb_X8_isIn σ x1 0 6 y2 h9_
    refine mg_k (rv := (some (.int y2))) (va_runS (As := [.int x1, .int 0, .int 6]) (rest := []) G9 (k_X8_isIn l D o cI cZ g H.size σ x1 0 6 y2 h9_) (va_cwS 3 hts gX8_isCell_X8_isIn rfl rfl rfl (by decide +kernel) ⟨Nat.le_of_ble_eq_true rfl, Nat.le_of_ble_eq_true rfl⟩) (mg_pre hK hO hA hw) rfl rfl hl.1 rfl (lv_room (Nat.le_of_ble_eq_true rfl)) dX8_isCell_14 ⟨Nat.zero_le _, Nat.zero_le _⟩) hw hA (fun H locs hw => ?_)
    clear h9_
    refine mg_if_eq (tgt := 24) hx hb h dX8_isCell_17 (by decide) (fun h => ?_) (fun h => ?_)
    · refine lv_iconst (v := 0) hx hb dX8_isCell_24 (by decide) ?_
      cases h
      exact mg_eZ hx hb hr hlocks hw rfl (Nat.zero_le _) (Nat.zero_le _) dX8_isCell_25
    · refine lv_iconst (v := 1) hx hb dX8_isCell_20 (by decide) ?_
      refine lv_goto (tgt := 25) hx hb dX8_isCell_21 (by decide) ?_
      cases h
      exact mg_eZ hx hb hr hlocks hw rfl (Nat.zero_le _) (Nat.zero_le _) dX8_isCell_25
set_option maxHeartbeats 4000000 in
set_option maxRecDepth 100000 in
theorem k_X8_isGate (l : Launch) (D : va_G) (o : Nat → Nat) (cI cZ : ClassId) (g : Nat → Nat) (sz : Nat) (σ : mg_St) (x1 : Int32) (y : Int32) (h : f_X8_isGate σ x1 = some y) : mg_CT l yX8_isGate wsX8_isGate ({ frames := 1, cells := 0, slots := 0, locals := 22 } : Room) D [(cI, .int), (cZ, .boolean)] o (mg_mW g cI cZ σ) sz [.ref (g 0), .int x1] (some (.int y)) (mg_mW g cI cZ σ) 0 0 := by
  unfold mg_CT
  refine Met.ofW (cc := cX8_isGate) (maxL := 2) (ret := (some .boolean)) (by decide) rfl ?_
  intro p e s m args below meth c s₁ B hml hv
  obtain ⟨rfl, hsz, hP, hK, hD0, hO⟩ := hv
  have hx := B.exec
  have hb := B.bytes
  have hr := B.returns
  have hts := atoms_spec (ws := wsX8_isGate) B.pre
  have hown : s.vm.findClass RX8 = some m.cls := findClass_of_methodNamed B.named
  have hlocks := B.notSynchronized
  subst hsz
  have hD := hD0.self (sz := s.heap.size)
  generalize hAe : va_A (mg_mW g cI cZ σ) s.heap.size = A at hD hO ⊢
  have hA : ∀ q : Nat, s.heap.size ≤ q → A q := fun q h => by rw [← hAe]; exact Or.inr h
  have hw : mg_Wo D A s.heap s.heap [] (mg_mW g cI cZ σ) := ⟨hP, hD, va_S.rf⟩
  have G9 : CallFix p m c cX8_isGate 2 s ([.ref (g 0), .int x1] : List Value).toArray wsX8_isGate RX8 := ⟨hx, hb, hml, hown, hts⟩
  clear hP hD hD0 hAe
  obtain ⟨H, hHe⟩ : ∃ H : Heap, H = s.heap := ⟨_, rfl⟩
  have w0_ := hts (.fieldLink RX8 55 "MoonGateModel" "gates" "I") (by decide +kernel)
  have iX8_ : ∀ w ∈ wsX80, w ∈ wsX8_isGate := (fun _ h => List.mem_cons_of_mem _ (List.mem_append_right _ h))
  have hl := lv_entry ([.ref (g 0), .int x1]) (n := 2) (Nat.le_of_ble_eq_true rfl)
  rw [lg_entry_eq]
  generalize (lg_sl ([.ref (g 0), .int x1]) ++ List.replicate (2 - (lg_sl ([.ref (g 0), .int x1])).length) Slot.unset).toArray = ls at hl ⊢
  have hl : lv_has ls 2 [(0, .ref (g 0)), (1, .int x1)] := hl
  unfold f_X8_isGate at h
  revert hw
  intro hw
  suffices K_ : ∀ (H : Heap) (locs : List Loc), mg_Wo D A s.heap H locs (mg_mW g cI cZ σ) → W p l e (headSpec wsX8_isGate ({ frames := 1, cells := 0, slots := 0, locals := 22 } : Room)).room s m ([.ref (g 0), .int x1] : List Value).toArray below meth c H locs 0 0 (MQ below (mg_Q D (mg_mW g cI cZ σ) A (some (.int y))) ([.ref (g 0), .int x1] : List Value).toArray s 0 0 A) (F0 m 0 ls []) from K_ _ _ hw
  clear hw hHe H
  intro H locs hw
  refine lv_iload_n hx hb dX8_isGate_0 rfl (lv_at hl 1 rfl) ?_
  refine lv_iconst (v := 0) hx hb dX8_isGate_1 (by decide) ?_
  refine lv_aload_n hx hb dX8_isGate_2 rfl (lv_at hl 0 rfl) ?_
  refine va_get (D := D) (ci := 8) (v := .int (σ 0 8)) (C := RX8) (T := TX8) (N := 15) hx hb hts iX8_ hown hK hw.1 0 rfl rfl 8 (by decide) w0_ (fun _ h9 => h9) rfl dX8_isGate_3 ?_
  refine lv_iconst (v := 1) hx hb dX8_isGate_6 (by decide) ?_
  refine lv_isub hx hb dX8_isGate_7 ?_
  obtain ⟨y1, h9_, h⟩ := mg_bind h
  have hz_y1 := zb_X8_isIn σ x1 0 ((σ 0 8) - 1) y1 h9_
  refine mg_k (rv := (some (.int y1))) (va_runS (As := [.int x1, .int 0, .int ((σ 0 8) - 1)]) (rest := []) G9 (k_X8_isIn l D o cI cZ g H.size σ x1 0 ((σ 0 8) - 1) y1 h9_) (va_cwS 3 hts gX8_isGate_X8_isIn rfl rfl rfl (by decide +kernel) ⟨Nat.le_of_ble_eq_true rfl, Nat.le_of_ble_eq_true rfl⟩) (mg_pre hK hO hA hw) rfl rfl hl.1 rfl (lv_room (Nat.le_of_ble_eq_true rfl)) dX8_isGate_8 ⟨Nat.zero_le _, Nat.zero_le _⟩) hw hA (fun H locs hw => ?_)
  clear h9_
  cases h
  exact mg_eZ hx hb hr hlocks hw (mg_nz hz_y1) (Nat.zero_le _) (Nat.zero_le _) dX8_isGate_11
set_option maxHeartbeats 4000000 in
set_option maxRecDepth 100000 in
theorem k_X8_isPoet (l : Launch) (D : va_G) (o : Nat → Nat) (cI cZ : ClassId) (g : Nat → Nat) (sz : Nat) (σ : mg_St) (x1 : Int32) (y : Int32) (h : f_X8_isPoet σ x1 = some y) : mg_CT l yX8_isPoet wsX8_isPoet ({ frames := 1, cells := 0, slots := 0, locals := 22 } : Room) D [(cI, .int), (cZ, .boolean)] o (mg_mW g cI cZ σ) sz [.ref (g 0), .int x1] (some (.int y)) (mg_mW g cI cZ σ) 0 0 := by
  unfold mg_CT
  refine Met.ofW (cc := cX8_isPoet) (maxL := 2) (ret := (some .boolean)) (by decide) rfl ?_
  intro p e s m args below meth c s₁ B hml hv
  obtain ⟨rfl, hsz, hP, hK, hD0, hO⟩ := hv
  have hx := B.exec
  have hb := B.bytes
  have hr := B.returns
  have hts := atoms_spec (ws := wsX8_isPoet) B.pre
  have hown : s.vm.findClass RX8 = some m.cls := findClass_of_methodNamed B.named
  have hlocks := B.notSynchronized
  subst hsz
  have hD := hD0.self (sz := s.heap.size)
  generalize hAe : va_A (mg_mW g cI cZ σ) s.heap.size = A at hD hO ⊢
  have hA : ∀ q : Nat, s.heap.size ≤ q → A q := fun q h => by rw [← hAe]; exact Or.inr h
  have hw : mg_Wo D A s.heap s.heap [] (mg_mW g cI cZ σ) := ⟨hP, hD, va_S.rf⟩
  have G9 : CallFix p m c cX8_isPoet 2 s ([.ref (g 0), .int x1] : List Value).toArray wsX8_isPoet RX8 := ⟨hx, hb, hml, hown, hts⟩
  clear hP hD hD0 hAe
  obtain ⟨H, hHe⟩ : ∃ H : Heap, H = s.heap := ⟨_, rfl⟩
  have w0_ := hts (.fieldLink RX8 58 "MoonGateModel" "poets" "I") (by decide +kernel)
  have iX8_ : ∀ w ∈ wsX80, w ∈ wsX8_isPoet := (fun _ h => List.mem_cons_of_mem _ (List.mem_append_right _ h))
  have hl := lv_entry ([.ref (g 0), .int x1]) (n := 2) (Nat.le_of_ble_eq_true rfl)
  rw [lg_entry_eq]
  generalize (lg_sl ([.ref (g 0), .int x1]) ++ List.replicate (2 - (lg_sl ([.ref (g 0), .int x1])).length) Slot.unset).toArray = ls at hl ⊢
  have hl : lv_has ls 2 [(0, .ref (g 0)), (1, .int x1)] := hl
  unfold f_X8_isPoet at h
  revert hw
  intro hw
  suffices K_ : ∀ (H : Heap) (locs : List Loc), mg_Wo D A s.heap H locs (mg_mW g cI cZ σ) → W p l e (headSpec wsX8_isPoet ({ frames := 1, cells := 0, slots := 0, locals := 22 } : Room)).room s m ([.ref (g 0), .int x1] : List Value).toArray below meth c H locs 0 0 (MQ below (mg_Q D (mg_mW g cI cZ σ) A (some (.int y))) ([.ref (g 0), .int x1] : List Value).toArray s 0 0 A) (F0 m 0 ls []) from K_ _ _ hw
  clear hw hHe H
  intro H locs hw
  refine lv_iload_n hx hb dX8_isPoet_0 rfl (lv_at hl 1 rfl) ?_
  refine lv_iconst (v := 0) hx hb dX8_isPoet_1 (by decide) ?_
  refine lv_aload_n hx hb dX8_isPoet_2 rfl (lv_at hl 0 rfl) ?_
  refine va_get (D := D) (ci := 8) (v := .int (σ 0 11)) (C := RX8) (T := TX8) (N := 15) hx hb hts iX8_ hown hK hw.1 0 rfl rfl 11 (by decide) w0_ (fun _ h9 => h9) rfl dX8_isPoet_3 ?_
  refine lv_iconst (v := 1) hx hb dX8_isPoet_6 (by decide) ?_
  refine lv_isub hx hb dX8_isPoet_7 ?_
  obtain ⟨y1, h9_, h⟩ := mg_bind h
  have hz_y1 := zb_X8_isIn σ x1 0 ((σ 0 11) - 1) y1 h9_
  refine mg_k (rv := (some (.int y1))) (va_runS (As := [.int x1, .int 0, .int ((σ 0 11) - 1)]) (rest := []) G9 (k_X8_isIn l D o cI cZ g H.size σ x1 0 ((σ 0 11) - 1) y1 h9_) (va_cwS 3 hts gX8_isPoet_X8_isIn rfl rfl rfl (by decide +kernel) ⟨Nat.le_of_ble_eq_true rfl, Nat.le_of_ble_eq_true rfl⟩) (mg_pre hK hO hA hw) rfl rfl hl.1 rfl (lv_room (Nat.le_of_ble_eq_true rfl)) dX8_isPoet_8 ⟨Nat.zero_le _, Nat.zero_le _⟩) hw hA (fun H locs hw => ?_)
  clear h9_
  cases h
  exact mg_eZ hx hb hr hlocks hw (mg_nz hz_y1) (Nat.zero_le _) (Nat.zero_le _) dX8_isPoet_11
set_option maxHeartbeats 4000000 in
set_option maxRecDepth 100000 in
theorem k_X8_areNeighbours (l : Launch) (D : va_G) (o : Nat → Nat) (cI cZ : ClassId) (g : Nat → Nat) (sz : Nat) (σ : mg_St) (x0 : Int32) (x1 : Int32) (y : Int32) (h : f_X8_areNeighbours σ x0 x1 = some y) : mg_CT l yX8_areNeighbours wsX8_areNeighbours ({ frames := 1, cells := 0, slots := 0, locals := 40 } : Room) D [(cI, .int), (cZ, .boolean)] o (mg_mW g cI cZ σ) sz [.int x0, .int x1] (some (.int y)) (mg_mW g cI cZ σ) 0 0 := by
  unfold mg_CT
  refine Met.ofW (cc := cX8_areNeighbours) (maxL := 2) (ret := (some .boolean)) (by decide) rfl ?_
  intro p e s m args below meth c s₁ B hml hv
  obtain ⟨rfl, hsz, hP, hK, hD0, hO⟩ := hv
  have hx := B.exec
  have hb := B.bytes
  have hr := B.returns
  have hts := atoms_spec (ws := wsX8_areNeighbours) B.pre
  have hown : s.vm.findClass RX8 = some m.cls := findClass_of_methodNamed B.named
  have hlocks := B.notSynchronized
  subst hsz
  have hD := hD0.self (sz := s.heap.size)
  generalize hAe : va_A (mg_mW g cI cZ σ) s.heap.size = A at hD hO ⊢
  have hA : ∀ q : Nat, s.heap.size ≤ q → A q := fun q h => by rw [← hAe]; exact Or.inr h
  have hw : mg_Wo D A s.heap s.heap [] (mg_mW g cI cZ σ) := ⟨hP, hD, va_S.rf⟩
  have G9 : CallFix p m c cX8_areNeighbours 2 s ([.int x0, .int x1] : List Value).toArray wsX8_areNeighbours RX8 := ⟨hx, hb, hml, hown, hts⟩
  clear hP hD hD0 hAe
  obtain ⟨H, hHe⟩ : ∃ H : Heap, H = s.heap := ⟨_, rfl⟩
  have w0_ := hts (.methodLink RX8 61 Lib.Math.abs.name) (by decide +kernel)
  have w1_ := hts (.static Lib.Math.abs.name) (by decide +kernel)
  have w2_ := hts (.initialized "java/lang/Math") (by decide +kernel)
  have w3_ := hts (.code Lib.Math.abs.name Lib.Math.abs.code 1 (some .int)) (by decide +kernel)
  have hl := lv_entry ([.int x0, .int x1]) (n := 2) (Nat.le_of_ble_eq_true rfl)
  rw [lg_entry_eq]
  generalize (lg_sl ([.int x0, .int x1]) ++ List.replicate (2 - (lg_sl ([.int x0, .int x1])).length) Slot.unset).toArray = ls at hl ⊢
  have hl : lv_has ls 2 [(0, .int x0), (1, .int x1)] := hl
  unfold f_X8_areNeighbours at h
  revert hw
  intro hw
  suffices K_ : ∀ (H : Heap) (locs : List Loc), mg_Wo D A s.heap H locs (mg_mW g cI cZ σ) → W p l e (headSpec wsX8_areNeighbours ({ frames := 1, cells := 0, slots := 0, locals := 40 } : Room)).room s m ([.int x0, .int x1] : List Value).toArray below meth c H locs 0 0 (MQ below (mg_Q D (mg_mW g cI cZ σ) A (some (.int y))) ([.int x0, .int x1] : List Value).toArray s 0 0 A) (F0 m 0 ls []) from K_ _ _ hw
  clear hw hHe H
  intro H locs hw
  refine lv_iload_n hx hb dX8_areNeighbours_0 rfl (lv_at hl 0 rfl) ?_
  refine lv_bipush (v := 10) hx hb dX8_areNeighbours_1 (by decide) ?_
  refine lv_irem hx hb dX8_areNeighbours_3 (by decide) ?_
  refine lv_iload_n hx hb dX8_areNeighbours_4 rfl (lv_at hl 1 rfl) ?_
  refine lv_bipush (v := 10) hx hb dX8_areNeighbours_5 (by decide) ?_
  refine lv_irem hx hb dX8_areNeighbours_7 (by decide) ?_
  refine lv_isub hx hb dX8_areNeighbours_8 ?_
  refine va_mabs hx hb (hml.trans hl.1.symm) hown w0_ w1_ w2_ w3_ (Nat.le_of_ble_eq_true rfl) (Nat.le_of_ble_eq_true rfl) (Nat.zero_le _) (Nat.zero_le _) dX8_areNeighbours_9 ?_
  refine lv_iload_n hx hb dX8_areNeighbours_12 rfl (lv_at hl 0 rfl) ?_
  refine lv_bipush (v := 10) hx hb dX8_areNeighbours_13 (by decide) ?_
  refine lv_idiv hx hb dX8_areNeighbours_15 (by decide) ?_
  refine lv_iload_n hx hb dX8_areNeighbours_16 rfl (lv_at hl 1 rfl) ?_
  refine lv_bipush (v := 10) hx hb dX8_areNeighbours_17 (by decide) ?_
  refine lv_idiv hx hb dX8_areNeighbours_19 (by decide) ?_
  refine lv_isub hx hb dX8_areNeighbours_20 ?_
  refine va_mabs hx hb (hml.trans hl.1.symm) hown w0_ w1_ w2_ w3_ (Nat.le_of_ble_eq_true rfl) (Nat.le_of_ble_eq_true rfl) (Nat.zero_le _) (Nat.zero_le _) dX8_areNeighbours_21 ?_
  refine lv_iadd hx hb dX8_areNeighbours_24 ?_
  refine lv_iconst (v := 1) hx hb dX8_areNeighbours_25 (by decide) ?_
  refine mg_icmp_ne (tgt := 33) hx hb h dX8_areNeighbours_26 (by decide) (fun h => ?_) (fun h => ?_)
  · refine lv_iconst (v := 0) hx hb dX8_areNeighbours_33 (by decide) ?_
    cases h
    exact mg_eZ hx hb hr hlocks hw rfl (Nat.zero_le _) (Nat.zero_le _) dX8_areNeighbours_34
  · refine lv_iconst (v := 1) hx hb dX8_areNeighbours_29 (by decide) ?_
    refine lv_goto (tgt := 34) hx hb dX8_areNeighbours_30 (by decide) ?_
    cases h
    exact mg_eZ hx hb hr hlocks hw rfl (Nat.zero_le _) (Nat.zero_le _) dX8_areNeighbours_34
set_option maxHeartbeats 4000000 in
set_option maxRecDepth 100000 in
theorem k_X8_markPonds (l : Launch) (D : va_G) (o : Nat → Nat) (cI cZ : ClassId) (g : Nat → Nat) (sz : Nat) (σ : mg_St)  (y : mg_St) (h : f_X8_markPonds σ  = some y) : mg_CT l yX8_markPonds wsX8_markPonds ({ frames := 2, cells := 0, slots := 0, locals := 61 } : Room) D [(cI, .int), (cZ, .boolean)] o (mg_mW g cI cZ σ) sz [.ref (g 0)] none (mg_mW g cI cZ y) 0 0 := by
  unfold mg_CT
  refine Met.ofW (cc := cX8_markPonds) (maxL := 4) (ret := none) (by decide) rfl ?_
  intro p e s m args below meth c s₁ B hml hv
  obtain ⟨rfl, hsz, hP, hK, hD0, hO⟩ := hv
  have hx := B.exec
  have hb := B.bytes
  have hr := B.returns
  have hts := atoms_spec (ws := wsX8_markPonds) B.pre
  have hown : s.vm.findClass RX8 = some m.cls := findClass_of_methodNamed B.named
  have hlocks := B.notSynchronized
  subst hsz
  have hD := hD0.self (sz := s.heap.size)
  generalize hAe : va_A (mg_mW g cI cZ σ) s.heap.size = A at hD hO ⊢
  have hA : ∀ q : Nat, s.heap.size ≤ q → A q := fun q h => by rw [← hAe]; exact Or.inr h
  have hw : mg_Wo D A s.heap s.heap [] (mg_mW g cI cZ σ) := ⟨hP, hD, va_S.rf⟩
  have G9 : CallFix p m c cX8_markPonds 4 s ([.ref (g 0)] : List Value).toArray wsX8_markPonds RX8 := ⟨hx, hb, hml, hown, hts⟩
  clear hP hD hD0 hAe
  obtain ⟨H, hHe⟩ : ∃ H : Heap, H = s.heap := ⟨_, rfl⟩
  have w0_ := hts (.fieldLink RX8 19 "MoonGateModel" "pond" "[I") (by decide +kernel)
  have iX8_ : ∀ w ∈ wsX80, w ∈ wsX8_markPonds := (fun _ h => List.mem_cons_of_mem _ (List.mem_append_right _ h))
  have w2_ := hts (.fieldLink RX8 9 "MoonGateModel" "kind" "[I") (by decide +kernel)
  have hl := lv_entry ([.ref (g 0)]) (n := 4) (Nat.le_of_ble_eq_true rfl)
  rw [lg_entry_eq]
  generalize (lg_sl ([.ref (g 0)]) ++ List.replicate (4 - (lg_sl ([.ref (g 0)])).length) Slot.unset).toArray = ls at hl ⊢
  have hl : lv_has ls 4 [(0, .ref (g 0))] := hl
  unfold f_X8_markPonds at h
  revert hw
  intro hw
  suffices K_ : ∀ (H : Heap) (locs : List Loc), mg_Wo D A s.heap H locs (mg_mW g cI cZ σ) → W p l e (headSpec wsX8_markPonds ({ frames := 2, cells := 0, slots := 0, locals := 61 } : Room)).room s m ([.ref (g 0)] : List Value).toArray below meth c H locs 0 0 (MQ below (mg_Q D (mg_mW g cI cZ y) A none) ([.ref (g 0)] : List Value).toArray s 0 0 A) (F0 m 0 ls []) from K_ _ _ hw
  clear hw hHe H
  intro H locs hw
  refine lv_iconst (v := 0) hx hb dX8_markPonds_0 (by decide) ?_
  refine lv_istore_n (lv' := [(1, .int 0), (0, .ref (g 0))]) hx hb dX8_markPonds_1 rfl hl (by decide) rfl (fun ls hl => ?_)
  have L2_ : ∀ (n : Nat) (x1_2 : Int32) (s2_ : mg_St) (y2_ : Int32 × mg_St), f_X8_markPonds_2  n x1_2 s2_ = some y2_ → (∀ (H : Heap) (locs : List Loc) (ls : Array Slot), mg_Wo D A s.heap H locs (mg_mW g cI cZ y2_.2) → lv_has ls 4 [(0, .ref (g 0)), (1, .int y2_.1)] → W p l e (headSpec wsX8_markPonds ({ frames := 2, cells := 0, slots := 0, locals := 61 } : Room)).room s m ([.ref (g 0)] : List Value).toArray below meth c H locs 0 0 (MQ below (mg_Q D (mg_mW g cI cZ y) A none) ([.ref (g 0)] : List Value).toArray s 0 0 A) (F0 m 35 ls [])) → ∀ (H : Heap) (locs : List Loc) (ls : Array Slot), mg_Wo D A s.heap H locs (mg_mW g cI cZ s2_) → lv_has ls 4 [(0, .ref (g 0)), (1, .int x1_2)] → W p l e (headSpec wsX8_markPonds ({ frames := 2, cells := 0, slots := 0, locals := 61 } : Room)).room s m ([.ref (g 0)] : List Value).toArray below meth c H locs 0 0 (MQ below (mg_Q D (mg_mW g cI cZ y) A none) ([.ref (g 0)] : List Value).toArray s 0 0 A) (F0 m 2 ls []) := by
    intro n
    induction n with
    | zero => intro x1_2 s2_ y2_ h; rw [f_X8_markPonds_2] at h; cases h
    | succ n ih =>
      intro x1_2 s2_ y2_ h kc H locs ls hw hl
      rw [f_X8_markPonds_2] at h
      refine lv_iload_n hx hb dX8_markPonds_2 rfl (lv_at hl 1 rfl) ?_
      refine lv_bipush (v := 70) hx hb dX8_markPonds_3 (by decide) ?_
      refine mg_icmp_ge (tgt := 35) hx hb h dX8_markPonds_5 (by decide) (fun h => ?_) (fun h => ?_)
      · cases h
        exact kc H locs ls hw (lv_sub hl [0, 1] rfl)
      · refine lv_aload_n hx hb dX8_markPonds_8 rfl (lv_at hl 0 rfl) ?_
        refine va_get (D := D) (ci := 8) (v := .ref (g 6)) (C := RX8) (T := TX8) (N := 15) hx hb hts iX8_ hown hK hw.1 0 rfl rfl 4 (by decide) w0_ (fun _ h9 => h9) rfl dX8_markPonds_9 ?_
        refine lv_iload_n hx hb dX8_markPonds_12 rfl (lv_at hl 1 rfl) ?_
        refine lv_aload_n hx hb dX8_markPonds_13 rfl (lv_at hl 0 rfl) ?_
        refine va_get (D := D) (ci := 8) (v := .ref (g 3)) (C := RX8) (T := TX8) (N := 15) hx hb hts iX8_ hown hK hw.1 0 rfl rfl 1 (by decide) w2_ (fun _ h9 => h9) rfl dX8_markPonds_14 ?_
        refine lv_iload_n hx hb dX8_markPonds_17 rfl (lv_at hl 1 rfl) ?_
        refine mg_ald (σ := s2_) (k := 3) (n := 70) hx hb hK hw 3 0 rfl rfl h dX8_markPonds_18 (fun v2 h => ?_)
        refine lv_iconst (v := 2) hx hb dX8_markPonds_19 (by decide) ?_
        refine mg_icmp_ne (tgt := 27) hx hb h dX8_markPonds_20 (by decide) (fun h => ?_) (fun h => ?_)
        · refine lv_iconst (v := (-1)) hx hb dX8_markPonds_27 (by decide) ?_
          refine mg_ast (wd := mg_mW g cI cZ) (σ := s2_) (k := 6) (n := 70) hx hb hK hw 6 0 rfl (mg_mS_6 g cI cZ s2_) rfl h dX8_markPonds_28 (fun s3 h H locs hw => ?_)
          refine lv_iinc (v := (x1_2 + 1)) (lv' := [(1, .int (x1_2 + 1)), (0, .ref (g 0))]) hx hb dX8_markPonds_29 hl (k := 1) rfl rfl (by decide) rfl (fun ls hl => ?_)
          refine lv_goto (tgt := 2) hx hb dX8_markPonds_32 (by decide) ?_
          exact ih _ _ _ h kc H locs ls hw (lv_sub hl [1, 0] rfl)
        · refine lv_iload_n hx hb dX8_markPonds_23 rfl (lv_at hl 1 rfl) ?_
          refine lv_goto (tgt := 28) hx hb dX8_markPonds_24 (by decide) ?_
          refine mg_ast (wd := mg_mW g cI cZ) (σ := s2_) (k := 6) (n := 70) hx hb hK hw 6 0 rfl (mg_mS_6 g cI cZ s2_) rfl h dX8_markPonds_28 (fun s4 h H locs hw => ?_)
          refine lv_iinc (v := (x1_2 + 1)) (lv' := [(1, .int (x1_2 + 1)), (0, .ref (g 0))]) hx hb dX8_markPonds_29 hl (k := 1) rfl rfl (by decide) rfl (fun ls hl => ?_)
          refine lv_goto (tgt := 2) hx hb dX8_markPonds_32 (by decide) ?_
          exact ih _ _ _ h kc H locs ls hw (lv_sub hl [1, 0] rfl)
  obtain ⟨y1, h9_, h⟩ := mg_bind h
  refine L2_ _ _ _ _ h9_ (fun H locs ls hw hl => ?_) H locs ls hw (lv_sub hl [1, 0] rfl)
  clear L2_ h9_
  refine lv_iconst (v := 1) hx hb dX8_markPonds_35 (by decide) ?_
  refine lv_istore_n (lv' := [(1, .int 1), (0, .ref (g 0))]) hx hb dX8_markPonds_36 rfl hl (by decide) rfl (fun ls hl => ?_)
  have L37_ : ∀ (n : Nat) (x1_37 : Int32) (s37_ : mg_St) (y37_ : Int32 × mg_St), f_X8_markPonds_37  n x1_37 s37_ = some y37_ → (∀ (H : Heap) (locs : List Loc) (ls : Array Slot), mg_Wo D A s.heap H locs (mg_mW g cI cZ y37_.2) → lv_has ls 4 [(0, .ref (g 0)), (1, .int y37_.1)] → W p l e (headSpec wsX8_markPonds ({ frames := 2, cells := 0, slots := 0, locals := 61 } : Room)).room s m ([.ref (g 0)] : List Value).toArray below meth c H locs 0 0 (MQ below (mg_Q D (mg_mW g cI cZ y) A none) ([.ref (g 0)] : List Value).toArray s 0 0 A) (F0 m 134 ls [])) → ∀ (H : Heap) (locs : List Loc) (ls : Array Slot), mg_Wo D A s.heap H locs (mg_mW g cI cZ s37_) → lv_has ls 4 [(0, .ref (g 0)), (1, .int x1_37)] → W p l e (headSpec wsX8_markPonds ({ frames := 2, cells := 0, slots := 0, locals := 61 } : Room)).room s m ([.ref (g 0)] : List Value).toArray below meth c H locs 0 0 (MQ below (mg_Q D (mg_mW g cI cZ y) A none) ([.ref (g 0)] : List Value).toArray s 0 0 A) (F0 m 37 ls []) := by
    intro n
    induction n with
    | zero => intro x1_37 s37_ y37_ h; rw [f_X8_markPonds_37] at h; cases h
    | succ n ih =>
      intro x1_37 s37_ y37_ h kc H locs ls hw hl
      rw [f_X8_markPonds_37] at h
      refine lv_iload_n hx hb dX8_markPonds_37 rfl (lv_at hl 1 rfl) ?_
      refine mg_if_eq (tgt := 134) hx hb h dX8_markPonds_38 (by decide) (fun h => ?_) (fun h => ?_)
      · cases h
        exact kc H locs ls hw (lv_sub hl [0, 1] rfl)
      · refine lv_iconst (v := 0) hx hb dX8_markPonds_41 (by decide) ?_
        refine lv_istore_n (lv' := [(1, .int 0), (0, .ref (g 0))]) hx hb dX8_markPonds_42 rfl hl (by decide) rfl (fun ls hl => ?_)
        refine lv_iconst (v := 0) hx hb dX8_markPonds_43 (by decide) ?_
        refine lv_istore_n (lv' := [(2, .int 0), (1, .int 0), (0, .ref (g 0))]) hx hb dX8_markPonds_44 rfl hl (by decide) rfl (fun ls hl => ?_)
        have L45_ : ∀ (n : Nat) (x1_45 : Int32) (x2_45 : Int32) (s45_ : mg_St) (y45_ : Int32 × Int32 × mg_St), f_X8_markPonds_45  n x1_45 x2_45 s45_ = some y45_ → (∀ (H : Heap) (locs : List Loc) (ls : Array Slot), mg_Wo D A s.heap H locs (mg_mW g cI cZ y45_.2.2) → lv_has ls 4 [(0, .ref (g 0)), (1, .int y45_.1), (2, .int y45_.2.1)] → W p l e (headSpec wsX8_markPonds ({ frames := 2, cells := 0, slots := 0, locals := 61 } : Room)).room s m ([.ref (g 0)] : List Value).toArray below meth c H locs 0 0 (MQ below (mg_Q D (mg_mW g cI cZ y) A none) ([.ref (g 0)] : List Value).toArray s 0 0 A) (F0 m 131 ls [])) → ∀ (H : Heap) (locs : List Loc) (ls : Array Slot), mg_Wo D A s.heap H locs (mg_mW g cI cZ s45_) → lv_has ls 4 [(0, .ref (g 0)), (1, .int x1_45), (2, .int x2_45)] → W p l e (headSpec wsX8_markPonds ({ frames := 2, cells := 0, slots := 0, locals := 61 } : Room)).room s m ([.ref (g 0)] : List Value).toArray below meth c H locs 0 0 (MQ below (mg_Q D (mg_mW g cI cZ y) A none) ([.ref (g 0)] : List Value).toArray s 0 0 A) (F0 m 45 ls []) := by
          intro n
          induction n with
          | zero => intro x1_45 x2_45 s45_ y45_ h; rw [f_X8_markPonds_45] at h; cases h
          | succ n ih =>
            intro x1_45 x2_45 s45_ y45_ h kc H locs ls hw hl
            rw [f_X8_markPonds_45] at h
            refine lv_iload_n hx hb dX8_markPonds_45 rfl (lv_at hl 2 rfl) ?_
            refine lv_bipush (v := 70) hx hb dX8_markPonds_46 (by decide) ?_
            refine mg_icmp_ge (tgt := 131) hx hb h dX8_markPonds_48 (by decide) (fun h => ?_) (fun h => ?_)
            · cases h
              exact kc H locs ls hw (lv_sub hl [0, 1, 2] rfl)
            · refine lv_iconst (v := 0) hx hb dX8_markPonds_51 (by decide) ?_
              refine lv_istore_n (lv' := [(3, .int 0), (0, .ref (g 0)), (1, .int x1_45), (2, .int x2_45)]) hx hb dX8_markPonds_52 rfl hl (by decide) rfl (fun ls hl => ?_)
              have L53_ : ∀ (n : Nat) (x1_53 : Int32) (x3_53 : Int32) (s53_ : mg_St) (y53_ : Int32 × Int32 × mg_St), f_X8_markPonds_53 x2_45 n x1_53 x3_53 s53_ = some y53_ → (∀ (H : Heap) (locs : List Loc) (ls : Array Slot), mg_Wo D A s.heap H locs (mg_mW g cI cZ y53_.2.2) → lv_has ls 4 [(0, .ref (g 0)), (1, .int y53_.1), (2, .int x2_45), (3, .int y53_.2.1)] → W p l e (headSpec wsX8_markPonds ({ frames := 2, cells := 0, slots := 0, locals := 61 } : Room)).room s m ([.ref (g 0)] : List Value).toArray below meth c H locs 0 0 (MQ below (mg_Q D (mg_mW g cI cZ y) A none) ([.ref (g 0)] : List Value).toArray s 0 0 A) (F0 m 125 ls [])) → ∀ (H : Heap) (locs : List Loc) (ls : Array Slot), mg_Wo D A s.heap H locs (mg_mW g cI cZ s53_) → lv_has ls 4 [(0, .ref (g 0)), (1, .int x1_53), (2, .int x2_45), (3, .int x3_53)] → W p l e (headSpec wsX8_markPonds ({ frames := 2, cells := 0, slots := 0, locals := 61 } : Room)).room s m ([.ref (g 0)] : List Value).toArray below meth c H locs 0 0 (MQ below (mg_Q D (mg_mW g cI cZ y) A none) ([.ref (g 0)] : List Value).toArray s 0 0 A) (F0 m 53 ls []) := by
                intro n
                induction n with
                | zero => intro x1_53 x3_53 s53_ y53_ h; rw [f_X8_markPonds_53] at h; cases h
                | succ n ih =>
                  intro x1_53 x3_53 s53_ y53_ h kc H locs ls hw hl
                  rw [f_X8_markPonds_53] at h
                  refine lv_iload_n hx hb dX8_markPonds_53 rfl (lv_at hl 3 rfl) ?_
                  refine lv_bipush (v := 70) hx hb dX8_markPonds_54 (by decide) ?_
                  refine mg_icmp_ge (tgt := 125) hx hb h dX8_markPonds_56 (by decide) (fun h => ?_) (fun h => ?_)
                  · cases h
                    exact kc H locs ls hw (lv_sub hl [0, 1, 2, 3] rfl)
                  · refine lv_aload_n hx hb dX8_markPonds_59 rfl (lv_at hl 0 rfl) ?_
                    refine va_get (D := D) (ci := 8) (v := .ref (g 6)) (C := RX8) (T := TX8) (N := 15) hx hb hts iX8_ hown hK hw.1 0 rfl rfl 4 (by decide) w0_ (fun _ h9 => h9) rfl dX8_markPonds_60 ?_
                    refine lv_iload_n hx hb dX8_markPonds_63 rfl (lv_at hl 2 rfl) ?_
                    refine mg_ald (σ := s53_) (k := 6) (n := 70) hx hb hK hw 6 0 rfl rfl h dX8_markPonds_64 (fun v8 h => ?_)
                    refine lv_iconst (v := (-1)) hx hb dX8_markPonds_65 (by decide) ?_
                    refine mg_icmp_eq (tgt := 119) hx hb h dX8_markPonds_66 (by decide) (fun h => ?_) (fun h => ?_)
                    · refine lv_iinc (v := (x3_53 + 1)) (lv' := [(3, .int (x3_53 + 1)), (0, .ref (g 0)), (1, .int x1_53), (2, .int x2_45)]) hx hb dX8_markPonds_119 hl (k := 3) rfl rfl (by decide) rfl (fun ls hl => ?_)
                      refine lv_goto (tgt := 53) hx hb dX8_markPonds_122 (by decide) ?_
                      exact ih _ _ _ _ h kc H locs ls hw (lv_sub hl [1, 2, 3, 0] rfl)
                    · refine lv_aload_n hx hb dX8_markPonds_69 rfl (lv_at hl 0 rfl) ?_
                      refine va_get (D := D) (ci := 8) (v := .ref (g 6)) (C := RX8) (T := TX8) (N := 15) hx hb hts iX8_ hown hK hw.1 0 rfl rfl 4 (by decide) w0_ (fun _ h9 => h9) rfl dX8_markPonds_70 ?_
                      refine lv_iload_n hx hb dX8_markPonds_73 rfl (lv_at hl 3 rfl) ?_
                      refine mg_ald (σ := s53_) (k := 6) (n := 70) hx hb hK hw 6 0 rfl rfl h dX8_markPonds_74 (fun v9 h => ?_)
                      refine lv_iconst (v := (-1)) hx hb dX8_markPonds_75 (by decide) ?_
                      refine mg_icmp_eq (tgt := 119) hx hb h dX8_markPonds_76 (by decide) (fun h => ?_) (fun h => ?_)
                      · refine lv_iinc (v := (x3_53 + 1)) (lv' := [(3, .int (x3_53 + 1)), (0, .ref (g 0)), (1, .int x1_53), (2, .int x2_45)]) hx hb dX8_markPonds_119 hl (k := 3) rfl rfl (by decide) rfl (fun ls hl => ?_)
                        refine lv_goto (tgt := 53) hx hb dX8_markPonds_122 (by decide) ?_
                        exact ih _ _ _ _ h kc H locs ls hw (lv_sub hl [1, 2, 3, 0] rfl)
                      · refine lv_aload_n hx hb dX8_markPonds_79 rfl (lv_at hl 0 rfl) ?_
                        refine va_get (D := D) (ci := 8) (v := .ref (g 6)) (C := RX8) (T := TX8) (N := 15) hx hb hts iX8_ hown hK hw.1 0 rfl rfl 4 (by decide) w0_ (fun _ h9 => h9) rfl dX8_markPonds_80 ?_
                        refine lv_iload_n hx hb dX8_markPonds_83 rfl (lv_at hl 3 rfl) ?_
                        refine mg_ald (σ := s53_) (k := 6) (n := 70) hx hb hK hw 6 0 rfl rfl h dX8_markPonds_84 (fun v10 h => ?_)
                        refine lv_aload_n hx hb dX8_markPonds_85 rfl (lv_at hl 0 rfl) ?_
                        refine va_get (D := D) (ci := 8) (v := .ref (g 6)) (C := RX8) (T := TX8) (N := 15) hx hb hts iX8_ hown hK hw.1 0 rfl rfl 4 (by decide) w0_ (fun _ h9 => h9) rfl dX8_markPonds_86 ?_
                        refine lv_iload_n hx hb dX8_markPonds_89 rfl (lv_at hl 2 rfl) ?_
                        refine mg_ald (σ := s53_) (k := 6) (n := 70) hx hb hK hw 6 0 rfl rfl h dX8_markPonds_90 (fun v11 h => ?_)
                        refine mg_icmp_ge (tgt := 119) hx hb h dX8_markPonds_91 (by decide) (fun h => ?_) (fun h => ?_)
                        · refine lv_iinc (v := (x3_53 + 1)) (lv' := [(3, .int (x3_53 + 1)), (0, .ref (g 0)), (1, .int x1_53), (2, .int x2_45)]) hx hb dX8_markPonds_119 hl (k := 3) rfl rfl (by decide) rfl (fun ls hl => ?_)
                          refine lv_goto (tgt := 53) hx hb dX8_markPonds_122 (by decide) ?_
                          exact ih _ _ _ _ h kc H locs ls hw (lv_sub hl [1, 2, 3, 0] rfl)
                        · refine lv_iload_n hx hb dX8_markPonds_94 rfl (lv_at hl 2 rfl) ?_
                          refine lv_iload_n hx hb dX8_markPonds_95 rfl (lv_at hl 3 rfl) ?_
                          obtain ⟨y12, h9_, h⟩ := mg_bind h
                          refine mg_k (rv := (some (.int y12))) (va_runS (As := [.int x2_45, .int x3_53]) (rest := []) G9 (k_X8_areNeighbours l D o cI cZ g H.size s53_ x2_45 x3_53 y12 h9_) (va_cwS 2 hts gX8_markPonds_X8_areNeighbours rfl rfl rfl (by decide +kernel) ⟨Nat.le_of_ble_eq_true rfl, Nat.le_of_ble_eq_true rfl⟩) (mg_pre hK hO hA hw) rfl rfl hl.1 rfl (lv_room (Nat.le_of_ble_eq_true rfl)) dX8_markPonds_96 ⟨Nat.zero_le _, Nat.zero_le _⟩) hw hA (fun H locs hw => ?_)
                          clear h9_
                          refine mg_if_ne (tgt := 105) hx hb h dX8_markPonds_99 (by decide) (fun h => ?_) (fun h => ?_)
                          · refine lv_aload_n hx hb dX8_markPonds_105 rfl (lv_at hl 0 rfl) ?_
                            refine va_get (D := D) (ci := 8) (v := .ref (g 6)) (C := RX8) (T := TX8) (N := 15) hx hb hts iX8_ hown hK hw.1 0 rfl rfl 4 (by decide) w0_ (fun _ h9 => h9) rfl dX8_markPonds_106 ?_
                            refine lv_iload_n hx hb dX8_markPonds_109 rfl (lv_at hl 2 rfl) ?_
                            refine lv_aload_n hx hb dX8_markPonds_110 rfl (lv_at hl 0 rfl) ?_
                            refine va_get (D := D) (ci := 8) (v := .ref (g 6)) (C := RX8) (T := TX8) (N := 15) hx hb hts iX8_ hown hK hw.1 0 rfl rfl 4 (by decide) w0_ (fun _ h9 => h9) rfl dX8_markPonds_111 ?_
                            refine lv_iload_n hx hb dX8_markPonds_114 rfl (lv_at hl 3 rfl) ?_
                            refine mg_ald (σ := s53_) (k := 6) (n := 70) hx hb hK hw 6 0 rfl rfl h dX8_markPonds_115 (fun v13 h => ?_)
                            refine mg_ast (wd := mg_mW g cI cZ) (σ := s53_) (k := 6) (n := 70) hx hb hK hw 6 0 rfl (mg_mS_6 g cI cZ s53_) rfl h dX8_markPonds_116 (fun s14 h H locs hw => ?_)
                            refine lv_iconst (v := 1) hx hb dX8_markPonds_117 (by decide) ?_
                            refine lv_istore_n (lv' := [(1, .int 1), (0, .ref (g 0)), (2, .int x2_45), (3, .int x3_53)]) hx hb dX8_markPonds_118 rfl hl (by decide) rfl (fun ls hl => ?_)
                            refine lv_iinc (v := (x3_53 + 1)) (lv' := [(3, .int (x3_53 + 1)), (1, .int 1), (0, .ref (g 0)), (2, .int x2_45)]) hx hb dX8_markPonds_119 hl (k := 3) rfl rfl (by decide) rfl (fun ls hl => ?_)
                            refine lv_goto (tgt := 53) hx hb dX8_markPonds_122 (by decide) ?_
                            exact ih _ _ _ _ h kc H locs ls hw (lv_sub hl [2, 1, 3, 0] rfl)
                          · refine lv_goto (tgt := 119) hx hb dX8_markPonds_102 (by decide) ?_
                            refine lv_iinc (v := (x3_53 + 1)) (lv' := [(3, .int (x3_53 + 1)), (0, .ref (g 0)), (1, .int x1_53), (2, .int x2_45)]) hx hb dX8_markPonds_119 hl (k := 3) rfl rfl (by decide) rfl (fun ls hl => ?_)
                            refine lv_goto (tgt := 53) hx hb dX8_markPonds_122 (by decide) ?_
                            exact ih _ _ _ _ h kc H locs ls hw (lv_sub hl [1, 2, 3, 0] rfl)
              obtain ⟨y7, h9_, h⟩ := mg_bind h
              refine L53_ _ _ _ _ _ h9_ (fun H locs ls hw hl => ?_) H locs ls hw (lv_sub hl [1, 2, 3, 0] rfl)
              clear L53_ h9_
              refine lv_iinc (v := (x2_45 + 1)) (lv' := [(2, .int (x2_45 + 1)), (0, .ref (g 0)), (1, .int y7.1), (3, .int y7.2.1)]) hx hb dX8_markPonds_125 hl (k := 2) rfl rfl (by decide) rfl (fun ls hl => ?_)
              refine lv_goto (tgt := 45) hx hb dX8_markPonds_128 (by decide) ?_
              exact ih _ _ _ _ h kc H locs ls hw (lv_sub hl [1, 2, 0] rfl)
        obtain ⟨y6, h9_, h⟩ := mg_bind h
        refine L45_ _ _ _ _ _ h9_ (fun H locs ls hw hl => ?_) H locs ls hw (lv_sub hl [2, 1, 0] rfl)
        clear L45_ h9_
        refine lv_goto (tgt := 37) hx hb dX8_markPonds_131 (by decide) ?_
        exact ih _ _ _ h kc H locs ls hw (lv_sub hl [0, 1] rfl)
  obtain ⟨y5, h9_, h⟩ := mg_bind h
  refine L37_ _ _ _ _ h9_ (fun H locs ls hw hl => ?_) H locs ls hw (lv_sub hl [1, 0] rfl)
  clear L37_ h9_
  cases h
  exact mg_eV hx hb hr hlocks hw (Nat.zero_le _) (Nat.zero_le _) dX8_markPonds_134
set_option maxHeartbeats 4000000 in
set_option maxRecDepth 100000 in
theorem k_X8_cellsOf (l : Launch) (D : va_G) (o : Nat → Nat) (cI cZ : ClassId) (g : Nat → Nat) (sz : Nat) (σ : mg_St) (x1 : Int32) (y : Int32) (h : f_X8_cellsOf σ x1 = some y) : mg_CT l yX8_cellsOf wsX8_cellsOf ({ frames := 0, cells := 0, slots := 0, locals := 0 } : Room) D [(cI, .int), (cZ, .boolean)] o (mg_mW g cI cZ σ) sz [.ref (g 0), .int x1] (some (.int y)) (mg_mW g cI cZ σ) 0 0 := by
  unfold mg_CT
  refine Met.ofW (cc := cX8_cellsOf) (maxL := 7) (ret := (some .int)) (by decide) rfl ?_
  intro p e s m args below meth c s₁ B hml hv
  obtain ⟨rfl, hsz, hP, hK, hD0, hO⟩ := hv
  have hx := B.exec
  have hb := B.bytes
  have hr := B.returns
  have hts := atoms_spec (ws := wsX8_cellsOf) B.pre
  have hown : s.vm.findClass RX8 = some m.cls := findClass_of_methodNamed B.named
  have hlocks := B.notSynchronized
  subst hsz
  have hD := hD0.self (sz := s.heap.size)
  generalize hAe : va_A (mg_mW g cI cZ σ) s.heap.size = A at hD hO ⊢
  have hA : ∀ q : Nat, s.heap.size ≤ q → A q := fun q h => by rw [← hAe]; exact Or.inr h
  have hw : mg_Wo D A s.heap s.heap [] (mg_mW g cI cZ σ) := ⟨hP, hD, va_S.rf⟩
  have G9 : CallFix p m c cX8_cellsOf 7 s ([.ref (g 0), .int x1] : List Value).toArray wsX8_cellsOf RX8 := ⟨hx, hb, hml, hown, hts⟩
  clear hP hD hD0 hAe
  obtain ⟨H, hHe⟩ : ∃ H : Heap, H = s.heap := ⟨_, rfl⟩
  have w0_ := hts (.fieldLink RX8 19 "MoonGateModel" "pond" "[I") (by decide +kernel)
  have iX8_ : ∀ w ∈ wsX80, w ∈ wsX8_cellsOf := (fun _ h => List.mem_cons_of_mem _ (List.mem_append_right _ h))
  have hl := lv_entry ([.ref (g 0), .int x1]) (n := 7) (Nat.le_of_ble_eq_true rfl)
  rw [lg_entry_eq]
  generalize (lg_sl ([.ref (g 0), .int x1]) ++ List.replicate (7 - (lg_sl ([.ref (g 0), .int x1])).length) Slot.unset).toArray = ls at hl ⊢
  have hl : lv_has ls 7 [(0, .ref (g 0)), (1, .int x1)] := hl
  unfold f_X8_cellsOf at h
  revert hw
  intro hw
  suffices K_ : ∀ (H : Heap) (locs : List Loc), mg_Wo D A s.heap H locs (mg_mW g cI cZ σ) → W p l e (headSpec wsX8_cellsOf ({ frames := 0, cells := 0, slots := 0, locals := 0 } : Room)).room s m ([.ref (g 0), .int x1] : List Value).toArray below meth c H locs 0 0 (MQ below (mg_Q D (mg_mW g cI cZ σ) A (some (.int y))) ([.ref (g 0), .int x1] : List Value).toArray s 0 0 A) (F0 m 0 ls []) from K_ _ _ hw
  clear hw hHe H
  intro H locs hw
  refine lv_iconst (v := 0) hx hb dX8_cellsOf_0 (by decide) ?_
  refine lv_istore_n (lv' := [(2, .int 0), (0, .ref (g 0)), (1, .int x1)]) hx hb dX8_cellsOf_1 rfl hl (by decide) rfl (fun ls hl => ?_)
  refine lv_aload_n hx hb dX8_cellsOf_2 rfl (lv_at hl 1 rfl) ?_
  refine va_get (D := D) (ci := 8) (v := .ref (g 6)) (C := RX8) (T := TX8) (N := 15) hx hb hts iX8_ hown hK hw.1 0 rfl rfl 4 (by decide) w0_ (fun _ h9 => h9) rfl dX8_cellsOf_3 ?_
  refine lv_astore_n (lv' := [(3, .ref (g 6)), (2, .int 0), (0, .ref (g 0)), (1, .int x1)]) hx hb dX8_cellsOf_6 rfl hl (by decide) rfl (fun ls hl => ?_)
  refine lv_aload_n hx hb dX8_cellsOf_7 rfl (lv_at hl 0 rfl) ?_
  refine va_alen (v := 70) hx hb hK hw.1 6 0 rfl rfl rfl dX8_cellsOf_8 ?_
  refine lv_istore (lv' := [(4, .int 70), (3, .ref (g 6)), (2, .int 0), (0, .ref (g 0)), (1, .int x1)]) hx hb dX8_cellsOf_9 hl (by decide) rfl (fun ls hl => ?_)
  refine lv_iconst (v := 0) hx hb dX8_cellsOf_11 (by decide) ?_
  refine lv_istore (lv' := [(5, .int 0), (4, .int 70), (3, .ref (g 6)), (2, .int 0), (0, .ref (g 0)), (1, .int x1)]) hx hb dX8_cellsOf_12 hl (by decide) rfl (fun ls hl => ?_)
  have L14_ : ∀ (n : Nat) (x2_14 : Int32) (x5_14 : Int32) (y14_ : Int32 × Int32), f_X8_cellsOf_14 σ x1 70 n x2_14 x5_14 = some y14_ → (∀ (H : Heap) (locs : List Loc) (ls : Array Slot), mg_Wo D A s.heap H locs (mg_mW g cI cZ σ) → lv_has ls 7 [(0, .ref (g 0)), (1, .int x1), (2, .int y14_.1), (3, .ref (g 6)), (4, .int 70), (5, .int y14_.2)] → W p l e (headSpec wsX8_cellsOf ({ frames := 0, cells := 0, slots := 0, locals := 0 } : Room)).room s m ([.ref (g 0), .int x1] : List Value).toArray below meth c H locs 0 0 (MQ below (mg_Q D (mg_mW g cI cZ σ) A (some (.int y))) ([.ref (g 0), .int x1] : List Value).toArray s 0 0 A) (F0 m 47 ls [])) → ∀ (H : Heap) (locs : List Loc) (ls : Array Slot), mg_Wo D A s.heap H locs (mg_mW g cI cZ σ) → lv_has ls 7 [(0, .ref (g 0)), (1, .int x1), (2, .int x2_14), (3, .ref (g 6)), (4, .int 70), (5, .int x5_14)] → W p l e (headSpec wsX8_cellsOf ({ frames := 0, cells := 0, slots := 0, locals := 0 } : Room)).room s m ([.ref (g 0), .int x1] : List Value).toArray below meth c H locs 0 0 (MQ below (mg_Q D (mg_mW g cI cZ σ) A (some (.int y))) ([.ref (g 0), .int x1] : List Value).toArray s 0 0 A) (F0 m 14 ls []) := by
    intro n
    induction n with
    | zero => intro x2_14 x5_14 y14_ h; rw [f_X8_cellsOf_14] at h; cases h
    | succ n ih =>
      intro x2_14 x5_14 y14_ h kc H locs ls hw hl
      rw [f_X8_cellsOf_14] at h
      refine lv_iload hx hb dX8_cellsOf_14 (lv_at hl 5 rfl) ?_
      refine lv_iload hx hb dX8_cellsOf_16 (lv_at hl 4 rfl) ?_
      refine mg_icmp_ge (tgt := 47) hx hb h dX8_cellsOf_18 (by decide) (fun h => ?_) (fun h => ?_)
      · cases h
        exact kc H locs ls hw (lv_sub hl [0, 1, 2, 3, 4, 5] rfl)
      · refine lv_aload_n hx hb dX8_cellsOf_21 rfl (lv_at hl 3 rfl) ?_
        refine lv_iload hx hb dX8_cellsOf_22 (lv_at hl 5 rfl) ?_
        refine mg_ald (σ := σ) (k := 6) (n := 70) hx hb hK hw 6 0 rfl rfl h dX8_cellsOf_24 (fun v2 h => ?_)
        refine lv_istore (lv' := [(6, .int v2), (0, .ref (g 0)), (1, .int x1), (2, .int x2_14), (3, .ref (g 6)), (4, .int 70), (5, .int x5_14)]) hx hb dX8_cellsOf_25 hl (by decide) rfl (fun ls hl => ?_)
        refine lv_iload_n hx hb dX8_cellsOf_27 rfl (lv_at hl 3 rfl) ?_
        refine lv_iload hx hb dX8_cellsOf_28 (lv_at hl 0 rfl) ?_
        refine lv_iload_n hx hb dX8_cellsOf_30 rfl (lv_at hl 2 rfl) ?_
        refine mg_icmp_ne (tgt := 38) hx hb h dX8_cellsOf_31 (by decide) (fun h => ?_) (fun h => ?_)
        · refine lv_iconst (v := 0) hx hb dX8_cellsOf_38 (by decide) ?_
          refine lv_iadd hx hb dX8_cellsOf_39 ?_
          refine lv_istore_n (lv' := [(2, .int (x2_14 + 0)), (6, .int v2), (0, .ref (g 0)), (1, .int x1), (3, .ref (g 6)), (4, .int 70), (5, .int x5_14)]) hx hb dX8_cellsOf_40 rfl hl (by decide) rfl (fun ls hl => ?_)
          refine lv_iinc (v := (x5_14 + 1)) (lv' := [(5, .int (x5_14 + 1)), (2, .int (x2_14 + 0)), (6, .int v2), (0, .ref (g 0)), (1, .int x1), (3, .ref (g 6)), (4, .int 70)]) hx hb dX8_cellsOf_41 hl (k := 6) rfl rfl (by decide) rfl (fun ls hl => ?_)
          refine lv_goto (tgt := 14) hx hb dX8_cellsOf_44 (by decide) ?_
          exact ih _ _ _ h kc H locs ls hw (lv_sub hl [3, 4, 1, 5, 6, 0] rfl)
        · refine lv_iconst (v := 1) hx hb dX8_cellsOf_34 (by decide) ?_
          refine lv_goto (tgt := 39) hx hb dX8_cellsOf_35 (by decide) ?_
          refine lv_iadd hx hb dX8_cellsOf_39 ?_
          refine lv_istore_n (lv' := [(2, .int (x2_14 + 1)), (6, .int v2), (0, .ref (g 0)), (1, .int x1), (3, .ref (g 6)), (4, .int 70), (5, .int x5_14)]) hx hb dX8_cellsOf_40 rfl hl (by decide) rfl (fun ls hl => ?_)
          refine lv_iinc (v := (x5_14 + 1)) (lv' := [(5, .int (x5_14 + 1)), (2, .int (x2_14 + 1)), (6, .int v2), (0, .ref (g 0)), (1, .int x1), (3, .ref (g 6)), (4, .int 70)]) hx hb dX8_cellsOf_41 hl (k := 6) rfl rfl (by decide) rfl (fun ls hl => ?_)
          refine lv_goto (tgt := 14) hx hb dX8_cellsOf_44 (by decide) ?_
          exact ih _ _ _ h kc H locs ls hw (lv_sub hl [3, 4, 1, 5, 6, 0] rfl)
  obtain ⟨y1, h9_, h⟩ := mg_bind h
  refine L14_ _ _ _ _ h9_ (fun H locs ls hw hl => ?_) H locs ls hw (lv_sub hl [4, 5, 3, 2, 1, 0] rfl)
  clear L14_ h9_
  refine lv_iload_n hx hb dX8_cellsOf_47 rfl (lv_at hl 2 rfl) ?_
  cases h
  exact mg_eI hx hb hr hlocks hw (Nat.zero_le _) (Nat.zero_le _) dX8_cellsOf_48
set_option maxHeartbeats 4000000 in
set_option maxRecDepth 100000 in
theorem k_X8_carpsOf (l : Launch) (D : va_G) (o : Nat → Nat) (cI cZ : ClassId) (g : Nat → Nat) (sz : Nat) (σ : mg_St) (x1 : Int32) (y : Int32) (h : f_X8_carpsOf σ x1 = some y) : mg_CT l yX8_carpsOf wsX8_carpsOf ({ frames := 0, cells := 0, slots := 0, locals := 0 } : Room) D [(cI, .int), (cZ, .boolean)] o (mg_mW g cI cZ σ) sz [.ref (g 0), .int x1] (some (.int y)) (mg_mW g cI cZ σ) 0 0 := by
  unfold mg_CT
  refine Met.ofW (cc := cX8_carpsOf) (maxL := 4) (ret := (some .int)) (by decide) rfl ?_
  intro p e s m args below meth c s₁ B hml hv
  obtain ⟨rfl, hsz, hP, hK, hD0, hO⟩ := hv
  have hx := B.exec
  have hb := B.bytes
  have hr := B.returns
  have hts := atoms_spec (ws := wsX8_carpsOf) B.pre
  have hown : s.vm.findClass RX8 = some m.cls := findClass_of_methodNamed B.named
  have hlocks := B.notSynchronized
  subst hsz
  have hD := hD0.self (sz := s.heap.size)
  generalize hAe : va_A (mg_mW g cI cZ σ) s.heap.size = A at hD hO ⊢
  have hA : ∀ q : Nat, s.heap.size ≤ q → A q := fun q h => by rw [← hAe]; exact Or.inr h
  have hw : mg_Wo D A s.heap s.heap [] (mg_mW g cI cZ σ) := ⟨hP, hD, va_S.rf⟩
  have G9 : CallFix p m c cX8_carpsOf 4 s ([.ref (g 0), .int x1] : List Value).toArray wsX8_carpsOf RX8 := ⟨hx, hb, hml, hown, hts⟩
  clear hP hD hD0 hAe
  obtain ⟨H, hHe⟩ : ∃ H : Heap, H = s.heap := ⟨_, rfl⟩
  have w0_ := hts (.fieldLink RX8 71 "MoonGateModel" "carps" "I") (by decide +kernel)
  have iX8_ : ∀ w ∈ wsX80, w ∈ wsX8_carpsOf := (fun _ h => List.mem_cons_of_mem _ (List.mem_append_right _ h))
  have w2_ := hts (.fieldLink RX8 25 "MoonGateModel" "sold" "[I") (by decide +kernel)
  have w3_ := hts (.fieldLink RX8 19 "MoonGateModel" "pond" "[I") (by decide +kernel)
  have w4_ := hts (.fieldLink RX8 22 "MoonGateModel" "swims" "[I") (by decide +kernel)
  have hl := lv_entry ([.ref (g 0), .int x1]) (n := 4) (Nat.le_of_ble_eq_true rfl)
  rw [lg_entry_eq]
  generalize (lg_sl ([.ref (g 0), .int x1]) ++ List.replicate (4 - (lg_sl ([.ref (g 0), .int x1])).length) Slot.unset).toArray = ls at hl ⊢
  have hl : lv_has ls 4 [(0, .ref (g 0)), (1, .int x1)] := hl
  unfold f_X8_carpsOf at h
  revert hw
  intro hw
  suffices K_ : ∀ (H : Heap) (locs : List Loc), mg_Wo D A s.heap H locs (mg_mW g cI cZ σ) → W p l e (headSpec wsX8_carpsOf ({ frames := 0, cells := 0, slots := 0, locals := 0 } : Room)).room s m ([.ref (g 0), .int x1] : List Value).toArray below meth c H locs 0 0 (MQ below (mg_Q D (mg_mW g cI cZ σ) A (some (.int y))) ([.ref (g 0), .int x1] : List Value).toArray s 0 0 A) (F0 m 0 ls []) from K_ _ _ hw
  clear hw hHe H
  intro H locs hw
  refine lv_iconst (v := 0) hx hb dX8_carpsOf_0 (by decide) ?_
  refine lv_istore_n (lv' := [(2, .int 0), (0, .ref (g 0)), (1, .int x1)]) hx hb dX8_carpsOf_1 rfl hl (by decide) rfl (fun ls hl => ?_)
  refine lv_iconst (v := 0) hx hb dX8_carpsOf_2 (by decide) ?_
  refine lv_istore_n (lv' := [(3, .int 0), (2, .int 0), (0, .ref (g 0)), (1, .int x1)]) hx hb dX8_carpsOf_3 rfl hl (by decide) rfl (fun ls hl => ?_)
  have L4_ : ∀ (n : Nat) (x2_4 : Int32) (x3_4 : Int32) (y4_ : Int32 × Int32), f_X8_carpsOf_4 σ x1 n x2_4 x3_4 = some y4_ → (∀ (H : Heap) (locs : List Loc) (ls : Array Slot), mg_Wo D A s.heap H locs (mg_mW g cI cZ σ) → lv_has ls 4 [(0, .ref (g 0)), (1, .int x1), (2, .int y4_.1), (3, .int y4_.2)] → W p l e (headSpec wsX8_carpsOf ({ frames := 0, cells := 0, slots := 0, locals := 0 } : Room)).room s m ([.ref (g 0), .int x1] : List Value).toArray below meth c H locs 0 0 (MQ below (mg_Q D (mg_mW g cI cZ σ) A (some (.int y))) ([.ref (g 0), .int x1] : List Value).toArray s 0 0 A) (F0 m 50 ls [])) → ∀ (H : Heap) (locs : List Loc) (ls : Array Slot), mg_Wo D A s.heap H locs (mg_mW g cI cZ σ) → lv_has ls 4 [(0, .ref (g 0)), (1, .int x1), (2, .int x2_4), (3, .int x3_4)] → W p l e (headSpec wsX8_carpsOf ({ frames := 0, cells := 0, slots := 0, locals := 0 } : Room)).room s m ([.ref (g 0), .int x1] : List Value).toArray below meth c H locs 0 0 (MQ below (mg_Q D (mg_mW g cI cZ σ) A (some (.int y))) ([.ref (g 0), .int x1] : List Value).toArray s 0 0 A) (F0 m 4 ls []) := by
    intro n
    induction n with
    | zero => intro x2_4 x3_4 y4_ h; rw [f_X8_carpsOf_4] at h; cases h
    | succ n ih =>
      intro x2_4 x3_4 y4_ h kc H locs ls hw hl
      rw [f_X8_carpsOf_4] at h
      refine lv_iload_n hx hb dX8_carpsOf_4 rfl (lv_at hl 3 rfl) ?_
      refine lv_aload_n hx hb dX8_carpsOf_5 rfl (lv_at hl 0 rfl) ?_
      refine va_get (D := D) (ci := 8) (v := .int (σ 0 5)) (C := RX8) (T := TX8) (N := 15) hx hb hts iX8_ hown hK hw.1 0 rfl rfl 5 (by decide) w0_ (fun _ h9 => h9) rfl dX8_carpsOf_6 ?_
      refine mg_icmp_ge (tgt := 50) hx hb h dX8_carpsOf_9 (by decide) (fun h => ?_) (fun h => ?_)
      · cases h
        exact kc H locs ls hw (lv_sub hl [0, 1, 2, 3] rfl)
      · refine lv_iload_n hx hb dX8_carpsOf_12 rfl (lv_at hl 2 rfl) ?_
        refine lv_aload_n hx hb dX8_carpsOf_13 rfl (lv_at hl 0 rfl) ?_
        refine va_get (D := D) (ci := 8) (v := .ref (g 8)) (C := RX8) (T := TX8) (N := 15) hx hb hts iX8_ hown hK hw.1 0 rfl rfl 7 (by decide) w2_ (fun _ h9 => h9) rfl dX8_carpsOf_14 ?_
        refine lv_iload_n hx hb dX8_carpsOf_17 rfl (lv_at hl 3 rfl) ?_
        refine mg_ald (σ := σ) (k := 8) (n := 30) hx hb hK hw 8 0 rfl rfl h dX8_carpsOf_18 (fun v2 h => ?_)
        refine mg_if_ne (tgt := 41) hx hb h dX8_carpsOf_19 (by decide) (fun h => ?_) (fun h => ?_)
        · refine lv_iconst (v := 0) hx hb dX8_carpsOf_41 (by decide) ?_
          refine lv_iadd hx hb dX8_carpsOf_42 ?_
          refine lv_istore_n (lv' := [(2, .int (x2_4 + 0)), (0, .ref (g 0)), (1, .int x1), (3, .int x3_4)]) hx hb dX8_carpsOf_43 rfl hl (by decide) rfl (fun ls hl => ?_)
          refine lv_iinc (v := (x3_4 + 1)) (lv' := [(3, .int (x3_4 + 1)), (2, .int (x2_4 + 0)), (0, .ref (g 0)), (1, .int x1)]) hx hb dX8_carpsOf_44 hl (k := 3) rfl rfl (by decide) rfl (fun ls hl => ?_)
          refine lv_goto (tgt := 4) hx hb dX8_carpsOf_47 (by decide) ?_
          exact ih _ _ _ h kc H locs ls hw (lv_sub hl [2, 3, 1, 0] rfl)
        · refine lv_aload_n hx hb dX8_carpsOf_22 rfl (lv_at hl 0 rfl) ?_
          refine va_get (D := D) (ci := 8) (v := .ref (g 6)) (C := RX8) (T := TX8) (N := 15) hx hb hts iX8_ hown hK hw.1 0 rfl rfl 4 (by decide) w3_ (fun _ h9 => h9) rfl dX8_carpsOf_23 ?_
          refine lv_aload_n hx hb dX8_carpsOf_26 rfl (lv_at hl 0 rfl) ?_
          refine va_get (D := D) (ci := 8) (v := .ref (g 7)) (C := RX8) (T := TX8) (N := 15) hx hb hts iX8_ hown hK hw.1 0 rfl rfl 6 (by decide) w4_ (fun _ h9 => h9) rfl dX8_carpsOf_27 ?_
          refine lv_iload_n hx hb dX8_carpsOf_30 rfl (lv_at hl 3 rfl) ?_
          refine mg_ald (σ := σ) (k := 7) (n := 30) hx hb hK hw 7 0 rfl rfl h dX8_carpsOf_31 (fun v3 h => ?_)
          refine mg_ald (σ := σ) (k := 6) (n := 70) hx hb hK hw 6 0 rfl rfl h dX8_carpsOf_32 (fun v4 h => ?_)
          refine lv_iload_n hx hb dX8_carpsOf_33 rfl (lv_at hl 1 rfl) ?_
          refine mg_icmp_ne (tgt := 41) hx hb h dX8_carpsOf_34 (by decide) (fun h => ?_) (fun h => ?_)
          · refine lv_iconst (v := 0) hx hb dX8_carpsOf_41 (by decide) ?_
            refine lv_iadd hx hb dX8_carpsOf_42 ?_
            refine lv_istore_n (lv' := [(2, .int (x2_4 + 0)), (0, .ref (g 0)), (1, .int x1), (3, .int x3_4)]) hx hb dX8_carpsOf_43 rfl hl (by decide) rfl (fun ls hl => ?_)
            refine lv_iinc (v := (x3_4 + 1)) (lv' := [(3, .int (x3_4 + 1)), (2, .int (x2_4 + 0)), (0, .ref (g 0)), (1, .int x1)]) hx hb dX8_carpsOf_44 hl (k := 3) rfl rfl (by decide) rfl (fun ls hl => ?_)
            refine lv_goto (tgt := 4) hx hb dX8_carpsOf_47 (by decide) ?_
            exact ih _ _ _ h kc H locs ls hw (lv_sub hl [2, 3, 1, 0] rfl)
          · refine lv_iconst (v := 1) hx hb dX8_carpsOf_37 (by decide) ?_
            refine lv_goto (tgt := 42) hx hb dX8_carpsOf_38 (by decide) ?_
            refine lv_iadd hx hb dX8_carpsOf_42 ?_
            refine lv_istore_n (lv' := [(2, .int (x2_4 + 1)), (0, .ref (g 0)), (1, .int x1), (3, .int x3_4)]) hx hb dX8_carpsOf_43 rfl hl (by decide) rfl (fun ls hl => ?_)
            refine lv_iinc (v := (x3_4 + 1)) (lv' := [(3, .int (x3_4 + 1)), (2, .int (x2_4 + 1)), (0, .ref (g 0)), (1, .int x1)]) hx hb dX8_carpsOf_44 hl (k := 3) rfl rfl (by decide) rfl (fun ls hl => ?_)
            refine lv_goto (tgt := 4) hx hb dX8_carpsOf_47 (by decide) ?_
            exact ih _ _ _ h kc H locs ls hw (lv_sub hl [2, 3, 1, 0] rfl)
  obtain ⟨y1, h9_, h⟩ := mg_bind h
  refine L4_ _ _ _ _ h9_ (fun H locs ls hw hl => ?_) H locs ls hw (lv_sub hl [2, 3, 1, 0] rfl)
  clear L4_ h9_
  refine lv_iload_n hx hb dX8_carpsOf_50 rfl (lv_at hl 2 rfl) ?_
  cases h
  exact mg_eI hx hb hr hlocks hw (Nat.zero_le _) (Nat.zero_le _) dX8_carpsOf_51
set_option maxHeartbeats 4000000 in
set_option maxRecDepth 100000 in
theorem k_X8_isTooFull (l : Launch) (D : va_G) (o : Nat → Nat) (cI cZ : ClassId) (g : Nat → Nat) (sz : Nat) (σ : mg_St) (x1 : Int32) (y : Int32) (h : f_X8_isTooFull σ x1 = some y) : mg_CT l yX8_isTooFull wsX8_isTooFull ({ frames := 1, cells := 0, slots := 0, locals := 26 } : Room) D [(cI, .int), (cZ, .boolean)] o (mg_mW g cI cZ σ) sz [.ref (g 0), .int x1] (some (.int y)) (mg_mW g cI cZ σ) 0 0 := by
  unfold mg_CT
  refine Met.ofW (cc := cX8_isTooFull) (maxL := 2) (ret := (some .boolean)) (by decide) rfl ?_
  intro p e s m args below meth c s₁ B hml hv
  obtain ⟨rfl, hsz, hP, hK, hD0, hO⟩ := hv
  have hx := B.exec
  have hb := B.bytes
  have hr := B.returns
  have hts := atoms_spec (ws := wsX8_isTooFull) B.pre
  have hown : s.vm.findClass RX8 = some m.cls := findClass_of_methodNamed B.named
  have hlocks := B.notSynchronized
  subst hsz
  have hD := hD0.self (sz := s.heap.size)
  generalize hAe : va_A (mg_mW g cI cZ σ) s.heap.size = A at hD hO ⊢
  have hA : ∀ q : Nat, s.heap.size ≤ q → A q := fun q h => by rw [← hAe]; exact Or.inr h
  have hw : mg_Wo D A s.heap s.heap [] (mg_mW g cI cZ σ) := ⟨hP, hD, va_S.rf⟩
  have G9 : CallFix p m c cX8_isTooFull 2 s ([.ref (g 0), .int x1] : List Value).toArray wsX8_isTooFull RX8 := ⟨hx, hb, hml, hown, hts⟩
  clear hP hD hD0 hAe
  obtain ⟨H, hHe⟩ : ∃ H : Heap, H = s.heap := ⟨_, rfl⟩
  have hl := lv_entry ([.ref (g 0), .int x1]) (n := 2) (Nat.le_of_ble_eq_true rfl)
  rw [lg_entry_eq]
  generalize (lg_sl ([.ref (g 0), .int x1]) ++ List.replicate (2 - (lg_sl ([.ref (g 0), .int x1])).length) Slot.unset).toArray = ls at hl ⊢
  have hl : lv_has ls 2 [(0, .ref (g 0)), (1, .int x1)] := hl
  unfold f_X8_isTooFull at h
  revert hw
  intro hw
  suffices K_ : ∀ (H : Heap) (locs : List Loc), mg_Wo D A s.heap H locs (mg_mW g cI cZ σ) → W p l e (headSpec wsX8_isTooFull ({ frames := 1, cells := 0, slots := 0, locals := 26 } : Room)).room s m ([.ref (g 0), .int x1] : List Value).toArray below meth c H locs 0 0 (MQ below (mg_Q D (mg_mW g cI cZ σ) A (some (.int y))) ([.ref (g 0), .int x1] : List Value).toArray s 0 0 A) (F0 m 0 ls []) from K_ _ _ hw
  clear hw hHe H
  intro H locs hw
  refine lv_aload_n hx hb dX8_isTooFull_0 rfl (lv_at hl 0 rfl) ?_
  refine lv_iload_n hx hb dX8_isTooFull_1 rfl (lv_at hl 1 rfl) ?_
  obtain ⟨y1, h9_, h⟩ := mg_bind h
  refine mg_k (rv := (some (.int y1))) (va_runV (As := [.int x1]) (rest := []) G9 (k_X8_carpsOf l D o cI cZ g H.size σ x1 y1 h9_) (cwV 1 hts gX8_isTooFull_X8_carpsOf rfl rfl rfl (by decide +kernel) ⟨Nat.le_of_ble_eq_true rfl, Nat.le_of_ble_eq_true rfl⟩) (mg_preV hK hO hA hw (q0 := 0) rfl rfl) rfl rfl hl.1 rfl (lv_room (Nat.le_of_ble_eq_true rfl)) dX8_isTooFull_2 ⟨Nat.zero_le _, Nat.zero_le _⟩) hw hA (fun H locs hw => ?_)
  clear h9_
  refine lv_iconst (v := 2) hx hb dX8_isTooFull_5 (by decide) ?_
  refine lv_aload_n hx hb dX8_isTooFull_6 rfl (lv_at hl 0 rfl) ?_
  refine lv_iload_n hx hb dX8_isTooFull_7 rfl (lv_at hl 1 rfl) ?_
  obtain ⟨y2, h9_, h⟩ := mg_bind h
  refine mg_k (rv := (some (.int y2))) (va_runV (As := [.int x1]) (rest := [.int 2, .int y1]) G9 (k_X8_cellsOf l D o cI cZ g H.size σ x1 y2 h9_) (cwV 1 hts gX8_isTooFull_X8_cellsOf rfl rfl rfl (by decide +kernel) ⟨Nat.le_of_ble_eq_true rfl, Nat.le_of_ble_eq_true rfl⟩) (mg_preV hK hO hA hw (q0 := 0) rfl rfl) rfl rfl hl.1 rfl (lv_room (Nat.le_of_ble_eq_true rfl)) dX8_isTooFull_8 ⟨Nat.zero_le _, Nat.zero_le _⟩) hw hA (fun H locs hw => ?_)
  clear h9_
  refine lv_imul hx hb dX8_isTooFull_11 ?_
  refine mg_icmp_le (tgt := 19) hx hb h dX8_isTooFull_12 (by decide) (fun h => ?_) (fun h => ?_)
  · refine lv_iconst (v := 0) hx hb dX8_isTooFull_19 (by decide) ?_
    cases h
    exact mg_eZ hx hb hr hlocks hw rfl (Nat.zero_le _) (Nat.zero_le _) dX8_isTooFull_20
  · refine lv_iconst (v := 1) hx hb dX8_isTooFull_15 (by decide) ?_
    refine lv_goto (tgt := 20) hx hb dX8_isTooFull_16 (by decide) ?_
    cases h
    exact mg_eZ hx hb hr hlocks hw rfl (Nat.zero_le _) (Nat.zero_le _) dX8_isTooFull_20
set_option maxHeartbeats 4000000 in
set_option maxRecDepth 100000 in
theorem k_X8_shows (l : Launch) (D : va_G) (o : Nat → Nat) (cI cZ : ClassId) (g : Nat → Nat) (sz : Nat) (σ : mg_St) (x1 : Int32) (x2 : Int32) (y : Int32) (h : f_X8_shows σ x1 x2 = some y) : mg_CT l yX8_shows wsX8_shows ({ frames := 2, cells := 0, slots := 0, locals := 43 } : Room) D [(cI, .int), (cZ, .boolean)] o (mg_mW g cI cZ σ) sz [.ref (g 0), .int x1, .int x2] (some (.int y)) (mg_mW g cI cZ σ) 0 0 := by
  unfold mg_CT
  refine Met.ofW (cc := cX8_shows) (maxL := 6) (ret := (some .int)) (by decide) rfl ?_
  intro p e s m args below meth c s₁ B hml hv
  obtain ⟨rfl, hsz, hP, hK, hD0, hO⟩ := hv
  have hx := B.exec
  have hb := B.bytes
  have hr := B.returns
  have hts := atoms_spec (ws := wsX8_shows) B.pre
  have hown : s.vm.findClass RX8 = some m.cls := findClass_of_methodNamed B.named
  have hlocks := B.notSynchronized
  subst hsz
  have hD := hD0.self (sz := s.heap.size)
  generalize hAe : va_A (mg_mW g cI cZ σ) s.heap.size = A at hD hO ⊢
  have hA : ∀ q : Nat, s.heap.size ≤ q → A q := fun q h => by rw [← hAe]; exact Or.inr h
  have hw : mg_Wo D A s.heap s.heap [] (mg_mW g cI cZ σ) := ⟨hP, hD, va_S.rf⟩
  have G9 : CallFix p m c cX8_shows 6 s ([.ref (g 0), .int x1, .int x2] : List Value).toArray wsX8_shows RX8 := ⟨hx, hb, hml, hown, hts⟩
  clear hP hD hD0 hAe
  obtain ⟨H, hHe⟩ : ∃ H : Heap, H = s.heap := ⟨_, rfl⟩
  have w0_ := hts (.fieldLink RX8 28 "MoonGateModel" "stands" "[I") (by decide +kernel)
  have iX8_ : ∀ w ∈ wsX80, w ∈ wsX8_shows := (fun _ h => List.mem_cons_of_mem _ (List.mem_append_right _ h))
  have w2_ := hts (.fieldLink RX8 80 "MoonGateModel" "ACROSS" "[I") (by decide +kernel)
  have w3_ := hts (.fieldLink RX8 31 "MoonGateModel" "looks" "[I") (by decide +kernel)
  have w4_ := hts (.fieldLink RX8 83 "MoonGateModel" "DOWN" "[I") (by decide +kernel)
  have w5_ := hts (.fieldLink RX8 9 "MoonGateModel" "kind" "[I") (by decide +kernel)
  have w6_ := hts (.fieldLink RX8 16 "MoonGateModel" "bulk" "[I") (by decide +kernel)
  have hl := lv_entry ([.ref (g 0), .int x1, .int x2]) (n := 6) (Nat.le_of_ble_eq_true rfl)
  rw [lg_entry_eq]
  generalize (lg_sl ([.ref (g 0), .int x1, .int x2]) ++ List.replicate (6 - (lg_sl ([.ref (g 0), .int x1, .int x2])).length) Slot.unset).toArray = ls at hl ⊢
  have hl : lv_has ls 6 [(0, .ref (g 0)), (1, .int x1), (2, .int x2)] := hl
  unfold f_X8_shows at h
  revert hw
  intro hw
  suffices K_ : ∀ (H : Heap) (locs : List Loc), mg_Wo D A s.heap H locs (mg_mW g cI cZ σ) → W p l e (headSpec wsX8_shows ({ frames := 2, cells := 0, slots := 0, locals := 43 } : Room)).room s m ([.ref (g 0), .int x1, .int x2] : List Value).toArray below meth c H locs 0 0 (MQ below (mg_Q D (mg_mW g cI cZ σ) A (some (.int y))) ([.ref (g 0), .int x1, .int x2] : List Value).toArray s 0 0 A) (F0 m 0 ls []) from K_ _ _ hw
  clear hw hHe H
  intro H locs hw
  refine lv_aload_n hx hb dX8_shows_0 rfl (lv_at hl 0 rfl) ?_
  refine va_get (D := D) (ci := 8) (v := .ref (g 9)) (C := RX8) (T := TX8) (N := 15) hx hb hts iX8_ hown hK hw.1 0 rfl rfl 9 (by decide) w0_ (fun _ h9 => h9) rfl dX8_shows_1 ?_
  refine lv_iload_n hx hb dX8_shows_4 rfl (lv_at hl 1 rfl) ?_
  refine mg_ald (σ := σ) (k := 9) (n := 6) hx hb hK hw 9 0 rfl rfl h dX8_shows_5 (fun v1 h => ?_)
  refine lv_bipush (v := 10) hx hb dX8_shows_6 (by decide) ?_
  refine lv_irem hx hb dX8_shows_8 (by decide) ?_
  refine lv_istore_n (lv' := [(3, .int (v1 - v1 / 10 * 10)), (0, .ref (g 0)), (1, .int x1), (2, .int x2)]) hx hb dX8_shows_9 rfl hl (by decide) rfl (fun ls hl => ?_)
  refine lv_aload_n hx hb dX8_shows_10 rfl (lv_at hl 1 rfl) ?_
  refine va_get (D := D) (ci := 8) (v := .ref (g 9)) (C := RX8) (T := TX8) (N := 15) hx hb hts iX8_ hown hK hw.1 0 rfl rfl 9 (by decide) w0_ (fun _ h9 => h9) rfl dX8_shows_11 ?_
  refine lv_iload_n hx hb dX8_shows_14 rfl (lv_at hl 2 rfl) ?_
  refine mg_ald (σ := σ) (k := 9) (n := 6) hx hb hK hw 9 0 rfl rfl h dX8_shows_15 (fun v2 h => ?_)
  refine lv_bipush (v := 10) hx hb dX8_shows_16 (by decide) ?_
  refine lv_idiv hx hb dX8_shows_18 (by decide) ?_
  refine lv_istore (lv' := [(4, .int (v2 / 10)), (3, .int (v1 - v1 / 10 * 10)), (0, .ref (g 0)), (1, .int x1), (2, .int x2)]) hx hb dX8_shows_19 hl (by decide) rfl (fun ls hl => ?_)
  refine lv_iconst (v := 1) hx hb dX8_shows_21 (by decide) ?_
  refine lv_istore (lv' := [(5, .int 1), (4, .int (v2 / 10)), (3, .int (v1 - v1 / 10 * 10)), (0, .ref (g 0)), (1, .int x1), (2, .int x2)]) hx hb dX8_shows_22 hl (by decide) rfl (fun ls hl => ?_)
  have L24_ : ∀ (n : Nat) (x3_24 : Int32) (x4_24 : Int32) (x5_24 : Int32), f_X8_shows_24 σ x1 x2 n x3_24 x4_24 x5_24 = some y → ∀ (H : Heap) (locs : List Loc) (ls : Array Slot), mg_Wo D A s.heap H locs (mg_mW g cI cZ σ) → lv_has ls 6 [(0, .ref (g 0)), (1, .int x1), (2, .int x2), (3, .int x3_24), (4, .int x4_24), (5, .int x5_24)] → W p l e (headSpec wsX8_shows ({ frames := 2, cells := 0, slots := 0, locals := 43 } : Room)).room s m ([.ref (g 0), .int x1, .int x2] : List Value).toArray below meth c H locs 0 0 (MQ below (mg_Q D (mg_mW g cI cZ σ) A (some (.int y))) ([.ref (g 0), .int x1, .int x2] : List Value).toArray s 0 0 A) (F0 m 24 ls []) := by
    intro n
    induction n with
    | zero => intro x3_24 x4_24 x5_24 h; rw [f_X8_shows_24] at h; cases h
    | succ n ih =>
      intro x3_24 x4_24 x5_24 h H locs ls hw hl
      rw [f_X8_shows_24] at h
      refine lv_iload_n hx hb dX8_shows_24 rfl (lv_at hl 3 rfl) ?_
      refine va_gets (C := "MoonGateModel") (n := "ACROSS") (d := "[I") hx hb (hO.2.2.2.2.1) hw.2.2 hown w2_ (fun _ h9 => h9) dX8_shows_25 ?_
      refine lv_aload_n hx hb dX8_shows_28 rfl (lv_at hl 0 rfl) ?_
      refine va_get (D := D) (ci := 8) (v := .ref (g 10)) (C := RX8) (T := TX8) (N := 15) hx hb hts iX8_ hown hK hw.1 0 rfl rfl 10 (by decide) w3_ (fun _ h9 => h9) rfl dX8_shows_29 ?_
      refine lv_iload_n hx hb dX8_shows_32 rfl (lv_at hl 1 rfl) ?_
      refine mg_ald (σ := σ) (k := 10) (n := 6) hx hb hK hw 10 0 rfl rfl h dX8_shows_33 (fun v4 h => ?_)
      refine mg_tld hx hb (hO.2.2.2.2.2.1) hw h dX8_shows_34 (fun v5 h => ?_)
      refine lv_iadd hx hb dX8_shows_35 ?_
      refine lv_istore_n (lv' := [(3, .int (x3_24 + v5)), (0, .ref (g 0)), (1, .int x1), (2, .int x2), (4, .int x4_24), (5, .int x5_24)]) hx hb dX8_shows_36 rfl hl (by decide) rfl (fun ls hl => ?_)
      refine lv_iload hx hb dX8_shows_37 (lv_at hl 4 rfl) ?_
      refine va_gets (C := "MoonGateModel") (n := "DOWN") (d := "[I") hx hb (hO.2.2.2.2.2.2.1) hw.2.2 hown w4_ (fun _ h9 => h9) dX8_shows_39 ?_
      refine lv_aload_n hx hb dX8_shows_42 rfl (lv_at hl 1 rfl) ?_
      refine va_get (D := D) (ci := 8) (v := .ref (g 10)) (C := RX8) (T := TX8) (N := 15) hx hb hts iX8_ hown hK hw.1 0 rfl rfl 10 (by decide) w3_ (fun _ h9 => h9) rfl dX8_shows_43 ?_
      refine lv_iload_n hx hb dX8_shows_46 rfl (lv_at hl 2 rfl) ?_
      refine mg_ald (σ := σ) (k := 10) (n := 6) hx hb hK hw 10 0 rfl rfl h dX8_shows_47 (fun v6 h => ?_)
      refine mg_tld hx hb (hO.2.2.2.2.2.2.2.1) hw h dX8_shows_48 (fun v7 h => ?_)
      refine lv_iadd hx hb dX8_shows_49 ?_
      refine lv_istore (lv' := [(4, .int (x4_24 + v7)), (3, .int (x3_24 + v5)), (0, .ref (g 0)), (1, .int x1), (2, .int x2), (5, .int x5_24)]) hx hb dX8_shows_50 hl (by decide) rfl (fun ls hl => ?_)
      refine lv_iload_n hx hb dX8_shows_52 rfl (lv_at hl 1 rfl) ?_
      refine lv_iload hx hb dX8_shows_53 (lv_at hl 0 rfl) ?_
      obtain ⟨y8, h9_, h⟩ := mg_bind h
      refine mg_k (rv := (some (.int y8))) (va_runS (As := [.int (x3_24 + v5), .int (x4_24 + v7)]) (rest := []) G9 (k_X8_isCell l D o cI cZ g H.size σ (x3_24 + v5) (x4_24 + v7) y8 h9_) (va_cwS 2 hts gX8_shows_X8_isCell rfl rfl rfl (by decide +kernel) ⟨Nat.le_of_ble_eq_true rfl, Nat.le_of_ble_eq_true rfl⟩) (mg_pre hK hO hA hw) rfl rfl hl.1 rfl (lv_room (Nat.le_of_ble_eq_true rfl)) dX8_shows_55 ⟨Nat.zero_le _, Nat.zero_le _⟩) hw hA (fun H locs hw => ?_)
      clear h9_
      refine mg_if_eq (tgt := 77) hx hb h dX8_shows_58 (by decide) (fun h => ?_) (fun h => ?_)
      · refine lv_iconst (v := (-1)) hx hb dX8_shows_77 (by decide) ?_
        cases h
        exact mg_eI hx hb hr hlocks hw (Nat.zero_le _) (Nat.zero_le _) dX8_shows_78
      · refine lv_aload_n hx hb dX8_shows_61 rfl (lv_at hl 2 rfl) ?_
        refine va_get (D := D) (ci := 8) (v := .ref (g 3)) (C := RX8) (T := TX8) (N := 15) hx hb hts iX8_ hown hK hw.1 0 rfl rfl 1 (by decide) w5_ (fun _ h9 => h9) rfl dX8_shows_62 ?_
        refine lv_bipush (v := 10) hx hb dX8_shows_65 (by decide) ?_
        refine lv_iload hx hb dX8_shows_67 (lv_at hl 0 rfl) ?_
        refine lv_imul hx hb dX8_shows_69 ?_
        refine lv_iload_n hx hb dX8_shows_70 rfl (lv_at hl 1 rfl) ?_
        refine lv_iadd hx hb dX8_shows_71 ?_
        refine mg_ald (σ := σ) (k := 3) (n := 70) hx hb hK hw 3 0 rfl rfl h dX8_shows_72 (fun v9 h => ?_)
        refine lv_iconst (v := 3) hx hb dX8_shows_73 (by decide) ?_
        refine mg_icmp_ne (tgt := 79) hx hb h dX8_shows_74 (by decide) (fun h => ?_) (fun h => ?_)
        · refine lv_iload hx hb dX8_shows_79 (lv_at hl 5 rfl) ?_
          refine lv_iload_n hx hb dX8_shows_81 rfl (lv_at hl 4 rfl) ?_
          refine mg_icmp_ne (tgt := 93) hx hb h dX8_shows_82 (by decide) (fun h => ?_) (fun h => ?_)
          · refine lv_aload_n hx hb dX8_shows_93 rfl (lv_at hl 2 rfl) ?_
            refine va_get (D := D) (ci := 8) (v := .ref (g 3)) (C := RX8) (T := TX8) (N := 15) hx hb hts iX8_ hown hK hw.1 0 rfl rfl 1 (by decide) w5_ (fun _ h9 => h9) rfl dX8_shows_94 ?_
            refine lv_bipush (v := 10) hx hb dX8_shows_97 (by decide) ?_
            refine lv_iload hx hb dX8_shows_99 (lv_at hl 0 rfl) ?_
            refine lv_imul hx hb dX8_shows_101 ?_
            refine lv_iload_n hx hb dX8_shows_102 rfl (lv_at hl 1 rfl) ?_
            refine lv_iadd hx hb dX8_shows_103 ?_
            refine mg_ald (σ := σ) (k := 3) (n := 70) hx hb hK hw 3 0 rfl rfl h dX8_shows_104 (fun v10 h => ?_)
            refine lv_iconst (v := 1) hx hb dX8_shows_105 (by decide) ?_
            refine mg_icmp_ne (tgt := 128) hx hb h dX8_shows_106 (by decide) (fun h => ?_) (fun h => ?_)
            · refine lv_iinc (v := (x5_24 + 1)) (lv' := [(5, .int (x5_24 + 1)), (4, .int (x4_24 + v7)), (3, .int (x3_24 + v5)), (0, .ref (g 0)), (1, .int x1), (2, .int x2)]) hx hb dX8_shows_128 hl (k := 5) rfl rfl (by decide) rfl (fun ls hl => ?_)
              refine lv_goto (tgt := 24) hx hb dX8_shows_131 (by decide) ?_
              exact ih _ _ _ h H locs ls hw (lv_sub hl [3, 4, 5, 2, 1, 0] rfl)
            · refine lv_aload_n hx hb dX8_shows_109 rfl (lv_at hl 2 rfl) ?_
              refine va_get (D := D) (ci := 8) (v := .ref (g 5)) (C := RX8) (T := TX8) (N := 15) hx hb hts iX8_ hown hK hw.1 0 rfl rfl 3 (by decide) w6_ (fun _ h9 => h9) rfl dX8_shows_110 ?_
              refine lv_bipush (v := 10) hx hb dX8_shows_113 (by decide) ?_
              refine lv_iload hx hb dX8_shows_115 (lv_at hl 0 rfl) ?_
              refine lv_imul hx hb dX8_shows_117 ?_
              refine lv_iload_n hx hb dX8_shows_118 rfl (lv_at hl 1 rfl) ?_
              refine lv_iadd hx hb dX8_shows_119 ?_
              refine mg_ald (σ := σ) (k := 5) (n := 70) hx hb hK hw 5 0 rfl rfl h dX8_shows_120 (fun v11 h => ?_)
              refine lv_bipush (v := 7) hx hb dX8_shows_121 (by decide) ?_
              refine mg_icmp_lt (tgt := 128) hx hb h dX8_shows_123 (by decide) (fun h => ?_) (fun h => ?_)
              · refine lv_iinc (v := (x5_24 + 1)) (lv' := [(5, .int (x5_24 + 1)), (4, .int (x4_24 + v7)), (3, .int (x3_24 + v5)), (0, .ref (g 0)), (1, .int x1), (2, .int x2)]) hx hb dX8_shows_128 hl (k := 5) rfl rfl (by decide) rfl (fun ls hl => ?_)
                refine lv_goto (tgt := 24) hx hb dX8_shows_131 (by decide) ?_
                exact ih _ _ _ h H locs ls hw (lv_sub hl [3, 4, 5, 2, 1, 0] rfl)
              · refine lv_iconst (v := (-1)) hx hb dX8_shows_126 (by decide) ?_
                cases h
                exact mg_eI hx hb hr hlocks hw (Nat.zero_le _) (Nat.zero_le _) dX8_shows_127
          · refine lv_bipush (v := 10) hx hb dX8_shows_85 (by decide) ?_
            refine lv_iload hx hb dX8_shows_87 (lv_at hl 0 rfl) ?_
            refine lv_imul hx hb dX8_shows_89 ?_
            refine lv_iload_n hx hb dX8_shows_90 rfl (lv_at hl 1 rfl) ?_
            refine lv_iadd hx hb dX8_shows_91 ?_
            cases h
            exact mg_eI hx hb hr hlocks hw (Nat.zero_le _) (Nat.zero_le _) dX8_shows_92
        · refine lv_iconst (v := (-1)) hx hb dX8_shows_77 (by decide) ?_
          cases h
          exact mg_eI hx hb hr hlocks hw (Nat.zero_le _) (Nat.zero_le _) dX8_shows_78
  exact L24_ _ _ _ _ h H locs ls hw (lv_sub hl [3, 4, 5, 2, 1, 0] rfl)
set_option maxHeartbeats 4000000 in
set_option maxRecDepth 100000 in
theorem k_X8_many (l : Launch) (D : va_G) (o : Nat → Nat) (cI cZ : ClassId) (g : Nat → Nat) (sz : Nat) (σ : mg_St) (x1 : Int32) (x2 : Int32) (y : Int32) (h : f_X8_many σ x1 x2 = some y) : mg_CT l yX8_many wsX8_many ({ frames := 3, cells := 0, slots := 0, locals := 68 } : Room) D [(cI, .int), (cZ, .boolean)] o (mg_mW g cI cZ σ) sz [.ref (g 0), .int x1, .int x2] (some (.int y)) (mg_mW g cI cZ σ) 0 0 := by
  unfold mg_CT
  refine Met.ofW (cc := cX8_many) (maxL := 5) (ret := (some .int)) (by decide) rfl ?_
  intro p e s m args below meth c s₁ B hml hv
  obtain ⟨rfl, hsz, hP, hK, hD0, hO⟩ := hv
  have hx := B.exec
  have hb := B.bytes
  have hr := B.returns
  have hts := atoms_spec (ws := wsX8_many) B.pre
  have hown : s.vm.findClass RX8 = some m.cls := findClass_of_methodNamed B.named
  have hlocks := B.notSynchronized
  subst hsz
  have hD := hD0.self (sz := s.heap.size)
  generalize hAe : va_A (mg_mW g cI cZ σ) s.heap.size = A at hD hO ⊢
  have hA : ∀ q : Nat, s.heap.size ≤ q → A q := fun q h => by rw [← hAe]; exact Or.inr h
  have hw : mg_Wo D A s.heap s.heap [] (mg_mW g cI cZ σ) := ⟨hP, hD, va_S.rf⟩
  have G9 : CallFix p m c cX8_many 5 s ([.ref (g 0), .int x1, .int x2] : List Value).toArray wsX8_many RX8 := ⟨hx, hb, hml, hown, hts⟩
  clear hP hD hD0 hAe
  obtain ⟨H, hHe⟩ : ∃ H : Heap, H = s.heap := ⟨_, rfl⟩
  have w0_ := hts (.fieldLink RX8 9 "MoonGateModel" "kind" "[I") (by decide +kernel)
  have iX8_ : ∀ w ∈ wsX80, w ∈ wsX8_many := (fun _ h => List.mem_cons_of_mem _ (List.mem_append_right _ h))
  have hl := lv_entry ([.ref (g 0), .int x1, .int x2]) (n := 5) (Nat.le_of_ble_eq_true rfl)
  rw [lg_entry_eq]
  generalize (lg_sl ([.ref (g 0), .int x1, .int x2]) ++ List.replicate (5 - (lg_sl ([.ref (g 0), .int x1, .int x2])).length) Slot.unset).toArray = ls at hl ⊢
  have hl : lv_has ls 5 [(0, .ref (g 0)), (1, .int x1), (2, .int x2)] := hl
  unfold f_X8_many at h
  revert hw
  intro hw
  suffices K_ : ∀ (H : Heap) (locs : List Loc), mg_Wo D A s.heap H locs (mg_mW g cI cZ σ) → W p l e (headSpec wsX8_many ({ frames := 3, cells := 0, slots := 0, locals := 68 } : Room)).room s m ([.ref (g 0), .int x1, .int x2] : List Value).toArray below meth c H locs 0 0 (MQ below (mg_Q D (mg_mW g cI cZ σ) A (some (.int y))) ([.ref (g 0), .int x1, .int x2] : List Value).toArray s 0 0 A) (F0 m 0 ls []) from K_ _ _ hw
  clear hw hHe H
  intro H locs hw
  refine lv_iconst (v := 0) hx hb dX8_many_0 (by decide) ?_
  refine lv_istore_n (lv' := [(3, .int 0), (0, .ref (g 0)), (1, .int x1), (2, .int x2)]) hx hb dX8_many_1 rfl hl (by decide) rfl (fun ls hl => ?_)
  refine lv_iconst (v := 1) hx hb dX8_many_2 (by decide) ?_
  refine lv_istore (lv' := [(4, .int 1), (3, .int 0), (0, .ref (g 0)), (1, .int x1), (2, .int x2)]) hx hb dX8_many_3 hl (by decide) rfl (fun ls hl => ?_)
  have L5_ : ∀ (n : Nat) (x3_5 : Int32) (x4_5 : Int32) (y5_ : Int32 × Int32), f_X8_many_5 σ x1 x2 n x3_5 x4_5 = some y5_ → (∀ (H : Heap) (locs : List Loc) (ls : Array Slot), mg_Wo D A s.heap H locs (mg_mW g cI cZ σ) → lv_has ls 5 [(0, .ref (g 0)), (1, .int x1), (2, .int x2), (3, .int y5_.1), (4, .int y5_.2)] → W p l e (headSpec wsX8_many ({ frames := 3, cells := 0, slots := 0, locals := 68 } : Room)).room s m ([.ref (g 0), .int x1, .int x2] : List Value).toArray below meth c H locs 0 0 (MQ below (mg_Q D (mg_mW g cI cZ σ) A (some (.int y))) ([.ref (g 0), .int x1, .int x2] : List Value).toArray s 0 0 A) (F0 m 50 ls [])) → ∀ (H : Heap) (locs : List Loc) (ls : Array Slot), mg_Wo D A s.heap H locs (mg_mW g cI cZ σ) → lv_has ls 5 [(0, .ref (g 0)), (1, .int x1), (2, .int x2), (3, .int x3_5), (4, .int x4_5)] → W p l e (headSpec wsX8_many ({ frames := 3, cells := 0, slots := 0, locals := 68 } : Room)).room s m ([.ref (g 0), .int x1, .int x2] : List Value).toArray below meth c H locs 0 0 (MQ below (mg_Q D (mg_mW g cI cZ σ) A (some (.int y))) ([.ref (g 0), .int x1, .int x2] : List Value).toArray s 0 0 A) (F0 m 5 ls []) := by
    intro n
    induction n with
    | zero => intro x3_5 x4_5 y5_ h; rw [f_X8_many_5] at h; cases h
    | succ n ih =>
      intro x3_5 x4_5 y5_ h kc H locs ls hw hl
      rw [f_X8_many_5] at h
      refine lv_aload_n hx hb dX8_many_5 rfl (lv_at hl 0 rfl) ?_
      refine lv_iload_n hx hb dX8_many_6 rfl (lv_at hl 1 rfl) ?_
      refine lv_iload hx hb dX8_many_7 (lv_at hl 4 rfl) ?_
      obtain ⟨y2, h9_, h⟩ := mg_bind h
      refine mg_k (rv := (some (.int y2))) (va_runV (As := [.int x1, .int x4_5]) (rest := []) G9 (k_X8_shows l D o cI cZ g H.size σ x1 x4_5 y2 h9_) (cwV 2 hts gX8_many_X8_shows rfl rfl rfl (by decide +kernel) ⟨Nat.le_of_ble_eq_true rfl, Nat.le_of_ble_eq_true rfl⟩) (mg_preV hK hO hA hw (q0 := 0) rfl rfl) rfl rfl hl.1 rfl (lv_room (Nat.le_of_ble_eq_true rfl)) dX8_many_9 ⟨Nat.zero_le _, Nat.zero_le _⟩) hw hA (fun H locs hw => ?_)
      clear h9_
      refine lv_iconst (v := (-1)) hx hb dX8_many_12 (by decide) ?_
      refine mg_icmp_eq (tgt := 50) hx hb h dX8_many_13 (by decide) (fun h => ?_) (fun h => ?_)
      · cases h
        exact kc H locs ls hw (lv_sub hl [0, 1, 2, 3, 4] rfl)
      · refine lv_iload_n hx hb dX8_many_16 rfl (lv_at hl 3 rfl) ?_
        refine lv_iload_n hx hb dX8_many_17 rfl (lv_at hl 2 rfl) ?_
        refine mg_if_eq (tgt := 37) hx hb h dX8_many_18 (by decide) (fun h => ?_) (fun h => ?_)
        · refine lv_iconst (v := 1) hx hb dX8_many_37 (by decide) ?_
          refine lv_goto (tgt := 42) hx hb dX8_many_38 (by decide) ?_
          refine lv_iadd hx hb dX8_many_42 ?_
          refine lv_istore_n (lv' := [(3, .int (x3_5 + 1)), (0, .ref (g 0)), (1, .int x1), (2, .int x2), (4, .int x4_5)]) hx hb dX8_many_43 rfl hl (by decide) rfl (fun ls hl => ?_)
          refine lv_iinc (v := (x4_5 + 1)) (lv' := [(4, .int (x4_5 + 1)), (3, .int (x3_5 + 1)), (0, .ref (g 0)), (1, .int x1), (2, .int x2)]) hx hb dX8_many_44 hl (k := 4) rfl rfl (by decide) rfl (fun ls hl => ?_)
          refine lv_goto (tgt := 5) hx hb dX8_many_47 (by decide) ?_
          exact ih _ _ _ h kc H locs ls hw (lv_sub hl [2, 3, 4, 1, 0] rfl)
        · refine lv_aload_n hx hb dX8_many_21 rfl (lv_at hl 0 rfl) ?_
          refine va_get (D := D) (ci := 8) (v := .ref (g 3)) (C := RX8) (T := TX8) (N := 15) hx hb hts iX8_ hown hK hw.1 0 rfl rfl 1 (by decide) w0_ (fun _ h9 => h9) rfl dX8_many_22 ?_
          refine lv_aload_n hx hb dX8_many_25 rfl (lv_at hl 0 rfl) ?_
          refine lv_iload_n hx hb dX8_many_26 rfl (lv_at hl 1 rfl) ?_
          refine lv_iload hx hb dX8_many_27 (lv_at hl 4 rfl) ?_
          obtain ⟨y3, h9_, h⟩ := mg_bind h
          refine mg_k (rv := (some (.int y3))) (va_runV (As := [.int x1, .int x4_5]) (rest := [.ref (g 3), .int x3_5]) G9 (k_X8_shows l D o cI cZ g H.size σ x1 x4_5 y3 h9_) (cwV 2 hts gX8_many_X8_shows rfl rfl rfl (by decide +kernel) ⟨Nat.le_of_ble_eq_true rfl, Nat.le_of_ble_eq_true rfl⟩) (mg_preV hK hO hA hw (q0 := 0) rfl rfl) rfl rfl hl.1 rfl (lv_room (Nat.le_of_ble_eq_true rfl)) dX8_many_29 ⟨Nat.zero_le _, Nat.zero_le _⟩) hw hA (fun H locs hw => ?_)
          clear h9_
          refine mg_ald (σ := σ) (k := 3) (n := 70) hx hb hK hw 3 0 rfl rfl h dX8_many_32 (fun v4 h => ?_)
          refine lv_iload_n hx hb dX8_many_33 rfl (lv_at hl 2 rfl) ?_
          refine mg_icmp_ne (tgt := 41) hx hb h dX8_many_34 (by decide) (fun h => ?_) (fun h => ?_)
          · refine lv_iconst (v := 0) hx hb dX8_many_41 (by decide) ?_
            refine lv_iadd hx hb dX8_many_42 ?_
            refine lv_istore_n (lv' := [(3, .int (x3_5 + 0)), (0, .ref (g 0)), (1, .int x1), (2, .int x2), (4, .int x4_5)]) hx hb dX8_many_43 rfl hl (by decide) rfl (fun ls hl => ?_)
            refine lv_iinc (v := (x4_5 + 1)) (lv' := [(4, .int (x4_5 + 1)), (3, .int (x3_5 + 0)), (0, .ref (g 0)), (1, .int x1), (2, .int x2)]) hx hb dX8_many_44 hl (k := 4) rfl rfl (by decide) rfl (fun ls hl => ?_)
            refine lv_goto (tgt := 5) hx hb dX8_many_47 (by decide) ?_
            exact ih _ _ _ h kc H locs ls hw (lv_sub hl [2, 3, 4, 1, 0] rfl)
          · refine lv_iconst (v := 1) hx hb dX8_many_37 (by decide) ?_
            refine lv_goto (tgt := 42) hx hb dX8_many_38 (by decide) ?_
            refine lv_iadd hx hb dX8_many_42 ?_
            refine lv_istore_n (lv' := [(3, .int (x3_5 + 1)), (0, .ref (g 0)), (1, .int x1), (2, .int x2), (4, .int x4_5)]) hx hb dX8_many_43 rfl hl (by decide) rfl (fun ls hl => ?_)
            refine lv_iinc (v := (x4_5 + 1)) (lv' := [(4, .int (x4_5 + 1)), (3, .int (x3_5 + 1)), (0, .ref (g 0)), (1, .int x1), (2, .int x2)]) hx hb dX8_many_44 hl (k := 4) rfl rfl (by decide) rfl (fun ls hl => ?_)
            refine lv_goto (tgt := 5) hx hb dX8_many_47 (by decide) ?_
            exact ih _ _ _ h kc H locs ls hw (lv_sub hl [2, 3, 4, 1, 0] rfl)
  obtain ⟨y1, h9_, h⟩ := mg_bind h
  refine L5_ _ _ _ _ h9_ (fun H locs ls hw hl => ?_) H locs ls hw (lv_sub hl [2, 3, 4, 1, 0] rfl)
  clear L5_ h9_
  refine lv_iload_n hx hb dX8_many_50 rfl (lv_at hl 3 rfl) ?_
  cases h
  exact mg_eI hx hb hr hlocks hw (Nat.zero_le _) (Nat.zero_le _) dX8_many_51
set_option maxHeartbeats 4000000 in
set_option maxRecDepth 100000 in
theorem k_X8_beauty_1 (l : Launch) (D : va_G) (o : Nat → Nat) (cI cZ : ClassId) (g : Nat → Nat) (sz : Nat) (σ : mg_St) (x1 : Int32) (y : Int32) (h : f_X8_beauty σ 1 x1 = some y) : mg_CT l yX8_beauty wsX8_beauty ({ frames := 3, cells := 0, slots := 0, locals := 68 } : Room) D [(cI, .int), (cZ, .boolean)] o (mg_mW g cI cZ σ) sz [.ref (g 0), .int x1, .ref (g 1)] (some (.int y)) (mg_mW g cI cZ σ) 0 0 := by
  unfold mg_CT
  refine Met.ofW (cc := cX8_beauty) (maxL := 9) (ret := (some .int)) (by decide) rfl ?_
  intro p e s m args below meth c s₁ B hml hv
  obtain ⟨rfl, hsz, hP, hK, hD0, hO⟩ := hv
  have hx := B.exec
  have hb := B.bytes
  have hr := B.returns
  have hts := atoms_spec (ws := wsX8_beauty) B.pre
  have hown : s.vm.findClass RX8 = some m.cls := findClass_of_methodNamed B.named
  have hlocks := B.notSynchronized
  subst hsz
  have hD := hD0.self (sz := s.heap.size)
  generalize hAe : va_A (mg_mW g cI cZ σ) s.heap.size = A at hD hO ⊢
  have hA : ∀ q : Nat, s.heap.size ≤ q → A q := fun q h => by rw [← hAe]; exact Or.inr h
  have hw : mg_Wo D A s.heap s.heap [] (mg_mW g cI cZ σ) := ⟨hP, hD, va_S.rf⟩
  have G9 : CallFix p m c cX8_beauty 9 s ([.ref (g 0), .int x1, .ref (g 1)] : List Value).toArray wsX8_beauty RX8 := ⟨hx, hb, hml, hown, hts⟩
  clear hP hD hD0 hAe
  obtain ⟨H, hHe⟩ : ∃ H : Heap, H = s.heap := ⟨_, rfl⟩
  have w0_ := hts (.fieldLink RX8 9 "MoonGateModel" "kind" "[I") (by decide +kernel)
  have iX8_ : ∀ w ∈ wsX80, w ∈ wsX8_beauty := (fun _ h => List.mem_cons_of_mem _ (List.mem_append_left _ (List.mem_append_right _ h)))
  have w2_ := hts (.fieldLink RX8 71 "MoonGateModel" "carps" "I") (by decide +kernel)
  have w3_ := hts (.fieldLink RX8 25 "MoonGateModel" "sold" "[I") (by decide +kernel)
  have w4_ := hts (.fieldLink RX8 22 "MoonGateModel" "swims" "[I") (by decide +kernel)
  have iX7_ : ∀ w ∈ wsX70, w ∈ wsX8_beauty := (fun _ h => List.mem_cons_of_mem _ (List.mem_append_right _ h))
  have w6_ := hts (.fieldLink RX8 16 "MoonGateModel" "bulk" "[I") (by decide +kernel)
  have w7_ := hts (.fieldLink RX8 13 "MoonGateModel" "shape" "[I") (by decide +kernel)
  have hl := lv_entry ([.ref (g 0), .int x1, .ref (g 1)]) (n := 9) (Nat.le_of_ble_eq_true rfl)
  rw [lg_entry_eq]
  generalize (lg_sl ([.ref (g 0), .int x1, .ref (g 1)]) ++ List.replicate (9 - (lg_sl ([.ref (g 0), .int x1, .ref (g 1)])).length) Slot.unset).toArray = ls at hl ⊢
  have hl : lv_has ls 9 [(0, .ref (g 0)), (1, .int x1), (2, .ref (g 1))] := hl
  unfold f_X8_beauty at h
  revert hw
  intro hw
  suffices K_ : ∀ (H : Heap) (locs : List Loc), mg_Wo D A s.heap H locs (mg_mW g cI cZ σ) → W p l e (headSpec wsX8_beauty ({ frames := 3, cells := 0, slots := 0, locals := 68 } : Room)).room s m ([.ref (g 0), .int x1, .ref (g 1)] : List Value).toArray below meth c H locs 0 0 (MQ below (mg_Q D (mg_mW g cI cZ σ) A (some (.int y))) ([.ref (g 0), .int x1, .ref (g 1)] : List Value).toArray s 0 0 A) (F0 m 0 ls []) from K_ _ _ hw
  clear hw hHe H
  intro H locs hw
  refine lv_iconst (v := 0) hx hb dX8_beauty_0 (by decide) ?_
  refine lv_istore_n (lv' := [(3, .int 0), (0, .ref (g 0)), (1, .int x1), (2, .ref (g 1))]) hx hb dX8_beauty_1 rfl hl (by decide) rfl (fun ls hl => ?_)
  refine lv_iconst (v := 0) hx hb dX8_beauty_2 (by decide) ?_
  refine lv_istore (lv' := [(4, .int 0), (3, .int 0), (0, .ref (g 0)), (1, .int x1), (2, .ref (g 1))]) hx hb dX8_beauty_3 hl (by decide) rfl (fun ls hl => ?_)
  refine lv_iconst (v := 1) hx hb dX8_beauty_5 (by decide) ?_
  refine lv_istore (lv' := [(5, .int 1), (4, .int 0), (3, .int 0), (0, .ref (g 0)), (1, .int x1), (2, .ref (g 1))]) hx hb dX8_beauty_6 hl (by decide) rfl (fun ls hl => ?_)
  have L8_ : ∀ (n : Nat) (x3_8 : Int32) (x4_8 : Int32) (x5_8 : Int32) (y8_ : Int32 × Int32 × Int32), f_X8_beauty_8 σ 1 x1 n x3_8 x4_8 x5_8 = some y8_ → (∀ (H : Heap) (locs : List Loc) (ls : Array Slot), mg_Wo D A s.heap H locs (mg_mW g cI cZ σ) → lv_has ls 9 [(0, .ref (g 0)), (1, .int x1), (2, .ref (g 1)), (3, .int y8_.1), (4, .int y8_.2.1), (5, .int y8_.2.2)] → W p l e (headSpec wsX8_beauty ({ frames := 3, cells := 0, slots := 0, locals := 68 } : Room)).room s m ([.ref (g 0), .int x1, .ref (g 1)] : List Value).toArray below meth c H locs 0 0 (MQ below (mg_Q D (mg_mW g cI cZ σ) A (some (.int y))) ([.ref (g 0), .int x1, .ref (g 1)] : List Value).toArray s 0 0 A) (F0 m 173 ls [])) → ∀ (H : Heap) (locs : List Loc) (ls : Array Slot), mg_Wo D A s.heap H locs (mg_mW g cI cZ σ) → lv_has ls 9 [(0, .ref (g 0)), (1, .int x1), (2, .ref (g 1)), (3, .int x3_8), (4, .int x4_8), (5, .int x5_8)] → W p l e (headSpec wsX8_beauty ({ frames := 3, cells := 0, slots := 0, locals := 68 } : Room)).room s m ([.ref (g 0), .int x1, .ref (g 1)] : List Value).toArray below meth c H locs 0 0 (MQ below (mg_Q D (mg_mW g cI cZ σ) A (some (.int y))) ([.ref (g 0), .int x1, .ref (g 1)] : List Value).toArray s 0 0 A) (F0 m 8 ls []) := by
    intro n
    induction n with
    | zero => intro x3_8 x4_8 x5_8 y8_ h; rw [f_X8_beauty_8] at h; cases h
    | succ n ih =>
      intro x3_8 x4_8 x5_8 y8_ h kc H locs ls hw hl
      rw [f_X8_beauty_8] at h
      refine lv_aload_n hx hb dX8_beauty_8 rfl (lv_at hl 0 rfl) ?_
      refine lv_iload_n hx hb dX8_beauty_9 rfl (lv_at hl 1 rfl) ?_
      refine lv_iload hx hb dX8_beauty_10 (lv_at hl 5 rfl) ?_
      obtain ⟨y2, h9_, h⟩ := mg_bind h
      refine mg_k (rv := (some (.int y2))) (va_runV (As := [.int x1, .int x5_8]) (rest := []) G9 (k_X8_shows l D o cI cZ g H.size σ x1 x5_8 y2 h9_) (cwV 2 hts gX8_beauty_X8_shows rfl rfl rfl (by decide +kernel) ⟨Nat.le_of_ble_eq_true rfl, Nat.le_of_ble_eq_true rfl⟩) (mg_preV hK hO hA hw (q0 := 0) rfl rfl) rfl rfl hl.1 rfl (lv_room (Nat.le_of_ble_eq_true rfl)) dX8_beauty_12 ⟨Nat.zero_le _, Nat.zero_le _⟩) hw hA (fun H locs hw => ?_)
      clear h9_
      refine lv_iconst (v := (-1)) hx hb dX8_beauty_15 (by decide) ?_
      refine mg_icmp_eq (tgt := 173) hx hb h dX8_beauty_16 (by decide) (fun h => ?_) (fun h => ?_)
      · cases h
        exact kc H locs ls hw (lv_sub hl [0, 1, 2, 3, 4, 5] rfl)
      · refine lv_aload_n hx hb dX8_beauty_19 rfl (lv_at hl 0 rfl) ?_
        refine lv_iload_n hx hb dX8_beauty_20 rfl (lv_at hl 1 rfl) ?_
        refine lv_iload hx hb dX8_beauty_21 (lv_at hl 5 rfl) ?_
        obtain ⟨y3, h9_, h⟩ := mg_bind h
        refine mg_k (rv := (some (.int y3))) (va_runV (As := [.int x1, .int x5_8]) (rest := []) G9 (k_X8_shows l D o cI cZ g H.size σ x1 x5_8 y3 h9_) (cwV 2 hts gX8_beauty_X8_shows rfl rfl rfl (by decide +kernel) ⟨Nat.le_of_ble_eq_true rfl, Nat.le_of_ble_eq_true rfl⟩) (mg_preV hK hO hA hw (q0 := 0) rfl rfl) rfl rfl hl.1 rfl (lv_room (Nat.le_of_ble_eq_true rfl)) dX8_beauty_23 ⟨Nat.zero_le _, Nat.zero_le _⟩) hw hA (fun H locs hw => ?_)
        clear h9_
        refine lv_istore (lv' := [(6, .int y3), (0, .ref (g 0)), (1, .int x1), (2, .ref (g 1)), (3, .int x3_8), (4, .int x4_8), (5, .int x5_8)]) hx hb dX8_beauty_26 hl (by decide) rfl (fun ls hl => ?_)
        refine lv_aload_n hx hb dX8_beauty_28 rfl (lv_at hl 1 rfl) ?_
        refine va_get (D := D) (ci := 8) (v := .ref (g 3)) (C := RX8) (T := TX8) (N := 15) hx hb hts iX8_ hown hK hw.1 0 rfl rfl 1 (by decide) w0_ (fun _ h9 => h9) rfl dX8_beauty_29 ?_
        refine lv_iload hx hb dX8_beauty_32 (lv_at hl 0 rfl) ?_
        refine mg_ald (σ := σ) (k := 3) (n := 70) hx hb hK hw 3 0 rfl rfl h dX8_beauty_34 (fun v4 h => ?_)
        refine lv_iconst (v := 1) hx hb dX8_beauty_35 (by decide) ?_
        refine mg_icmp_ne (tgt := 87) hx hb h dX8_beauty_36 (by decide) (fun h => ?_) (fun h => ?_)
        · refine lv_aload_n hx hb dX8_beauty_87 rfl (lv_at hl 1 rfl) ?_
          refine va_get (D := D) (ci := 8) (v := .ref (g 3)) (C := RX8) (T := TX8) (N := 15) hx hb hts iX8_ hown hK hw.1 0 rfl rfl 1 (by decide) w0_ (fun _ h9 => h9) rfl dX8_beauty_88 ?_
          refine lv_iload hx hb dX8_beauty_91 (lv_at hl 0 rfl) ?_
          refine mg_ald (σ := σ) (k := 3) (n := 70) hx hb hK hw 3 0 rfl rfl h dX8_beauty_93 (fun v5 h => ?_)
          refine lv_iconst (v := 2) hx hb dX8_beauty_94 (by decide) ?_
          refine mg_icmp_ne (tgt := 167) hx hb h dX8_beauty_95 (by decide) (fun h => ?_) (fun h => ?_)
          · refine lv_iinc (v := (x5_8 + 1)) (lv' := [(5, .int (x5_8 + 1)), (6, .int y3), (0, .ref (g 0)), (1, .int x1), (2, .ref (g 1)), (3, .int x3_8), (4, .int x4_8)]) hx hb dX8_beauty_167 hl (k := 6) rfl rfl (by decide) rfl (fun ls hl => ?_)
            refine lv_goto (tgt := 8) hx hb dX8_beauty_170 (by decide) ?_
            exact ih _ _ _ _ h kc H locs ls hw (lv_sub hl [2, 3, 4, 5, 6, 0] rfl)
          · refine lv_iconst (v := 0) hx hb dX8_beauty_98 (by decide) ?_
            refine lv_istore (lv' := [(7, .int 0), (6, .int y3), (0, .ref (g 0)), (1, .int x1), (2, .ref (g 1)), (3, .int x3_8), (4, .int x4_8), (5, .int x5_8)]) hx hb dX8_beauty_99 hl (by decide) rfl (fun ls hl => ?_)
            refine lv_iconst (v := 0) hx hb dX8_beauty_101 (by decide) ?_
            refine lv_istore (lv' := [(8, .int 0), (7, .int 0), (6, .int y3), (0, .ref (g 0)), (1, .int x1), (2, .ref (g 1)), (3, .int x3_8), (4, .int x4_8), (5, .int x5_8)]) hx hb dX8_beauty_102 hl (by decide) rfl (fun ls hl => ?_)
            have L104_ : ∀ (n : Nat) (x7_104 : Int32) (x8_104 : Int32) (y104_ : Int32 × Int32), f_X8_beauty_104 σ 1 x1 x3_8 x4_8 x5_8 y3 n x7_104 x8_104 = some y104_ → (∀ (H : Heap) (locs : List Loc) (ls : Array Slot), mg_Wo D A s.heap H locs (mg_mW g cI cZ σ) → lv_has ls 9 [(0, .ref (g 0)), (1, .int x1), (2, .ref (g 1)), (3, .int x3_8), (4, .int x4_8), (5, .int x5_8), (6, .int y3), (7, .int y104_.1), (8, .int y104_.2)] → W p l e (headSpec wsX8_beauty ({ frames := 3, cells := 0, slots := 0, locals := 68 } : Room)).room s m ([.ref (g 0), .int x1, .ref (g 1)] : List Value).toArray below meth c H locs 0 0 (MQ below (mg_Q D (mg_mW g cI cZ σ) A (some (.int y))) ([.ref (g 0), .int x1, .ref (g 1)] : List Value).toArray s 0 0 A) (F0 m 157 ls [])) → ∀ (H : Heap) (locs : List Loc) (ls : Array Slot), mg_Wo D A s.heap H locs (mg_mW g cI cZ σ) → lv_has ls 9 [(0, .ref (g 0)), (1, .int x1), (2, .ref (g 1)), (3, .int x3_8), (4, .int x4_8), (5, .int x5_8), (6, .int y3), (7, .int x7_104), (8, .int x8_104)] → W p l e (headSpec wsX8_beauty ({ frames := 3, cells := 0, slots := 0, locals := 68 } : Room)).room s m ([.ref (g 0), .int x1, .ref (g 1)] : List Value).toArray below meth c H locs 0 0 (MQ below (mg_Q D (mg_mW g cI cZ σ) A (some (.int y))) ([.ref (g 0), .int x1, .ref (g 1)] : List Value).toArray s 0 0 A) (F0 m 104 ls []) := by
              intro n
              induction n with
              | zero => intro x7_104 x8_104 y104_ h; rw [f_X8_beauty_104] at h; cases h
              | succ n ih =>
                intro x7_104 x8_104 y104_ h kc H locs ls hw hl
                rw [f_X8_beauty_104] at h
                refine lv_iload hx hb dX8_beauty_104 (lv_at hl 8 rfl) ?_
                refine lv_aload_n hx hb dX8_beauty_106 rfl (lv_at hl 0 rfl) ?_
                refine va_get (D := D) (ci := 8) (v := .int (σ 0 5)) (C := RX8) (T := TX8) (N := 15) hx hb hts iX8_ hown hK hw.1 0 rfl rfl 5 (by decide) w2_ (fun _ h9 => h9) rfl dX8_beauty_107 ?_
                refine mg_icmp_ge (tgt := 157) hx hb h dX8_beauty_110 (by decide) (fun h => ?_) (fun h => ?_)
                · cases h
                  exact kc H locs ls hw (lv_sub hl [0, 1, 2, 3, 4, 5, 6, 7, 8] rfl)
                · refine lv_iload hx hb dX8_beauty_113 (lv_at hl 7 rfl) ?_
                  refine lv_aload_n hx hb dX8_beauty_115 rfl (lv_at hl 0 rfl) ?_
                  refine va_get (D := D) (ci := 8) (v := .ref (g 8)) (C := RX8) (T := TX8) (N := 15) hx hb hts iX8_ hown hK hw.1 0 rfl rfl 7 (by decide) w3_ (fun _ h9 => h9) rfl dX8_beauty_116 ?_
                  refine lv_iload hx hb dX8_beauty_119 (lv_at hl 8 rfl) ?_
                  refine mg_ald (σ := σ) (k := 8) (n := 30) hx hb hK hw 8 0 rfl rfl h dX8_beauty_121 (fun v7 h => ?_)
                  refine mg_if_ne (tgt := 147) hx hb h dX8_beauty_122 (by decide) (fun h => ?_) (fun h => ?_)
                  · refine lv_iconst (v := 0) hx hb dX8_beauty_147 (by decide) ?_
                    refine lv_iadd hx hb dX8_beauty_148 ?_
                    refine lv_istore (lv' := [(7, .int (x7_104 + 0)), (0, .ref (g 0)), (1, .int x1), (2, .ref (g 1)), (3, .int x3_8), (4, .int x4_8), (5, .int x5_8), (6, .int y3), (8, .int x8_104)]) hx hb dX8_beauty_149 hl (by decide) rfl (fun ls hl => ?_)
                    refine lv_iinc (v := (x8_104 + 1)) (lv' := [(8, .int (x8_104 + 1)), (7, .int (x7_104 + 0)), (0, .ref (g 0)), (1, .int x1), (2, .ref (g 1)), (3, .int x3_8), (4, .int x4_8), (5, .int x5_8), (6, .int y3)]) hx hb dX8_beauty_151 hl (k := 8) rfl rfl (by decide) rfl (fun ls hl => ?_)
                    refine lv_goto (tgt := 104) hx hb dX8_beauty_154 (by decide) ?_
                    exact ih _ _ _ h kc H locs ls hw (lv_sub hl [2, 3, 4, 5, 6, 7, 8, 1, 0] rfl)
                  · refine lv_aload_n hx hb dX8_beauty_125 rfl (lv_at hl 0 rfl) ?_
                    refine va_get (D := D) (ci := 8) (v := .ref (g 7)) (C := RX8) (T := TX8) (N := 15) hx hb hts iX8_ hown hK hw.1 0 rfl rfl 6 (by decide) w4_ (fun _ h9 => h9) rfl dX8_beauty_126 ?_
                    refine lv_iload hx hb dX8_beauty_129 (lv_at hl 8 rfl) ?_
                    refine mg_ald (σ := σ) (k := 7) (n := 30) hx hb hK hw 7 0 rfl rfl h dX8_beauty_131 (fun v8 h => ?_)
                    refine lv_iload hx hb dX8_beauty_132 (lv_at hl 6 rfl) ?_
                    refine mg_icmp_ne (tgt := 147) hx hb h dX8_beauty_134 (by decide) (fun h => ?_) (fun h => ?_)
                    · refine lv_iconst (v := 0) hx hb dX8_beauty_147 (by decide) ?_
                      refine lv_iadd hx hb dX8_beauty_148 ?_
                      refine lv_istore (lv' := [(7, .int (x7_104 + 0)), (0, .ref (g 0)), (1, .int x1), (2, .ref (g 1)), (3, .int x3_8), (4, .int x4_8), (5, .int x5_8), (6, .int y3), (8, .int x8_104)]) hx hb dX8_beauty_149 hl (by decide) rfl (fun ls hl => ?_)
                      refine lv_iinc (v := (x8_104 + 1)) (lv' := [(8, .int (x8_104 + 1)), (7, .int (x7_104 + 0)), (0, .ref (g 0)), (1, .int x1), (2, .ref (g 1)), (3, .int x3_8), (4, .int x4_8), (5, .int x5_8), (6, .int y3)]) hx hb dX8_beauty_151 hl (k := 8) rfl rfl (by decide) rfl (fun ls hl => ?_)
                      refine lv_goto (tgt := 104) hx hb dX8_beauty_154 (by decide) ?_
                      exact ih _ _ _ h kc H locs ls hw (lv_sub hl [2, 3, 4, 5, 6, 7, 8, 1, 0] rfl)
                    · refine lv_aload_n hx hb dX8_beauty_137 rfl (lv_at hl 2 rfl) ?_
                      refine va_getN (D := D) (ci := 7) (v := .ref (g 12)) (C := RX7) (T := TX7) (N := 4) hx hb hts iX7_ hown hK hw.1 1 rfl rfl 2 (by decide) (va_Nw.use rfl (hO.2.2.2.2.2.2.2.2.2.2.2.2.2.1)) (fun _ h9 => h9) rfl dX8_beauty_138 ?_
                      refine lv_iload hx hb dX8_beauty_141 (lv_at hl 8 rfl) ?_
                      refine mg_ald (σ := σ) (k := (2 * 1 + 10)) (n := 30) hx hb hK hw 12 0 rfl rfl h dX8_beauty_143 (fun v9 h => ?_)
                      refine lv_goto (tgt := 148) hx hb dX8_beauty_144 (by decide) ?_
                      refine lv_iadd hx hb dX8_beauty_148 ?_
                      refine lv_istore (lv' := [(7, .int (x7_104 + v9)), (0, .ref (g 0)), (1, .int x1), (2, .ref (g 1)), (3, .int x3_8), (4, .int x4_8), (5, .int x5_8), (6, .int y3), (8, .int x8_104)]) hx hb dX8_beauty_149 hl (by decide) rfl (fun ls hl => ?_)
                      refine lv_iinc (v := (x8_104 + 1)) (lv' := [(8, .int (x8_104 + 1)), (7, .int (x7_104 + v9)), (0, .ref (g 0)), (1, .int x1), (2, .ref (g 1)), (3, .int x3_8), (4, .int x4_8), (5, .int x5_8), (6, .int y3)]) hx hb dX8_beauty_151 hl (k := 8) rfl rfl (by decide) rfl (fun ls hl => ?_)
                      refine lv_goto (tgt := 104) hx hb dX8_beauty_154 (by decide) ?_
                      exact ih _ _ _ h kc H locs ls hw (lv_sub hl [2, 3, 4, 5, 6, 7, 8, 1, 0] rfl)
            obtain ⟨y6, h9_, h⟩ := mg_bind h
            refine L104_ _ _ _ _ h9_ (fun H locs ls hw hl => ?_) H locs ls hw (lv_sub hl [3, 4, 5, 6, 7, 8, 2, 1, 0] rfl)
            clear L104_ h9_
            refine lv_iload_n hx hb dX8_beauty_157 rfl (lv_at hl 3 rfl) ?_
            refine lv_iconst (v := 3) hx hb dX8_beauty_158 (by decide) ?_
            refine lv_iload hx hb dX8_beauty_159 (lv_at hl 7 rfl) ?_
            refine lv_bipush (v := 10) hx hb dX8_beauty_161 (by decide) ?_
            refine lv_idiv hx hb dX8_beauty_163 (by decide) ?_
            refine lv_iadd hx hb dX8_beauty_164 ?_
            refine lv_iadd hx hb dX8_beauty_165 ?_
            refine lv_istore_n (lv' := [(3, .int (x3_8 + (3 + (y6.1 / 10)))), (0, .ref (g 0)), (1, .int x1), (2, .ref (g 1)), (4, .int x4_8), (5, .int x5_8), (6, .int y3), (7, .int y6.1), (8, .int y6.2)]) hx hb dX8_beauty_166 rfl hl (by decide) rfl (fun ls hl => ?_)
            refine lv_iinc (v := (x5_8 + 1)) (lv' := [(5, .int (x5_8 + 1)), (3, .int (x3_8 + (3 + (y6.1 / 10)))), (0, .ref (g 0)), (1, .int x1), (2, .ref (g 1)), (4, .int x4_8), (6, .int y3), (7, .int y6.1), (8, .int y6.2)]) hx hb dX8_beauty_167 hl (k := 5) rfl rfl (by decide) rfl (fun ls hl => ?_)
            refine lv_goto (tgt := 8) hx hb dX8_beauty_170 (by decide) ?_
            exact ih _ _ _ _ h kc H locs ls hw (lv_sub hl [2, 3, 4, 1, 5, 0] rfl)
        · refine lv_iload_n hx hb dX8_beauty_39 rfl (lv_at hl 4 rfl) ?_
          refine lv_aload_n hx hb dX8_beauty_40 rfl (lv_at hl 1 rfl) ?_
          refine va_get (D := D) (ci := 8) (v := .ref (g 5)) (C := RX8) (T := TX8) (N := 15) hx hb hts iX8_ hown hK hw.1 0 rfl rfl 3 (by decide) w6_ (fun _ h9 => h9) rfl dX8_beauty_41 ?_
          refine lv_iload hx hb dX8_beauty_44 (lv_at hl 0 rfl) ?_
          refine mg_ald (σ := σ) (k := 5) (n := 70) hx hb hK hw 5 0 rfl rfl h dX8_beauty_46 (fun v10 h => ?_)
          refine lv_iload hx hb dX8_beauty_47 (lv_at hl 5 rfl) ?_
          refine lv_aload_n hx hb dX8_beauty_49 rfl (lv_at hl 1 rfl) ?_
          refine va_get (D := D) (ci := 8) (v := .ref (g 4)) (C := RX8) (T := TX8) (N := 15) hx hb hts iX8_ hown hK hw.1 0 rfl rfl 2 (by decide) w7_ (fun _ h9 => h9) rfl dX8_beauty_50 ?_
          refine lv_iload hx hb dX8_beauty_53 (lv_at hl 0 rfl) ?_
          refine mg_ald (σ := σ) (k := 4) (n := 70) hx hb hK hw 4 0 rfl rfl h dX8_beauty_55 (fun v11 h => ?_)
          refine lv_ishr hx hb dX8_beauty_56 ?_
          refine lv_iconst (v := 1) hx hb dX8_beauty_57 (by decide) ?_
          refine lv_iand hx hb dX8_beauty_58 ?_
          obtain ⟨y12, h9_, h⟩ := mg_bind h
          have J59_ : ∀ (H : Heap) (locs : List Loc) (ls : Array Slot), mg_Wo D A s.heap H locs (mg_mW g cI cZ σ) → lv_has ls 9 [(0, .ref (g 0)), (1, .int x1), (2, .ref (g 1)), (3, .int x3_8), (4, .int x4_8), (5, .int x5_8), (6, .int y3)] → W p l e (headSpec wsX8_beauty ({ frames := 3, cells := 0, slots := 0, locals := 68 } : Room)).room s m ([.ref (g 0), .int x1, .ref (g 1)] : List Value).toArray below meth c H locs 0 0 (MQ below (mg_Q D (mg_mW g cI cZ σ) A (some (.int y))) ([.ref (g 0), .int x1, .ref (g 1)] : List Value).toArray s 0 0 A) (F0 m 67 ls [.int y12, .int v10, .int x3_8]) := by
            intro H locs ls hw hl
            clear h9_
            refine lv_iadd hx hb dX8_beauty_67 ?_
            refine lv_iadd hx hb dX8_beauty_68 ?_
            refine lv_istore_n (lv' := [(3, .int (x3_8 + (v10 + y12))), (0, .ref (g 0)), (1, .int x1), (2, .ref (g 1)), (4, .int x4_8), (5, .int x5_8), (6, .int y3)]) hx hb dX8_beauty_69 rfl hl (by decide) rfl (fun ls hl => ?_)
            refine lv_iload hx hb dX8_beauty_70 (lv_at hl 4 rfl) ?_
            refine lv_iconst (v := 1) hx hb dX8_beauty_72 (by decide) ?_
            refine lv_aload_n hx hb dX8_beauty_73 rfl (lv_at hl 1 rfl) ?_
            refine va_get (D := D) (ci := 8) (v := .ref (g 4)) (C := RX8) (T := TX8) (N := 15) hx hb hts iX8_ hown hK hw.1 0 rfl rfl 2 (by decide) w7_ (fun _ h9 => h9) rfl dX8_beauty_74 ?_
            refine lv_iload hx hb dX8_beauty_77 (lv_at hl 6 rfl) ?_
            refine mg_ald (σ := σ) (k := 4) (n := 70) hx hb hK hw 4 0 rfl rfl h dX8_beauty_79 (fun v13 h => ?_)
            refine lv_ishl hx hb dX8_beauty_80 ?_
            refine lv_ior hx hb dX8_beauty_81 ?_
            refine lv_istore (lv' := [(4, .int (x4_8 ||| (1 <<< (v13 &&& 31)))), (3, .int (x3_8 + (v10 + y12))), (0, .ref (g 0)), (1, .int x1), (2, .ref (g 1)), (5, .int x5_8), (6, .int y3)]) hx hb dX8_beauty_82 hl (by decide) rfl (fun ls hl => ?_)
            refine lv_goto (tgt := 167) hx hb dX8_beauty_84 (by decide) ?_
            refine lv_iinc (v := (x5_8 + 1)) (lv' := [(5, .int (x5_8 + 1)), (4, .int (x4_8 ||| (1 <<< (v13 &&& 31)))), (3, .int (x3_8 + (v10 + y12))), (0, .ref (g 0)), (1, .int x1), (2, .ref (g 1)), (6, .int y3)]) hx hb dX8_beauty_167 hl (k := 5) rfl rfl (by decide) rfl (fun ls hl => ?_)
            refine lv_goto (tgt := 8) hx hb dX8_beauty_170 (by decide) ?_
            exact ih _ _ _ _ h kc H locs ls hw (lv_sub hl [3, 4, 5, 2, 1, 0] rfl)
          clear h
          have h := h9_
          clear h9_
          refine mg_if_ne (tgt := 66) hx hb h dX8_beauty_59 (by decide) (fun h => ?_) (fun h => ?_)
          · refine lv_iconst (v := 0) hx hb dX8_beauty_66 (by decide) ?_
            cases h
            exact J59_ H locs ls hw (lv_sub hl [1, 2, 3, 4, 5, 6, 0] rfl)
          · refine lv_iconst (v := 4) hx hb dX8_beauty_62 (by decide) ?_
            refine lv_goto (tgt := 67) hx hb dX8_beauty_63 (by decide) ?_
            cases h
            exact J59_ H locs ls hw (lv_sub hl [1, 2, 3, 4, 5, 6, 0] rfl)
  obtain ⟨y1, h9_, h⟩ := mg_bind h
  refine L8_ _ _ _ _ _ h9_ (fun H locs ls hw hl => ?_) H locs ls hw (lv_sub hl [3, 4, 5, 2, 1, 0] rfl)
  clear L8_ h9_
  refine lv_iload_n hx hb dX8_beauty_173 rfl (lv_at hl 3 rfl) ?_
  cases h
  exact mg_eI hx hb hr hlocks hw (Nat.zero_le _) (Nat.zero_le _) dX8_beauty_174
set_option maxHeartbeats 4000000 in
set_option maxRecDepth 100000 in
theorem k_X8_beauty_2 (l : Launch) (D : va_G) (o : Nat → Nat) (cI cZ : ClassId) (g : Nat → Nat) (sz : Nat) (σ : mg_St) (x1 : Int32) (y : Int32) (h : f_X8_beauty σ 2 x1 = some y) : mg_CT l yX8_beauty wsX8_beauty ({ frames := 3, cells := 0, slots := 0, locals := 68 } : Room) D [(cI, .int), (cZ, .boolean)] o (mg_mW g cI cZ σ) sz [.ref (g 0), .int x1, .ref (g 2)] (some (.int y)) (mg_mW g cI cZ σ) 0 0 := by
  unfold mg_CT
  refine Met.ofW (cc := cX8_beauty) (maxL := 9) (ret := (some .int)) (by decide) rfl ?_
  intro p e s m args below meth c s₁ B hml hv
  obtain ⟨rfl, hsz, hP, hK, hD0, hO⟩ := hv
  have hx := B.exec
  have hb := B.bytes
  have hr := B.returns
  have hts := atoms_spec (ws := wsX8_beauty) B.pre
  have hown : s.vm.findClass RX8 = some m.cls := findClass_of_methodNamed B.named
  have hlocks := B.notSynchronized
  subst hsz
  have hD := hD0.self (sz := s.heap.size)
  generalize hAe : va_A (mg_mW g cI cZ σ) s.heap.size = A at hD hO ⊢
  have hA : ∀ q : Nat, s.heap.size ≤ q → A q := fun q h => by rw [← hAe]; exact Or.inr h
  have hw : mg_Wo D A s.heap s.heap [] (mg_mW g cI cZ σ) := ⟨hP, hD, va_S.rf⟩
  have G9 : CallFix p m c cX8_beauty 9 s ([.ref (g 0), .int x1, .ref (g 2)] : List Value).toArray wsX8_beauty RX8 := ⟨hx, hb, hml, hown, hts⟩
  clear hP hD hD0 hAe
  obtain ⟨H, hHe⟩ : ∃ H : Heap, H = s.heap := ⟨_, rfl⟩
  have w0_ := hts (.fieldLink RX8 9 "MoonGateModel" "kind" "[I") (by decide +kernel)
  have iX8_ : ∀ w ∈ wsX80, w ∈ wsX8_beauty := (fun _ h => List.mem_cons_of_mem _ (List.mem_append_left _ (List.mem_append_right _ h)))
  have w2_ := hts (.fieldLink RX8 71 "MoonGateModel" "carps" "I") (by decide +kernel)
  have w3_ := hts (.fieldLink RX8 25 "MoonGateModel" "sold" "[I") (by decide +kernel)
  have w4_ := hts (.fieldLink RX8 22 "MoonGateModel" "swims" "[I") (by decide +kernel)
  have iX7_ : ∀ w ∈ wsX70, w ∈ wsX8_beauty := (fun _ h => List.mem_cons_of_mem _ (List.mem_append_right _ h))
  have w6_ := hts (.fieldLink RX8 16 "MoonGateModel" "bulk" "[I") (by decide +kernel)
  have w7_ := hts (.fieldLink RX8 13 "MoonGateModel" "shape" "[I") (by decide +kernel)
  have hl := lv_entry ([.ref (g 0), .int x1, .ref (g 2)]) (n := 9) (Nat.le_of_ble_eq_true rfl)
  rw [lg_entry_eq]
  generalize (lg_sl ([.ref (g 0), .int x1, .ref (g 2)]) ++ List.replicate (9 - (lg_sl ([.ref (g 0), .int x1, .ref (g 2)])).length) Slot.unset).toArray = ls at hl ⊢
  have hl : lv_has ls 9 [(0, .ref (g 0)), (1, .int x1), (2, .ref (g 2))] := hl
  unfold f_X8_beauty at h
  revert hw
  intro hw
  suffices K_ : ∀ (H : Heap) (locs : List Loc), mg_Wo D A s.heap H locs (mg_mW g cI cZ σ) → W p l e (headSpec wsX8_beauty ({ frames := 3, cells := 0, slots := 0, locals := 68 } : Room)).room s m ([.ref (g 0), .int x1, .ref (g 2)] : List Value).toArray below meth c H locs 0 0 (MQ below (mg_Q D (mg_mW g cI cZ σ) A (some (.int y))) ([.ref (g 0), .int x1, .ref (g 2)] : List Value).toArray s 0 0 A) (F0 m 0 ls []) from K_ _ _ hw
  clear hw hHe H
  intro H locs hw
  refine lv_iconst (v := 0) hx hb dX8_beauty_0 (by decide) ?_
  refine lv_istore_n (lv' := [(3, .int 0), (0, .ref (g 0)), (1, .int x1), (2, .ref (g 2))]) hx hb dX8_beauty_1 rfl hl (by decide) rfl (fun ls hl => ?_)
  refine lv_iconst (v := 0) hx hb dX8_beauty_2 (by decide) ?_
  refine lv_istore (lv' := [(4, .int 0), (3, .int 0), (0, .ref (g 0)), (1, .int x1), (2, .ref (g 2))]) hx hb dX8_beauty_3 hl (by decide) rfl (fun ls hl => ?_)
  refine lv_iconst (v := 1) hx hb dX8_beauty_5 (by decide) ?_
  refine lv_istore (lv' := [(5, .int 1), (4, .int 0), (3, .int 0), (0, .ref (g 0)), (1, .int x1), (2, .ref (g 2))]) hx hb dX8_beauty_6 hl (by decide) rfl (fun ls hl => ?_)
  have L8_ : ∀ (n : Nat) (x3_8 : Int32) (x4_8 : Int32) (x5_8 : Int32) (y8_ : Int32 × Int32 × Int32), f_X8_beauty_8 σ 2 x1 n x3_8 x4_8 x5_8 = some y8_ → (∀ (H : Heap) (locs : List Loc) (ls : Array Slot), mg_Wo D A s.heap H locs (mg_mW g cI cZ σ) → lv_has ls 9 [(0, .ref (g 0)), (1, .int x1), (2, .ref (g 2)), (3, .int y8_.1), (4, .int y8_.2.1), (5, .int y8_.2.2)] → W p l e (headSpec wsX8_beauty ({ frames := 3, cells := 0, slots := 0, locals := 68 } : Room)).room s m ([.ref (g 0), .int x1, .ref (g 2)] : List Value).toArray below meth c H locs 0 0 (MQ below (mg_Q D (mg_mW g cI cZ σ) A (some (.int y))) ([.ref (g 0), .int x1, .ref (g 2)] : List Value).toArray s 0 0 A) (F0 m 173 ls [])) → ∀ (H : Heap) (locs : List Loc) (ls : Array Slot), mg_Wo D A s.heap H locs (mg_mW g cI cZ σ) → lv_has ls 9 [(0, .ref (g 0)), (1, .int x1), (2, .ref (g 2)), (3, .int x3_8), (4, .int x4_8), (5, .int x5_8)] → W p l e (headSpec wsX8_beauty ({ frames := 3, cells := 0, slots := 0, locals := 68 } : Room)).room s m ([.ref (g 0), .int x1, .ref (g 2)] : List Value).toArray below meth c H locs 0 0 (MQ below (mg_Q D (mg_mW g cI cZ σ) A (some (.int y))) ([.ref (g 0), .int x1, .ref (g 2)] : List Value).toArray s 0 0 A) (F0 m 8 ls []) := by
    intro n
    induction n with
    | zero => intro x3_8 x4_8 x5_8 y8_ h; rw [f_X8_beauty_8] at h; cases h
    | succ n ih =>
      intro x3_8 x4_8 x5_8 y8_ h kc H locs ls hw hl
      rw [f_X8_beauty_8] at h
      refine lv_aload_n hx hb dX8_beauty_8 rfl (lv_at hl 0 rfl) ?_
      refine lv_iload_n hx hb dX8_beauty_9 rfl (lv_at hl 1 rfl) ?_
      refine lv_iload hx hb dX8_beauty_10 (lv_at hl 5 rfl) ?_
      obtain ⟨y2, h9_, h⟩ := mg_bind h
      refine mg_k (rv := (some (.int y2))) (va_runV (As := [.int x1, .int x5_8]) (rest := []) G9 (k_X8_shows l D o cI cZ g H.size σ x1 x5_8 y2 h9_) (cwV 2 hts gX8_beauty_X8_shows rfl rfl rfl (by decide +kernel) ⟨Nat.le_of_ble_eq_true rfl, Nat.le_of_ble_eq_true rfl⟩) (mg_preV hK hO hA hw (q0 := 0) rfl rfl) rfl rfl hl.1 rfl (lv_room (Nat.le_of_ble_eq_true rfl)) dX8_beauty_12 ⟨Nat.zero_le _, Nat.zero_le _⟩) hw hA (fun H locs hw => ?_)
      clear h9_
      refine lv_iconst (v := (-1)) hx hb dX8_beauty_15 (by decide) ?_
      refine mg_icmp_eq (tgt := 173) hx hb h dX8_beauty_16 (by decide) (fun h => ?_) (fun h => ?_)
      · cases h
        exact kc H locs ls hw (lv_sub hl [0, 1, 2, 3, 4, 5] rfl)
      · refine lv_aload_n hx hb dX8_beauty_19 rfl (lv_at hl 0 rfl) ?_
        refine lv_iload_n hx hb dX8_beauty_20 rfl (lv_at hl 1 rfl) ?_
        refine lv_iload hx hb dX8_beauty_21 (lv_at hl 5 rfl) ?_
        obtain ⟨y3, h9_, h⟩ := mg_bind h
        refine mg_k (rv := (some (.int y3))) (va_runV (As := [.int x1, .int x5_8]) (rest := []) G9 (k_X8_shows l D o cI cZ g H.size σ x1 x5_8 y3 h9_) (cwV 2 hts gX8_beauty_X8_shows rfl rfl rfl (by decide +kernel) ⟨Nat.le_of_ble_eq_true rfl, Nat.le_of_ble_eq_true rfl⟩) (mg_preV hK hO hA hw (q0 := 0) rfl rfl) rfl rfl hl.1 rfl (lv_room (Nat.le_of_ble_eq_true rfl)) dX8_beauty_23 ⟨Nat.zero_le _, Nat.zero_le _⟩) hw hA (fun H locs hw => ?_)
        clear h9_
        refine lv_istore (lv' := [(6, .int y3), (0, .ref (g 0)), (1, .int x1), (2, .ref (g 2)), (3, .int x3_8), (4, .int x4_8), (5, .int x5_8)]) hx hb dX8_beauty_26 hl (by decide) rfl (fun ls hl => ?_)
        refine lv_aload_n hx hb dX8_beauty_28 rfl (lv_at hl 1 rfl) ?_
        refine va_get (D := D) (ci := 8) (v := .ref (g 3)) (C := RX8) (T := TX8) (N := 15) hx hb hts iX8_ hown hK hw.1 0 rfl rfl 1 (by decide) w0_ (fun _ h9 => h9) rfl dX8_beauty_29 ?_
        refine lv_iload hx hb dX8_beauty_32 (lv_at hl 0 rfl) ?_
        refine mg_ald (σ := σ) (k := 3) (n := 70) hx hb hK hw 3 0 rfl rfl h dX8_beauty_34 (fun v4 h => ?_)
        refine lv_iconst (v := 1) hx hb dX8_beauty_35 (by decide) ?_
        refine mg_icmp_ne (tgt := 87) hx hb h dX8_beauty_36 (by decide) (fun h => ?_) (fun h => ?_)
        · refine lv_aload_n hx hb dX8_beauty_87 rfl (lv_at hl 1 rfl) ?_
          refine va_get (D := D) (ci := 8) (v := .ref (g 3)) (C := RX8) (T := TX8) (N := 15) hx hb hts iX8_ hown hK hw.1 0 rfl rfl 1 (by decide) w0_ (fun _ h9 => h9) rfl dX8_beauty_88 ?_
          refine lv_iload hx hb dX8_beauty_91 (lv_at hl 0 rfl) ?_
          refine mg_ald (σ := σ) (k := 3) (n := 70) hx hb hK hw 3 0 rfl rfl h dX8_beauty_93 (fun v5 h => ?_)
          refine lv_iconst (v := 2) hx hb dX8_beauty_94 (by decide) ?_
          refine mg_icmp_ne (tgt := 167) hx hb h dX8_beauty_95 (by decide) (fun h => ?_) (fun h => ?_)
          · refine lv_iinc (v := (x5_8 + 1)) (lv' := [(5, .int (x5_8 + 1)), (6, .int y3), (0, .ref (g 0)), (1, .int x1), (2, .ref (g 2)), (3, .int x3_8), (4, .int x4_8)]) hx hb dX8_beauty_167 hl (k := 6) rfl rfl (by decide) rfl (fun ls hl => ?_)
            refine lv_goto (tgt := 8) hx hb dX8_beauty_170 (by decide) ?_
            exact ih _ _ _ _ h kc H locs ls hw (lv_sub hl [2, 3, 4, 5, 6, 0] rfl)
          · refine lv_iconst (v := 0) hx hb dX8_beauty_98 (by decide) ?_
            refine lv_istore (lv' := [(7, .int 0), (6, .int y3), (0, .ref (g 0)), (1, .int x1), (2, .ref (g 2)), (3, .int x3_8), (4, .int x4_8), (5, .int x5_8)]) hx hb dX8_beauty_99 hl (by decide) rfl (fun ls hl => ?_)
            refine lv_iconst (v := 0) hx hb dX8_beauty_101 (by decide) ?_
            refine lv_istore (lv' := [(8, .int 0), (7, .int 0), (6, .int y3), (0, .ref (g 0)), (1, .int x1), (2, .ref (g 2)), (3, .int x3_8), (4, .int x4_8), (5, .int x5_8)]) hx hb dX8_beauty_102 hl (by decide) rfl (fun ls hl => ?_)
            have L104_ : ∀ (n : Nat) (x7_104 : Int32) (x8_104 : Int32) (y104_ : Int32 × Int32), f_X8_beauty_104 σ 2 x1 x3_8 x4_8 x5_8 y3 n x7_104 x8_104 = some y104_ → (∀ (H : Heap) (locs : List Loc) (ls : Array Slot), mg_Wo D A s.heap H locs (mg_mW g cI cZ σ) → lv_has ls 9 [(0, .ref (g 0)), (1, .int x1), (2, .ref (g 2)), (3, .int x3_8), (4, .int x4_8), (5, .int x5_8), (6, .int y3), (7, .int y104_.1), (8, .int y104_.2)] → W p l e (headSpec wsX8_beauty ({ frames := 3, cells := 0, slots := 0, locals := 68 } : Room)).room s m ([.ref (g 0), .int x1, .ref (g 2)] : List Value).toArray below meth c H locs 0 0 (MQ below (mg_Q D (mg_mW g cI cZ σ) A (some (.int y))) ([.ref (g 0), .int x1, .ref (g 2)] : List Value).toArray s 0 0 A) (F0 m 157 ls [])) → ∀ (H : Heap) (locs : List Loc) (ls : Array Slot), mg_Wo D A s.heap H locs (mg_mW g cI cZ σ) → lv_has ls 9 [(0, .ref (g 0)), (1, .int x1), (2, .ref (g 2)), (3, .int x3_8), (4, .int x4_8), (5, .int x5_8), (6, .int y3), (7, .int x7_104), (8, .int x8_104)] → W p l e (headSpec wsX8_beauty ({ frames := 3, cells := 0, slots := 0, locals := 68 } : Room)).room s m ([.ref (g 0), .int x1, .ref (g 2)] : List Value).toArray below meth c H locs 0 0 (MQ below (mg_Q D (mg_mW g cI cZ σ) A (some (.int y))) ([.ref (g 0), .int x1, .ref (g 2)] : List Value).toArray s 0 0 A) (F0 m 104 ls []) := by
              intro n
              induction n with
              | zero => intro x7_104 x8_104 y104_ h; rw [f_X8_beauty_104] at h; cases h
              | succ n ih =>
                intro x7_104 x8_104 y104_ h kc H locs ls hw hl
                rw [f_X8_beauty_104] at h
                refine lv_iload hx hb dX8_beauty_104 (lv_at hl 8 rfl) ?_
                refine lv_aload_n hx hb dX8_beauty_106 rfl (lv_at hl 0 rfl) ?_
                refine va_get (D := D) (ci := 8) (v := .int (σ 0 5)) (C := RX8) (T := TX8) (N := 15) hx hb hts iX8_ hown hK hw.1 0 rfl rfl 5 (by decide) w2_ (fun _ h9 => h9) rfl dX8_beauty_107 ?_
                refine mg_icmp_ge (tgt := 157) hx hb h dX8_beauty_110 (by decide) (fun h => ?_) (fun h => ?_)
                · cases h
                  exact kc H locs ls hw (lv_sub hl [0, 1, 2, 3, 4, 5, 6, 7, 8] rfl)
                · refine lv_iload hx hb dX8_beauty_113 (lv_at hl 7 rfl) ?_
                  refine lv_aload_n hx hb dX8_beauty_115 rfl (lv_at hl 0 rfl) ?_
                  refine va_get (D := D) (ci := 8) (v := .ref (g 8)) (C := RX8) (T := TX8) (N := 15) hx hb hts iX8_ hown hK hw.1 0 rfl rfl 7 (by decide) w3_ (fun _ h9 => h9) rfl dX8_beauty_116 ?_
                  refine lv_iload hx hb dX8_beauty_119 (lv_at hl 8 rfl) ?_
                  refine mg_ald (σ := σ) (k := 8) (n := 30) hx hb hK hw 8 0 rfl rfl h dX8_beauty_121 (fun v7 h => ?_)
                  refine mg_if_ne (tgt := 147) hx hb h dX8_beauty_122 (by decide) (fun h => ?_) (fun h => ?_)
                  · refine lv_iconst (v := 0) hx hb dX8_beauty_147 (by decide) ?_
                    refine lv_iadd hx hb dX8_beauty_148 ?_
                    refine lv_istore (lv' := [(7, .int (x7_104 + 0)), (0, .ref (g 0)), (1, .int x1), (2, .ref (g 2)), (3, .int x3_8), (4, .int x4_8), (5, .int x5_8), (6, .int y3), (8, .int x8_104)]) hx hb dX8_beauty_149 hl (by decide) rfl (fun ls hl => ?_)
                    refine lv_iinc (v := (x8_104 + 1)) (lv' := [(8, .int (x8_104 + 1)), (7, .int (x7_104 + 0)), (0, .ref (g 0)), (1, .int x1), (2, .ref (g 2)), (3, .int x3_8), (4, .int x4_8), (5, .int x5_8), (6, .int y3)]) hx hb dX8_beauty_151 hl (k := 8) rfl rfl (by decide) rfl (fun ls hl => ?_)
                    refine lv_goto (tgt := 104) hx hb dX8_beauty_154 (by decide) ?_
                    exact ih _ _ _ h kc H locs ls hw (lv_sub hl [2, 3, 4, 5, 6, 7, 8, 1, 0] rfl)
                  · refine lv_aload_n hx hb dX8_beauty_125 rfl (lv_at hl 0 rfl) ?_
                    refine va_get (D := D) (ci := 8) (v := .ref (g 7)) (C := RX8) (T := TX8) (N := 15) hx hb hts iX8_ hown hK hw.1 0 rfl rfl 6 (by decide) w4_ (fun _ h9 => h9) rfl dX8_beauty_126 ?_
                    refine lv_iload hx hb dX8_beauty_129 (lv_at hl 8 rfl) ?_
                    refine mg_ald (σ := σ) (k := 7) (n := 30) hx hb hK hw 7 0 rfl rfl h dX8_beauty_131 (fun v8 h => ?_)
                    refine lv_iload hx hb dX8_beauty_132 (lv_at hl 6 rfl) ?_
                    refine mg_icmp_ne (tgt := 147) hx hb h dX8_beauty_134 (by decide) (fun h => ?_) (fun h => ?_)
                    · refine lv_iconst (v := 0) hx hb dX8_beauty_147 (by decide) ?_
                      refine lv_iadd hx hb dX8_beauty_148 ?_
                      refine lv_istore (lv' := [(7, .int (x7_104 + 0)), (0, .ref (g 0)), (1, .int x1), (2, .ref (g 2)), (3, .int x3_8), (4, .int x4_8), (5, .int x5_8), (6, .int y3), (8, .int x8_104)]) hx hb dX8_beauty_149 hl (by decide) rfl (fun ls hl => ?_)
                      refine lv_iinc (v := (x8_104 + 1)) (lv' := [(8, .int (x8_104 + 1)), (7, .int (x7_104 + 0)), (0, .ref (g 0)), (1, .int x1), (2, .ref (g 2)), (3, .int x3_8), (4, .int x4_8), (5, .int x5_8), (6, .int y3)]) hx hb dX8_beauty_151 hl (k := 8) rfl rfl (by decide) rfl (fun ls hl => ?_)
                      refine lv_goto (tgt := 104) hx hb dX8_beauty_154 (by decide) ?_
                      exact ih _ _ _ h kc H locs ls hw (lv_sub hl [2, 3, 4, 5, 6, 7, 8, 1, 0] rfl)
                    · refine lv_aload_n hx hb dX8_beauty_137 rfl (lv_at hl 2 rfl) ?_
                      refine va_getN (D := D) (ci := 7) (v := .ref (g 14)) (C := RX7) (T := TX7) (N := 4) hx hb hts iX7_ hown hK hw.1 2 rfl rfl 2 (by decide) (va_Nw.use rfl (hO.2.2.2.2.2.2.2.2.2.2.2.2.2.1)) (fun _ h9 => h9) rfl dX8_beauty_138 ?_
                      refine lv_iload hx hb dX8_beauty_141 (lv_at hl 8 rfl) ?_
                      refine mg_ald (σ := σ) (k := (2 * 2 + 10)) (n := 30) hx hb hK hw 14 0 rfl rfl h dX8_beauty_143 (fun v9 h => ?_)
                      refine lv_goto (tgt := 148) hx hb dX8_beauty_144 (by decide) ?_
                      refine lv_iadd hx hb dX8_beauty_148 ?_
                      refine lv_istore (lv' := [(7, .int (x7_104 + v9)), (0, .ref (g 0)), (1, .int x1), (2, .ref (g 2)), (3, .int x3_8), (4, .int x4_8), (5, .int x5_8), (6, .int y3), (8, .int x8_104)]) hx hb dX8_beauty_149 hl (by decide) rfl (fun ls hl => ?_)
                      refine lv_iinc (v := (x8_104 + 1)) (lv' := [(8, .int (x8_104 + 1)), (7, .int (x7_104 + v9)), (0, .ref (g 0)), (1, .int x1), (2, .ref (g 2)), (3, .int x3_8), (4, .int x4_8), (5, .int x5_8), (6, .int y3)]) hx hb dX8_beauty_151 hl (k := 8) rfl rfl (by decide) rfl (fun ls hl => ?_)
                      refine lv_goto (tgt := 104) hx hb dX8_beauty_154 (by decide) ?_
                      exact ih _ _ _ h kc H locs ls hw (lv_sub hl [2, 3, 4, 5, 6, 7, 8, 1, 0] rfl)
            obtain ⟨y6, h9_, h⟩ := mg_bind h
            refine L104_ _ _ _ _ h9_ (fun H locs ls hw hl => ?_) H locs ls hw (lv_sub hl [3, 4, 5, 6, 7, 8, 2, 1, 0] rfl)
            clear L104_ h9_
            refine lv_iload_n hx hb dX8_beauty_157 rfl (lv_at hl 3 rfl) ?_
            refine lv_iconst (v := 3) hx hb dX8_beauty_158 (by decide) ?_
            refine lv_iload hx hb dX8_beauty_159 (lv_at hl 7 rfl) ?_
            refine lv_bipush (v := 10) hx hb dX8_beauty_161 (by decide) ?_
            refine lv_idiv hx hb dX8_beauty_163 (by decide) ?_
            refine lv_iadd hx hb dX8_beauty_164 ?_
            refine lv_iadd hx hb dX8_beauty_165 ?_
            refine lv_istore_n (lv' := [(3, .int (x3_8 + (3 + (y6.1 / 10)))), (0, .ref (g 0)), (1, .int x1), (2, .ref (g 2)), (4, .int x4_8), (5, .int x5_8), (6, .int y3), (7, .int y6.1), (8, .int y6.2)]) hx hb dX8_beauty_166 rfl hl (by decide) rfl (fun ls hl => ?_)
            refine lv_iinc (v := (x5_8 + 1)) (lv' := [(5, .int (x5_8 + 1)), (3, .int (x3_8 + (3 + (y6.1 / 10)))), (0, .ref (g 0)), (1, .int x1), (2, .ref (g 2)), (4, .int x4_8), (6, .int y3), (7, .int y6.1), (8, .int y6.2)]) hx hb dX8_beauty_167 hl (k := 5) rfl rfl (by decide) rfl (fun ls hl => ?_)
            refine lv_goto (tgt := 8) hx hb dX8_beauty_170 (by decide) ?_
            exact ih _ _ _ _ h kc H locs ls hw (lv_sub hl [2, 3, 4, 1, 5, 0] rfl)
        · refine lv_iload_n hx hb dX8_beauty_39 rfl (lv_at hl 4 rfl) ?_
          refine lv_aload_n hx hb dX8_beauty_40 rfl (lv_at hl 1 rfl) ?_
          refine va_get (D := D) (ci := 8) (v := .ref (g 5)) (C := RX8) (T := TX8) (N := 15) hx hb hts iX8_ hown hK hw.1 0 rfl rfl 3 (by decide) w6_ (fun _ h9 => h9) rfl dX8_beauty_41 ?_
          refine lv_iload hx hb dX8_beauty_44 (lv_at hl 0 rfl) ?_
          refine mg_ald (σ := σ) (k := 5) (n := 70) hx hb hK hw 5 0 rfl rfl h dX8_beauty_46 (fun v10 h => ?_)
          refine lv_iload hx hb dX8_beauty_47 (lv_at hl 5 rfl) ?_
          refine lv_aload_n hx hb dX8_beauty_49 rfl (lv_at hl 1 rfl) ?_
          refine va_get (D := D) (ci := 8) (v := .ref (g 4)) (C := RX8) (T := TX8) (N := 15) hx hb hts iX8_ hown hK hw.1 0 rfl rfl 2 (by decide) w7_ (fun _ h9 => h9) rfl dX8_beauty_50 ?_
          refine lv_iload hx hb dX8_beauty_53 (lv_at hl 0 rfl) ?_
          refine mg_ald (σ := σ) (k := 4) (n := 70) hx hb hK hw 4 0 rfl rfl h dX8_beauty_55 (fun v11 h => ?_)
          refine lv_ishr hx hb dX8_beauty_56 ?_
          refine lv_iconst (v := 1) hx hb dX8_beauty_57 (by decide) ?_
          refine lv_iand hx hb dX8_beauty_58 ?_
          obtain ⟨y12, h9_, h⟩ := mg_bind h
          have J59_ : ∀ (H : Heap) (locs : List Loc) (ls : Array Slot), mg_Wo D A s.heap H locs (mg_mW g cI cZ σ) → lv_has ls 9 [(0, .ref (g 0)), (1, .int x1), (2, .ref (g 2)), (3, .int x3_8), (4, .int x4_8), (5, .int x5_8), (6, .int y3)] → W p l e (headSpec wsX8_beauty ({ frames := 3, cells := 0, slots := 0, locals := 68 } : Room)).room s m ([.ref (g 0), .int x1, .ref (g 2)] : List Value).toArray below meth c H locs 0 0 (MQ below (mg_Q D (mg_mW g cI cZ σ) A (some (.int y))) ([.ref (g 0), .int x1, .ref (g 2)] : List Value).toArray s 0 0 A) (F0 m 67 ls [.int y12, .int v10, .int x3_8]) := by
            intro H locs ls hw hl
            clear h9_
            refine lv_iadd hx hb dX8_beauty_67 ?_
            refine lv_iadd hx hb dX8_beauty_68 ?_
            refine lv_istore_n (lv' := [(3, .int (x3_8 + (v10 + y12))), (0, .ref (g 0)), (1, .int x1), (2, .ref (g 2)), (4, .int x4_8), (5, .int x5_8), (6, .int y3)]) hx hb dX8_beauty_69 rfl hl (by decide) rfl (fun ls hl => ?_)
            refine lv_iload hx hb dX8_beauty_70 (lv_at hl 4 rfl) ?_
            refine lv_iconst (v := 1) hx hb dX8_beauty_72 (by decide) ?_
            refine lv_aload_n hx hb dX8_beauty_73 rfl (lv_at hl 1 rfl) ?_
            refine va_get (D := D) (ci := 8) (v := .ref (g 4)) (C := RX8) (T := TX8) (N := 15) hx hb hts iX8_ hown hK hw.1 0 rfl rfl 2 (by decide) w7_ (fun _ h9 => h9) rfl dX8_beauty_74 ?_
            refine lv_iload hx hb dX8_beauty_77 (lv_at hl 6 rfl) ?_
            refine mg_ald (σ := σ) (k := 4) (n := 70) hx hb hK hw 4 0 rfl rfl h dX8_beauty_79 (fun v13 h => ?_)
            refine lv_ishl hx hb dX8_beauty_80 ?_
            refine lv_ior hx hb dX8_beauty_81 ?_
            refine lv_istore (lv' := [(4, .int (x4_8 ||| (1 <<< (v13 &&& 31)))), (3, .int (x3_8 + (v10 + y12))), (0, .ref (g 0)), (1, .int x1), (2, .ref (g 2)), (5, .int x5_8), (6, .int y3)]) hx hb dX8_beauty_82 hl (by decide) rfl (fun ls hl => ?_)
            refine lv_goto (tgt := 167) hx hb dX8_beauty_84 (by decide) ?_
            refine lv_iinc (v := (x5_8 + 1)) (lv' := [(5, .int (x5_8 + 1)), (4, .int (x4_8 ||| (1 <<< (v13 &&& 31)))), (3, .int (x3_8 + (v10 + y12))), (0, .ref (g 0)), (1, .int x1), (2, .ref (g 2)), (6, .int y3)]) hx hb dX8_beauty_167 hl (k := 5) rfl rfl (by decide) rfl (fun ls hl => ?_)
            refine lv_goto (tgt := 8) hx hb dX8_beauty_170 (by decide) ?_
            exact ih _ _ _ _ h kc H locs ls hw (lv_sub hl [3, 4, 5, 2, 1, 0] rfl)
          clear h
          have h := h9_
          clear h9_
          refine mg_if_ne (tgt := 66) hx hb h dX8_beauty_59 (by decide) (fun h => ?_) (fun h => ?_)
          · refine lv_iconst (v := 0) hx hb dX8_beauty_66 (by decide) ?_
            cases h
            exact J59_ H locs ls hw (lv_sub hl [1, 2, 3, 4, 5, 6, 0] rfl)
          · refine lv_iconst (v := 4) hx hb dX8_beauty_62 (by decide) ?_
            refine lv_goto (tgt := 67) hx hb dX8_beauty_63 (by decide) ?_
            cases h
            exact J59_ H locs ls hw (lv_sub hl [1, 2, 3, 4, 5, 6, 0] rfl)
  obtain ⟨y1, h9_, h⟩ := mg_bind h
  refine L8_ _ _ _ _ _ h9_ (fun H locs ls hw hl => ?_) H locs ls hw (lv_sub hl [3, 4, 5, 2, 1, 0] rfl)
  clear L8_ h9_
  refine lv_iload_n hx hb dX8_beauty_173 rfl (lv_at hl 3 rfl) ?_
  cases h
  exact mg_eI hx hb hr hlocks hw (Nat.zero_le _) (Nat.zero_le _) dX8_beauty_174
set_option maxHeartbeats 4000000 in
set_option maxRecDepth 100000 in
theorem k_X8_spent (l : Launch) (D : va_G) (o : Nat → Nat) (cI cZ : ClassId) (g : Nat → Nat) (sz : Nat) (σ : mg_St) (x1 : Int32) (x2 : Int32) (x3 : Int32) (x4 : Int32) (y : (Int32 × mg_St)) (h : f_X8_spent σ x1 x2 x3 x4 = some y) : mg_CT l yX8_spent wsX8_spent ({ frames := 0, cells := 0, slots := 0, locals := 0 } : Room) D [(cI, .int), (cZ, .boolean)] o (mg_mW g cI cZ σ) sz [.ref (g 0), .int x1, .int x2, .int x3, .int x4] (some (.int y.1)) (mg_mW g cI cZ y.2) 0 0 := by
  unfold mg_CT
  refine Met.ofW (cc := cX8_spent) (maxL := 5) (ret := (some .int)) (by decide) rfl ?_
  intro p e s m args below meth c s₁ B hml hv
  obtain ⟨rfl, hsz, hP, hK, hD0, hO⟩ := hv
  have hx := B.exec
  have hb := B.bytes
  have hr := B.returns
  have hts := atoms_spec (ws := wsX8_spent) B.pre
  have hown : s.vm.findClass RX8 = some m.cls := findClass_of_methodNamed B.named
  have hlocks := B.notSynchronized
  subst hsz
  have hD := hD0.self (sz := s.heap.size)
  generalize hAe : va_A (mg_mW g cI cZ σ) s.heap.size = A at hD hO ⊢
  have hA : ∀ q : Nat, s.heap.size ≤ q → A q := fun q h => by rw [← hAe]; exact Or.inr h
  have hw : mg_Wo D A s.heap s.heap [] (mg_mW g cI cZ σ) := ⟨hP, hD, va_S.rf⟩
  have G9 : CallFix p m c cX8_spent 5 s ([.ref (g 0), .int x1, .int x2, .int x3, .int x4] : List Value).toArray wsX8_spent RX8 := ⟨hx, hb, hml, hown, hts⟩
  clear hP hD hD0 hAe
  obtain ⟨H, hHe⟩ : ∃ H : Heap, H = s.heap := ⟨_, rfl⟩
  have w0_ := hts (.fieldLink RX8 9 "MoonGateModel" "kind" "[I") (by decide +kernel)
  have iX8_ : ∀ w ∈ wsX80, w ∈ wsX8_spent := (fun _ h => List.mem_cons_of_mem _ (List.mem_append_left _ (List.mem_append_right _ h)))
  have w2_ := hts (.fieldLink RX8 40 "MoonGateModel" "s" "LMoonGateModel$Days;") (by decide +kernel)
  have iX7_ : ∀ w ∈ wsX70, w ∈ wsX8_spent := (fun _ h => List.mem_cons_of_mem _ (List.mem_append_right _ h))
  have hl := lv_entry ([.ref (g 0), .int x1, .int x2, .int x3, .int x4]) (n := 5) (Nat.le_of_ble_eq_true rfl)
  rw [lg_entry_eq]
  generalize (lg_sl ([.ref (g 0), .int x1, .int x2, .int x3, .int x4]) ++ List.replicate (5 - (lg_sl ([.ref (g 0), .int x1, .int x2, .int x3, .int x4])).length) Slot.unset).toArray = ls at hl ⊢
  have hl : lv_has ls 5 [(0, .ref (g 0)), (1, .int x1), (2, .int x2), (3, .int x3), (4, .int x4)] := hl
  unfold f_X8_spent at h
  revert hw
  intro hw
  suffices K_ : ∀ (H : Heap) (locs : List Loc), mg_Wo D A s.heap H locs (mg_mW g cI cZ σ) → W p l e (headSpec wsX8_spent ({ frames := 0, cells := 0, slots := 0, locals := 0 } : Room)).room s m ([.ref (g 0), .int x1, .int x2, .int x3, .int x4] : List Value).toArray below meth c H locs 0 0 (MQ below (mg_Q D (mg_mW g cI cZ y.2) A (some (.int y.1))) ([.ref (g 0), .int x1, .int x2, .int x3, .int x4] : List Value).toArray s 0 0 A) (F0 m 0 ls []) from K_ _ _ hw
  clear hw hHe H
  intro H locs hw
  refine lv_aload_n hx hb dX8_spent_0 rfl (lv_at hl 0 rfl) ?_
  refine va_get (D := D) (ci := 8) (v := .ref (g 3)) (C := RX8) (T := TX8) (N := 15) hx hb hts iX8_ hown hK hw.1 0 rfl rfl 1 (by decide) w0_ (fun _ h9 => h9) rfl dX8_spent_1 ?_
  refine lv_bipush (v := 10) hx hb dX8_spent_4 (by decide) ?_
  refine lv_iload_n hx hb dX8_spent_6 rfl (lv_at hl 2 rfl) ?_
  refine lv_imul hx hb dX8_spent_7 ?_
  refine lv_iload_n hx hb dX8_spent_8 rfl (lv_at hl 1 rfl) ?_
  refine lv_iadd hx hb dX8_spent_9 ?_
  refine lv_iload_n hx hb dX8_spent_10 rfl (lv_at hl 3 rfl) ?_
  refine mg_ast (wd := mg_mW g cI cZ) (σ := σ) (k := 3) (n := 70) hx hb hK hw 3 0 rfl (mg_mS_3 g cI cZ σ) rfl h dX8_spent_11 (fun s1 h H locs hw => ?_)
  refine lv_aload_n hx hb dX8_spent_12 rfl (lv_at hl 0 rfl) ?_
  refine va_get (D := D) (ci := 8) (v := .ref (g 1)) (C := RX8) (T := TX8) (N := 15) hx hb hts iX8_ hown hK hw.1 0 rfl rfl 13 (by decide) w2_ (fun _ h9 => h9) rfl dX8_spent_13 ?_
  refine lv_dup hx hb dX8_spent_16 rfl ?_
  refine va_getN (D := D) (ci := 7) (v := .int (s1 1 1)) (C := RX7) (T := TX7) (N := 4) hx hb hts iX7_ hown hK hw.1 1 rfl rfl 1 (by decide) (va_Nw.use rfl (hO.2.2.2.2.2.2.2.2.2.2.2.2.2.2.2.1)) (fun _ h9 => h9) rfl dX8_spent_17 ?_
  refine lv_iload hx hb dX8_spent_20 (lv_at hl 4 rfl) ?_
  refine lv_isub hx hb dX8_spent_22 ?_
  refine mg_putN (wd := mg_mW g cI cZ) (σ := s1) (v := ((s1 1 1) - x4)) (ci := 7) (C := RX7) (T := TX7) (N := 4) hx hb hts iX7_ tyX7 tyX7_ok nmX7 hown hK hw 1 1 rfl rfl 1 (by decide) (va_Nw.use rfl (hO.2.2.2.2.2.2.2.2.2.2.2.2.2.2.2.1)) (fun _ h9 => h9) rfl (by decide +kernel) (Nat.le_of_ble_eq_true rfl) rfl dX8_spent_23 (fun H locs hw => ?_)
  refine lv_aload_n hx hb dX8_spent_26 rfl (lv_at hl 0 rfl) ?_
  refine va_get (D := D) (ci := 8) (v := .ref (g 1)) (C := RX8) (T := TX8) (N := 15) hx hb hts iX8_ hown hK hw.1 0 rfl rfl 13 (by decide) w2_ (fun _ h9 => h9) rfl dX8_spent_27 ?_
  refine va_getN (D := D) (ci := 7) (v := .int ((mg_su s1 1 1 ((s1 1 1) - x4)) 1 1)) (C := RX7) (T := TX7) (N := 4) hx hb hts iX7_ hown hK hw.1 1 rfl rfl 1 (by decide) (va_Nw.use rfl (hO.2.2.2.2.2.2.2.2.2.2.2.2.2.2.2.1)) (fun _ h9 => h9) rfl dX8_spent_30 ?_
  cases h
  exact mg_eI hx hb hr hlocks hw (Nat.zero_le _) (Nat.zero_le _) dX8_spent_33
set_option maxHeartbeats 4000000 in
set_option maxRecDepth 100000 in
theorem k_X8_canBuild (l : Launch) (D : va_G) (o : Nat → Nat) (cI cZ : ClassId) (g : Nat → Nat) (sz : Nat) (σ : mg_St) (x1 : Int32) (x2 : Int32) (x3 : Int32) (y : Int32) (h : f_X8_canBuild σ x1 x2 x3 = some y) : mg_CT l yX8_canBuild wsX8_canBuild ({ frames := 0, cells := 0, slots := 0, locals := 0 } : Room) D [(cI, .int), (cZ, .boolean)] o (mg_mW g cI cZ σ) sz [.ref (g 0), .int x1, .int x2, .int x3] (some (.int y)) (mg_mW g cI cZ σ) 0 0 := by
  unfold mg_CT
  refine Met.ofW (cc := cX8_canBuild) (maxL := 4) (ret := (some .boolean)) (by decide) rfl ?_
  intro p e s m args below meth c s₁ B hml hv
  obtain ⟨rfl, hsz, hP, hK, hD0, hO⟩ := hv
  have hx := B.exec
  have hb := B.bytes
  have hr := B.returns
  have hts := atoms_spec (ws := wsX8_canBuild) B.pre
  have hown : s.vm.findClass RX8 = some m.cls := findClass_of_methodNamed B.named
  have hlocks := B.notSynchronized
  subst hsz
  have hD := hD0.self (sz := s.heap.size)
  generalize hAe : va_A (mg_mW g cI cZ σ) s.heap.size = A at hD hO ⊢
  have hA : ∀ q : Nat, s.heap.size ≤ q → A q := fun q h => by rw [← hAe]; exact Or.inr h
  have hw : mg_Wo D A s.heap s.heap [] (mg_mW g cI cZ σ) := ⟨hP, hD, va_S.rf⟩
  have G9 : CallFix p m c cX8_canBuild 4 s ([.ref (g 0), .int x1, .int x2, .int x3] : List Value).toArray wsX8_canBuild RX8 := ⟨hx, hb, hml, hown, hts⟩
  clear hP hD hD0 hAe
  obtain ⟨H, hHe⟩ : ∃ H : Heap, H = s.heap := ⟨_, rfl⟩
  have w0_ := hts (.fieldLink RX8 9 "MoonGateModel" "kind" "[I") (by decide +kernel)
  have iX8_ : ∀ w ∈ wsX80, w ∈ wsX8_canBuild := (fun _ h => List.mem_cons_of_mem _ (List.mem_append_left _ (List.mem_append_right _ h)))
  have w2_ := hts (.fieldLink RX8 40 "MoonGateModel" "s" "LMoonGateModel$Days;") (by decide +kernel)
  have iX7_ : ∀ w ∈ wsX70, w ∈ wsX8_canBuild := (fun _ h => List.mem_cons_of_mem _ (List.mem_append_right _ h))
  have hl := lv_entry ([.ref (g 0), .int x1, .int x2, .int x3]) (n := 4) (Nat.le_of_ble_eq_true rfl)
  rw [lg_entry_eq]
  generalize (lg_sl ([.ref (g 0), .int x1, .int x2, .int x3]) ++ List.replicate (4 - (lg_sl ([.ref (g 0), .int x1, .int x2, .int x3])).length) Slot.unset).toArray = ls at hl ⊢
  have hl : lv_has ls 4 [(0, .ref (g 0)), (1, .int x1), (2, .int x2), (3, .int x3)] := hl
  unfold f_X8_canBuild at h
  revert hw
  intro hw
  suffices K_ : ∀ (H : Heap) (locs : List Loc), mg_Wo D A s.heap H locs (mg_mW g cI cZ σ) → W p l e (headSpec wsX8_canBuild ({ frames := 0, cells := 0, slots := 0, locals := 0 } : Room)).room s m ([.ref (g 0), .int x1, .int x2, .int x3] : List Value).toArray below meth c H locs 0 0 (MQ below (mg_Q D (mg_mW g cI cZ σ) A (some (.int y))) ([.ref (g 0), .int x1, .int x2, .int x3] : List Value).toArray s 0 0 A) (F0 m 0 ls []) from K_ _ _ hw
  clear hw hHe H
  intro H locs hw
  refine lv_aload_n hx hb dX8_canBuild_0 rfl (lv_at hl 0 rfl) ?_
  refine va_get (D := D) (ci := 8) (v := .ref (g 3)) (C := RX8) (T := TX8) (N := 15) hx hb hts iX8_ hown hK hw.1 0 rfl rfl 1 (by decide) w0_ (fun _ h9 => h9) rfl dX8_canBuild_1 ?_
  refine lv_bipush (v := 10) hx hb dX8_canBuild_4 (by decide) ?_
  refine lv_iload_n hx hb dX8_canBuild_6 rfl (lv_at hl 2 rfl) ?_
  refine lv_imul hx hb dX8_canBuild_7 ?_
  refine lv_iload_n hx hb dX8_canBuild_8 rfl (lv_at hl 1 rfl) ?_
  refine lv_iadd hx hb dX8_canBuild_9 ?_
  refine mg_ald (σ := σ) (k := 3) (n := 70) hx hb hK hw 3 0 rfl rfl h dX8_canBuild_10 (fun v1 h => ?_)
  refine mg_if_ne (tgt := 29) hx hb h dX8_canBuild_11 (by decide) (fun h => ?_) (fun h => ?_)
  · refine lv_iconst (v := 0) hx hb dX8_canBuild_29 (by decide) ?_
    cases h
    exact mg_eZ hx hb hr hlocks hw rfl (Nat.zero_le _) (Nat.zero_le _) dX8_canBuild_30
  · refine lv_aload_n hx hb dX8_canBuild_14 rfl (lv_at hl 0 rfl) ?_
    refine va_get (D := D) (ci := 8) (v := .ref (g 1)) (C := RX8) (T := TX8) (N := 15) hx hb hts iX8_ hown hK hw.1 0 rfl rfl 13 (by decide) w2_ (fun _ h9 => h9) rfl dX8_canBuild_15 ?_
    refine va_getN (D := D) (ci := 7) (v := .int (σ 1 1)) (C := RX7) (T := TX7) (N := 4) hx hb hts iX7_ hown hK hw.1 1 rfl rfl 1 (by decide) (va_Nw.use rfl (hO.2.2.2.2.2.2.2.2.2.2.2.2.2.2.2.1)) (fun _ h9 => h9) rfl dX8_canBuild_18 ?_
    refine lv_iload_n hx hb dX8_canBuild_21 rfl (lv_at hl 3 rfl) ?_
    refine mg_icmp_lt (tgt := 29) hx hb h dX8_canBuild_22 (by decide) (fun h => ?_) (fun h => ?_)
    · refine lv_iconst (v := 0) hx hb dX8_canBuild_29 (by decide) ?_
      cases h
      exact mg_eZ hx hb hr hlocks hw rfl (Nat.zero_le _) (Nat.zero_le _) dX8_canBuild_30
    · refine lv_iconst (v := 1) hx hb dX8_canBuild_25 (by decide) ?_
      refine lv_goto (tgt := 30) hx hb dX8_canBuild_26 (by decide) ?_
      cases h
      exact mg_eZ hx hb hr hlocks hw rfl (Nat.zero_le _) (Nat.zero_le _) dX8_canBuild_30
set_option maxHeartbeats 4000000 in
set_option maxRecDepth 100000 in
theorem k_X8_rock (l : Launch) (D : va_G) (o : Nat → Nat) (cI cZ : ClassId) (g : Nat → Nat) (sz : Nat) (σ : mg_St) (x1 : Int32) (x2 : Int32) (x3 : Int32) (x4 : Int32) (y : (Int32 × mg_St)) (h : f_X8_rock σ x1 x2 x3 x4 = some y) : mg_CT l yX8_rock wsX8_rock ({ frames := 2, cells := 0, slots := 0, locals := 43 } : Room) D [(cI, .int), (cZ, .boolean)] o (mg_mW g cI cZ σ) sz [.ref (g 0), .int x1, .int x2, .int x3, .int x4] (some (.int y.1)) (mg_mW g cI cZ y.2) 0 0 := by
  unfold mg_CT
  refine Met.ofW (cc := cX8_rock) (maxL := 5) (ret := (some .int)) (by decide) rfl ?_
  intro p e s m args below meth c s₁ B hml hv
  obtain ⟨rfl, hsz, hP, hK, hD0, hO⟩ := hv
  have hx := B.exec
  have hb := B.bytes
  have hr := B.returns
  have hts := atoms_spec (ws := wsX8_rock) B.pre
  have hown : s.vm.findClass RX8 = some m.cls := findClass_of_methodNamed B.named
  have hlocks := B.notSynchronized
  subst hsz
  have hD := hD0.self (sz := s.heap.size)
  generalize hAe : va_A (mg_mW g cI cZ σ) s.heap.size = A at hD hO ⊢
  have hA : ∀ q : Nat, s.heap.size ≤ q → A q := fun q h => by rw [← hAe]; exact Or.inr h
  have hw : mg_Wo D A s.heap s.heap [] (mg_mW g cI cZ σ) := ⟨hP, hD, va_S.rf⟩
  have G9 : CallFix p m c cX8_rock 5 s ([.ref (g 0), .int x1, .int x2, .int x3, .int x4] : List Value).toArray wsX8_rock RX8 := ⟨hx, hb, hml, hown, hts⟩
  clear hP hD hD0 hAe
  obtain ⟨H, hHe⟩ : ∃ H : Heap, H = s.heap := ⟨_, rfl⟩
  have w0_ := hts (.fieldLink RX8 47 "MoonGateModel" "thrown" "I") (by decide +kernel)
  have iX8_ : ∀ w ∈ wsX80, w ∈ wsX8_rock := (fun _ h => List.mem_cons_of_mem _ (List.mem_append_left _ (List.mem_append_right _ h)))
  have w2_ := hts (.fieldLink RX8 13 "MoonGateModel" "shape" "[I") (by decide +kernel)
  have w3_ := hts (.fieldLink RX8 16 "MoonGateModel" "bulk" "[I") (by decide +kernel)
  have hl := lv_entry ([.ref (g 0), .int x1, .int x2, .int x3, .int x4]) (n := 5) (Nat.le_of_ble_eq_true rfl)
  rw [lg_entry_eq]
  generalize (lg_sl ([.ref (g 0), .int x1, .int x2, .int x3, .int x4]) ++ List.replicate (5 - (lg_sl ([.ref (g 0), .int x1, .int x2, .int x3, .int x4])).length) Slot.unset).toArray = ls at hl ⊢
  have hl : lv_has ls 5 [(0, .ref (g 0)), (1, .int x1), (2, .int x2), (3, .int x3), (4, .int x4)] := hl
  unfold f_X8_rock at h
  revert hw
  intro hw
  suffices K_ : ∀ (H : Heap) (locs : List Loc), mg_Wo D A s.heap H locs (mg_mW g cI cZ σ) → W p l e (headSpec wsX8_rock ({ frames := 2, cells := 0, slots := 0, locals := 43 } : Room)).room s m ([.ref (g 0), .int x1, .int x2, .int x3, .int x4] : List Value).toArray below meth c H locs 0 0 (MQ below (mg_Q D (mg_mW g cI cZ y.2) A (some (.int y.1))) ([.ref (g 0), .int x1, .int x2, .int x3, .int x4] : List Value).toArray s 0 0 A) (F0 m 0 ls []) from K_ _ _ hw
  clear hw hHe H
  intro H locs hw
  refine lv_aload_n hx hb dX8_rock_0 rfl (lv_at hl 0 rfl) ?_
  refine lv_iconst (v := 0) hx hb dX8_rock_1 (by decide) ?_
  refine mg_put (wd := mg_mW g cI cZ) (σ := σ) (v := 0) (ci := 8) (C := RX8) (T := TX8) (N := 15) hx hb hts iX8_ tyX8 tyX8_ok nmX8 hown hK hw 0 0 rfl rfl 0 (by decide) w0_ (fun _ h9 => h9) rfl (by decide +kernel) (Nat.le_of_ble_eq_true rfl) rfl dX8_rock_2 (fun H locs hw => ?_)
  refine lv_iload_n hx hb dX8_rock_5 rfl (lv_at hl 1 rfl) ?_
  refine lv_iload_n hx hb dX8_rock_6 rfl (lv_at hl 2 rfl) ?_
  obtain ⟨y1, h9_, h⟩ := mg_bind h
  refine mg_k (rv := (some (.int y1))) (va_runS (As := [.int x1, .int x2]) (rest := []) G9 (k_X8_isCell l D o cI cZ g H.size (mg_su σ 0 0 0) x1 x2 y1 h9_) (va_cwS 2 hts gX8_rock_X8_isCell rfl rfl rfl (by decide +kernel) ⟨Nat.le_of_ble_eq_true rfl, Nat.le_of_ble_eq_true rfl⟩) (mg_pre hK hO hA hw) rfl rfl hl.1 rfl (lv_room (Nat.le_of_ble_eq_true rfl)) dX8_rock_7 ⟨Nat.zero_le _, Nat.zero_le _⟩) hw hA (fun H locs hw => ?_)
  clear h9_
  refine mg_if_ne (tgt := 19) hx hb h dX8_rock_10 (by decide) (fun h => ?_) (fun h => ?_)
  · refine lv_iload_n hx hb dX8_rock_19 rfl (lv_at hl 3 rfl) ?_
    refine lv_iconst (v := 0) hx hb dX8_rock_20 (by decide) ?_
    refine lv_iconst (v := 5) hx hb dX8_rock_21 (by decide) ?_
    obtain ⟨y2, h9_, h⟩ := mg_bind h
    refine mg_k (rv := (some (.int y2))) (va_runS (As := [.int x3, .int 0, .int 5]) (rest := []) G9 (k_X8_isIn l D o cI cZ g H.size (mg_su σ 0 0 0) x3 0 5 y2 h9_) (va_cwS 3 hts gX8_rock_X8_isIn rfl rfl rfl (by decide +kernel) ⟨Nat.le_of_ble_eq_true rfl, Nat.le_of_ble_eq_true rfl⟩) (mg_pre hK hO hA hw) rfl rfl hl.1 rfl (lv_room (Nat.le_of_ble_eq_true rfl)) dX8_rock_22 ⟨Nat.zero_le _, Nat.zero_le _⟩) hw hA (fun H locs hw => ?_)
    clear h9_
    refine mg_if_eq (tgt := 39) hx hb h dX8_rock_25 (by decide) (fun h => ?_) (fun h => ?_)
    · refine lv_aload_n hx hb dX8_rock_39 rfl (lv_at hl 0 rfl) ?_
      refine lv_iconst (v := 2) hx hb dX8_rock_40 (by decide) ?_
      obtain ⟨y3, h9_, h⟩ := mg_bind h
      refine mg_k (rv := (some (.int y3.1))) (va_runV (As := [.int 2]) (rest := []) G9 (k_X8_no l D o cI cZ g H.size (mg_su σ 0 0 0) 2 y3 h9_) (cwV 1 hts gX8_rock_X8_no rfl rfl rfl (by decide +kernel) ⟨Nat.le_of_ble_eq_true rfl, Nat.le_of_ble_eq_true rfl⟩) (mg_preV hK hO hA hw (q0 := 0) rfl rfl) rfl rfl hl.1 rfl (lv_room (Nat.le_of_ble_eq_true rfl)) dX8_rock_41 ⟨Nat.zero_le _, Nat.zero_le _⟩) hw hA (fun H locs hw => ?_)
      clear h9_
      cases h
      exact mg_eI hx hb hr hlocks hw (Nat.zero_le _) (Nat.zero_le _) dX8_rock_44
    · refine lv_iload hx hb dX8_rock_28 (lv_at hl 4 rfl) ?_
      refine lv_iconst (v := 1) hx hb dX8_rock_30 (by decide) ?_
      refine lv_bipush (v := 9) hx hb dX8_rock_31 (by decide) ?_
      obtain ⟨y4, h9_, h⟩ := mg_bind h
      refine mg_k (rv := (some (.int y4))) (va_runS (As := [.int x4, .int 1, .int 9]) (rest := []) G9 (k_X8_isIn l D o cI cZ g H.size (mg_su σ 0 0 0) x4 1 9 y4 h9_) (va_cwS 3 hts gX8_rock_X8_isIn rfl rfl rfl (by decide +kernel) ⟨Nat.le_of_ble_eq_true rfl, Nat.le_of_ble_eq_true rfl⟩) (mg_pre hK hO hA hw) rfl rfl hl.1 rfl (lv_room (Nat.le_of_ble_eq_true rfl)) dX8_rock_33 ⟨Nat.zero_le _, Nat.zero_le _⟩) hw hA (fun H locs hw => ?_)
      clear h9_
      refine mg_if_ne (tgt := 45) hx hb h dX8_rock_36 (by decide) (fun h => ?_) (fun h => ?_)
      · refine lv_aload_n hx hb dX8_rock_45 rfl (lv_at hl 0 rfl) ?_
        refine lv_iload_n hx hb dX8_rock_46 rfl (lv_at hl 1 rfl) ?_
        refine lv_iload_n hx hb dX8_rock_47 rfl (lv_at hl 2 rfl) ?_
        refine lv_iconst (v := 2) hx hb dX8_rock_48 (by decide) ?_
        refine lv_iload hx hb dX8_rock_49 (lv_at hl 4 rfl) ?_
        refine lv_imul hx hb dX8_rock_51 ?_
        obtain ⟨y5, h9_, h⟩ := mg_bind h
        refine mg_k (rv := (some (.int y5))) (va_runV (As := [.int x1, .int x2, .int (2 * x4)]) (rest := []) G9 (k_X8_canBuild l D o cI cZ g H.size (mg_su σ 0 0 0) x1 x2 (2 * x4) y5 h9_) (cwV 3 hts gX8_rock_X8_canBuild rfl rfl rfl (by decide +kernel) ⟨Nat.le_of_ble_eq_true rfl, Nat.le_of_ble_eq_true rfl⟩) (mg_preV hK hO hA hw (q0 := 0) rfl rfl) rfl rfl hl.1 rfl (lv_room (Nat.le_of_ble_eq_true rfl)) dX8_rock_52 ⟨Nat.zero_le _, Nat.zero_le _⟩) hw hA (fun H locs hw => ?_)
        clear h9_
        refine mg_if_ne (tgt := 64) hx hb h dX8_rock_55 (by decide) (fun h => ?_) (fun h => ?_)
        · refine lv_aload_n hx hb dX8_rock_64 rfl (lv_at hl 0 rfl) ?_
          refine va_get (D := D) (ci := 8) (v := .ref (g 4)) (C := RX8) (T := TX8) (N := 15) hx hb hts iX8_ hown hK hw.1 0 rfl rfl 2 (by decide) w2_ (fun _ h9 => h9) rfl dX8_rock_65 ?_
          refine lv_bipush (v := 10) hx hb dX8_rock_68 (by decide) ?_
          refine lv_iload_n hx hb dX8_rock_70 rfl (lv_at hl 2 rfl) ?_
          refine lv_imul hx hb dX8_rock_71 ?_
          refine lv_iload_n hx hb dX8_rock_72 rfl (lv_at hl 1 rfl) ?_
          refine lv_iadd hx hb dX8_rock_73 ?_
          refine lv_iload_n hx hb dX8_rock_74 rfl (lv_at hl 3 rfl) ?_
          refine mg_ast (wd := mg_mW g cI cZ) (σ := (mg_su σ 0 0 0)) (k := 4) (n := 70) hx hb hK hw 4 0 rfl (mg_mS_4 g cI cZ (mg_su σ 0 0 0)) rfl h dX8_rock_75 (fun s6 h H locs hw => ?_)
          refine lv_aload_n hx hb dX8_rock_76 rfl (lv_at hl 0 rfl) ?_
          refine va_get (D := D) (ci := 8) (v := .ref (g 5)) (C := RX8) (T := TX8) (N := 15) hx hb hts iX8_ hown hK hw.1 0 rfl rfl 3 (by decide) w3_ (fun _ h9 => h9) rfl dX8_rock_77 ?_
          refine lv_bipush (v := 10) hx hb dX8_rock_80 (by decide) ?_
          refine lv_iload_n hx hb dX8_rock_82 rfl (lv_at hl 2 rfl) ?_
          refine lv_imul hx hb dX8_rock_83 ?_
          refine lv_iload_n hx hb dX8_rock_84 rfl (lv_at hl 1 rfl) ?_
          refine lv_iadd hx hb dX8_rock_85 ?_
          refine lv_iload hx hb dX8_rock_86 (lv_at hl 4 rfl) ?_
          refine mg_ast (wd := mg_mW g cI cZ) (σ := s6) (k := 5) (n := 70) hx hb hK hw 5 0 rfl (mg_mS_5 g cI cZ s6) rfl h dX8_rock_88 (fun s7 h H locs hw => ?_)
          refine lv_aload_n hx hb dX8_rock_89 rfl (lv_at hl 0 rfl) ?_
          refine lv_iload_n hx hb dX8_rock_90 rfl (lv_at hl 1 rfl) ?_
          refine lv_iload_n hx hb dX8_rock_91 rfl (lv_at hl 2 rfl) ?_
          refine lv_iconst (v := 1) hx hb dX8_rock_92 (by decide) ?_
          refine lv_iconst (v := 2) hx hb dX8_rock_93 (by decide) ?_
          refine lv_iload hx hb dX8_rock_94 (lv_at hl 4 rfl) ?_
          refine lv_imul hx hb dX8_rock_96 ?_
          obtain ⟨y8, h9_, h⟩ := mg_bind h
          refine mg_k (rv := (some (.int y8.1))) (va_runV (As := [.int x1, .int x2, .int 1, .int (2 * x4)]) (rest := []) G9 (k_X8_spent l D o cI cZ g H.size s7 x1 x2 1 (2 * x4) y8 h9_) (cwV 4 hts gX8_rock_X8_spent rfl rfl rfl (by decide +kernel) ⟨Nat.le_of_ble_eq_true rfl, Nat.le_of_ble_eq_true rfl⟩) (mg_preV hK hO hA hw (q0 := 0) rfl rfl) rfl rfl hl.1 rfl (lv_room (Nat.le_of_ble_eq_true rfl)) dX8_rock_97 ⟨Nat.zero_le _, Nat.zero_le _⟩) hw hA (fun H locs hw => ?_)
          clear h9_
          cases h
          exact mg_eI hx hb hr hlocks hw (Nat.zero_le _) (Nat.zero_le _) dX8_rock_100
        · refine lv_aload_n hx hb dX8_rock_58 rfl (lv_at hl 0 rfl) ?_
          refine lv_iconst (v := 3) hx hb dX8_rock_59 (by decide) ?_
          obtain ⟨y9, h9_, h⟩ := mg_bind h
          refine mg_k (rv := (some (.int y9.1))) (va_runV (As := [.int 3]) (rest := []) G9 (k_X8_no l D o cI cZ g H.size (mg_su σ 0 0 0) 3 y9 h9_) (cwV 1 hts gX8_rock_X8_no rfl rfl rfl (by decide +kernel) ⟨Nat.le_of_ble_eq_true rfl, Nat.le_of_ble_eq_true rfl⟩) (mg_preV hK hO hA hw (q0 := 0) rfl rfl) rfl rfl hl.1 rfl (lv_room (Nat.le_of_ble_eq_true rfl)) dX8_rock_60 ⟨Nat.zero_le _, Nat.zero_le _⟩) hw hA (fun H locs hw => ?_)
          clear h9_
          cases h
          exact mg_eI hx hb hr hlocks hw (Nat.zero_le _) (Nat.zero_le _) dX8_rock_63
      · refine lv_aload_n hx hb dX8_rock_39 rfl (lv_at hl 0 rfl) ?_
        refine lv_iconst (v := 2) hx hb dX8_rock_40 (by decide) ?_
        obtain ⟨y10, h9_, h⟩ := mg_bind h
        refine mg_k (rv := (some (.int y10.1))) (va_runV (As := [.int 2]) (rest := []) G9 (k_X8_no l D o cI cZ g H.size (mg_su σ 0 0 0) 2 y10 h9_) (cwV 1 hts gX8_rock_X8_no rfl rfl rfl (by decide +kernel) ⟨Nat.le_of_ble_eq_true rfl, Nat.le_of_ble_eq_true rfl⟩) (mg_preV hK hO hA hw (q0 := 0) rfl rfl) rfl rfl hl.1 rfl (lv_room (Nat.le_of_ble_eq_true rfl)) dX8_rock_41 ⟨Nat.zero_le _, Nat.zero_le _⟩) hw hA (fun H locs hw => ?_)
        clear h9_
        cases h
        exact mg_eI hx hb hr hlocks hw (Nat.zero_le _) (Nat.zero_le _) dX8_rock_44
  · refine lv_aload_n hx hb dX8_rock_13 rfl (lv_at hl 0 rfl) ?_
    refine lv_iconst (v := 1) hx hb dX8_rock_14 (by decide) ?_
    obtain ⟨y11, h9_, h⟩ := mg_bind h
    refine mg_k (rv := (some (.int y11.1))) (va_runV (As := [.int 1]) (rest := []) G9 (k_X8_no l D o cI cZ g H.size (mg_su σ 0 0 0) 1 y11 h9_) (cwV 1 hts gX8_rock_X8_no rfl rfl rfl (by decide +kernel) ⟨Nat.le_of_ble_eq_true rfl, Nat.le_of_ble_eq_true rfl⟩) (mg_preV hK hO hA hw (q0 := 0) rfl rfl) rfl rfl hl.1 rfl (lv_room (Nat.le_of_ble_eq_true rfl)) dX8_rock_15 ⟨Nat.zero_le _, Nat.zero_le _⟩) hw hA (fun H locs hw => ?_)
    clear h9_
    cases h
    exact mg_eI hx hb hr hlocks hw (Nat.zero_le _) (Nat.zero_le _) dX8_rock_18
set_option maxHeartbeats 4000000 in
set_option maxRecDepth 100000 in
theorem k_X8_dig (l : Launch) (D : va_G) (o : Nat → Nat) (cI cZ : ClassId) (g : Nat → Nat) (sz : Nat) (σ : mg_St) (x1 : Int32) (x2 : Int32) (y : (Int32 × mg_St)) (h : f_X8_dig σ x1 x2 = some y) : mg_CT l yX8_dig wsX8_dig ({ frames := 3, cells := 0, slots := 0, locals := 84 } : Room) D [(cI, .int), (cZ, .boolean)] o (mg_mW g cI cZ σ) sz [.ref (g 0), .int x1, .int x2] (some (.int y.1)) (mg_mW g cI cZ y.2) 0 0 := by
  unfold mg_CT
  refine Met.ofW (cc := cX8_dig) (maxL := 3) (ret := (some .int)) (by decide) rfl ?_
  intro p e s m args below meth c s₁ B hml hv
  obtain ⟨rfl, hsz, hP, hK, hD0, hO⟩ := hv
  have hx := B.exec
  have hb := B.bytes
  have hr := B.returns
  have hts := atoms_spec (ws := wsX8_dig) B.pre
  have hown : s.vm.findClass RX8 = some m.cls := findClass_of_methodNamed B.named
  have hlocks := B.notSynchronized
  subst hsz
  have hD := hD0.self (sz := s.heap.size)
  generalize hAe : va_A (mg_mW g cI cZ σ) s.heap.size = A at hD hO ⊢
  have hA : ∀ q : Nat, s.heap.size ≤ q → A q := fun q h => by rw [← hAe]; exact Or.inr h
  have hw : mg_Wo D A s.heap s.heap [] (mg_mW g cI cZ σ) := ⟨hP, hD, va_S.rf⟩
  have G9 : CallFix p m c cX8_dig 3 s ([.ref (g 0), .int x1, .int x2] : List Value).toArray wsX8_dig RX8 := ⟨hx, hb, hml, hown, hts⟩
  clear hP hD hD0 hAe
  obtain ⟨H, hHe⟩ : ∃ H : Heap, H = s.heap := ⟨_, rfl⟩
  have w0_ := hts (.fieldLink RX8 47 "MoonGateModel" "thrown" "I") (by decide +kernel)
  have iX8_ : ∀ w ∈ wsX80, w ∈ wsX8_dig := (fun _ h => List.mem_cons_of_mem _ (List.mem_append_left _ (List.mem_append_right _ h)))
  have w2_ := hts (.fieldLink RX8 19 "MoonGateModel" "pond" "[I") (by decide +kernel)
  have hl := lv_entry ([.ref (g 0), .int x1, .int x2]) (n := 3) (Nat.le_of_ble_eq_true rfl)
  rw [lg_entry_eq]
  generalize (lg_sl ([.ref (g 0), .int x1, .int x2]) ++ List.replicate (3 - (lg_sl ([.ref (g 0), .int x1, .int x2])).length) Slot.unset).toArray = ls at hl ⊢
  have hl : lv_has ls 3 [(0, .ref (g 0)), (1, .int x1), (2, .int x2)] := hl
  unfold f_X8_dig at h
  revert hw
  intro hw
  suffices K_ : ∀ (H : Heap) (locs : List Loc), mg_Wo D A s.heap H locs (mg_mW g cI cZ σ) → W p l e (headSpec wsX8_dig ({ frames := 3, cells := 0, slots := 0, locals := 84 } : Room)).room s m ([.ref (g 0), .int x1, .int x2] : List Value).toArray below meth c H locs 0 0 (MQ below (mg_Q D (mg_mW g cI cZ y.2) A (some (.int y.1))) ([.ref (g 0), .int x1, .int x2] : List Value).toArray s 0 0 A) (F0 m 0 ls []) from K_ _ _ hw
  clear hw hHe H
  intro H locs hw
  refine lv_aload_n hx hb dX8_dig_0 rfl (lv_at hl 0 rfl) ?_
  refine lv_iconst (v := 0) hx hb dX8_dig_1 (by decide) ?_
  refine mg_put (wd := mg_mW g cI cZ) (σ := σ) (v := 0) (ci := 8) (C := RX8) (T := TX8) (N := 15) hx hb hts iX8_ tyX8 tyX8_ok nmX8 hown hK hw 0 0 rfl rfl 0 (by decide) w0_ (fun _ h9 => h9) rfl (by decide +kernel) (Nat.le_of_ble_eq_true rfl) rfl dX8_dig_2 (fun H locs hw => ?_)
  refine lv_iload_n hx hb dX8_dig_5 rfl (lv_at hl 1 rfl) ?_
  refine lv_iload_n hx hb dX8_dig_6 rfl (lv_at hl 2 rfl) ?_
  obtain ⟨y1, h9_, h⟩ := mg_bind h
  refine mg_k (rv := (some (.int y1))) (va_runS (As := [.int x1, .int x2]) (rest := []) G9 (k_X8_isCell l D o cI cZ g H.size (mg_su σ 0 0 0) x1 x2 y1 h9_) (va_cwS 2 hts gX8_dig_X8_isCell rfl rfl rfl (by decide +kernel) ⟨Nat.le_of_ble_eq_true rfl, Nat.le_of_ble_eq_true rfl⟩) (mg_pre hK hO hA hw) rfl rfl hl.1 rfl (lv_room (Nat.le_of_ble_eq_true rfl)) dX8_dig_7 ⟨Nat.zero_le _, Nat.zero_le _⟩) hw hA (fun H locs hw => ?_)
  clear h9_
  refine mg_if_ne (tgt := 19) hx hb h dX8_dig_10 (by decide) (fun h => ?_) (fun h => ?_)
  · refine lv_aload_n hx hb dX8_dig_19 rfl (lv_at hl 0 rfl) ?_
    refine lv_iload_n hx hb dX8_dig_20 rfl (lv_at hl 1 rfl) ?_
    refine lv_iload_n hx hb dX8_dig_21 rfl (lv_at hl 2 rfl) ?_
    refine lv_bipush (v := 6) hx hb dX8_dig_22 (by decide) ?_
    obtain ⟨y2, h9_, h⟩ := mg_bind h
    refine mg_k (rv := (some (.int y2))) (va_runV (As := [.int x1, .int x2, .int 6]) (rest := []) G9 (k_X8_canBuild l D o cI cZ g H.size (mg_su σ 0 0 0) x1 x2 6 y2 h9_) (cwV 3 hts gX8_dig_X8_canBuild rfl rfl rfl (by decide +kernel) ⟨Nat.le_of_ble_eq_true rfl, Nat.le_of_ble_eq_true rfl⟩) (mg_preV hK hO hA hw (q0 := 0) rfl rfl) rfl rfl hl.1 rfl (lv_room (Nat.le_of_ble_eq_true rfl)) dX8_dig_24 ⟨Nat.zero_le _, Nat.zero_le _⟩) hw hA (fun H locs hw => ?_)
    clear h9_
    refine mg_if_ne (tgt := 36) hx hb h dX8_dig_27 (by decide) (fun h => ?_) (fun h => ?_)
    · refine lv_aload_n hx hb dX8_dig_36 rfl (lv_at hl 0 rfl) ?_
      refine lv_iload_n hx hb dX8_dig_37 rfl (lv_at hl 1 rfl) ?_
      refine lv_iload_n hx hb dX8_dig_38 rfl (lv_at hl 2 rfl) ?_
      refine lv_iconst (v := 2) hx hb dX8_dig_39 (by decide) ?_
      refine lv_bipush (v := 6) hx hb dX8_dig_40 (by decide) ?_
      obtain ⟨y3, h9_, h⟩ := mg_bind h
      refine mg_k (rv := (some (.int y3.1))) (va_runV (As := [.int x1, .int x2, .int 2, .int 6]) (rest := []) G9 (k_X8_spent l D o cI cZ g H.size (mg_su σ 0 0 0) x1 x2 2 6 y3 h9_) (cwV 4 hts gX8_dig_X8_spent rfl rfl rfl (by decide +kernel) ⟨Nat.le_of_ble_eq_true rfl, Nat.le_of_ble_eq_true rfl⟩) (mg_preV hK hO hA hw (q0 := 0) rfl rfl) rfl rfl hl.1 rfl (lv_room (Nat.le_of_ble_eq_true rfl)) dX8_dig_42 ⟨Nat.zero_le _, Nat.zero_le _⟩) hw hA (fun H locs hw => ?_)
      clear h9_
      refine lv_pop hx hb dX8_dig_45 rfl ?_
      refine lv_aload_n hx hb dX8_dig_46 rfl (lv_at hl 0 rfl) ?_
      obtain ⟨y4, h9_, h⟩ := mg_bind h
      refine mg_k (rv := none) (va_runV (As := []) (rest := []) G9 (k_X8_markPonds l D o cI cZ g H.size y3.2  y4 h9_) (cwV 0 hts gX8_dig_X8_markPonds rfl rfl rfl (by decide +kernel) ⟨Nat.le_of_ble_eq_true rfl, Nat.le_of_ble_eq_true rfl⟩) (mg_preV hK hO hA hw (q0 := 0) rfl rfl) rfl rfl hl.1 rfl (lv_room (Nat.le_of_ble_eq_true rfl)) dX8_dig_47 ⟨Nat.zero_le _, Nat.zero_le _⟩) hw hA (fun H locs hw => ?_)
      clear h9_
      refine lv_aload_n hx hb dX8_dig_50 rfl (lv_at hl 0 rfl) ?_
      refine lv_aload_n hx hb dX8_dig_51 rfl (lv_at hl 0 rfl) ?_
      refine va_get (D := D) (ci := 8) (v := .ref (g 6)) (C := RX8) (T := TX8) (N := 15) hx hb hts iX8_ hown hK hw.1 0 rfl rfl 4 (by decide) w2_ (fun _ h9 => h9) rfl dX8_dig_52 ?_
      refine lv_bipush (v := 10) hx hb dX8_dig_55 (by decide) ?_
      refine lv_iload_n hx hb dX8_dig_57 rfl (lv_at hl 2 rfl) ?_
      refine lv_imul hx hb dX8_dig_58 ?_
      refine lv_iload_n hx hb dX8_dig_59 rfl (lv_at hl 1 rfl) ?_
      refine lv_iadd hx hb dX8_dig_60 ?_
      refine mg_ald (σ := y4) (k := 6) (n := 70) hx hb hK hw 6 0 rfl rfl h dX8_dig_61 (fun v5 h => ?_)
      obtain ⟨y6, h9_, h⟩ := mg_bind h
      refine mg_k (rv := (some (.int y6))) (va_runV (As := [.int v5]) (rest := []) G9 (k_X8_cellsOf l D o cI cZ g H.size y4 v5 y6 h9_) (cwV 1 hts gX8_dig_X8_cellsOf rfl rfl rfl (by decide +kernel) ⟨Nat.le_of_ble_eq_true rfl, Nat.le_of_ble_eq_true rfl⟩) (mg_preV hK hO hA hw (q0 := 0) rfl rfl) rfl rfl hl.1 rfl (lv_room (Nat.le_of_ble_eq_true rfl)) dX8_dig_62 ⟨Nat.zero_le _, Nat.zero_le _⟩) hw hA (fun H locs hw => ?_)
      clear h9_
      cases h
      exact mg_eI hx hb hr hlocks hw (Nat.zero_le _) (Nat.zero_le _) dX8_dig_65
    · refine lv_aload_n hx hb dX8_dig_30 rfl (lv_at hl 0 rfl) ?_
      refine lv_iconst (v := 2) hx hb dX8_dig_31 (by decide) ?_
      obtain ⟨y7, h9_, h⟩ := mg_bind h
      refine mg_k (rv := (some (.int y7.1))) (va_runV (As := [.int 2]) (rest := []) G9 (k_X8_no l D o cI cZ g H.size (mg_su σ 0 0 0) 2 y7 h9_) (cwV 1 hts gX8_dig_X8_no rfl rfl rfl (by decide +kernel) ⟨Nat.le_of_ble_eq_true rfl, Nat.le_of_ble_eq_true rfl⟩) (mg_preV hK hO hA hw (q0 := 0) rfl rfl) rfl rfl hl.1 rfl (lv_room (Nat.le_of_ble_eq_true rfl)) dX8_dig_32 ⟨Nat.zero_le _, Nat.zero_le _⟩) hw hA (fun H locs hw => ?_)
      clear h9_
      cases h
      exact mg_eI hx hb hr hlocks hw (Nat.zero_le _) (Nat.zero_le _) dX8_dig_35
  · refine lv_aload_n hx hb dX8_dig_13 rfl (lv_at hl 0 rfl) ?_
    refine lv_iconst (v := 1) hx hb dX8_dig_14 (by decide) ?_
    obtain ⟨y8, h9_, h⟩ := mg_bind h
    refine mg_k (rv := (some (.int y8.1))) (va_runV (As := [.int 1]) (rest := []) G9 (k_X8_no l D o cI cZ g H.size (mg_su σ 0 0 0) 1 y8 h9_) (cwV 1 hts gX8_dig_X8_no rfl rfl rfl (by decide +kernel) ⟨Nat.le_of_ble_eq_true rfl, Nat.le_of_ble_eq_true rfl⟩) (mg_preV hK hO hA hw (q0 := 0) rfl rfl) rfl rfl hl.1 rfl (lv_room (Nat.le_of_ble_eq_true rfl)) dX8_dig_15 ⟨Nat.zero_le _, Nat.zero_le _⟩) hw hA (fun H locs hw => ?_)
    clear h9_
    cases h
    exact mg_eI hx hb hr hlocks hw (Nat.zero_le _) (Nat.zero_le _) dX8_dig_18
set_option maxHeartbeats 4000000 in
set_option maxRecDepth 100000 in
theorem k_X8_wall (l : Launch) (D : va_G) (o : Nat → Nat) (cI cZ : ClassId) (g : Nat → Nat) (sz : Nat) (σ : mg_St) (x1 : Int32) (x2 : Int32) (y : (Int32 × mg_St)) (h : f_X8_wall σ x1 x2 = some y) : mg_CT l yX8_wall wsX8_wall ({ frames := 2, cells := 0, slots := 0, locals := 43 } : Room) D [(cI, .int), (cZ, .boolean)] o (mg_mW g cI cZ σ) sz [.ref (g 0), .int x1, .int x2] (some (.int y.1)) (mg_mW g cI cZ y.2) 0 0 := by
  unfold mg_CT
  refine Met.ofW (cc := cX8_wall) (maxL := 3) (ret := (some .int)) (by decide) rfl ?_
  intro p e s m args below meth c s₁ B hml hv
  obtain ⟨rfl, hsz, hP, hK, hD0, hO⟩ := hv
  have hx := B.exec
  have hb := B.bytes
  have hr := B.returns
  have hts := atoms_spec (ws := wsX8_wall) B.pre
  have hown : s.vm.findClass RX8 = some m.cls := findClass_of_methodNamed B.named
  have hlocks := B.notSynchronized
  subst hsz
  have hD := hD0.self (sz := s.heap.size)
  generalize hAe : va_A (mg_mW g cI cZ σ) s.heap.size = A at hD hO ⊢
  have hA : ∀ q : Nat, s.heap.size ≤ q → A q := fun q h => by rw [← hAe]; exact Or.inr h
  have hw : mg_Wo D A s.heap s.heap [] (mg_mW g cI cZ σ) := ⟨hP, hD, va_S.rf⟩
  have G9 : CallFix p m c cX8_wall 3 s ([.ref (g 0), .int x1, .int x2] : List Value).toArray wsX8_wall RX8 := ⟨hx, hb, hml, hown, hts⟩
  clear hP hD hD0 hAe
  obtain ⟨H, hHe⟩ : ∃ H : Heap, H = s.heap := ⟨_, rfl⟩
  have w0_ := hts (.fieldLink RX8 47 "MoonGateModel" "thrown" "I") (by decide +kernel)
  have iX8_ : ∀ w ∈ wsX80, w ∈ wsX8_wall := (fun _ h => List.mem_cons_of_mem _ (List.mem_append_left _ (List.mem_append_right _ h)))
  have hl := lv_entry ([.ref (g 0), .int x1, .int x2]) (n := 3) (Nat.le_of_ble_eq_true rfl)
  rw [lg_entry_eq]
  generalize (lg_sl ([.ref (g 0), .int x1, .int x2]) ++ List.replicate (3 - (lg_sl ([.ref (g 0), .int x1, .int x2])).length) Slot.unset).toArray = ls at hl ⊢
  have hl : lv_has ls 3 [(0, .ref (g 0)), (1, .int x1), (2, .int x2)] := hl
  unfold f_X8_wall at h
  revert hw
  intro hw
  suffices K_ : ∀ (H : Heap) (locs : List Loc), mg_Wo D A s.heap H locs (mg_mW g cI cZ σ) → W p l e (headSpec wsX8_wall ({ frames := 2, cells := 0, slots := 0, locals := 43 } : Room)).room s m ([.ref (g 0), .int x1, .int x2] : List Value).toArray below meth c H locs 0 0 (MQ below (mg_Q D (mg_mW g cI cZ y.2) A (some (.int y.1))) ([.ref (g 0), .int x1, .int x2] : List Value).toArray s 0 0 A) (F0 m 0 ls []) from K_ _ _ hw
  clear hw hHe H
  intro H locs hw
  refine lv_aload_n hx hb dX8_wall_0 rfl (lv_at hl 0 rfl) ?_
  refine lv_iconst (v := 0) hx hb dX8_wall_1 (by decide) ?_
  refine mg_put (wd := mg_mW g cI cZ) (σ := σ) (v := 0) (ci := 8) (C := RX8) (T := TX8) (N := 15) hx hb hts iX8_ tyX8 tyX8_ok nmX8 hown hK hw 0 0 rfl rfl 0 (by decide) w0_ (fun _ h9 => h9) rfl (by decide +kernel) (Nat.le_of_ble_eq_true rfl) rfl dX8_wall_2 (fun H locs hw => ?_)
  refine lv_iload_n hx hb dX8_wall_5 rfl (lv_at hl 1 rfl) ?_
  refine lv_iload_n hx hb dX8_wall_6 rfl (lv_at hl 2 rfl) ?_
  obtain ⟨y1, h9_, h⟩ := mg_bind h
  refine mg_k (rv := (some (.int y1))) (va_runS (As := [.int x1, .int x2]) (rest := []) G9 (k_X8_isCell l D o cI cZ g H.size (mg_su σ 0 0 0) x1 x2 y1 h9_) (va_cwS 2 hts gX8_wall_X8_isCell rfl rfl rfl (by decide +kernel) ⟨Nat.le_of_ble_eq_true rfl, Nat.le_of_ble_eq_true rfl⟩) (mg_pre hK hO hA hw) rfl rfl hl.1 rfl (lv_room (Nat.le_of_ble_eq_true rfl)) dX8_wall_7 ⟨Nat.zero_le _, Nat.zero_le _⟩) hw hA (fun H locs hw => ?_)
  clear h9_
  refine mg_if_ne (tgt := 19) hx hb h dX8_wall_10 (by decide) (fun h => ?_) (fun h => ?_)
  · refine lv_aload_n hx hb dX8_wall_19 rfl (lv_at hl 0 rfl) ?_
    refine lv_iload_n hx hb dX8_wall_20 rfl (lv_at hl 1 rfl) ?_
    refine lv_iload_n hx hb dX8_wall_21 rfl (lv_at hl 2 rfl) ?_
    refine lv_iconst (v := 3) hx hb dX8_wall_22 (by decide) ?_
    obtain ⟨y2, h9_, h⟩ := mg_bind h
    refine mg_k (rv := (some (.int y2))) (va_runV (As := [.int x1, .int x2, .int 3]) (rest := []) G9 (k_X8_canBuild l D o cI cZ g H.size (mg_su σ 0 0 0) x1 x2 3 y2 h9_) (cwV 3 hts gX8_wall_X8_canBuild rfl rfl rfl (by decide +kernel) ⟨Nat.le_of_ble_eq_true rfl, Nat.le_of_ble_eq_true rfl⟩) (mg_preV hK hO hA hw (q0 := 0) rfl rfl) rfl rfl hl.1 rfl (lv_room (Nat.le_of_ble_eq_true rfl)) dX8_wall_23 ⟨Nat.zero_le _, Nat.zero_le _⟩) hw hA (fun H locs hw => ?_)
    clear h9_
    refine mg_if_eq (tgt := 40) hx hb h dX8_wall_26 (by decide) (fun h => ?_) (fun h => ?_)
    · refine lv_aload_n hx hb dX8_wall_40 rfl (lv_at hl 0 rfl) ?_
      refine lv_iconst (v := 2) hx hb dX8_wall_41 (by decide) ?_
      obtain ⟨y3, h9_, h⟩ := mg_bind h
      refine mg_k (rv := (some (.int y3.1))) (va_runV (As := [.int 2]) (rest := []) G9 (k_X8_no l D o cI cZ g H.size (mg_su σ 0 0 0) 2 y3 h9_) (cwV 1 hts gX8_wall_X8_no rfl rfl rfl (by decide +kernel) ⟨Nat.le_of_ble_eq_true rfl, Nat.le_of_ble_eq_true rfl⟩) (mg_preV hK hO hA hw (q0 := 0) rfl rfl) rfl rfl hl.1 rfl (lv_room (Nat.le_of_ble_eq_true rfl)) dX8_wall_42 ⟨Nat.zero_le _, Nat.zero_le _⟩) hw hA (fun H locs hw => ?_)
      clear h9_
      cases h
      exact mg_eI hx hb hr hlocks hw (Nat.zero_le _) (Nat.zero_le _) dX8_wall_45
    · refine lv_aload_n hx hb dX8_wall_29 rfl (lv_at hl 0 rfl) ?_
      refine lv_iload_n hx hb dX8_wall_30 rfl (lv_at hl 1 rfl) ?_
      refine lv_iload_n hx hb dX8_wall_31 rfl (lv_at hl 2 rfl) ?_
      refine lv_iconst (v := 3) hx hb dX8_wall_32 (by decide) ?_
      refine lv_iconst (v := 3) hx hb dX8_wall_33 (by decide) ?_
      obtain ⟨y4, h9_, h⟩ := mg_bind h
      refine mg_k (rv := (some (.int y4.1))) (va_runV (As := [.int x1, .int x2, .int 3, .int 3]) (rest := []) G9 (k_X8_spent l D o cI cZ g H.size (mg_su σ 0 0 0) x1 x2 3 3 y4 h9_) (cwV 4 hts gX8_wall_X8_spent rfl rfl rfl (by decide +kernel) ⟨Nat.le_of_ble_eq_true rfl, Nat.le_of_ble_eq_true rfl⟩) (mg_preV hK hO hA hw (q0 := 0) rfl rfl) rfl rfl hl.1 rfl (lv_room (Nat.le_of_ble_eq_true rfl)) dX8_wall_34 ⟨Nat.zero_le _, Nat.zero_le _⟩) hw hA (fun H locs hw => ?_)
      clear h9_
      refine lv_goto (tgt := 45) hx hb dX8_wall_37 (by decide) ?_
      cases h
      exact mg_eI hx hb hr hlocks hw (Nat.zero_le _) (Nat.zero_le _) dX8_wall_45
  · refine lv_aload_n hx hb dX8_wall_13 rfl (lv_at hl 0 rfl) ?_
    refine lv_iconst (v := 1) hx hb dX8_wall_14 (by decide) ?_
    obtain ⟨y5, h9_, h⟩ := mg_bind h
    refine mg_k (rv := (some (.int y5.1))) (va_runV (As := [.int 1]) (rest := []) G9 (k_X8_no l D o cI cZ g H.size (mg_su σ 0 0 0) 1 y5 h9_) (cwV 1 hts gX8_wall_X8_no rfl rfl rfl (by decide +kernel) ⟨Nat.le_of_ble_eq_true rfl, Nat.le_of_ble_eq_true rfl⟩) (mg_preV hK hO hA hw (q0 := 0) rfl rfl) rfl rfl hl.1 rfl (lv_room (Nat.le_of_ble_eq_true rfl)) dX8_wall_15 ⟨Nat.zero_le _, Nat.zero_le _⟩) hw hA (fun H locs hw => ?_)
    clear h9_
    cases h
    exact mg_eI hx hb hr hlocks hw (Nat.zero_le _) (Nat.zero_le _) dX8_wall_18
set_option maxHeartbeats 4000000 in
set_option maxRecDepth 100000 in
theorem k_X8_clear (l : Launch) (D : va_G) (o : Nat → Nat) (cI cZ : ClassId) (g : Nat → Nat) (sz : Nat) (σ : mg_St) (x1 : Int32) (x2 : Int32) (y : (Int32 × mg_St)) (h : f_X8_clear σ x1 x2 = some y) : mg_CT l yX8_clear wsX8_clear ({ frames := 2, cells := 0, slots := 0, locals := 43 } : Room) D [(cI, .int), (cZ, .boolean)] o (mg_mW g cI cZ σ) sz [.ref (g 0), .int x1, .int x2] (some (.int y.1)) (mg_mW g cI cZ y.2) 0 0 := by
  unfold mg_CT
  refine Met.ofW (cc := cX8_clear) (maxL := 6) (ret := (some .int)) (by decide) rfl ?_
  intro p e s m args below meth c s₁ B hml hv
  obtain ⟨rfl, hsz, hP, hK, hD0, hO⟩ := hv
  have hx := B.exec
  have hb := B.bytes
  have hr := B.returns
  have hts := atoms_spec (ws := wsX8_clear) B.pre
  have hown : s.vm.findClass RX8 = some m.cls := findClass_of_methodNamed B.named
  have hlocks := B.notSynchronized
  subst hsz
  have hD := hD0.self (sz := s.heap.size)
  generalize hAe : va_A (mg_mW g cI cZ σ) s.heap.size = A at hD hO ⊢
  have hA : ∀ q : Nat, s.heap.size ≤ q → A q := fun q h => by rw [← hAe]; exact Or.inr h
  have hw : mg_Wo D A s.heap s.heap [] (mg_mW g cI cZ σ) := ⟨hP, hD, va_S.rf⟩
  have G9 : CallFix p m c cX8_clear 6 s ([.ref (g 0), .int x1, .int x2] : List Value).toArray wsX8_clear RX8 := ⟨hx, hb, hml, hown, hts⟩
  clear hP hD hD0 hAe
  obtain ⟨H, hHe⟩ : ∃ H : Heap, H = s.heap := ⟨_, rfl⟩
  have w0_ := hts (.fieldLink RX8 47 "MoonGateModel" "thrown" "I") (by decide +kernel)
  have iX8_ : ∀ w ∈ wsX80, w ∈ wsX8_clear := (fun _ h => List.mem_cons_of_mem _ (List.mem_append_left _ (List.mem_append_right _ h)))
  have w2_ := hts (.fieldLink RX8 9 "MoonGateModel" "kind" "[I") (by decide +kernel)
  have w3_ := hts (.fieldLink RX8 71 "MoonGateModel" "carps" "I") (by decide +kernel)
  have w4_ := hts (.fieldLink RX8 25 "MoonGateModel" "sold" "[I") (by decide +kernel)
  have w5_ := hts (.fieldLink RX8 22 "MoonGateModel" "swims" "[I") (by decide +kernel)
  have w6_ := hts (.fieldLink RX8 16 "MoonGateModel" "bulk" "[I") (by decide +kernel)
  have hl := lv_entry ([.ref (g 0), .int x1, .int x2]) (n := 6) (Nat.le_of_ble_eq_true rfl)
  rw [lg_entry_eq]
  generalize (lg_sl ([.ref (g 0), .int x1, .int x2]) ++ List.replicate (6 - (lg_sl ([.ref (g 0), .int x1, .int x2])).length) Slot.unset).toArray = ls at hl ⊢
  have hl : lv_has ls 6 [(0, .ref (g 0)), (1, .int x1), (2, .int x2)] := hl
  unfold f_X8_clear at h
  revert hw
  intro hw
  suffices K_ : ∀ (H : Heap) (locs : List Loc), mg_Wo D A s.heap H locs (mg_mW g cI cZ σ) → W p l e (headSpec wsX8_clear ({ frames := 2, cells := 0, slots := 0, locals := 43 } : Room)).room s m ([.ref (g 0), .int x1, .int x2] : List Value).toArray below meth c H locs 0 0 (MQ below (mg_Q D (mg_mW g cI cZ y.2) A (some (.int y.1))) ([.ref (g 0), .int x1, .int x2] : List Value).toArray s 0 0 A) (F0 m 0 ls []) from K_ _ _ hw
  clear hw hHe H
  intro H locs hw
  refine lv_aload_n hx hb dX8_clear_0 rfl (lv_at hl 0 rfl) ?_
  refine lv_iconst (v := 0) hx hb dX8_clear_1 (by decide) ?_
  refine mg_put (wd := mg_mW g cI cZ) (σ := σ) (v := 0) (ci := 8) (C := RX8) (T := TX8) (N := 15) hx hb hts iX8_ tyX8 tyX8_ok nmX8 hown hK hw 0 0 rfl rfl 0 (by decide) w0_ (fun _ h9 => h9) rfl (by decide +kernel) (Nat.le_of_ble_eq_true rfl) rfl dX8_clear_2 (fun H locs hw => ?_)
  refine lv_iload_n hx hb dX8_clear_5 rfl (lv_at hl 1 rfl) ?_
  refine lv_iload_n hx hb dX8_clear_6 rfl (lv_at hl 2 rfl) ?_
  obtain ⟨y1, h9_, h⟩ := mg_bind h
  refine mg_k (rv := (some (.int y1))) (va_runS (As := [.int x1, .int x2]) (rest := []) G9 (k_X8_isCell l D o cI cZ g H.size (mg_su σ 0 0 0) x1 x2 y1 h9_) (va_cwS 2 hts gX8_clear_X8_isCell rfl rfl rfl (by decide +kernel) ⟨Nat.le_of_ble_eq_true rfl, Nat.le_of_ble_eq_true rfl⟩) (mg_pre hK hO hA hw) rfl rfl hl.1 rfl (lv_room (Nat.le_of_ble_eq_true rfl)) dX8_clear_7 ⟨Nat.zero_le _, Nat.zero_le _⟩) hw hA (fun H locs hw => ?_)
  clear h9_
  refine mg_if_ne (tgt := 19) hx hb h dX8_clear_10 (by decide) (fun h => ?_) (fun h => ?_)
  · refine lv_bipush (v := 10) hx hb dX8_clear_19 (by decide) ?_
    refine lv_iload_n hx hb dX8_clear_21 rfl (lv_at hl 2 rfl) ?_
    refine lv_imul hx hb dX8_clear_22 ?_
    refine lv_iload_n hx hb dX8_clear_23 rfl (lv_at hl 1 rfl) ?_
    refine lv_iadd hx hb dX8_clear_24 ?_
    refine lv_istore_n (lv' := [(3, .int ((10 * x2) + x1)), (0, .ref (g 0)), (1, .int x1), (2, .int x2)]) hx hb dX8_clear_25 rfl hl (by decide) rfl (fun ls hl => ?_)
    refine lv_aload_n hx hb dX8_clear_26 rfl (lv_at hl 1 rfl) ?_
    refine va_get (D := D) (ci := 8) (v := .ref (g 3)) (C := RX8) (T := TX8) (N := 15) hx hb hts iX8_ hown hK hw.1 0 rfl rfl 1 (by decide) w2_ (fun _ h9 => h9) rfl dX8_clear_27 ?_
    refine lv_iload_n hx hb dX8_clear_30 rfl (lv_at hl 0 rfl) ?_
    refine mg_ald (σ := (mg_su σ 0 0 0)) (k := 3) (n := 70) hx hb hK hw 3 0 rfl rfl h dX8_clear_31 (fun v2 h => ?_)
    obtain ⟨y3, h9_, h⟩ := mg_bind h
    have J32_ : ∀ (H : Heap) (locs : List Loc) (ls : Array Slot), mg_Wo D A s.heap H locs (mg_mW g cI cZ (mg_su σ 0 0 0)) → lv_has ls 6 [(0, .ref (g 0)), (1, .int x1), (2, .int x2), (3, .int ((10 * x2) + x1))] → W p l e (headSpec wsX8_clear ({ frames := 2, cells := 0, slots := 0, locals := 43 } : Room)).room s m ([.ref (g 0), .int x1, .int x2] : List Value).toArray below meth c H locs 0 0 (MQ below (mg_Q D (mg_mW g cI cZ y.2) A (some (.int y.1))) ([.ref (g 0), .int x1, .int x2] : List Value).toArray s 0 0 A) (F0 m 40 ls [.int y3]) := by
      intro H locs ls hw hl
      clear h9_
      refine lv_istore (lv' := [(4, .int y3), (0, .ref (g 0)), (1, .int x1), (2, .int x2), (3, .int ((10 * x2) + x1))]) hx hb dX8_clear_40 hl (by decide) rfl (fun ls hl => ?_)
      refine lv_iconst (v := 0) hx hb dX8_clear_42 (by decide) ?_
      refine lv_istore (lv' := [(5, .int 0), (4, .int y3), (0, .ref (g 0)), (1, .int x1), (2, .int x2), (3, .int ((10 * x2) + x1))]) hx hb dX8_clear_43 hl (by decide) rfl (fun ls hl => ?_)
      have L45_ : ∀ (n : Nat) (x4_45 : Int32) (x5_45 : Int32) (y45_ : Int32 × Int32), f_X8_clear_45 (mg_su σ 0 0 0) x1 x2 ((10 * x2) + x1) n x4_45 x5_45 = some y45_ → (∀ (H : Heap) (locs : List Loc) (ls : Array Slot), mg_Wo D A s.heap H locs (mg_mW g cI cZ (mg_su σ 0 0 0)) → lv_has ls 6 [(0, .ref (g 0)), (1, .int x1), (2, .int x2), (3, .int ((10 * x2) + x1)), (4, .int y45_.1), (5, .int y45_.2)] → W p l e (headSpec wsX8_clear ({ frames := 2, cells := 0, slots := 0, locals := 43 } : Room)).room s m ([.ref (g 0), .int x1, .int x2] : List Value).toArray below meth c H locs 0 0 (MQ below (mg_Q D (mg_mW g cI cZ y.2) A (some (.int y.1))) ([.ref (g 0), .int x1, .int x2] : List Value).toArray s 0 0 A) (F0 m 92 ls [])) → ∀ (H : Heap) (locs : List Loc) (ls : Array Slot), mg_Wo D A s.heap H locs (mg_mW g cI cZ (mg_su σ 0 0 0)) → lv_has ls 6 [(0, .ref (g 0)), (1, .int x1), (2, .int x2), (3, .int ((10 * x2) + x1)), (4, .int x4_45), (5, .int x5_45)] → W p l e (headSpec wsX8_clear ({ frames := 2, cells := 0, slots := 0, locals := 43 } : Room)).room s m ([.ref (g 0), .int x1, .int x2] : List Value).toArray below meth c H locs 0 0 (MQ below (mg_Q D (mg_mW g cI cZ y.2) A (some (.int y.1))) ([.ref (g 0), .int x1, .int x2] : List Value).toArray s 0 0 A) (F0 m 45 ls []) := by
        intro n
        induction n with
        | zero => intro x4_45 x5_45 y45_ h; rw [f_X8_clear_45] at h; cases h
        | succ n ih =>
          intro x4_45 x5_45 y45_ h kc H locs ls hw hl
          rw [f_X8_clear_45] at h
          refine lv_iload hx hb dX8_clear_45 (lv_at hl 5 rfl) ?_
          refine lv_aload_n hx hb dX8_clear_47 rfl (lv_at hl 0 rfl) ?_
          refine va_get (D := D) (ci := 8) (v := .int ((mg_su σ 0 0 0) 0 5)) (C := RX8) (T := TX8) (N := 15) hx hb hts iX8_ hown hK hw.1 0 rfl rfl 5 (by decide) w3_ (fun _ h9 => h9) rfl dX8_clear_48 ?_
          refine mg_icmp_ge (tgt := 92) hx hb h dX8_clear_51 (by decide) (fun h => ?_) (fun h => ?_)
          · cases h
            exact kc H locs ls hw (lv_sub hl [0, 1, 2, 3, 4, 5] rfl)
          · refine lv_iload hx hb dX8_clear_54 (lv_at hl 4 rfl) ?_
            refine lv_aload_n hx hb dX8_clear_56 rfl (lv_at hl 0 rfl) ?_
            refine va_get (D := D) (ci := 8) (v := .ref (g 8)) (C := RX8) (T := TX8) (N := 15) hx hb hts iX8_ hown hK hw.1 0 rfl rfl 7 (by decide) w4_ (fun _ h9 => h9) rfl dX8_clear_57 ?_
            refine lv_iload hx hb dX8_clear_60 (lv_at hl 5 rfl) ?_
            refine mg_ald (σ := (mg_su σ 0 0 0)) (k := 8) (n := 30) hx hb hK hw 8 0 rfl rfl h dX8_clear_62 (fun v5 h => ?_)
            refine lv_iconst (v := 1) hx hb dX8_clear_63 (by decide) ?_
            refine mg_icmp_eq (tgt := 78) hx hb h dX8_clear_64 (by decide) (fun h => ?_) (fun h => ?_)
            · refine lv_iconst (v := 1) hx hb dX8_clear_78 (by decide) ?_
              refine lv_goto (tgt := 83) hx hb dX8_clear_79 (by decide) ?_
              refine lv_iand hx hb dX8_clear_83 ?_
              refine lv_istore (lv' := [(4, .int (x4_45 &&& 1)), (0, .ref (g 0)), (1, .int x1), (2, .int x2), (3, .int ((10 * x2) + x1)), (5, .int x5_45)]) hx hb dX8_clear_84 hl (by decide) rfl (fun ls hl => ?_)
              refine lv_iinc (v := (x5_45 + 1)) (lv' := [(5, .int (x5_45 + 1)), (4, .int (x4_45 &&& 1)), (0, .ref (g 0)), (1, .int x1), (2, .int x2), (3, .int ((10 * x2) + x1))]) hx hb dX8_clear_86 hl (k := 5) rfl rfl (by decide) rfl (fun ls hl => ?_)
              refine lv_goto (tgt := 45) hx hb dX8_clear_89 (by decide) ?_
              exact ih _ _ _ h kc H locs ls hw (lv_sub hl [2, 3, 4, 5, 1, 0] rfl)
            · refine lv_aload_n hx hb dX8_clear_67 rfl (lv_at hl 0 rfl) ?_
              refine va_get (D := D) (ci := 8) (v := .ref (g 7)) (C := RX8) (T := TX8) (N := 15) hx hb hts iX8_ hown hK hw.1 0 rfl rfl 6 (by decide) w5_ (fun _ h9 => h9) rfl dX8_clear_68 ?_
              refine lv_iload hx hb dX8_clear_71 (lv_at hl 5 rfl) ?_
              refine mg_ald (σ := (mg_su σ 0 0 0)) (k := 7) (n := 30) hx hb hK hw 7 0 rfl rfl h dX8_clear_73 (fun v6 h => ?_)
              refine lv_iload_n hx hb dX8_clear_74 rfl (lv_at hl 3 rfl) ?_
              refine mg_icmp_eq (tgt := 82) hx hb h dX8_clear_75 (by decide) (fun h => ?_) (fun h => ?_)
              · refine lv_iconst (v := 0) hx hb dX8_clear_82 (by decide) ?_
                refine lv_iand hx hb dX8_clear_83 ?_
                refine lv_istore (lv' := [(4, .int (x4_45 &&& 0)), (0, .ref (g 0)), (1, .int x1), (2, .int x2), (3, .int ((10 * x2) + x1)), (5, .int x5_45)]) hx hb dX8_clear_84 hl (by decide) rfl (fun ls hl => ?_)
                refine lv_iinc (v := (x5_45 + 1)) (lv' := [(5, .int (x5_45 + 1)), (4, .int (x4_45 &&& 0)), (0, .ref (g 0)), (1, .int x1), (2, .int x2), (3, .int ((10 * x2) + x1))]) hx hb dX8_clear_86 hl (k := 5) rfl rfl (by decide) rfl (fun ls hl => ?_)
                refine lv_goto (tgt := 45) hx hb dX8_clear_89 (by decide) ?_
                exact ih _ _ _ h kc H locs ls hw (lv_sub hl [2, 3, 4, 5, 1, 0] rfl)
              · refine lv_iconst (v := 1) hx hb dX8_clear_78 (by decide) ?_
                refine lv_goto (tgt := 83) hx hb dX8_clear_79 (by decide) ?_
                refine lv_iand hx hb dX8_clear_83 ?_
                refine lv_istore (lv' := [(4, .int (x4_45 &&& 1)), (0, .ref (g 0)), (1, .int x1), (2, .int x2), (3, .int ((10 * x2) + x1)), (5, .int x5_45)]) hx hb dX8_clear_84 hl (by decide) rfl (fun ls hl => ?_)
                refine lv_iinc (v := (x5_45 + 1)) (lv' := [(5, .int (x5_45 + 1)), (4, .int (x4_45 &&& 1)), (0, .ref (g 0)), (1, .int x1), (2, .int x2), (3, .int ((10 * x2) + x1))]) hx hb dX8_clear_86 hl (k := 5) rfl rfl (by decide) rfl (fun ls hl => ?_)
                refine lv_goto (tgt := 45) hx hb dX8_clear_89 (by decide) ?_
                exact ih _ _ _ h kc H locs ls hw (lv_sub hl [2, 3, 4, 5, 1, 0] rfl)
      obtain ⟨y4, h9_, h⟩ := mg_bind h
      refine L45_ _ _ _ _ h9_ (fun H locs ls hw hl => ?_) H locs ls hw (lv_sub hl [2, 3, 4, 5, 1, 0] rfl)
      clear L45_ h9_
      refine lv_iload hx hb dX8_clear_92 (lv_at hl 4 rfl) ?_
      refine mg_if_ne (tgt := 103) hx hb h dX8_clear_94 (by decide) (fun h => ?_) (fun h => ?_)
      · refine lv_aload_n hx hb dX8_clear_103 rfl (lv_at hl 0 rfl) ?_
        refine lv_iload_n hx hb dX8_clear_104 rfl (lv_at hl 1 rfl) ?_
        refine lv_iload_n hx hb dX8_clear_105 rfl (lv_at hl 2 rfl) ?_
        refine lv_iconst (v := 0) hx hb dX8_clear_106 (by decide) ?_
        refine lv_aload_n hx hb dX8_clear_107 rfl (lv_at hl 0 rfl) ?_
        refine va_get (D := D) (ci := 8) (v := .ref (g 3)) (C := RX8) (T := TX8) (N := 15) hx hb hts iX8_ hown hK hw.1 0 rfl rfl 1 (by decide) w2_ (fun _ h9 => h9) rfl dX8_clear_108 ?_
        refine lv_iload_n hx hb dX8_clear_111 rfl (lv_at hl 3 rfl) ?_
        refine mg_ald (σ := (mg_su σ 0 0 0)) (k := 3) (n := 70) hx hb hK hw 3 0 rfl rfl h dX8_clear_112 (fun v7 h => ?_)
        refine lv_iconst (v := 1) hx hb dX8_clear_113 (by decide) ?_
        refine mg_icmp_ne (tgt := 127) hx hb h dX8_clear_114 (by decide) (fun h => ?_) (fun h => ?_)
        · refine lv_iconst (v := 0) hx hb dX8_clear_127 (by decide) ?_
          obtain ⟨y8, h9_, h⟩ := mg_bind h
          refine mg_k (rv := (some (.int y8.1))) (va_runV (As := [.int x1, .int x2, .int 0, .int 0]) (rest := []) G9 (k_X8_spent l D o cI cZ g H.size (mg_su σ 0 0 0) x1 x2 0 0 y8 h9_) (cwV 4 hts gX8_clear_X8_spent rfl rfl rfl (by decide +kernel) ⟨Nat.le_of_ble_eq_true rfl, Nat.le_of_ble_eq_true rfl⟩) (mg_preV hK hO hA hw (q0 := 0) rfl rfl) rfl rfl hl.1 rfl (lv_room (Nat.le_of_ble_eq_true rfl)) dX8_clear_128 ⟨Nat.zero_le _, Nat.zero_le _⟩) hw hA (fun H locs hw => ?_)
          clear h9_
          cases h
          exact mg_eI hx hb hr hlocks hw (Nat.zero_le _) (Nat.zero_le _) dX8_clear_131
        · refine lv_aload_n hx hb dX8_clear_117 rfl (lv_at hl 0 rfl) ?_
          refine va_get (D := D) (ci := 8) (v := .ref (g 5)) (C := RX8) (T := TX8) (N := 15) hx hb hts iX8_ hown hK hw.1 0 rfl rfl 3 (by decide) w6_ (fun _ h9 => h9) rfl dX8_clear_118 ?_
          refine lv_iload_n hx hb dX8_clear_121 rfl (lv_at hl 3 rfl) ?_
          refine mg_ald (σ := (mg_su σ 0 0 0)) (k := 5) (n := 70) hx hb hK hw 5 0 rfl rfl h dX8_clear_122 (fun v9 h => ?_)
          refine lv_ineg hx hb dX8_clear_123 ?_
          refine lv_goto (tgt := 128) hx hb dX8_clear_124 (by decide) ?_
          obtain ⟨y10, h9_, h⟩ := mg_bind h
          refine mg_k (rv := (some (.int y10.1))) (va_runV (As := [.int x1, .int x2, .int 0, .int (-v9)]) (rest := []) G9 (k_X8_spent l D o cI cZ g H.size (mg_su σ 0 0 0) x1 x2 0 (-v9) y10 h9_) (cwV 4 hts gX8_clear_X8_spent rfl rfl rfl (by decide +kernel) ⟨Nat.le_of_ble_eq_true rfl, Nat.le_of_ble_eq_true rfl⟩) (mg_preV hK hO hA hw (q0 := 0) rfl rfl) rfl rfl hl.1 rfl (lv_room (Nat.le_of_ble_eq_true rfl)) dX8_clear_128 ⟨Nat.zero_le _, Nat.zero_le _⟩) hw hA (fun H locs hw => ?_)
          clear h9_
          cases h
          exact mg_eI hx hb hr hlocks hw (Nat.zero_le _) (Nat.zero_le _) dX8_clear_131
      · refine lv_aload_n hx hb dX8_clear_97 rfl (lv_at hl 0 rfl) ?_
        refine lv_iconst (v := 2) hx hb dX8_clear_98 (by decide) ?_
        obtain ⟨y11, h9_, h⟩ := mg_bind h
        refine mg_k (rv := (some (.int y11.1))) (va_runV (As := [.int 2]) (rest := []) G9 (k_X8_no l D o cI cZ g H.size (mg_su σ 0 0 0) 2 y11 h9_) (cwV 1 hts gX8_clear_X8_no rfl rfl rfl (by decide +kernel) ⟨Nat.le_of_ble_eq_true rfl, Nat.le_of_ble_eq_true rfl⟩) (mg_preV hK hO hA hw (q0 := 0) rfl rfl) rfl rfl hl.1 rfl (lv_room (Nat.le_of_ble_eq_true rfl)) dX8_clear_99 ⟨Nat.zero_le _, Nat.zero_le _⟩) hw hA (fun H locs hw => ?_)
        clear h9_
        cases h
        exact mg_eI hx hb hr hlocks hw (Nat.zero_le _) (Nat.zero_le _) dX8_clear_102
    clear h
    have h := h9_
    clear h9_
    refine mg_if_eq (tgt := 39) hx hb h dX8_clear_32 (by decide) (fun h => ?_) (fun h => ?_)
    · refine lv_iconst (v := 0) hx hb dX8_clear_39 (by decide) ?_
      cases h
      exact J32_ H locs ls hw (lv_sub hl [1, 2, 3, 0] rfl)
    · refine lv_iconst (v := 1) hx hb dX8_clear_35 (by decide) ?_
      refine lv_goto (tgt := 40) hx hb dX8_clear_36 (by decide) ?_
      cases h
      exact J32_ H locs ls hw (lv_sub hl [1, 2, 3, 0] rfl)
  · refine lv_aload_n hx hb dX8_clear_13 rfl (lv_at hl 0 rfl) ?_
    refine lv_iconst (v := 1) hx hb dX8_clear_14 (by decide) ?_
    obtain ⟨y12, h9_, h⟩ := mg_bind h
    refine mg_k (rv := (some (.int y12.1))) (va_runV (As := [.int 1]) (rest := []) G9 (k_X8_no l D o cI cZ g H.size (mg_su σ 0 0 0) 1 y12 h9_) (cwV 1 hts gX8_clear_X8_no rfl rfl rfl (by decide +kernel) ⟨Nat.le_of_ble_eq_true rfl, Nat.le_of_ble_eq_true rfl⟩) (mg_preV hK hO hA hw (q0 := 0) rfl rfl) rfl rfl hl.1 rfl (lv_room (Nat.le_of_ble_eq_true rfl)) dX8_clear_15 ⟨Nat.zero_le _, Nat.zero_le _⟩) hw hA (fun H locs hw => ?_)
    clear h9_
    cases h
    exact mg_eI hx hb hr hlocks hw (Nat.zero_le _) (Nat.zero_le _) dX8_clear_18
set_option maxHeartbeats 4000000 in
set_option maxRecDepth 100000 in
theorem k_X8_cellTold (l : Launch) (D : va_G) (o : Nat → Nat) (cI cZ : ClassId) (g : Nat → Nat) (sz : Nat) (σ : mg_St) (x1 : Int32) (x2 : Int32) (y : Int32) (h : f_X8_cellTold σ x1 x2 = some y) : mg_CT l yX8_cellTold wsX8_cellTold ({ frames := 1, cells := 1, slots := 5, locals := 26 } : Room) D [(cI, .int), (cZ, .boolean)] o (mg_mW g cI cZ σ) sz [.ref (g 0), .int x1, .int x2] (some (.int y)) (mg_mW g cI cZ σ) 1 5 := by
  unfold mg_CT
  refine Met.ofW (cc := cX8_cellTold) (maxL := 6) (ret := (some .int)) (by decide) rfl ?_
  intro p e s m args below meth c s₁ B hml hv
  obtain ⟨rfl, hsz, hP, hK, hD0, hO⟩ := hv
  have hx := B.exec
  have hb := B.bytes
  have hr := B.returns
  have hts := atoms_spec (ws := wsX8_cellTold) B.pre
  have hown : s.vm.findClass RX8 = some m.cls := findClass_of_methodNamed B.named
  have hlocks := B.notSynchronized
  subst hsz
  have hD := hD0.self (sz := s.heap.size)
  generalize hAe : va_A (mg_mW g cI cZ σ) s.heap.size = A at hD hO ⊢
  have hA : ∀ q : Nat, s.heap.size ≤ q → A q := fun q h => by rw [← hAe]; exact Or.inr h
  have hw : mg_Wo D A s.heap s.heap [] (mg_mW g cI cZ σ) := ⟨hP, hD, va_S.rf⟩
  have G9 : CallFix p m c cX8_cellTold 6 s ([.ref (g 0), .int x1, .int x2] : List Value).toArray wsX8_cellTold RX8 := ⟨hx, hb, hml, hown, hts⟩
  clear hP hD hD0 hAe
  obtain ⟨H, hHe⟩ : ∃ H : Heap, H = s.heap := ⟨_, rfl⟩
  have w0_ := hts (.fieldLink RX8 9 "MoonGateModel" "kind" "[I") (by decide +kernel)
  have iX8_ : ∀ w ∈ wsX80, w ∈ wsX8_cellTold := (fun _ h => List.mem_cons_of_mem _ (List.mem_append_right _ h))
  have w2_ := hts (.arrayClass .int) (by decide +kernel)
  have w3_ := hts (.fieldLink RX8 13 "MoonGateModel" "shape" "[I") (by decide +kernel)
  have w4_ := hts (.fieldLink RX8 16 "MoonGateModel" "bulk" "[I") (by decide +kernel)
  have w5_ := hts (.fieldLink RX8 19 "MoonGateModel" "pond" "[I") (by decide +kernel)
  have hl := lv_entry ([.ref (g 0), .int x1, .int x2]) (n := 6) (Nat.le_of_ble_eq_true rfl)
  rw [lg_entry_eq]
  generalize (lg_sl ([.ref (g 0), .int x1, .int x2]) ++ List.replicate (6 - (lg_sl ([.ref (g 0), .int x1, .int x2])).length) Slot.unset).toArray = ls at hl ⊢
  have hl : lv_has ls 6 [(0, .ref (g 0)), (1, .int x1), (2, .int x2)] := hl
  unfold f_X8_cellTold at h
  revert hw
  intro hw
  suffices K_ : ∀ (H : Heap) (locs : List Loc), mg_Wo D A s.heap H locs (mg_mW g cI cZ σ) → W p l e (headSpec wsX8_cellTold ({ frames := 1, cells := 1, slots := 5, locals := 26 } : Room)).room s m ([.ref (g 0), .int x1, .int x2] : List Value).toArray below meth c H locs 0 0 (MQ below (mg_Q D (mg_mW g cI cZ σ) A (some (.int y))) ([.ref (g 0), .int x1, .int x2] : List Value).toArray s 1 5 A) (F0 m 0 ls []) from K_ _ _ hw
  clear hw hHe H
  intro H locs hw
  refine lv_aload_n hx hb dX8_cellTold_0 rfl (lv_at hl 0 rfl) ?_
  refine va_get (D := D) (ci := 8) (v := .ref (g 3)) (C := RX8) (T := TX8) (N := 15) hx hb hts iX8_ hown hK hw.1 0 rfl rfl 1 (by decide) w0_ (fun _ h9 => h9) rfl dX8_cellTold_1 ?_
  refine lv_iload_n hx hb dX8_cellTold_4 rfl (lv_at hl 1 rfl) ?_
  refine mg_ald (σ := σ) (k := 3) (n := 70) hx hb hK hw 3 0 rfl rfl h dX8_cellTold_5 (fun v1 h => ?_)
  refine lv_iconst (v := 1) hx hb dX8_cellTold_6 (by decide) ?_
  obtain ⟨y2, h9_, h⟩ := mg_bind h
  have J7_ : ∀ (H : Heap) (locs : List Loc) (ls : Array Slot), mg_Wo D A s.heap H locs (mg_mW g cI cZ σ) → lv_has ls 6 [(0, .ref (g 0)), (1, .int x1), (2, .int x2)] → W p l e (headSpec wsX8_cellTold ({ frames := 1, cells := 1, slots := 5, locals := 26 } : Room)).room s m ([.ref (g 0), .int x1, .int x2] : List Value).toArray below meth c H locs 0 0 (MQ below (mg_Q D (mg_mW g cI cZ σ) A (some (.int y))) ([.ref (g 0), .int x1, .int x2] : List Value).toArray s 1 5 A) (F0 m 15 ls [.int y2]) := by
    intro H locs ls hw hl
    clear h9_
    refine lv_istore_n (lv' := [(3, .int y2), (0, .ref (g 0)), (1, .int x1), (2, .int x2)]) hx hb dX8_cellTold_15 rfl hl (by decide) rfl (fun ls hl => ?_)
    refine lv_aload_n hx hb dX8_cellTold_16 rfl (lv_at hl 1 rfl) ?_
    refine va_get (D := D) (ci := 8) (v := .ref (g 3)) (C := RX8) (T := TX8) (N := 15) hx hb hts iX8_ hown hK hw.1 0 rfl rfl 1 (by decide) w0_ (fun _ h9 => h9) rfl dX8_cellTold_17 ?_
    refine lv_iload_n hx hb dX8_cellTold_20 rfl (lv_at hl 2 rfl) ?_
    refine mg_ald (σ := σ) (k := 3) (n := 70) hx hb hK hw 3 0 rfl rfl h dX8_cellTold_21 (fun v3 h => ?_)
    refine lv_iconst (v := 2) hx hb dX8_cellTold_22 (by decide) ?_
    obtain ⟨y4, h9_, h⟩ := mg_bind h
    have J23_ : ∀ (H : Heap) (locs : List Loc) (ls : Array Slot), mg_Wo D A s.heap H locs (mg_mW g cI cZ σ) → lv_has ls 6 [(0, .ref (g 0)), (1, .int x1), (2, .int x2), (3, .int y2)] → W p l e (headSpec wsX8_cellTold ({ frames := 1, cells := 1, slots := 5, locals := 26 } : Room)).room s m ([.ref (g 0), .int x1, .int x2] : List Value).toArray below meth c H locs 0 0 (MQ below (mg_Q D (mg_mW g cI cZ σ) A (some (.int y))) ([.ref (g 0), .int x1, .int x2] : List Value).toArray s 1 5 A) (F0 m 31 ls [.int y4]) := by
      intro H locs ls hw hl
      clear h9_
      refine lv_istore (lv' := [(4, .int y4), (0, .ref (g 0)), (1, .int x1), (2, .int x2), (3, .int y2)]) hx hb dX8_cellTold_31 hl (by decide) rfl (fun ls hl => ?_)
      refine lv_iconst (v := 5) hx hb dX8_cellTold_33 (by decide) ?_
      refine mg_newa (n := 5) (N := 5) hx hb w2_ hK hw hA 0 rfl (by decide) rfl (by decide) (Nat.le_of_ble_eq_true rfl) (Nat.le_of_ble_eq_true rfl) dX8_cellTold_34 (fun q5 H hw => ?_)
      refine lv_dup hx hb dX8_cellTold_36 rfl ?_
      refine lv_iconst (v := 0) hx hb dX8_cellTold_37 (by decide) ?_
      refine lv_aload_n hx hb dX8_cellTold_38 rfl (lv_at hl 1 rfl) ?_
      refine va_get (D := D) (ci := 8) (v := .ref (g 3)) (C := RX8) (T := TX8) (N := 15) hx hb hts iX8_ hown hK hw.1 0 rfl rfl 1 (by decide) w0_ (fun _ h9 => h9) rfl dX8_cellTold_39 ?_
      refine lv_iload_n hx hb dX8_cellTold_42 rfl (lv_at hl 2 rfl) ?_
      refine mg_ald (σ := σ) (k := 3) (n := 70) hx hb hK hw 3 0 rfl rfl h dX8_cellTold_43 (fun v6 h => ?_)
      refine mg_nst (f := (fun _ => 0)) (n := 5) (x := v6) (j := 0) hx hb hK hw 16 0 rfl (fun _ => rfl) rfl (by unfold vp_in; decide) rfl dX8_cellTold_44 (fun H locs hw => ?_)
      refine lv_dup hx hb dX8_cellTold_45 rfl ?_
      refine lv_iconst (v := 1) hx hb dX8_cellTold_46 (by decide) ?_
      refine lv_iload_n hx hb dX8_cellTold_47 rfl (lv_at hl 4 rfl) ?_
      obtain ⟨y7, h9_, h⟩ := mg_bind h
      have J48_ : ∀ (H : Heap) (locs : List Loc) (ls : Array Slot), mg_Wo D A s.heap H locs (mg_mW g cI cZ σ ++ [(q5, .inl (cI, 5, .inl (upd (fun _ => 0) 0 v6)))]) → lv_has ls 6 [(0, .ref (g 0)), (1, .int x1), (2, .int x2), (3, .int y2), (4, .int y4)] → W p l e (headSpec wsX8_cellTold ({ frames := 1, cells := 1, slots := 5, locals := 26 } : Room)).room s m ([.ref (g 0), .int x1, .int x2] : List Value).toArray below meth c H locs 1 5 (MQ below (mg_Q D (mg_mW g cI cZ σ) A (some (.int y))) ([.ref (g 0), .int x1, .int x2] : List Value).toArray s 1 5 A) (F0 m 61 ls [.int y7, .int 1, .ref q5, .ref q5]) := by
        intro H locs ls hw hl
        clear h9_
        refine mg_nst (f := (upd (fun _ => 0) 0 v6)) (n := 5) (x := y7) (j := 1) hx hb hK hw 16 0 rfl (fun _ => rfl) rfl (by unfold vp_in; decide) rfl dX8_cellTold_61 (fun H locs hw => ?_)
        refine lv_dup hx hb dX8_cellTold_62 rfl ?_
        refine lv_iconst (v := 2) hx hb dX8_cellTold_63 (by decide) ?_
        refine lv_iload_n hx hb dX8_cellTold_64 rfl (lv_at hl 3 rfl) ?_
        obtain ⟨y9, h9_, h⟩ := mg_bind h
        have J65_ : ∀ (H : Heap) (locs : List Loc) (ls : Array Slot), mg_Wo D A s.heap H locs (mg_mW g cI cZ σ ++ [(q5, .inl (cI, 5, .inl (upd (upd (fun _ => 0) 0 v6) 1 y7)))]) → lv_has ls 6 [(0, .ref (g 0)), (1, .int x1), (2, .int x2), (3, .int y2), (4, .int y4)] → W p l e (headSpec wsX8_cellTold ({ frames := 1, cells := 1, slots := 5, locals := 26 } : Room)).room s m ([.ref (g 0), .int x1, .int x2] : List Value).toArray below meth c H locs 1 5 (MQ below (mg_Q D (mg_mW g cI cZ σ) A (some (.int y))) ([.ref (g 0), .int x1, .int x2] : List Value).toArray s 1 5 A) (F0 m 78 ls [.int y9, .int 2, .ref q5, .ref q5]) := by
          intro H locs ls hw hl
          clear h9_
          refine mg_nst (f := (upd (upd (fun _ => 0) 0 v6) 1 y7)) (n := 5) (x := y9) (j := 2) hx hb hK hw 16 0 rfl (fun _ => rfl) rfl (by unfold vp_in; decide) rfl dX8_cellTold_78 (fun H locs hw => ?_)
          refine lv_dup hx hb dX8_cellTold_79 rfl ?_
          refine lv_iconst (v := 3) hx hb dX8_cellTold_80 (by decide) ?_
          refine lv_iload hx hb dX8_cellTold_81 (lv_at hl 4 rfl) ?_
          obtain ⟨y11, h9_, h⟩ := mg_bind h
          have J83_ : ∀ (H : Heap) (locs : List Loc) (ls : Array Slot), mg_Wo D A s.heap H locs (mg_mW g cI cZ σ ++ [(q5, .inl (cI, 5, .inl (upd (upd (upd (fun _ => 0) 0 v6) 1 y7) 2 y9)))]) → lv_has ls 6 [(0, .ref (g 0)), (1, .int x1), (2, .int x2), (3, .int y2), (4, .int y4)] → W p l e (headSpec wsX8_cellTold ({ frames := 1, cells := 1, slots := 5, locals := 26 } : Room)).room s m ([.ref (g 0), .int x1, .int x2] : List Value).toArray below meth c H locs 1 5 (MQ below (mg_Q D (mg_mW g cI cZ σ) A (some (.int y))) ([.ref (g 0), .int x1, .int x2] : List Value).toArray s 1 5 A) (F0 m 100 ls [.int y11, .int 3, .ref q5, .ref q5]) := by
            intro H locs ls hw hl
            clear h9_
            refine mg_nst (f := (upd (upd (upd (fun _ => 0) 0 v6) 1 y7) 2 y9)) (n := 5) (x := y11) (j := 3) hx hb hK hw 16 0 rfl (fun _ => rfl) rfl (by unfold vp_in; decide) rfl dX8_cellTold_100 (fun H locs hw => ?_)
            refine lv_dup hx hb dX8_cellTold_101 rfl ?_
            refine lv_iconst (v := 4) hx hb dX8_cellTold_102 (by decide) ?_
            refine lv_iload hx hb dX8_cellTold_103 (lv_at hl 4 rfl) ?_
            obtain ⟨y14, h9_, h⟩ := mg_bind h
            have J105_ : ∀ (H : Heap) (locs : List Loc) (ls : Array Slot), mg_Wo D A s.heap H locs (mg_mW g cI cZ σ ++ [(q5, .inl (cI, 5, .inl (upd (upd (upd (upd (fun _ => 0) 0 v6) 1 y7) 2 y9) 3 y11)))]) → lv_has ls 6 [(0, .ref (g 0)), (1, .int x1), (2, .int x2), (3, .int y2), (4, .int y4)] → W p l e (headSpec wsX8_cellTold ({ frames := 1, cells := 1, slots := 5, locals := 26 } : Room)).room s m ([.ref (g 0), .int x1, .int x2] : List Value).toArray below meth c H locs 1 5 (MQ below (mg_Q D (mg_mW g cI cZ σ) A (some (.int y))) ([.ref (g 0), .int x1, .int x2] : List Value).toArray s 1 5 A) (F0 m 122 ls [.int y14, .int 4, .ref q5, .ref q5]) := by
              intro H locs ls hw hl
              clear h9_
              refine mg_nst (f := (upd (upd (upd (upd (fun _ => 0) 0 v6) 1 y7) 2 y9) 3 y11)) (n := 5) (x := y14) (j := 4) hx hb hK hw 16 0 rfl (fun _ => rfl) rfl (by unfold vp_in; decide) rfl dX8_cellTold_122 (fun H locs hw => ?_)
              refine lv_astore (lv' := [(5, .ref q5), (0, .ref (g 0)), (1, .int x1), (2, .int x2), (3, .int y2), (4, .int y4)]) hx hb dX8_cellTold_123 hl (by decide) rfl (fun ls hl => ?_)
              refine lv_aload hx hb dX8_cellTold_125 (lv_at hl 0 rfl) ?_
              refine lv_iload_n hx hb dX8_cellTold_127 rfl (lv_at hl 3 rfl) ?_
              refine mg_nld (f := (upd (upd (upd (upd (upd (fun _ => 0) 0 v6) 1 y7) 2 y9) 3 y11) 4 y14)) (n := 5) hx hb hK hw 16 0 rfl rfl h dX8_cellTold_128 (fun v17 h => ?_)
              cases h
              have hw := mg_drop hw
              exact mg_eI hx hb hr hlocks hw (by omega) (by omega) dX8_cellTold_129
            clear h
            have h := h9_
            clear h9_
            refine mg_if_eq (tgt := 121) hx hb h dX8_cellTold_105 (by decide) (fun h => ?_) (fun h => ?_)
            · refine lv_iconst (v := 0) hx hb dX8_cellTold_121 (by decide) ?_
              cases h
              exact J105_ H locs ls hw (lv_sub hl [0, 1, 2, 3, 4] rfl)
            · refine lv_aload_n hx hb dX8_cellTold_108 rfl (lv_at hl 0 rfl) ?_
              refine lv_aload_n hx hb dX8_cellTold_109 rfl (lv_at hl 0 rfl) ?_
              refine va_get (D := D) (ci := 8) (v := .ref (g 6)) (C := RX8) (T := TX8) (N := 15) hx hb hts iX8_ hown hK hw.1 0 rfl rfl 4 (by decide) w5_ (fun _ h9 => h9) rfl dX8_cellTold_110 ?_
              refine lv_iload_n hx hb dX8_cellTold_113 rfl (lv_at hl 1 rfl) ?_
              refine mg_ald (σ := σ) (k := 6) (n := 70) hx hb hK hw 6 0 rfl rfl h dX8_cellTold_114 (fun v15 h => ?_)
              obtain ⟨y16, h9_, h⟩ := mg_bind h
              refine mg_kF (wl := []) (w0 := mg_mW g cI cZ σ) (rv := (some (.int y16))) (va_runV (As := [.int v15]) (rest := [.int 4, .ref q5, .ref q5]) G9 (k_X8_carpsOf l D o cI cZ g H.size σ v15 y16 h9_) (cwV 1 hts gX8_cellTold_X8_carpsOf rfl rfl rfl (by decide +kernel) ⟨Nat.le_of_ble_eq_true rfl, Nat.le_of_ble_eq_true rfl⟩) (mg_preV hK hO hA (mg_sub (wl := []) hw) (q0 := 0) rfl rfl) rfl rfl hl.1 rfl (lv_room (Nat.le_of_ble_eq_true rfl)) dX8_cellTold_115 ⟨(show 1 + 0 ≤ 1 by omega), (show 5 + 0 ≤ 5 by omega)⟩) hw hA (fun H locs hw => ?_)
              clear h9_
              refine lv_goto (tgt := 122) hx hb dX8_cellTold_118 (by decide) ?_
              cases h
              exact J105_ H locs ls hw (lv_sub hl [0, 1, 2, 3, 4] rfl)
          clear h
          have h := h9_
          clear h9_
          refine mg_if_eq (tgt := 99) hx hb h dX8_cellTold_83 (by decide) (fun h => ?_) (fun h => ?_)
          · refine lv_iconst (v := 0) hx hb dX8_cellTold_99 (by decide) ?_
            cases h
            exact J83_ H locs ls hw (lv_sub hl [0, 1, 2, 3, 4] rfl)
          · refine lv_aload_n hx hb dX8_cellTold_86 rfl (lv_at hl 0 rfl) ?_
            refine lv_aload_n hx hb dX8_cellTold_87 rfl (lv_at hl 0 rfl) ?_
            refine va_get (D := D) (ci := 8) (v := .ref (g 6)) (C := RX8) (T := TX8) (N := 15) hx hb hts iX8_ hown hK hw.1 0 rfl rfl 4 (by decide) w5_ (fun _ h9 => h9) rfl dX8_cellTold_88 ?_
            refine lv_iload_n hx hb dX8_cellTold_91 rfl (lv_at hl 1 rfl) ?_
            refine mg_ald (σ := σ) (k := 6) (n := 70) hx hb hK hw 6 0 rfl rfl h dX8_cellTold_92 (fun v12 h => ?_)
            obtain ⟨y13, h9_, h⟩ := mg_bind h
            refine mg_kF (wl := []) (w0 := mg_mW g cI cZ σ) (rv := (some (.int y13))) (va_runV (As := [.int v12]) (rest := [.int 3, .ref q5, .ref q5]) G9 (k_X8_cellsOf l D o cI cZ g H.size σ v12 y13 h9_) (cwV 1 hts gX8_cellTold_X8_cellsOf rfl rfl rfl (by decide +kernel) ⟨Nat.le_of_ble_eq_true rfl, Nat.le_of_ble_eq_true rfl⟩) (mg_preV hK hO hA (mg_sub (wl := []) hw) (q0 := 0) rfl rfl) rfl rfl hl.1 rfl (lv_room (Nat.le_of_ble_eq_true rfl)) dX8_cellTold_93 ⟨(show 1 + 0 ≤ 1 by omega), (show 5 + 0 ≤ 5 by omega)⟩) hw hA (fun H locs hw => ?_)
            clear h9_
            refine lv_goto (tgt := 100) hx hb dX8_cellTold_96 (by decide) ?_
            cases h
            exact J83_ H locs ls hw (lv_sub hl [0, 1, 2, 3, 4] rfl)
        clear h
        have h := h9_
        clear h9_
        refine mg_if_eq (tgt := 77) hx hb h dX8_cellTold_65 (by decide) (fun h => ?_) (fun h => ?_)
        · refine lv_iconst (v := 0) hx hb dX8_cellTold_77 (by decide) ?_
          cases h
          exact J65_ H locs ls hw (lv_sub hl [0, 1, 2, 3, 4] rfl)
        · refine lv_aload_n hx hb dX8_cellTold_68 rfl (lv_at hl 0 rfl) ?_
          refine va_get (D := D) (ci := 8) (v := .ref (g 5)) (C := RX8) (T := TX8) (N := 15) hx hb hts iX8_ hown hK hw.1 0 rfl rfl 3 (by decide) w4_ (fun _ h9 => h9) rfl dX8_cellTold_69 ?_
          refine lv_iload_n hx hb dX8_cellTold_72 rfl (lv_at hl 1 rfl) ?_
          refine mg_ald (σ := σ) (k := 5) (n := 70) hx hb hK hw 5 0 rfl rfl h dX8_cellTold_73 (fun v10 h => ?_)
          refine lv_goto (tgt := 78) hx hb dX8_cellTold_74 (by decide) ?_
          cases h
          exact J65_ H locs ls hw (lv_sub hl [0, 1, 2, 3, 4] rfl)
      clear h
      have h := h9_
      clear h9_
      refine mg_if_eq (tgt := 60) hx hb h dX8_cellTold_48 (by decide) (fun h => ?_) (fun h => ?_)
      · refine lv_iconst (v := (-1)) hx hb dX8_cellTold_60 (by decide) ?_
        cases h
        exact J48_ H locs ls hw (lv_sub hl [1, 2, 3, 4, 0] rfl)
      · refine lv_aload_n hx hb dX8_cellTold_51 rfl (lv_at hl 1 rfl) ?_
        refine va_get (D := D) (ci := 8) (v := .ref (g 4)) (C := RX8) (T := TX8) (N := 15) hx hb hts iX8_ hown hK hw.1 0 rfl rfl 2 (by decide) w3_ (fun _ h9 => h9) rfl dX8_cellTold_52 ?_
        refine lv_iload_n hx hb dX8_cellTold_55 rfl (lv_at hl 2 rfl) ?_
        refine mg_ald (σ := σ) (k := 4) (n := 70) hx hb hK hw 4 0 rfl rfl h dX8_cellTold_56 (fun v8 h => ?_)
        refine lv_goto (tgt := 61) hx hb dX8_cellTold_57 (by decide) ?_
        cases h
        exact J48_ H locs ls hw (lv_sub hl [1, 2, 3, 4, 0] rfl)
    clear h
    have h := h9_
    clear h9_
    refine mg_icmp_ne (tgt := 30) hx hb h dX8_cellTold_23 (by decide) (fun h => ?_) (fun h => ?_)
    · refine lv_iconst (v := 0) hx hb dX8_cellTold_30 (by decide) ?_
      cases h
      exact J23_ H locs ls hw (lv_sub hl [1, 2, 3, 0] rfl)
    · refine lv_iconst (v := 1) hx hb dX8_cellTold_26 (by decide) ?_
      refine lv_goto (tgt := 31) hx hb dX8_cellTold_27 (by decide) ?_
      cases h
      exact J23_ H locs ls hw (lv_sub hl [1, 2, 3, 0] rfl)
  clear h
  have h := h9_
  clear h9_
  refine mg_icmp_ne (tgt := 14) hx hb h dX8_cellTold_7 (by decide) (fun h => ?_) (fun h => ?_)
  · refine lv_iconst (v := 0) hx hb dX8_cellTold_14 (by decide) ?_
    cases h
    exact J7_ H locs ls hw (lv_sub hl [0, 1, 2] rfl)
  · refine lv_iconst (v := 1) hx hb dX8_cellTold_10 (by decide) ?_
    refine lv_goto (tgt := 15) hx hb dX8_cellTold_11 (by decide) ?_
    cases h
    exact J7_ H locs ls hw (lv_sub hl [0, 1, 2] rfl)
set_option maxHeartbeats 4000000 in
set_option maxRecDepth 100000 in
theorem k_X8_cell (l : Launch) (D : va_G) (o : Nat → Nat) (cI cZ : ClassId) (g : Nat → Nat) (sz : Nat) (σ : mg_St) (x1 : Int32) (x2 : Int32) (x3 : Int32) (y : (Int32 × mg_St)) (h : f_X8_cell σ x1 x2 x3 = some y) : mg_CT l yX8_cell wsX8_cell ({ frames := 3, cells := 1, slots := 5, locals := 84 } : Room) D [(cI, .int), (cZ, .boolean)] o (mg_mW g cI cZ σ) sz [.ref (g 0), .int x1, .int x2, .int x3] (some (.int y.1)) (mg_mW g cI cZ y.2) 1 5 := by
  unfold mg_CT
  refine Met.ofW (cc := cX8_cell) (maxL := 4) (ret := (some .int)) (by decide) rfl ?_
  intro p e s m args below meth c s₁ B hml hv
  obtain ⟨rfl, hsz, hP, hK, hD0, hO⟩ := hv
  have hx := B.exec
  have hb := B.bytes
  have hr := B.returns
  have hts := atoms_spec (ws := wsX8_cell) B.pre
  have hown : s.vm.findClass RX8 = some m.cls := findClass_of_methodNamed B.named
  have hlocks := B.notSynchronized
  subst hsz
  have hD := hD0.self (sz := s.heap.size)
  generalize hAe : va_A (mg_mW g cI cZ σ) s.heap.size = A at hD hO ⊢
  have hA : ∀ q : Nat, s.heap.size ≤ q → A q := fun q h => by rw [← hAe]; exact Or.inr h
  have hw : mg_Wo D A s.heap s.heap [] (mg_mW g cI cZ σ) := ⟨hP, hD, va_S.rf⟩
  have G9 : CallFix p m c cX8_cell 4 s ([.ref (g 0), .int x1, .int x2, .int x3] : List Value).toArray wsX8_cell RX8 := ⟨hx, hb, hml, hown, hts⟩
  clear hP hD hD0 hAe
  obtain ⟨H, hHe⟩ : ∃ H : Heap, H = s.heap := ⟨_, rfl⟩
  have w0_ := hts (.fieldLink RX8 47 "MoonGateModel" "thrown" "I") (by decide +kernel)
  have iX8_ : ∀ w ∈ wsX80, w ∈ wsX8_cell := (fun _ h => List.mem_cons_of_mem _ (List.mem_append_right _ h))
  have hl := lv_entry ([.ref (g 0), .int x1, .int x2, .int x3]) (n := 4) (Nat.le_of_ble_eq_true rfl)
  rw [lg_entry_eq]
  generalize (lg_sl ([.ref (g 0), .int x1, .int x2, .int x3]) ++ List.replicate (4 - (lg_sl ([.ref (g 0), .int x1, .int x2, .int x3])).length) Slot.unset).toArray = ls at hl ⊢
  have hl : lv_has ls 4 [(0, .ref (g 0)), (1, .int x1), (2, .int x2), (3, .int x3)] := hl
  unfold f_X8_cell at h
  revert hw
  intro hw
  suffices K_ : ∀ (H : Heap) (locs : List Loc), mg_Wo D A s.heap H locs (mg_mW g cI cZ σ) → W p l e (headSpec wsX8_cell ({ frames := 3, cells := 1, slots := 5, locals := 84 } : Room)).room s m ([.ref (g 0), .int x1, .int x2, .int x3] : List Value).toArray below meth c H locs 0 0 (MQ below (mg_Q D (mg_mW g cI cZ y.2) A (some (.int y.1))) ([.ref (g 0), .int x1, .int x2, .int x3] : List Value).toArray s 1 5 A) (F0 m 0 ls []) from K_ _ _ hw
  clear hw hHe H
  intro H locs hw
  refine lv_aload_n hx hb dX8_cell_0 rfl (lv_at hl 0 rfl) ?_
  refine lv_iconst (v := 0) hx hb dX8_cell_1 (by decide) ?_
  refine mg_put (wd := mg_mW g cI cZ) (σ := σ) (v := 0) (ci := 8) (C := RX8) (T := TX8) (N := 15) hx hb hts iX8_ tyX8 tyX8_ok nmX8 hown hK hw 0 0 rfl rfl 0 (by decide) w0_ (fun _ h9 => h9) rfl (by decide +kernel) (Nat.le_of_ble_eq_true rfl) rfl dX8_cell_2 (fun H locs hw => ?_)
  refine lv_iload_n hx hb dX8_cell_5 rfl (lv_at hl 1 rfl) ?_
  refine lv_iload_n hx hb dX8_cell_6 rfl (lv_at hl 2 rfl) ?_
  obtain ⟨y1, h9_, h⟩ := mg_bind h
  refine mg_k (rv := (some (.int y1))) (va_runS (As := [.int x1, .int x2]) (rest := []) G9 (k_X8_isCell l D o cI cZ g H.size (mg_su σ 0 0 0) x1 x2 y1 h9_) (va_cwS 2 hts gX8_cell_X8_isCell rfl rfl rfl (by decide +kernel) ⟨Nat.le_of_ble_eq_true rfl, Nat.le_of_ble_eq_true rfl⟩) (mg_pre hK hO hA hw) rfl rfl hl.1 rfl (lv_room (Nat.le_of_ble_eq_true rfl)) dX8_cell_7 ⟨Nat.zero_le _, Nat.zero_le _⟩) hw hA (fun H locs hw => ?_)
  clear h9_
  refine mg_if_eq (tgt := 22) hx hb h dX8_cell_10 (by decide) (fun h => ?_) (fun h => ?_)
  · refine lv_aload_n hx hb dX8_cell_22 rfl (lv_at hl 0 rfl) ?_
    refine lv_iconst (v := 1) hx hb dX8_cell_23 (by decide) ?_
    obtain ⟨y2, h9_, h⟩ := mg_bind h
    refine mg_k (rv := (some (.int y2.1))) (va_runV (As := [.int 1]) (rest := []) G9 (k_X8_no l D o cI cZ g H.size (mg_su σ 0 0 0) 1 y2 h9_) (cwV 1 hts gX8_cell_X8_no rfl rfl rfl (by decide +kernel) ⟨Nat.le_of_ble_eq_true rfl, Nat.le_of_ble_eq_true rfl⟩) (mg_preV hK hO hA hw (q0 := 0) rfl rfl) rfl rfl hl.1 rfl (lv_room (Nat.le_of_ble_eq_true rfl)) dX8_cell_24 ⟨Nat.zero_le _, Nat.zero_le _⟩) hw hA (fun H locs hw => ?_)
    clear h9_
    cases h
    exact mg_eI hx hb hr hlocks hw (Nat.zero_le _) (Nat.zero_le _) dX8_cell_27
  · refine lv_iload_n hx hb dX8_cell_13 rfl (lv_at hl 3 rfl) ?_
    refine lv_iconst (v := 0) hx hb dX8_cell_14 (by decide) ?_
    refine lv_iconst (v := 4) hx hb dX8_cell_15 (by decide) ?_
    obtain ⟨y3, h9_, h⟩ := mg_bind h
    refine mg_k (rv := (some (.int y3))) (va_runS (As := [.int x3, .int 0, .int 4]) (rest := []) G9 (k_X8_isIn l D o cI cZ g H.size (mg_su σ 0 0 0) x3 0 4 y3 h9_) (va_cwS 3 hts gX8_cell_X8_isIn rfl rfl rfl (by decide +kernel) ⟨Nat.le_of_ble_eq_true rfl, Nat.le_of_ble_eq_true rfl⟩) (mg_pre hK hO hA hw) rfl rfl hl.1 rfl (lv_room (Nat.le_of_ble_eq_true rfl)) dX8_cell_16 ⟨Nat.zero_le _, Nat.zero_le _⟩) hw hA (fun H locs hw => ?_)
    clear h9_
    refine mg_if_ne (tgt := 28) hx hb h dX8_cell_19 (by decide) (fun h => ?_) (fun h => ?_)
    · refine lv_aload_n hx hb dX8_cell_28 rfl (lv_at hl 0 rfl) ?_
      obtain ⟨y4, h9_, h⟩ := mg_bind h
      refine mg_k (rv := none) (va_runV (As := []) (rest := []) G9 (k_X8_markPonds l D o cI cZ g H.size (mg_su σ 0 0 0)  y4 h9_) (cwV 0 hts gX8_cell_X8_markPonds rfl rfl rfl (by decide +kernel) ⟨Nat.le_of_ble_eq_true rfl, Nat.le_of_ble_eq_true rfl⟩) (mg_preV hK hO hA hw (q0 := 0) rfl rfl) rfl rfl hl.1 rfl (lv_room (Nat.le_of_ble_eq_true rfl)) dX8_cell_29 ⟨Nat.zero_le _, Nat.zero_le _⟩) hw hA (fun H locs hw => ?_)
      clear h9_
      refine lv_aload_n hx hb dX8_cell_32 rfl (lv_at hl 0 rfl) ?_
      refine lv_bipush (v := 10) hx hb dX8_cell_33 (by decide) ?_
      refine lv_iload_n hx hb dX8_cell_35 rfl (lv_at hl 2 rfl) ?_
      refine lv_imul hx hb dX8_cell_36 ?_
      refine lv_iload_n hx hb dX8_cell_37 rfl (lv_at hl 1 rfl) ?_
      refine lv_iadd hx hb dX8_cell_38 ?_
      refine lv_iload_n hx hb dX8_cell_39 rfl (lv_at hl 3 rfl) ?_
      obtain ⟨y5, h9_, h⟩ := mg_bind h
      refine mg_k (rv := (some (.int y5))) (va_runV (As := [.int ((10 * x2) + x1), .int x3]) (rest := []) G9 (k_X8_cellTold l D o cI cZ g H.size y4 ((10 * x2) + x1) x3 y5 h9_) (cwV 2 hts gX8_cell_X8_cellTold rfl rfl rfl (by decide +kernel) ⟨Nat.le_of_ble_eq_true rfl, Nat.le_of_ble_eq_true rfl⟩) (mg_preV hK hO hA hw (q0 := 0) rfl rfl) rfl rfl hl.1 rfl (lv_room (Nat.le_of_ble_eq_true rfl)) dX8_cell_40 ⟨(show 0 + 1 ≤ 1 by omega), (show 0 + 5 ≤ 5 by omega)⟩) hw hA (fun H locs hw => ?_)
      clear h9_
      cases h
      exact mg_eI hx hb hr hlocks hw (by omega) (by omega) dX8_cell_43
    · refine lv_aload_n hx hb dX8_cell_22 rfl (lv_at hl 0 rfl) ?_
      refine lv_iconst (v := 1) hx hb dX8_cell_23 (by decide) ?_
      obtain ⟨y6, h9_, h⟩ := mg_bind h
      refine mg_k (rv := (some (.int y6.1))) (va_runV (As := [.int 1]) (rest := []) G9 (k_X8_no l D o cI cZ g H.size (mg_su σ 0 0 0) 1 y6 h9_) (cwV 1 hts gX8_cell_X8_no rfl rfl rfl (by decide +kernel) ⟨Nat.le_of_ble_eq_true rfl, Nat.le_of_ble_eq_true rfl⟩) (mg_preV hK hO hA hw (q0 := 0) rfl rfl) rfl rfl hl.1 rfl (lv_room (Nat.le_of_ble_eq_true rfl)) dX8_cell_24 ⟨Nat.zero_le _, Nat.zero_le _⟩) hw hA (fun H locs hw => ?_)
      clear h9_
      cases h
      exact mg_eI hx hb hr hlocks hw (Nat.zero_le _) (Nat.zero_le _) dX8_cell_27
set_option maxHeartbeats 4000000 in
set_option maxRecDepth 100000 in
theorem k_X8_carp (l : Launch) (D : va_G) (o : Nat → Nat) (cI cZ : ClassId) (g : Nat → Nat) (sz : Nat) (σ : mg_St) (x1 : Int32) (x2 : Int32) (y : (Int32 × mg_St)) (h : f_X8_carp σ x1 x2 = some y) : mg_CT l yX8_carp wsX8_carp ({ frames := 2, cells := 0, slots := 0, locals := 43 } : Room) D [(cI, .int), (cZ, .boolean)] o (mg_mW g cI cZ σ) sz [.ref (g 0), .int x1, .int x2] (some (.int y.1)) (mg_mW g cI cZ y.2) 0 0 := by
  unfold mg_CT
  refine Met.ofW (cc := cX8_carp) (maxL := 3) (ret := (some .int)) (by decide) rfl ?_
  intro p e s m args below meth c s₁ B hml hv
  obtain ⟨rfl, hsz, hP, hK, hD0, hO⟩ := hv
  have hx := B.exec
  have hb := B.bytes
  have hr := B.returns
  have hts := atoms_spec (ws := wsX8_carp) B.pre
  have hown : s.vm.findClass RX8 = some m.cls := findClass_of_methodNamed B.named
  have hlocks := B.notSynchronized
  subst hsz
  have hD := hD0.self (sz := s.heap.size)
  generalize hAe : va_A (mg_mW g cI cZ σ) s.heap.size = A at hD hO ⊢
  have hA : ∀ q : Nat, s.heap.size ≤ q → A q := fun q h => by rw [← hAe]; exact Or.inr h
  have hw : mg_Wo D A s.heap s.heap [] (mg_mW g cI cZ σ) := ⟨hP, hD, va_S.rf⟩
  have G9 : CallFix p m c cX8_carp 3 s ([.ref (g 0), .int x1, .int x2] : List Value).toArray wsX8_carp RX8 := ⟨hx, hb, hml, hown, hts⟩
  clear hP hD hD0 hAe
  obtain ⟨H, hHe⟩ : ∃ H : Heap, H = s.heap := ⟨_, rfl⟩
  have w0_ := hts (.fieldLink RX8 47 "MoonGateModel" "thrown" "I") (by decide +kernel)
  have iX8_ : ∀ w ∈ wsX80, w ∈ wsX8_carp := (fun _ h => List.mem_cons_of_mem _ (List.mem_append_left _ (List.mem_append_right _ h)))
  have w2_ := hts (.fieldLink RX8 9 "MoonGateModel" "kind" "[I") (by decide +kernel)
  have w3_ := hts (.fieldLink RX8 40 "MoonGateModel" "s" "LMoonGateModel$Days;") (by decide +kernel)
  have iX7_ : ∀ w ∈ wsX70, w ∈ wsX8_carp := (fun _ h => List.mem_cons_of_mem _ (List.mem_append_right _ h))
  have w5_ := hts (.fieldLink RX8 71 "MoonGateModel" "carps" "I") (by decide +kernel)
  have w6_ := hts (.fieldLink RX8 22 "MoonGateModel" "swims" "[I") (by decide +kernel)
  have hl := lv_entry ([.ref (g 0), .int x1, .int x2]) (n := 3) (Nat.le_of_ble_eq_true rfl)
  rw [lg_entry_eq]
  generalize (lg_sl ([.ref (g 0), .int x1, .int x2]) ++ List.replicate (3 - (lg_sl ([.ref (g 0), .int x1, .int x2])).length) Slot.unset).toArray = ls at hl ⊢
  have hl : lv_has ls 3 [(0, .ref (g 0)), (1, .int x1), (2, .int x2)] := hl
  unfold f_X8_carp at h
  revert hw
  intro hw
  suffices K_ : ∀ (H : Heap) (locs : List Loc), mg_Wo D A s.heap H locs (mg_mW g cI cZ σ) → W p l e (headSpec wsX8_carp ({ frames := 2, cells := 0, slots := 0, locals := 43 } : Room)).room s m ([.ref (g 0), .int x1, .int x2] : List Value).toArray below meth c H locs 0 0 (MQ below (mg_Q D (mg_mW g cI cZ y.2) A (some (.int y.1))) ([.ref (g 0), .int x1, .int x2] : List Value).toArray s 0 0 A) (F0 m 0 ls []) from K_ _ _ hw
  clear hw hHe H
  intro H locs hw
  refine lv_aload_n hx hb dX8_carp_0 rfl (lv_at hl 0 rfl) ?_
  refine lv_iconst (v := 0) hx hb dX8_carp_1 (by decide) ?_
  refine mg_put (wd := mg_mW g cI cZ) (σ := σ) (v := 0) (ci := 8) (C := RX8) (T := TX8) (N := 15) hx hb hts iX8_ tyX8 tyX8_ok nmX8 hown hK hw 0 0 rfl rfl 0 (by decide) w0_ (fun _ h9 => h9) rfl (by decide +kernel) (Nat.le_of_ble_eq_true rfl) rfl dX8_carp_2 (fun H locs hw => ?_)
  refine lv_iload_n hx hb dX8_carp_5 rfl (lv_at hl 1 rfl) ?_
  refine lv_iload_n hx hb dX8_carp_6 rfl (lv_at hl 2 rfl) ?_
  obtain ⟨y1, h9_, h⟩ := mg_bind h
  refine mg_k (rv := (some (.int y1))) (va_runS (As := [.int x1, .int x2]) (rest := []) G9 (k_X8_isCell l D o cI cZ g H.size (mg_su σ 0 0 0) x1 x2 y1 h9_) (va_cwS 2 hts gX8_carp_X8_isCell rfl rfl rfl (by decide +kernel) ⟨Nat.le_of_ble_eq_true rfl, Nat.le_of_ble_eq_true rfl⟩) (mg_pre hK hO hA hw) rfl rfl hl.1 rfl (lv_room (Nat.le_of_ble_eq_true rfl)) dX8_carp_7 ⟨Nat.zero_le _, Nat.zero_le _⟩) hw hA (fun H locs hw => ?_)
  clear h9_
  refine mg_if_ne (tgt := 19) hx hb h dX8_carp_10 (by decide) (fun h => ?_) (fun h => ?_)
  · refine lv_aload_n hx hb dX8_carp_19 rfl (lv_at hl 0 rfl) ?_
    refine va_get (D := D) (ci := 8) (v := .ref (g 3)) (C := RX8) (T := TX8) (N := 15) hx hb hts iX8_ hown hK hw.1 0 rfl rfl 1 (by decide) w2_ (fun _ h9 => h9) rfl dX8_carp_20 ?_
    refine lv_bipush (v := 10) hx hb dX8_carp_23 (by decide) ?_
    refine lv_iload_n hx hb dX8_carp_25 rfl (lv_at hl 2 rfl) ?_
    refine lv_imul hx hb dX8_carp_26 ?_
    refine lv_iload_n hx hb dX8_carp_27 rfl (lv_at hl 1 rfl) ?_
    refine lv_iadd hx hb dX8_carp_28 ?_
    refine mg_ald (σ := (mg_su σ 0 0 0)) (k := 3) (n := 70) hx hb hK hw 3 0 rfl rfl h dX8_carp_29 (fun v2 h => ?_)
    refine lv_iconst (v := 2) hx hb dX8_carp_30 (by decide) ?_
    refine mg_icmp_ne (tgt := 54) hx hb h dX8_carp_31 (by decide) (fun h => ?_) (fun h => ?_)
    · refine lv_aload_n hx hb dX8_carp_54 rfl (lv_at hl 0 rfl) ?_
      refine lv_iconst (v := 2) hx hb dX8_carp_55 (by decide) ?_
      obtain ⟨y3, h9_, h⟩ := mg_bind h
      refine mg_k (rv := (some (.int y3.1))) (va_runV (As := [.int 2]) (rest := []) G9 (k_X8_no l D o cI cZ g H.size (mg_su σ 0 0 0) 2 y3 h9_) (cwV 1 hts gX8_carp_X8_no rfl rfl rfl (by decide +kernel) ⟨Nat.le_of_ble_eq_true rfl, Nat.le_of_ble_eq_true rfl⟩) (mg_preV hK hO hA hw (q0 := 0) rfl rfl) rfl rfl hl.1 rfl (lv_room (Nat.le_of_ble_eq_true rfl)) dX8_carp_56 ⟨Nat.zero_le _, Nat.zero_le _⟩) hw hA (fun H locs hw => ?_)
      clear h9_
      cases h
      exact mg_eI hx hb hr hlocks hw (Nat.zero_le _) (Nat.zero_le _) dX8_carp_59
    · refine lv_aload_n hx hb dX8_carp_34 rfl (lv_at hl 0 rfl) ?_
      refine va_get (D := D) (ci := 8) (v := .ref (g 1)) (C := RX8) (T := TX8) (N := 15) hx hb hts iX8_ hown hK hw.1 0 rfl rfl 13 (by decide) w3_ (fun _ h9 => h9) rfl dX8_carp_35 ?_
      refine va_getN (D := D) (ci := 7) (v := .int ((mg_su σ 0 0 0) 1 1)) (C := RX7) (T := TX7) (N := 4) hx hb hts iX7_ hown hK hw.1 1 rfl rfl 1 (by decide) (va_Nw.use rfl (hO.2.2.2.2.2.2.2.2.2.2.2.2.2.2.2.1)) (fun _ h9 => h9) rfl dX8_carp_38 ?_
      refine lv_iconst (v := 4) hx hb dX8_carp_41 (by decide) ?_
      refine mg_icmp_lt (tgt := 54) hx hb h dX8_carp_42 (by decide) (fun h => ?_) (fun h => ?_)
      · refine lv_aload_n hx hb dX8_carp_54 rfl (lv_at hl 0 rfl) ?_
        refine lv_iconst (v := 2) hx hb dX8_carp_55 (by decide) ?_
        obtain ⟨y4, h9_, h⟩ := mg_bind h
        refine mg_k (rv := (some (.int y4.1))) (va_runV (As := [.int 2]) (rest := []) G9 (k_X8_no l D o cI cZ g H.size (mg_su σ 0 0 0) 2 y4 h9_) (cwV 1 hts gX8_carp_X8_no rfl rfl rfl (by decide +kernel) ⟨Nat.le_of_ble_eq_true rfl, Nat.le_of_ble_eq_true rfl⟩) (mg_preV hK hO hA hw (q0 := 0) rfl rfl) rfl rfl hl.1 rfl (lv_room (Nat.le_of_ble_eq_true rfl)) dX8_carp_56 ⟨Nat.zero_le _, Nat.zero_le _⟩) hw hA (fun H locs hw => ?_)
        clear h9_
        cases h
        exact mg_eI hx hb hr hlocks hw (Nat.zero_le _) (Nat.zero_le _) dX8_carp_59
      · refine lv_aload_n hx hb dX8_carp_45 rfl (lv_at hl 0 rfl) ?_
        refine va_get (D := D) (ci := 8) (v := .int ((mg_su σ 0 0 0) 0 5)) (C := RX8) (T := TX8) (N := 15) hx hb hts iX8_ hown hK hw.1 0 rfl rfl 5 (by decide) w5_ (fun _ h9 => h9) rfl dX8_carp_46 ?_
        refine lv_bipush (v := 30) hx hb dX8_carp_49 (by decide) ?_
        refine mg_icmp_ne (tgt := 60) hx hb h dX8_carp_51 (by decide) (fun h => ?_) (fun h => ?_)
        · refine lv_aload_n hx hb dX8_carp_60 rfl (lv_at hl 0 rfl) ?_
          refine va_get (D := D) (ci := 8) (v := .ref (g 1)) (C := RX8) (T := TX8) (N := 15) hx hb hts iX8_ hown hK hw.1 0 rfl rfl 13 (by decide) w3_ (fun _ h9 => h9) rfl dX8_carp_61 ?_
          refine lv_dup hx hb dX8_carp_64 rfl ?_
          refine va_getN (D := D) (ci := 7) (v := .int ((mg_su σ 0 0 0) 1 1)) (C := RX7) (T := TX7) (N := 4) hx hb hts iX7_ hown hK hw.1 1 rfl rfl 1 (by decide) (va_Nw.use rfl (hO.2.2.2.2.2.2.2.2.2.2.2.2.2.2.2.1)) (fun _ h9 => h9) rfl dX8_carp_65 ?_
          refine lv_iconst (v := 4) hx hb dX8_carp_68 (by decide) ?_
          refine lv_isub hx hb dX8_carp_69 ?_
          refine mg_putN (wd := mg_mW g cI cZ) (σ := (mg_su σ 0 0 0)) (v := (((mg_su σ 0 0 0) 1 1) - 4)) (ci := 7) (C := RX7) (T := TX7) (N := 4) hx hb hts iX7_ tyX7 tyX7_ok nmX7 hown hK hw 1 1 rfl rfl 1 (by decide) (va_Nw.use rfl (hO.2.2.2.2.2.2.2.2.2.2.2.2.2.2.2.1)) (fun _ h9 => h9) rfl (by decide +kernel) (Nat.le_of_ble_eq_true rfl) rfl dX8_carp_70 (fun H locs hw => ?_)
          refine lv_aload_n hx hb dX8_carp_73 rfl (lv_at hl 0 rfl) ?_
          refine va_get (D := D) (ci := 8) (v := .ref (g 7)) (C := RX8) (T := TX8) (N := 15) hx hb hts iX8_ hown hK hw.1 0 rfl rfl 6 (by decide) w6_ (fun _ h9 => h9) rfl dX8_carp_74 ?_
          refine lv_aload_n hx hb dX8_carp_77 rfl (lv_at hl 0 rfl) ?_
          refine va_get (D := D) (ci := 8) (v := .int ((mg_su (mg_su σ 0 0 0) 1 1 (((mg_su σ 0 0 0) 1 1) - 4)) 0 5)) (C := RX8) (T := TX8) (N := 15) hx hb hts iX8_ hown hK hw.1 0 rfl rfl 5 (by decide) w5_ (fun _ h9 => h9) rfl dX8_carp_78 ?_
          refine lv_bipush (v := 10) hx hb dX8_carp_81 (by decide) ?_
          refine lv_iload_n hx hb dX8_carp_83 rfl (lv_at hl 2 rfl) ?_
          refine lv_imul hx hb dX8_carp_84 ?_
          refine lv_iload_n hx hb dX8_carp_85 rfl (lv_at hl 1 rfl) ?_
          refine lv_iadd hx hb dX8_carp_86 ?_
          refine mg_ast (wd := mg_mW g cI cZ) (σ := (mg_su (mg_su σ 0 0 0) 1 1 (((mg_su σ 0 0 0) 1 1) - 4))) (k := 7) (n := 30) hx hb hK hw 7 0 rfl (mg_mS_7 g cI cZ (mg_su (mg_su σ 0 0 0) 1 1 (((mg_su σ 0 0 0) 1 1) - 4))) rfl h dX8_carp_87 (fun s5 h H locs hw => ?_)
          refine lv_aload_n hx hb dX8_carp_88 rfl (lv_at hl 0 rfl) ?_
          refine va_get (D := D) (ci := 8) (v := .ref (g 1)) (C := RX8) (T := TX8) (N := 15) hx hb hts iX8_ hown hK hw.1 0 rfl rfl 13 (by decide) w3_ (fun _ h9 => h9) rfl dX8_carp_89 ?_
          refine va_getN (D := D) (ci := 7) (v := .ref (g 12)) (C := RX7) (T := TX7) (N := 4) hx hb hts iX7_ hown hK hw.1 1 rfl rfl 2 (by decide) (va_Nw.use rfl (hO.2.2.2.2.2.2.2.2.2.2.2.2.2.1)) (fun _ h9 => h9) rfl dX8_carp_92 ?_
          refine lv_aload_n hx hb dX8_carp_95 rfl (lv_at hl 0 rfl) ?_
          refine va_get (D := D) (ci := 8) (v := .int (s5 0 5)) (C := RX8) (T := TX8) (N := 15) hx hb hts iX8_ hown hK hw.1 0 rfl rfl 5 (by decide) w5_ (fun _ h9 => h9) rfl dX8_carp_96 ?_
          refine lv_iconst (v := 1) hx hb dX8_carp_99 (by decide) ?_
          refine mg_ast (wd := mg_mW g cI cZ) (σ := s5) (k := 12) (n := 30) hx hb hK hw 12 0 rfl (mg_mS_12 g cI cZ s5) rfl h dX8_carp_100 (fun s6 h H locs hw => ?_)
          refine lv_aload_n hx hb dX8_carp_101 rfl (lv_at hl 0 rfl) ?_
          refine lv_dup hx hb dX8_carp_102 rfl ?_
          refine va_get (D := D) (ci := 8) (v := .int (s6 0 5)) (C := RX8) (T := TX8) (N := 15) hx hb hts iX8_ hown hK hw.1 0 rfl rfl 5 (by decide) w5_ (fun _ h9 => h9) rfl dX8_carp_103 ?_
          refine lv_iconst (v := 1) hx hb dX8_carp_106 (by decide) ?_
          refine lv_iadd hx hb dX8_carp_107 ?_
          refine mg_put (wd := mg_mW g cI cZ) (σ := s6) (v := ((s6 0 5) + 1)) (ci := 8) (C := RX8) (T := TX8) (N := 15) hx hb hts iX8_ tyX8 tyX8_ok nmX8 hown hK hw 0 0 rfl rfl 5 (by decide) w5_ (fun _ h9 => h9) rfl (by decide +kernel) (Nat.le_of_ble_eq_true rfl) rfl dX8_carp_108 (fun H locs hw => ?_)
          refine lv_aload_n hx hb dX8_carp_111 rfl (lv_at hl 0 rfl) ?_
          refine va_get (D := D) (ci := 8) (v := .int ((mg_su s6 0 5 ((s6 0 5) + 1)) 0 5)) (C := RX8) (T := TX8) (N := 15) hx hb hts iX8_ hown hK hw.1 0 rfl rfl 5 (by decide) w5_ (fun _ h9 => h9) rfl dX8_carp_112 ?_
          refine lv_iconst (v := 1) hx hb dX8_carp_115 (by decide) ?_
          refine lv_isub hx hb dX8_carp_116 ?_
          cases h
          exact mg_eI hx hb hr hlocks hw (Nat.zero_le _) (Nat.zero_le _) dX8_carp_117
        · refine lv_aload_n hx hb dX8_carp_54 rfl (lv_at hl 0 rfl) ?_
          refine lv_iconst (v := 2) hx hb dX8_carp_55 (by decide) ?_
          obtain ⟨y7, h9_, h⟩ := mg_bind h
          refine mg_k (rv := (some (.int y7.1))) (va_runV (As := [.int 2]) (rest := []) G9 (k_X8_no l D o cI cZ g H.size (mg_su σ 0 0 0) 2 y7 h9_) (cwV 1 hts gX8_carp_X8_no rfl rfl rfl (by decide +kernel) ⟨Nat.le_of_ble_eq_true rfl, Nat.le_of_ble_eq_true rfl⟩) (mg_preV hK hO hA hw (q0 := 0) rfl rfl) rfl rfl hl.1 rfl (lv_room (Nat.le_of_ble_eq_true rfl)) dX8_carp_56 ⟨Nat.zero_le _, Nat.zero_le _⟩) hw hA (fun H locs hw => ?_)
          clear h9_
          cases h
          exact mg_eI hx hb hr hlocks hw (Nat.zero_le _) (Nat.zero_le _) dX8_carp_59
  · refine lv_aload_n hx hb dX8_carp_13 rfl (lv_at hl 0 rfl) ?_
    refine lv_iconst (v := 1) hx hb dX8_carp_14 (by decide) ?_
    obtain ⟨y8, h9_, h⟩ := mg_bind h
    refine mg_k (rv := (some (.int y8.1))) (va_runV (As := [.int 1]) (rest := []) G9 (k_X8_no l D o cI cZ g H.size (mg_su σ 0 0 0) 1 y8 h9_) (cwV 1 hts gX8_carp_X8_no rfl rfl rfl (by decide +kernel) ⟨Nat.le_of_ble_eq_true rfl, Nat.le_of_ble_eq_true rfl⟩) (mg_preV hK hO hA hw (q0 := 0) rfl rfl) rfl rfl hl.1 rfl (lv_room (Nat.le_of_ble_eq_true rfl)) dX8_carp_15 ⟨Nat.zero_le _, Nat.zero_le _⟩) hw hA (fun H locs hw => ?_)
    clear h9_
    cases h
    exact mg_eI hx hb hr hlocks hw (Nat.zero_le _) (Nat.zero_le _) dX8_carp_18
set_option maxHeartbeats 4000000 in
set_option maxRecDepth 100000 in
theorem k_X8_sell (l : Launch) (D : va_G) (o : Nat → Nat) (cI cZ : ClassId) (g : Nat → Nat) (sz : Nat) (σ : mg_St) (x1 : Int32) (y : (Int32 × mg_St)) (h : f_X8_sell σ x1 = some y) : mg_CT l yX8_sell wsX8_sell ({ frames := 1, cells := 0, slots := 0, locals := 22 } : Room) D [(cI, .int), (cZ, .boolean)] o (mg_mW g cI cZ σ) sz [.ref (g 0), .int x1] (some (.int y.1)) (mg_mW g cI cZ y.2) 0 0 := by
  unfold mg_CT
  refine Met.ofW (cc := cX8_sell) (maxL := 2) (ret := (some .int)) (by decide) rfl ?_
  intro p e s m args below meth c s₁ B hml hv
  obtain ⟨rfl, hsz, hP, hK, hD0, hO⟩ := hv
  have hx := B.exec
  have hb := B.bytes
  have hr := B.returns
  have hts := atoms_spec (ws := wsX8_sell) B.pre
  have hown : s.vm.findClass RX8 = some m.cls := findClass_of_methodNamed B.named
  have hlocks := B.notSynchronized
  subst hsz
  have hD := hD0.self (sz := s.heap.size)
  generalize hAe : va_A (mg_mW g cI cZ σ) s.heap.size = A at hD hO ⊢
  have hA : ∀ q : Nat, s.heap.size ≤ q → A q := fun q h => by rw [← hAe]; exact Or.inr h
  have hw : mg_Wo D A s.heap s.heap [] (mg_mW g cI cZ σ) := ⟨hP, hD, va_S.rf⟩
  have G9 : CallFix p m c cX8_sell 2 s ([.ref (g 0), .int x1] : List Value).toArray wsX8_sell RX8 := ⟨hx, hb, hml, hown, hts⟩
  clear hP hD hD0 hAe
  obtain ⟨H, hHe⟩ : ∃ H : Heap, H = s.heap := ⟨_, rfl⟩
  have w0_ := hts (.fieldLink RX8 47 "MoonGateModel" "thrown" "I") (by decide +kernel)
  have iX8_ : ∀ w ∈ wsX80, w ∈ wsX8_sell := (fun _ h => List.mem_cons_of_mem _ (List.mem_append_left _ (List.mem_append_right _ h)))
  have w2_ := hts (.fieldLink RX8 71 "MoonGateModel" "carps" "I") (by decide +kernel)
  have w3_ := hts (.fieldLink RX8 25 "MoonGateModel" "sold" "[I") (by decide +kernel)
  have w4_ := hts (.fieldLink RX8 40 "MoonGateModel" "s" "LMoonGateModel$Days;") (by decide +kernel)
  have iX7_ : ∀ w ∈ wsX70, w ∈ wsX8_sell := (fun _ h => List.mem_cons_of_mem _ (List.mem_append_right _ h))
  have hl := lv_entry ([.ref (g 0), .int x1]) (n := 2) (Nat.le_of_ble_eq_true rfl)
  rw [lg_entry_eq]
  generalize (lg_sl ([.ref (g 0), .int x1]) ++ List.replicate (2 - (lg_sl ([.ref (g 0), .int x1])).length) Slot.unset).toArray = ls at hl ⊢
  have hl : lv_has ls 2 [(0, .ref (g 0)), (1, .int x1)] := hl
  unfold f_X8_sell at h
  revert hw
  intro hw
  suffices K_ : ∀ (H : Heap) (locs : List Loc), mg_Wo D A s.heap H locs (mg_mW g cI cZ σ) → W p l e (headSpec wsX8_sell ({ frames := 1, cells := 0, slots := 0, locals := 22 } : Room)).room s m ([.ref (g 0), .int x1] : List Value).toArray below meth c H locs 0 0 (MQ below (mg_Q D (mg_mW g cI cZ y.2) A (some (.int y.1))) ([.ref (g 0), .int x1] : List Value).toArray s 0 0 A) (F0 m 0 ls []) from K_ _ _ hw
  clear hw hHe H
  intro H locs hw
  refine lv_aload_n hx hb dX8_sell_0 rfl (lv_at hl 0 rfl) ?_
  refine lv_iconst (v := 0) hx hb dX8_sell_1 (by decide) ?_
  refine mg_put (wd := mg_mW g cI cZ) (σ := σ) (v := 0) (ci := 8) (C := RX8) (T := TX8) (N := 15) hx hb hts iX8_ tyX8 tyX8_ok nmX8 hown hK hw 0 0 rfl rfl 0 (by decide) w0_ (fun _ h9 => h9) rfl (by decide +kernel) (Nat.le_of_ble_eq_true rfl) rfl dX8_sell_2 (fun H locs hw => ?_)
  refine lv_iload_n hx hb dX8_sell_5 rfl (lv_at hl 1 rfl) ?_
  refine lv_iconst (v := 0) hx hb dX8_sell_6 (by decide) ?_
  refine lv_aload_n hx hb dX8_sell_7 rfl (lv_at hl 0 rfl) ?_
  refine va_get (D := D) (ci := 8) (v := .int ((mg_su σ 0 0 0) 0 5)) (C := RX8) (T := TX8) (N := 15) hx hb hts iX8_ hown hK hw.1 0 rfl rfl 5 (by decide) w2_ (fun _ h9 => h9) rfl dX8_sell_8 ?_
  refine lv_iconst (v := 1) hx hb dX8_sell_11 (by decide) ?_
  refine lv_isub hx hb dX8_sell_12 ?_
  obtain ⟨y1, h9_, h⟩ := mg_bind h
  refine mg_k (rv := (some (.int y1))) (va_runS (As := [.int x1, .int 0, .int (((mg_su σ 0 0 0) 0 5) - 1)]) (rest := []) G9 (k_X8_isIn l D o cI cZ g H.size (mg_su σ 0 0 0) x1 0 (((mg_su σ 0 0 0) 0 5) - 1) y1 h9_) (va_cwS 3 hts gX8_sell_X8_isIn rfl rfl rfl (by decide +kernel) ⟨Nat.le_of_ble_eq_true rfl, Nat.le_of_ble_eq_true rfl⟩) (mg_pre hK hO hA hw) rfl rfl hl.1 rfl (lv_room (Nat.le_of_ble_eq_true rfl)) dX8_sell_13 ⟨Nat.zero_le _, Nat.zero_le _⟩) hw hA (fun H locs hw => ?_)
  clear h9_
  refine mg_if_ne (tgt := 25) hx hb h dX8_sell_16 (by decide) (fun h => ?_) (fun h => ?_)
  · refine lv_aload_n hx hb dX8_sell_25 rfl (lv_at hl 0 rfl) ?_
    refine va_get (D := D) (ci := 8) (v := .ref (g 8)) (C := RX8) (T := TX8) (N := 15) hx hb hts iX8_ hown hK hw.1 0 rfl rfl 7 (by decide) w3_ (fun _ h9 => h9) rfl dX8_sell_26 ?_
    refine lv_iload_n hx hb dX8_sell_29 rfl (lv_at hl 1 rfl) ?_
    refine mg_ald (σ := (mg_su σ 0 0 0)) (k := 8) (n := 30) hx hb hK hw 8 0 rfl rfl h dX8_sell_30 (fun v2 h => ?_)
    refine lv_iconst (v := 1) hx hb dX8_sell_31 (by decide) ?_
    refine mg_icmp_ne (tgt := 41) hx hb h dX8_sell_32 (by decide) (fun h => ?_) (fun h => ?_)
    · refine lv_aload_n hx hb dX8_sell_41 rfl (lv_at hl 0 rfl) ?_
      refine va_get (D := D) (ci := 8) (v := .ref (g 8)) (C := RX8) (T := TX8) (N := 15) hx hb hts iX8_ hown hK hw.1 0 rfl rfl 7 (by decide) w3_ (fun _ h9 => h9) rfl dX8_sell_42 ?_
      refine lv_iload_n hx hb dX8_sell_45 rfl (lv_at hl 1 rfl) ?_
      refine lv_iconst (v := 1) hx hb dX8_sell_46 (by decide) ?_
      refine mg_ast (wd := mg_mW g cI cZ) (σ := (mg_su σ 0 0 0)) (k := 8) (n := 30) hx hb hK hw 8 0 rfl (mg_mS_8 g cI cZ (mg_su σ 0 0 0)) rfl h dX8_sell_47 (fun s3 h H locs hw => ?_)
      refine lv_aload_n hx hb dX8_sell_48 rfl (lv_at hl 0 rfl) ?_
      refine va_get (D := D) (ci := 8) (v := .ref (g 1)) (C := RX8) (T := TX8) (N := 15) hx hb hts iX8_ hown hK hw.1 0 rfl rfl 13 (by decide) w4_ (fun _ h9 => h9) rfl dX8_sell_49 ?_
      refine lv_dup hx hb dX8_sell_52 rfl ?_
      refine va_getN (D := D) (ci := 7) (v := .int (s3 1 1)) (C := RX7) (T := TX7) (N := 4) hx hb hts iX7_ hown hK hw.1 1 rfl rfl 1 (by decide) (va_Nw.use rfl (hO.2.2.2.2.2.2.2.2.2.2.2.2.2.2.2.1)) (fun _ h9 => h9) rfl dX8_sell_53 ?_
      refine lv_aload_n hx hb dX8_sell_56 rfl (lv_at hl 0 rfl) ?_
      refine va_get (D := D) (ci := 8) (v := .ref (g 1)) (C := RX8) (T := TX8) (N := 15) hx hb hts iX8_ hown hK hw.1 0 rfl rfl 13 (by decide) w4_ (fun _ h9 => h9) rfl dX8_sell_57 ?_
      refine va_getN (D := D) (ci := 7) (v := .ref (g 12)) (C := RX7) (T := TX7) (N := 4) hx hb hts iX7_ hown hK hw.1 1 rfl rfl 2 (by decide) (va_Nw.use rfl (hO.2.2.2.2.2.2.2.2.2.2.2.2.2.1)) (fun _ h9 => h9) rfl dX8_sell_60 ?_
      refine lv_iload_n hx hb dX8_sell_63 rfl (lv_at hl 1 rfl) ?_
      refine mg_ald (σ := s3) (k := 12) (n := 30) hx hb hK hw 12 0 rfl rfl h dX8_sell_64 (fun v4 h => ?_)
      refine lv_iconst (v := 2) hx hb dX8_sell_65 (by decide) ?_
      refine lv_idiv hx hb dX8_sell_66 (by decide) ?_
      refine lv_iconst (v := 1) hx hb dX8_sell_67 (by decide) ?_
      refine lv_iadd hx hb dX8_sell_68 ?_
      refine lv_iadd hx hb dX8_sell_69 ?_
      refine mg_putN (wd := mg_mW g cI cZ) (σ := s3) (v := ((s3 1 1) + ((v4 / 2) + 1))) (ci := 7) (C := RX7) (T := TX7) (N := 4) hx hb hts iX7_ tyX7 tyX7_ok nmX7 hown hK hw 1 1 rfl rfl 1 (by decide) (va_Nw.use rfl (hO.2.2.2.2.2.2.2.2.2.2.2.2.2.2.2.1)) (fun _ h9 => h9) rfl (by decide +kernel) (Nat.le_of_ble_eq_true rfl) rfl dX8_sell_70 (fun H locs hw => ?_)
      refine lv_aload_n hx hb dX8_sell_73 rfl (lv_at hl 0 rfl) ?_
      refine va_get (D := D) (ci := 8) (v := .ref (g 1)) (C := RX8) (T := TX8) (N := 15) hx hb hts iX8_ hown hK hw.1 0 rfl rfl 13 (by decide) w4_ (fun _ h9 => h9) rfl dX8_sell_74 ?_
      refine va_getN (D := D) (ci := 7) (v := .int ((mg_su s3 1 1 ((s3 1 1) + ((v4 / 2) + 1))) 1 1)) (C := RX7) (T := TX7) (N := 4) hx hb hts iX7_ hown hK hw.1 1 rfl rfl 1 (by decide) (va_Nw.use rfl (hO.2.2.2.2.2.2.2.2.2.2.2.2.2.2.2.1)) (fun _ h9 => h9) rfl dX8_sell_77 ?_
      cases h
      exact mg_eI hx hb hr hlocks hw (Nat.zero_le _) (Nat.zero_le _) dX8_sell_80
    · refine lv_aload_n hx hb dX8_sell_35 rfl (lv_at hl 0 rfl) ?_
      refine lv_iconst (v := 2) hx hb dX8_sell_36 (by decide) ?_
      obtain ⟨y5, h9_, h⟩ := mg_bind h
      refine mg_k (rv := (some (.int y5.1))) (va_runV (As := [.int 2]) (rest := []) G9 (k_X8_no l D o cI cZ g H.size (mg_su σ 0 0 0) 2 y5 h9_) (cwV 1 hts gX8_sell_X8_no rfl rfl rfl (by decide +kernel) ⟨Nat.le_of_ble_eq_true rfl, Nat.le_of_ble_eq_true rfl⟩) (mg_preV hK hO hA hw (q0 := 0) rfl rfl) rfl rfl hl.1 rfl (lv_room (Nat.le_of_ble_eq_true rfl)) dX8_sell_37 ⟨Nat.zero_le _, Nat.zero_le _⟩) hw hA (fun H locs hw => ?_)
      clear h9_
      cases h
      exact mg_eI hx hb hr hlocks hw (Nat.zero_le _) (Nat.zero_le _) dX8_sell_40
  · refine lv_aload_n hx hb dX8_sell_19 rfl (lv_at hl 0 rfl) ?_
    refine lv_iconst (v := 1) hx hb dX8_sell_20 (by decide) ?_
    obtain ⟨y6, h9_, h⟩ := mg_bind h
    refine mg_k (rv := (some (.int y6.1))) (va_runV (As := [.int 1]) (rest := []) G9 (k_X8_no l D o cI cZ g H.size (mg_su σ 0 0 0) 1 y6 h9_) (cwV 1 hts gX8_sell_X8_no rfl rfl rfl (by decide +kernel) ⟨Nat.le_of_ble_eq_true rfl, Nat.le_of_ble_eq_true rfl⟩) (mg_preV hK hO hA hw (q0 := 0) rfl rfl) rfl rfl hl.1 rfl (lv_room (Nat.le_of_ble_eq_true rfl)) dX8_sell_21 ⟨Nat.zero_le _, Nat.zero_le _⟩) hw hA (fun H locs hw => ?_)
    clear h9_
    cases h
    exact mg_eI hx hb hr hlocks hw (Nat.zero_le _) (Nat.zero_le _) dX8_sell_24
set_option maxHeartbeats 4000000 in
set_option maxRecDepth 100000 in
theorem k_X8_carpTold (l : Launch) (D : va_G) (o : Nat → Nat) (cI cZ : ClassId) (g : Nat → Nat) (sz : Nat) (σ : mg_St) (x1 : Int32) (x2 : Int32) (y : Int32) (h : f_X8_carpTold σ x1 x2 = some y) : mg_CT l yX8_carpTold wsX8_carpTold ({ frames := 0, cells := 1, slots := 5, locals := 0 } : Room) D [(cI, .int), (cZ, .boolean)] o (mg_mW g cI cZ σ) sz [.ref (g 0), .int x1, .int x2] (some (.int y)) (mg_mW g cI cZ σ) 1 5 := by
  unfold mg_CT
  refine Met.ofW (cc := cX8_carpTold) (maxL := 5) (ret := (some .int)) (by decide) rfl ?_
  intro p e s m args below meth c s₁ B hml hv
  obtain ⟨rfl, hsz, hP, hK, hD0, hO⟩ := hv
  have hx := B.exec
  have hb := B.bytes
  have hr := B.returns
  have hts := atoms_spec (ws := wsX8_carpTold) B.pre
  have hown : s.vm.findClass RX8 = some m.cls := findClass_of_methodNamed B.named
  have hlocks := B.notSynchronized
  subst hsz
  have hD := hD0.self (sz := s.heap.size)
  generalize hAe : va_A (mg_mW g cI cZ σ) s.heap.size = A at hD hO ⊢
  have hA : ∀ q : Nat, s.heap.size ≤ q → A q := fun q h => by rw [← hAe]; exact Or.inr h
  have hw : mg_Wo D A s.heap s.heap [] (mg_mW g cI cZ σ) := ⟨hP, hD, va_S.rf⟩
  have G9 : CallFix p m c cX8_carpTold 5 s ([.ref (g 0), .int x1, .int x2] : List Value).toArray wsX8_carpTold RX8 := ⟨hx, hb, hml, hown, hts⟩
  clear hP hD hD0 hAe
  obtain ⟨H, hHe⟩ : ∃ H : Heap, H = s.heap := ⟨_, rfl⟩
  have w0_ := hts (.fieldLink RX8 25 "MoonGateModel" "sold" "[I") (by decide +kernel)
  have iX8_ : ∀ w ∈ wsX80, w ∈ wsX8_carpTold := (fun _ h => List.mem_cons_of_mem _ (List.mem_append_left _ (List.mem_append_right _ h)))
  have w2_ := hts (.fieldLink RX8 71 "MoonGateModel" "carps" "I") (by decide +kernel)
  have w3_ := hts (.fieldLink RX8 40 "MoonGateModel" "s" "LMoonGateModel$Days;") (by decide +kernel)
  have iX7_ : ∀ w ∈ wsX70, w ∈ wsX8_carpTold := (fun _ h => List.mem_cons_of_mem _ (List.mem_append_right _ h))
  have w5_ := hts (.arrayClass .int) (by decide +kernel)
  have w6_ := hts (.fieldLink RX8 22 "MoonGateModel" "swims" "[I") (by decide +kernel)
  have hl := lv_entry ([.ref (g 0), .int x1, .int x2]) (n := 5) (Nat.le_of_ble_eq_true rfl)
  rw [lg_entry_eq]
  generalize (lg_sl ([.ref (g 0), .int x1, .int x2]) ++ List.replicate (5 - (lg_sl ([.ref (g 0), .int x1, .int x2])).length) Slot.unset).toArray = ls at hl ⊢
  have hl : lv_has ls 5 [(0, .ref (g 0)), (1, .int x1), (2, .int x2)] := hl
  unfold f_X8_carpTold at h
  revert hw
  intro hw
  suffices K_ : ∀ (H : Heap) (locs : List Loc), mg_Wo D A s.heap H locs (mg_mW g cI cZ σ) → W p l e (headSpec wsX8_carpTold ({ frames := 0, cells := 1, slots := 5, locals := 0 } : Room)).room s m ([.ref (g 0), .int x1, .int x2] : List Value).toArray below meth c H locs 0 0 (MQ below (mg_Q D (mg_mW g cI cZ σ) A (some (.int y))) ([.ref (g 0), .int x1, .int x2] : List Value).toArray s 1 5 A) (F0 m 0 ls []) from K_ _ _ hw
  clear hw hHe H
  intro H locs hw
  refine lv_aload_n hx hb dX8_carpTold_0 rfl (lv_at hl 0 rfl) ?_
  refine va_get (D := D) (ci := 8) (v := .ref (g 8)) (C := RX8) (T := TX8) (N := 15) hx hb hts iX8_ hown hK hw.1 0 rfl rfl 7 (by decide) w0_ (fun _ h9 => h9) rfl dX8_carpTold_1 ?_
  refine lv_iload_n hx hb dX8_carpTold_4 rfl (lv_at hl 1 rfl) ?_
  refine mg_ald (σ := σ) (k := 8) (n := 30) hx hb hK hw 8 0 rfl rfl h dX8_carpTold_5 (fun v1 h => ?_)
  refine lv_iconst (v := 1) hx hb dX8_carpTold_6 (by decide) ?_
  obtain ⟨y2, h9_, h⟩ := mg_bind h
  have J7_ : ∀ (H : Heap) (locs : List Loc) (ls : Array Slot), mg_Wo D A s.heap H locs (mg_mW g cI cZ σ) → lv_has ls 5 [(0, .ref (g 0)), (1, .int x1), (2, .int x2)] → W p l e (headSpec wsX8_carpTold ({ frames := 0, cells := 1, slots := 5, locals := 0 } : Room)).room s m ([.ref (g 0), .int x1, .int x2] : List Value).toArray below meth c H locs 0 0 (MQ below (mg_Q D (mg_mW g cI cZ σ) A (some (.int y))) ([.ref (g 0), .int x1, .int x2] : List Value).toArray s 1 5 A) (F0 m 15 ls [.int y2]) := by
    intro H locs ls hw hl
    clear h9_
    refine lv_istore_n (lv' := [(3, .int y2), (0, .ref (g 0)), (1, .int x1), (2, .int x2)]) hx hb dX8_carpTold_15 rfl hl (by decide) rfl (fun ls hl => ?_)
    refine lv_iconst (v := 0) hx hb dX8_carpTold_16 (by decide) ?_
    refine lv_istore (lv' := [(4, .int 0), (3, .int y2), (0, .ref (g 0)), (1, .int x1), (2, .int x2)]) hx hb dX8_carpTold_17 hl (by decide) rfl (fun ls hl => ?_)
    have L19_ : ∀ (n : Nat) (x3_19 : Int32) (x4_19 : Int32) (y19_ : Int32 × Int32), f_X8_carpTold_19 σ x1 x2 n x3_19 x4_19 = some y19_ → (∀ (H : Heap) (locs : List Loc) (ls : Array Slot), mg_Wo D A s.heap H locs (mg_mW g cI cZ σ) → lv_has ls 5 [(0, .ref (g 0)), (1, .int x1), (2, .int x2), (3, .int y19_.1), (4, .int y19_.2)] → W p l e (headSpec wsX8_carpTold ({ frames := 0, cells := 1, slots := 5, locals := 0 } : Room)).room s m ([.ref (g 0), .int x1, .int x2] : List Value).toArray below meth c H locs 0 0 (MQ below (mg_Q D (mg_mW g cI cZ σ) A (some (.int y))) ([.ref (g 0), .int x1, .int x2] : List Value).toArray s 1 5 A) (F0 m 78 ls [])) → ∀ (H : Heap) (locs : List Loc) (ls : Array Slot), mg_Wo D A s.heap H locs (mg_mW g cI cZ σ) → lv_has ls 5 [(0, .ref (g 0)), (1, .int x1), (2, .int x2), (3, .int x3_19), (4, .int x4_19)] → W p l e (headSpec wsX8_carpTold ({ frames := 0, cells := 1, slots := 5, locals := 0 } : Room)).room s m ([.ref (g 0), .int x1, .int x2] : List Value).toArray below meth c H locs 0 0 (MQ below (mg_Q D (mg_mW g cI cZ σ) A (some (.int y))) ([.ref (g 0), .int x1, .int x2] : List Value).toArray s 1 5 A) (F0 m 19 ls []) := by
      intro n
      induction n with
      | zero => intro x3_19 x4_19 y19_ h; rw [f_X8_carpTold_19] at h; cases h
      | succ n ih =>
        intro x3_19 x4_19 y19_ h kc H locs ls hw hl
        rw [f_X8_carpTold_19] at h
        refine lv_iload hx hb dX8_carpTold_19 (lv_at hl 4 rfl) ?_
        refine lv_aload_n hx hb dX8_carpTold_21 rfl (lv_at hl 0 rfl) ?_
        refine va_get (D := D) (ci := 8) (v := .int (σ 0 5)) (C := RX8) (T := TX8) (N := 15) hx hb hts iX8_ hown hK hw.1 0 rfl rfl 5 (by decide) w2_ (fun _ h9 => h9) rfl dX8_carpTold_22 ?_
        refine mg_icmp_ge (tgt := 78) hx hb h dX8_carpTold_25 (by decide) (fun h => ?_) (fun h => ?_)
        · cases h
          exact kc H locs ls hw (lv_sub hl [0, 1, 2, 3, 4] rfl)
        · refine lv_iload_n hx hb dX8_carpTold_28 rfl (lv_at hl 3 rfl) ?_
          refine lv_iload_n hx hb dX8_carpTold_29 rfl (lv_at hl 3 rfl) ?_
          refine mg_if_le (tgt := 69) hx hb h dX8_carpTold_30 (by decide) (fun h => ?_) (fun h => ?_)
          · refine lv_iconst (v := 0) hx hb dX8_carpTold_69 (by decide) ?_
            refine lv_iadd hx hb dX8_carpTold_70 ?_
            refine lv_istore_n (lv' := [(3, .int (x3_19 + 0)), (0, .ref (g 0)), (1, .int x1), (2, .int x2), (4, .int x4_19)]) hx hb dX8_carpTold_71 rfl hl (by decide) rfl (fun ls hl => ?_)
            refine lv_iinc (v := (x4_19 + 1)) (lv' := [(4, .int (x4_19 + 1)), (3, .int (x3_19 + 0)), (0, .ref (g 0)), (1, .int x1), (2, .int x2)]) hx hb dX8_carpTold_72 hl (k := 4) rfl rfl (by decide) rfl (fun ls hl => ?_)
            refine lv_goto (tgt := 19) hx hb dX8_carpTold_75 (by decide) ?_
            exact ih _ _ _ h kc H locs ls hw (lv_sub hl [2, 3, 4, 1, 0] rfl)
          · refine lv_aload_n hx hb dX8_carpTold_33 rfl (lv_at hl 0 rfl) ?_
            refine va_get (D := D) (ci := 8) (v := .ref (g 8)) (C := RX8) (T := TX8) (N := 15) hx hb hts iX8_ hown hK hw.1 0 rfl rfl 7 (by decide) w0_ (fun _ h9 => h9) rfl dX8_carpTold_34 ?_
            refine lv_iload hx hb dX8_carpTold_37 (lv_at hl 4 rfl) ?_
            refine mg_ald (σ := σ) (k := 8) (n := 30) hx hb hK hw 8 0 rfl rfl h dX8_carpTold_39 (fun v4 h => ?_)
            refine mg_if_ne (tgt := 69) hx hb h dX8_carpTold_40 (by decide) (fun h => ?_) (fun h => ?_)
            · refine lv_iconst (v := 0) hx hb dX8_carpTold_69 (by decide) ?_
              refine lv_iadd hx hb dX8_carpTold_70 ?_
              refine lv_istore_n (lv' := [(3, .int (x3_19 + 0)), (0, .ref (g 0)), (1, .int x1), (2, .int x2), (4, .int x4_19)]) hx hb dX8_carpTold_71 rfl hl (by decide) rfl (fun ls hl => ?_)
              refine lv_iinc (v := (x4_19 + 1)) (lv' := [(4, .int (x4_19 + 1)), (3, .int (x3_19 + 0)), (0, .ref (g 0)), (1, .int x1), (2, .int x2)]) hx hb dX8_carpTold_72 hl (k := 4) rfl rfl (by decide) rfl (fun ls hl => ?_)
              refine lv_goto (tgt := 19) hx hb dX8_carpTold_75 (by decide) ?_
              exact ih _ _ _ h kc H locs ls hw (lv_sub hl [2, 3, 4, 1, 0] rfl)
            · refine lv_aload_n hx hb dX8_carpTold_43 rfl (lv_at hl 0 rfl) ?_
              refine va_get (D := D) (ci := 8) (v := .ref (g 1)) (C := RX8) (T := TX8) (N := 15) hx hb hts iX8_ hown hK hw.1 0 rfl rfl 13 (by decide) w3_ (fun _ h9 => h9) rfl dX8_carpTold_44 ?_
              refine va_getN (D := D) (ci := 7) (v := .ref (g 12)) (C := RX7) (T := TX7) (N := 4) hx hb hts iX7_ hown hK hw.1 1 rfl rfl 2 (by decide) (va_Nw.use rfl (hO.2.2.2.2.2.2.2.2.2.2.2.2.2.1)) (fun _ h9 => h9) rfl dX8_carpTold_47 ?_
              refine lv_iload hx hb dX8_carpTold_50 (lv_at hl 4 rfl) ?_
              refine mg_ald (σ := σ) (k := 12) (n := 30) hx hb hK hw 12 0 rfl rfl h dX8_carpTold_52 (fun v5 h => ?_)
              refine lv_aload_n hx hb dX8_carpTold_53 rfl (lv_at hl 0 rfl) ?_
              refine va_get (D := D) (ci := 8) (v := .ref (g 1)) (C := RX8) (T := TX8) (N := 15) hx hb hts iX8_ hown hK hw.1 0 rfl rfl 13 (by decide) w3_ (fun _ h9 => h9) rfl dX8_carpTold_54 ?_
              refine va_getN (D := D) (ci := 7) (v := .ref (g 12)) (C := RX7) (T := TX7) (N := 4) hx hb hts iX7_ hown hK hw.1 1 rfl rfl 2 (by decide) (va_Nw.use rfl (hO.2.2.2.2.2.2.2.2.2.2.2.2.2.1)) (fun _ h9 => h9) rfl dX8_carpTold_57 ?_
              refine lv_iload_n hx hb dX8_carpTold_60 rfl (lv_at hl 1 rfl) ?_
              refine mg_ald (σ := σ) (k := 12) (n := 30) hx hb hK hw 12 0 rfl rfl h dX8_carpTold_61 (fun v6 h => ?_)
              refine mg_icmp_le (tgt := 69) hx hb h dX8_carpTold_62 (by decide) (fun h => ?_) (fun h => ?_)
              · refine lv_iconst (v := 0) hx hb dX8_carpTold_69 (by decide) ?_
                refine lv_iadd hx hb dX8_carpTold_70 ?_
                refine lv_istore_n (lv' := [(3, .int (x3_19 + 0)), (0, .ref (g 0)), (1, .int x1), (2, .int x2), (4, .int x4_19)]) hx hb dX8_carpTold_71 rfl hl (by decide) rfl (fun ls hl => ?_)
                refine lv_iinc (v := (x4_19 + 1)) (lv' := [(4, .int (x4_19 + 1)), (3, .int (x3_19 + 0)), (0, .ref (g 0)), (1, .int x1), (2, .int x2)]) hx hb dX8_carpTold_72 hl (k := 4) rfl rfl (by decide) rfl (fun ls hl => ?_)
                refine lv_goto (tgt := 19) hx hb dX8_carpTold_75 (by decide) ?_
                exact ih _ _ _ h kc H locs ls hw (lv_sub hl [2, 3, 4, 1, 0] rfl)
              · refine lv_iconst (v := 1) hx hb dX8_carpTold_65 (by decide) ?_
                refine lv_goto (tgt := 70) hx hb dX8_carpTold_66 (by decide) ?_
                refine lv_iadd hx hb dX8_carpTold_70 ?_
                refine lv_istore_n (lv' := [(3, .int (x3_19 + 1)), (0, .ref (g 0)), (1, .int x1), (2, .int x2), (4, .int x4_19)]) hx hb dX8_carpTold_71 rfl hl (by decide) rfl (fun ls hl => ?_)
                refine lv_iinc (v := (x4_19 + 1)) (lv' := [(4, .int (x4_19 + 1)), (3, .int (x3_19 + 1)), (0, .ref (g 0)), (1, .int x1), (2, .int x2)]) hx hb dX8_carpTold_72 hl (k := 4) rfl rfl (by decide) rfl (fun ls hl => ?_)
                refine lv_goto (tgt := 19) hx hb dX8_carpTold_75 (by decide) ?_
                exact ih _ _ _ h kc H locs ls hw (lv_sub hl [2, 3, 4, 1, 0] rfl)
    obtain ⟨y3, h9_, h⟩ := mg_bind h
    refine L19_ _ _ _ _ h9_ (fun H locs ls hw hl => ?_) H locs ls hw (lv_sub hl [2, 3, 4, 1, 0] rfl)
    clear L19_ h9_
    refine lv_iconst (v := 5) hx hb dX8_carpTold_78 (by decide) ?_
    refine mg_newa (n := 5) (N := 5) hx hb w5_ hK hw hA 0 rfl (by decide) rfl (by decide) (Nat.le_of_ble_eq_true rfl) (Nat.le_of_ble_eq_true rfl) dX8_carpTold_79 (fun q7 H hw => ?_)
    refine lv_dup hx hb dX8_carpTold_81 rfl ?_
    refine lv_iconst (v := 0) hx hb dX8_carpTold_82 (by decide) ?_
    refine lv_aload_n hx hb dX8_carpTold_83 rfl (lv_at hl 0 rfl) ?_
    refine va_get (D := D) (ci := 8) (v := .ref (g 7)) (C := RX8) (T := TX8) (N := 15) hx hb hts iX8_ hown hK hw.1 0 rfl rfl 6 (by decide) w6_ (fun _ h9 => h9) rfl dX8_carpTold_84 ?_
    refine lv_iload_n hx hb dX8_carpTold_87 rfl (lv_at hl 1 rfl) ?_
    refine mg_ald (σ := σ) (k := 7) (n := 30) hx hb hK hw 7 0 rfl rfl h dX8_carpTold_88 (fun v8 h => ?_)
    refine lv_bipush (v := 10) hx hb dX8_carpTold_89 (by decide) ?_
    refine lv_irem hx hb dX8_carpTold_91 (by decide) ?_
    refine mg_nst (f := (fun _ => 0)) (n := 5) (x := (v8 - v8 / 10 * 10)) (j := 0) hx hb hK hw 16 0 rfl (fun _ => rfl) rfl (by unfold vp_in; decide) rfl dX8_carpTold_92 (fun H locs hw => ?_)
    refine lv_dup hx hb dX8_carpTold_93 rfl ?_
    refine lv_iconst (v := 1) hx hb dX8_carpTold_94 (by decide) ?_
    refine lv_aload_n hx hb dX8_carpTold_95 rfl (lv_at hl 0 rfl) ?_
    refine va_get (D := D) (ci := 8) (v := .ref (g 7)) (C := RX8) (T := TX8) (N := 15) hx hb hts iX8_ hown hK hw.1 0 rfl rfl 6 (by decide) w6_ (fun _ h9 => h9) rfl dX8_carpTold_96 ?_
    refine lv_iload_n hx hb dX8_carpTold_99 rfl (lv_at hl 1 rfl) ?_
    refine mg_ald (σ := σ) (k := 7) (n := 30) hx hb hK hw 7 0 rfl rfl h dX8_carpTold_100 (fun v9 h => ?_)
    refine lv_bipush (v := 10) hx hb dX8_carpTold_101 (by decide) ?_
    refine lv_idiv hx hb dX8_carpTold_103 (by decide) ?_
    refine mg_nst (f := (upd (fun _ => 0) 0 (v8 - v8 / 10 * 10))) (n := 5) (x := (v9 / 10)) (j := 1) hx hb hK hw 16 0 rfl (fun _ => rfl) rfl (by unfold vp_in; decide) rfl dX8_carpTold_104 (fun H locs hw => ?_)
    refine lv_dup hx hb dX8_carpTold_105 rfl ?_
    refine lv_iconst (v := 2) hx hb dX8_carpTold_106 (by decide) ?_
    refine lv_aload_n hx hb dX8_carpTold_107 rfl (lv_at hl 0 rfl) ?_
    refine va_get (D := D) (ci := 8) (v := .ref (g 1)) (C := RX8) (T := TX8) (N := 15) hx hb hts iX8_ hown hK hw.1 0 rfl rfl 13 (by decide) w3_ (fun _ h9 => h9) rfl dX8_carpTold_108 ?_
    refine va_getN (D := D) (ci := 7) (v := .ref (g 12)) (C := RX7) (T := TX7) (N := 4) hx hb hts iX7_ hown hK hw.1 1 rfl rfl 2 (by decide) (va_Nw.use rfl (hO.2.2.2.2.2.2.2.2.2.2.2.2.2.1)) (fun _ h9 => h9) rfl dX8_carpTold_111 ?_
    refine lv_iload_n hx hb dX8_carpTold_114 rfl (lv_at hl 1 rfl) ?_
    refine mg_ald (σ := σ) (k := 12) (n := 30) hx hb hK hw 12 0 rfl rfl h dX8_carpTold_115 (fun v10 h => ?_)
    refine mg_nst (f := (upd (upd (fun _ => 0) 0 (v8 - v8 / 10 * 10)) 1 (v9 / 10))) (n := 5) (x := v10) (j := 2) hx hb hK hw 16 0 rfl (fun _ => rfl) rfl (by unfold vp_in; decide) rfl dX8_carpTold_116 (fun H locs hw => ?_)
    refine lv_dup hx hb dX8_carpTold_117 rfl ?_
    refine lv_iconst (v := 3) hx hb dX8_carpTold_118 (by decide) ?_
    refine lv_aload_n hx hb dX8_carpTold_119 rfl (lv_at hl 0 rfl) ?_
    refine va_get (D := D) (ci := 8) (v := .ref (g 8)) (C := RX8) (T := TX8) (N := 15) hx hb hts iX8_ hown hK hw.1 0 rfl rfl 7 (by decide) w0_ (fun _ h9 => h9) rfl dX8_carpTold_120 ?_
    refine lv_iload_n hx hb dX8_carpTold_123 rfl (lv_at hl 1 rfl) ?_
    refine mg_ald (σ := σ) (k := 8) (n := 30) hx hb hK hw 8 0 rfl rfl h dX8_carpTold_124 (fun v11 h => ?_)
    refine mg_nst (f := (upd (upd (upd (fun _ => 0) 0 (v8 - v8 / 10 * 10)) 1 (v9 / 10)) 2 v10)) (n := 5) (x := v11) (j := 3) hx hb hK hw 16 0 rfl (fun _ => rfl) rfl (by unfold vp_in; decide) rfl dX8_carpTold_125 (fun H locs hw => ?_)
    refine lv_dup hx hb dX8_carpTold_126 rfl ?_
    refine lv_iconst (v := 4) hx hb dX8_carpTold_127 (by decide) ?_
    refine lv_iload_n hx hb dX8_carpTold_128 rfl (lv_at hl 3 rfl) ?_
    refine mg_nst (f := (upd (upd (upd (upd (fun _ => 0) 0 (v8 - v8 / 10 * 10)) 1 (v9 / 10)) 2 v10) 3 v11)) (n := 5) (x := y3.1) (j := 4) hx hb hK hw 16 0 rfl (fun _ => rfl) rfl (by unfold vp_in; decide) rfl dX8_carpTold_129 (fun H locs hw => ?_)
    refine lv_astore (lv' := [(4, .ref q7), (0, .ref (g 0)), (1, .int x1), (2, .int x2), (3, .int y3.1)]) hx hb dX8_carpTold_130 hl (by decide) rfl (fun ls hl => ?_)
    refine lv_aload hx hb dX8_carpTold_132 (lv_at hl 0 rfl) ?_
    refine lv_iload_n hx hb dX8_carpTold_134 rfl (lv_at hl 3 rfl) ?_
    refine mg_nld (f := (upd (upd (upd (upd (upd (fun _ => 0) 0 (v8 - v8 / 10 * 10)) 1 (v9 / 10)) 2 v10) 3 v11) 4 y3.1)) (n := 5) hx hb hK hw 16 0 rfl rfl h dX8_carpTold_135 (fun v12 h => ?_)
    cases h
    have hw := mg_drop hw
    exact mg_eI hx hb hr hlocks hw (by omega) (by omega) dX8_carpTold_136
  clear h
  have h := h9_
  clear h9_
  refine mg_icmp_ne (tgt := 14) hx hb h dX8_carpTold_7 (by decide) (fun h => ?_) (fun h => ?_)
  · refine lv_iconst (v := 1) hx hb dX8_carpTold_14 (by decide) ?_
    cases h
    exact J7_ H locs ls hw (lv_sub hl [0, 1, 2] rfl)
  · refine lv_iconst (v := 0) hx hb dX8_carpTold_10 (by decide) ?_
    refine lv_goto (tgt := 15) hx hb dX8_carpTold_11 (by decide) ?_
    cases h
    exact J7_ H locs ls hw (lv_sub hl [0, 1, 2] rfl)
set_option maxHeartbeats 4000000 in
set_option maxRecDepth 100000 in
theorem k_X8_told (l : Launch) (D : va_G) (o : Nat → Nat) (cI cZ : ClassId) (g : Nat → Nat) (sz : Nat) (σ : mg_St) (x1 : Int32) (x2 : Int32) (y : (Int32 × mg_St)) (h : f_X8_told σ x1 x2 = some y) : mg_CT l yX8_told wsX8_told ({ frames := 1, cells := 1, slots := 5, locals := 24 } : Room) D [(cI, .int), (cZ, .boolean)] o (mg_mW g cI cZ σ) sz [.ref (g 0), .int x1, .int x2] (some (.int y.1)) (mg_mW g cI cZ y.2) 1 5 := by
  unfold mg_CT
  refine Met.ofW (cc := cX8_told) (maxL := 3) (ret := (some .int)) (by decide) rfl ?_
  intro p e s m args below meth c s₁ B hml hv
  obtain ⟨rfl, hsz, hP, hK, hD0, hO⟩ := hv
  have hx := B.exec
  have hb := B.bytes
  have hr := B.returns
  have hts := atoms_spec (ws := wsX8_told) B.pre
  have hown : s.vm.findClass RX8 = some m.cls := findClass_of_methodNamed B.named
  have hlocks := B.notSynchronized
  subst hsz
  have hD := hD0.self (sz := s.heap.size)
  generalize hAe : va_A (mg_mW g cI cZ σ) s.heap.size = A at hD hO ⊢
  have hA : ∀ q : Nat, s.heap.size ≤ q → A q := fun q h => by rw [← hAe]; exact Or.inr h
  have hw : mg_Wo D A s.heap s.heap [] (mg_mW g cI cZ σ) := ⟨hP, hD, va_S.rf⟩
  have G9 : CallFix p m c cX8_told 3 s ([.ref (g 0), .int x1, .int x2] : List Value).toArray wsX8_told RX8 := ⟨hx, hb, hml, hown, hts⟩
  clear hP hD hD0 hAe
  obtain ⟨H, hHe⟩ : ∃ H : Heap, H = s.heap := ⟨_, rfl⟩
  have w0_ := hts (.fieldLink RX8 47 "MoonGateModel" "thrown" "I") (by decide +kernel)
  have iX8_ : ∀ w ∈ wsX80, w ∈ wsX8_told := (fun _ h => List.mem_cons_of_mem _ (List.mem_append_left _ (List.mem_append_right _ h)))
  have w2_ := hts (.fieldLink RX8 71 "MoonGateModel" "carps" "I") (by decide +kernel)
  have hl := lv_entry ([.ref (g 0), .int x1, .int x2]) (n := 3) (Nat.le_of_ble_eq_true rfl)
  rw [lg_entry_eq]
  generalize (lg_sl ([.ref (g 0), .int x1, .int x2]) ++ List.replicate (3 - (lg_sl ([.ref (g 0), .int x1, .int x2])).length) Slot.unset).toArray = ls at hl ⊢
  have hl : lv_has ls 3 [(0, .ref (g 0)), (1, .int x1), (2, .int x2)] := hl
  unfold f_X8_told at h
  revert hw
  intro hw
  suffices K_ : ∀ (H : Heap) (locs : List Loc), mg_Wo D A s.heap H locs (mg_mW g cI cZ σ) → W p l e (headSpec wsX8_told ({ frames := 1, cells := 1, slots := 5, locals := 24 } : Room)).room s m ([.ref (g 0), .int x1, .int x2] : List Value).toArray below meth c H locs 0 0 (MQ below (mg_Q D (mg_mW g cI cZ y.2) A (some (.int y.1))) ([.ref (g 0), .int x1, .int x2] : List Value).toArray s 1 5 A) (F0 m 0 ls []) from K_ _ _ hw
  clear hw hHe H
  intro H locs hw
  refine lv_aload_n hx hb dX8_told_0 rfl (lv_at hl 0 rfl) ?_
  refine lv_iconst (v := 0) hx hb dX8_told_1 (by decide) ?_
  refine mg_put (wd := mg_mW g cI cZ) (σ := σ) (v := 0) (ci := 8) (C := RX8) (T := TX8) (N := 15) hx hb hts iX8_ tyX8 tyX8_ok nmX8 hown hK hw 0 0 rfl rfl 0 (by decide) w0_ (fun _ h9 => h9) rfl (by decide +kernel) (Nat.le_of_ble_eq_true rfl) rfl dX8_told_2 (fun H locs hw => ?_)
  refine lv_iload_n hx hb dX8_told_5 rfl (lv_at hl 1 rfl) ?_
  refine lv_iconst (v := 0) hx hb dX8_told_6 (by decide) ?_
  refine lv_aload_n hx hb dX8_told_7 rfl (lv_at hl 0 rfl) ?_
  refine va_get (D := D) (ci := 8) (v := .int ((mg_su σ 0 0 0) 0 5)) (C := RX8) (T := TX8) (N := 15) hx hb hts iX8_ hown hK hw.1 0 rfl rfl 5 (by decide) w2_ (fun _ h9 => h9) rfl dX8_told_8 ?_
  refine lv_iconst (v := 1) hx hb dX8_told_11 (by decide) ?_
  refine lv_isub hx hb dX8_told_12 ?_
  obtain ⟨y1, h9_, h⟩ := mg_bind h
  refine mg_k (rv := (some (.int y1))) (va_runS (As := [.int x1, .int 0, .int (((mg_su σ 0 0 0) 0 5) - 1)]) (rest := []) G9 (k_X8_isIn l D o cI cZ g H.size (mg_su σ 0 0 0) x1 0 (((mg_su σ 0 0 0) 0 5) - 1) y1 h9_) (va_cwS 3 hts gX8_told_X8_isIn rfl rfl rfl (by decide +kernel) ⟨Nat.le_of_ble_eq_true rfl, Nat.le_of_ble_eq_true rfl⟩) (mg_pre hK hO hA hw) rfl rfl hl.1 rfl (lv_room (Nat.le_of_ble_eq_true rfl)) dX8_told_13 ⟨Nat.zero_le _, Nat.zero_le _⟩) hw hA (fun H locs hw => ?_)
  clear h9_
  refine mg_if_eq (tgt := 37) hx hb h dX8_told_16 (by decide) (fun h => ?_) (fun h => ?_)
  · refine lv_aload_n hx hb dX8_told_37 rfl (lv_at hl 0 rfl) ?_
    refine lv_iconst (v := 1) hx hb dX8_told_38 (by decide) ?_
    obtain ⟨y2, h9_, h⟩ := mg_bind h
    refine mg_k (rv := (some (.int y2.1))) (va_runV (As := [.int 1]) (rest := []) G9 (k_X8_no l D o cI cZ g H.size (mg_su σ 0 0 0) 1 y2 h9_) (cwV 1 hts gX8_told_X8_no rfl rfl rfl (by decide +kernel) ⟨Nat.le_of_ble_eq_true rfl, Nat.le_of_ble_eq_true rfl⟩) (mg_preV hK hO hA hw (q0 := 0) rfl rfl) rfl rfl hl.1 rfl (lv_room (Nat.le_of_ble_eq_true rfl)) dX8_told_39 ⟨Nat.zero_le _, Nat.zero_le _⟩) hw hA (fun H locs hw => ?_)
    clear h9_
    cases h
    exact mg_eI hx hb hr hlocks hw (Nat.zero_le _) (Nat.zero_le _) dX8_told_42
  · refine lv_iload_n hx hb dX8_told_19 rfl (lv_at hl 2 rfl) ?_
    refine lv_iconst (v := 0) hx hb dX8_told_20 (by decide) ?_
    refine lv_iconst (v := 4) hx hb dX8_told_21 (by decide) ?_
    obtain ⟨y3, h9_, h⟩ := mg_bind h
    refine mg_k (rv := (some (.int y3))) (va_runS (As := [.int x2, .int 0, .int 4]) (rest := []) G9 (k_X8_isIn l D o cI cZ g H.size (mg_su σ 0 0 0) x2 0 4 y3 h9_) (va_cwS 3 hts gX8_told_X8_isIn rfl rfl rfl (by decide +kernel) ⟨Nat.le_of_ble_eq_true rfl, Nat.le_of_ble_eq_true rfl⟩) (mg_pre hK hO hA hw) rfl rfl hl.1 rfl (lv_room (Nat.le_of_ble_eq_true rfl)) dX8_told_22 ⟨Nat.zero_le _, Nat.zero_le _⟩) hw hA (fun H locs hw => ?_)
    clear h9_
    refine mg_if_eq (tgt := 37) hx hb h dX8_told_25 (by decide) (fun h => ?_) (fun h => ?_)
    · refine lv_aload_n hx hb dX8_told_37 rfl (lv_at hl 0 rfl) ?_
      refine lv_iconst (v := 1) hx hb dX8_told_38 (by decide) ?_
      obtain ⟨y4, h9_, h⟩ := mg_bind h
      refine mg_k (rv := (some (.int y4.1))) (va_runV (As := [.int 1]) (rest := []) G9 (k_X8_no l D o cI cZ g H.size (mg_su σ 0 0 0) 1 y4 h9_) (cwV 1 hts gX8_told_X8_no rfl rfl rfl (by decide +kernel) ⟨Nat.le_of_ble_eq_true rfl, Nat.le_of_ble_eq_true rfl⟩) (mg_preV hK hO hA hw (q0 := 0) rfl rfl) rfl rfl hl.1 rfl (lv_room (Nat.le_of_ble_eq_true rfl)) dX8_told_39 ⟨Nat.zero_le _, Nat.zero_le _⟩) hw hA (fun H locs hw => ?_)
      clear h9_
      cases h
      exact mg_eI hx hb hr hlocks hw (Nat.zero_le _) (Nat.zero_le _) dX8_told_42
    · refine lv_aload_n hx hb dX8_told_28 rfl (lv_at hl 0 rfl) ?_
      refine lv_iload_n hx hb dX8_told_29 rfl (lv_at hl 1 rfl) ?_
      refine lv_iload_n hx hb dX8_told_30 rfl (lv_at hl 2 rfl) ?_
      obtain ⟨y5, h9_, h⟩ := mg_bind h
      refine mg_k (rv := (some (.int y5))) (va_runV (As := [.int x1, .int x2]) (rest := []) G9 (k_X8_carpTold l D o cI cZ g H.size (mg_su σ 0 0 0) x1 x2 y5 h9_) (cwV 2 hts gX8_told_X8_carpTold rfl rfl rfl (by decide +kernel) ⟨Nat.le_of_ble_eq_true rfl, Nat.le_of_ble_eq_true rfl⟩) (mg_preV hK hO hA hw (q0 := 0) rfl rfl) rfl rfl hl.1 rfl (lv_room (Nat.le_of_ble_eq_true rfl)) dX8_told_31 ⟨(show 0 + 1 ≤ 1 by omega), (show 0 + 5 ≤ 5 by omega)⟩) hw hA (fun H locs hw => ?_)
      clear h9_
      refine lv_goto (tgt := 42) hx hb dX8_told_34 (by decide) ?_
      cases h
      exact mg_eI hx hb hr hlocks hw (by omega) (by omega) dX8_told_42
set_option maxHeartbeats 4000000 in
set_option maxRecDepth 100000 in
theorem k_X8_gate (l : Launch) (D : va_G) (o : Nat → Nat) (cI cZ : ClassId) (g : Nat → Nat) (sz : Nat) (σ : mg_St) (x1 : Int32) (x2 : Int32) (x3 : Int32) (y : (Int32 × mg_St)) (h : f_X8_gate σ x1 x2 x3 = some y) : mg_CT l yX8_gate wsX8_gate ({ frames := 2, cells := 0, slots := 0, locals := 43 } : Room) D [(cI, .int), (cZ, .boolean)] o (mg_mW g cI cZ σ) sz [.ref (g 0), .int x1, .int x2, .int x3] (some (.int y.1)) (mg_mW g cI cZ y.2) 0 0 := by
  unfold mg_CT
  refine Met.ofW (cc := cX8_gate) (maxL := 4) (ret := (some .int)) (by decide) rfl ?_
  intro p e s m args below meth c s₁ B hml hv
  obtain ⟨rfl, hsz, hP, hK, hD0, hO⟩ := hv
  have hx := B.exec
  have hb := B.bytes
  have hr := B.returns
  have hts := atoms_spec (ws := wsX8_gate) B.pre
  have hown : s.vm.findClass RX8 = some m.cls := findClass_of_methodNamed B.named
  have hlocks := B.notSynchronized
  subst hsz
  have hD := hD0.self (sz := s.heap.size)
  generalize hAe : va_A (mg_mW g cI cZ σ) s.heap.size = A at hD hO ⊢
  have hA : ∀ q : Nat, s.heap.size ≤ q → A q := fun q h => by rw [← hAe]; exact Or.inr h
  have hw : mg_Wo D A s.heap s.heap [] (mg_mW g cI cZ σ) := ⟨hP, hD, va_S.rf⟩
  have G9 : CallFix p m c cX8_gate 4 s ([.ref (g 0), .int x1, .int x2, .int x3] : List Value).toArray wsX8_gate RX8 := ⟨hx, hb, hml, hown, hts⟩
  clear hP hD hD0 hAe
  obtain ⟨H, hHe⟩ : ∃ H : Heap, H = s.heap := ⟨_, rfl⟩
  have w0_ := hts (.fieldLink RX8 47 "MoonGateModel" "thrown" "I") (by decide +kernel)
  have iX8_ : ∀ w ∈ wsX80, w ∈ wsX8_gate := (fun _ h => List.mem_cons_of_mem _ (List.mem_append_right _ h))
  have w2_ := hts (.fieldLink RX8 55 "MoonGateModel" "gates" "I") (by decide +kernel)
  have w3_ := hts (.fieldLink RX8 28 "MoonGateModel" "stands" "[I") (by decide +kernel)
  have w4_ := hts (.fieldLink RX8 31 "MoonGateModel" "looks" "[I") (by decide +kernel)
  have hl := lv_entry ([.ref (g 0), .int x1, .int x2, .int x3]) (n := 4) (Nat.le_of_ble_eq_true rfl)
  rw [lg_entry_eq]
  generalize (lg_sl ([.ref (g 0), .int x1, .int x2, .int x3]) ++ List.replicate (4 - (lg_sl ([.ref (g 0), .int x1, .int x2, .int x3])).length) Slot.unset).toArray = ls at hl ⊢
  have hl : lv_has ls 4 [(0, .ref (g 0)), (1, .int x1), (2, .int x2), (3, .int x3)] := hl
  unfold f_X8_gate at h
  revert hw
  intro hw
  suffices K_ : ∀ (H : Heap) (locs : List Loc), mg_Wo D A s.heap H locs (mg_mW g cI cZ σ) → W p l e (headSpec wsX8_gate ({ frames := 2, cells := 0, slots := 0, locals := 43 } : Room)).room s m ([.ref (g 0), .int x1, .int x2, .int x3] : List Value).toArray below meth c H locs 0 0 (MQ below (mg_Q D (mg_mW g cI cZ y.2) A (some (.int y.1))) ([.ref (g 0), .int x1, .int x2, .int x3] : List Value).toArray s 0 0 A) (F0 m 0 ls []) from K_ _ _ hw
  clear hw hHe H
  intro H locs hw
  refine lv_aload_n hx hb dX8_gate_0 rfl (lv_at hl 0 rfl) ?_
  refine lv_iconst (v := 0) hx hb dX8_gate_1 (by decide) ?_
  refine mg_put (wd := mg_mW g cI cZ) (σ := σ) (v := 0) (ci := 8) (C := RX8) (T := TX8) (N := 15) hx hb hts iX8_ tyX8 tyX8_ok nmX8 hown hK hw 0 0 rfl rfl 0 (by decide) w0_ (fun _ h9 => h9) rfl (by decide +kernel) (Nat.le_of_ble_eq_true rfl) rfl dX8_gate_2 (fun H locs hw => ?_)
  refine lv_iload_n hx hb dX8_gate_5 rfl (lv_at hl 1 rfl) ?_
  refine lv_iload_n hx hb dX8_gate_6 rfl (lv_at hl 2 rfl) ?_
  obtain ⟨y1, h9_, h⟩ := mg_bind h
  refine mg_k (rv := (some (.int y1))) (va_runS (As := [.int x1, .int x2]) (rest := []) G9 (k_X8_isCell l D o cI cZ g H.size (mg_su σ 0 0 0) x1 x2 y1 h9_) (va_cwS 2 hts gX8_gate_X8_isCell rfl rfl rfl (by decide +kernel) ⟨Nat.le_of_ble_eq_true rfl, Nat.le_of_ble_eq_true rfl⟩) (mg_pre hK hO hA hw) rfl rfl hl.1 rfl (lv_room (Nat.le_of_ble_eq_true rfl)) dX8_gate_7 ⟨Nat.zero_le _, Nat.zero_le _⟩) hw hA (fun H locs hw => ?_)
  clear h9_
  refine mg_if_ne (tgt := 19) hx hb h dX8_gate_10 (by decide) (fun h => ?_) (fun h => ?_)
  · refine lv_iload_n hx hb dX8_gate_19 rfl (lv_at hl 3 rfl) ?_
    refine lv_iconst (v := 0) hx hb dX8_gate_20 (by decide) ?_
    refine lv_iconst (v := 3) hx hb dX8_gate_21 (by decide) ?_
    obtain ⟨y2, h9_, h⟩ := mg_bind h
    refine mg_k (rv := (some (.int y2))) (va_runS (As := [.int x3, .int 0, .int 3]) (rest := []) G9 (k_X8_isIn l D o cI cZ g H.size (mg_su σ 0 0 0) x3 0 3 y2 h9_) (va_cwS 3 hts gX8_gate_X8_isIn rfl rfl rfl (by decide +kernel) ⟨Nat.le_of_ble_eq_true rfl, Nat.le_of_ble_eq_true rfl⟩) (mg_pre hK hO hA hw) rfl rfl hl.1 rfl (lv_room (Nat.le_of_ble_eq_true rfl)) dX8_gate_22 ⟨Nat.zero_le _, Nat.zero_le _⟩) hw hA (fun H locs hw => ?_)
    clear h9_
    refine mg_if_ne (tgt := 34) hx hb h dX8_gate_25 (by decide) (fun h => ?_) (fun h => ?_)
    · refine lv_aload_n hx hb dX8_gate_34 rfl (lv_at hl 0 rfl) ?_
      refine va_get (D := D) (ci := 8) (v := .int ((mg_su σ 0 0 0) 0 8)) (C := RX8) (T := TX8) (N := 15) hx hb hts iX8_ hown hK hw.1 0 rfl rfl 8 (by decide) w2_ (fun _ h9 => h9) rfl dX8_gate_35 ?_
      refine lv_bipush (v := 6) hx hb dX8_gate_38 (by decide) ?_
      refine mg_icmp_ne (tgt := 49) hx hb h dX8_gate_40 (by decide) (fun h => ?_) (fun h => ?_)
      · refine lv_aload_n hx hb dX8_gate_49 rfl (lv_at hl 0 rfl) ?_
        refine va_get (D := D) (ci := 8) (v := .ref (g 9)) (C := RX8) (T := TX8) (N := 15) hx hb hts iX8_ hown hK hw.1 0 rfl rfl 9 (by decide) w3_ (fun _ h9 => h9) rfl dX8_gate_50 ?_
        refine lv_aload_n hx hb dX8_gate_53 rfl (lv_at hl 0 rfl) ?_
        refine va_get (D := D) (ci := 8) (v := .int ((mg_su σ 0 0 0) 0 8)) (C := RX8) (T := TX8) (N := 15) hx hb hts iX8_ hown hK hw.1 0 rfl rfl 8 (by decide) w2_ (fun _ h9 => h9) rfl dX8_gate_54 ?_
        refine lv_bipush (v := 10) hx hb dX8_gate_57 (by decide) ?_
        refine lv_iload_n hx hb dX8_gate_59 rfl (lv_at hl 2 rfl) ?_
        refine lv_imul hx hb dX8_gate_60 ?_
        refine lv_iload_n hx hb dX8_gate_61 rfl (lv_at hl 1 rfl) ?_
        refine lv_iadd hx hb dX8_gate_62 ?_
        refine mg_ast (wd := mg_mW g cI cZ) (σ := (mg_su σ 0 0 0)) (k := 9) (n := 6) hx hb hK hw 9 0 rfl (mg_mS_9 g cI cZ (mg_su σ 0 0 0)) rfl h dX8_gate_63 (fun s3 h H locs hw => ?_)
        refine lv_aload_n hx hb dX8_gate_64 rfl (lv_at hl 0 rfl) ?_
        refine va_get (D := D) (ci := 8) (v := .ref (g 10)) (C := RX8) (T := TX8) (N := 15) hx hb hts iX8_ hown hK hw.1 0 rfl rfl 10 (by decide) w4_ (fun _ h9 => h9) rfl dX8_gate_65 ?_
        refine lv_aload_n hx hb dX8_gate_68 rfl (lv_at hl 0 rfl) ?_
        refine va_get (D := D) (ci := 8) (v := .int (s3 0 8)) (C := RX8) (T := TX8) (N := 15) hx hb hts iX8_ hown hK hw.1 0 rfl rfl 8 (by decide) w2_ (fun _ h9 => h9) rfl dX8_gate_69 ?_
        refine lv_iload_n hx hb dX8_gate_72 rfl (lv_at hl 3 rfl) ?_
        refine mg_ast (wd := mg_mW g cI cZ) (σ := s3) (k := 10) (n := 6) hx hb hK hw 10 0 rfl (mg_mS_10 g cI cZ s3) rfl h dX8_gate_73 (fun s4 h H locs hw => ?_)
        refine lv_aload_n hx hb dX8_gate_74 rfl (lv_at hl 0 rfl) ?_
        refine lv_dup hx hb dX8_gate_75 rfl ?_
        refine va_get (D := D) (ci := 8) (v := .int (s4 0 8)) (C := RX8) (T := TX8) (N := 15) hx hb hts iX8_ hown hK hw.1 0 rfl rfl 8 (by decide) w2_ (fun _ h9 => h9) rfl dX8_gate_76 ?_
        refine lv_iconst (v := 1) hx hb dX8_gate_79 (by decide) ?_
        refine lv_iadd hx hb dX8_gate_80 ?_
        refine mg_put (wd := mg_mW g cI cZ) (σ := s4) (v := ((s4 0 8) + 1)) (ci := 8) (C := RX8) (T := TX8) (N := 15) hx hb hts iX8_ tyX8 tyX8_ok nmX8 hown hK hw 0 0 rfl rfl 8 (by decide) w2_ (fun _ h9 => h9) rfl (by decide +kernel) (Nat.le_of_ble_eq_true rfl) rfl dX8_gate_81 (fun H locs hw => ?_)
        refine lv_aload_n hx hb dX8_gate_84 rfl (lv_at hl 0 rfl) ?_
        refine va_get (D := D) (ci := 8) (v := .int ((mg_su s4 0 8 ((s4 0 8) + 1)) 0 8)) (C := RX8) (T := TX8) (N := 15) hx hb hts iX8_ hown hK hw.1 0 rfl rfl 8 (by decide) w2_ (fun _ h9 => h9) rfl dX8_gate_85 ?_
        refine lv_iconst (v := 1) hx hb dX8_gate_88 (by decide) ?_
        refine lv_isub hx hb dX8_gate_89 ?_
        cases h
        exact mg_eI hx hb hr hlocks hw (Nat.zero_le _) (Nat.zero_le _) dX8_gate_90
      · refine lv_aload_n hx hb dX8_gate_43 rfl (lv_at hl 0 rfl) ?_
        refine lv_iconst (v := 3) hx hb dX8_gate_44 (by decide) ?_
        obtain ⟨y5, h9_, h⟩ := mg_bind h
        refine mg_k (rv := (some (.int y5.1))) (va_runV (As := [.int 3]) (rest := []) G9 (k_X8_no l D o cI cZ g H.size (mg_su σ 0 0 0) 3 y5 h9_) (cwV 1 hts gX8_gate_X8_no rfl rfl rfl (by decide +kernel) ⟨Nat.le_of_ble_eq_true rfl, Nat.le_of_ble_eq_true rfl⟩) (mg_preV hK hO hA hw (q0 := 0) rfl rfl) rfl rfl hl.1 rfl (lv_room (Nat.le_of_ble_eq_true rfl)) dX8_gate_45 ⟨Nat.zero_le _, Nat.zero_le _⟩) hw hA (fun H locs hw => ?_)
        clear h9_
        cases h
        exact mg_eI hx hb hr hlocks hw (Nat.zero_le _) (Nat.zero_le _) dX8_gate_48
    · refine lv_aload_n hx hb dX8_gate_28 rfl (lv_at hl 0 rfl) ?_
      refine lv_iconst (v := 2) hx hb dX8_gate_29 (by decide) ?_
      obtain ⟨y6, h9_, h⟩ := mg_bind h
      refine mg_k (rv := (some (.int y6.1))) (va_runV (As := [.int 2]) (rest := []) G9 (k_X8_no l D o cI cZ g H.size (mg_su σ 0 0 0) 2 y6 h9_) (cwV 1 hts gX8_gate_X8_no rfl rfl rfl (by decide +kernel) ⟨Nat.le_of_ble_eq_true rfl, Nat.le_of_ble_eq_true rfl⟩) (mg_preV hK hO hA hw (q0 := 0) rfl rfl) rfl rfl hl.1 rfl (lv_room (Nat.le_of_ble_eq_true rfl)) dX8_gate_30 ⟨Nat.zero_le _, Nat.zero_le _⟩) hw hA (fun H locs hw => ?_)
      clear h9_
      cases h
      exact mg_eI hx hb hr hlocks hw (Nat.zero_le _) (Nat.zero_le _) dX8_gate_33
  · refine lv_aload_n hx hb dX8_gate_13 rfl (lv_at hl 0 rfl) ?_
    refine lv_iconst (v := 1) hx hb dX8_gate_14 (by decide) ?_
    obtain ⟨y7, h9_, h⟩ := mg_bind h
    refine mg_k (rv := (some (.int y7.1))) (va_runV (As := [.int 1]) (rest := []) G9 (k_X8_no l D o cI cZ g H.size (mg_su σ 0 0 0) 1 y7 h9_) (cwV 1 hts gX8_gate_X8_no rfl rfl rfl (by decide +kernel) ⟨Nat.le_of_ble_eq_true rfl, Nat.le_of_ble_eq_true rfl⟩) (mg_preV hK hO hA hw (q0 := 0) rfl rfl) rfl rfl hl.1 rfl (lv_room (Nat.le_of_ble_eq_true rfl)) dX8_gate_15 ⟨Nat.zero_le _, Nat.zero_le _⟩) hw hA (fun H locs hw => ?_)
    clear h9_
    cases h
    exact mg_eI hx hb hr hlocks hw (Nat.zero_le _) (Nat.zero_le _) dX8_gate_18
set_option maxHeartbeats 4000000 in
set_option maxRecDepth 100000 in
theorem k_X8_gateTold (l : Launch) (D : va_G) (o : Nat → Nat) (cI cZ : ClassId) (g : Nat → Nat) (sz : Nat) (σ : mg_St) (x1 : Int32) (x2 : Int32) (y : Int32) (h : f_X8_gateTold σ x1 x2 = some y) : mg_CT l yX8_gateTold wsX8_gateTold ({ frames := 4, cells := 0, slots := 0, locals := 96 } : Room) D [(cI, .int), (cZ, .boolean)] o (mg_mW g cI cZ σ) sz [.ref (g 0), .int x1, .int x2] (some (.int y)) (mg_mW g cI cZ σ) 0 0 := by
  unfold mg_CT
  refine Met.ofW (cc := cX8_gateTold) (maxL := 5) (ret := (some .int)) (by decide) rfl ?_
  intro p e s m args below meth c s₁ B hml hv
  obtain ⟨rfl, hsz, hP, hK, hD0, hO⟩ := hv
  have hx := B.exec
  have hb := B.bytes
  have hr := B.returns
  have hts := atoms_spec (ws := wsX8_gateTold) B.pre
  have hown : s.vm.findClass RX8 = some m.cls := findClass_of_methodNamed B.named
  have hlocks := B.notSynchronized
  subst hsz
  have hD := hD0.self (sz := s.heap.size)
  generalize hAe : va_A (mg_mW g cI cZ σ) s.heap.size = A at hD hO ⊢
  have hA : ∀ q : Nat, s.heap.size ≤ q → A q := fun q h => by rw [← hAe]; exact Or.inr h
  have hw : mg_Wo D A s.heap s.heap [] (mg_mW g cI cZ σ) := ⟨hP, hD, va_S.rf⟩
  have G9 : CallFix p m c cX8_gateTold 5 s ([.ref (g 0), .int x1, .int x2] : List Value).toArray wsX8_gateTold RX8 := ⟨hx, hb, hml, hown, hts⟩
  clear hP hD hD0 hAe
  obtain ⟨H, hHe⟩ : ∃ H : Heap, H = s.heap := ⟨_, rfl⟩
  have w0_ := hts (.fieldLink RX8 58 "MoonGateModel" "poets" "I") (by decide +kernel)
  have iX8_ : ∀ w ∈ wsX80, w ∈ wsX8_gateTold := (fun _ h => List.mem_cons_of_mem _ (List.mem_append_left _ (List.mem_append_right _ h)))
  have w2_ := hts (.fieldLink RX8 34 "MoonGateModel" "at" "[I") (by decide +kernel)
  have w3_ := hts (.fieldLink RX8 40 "MoonGateModel" "s" "LMoonGateModel$Days;") (by decide +kernel)
  have hl := lv_entry ([.ref (g 0), .int x1, .int x2]) (n := 5) (Nat.le_of_ble_eq_true rfl)
  rw [lg_entry_eq]
  generalize (lg_sl ([.ref (g 0), .int x1, .int x2]) ++ List.replicate (5 - (lg_sl ([.ref (g 0), .int x1, .int x2])).length) Slot.unset).toArray = ls at hl ⊢
  have hl : lv_has ls 5 [(0, .ref (g 0)), (1, .int x1), (2, .int x2)] := hl
  unfold f_X8_gateTold at h
  revert hw
  intro hw
  suffices K_ : ∀ (H : Heap) (locs : List Loc), mg_Wo D A s.heap H locs (mg_mW g cI cZ σ) → W p l e (headSpec wsX8_gateTold ({ frames := 4, cells := 0, slots := 0, locals := 96 } : Room)).room s m ([.ref (g 0), .int x1, .int x2] : List Value).toArray below meth c H locs 0 0 (MQ below (mg_Q D (mg_mW g cI cZ σ) A (some (.int y))) ([.ref (g 0), .int x1, .int x2] : List Value).toArray s 0 0 A) (F0 m 0 ls []) from K_ _ _ hw
  clear hw hHe H
  intro H locs hw
  refine lv_iconst (v := 0) hx hb dX8_gateTold_0 (by decide) ?_
  refine lv_istore_n (lv' := [(3, .int 0), (0, .ref (g 0)), (1, .int x1), (2, .int x2)]) hx hb dX8_gateTold_1 rfl hl (by decide) rfl (fun ls hl => ?_)
  refine lv_iconst (v := 0) hx hb dX8_gateTold_2 (by decide) ?_
  refine lv_istore (lv' := [(4, .int 0), (3, .int 0), (0, .ref (g 0)), (1, .int x1), (2, .int x2)]) hx hb dX8_gateTold_3 hl (by decide) rfl (fun ls hl => ?_)
  have L5_ : ∀ (n : Nat) (x3_5 : Int32) (x4_5 : Int32) (y5_ : Int32 × Int32), f_X8_gateTold_5 σ x1 x2 n x3_5 x4_5 = some y5_ → (∀ (H : Heap) (locs : List Loc) (ls : Array Slot), mg_Wo D A s.heap H locs (mg_mW g cI cZ σ) → lv_has ls 5 [(0, .ref (g 0)), (1, .int x1), (2, .int x2), (3, .int y5_.1), (4, .int y5_.2)] → W p l e (headSpec wsX8_gateTold ({ frames := 4, cells := 0, slots := 0, locals := 96 } : Room)).room s m ([.ref (g 0), .int x1, .int x2] : List Value).toArray below meth c H locs 0 0 (MQ below (mg_Q D (mg_mW g cI cZ σ) A (some (.int y))) ([.ref (g 0), .int x1, .int x2] : List Value).toArray s 0 0 A) (F0 m 39 ls [])) → ∀ (H : Heap) (locs : List Loc) (ls : Array Slot), mg_Wo D A s.heap H locs (mg_mW g cI cZ σ) → lv_has ls 5 [(0, .ref (g 0)), (1, .int x1), (2, .int x2), (3, .int x3_5), (4, .int x4_5)] → W p l e (headSpec wsX8_gateTold ({ frames := 4, cells := 0, slots := 0, locals := 96 } : Room)).room s m ([.ref (g 0), .int x1, .int x2] : List Value).toArray below meth c H locs 0 0 (MQ below (mg_Q D (mg_mW g cI cZ σ) A (some (.int y))) ([.ref (g 0), .int x1, .int x2] : List Value).toArray s 0 0 A) (F0 m 5 ls []) := by
    intro n
    induction n with
    | zero => intro x3_5 x4_5 y5_ h; rw [f_X8_gateTold_5] at h; cases h
    | succ n ih =>
      intro x3_5 x4_5 y5_ h kc H locs ls hw hl
      rw [f_X8_gateTold_5] at h
      refine lv_iload hx hb dX8_gateTold_5 (lv_at hl 4 rfl) ?_
      refine lv_aload_n hx hb dX8_gateTold_7 rfl (lv_at hl 0 rfl) ?_
      refine va_get (D := D) (ci := 8) (v := .int (σ 0 11)) (C := RX8) (T := TX8) (N := 15) hx hb hts iX8_ hown hK hw.1 0 rfl rfl 11 (by decide) w0_ (fun _ h9 => h9) rfl dX8_gateTold_8 ?_
      refine mg_icmp_ge (tgt := 39) hx hb h dX8_gateTold_11 (by decide) (fun h => ?_) (fun h => ?_)
      · cases h
        exact kc H locs ls hw (lv_sub hl [0, 1, 2, 3, 4] rfl)
      · refine lv_iload_n hx hb dX8_gateTold_14 rfl (lv_at hl 3 rfl) ?_
        refine lv_aload_n hx hb dX8_gateTold_15 rfl (lv_at hl 0 rfl) ?_
        refine va_get (D := D) (ci := 8) (v := .ref (g 11)) (C := RX8) (T := TX8) (N := 15) hx hb hts iX8_ hown hK hw.1 0 rfl rfl 12 (by decide) w2_ (fun _ h9 => h9) rfl dX8_gateTold_16 ?_
        refine lv_iload hx hb dX8_gateTold_19 (lv_at hl 4 rfl) ?_
        refine mg_ald (σ := σ) (k := 11) (n := 5) hx hb hK hw 11 0 rfl rfl h dX8_gateTold_21 (fun v2 h => ?_)
        refine lv_iload_n hx hb dX8_gateTold_22 rfl (lv_at hl 1 rfl) ?_
        refine mg_icmp_ne (tgt := 30) hx hb h dX8_gateTold_23 (by decide) (fun h => ?_) (fun h => ?_)
        · refine lv_iconst (v := 0) hx hb dX8_gateTold_30 (by decide) ?_
          refine lv_iadd hx hb dX8_gateTold_31 ?_
          refine lv_istore_n (lv' := [(3, .int (x3_5 + 0)), (0, .ref (g 0)), (1, .int x1), (2, .int x2), (4, .int x4_5)]) hx hb dX8_gateTold_32 rfl hl (by decide) rfl (fun ls hl => ?_)
          refine lv_iinc (v := (x4_5 + 1)) (lv' := [(4, .int (x4_5 + 1)), (3, .int (x3_5 + 0)), (0, .ref (g 0)), (1, .int x1), (2, .int x2)]) hx hb dX8_gateTold_33 hl (k := 4) rfl rfl (by decide) rfl (fun ls hl => ?_)
          refine lv_goto (tgt := 5) hx hb dX8_gateTold_36 (by decide) ?_
          exact ih _ _ _ h kc H locs ls hw (lv_sub hl [2, 3, 4, 1, 0] rfl)
        · refine lv_iconst (v := 1) hx hb dX8_gateTold_26 (by decide) ?_
          refine lv_goto (tgt := 31) hx hb dX8_gateTold_27 (by decide) ?_
          refine lv_iadd hx hb dX8_gateTold_31 ?_
          refine lv_istore_n (lv' := [(3, .int (x3_5 + 1)), (0, .ref (g 0)), (1, .int x1), (2, .int x2), (4, .int x4_5)]) hx hb dX8_gateTold_32 rfl hl (by decide) rfl (fun ls hl => ?_)
          refine lv_iinc (v := (x4_5 + 1)) (lv' := [(4, .int (x4_5 + 1)), (3, .int (x3_5 + 1)), (0, .ref (g 0)), (1, .int x1), (2, .int x2)]) hx hb dX8_gateTold_33 hl (k := 4) rfl rfl (by decide) rfl (fun ls hl => ?_)
          refine lv_goto (tgt := 5) hx hb dX8_gateTold_36 (by decide) ?_
          exact ih _ _ _ h kc H locs ls hw (lv_sub hl [2, 3, 4, 1, 0] rfl)
  obtain ⟨y1, h9_, h⟩ := mg_bind h
  refine L5_ _ _ _ _ h9_ (fun H locs ls hw hl => ?_) H locs ls hw (lv_sub hl [2, 3, 4, 1, 0] rfl)
  clear L5_ h9_
  refine lv_iload_n hx hb dX8_gateTold_39 rfl (lv_at hl 2 rfl) ?_
  refine mg_if_ne (tgt := 52) hx hb h dX8_gateTold_40 (by decide) (fun h => ?_) (fun h => ?_)
  · refine lv_iload_n hx hb dX8_gateTold_52 rfl (lv_at hl 2 rfl) ?_
    refine lv_iconst (v := 1) hx hb dX8_gateTold_53 (by decide) ?_
    refine mg_icmp_ne (tgt := 66) hx hb h dX8_gateTold_54 (by decide) (fun h => ?_) (fun h => ?_)
    · refine lv_iload_n hx hb dX8_gateTold_66 rfl (lv_at hl 2 rfl) ?_
      refine lv_iconst (v := 2) hx hb dX8_gateTold_67 (by decide) ?_
      refine mg_icmp_ne (tgt := 80) hx hb h dX8_gateTold_68 (by decide) (fun h => ?_) (fun h => ?_)
      · refine lv_iload_n hx hb dX8_gateTold_80 rfl (lv_at hl 2 rfl) ?_
        refine lv_iconst (v := 3) hx hb dX8_gateTold_81 (by decide) ?_
        refine mg_icmp_ne (tgt := 97) hx hb h dX8_gateTold_82 (by decide) (fun h => ?_) (fun h => ?_)
        · refine lv_iload_n hx hb dX8_gateTold_97 rfl (lv_at hl 3 rfl) ?_
          cases h
          exact mg_eI hx hb hr hlocks hw (Nat.zero_le _) (Nat.zero_le _) dX8_gateTold_98
        · refine lv_aload_n hx hb dX8_gateTold_85 rfl (lv_at hl 0 rfl) ?_
          refine lv_iload_n hx hb dX8_gateTold_86 rfl (lv_at hl 1 rfl) ?_
          refine lv_aload_n hx hb dX8_gateTold_87 rfl (lv_at hl 0 rfl) ?_
          refine va_get (D := D) (ci := 8) (v := .ref (g 1)) (C := RX8) (T := TX8) (N := 15) hx hb hts iX8_ hown hK hw.1 0 rfl rfl 13 (by decide) w3_ (fun _ h9 => h9) rfl dX8_gateTold_88 ?_
          obtain ⟨y3, h9_, h⟩ := mg_bind h
          refine mg_k (rv := (some (.int y3))) (va_runV (As := [.int x1, .ref (g 1)]) (rest := []) G9 (k_X8_beauty_1 l D o cI cZ g H.size σ x1 y3 h9_) (cwV 2 hts gX8_gateTold_X8_beauty rfl rfl rfl (by decide +kernel) ⟨Nat.le_of_ble_eq_true rfl, Nat.le_of_ble_eq_true rfl⟩) (mg_preV hK hO hA hw (q0 := 0) rfl rfl) rfl rfl hl.1 rfl (lv_room (Nat.le_of_ble_eq_true rfl)) dX8_gateTold_91 ⟨Nat.zero_le _, Nat.zero_le _⟩) hw hA (fun H locs hw => ?_)
          clear h9_
          refine lv_goto (tgt := 98) hx hb dX8_gateTold_94 (by decide) ?_
          cases h
          exact mg_eI hx hb hr hlocks hw (Nat.zero_le _) (Nat.zero_le _) dX8_gateTold_98
      · refine lv_aload_n hx hb dX8_gateTold_71 rfl (lv_at hl 0 rfl) ?_
        refine lv_iload_n hx hb dX8_gateTold_72 rfl (lv_at hl 1 rfl) ?_
        refine lv_iconst (v := 2) hx hb dX8_gateTold_73 (by decide) ?_
        obtain ⟨y4, h9_, h⟩ := mg_bind h
        refine mg_k (rv := (some (.int y4))) (va_runV (As := [.int x1, .int 2]) (rest := []) G9 (k_X8_many l D o cI cZ g H.size σ x1 2 y4 h9_) (cwV 2 hts gX8_gateTold_X8_many rfl rfl rfl (by decide +kernel) ⟨Nat.le_of_ble_eq_true rfl, Nat.le_of_ble_eq_true rfl⟩) (mg_preV hK hO hA hw (q0 := 0) rfl rfl) rfl rfl hl.1 rfl (lv_room (Nat.le_of_ble_eq_true rfl)) dX8_gateTold_74 ⟨Nat.zero_le _, Nat.zero_le _⟩) hw hA (fun H locs hw => ?_)
        clear h9_
        refine lv_goto (tgt := 98) hx hb dX8_gateTold_77 (by decide) ?_
        cases h
        exact mg_eI hx hb hr hlocks hw (Nat.zero_le _) (Nat.zero_le _) dX8_gateTold_98
    · refine lv_aload_n hx hb dX8_gateTold_57 rfl (lv_at hl 0 rfl) ?_
      refine lv_iload_n hx hb dX8_gateTold_58 rfl (lv_at hl 1 rfl) ?_
      refine lv_iconst (v := 1) hx hb dX8_gateTold_59 (by decide) ?_
      obtain ⟨y5, h9_, h⟩ := mg_bind h
      refine mg_k (rv := (some (.int y5))) (va_runV (As := [.int x1, .int 1]) (rest := []) G9 (k_X8_many l D o cI cZ g H.size σ x1 1 y5 h9_) (cwV 2 hts gX8_gateTold_X8_many rfl rfl rfl (by decide +kernel) ⟨Nat.le_of_ble_eq_true rfl, Nat.le_of_ble_eq_true rfl⟩) (mg_preV hK hO hA hw (q0 := 0) rfl rfl) rfl rfl hl.1 rfl (lv_room (Nat.le_of_ble_eq_true rfl)) dX8_gateTold_60 ⟨Nat.zero_le _, Nat.zero_le _⟩) hw hA (fun H locs hw => ?_)
      clear h9_
      refine lv_goto (tgt := 98) hx hb dX8_gateTold_63 (by decide) ?_
      cases h
      exact mg_eI hx hb hr hlocks hw (Nat.zero_le _) (Nat.zero_le _) dX8_gateTold_98
  · refine lv_aload_n hx hb dX8_gateTold_43 rfl (lv_at hl 0 rfl) ?_
    refine lv_iload_n hx hb dX8_gateTold_44 rfl (lv_at hl 1 rfl) ?_
    refine lv_iconst (v := 0) hx hb dX8_gateTold_45 (by decide) ?_
    obtain ⟨y6, h9_, h⟩ := mg_bind h
    refine mg_k (rv := (some (.int y6))) (va_runV (As := [.int x1, .int 0]) (rest := []) G9 (k_X8_many l D o cI cZ g H.size σ x1 0 y6 h9_) (cwV 2 hts gX8_gateTold_X8_many rfl rfl rfl (by decide +kernel) ⟨Nat.le_of_ble_eq_true rfl, Nat.le_of_ble_eq_true rfl⟩) (mg_preV hK hO hA hw (q0 := 0) rfl rfl) rfl rfl hl.1 rfl (lv_room (Nat.le_of_ble_eq_true rfl)) dX8_gateTold_46 ⟨Nat.zero_le _, Nat.zero_le _⟩) hw hA (fun H locs hw => ?_)
    clear h9_
    refine lv_goto (tgt := 98) hx hb dX8_gateTold_49 (by decide) ?_
    cases h
    exact mg_eI hx hb hr hlocks hw (Nat.zero_le _) (Nat.zero_le _) dX8_gateTold_98
set_option maxHeartbeats 4000000 in
set_option maxRecDepth 100000 in
theorem k_X8_about (l : Launch) (D : va_G) (o : Nat → Nat) (cI cZ : ClassId) (g : Nat → Nat) (sz : Nat) (σ : mg_St) (x1 : Int32) (x2 : Int32) (y : (Int32 × mg_St)) (h : f_X8_about σ x1 x2 = some y) : mg_CT l yX8_about wsX8_about ({ frames := 5, cells := 0, slots := 0, locals := 120 } : Room) D [(cI, .int), (cZ, .boolean)] o (mg_mW g cI cZ σ) sz [.ref (g 0), .int x1, .int x2] (some (.int y.1)) (mg_mW g cI cZ y.2) 0 0 := by
  unfold mg_CT
  refine Met.ofW (cc := cX8_about) (maxL := 3) (ret := (some .int)) (by decide) rfl ?_
  intro p e s m args below meth c s₁ B hml hv
  obtain ⟨rfl, hsz, hP, hK, hD0, hO⟩ := hv
  have hx := B.exec
  have hb := B.bytes
  have hr := B.returns
  have hts := atoms_spec (ws := wsX8_about) B.pre
  have hown : s.vm.findClass RX8 = some m.cls := findClass_of_methodNamed B.named
  have hlocks := B.notSynchronized
  subst hsz
  have hD := hD0.self (sz := s.heap.size)
  generalize hAe : va_A (mg_mW g cI cZ σ) s.heap.size = A at hD hO ⊢
  have hA : ∀ q : Nat, s.heap.size ≤ q → A q := fun q h => by rw [← hAe]; exact Or.inr h
  have hw : mg_Wo D A s.heap s.heap [] (mg_mW g cI cZ σ) := ⟨hP, hD, va_S.rf⟩
  have G9 : CallFix p m c cX8_about 3 s ([.ref (g 0), .int x1, .int x2] : List Value).toArray wsX8_about RX8 := ⟨hx, hb, hml, hown, hts⟩
  clear hP hD hD0 hAe
  obtain ⟨H, hHe⟩ : ∃ H : Heap, H = s.heap := ⟨_, rfl⟩
  have w0_ := hts (.fieldLink RX8 47 "MoonGateModel" "thrown" "I") (by decide +kernel)
  have iX8_ : ∀ w ∈ wsX80, w ∈ wsX8_about := (fun _ h => List.mem_cons_of_mem _ (List.mem_append_left _ (List.mem_append_right _ h)))
  have hl := lv_entry ([.ref (g 0), .int x1, .int x2]) (n := 3) (Nat.le_of_ble_eq_true rfl)
  rw [lg_entry_eq]
  generalize (lg_sl ([.ref (g 0), .int x1, .int x2]) ++ List.replicate (3 - (lg_sl ([.ref (g 0), .int x1, .int x2])).length) Slot.unset).toArray = ls at hl ⊢
  have hl : lv_has ls 3 [(0, .ref (g 0)), (1, .int x1), (2, .int x2)] := hl
  unfold f_X8_about at h
  revert hw
  intro hw
  suffices K_ : ∀ (H : Heap) (locs : List Loc), mg_Wo D A s.heap H locs (mg_mW g cI cZ σ) → W p l e (headSpec wsX8_about ({ frames := 5, cells := 0, slots := 0, locals := 120 } : Room)).room s m ([.ref (g 0), .int x1, .int x2] : List Value).toArray below meth c H locs 0 0 (MQ below (mg_Q D (mg_mW g cI cZ y.2) A (some (.int y.1))) ([.ref (g 0), .int x1, .int x2] : List Value).toArray s 0 0 A) (F0 m 0 ls []) from K_ _ _ hw
  clear hw hHe H
  intro H locs hw
  refine lv_aload_n hx hb dX8_about_0 rfl (lv_at hl 0 rfl) ?_
  refine lv_iconst (v := 0) hx hb dX8_about_1 (by decide) ?_
  refine mg_put (wd := mg_mW g cI cZ) (σ := σ) (v := 0) (ci := 8) (C := RX8) (T := TX8) (N := 15) hx hb hts iX8_ tyX8 tyX8_ok nmX8 hown hK hw 0 0 rfl rfl 0 (by decide) w0_ (fun _ h9 => h9) rfl (by decide +kernel) (Nat.le_of_ble_eq_true rfl) rfl dX8_about_2 (fun H locs hw => ?_)
  refine lv_aload_n hx hb dX8_about_5 rfl (lv_at hl 0 rfl) ?_
  refine lv_iload_n hx hb dX8_about_6 rfl (lv_at hl 1 rfl) ?_
  obtain ⟨y1, h9_, h⟩ := mg_bind h
  refine mg_k (rv := (some (.int y1))) (va_runV (As := [.int x1]) (rest := []) G9 (k_X8_isGate l D o cI cZ g H.size (mg_su σ 0 0 0) x1 y1 h9_) (cwV 1 hts gX8_about_X8_isGate rfl rfl rfl (by decide +kernel) ⟨Nat.le_of_ble_eq_true rfl, Nat.le_of_ble_eq_true rfl⟩) (mg_preV hK hO hA hw (q0 := 0) rfl rfl) rfl rfl hl.1 rfl (lv_room (Nat.le_of_ble_eq_true rfl)) dX8_about_7 ⟨Nat.zero_le _, Nat.zero_le _⟩) hw hA (fun H locs hw => ?_)
  clear h9_
  refine mg_if_eq (tgt := 31) hx hb h dX8_about_10 (by decide) (fun h => ?_) (fun h => ?_)
  · refine lv_aload_n hx hb dX8_about_31 rfl (lv_at hl 0 rfl) ?_
    refine lv_iconst (v := 1) hx hb dX8_about_32 (by decide) ?_
    obtain ⟨y2, h9_, h⟩ := mg_bind h
    refine mg_k (rv := (some (.int y2.1))) (va_runV (As := [.int 1]) (rest := []) G9 (k_X8_no l D o cI cZ g H.size (mg_su σ 0 0 0) 1 y2 h9_) (cwV 1 hts gX8_about_X8_no rfl rfl rfl (by decide +kernel) ⟨Nat.le_of_ble_eq_true rfl, Nat.le_of_ble_eq_true rfl⟩) (mg_preV hK hO hA hw (q0 := 0) rfl rfl) rfl rfl hl.1 rfl (lv_room (Nat.le_of_ble_eq_true rfl)) dX8_about_33 ⟨Nat.zero_le _, Nat.zero_le _⟩) hw hA (fun H locs hw => ?_)
    clear h9_
    cases h
    exact mg_eI hx hb hr hlocks hw (Nat.zero_le _) (Nat.zero_le _) dX8_about_36
  · refine lv_iload_n hx hb dX8_about_13 rfl (lv_at hl 2 rfl) ?_
    refine lv_iconst (v := 0) hx hb dX8_about_14 (by decide) ?_
    refine lv_iconst (v := 4) hx hb dX8_about_15 (by decide) ?_
    obtain ⟨y3, h9_, h⟩ := mg_bind h
    refine mg_k (rv := (some (.int y3))) (va_runS (As := [.int x2, .int 0, .int 4]) (rest := []) G9 (k_X8_isIn l D o cI cZ g H.size (mg_su σ 0 0 0) x2 0 4 y3 h9_) (va_cwS 3 hts gX8_about_X8_isIn rfl rfl rfl (by decide +kernel) ⟨Nat.le_of_ble_eq_true rfl, Nat.le_of_ble_eq_true rfl⟩) (mg_pre hK hO hA hw) rfl rfl hl.1 rfl (lv_room (Nat.le_of_ble_eq_true rfl)) dX8_about_16 ⟨Nat.zero_le _, Nat.zero_le _⟩) hw hA (fun H locs hw => ?_)
    clear h9_
    refine mg_if_eq (tgt := 31) hx hb h dX8_about_19 (by decide) (fun h => ?_) (fun h => ?_)
    · refine lv_aload_n hx hb dX8_about_31 rfl (lv_at hl 0 rfl) ?_
      refine lv_iconst (v := 1) hx hb dX8_about_32 (by decide) ?_
      obtain ⟨y4, h9_, h⟩ := mg_bind h
      refine mg_k (rv := (some (.int y4.1))) (va_runV (As := [.int 1]) (rest := []) G9 (k_X8_no l D o cI cZ g H.size (mg_su σ 0 0 0) 1 y4 h9_) (cwV 1 hts gX8_about_X8_no rfl rfl rfl (by decide +kernel) ⟨Nat.le_of_ble_eq_true rfl, Nat.le_of_ble_eq_true rfl⟩) (mg_preV hK hO hA hw (q0 := 0) rfl rfl) rfl rfl hl.1 rfl (lv_room (Nat.le_of_ble_eq_true rfl)) dX8_about_33 ⟨Nat.zero_le _, Nat.zero_le _⟩) hw hA (fun H locs hw => ?_)
      clear h9_
      cases h
      exact mg_eI hx hb hr hlocks hw (Nat.zero_le _) (Nat.zero_le _) dX8_about_36
    · refine lv_aload_n hx hb dX8_about_22 rfl (lv_at hl 0 rfl) ?_
      refine lv_iload_n hx hb dX8_about_23 rfl (lv_at hl 1 rfl) ?_
      refine lv_iload_n hx hb dX8_about_24 rfl (lv_at hl 2 rfl) ?_
      obtain ⟨y5, h9_, h⟩ := mg_bind h
      refine mg_k (rv := (some (.int y5))) (va_runV (As := [.int x1, .int x2]) (rest := []) G9 (k_X8_gateTold l D o cI cZ g H.size (mg_su σ 0 0 0) x1 x2 y5 h9_) (cwV 2 hts gX8_about_X8_gateTold rfl rfl rfl (by decide +kernel) ⟨Nat.le_of_ble_eq_true rfl, Nat.le_of_ble_eq_true rfl⟩) (mg_preV hK hO hA hw (q0 := 0) rfl rfl) rfl rfl hl.1 rfl (lv_room (Nat.le_of_ble_eq_true rfl)) dX8_about_25 ⟨Nat.zero_le _, Nat.zero_le _⟩) hw hA (fun H locs hw => ?_)
      clear h9_
      refine lv_goto (tgt := 36) hx hb dX8_about_28 (by decide) ?_
      cases h
      exact mg_eI hx hb hr hlocks hw (Nat.zero_le _) (Nat.zero_le _) dX8_about_36
set_option maxHeartbeats 4000000 in
set_option maxRecDepth 100000 in
theorem k_X8_invite (l : Launch) (D : va_G) (o : Nat → Nat) (cI cZ : ClassId) (g : Nat → Nat) (sz : Nat) (σ : mg_St) (x1 : Int32) (y : (Int32 × mg_St)) (h : f_X8_invite σ x1 = some y) : mg_CT l yX8_invite wsX8_invite ({ frames := 2, cells := 0, slots := 0, locals := 43 } : Room) D [(cI, .int), (cZ, .boolean)] o (mg_mW g cI cZ σ) sz [.ref (g 0), .int x1] (some (.int y.1)) (mg_mW g cI cZ y.2) 0 0 := by
  unfold mg_CT
  refine Met.ofW (cc := cX8_invite) (maxL := 2) (ret := (some .int)) (by decide) rfl ?_
  intro p e s m args below meth c s₁ B hml hv
  obtain ⟨rfl, hsz, hP, hK, hD0, hO⟩ := hv
  have hx := B.exec
  have hb := B.bytes
  have hr := B.returns
  have hts := atoms_spec (ws := wsX8_invite) B.pre
  have hown : s.vm.findClass RX8 = some m.cls := findClass_of_methodNamed B.named
  have hlocks := B.notSynchronized
  subst hsz
  have hD := hD0.self (sz := s.heap.size)
  generalize hAe : va_A (mg_mW g cI cZ σ) s.heap.size = A at hD hO ⊢
  have hA : ∀ q : Nat, s.heap.size ≤ q → A q := fun q h => by rw [← hAe]; exact Or.inr h
  have hw : mg_Wo D A s.heap s.heap [] (mg_mW g cI cZ σ) := ⟨hP, hD, va_S.rf⟩
  have G9 : CallFix p m c cX8_invite 2 s ([.ref (g 0), .int x1] : List Value).toArray wsX8_invite RX8 := ⟨hx, hb, hml, hown, hts⟩
  clear hP hD hD0 hAe
  obtain ⟨H, hHe⟩ : ∃ H : Heap, H = s.heap := ⟨_, rfl⟩
  have w0_ := hts (.fieldLink RX8 47 "MoonGateModel" "thrown" "I") (by decide +kernel)
  have iX8_ : ∀ w ∈ wsX80, w ∈ wsX8_invite := (fun _ h => List.mem_cons_of_mem _ (List.mem_append_right _ h))
  have w2_ := hts (.fieldLink RX8 58 "MoonGateModel" "poets" "I") (by decide +kernel)
  have w3_ := hts (.fieldLink RX8 34 "MoonGateModel" "at" "[I") (by decide +kernel)
  have hl := lv_entry ([.ref (g 0), .int x1]) (n := 2) (Nat.le_of_ble_eq_true rfl)
  rw [lg_entry_eq]
  generalize (lg_sl ([.ref (g 0), .int x1]) ++ List.replicate (2 - (lg_sl ([.ref (g 0), .int x1])).length) Slot.unset).toArray = ls at hl ⊢
  have hl : lv_has ls 2 [(0, .ref (g 0)), (1, .int x1)] := hl
  unfold f_X8_invite at h
  revert hw
  intro hw
  suffices K_ : ∀ (H : Heap) (locs : List Loc), mg_Wo D A s.heap H locs (mg_mW g cI cZ σ) → W p l e (headSpec wsX8_invite ({ frames := 2, cells := 0, slots := 0, locals := 43 } : Room)).room s m ([.ref (g 0), .int x1] : List Value).toArray below meth c H locs 0 0 (MQ below (mg_Q D (mg_mW g cI cZ y.2) A (some (.int y.1))) ([.ref (g 0), .int x1] : List Value).toArray s 0 0 A) (F0 m 0 ls []) from K_ _ _ hw
  clear hw hHe H
  intro H locs hw
  refine lv_aload_n hx hb dX8_invite_0 rfl (lv_at hl 0 rfl) ?_
  refine lv_iconst (v := 0) hx hb dX8_invite_1 (by decide) ?_
  refine mg_put (wd := mg_mW g cI cZ) (σ := σ) (v := 0) (ci := 8) (C := RX8) (T := TX8) (N := 15) hx hb hts iX8_ tyX8 tyX8_ok nmX8 hown hK hw 0 0 rfl rfl 0 (by decide) w0_ (fun _ h9 => h9) rfl (by decide +kernel) (Nat.le_of_ble_eq_true rfl) rfl dX8_invite_2 (fun H locs hw => ?_)
  refine lv_aload_n hx hb dX8_invite_5 rfl (lv_at hl 0 rfl) ?_
  refine lv_iload_n hx hb dX8_invite_6 rfl (lv_at hl 1 rfl) ?_
  obtain ⟨y1, h9_, h⟩ := mg_bind h
  refine mg_k (rv := (some (.int y1))) (va_runV (As := [.int x1]) (rest := []) G9 (k_X8_isGate l D o cI cZ g H.size (mg_su σ 0 0 0) x1 y1 h9_) (cwV 1 hts gX8_invite_X8_isGate rfl rfl rfl (by decide +kernel) ⟨Nat.le_of_ble_eq_true rfl, Nat.le_of_ble_eq_true rfl⟩) (mg_preV hK hO hA hw (q0 := 0) rfl rfl) rfl rfl hl.1 rfl (lv_room (Nat.le_of_ble_eq_true rfl)) dX8_invite_7 ⟨Nat.zero_le _, Nat.zero_le _⟩) hw hA (fun H locs hw => ?_)
  clear h9_
  refine mg_if_ne (tgt := 19) hx hb h dX8_invite_10 (by decide) (fun h => ?_) (fun h => ?_)
  · refine lv_aload_n hx hb dX8_invite_19 rfl (lv_at hl 0 rfl) ?_
    refine va_get (D := D) (ci := 8) (v := .int ((mg_su σ 0 0 0) 0 11)) (C := RX8) (T := TX8) (N := 15) hx hb hts iX8_ hown hK hw.1 0 rfl rfl 11 (by decide) w2_ (fun _ h9 => h9) rfl dX8_invite_20 ?_
    refine lv_iconst (v := 5) hx hb dX8_invite_23 (by decide) ?_
    refine mg_icmp_ne (tgt := 33) hx hb h dX8_invite_24 (by decide) (fun h => ?_) (fun h => ?_)
    · refine lv_aload_n hx hb dX8_invite_33 rfl (lv_at hl 0 rfl) ?_
      refine va_get (D := D) (ci := 8) (v := .ref (g 11)) (C := RX8) (T := TX8) (N := 15) hx hb hts iX8_ hown hK hw.1 0 rfl rfl 12 (by decide) w3_ (fun _ h9 => h9) rfl dX8_invite_34 ?_
      refine lv_aload_n hx hb dX8_invite_37 rfl (lv_at hl 0 rfl) ?_
      refine va_get (D := D) (ci := 8) (v := .int ((mg_su σ 0 0 0) 0 11)) (C := RX8) (T := TX8) (N := 15) hx hb hts iX8_ hown hK hw.1 0 rfl rfl 11 (by decide) w2_ (fun _ h9 => h9) rfl dX8_invite_38 ?_
      refine lv_iload_n hx hb dX8_invite_41 rfl (lv_at hl 1 rfl) ?_
      refine mg_ast (wd := mg_mW g cI cZ) (σ := (mg_su σ 0 0 0)) (k := 11) (n := 5) hx hb hK hw 11 0 rfl (mg_mS_11 g cI cZ (mg_su σ 0 0 0)) rfl h dX8_invite_42 (fun s2 h H locs hw => ?_)
      refine lv_aload_n hx hb dX8_invite_43 rfl (lv_at hl 0 rfl) ?_
      refine lv_dup hx hb dX8_invite_44 rfl ?_
      refine va_get (D := D) (ci := 8) (v := .int (s2 0 11)) (C := RX8) (T := TX8) (N := 15) hx hb hts iX8_ hown hK hw.1 0 rfl rfl 11 (by decide) w2_ (fun _ h9 => h9) rfl dX8_invite_45 ?_
      refine lv_iconst (v := 1) hx hb dX8_invite_48 (by decide) ?_
      refine lv_iadd hx hb dX8_invite_49 ?_
      refine mg_put (wd := mg_mW g cI cZ) (σ := s2) (v := ((s2 0 11) + 1)) (ci := 8) (C := RX8) (T := TX8) (N := 15) hx hb hts iX8_ tyX8 tyX8_ok nmX8 hown hK hw 0 0 rfl rfl 11 (by decide) w2_ (fun _ h9 => h9) rfl (by decide +kernel) (Nat.le_of_ble_eq_true rfl) rfl dX8_invite_50 (fun H locs hw => ?_)
      refine lv_aload_n hx hb dX8_invite_53 rfl (lv_at hl 0 rfl) ?_
      refine va_get (D := D) (ci := 8) (v := .int ((mg_su s2 0 11 ((s2 0 11) + 1)) 0 11)) (C := RX8) (T := TX8) (N := 15) hx hb hts iX8_ hown hK hw.1 0 rfl rfl 11 (by decide) w2_ (fun _ h9 => h9) rfl dX8_invite_54 ?_
      refine lv_iconst (v := 1) hx hb dX8_invite_57 (by decide) ?_
      refine lv_isub hx hb dX8_invite_58 ?_
      cases h
      exact mg_eI hx hb hr hlocks hw (Nat.zero_le _) (Nat.zero_le _) dX8_invite_59
    · refine lv_aload_n hx hb dX8_invite_27 rfl (lv_at hl 0 rfl) ?_
      refine lv_iconst (v := 2) hx hb dX8_invite_28 (by decide) ?_
      obtain ⟨y3, h9_, h⟩ := mg_bind h
      refine mg_k (rv := (some (.int y3.1))) (va_runV (As := [.int 2]) (rest := []) G9 (k_X8_no l D o cI cZ g H.size (mg_su σ 0 0 0) 2 y3 h9_) (cwV 1 hts gX8_invite_X8_no rfl rfl rfl (by decide +kernel) ⟨Nat.le_of_ble_eq_true rfl, Nat.le_of_ble_eq_true rfl⟩) (mg_preV hK hO hA hw (q0 := 0) rfl rfl) rfl rfl hl.1 rfl (lv_room (Nat.le_of_ble_eq_true rfl)) dX8_invite_29 ⟨Nat.zero_le _, Nat.zero_le _⟩) hw hA (fun H locs hw => ?_)
      clear h9_
      cases h
      exact mg_eI hx hb hr hlocks hw (Nat.zero_le _) (Nat.zero_le _) dX8_invite_32
  · refine lv_aload_n hx hb dX8_invite_13 rfl (lv_at hl 0 rfl) ?_
    refine lv_iconst (v := 1) hx hb dX8_invite_14 (by decide) ?_
    obtain ⟨y4, h9_, h⟩ := mg_bind h
    refine mg_k (rv := (some (.int y4.1))) (va_runV (As := [.int 1]) (rest := []) G9 (k_X8_no l D o cI cZ g H.size (mg_su σ 0 0 0) 1 y4 h9_) (cwV 1 hts gX8_invite_X8_no rfl rfl rfl (by decide +kernel) ⟨Nat.le_of_ble_eq_true rfl, Nat.le_of_ble_eq_true rfl⟩) (mg_preV hK hO hA hw (q0 := 0) rfl rfl) rfl rfl hl.1 rfl (lv_room (Nat.le_of_ble_eq_true rfl)) dX8_invite_15 ⟨Nat.zero_le _, Nat.zero_le _⟩) hw hA (fun H locs hw => ?_)
    clear h9_
    cases h
    exact mg_eI hx hb hr hlocks hw (Nat.zero_le _) (Nat.zero_le _) dX8_invite_18
set_option maxHeartbeats 4000000 in
set_option maxRecDepth 100000 in
theorem k_X8_lead (l : Launch) (D : va_G) (o : Nat → Nat) (cI cZ : ClassId) (g : Nat → Nat) (sz : Nat) (σ : mg_St) (x1 : Int32) (x2 : Int32) (y : (Int32 × mg_St)) (h : f_X8_lead σ x1 x2 = some y) : mg_CT l yX8_lead wsX8_lead ({ frames := 2, cells := 0, slots := 0, locals := 43 } : Room) D [(cI, .int), (cZ, .boolean)] o (mg_mW g cI cZ σ) sz [.ref (g 0), .int x1, .int x2] (some (.int y.1)) (mg_mW g cI cZ y.2) 0 0 := by
  unfold mg_CT
  refine Met.ofW (cc := cX8_lead) (maxL := 4) (ret := (some .int)) (by decide) rfl ?_
  intro p e s m args below meth c s₁ B hml hv
  obtain ⟨rfl, hsz, hP, hK, hD0, hO⟩ := hv
  have hx := B.exec
  have hb := B.bytes
  have hr := B.returns
  have hts := atoms_spec (ws := wsX8_lead) B.pre
  have hown : s.vm.findClass RX8 = some m.cls := findClass_of_methodNamed B.named
  have hlocks := B.notSynchronized
  subst hsz
  have hD := hD0.self (sz := s.heap.size)
  generalize hAe : va_A (mg_mW g cI cZ σ) s.heap.size = A at hD hO ⊢
  have hA : ∀ q : Nat, s.heap.size ≤ q → A q := fun q h => by rw [← hAe]; exact Or.inr h
  have hw : mg_Wo D A s.heap s.heap [] (mg_mW g cI cZ σ) := ⟨hP, hD, va_S.rf⟩
  have G9 : CallFix p m c cX8_lead 4 s ([.ref (g 0), .int x1, .int x2] : List Value).toArray wsX8_lead RX8 := ⟨hx, hb, hml, hown, hts⟩
  clear hP hD hD0 hAe
  obtain ⟨H, hHe⟩ : ∃ H : Heap, H = s.heap := ⟨_, rfl⟩
  have w0_ := hts (.fieldLink RX8 47 "MoonGateModel" "thrown" "I") (by decide +kernel)
  have iX8_ : ∀ w ∈ wsX80, w ∈ wsX8_lead := (fun _ h => List.mem_cons_of_mem _ (List.mem_append_right _ h))
  have w2_ := hts (.fieldLink RX8 34 "MoonGateModel" "at" "[I") (by decide +kernel)
  have hl := lv_entry ([.ref (g 0), .int x1, .int x2]) (n := 4) (Nat.le_of_ble_eq_true rfl)
  rw [lg_entry_eq]
  generalize (lg_sl ([.ref (g 0), .int x1, .int x2]) ++ List.replicate (4 - (lg_sl ([.ref (g 0), .int x1, .int x2])).length) Slot.unset).toArray = ls at hl ⊢
  have hl : lv_has ls 4 [(0, .ref (g 0)), (1, .int x1), (2, .int x2)] := hl
  unfold f_X8_lead at h
  revert hw
  intro hw
  suffices K_ : ∀ (H : Heap) (locs : List Loc), mg_Wo D A s.heap H locs (mg_mW g cI cZ σ) → W p l e (headSpec wsX8_lead ({ frames := 2, cells := 0, slots := 0, locals := 43 } : Room)).room s m ([.ref (g 0), .int x1, .int x2] : List Value).toArray below meth c H locs 0 0 (MQ below (mg_Q D (mg_mW g cI cZ y.2) A (some (.int y.1))) ([.ref (g 0), .int x1, .int x2] : List Value).toArray s 0 0 A) (F0 m 0 ls []) from K_ _ _ hw
  clear hw hHe H
  intro H locs hw
  refine lv_aload_n hx hb dX8_lead_0 rfl (lv_at hl 0 rfl) ?_
  refine lv_iconst (v := 0) hx hb dX8_lead_1 (by decide) ?_
  refine mg_put (wd := mg_mW g cI cZ) (σ := σ) (v := 0) (ci := 8) (C := RX8) (T := TX8) (N := 15) hx hb hts iX8_ tyX8 tyX8_ok nmX8 hown hK hw 0 0 rfl rfl 0 (by decide) w0_ (fun _ h9 => h9) rfl (by decide +kernel) (Nat.le_of_ble_eq_true rfl) rfl dX8_lead_2 (fun H locs hw => ?_)
  refine lv_aload_n hx hb dX8_lead_5 rfl (lv_at hl 0 rfl) ?_
  refine lv_iload_n hx hb dX8_lead_6 rfl (lv_at hl 1 rfl) ?_
  obtain ⟨y1, h9_, h⟩ := mg_bind h
  refine mg_k (rv := (some (.int y1))) (va_runV (As := [.int x1]) (rest := []) G9 (k_X8_isPoet l D o cI cZ g H.size (mg_su σ 0 0 0) x1 y1 h9_) (cwV 1 hts gX8_lead_X8_isPoet rfl rfl rfl (by decide +kernel) ⟨Nat.le_of_ble_eq_true rfl, Nat.le_of_ble_eq_true rfl⟩) (mg_preV hK hO hA hw (q0 := 0) rfl rfl) rfl rfl hl.1 rfl (lv_room (Nat.le_of_ble_eq_true rfl)) dX8_lead_7 ⟨Nat.zero_le _, Nat.zero_le _⟩) hw hA (fun H locs hw => ?_)
  clear h9_
  refine mg_if_eq (tgt := 21) hx hb h dX8_lead_10 (by decide) (fun h => ?_) (fun h => ?_)
  · refine lv_aload_n hx hb dX8_lead_21 rfl (lv_at hl 0 rfl) ?_
    refine lv_iconst (v := 1) hx hb dX8_lead_22 (by decide) ?_
    obtain ⟨y2, h9_, h⟩ := mg_bind h
    refine mg_k (rv := (some (.int y2.1))) (va_runV (As := [.int 1]) (rest := []) G9 (k_X8_no l D o cI cZ g H.size (mg_su σ 0 0 0) 1 y2 h9_) (cwV 1 hts gX8_lead_X8_no rfl rfl rfl (by decide +kernel) ⟨Nat.le_of_ble_eq_true rfl, Nat.le_of_ble_eq_true rfl⟩) (mg_preV hK hO hA hw (q0 := 0) rfl rfl) rfl rfl hl.1 rfl (lv_room (Nat.le_of_ble_eq_true rfl)) dX8_lead_23 ⟨Nat.zero_le _, Nat.zero_le _⟩) hw hA (fun H locs hw => ?_)
    clear h9_
    cases h
    exact mg_eI hx hb hr hlocks hw (Nat.zero_le _) (Nat.zero_le _) dX8_lead_26
  · refine lv_aload_n hx hb dX8_lead_13 rfl (lv_at hl 0 rfl) ?_
    refine lv_iload_n hx hb dX8_lead_14 rfl (lv_at hl 2 rfl) ?_
    obtain ⟨y3, h9_, h⟩ := mg_bind h
    refine mg_k (rv := (some (.int y3))) (va_runV (As := [.int x2]) (rest := []) G9 (k_X8_isGate l D o cI cZ g H.size (mg_su σ 0 0 0) x2 y3 h9_) (cwV 1 hts gX8_lead_X8_isGate rfl rfl rfl (by decide +kernel) ⟨Nat.le_of_ble_eq_true rfl, Nat.le_of_ble_eq_true rfl⟩) (mg_preV hK hO hA hw (q0 := 0) rfl rfl) rfl rfl hl.1 rfl (lv_room (Nat.le_of_ble_eq_true rfl)) dX8_lead_15 ⟨Nat.zero_le _, Nat.zero_le _⟩) hw hA (fun H locs hw => ?_)
    clear h9_
    refine mg_if_ne (tgt := 27) hx hb h dX8_lead_18 (by decide) (fun h => ?_) (fun h => ?_)
    · refine lv_aload_n hx hb dX8_lead_27 rfl (lv_at hl 0 rfl) ?_
      refine va_get (D := D) (ci := 8) (v := .ref (g 11)) (C := RX8) (T := TX8) (N := 15) hx hb hts iX8_ hown hK hw.1 0 rfl rfl 12 (by decide) w2_ (fun _ h9 => h9) rfl dX8_lead_28 ?_
      refine lv_iload_n hx hb dX8_lead_31 rfl (lv_at hl 1 rfl) ?_
      refine mg_ald (σ := (mg_su σ 0 0 0)) (k := 11) (n := 5) hx hb hK hw 11 0 rfl rfl h dX8_lead_32 (fun v4 h => ?_)
      refine lv_istore_n (lv' := [(3, .int v4), (0, .ref (g 0)), (1, .int x1), (2, .int x2)]) hx hb dX8_lead_33 rfl hl (by decide) rfl (fun ls hl => ?_)
      refine lv_aload_n hx hb dX8_lead_34 rfl (lv_at hl 1 rfl) ?_
      refine va_get (D := D) (ci := 8) (v := .ref (g 11)) (C := RX8) (T := TX8) (N := 15) hx hb hts iX8_ hown hK hw.1 0 rfl rfl 12 (by decide) w2_ (fun _ h9 => h9) rfl dX8_lead_35 ?_
      refine lv_iload_n hx hb dX8_lead_38 rfl (lv_at hl 2 rfl) ?_
      refine lv_iload_n hx hb dX8_lead_39 rfl (lv_at hl 3 rfl) ?_
      refine mg_ast (wd := mg_mW g cI cZ) (σ := (mg_su σ 0 0 0)) (k := 11) (n := 5) hx hb hK hw 11 0 rfl (mg_mS_11 g cI cZ (mg_su σ 0 0 0)) rfl h dX8_lead_40 (fun s5 h H locs hw => ?_)
      refine lv_iload_n hx hb dX8_lead_41 rfl (lv_at hl 0 rfl) ?_
      cases h
      exact mg_eI hx hb hr hlocks hw (Nat.zero_le _) (Nat.zero_le _) dX8_lead_42
    · refine lv_aload_n hx hb dX8_lead_21 rfl (lv_at hl 0 rfl) ?_
      refine lv_iconst (v := 1) hx hb dX8_lead_22 (by decide) ?_
      obtain ⟨y6, h9_, h⟩ := mg_bind h
      refine mg_k (rv := (some (.int y6.1))) (va_runV (As := [.int 1]) (rest := []) G9 (k_X8_no l D o cI cZ g H.size (mg_su σ 0 0 0) 1 y6 h9_) (cwV 1 hts gX8_lead_X8_no rfl rfl rfl (by decide +kernel) ⟨Nat.le_of_ble_eq_true rfl, Nat.le_of_ble_eq_true rfl⟩) (mg_preV hK hO hA hw (q0 := 0) rfl rfl) rfl rfl hl.1 rfl (lv_room (Nat.le_of_ble_eq_true rfl)) dX8_lead_23 ⟨Nat.zero_le _, Nat.zero_le _⟩) hw hA (fun H locs hw => ?_)
      clear h9_
      cases h
      exact mg_eI hx hb hr hlocks hw (Nat.zero_le _) (Nat.zero_le _) dX8_lead_26
set_option maxHeartbeats 4000000 in
set_option maxRecDepth 100000 in
theorem k_X8_lines (l : Launch) (D : va_G) (o : Nat → Nat) (cI cZ : ClassId) (g : Nat → Nat) (sz : Nat) (σ : mg_St) (x1 : Int32) (y : (Int32 × mg_St)) (h : f_X8_lines σ x1 = some y) : mg_CT l yX8_lines wsX8_lines ({ frames := 2, cells := 0, slots := 0, locals := 43 } : Room) D [(cI, .int), (cZ, .boolean)] o (mg_mW g cI cZ σ) sz [.ref (g 0), .int x1] (some (.int y.1)) (mg_mW g cI cZ y.2) 0 0 := by
  unfold mg_CT
  refine Met.ofW (cc := cX8_lines) (maxL := 2) (ret := (some .int)) (by decide) rfl ?_
  intro p e s m args below meth c s₁ B hml hv
  obtain ⟨rfl, hsz, hP, hK, hD0, hO⟩ := hv
  have hx := B.exec
  have hb := B.bytes
  have hr := B.returns
  have hts := atoms_spec (ws := wsX8_lines) B.pre
  have hown : s.vm.findClass RX8 = some m.cls := findClass_of_methodNamed B.named
  have hlocks := B.notSynchronized
  subst hsz
  have hD := hD0.self (sz := s.heap.size)
  generalize hAe : va_A (mg_mW g cI cZ σ) s.heap.size = A at hD hO ⊢
  have hA : ∀ q : Nat, s.heap.size ≤ q → A q := fun q h => by rw [← hAe]; exact Or.inr h
  have hw : mg_Wo D A s.heap s.heap [] (mg_mW g cI cZ σ) := ⟨hP, hD, va_S.rf⟩
  have G9 : CallFix p m c cX8_lines 2 s ([.ref (g 0), .int x1] : List Value).toArray wsX8_lines RX8 := ⟨hx, hb, hml, hown, hts⟩
  clear hP hD hD0 hAe
  obtain ⟨H, hHe⟩ : ∃ H : Heap, H = s.heap := ⟨_, rfl⟩
  have w0_ := hts (.fieldLink RX8 47 "MoonGateModel" "thrown" "I") (by decide +kernel)
  have iX8_ : ∀ w ∈ wsX80, w ∈ wsX8_lines := (fun _ h => List.mem_cons_of_mem _ (List.mem_append_left _ (List.mem_append_right _ h)))
  have w2_ := hts (.fieldLink RX8 40 "MoonGateModel" "s" "LMoonGateModel$Days;") (by decide +kernel)
  have iX7_ : ∀ w ∈ wsX70, w ∈ wsX8_lines := (fun _ h => List.mem_cons_of_mem _ (List.mem_append_right _ h))
  have hl := lv_entry ([.ref (g 0), .int x1]) (n := 2) (Nat.le_of_ble_eq_true rfl)
  rw [lg_entry_eq]
  generalize (lg_sl ([.ref (g 0), .int x1]) ++ List.replicate (2 - (lg_sl ([.ref (g 0), .int x1])).length) Slot.unset).toArray = ls at hl ⊢
  have hl : lv_has ls 2 [(0, .ref (g 0)), (1, .int x1)] := hl
  unfold f_X8_lines at h
  revert hw
  intro hw
  suffices K_ : ∀ (H : Heap) (locs : List Loc), mg_Wo D A s.heap H locs (mg_mW g cI cZ σ) → W p l e (headSpec wsX8_lines ({ frames := 2, cells := 0, slots := 0, locals := 43 } : Room)).room s m ([.ref (g 0), .int x1] : List Value).toArray below meth c H locs 0 0 (MQ below (mg_Q D (mg_mW g cI cZ y.2) A (some (.int y.1))) ([.ref (g 0), .int x1] : List Value).toArray s 0 0 A) (F0 m 0 ls []) from K_ _ _ hw
  clear hw hHe H
  intro H locs hw
  refine lv_aload_n hx hb dX8_lines_0 rfl (lv_at hl 0 rfl) ?_
  refine lv_iconst (v := 0) hx hb dX8_lines_1 (by decide) ?_
  refine mg_put (wd := mg_mW g cI cZ) (σ := σ) (v := 0) (ci := 8) (C := RX8) (T := TX8) (N := 15) hx hb hts iX8_ tyX8 tyX8_ok nmX8 hown hK hw 0 0 rfl rfl 0 (by decide) w0_ (fun _ h9 => h9) rfl (by decide +kernel) (Nat.le_of_ble_eq_true rfl) rfl dX8_lines_2 (fun H locs hw => ?_)
  refine lv_aload_n hx hb dX8_lines_5 rfl (lv_at hl 0 rfl) ?_
  refine lv_iload_n hx hb dX8_lines_6 rfl (lv_at hl 1 rfl) ?_
  obtain ⟨y1, h9_, h⟩ := mg_bind h
  refine mg_k (rv := (some (.int y1))) (va_runV (As := [.int x1]) (rest := []) G9 (k_X8_isPoet l D o cI cZ g H.size (mg_su σ 0 0 0) x1 y1 h9_) (cwV 1 hts gX8_lines_X8_isPoet rfl rfl rfl (by decide +kernel) ⟨Nat.le_of_ble_eq_true rfl, Nat.le_of_ble_eq_true rfl⟩) (mg_preV hK hO hA hw (q0 := 0) rfl rfl) rfl rfl hl.1 rfl (lv_room (Nat.le_of_ble_eq_true rfl)) dX8_lines_7 ⟨Nat.zero_le _, Nat.zero_le _⟩) hw hA (fun H locs hw => ?_)
  clear h9_
  refine mg_if_eq (tgt := 25) hx hb h dX8_lines_10 (by decide) (fun h => ?_) (fun h => ?_)
  · refine lv_aload_n hx hb dX8_lines_25 rfl (lv_at hl 0 rfl) ?_
    refine lv_iconst (v := 1) hx hb dX8_lines_26 (by decide) ?_
    obtain ⟨y2, h9_, h⟩ := mg_bind h
    refine mg_k (rv := (some (.int y2.1))) (va_runV (As := [.int 1]) (rest := []) G9 (k_X8_no l D o cI cZ g H.size (mg_su σ 0 0 0) 1 y2 h9_) (cwV 1 hts gX8_lines_X8_no rfl rfl rfl (by decide +kernel) ⟨Nat.le_of_ble_eq_true rfl, Nat.le_of_ble_eq_true rfl⟩) (mg_preV hK hO hA hw (q0 := 0) rfl rfl) rfl rfl hl.1 rfl (lv_room (Nat.le_of_ble_eq_true rfl)) dX8_lines_27 ⟨Nat.zero_le _, Nat.zero_le _⟩) hw hA (fun H locs hw => ?_)
    clear h9_
    cases h
    exact mg_eI hx hb hr hlocks hw (Nat.zero_le _) (Nat.zero_le _) dX8_lines_30
  · refine lv_aload_n hx hb dX8_lines_13 rfl (lv_at hl 0 rfl) ?_
    refine va_get (D := D) (ci := 8) (v := .ref (g 1)) (C := RX8) (T := TX8) (N := 15) hx hb hts iX8_ hown hK hw.1 0 rfl rfl 13 (by decide) w2_ (fun _ h9 => h9) rfl dX8_lines_14 ?_
    refine va_getN (D := D) (ci := 7) (v := .ref (g 13)) (C := RX7) (T := TX7) (N := 4) hx hb hts iX7_ hown hK hw.1 1 rfl rfl 3 (by decide) (va_Nw.use rfl (hO.2.2.2.2.2.2.2.2.2.2.2.2.2.2.1)) (fun _ h9 => h9) rfl dX8_lines_17 ?_
    refine lv_iload_n hx hb dX8_lines_20 rfl (lv_at hl 1 rfl) ?_
    refine mg_ald (σ := (mg_su σ 0 0 0)) (k := 13) (n := 5) hx hb hK hw 13 0 rfl rfl h dX8_lines_21 (fun v3 h => ?_)
    refine lv_goto (tgt := 30) hx hb dX8_lines_22 (by decide) ?_
    cases h
    exact mg_eI hx hb hr hlocks hw (Nat.zero_le _) (Nat.zero_le _) dX8_lines_30
set_option maxHeartbeats 4000000 in
set_option maxRecDepth 100000 in
theorem k_X8_cellsLike (l : Launch) (D : va_G) (o : Nat → Nat) (cI cZ : ClassId) (g : Nat → Nat) (sz : Nat) (σ : mg_St) (x1 : Int32) (y : Int32) (h : f_X8_cellsLike σ x1 = some y) : mg_CT l yX8_cellsLike wsX8_cellsLike ({ frames := 0, cells := 0, slots := 0, locals := 0 } : Room) D [(cI, .int), (cZ, .boolean)] o (mg_mW g cI cZ σ) sz [.ref (g 0), .int x1] (some (.int y)) (mg_mW g cI cZ σ) 0 0 := by
  unfold mg_CT
  refine Met.ofW (cc := cX8_cellsLike) (maxL := 7) (ret := (some .int)) (by decide) rfl ?_
  intro p e s m args below meth c s₁ B hml hv
  obtain ⟨rfl, hsz, hP, hK, hD0, hO⟩ := hv
  have hx := B.exec
  have hb := B.bytes
  have hr := B.returns
  have hts := atoms_spec (ws := wsX8_cellsLike) B.pre
  have hown : s.vm.findClass RX8 = some m.cls := findClass_of_methodNamed B.named
  have hlocks := B.notSynchronized
  subst hsz
  have hD := hD0.self (sz := s.heap.size)
  generalize hAe : va_A (mg_mW g cI cZ σ) s.heap.size = A at hD hO ⊢
  have hA : ∀ q : Nat, s.heap.size ≤ q → A q := fun q h => by rw [← hAe]; exact Or.inr h
  have hw : mg_Wo D A s.heap s.heap [] (mg_mW g cI cZ σ) := ⟨hP, hD, va_S.rf⟩
  have G9 : CallFix p m c cX8_cellsLike 7 s ([.ref (g 0), .int x1] : List Value).toArray wsX8_cellsLike RX8 := ⟨hx, hb, hml, hown, hts⟩
  clear hP hD hD0 hAe
  obtain ⟨H, hHe⟩ : ∃ H : Heap, H = s.heap := ⟨_, rfl⟩
  have w0_ := hts (.fieldLink RX8 9 "MoonGateModel" "kind" "[I") (by decide +kernel)
  have iX8_ : ∀ w ∈ wsX80, w ∈ wsX8_cellsLike := (fun _ h => List.mem_cons_of_mem _ (List.mem_append_right _ h))
  have hl := lv_entry ([.ref (g 0), .int x1]) (n := 7) (Nat.le_of_ble_eq_true rfl)
  rw [lg_entry_eq]
  generalize (lg_sl ([.ref (g 0), .int x1]) ++ List.replicate (7 - (lg_sl ([.ref (g 0), .int x1])).length) Slot.unset).toArray = ls at hl ⊢
  have hl : lv_has ls 7 [(0, .ref (g 0)), (1, .int x1)] := hl
  unfold f_X8_cellsLike at h
  revert hw
  intro hw
  suffices K_ : ∀ (H : Heap) (locs : List Loc), mg_Wo D A s.heap H locs (mg_mW g cI cZ σ) → W p l e (headSpec wsX8_cellsLike ({ frames := 0, cells := 0, slots := 0, locals := 0 } : Room)).room s m ([.ref (g 0), .int x1] : List Value).toArray below meth c H locs 0 0 (MQ below (mg_Q D (mg_mW g cI cZ σ) A (some (.int y))) ([.ref (g 0), .int x1] : List Value).toArray s 0 0 A) (F0 m 0 ls []) from K_ _ _ hw
  clear hw hHe H
  intro H locs hw
  refine lv_iconst (v := 0) hx hb dX8_cellsLike_0 (by decide) ?_
  refine lv_istore_n (lv' := [(2, .int 0), (0, .ref (g 0)), (1, .int x1)]) hx hb dX8_cellsLike_1 rfl hl (by decide) rfl (fun ls hl => ?_)
  refine lv_aload_n hx hb dX8_cellsLike_2 rfl (lv_at hl 1 rfl) ?_
  refine va_get (D := D) (ci := 8) (v := .ref (g 3)) (C := RX8) (T := TX8) (N := 15) hx hb hts iX8_ hown hK hw.1 0 rfl rfl 1 (by decide) w0_ (fun _ h9 => h9) rfl dX8_cellsLike_3 ?_
  refine lv_astore_n (lv' := [(3, .ref (g 3)), (2, .int 0), (0, .ref (g 0)), (1, .int x1)]) hx hb dX8_cellsLike_6 rfl hl (by decide) rfl (fun ls hl => ?_)
  refine lv_aload_n hx hb dX8_cellsLike_7 rfl (lv_at hl 0 rfl) ?_
  refine va_alen (v := 70) hx hb hK hw.1 3 0 rfl rfl rfl dX8_cellsLike_8 ?_
  refine lv_istore (lv' := [(4, .int 70), (3, .ref (g 3)), (2, .int 0), (0, .ref (g 0)), (1, .int x1)]) hx hb dX8_cellsLike_9 hl (by decide) rfl (fun ls hl => ?_)
  refine lv_iconst (v := 0) hx hb dX8_cellsLike_11 (by decide) ?_
  refine lv_istore (lv' := [(5, .int 0), (4, .int 70), (3, .ref (g 3)), (2, .int 0), (0, .ref (g 0)), (1, .int x1)]) hx hb dX8_cellsLike_12 hl (by decide) rfl (fun ls hl => ?_)
  have L14_ : ∀ (n : Nat) (x2_14 : Int32) (x5_14 : Int32) (y14_ : Int32 × Int32), f_X8_cellsLike_14 σ x1 70 n x2_14 x5_14 = some y14_ → (∀ (H : Heap) (locs : List Loc) (ls : Array Slot), mg_Wo D A s.heap H locs (mg_mW g cI cZ σ) → lv_has ls 7 [(0, .ref (g 0)), (1, .int x1), (2, .int y14_.1), (3, .ref (g 3)), (4, .int 70), (5, .int y14_.2)] → W p l e (headSpec wsX8_cellsLike ({ frames := 0, cells := 0, slots := 0, locals := 0 } : Room)).room s m ([.ref (g 0), .int x1] : List Value).toArray below meth c H locs 0 0 (MQ below (mg_Q D (mg_mW g cI cZ σ) A (some (.int y))) ([.ref (g 0), .int x1] : List Value).toArray s 0 0 A) (F0 m 47 ls [])) → ∀ (H : Heap) (locs : List Loc) (ls : Array Slot), mg_Wo D A s.heap H locs (mg_mW g cI cZ σ) → lv_has ls 7 [(0, .ref (g 0)), (1, .int x1), (2, .int x2_14), (3, .ref (g 3)), (4, .int 70), (5, .int x5_14)] → W p l e (headSpec wsX8_cellsLike ({ frames := 0, cells := 0, slots := 0, locals := 0 } : Room)).room s m ([.ref (g 0), .int x1] : List Value).toArray below meth c H locs 0 0 (MQ below (mg_Q D (mg_mW g cI cZ σ) A (some (.int y))) ([.ref (g 0), .int x1] : List Value).toArray s 0 0 A) (F0 m 14 ls []) := by
    intro n
    induction n with
    | zero => intro x2_14 x5_14 y14_ h; rw [f_X8_cellsLike_14] at h; cases h
    | succ n ih =>
      intro x2_14 x5_14 y14_ h kc H locs ls hw hl
      rw [f_X8_cellsLike_14] at h
      refine lv_iload hx hb dX8_cellsLike_14 (lv_at hl 5 rfl) ?_
      refine lv_iload hx hb dX8_cellsLike_16 (lv_at hl 4 rfl) ?_
      refine mg_icmp_ge (tgt := 47) hx hb h dX8_cellsLike_18 (by decide) (fun h => ?_) (fun h => ?_)
      · cases h
        exact kc H locs ls hw (lv_sub hl [0, 1, 2, 3, 4, 5] rfl)
      · refine lv_aload_n hx hb dX8_cellsLike_21 rfl (lv_at hl 3 rfl) ?_
        refine lv_iload hx hb dX8_cellsLike_22 (lv_at hl 5 rfl) ?_
        refine mg_ald (σ := σ) (k := 3) (n := 70) hx hb hK hw 3 0 rfl rfl h dX8_cellsLike_24 (fun v2 h => ?_)
        refine lv_istore (lv' := [(6, .int v2), (0, .ref (g 0)), (1, .int x1), (2, .int x2_14), (3, .ref (g 3)), (4, .int 70), (5, .int x5_14)]) hx hb dX8_cellsLike_25 hl (by decide) rfl (fun ls hl => ?_)
        refine lv_iload_n hx hb dX8_cellsLike_27 rfl (lv_at hl 3 rfl) ?_
        refine lv_iload hx hb dX8_cellsLike_28 (lv_at hl 0 rfl) ?_
        refine lv_iload_n hx hb dX8_cellsLike_30 rfl (lv_at hl 2 rfl) ?_
        refine mg_icmp_ne (tgt := 38) hx hb h dX8_cellsLike_31 (by decide) (fun h => ?_) (fun h => ?_)
        · refine lv_iconst (v := 0) hx hb dX8_cellsLike_38 (by decide) ?_
          refine lv_iadd hx hb dX8_cellsLike_39 ?_
          refine lv_istore_n (lv' := [(2, .int (x2_14 + 0)), (6, .int v2), (0, .ref (g 0)), (1, .int x1), (3, .ref (g 3)), (4, .int 70), (5, .int x5_14)]) hx hb dX8_cellsLike_40 rfl hl (by decide) rfl (fun ls hl => ?_)
          refine lv_iinc (v := (x5_14 + 1)) (lv' := [(5, .int (x5_14 + 1)), (2, .int (x2_14 + 0)), (6, .int v2), (0, .ref (g 0)), (1, .int x1), (3, .ref (g 3)), (4, .int 70)]) hx hb dX8_cellsLike_41 hl (k := 6) rfl rfl (by decide) rfl (fun ls hl => ?_)
          refine lv_goto (tgt := 14) hx hb dX8_cellsLike_44 (by decide) ?_
          exact ih _ _ _ h kc H locs ls hw (lv_sub hl [3, 4, 1, 5, 6, 0] rfl)
        · refine lv_iconst (v := 1) hx hb dX8_cellsLike_34 (by decide) ?_
          refine lv_goto (tgt := 39) hx hb dX8_cellsLike_35 (by decide) ?_
          refine lv_iadd hx hb dX8_cellsLike_39 ?_
          refine lv_istore_n (lv' := [(2, .int (x2_14 + 1)), (6, .int v2), (0, .ref (g 0)), (1, .int x1), (3, .ref (g 3)), (4, .int 70), (5, .int x5_14)]) hx hb dX8_cellsLike_40 rfl hl (by decide) rfl (fun ls hl => ?_)
          refine lv_iinc (v := (x5_14 + 1)) (lv' := [(5, .int (x5_14 + 1)), (2, .int (x2_14 + 1)), (6, .int v2), (0, .ref (g 0)), (1, .int x1), (3, .ref (g 3)), (4, .int 70)]) hx hb dX8_cellsLike_41 hl (k := 6) rfl rfl (by decide) rfl (fun ls hl => ?_)
          refine lv_goto (tgt := 14) hx hb dX8_cellsLike_44 (by decide) ?_
          exact ih _ _ _ h kc H locs ls hw (lv_sub hl [3, 4, 1, 5, 6, 0] rfl)
  obtain ⟨y1, h9_, h⟩ := mg_bind h
  refine L14_ _ _ _ _ h9_ (fun H locs ls hw hl => ?_) H locs ls hw (lv_sub hl [4, 5, 3, 2, 1, 0] rfl)
  clear L14_ h9_
  refine lv_iload_n hx hb dX8_cellsLike_47 rfl (lv_at hl 2 rfl) ?_
  cases h
  exact mg_eI hx hb hr hlocks hw (Nat.zero_le _) (Nat.zero_le _) dX8_cellsLike_48
set_option maxHeartbeats 4000000 in
set_option maxRecDepth 100000 in
theorem k_X8_written_1 (l : Launch) (D : va_G) (o : Nat → Nat) (cI cZ : ClassId) (g : Nat → Nat) (sz : Nat) (σ : mg_St)  (y : Int32) (h : f_X8_written σ 1  = some y) : mg_CT l yX8_written wsX8_written ({ frames := 0, cells := 0, slots := 0, locals := 0 } : Room) D [(cI, .int), (cZ, .boolean)] o (mg_mW g cI cZ σ) sz [.ref (g 0), .ref (g 1)] (some (.int y)) (mg_mW g cI cZ σ) 0 0 := by
  unfold mg_CT
  refine Met.ofW (cc := cX8_written) (maxL := 4) (ret := (some .int)) (by decide) rfl ?_
  intro p e s m args below meth c s₁ B hml hv
  obtain ⟨rfl, hsz, hP, hK, hD0, hO⟩ := hv
  have hx := B.exec
  have hb := B.bytes
  have hr := B.returns
  have hts := atoms_spec (ws := wsX8_written) B.pre
  have hown : s.vm.findClass RX8 = some m.cls := findClass_of_methodNamed B.named
  have hlocks := B.notSynchronized
  subst hsz
  have hD := hD0.self (sz := s.heap.size)
  generalize hAe : va_A (mg_mW g cI cZ σ) s.heap.size = A at hD hO ⊢
  have hA : ∀ q : Nat, s.heap.size ≤ q → A q := fun q h => by rw [← hAe]; exact Or.inr h
  have hw : mg_Wo D A s.heap s.heap [] (mg_mW g cI cZ σ) := ⟨hP, hD, va_S.rf⟩
  have G9 : CallFix p m c cX8_written 4 s ([.ref (g 0), .ref (g 1)] : List Value).toArray wsX8_written RX8 := ⟨hx, hb, hml, hown, hts⟩
  clear hP hD hD0 hAe
  obtain ⟨H, hHe⟩ : ∃ H : Heap, H = s.heap := ⟨_, rfl⟩
  have w0_ := hts (.fieldLink RX8 58 "MoonGateModel" "poets" "I") (by decide +kernel)
  have iX8_ : ∀ w ∈ wsX80, w ∈ wsX8_written := (fun _ h => List.mem_cons_of_mem _ (List.mem_append_left _ (List.mem_append_right _ h)))
  have iX7_ : ∀ w ∈ wsX70, w ∈ wsX8_written := (fun _ h => List.mem_cons_of_mem _ (List.mem_append_right _ h))
  have hl := lv_entry ([.ref (g 0), .ref (g 1)]) (n := 4) (Nat.le_of_ble_eq_true rfl)
  rw [lg_entry_eq]
  generalize (lg_sl ([.ref (g 0), .ref (g 1)]) ++ List.replicate (4 - (lg_sl ([.ref (g 0), .ref (g 1)])).length) Slot.unset).toArray = ls at hl ⊢
  have hl : lv_has ls 4 [(0, .ref (g 0)), (1, .ref (g 1))] := hl
  unfold f_X8_written at h
  revert hw
  intro hw
  suffices K_ : ∀ (H : Heap) (locs : List Loc), mg_Wo D A s.heap H locs (mg_mW g cI cZ σ) → W p l e (headSpec wsX8_written ({ frames := 0, cells := 0, slots := 0, locals := 0 } : Room)).room s m ([.ref (g 0), .ref (g 1)] : List Value).toArray below meth c H locs 0 0 (MQ below (mg_Q D (mg_mW g cI cZ σ) A (some (.int y))) ([.ref (g 0), .ref (g 1)] : List Value).toArray s 0 0 A) (F0 m 0 ls []) from K_ _ _ hw
  clear hw hHe H
  intro H locs hw
  refine lv_iconst (v := 0) hx hb dX8_written_0 (by decide) ?_
  refine lv_istore_n (lv' := [(2, .int 0), (0, .ref (g 0)), (1, .ref (g 1))]) hx hb dX8_written_1 rfl hl (by decide) rfl (fun ls hl => ?_)
  refine lv_iconst (v := 0) hx hb dX8_written_2 (by decide) ?_
  refine lv_istore_n (lv' := [(3, .int 0), (2, .int 0), (0, .ref (g 0)), (1, .ref (g 1))]) hx hb dX8_written_3 rfl hl (by decide) rfl (fun ls hl => ?_)
  have L4_ : ∀ (n : Nat) (x2_4 : Int32) (x3_4 : Int32) (y4_ : Int32 × Int32), f_X8_written_4 σ 1 n x2_4 x3_4 = some y4_ → (∀ (H : Heap) (locs : List Loc) (ls : Array Slot), mg_Wo D A s.heap H locs (mg_mW g cI cZ σ) → lv_has ls 4 [(0, .ref (g 0)), (1, .ref (g 1)), (2, .int y4_.1), (3, .int y4_.2)] → W p l e (headSpec wsX8_written ({ frames := 0, cells := 0, slots := 0, locals := 0 } : Room)).room s m ([.ref (g 0), .ref (g 1)] : List Value).toArray below meth c H locs 0 0 (MQ below (mg_Q D (mg_mW g cI cZ σ) A (some (.int y))) ([.ref (g 0), .ref (g 1)] : List Value).toArray s 0 0 A) (F0 m 27 ls [])) → ∀ (H : Heap) (locs : List Loc) (ls : Array Slot), mg_Wo D A s.heap H locs (mg_mW g cI cZ σ) → lv_has ls 4 [(0, .ref (g 0)), (1, .ref (g 1)), (2, .int x2_4), (3, .int x3_4)] → W p l e (headSpec wsX8_written ({ frames := 0, cells := 0, slots := 0, locals := 0 } : Room)).room s m ([.ref (g 0), .ref (g 1)] : List Value).toArray below meth c H locs 0 0 (MQ below (mg_Q D (mg_mW g cI cZ σ) A (some (.int y))) ([.ref (g 0), .ref (g 1)] : List Value).toArray s 0 0 A) (F0 m 4 ls []) := by
    intro n
    induction n with
    | zero => intro x2_4 x3_4 y4_ h; rw [f_X8_written_4] at h; cases h
    | succ n ih =>
      intro x2_4 x3_4 y4_ h kc H locs ls hw hl
      rw [f_X8_written_4] at h
      refine lv_iload_n hx hb dX8_written_4 rfl (lv_at hl 3 rfl) ?_
      refine lv_aload_n hx hb dX8_written_5 rfl (lv_at hl 0 rfl) ?_
      refine va_get (D := D) (ci := 8) (v := .int (σ 0 11)) (C := RX8) (T := TX8) (N := 15) hx hb hts iX8_ hown hK hw.1 0 rfl rfl 11 (by decide) w0_ (fun _ h9 => h9) rfl dX8_written_6 ?_
      refine mg_icmp_ge (tgt := 27) hx hb h dX8_written_9 (by decide) (fun h => ?_) (fun h => ?_)
      · cases h
        exact kc H locs ls hw (lv_sub hl [0, 1, 2, 3] rfl)
      · refine lv_iload_n hx hb dX8_written_12 rfl (lv_at hl 2 rfl) ?_
        refine lv_aload_n hx hb dX8_written_13 rfl (lv_at hl 1 rfl) ?_
        refine va_getN (D := D) (ci := 7) (v := .ref (g 13)) (C := RX7) (T := TX7) (N := 4) hx hb hts iX7_ hown hK hw.1 1 rfl rfl 3 (by decide) (va_Nw.use rfl (hO.2.2.2.2.2.2.2.2.2.2.2.2.2.2.1)) (fun _ h9 => h9) rfl dX8_written_14 ?_
        refine lv_iload_n hx hb dX8_written_17 rfl (lv_at hl 3 rfl) ?_
        refine mg_ald (σ := σ) (k := (2 * 1 + 11)) (n := 5) hx hb hK hw 13 0 rfl rfl h dX8_written_18 (fun v2 h => ?_)
        refine lv_iadd hx hb dX8_written_19 ?_
        refine lv_istore_n (lv' := [(2, .int (x2_4 + v2)), (0, .ref (g 0)), (1, .ref (g 1)), (3, .int x3_4)]) hx hb dX8_written_20 rfl hl (by decide) rfl (fun ls hl => ?_)
        refine lv_iinc (v := (x3_4 + 1)) (lv' := [(3, .int (x3_4 + 1)), (2, .int (x2_4 + v2)), (0, .ref (g 0)), (1, .ref (g 1))]) hx hb dX8_written_21 hl (k := 3) rfl rfl (by decide) rfl (fun ls hl => ?_)
        refine lv_goto (tgt := 4) hx hb dX8_written_24 (by decide) ?_
        exact ih _ _ _ h kc H locs ls hw (lv_sub hl [2, 3, 1, 0] rfl)
  obtain ⟨y1, h9_, h⟩ := mg_bind h
  refine L4_ _ _ _ _ h9_ (fun H locs ls hw hl => ?_) H locs ls hw (lv_sub hl [2, 3, 1, 0] rfl)
  clear L4_ h9_
  refine lv_iload_n hx hb dX8_written_27 rfl (lv_at hl 2 rfl) ?_
  cases h
  exact mg_eI hx hb hr hlocks hw (Nat.zero_le _) (Nat.zero_le _) dX8_written_28
set_option maxHeartbeats 4000000 in
set_option maxRecDepth 100000 in
theorem k_X8_written_2 (l : Launch) (D : va_G) (o : Nat → Nat) (cI cZ : ClassId) (g : Nat → Nat) (sz : Nat) (σ : mg_St)  (y : Int32) (h : f_X8_written σ 2  = some y) : mg_CT l yX8_written wsX8_written ({ frames := 0, cells := 0, slots := 0, locals := 0 } : Room) D [(cI, .int), (cZ, .boolean)] o (mg_mW g cI cZ σ) sz [.ref (g 0), .ref (g 2)] (some (.int y)) (mg_mW g cI cZ σ) 0 0 := by
  unfold mg_CT
  refine Met.ofW (cc := cX8_written) (maxL := 4) (ret := (some .int)) (by decide) rfl ?_
  intro p e s m args below meth c s₁ B hml hv
  obtain ⟨rfl, hsz, hP, hK, hD0, hO⟩ := hv
  have hx := B.exec
  have hb := B.bytes
  have hr := B.returns
  have hts := atoms_spec (ws := wsX8_written) B.pre
  have hown : s.vm.findClass RX8 = some m.cls := findClass_of_methodNamed B.named
  have hlocks := B.notSynchronized
  subst hsz
  have hD := hD0.self (sz := s.heap.size)
  generalize hAe : va_A (mg_mW g cI cZ σ) s.heap.size = A at hD hO ⊢
  have hA : ∀ q : Nat, s.heap.size ≤ q → A q := fun q h => by rw [← hAe]; exact Or.inr h
  have hw : mg_Wo D A s.heap s.heap [] (mg_mW g cI cZ σ) := ⟨hP, hD, va_S.rf⟩
  have G9 : CallFix p m c cX8_written 4 s ([.ref (g 0), .ref (g 2)] : List Value).toArray wsX8_written RX8 := ⟨hx, hb, hml, hown, hts⟩
  clear hP hD hD0 hAe
  obtain ⟨H, hHe⟩ : ∃ H : Heap, H = s.heap := ⟨_, rfl⟩
  have w0_ := hts (.fieldLink RX8 58 "MoonGateModel" "poets" "I") (by decide +kernel)
  have iX8_ : ∀ w ∈ wsX80, w ∈ wsX8_written := (fun _ h => List.mem_cons_of_mem _ (List.mem_append_left _ (List.mem_append_right _ h)))
  have iX7_ : ∀ w ∈ wsX70, w ∈ wsX8_written := (fun _ h => List.mem_cons_of_mem _ (List.mem_append_right _ h))
  have hl := lv_entry ([.ref (g 0), .ref (g 2)]) (n := 4) (Nat.le_of_ble_eq_true rfl)
  rw [lg_entry_eq]
  generalize (lg_sl ([.ref (g 0), .ref (g 2)]) ++ List.replicate (4 - (lg_sl ([.ref (g 0), .ref (g 2)])).length) Slot.unset).toArray = ls at hl ⊢
  have hl : lv_has ls 4 [(0, .ref (g 0)), (1, .ref (g 2))] := hl
  unfold f_X8_written at h
  revert hw
  intro hw
  suffices K_ : ∀ (H : Heap) (locs : List Loc), mg_Wo D A s.heap H locs (mg_mW g cI cZ σ) → W p l e (headSpec wsX8_written ({ frames := 0, cells := 0, slots := 0, locals := 0 } : Room)).room s m ([.ref (g 0), .ref (g 2)] : List Value).toArray below meth c H locs 0 0 (MQ below (mg_Q D (mg_mW g cI cZ σ) A (some (.int y))) ([.ref (g 0), .ref (g 2)] : List Value).toArray s 0 0 A) (F0 m 0 ls []) from K_ _ _ hw
  clear hw hHe H
  intro H locs hw
  refine lv_iconst (v := 0) hx hb dX8_written_0 (by decide) ?_
  refine lv_istore_n (lv' := [(2, .int 0), (0, .ref (g 0)), (1, .ref (g 2))]) hx hb dX8_written_1 rfl hl (by decide) rfl (fun ls hl => ?_)
  refine lv_iconst (v := 0) hx hb dX8_written_2 (by decide) ?_
  refine lv_istore_n (lv' := [(3, .int 0), (2, .int 0), (0, .ref (g 0)), (1, .ref (g 2))]) hx hb dX8_written_3 rfl hl (by decide) rfl (fun ls hl => ?_)
  have L4_ : ∀ (n : Nat) (x2_4 : Int32) (x3_4 : Int32) (y4_ : Int32 × Int32), f_X8_written_4 σ 2 n x2_4 x3_4 = some y4_ → (∀ (H : Heap) (locs : List Loc) (ls : Array Slot), mg_Wo D A s.heap H locs (mg_mW g cI cZ σ) → lv_has ls 4 [(0, .ref (g 0)), (1, .ref (g 2)), (2, .int y4_.1), (3, .int y4_.2)] → W p l e (headSpec wsX8_written ({ frames := 0, cells := 0, slots := 0, locals := 0 } : Room)).room s m ([.ref (g 0), .ref (g 2)] : List Value).toArray below meth c H locs 0 0 (MQ below (mg_Q D (mg_mW g cI cZ σ) A (some (.int y))) ([.ref (g 0), .ref (g 2)] : List Value).toArray s 0 0 A) (F0 m 27 ls [])) → ∀ (H : Heap) (locs : List Loc) (ls : Array Slot), mg_Wo D A s.heap H locs (mg_mW g cI cZ σ) → lv_has ls 4 [(0, .ref (g 0)), (1, .ref (g 2)), (2, .int x2_4), (3, .int x3_4)] → W p l e (headSpec wsX8_written ({ frames := 0, cells := 0, slots := 0, locals := 0 } : Room)).room s m ([.ref (g 0), .ref (g 2)] : List Value).toArray below meth c H locs 0 0 (MQ below (mg_Q D (mg_mW g cI cZ σ) A (some (.int y))) ([.ref (g 0), .ref (g 2)] : List Value).toArray s 0 0 A) (F0 m 4 ls []) := by
    intro n
    induction n with
    | zero => intro x2_4 x3_4 y4_ h; rw [f_X8_written_4] at h; cases h
    | succ n ih =>
      intro x2_4 x3_4 y4_ h kc H locs ls hw hl
      rw [f_X8_written_4] at h
      refine lv_iload_n hx hb dX8_written_4 rfl (lv_at hl 3 rfl) ?_
      refine lv_aload_n hx hb dX8_written_5 rfl (lv_at hl 0 rfl) ?_
      refine va_get (D := D) (ci := 8) (v := .int (σ 0 11)) (C := RX8) (T := TX8) (N := 15) hx hb hts iX8_ hown hK hw.1 0 rfl rfl 11 (by decide) w0_ (fun _ h9 => h9) rfl dX8_written_6 ?_
      refine mg_icmp_ge (tgt := 27) hx hb h dX8_written_9 (by decide) (fun h => ?_) (fun h => ?_)
      · cases h
        exact kc H locs ls hw (lv_sub hl [0, 1, 2, 3] rfl)
      · refine lv_iload_n hx hb dX8_written_12 rfl (lv_at hl 2 rfl) ?_
        refine lv_aload_n hx hb dX8_written_13 rfl (lv_at hl 1 rfl) ?_
        refine va_getN (D := D) (ci := 7) (v := .ref (g 15)) (C := RX7) (T := TX7) (N := 4) hx hb hts iX7_ hown hK hw.1 2 rfl rfl 3 (by decide) (va_Nw.use rfl (hO.2.2.2.2.2.2.2.2.2.2.2.2.2.2.1)) (fun _ h9 => h9) rfl dX8_written_14 ?_
        refine lv_iload_n hx hb dX8_written_17 rfl (lv_at hl 3 rfl) ?_
        refine mg_ald (σ := σ) (k := (2 * 2 + 11)) (n := 5) hx hb hK hw 15 0 rfl rfl h dX8_written_18 (fun v2 h => ?_)
        refine lv_iadd hx hb dX8_written_19 ?_
        refine lv_istore_n (lv' := [(2, .int (x2_4 + v2)), (0, .ref (g 0)), (1, .ref (g 2)), (3, .int x3_4)]) hx hb dX8_written_20 rfl hl (by decide) rfl (fun ls hl => ?_)
        refine lv_iinc (v := (x3_4 + 1)) (lv' := [(3, .int (x3_4 + 1)), (2, .int (x2_4 + v2)), (0, .ref (g 0)), (1, .ref (g 2))]) hx hb dX8_written_21 hl (k := 3) rfl rfl (by decide) rfl (fun ls hl => ?_)
        refine lv_goto (tgt := 4) hx hb dX8_written_24 (by decide) ?_
        exact ih _ _ _ h kc H locs ls hw (lv_sub hl [2, 3, 1, 0] rfl)
  obtain ⟨y1, h9_, h⟩ := mg_bind h
  refine L4_ _ _ _ _ h9_ (fun H locs ls hw hl => ?_) H locs ls hw (lv_sub hl [2, 3, 1, 0] rfl)
  clear L4_ h9_
  refine lv_iload_n hx hb dX8_written_27 rfl (lv_at hl 2 rfl) ?_
  cases h
  exact mg_eI hx hb hr hlocks hw (Nat.zero_le _) (Nat.zero_le _) dX8_written_28
set_option maxHeartbeats 4000000 in
set_option maxRecDepth 100000 in
theorem k_X8_sizes_1 (l : Launch) (D : va_G) (o : Nat → Nat) (cI cZ : ClassId) (g : Nat → Nat) (sz : Nat) (σ : mg_St)  (y : Int32) (h : f_X8_sizes σ 1  = some y) : mg_CT l yX8_sizes wsX8_sizes ({ frames := 0, cells := 0, slots := 0, locals := 0 } : Room) D [(cI, .int), (cZ, .boolean)] o (mg_mW g cI cZ σ) sz [.ref (g 0), .ref (g 1)] (some (.int y)) (mg_mW g cI cZ σ) 0 0 := by
  unfold mg_CT
  refine Met.ofW (cc := cX8_sizes) (maxL := 4) (ret := (some .int)) (by decide) rfl ?_
  intro p e s m args below meth c s₁ B hml hv
  obtain ⟨rfl, hsz, hP, hK, hD0, hO⟩ := hv
  have hx := B.exec
  have hb := B.bytes
  have hr := B.returns
  have hts := atoms_spec (ws := wsX8_sizes) B.pre
  have hown : s.vm.findClass RX8 = some m.cls := findClass_of_methodNamed B.named
  have hlocks := B.notSynchronized
  subst hsz
  have hD := hD0.self (sz := s.heap.size)
  generalize hAe : va_A (mg_mW g cI cZ σ) s.heap.size = A at hD hO ⊢
  have hA : ∀ q : Nat, s.heap.size ≤ q → A q := fun q h => by rw [← hAe]; exact Or.inr h
  have hw : mg_Wo D A s.heap s.heap [] (mg_mW g cI cZ σ) := ⟨hP, hD, va_S.rf⟩
  have G9 : CallFix p m c cX8_sizes 4 s ([.ref (g 0), .ref (g 1)] : List Value).toArray wsX8_sizes RX8 := ⟨hx, hb, hml, hown, hts⟩
  clear hP hD hD0 hAe
  obtain ⟨H, hHe⟩ : ∃ H : Heap, H = s.heap := ⟨_, rfl⟩
  have w0_ := hts (.fieldLink RX8 71 "MoonGateModel" "carps" "I") (by decide +kernel)
  have iX8_ : ∀ w ∈ wsX80, w ∈ wsX8_sizes := (fun _ h => List.mem_cons_of_mem _ (List.mem_append_left _ (List.mem_append_right _ h)))
  have w2_ := hts (.fieldLink RX8 25 "MoonGateModel" "sold" "[I") (by decide +kernel)
  have iX7_ : ∀ w ∈ wsX70, w ∈ wsX8_sizes := (fun _ h => List.mem_cons_of_mem _ (List.mem_append_right _ h))
  have hl := lv_entry ([.ref (g 0), .ref (g 1)]) (n := 4) (Nat.le_of_ble_eq_true rfl)
  rw [lg_entry_eq]
  generalize (lg_sl ([.ref (g 0), .ref (g 1)]) ++ List.replicate (4 - (lg_sl ([.ref (g 0), .ref (g 1)])).length) Slot.unset).toArray = ls at hl ⊢
  have hl : lv_has ls 4 [(0, .ref (g 0)), (1, .ref (g 1))] := hl
  unfold f_X8_sizes at h
  revert hw
  intro hw
  suffices K_ : ∀ (H : Heap) (locs : List Loc), mg_Wo D A s.heap H locs (mg_mW g cI cZ σ) → W p l e (headSpec wsX8_sizes ({ frames := 0, cells := 0, slots := 0, locals := 0 } : Room)).room s m ([.ref (g 0), .ref (g 1)] : List Value).toArray below meth c H locs 0 0 (MQ below (mg_Q D (mg_mW g cI cZ σ) A (some (.int y))) ([.ref (g 0), .ref (g 1)] : List Value).toArray s 0 0 A) (F0 m 0 ls []) from K_ _ _ hw
  clear hw hHe H
  intro H locs hw
  refine lv_iconst (v := 0) hx hb dX8_sizes_0 (by decide) ?_
  refine lv_istore_n (lv' := [(2, .int 0), (0, .ref (g 0)), (1, .ref (g 1))]) hx hb dX8_sizes_1 rfl hl (by decide) rfl (fun ls hl => ?_)
  refine lv_iconst (v := 0) hx hb dX8_sizes_2 (by decide) ?_
  refine lv_istore_n (lv' := [(3, .int 0), (2, .int 0), (0, .ref (g 0)), (1, .ref (g 1))]) hx hb dX8_sizes_3 rfl hl (by decide) rfl (fun ls hl => ?_)
  have L4_ : ∀ (n : Nat) (x2_4 : Int32) (x3_4 : Int32) (y4_ : Int32 × Int32), f_X8_sizes_4 σ 1 n x2_4 x3_4 = some y4_ → (∀ (H : Heap) (locs : List Loc) (ls : Array Slot), mg_Wo D A s.heap H locs (mg_mW g cI cZ σ) → lv_has ls 4 [(0, .ref (g 0)), (1, .ref (g 1)), (2, .int y4_.1), (3, .int y4_.2)] → W p l e (headSpec wsX8_sizes ({ frames := 0, cells := 0, slots := 0, locals := 0 } : Room)).room s m ([.ref (g 0), .ref (g 1)] : List Value).toArray below meth c H locs 0 0 (MQ below (mg_Q D (mg_mW g cI cZ σ) A (some (.int y))) ([.ref (g 0), .ref (g 1)] : List Value).toArray s 0 0 A) (F0 m 40 ls [])) → ∀ (H : Heap) (locs : List Loc) (ls : Array Slot), mg_Wo D A s.heap H locs (mg_mW g cI cZ σ) → lv_has ls 4 [(0, .ref (g 0)), (1, .ref (g 1)), (2, .int x2_4), (3, .int x3_4)] → W p l e (headSpec wsX8_sizes ({ frames := 0, cells := 0, slots := 0, locals := 0 } : Room)).room s m ([.ref (g 0), .ref (g 1)] : List Value).toArray below meth c H locs 0 0 (MQ below (mg_Q D (mg_mW g cI cZ σ) A (some (.int y))) ([.ref (g 0), .ref (g 1)] : List Value).toArray s 0 0 A) (F0 m 4 ls []) := by
    intro n
    induction n with
    | zero => intro x2_4 x3_4 y4_ h; rw [f_X8_sizes_4] at h; cases h
    | succ n ih =>
      intro x2_4 x3_4 y4_ h kc H locs ls hw hl
      rw [f_X8_sizes_4] at h
      refine lv_iload_n hx hb dX8_sizes_4 rfl (lv_at hl 3 rfl) ?_
      refine lv_aload_n hx hb dX8_sizes_5 rfl (lv_at hl 0 rfl) ?_
      refine va_get (D := D) (ci := 8) (v := .int (σ 0 5)) (C := RX8) (T := TX8) (N := 15) hx hb hts iX8_ hown hK hw.1 0 rfl rfl 5 (by decide) w0_ (fun _ h9 => h9) rfl dX8_sizes_6 ?_
      refine mg_icmp_ge (tgt := 40) hx hb h dX8_sizes_9 (by decide) (fun h => ?_) (fun h => ?_)
      · cases h
        exact kc H locs ls hw (lv_sub hl [0, 1, 2, 3] rfl)
      · refine lv_iload_n hx hb dX8_sizes_12 rfl (lv_at hl 2 rfl) ?_
        refine lv_aload_n hx hb dX8_sizes_13 rfl (lv_at hl 0 rfl) ?_
        refine va_get (D := D) (ci := 8) (v := .ref (g 8)) (C := RX8) (T := TX8) (N := 15) hx hb hts iX8_ hown hK hw.1 0 rfl rfl 7 (by decide) w2_ (fun _ h9 => h9) rfl dX8_sizes_14 ?_
        refine lv_iload_n hx hb dX8_sizes_17 rfl (lv_at hl 3 rfl) ?_
        refine mg_ald (σ := σ) (k := 8) (n := 30) hx hb hK hw 8 0 rfl rfl h dX8_sizes_18 (fun v2 h => ?_)
        refine mg_if_ne (tgt := 31) hx hb h dX8_sizes_19 (by decide) (fun h => ?_) (fun h => ?_)
        · refine lv_iconst (v := 0) hx hb dX8_sizes_31 (by decide) ?_
          refine lv_iadd hx hb dX8_sizes_32 ?_
          refine lv_istore_n (lv' := [(2, .int (x2_4 + 0)), (0, .ref (g 0)), (1, .ref (g 1)), (3, .int x3_4)]) hx hb dX8_sizes_33 rfl hl (by decide) rfl (fun ls hl => ?_)
          refine lv_iinc (v := (x3_4 + 1)) (lv' := [(3, .int (x3_4 + 1)), (2, .int (x2_4 + 0)), (0, .ref (g 0)), (1, .ref (g 1))]) hx hb dX8_sizes_34 hl (k := 3) rfl rfl (by decide) rfl (fun ls hl => ?_)
          refine lv_goto (tgt := 4) hx hb dX8_sizes_37 (by decide) ?_
          exact ih _ _ _ h kc H locs ls hw (lv_sub hl [2, 3, 1, 0] rfl)
        · refine lv_aload_n hx hb dX8_sizes_22 rfl (lv_at hl 1 rfl) ?_
          refine va_getN (D := D) (ci := 7) (v := .ref (g 12)) (C := RX7) (T := TX7) (N := 4) hx hb hts iX7_ hown hK hw.1 1 rfl rfl 2 (by decide) (va_Nw.use rfl (hO.2.2.2.2.2.2.2.2.2.2.2.2.2.1)) (fun _ h9 => h9) rfl dX8_sizes_23 ?_
          refine lv_iload_n hx hb dX8_sizes_26 rfl (lv_at hl 3 rfl) ?_
          refine mg_ald (σ := σ) (k := (2 * 1 + 10)) (n := 30) hx hb hK hw 12 0 rfl rfl h dX8_sizes_27 (fun v3 h => ?_)
          refine lv_goto (tgt := 32) hx hb dX8_sizes_28 (by decide) ?_
          refine lv_iadd hx hb dX8_sizes_32 ?_
          refine lv_istore_n (lv' := [(2, .int (x2_4 + v3)), (0, .ref (g 0)), (1, .ref (g 1)), (3, .int x3_4)]) hx hb dX8_sizes_33 rfl hl (by decide) rfl (fun ls hl => ?_)
          refine lv_iinc (v := (x3_4 + 1)) (lv' := [(3, .int (x3_4 + 1)), (2, .int (x2_4 + v3)), (0, .ref (g 0)), (1, .ref (g 1))]) hx hb dX8_sizes_34 hl (k := 3) rfl rfl (by decide) rfl (fun ls hl => ?_)
          refine lv_goto (tgt := 4) hx hb dX8_sizes_37 (by decide) ?_
          exact ih _ _ _ h kc H locs ls hw (lv_sub hl [2, 3, 1, 0] rfl)
  obtain ⟨y1, h9_, h⟩ := mg_bind h
  refine L4_ _ _ _ _ h9_ (fun H locs ls hw hl => ?_) H locs ls hw (lv_sub hl [2, 3, 1, 0] rfl)
  clear L4_ h9_
  refine lv_iload_n hx hb dX8_sizes_40 rfl (lv_at hl 2 rfl) ?_
  cases h
  exact mg_eI hx hb hr hlocks hw (Nat.zero_le _) (Nat.zero_le _) dX8_sizes_41
set_option maxHeartbeats 4000000 in
set_option maxRecDepth 100000 in
theorem k_X8_sizes_2 (l : Launch) (D : va_G) (o : Nat → Nat) (cI cZ : ClassId) (g : Nat → Nat) (sz : Nat) (σ : mg_St)  (y : Int32) (h : f_X8_sizes σ 2  = some y) : mg_CT l yX8_sizes wsX8_sizes ({ frames := 0, cells := 0, slots := 0, locals := 0 } : Room) D [(cI, .int), (cZ, .boolean)] o (mg_mW g cI cZ σ) sz [.ref (g 0), .ref (g 2)] (some (.int y)) (mg_mW g cI cZ σ) 0 0 := by
  unfold mg_CT
  refine Met.ofW (cc := cX8_sizes) (maxL := 4) (ret := (some .int)) (by decide) rfl ?_
  intro p e s m args below meth c s₁ B hml hv
  obtain ⟨rfl, hsz, hP, hK, hD0, hO⟩ := hv
  have hx := B.exec
  have hb := B.bytes
  have hr := B.returns
  have hts := atoms_spec (ws := wsX8_sizes) B.pre
  have hown : s.vm.findClass RX8 = some m.cls := findClass_of_methodNamed B.named
  have hlocks := B.notSynchronized
  subst hsz
  have hD := hD0.self (sz := s.heap.size)
  generalize hAe : va_A (mg_mW g cI cZ σ) s.heap.size = A at hD hO ⊢
  have hA : ∀ q : Nat, s.heap.size ≤ q → A q := fun q h => by rw [← hAe]; exact Or.inr h
  have hw : mg_Wo D A s.heap s.heap [] (mg_mW g cI cZ σ) := ⟨hP, hD, va_S.rf⟩
  have G9 : CallFix p m c cX8_sizes 4 s ([.ref (g 0), .ref (g 2)] : List Value).toArray wsX8_sizes RX8 := ⟨hx, hb, hml, hown, hts⟩
  clear hP hD hD0 hAe
  obtain ⟨H, hHe⟩ : ∃ H : Heap, H = s.heap := ⟨_, rfl⟩
  have w0_ := hts (.fieldLink RX8 71 "MoonGateModel" "carps" "I") (by decide +kernel)
  have iX8_ : ∀ w ∈ wsX80, w ∈ wsX8_sizes := (fun _ h => List.mem_cons_of_mem _ (List.mem_append_left _ (List.mem_append_right _ h)))
  have w2_ := hts (.fieldLink RX8 25 "MoonGateModel" "sold" "[I") (by decide +kernel)
  have iX7_ : ∀ w ∈ wsX70, w ∈ wsX8_sizes := (fun _ h => List.mem_cons_of_mem _ (List.mem_append_right _ h))
  have hl := lv_entry ([.ref (g 0), .ref (g 2)]) (n := 4) (Nat.le_of_ble_eq_true rfl)
  rw [lg_entry_eq]
  generalize (lg_sl ([.ref (g 0), .ref (g 2)]) ++ List.replicate (4 - (lg_sl ([.ref (g 0), .ref (g 2)])).length) Slot.unset).toArray = ls at hl ⊢
  have hl : lv_has ls 4 [(0, .ref (g 0)), (1, .ref (g 2))] := hl
  unfold f_X8_sizes at h
  revert hw
  intro hw
  suffices K_ : ∀ (H : Heap) (locs : List Loc), mg_Wo D A s.heap H locs (mg_mW g cI cZ σ) → W p l e (headSpec wsX8_sizes ({ frames := 0, cells := 0, slots := 0, locals := 0 } : Room)).room s m ([.ref (g 0), .ref (g 2)] : List Value).toArray below meth c H locs 0 0 (MQ below (mg_Q D (mg_mW g cI cZ σ) A (some (.int y))) ([.ref (g 0), .ref (g 2)] : List Value).toArray s 0 0 A) (F0 m 0 ls []) from K_ _ _ hw
  clear hw hHe H
  intro H locs hw
  refine lv_iconst (v := 0) hx hb dX8_sizes_0 (by decide) ?_
  refine lv_istore_n (lv' := [(2, .int 0), (0, .ref (g 0)), (1, .ref (g 2))]) hx hb dX8_sizes_1 rfl hl (by decide) rfl (fun ls hl => ?_)
  refine lv_iconst (v := 0) hx hb dX8_sizes_2 (by decide) ?_
  refine lv_istore_n (lv' := [(3, .int 0), (2, .int 0), (0, .ref (g 0)), (1, .ref (g 2))]) hx hb dX8_sizes_3 rfl hl (by decide) rfl (fun ls hl => ?_)
  have L4_ : ∀ (n : Nat) (x2_4 : Int32) (x3_4 : Int32) (y4_ : Int32 × Int32), f_X8_sizes_4 σ 2 n x2_4 x3_4 = some y4_ → (∀ (H : Heap) (locs : List Loc) (ls : Array Slot), mg_Wo D A s.heap H locs (mg_mW g cI cZ σ) → lv_has ls 4 [(0, .ref (g 0)), (1, .ref (g 2)), (2, .int y4_.1), (3, .int y4_.2)] → W p l e (headSpec wsX8_sizes ({ frames := 0, cells := 0, slots := 0, locals := 0 } : Room)).room s m ([.ref (g 0), .ref (g 2)] : List Value).toArray below meth c H locs 0 0 (MQ below (mg_Q D (mg_mW g cI cZ σ) A (some (.int y))) ([.ref (g 0), .ref (g 2)] : List Value).toArray s 0 0 A) (F0 m 40 ls [])) → ∀ (H : Heap) (locs : List Loc) (ls : Array Slot), mg_Wo D A s.heap H locs (mg_mW g cI cZ σ) → lv_has ls 4 [(0, .ref (g 0)), (1, .ref (g 2)), (2, .int x2_4), (3, .int x3_4)] → W p l e (headSpec wsX8_sizes ({ frames := 0, cells := 0, slots := 0, locals := 0 } : Room)).room s m ([.ref (g 0), .ref (g 2)] : List Value).toArray below meth c H locs 0 0 (MQ below (mg_Q D (mg_mW g cI cZ σ) A (some (.int y))) ([.ref (g 0), .ref (g 2)] : List Value).toArray s 0 0 A) (F0 m 4 ls []) := by
    intro n
    induction n with
    | zero => intro x2_4 x3_4 y4_ h; rw [f_X8_sizes_4] at h; cases h
    | succ n ih =>
      intro x2_4 x3_4 y4_ h kc H locs ls hw hl
      rw [f_X8_sizes_4] at h
      refine lv_iload_n hx hb dX8_sizes_4 rfl (lv_at hl 3 rfl) ?_
      refine lv_aload_n hx hb dX8_sizes_5 rfl (lv_at hl 0 rfl) ?_
      refine va_get (D := D) (ci := 8) (v := .int (σ 0 5)) (C := RX8) (T := TX8) (N := 15) hx hb hts iX8_ hown hK hw.1 0 rfl rfl 5 (by decide) w0_ (fun _ h9 => h9) rfl dX8_sizes_6 ?_
      refine mg_icmp_ge (tgt := 40) hx hb h dX8_sizes_9 (by decide) (fun h => ?_) (fun h => ?_)
      · cases h
        exact kc H locs ls hw (lv_sub hl [0, 1, 2, 3] rfl)
      · refine lv_iload_n hx hb dX8_sizes_12 rfl (lv_at hl 2 rfl) ?_
        refine lv_aload_n hx hb dX8_sizes_13 rfl (lv_at hl 0 rfl) ?_
        refine va_get (D := D) (ci := 8) (v := .ref (g 8)) (C := RX8) (T := TX8) (N := 15) hx hb hts iX8_ hown hK hw.1 0 rfl rfl 7 (by decide) w2_ (fun _ h9 => h9) rfl dX8_sizes_14 ?_
        refine lv_iload_n hx hb dX8_sizes_17 rfl (lv_at hl 3 rfl) ?_
        refine mg_ald (σ := σ) (k := 8) (n := 30) hx hb hK hw 8 0 rfl rfl h dX8_sizes_18 (fun v2 h => ?_)
        refine mg_if_ne (tgt := 31) hx hb h dX8_sizes_19 (by decide) (fun h => ?_) (fun h => ?_)
        · refine lv_iconst (v := 0) hx hb dX8_sizes_31 (by decide) ?_
          refine lv_iadd hx hb dX8_sizes_32 ?_
          refine lv_istore_n (lv' := [(2, .int (x2_4 + 0)), (0, .ref (g 0)), (1, .ref (g 2)), (3, .int x3_4)]) hx hb dX8_sizes_33 rfl hl (by decide) rfl (fun ls hl => ?_)
          refine lv_iinc (v := (x3_4 + 1)) (lv' := [(3, .int (x3_4 + 1)), (2, .int (x2_4 + 0)), (0, .ref (g 0)), (1, .ref (g 2))]) hx hb dX8_sizes_34 hl (k := 3) rfl rfl (by decide) rfl (fun ls hl => ?_)
          refine lv_goto (tgt := 4) hx hb dX8_sizes_37 (by decide) ?_
          exact ih _ _ _ h kc H locs ls hw (lv_sub hl [2, 3, 1, 0] rfl)
        · refine lv_aload_n hx hb dX8_sizes_22 rfl (lv_at hl 1 rfl) ?_
          refine va_getN (D := D) (ci := 7) (v := .ref (g 14)) (C := RX7) (T := TX7) (N := 4) hx hb hts iX7_ hown hK hw.1 2 rfl rfl 2 (by decide) (va_Nw.use rfl (hO.2.2.2.2.2.2.2.2.2.2.2.2.2.1)) (fun _ h9 => h9) rfl dX8_sizes_23 ?_
          refine lv_iload_n hx hb dX8_sizes_26 rfl (lv_at hl 3 rfl) ?_
          refine mg_ald (σ := σ) (k := (2 * 2 + 10)) (n := 30) hx hb hK hw 14 0 rfl rfl h dX8_sizes_27 (fun v3 h => ?_)
          refine lv_goto (tgt := 32) hx hb dX8_sizes_28 (by decide) ?_
          refine lv_iadd hx hb dX8_sizes_32 ?_
          refine lv_istore_n (lv' := [(2, .int (x2_4 + v3)), (0, .ref (g 0)), (1, .ref (g 2)), (3, .int x3_4)]) hx hb dX8_sizes_33 rfl hl (by decide) rfl (fun ls hl => ?_)
          refine lv_iinc (v := (x3_4 + 1)) (lv' := [(3, .int (x3_4 + 1)), (2, .int (x2_4 + v3)), (0, .ref (g 0)), (1, .ref (g 2))]) hx hb dX8_sizes_34 hl (k := 3) rfl rfl (by decide) rfl (fun ls hl => ?_)
          refine lv_goto (tgt := 4) hx hb dX8_sizes_37 (by decide) ?_
          exact ih _ _ _ h kc H locs ls hw (lv_sub hl [2, 3, 1, 0] rfl)
  obtain ⟨y1, h9_, h⟩ := mg_bind h
  refine L4_ _ _ _ _ h9_ (fun H locs ls hw hl => ?_) H locs ls hw (lv_sub hl [2, 3, 1, 0] rfl)
  clear L4_ h9_
  refine lv_iload_n hx hb dX8_sizes_40 rfl (lv_at hl 2 rfl) ?_
  cases h
  exact mg_eI hx hb hr hlocks hw (Nat.zero_le _) (Nat.zero_le _) dX8_sizes_41
set_option maxHeartbeats 4000000 in
set_option maxRecDepth 100000 in
theorem k_X8_counted (l : Launch) (D : va_G) (o : Nat → Nat) (cI cZ : ClassId) (g : Nat → Nat) (sz : Nat) (σ : mg_St) (x1 : Int32) (y : Int32) (h : f_X8_counted σ x1 = some y) : mg_CT l yX8_counted wsX8_counted ({ frames := 1, cells := 1, slots := 11, locals := 26 } : Room) D [(cI, .int), (cZ, .boolean)] o (mg_mW g cI cZ σ) sz [.ref (g 0), .int x1] (some (.int y)) (mg_mW g cI cZ σ) 1 11 := by
  unfold mg_CT
  refine Met.ofW (cc := cX8_counted) (maxL := 5) (ret := (some .int)) (by decide) rfl ?_
  intro p e s m args below meth c s₁ B hml hv
  obtain ⟨rfl, hsz, hP, hK, hD0, hO⟩ := hv
  have hx := B.exec
  have hb := B.bytes
  have hr := B.returns
  have hts := atoms_spec (ws := wsX8_counted) B.pre
  have hown : s.vm.findClass RX8 = some m.cls := findClass_of_methodNamed B.named
  have hlocks := B.notSynchronized
  subst hsz
  have hD := hD0.self (sz := s.heap.size)
  generalize hAe : va_A (mg_mW g cI cZ σ) s.heap.size = A at hD hO ⊢
  have hA : ∀ q : Nat, s.heap.size ≤ q → A q := fun q h => by rw [← hAe]; exact Or.inr h
  have hw : mg_Wo D A s.heap s.heap [] (mg_mW g cI cZ σ) := ⟨hP, hD, va_S.rf⟩
  have G9 : CallFix p m c cX8_counted 5 s ([.ref (g 0), .int x1] : List Value).toArray wsX8_counted RX8 := ⟨hx, hb, hml, hown, hts⟩
  clear hP hD hD0 hAe
  obtain ⟨H, hHe⟩ : ∃ H : Heap, H = s.heap := ⟨_, rfl⟩
  have w0_ := hts (.fieldLink RX8 19 "MoonGateModel" "pond" "[I") (by decide +kernel)
  have iX8_ : ∀ w ∈ wsX80, w ∈ wsX8_counted := (fun _ h => List.mem_cons_of_mem _ (List.mem_append_left _ (List.mem_append_right _ h)))
  have w2_ := hts (.fieldLink RX8 71 "MoonGateModel" "carps" "I") (by decide +kernel)
  have w3_ := hts (.fieldLink RX8 25 "MoonGateModel" "sold" "[I") (by decide +kernel)
  have w4_ := hts (.arrayClass .int) (by decide +kernel)
  have w5_ := hts (.fieldLink RX8 40 "MoonGateModel" "s" "LMoonGateModel$Days;") (by decide +kernel)
  have iX7_ : ∀ w ∈ wsX70, w ∈ wsX8_counted := (fun _ h => List.mem_cons_of_mem _ (List.mem_append_right _ h))
  have w7_ := hts (.fieldLink RX8 55 "MoonGateModel" "gates" "I") (by decide +kernel)
  have w8_ := hts (.fieldLink RX8 58 "MoonGateModel" "poets" "I") (by decide +kernel)
  have hl := lv_entry ([.ref (g 0), .int x1]) (n := 5) (Nat.le_of_ble_eq_true rfl)
  rw [lg_entry_eq]
  generalize (lg_sl ([.ref (g 0), .int x1]) ++ List.replicate (5 - (lg_sl ([.ref (g 0), .int x1])).length) Slot.unset).toArray = ls at hl ⊢
  have hl : lv_has ls 5 [(0, .ref (g 0)), (1, .int x1)] := hl
  unfold f_X8_counted at h
  revert hw
  intro hw
  suffices K_ : ∀ (H : Heap) (locs : List Loc), mg_Wo D A s.heap H locs (mg_mW g cI cZ σ) → W p l e (headSpec wsX8_counted ({ frames := 1, cells := 1, slots := 11, locals := 26 } : Room)).room s m ([.ref (g 0), .int x1] : List Value).toArray below meth c H locs 0 0 (MQ below (mg_Q D (mg_mW g cI cZ σ) A (some (.int y))) ([.ref (g 0), .int x1] : List Value).toArray s 1 11 A) (F0 m 0 ls []) from K_ _ _ hw
  clear hw hHe H
  intro H locs hw
  refine lv_iconst (v := 0) hx hb dX8_counted_0 (by decide) ?_
  refine lv_istore_n (lv' := [(2, .int 0), (0, .ref (g 0)), (1, .int x1)]) hx hb dX8_counted_1 rfl hl (by decide) rfl (fun ls hl => ?_)
  refine lv_iconst (v := 0) hx hb dX8_counted_2 (by decide) ?_
  refine lv_istore_n (lv' := [(3, .int 0), (2, .int 0), (0, .ref (g 0)), (1, .int x1)]) hx hb dX8_counted_3 rfl hl (by decide) rfl (fun ls hl => ?_)
  refine lv_iconst (v := 0) hx hb dX8_counted_4 (by decide) ?_
  refine lv_istore (lv' := [(4, .int 0), (3, .int 0), (2, .int 0), (0, .ref (g 0)), (1, .int x1)]) hx hb dX8_counted_5 hl (by decide) rfl (fun ls hl => ?_)
  have L7_ : ∀ (n : Nat) (x2_7 : Int32) (x4_7 : Int32) (y7_ : Int32 × Int32), f_X8_counted_7 σ x1 0 n x2_7 x4_7 = some y7_ → (∀ (H : Heap) (locs : List Loc) (ls : Array Slot), mg_Wo D A s.heap H locs (mg_mW g cI cZ σ) → lv_has ls 5 [(0, .ref (g 0)), (1, .int x1), (2, .int y7_.1), (3, .int 0), (4, .int y7_.2)] → W p l e (headSpec wsX8_counted ({ frames := 1, cells := 1, slots := 11, locals := 26 } : Room)).room s m ([.ref (g 0), .int x1] : List Value).toArray below meth c H locs 0 0 (MQ below (mg_Q D (mg_mW g cI cZ σ) A (some (.int y))) ([.ref (g 0), .int x1] : List Value).toArray s 1 11 A) (F0 m 40 ls [])) → ∀ (H : Heap) (locs : List Loc) (ls : Array Slot), mg_Wo D A s.heap H locs (mg_mW g cI cZ σ) → lv_has ls 5 [(0, .ref (g 0)), (1, .int x1), (2, .int x2_7), (3, .int 0), (4, .int x4_7)] → W p l e (headSpec wsX8_counted ({ frames := 1, cells := 1, slots := 11, locals := 26 } : Room)).room s m ([.ref (g 0), .int x1] : List Value).toArray below meth c H locs 0 0 (MQ below (mg_Q D (mg_mW g cI cZ σ) A (some (.int y))) ([.ref (g 0), .int x1] : List Value).toArray s 1 11 A) (F0 m 7 ls []) := by
    intro n
    induction n with
    | zero => intro x2_7 x4_7 y7_ h; rw [f_X8_counted_7] at h; cases h
    | succ n ih =>
      intro x2_7 x4_7 y7_ h kc H locs ls hw hl
      rw [f_X8_counted_7] at h
      refine lv_iload hx hb dX8_counted_7 (lv_at hl 4 rfl) ?_
      refine lv_bipush (v := 70) hx hb dX8_counted_9 (by decide) ?_
      refine mg_icmp_ge (tgt := 40) hx hb h dX8_counted_11 (by decide) (fun h => ?_) (fun h => ?_)
      · cases h
        exact kc H locs ls hw (lv_sub hl [0, 1, 2, 3, 4] rfl)
      · refine lv_iload_n hx hb dX8_counted_14 rfl (lv_at hl 2 rfl) ?_
        refine lv_aload_n hx hb dX8_counted_15 rfl (lv_at hl 0 rfl) ?_
        refine va_get (D := D) (ci := 8) (v := .ref (g 6)) (C := RX8) (T := TX8) (N := 15) hx hb hts iX8_ hown hK hw.1 0 rfl rfl 4 (by decide) w0_ (fun _ h9 => h9) rfl dX8_counted_16 ?_
        refine lv_iload hx hb dX8_counted_19 (lv_at hl 4 rfl) ?_
        refine mg_ald (σ := σ) (k := 6) (n := 70) hx hb hK hw 6 0 rfl rfl h dX8_counted_21 (fun v2 h => ?_)
        refine lv_iload hx hb dX8_counted_22 (lv_at hl 4 rfl) ?_
        refine mg_icmp_ne (tgt := 31) hx hb h dX8_counted_24 (by decide) (fun h => ?_) (fun h => ?_)
        · refine lv_iconst (v := 0) hx hb dX8_counted_31 (by decide) ?_
          refine lv_iadd hx hb dX8_counted_32 ?_
          refine lv_istore_n (lv' := [(2, .int (x2_7 + 0)), (0, .ref (g 0)), (1, .int x1), (3, .int 0), (4, .int x4_7)]) hx hb dX8_counted_33 rfl hl (by decide) rfl (fun ls hl => ?_)
          refine lv_iinc (v := (x4_7 + 1)) (lv' := [(4, .int (x4_7 + 1)), (2, .int (x2_7 + 0)), (0, .ref (g 0)), (1, .int x1), (3, .int 0)]) hx hb dX8_counted_34 hl (k := 4) rfl rfl (by decide) rfl (fun ls hl => ?_)
          refine lv_goto (tgt := 7) hx hb dX8_counted_37 (by decide) ?_
          exact ih _ _ _ h kc H locs ls hw (lv_sub hl [2, 3, 1, 4, 0] rfl)
        · refine lv_iconst (v := 1) hx hb dX8_counted_27 (by decide) ?_
          refine lv_goto (tgt := 32) hx hb dX8_counted_28 (by decide) ?_
          refine lv_iadd hx hb dX8_counted_32 ?_
          refine lv_istore_n (lv' := [(2, .int (x2_7 + 1)), (0, .ref (g 0)), (1, .int x1), (3, .int 0), (4, .int x4_7)]) hx hb dX8_counted_33 rfl hl (by decide) rfl (fun ls hl => ?_)
          refine lv_iinc (v := (x4_7 + 1)) (lv' := [(4, .int (x4_7 + 1)), (2, .int (x2_7 + 1)), (0, .ref (g 0)), (1, .int x1), (3, .int 0)]) hx hb dX8_counted_34 hl (k := 4) rfl rfl (by decide) rfl (fun ls hl => ?_)
          refine lv_goto (tgt := 7) hx hb dX8_counted_37 (by decide) ?_
          exact ih _ _ _ h kc H locs ls hw (lv_sub hl [2, 3, 1, 4, 0] rfl)
  obtain ⟨y1, h9_, h⟩ := mg_bind h
  refine L7_ _ _ _ _ h9_ (fun H locs ls hw hl => ?_) H locs ls hw (lv_sub hl [3, 4, 2, 1, 0] rfl)
  clear L7_ h9_
  refine lv_iconst (v := 0) hx hb dX8_counted_40 (by decide) ?_
  refine lv_istore (lv' := [(4, .int 0), (0, .ref (g 0)), (1, .int x1), (2, .int y1.1), (3, .int 0)]) hx hb dX8_counted_41 hl (by decide) rfl (fun ls hl => ?_)
  have L43_ : ∀ (n : Nat) (x3_43 : Int32) (x4_43 : Int32) (y43_ : Int32 × Int32), f_X8_counted_43 σ x1 y1.1 n x3_43 x4_43 = some y43_ → (∀ (H : Heap) (locs : List Loc) (ls : Array Slot), mg_Wo D A s.heap H locs (mg_mW g cI cZ σ) → lv_has ls 5 [(0, .ref (g 0)), (1, .int x1), (2, .int y1.1), (3, .int y43_.1), (4, .int y43_.2)] → W p l e (headSpec wsX8_counted ({ frames := 1, cells := 1, slots := 11, locals := 26 } : Room)).room s m ([.ref (g 0), .int x1] : List Value).toArray below meth c H locs 0 0 (MQ below (mg_Q D (mg_mW g cI cZ σ) A (some (.int y))) ([.ref (g 0), .int x1] : List Value).toArray s 1 11 A) (F0 m 70 ls [])) → ∀ (H : Heap) (locs : List Loc) (ls : Array Slot), mg_Wo D A s.heap H locs (mg_mW g cI cZ σ) → lv_has ls 5 [(0, .ref (g 0)), (1, .int x1), (2, .int y1.1), (3, .int x3_43), (4, .int x4_43)] → W p l e (headSpec wsX8_counted ({ frames := 1, cells := 1, slots := 11, locals := 26 } : Room)).room s m ([.ref (g 0), .int x1] : List Value).toArray below meth c H locs 0 0 (MQ below (mg_Q D (mg_mW g cI cZ σ) A (some (.int y))) ([.ref (g 0), .int x1] : List Value).toArray s 1 11 A) (F0 m 43 ls []) := by
    intro n
    induction n with
    | zero => intro x3_43 x4_43 y43_ h; rw [f_X8_counted_43] at h; cases h
    | succ n ih =>
      intro x3_43 x4_43 y43_ h kc H locs ls hw hl
      rw [f_X8_counted_43] at h
      refine lv_iload hx hb dX8_counted_43 (lv_at hl 4 rfl) ?_
      refine lv_aload_n hx hb dX8_counted_45 rfl (lv_at hl 0 rfl) ?_
      refine va_get (D := D) (ci := 8) (v := .int (σ 0 5)) (C := RX8) (T := TX8) (N := 15) hx hb hts iX8_ hown hK hw.1 0 rfl rfl 5 (by decide) w2_ (fun _ h9 => h9) rfl dX8_counted_46 ?_
      refine mg_icmp_ge (tgt := 70) hx hb h dX8_counted_49 (by decide) (fun h => ?_) (fun h => ?_)
      · cases h
        exact kc H locs ls hw (lv_sub hl [0, 1, 2, 3, 4] rfl)
      · refine lv_iload_n hx hb dX8_counted_52 rfl (lv_at hl 3 rfl) ?_
        refine lv_iconst (v := 1) hx hb dX8_counted_53 (by decide) ?_
        refine lv_aload_n hx hb dX8_counted_54 rfl (lv_at hl 0 rfl) ?_
        refine va_get (D := D) (ci := 8) (v := .ref (g 8)) (C := RX8) (T := TX8) (N := 15) hx hb hts iX8_ hown hK hw.1 0 rfl rfl 7 (by decide) w3_ (fun _ h9 => h9) rfl dX8_counted_55 ?_
        refine lv_iload hx hb dX8_counted_58 (lv_at hl 4 rfl) ?_
        refine mg_ald (σ := σ) (k := 8) (n := 30) hx hb hK hw 8 0 rfl rfl h dX8_counted_60 (fun v4 h => ?_)
        refine lv_isub hx hb dX8_counted_61 ?_
        refine lv_iadd hx hb dX8_counted_62 ?_
        refine lv_istore_n (lv' := [(3, .int (x3_43 + (1 - v4))), (0, .ref (g 0)), (1, .int x1), (2, .int y1.1), (4, .int x4_43)]) hx hb dX8_counted_63 rfl hl (by decide) rfl (fun ls hl => ?_)
        refine lv_iinc (v := (x4_43 + 1)) (lv' := [(4, .int (x4_43 + 1)), (3, .int (x3_43 + (1 - v4))), (0, .ref (g 0)), (1, .int x1), (2, .int y1.1)]) hx hb dX8_counted_64 hl (k := 4) rfl rfl (by decide) rfl (fun ls hl => ?_)
        refine lv_goto (tgt := 43) hx hb dX8_counted_67 (by decide) ?_
        exact ih _ _ _ h kc H locs ls hw (lv_sub hl [2, 3, 4, 1, 0] rfl)
  obtain ⟨y3, h9_, h⟩ := mg_bind h
  refine L43_ _ _ _ _ h9_ (fun H locs ls hw hl => ?_) H locs ls hw (lv_sub hl [1, 2, 3, 4, 0] rfl)
  clear L43_ h9_
  refine lv_bipush (v := 11) hx hb dX8_counted_70 (by decide) ?_
  refine mg_newa (n := 11) (N := 11) hx hb w4_ hK hw hA 0 rfl (by decide) rfl (by decide) (Nat.le_of_ble_eq_true rfl) (Nat.le_of_ble_eq_true rfl) dX8_counted_72 (fun q5 H hw => ?_)
  refine lv_dup hx hb dX8_counted_74 rfl ?_
  refine lv_iconst (v := 0) hx hb dX8_counted_75 (by decide) ?_
  refine lv_aload_n hx hb dX8_counted_76 rfl (lv_at hl 0 rfl) ?_
  refine va_get (D := D) (ci := 8) (v := .ref (g 1)) (C := RX8) (T := TX8) (N := 15) hx hb hts iX8_ hown hK hw.1 0 rfl rfl 13 (by decide) w5_ (fun _ h9 => h9) rfl dX8_counted_77 ?_
  refine va_getN (D := D) (ci := 7) (v := .int (σ 1 0)) (C := RX7) (T := TX7) (N := 4) hx hb hts iX7_ hown hK hw.1 1 rfl rfl 0 (by decide) (va_Nw.use rfl (hO.2.2.2.2.2.2.2.2.2.2.2.2.1)) (fun _ h9 => h9) rfl dX8_counted_80 ?_
  refine mg_nst (f := (fun _ => 0)) (n := 11) (x := (σ 1 0)) (j := 0) hx hb hK hw 16 0 rfl (fun _ => rfl) rfl (by unfold vp_in; decide) rfl dX8_counted_83 (fun H locs hw => ?_)
  refine lv_dup hx hb dX8_counted_84 rfl ?_
  refine lv_iconst (v := 1) hx hb dX8_counted_85 (by decide) ?_
  refine lv_aload_n hx hb dX8_counted_86 rfl (lv_at hl 0 rfl) ?_
  refine va_get (D := D) (ci := 8) (v := .ref (g 1)) (C := RX8) (T := TX8) (N := 15) hx hb hts iX8_ hown hK hw.1 0 rfl rfl 13 (by decide) w5_ (fun _ h9 => h9) rfl dX8_counted_87 ?_
  refine va_getN (D := D) (ci := 7) (v := .int (σ 1 0)) (C := RX7) (T := TX7) (N := 4) hx hb hts iX7_ hown hK hw.1 1 rfl rfl 0 (by decide) (va_Nw.use rfl (hO.2.2.2.2.2.2.2.2.2.2.2.2.1)) (fun _ h9 => h9) rfl dX8_counted_90 ?_
  refine lv_bipush (v := 8) hx hb dX8_counted_93 (by decide) ?_
  refine lv_irem hx hb dX8_counted_95 (by decide) ?_
  refine lv_iconst (v := 4) hx hb dX8_counted_96 (by decide) ?_
  obtain ⟨y6, h9_, h⟩ := mg_bind h
  have J97_ : ∀ (H : Heap) (locs : List Loc) (ls : Array Slot), mg_Wo D A s.heap H locs (mg_mW g cI cZ σ ++ [(q5, .inl (cI, 11, .inl (upd (fun _ => 0) 0 (σ 1 0))))]) → lv_has ls 5 [(0, .ref (g 0)), (1, .int x1), (2, .int y1.1), (3, .int y3.1), (4, .int y3.2)] → W p l e (headSpec wsX8_counted ({ frames := 1, cells := 1, slots := 11, locals := 26 } : Room)).room s m ([.ref (g 0), .int x1] : List Value).toArray below meth c H locs 1 11 (MQ below (mg_Q D (mg_mW g cI cZ σ) A (some (.int y))) ([.ref (g 0), .int x1] : List Value).toArray s 1 11 A) (F0 m 105 ls [.int y6, .int 1, .ref q5, .ref q5]) := by
    intro H locs ls hw hl
    clear h9_
    refine mg_nst (f := (upd (fun _ => 0) 0 (σ 1 0))) (n := 11) (x := y6) (j := 1) hx hb hK hw 16 0 rfl (fun _ => rfl) rfl (by unfold vp_in; decide) rfl dX8_counted_105 (fun H locs hw => ?_)
    refine lv_dup hx hb dX8_counted_106 rfl ?_
    refine lv_iconst (v := 2) hx hb dX8_counted_107 (by decide) ?_
    refine lv_aload_n hx hb dX8_counted_108 rfl (lv_at hl 0 rfl) ?_
    refine va_get (D := D) (ci := 8) (v := .ref (g 1)) (C := RX8) (T := TX8) (N := 15) hx hb hts iX8_ hown hK hw.1 0 rfl rfl 13 (by decide) w5_ (fun _ h9 => h9) rfl dX8_counted_109 ?_
    refine va_getN (D := D) (ci := 7) (v := .int (σ 1 1)) (C := RX7) (T := TX7) (N := 4) hx hb hts iX7_ hown hK hw.1 1 rfl rfl 1 (by decide) (va_Nw.use rfl (hO.2.2.2.2.2.2.2.2.2.2.2.2.2.2.2.1)) (fun _ h9 => h9) rfl dX8_counted_112 ?_
    refine mg_nst (f := (upd (upd (fun _ => 0) 0 (σ 1 0)) 1 y6)) (n := 11) (x := (σ 1 1)) (j := 2) hx hb hK hw 16 0 rfl (fun _ => rfl) rfl (by unfold vp_in; decide) rfl dX8_counted_115 (fun H locs hw => ?_)
    refine lv_dup hx hb dX8_counted_116 rfl ?_
    refine lv_iconst (v := 3) hx hb dX8_counted_117 (by decide) ?_
    refine lv_aload_n hx hb dX8_counted_118 rfl (lv_at hl 0 rfl) ?_
    refine lv_iconst (v := 1) hx hb dX8_counted_119 (by decide) ?_
    obtain ⟨y7, h9_, h⟩ := mg_bind h
    refine mg_kF (wl := []) (w0 := mg_mW g cI cZ σ) (rv := (some (.int y7))) (va_runV (As := [.int 1]) (rest := [.int 3, .ref q5, .ref q5]) G9 (k_X8_cellsLike l D o cI cZ g H.size σ 1 y7 h9_) (cwV 1 hts gX8_counted_X8_cellsLike rfl rfl rfl (by decide +kernel) ⟨Nat.le_of_ble_eq_true rfl, Nat.le_of_ble_eq_true rfl⟩) (mg_preV hK hO hA (mg_sub (wl := []) hw) (q0 := 0) rfl rfl) rfl rfl hl.1 rfl (lv_room (Nat.le_of_ble_eq_true rfl)) dX8_counted_120 ⟨(show 1 + 0 ≤ 1 by omega), (show 11 + 0 ≤ 11 by omega)⟩) hw hA (fun H locs hw => ?_)
    clear h9_
    refine mg_nst (f := (upd (upd (upd (fun _ => 0) 0 (σ 1 0)) 1 y6) 2 (σ 1 1))) (n := 11) (x := y7) (j := 3) hx hb hK hw 16 0 rfl (fun _ => rfl) rfl (by unfold vp_in; decide) rfl dX8_counted_123 (fun H locs hw => ?_)
    refine lv_dup hx hb dX8_counted_124 rfl ?_
    refine lv_iconst (v := 4) hx hb dX8_counted_125 (by decide) ?_
    refine lv_aload_n hx hb dX8_counted_126 rfl (lv_at hl 0 rfl) ?_
    refine lv_iconst (v := 2) hx hb dX8_counted_127 (by decide) ?_
    obtain ⟨y8, h9_, h⟩ := mg_bind h
    refine mg_kF (wl := []) (w0 := mg_mW g cI cZ σ) (rv := (some (.int y8))) (va_runV (As := [.int 2]) (rest := [.int 4, .ref q5, .ref q5]) G9 (k_X8_cellsLike l D o cI cZ g H.size σ 2 y8 h9_) (cwV 1 hts gX8_counted_X8_cellsLike rfl rfl rfl (by decide +kernel) ⟨Nat.le_of_ble_eq_true rfl, Nat.le_of_ble_eq_true rfl⟩) (mg_preV hK hO hA (mg_sub (wl := []) hw) (q0 := 0) rfl rfl) rfl rfl hl.1 rfl (lv_room (Nat.le_of_ble_eq_true rfl)) dX8_counted_128 ⟨(show 1 + 0 ≤ 1 by omega), (show 11 + 0 ≤ 11 by omega)⟩) hw hA (fun H locs hw => ?_)
    clear h9_
    refine mg_nst (f := (upd (upd (upd (upd (fun _ => 0) 0 (σ 1 0)) 1 y6) 2 (σ 1 1)) 3 y7)) (n := 11) (x := y8) (j := 4) hx hb hK hw 16 0 rfl (fun _ => rfl) rfl (by unfold vp_in; decide) rfl dX8_counted_131 (fun H locs hw => ?_)
    refine lv_dup hx hb dX8_counted_132 rfl ?_
    refine lv_iconst (v := 5) hx hb dX8_counted_133 (by decide) ?_
    refine lv_iload_n hx hb dX8_counted_134 rfl (lv_at hl 2 rfl) ?_
    refine mg_nst (f := (upd (upd (upd (upd (upd (fun _ => 0) 0 (σ 1 0)) 1 y6) 2 (σ 1 1)) 3 y7) 4 y8)) (n := 11) (x := y1.1) (j := 5) hx hb hK hw 16 0 rfl (fun _ => rfl) rfl (by unfold vp_in; decide) rfl dX8_counted_135 (fun H locs hw => ?_)
    refine lv_dup hx hb dX8_counted_136 rfl ?_
    refine lv_bipush (v := 6) hx hb dX8_counted_137 (by decide) ?_
    refine lv_iload_n hx hb dX8_counted_139 rfl (lv_at hl 3 rfl) ?_
    refine mg_nst (f := (upd (upd (upd (upd (upd (upd (fun _ => 0) 0 (σ 1 0)) 1 y6) 2 (σ 1 1)) 3 y7) 4 y8) 5 y1.1)) (n := 11) (x := y3.1) (j := 6) hx hb hK hw 16 0 rfl (fun _ => rfl) rfl (by unfold vp_in; decide) rfl dX8_counted_140 (fun H locs hw => ?_)
    refine lv_dup hx hb dX8_counted_141 rfl ?_
    refine lv_bipush (v := 7) hx hb dX8_counted_142 (by decide) ?_
    refine lv_aload_n hx hb dX8_counted_144 rfl (lv_at hl 0 rfl) ?_
    refine lv_aload_n hx hb dX8_counted_145 rfl (lv_at hl 0 rfl) ?_
    refine va_get (D := D) (ci := 8) (v := .ref (g 1)) (C := RX8) (T := TX8) (N := 15) hx hb hts iX8_ hown hK hw.1 0 rfl rfl 13 (by decide) w5_ (fun _ h9 => h9) rfl dX8_counted_146 ?_
    obtain ⟨y9, h9_, h⟩ := mg_bind h
    refine mg_kF (wl := []) (w0 := mg_mW g cI cZ σ) (rv := (some (.int y9))) (va_runV (As := [.ref (g 1)]) (rest := [.int 7, .ref q5, .ref q5]) G9 (k_X8_sizes_1 l D o cI cZ g H.size σ  y9 h9_) (cwV 1 hts gX8_counted_X8_sizes rfl rfl rfl (by decide +kernel) ⟨Nat.le_of_ble_eq_true rfl, Nat.le_of_ble_eq_true rfl⟩) (mg_preV hK hO hA (mg_sub (wl := []) hw) (q0 := 0) rfl rfl) rfl rfl hl.1 rfl (lv_room (Nat.le_of_ble_eq_true rfl)) dX8_counted_149 ⟨(show 1 + 0 ≤ 1 by omega), (show 11 + 0 ≤ 11 by omega)⟩) hw hA (fun H locs hw => ?_)
    clear h9_
    refine mg_nst (f := (upd (upd (upd (upd (upd (upd (upd (fun _ => 0) 0 (σ 1 0)) 1 y6) 2 (σ 1 1)) 3 y7) 4 y8) 5 y1.1) 6 y3.1)) (n := 11) (x := y9) (j := 7) hx hb hK hw 16 0 rfl (fun _ => rfl) rfl (by unfold vp_in; decide) rfl dX8_counted_152 (fun H locs hw => ?_)
    refine lv_dup hx hb dX8_counted_153 rfl ?_
    refine lv_bipush (v := 8) hx hb dX8_counted_154 (by decide) ?_
    refine lv_aload_n hx hb dX8_counted_156 rfl (lv_at hl 0 rfl) ?_
    refine va_get (D := D) (ci := 8) (v := .int (σ 0 8)) (C := RX8) (T := TX8) (N := 15) hx hb hts iX8_ hown hK hw.1 0 rfl rfl 8 (by decide) w7_ (fun _ h9 => h9) rfl dX8_counted_157 ?_
    refine mg_nst (f := (upd (upd (upd (upd (upd (upd (upd (upd (fun _ => 0) 0 (σ 1 0)) 1 y6) 2 (σ 1 1)) 3 y7) 4 y8) 5 y1.1) 6 y3.1) 7 y9)) (n := 11) (x := (σ 0 8)) (j := 8) hx hb hK hw 16 0 rfl (fun _ => rfl) rfl (by unfold vp_in; decide) rfl dX8_counted_160 (fun H locs hw => ?_)
    refine lv_dup hx hb dX8_counted_161 rfl ?_
    refine lv_bipush (v := 9) hx hb dX8_counted_162 (by decide) ?_
    refine lv_aload_n hx hb dX8_counted_164 rfl (lv_at hl 0 rfl) ?_
    refine va_get (D := D) (ci := 8) (v := .int (σ 0 11)) (C := RX8) (T := TX8) (N := 15) hx hb hts iX8_ hown hK hw.1 0 rfl rfl 11 (by decide) w8_ (fun _ h9 => h9) rfl dX8_counted_165 ?_
    refine mg_nst (f := (upd (upd (upd (upd (upd (upd (upd (upd (upd (fun _ => 0) 0 (σ 1 0)) 1 y6) 2 (σ 1 1)) 3 y7) 4 y8) 5 y1.1) 6 y3.1) 7 y9) 8 (σ 0 8))) (n := 11) (x := (σ 0 11)) (j := 9) hx hb hK hw 16 0 rfl (fun _ => rfl) rfl (by unfold vp_in; decide) rfl dX8_counted_168 (fun H locs hw => ?_)
    refine lv_dup hx hb dX8_counted_169 rfl ?_
    refine lv_bipush (v := 10) hx hb dX8_counted_170 (by decide) ?_
    refine lv_aload_n hx hb dX8_counted_172 rfl (lv_at hl 0 rfl) ?_
    refine lv_aload_n hx hb dX8_counted_173 rfl (lv_at hl 0 rfl) ?_
    refine va_get (D := D) (ci := 8) (v := .ref (g 1)) (C := RX8) (T := TX8) (N := 15) hx hb hts iX8_ hown hK hw.1 0 rfl rfl 13 (by decide) w5_ (fun _ h9 => h9) rfl dX8_counted_174 ?_
    obtain ⟨y10, h9_, h⟩ := mg_bind h
    refine mg_kF (wl := []) (w0 := mg_mW g cI cZ σ) (rv := (some (.int y10))) (va_runV (As := [.ref (g 1)]) (rest := [.int 10, .ref q5, .ref q5]) G9 (k_X8_written_1 l D o cI cZ g H.size σ  y10 h9_) (cwV 1 hts gX8_counted_X8_written rfl rfl rfl (by decide +kernel) ⟨Nat.le_of_ble_eq_true rfl, Nat.le_of_ble_eq_true rfl⟩) (mg_preV hK hO hA (mg_sub (wl := []) hw) (q0 := 0) rfl rfl) rfl rfl hl.1 rfl (lv_room (Nat.le_of_ble_eq_true rfl)) dX8_counted_177 ⟨(show 1 + 0 ≤ 1 by omega), (show 11 + 0 ≤ 11 by omega)⟩) hw hA (fun H locs hw => ?_)
    clear h9_
    refine mg_nst (f := (upd (upd (upd (upd (upd (upd (upd (upd (upd (upd (fun _ => 0) 0 (σ 1 0)) 1 y6) 2 (σ 1 1)) 3 y7) 4 y8) 5 y1.1) 6 y3.1) 7 y9) 8 (σ 0 8)) 9 (σ 0 11))) (n := 11) (x := y10) (j := 10) hx hb hK hw 16 0 rfl (fun _ => rfl) rfl (by unfold vp_in; decide) rfl dX8_counted_180 (fun H locs hw => ?_)
    refine lv_astore (lv' := [(4, .ref q5), (0, .ref (g 0)), (1, .int x1), (2, .int y1.1), (3, .int y3.1)]) hx hb dX8_counted_181 hl (by decide) rfl (fun ls hl => ?_)
    refine lv_aload hx hb dX8_counted_183 (lv_at hl 0 rfl) ?_
    refine lv_iload_n hx hb dX8_counted_185 rfl (lv_at hl 2 rfl) ?_
    refine mg_nld (f := (upd (upd (upd (upd (upd (upd (upd (upd (upd (upd (upd (fun _ => 0) 0 (σ 1 0)) 1 y6) 2 (σ 1 1)) 3 y7) 4 y8) 5 y1.1) 6 y3.1) 7 y9) 8 (σ 0 8)) 9 (σ 0 11)) 10 y10)) (n := 11) hx hb hK hw 16 0 rfl rfl h dX8_counted_186 (fun v11 h => ?_)
    cases h
    have hw := mg_drop hw
    exact mg_eI hx hb hr hlocks hw (by omega) (by omega) dX8_counted_187
  clear h
  have h := h9_
  clear h9_
  refine mg_icmp_ne (tgt := 104) hx hb h dX8_counted_97 (by decide) (fun h => ?_) (fun h => ?_)
  · refine lv_iconst (v := 0) hx hb dX8_counted_104 (by decide) ?_
    cases h
    exact J97_ H locs ls hw (lv_sub hl [0, 1, 2, 3, 4] rfl)
  · refine lv_iconst (v := 1) hx hb dX8_counted_100 (by decide) ?_
    refine lv_goto (tgt := 105) hx hb dX8_counted_101 (by decide) ?_
    cases h
    exact J97_ H locs ls hw (lv_sub hl [0, 1, 2, 3, 4] rfl)
set_option maxHeartbeats 4000000 in
set_option maxRecDepth 100000 in
theorem k_X8_count (l : Launch) (D : va_G) (o : Nat → Nat) (cI cZ : ClassId) (g : Nat → Nat) (sz : Nat) (σ : mg_St) (x1 : Int32) (y : (Int32 × mg_St)) (h : f_X8_count σ x1 = some y) : mg_CT l yX8_count wsX8_count ({ frames := 3, cells := 1, slots := 11, locals := 84 } : Room) D [(cI, .int), (cZ, .boolean)] o (mg_mW g cI cZ σ) sz [.ref (g 0), .int x1] (some (.int y.1)) (mg_mW g cI cZ y.2) 1 11 := by
  unfold mg_CT
  refine Met.ofW (cc := cX8_count) (maxL := 2) (ret := (some .int)) (by decide) rfl ?_
  intro p e s m args below meth c s₁ B hml hv
  obtain ⟨rfl, hsz, hP, hK, hD0, hO⟩ := hv
  have hx := B.exec
  have hb := B.bytes
  have hr := B.returns
  have hts := atoms_spec (ws := wsX8_count) B.pre
  have hown : s.vm.findClass RX8 = some m.cls := findClass_of_methodNamed B.named
  have hlocks := B.notSynchronized
  subst hsz
  have hD := hD0.self (sz := s.heap.size)
  generalize hAe : va_A (mg_mW g cI cZ σ) s.heap.size = A at hD hO ⊢
  have hA : ∀ q : Nat, s.heap.size ≤ q → A q := fun q h => by rw [← hAe]; exact Or.inr h
  have hw : mg_Wo D A s.heap s.heap [] (mg_mW g cI cZ σ) := ⟨hP, hD, va_S.rf⟩
  have G9 : CallFix p m c cX8_count 2 s ([.ref (g 0), .int x1] : List Value).toArray wsX8_count RX8 := ⟨hx, hb, hml, hown, hts⟩
  clear hP hD hD0 hAe
  obtain ⟨H, hHe⟩ : ∃ H : Heap, H = s.heap := ⟨_, rfl⟩
  have w0_ := hts (.fieldLink RX8 47 "MoonGateModel" "thrown" "I") (by decide +kernel)
  have iX8_ : ∀ w ∈ wsX80, w ∈ wsX8_count := (fun _ h => List.mem_cons_of_mem _ (List.mem_append_left _ (List.mem_append_right _ h)))
  have hl := lv_entry ([.ref (g 0), .int x1]) (n := 2) (Nat.le_of_ble_eq_true rfl)
  rw [lg_entry_eq]
  generalize (lg_sl ([.ref (g 0), .int x1]) ++ List.replicate (2 - (lg_sl ([.ref (g 0), .int x1])).length) Slot.unset).toArray = ls at hl ⊢
  have hl : lv_has ls 2 [(0, .ref (g 0)), (1, .int x1)] := hl
  unfold f_X8_count at h
  revert hw
  intro hw
  suffices K_ : ∀ (H : Heap) (locs : List Loc), mg_Wo D A s.heap H locs (mg_mW g cI cZ σ) → W p l e (headSpec wsX8_count ({ frames := 3, cells := 1, slots := 11, locals := 84 } : Room)).room s m ([.ref (g 0), .int x1] : List Value).toArray below meth c H locs 0 0 (MQ below (mg_Q D (mg_mW g cI cZ y.2) A (some (.int y.1))) ([.ref (g 0), .int x1] : List Value).toArray s 1 11 A) (F0 m 0 ls []) from K_ _ _ hw
  clear hw hHe H
  intro H locs hw
  refine lv_aload_n hx hb dX8_count_0 rfl (lv_at hl 0 rfl) ?_
  refine lv_iconst (v := 0) hx hb dX8_count_1 (by decide) ?_
  refine mg_put (wd := mg_mW g cI cZ) (σ := σ) (v := 0) (ci := 8) (C := RX8) (T := TX8) (N := 15) hx hb hts iX8_ tyX8 tyX8_ok nmX8 hown hK hw 0 0 rfl rfl 0 (by decide) w0_ (fun _ h9 => h9) rfl (by decide +kernel) (Nat.le_of_ble_eq_true rfl) rfl dX8_count_2 (fun H locs hw => ?_)
  refine lv_iload_n hx hb dX8_count_5 rfl (lv_at hl 1 rfl) ?_
  refine lv_iconst (v := 0) hx hb dX8_count_6 (by decide) ?_
  refine lv_bipush (v := 10) hx hb dX8_count_7 (by decide) ?_
  obtain ⟨y1, h9_, h⟩ := mg_bind h
  refine mg_k (rv := (some (.int y1))) (va_runS (As := [.int x1, .int 0, .int 10]) (rest := []) G9 (k_X8_isIn l D o cI cZ g H.size (mg_su σ 0 0 0) x1 0 10 y1 h9_) (va_cwS 3 hts gX8_count_X8_isIn rfl rfl rfl (by decide +kernel) ⟨Nat.le_of_ble_eq_true rfl, Nat.le_of_ble_eq_true rfl⟩) (mg_pre hK hO hA hw) rfl rfl hl.1 rfl (lv_room (Nat.le_of_ble_eq_true rfl)) dX8_count_9 ⟨Nat.zero_le _, Nat.zero_le _⟩) hw hA (fun H locs hw => ?_)
  clear h9_
  refine mg_if_ne (tgt := 21) hx hb h dX8_count_12 (by decide) (fun h => ?_) (fun h => ?_)
  · refine lv_aload_n hx hb dX8_count_21 rfl (lv_at hl 0 rfl) ?_
    obtain ⟨y2, h9_, h⟩ := mg_bind h
    refine mg_k (rv := none) (va_runV (As := []) (rest := []) G9 (k_X8_markPonds l D o cI cZ g H.size (mg_su σ 0 0 0)  y2 h9_) (cwV 0 hts gX8_count_X8_markPonds rfl rfl rfl (by decide +kernel) ⟨Nat.le_of_ble_eq_true rfl, Nat.le_of_ble_eq_true rfl⟩) (mg_preV hK hO hA hw (q0 := 0) rfl rfl) rfl rfl hl.1 rfl (lv_room (Nat.le_of_ble_eq_true rfl)) dX8_count_22 ⟨Nat.zero_le _, Nat.zero_le _⟩) hw hA (fun H locs hw => ?_)
    clear h9_
    refine lv_aload_n hx hb dX8_count_25 rfl (lv_at hl 0 rfl) ?_
    refine lv_iload_n hx hb dX8_count_26 rfl (lv_at hl 1 rfl) ?_
    obtain ⟨y3, h9_, h⟩ := mg_bind h
    refine mg_k (rv := (some (.int y3))) (va_runV (As := [.int x1]) (rest := []) G9 (k_X8_counted l D o cI cZ g H.size y2 x1 y3 h9_) (cwV 1 hts gX8_count_X8_counted rfl rfl rfl (by decide +kernel) ⟨Nat.le_of_ble_eq_true rfl, Nat.le_of_ble_eq_true rfl⟩) (mg_preV hK hO hA hw (q0 := 0) rfl rfl) rfl rfl hl.1 rfl (lv_room (Nat.le_of_ble_eq_true rfl)) dX8_count_27 ⟨(show 0 + 1 ≤ 1 by omega), (show 0 + 11 ≤ 11 by omega)⟩) hw hA (fun H locs hw => ?_)
    clear h9_
    cases h
    exact mg_eI hx hb hr hlocks hw (by omega) (by omega) dX8_count_30
  · refine lv_aload_n hx hb dX8_count_15 rfl (lv_at hl 0 rfl) ?_
    refine lv_iconst (v := 1) hx hb dX8_count_16 (by decide) ?_
    obtain ⟨y4, h9_, h⟩ := mg_bind h
    refine mg_k (rv := (some (.int y4.1))) (va_runV (As := [.int 1]) (rest := []) G9 (k_X8_no l D o cI cZ g H.size (mg_su σ 0 0 0) 1 y4 h9_) (cwV 1 hts gX8_count_X8_no rfl rfl rfl (by decide +kernel) ⟨Nat.le_of_ble_eq_true rfl, Nat.le_of_ble_eq_true rfl⟩) (mg_preV hK hO hA hw (q0 := 0) rfl rfl) rfl rfl hl.1 rfl (lv_room (Nat.le_of_ble_eq_true rfl)) dX8_count_17 ⟨Nat.zero_le _, Nat.zero_le _⟩) hw hA (fun H locs hw => ?_)
    clear h9_
    cases h
    exact mg_eI hx hb hr hlocks hw (Nat.zero_le _) (Nat.zero_le _) dX8_count_20
set_option maxHeartbeats 4000000 in
set_option maxRecDepth 100000 in
theorem k_X8_day_1 (l : Launch) (D : va_G) (o : Nat → Nat) (cI cZ : ClassId) (g : Nat → Nat) (sz : Nat) (σ : mg_St)  (y : (Int32 × mg_St)) (h : f_X8_day σ 1  = some y) : mg_CT l yX8_day wsX8_day ({ frames := 4, cells := 0, slots := 0, locals := 96 } : Room) D [(cI, .int), (cZ, .boolean)] o (mg_mW g cI cZ σ) sz [.ref (g 0), .ref (g 1)] (some (.int y.1)) (mg_mW g cI cZ y.2) 0 0 := by
  unfold mg_CT
  refine Met.ofW (cc := cX8_day) (maxL := 5) (ret := (some .int)) (by decide) rfl ?_
  intro p e s m args below meth c s₁ B hml hv
  obtain ⟨rfl, hsz, hP, hK, hD0, hO⟩ := hv
  have hx := B.exec
  have hb := B.bytes
  have hr := B.returns
  have hts := atoms_spec (ws := wsX8_day) B.pre
  have hown : s.vm.findClass RX8 = some m.cls := findClass_of_methodNamed B.named
  have hlocks := B.notSynchronized
  subst hsz
  have hD := hD0.self (sz := s.heap.size)
  generalize hAe : va_A (mg_mW g cI cZ σ) s.heap.size = A at hD hO ⊢
  have hA : ∀ q : Nat, s.heap.size ≤ q → A q := fun q h => by rw [← hAe]; exact Or.inr h
  have hw : mg_Wo D A s.heap s.heap [] (mg_mW g cI cZ σ) := ⟨hP, hD, va_S.rf⟩
  have G9 : CallFix p m c cX8_day 5 s ([.ref (g 0), .ref (g 1)] : List Value).toArray wsX8_day RX8 := ⟨hx, hb, hml, hown, hts⟩
  clear hP hD hD0 hAe
  obtain ⟨H, hHe⟩ : ∃ H : Heap, H = s.heap := ⟨_, rfl⟩
  have w0_ := hts (.fieldLink RX8 71 "MoonGateModel" "carps" "I") (by decide +kernel)
  have iX8_ : ∀ w ∈ wsX80, w ∈ wsX8_day := (fun _ h => List.mem_cons_of_mem _ (List.mem_append_left _ (List.mem_append_right _ h)))
  have w2_ := hts (.fieldLink RX8 25 "MoonGateModel" "sold" "[I") (by decide +kernel)
  have iX7_ : ∀ w ∈ wsX70, w ∈ wsX8_day := (fun _ h => List.mem_cons_of_mem _ (List.mem_append_right _ h))
  have w4_ := hts (.fieldLink RX8 19 "MoonGateModel" "pond" "[I") (by decide +kernel)
  have w5_ := hts (.fieldLink RX8 22 "MoonGateModel" "swims" "[I") (by decide +kernel)
  have w6_ := hts (.methodLink RX8 160 Lib.Math.min.name) (by decide +kernel)
  have w7_ := hts (.static Lib.Math.min.name) (by decide +kernel)
  have w8_ := hts (.initialized "java/lang/Math") (by decide +kernel)
  have w9_ := hts (.code Lib.Math.min.name Lib.Math.min.code 2 (some .int)) (by decide +kernel)
  have w10_ := hts (.methodLink RX8 157 Lib.Math.max.name) (by decide +kernel)
  have w11_ := hts (.static Lib.Math.max.name) (by decide +kernel)
  have w12_ := hts (.code Lib.Math.max.name Lib.Math.max.code 2 (some .int)) (by decide +kernel)
  have w13_ := hts (.fieldLink RX8 58 "MoonGateModel" "poets" "I") (by decide +kernel)
  have w14_ := hts (.fieldLink RX8 34 "MoonGateModel" "at" "[I") (by decide +kernel)
  have hl := lv_entry ([.ref (g 0), .ref (g 1)]) (n := 5) (Nat.le_of_ble_eq_true rfl)
  rw [lg_entry_eq]
  generalize (lg_sl ([.ref (g 0), .ref (g 1)]) ++ List.replicate (5 - (lg_sl ([.ref (g 0), .ref (g 1)])).length) Slot.unset).toArray = ls at hl ⊢
  have hl : lv_has ls 5 [(0, .ref (g 0)), (1, .ref (g 1))] := hl
  unfold f_X8_day at h
  revert hw
  intro hw
  suffices K_ : ∀ (H : Heap) (locs : List Loc), mg_Wo D A s.heap H locs (mg_mW g cI cZ σ) → W p l e (headSpec wsX8_day ({ frames := 4, cells := 0, slots := 0, locals := 96 } : Room)).room s m ([.ref (g 0), .ref (g 1)] : List Value).toArray below meth c H locs 0 0 (MQ below (mg_Q D (mg_mW g cI cZ y.2) A (some (.int y.1))) ([.ref (g 0), .ref (g 1)] : List Value).toArray s 0 0 A) (F0 m 0 ls []) from K_ _ _ hw
  clear hw hHe H
  intro H locs hw
  refine lv_iconst (v := 0) hx hb dX8_day_0 (by decide) ?_
  refine lv_istore_n (lv' := [(2, .int 0), (0, .ref (g 0)), (1, .ref (g 1))]) hx hb dX8_day_1 rfl hl (by decide) rfl (fun ls hl => ?_)
  have L2_ : ∀ (n : Nat) (x2_2 : Int32) (s2_ : mg_St) (y2_ : Int32 × mg_St), f_X8_day_2 1 n x2_2 s2_ = some y2_ → (∀ (H : Heap) (locs : List Loc) (ls : Array Slot), mg_Wo D A s.heap H locs (mg_mW g cI cZ y2_.2) → lv_has ls 5 [(0, .ref (g 0)), (1, .ref (g 1)), (2, .int y2_.1)] → W p l e (headSpec wsX8_day ({ frames := 4, cells := 0, slots := 0, locals := 96 } : Room)).room s m ([.ref (g 0), .ref (g 1)] : List Value).toArray below meth c H locs 0 0 (MQ below (mg_Q D (mg_mW g cI cZ y.2) A (some (.int y.1))) ([.ref (g 0), .ref (g 1)] : List Value).toArray s 0 0 A) (F0 m 77 ls [])) → ∀ (H : Heap) (locs : List Loc) (ls : Array Slot), mg_Wo D A s.heap H locs (mg_mW g cI cZ s2_) → lv_has ls 5 [(0, .ref (g 0)), (1, .ref (g 1)), (2, .int x2_2)] → W p l e (headSpec wsX8_day ({ frames := 4, cells := 0, slots := 0, locals := 96 } : Room)).room s m ([.ref (g 0), .ref (g 1)] : List Value).toArray below meth c H locs 0 0 (MQ below (mg_Q D (mg_mW g cI cZ y.2) A (some (.int y.1))) ([.ref (g 0), .ref (g 1)] : List Value).toArray s 0 0 A) (F0 m 2 ls []) := by
    intro n
    induction n with
    | zero => intro x2_2 s2_ y2_ h; rw [f_X8_day_2] at h; cases h
    | succ n ih =>
      intro x2_2 s2_ y2_ h kc H locs ls hw hl
      rw [f_X8_day_2] at h
      refine lv_iload_n hx hb dX8_day_2 rfl (lv_at hl 2 rfl) ?_
      refine lv_aload_n hx hb dX8_day_3 rfl (lv_at hl 0 rfl) ?_
      refine va_get (D := D) (ci := 8) (v := .int (s2_ 0 5)) (C := RX8) (T := TX8) (N := 15) hx hb hts iX8_ hown hK hw.1 0 rfl rfl 5 (by decide) w0_ (fun _ h9 => h9) rfl dX8_day_4 ?_
      refine mg_icmp_ge (tgt := 77) hx hb h dX8_day_7 (by decide) (fun h => ?_) (fun h => ?_)
      · cases h
        exact kc H locs ls hw (lv_sub hl [0, 1, 2] rfl)
      · refine lv_aload_n hx hb dX8_day_10 rfl (lv_at hl 0 rfl) ?_
        refine va_get (D := D) (ci := 8) (v := .ref (g 8)) (C := RX8) (T := TX8) (N := 15) hx hb hts iX8_ hown hK hw.1 0 rfl rfl 7 (by decide) w2_ (fun _ h9 => h9) rfl dX8_day_11 ?_
        refine lv_iload_n hx hb dX8_day_14 rfl (lv_at hl 2 rfl) ?_
        refine mg_ald (σ := s2_) (k := 8) (n := 30) hx hb hK hw 8 0 rfl rfl h dX8_day_15 (fun v2 h => ?_)
        refine mg_if_ne (tgt := 71) hx hb h dX8_day_16 (by decide) (fun h => ?_) (fun h => ?_)
        · refine lv_iinc (v := (x2_2 + 1)) (lv' := [(2, .int (x2_2 + 1)), (0, .ref (g 0)), (1, .ref (g 1))]) hx hb dX8_day_71 hl (k := 2) rfl rfl (by decide) rfl (fun ls hl => ?_)
          refine lv_goto (tgt := 2) hx hb dX8_day_74 (by decide) ?_
          exact ih _ _ _ h kc H locs ls hw (lv_sub hl [1, 2, 0] rfl)
        · refine lv_aload_n hx hb dX8_day_19 rfl (lv_at hl 1 rfl) ?_
          refine va_getN (D := D) (ci := 7) (v := .ref (g 12)) (C := RX7) (T := TX7) (N := 4) hx hb hts iX7_ hown hK hw.1 1 rfl rfl 2 (by decide) (va_Nw.use rfl (hO.2.2.2.2.2.2.2.2.2.2.2.2.2.1)) (fun _ h9 => h9) rfl dX8_day_20 ?_
          refine lv_iload_n hx hb dX8_day_23 rfl (lv_at hl 2 rfl) ?_
          refine lv_aload_n hx hb dX8_day_24 rfl (lv_at hl 0 rfl) ?_
          refine lv_aload_n hx hb dX8_day_25 rfl (lv_at hl 0 rfl) ?_
          refine va_get (D := D) (ci := 8) (v := .ref (g 6)) (C := RX8) (T := TX8) (N := 15) hx hb hts iX8_ hown hK hw.1 0 rfl rfl 4 (by decide) w4_ (fun _ h9 => h9) rfl dX8_day_26 ?_
          refine lv_aload_n hx hb dX8_day_29 rfl (lv_at hl 0 rfl) ?_
          refine va_get (D := D) (ci := 8) (v := .ref (g 7)) (C := RX8) (T := TX8) (N := 15) hx hb hts iX8_ hown hK hw.1 0 rfl rfl 6 (by decide) w5_ (fun _ h9 => h9) rfl dX8_day_30 ?_
          refine lv_iload_n hx hb dX8_day_33 rfl (lv_at hl 2 rfl) ?_
          refine mg_ald (σ := s2_) (k := 7) (n := 30) hx hb hK hw 7 0 rfl rfl h dX8_day_34 (fun v3 h => ?_)
          refine mg_ald (σ := s2_) (k := 6) (n := 70) hx hb hK hw 6 0 rfl rfl h dX8_day_35 (fun v4 h => ?_)
          obtain ⟨y5, h9_, h⟩ := mg_bind h
          refine mg_k (rv := (some (.int y5))) (va_runV (As := [.int v4]) (rest := [.int x2_2, .ref (g 12)]) G9 (k_X8_isTooFull l D o cI cZ g H.size s2_ v4 y5 h9_) (cwV 1 hts gX8_day_X8_isTooFull rfl rfl rfl (by decide +kernel) ⟨Nat.le_of_ble_eq_true rfl, Nat.le_of_ble_eq_true rfl⟩) (mg_preV hK hO hA hw (q0 := 0) rfl rfl) rfl rfl hl.1 rfl (lv_room (Nat.le_of_ble_eq_true rfl)) dX8_day_36 ⟨Nat.zero_le _, Nat.zero_le _⟩) hw hA (fun H locs hw => ?_)
          clear h9_
          refine mg_if_eq (tgt := 57) hx hb h dX8_day_39 (by decide) (fun h => ?_) (fun h => ?_)
          · refine lv_bipush (v := 40) hx hb dX8_day_57 (by decide) ?_
            refine lv_aload_n hx hb dX8_day_59 rfl (lv_at hl 1 rfl) ?_
            refine va_getN (D := D) (ci := 7) (v := .ref (g 12)) (C := RX7) (T := TX7) (N := 4) hx hb hts iX7_ hown hK hw.1 1 rfl rfl 2 (by decide) (va_Nw.use rfl (hO.2.2.2.2.2.2.2.2.2.2.2.2.2.1)) (fun _ h9 => h9) rfl dX8_day_60 ?_
            refine lv_iload_n hx hb dX8_day_63 rfl (lv_at hl 2 rfl) ?_
            refine mg_ald (σ := s2_) (k := (2 * 1 + 10)) (n := 30) hx hb hK hw 12 0 rfl rfl h dX8_day_64 (fun v6 h => ?_)
            refine lv_iconst (v := 1) hx hb dX8_day_65 (by decide) ?_
            refine lv_iadd hx hb dX8_day_66 ?_
            refine va_mmin hx hb (hml.trans hl.1.symm) hown w6_ w7_ w8_ w9_ (Nat.le_of_ble_eq_true rfl) (Nat.le_of_ble_eq_true rfl) (Nat.zero_le _) (Nat.zero_le _) dX8_day_67 ?_
            refine mg_ast (wd := mg_mW g cI cZ) (σ := s2_) (k := (2 * 1 + 10)) (n := 30) hx hb hK hw 12 0 rfl (mg_mS_12 g cI cZ s2_) rfl h dX8_day_70 (fun s7 h H locs hw => ?_)
            refine lv_iinc (v := (x2_2 + 1)) (lv' := [(2, .int (x2_2 + 1)), (0, .ref (g 0)), (1, .ref (g 1))]) hx hb dX8_day_71 hl (k := 2) rfl rfl (by decide) rfl (fun ls hl => ?_)
            refine lv_goto (tgt := 2) hx hb dX8_day_74 (by decide) ?_
            exact ih _ _ _ h kc H locs ls hw (lv_sub hl [1, 2, 0] rfl)
          · refine lv_iconst (v := 1) hx hb dX8_day_42 (by decide) ?_
            refine lv_aload_n hx hb dX8_day_43 rfl (lv_at hl 1 rfl) ?_
            refine va_getN (D := D) (ci := 7) (v := .ref (g 12)) (C := RX7) (T := TX7) (N := 4) hx hb hts iX7_ hown hK hw.1 1 rfl rfl 2 (by decide) (va_Nw.use rfl (hO.2.2.2.2.2.2.2.2.2.2.2.2.2.1)) (fun _ h9 => h9) rfl dX8_day_44 ?_
            refine lv_iload_n hx hb dX8_day_47 rfl (lv_at hl 2 rfl) ?_
            refine mg_ald (σ := s2_) (k := (2 * 1 + 10)) (n := 30) hx hb hK hw 12 0 rfl rfl h dX8_day_48 (fun v8 h => ?_)
            refine lv_iconst (v := 1) hx hb dX8_day_49 (by decide) ?_
            refine lv_isub hx hb dX8_day_50 ?_
            refine va_mmax hx hb (hml.trans hl.1.symm) hown w10_ w11_ w8_ w12_ (Nat.le_of_ble_eq_true rfl) (Nat.le_of_ble_eq_true rfl) (Nat.zero_le _) (Nat.zero_le _) dX8_day_51 ?_
            refine lv_goto (tgt := 70) hx hb dX8_day_54 (by decide) ?_
            refine mg_ast (wd := mg_mW g cI cZ) (σ := s2_) (k := (2 * 1 + 10)) (n := 30) hx hb hK hw 12 0 rfl (mg_mS_12 g cI cZ s2_) rfl h dX8_day_70 (fun s9 h H locs hw => ?_)
            refine lv_iinc (v := (x2_2 + 1)) (lv' := [(2, .int (x2_2 + 1)), (0, .ref (g 0)), (1, .ref (g 1))]) hx hb dX8_day_71 hl (k := 2) rfl rfl (by decide) rfl (fun ls hl => ?_)
            refine lv_goto (tgt := 2) hx hb dX8_day_74 (by decide) ?_
            exact ih _ _ _ h kc H locs ls hw (lv_sub hl [1, 2, 0] rfl)
  obtain ⟨y1, h9_, h⟩ := mg_bind h
  refine L2_ _ _ _ _ h9_ (fun H locs ls hw hl => ?_) H locs ls hw (lv_sub hl [1, 2, 0] rfl)
  clear L2_ h9_
  refine lv_iconst (v := 0) hx hb dX8_day_77 (by decide) ?_
  refine lv_istore_n (lv' := [(2, .int 0), (0, .ref (g 0)), (1, .ref (g 1))]) hx hb dX8_day_78 rfl hl (by decide) rfl (fun ls hl => ?_)
  refine lv_iconst (v := 0) hx hb dX8_day_79 (by decide) ?_
  refine lv_istore_n (lv' := [(3, .int 0), (2, .int 0), (0, .ref (g 0)), (1, .ref (g 1))]) hx hb dX8_day_80 rfl hl (by decide) rfl (fun ls hl => ?_)
  have L81_ : ∀ (n : Nat) (x2_81 : Int32) (x3_81 : Int32) (s81_ : mg_St) (y81_ : Int32 × Int32 × mg_St), f_X8_day_81 1 n x2_81 x3_81 s81_ = some y81_ → (∀ (H : Heap) (locs : List Loc) (ls : Array Slot), mg_Wo D A s.heap H locs (mg_mW g cI cZ y81_.2.2) → lv_has ls 5 [(0, .ref (g 0)), (1, .ref (g 1)), (2, .int y81_.1), (3, .int y81_.2.1)] → W p l e (headSpec wsX8_day ({ frames := 4, cells := 0, slots := 0, locals := 96 } : Room)).room s m ([.ref (g 0), .ref (g 1)] : List Value).toArray below meth c H locs 0 0 (MQ below (mg_Q D (mg_mW g cI cZ y.2) A (some (.int y.1))) ([.ref (g 0), .ref (g 1)] : List Value).toArray s 0 0 A) (F0 m 143 ls [])) → ∀ (H : Heap) (locs : List Loc) (ls : Array Slot), mg_Wo D A s.heap H locs (mg_mW g cI cZ s81_) → lv_has ls 5 [(0, .ref (g 0)), (1, .ref (g 1)), (2, .int x2_81), (3, .int x3_81)] → W p l e (headSpec wsX8_day ({ frames := 4, cells := 0, slots := 0, locals := 96 } : Room)).room s m ([.ref (g 0), .ref (g 1)] : List Value).toArray below meth c H locs 0 0 (MQ below (mg_Q D (mg_mW g cI cZ y.2) A (some (.int y.1))) ([.ref (g 0), .ref (g 1)] : List Value).toArray s 0 0 A) (F0 m 81 ls []) := by
    intro n
    induction n with
    | zero => intro x2_81 x3_81 s81_ y81_ h; rw [f_X8_day_81] at h; cases h
    | succ n ih =>
      intro x2_81 x3_81 s81_ y81_ h kc H locs ls hw hl
      rw [f_X8_day_81] at h
      refine lv_iload_n hx hb dX8_day_81 rfl (lv_at hl 3 rfl) ?_
      refine lv_aload_n hx hb dX8_day_82 rfl (lv_at hl 0 rfl) ?_
      refine va_get (D := D) (ci := 8) (v := .int (s81_ 0 11)) (C := RX8) (T := TX8) (N := 15) hx hb hts iX8_ hown hK hw.1 0 rfl rfl 11 (by decide) w13_ (fun _ h9 => h9) rfl dX8_day_83 ?_
      refine mg_icmp_ge (tgt := 143) hx hb h dX8_day_86 (by decide) (fun h => ?_) (fun h => ?_)
      · cases h
        exact kc H locs ls hw (lv_sub hl [0, 1, 2, 3] rfl)
      · refine lv_aload_n hx hb dX8_day_89 rfl (lv_at hl 0 rfl) ?_
        refine lv_aload_n hx hb dX8_day_90 rfl (lv_at hl 0 rfl) ?_
        refine va_get (D := D) (ci := 8) (v := .ref (g 11)) (C := RX8) (T := TX8) (N := 15) hx hb hts iX8_ hown hK hw.1 0 rfl rfl 12 (by decide) w14_ (fun _ h9 => h9) rfl dX8_day_91 ?_
        refine lv_iload_n hx hb dX8_day_94 rfl (lv_at hl 3 rfl) ?_
        refine mg_ald (σ := s81_) (k := 11) (n := 5) hx hb hK hw 11 0 rfl rfl h dX8_day_95 (fun v11 h => ?_)
        refine lv_aload_n hx hb dX8_day_96 rfl (lv_at hl 1 rfl) ?_
        obtain ⟨y12, h9_, h⟩ := mg_bind h
        refine mg_k (rv := (some (.int y12))) (va_runV (As := [.int v11, .ref (g 1)]) (rest := []) G9 (k_X8_beauty_1 l D o cI cZ g H.size s81_ v11 y12 h9_) (cwV 2 hts gX8_day_X8_beauty rfl rfl rfl (by decide +kernel) ⟨Nat.le_of_ble_eq_true rfl, Nat.le_of_ble_eq_true rfl⟩) (mg_preV hK hO hA hw (q0 := 0) rfl rfl) rfl rfl hl.1 rfl (lv_room (Nat.le_of_ble_eq_true rfl)) dX8_day_97 ⟨Nat.zero_le _, Nat.zero_le _⟩) hw hA (fun H locs hw => ?_)
        clear h9_
        refine lv_iconst (v := 5) hx hb dX8_day_100 (by decide) ?_
        refine lv_idiv hx hb dX8_day_101 (by decide) ?_
        refine lv_aload_n hx hb dX8_day_102 rfl (lv_at hl 1 rfl) ?_
        refine va_getN (D := D) (ci := 7) (v := .int (s81_ 1 0)) (C := RX7) (T := TX7) (N := 4) hx hb hts iX7_ hown hK hw.1 1 rfl rfl 0 (by decide) (va_Nw.use rfl (hO.2.2.2.2.2.2.2.2.2.2.2.2.1)) (fun _ h9 => h9) rfl dX8_day_103 ?_
        refine lv_bipush (v := 8) hx hb dX8_day_106 (by decide) ?_
        refine lv_irem hx hb dX8_day_108 (by decide) ?_
        refine lv_iconst (v := 4) hx hb dX8_day_109 (by decide) ?_
        obtain ⟨y13, h9_, h⟩ := mg_bind h
        have J110_ : ∀ (H : Heap) (locs : List Loc) (ls : Array Slot), mg_Wo D A s.heap H locs (mg_mW g cI cZ s81_) → lv_has ls 5 [(0, .ref (g 0)), (1, .ref (g 1)), (2, .int x2_81), (3, .int x3_81)] → W p l e (headSpec wsX8_day ({ frames := 4, cells := 0, slots := 0, locals := 96 } : Room)).room s m ([.ref (g 0), .ref (g 1)] : List Value).toArray below meth c H locs 0 0 (MQ below (mg_Q D (mg_mW g cI cZ y.2) A (some (.int y.1))) ([.ref (g 0), .ref (g 1)] : List Value).toArray s 0 0 A) (F0 m 118 ls [.int y13, .int (y12 / 5)]) := by
          intro H locs ls hw hl
          clear h9_
          refine lv_imul hx hb dX8_day_118 ?_
          refine lv_istore (lv' := [(4, .int ((y12 / 5) * y13)), (0, .ref (g 0)), (1, .ref (g 1)), (2, .int x2_81), (3, .int x3_81)]) hx hb dX8_day_119 hl (by decide) rfl (fun ls hl => ?_)
          refine lv_aload_n hx hb dX8_day_121 rfl (lv_at hl 2 rfl) ?_
          refine va_getN (D := D) (ci := 7) (v := .ref (g 13)) (C := RX7) (T := TX7) (N := 4) hx hb hts iX7_ hown hK hw.1 1 rfl rfl 3 (by decide) (va_Nw.use rfl (hO.2.2.2.2.2.2.2.2.2.2.2.2.2.2.1)) (fun _ h9 => h9) rfl dX8_day_122 ?_
          refine lv_iload_n hx hb dX8_day_125 rfl (lv_at hl 4 rfl) ?_
          refine lv_dup2_11 hx hb dX8_day_126 rfl rfl ?_
          refine mg_ald (σ := s81_) (k := (2 * 1 + 11)) (n := 5) hx hb hK hw 13 0 rfl rfl h dX8_day_127 (fun v14 h => ?_)
          refine lv_iload hx hb dX8_day_128 (lv_at hl 0 rfl) ?_
          refine lv_iadd hx hb dX8_day_130 ?_
          refine mg_ast (wd := mg_mW g cI cZ) (σ := s81_) (k := (2 * 1 + 11)) (n := 5) hx hb hK hw 13 0 rfl (mg_mS_13 g cI cZ s81_) rfl h dX8_day_131 (fun s15 h H locs hw => ?_)
          refine lv_iload_n hx hb dX8_day_132 rfl (lv_at hl 3 rfl) ?_
          refine lv_iload hx hb dX8_day_133 (lv_at hl 0 rfl) ?_
          refine lv_iadd hx hb dX8_day_135 ?_
          refine lv_istore_n (lv' := [(2, .int (x2_81 + ((y12 / 5) * y13))), (4, .int ((y12 / 5) * y13)), (0, .ref (g 0)), (1, .ref (g 1)), (3, .int x3_81)]) hx hb dX8_day_136 rfl hl (by decide) rfl (fun ls hl => ?_)
          refine lv_iinc (v := (x3_81 + 1)) (lv' := [(3, .int (x3_81 + 1)), (2, .int (x2_81 + ((y12 / 5) * y13))), (4, .int ((y12 / 5) * y13)), (0, .ref (g 0)), (1, .ref (g 1))]) hx hb dX8_day_137 hl (k := 4) rfl rfl (by decide) rfl (fun ls hl => ?_)
          refine lv_goto (tgt := 81) hx hb dX8_day_140 (by decide) ?_
          exact ih _ _ _ _ h kc H locs ls hw (lv_sub hl [3, 4, 1, 0] rfl)
        clear h
        have h := h9_
        clear h9_
        refine mg_icmp_ne (tgt := 117) hx hb h dX8_day_110 (by decide) (fun h => ?_) (fun h => ?_)
        · refine lv_iconst (v := 1) hx hb dX8_day_117 (by decide) ?_
          cases h
          exact J110_ H locs ls hw (lv_sub hl [0, 1, 2, 3] rfl)
        · refine lv_iconst (v := 2) hx hb dX8_day_113 (by decide) ?_
          refine lv_goto (tgt := 118) hx hb dX8_day_114 (by decide) ?_
          cases h
          exact J110_ H locs ls hw (lv_sub hl [0, 1, 2, 3] rfl)
  obtain ⟨y10, h9_, h⟩ := mg_bind h
  refine L81_ _ _ _ _ _ h9_ (fun H locs ls hw hl => ?_) H locs ls hw (lv_sub hl [2, 3, 1, 0] rfl)
  clear L81_ h9_
  refine lv_aload_n hx hb dX8_day_143 rfl (lv_at hl 1 rfl) ?_
  refine lv_dup hx hb dX8_day_144 rfl ?_
  refine va_getN (D := D) (ci := 7) (v := .int (y10.2.2 1 1)) (C := RX7) (T := TX7) (N := 4) hx hb hts iX7_ hown hK hw.1 1 rfl rfl 1 (by decide) (va_Nw.use rfl (hO.2.2.2.2.2.2.2.2.2.2.2.2.2.2.2.1)) (fun _ h9 => h9) rfl dX8_day_145 ?_
  refine lv_iload_n hx hb dX8_day_148 rfl (lv_at hl 2 rfl) ?_
  refine lv_bipush (v := 10) hx hb dX8_day_149 (by decide) ?_
  refine lv_idiv hx hb dX8_day_151 (by decide) ?_
  refine lv_iadd hx hb dX8_day_152 ?_
  refine mg_putN (wd := mg_mW g cI cZ) (σ := y10.2.2) (v := ((y10.2.2 1 1) + (y10.1 / 10))) (ci := 7) (C := RX7) (T := TX7) (N := 4) hx hb hts iX7_ tyX7 tyX7_ok nmX7 hown hK hw 1 1 rfl rfl 1 (by decide) (va_Nw.use rfl (hO.2.2.2.2.2.2.2.2.2.2.2.2.2.2.2.1)) (fun _ h9 => h9) rfl (by decide +kernel) (Nat.le_of_ble_eq_true rfl) rfl dX8_day_153 (fun H locs hw => ?_)
  refine lv_aload_n hx hb dX8_day_156 rfl (lv_at hl 1 rfl) ?_
  refine lv_dup hx hb dX8_day_157 rfl ?_
  refine va_getN (D := D) (ci := 7) (v := .int ((mg_su y10.2.2 1 1 ((y10.2.2 1 1) + (y10.1 / 10))) 1 0)) (C := RX7) (T := TX7) (N := 4) hx hb hts iX7_ hown hK hw.1 1 rfl rfl 0 (by decide) (va_Nw.use rfl (hO.2.2.2.2.2.2.2.2.2.2.2.2.1)) (fun _ h9 => h9) rfl dX8_day_158 ?_
  refine lv_iconst (v := 1) hx hb dX8_day_161 (by decide) ?_
  refine lv_iadd hx hb dX8_day_162 ?_
  refine mg_putN (wd := mg_mW g cI cZ) (σ := (mg_su y10.2.2 1 1 ((y10.2.2 1 1) + (y10.1 / 10)))) (v := (((mg_su y10.2.2 1 1 ((y10.2.2 1 1) + (y10.1 / 10))) 1 0) + 1)) (ci := 7) (C := RX7) (T := TX7) (N := 4) hx hb hts iX7_ tyX7 tyX7_ok nmX7 hown hK hw 1 1 rfl rfl 0 (by decide) (va_Nw.use rfl (hO.2.2.2.2.2.2.2.2.2.2.2.2.1)) (fun _ h9 => h9) rfl (by decide +kernel) (Nat.le_of_ble_eq_true rfl) rfl dX8_day_163 (fun H locs hw => ?_)
  refine lv_iload_n hx hb dX8_day_166 rfl (lv_at hl 2 rfl) ?_
  cases h
  exact mg_eI hx hb hr hlocks hw (Nat.zero_le _) (Nat.zero_le _) dX8_day_167
set_option maxHeartbeats 4000000 in
set_option maxRecDepth 100000 in
theorem k_X8_day_2 (l : Launch) (D : va_G) (o : Nat → Nat) (cI cZ : ClassId) (g : Nat → Nat) (sz : Nat) (σ : mg_St)  (y : (Int32 × mg_St)) (h : f_X8_day σ 2  = some y) : mg_CT l yX8_day wsX8_day ({ frames := 4, cells := 0, slots := 0, locals := 96 } : Room) D [(cI, .int), (cZ, .boolean)] o (mg_mW g cI cZ σ) sz [.ref (g 0), .ref (g 2)] (some (.int y.1)) (mg_mW g cI cZ y.2) 0 0 := by
  unfold mg_CT
  refine Met.ofW (cc := cX8_day) (maxL := 5) (ret := (some .int)) (by decide) rfl ?_
  intro p e s m args below meth c s₁ B hml hv
  obtain ⟨rfl, hsz, hP, hK, hD0, hO⟩ := hv
  have hx := B.exec
  have hb := B.bytes
  have hr := B.returns
  have hts := atoms_spec (ws := wsX8_day) B.pre
  have hown : s.vm.findClass RX8 = some m.cls := findClass_of_methodNamed B.named
  have hlocks := B.notSynchronized
  subst hsz
  have hD := hD0.self (sz := s.heap.size)
  generalize hAe : va_A (mg_mW g cI cZ σ) s.heap.size = A at hD hO ⊢
  have hA : ∀ q : Nat, s.heap.size ≤ q → A q := fun q h => by rw [← hAe]; exact Or.inr h
  have hw : mg_Wo D A s.heap s.heap [] (mg_mW g cI cZ σ) := ⟨hP, hD, va_S.rf⟩
  have G9 : CallFix p m c cX8_day 5 s ([.ref (g 0), .ref (g 2)] : List Value).toArray wsX8_day RX8 := ⟨hx, hb, hml, hown, hts⟩
  clear hP hD hD0 hAe
  obtain ⟨H, hHe⟩ : ∃ H : Heap, H = s.heap := ⟨_, rfl⟩
  have w0_ := hts (.fieldLink RX8 71 "MoonGateModel" "carps" "I") (by decide +kernel)
  have iX8_ : ∀ w ∈ wsX80, w ∈ wsX8_day := (fun _ h => List.mem_cons_of_mem _ (List.mem_append_left _ (List.mem_append_right _ h)))
  have w2_ := hts (.fieldLink RX8 25 "MoonGateModel" "sold" "[I") (by decide +kernel)
  have iX7_ : ∀ w ∈ wsX70, w ∈ wsX8_day := (fun _ h => List.mem_cons_of_mem _ (List.mem_append_right _ h))
  have w4_ := hts (.fieldLink RX8 19 "MoonGateModel" "pond" "[I") (by decide +kernel)
  have w5_ := hts (.fieldLink RX8 22 "MoonGateModel" "swims" "[I") (by decide +kernel)
  have w6_ := hts (.methodLink RX8 160 Lib.Math.min.name) (by decide +kernel)
  have w7_ := hts (.static Lib.Math.min.name) (by decide +kernel)
  have w8_ := hts (.initialized "java/lang/Math") (by decide +kernel)
  have w9_ := hts (.code Lib.Math.min.name Lib.Math.min.code 2 (some .int)) (by decide +kernel)
  have w10_ := hts (.methodLink RX8 157 Lib.Math.max.name) (by decide +kernel)
  have w11_ := hts (.static Lib.Math.max.name) (by decide +kernel)
  have w12_ := hts (.code Lib.Math.max.name Lib.Math.max.code 2 (some .int)) (by decide +kernel)
  have w13_ := hts (.fieldLink RX8 58 "MoonGateModel" "poets" "I") (by decide +kernel)
  have w14_ := hts (.fieldLink RX8 34 "MoonGateModel" "at" "[I") (by decide +kernel)
  have hl := lv_entry ([.ref (g 0), .ref (g 2)]) (n := 5) (Nat.le_of_ble_eq_true rfl)
  rw [lg_entry_eq]
  generalize (lg_sl ([.ref (g 0), .ref (g 2)]) ++ List.replicate (5 - (lg_sl ([.ref (g 0), .ref (g 2)])).length) Slot.unset).toArray = ls at hl ⊢
  have hl : lv_has ls 5 [(0, .ref (g 0)), (1, .ref (g 2))] := hl
  unfold f_X8_day at h
  revert hw
  intro hw
  suffices K_ : ∀ (H : Heap) (locs : List Loc), mg_Wo D A s.heap H locs (mg_mW g cI cZ σ) → W p l e (headSpec wsX8_day ({ frames := 4, cells := 0, slots := 0, locals := 96 } : Room)).room s m ([.ref (g 0), .ref (g 2)] : List Value).toArray below meth c H locs 0 0 (MQ below (mg_Q D (mg_mW g cI cZ y.2) A (some (.int y.1))) ([.ref (g 0), .ref (g 2)] : List Value).toArray s 0 0 A) (F0 m 0 ls []) from K_ _ _ hw
  clear hw hHe H
  intro H locs hw
  refine lv_iconst (v := 0) hx hb dX8_day_0 (by decide) ?_
  refine lv_istore_n (lv' := [(2, .int 0), (0, .ref (g 0)), (1, .ref (g 2))]) hx hb dX8_day_1 rfl hl (by decide) rfl (fun ls hl => ?_)
  have L2_ : ∀ (n : Nat) (x2_2 : Int32) (s2_ : mg_St) (y2_ : Int32 × mg_St), f_X8_day_2 2 n x2_2 s2_ = some y2_ → (∀ (H : Heap) (locs : List Loc) (ls : Array Slot), mg_Wo D A s.heap H locs (mg_mW g cI cZ y2_.2) → lv_has ls 5 [(0, .ref (g 0)), (1, .ref (g 2)), (2, .int y2_.1)] → W p l e (headSpec wsX8_day ({ frames := 4, cells := 0, slots := 0, locals := 96 } : Room)).room s m ([.ref (g 0), .ref (g 2)] : List Value).toArray below meth c H locs 0 0 (MQ below (mg_Q D (mg_mW g cI cZ y.2) A (some (.int y.1))) ([.ref (g 0), .ref (g 2)] : List Value).toArray s 0 0 A) (F0 m 77 ls [])) → ∀ (H : Heap) (locs : List Loc) (ls : Array Slot), mg_Wo D A s.heap H locs (mg_mW g cI cZ s2_) → lv_has ls 5 [(0, .ref (g 0)), (1, .ref (g 2)), (2, .int x2_2)] → W p l e (headSpec wsX8_day ({ frames := 4, cells := 0, slots := 0, locals := 96 } : Room)).room s m ([.ref (g 0), .ref (g 2)] : List Value).toArray below meth c H locs 0 0 (MQ below (mg_Q D (mg_mW g cI cZ y.2) A (some (.int y.1))) ([.ref (g 0), .ref (g 2)] : List Value).toArray s 0 0 A) (F0 m 2 ls []) := by
    intro n
    induction n with
    | zero => intro x2_2 s2_ y2_ h; rw [f_X8_day_2] at h; cases h
    | succ n ih =>
      intro x2_2 s2_ y2_ h kc H locs ls hw hl
      rw [f_X8_day_2] at h
      refine lv_iload_n hx hb dX8_day_2 rfl (lv_at hl 2 rfl) ?_
      refine lv_aload_n hx hb dX8_day_3 rfl (lv_at hl 0 rfl) ?_
      refine va_get (D := D) (ci := 8) (v := .int (s2_ 0 5)) (C := RX8) (T := TX8) (N := 15) hx hb hts iX8_ hown hK hw.1 0 rfl rfl 5 (by decide) w0_ (fun _ h9 => h9) rfl dX8_day_4 ?_
      refine mg_icmp_ge (tgt := 77) hx hb h dX8_day_7 (by decide) (fun h => ?_) (fun h => ?_)
      · cases h
        exact kc H locs ls hw (lv_sub hl [0, 1, 2] rfl)
      · refine lv_aload_n hx hb dX8_day_10 rfl (lv_at hl 0 rfl) ?_
        refine va_get (D := D) (ci := 8) (v := .ref (g 8)) (C := RX8) (T := TX8) (N := 15) hx hb hts iX8_ hown hK hw.1 0 rfl rfl 7 (by decide) w2_ (fun _ h9 => h9) rfl dX8_day_11 ?_
        refine lv_iload_n hx hb dX8_day_14 rfl (lv_at hl 2 rfl) ?_
        refine mg_ald (σ := s2_) (k := 8) (n := 30) hx hb hK hw 8 0 rfl rfl h dX8_day_15 (fun v2 h => ?_)
        refine mg_if_ne (tgt := 71) hx hb h dX8_day_16 (by decide) (fun h => ?_) (fun h => ?_)
        · refine lv_iinc (v := (x2_2 + 1)) (lv' := [(2, .int (x2_2 + 1)), (0, .ref (g 0)), (1, .ref (g 2))]) hx hb dX8_day_71 hl (k := 2) rfl rfl (by decide) rfl (fun ls hl => ?_)
          refine lv_goto (tgt := 2) hx hb dX8_day_74 (by decide) ?_
          exact ih _ _ _ h kc H locs ls hw (lv_sub hl [1, 2, 0] rfl)
        · refine lv_aload_n hx hb dX8_day_19 rfl (lv_at hl 1 rfl) ?_
          refine va_getN (D := D) (ci := 7) (v := .ref (g 14)) (C := RX7) (T := TX7) (N := 4) hx hb hts iX7_ hown hK hw.1 2 rfl rfl 2 (by decide) (va_Nw.use rfl (hO.2.2.2.2.2.2.2.2.2.2.2.2.2.1)) (fun _ h9 => h9) rfl dX8_day_20 ?_
          refine lv_iload_n hx hb dX8_day_23 rfl (lv_at hl 2 rfl) ?_
          refine lv_aload_n hx hb dX8_day_24 rfl (lv_at hl 0 rfl) ?_
          refine lv_aload_n hx hb dX8_day_25 rfl (lv_at hl 0 rfl) ?_
          refine va_get (D := D) (ci := 8) (v := .ref (g 6)) (C := RX8) (T := TX8) (N := 15) hx hb hts iX8_ hown hK hw.1 0 rfl rfl 4 (by decide) w4_ (fun _ h9 => h9) rfl dX8_day_26 ?_
          refine lv_aload_n hx hb dX8_day_29 rfl (lv_at hl 0 rfl) ?_
          refine va_get (D := D) (ci := 8) (v := .ref (g 7)) (C := RX8) (T := TX8) (N := 15) hx hb hts iX8_ hown hK hw.1 0 rfl rfl 6 (by decide) w5_ (fun _ h9 => h9) rfl dX8_day_30 ?_
          refine lv_iload_n hx hb dX8_day_33 rfl (lv_at hl 2 rfl) ?_
          refine mg_ald (σ := s2_) (k := 7) (n := 30) hx hb hK hw 7 0 rfl rfl h dX8_day_34 (fun v3 h => ?_)
          refine mg_ald (σ := s2_) (k := 6) (n := 70) hx hb hK hw 6 0 rfl rfl h dX8_day_35 (fun v4 h => ?_)
          obtain ⟨y5, h9_, h⟩ := mg_bind h
          refine mg_k (rv := (some (.int y5))) (va_runV (As := [.int v4]) (rest := [.int x2_2, .ref (g 14)]) G9 (k_X8_isTooFull l D o cI cZ g H.size s2_ v4 y5 h9_) (cwV 1 hts gX8_day_X8_isTooFull rfl rfl rfl (by decide +kernel) ⟨Nat.le_of_ble_eq_true rfl, Nat.le_of_ble_eq_true rfl⟩) (mg_preV hK hO hA hw (q0 := 0) rfl rfl) rfl rfl hl.1 rfl (lv_room (Nat.le_of_ble_eq_true rfl)) dX8_day_36 ⟨Nat.zero_le _, Nat.zero_le _⟩) hw hA (fun H locs hw => ?_)
          clear h9_
          refine mg_if_eq (tgt := 57) hx hb h dX8_day_39 (by decide) (fun h => ?_) (fun h => ?_)
          · refine lv_bipush (v := 40) hx hb dX8_day_57 (by decide) ?_
            refine lv_aload_n hx hb dX8_day_59 rfl (lv_at hl 1 rfl) ?_
            refine va_getN (D := D) (ci := 7) (v := .ref (g 14)) (C := RX7) (T := TX7) (N := 4) hx hb hts iX7_ hown hK hw.1 2 rfl rfl 2 (by decide) (va_Nw.use rfl (hO.2.2.2.2.2.2.2.2.2.2.2.2.2.1)) (fun _ h9 => h9) rfl dX8_day_60 ?_
            refine lv_iload_n hx hb dX8_day_63 rfl (lv_at hl 2 rfl) ?_
            refine mg_ald (σ := s2_) (k := (2 * 2 + 10)) (n := 30) hx hb hK hw 14 0 rfl rfl h dX8_day_64 (fun v6 h => ?_)
            refine lv_iconst (v := 1) hx hb dX8_day_65 (by decide) ?_
            refine lv_iadd hx hb dX8_day_66 ?_
            refine va_mmin hx hb (hml.trans hl.1.symm) hown w6_ w7_ w8_ w9_ (Nat.le_of_ble_eq_true rfl) (Nat.le_of_ble_eq_true rfl) (Nat.zero_le _) (Nat.zero_le _) dX8_day_67 ?_
            refine mg_ast (wd := mg_mW g cI cZ) (σ := s2_) (k := (2 * 2 + 10)) (n := 30) hx hb hK hw 14 0 rfl (mg_mS_14 g cI cZ s2_) rfl h dX8_day_70 (fun s7 h H locs hw => ?_)
            refine lv_iinc (v := (x2_2 + 1)) (lv' := [(2, .int (x2_2 + 1)), (0, .ref (g 0)), (1, .ref (g 2))]) hx hb dX8_day_71 hl (k := 2) rfl rfl (by decide) rfl (fun ls hl => ?_)
            refine lv_goto (tgt := 2) hx hb dX8_day_74 (by decide) ?_
            exact ih _ _ _ h kc H locs ls hw (lv_sub hl [1, 2, 0] rfl)
          · refine lv_iconst (v := 1) hx hb dX8_day_42 (by decide) ?_
            refine lv_aload_n hx hb dX8_day_43 rfl (lv_at hl 1 rfl) ?_
            refine va_getN (D := D) (ci := 7) (v := .ref (g 14)) (C := RX7) (T := TX7) (N := 4) hx hb hts iX7_ hown hK hw.1 2 rfl rfl 2 (by decide) (va_Nw.use rfl (hO.2.2.2.2.2.2.2.2.2.2.2.2.2.1)) (fun _ h9 => h9) rfl dX8_day_44 ?_
            refine lv_iload_n hx hb dX8_day_47 rfl (lv_at hl 2 rfl) ?_
            refine mg_ald (σ := s2_) (k := (2 * 2 + 10)) (n := 30) hx hb hK hw 14 0 rfl rfl h dX8_day_48 (fun v8 h => ?_)
            refine lv_iconst (v := 1) hx hb dX8_day_49 (by decide) ?_
            refine lv_isub hx hb dX8_day_50 ?_
            refine va_mmax hx hb (hml.trans hl.1.symm) hown w10_ w11_ w8_ w12_ (Nat.le_of_ble_eq_true rfl) (Nat.le_of_ble_eq_true rfl) (Nat.zero_le _) (Nat.zero_le _) dX8_day_51 ?_
            refine lv_goto (tgt := 70) hx hb dX8_day_54 (by decide) ?_
            refine mg_ast (wd := mg_mW g cI cZ) (σ := s2_) (k := (2 * 2 + 10)) (n := 30) hx hb hK hw 14 0 rfl (mg_mS_14 g cI cZ s2_) rfl h dX8_day_70 (fun s9 h H locs hw => ?_)
            refine lv_iinc (v := (x2_2 + 1)) (lv' := [(2, .int (x2_2 + 1)), (0, .ref (g 0)), (1, .ref (g 2))]) hx hb dX8_day_71 hl (k := 2) rfl rfl (by decide) rfl (fun ls hl => ?_)
            refine lv_goto (tgt := 2) hx hb dX8_day_74 (by decide) ?_
            exact ih _ _ _ h kc H locs ls hw (lv_sub hl [1, 2, 0] rfl)
  obtain ⟨y1, h9_, h⟩ := mg_bind h
  refine L2_ _ _ _ _ h9_ (fun H locs ls hw hl => ?_) H locs ls hw (lv_sub hl [1, 2, 0] rfl)
  clear L2_ h9_
  refine lv_iconst (v := 0) hx hb dX8_day_77 (by decide) ?_
  refine lv_istore_n (lv' := [(2, .int 0), (0, .ref (g 0)), (1, .ref (g 2))]) hx hb dX8_day_78 rfl hl (by decide) rfl (fun ls hl => ?_)
  refine lv_iconst (v := 0) hx hb dX8_day_79 (by decide) ?_
  refine lv_istore_n (lv' := [(3, .int 0), (2, .int 0), (0, .ref (g 0)), (1, .ref (g 2))]) hx hb dX8_day_80 rfl hl (by decide) rfl (fun ls hl => ?_)
  have L81_ : ∀ (n : Nat) (x2_81 : Int32) (x3_81 : Int32) (s81_ : mg_St) (y81_ : Int32 × Int32 × mg_St), f_X8_day_81 2 n x2_81 x3_81 s81_ = some y81_ → (∀ (H : Heap) (locs : List Loc) (ls : Array Slot), mg_Wo D A s.heap H locs (mg_mW g cI cZ y81_.2.2) → lv_has ls 5 [(0, .ref (g 0)), (1, .ref (g 2)), (2, .int y81_.1), (3, .int y81_.2.1)] → W p l e (headSpec wsX8_day ({ frames := 4, cells := 0, slots := 0, locals := 96 } : Room)).room s m ([.ref (g 0), .ref (g 2)] : List Value).toArray below meth c H locs 0 0 (MQ below (mg_Q D (mg_mW g cI cZ y.2) A (some (.int y.1))) ([.ref (g 0), .ref (g 2)] : List Value).toArray s 0 0 A) (F0 m 143 ls [])) → ∀ (H : Heap) (locs : List Loc) (ls : Array Slot), mg_Wo D A s.heap H locs (mg_mW g cI cZ s81_) → lv_has ls 5 [(0, .ref (g 0)), (1, .ref (g 2)), (2, .int x2_81), (3, .int x3_81)] → W p l e (headSpec wsX8_day ({ frames := 4, cells := 0, slots := 0, locals := 96 } : Room)).room s m ([.ref (g 0), .ref (g 2)] : List Value).toArray below meth c H locs 0 0 (MQ below (mg_Q D (mg_mW g cI cZ y.2) A (some (.int y.1))) ([.ref (g 0), .ref (g 2)] : List Value).toArray s 0 0 A) (F0 m 81 ls []) := by
    intro n
    induction n with
    | zero => intro x2_81 x3_81 s81_ y81_ h; rw [f_X8_day_81] at h; cases h
    | succ n ih =>
      intro x2_81 x3_81 s81_ y81_ h kc H locs ls hw hl
      rw [f_X8_day_81] at h
      refine lv_iload_n hx hb dX8_day_81 rfl (lv_at hl 3 rfl) ?_
      refine lv_aload_n hx hb dX8_day_82 rfl (lv_at hl 0 rfl) ?_
      refine va_get (D := D) (ci := 8) (v := .int (s81_ 0 11)) (C := RX8) (T := TX8) (N := 15) hx hb hts iX8_ hown hK hw.1 0 rfl rfl 11 (by decide) w13_ (fun _ h9 => h9) rfl dX8_day_83 ?_
      refine mg_icmp_ge (tgt := 143) hx hb h dX8_day_86 (by decide) (fun h => ?_) (fun h => ?_)
      · cases h
        exact kc H locs ls hw (lv_sub hl [0, 1, 2, 3] rfl)
      · refine lv_aload_n hx hb dX8_day_89 rfl (lv_at hl 0 rfl) ?_
        refine lv_aload_n hx hb dX8_day_90 rfl (lv_at hl 0 rfl) ?_
        refine va_get (D := D) (ci := 8) (v := .ref (g 11)) (C := RX8) (T := TX8) (N := 15) hx hb hts iX8_ hown hK hw.1 0 rfl rfl 12 (by decide) w14_ (fun _ h9 => h9) rfl dX8_day_91 ?_
        refine lv_iload_n hx hb dX8_day_94 rfl (lv_at hl 3 rfl) ?_
        refine mg_ald (σ := s81_) (k := 11) (n := 5) hx hb hK hw 11 0 rfl rfl h dX8_day_95 (fun v11 h => ?_)
        refine lv_aload_n hx hb dX8_day_96 rfl (lv_at hl 1 rfl) ?_
        obtain ⟨y12, h9_, h⟩ := mg_bind h
        refine mg_k (rv := (some (.int y12))) (va_runV (As := [.int v11, .ref (g 2)]) (rest := []) G9 (k_X8_beauty_2 l D o cI cZ g H.size s81_ v11 y12 h9_) (cwV 2 hts gX8_day_X8_beauty rfl rfl rfl (by decide +kernel) ⟨Nat.le_of_ble_eq_true rfl, Nat.le_of_ble_eq_true rfl⟩) (mg_preV hK hO hA hw (q0 := 0) rfl rfl) rfl rfl hl.1 rfl (lv_room (Nat.le_of_ble_eq_true rfl)) dX8_day_97 ⟨Nat.zero_le _, Nat.zero_le _⟩) hw hA (fun H locs hw => ?_)
        clear h9_
        refine lv_iconst (v := 5) hx hb dX8_day_100 (by decide) ?_
        refine lv_idiv hx hb dX8_day_101 (by decide) ?_
        refine lv_aload_n hx hb dX8_day_102 rfl (lv_at hl 1 rfl) ?_
        refine va_getN (D := D) (ci := 7) (v := .int (s81_ 2 0)) (C := RX7) (T := TX7) (N := 4) hx hb hts iX7_ hown hK hw.1 2 rfl rfl 0 (by decide) (va_Nw.use rfl (hO.2.2.2.2.2.2.2.2.2.2.2.2.1)) (fun _ h9 => h9) rfl dX8_day_103 ?_
        refine lv_bipush (v := 8) hx hb dX8_day_106 (by decide) ?_
        refine lv_irem hx hb dX8_day_108 (by decide) ?_
        refine lv_iconst (v := 4) hx hb dX8_day_109 (by decide) ?_
        obtain ⟨y13, h9_, h⟩ := mg_bind h
        have J110_ : ∀ (H : Heap) (locs : List Loc) (ls : Array Slot), mg_Wo D A s.heap H locs (mg_mW g cI cZ s81_) → lv_has ls 5 [(0, .ref (g 0)), (1, .ref (g 2)), (2, .int x2_81), (3, .int x3_81)] → W p l e (headSpec wsX8_day ({ frames := 4, cells := 0, slots := 0, locals := 96 } : Room)).room s m ([.ref (g 0), .ref (g 2)] : List Value).toArray below meth c H locs 0 0 (MQ below (mg_Q D (mg_mW g cI cZ y.2) A (some (.int y.1))) ([.ref (g 0), .ref (g 2)] : List Value).toArray s 0 0 A) (F0 m 118 ls [.int y13, .int (y12 / 5)]) := by
          intro H locs ls hw hl
          clear h9_
          refine lv_imul hx hb dX8_day_118 ?_
          refine lv_istore (lv' := [(4, .int ((y12 / 5) * y13)), (0, .ref (g 0)), (1, .ref (g 2)), (2, .int x2_81), (3, .int x3_81)]) hx hb dX8_day_119 hl (by decide) rfl (fun ls hl => ?_)
          refine lv_aload_n hx hb dX8_day_121 rfl (lv_at hl 2 rfl) ?_
          refine va_getN (D := D) (ci := 7) (v := .ref (g 15)) (C := RX7) (T := TX7) (N := 4) hx hb hts iX7_ hown hK hw.1 2 rfl rfl 3 (by decide) (va_Nw.use rfl (hO.2.2.2.2.2.2.2.2.2.2.2.2.2.2.1)) (fun _ h9 => h9) rfl dX8_day_122 ?_
          refine lv_iload_n hx hb dX8_day_125 rfl (lv_at hl 4 rfl) ?_
          refine lv_dup2_11 hx hb dX8_day_126 rfl rfl ?_
          refine mg_ald (σ := s81_) (k := (2 * 2 + 11)) (n := 5) hx hb hK hw 15 0 rfl rfl h dX8_day_127 (fun v14 h => ?_)
          refine lv_iload hx hb dX8_day_128 (lv_at hl 0 rfl) ?_
          refine lv_iadd hx hb dX8_day_130 ?_
          refine mg_ast (wd := mg_mW g cI cZ) (σ := s81_) (k := (2 * 2 + 11)) (n := 5) hx hb hK hw 15 0 rfl (mg_mS_15 g cI cZ s81_) rfl h dX8_day_131 (fun s15 h H locs hw => ?_)
          refine lv_iload_n hx hb dX8_day_132 rfl (lv_at hl 3 rfl) ?_
          refine lv_iload hx hb dX8_day_133 (lv_at hl 0 rfl) ?_
          refine lv_iadd hx hb dX8_day_135 ?_
          refine lv_istore_n (lv' := [(2, .int (x2_81 + ((y12 / 5) * y13))), (4, .int ((y12 / 5) * y13)), (0, .ref (g 0)), (1, .ref (g 2)), (3, .int x3_81)]) hx hb dX8_day_136 rfl hl (by decide) rfl (fun ls hl => ?_)
          refine lv_iinc (v := (x3_81 + 1)) (lv' := [(3, .int (x3_81 + 1)), (2, .int (x2_81 + ((y12 / 5) * y13))), (4, .int ((y12 / 5) * y13)), (0, .ref (g 0)), (1, .ref (g 2))]) hx hb dX8_day_137 hl (k := 4) rfl rfl (by decide) rfl (fun ls hl => ?_)
          refine lv_goto (tgt := 81) hx hb dX8_day_140 (by decide) ?_
          exact ih _ _ _ _ h kc H locs ls hw (lv_sub hl [3, 4, 1, 0] rfl)
        clear h
        have h := h9_
        clear h9_
        refine mg_icmp_ne (tgt := 117) hx hb h dX8_day_110 (by decide) (fun h => ?_) (fun h => ?_)
        · refine lv_iconst (v := 1) hx hb dX8_day_117 (by decide) ?_
          cases h
          exact J110_ H locs ls hw (lv_sub hl [0, 1, 2, 3] rfl)
        · refine lv_iconst (v := 2) hx hb dX8_day_113 (by decide) ?_
          refine lv_goto (tgt := 118) hx hb dX8_day_114 (by decide) ?_
          cases h
          exact J110_ H locs ls hw (lv_sub hl [0, 1, 2, 3] rfl)
  obtain ⟨y10, h9_, h⟩ := mg_bind h
  refine L81_ _ _ _ _ _ h9_ (fun H locs ls hw hl => ?_) H locs ls hw (lv_sub hl [2, 3, 1, 0] rfl)
  clear L81_ h9_
  refine lv_aload_n hx hb dX8_day_143 rfl (lv_at hl 1 rfl) ?_
  refine lv_dup hx hb dX8_day_144 rfl ?_
  refine va_getN (D := D) (ci := 7) (v := .int (y10.2.2 2 1)) (C := RX7) (T := TX7) (N := 4) hx hb hts iX7_ hown hK hw.1 2 rfl rfl 1 (by decide) (va_Nw.use rfl (hO.2.2.2.2.2.2.2.2.2.2.2.2.2.2.2.1)) (fun _ h9 => h9) rfl dX8_day_145 ?_
  refine lv_iload_n hx hb dX8_day_148 rfl (lv_at hl 2 rfl) ?_
  refine lv_bipush (v := 10) hx hb dX8_day_149 (by decide) ?_
  refine lv_idiv hx hb dX8_day_151 (by decide) ?_
  refine lv_iadd hx hb dX8_day_152 ?_
  refine mg_putN (wd := mg_mW g cI cZ) (σ := y10.2.2) (v := ((y10.2.2 2 1) + (y10.1 / 10))) (ci := 7) (C := RX7) (T := TX7) (N := 4) hx hb hts iX7_ tyX7 tyX7_ok nmX7 hown hK hw 2 2 rfl rfl 1 (by decide) (va_Nw.use rfl (hO.2.2.2.2.2.2.2.2.2.2.2.2.2.2.2.1)) (fun _ h9 => h9) rfl (by decide +kernel) (Nat.le_of_ble_eq_true rfl) rfl dX8_day_153 (fun H locs hw => ?_)
  refine lv_aload_n hx hb dX8_day_156 rfl (lv_at hl 1 rfl) ?_
  refine lv_dup hx hb dX8_day_157 rfl ?_
  refine va_getN (D := D) (ci := 7) (v := .int ((mg_su y10.2.2 2 1 ((y10.2.2 2 1) + (y10.1 / 10))) 2 0)) (C := RX7) (T := TX7) (N := 4) hx hb hts iX7_ hown hK hw.1 2 rfl rfl 0 (by decide) (va_Nw.use rfl (hO.2.2.2.2.2.2.2.2.2.2.2.2.1)) (fun _ h9 => h9) rfl dX8_day_158 ?_
  refine lv_iconst (v := 1) hx hb dX8_day_161 (by decide) ?_
  refine lv_iadd hx hb dX8_day_162 ?_
  refine mg_putN (wd := mg_mW g cI cZ) (σ := (mg_su y10.2.2 2 1 ((y10.2.2 2 1) + (y10.1 / 10)))) (v := (((mg_su y10.2.2 2 1 ((y10.2.2 2 1) + (y10.1 / 10))) 2 0) + 1)) (ci := 7) (C := RX7) (T := TX7) (N := 4) hx hb hts iX7_ tyX7 tyX7_ok nmX7 hown hK hw 2 2 rfl rfl 0 (by decide) (va_Nw.use rfl (hO.2.2.2.2.2.2.2.2.2.2.2.2.1)) (fun _ h9 => h9) rfl (by decide +kernel) (Nat.le_of_ble_eq_true rfl) rfl dX8_day_163 (fun H locs hw => ?_)
  refine lv_iload_n hx hb dX8_day_166 rfl (lv_at hl 2 rfl) ?_
  cases h
  exact mg_eI hx hb hr hlocks hw (Nat.zero_le _) (Nat.zero_le _) dX8_day_167
set_option maxHeartbeats 4000000 in
set_option maxRecDepth 100000 in
theorem k_X8_days_1 (l : Launch) (D : va_G) (o : Nat → Nat) (cI cZ : ClassId) (g : Nat → Nat) (sz : Nat) (σ : mg_St) (x2 : Int32) (y : (Int32 × mg_St)) (h : f_X8_days σ 1 x2 = some y) : mg_CT l yX8_days wsX8_days ({ frames := 5, cells := 0, slots := 0, locals := 120 } : Room) D [(cI, .int), (cZ, .boolean)] o (mg_mW g cI cZ σ) sz [.ref (g 0), .ref (g 1), .int x2] (some (.int y.1)) (mg_mW g cI cZ y.2) 0 0 := by
  unfold mg_CT
  refine Met.ofW (cc := cX8_days) (maxL := 5) (ret := (some .int)) (by decide) rfl ?_
  intro p e s m args below meth c s₁ B hml hv
  obtain ⟨rfl, hsz, hP, hK, hD0, hO⟩ := hv
  have hx := B.exec
  have hb := B.bytes
  have hr := B.returns
  have hts := atoms_spec (ws := wsX8_days) B.pre
  have hown : s.vm.findClass RX8 = some m.cls := findClass_of_methodNamed B.named
  have hlocks := B.notSynchronized
  subst hsz
  have hD := hD0.self (sz := s.heap.size)
  generalize hAe : va_A (mg_mW g cI cZ σ) s.heap.size = A at hD hO ⊢
  have hA : ∀ q : Nat, s.heap.size ≤ q → A q := fun q h => by rw [← hAe]; exact Or.inr h
  have hw : mg_Wo D A s.heap s.heap [] (mg_mW g cI cZ σ) := ⟨hP, hD, va_S.rf⟩
  have G9 : CallFix p m c cX8_days 5 s ([.ref (g 0), .ref (g 1), .int x2] : List Value).toArray wsX8_days RX8 := ⟨hx, hb, hml, hown, hts⟩
  clear hP hD hD0 hAe
  obtain ⟨H, hHe⟩ : ∃ H : Heap, H = s.heap := ⟨_, rfl⟩
  have hl := lv_entry ([.ref (g 0), .ref (g 1), .int x2]) (n := 5) (Nat.le_of_ble_eq_true rfl)
  rw [lg_entry_eq]
  generalize (lg_sl ([.ref (g 0), .ref (g 1), .int x2]) ++ List.replicate (5 - (lg_sl ([.ref (g 0), .ref (g 1), .int x2])).length) Slot.unset).toArray = ls at hl ⊢
  have hl : lv_has ls 5 [(0, .ref (g 0)), (1, .ref (g 1)), (2, .int x2)] := hl
  unfold f_X8_days at h
  revert hw
  intro hw
  suffices K_ : ∀ (H : Heap) (locs : List Loc), mg_Wo D A s.heap H locs (mg_mW g cI cZ σ) → W p l e (headSpec wsX8_days ({ frames := 5, cells := 0, slots := 0, locals := 120 } : Room)).room s m ([.ref (g 0), .ref (g 1), .int x2] : List Value).toArray below meth c H locs 0 0 (MQ below (mg_Q D (mg_mW g cI cZ y.2) A (some (.int y.1))) ([.ref (g 0), .ref (g 1), .int x2] : List Value).toArray s 0 0 A) (F0 m 0 ls []) from K_ _ _ hw
  clear hw hHe H
  intro H locs hw
  refine lv_aload_n hx hb dX8_days_0 rfl (lv_at hl 0 rfl) ?_
  obtain ⟨y1, h9_, h⟩ := mg_bind h
  refine mg_k (rv := none) (va_runV (As := []) (rest := []) G9 (k_X8_markPonds l D o cI cZ g H.size σ  y1 h9_) (cwV 0 hts gX8_days_X8_markPonds rfl rfl rfl (by decide +kernel) ⟨Nat.le_of_ble_eq_true rfl, Nat.le_of_ble_eq_true rfl⟩) (mg_preV hK hO hA hw (q0 := 0) rfl rfl) rfl rfl hl.1 rfl (lv_room (Nat.le_of_ble_eq_true rfl)) dX8_days_1 ⟨Nat.zero_le _, Nat.zero_le _⟩) hw hA (fun H locs hw => ?_)
  clear h9_
  refine lv_iconst (v := 0) hx hb dX8_days_4 (by decide) ?_
  refine lv_istore_n (lv' := [(3, .int 0), (0, .ref (g 0)), (1, .ref (g 1)), (2, .int x2)]) hx hb dX8_days_5 rfl hl (by decide) rfl (fun ls hl => ?_)
  refine lv_iconst (v := 0) hx hb dX8_days_6 (by decide) ?_
  refine lv_istore (lv' := [(4, .int 0), (3, .int 0), (0, .ref (g 0)), (1, .ref (g 1)), (2, .int x2)]) hx hb dX8_days_7 hl (by decide) rfl (fun ls hl => ?_)
  have L9_ : ∀ (n : Nat) (x3_9 : Int32) (x4_9 : Int32) (s9_ : mg_St) (y9_ : Int32 × Int32 × mg_St), f_X8_days_9 1 x2 n x3_9 x4_9 s9_ = some y9_ → (∀ (H : Heap) (locs : List Loc) (ls : Array Slot), mg_Wo D A s.heap H locs (mg_mW g cI cZ y9_.2.2) → lv_has ls 5 [(0, .ref (g 0)), (1, .ref (g 1)), (2, .int x2), (3, .int y9_.1), (4, .int y9_.2.1)] → W p l e (headSpec wsX8_days ({ frames := 5, cells := 0, slots := 0, locals := 120 } : Room)).room s m ([.ref (g 0), .ref (g 1), .int x2] : List Value).toArray below meth c H locs 0 0 (MQ below (mg_Q D (mg_mW g cI cZ y.2) A (some (.int y.1))) ([.ref (g 0), .ref (g 1), .int x2] : List Value).toArray s 0 0 A) (F0 m 29 ls [])) → ∀ (H : Heap) (locs : List Loc) (ls : Array Slot), mg_Wo D A s.heap H locs (mg_mW g cI cZ s9_) → lv_has ls 5 [(0, .ref (g 0)), (1, .ref (g 1)), (2, .int x2), (3, .int x3_9), (4, .int x4_9)] → W p l e (headSpec wsX8_days ({ frames := 5, cells := 0, slots := 0, locals := 120 } : Room)).room s m ([.ref (g 0), .ref (g 1), .int x2] : List Value).toArray below meth c H locs 0 0 (MQ below (mg_Q D (mg_mW g cI cZ y.2) A (some (.int y.1))) ([.ref (g 0), .ref (g 1), .int x2] : List Value).toArray s 0 0 A) (F0 m 9 ls []) := by
    intro n
    induction n with
    | zero => intro x3_9 x4_9 s9_ y9_ h; rw [f_X8_days_9] at h; cases h
    | succ n ih =>
      intro x3_9 x4_9 s9_ y9_ h kc H locs ls hw hl
      rw [f_X8_days_9] at h
      refine lv_iload hx hb dX8_days_9 (lv_at hl 4 rfl) ?_
      refine lv_iload_n hx hb dX8_days_11 rfl (lv_at hl 2 rfl) ?_
      refine mg_icmp_ge (tgt := 29) hx hb h dX8_days_12 (by decide) (fun h => ?_) (fun h => ?_)
      · cases h
        exact kc H locs ls hw (lv_sub hl [0, 1, 2, 3, 4] rfl)
      · refine lv_iload_n hx hb dX8_days_15 rfl (lv_at hl 3 rfl) ?_
        refine lv_aload_n hx hb dX8_days_16 rfl (lv_at hl 0 rfl) ?_
        refine lv_aload_n hx hb dX8_days_17 rfl (lv_at hl 1 rfl) ?_
        obtain ⟨y3, h9_, h⟩ := mg_bind h
        refine mg_k (rv := (some (.int y3.1))) (va_runV (As := [.ref (g 1)]) (rest := [.int x3_9]) G9 (k_X8_day_1 l D o cI cZ g H.size s9_  y3 h9_) (cwV 1 hts gX8_days_X8_day rfl rfl rfl (by decide +kernel) ⟨Nat.le_of_ble_eq_true rfl, Nat.le_of_ble_eq_true rfl⟩) (mg_preV hK hO hA hw (q0 := 0) rfl rfl) rfl rfl hl.1 rfl (lv_room (Nat.le_of_ble_eq_true rfl)) dX8_days_18 ⟨Nat.zero_le _, Nat.zero_le _⟩) hw hA (fun H locs hw => ?_)
        clear h9_
        refine lv_iadd hx hb dX8_days_21 ?_
        refine lv_istore_n (lv' := [(3, .int (x3_9 + y3.1)), (0, .ref (g 0)), (1, .ref (g 1)), (2, .int x2), (4, .int x4_9)]) hx hb dX8_days_22 rfl hl (by decide) rfl (fun ls hl => ?_)
        refine lv_iinc (v := (x4_9 + 1)) (lv' := [(4, .int (x4_9 + 1)), (3, .int (x3_9 + y3.1)), (0, .ref (g 0)), (1, .ref (g 1)), (2, .int x2)]) hx hb dX8_days_23 hl (k := 4) rfl rfl (by decide) rfl (fun ls hl => ?_)
        refine lv_goto (tgt := 9) hx hb dX8_days_26 (by decide) ?_
        exact ih _ _ _ _ h kc H locs ls hw (lv_sub hl [2, 3, 4, 1, 0] rfl)
  obtain ⟨y2, h9_, h⟩ := mg_bind h
  refine L9_ _ _ _ _ _ h9_ (fun H locs ls hw hl => ?_) H locs ls hw (lv_sub hl [2, 3, 4, 1, 0] rfl)
  clear L9_ h9_
  refine lv_iload_n hx hb dX8_days_29 rfl (lv_at hl 3 rfl) ?_
  cases h
  exact mg_eI hx hb hr hlocks hw (Nat.zero_le _) (Nat.zero_le _) dX8_days_30
set_option maxHeartbeats 4000000 in
set_option maxRecDepth 100000 in
theorem k_X8_days_2 (l : Launch) (D : va_G) (o : Nat → Nat) (cI cZ : ClassId) (g : Nat → Nat) (sz : Nat) (σ : mg_St) (x2 : Int32) (y : (Int32 × mg_St)) (h : f_X8_days σ 2 x2 = some y) : mg_CT l yX8_days wsX8_days ({ frames := 5, cells := 0, slots := 0, locals := 120 } : Room) D [(cI, .int), (cZ, .boolean)] o (mg_mW g cI cZ σ) sz [.ref (g 0), .ref (g 2), .int x2] (some (.int y.1)) (mg_mW g cI cZ y.2) 0 0 := by
  unfold mg_CT
  refine Met.ofW (cc := cX8_days) (maxL := 5) (ret := (some .int)) (by decide) rfl ?_
  intro p e s m args below meth c s₁ B hml hv
  obtain ⟨rfl, hsz, hP, hK, hD0, hO⟩ := hv
  have hx := B.exec
  have hb := B.bytes
  have hr := B.returns
  have hts := atoms_spec (ws := wsX8_days) B.pre
  have hown : s.vm.findClass RX8 = some m.cls := findClass_of_methodNamed B.named
  have hlocks := B.notSynchronized
  subst hsz
  have hD := hD0.self (sz := s.heap.size)
  generalize hAe : va_A (mg_mW g cI cZ σ) s.heap.size = A at hD hO ⊢
  have hA : ∀ q : Nat, s.heap.size ≤ q → A q := fun q h => by rw [← hAe]; exact Or.inr h
  have hw : mg_Wo D A s.heap s.heap [] (mg_mW g cI cZ σ) := ⟨hP, hD, va_S.rf⟩
  have G9 : CallFix p m c cX8_days 5 s ([.ref (g 0), .ref (g 2), .int x2] : List Value).toArray wsX8_days RX8 := ⟨hx, hb, hml, hown, hts⟩
  clear hP hD hD0 hAe
  obtain ⟨H, hHe⟩ : ∃ H : Heap, H = s.heap := ⟨_, rfl⟩
  have hl := lv_entry ([.ref (g 0), .ref (g 2), .int x2]) (n := 5) (Nat.le_of_ble_eq_true rfl)
  rw [lg_entry_eq]
  generalize (lg_sl ([.ref (g 0), .ref (g 2), .int x2]) ++ List.replicate (5 - (lg_sl ([.ref (g 0), .ref (g 2), .int x2])).length) Slot.unset).toArray = ls at hl ⊢
  have hl : lv_has ls 5 [(0, .ref (g 0)), (1, .ref (g 2)), (2, .int x2)] := hl
  unfold f_X8_days at h
  revert hw
  intro hw
  suffices K_ : ∀ (H : Heap) (locs : List Loc), mg_Wo D A s.heap H locs (mg_mW g cI cZ σ) → W p l e (headSpec wsX8_days ({ frames := 5, cells := 0, slots := 0, locals := 120 } : Room)).room s m ([.ref (g 0), .ref (g 2), .int x2] : List Value).toArray below meth c H locs 0 0 (MQ below (mg_Q D (mg_mW g cI cZ y.2) A (some (.int y.1))) ([.ref (g 0), .ref (g 2), .int x2] : List Value).toArray s 0 0 A) (F0 m 0 ls []) from K_ _ _ hw
  clear hw hHe H
  intro H locs hw
  refine lv_aload_n hx hb dX8_days_0 rfl (lv_at hl 0 rfl) ?_
  obtain ⟨y1, h9_, h⟩ := mg_bind h
  refine mg_k (rv := none) (va_runV (As := []) (rest := []) G9 (k_X8_markPonds l D o cI cZ g H.size σ  y1 h9_) (cwV 0 hts gX8_days_X8_markPonds rfl rfl rfl (by decide +kernel) ⟨Nat.le_of_ble_eq_true rfl, Nat.le_of_ble_eq_true rfl⟩) (mg_preV hK hO hA hw (q0 := 0) rfl rfl) rfl rfl hl.1 rfl (lv_room (Nat.le_of_ble_eq_true rfl)) dX8_days_1 ⟨Nat.zero_le _, Nat.zero_le _⟩) hw hA (fun H locs hw => ?_)
  clear h9_
  refine lv_iconst (v := 0) hx hb dX8_days_4 (by decide) ?_
  refine lv_istore_n (lv' := [(3, .int 0), (0, .ref (g 0)), (1, .ref (g 2)), (2, .int x2)]) hx hb dX8_days_5 rfl hl (by decide) rfl (fun ls hl => ?_)
  refine lv_iconst (v := 0) hx hb dX8_days_6 (by decide) ?_
  refine lv_istore (lv' := [(4, .int 0), (3, .int 0), (0, .ref (g 0)), (1, .ref (g 2)), (2, .int x2)]) hx hb dX8_days_7 hl (by decide) rfl (fun ls hl => ?_)
  have L9_ : ∀ (n : Nat) (x3_9 : Int32) (x4_9 : Int32) (s9_ : mg_St) (y9_ : Int32 × Int32 × mg_St), f_X8_days_9 2 x2 n x3_9 x4_9 s9_ = some y9_ → (∀ (H : Heap) (locs : List Loc) (ls : Array Slot), mg_Wo D A s.heap H locs (mg_mW g cI cZ y9_.2.2) → lv_has ls 5 [(0, .ref (g 0)), (1, .ref (g 2)), (2, .int x2), (3, .int y9_.1), (4, .int y9_.2.1)] → W p l e (headSpec wsX8_days ({ frames := 5, cells := 0, slots := 0, locals := 120 } : Room)).room s m ([.ref (g 0), .ref (g 2), .int x2] : List Value).toArray below meth c H locs 0 0 (MQ below (mg_Q D (mg_mW g cI cZ y.2) A (some (.int y.1))) ([.ref (g 0), .ref (g 2), .int x2] : List Value).toArray s 0 0 A) (F0 m 29 ls [])) → ∀ (H : Heap) (locs : List Loc) (ls : Array Slot), mg_Wo D A s.heap H locs (mg_mW g cI cZ s9_) → lv_has ls 5 [(0, .ref (g 0)), (1, .ref (g 2)), (2, .int x2), (3, .int x3_9), (4, .int x4_9)] → W p l e (headSpec wsX8_days ({ frames := 5, cells := 0, slots := 0, locals := 120 } : Room)).room s m ([.ref (g 0), .ref (g 2), .int x2] : List Value).toArray below meth c H locs 0 0 (MQ below (mg_Q D (mg_mW g cI cZ y.2) A (some (.int y.1))) ([.ref (g 0), .ref (g 2), .int x2] : List Value).toArray s 0 0 A) (F0 m 9 ls []) := by
    intro n
    induction n with
    | zero => intro x3_9 x4_9 s9_ y9_ h; rw [f_X8_days_9] at h; cases h
    | succ n ih =>
      intro x3_9 x4_9 s9_ y9_ h kc H locs ls hw hl
      rw [f_X8_days_9] at h
      refine lv_iload hx hb dX8_days_9 (lv_at hl 4 rfl) ?_
      refine lv_iload_n hx hb dX8_days_11 rfl (lv_at hl 2 rfl) ?_
      refine mg_icmp_ge (tgt := 29) hx hb h dX8_days_12 (by decide) (fun h => ?_) (fun h => ?_)
      · cases h
        exact kc H locs ls hw (lv_sub hl [0, 1, 2, 3, 4] rfl)
      · refine lv_iload_n hx hb dX8_days_15 rfl (lv_at hl 3 rfl) ?_
        refine lv_aload_n hx hb dX8_days_16 rfl (lv_at hl 0 rfl) ?_
        refine lv_aload_n hx hb dX8_days_17 rfl (lv_at hl 1 rfl) ?_
        obtain ⟨y3, h9_, h⟩ := mg_bind h
        refine mg_k (rv := (some (.int y3.1))) (va_runV (As := [.ref (g 2)]) (rest := [.int x3_9]) G9 (k_X8_day_2 l D o cI cZ g H.size s9_  y3 h9_) (cwV 1 hts gX8_days_X8_day rfl rfl rfl (by decide +kernel) ⟨Nat.le_of_ble_eq_true rfl, Nat.le_of_ble_eq_true rfl⟩) (mg_preV hK hO hA hw (q0 := 0) rfl rfl) rfl rfl hl.1 rfl (lv_room (Nat.le_of_ble_eq_true rfl)) dX8_days_18 ⟨Nat.zero_le _, Nat.zero_le _⟩) hw hA (fun H locs hw => ?_)
        clear h9_
        refine lv_iadd hx hb dX8_days_21 ?_
        refine lv_istore_n (lv' := [(3, .int (x3_9 + y3.1)), (0, .ref (g 0)), (1, .ref (g 2)), (2, .int x2), (4, .int x4_9)]) hx hb dX8_days_22 rfl hl (by decide) rfl (fun ls hl => ?_)
        refine lv_iinc (v := (x4_9 + 1)) (lv' := [(4, .int (x4_9 + 1)), (3, .int (x3_9 + y3.1)), (0, .ref (g 0)), (1, .ref (g 2)), (2, .int x2)]) hx hb dX8_days_23 hl (k := 4) rfl rfl (by decide) rfl (fun ls hl => ?_)
        refine lv_goto (tgt := 9) hx hb dX8_days_26 (by decide) ?_
        exact ih _ _ _ _ h kc H locs ls hw (lv_sub hl [2, 3, 4, 1, 0] rfl)
  obtain ⟨y2, h9_, h⟩ := mg_bind h
  refine L9_ _ _ _ _ _ h9_ (fun H locs ls hw hl => ?_) H locs ls hw (lv_sub hl [2, 3, 4, 1, 0] rfl)
  clear L9_ h9_
  refine lv_iload_n hx hb dX8_days_29 rfl (lv_at hl 3 rfl) ?_
  cases h
  exact mg_eI hx hb hr hlocks hw (Nat.zero_le _) (Nat.zero_le _) dX8_days_30
set_option maxHeartbeats 4000000 in
set_option maxRecDepth 100000 in
theorem k_X8_pass (l : Launch) (D : va_G) (o : Nat → Nat) (cI cZ : ClassId) (g : Nat → Nat) (sz : Nat) (σ : mg_St) (x1 : Int32) (y : (Int32 × mg_St)) (h : f_X8_pass σ x1 = some y) : mg_CT l yX8_pass wsX8_pass ({ frames := 6, cells := 0, slots := 0, locals := 144 } : Room) D [(cI, .int), (cZ, .boolean)] o (mg_mW g cI cZ σ) sz [.ref (g 0), .int x1] (some (.int y.1)) (mg_mW g cI cZ y.2) 0 0 := by
  unfold mg_CT
  refine Met.ofW (cc := cX8_pass) (maxL := 2) (ret := (some .int)) (by decide) rfl ?_
  intro p e s m args below meth c s₁ B hml hv
  obtain ⟨rfl, hsz, hP, hK, hD0, hO⟩ := hv
  have hx := B.exec
  have hb := B.bytes
  have hr := B.returns
  have hts := atoms_spec (ws := wsX8_pass) B.pre
  have hown : s.vm.findClass RX8 = some m.cls := findClass_of_methodNamed B.named
  have hlocks := B.notSynchronized
  subst hsz
  have hD := hD0.self (sz := s.heap.size)
  generalize hAe : va_A (mg_mW g cI cZ σ) s.heap.size = A at hD hO ⊢
  have hA : ∀ q : Nat, s.heap.size ≤ q → A q := fun q h => by rw [← hAe]; exact Or.inr h
  have hw : mg_Wo D A s.heap s.heap [] (mg_mW g cI cZ σ) := ⟨hP, hD, va_S.rf⟩
  have G9 : CallFix p m c cX8_pass 2 s ([.ref (g 0), .int x1] : List Value).toArray wsX8_pass RX8 := ⟨hx, hb, hml, hown, hts⟩
  clear hP hD hD0 hAe
  obtain ⟨H, hHe⟩ : ∃ H : Heap, H = s.heap := ⟨_, rfl⟩
  have w0_ := hts (.fieldLink RX8 47 "MoonGateModel" "thrown" "I") (by decide +kernel)
  have iX8_ : ∀ w ∈ wsX80, w ∈ wsX8_pass := (fun _ h => List.mem_cons_of_mem _ (List.mem_append_left _ (List.mem_append_right _ h)))
  have w2_ := hts (.fieldLink RX8 40 "MoonGateModel" "s" "LMoonGateModel$Days;") (by decide +kernel)
  have hl := lv_entry ([.ref (g 0), .int x1]) (n := 2) (Nat.le_of_ble_eq_true rfl)
  rw [lg_entry_eq]
  generalize (lg_sl ([.ref (g 0), .int x1]) ++ List.replicate (2 - (lg_sl ([.ref (g 0), .int x1])).length) Slot.unset).toArray = ls at hl ⊢
  have hl : lv_has ls 2 [(0, .ref (g 0)), (1, .int x1)] := hl
  unfold f_X8_pass at h
  revert hw
  intro hw
  suffices K_ : ∀ (H : Heap) (locs : List Loc), mg_Wo D A s.heap H locs (mg_mW g cI cZ σ) → W p l e (headSpec wsX8_pass ({ frames := 6, cells := 0, slots := 0, locals := 144 } : Room)).room s m ([.ref (g 0), .int x1] : List Value).toArray below meth c H locs 0 0 (MQ below (mg_Q D (mg_mW g cI cZ y.2) A (some (.int y.1))) ([.ref (g 0), .int x1] : List Value).toArray s 0 0 A) (F0 m 0 ls []) from K_ _ _ hw
  clear hw hHe H
  intro H locs hw
  refine lv_aload_n hx hb dX8_pass_0 rfl (lv_at hl 0 rfl) ?_
  refine lv_iconst (v := 0) hx hb dX8_pass_1 (by decide) ?_
  refine mg_put (wd := mg_mW g cI cZ) (σ := σ) (v := 0) (ci := 8) (C := RX8) (T := TX8) (N := 15) hx hb hts iX8_ tyX8 tyX8_ok nmX8 hown hK hw 0 0 rfl rfl 0 (by decide) w0_ (fun _ h9 => h9) rfl (by decide +kernel) (Nat.le_of_ble_eq_true rfl) rfl dX8_pass_2 (fun H locs hw => ?_)
  refine lv_iload_n hx hb dX8_pass_5 rfl (lv_at hl 1 rfl) ?_
  refine lv_iconst (v := 1) hx hb dX8_pass_6 (by decide) ?_
  refine lv_bipush (v := 60) hx hb dX8_pass_7 (by decide) ?_
  obtain ⟨y1, h9_, h⟩ := mg_bind h
  refine mg_k (rv := (some (.int y1))) (va_runS (As := [.int x1, .int 1, .int 60]) (rest := []) G9 (k_X8_isIn l D o cI cZ g H.size (mg_su σ 0 0 0) x1 1 60 y1 h9_) (va_cwS 3 hts gX8_pass_X8_isIn rfl rfl rfl (by decide +kernel) ⟨Nat.le_of_ble_eq_true rfl, Nat.le_of_ble_eq_true rfl⟩) (mg_pre hK hO hA hw) rfl rfl hl.1 rfl (lv_room (Nat.le_of_ble_eq_true rfl)) dX8_pass_9 ⟨Nat.zero_le _, Nat.zero_le _⟩) hw hA (fun H locs hw => ?_)
  clear h9_
  refine mg_if_eq (tgt := 27) hx hb h dX8_pass_12 (by decide) (fun h => ?_) (fun h => ?_)
  · refine lv_aload_n hx hb dX8_pass_27 rfl (lv_at hl 0 rfl) ?_
    refine lv_iconst (v := 1) hx hb dX8_pass_28 (by decide) ?_
    obtain ⟨y2, h9_, h⟩ := mg_bind h
    refine mg_k (rv := (some (.int y2.1))) (va_runV (As := [.int 1]) (rest := []) G9 (k_X8_no l D o cI cZ g H.size (mg_su σ 0 0 0) 1 y2 h9_) (cwV 1 hts gX8_pass_X8_no rfl rfl rfl (by decide +kernel) ⟨Nat.le_of_ble_eq_true rfl, Nat.le_of_ble_eq_true rfl⟩) (mg_preV hK hO hA hw (q0 := 0) rfl rfl) rfl rfl hl.1 rfl (lv_room (Nat.le_of_ble_eq_true rfl)) dX8_pass_29 ⟨Nat.zero_le _, Nat.zero_le _⟩) hw hA (fun H locs hw => ?_)
    clear h9_
    cases h
    exact mg_eI hx hb hr hlocks hw (Nat.zero_le _) (Nat.zero_le _) dX8_pass_32
  · refine lv_aload_n hx hb dX8_pass_15 rfl (lv_at hl 0 rfl) ?_
    refine lv_aload_n hx hb dX8_pass_16 rfl (lv_at hl 0 rfl) ?_
    refine va_get (D := D) (ci := 8) (v := .ref (g 1)) (C := RX8) (T := TX8) (N := 15) hx hb hts iX8_ hown hK hw.1 0 rfl rfl 13 (by decide) w2_ (fun _ h9 => h9) rfl dX8_pass_17 ?_
    refine lv_iload_n hx hb dX8_pass_20 rfl (lv_at hl 1 rfl) ?_
    obtain ⟨y3, h9_, h⟩ := mg_bind h
    refine mg_k (rv := (some (.int y3.1))) (va_runV (As := [.ref (g 1), .int x1]) (rest := []) G9 (k_X8_days_1 l D o cI cZ g H.size (mg_su σ 0 0 0) x1 y3 h9_) (cwV 2 hts gX8_pass_X8_days rfl rfl rfl (by decide +kernel) ⟨Nat.le_of_ble_eq_true rfl, Nat.le_of_ble_eq_true rfl⟩) (mg_preV hK hO hA hw (q0 := 0) rfl rfl) rfl rfl hl.1 rfl (lv_room (Nat.le_of_ble_eq_true rfl)) dX8_pass_21 ⟨Nat.zero_le _, Nat.zero_le _⟩) hw hA (fun H locs hw => ?_)
    clear h9_
    refine lv_goto (tgt := 32) hx hb dX8_pass_24 (by decide) ?_
    cases h
    exact mg_eI hx hb hr hlocks hw (Nat.zero_le _) (Nat.zero_le _) dX8_pass_32
set_option maxHeartbeats 4000000 in
set_option maxRecDepth 100000 in
theorem k_X8_foresee (l : Launch) (D : va_G) (o : Nat → Nat) (cI cZ : ClassId) (g : Nat → Nat) (sz : Nat) (σ : mg_St) (x1 : Int32) (x2 : Int32) (y : (Int32 × mg_St)) (h : f_X8_foresee σ x1 x2 = some y) : mg_CT l yX8_foresee wsX8_foresee ({ frames := 6, cells := 0, slots := 0, locals := 144 } : Room) D [(cI, .int), (cZ, .boolean)] o (mg_mW g cI cZ σ) sz [.ref (g 0), .int x1, .int x2] (some (.int y.1)) (mg_mW g cI cZ y.2) 0 0 := by
  unfold mg_CT
  refine Met.ofW (cc := cX8_foresee) (maxL := 3) (ret := (some .int)) (by decide) rfl ?_
  intro p e s m args below meth c s₁ B hml hv
  obtain ⟨rfl, hsz, hP, hK, hD0, hO⟩ := hv
  have hx := B.exec
  have hb := B.bytes
  have hr := B.returns
  have hts := atoms_spec (ws := wsX8_foresee) B.pre
  have hown : s.vm.findClass RX8 = some m.cls := findClass_of_methodNamed B.named
  have hlocks := B.notSynchronized
  subst hsz
  have hD := hD0.self (sz := s.heap.size)
  generalize hAe : va_A (mg_mW g cI cZ σ) s.heap.size = A at hD hO ⊢
  have hA : ∀ q : Nat, s.heap.size ≤ q → A q := fun q h => by rw [← hAe]; exact Or.inr h
  have hw : mg_Wo D A s.heap s.heap [] (mg_mW g cI cZ σ) := ⟨hP, hD, va_S.rf⟩
  have G9 : CallFix p m c cX8_foresee 3 s ([.ref (g 0), .int x1, .int x2] : List Value).toArray wsX8_foresee RX8 := ⟨hx, hb, hml, hown, hts⟩
  clear hP hD hD0 hAe
  obtain ⟨H, hHe⟩ : ∃ H : Heap, H = s.heap := ⟨_, rfl⟩
  have w0_ := hts (.fieldLink RX8 47 "MoonGateModel" "thrown" "I") (by decide +kernel)
  have iX8_ : ∀ w ∈ wsX80, w ∈ wsX8_foresee := (fun _ h => List.mem_cons_of_mem _ (List.mem_append_left _ (List.mem_append_right _ h)))
  have w2_ := hts (.fieldLink RX8 44 "MoonGateModel" "ahead" "LMoonGateModel$Days;") (by decide +kernel)
  have w3_ := hts (.fieldLink RX8 40 "MoonGateModel" "s" "LMoonGateModel$Days;") (by decide +kernel)
  have iX7_ : ∀ w ∈ wsX70, w ∈ wsX8_foresee := (fun _ h => List.mem_cons_of_mem _ (List.mem_append_right _ h))
  have hl := lv_entry ([.ref (g 0), .int x1, .int x2]) (n := 3) (Nat.le_of_ble_eq_true rfl)
  rw [lg_entry_eq]
  generalize (lg_sl ([.ref (g 0), .int x1, .int x2]) ++ List.replicate (3 - (lg_sl ([.ref (g 0), .int x1, .int x2])).length) Slot.unset).toArray = ls at hl ⊢
  have hl : lv_has ls 3 [(0, .ref (g 0)), (1, .int x1), (2, .int x2)] := hl
  unfold f_X8_foresee at h
  revert hw
  intro hw
  suffices K_ : ∀ (H : Heap) (locs : List Loc), mg_Wo D A s.heap H locs (mg_mW g cI cZ σ) → W p l e (headSpec wsX8_foresee ({ frames := 6, cells := 0, slots := 0, locals := 144 } : Room)).room s m ([.ref (g 0), .int x1, .int x2] : List Value).toArray below meth c H locs 0 0 (MQ below (mg_Q D (mg_mW g cI cZ y.2) A (some (.int y.1))) ([.ref (g 0), .int x1, .int x2] : List Value).toArray s 0 0 A) (F0 m 0 ls []) from K_ _ _ hw
  clear hw hHe H
  intro H locs hw
  refine lv_aload_n hx hb dX8_foresee_0 rfl (lv_at hl 0 rfl) ?_
  refine lv_iconst (v := 0) hx hb dX8_foresee_1 (by decide) ?_
  refine mg_put (wd := mg_mW g cI cZ) (σ := σ) (v := 0) (ci := 8) (C := RX8) (T := TX8) (N := 15) hx hb hts iX8_ tyX8 tyX8_ok nmX8 hown hK hw 0 0 rfl rfl 0 (by decide) w0_ (fun _ h9 => h9) rfl (by decide +kernel) (Nat.le_of_ble_eq_true rfl) rfl dX8_foresee_2 (fun H locs hw => ?_)
  refine lv_iload_n hx hb dX8_foresee_5 rfl (lv_at hl 1 rfl) ?_
  refine lv_iconst (v := 1) hx hb dX8_foresee_6 (by decide) ?_
  refine lv_bipush (v := 60) hx hb dX8_foresee_7 (by decide) ?_
  obtain ⟨y1, h9_, h⟩ := mg_bind h
  refine mg_k (rv := (some (.int y1))) (va_runS (As := [.int x1, .int 1, .int 60]) (rest := []) G9 (k_X8_isIn l D o cI cZ g H.size (mg_su σ 0 0 0) x1 1 60 y1 h9_) (va_cwS 3 hts gX8_foresee_X8_isIn rfl rfl rfl (by decide +kernel) ⟨Nat.le_of_ble_eq_true rfl, Nat.le_of_ble_eq_true rfl⟩) (mg_pre hK hO hA hw) rfl rfl hl.1 rfl (lv_room (Nat.le_of_ble_eq_true rfl)) dX8_foresee_9 ⟨Nat.zero_le _, Nat.zero_le _⟩) hw hA (fun H locs hw => ?_)
  clear h9_
  refine mg_if_ne (tgt := 21) hx hb h dX8_foresee_12 (by decide) (fun h => ?_) (fun h => ?_)
  · refine lv_iload_n hx hb dX8_foresee_21 rfl (lv_at hl 2 rfl) ?_
    refine lv_iconst (v := 2) hx hb dX8_foresee_22 (by decide) ?_
    refine mg_icmp_eq (tgt := 44) hx hb h dX8_foresee_23 (by decide) (fun h => ?_) (fun h => ?_)
    · refine lv_aload_n hx hb dX8_foresee_44 rfl (lv_at hl 0 rfl) ?_
      refine va_get (D := D) (ci := 8) (v := .ref (g 2)) (C := RX8) (T := TX8) (N := 15) hx hb hts iX8_ hown hK hw.1 0 rfl rfl 14 (by decide) w2_ (fun _ h9 => h9) rfl dX8_foresee_45 ?_
      refine lv_aload_n hx hb dX8_foresee_48 rfl (lv_at hl 0 rfl) ?_
      refine va_get (D := D) (ci := 8) (v := .ref (g 1)) (C := RX8) (T := TX8) (N := 15) hx hb hts iX8_ hown hK hw.1 0 rfl rfl 13 (by decide) w3_ (fun _ h9 => h9) rfl dX8_foresee_49 ?_
      obtain ⟨y2, h9_, h⟩ := mg_bind h
      refine mg_k (rv := none) (va_runV (As := [.ref (g 1)]) (rest := []) G9 (k_X7_become l D o cI cZ g H.size (mg_su σ 0 0 0)  y2 h9_) (cwV 1 hts gX8_foresee_X7_become rfl rfl rfl (by decide +kernel) ⟨Nat.le_of_ble_eq_true rfl, Nat.le_of_ble_eq_true rfl⟩) (mg_preV hK hO hA hw (q0 := 2) rfl rfl) rfl rfl hl.1 rfl (lv_room (Nat.le_of_ble_eq_true rfl)) dX8_foresee_52 ⟨Nat.zero_le _, Nat.zero_le _⟩) hw hA (fun H locs hw => ?_)
      clear h9_
      refine lv_aload_n hx hb dX8_foresee_55 rfl (lv_at hl 0 rfl) ?_
      refine lv_aload_n hx hb dX8_foresee_56 rfl (lv_at hl 0 rfl) ?_
      refine va_get (D := D) (ci := 8) (v := .ref (g 2)) (C := RX8) (T := TX8) (N := 15) hx hb hts iX8_ hown hK hw.1 0 rfl rfl 14 (by decide) w2_ (fun _ h9 => h9) rfl dX8_foresee_57 ?_
      refine lv_iload_n hx hb dX8_foresee_60 rfl (lv_at hl 1 rfl) ?_
      obtain ⟨y3, h9_, h⟩ := mg_bind h
      refine mg_k (rv := (some (.int y3.1))) (va_runV (As := [.ref (g 2), .int x1]) (rest := []) G9 (k_X8_days_2 l D o cI cZ g H.size y2 x1 y3 h9_) (cwV 2 hts gX8_foresee_X8_days rfl rfl rfl (by decide +kernel) ⟨Nat.le_of_ble_eq_true rfl, Nat.le_of_ble_eq_true rfl⟩) (mg_preV hK hO hA hw (q0 := 0) rfl rfl) rfl rfl hl.1 rfl (lv_room (Nat.le_of_ble_eq_true rfl)) dX8_foresee_61 ⟨Nat.zero_le _, Nat.zero_le _⟩) hw hA (fun H locs hw => ?_)
      clear h9_
      refine lv_pop hx hb dX8_foresee_64 rfl ?_
      refine lv_iload_n hx hb dX8_foresee_65 rfl (lv_at hl 2 rfl) ?_
      refine lv_iconst (v := 2) hx hb dX8_foresee_66 (by decide) ?_
      refine mg_icmp_ne (tgt := 80) hx hb h dX8_foresee_67 (by decide) (fun h => ?_) (fun h => ?_)
      · refine lv_iload_n hx hb dX8_foresee_80 rfl (lv_at hl 2 rfl) ?_
        refine lv_bipush (v := 7) hx hb dX8_foresee_81 (by decide) ?_
        refine mg_icmp_ne (tgt := 97) hx hb h dX8_foresee_83 (by decide) (fun h => ?_) (fun h => ?_)
        · refine lv_aload_n hx hb dX8_foresee_97 rfl (lv_at hl 0 rfl) ?_
          refine lv_aload_n hx hb dX8_foresee_98 rfl (lv_at hl 0 rfl) ?_
          refine va_get (D := D) (ci := 8) (v := .ref (g 2)) (C := RX8) (T := TX8) (N := 15) hx hb hts iX8_ hown hK hw.1 0 rfl rfl 14 (by decide) w2_ (fun _ h9 => h9) rfl dX8_foresee_99 ?_
          obtain ⟨y4, h9_, h⟩ := mg_bind h
          refine mg_k (rv := (some (.int y4))) (va_runV (As := [.ref (g 2)]) (rest := []) G9 (k_X8_written_2 l D o cI cZ g H.size y3.2  y4 h9_) (cwV 1 hts gX8_foresee_X8_written rfl rfl rfl (by decide +kernel) ⟨Nat.le_of_ble_eq_true rfl, Nat.le_of_ble_eq_true rfl⟩) (mg_preV hK hO hA hw (q0 := 0) rfl rfl) rfl rfl hl.1 rfl (lv_room (Nat.le_of_ble_eq_true rfl)) dX8_foresee_102 ⟨Nat.zero_le _, Nat.zero_le _⟩) hw hA (fun H locs hw => ?_)
          clear h9_
          cases h
          exact mg_eI hx hb hr hlocks hw (Nat.zero_le _) (Nat.zero_le _) dX8_foresee_105
        · refine lv_aload_n hx hb dX8_foresee_86 rfl (lv_at hl 0 rfl) ?_
          refine lv_aload_n hx hb dX8_foresee_87 rfl (lv_at hl 0 rfl) ?_
          refine va_get (D := D) (ci := 8) (v := .ref (g 2)) (C := RX8) (T := TX8) (N := 15) hx hb hts iX8_ hown hK hw.1 0 rfl rfl 14 (by decide) w2_ (fun _ h9 => h9) rfl dX8_foresee_88 ?_
          obtain ⟨y5, h9_, h⟩ := mg_bind h
          refine mg_k (rv := (some (.int y5))) (va_runV (As := [.ref (g 2)]) (rest := []) G9 (k_X8_sizes_2 l D o cI cZ g H.size y3.2  y5 h9_) (cwV 1 hts gX8_foresee_X8_sizes rfl rfl rfl (by decide +kernel) ⟨Nat.le_of_ble_eq_true rfl, Nat.le_of_ble_eq_true rfl⟩) (mg_preV hK hO hA hw (q0 := 0) rfl rfl) rfl rfl hl.1 rfl (lv_room (Nat.le_of_ble_eq_true rfl)) dX8_foresee_91 ⟨Nat.zero_le _, Nat.zero_le _⟩) hw hA (fun H locs hw => ?_)
          clear h9_
          refine lv_goto (tgt := 105) hx hb dX8_foresee_94 (by decide) ?_
          cases h
          exact mg_eI hx hb hr hlocks hw (Nat.zero_le _) (Nat.zero_le _) dX8_foresee_105
      · refine lv_aload_n hx hb dX8_foresee_70 rfl (lv_at hl 0 rfl) ?_
        refine va_get (D := D) (ci := 8) (v := .ref (g 2)) (C := RX8) (T := TX8) (N := 15) hx hb hts iX8_ hown hK hw.1 0 rfl rfl 14 (by decide) w2_ (fun _ h9 => h9) rfl dX8_foresee_71 ?_
        refine va_getN (D := D) (ci := 7) (v := .int (y3.2 2 1)) (C := RX7) (T := TX7) (N := 4) hx hb hts iX7_ hown hK hw.1 2 rfl rfl 1 (by decide) (va_Nw.use rfl (hO.2.2.2.2.2.2.2.2.2.2.2.2.2.2.2.1)) (fun _ h9 => h9) rfl dX8_foresee_74 ?_
        refine lv_goto (tgt := 105) hx hb dX8_foresee_77 (by decide) ?_
        cases h
        exact mg_eI hx hb hr hlocks hw (Nat.zero_le _) (Nat.zero_le _) dX8_foresee_105
    · refine lv_iload_n hx hb dX8_foresee_26 rfl (lv_at hl 2 rfl) ?_
      refine lv_bipush (v := 7) hx hb dX8_foresee_27 (by decide) ?_
      refine mg_icmp_eq (tgt := 44) hx hb h dX8_foresee_29 (by decide) (fun h => ?_) (fun h => ?_)
      · refine lv_aload_n hx hb dX8_foresee_44 rfl (lv_at hl 0 rfl) ?_
        refine va_get (D := D) (ci := 8) (v := .ref (g 2)) (C := RX8) (T := TX8) (N := 15) hx hb hts iX8_ hown hK hw.1 0 rfl rfl 14 (by decide) w2_ (fun _ h9 => h9) rfl dX8_foresee_45 ?_
        refine lv_aload_n hx hb dX8_foresee_48 rfl (lv_at hl 0 rfl) ?_
        refine va_get (D := D) (ci := 8) (v := .ref (g 1)) (C := RX8) (T := TX8) (N := 15) hx hb hts iX8_ hown hK hw.1 0 rfl rfl 13 (by decide) w3_ (fun _ h9 => h9) rfl dX8_foresee_49 ?_
        obtain ⟨y6, h9_, h⟩ := mg_bind h
        refine mg_k (rv := none) (va_runV (As := [.ref (g 1)]) (rest := []) G9 (k_X7_become l D o cI cZ g H.size (mg_su σ 0 0 0)  y6 h9_) (cwV 1 hts gX8_foresee_X7_become rfl rfl rfl (by decide +kernel) ⟨Nat.le_of_ble_eq_true rfl, Nat.le_of_ble_eq_true rfl⟩) (mg_preV hK hO hA hw (q0 := 2) rfl rfl) rfl rfl hl.1 rfl (lv_room (Nat.le_of_ble_eq_true rfl)) dX8_foresee_52 ⟨Nat.zero_le _, Nat.zero_le _⟩) hw hA (fun H locs hw => ?_)
        clear h9_
        refine lv_aload_n hx hb dX8_foresee_55 rfl (lv_at hl 0 rfl) ?_
        refine lv_aload_n hx hb dX8_foresee_56 rfl (lv_at hl 0 rfl) ?_
        refine va_get (D := D) (ci := 8) (v := .ref (g 2)) (C := RX8) (T := TX8) (N := 15) hx hb hts iX8_ hown hK hw.1 0 rfl rfl 14 (by decide) w2_ (fun _ h9 => h9) rfl dX8_foresee_57 ?_
        refine lv_iload_n hx hb dX8_foresee_60 rfl (lv_at hl 1 rfl) ?_
        obtain ⟨y7, h9_, h⟩ := mg_bind h
        refine mg_k (rv := (some (.int y7.1))) (va_runV (As := [.ref (g 2), .int x1]) (rest := []) G9 (k_X8_days_2 l D o cI cZ g H.size y6 x1 y7 h9_) (cwV 2 hts gX8_foresee_X8_days rfl rfl rfl (by decide +kernel) ⟨Nat.le_of_ble_eq_true rfl, Nat.le_of_ble_eq_true rfl⟩) (mg_preV hK hO hA hw (q0 := 0) rfl rfl) rfl rfl hl.1 rfl (lv_room (Nat.le_of_ble_eq_true rfl)) dX8_foresee_61 ⟨Nat.zero_le _, Nat.zero_le _⟩) hw hA (fun H locs hw => ?_)
        clear h9_
        refine lv_pop hx hb dX8_foresee_64 rfl ?_
        refine lv_iload_n hx hb dX8_foresee_65 rfl (lv_at hl 2 rfl) ?_
        refine lv_iconst (v := 2) hx hb dX8_foresee_66 (by decide) ?_
        refine mg_icmp_ne (tgt := 80) hx hb h dX8_foresee_67 (by decide) (fun h => ?_) (fun h => ?_)
        · refine lv_iload_n hx hb dX8_foresee_80 rfl (lv_at hl 2 rfl) ?_
          refine lv_bipush (v := 7) hx hb dX8_foresee_81 (by decide) ?_
          refine mg_icmp_ne (tgt := 97) hx hb h dX8_foresee_83 (by decide) (fun h => ?_) (fun h => ?_)
          · refine lv_aload_n hx hb dX8_foresee_97 rfl (lv_at hl 0 rfl) ?_
            refine lv_aload_n hx hb dX8_foresee_98 rfl (lv_at hl 0 rfl) ?_
            refine va_get (D := D) (ci := 8) (v := .ref (g 2)) (C := RX8) (T := TX8) (N := 15) hx hb hts iX8_ hown hK hw.1 0 rfl rfl 14 (by decide) w2_ (fun _ h9 => h9) rfl dX8_foresee_99 ?_
            obtain ⟨y8, h9_, h⟩ := mg_bind h
            refine mg_k (rv := (some (.int y8))) (va_runV (As := [.ref (g 2)]) (rest := []) G9 (k_X8_written_2 l D o cI cZ g H.size y7.2  y8 h9_) (cwV 1 hts gX8_foresee_X8_written rfl rfl rfl (by decide +kernel) ⟨Nat.le_of_ble_eq_true rfl, Nat.le_of_ble_eq_true rfl⟩) (mg_preV hK hO hA hw (q0 := 0) rfl rfl) rfl rfl hl.1 rfl (lv_room (Nat.le_of_ble_eq_true rfl)) dX8_foresee_102 ⟨Nat.zero_le _, Nat.zero_le _⟩) hw hA (fun H locs hw => ?_)
            clear h9_
            cases h
            exact mg_eI hx hb hr hlocks hw (Nat.zero_le _) (Nat.zero_le _) dX8_foresee_105
          · refine lv_aload_n hx hb dX8_foresee_86 rfl (lv_at hl 0 rfl) ?_
            refine lv_aload_n hx hb dX8_foresee_87 rfl (lv_at hl 0 rfl) ?_
            refine va_get (D := D) (ci := 8) (v := .ref (g 2)) (C := RX8) (T := TX8) (N := 15) hx hb hts iX8_ hown hK hw.1 0 rfl rfl 14 (by decide) w2_ (fun _ h9 => h9) rfl dX8_foresee_88 ?_
            obtain ⟨y9, h9_, h⟩ := mg_bind h
            refine mg_k (rv := (some (.int y9))) (va_runV (As := [.ref (g 2)]) (rest := []) G9 (k_X8_sizes_2 l D o cI cZ g H.size y7.2  y9 h9_) (cwV 1 hts gX8_foresee_X8_sizes rfl rfl rfl (by decide +kernel) ⟨Nat.le_of_ble_eq_true rfl, Nat.le_of_ble_eq_true rfl⟩) (mg_preV hK hO hA hw (q0 := 0) rfl rfl) rfl rfl hl.1 rfl (lv_room (Nat.le_of_ble_eq_true rfl)) dX8_foresee_91 ⟨Nat.zero_le _, Nat.zero_le _⟩) hw hA (fun H locs hw => ?_)
            clear h9_
            refine lv_goto (tgt := 105) hx hb dX8_foresee_94 (by decide) ?_
            cases h
            exact mg_eI hx hb hr hlocks hw (Nat.zero_le _) (Nat.zero_le _) dX8_foresee_105
        · refine lv_aload_n hx hb dX8_foresee_70 rfl (lv_at hl 0 rfl) ?_
          refine va_get (D := D) (ci := 8) (v := .ref (g 2)) (C := RX8) (T := TX8) (N := 15) hx hb hts iX8_ hown hK hw.1 0 rfl rfl 14 (by decide) w2_ (fun _ h9 => h9) rfl dX8_foresee_71 ?_
          refine va_getN (D := D) (ci := 7) (v := .int (y7.2 2 1)) (C := RX7) (T := TX7) (N := 4) hx hb hts iX7_ hown hK hw.1 2 rfl rfl 1 (by decide) (va_Nw.use rfl (hO.2.2.2.2.2.2.2.2.2.2.2.2.2.2.2.1)) (fun _ h9 => h9) rfl dX8_foresee_74 ?_
          refine lv_goto (tgt := 105) hx hb dX8_foresee_77 (by decide) ?_
          cases h
          exact mg_eI hx hb hr hlocks hw (Nat.zero_le _) (Nat.zero_le _) dX8_foresee_105
      · refine lv_iload_n hx hb dX8_foresee_32 rfl (lv_at hl 2 rfl) ?_
        refine lv_bipush (v := 10) hx hb dX8_foresee_33 (by decide) ?_
        refine mg_icmp_eq (tgt := 44) hx hb h dX8_foresee_35 (by decide) (fun h => ?_) (fun h => ?_)
        · refine lv_aload_n hx hb dX8_foresee_44 rfl (lv_at hl 0 rfl) ?_
          refine va_get (D := D) (ci := 8) (v := .ref (g 2)) (C := RX8) (T := TX8) (N := 15) hx hb hts iX8_ hown hK hw.1 0 rfl rfl 14 (by decide) w2_ (fun _ h9 => h9) rfl dX8_foresee_45 ?_
          refine lv_aload_n hx hb dX8_foresee_48 rfl (lv_at hl 0 rfl) ?_
          refine va_get (D := D) (ci := 8) (v := .ref (g 1)) (C := RX8) (T := TX8) (N := 15) hx hb hts iX8_ hown hK hw.1 0 rfl rfl 13 (by decide) w3_ (fun _ h9 => h9) rfl dX8_foresee_49 ?_
          obtain ⟨y10, h9_, h⟩ := mg_bind h
          refine mg_k (rv := none) (va_runV (As := [.ref (g 1)]) (rest := []) G9 (k_X7_become l D o cI cZ g H.size (mg_su σ 0 0 0)  y10 h9_) (cwV 1 hts gX8_foresee_X7_become rfl rfl rfl (by decide +kernel) ⟨Nat.le_of_ble_eq_true rfl, Nat.le_of_ble_eq_true rfl⟩) (mg_preV hK hO hA hw (q0 := 2) rfl rfl) rfl rfl hl.1 rfl (lv_room (Nat.le_of_ble_eq_true rfl)) dX8_foresee_52 ⟨Nat.zero_le _, Nat.zero_le _⟩) hw hA (fun H locs hw => ?_)
          clear h9_
          refine lv_aload_n hx hb dX8_foresee_55 rfl (lv_at hl 0 rfl) ?_
          refine lv_aload_n hx hb dX8_foresee_56 rfl (lv_at hl 0 rfl) ?_
          refine va_get (D := D) (ci := 8) (v := .ref (g 2)) (C := RX8) (T := TX8) (N := 15) hx hb hts iX8_ hown hK hw.1 0 rfl rfl 14 (by decide) w2_ (fun _ h9 => h9) rfl dX8_foresee_57 ?_
          refine lv_iload_n hx hb dX8_foresee_60 rfl (lv_at hl 1 rfl) ?_
          obtain ⟨y11, h9_, h⟩ := mg_bind h
          refine mg_k (rv := (some (.int y11.1))) (va_runV (As := [.ref (g 2), .int x1]) (rest := []) G9 (k_X8_days_2 l D o cI cZ g H.size y10 x1 y11 h9_) (cwV 2 hts gX8_foresee_X8_days rfl rfl rfl (by decide +kernel) ⟨Nat.le_of_ble_eq_true rfl, Nat.le_of_ble_eq_true rfl⟩) (mg_preV hK hO hA hw (q0 := 0) rfl rfl) rfl rfl hl.1 rfl (lv_room (Nat.le_of_ble_eq_true rfl)) dX8_foresee_61 ⟨Nat.zero_le _, Nat.zero_le _⟩) hw hA (fun H locs hw => ?_)
          clear h9_
          refine lv_pop hx hb dX8_foresee_64 rfl ?_
          refine lv_iload_n hx hb dX8_foresee_65 rfl (lv_at hl 2 rfl) ?_
          refine lv_iconst (v := 2) hx hb dX8_foresee_66 (by decide) ?_
          refine mg_icmp_ne (tgt := 80) hx hb h dX8_foresee_67 (by decide) (fun h => ?_) (fun h => ?_)
          · refine lv_iload_n hx hb dX8_foresee_80 rfl (lv_at hl 2 rfl) ?_
            refine lv_bipush (v := 7) hx hb dX8_foresee_81 (by decide) ?_
            refine mg_icmp_ne (tgt := 97) hx hb h dX8_foresee_83 (by decide) (fun h => ?_) (fun h => ?_)
            · refine lv_aload_n hx hb dX8_foresee_97 rfl (lv_at hl 0 rfl) ?_
              refine lv_aload_n hx hb dX8_foresee_98 rfl (lv_at hl 0 rfl) ?_
              refine va_get (D := D) (ci := 8) (v := .ref (g 2)) (C := RX8) (T := TX8) (N := 15) hx hb hts iX8_ hown hK hw.1 0 rfl rfl 14 (by decide) w2_ (fun _ h9 => h9) rfl dX8_foresee_99 ?_
              obtain ⟨y12, h9_, h⟩ := mg_bind h
              refine mg_k (rv := (some (.int y12))) (va_runV (As := [.ref (g 2)]) (rest := []) G9 (k_X8_written_2 l D o cI cZ g H.size y11.2  y12 h9_) (cwV 1 hts gX8_foresee_X8_written rfl rfl rfl (by decide +kernel) ⟨Nat.le_of_ble_eq_true rfl, Nat.le_of_ble_eq_true rfl⟩) (mg_preV hK hO hA hw (q0 := 0) rfl rfl) rfl rfl hl.1 rfl (lv_room (Nat.le_of_ble_eq_true rfl)) dX8_foresee_102 ⟨Nat.zero_le _, Nat.zero_le _⟩) hw hA (fun H locs hw => ?_)
              clear h9_
              cases h
              exact mg_eI hx hb hr hlocks hw (Nat.zero_le _) (Nat.zero_le _) dX8_foresee_105
            · refine lv_aload_n hx hb dX8_foresee_86 rfl (lv_at hl 0 rfl) ?_
              refine lv_aload_n hx hb dX8_foresee_87 rfl (lv_at hl 0 rfl) ?_
              refine va_get (D := D) (ci := 8) (v := .ref (g 2)) (C := RX8) (T := TX8) (N := 15) hx hb hts iX8_ hown hK hw.1 0 rfl rfl 14 (by decide) w2_ (fun _ h9 => h9) rfl dX8_foresee_88 ?_
              obtain ⟨y13, h9_, h⟩ := mg_bind h
              refine mg_k (rv := (some (.int y13))) (va_runV (As := [.ref (g 2)]) (rest := []) G9 (k_X8_sizes_2 l D o cI cZ g H.size y11.2  y13 h9_) (cwV 1 hts gX8_foresee_X8_sizes rfl rfl rfl (by decide +kernel) ⟨Nat.le_of_ble_eq_true rfl, Nat.le_of_ble_eq_true rfl⟩) (mg_preV hK hO hA hw (q0 := 0) rfl rfl) rfl rfl hl.1 rfl (lv_room (Nat.le_of_ble_eq_true rfl)) dX8_foresee_91 ⟨Nat.zero_le _, Nat.zero_le _⟩) hw hA (fun H locs hw => ?_)
              clear h9_
              refine lv_goto (tgt := 105) hx hb dX8_foresee_94 (by decide) ?_
              cases h
              exact mg_eI hx hb hr hlocks hw (Nat.zero_le _) (Nat.zero_le _) dX8_foresee_105
          · refine lv_aload_n hx hb dX8_foresee_70 rfl (lv_at hl 0 rfl) ?_
            refine va_get (D := D) (ci := 8) (v := .ref (g 2)) (C := RX8) (T := TX8) (N := 15) hx hb hts iX8_ hown hK hw.1 0 rfl rfl 14 (by decide) w2_ (fun _ h9 => h9) rfl dX8_foresee_71 ?_
            refine va_getN (D := D) (ci := 7) (v := .int (y11.2 2 1)) (C := RX7) (T := TX7) (N := 4) hx hb hts iX7_ hown hK hw.1 2 rfl rfl 1 (by decide) (va_Nw.use rfl (hO.2.2.2.2.2.2.2.2.2.2.2.2.2.2.2.1)) (fun _ h9 => h9) rfl dX8_foresee_74 ?_
            refine lv_goto (tgt := 105) hx hb dX8_foresee_77 (by decide) ?_
            cases h
            exact mg_eI hx hb hr hlocks hw (Nat.zero_le _) (Nat.zero_le _) dX8_foresee_105
        · refine lv_aload_n hx hb dX8_foresee_38 rfl (lv_at hl 0 rfl) ?_
          refine lv_iconst (v := 2) hx hb dX8_foresee_39 (by decide) ?_
          obtain ⟨y14, h9_, h⟩ := mg_bind h
          refine mg_k (rv := (some (.int y14.1))) (va_runV (As := [.int 2]) (rest := []) G9 (k_X8_no l D o cI cZ g H.size (mg_su σ 0 0 0) 2 y14 h9_) (cwV 1 hts gX8_foresee_X8_no rfl rfl rfl (by decide +kernel) ⟨Nat.le_of_ble_eq_true rfl, Nat.le_of_ble_eq_true rfl⟩) (mg_preV hK hO hA hw (q0 := 0) rfl rfl) rfl rfl hl.1 rfl (lv_room (Nat.le_of_ble_eq_true rfl)) dX8_foresee_40 ⟨Nat.zero_le _, Nat.zero_le _⟩) hw hA (fun H locs hw => ?_)
          clear h9_
          cases h
          exact mg_eI hx hb hr hlocks hw (Nat.zero_le _) (Nat.zero_le _) dX8_foresee_43
  · refine lv_aload_n hx hb dX8_foresee_15 rfl (lv_at hl 0 rfl) ?_
    refine lv_iconst (v := 1) hx hb dX8_foresee_16 (by decide) ?_
    obtain ⟨y15, h9_, h⟩ := mg_bind h
    refine mg_k (rv := (some (.int y15.1))) (va_runV (As := [.int 1]) (rest := []) G9 (k_X8_no l D o cI cZ g H.size (mg_su σ 0 0 0) 1 y15 h9_) (cwV 1 hts gX8_foresee_X8_no rfl rfl rfl (by decide +kernel) ⟨Nat.le_of_ble_eq_true rfl, Nat.le_of_ble_eq_true rfl⟩) (mg_preV hK hO hA hw (q0 := 0) rfl rfl) rfl rfl hl.1 rfl (lv_room (Nat.le_of_ble_eq_true rfl)) dX8_foresee_17 ⟨Nat.zero_le _, Nat.zero_le _⟩) hw hA (fun H locs hw => ?_)
    clear h9_
    cases h
    exact mg_eI hx hb hr hlocks hw (Nat.zero_le _) (Nat.zero_le _) dX8_foresee_20
set_option maxHeartbeats 4000000 in
set_option maxRecDepth 100000 in
theorem k_X8_advise (l : Launch) (D : va_G) (o : Nat → Nat) (cI cZ : ClassId) (g : Nat → Nat) (sz : Nat) (σ : mg_St) (x1 : Int32) (x2 : Int32) (x3 : Int32) (y : (Int32 × mg_St)) (h : f_X8_advise σ x1 x2 x3 = some y) : mg_CT l yX8_advise wsX8_advise ({ frames := 4, cells := 0, slots := 0, locals := 96 } : Room) D [(cI, .int), (cZ, .boolean)] o (mg_mW g cI cZ σ) sz [.ref (g 0), .int x1, .int x2, .int x3] (some (.int y.1)) (mg_mW g cI cZ y.2) 0 0 := by
  unfold mg_CT
  refine Met.ofW (cc := cX8_advise) (maxL := 8) (ret := (some .int)) (by decide) rfl ?_
  intro p e s m args below meth c s₁ B hml hv
  obtain ⟨rfl, hsz, hP, hK, hD0, hO⟩ := hv
  have hx := B.exec
  have hb := B.bytes
  have hr := B.returns
  have hts := atoms_spec (ws := wsX8_advise) B.pre
  have hown : s.vm.findClass RX8 = some m.cls := findClass_of_methodNamed B.named
  have hlocks := B.notSynchronized
  subst hsz
  have hD := hD0.self (sz := s.heap.size)
  generalize hAe : va_A (mg_mW g cI cZ σ) s.heap.size = A at hD hO ⊢
  have hA : ∀ q : Nat, s.heap.size ≤ q → A q := fun q h => by rw [← hAe]; exact Or.inr h
  have hw : mg_Wo D A s.heap s.heap [] (mg_mW g cI cZ σ) := ⟨hP, hD, va_S.rf⟩
  have G9 : CallFix p m c cX8_advise 8 s ([.ref (g 0), .int x1, .int x2, .int x3] : List Value).toArray wsX8_advise RX8 := ⟨hx, hb, hml, hown, hts⟩
  clear hP hD hD0 hAe
  obtain ⟨H, hHe⟩ : ∃ H : Heap, H = s.heap := ⟨_, rfl⟩
  have w0_ := hts (.fieldLink RX8 47 "MoonGateModel" "thrown" "I") (by decide +kernel)
  have iX8_ : ∀ w ∈ wsX80, w ∈ wsX8_advise := (fun _ h => List.mem_cons_of_mem _ (List.mem_append_left _ (List.mem_append_right _ h)))
  have w2_ := hts (.fieldLink RX8 40 "MoonGateModel" "s" "LMoonGateModel$Days;") (by decide +kernel)
  have w3_ := hts (.fieldLink RX8 9 "MoonGateModel" "kind" "[I") (by decide +kernel)
  have w4_ := hts (.fieldLink RX8 13 "MoonGateModel" "shape" "[I") (by decide +kernel)
  have w5_ := hts (.fieldLink RX8 16 "MoonGateModel" "bulk" "[I") (by decide +kernel)
  have hl := lv_entry ([.ref (g 0), .int x1, .int x2, .int x3]) (n := 8) (Nat.le_of_ble_eq_true rfl)
  rw [lg_entry_eq]
  generalize (lg_sl ([.ref (g 0), .int x1, .int x2, .int x3]) ++ List.replicate (8 - (lg_sl ([.ref (g 0), .int x1, .int x2, .int x3])).length) Slot.unset).toArray = ls at hl ⊢
  have hl : lv_has ls 8 [(0, .ref (g 0)), (1, .int x1), (2, .int x2), (3, .int x3)] := hl
  unfold f_X8_advise at h
  revert hw
  intro hw
  suffices K_ : ∀ (H : Heap) (locs : List Loc), mg_Wo D A s.heap H locs (mg_mW g cI cZ σ) → W p l e (headSpec wsX8_advise ({ frames := 4, cells := 0, slots := 0, locals := 96 } : Room)).room s m ([.ref (g 0), .int x1, .int x2, .int x3] : List Value).toArray below meth c H locs 0 0 (MQ below (mg_Q D (mg_mW g cI cZ y.2) A (some (.int y.1))) ([.ref (g 0), .int x1, .int x2, .int x3] : List Value).toArray s 0 0 A) (F0 m 0 ls []) from K_ _ _ hw
  clear hw hHe H
  intro H locs hw
  refine lv_aload_n hx hb dX8_advise_0 rfl (lv_at hl 0 rfl) ?_
  refine lv_iconst (v := 0) hx hb dX8_advise_1 (by decide) ?_
  refine mg_put (wd := mg_mW g cI cZ) (σ := σ) (v := 0) (ci := 8) (C := RX8) (T := TX8) (N := 15) hx hb hts iX8_ tyX8 tyX8_ok nmX8 hown hK hw 0 0 rfl rfl 0 (by decide) w0_ (fun _ h9 => h9) rfl (by decide +kernel) (Nat.le_of_ble_eq_true rfl) rfl dX8_advise_2 (fun H locs hw => ?_)
  refine lv_aload_n hx hb dX8_advise_5 rfl (lv_at hl 0 rfl) ?_
  refine lv_iload_n hx hb dX8_advise_6 rfl (lv_at hl 1 rfl) ?_
  obtain ⟨y1, h9_, h⟩ := mg_bind h
  refine mg_k (rv := (some (.int y1))) (va_runV (As := [.int x1]) (rest := []) G9 (k_X8_isGate l D o cI cZ g H.size (mg_su σ 0 0 0) x1 y1 h9_) (cwV 1 hts gX8_advise_X8_isGate rfl rfl rfl (by decide +kernel) ⟨Nat.le_of_ble_eq_true rfl, Nat.le_of_ble_eq_true rfl⟩) (mg_preV hK hO hA hw (q0 := 0) rfl rfl) rfl rfl hl.1 rfl (lv_room (Nat.le_of_ble_eq_true rfl)) dX8_advise_7 ⟨Nat.zero_le _, Nat.zero_le _⟩) hw hA (fun H locs hw => ?_)
  clear h9_
  refine mg_if_ne (tgt := 19) hx hb h dX8_advise_10 (by decide) (fun h => ?_) (fun h => ?_)
  · refine lv_iload_n hx hb dX8_advise_19 rfl (lv_at hl 2 rfl) ?_
    refine lv_iconst (v := 0) hx hb dX8_advise_20 (by decide) ?_
    refine lv_iconst (v := 5) hx hb dX8_advise_21 (by decide) ?_
    obtain ⟨y2, h9_, h⟩ := mg_bind h
    refine mg_k (rv := (some (.int y2))) (va_runS (As := [.int x2, .int 0, .int 5]) (rest := []) G9 (k_X8_isIn l D o cI cZ g H.size (mg_su σ 0 0 0) x2 0 5 y2 h9_) (va_cwS 3 hts gX8_advise_X8_isIn rfl rfl rfl (by decide +kernel) ⟨Nat.le_of_ble_eq_true rfl, Nat.le_of_ble_eq_true rfl⟩) (mg_pre hK hO hA hw) rfl rfl hl.1 rfl (lv_room (Nat.le_of_ble_eq_true rfl)) dX8_advise_22 ⟨Nat.zero_le _, Nat.zero_le _⟩) hw hA (fun H locs hw => ?_)
    clear h9_
    refine mg_if_eq (tgt := 38) hx hb h dX8_advise_25 (by decide) (fun h => ?_) (fun h => ?_)
    · refine lv_aload_n hx hb dX8_advise_38 rfl (lv_at hl 0 rfl) ?_
      refine lv_iconst (v := 2) hx hb dX8_advise_39 (by decide) ?_
      obtain ⟨y3, h9_, h⟩ := mg_bind h
      refine mg_k (rv := (some (.int y3.1))) (va_runV (As := [.int 2]) (rest := []) G9 (k_X8_no l D o cI cZ g H.size (mg_su σ 0 0 0) 2 y3 h9_) (cwV 1 hts gX8_advise_X8_no rfl rfl rfl (by decide +kernel) ⟨Nat.le_of_ble_eq_true rfl, Nat.le_of_ble_eq_true rfl⟩) (mg_preV hK hO hA hw (q0 := 0) rfl rfl) rfl rfl hl.1 rfl (lv_room (Nat.le_of_ble_eq_true rfl)) dX8_advise_40 ⟨Nat.zero_le _, Nat.zero_le _⟩) hw hA (fun H locs hw => ?_)
      clear h9_
      cases h
      exact mg_eI hx hb hr hlocks hw (Nat.zero_le _) (Nat.zero_le _) dX8_advise_43
    · refine lv_iload_n hx hb dX8_advise_28 rfl (lv_at hl 3 rfl) ?_
      refine lv_iconst (v := 1) hx hb dX8_advise_29 (by decide) ?_
      refine lv_bipush (v := 9) hx hb dX8_advise_30 (by decide) ?_
      obtain ⟨y4, h9_, h⟩ := mg_bind h
      refine mg_k (rv := (some (.int y4))) (va_runS (As := [.int x3, .int 1, .int 9]) (rest := []) G9 (k_X8_isIn l D o cI cZ g H.size (mg_su σ 0 0 0) x3 1 9 y4 h9_) (va_cwS 3 hts gX8_advise_X8_isIn rfl rfl rfl (by decide +kernel) ⟨Nat.le_of_ble_eq_true rfl, Nat.le_of_ble_eq_true rfl⟩) (mg_pre hK hO hA hw) rfl rfl hl.1 rfl (lv_room (Nat.le_of_ble_eq_true rfl)) dX8_advise_32 ⟨Nat.zero_le _, Nat.zero_le _⟩) hw hA (fun H locs hw => ?_)
      clear h9_
      refine mg_if_ne (tgt := 44) hx hb h dX8_advise_35 (by decide) (fun h => ?_) (fun h => ?_)
      · refine lv_iconst (v := (-1)) hx hb dX8_advise_44 (by decide) ?_
        refine lv_istore (lv' := [(4, .int (-1)), (0, .ref (g 0)), (1, .int x1), (2, .int x2), (3, .int x3)]) hx hb dX8_advise_45 hl (by decide) rfl (fun ls hl => ?_)
        refine lv_aload_n hx hb dX8_advise_47 rfl (lv_at hl 1 rfl) ?_
        refine lv_iload_n hx hb dX8_advise_48 rfl (lv_at hl 2 rfl) ?_
        refine lv_aload_n hx hb dX8_advise_49 rfl (lv_at hl 1 rfl) ?_
        refine va_get (D := D) (ci := 8) (v := .ref (g 1)) (C := RX8) (T := TX8) (N := 15) hx hb hts iX8_ hown hK hw.1 0 rfl rfl 13 (by decide) w2_ (fun _ h9 => h9) rfl dX8_advise_50 ?_
        obtain ⟨y5, h9_, h⟩ := mg_bind h
        refine mg_k (rv := (some (.int y5))) (va_runV (As := [.int x1, .ref (g 1)]) (rest := []) G9 (k_X8_beauty_1 l D o cI cZ g H.size (mg_su σ 0 0 0) x1 y5 h9_) (cwV 2 hts gX8_advise_X8_beauty rfl rfl rfl (by decide +kernel) ⟨Nat.le_of_ble_eq_true rfl, Nat.le_of_ble_eq_true rfl⟩) (mg_preV hK hO hA hw (q0 := 0) rfl rfl) rfl rfl hl.1 rfl (lv_room (Nat.le_of_ble_eq_true rfl)) dX8_advise_53 ⟨Nat.zero_le _, Nat.zero_le _⟩) hw hA (fun H locs hw => ?_)
        clear h9_
        refine lv_istore (lv' := [(5, .int y5), (4, .int (-1)), (0, .ref (g 0)), (1, .int x1), (2, .int x2), (3, .int x3)]) hx hb dX8_advise_56 hl (by decide) rfl (fun ls hl => ?_)
        refine lv_iconst (v := 0) hx hb dX8_advise_58 (by decide) ?_
        refine lv_istore (lv' := [(6, .int 0), (5, .int y5), (4, .int (-1)), (0, .ref (g 0)), (1, .int x1), (2, .int x2), (3, .int x3)]) hx hb dX8_advise_59 hl (by decide) rfl (fun ls hl => ?_)
        have L61_ : ∀ (n : Nat) (x4_61 : Int32) (x5_61 : Int32) (x6_61 : Int32) (s61_ : mg_St) (y61_ : Int32 × Int32 × Int32 × mg_St), f_X8_advise_61 x1 x2 x3 n x4_61 x5_61 x6_61 s61_ = some y61_ → (∀ (H : Heap) (locs : List Loc) (ls : Array Slot), mg_Wo D A s.heap H locs (mg_mW g cI cZ y61_.2.2.2) → lv_has ls 8 [(0, .ref (g 0)), (1, .int x1), (2, .int x2), (3, .int x3), (4, .int y61_.1), (5, .int y61_.2.1), (6, .int y61_.2.2.1)] → W p l e (headSpec wsX8_advise ({ frames := 4, cells := 0, slots := 0, locals := 96 } : Room)).room s m ([.ref (g 0), .int x1, .int x2, .int x3] : List Value).toArray below meth c H locs 0 0 (MQ below (mg_Q D (mg_mW g cI cZ y.2) A (some (.int y.1))) ([.ref (g 0), .int x1, .int x2, .int x3] : List Value).toArray s 0 0 A) (F0 m 148 ls [])) → ∀ (H : Heap) (locs : List Loc) (ls : Array Slot), mg_Wo D A s.heap H locs (mg_mW g cI cZ s61_) → lv_has ls 8 [(0, .ref (g 0)), (1, .int x1), (2, .int x2), (3, .int x3), (4, .int x4_61), (5, .int x5_61), (6, .int x6_61)] → W p l e (headSpec wsX8_advise ({ frames := 4, cells := 0, slots := 0, locals := 96 } : Room)).room s m ([.ref (g 0), .int x1, .int x2, .int x3] : List Value).toArray below meth c H locs 0 0 (MQ below (mg_Q D (mg_mW g cI cZ y.2) A (some (.int y.1))) ([.ref (g 0), .int x1, .int x2, .int x3] : List Value).toArray s 0 0 A) (F0 m 61 ls []) := by
          intro n
          induction n with
          | zero => intro x4_61 x5_61 x6_61 s61_ y61_ h; rw [f_X8_advise_61] at h; cases h
          | succ n ih =>
            intro x4_61 x5_61 x6_61 s61_ y61_ h kc H locs ls hw hl
            rw [f_X8_advise_61] at h
            refine lv_iload hx hb dX8_advise_61 (lv_at hl 6 rfl) ?_
            refine lv_bipush (v := 70) hx hb dX8_advise_63 (by decide) ?_
            refine mg_icmp_ge (tgt := 148) hx hb h dX8_advise_65 (by decide) (fun h => ?_) (fun h => ?_)
            · cases h
              exact kc H locs ls hw (lv_sub hl [0, 1, 2, 3, 4, 5, 6] rfl)
            · refine lv_aload_n hx hb dX8_advise_68 rfl (lv_at hl 0 rfl) ?_
              refine va_get (D := D) (ci := 8) (v := .ref (g 3)) (C := RX8) (T := TX8) (N := 15) hx hb hts iX8_ hown hK hw.1 0 rfl rfl 1 (by decide) w3_ (fun _ h9 => h9) rfl dX8_advise_69 ?_
              refine lv_iload hx hb dX8_advise_72 (lv_at hl 6 rfl) ?_
              refine mg_ald (σ := s61_) (k := 3) (n := 70) hx hb hK hw 3 0 rfl rfl h dX8_advise_74 (fun v7 h => ?_)
              refine mg_if_eq (tgt := 81) hx hb h dX8_advise_75 (by decide) (fun h => ?_) (fun h => ?_)
              · refine lv_aload_n hx hb dX8_advise_81 rfl (lv_at hl 0 rfl) ?_
                refine va_get (D := D) (ci := 8) (v := .ref (g 3)) (C := RX8) (T := TX8) (N := 15) hx hb hts iX8_ hown hK hw.1 0 rfl rfl 1 (by decide) w3_ (fun _ h9 => h9) rfl dX8_advise_82 ?_
                refine lv_iload hx hb dX8_advise_85 (lv_at hl 6 rfl) ?_
                refine lv_iconst (v := 1) hx hb dX8_advise_87 (by decide) ?_
                refine mg_ast (wd := mg_mW g cI cZ) (σ := s61_) (k := 3) (n := 70) hx hb hK hw 3 0 rfl (mg_mS_3 g cI cZ s61_) rfl h dX8_advise_88 (fun s8 h H locs hw => ?_)
                refine lv_aload_n hx hb dX8_advise_89 rfl (lv_at hl 0 rfl) ?_
                refine va_get (D := D) (ci := 8) (v := .ref (g 4)) (C := RX8) (T := TX8) (N := 15) hx hb hts iX8_ hown hK hw.1 0 rfl rfl 2 (by decide) w4_ (fun _ h9 => h9) rfl dX8_advise_90 ?_
                refine lv_iload hx hb dX8_advise_93 (lv_at hl 6 rfl) ?_
                refine lv_iload_n hx hb dX8_advise_95 rfl (lv_at hl 2 rfl) ?_
                refine mg_ast (wd := mg_mW g cI cZ) (σ := s8) (k := 4) (n := 70) hx hb hK hw 4 0 rfl (mg_mS_4 g cI cZ s8) rfl h dX8_advise_96 (fun s9 h H locs hw => ?_)
                refine lv_aload_n hx hb dX8_advise_97 rfl (lv_at hl 0 rfl) ?_
                refine va_get (D := D) (ci := 8) (v := .ref (g 5)) (C := RX8) (T := TX8) (N := 15) hx hb hts iX8_ hown hK hw.1 0 rfl rfl 3 (by decide) w5_ (fun _ h9 => h9) rfl dX8_advise_98 ?_
                refine lv_iload hx hb dX8_advise_101 (lv_at hl 6 rfl) ?_
                refine lv_iload_n hx hb dX8_advise_103 rfl (lv_at hl 3 rfl) ?_
                refine mg_ast (wd := mg_mW g cI cZ) (σ := s9) (k := 5) (n := 70) hx hb hK hw 5 0 rfl (mg_mS_5 g cI cZ s9) rfl h dX8_advise_104 (fun s10 h H locs hw => ?_)
                refine lv_aload_n hx hb dX8_advise_105 rfl (lv_at hl 0 rfl) ?_
                refine lv_iload_n hx hb dX8_advise_106 rfl (lv_at hl 1 rfl) ?_
                refine lv_aload_n hx hb dX8_advise_107 rfl (lv_at hl 0 rfl) ?_
                refine va_get (D := D) (ci := 8) (v := .ref (g 1)) (C := RX8) (T := TX8) (N := 15) hx hb hts iX8_ hown hK hw.1 0 rfl rfl 13 (by decide) w2_ (fun _ h9 => h9) rfl dX8_advise_108 ?_
                obtain ⟨y11, h9_, h⟩ := mg_bind h
                refine mg_k (rv := (some (.int y11))) (va_runV (As := [.int x1, .ref (g 1)]) (rest := []) G9 (k_X8_beauty_1 l D o cI cZ g H.size s10 x1 y11 h9_) (cwV 2 hts gX8_advise_X8_beauty rfl rfl rfl (by decide +kernel) ⟨Nat.le_of_ble_eq_true rfl, Nat.le_of_ble_eq_true rfl⟩) (mg_preV hK hO hA hw (q0 := 0) rfl rfl) rfl rfl hl.1 rfl (lv_room (Nat.le_of_ble_eq_true rfl)) dX8_advise_111 ⟨Nat.zero_le _, Nat.zero_le _⟩) hw hA (fun H locs hw => ?_)
                clear h9_
                refine lv_istore (lv' := [(7, .int y11), (0, .ref (g 0)), (1, .int x1), (2, .int x2), (3, .int x3), (4, .int x4_61), (5, .int x5_61), (6, .int x6_61)]) hx hb dX8_advise_114 hl (by decide) rfl (fun ls hl => ?_)
                refine lv_aload_n hx hb dX8_advise_116 rfl (lv_at hl 1 rfl) ?_
                refine va_get (D := D) (ci := 8) (v := .ref (g 3)) (C := RX8) (T := TX8) (N := 15) hx hb hts iX8_ hown hK hw.1 0 rfl rfl 1 (by decide) w3_ (fun _ h9 => h9) rfl dX8_advise_117 ?_
                refine lv_iload hx hb dX8_advise_120 (lv_at hl 7 rfl) ?_
                refine lv_iconst (v := 0) hx hb dX8_advise_122 (by decide) ?_
                refine mg_ast (wd := mg_mW g cI cZ) (σ := s10) (k := 3) (n := 70) hx hb hK hw 3 0 rfl (mg_mS_3 g cI cZ s10) rfl h dX8_advise_123 (fun s12 h H locs hw => ?_)
                refine lv_iload hx hb dX8_advise_124 (lv_at hl 0 rfl) ?_
                refine lv_iload hx hb dX8_advise_126 (lv_at hl 6 rfl) ?_
                refine mg_icmp_gt (tgt := 134) hx hb h dX8_advise_128 (by decide) (fun h => ?_) (fun h => ?_)
                · refine lv_iload hx hb dX8_advise_134 (lv_at hl 0 rfl) ?_
                  refine lv_istore (lv' := [(5, .int y11), (7, .int y11), (0, .ref (g 0)), (1, .int x1), (2, .int x2), (3, .int x3), (4, .int x4_61), (6, .int x6_61)]) hx hb dX8_advise_136 hl (by decide) rfl (fun ls hl => ?_)
                  refine lv_iload hx hb dX8_advise_138 (lv_at hl 7 rfl) ?_
                  refine lv_istore (lv' := [(4, .int x6_61), (5, .int y11), (7, .int y11), (0, .ref (g 0)), (1, .int x1), (2, .int x2), (3, .int x3), (6, .int x6_61)]) hx hb dX8_advise_140 hl (by decide) rfl (fun ls hl => ?_)
                  refine lv_iinc (v := (x6_61 + 1)) (lv' := [(6, .int (x6_61 + 1)), (4, .int x6_61), (5, .int y11), (7, .int y11), (0, .ref (g 0)), (1, .int x1), (2, .int x2), (3, .int x3)]) hx hb dX8_advise_142 hl (k := 7) rfl rfl (by decide) rfl (fun ls hl => ?_)
                  refine lv_goto (tgt := 61) hx hb dX8_advise_145 (by decide) ?_
                  exact ih _ _ _ _ _ h kc H locs ls hw (lv_sub hl [4, 5, 6, 7, 1, 2, 0] rfl)
                · refine lv_goto (tgt := 142) hx hb dX8_advise_131 (by decide) ?_
                  refine lv_iinc (v := (x6_61 + 1)) (lv' := [(6, .int (x6_61 + 1)), (7, .int y11), (0, .ref (g 0)), (1, .int x1), (2, .int x2), (3, .int x3), (4, .int x4_61), (5, .int x5_61)]) hx hb dX8_advise_142 hl (k := 7) rfl rfl (by decide) rfl (fun ls hl => ?_)
                  refine lv_goto (tgt := 61) hx hb dX8_advise_145 (by decide) ?_
                  exact ih _ _ _ _ _ h kc H locs ls hw (lv_sub hl [2, 3, 4, 5, 6, 7, 0] rfl)
              · refine lv_goto (tgt := 142) hx hb dX8_advise_78 (by decide) ?_
                refine lv_iinc (v := (x6_61 + 1)) (lv' := [(6, .int (x6_61 + 1)), (0, .ref (g 0)), (1, .int x1), (2, .int x2), (3, .int x3), (4, .int x4_61), (5, .int x5_61)]) hx hb dX8_advise_142 hl (k := 6) rfl rfl (by decide) rfl (fun ls hl => ?_)
                refine lv_goto (tgt := 61) hx hb dX8_advise_145 (by decide) ?_
                exact ih _ _ _ _ _ h kc H locs ls hw (lv_sub hl [1, 2, 3, 4, 5, 6, 0] rfl)
        obtain ⟨y6, h9_, h⟩ := mg_bind h
        refine L61_ _ _ _ _ _ _ h9_ (fun H locs ls hw hl => ?_) H locs ls hw (lv_sub hl [3, 4, 5, 6, 2, 1, 0] rfl)
        clear L61_ h9_
        refine lv_iload hx hb dX8_advise_148 (lv_at hl 4 rfl) ?_
        cases h
        exact mg_eI hx hb hr hlocks hw (Nat.zero_le _) (Nat.zero_le _) dX8_advise_150
      · refine lv_aload_n hx hb dX8_advise_38 rfl (lv_at hl 0 rfl) ?_
        refine lv_iconst (v := 2) hx hb dX8_advise_39 (by decide) ?_
        obtain ⟨y13, h9_, h⟩ := mg_bind h
        refine mg_k (rv := (some (.int y13.1))) (va_runV (As := [.int 2]) (rest := []) G9 (k_X8_no l D o cI cZ g H.size (mg_su σ 0 0 0) 2 y13 h9_) (cwV 1 hts gX8_advise_X8_no rfl rfl rfl (by decide +kernel) ⟨Nat.le_of_ble_eq_true rfl, Nat.le_of_ble_eq_true rfl⟩) (mg_preV hK hO hA hw (q0 := 0) rfl rfl) rfl rfl hl.1 rfl (lv_room (Nat.le_of_ble_eq_true rfl)) dX8_advise_40 ⟨Nat.zero_le _, Nat.zero_le _⟩) hw hA (fun H locs hw => ?_)
        clear h9_
        cases h
        exact mg_eI hx hb hr hlocks hw (Nat.zero_le _) (Nat.zero_le _) dX8_advise_43
  · refine lv_aload_n hx hb dX8_advise_13 rfl (lv_at hl 0 rfl) ?_
    refine lv_iconst (v := 1) hx hb dX8_advise_14 (by decide) ?_
    obtain ⟨y14, h9_, h⟩ := mg_bind h
    refine mg_k (rv := (some (.int y14.1))) (va_runV (As := [.int 1]) (rest := []) G9 (k_X8_no l D o cI cZ g H.size (mg_su σ 0 0 0) 1 y14 h9_) (cwV 1 hts gX8_advise_X8_no rfl rfl rfl (by decide +kernel) ⟨Nat.le_of_ble_eq_true rfl, Nat.le_of_ble_eq_true rfl⟩) (mg_preV hK hO hA hw (q0 := 0) rfl rfl) rfl rfl hl.1 rfl (lv_room (Nat.le_of_ble_eq_true rfl)) dX8_advise_15 ⟨Nat.zero_le _, Nat.zero_le _⟩) hw hA (fun H locs hw => ?_)
    clear h9_
    cases h
    exact mg_eI hx hb hr hlocks hw (Nat.zero_le _) (Nat.zero_le _) dX8_advise_18
set_option maxHeartbeats 4000000 in
set_option maxRecDepth 100000 in
theorem k_X8_finest (l : Launch) (D : va_G) (o : Nat → Nat) (cI cZ : ClassId) (g : Nat → Nat) (sz : Nat) (σ : mg_St)  (y : (Int32 × mg_St)) (h : f_X8_finest σ  = some y) : mg_CT l yX8_finest wsX8_finest ({ frames := 4, cells := 0, slots := 0, locals := 96 } : Room) D [(cI, .int), (cZ, .boolean)] o (mg_mW g cI cZ σ) sz [.ref (g 0)] (some (.int y.1)) (mg_mW g cI cZ y.2) 0 0 := by
  unfold mg_CT
  refine Met.ofW (cc := cX8_finest) (maxL := 3) (ret := (some .int)) (by decide) rfl ?_
  intro p e s m args below meth c s₁ B hml hv
  obtain ⟨rfl, hsz, hP, hK, hD0, hO⟩ := hv
  have hx := B.exec
  have hb := B.bytes
  have hr := B.returns
  have hts := atoms_spec (ws := wsX8_finest) B.pre
  have hown : s.vm.findClass RX8 = some m.cls := findClass_of_methodNamed B.named
  have hlocks := B.notSynchronized
  subst hsz
  have hD := hD0.self (sz := s.heap.size)
  generalize hAe : va_A (mg_mW g cI cZ σ) s.heap.size = A at hD hO ⊢
  have hA : ∀ q : Nat, s.heap.size ≤ q → A q := fun q h => by rw [← hAe]; exact Or.inr h
  have hw : mg_Wo D A s.heap s.heap [] (mg_mW g cI cZ σ) := ⟨hP, hD, va_S.rf⟩
  have G9 : CallFix p m c cX8_finest 3 s ([.ref (g 0)] : List Value).toArray wsX8_finest RX8 := ⟨hx, hb, hml, hown, hts⟩
  clear hP hD hD0 hAe
  obtain ⟨H, hHe⟩ : ∃ H : Heap, H = s.heap := ⟨_, rfl⟩
  have w0_ := hts (.fieldLink RX8 47 "MoonGateModel" "thrown" "I") (by decide +kernel)
  have iX8_ : ∀ w ∈ wsX80, w ∈ wsX8_finest := (fun _ h => List.mem_cons_of_mem _ (List.mem_append_left _ (List.mem_append_right _ h)))
  have w2_ := hts (.fieldLink RX8 55 "MoonGateModel" "gates" "I") (by decide +kernel)
  have w3_ := hts (.fieldLink RX8 40 "MoonGateModel" "s" "LMoonGateModel$Days;") (by decide +kernel)
  have hl := lv_entry ([.ref (g 0)]) (n := 3) (Nat.le_of_ble_eq_true rfl)
  rw [lg_entry_eq]
  generalize (lg_sl ([.ref (g 0)]) ++ List.replicate (3 - (lg_sl ([.ref (g 0)])).length) Slot.unset).toArray = ls at hl ⊢
  have hl : lv_has ls 3 [(0, .ref (g 0))] := hl
  unfold f_X8_finest at h
  revert hw
  intro hw
  suffices K_ : ∀ (H : Heap) (locs : List Loc), mg_Wo D A s.heap H locs (mg_mW g cI cZ σ) → W p l e (headSpec wsX8_finest ({ frames := 4, cells := 0, slots := 0, locals := 96 } : Room)).room s m ([.ref (g 0)] : List Value).toArray below meth c H locs 0 0 (MQ below (mg_Q D (mg_mW g cI cZ y.2) A (some (.int y.1))) ([.ref (g 0)] : List Value).toArray s 0 0 A) (F0 m 0 ls []) from K_ _ _ hw
  clear hw hHe H
  intro H locs hw
  refine lv_aload_n hx hb dX8_finest_0 rfl (lv_at hl 0 rfl) ?_
  refine lv_iconst (v := 0) hx hb dX8_finest_1 (by decide) ?_
  refine mg_put (wd := mg_mW g cI cZ) (σ := σ) (v := 0) (ci := 8) (C := RX8) (T := TX8) (N := 15) hx hb hts iX8_ tyX8 tyX8_ok nmX8 hown hK hw 0 0 rfl rfl 0 (by decide) w0_ (fun _ h9 => h9) rfl (by decide +kernel) (Nat.le_of_ble_eq_true rfl) rfl dX8_finest_2 (fun H locs hw => ?_)
  refine lv_iconst (v := (-1)) hx hb dX8_finest_5 (by decide) ?_
  refine lv_istore_n (lv' := [(1, .int (-1)), (0, .ref (g 0))]) hx hb dX8_finest_6 rfl hl (by decide) rfl (fun ls hl => ?_)
  refine lv_iconst (v := 0) hx hb dX8_finest_7 (by decide) ?_
  refine lv_istore_n (lv' := [(2, .int 0), (1, .int (-1)), (0, .ref (g 0))]) hx hb dX8_finest_8 rfl hl (by decide) rfl (fun ls hl => ?_)
  have L9_ : ∀ (n : Nat) (x1_9 : Int32) (x2_9 : Int32) (y9_ : Int32 × Int32), f_X8_finest_9 (mg_su σ 0 0 0) n x1_9 x2_9 = some y9_ → (∀ (H : Heap) (locs : List Loc) (ls : Array Slot), mg_Wo D A s.heap H locs (mg_mW g cI cZ (mg_su σ 0 0 0)) → lv_has ls 3 [(0, .ref (g 0)), (1, .int y9_.1), (2, .int y9_.2)] → W p l e (headSpec wsX8_finest ({ frames := 4, cells := 0, slots := 0, locals := 96 } : Room)).room s m ([.ref (g 0)] : List Value).toArray below meth c H locs 0 0 (MQ below (mg_Q D (mg_mW g cI cZ y.2) A (some (.int y.1))) ([.ref (g 0)] : List Value).toArray s 0 0 A) (F0 m 51 ls [])) → ∀ (H : Heap) (locs : List Loc) (ls : Array Slot), mg_Wo D A s.heap H locs (mg_mW g cI cZ (mg_su σ 0 0 0)) → lv_has ls 3 [(0, .ref (g 0)), (1, .int x1_9), (2, .int x2_9)] → W p l e (headSpec wsX8_finest ({ frames := 4, cells := 0, slots := 0, locals := 96 } : Room)).room s m ([.ref (g 0)] : List Value).toArray below meth c H locs 0 0 (MQ below (mg_Q D (mg_mW g cI cZ y.2) A (some (.int y.1))) ([.ref (g 0)] : List Value).toArray s 0 0 A) (F0 m 9 ls []) := by
    intro n
    induction n with
    | zero => intro x1_9 x2_9 y9_ h; rw [f_X8_finest_9] at h; cases h
    | succ n ih =>
      intro x1_9 x2_9 y9_ h kc H locs ls hw hl
      rw [f_X8_finest_9] at h
      refine lv_iload_n hx hb dX8_finest_9 rfl (lv_at hl 2 rfl) ?_
      refine lv_aload_n hx hb dX8_finest_10 rfl (lv_at hl 0 rfl) ?_
      refine va_get (D := D) (ci := 8) (v := .int ((mg_su σ 0 0 0) 0 8)) (C := RX8) (T := TX8) (N := 15) hx hb hts iX8_ hown hK hw.1 0 rfl rfl 8 (by decide) w2_ (fun _ h9 => h9) rfl dX8_finest_11 ?_
      refine mg_icmp_ge (tgt := 51) hx hb h dX8_finest_14 (by decide) (fun h => ?_) (fun h => ?_)
      · cases h
        exact kc H locs ls hw (lv_sub hl [0, 1, 2] rfl)
      · refine lv_iload_n hx hb dX8_finest_17 rfl (lv_at hl 1 rfl) ?_
        refine lv_iconst (v := (-1)) hx hb dX8_finest_18 (by decide) ?_
        refine mg_icmp_eq (tgt := 43) hx hb h dX8_finest_19 (by decide) (fun h => ?_) (fun h => ?_)
        · refine lv_iload_n hx hb dX8_finest_43 rfl (lv_at hl 2 rfl) ?_
          refine lv_istore_n (lv' := [(1, .int x2_9), (0, .ref (g 0)), (2, .int x2_9)]) hx hb dX8_finest_44 rfl hl (by decide) rfl (fun ls hl => ?_)
          refine lv_iinc (v := (x2_9 + 1)) (lv' := [(2, .int (x2_9 + 1)), (1, .int x2_9), (0, .ref (g 0))]) hx hb dX8_finest_45 hl (k := 2) rfl rfl (by decide) rfl (fun ls hl => ?_)
          refine lv_goto (tgt := 9) hx hb dX8_finest_48 (by decide) ?_
          exact ih _ _ _ h kc H locs ls hw (lv_sub hl [2, 1, 0] rfl)
        · refine lv_aload_n hx hb dX8_finest_22 rfl (lv_at hl 0 rfl) ?_
          refine lv_iload_n hx hb dX8_finest_23 rfl (lv_at hl 2 rfl) ?_
          refine lv_aload_n hx hb dX8_finest_24 rfl (lv_at hl 0 rfl) ?_
          refine va_get (D := D) (ci := 8) (v := .ref (g 1)) (C := RX8) (T := TX8) (N := 15) hx hb hts iX8_ hown hK hw.1 0 rfl rfl 13 (by decide) w3_ (fun _ h9 => h9) rfl dX8_finest_25 ?_
          obtain ⟨y2, h9_, h⟩ := mg_bind h
          refine mg_k (rv := (some (.int y2))) (va_runV (As := [.int x2_9, .ref (g 1)]) (rest := []) G9 (k_X8_beauty_1 l D o cI cZ g H.size (mg_su σ 0 0 0) x2_9 y2 h9_) (cwV 2 hts gX8_finest_X8_beauty rfl rfl rfl (by decide +kernel) ⟨Nat.le_of_ble_eq_true rfl, Nat.le_of_ble_eq_true rfl⟩) (mg_preV hK hO hA hw (q0 := 0) rfl rfl) rfl rfl hl.1 rfl (lv_room (Nat.le_of_ble_eq_true rfl)) dX8_finest_28 ⟨Nat.zero_le _, Nat.zero_le _⟩) hw hA (fun H locs hw => ?_)
          clear h9_
          refine lv_aload_n hx hb dX8_finest_31 rfl (lv_at hl 0 rfl) ?_
          refine lv_iload_n hx hb dX8_finest_32 rfl (lv_at hl 1 rfl) ?_
          refine lv_aload_n hx hb dX8_finest_33 rfl (lv_at hl 0 rfl) ?_
          refine va_get (D := D) (ci := 8) (v := .ref (g 1)) (C := RX8) (T := TX8) (N := 15) hx hb hts iX8_ hown hK hw.1 0 rfl rfl 13 (by decide) w3_ (fun _ h9 => h9) rfl dX8_finest_34 ?_
          obtain ⟨y3, h9_, h⟩ := mg_bind h
          refine mg_k (rv := (some (.int y3))) (va_runV (As := [.int x1_9, .ref (g 1)]) (rest := [.int y2]) G9 (k_X8_beauty_1 l D o cI cZ g H.size (mg_su σ 0 0 0) x1_9 y3 h9_) (cwV 2 hts gX8_finest_X8_beauty rfl rfl rfl (by decide +kernel) ⟨Nat.le_of_ble_eq_true rfl, Nat.le_of_ble_eq_true rfl⟩) (mg_preV hK hO hA hw (q0 := 0) rfl rfl) rfl rfl hl.1 rfl (lv_room (Nat.le_of_ble_eq_true rfl)) dX8_finest_37 ⟨Nat.zero_le _, Nat.zero_le _⟩) hw hA (fun H locs hw => ?_)
          clear h9_
          refine mg_icmp_le (tgt := 45) hx hb h dX8_finest_40 (by decide) (fun h => ?_) (fun h => ?_)
          · refine lv_iinc (v := (x2_9 + 1)) (lv' := [(2, .int (x2_9 + 1)), (0, .ref (g 0)), (1, .int x1_9)]) hx hb dX8_finest_45 hl (k := 2) rfl rfl (by decide) rfl (fun ls hl => ?_)
            refine lv_goto (tgt := 9) hx hb dX8_finest_48 (by decide) ?_
            exact ih _ _ _ h kc H locs ls hw (lv_sub hl [1, 2, 0] rfl)
          · refine lv_iload_n hx hb dX8_finest_43 rfl (lv_at hl 2 rfl) ?_
            refine lv_istore_n (lv' := [(1, .int x2_9), (0, .ref (g 0)), (2, .int x2_9)]) hx hb dX8_finest_44 rfl hl (by decide) rfl (fun ls hl => ?_)
            refine lv_iinc (v := (x2_9 + 1)) (lv' := [(2, .int (x2_9 + 1)), (1, .int x2_9), (0, .ref (g 0))]) hx hb dX8_finest_45 hl (k := 2) rfl rfl (by decide) rfl (fun ls hl => ?_)
            refine lv_goto (tgt := 9) hx hb dX8_finest_48 (by decide) ?_
            exact ih _ _ _ h kc H locs ls hw (lv_sub hl [2, 1, 0] rfl)
  obtain ⟨y1, h9_, h⟩ := mg_bind h
  refine L9_ _ _ _ _ h9_ (fun H locs ls hw hl => ?_) H locs ls hw (lv_sub hl [2, 1, 0] rfl)
  clear L9_ h9_
  refine lv_iload_n hx hb dX8_finest_51 rfl (lv_at hl 1 rfl) ?_
  cases h
  exact mg_eI hx hb hr hlocks hw (Nat.zero_le _) (Nat.zero_le _) dX8_finest_52
set_option maxHeartbeats 4000000 in
set_option maxRecDepth 100000 in
theorem k_X8_mean (l : Launch) (D : va_G) (o : Nat → Nat) (cI cZ : ClassId) (g : Nat → Nat) (sz : Nat) (σ : mg_St) (y : (UInt64 × mg_St)) (h : f_X8_mean σ  = some y) : mg_CD l yX8_mean wsX8_mean ({ frames := 4, cells := 0, slots := 0, locals := 96 } : Room) D [(cI, .int), (cZ, .boolean)] o (mg_mW g cI cZ σ) sz [.ref (g 0)] y.1 (mg_mW g cI cZ y.2) 0 0 := by
  unfold mg_CD
  refine MetD.ofW (cc := cX8_mean) (maxL := 3) (ret := (some .double)) (by decide) rfl ?_
  intro p e s m args below meth c s₁ B hml hv hd0
  obtain ⟨rfl, hsz, hP, hK, hD0, hO⟩ := hv
  have hx := B.exec
  have hb := B.bytes
  have hr := B.returns
  have hts := atoms_spec (ws := wsX8_mean) B.pre
  have hown : s.vm.findClass RX8 = some m.cls := findClass_of_methodNamed B.named
  have hlocks := B.notSynchronized
  subst hsz
  have hD := hD0.self (sz := s.heap.size)
  generalize hAe : va_A (mg_mW g cI cZ σ) s.heap.size = A at hD hO ⊢
  have hA : ∀ q : Nat, s.heap.size ≤ q → A q := fun q h => by rw [← hAe]; exact Or.inr h
  have hw : mg_Wo D A s.heap s.heap [] (mg_mW g cI cZ σ) := ⟨hP, hD, va_S.rf⟩
  have G9 : CallFix p m c cX8_mean 3 s ([.ref (g 0)] : List Value).toArray wsX8_mean RX8 := ⟨hx, hb, hml, hown, hts⟩
  clear hP hD hD0 hAe
  obtain ⟨H, hHe⟩ : ∃ H : Heap, H = s.heap := ⟨_, rfl⟩
  have w0_ := hts (.fieldLink RX8 47 "MoonGateModel" "thrown" "I") (by decide +kernel)
  have iX8_ : ∀ w ∈ wsX80, w ∈ wsX8_mean := (fun _ h => List.mem_cons_of_mem _ (List.mem_append_left _ (List.mem_append_right _ h)))
  have w2_ := hts (.fieldLink RX8 55 "MoonGateModel" "gates" "I") (by decide +kernel)
  have w3_ := hts (.fieldLink RX8 40 "MoonGateModel" "s" "LMoonGateModel$Days;") (by decide +kernel)
  have hl := lv_entry ([.ref (g 0)]) (n := 3) (Nat.le_of_ble_eq_true rfl)
  rw [lg_entry_eq]
  generalize (lg_sl ([.ref (g 0)]) ++ List.replicate (3 - (lg_sl ([.ref (g 0)])).length) Slot.unset).toArray = ls at hl ⊢
  have hl : lv_has ls 3 [(0, .ref (g 0))] := hl
  unfold f_X8_mean at h
  revert hw
  intro hw
  suffices K_ : ∀ (H : Heap) (locs : List Loc), mg_Wo D A s.heap H locs (mg_mW g cI cZ σ) → W p l e (headSpec wsX8_mean ({ frames := 4, cells := 0, slots := 0, locals := 96 } : Room)).room s m ([.ref (g 0)] : List Value).toArray below meth c H locs 0 0 (MQD lw_cs below (mg_QD D (mg_mW g cI cZ y.2) A y.1) ([.ref (g 0)] : List Value).toArray s 0 0 A) (F0 m 0 ls []) from K_ _ _ hw
  clear hw hHe H
  intro H locs hw
  refine lv_aload_n hx hb dX8_mean_0 rfl (lv_at hl 0 rfl) ?_
  refine lv_iconst (v := 0) hx hb dX8_mean_1 (by decide) ?_
  refine mg_put (wd := mg_mW g cI cZ) (σ := σ) (v := 0) (ci := 8) (C := RX8) (T := TX8) (N := 15) hx hb hts iX8_ tyX8 tyX8_ok nmX8 hown hK hw 0 0 rfl rfl 0 (by decide) w0_ (fun _ h9 => h9) rfl (by decide +kernel) (Nat.le_of_ble_eq_true rfl) rfl dX8_mean_2 (fun H locs hw => ?_)
  refine lv_iconst (v := 0) hx hb dX8_mean_5 (by decide) ?_
  refine lv_istore_n (lv' := [(1, .int 0), (0, .ref (g 0))]) hx hb dX8_mean_6 rfl hl (by decide) rfl (fun ls hl => ?_)
  refine lv_iconst (v := 0) hx hb dX8_mean_7 (by decide) ?_
  refine lv_istore_n (lv' := [(2, .int 0), (1, .int 0), (0, .ref (g 0))]) hx hb dX8_mean_8 rfl hl (by decide) rfl (fun ls hl => ?_)
  have L9_ : ∀ (n : Nat) (x1_9 : Int32) (x2_9 : Int32) (y9_ : Int32 × Int32), f_X8_mean_9 (mg_su σ 0 0 0) n x1_9 x2_9 = some y9_ → (∀ (H : Heap) (locs : List Loc) (ls : Array Slot), mg_Wo D A s.heap H locs (mg_mW g cI cZ (mg_su σ 0 0 0)) → lv_has ls 3 [(0, .ref (g 0)), (1, .int y9_.1), (2, .int y9_.2)] → W p l e (headSpec wsX8_mean ({ frames := 4, cells := 0, slots := 0, locals := 96 } : Room)).room s m ([.ref (g 0)] : List Value).toArray below meth c H locs 0 0 (MQD lw_cs below (mg_QD D (mg_mW g cI cZ y.2) A y.1) ([.ref (g 0)] : List Value).toArray s 0 0 A) (F0 m 35 ls [])) → ∀ (H : Heap) (locs : List Loc) (ls : Array Slot), mg_Wo D A s.heap H locs (mg_mW g cI cZ (mg_su σ 0 0 0)) → lv_has ls 3 [(0, .ref (g 0)), (1, .int x1_9), (2, .int x2_9)] → W p l e (headSpec wsX8_mean ({ frames := 4, cells := 0, slots := 0, locals := 96 } : Room)).room s m ([.ref (g 0)] : List Value).toArray below meth c H locs 0 0 (MQD lw_cs below (mg_QD D (mg_mW g cI cZ y.2) A y.1) ([.ref (g 0)] : List Value).toArray s 0 0 A) (F0 m 9 ls []) := by
    intro n
    induction n with
    | zero => intro x1_9 x2_9 y9_ h; rw [f_X8_mean_9] at h; cases h
    | succ n ih =>
      intro x1_9 x2_9 y9_ h kc H locs ls hw hl
      rw [f_X8_mean_9] at h
      refine lv_iload_n hx hb dX8_mean_9 rfl (lv_at hl 2 rfl) ?_
      refine lv_aload_n hx hb dX8_mean_10 rfl (lv_at hl 0 rfl) ?_
      refine va_get (D := D) (ci := 8) (v := .int ((mg_su σ 0 0 0) 0 8)) (C := RX8) (T := TX8) (N := 15) hx hb hts iX8_ hown hK hw.1 0 rfl rfl 8 (by decide) w2_ (fun _ h9 => h9) rfl dX8_mean_11 ?_
      refine mg_icmp_ge (tgt := 35) hx hb h dX8_mean_14 (by decide) (fun h => ?_) (fun h => ?_)
      · cases h
        exact kc H locs ls hw (lv_sub hl [0, 1, 2] rfl)
      · refine lv_iload_n hx hb dX8_mean_17 rfl (lv_at hl 1 rfl) ?_
        refine lv_aload_n hx hb dX8_mean_18 rfl (lv_at hl 0 rfl) ?_
        refine lv_iload_n hx hb dX8_mean_19 rfl (lv_at hl 2 rfl) ?_
        refine lv_aload_n hx hb dX8_mean_20 rfl (lv_at hl 0 rfl) ?_
        refine va_get (D := D) (ci := 8) (v := .ref (g 1)) (C := RX8) (T := TX8) (N := 15) hx hb hts iX8_ hown hK hw.1 0 rfl rfl 13 (by decide) w3_ (fun _ h9 => h9) rfl dX8_mean_21 ?_
        obtain ⟨y2, h9_, h⟩ := mg_bind h
        refine mg_k (rv := (some (.int y2))) (va_runV (As := [.int x2_9, .ref (g 1)]) (rest := [.int x1_9]) G9 (k_X8_beauty_1 l D o cI cZ g H.size (mg_su σ 0 0 0) x2_9 y2 h9_) (cwV 2 hts gX8_mean_X8_beauty rfl rfl rfl (by decide +kernel) ⟨Nat.le_of_ble_eq_true rfl, Nat.le_of_ble_eq_true rfl⟩) (mg_preV hK hO hA hw (q0 := 0) rfl rfl) rfl rfl hl.1 rfl (lv_room (Nat.le_of_ble_eq_true rfl)) dX8_mean_24 ⟨Nat.zero_le _, Nat.zero_le _⟩) hw hA (fun H locs hw => ?_)
        clear h9_
        refine lv_iadd hx hb dX8_mean_27 ?_
        refine lv_istore_n (lv' := [(1, .int (x1_9 + y2)), (0, .ref (g 0)), (2, .int x2_9)]) hx hb dX8_mean_28 rfl hl (by decide) rfl (fun ls hl => ?_)
        refine lv_iinc (v := (x2_9 + 1)) (lv' := [(2, .int (x2_9 + 1)), (1, .int (x1_9 + y2)), (0, .ref (g 0))]) hx hb dX8_mean_29 hl (k := 2) rfl rfl (by decide) rfl (fun ls hl => ?_)
        refine lv_goto (tgt := 9) hx hb dX8_mean_32 (by decide) ?_
        exact ih _ _ _ h kc H locs ls hw (lv_sub hl [2, 1, 0] rfl)
  obtain ⟨y1, h9_, h⟩ := mg_bind h
  refine L9_ _ _ _ _ h9_ (fun H locs ls hw hl => ?_) H locs ls hw (lv_sub hl [2, 1, 0] rfl)
  clear L9_ h9_
  refine lv_aload_n hx hb dX8_mean_35 rfl (lv_at hl 0 rfl) ?_
  refine va_get (D := D) (ci := 8) (v := .int ((mg_su σ 0 0 0) 0 8)) (C := RX8) (T := TX8) (N := 15) hx hb hts iX8_ hown hK hw.1 0 rfl rfl 8 (by decide) w2_ (fun _ h9 => h9) rfl dX8_mean_36 ?_
  refine mg_if_ne (tgt := 46) hx hb h dX8_mean_39 (by decide) (fun h => ?_) (fun h => ?_)
  · refine lv_iload_n hx hb dX8_mean_46 rfl (lv_at hl 1 rfl) ?_
    refine lv_i2d hx hb dX8_mean_47 ?_
    refine lv_aload_n hx hb dX8_mean_48 rfl (lv_at hl 0 rfl) ?_
    refine va_get (D := D) (ci := 8) (v := .int ((mg_su σ 0 0 0) 0 8)) (C := RX8) (T := TX8) (N := 15) hx hb hts iX8_ hown hK hw.1 0 rfl rfl 8 (by decide) w2_ (fun _ h9 => h9) rfl dX8_mean_49 ?_
    refine lv_i2d hx hb dX8_mean_52 ?_
    refine W.base ?_
    refine lv_ddiv_any (d0 := s.drawn) hd0 lw_bits hx hb dX8_mean_53 (fun r9 d9 hal9 hd9 => ?_)
    cases h
    exact mg_eD hd9 hal9 hx hb hr hlocks hw (Nat.zero_le _) (Nat.zero_le _) dX8_mean_54
  · refine lv_dconst0 hx hb dX8_mean_42 ?_
    refine lv_goto (tgt := 54) hx hb dX8_mean_43 (by decide) ?_
    cases h
    refine W.base ?_
    exact mg_eD (Drawn.sameBut.refl s.drawn lw_cs) (alike64_refl _) hx hb hr hlocks hw (Nat.zero_le _) (Nat.zero_le _) dX8_mean_54
set_option maxHeartbeats 4000000 in
set_option maxRecDepth 100000 in
theorem k_X8_digest (l : Launch) (D : va_G) (o : Nat → Nat) (cI cZ : ClassId) (g : Nat → Nat) (sz : Nat) (σ : mg_St)  (y : (Int64 × mg_St)) (h : f_X8_digest σ  = some y) : mg_CT l yX8_digest wsX8_digest ({ frames := 5, cells := 640, slots := 3300, locals := 120 } : Room) D [(cI, .int), (cZ, .boolean)] o (mg_mW g cI cZ σ) sz [.ref (g 0)] (some (.long y.1)) (mg_mW g cI cZ y.2) 640 3300 := by
  unfold mg_CT
  refine Met.ofW (cc := cX8_digest) (maxL := 5) (ret := (some .long)) (by decide) rfl ?_
  intro p e s m args below meth c s₁ B hml hv
  obtain ⟨rfl, hsz, hP, hK, hD0, hO⟩ := hv
  have hx := B.exec
  have hb := B.bytes
  have hr := B.returns
  have hts := atoms_spec (ws := wsX8_digest) B.pre
  have hown : s.vm.findClass RX8 = some m.cls := findClass_of_methodNamed B.named
  have hlocks := B.notSynchronized
  subst hsz
  have hD := hD0.self (sz := s.heap.size)
  generalize hAe : va_A (mg_mW g cI cZ σ) s.heap.size = A at hD hO ⊢
  have hA : ∀ q : Nat, s.heap.size ≤ q → A q := fun q h => by rw [← hAe]; exact Or.inr h
  have hw : mg_Wo D A s.heap s.heap [] (mg_mW g cI cZ σ) := ⟨hP, hD, va_S.rf⟩
  have G9 : CallFix p m c cX8_digest 5 s ([.ref (g 0)] : List Value).toArray wsX8_digest RX8 := ⟨hx, hb, hml, hown, hts⟩
  clear hP hD hD0 hAe
  obtain ⟨H, hHe⟩ : ∃ H : Heap, H = s.heap := ⟨_, rfl⟩
  have w0_ := hts (.fieldLink RX8 47 "MoonGateModel" "thrown" "I") (by decide +kernel)
  have iX8_ : ∀ w ∈ wsX80, w ∈ wsX8_digest := (fun _ h => List.mem_cons_of_mem _ (List.mem_append_left _ (List.mem_append_right _ h)))
  have w2_ := hts (.constantLong RX8 173 1193) (by decide +kernel)
  have w3_ := hts (.constantLong RX8 175 31) (by decide +kernel)
  have w4_ := hts (.fieldLink RX8 71 "MoonGateModel" "carps" "I") (by decide +kernel)
  have w5_ := hts (.fieldLink RX8 55 "MoonGateModel" "gates" "I") (by decide +kernel)
  have w6_ := hts (.fieldLink RX8 58 "MoonGateModel" "poets" "I") (by decide +kernel)
  have w7_ := hts (.fieldLink RX8 40 "MoonGateModel" "s" "LMoonGateModel$Days;") (by decide +kernel)
  have iX7_ : ∀ w ∈ wsX70, w ∈ wsX8_digest := (fun _ h => List.mem_cons_of_mem _ (List.mem_append_right _ h))
  have hl := lv_entry ([.ref (g 0)]) (n := 5) (Nat.le_of_ble_eq_true rfl)
  rw [lg_entry_eq]
  generalize (lg_sl ([.ref (g 0)]) ++ List.replicate (5 - (lg_sl ([.ref (g 0)])).length) Slot.unset).toArray = ls at hl ⊢
  have hl : lv_has ls 5 [(0, .ref (g 0))] := hl
  unfold f_X8_digest at h
  revert hw
  intro hw
  suffices K_ : ∀ (H : Heap) (locs : List Loc), mg_Wo D A s.heap H locs (mg_mW g cI cZ σ) → W p l e (headSpec wsX8_digest ({ frames := 5, cells := 640, slots := 3300, locals := 120 } : Room)).room s m ([.ref (g 0)] : List Value).toArray below meth c H locs 0 0 (MQ below (mg_Q D (mg_mW g cI cZ y.2) A (some (.long y.1))) ([.ref (g 0)] : List Value).toArray s 640 3300 A) (F0 m 0 ls []) from K_ _ _ hw
  clear hw hHe H
  intro H locs hw
  refine lv_aload_n hx hb dX8_digest_0 rfl (lv_at hl 0 rfl) ?_
  refine lv_iconst (v := 0) hx hb dX8_digest_1 (by decide) ?_
  refine mg_put (wd := mg_mW g cI cZ) (σ := σ) (v := 0) (ci := 8) (C := RX8) (T := TX8) (N := 15) hx hb hts iX8_ tyX8 tyX8_ok nmX8 hown hK hw 0 0 rfl rfl 0 (by decide) w0_ (fun _ h9 => h9) rfl (by decide +kernel) (Nat.le_of_ble_eq_true rfl) rfl dX8_digest_2 (fun H locs hw => ?_)
  refine lv_aload_n hx hb dX8_digest_5 rfl (lv_at hl 0 rfl) ?_
  obtain ⟨y1, h9_, h⟩ := mg_bind h
  refine mg_k (rv := none) (va_runV (As := []) (rest := []) G9 (k_X8_markPonds l D o cI cZ g H.size (mg_su σ 0 0 0)  y1 h9_) (cwV 0 hts gX8_digest_X8_markPonds rfl rfl rfl (by decide +kernel) ⟨Nat.le_of_ble_eq_true rfl, Nat.le_of_ble_eq_true rfl⟩) (mg_preV hK hO hA hw (q0 := 0) rfl rfl) rfl rfl hl.1 rfl (lv_room (Nat.le_of_ble_eq_true rfl)) dX8_digest_6 ⟨Nat.zero_le _, Nat.zero_le _⟩) hw hA (fun H locs hw => ?_)
  clear h9_
  refine lv_ldc2 (v := 1193) hx hb hown w2_ dX8_digest_9 ?_
  refine lv_lstore_n (lv' := [(1, .long 1193), (0, .ref (g 0))]) hx hb dX8_digest_12 rfl hl (by decide) rfl (fun ls hl => ?_)
  refine lv_iconst (v := 0) hx hb dX8_digest_13 (by decide) ?_
  refine lv_istore_n (lv' := [(3, .int 0), (1, .long 1193), (0, .ref (g 0))]) hx hb dX8_digest_14 rfl hl (by decide) rfl (fun ls hl => ?_)
  have L15_ : ∀ (n : Nat), ∀ (cl15_ sl15_ : Nat), cl15_ + n * 1 ≤ (0 + 12) → sl15_ + n * 11 ≤ (0 + 132) → ∀ (x1_15 : Int64) (x3_15 : Int32) (y15_ : Int64 × Int32), f_X8_digest_15 y1 n x1_15 x3_15 = some y15_ → (∀ (H : Heap) (locs : List Loc) (ls : Array Slot), mg_Wo D A s.heap H locs (mg_mW g cI cZ y1) → lv_has ls 5 [(0, .ref (g 0)), (1, .long y15_.1), (3, .int y15_.2)] → W p l e (headSpec wsX8_digest ({ frames := 5, cells := 640, slots := 3300, locals := 120 } : Room)).room s m ([.ref (g 0)] : List Value).toArray below meth c H locs (0 + 12) (0 + 132) (MQ below (mg_Q D (mg_mW g cI cZ y.2) A (some (.long y.1))) ([.ref (g 0)] : List Value).toArray s 640 3300 A) (F0 m 40 ls [])) → ∀ (H : Heap) (locs : List Loc) (ls : Array Slot), mg_Wo D A s.heap H locs (mg_mW g cI cZ y1) → lv_has ls 5 [(0, .ref (g 0)), (1, .long x1_15), (3, .int x3_15)] → W p l e (headSpec wsX8_digest ({ frames := 5, cells := 640, slots := 3300, locals := 120 } : Room)).room s m ([.ref (g 0)] : List Value).toArray below meth c H locs cl15_ sl15_ (MQ below (mg_Q D (mg_mW g cI cZ y.2) A (some (.long y.1))) ([.ref (g 0)] : List Value).toArray s 640 3300 A) (F0 m 15 ls []) := by
    intro n
    induction n with
    | zero => intro cl15_ sl15_ hcl15_ hsl15_ x1_15 x3_15 y15_ h; rw [f_X8_digest_15] at h; cases h
    | succ n ih =>
      intro cl15_ sl15_ hcl15_ hsl15_ x1_15 x3_15 y15_ h kc H locs ls hw hl
      rw [f_X8_digest_15] at h
      refine lv_iload_n hx hb dX8_digest_15 rfl (lv_at hl 2 rfl) ?_
      refine lv_bipush (v := 11) hx hb dX8_digest_16 (by decide) ?_
      refine mg_icmp_ge (tgt := 40) hx hb h dX8_digest_18 (by decide) (fun h => ?_) (fun h => ?_)
      · cases h
        refine W.widen (k := (0 + 12)) (n := (0 + 132)) (by omega) (by omega) ?_
        exact kc H locs ls hw (lv_sub hl [0, 1, 2] rfl)
      · refine lv_lload_n hx hb dX8_digest_21 rfl (lv_at hl 1 rfl) ?_
        refine lv_ldc2 (v := 31) hx hb hown w3_ dX8_digest_22 ?_
        refine lv_lmul hx hb dX8_digest_25 ?_
        refine lv_aload_n hx hb dX8_digest_26 rfl (lv_at hl 0 rfl) ?_
        refine lv_iload_n hx hb dX8_digest_27 rfl (lv_at hl 2 rfl) ?_
        obtain ⟨y3, h9_, h⟩ := mg_bind h
        refine mg_k (rv := (some (.int y3))) (va_runV (As := [.int x3_15]) (rest := [.long (x1_15 * 31)]) G9 (k_X8_counted l D o cI cZ g H.size y1 x3_15 y3 h9_) (cwV 1 hts gX8_digest_X8_counted rfl rfl rfl (by decide +kernel) ⟨Nat.le_of_ble_eq_true rfl, Nat.le_of_ble_eq_true rfl⟩) (mg_preV hK hO hA hw (q0 := 0) rfl rfl) rfl rfl hl.1 rfl (lv_room (Nat.le_of_ble_eq_true rfl)) dX8_digest_28 ⟨(show cl15_ + 1 ≤ 640 by omega), (show sl15_ + 11 ≤ 3300 by omega)⟩) hw hA (fun H locs hw => ?_)
        clear h9_
        refine lv_i2l hx hb dX8_digest_31 rfl ?_
        refine lv_ladd hx hb dX8_digest_32 ?_
        refine lv_lstore_n (lv' := [(1, .long ((x1_15 * 31) + (Int32.toInt64 y3))), (0, .ref (g 0)), (3, .int x3_15)]) hx hb dX8_digest_33 rfl hl (by decide) rfl (fun ls hl => ?_)
        refine lv_iinc (v := (x3_15 + 1)) (lv' := [(3, .int (x3_15 + 1)), (1, .long ((x1_15 * 31) + (Int32.toInt64 y3))), (0, .ref (g 0))]) hx hb dX8_digest_34 hl (k := 2) rfl rfl (by decide) rfl (fun ls hl => ?_)
        refine lv_goto (tgt := 15) hx hb dX8_digest_37 (by decide) ?_
        exact ih _ _ (by omega) (by omega) _ _ _ h kc H locs ls hw (lv_sub hl [2, 1, 0] rfl)
  obtain ⟨y2, h9_, h⟩ := mg_bind h
  refine L15_ _ 0 0 (Nat.le_refl _) (Nat.le_refl _) _ _ _ h9_ (fun H locs ls hw hl => ?_) H locs ls hw (lv_sub hl [2, 1, 0] rfl)
  clear L15_ h9_
  refine lv_iconst (v := 0) hx hb dX8_digest_40 (by decide) ?_
  refine lv_istore_n (lv' := [(3, .int 0), (0, .ref (g 0)), (1, .long y2.1)]) hx hb dX8_digest_41 rfl hl (by decide) rfl (fun ls hl => ?_)
  have L42_ : ∀ (n : Nat), ∀ (cl42_ sl42_ : Nat), cl42_ + n * 6 ≤ ((0 + 12) + 426) → sl42_ + n * 30 ≤ ((0 + 132) + 2130) → ∀ (x1_42 : Int64) (x3_42 : Int32) (y42_ : Int64 × Int32), f_X8_digest_42 y1 n x1_42 x3_42 = some y42_ → (∀ (H : Heap) (locs : List Loc) (ls : Array Slot), mg_Wo D A s.heap H locs (mg_mW g cI cZ y1) → lv_has ls 5 [(0, .ref (g 0)), (1, .long y42_.1), (3, .int y42_.2)] → W p l e (headSpec wsX8_digest ({ frames := 5, cells := 640, slots := 3300, locals := 120 } : Room)).room s m ([.ref (g 0)] : List Value).toArray below meth c H locs ((0 + 12) + 426) ((0 + 132) + 2130) (MQ below (mg_Q D (mg_mW g cI cZ y.2) A (some (.long y.1))) ([.ref (g 0)] : List Value).toArray s 640 3300 A) (F0 m 84 ls [])) → ∀ (H : Heap) (locs : List Loc) (ls : Array Slot), mg_Wo D A s.heap H locs (mg_mW g cI cZ y1) → lv_has ls 5 [(0, .ref (g 0)), (1, .long x1_42), (3, .int x3_42)] → W p l e (headSpec wsX8_digest ({ frames := 5, cells := 640, slots := 3300, locals := 120 } : Room)).room s m ([.ref (g 0)] : List Value).toArray below meth c H locs cl42_ sl42_ (MQ below (mg_Q D (mg_mW g cI cZ y.2) A (some (.long y.1))) ([.ref (g 0)] : List Value).toArray s 640 3300 A) (F0 m 42 ls []) := by
    intro n
    induction n with
    | zero => intro cl42_ sl42_ hcl42_ hsl42_ x1_42 x3_42 y42_ h; rw [f_X8_digest_42] at h; cases h
    | succ n ih =>
      intro cl42_ sl42_ hcl42_ hsl42_ x1_42 x3_42 y42_ h kc H locs ls hw hl
      rw [f_X8_digest_42] at h
      refine lv_iload_n hx hb dX8_digest_42 rfl (lv_at hl 2 rfl) ?_
      refine lv_bipush (v := 70) hx hb dX8_digest_43 (by decide) ?_
      refine mg_icmp_ge (tgt := 84) hx hb h dX8_digest_45 (by decide) (fun h => ?_) (fun h => ?_)
      · cases h
        refine W.widen (k := ((0 + 12) + 426)) (n := ((0 + 132) + 2130)) (by omega) (by omega) ?_
        exact kc H locs ls hw (lv_sub hl [0, 1, 2] rfl)
      · refine lv_iconst (v := 0) hx hb dX8_digest_48 (by decide) ?_
        refine lv_istore (lv' := [(4, .int 0), (0, .ref (g 0)), (1, .long x1_42), (3, .int x3_42)]) hx hb dX8_digest_49 hl (by decide) rfl (fun ls hl => ?_)
        have L51_ : ∀ (n : Nat), ∀ (cl51_ sl51_ : Nat), cl51_ + n * 1 ≤ (cl42_ + 6) → sl51_ + n * 5 ≤ (sl42_ + 30) → ∀ (x1_51 : Int64) (x4_51 : Int32) (y51_ : Int64 × Int32), f_X8_digest_51 y1 x3_42 n x1_51 x4_51 = some y51_ → (∀ (H : Heap) (locs : List Loc) (ls : Array Slot), mg_Wo D A s.heap H locs (mg_mW g cI cZ y1) → lv_has ls 5 [(0, .ref (g 0)), (1, .long y51_.1), (3, .int x3_42), (4, .int y51_.2)] → W p l e (headSpec wsX8_digest ({ frames := 5, cells := 640, slots := 3300, locals := 120 } : Room)).room s m ([.ref (g 0)] : List Value).toArray below meth c H locs (cl42_ + 6) (sl42_ + 30) (MQ below (mg_Q D (mg_mW g cI cZ y.2) A (some (.long y.1))) ([.ref (g 0)] : List Value).toArray s 640 3300 A) (F0 m 78 ls [])) → ∀ (H : Heap) (locs : List Loc) (ls : Array Slot), mg_Wo D A s.heap H locs (mg_mW g cI cZ y1) → lv_has ls 5 [(0, .ref (g 0)), (1, .long x1_51), (3, .int x3_42), (4, .int x4_51)] → W p l e (headSpec wsX8_digest ({ frames := 5, cells := 640, slots := 3300, locals := 120 } : Room)).room s m ([.ref (g 0)] : List Value).toArray below meth c H locs cl51_ sl51_ (MQ below (mg_Q D (mg_mW g cI cZ y.2) A (some (.long y.1))) ([.ref (g 0)] : List Value).toArray s 640 3300 A) (F0 m 51 ls []) := by
          intro n
          induction n with
          | zero => intro cl51_ sl51_ hcl51_ hsl51_ x1_51 x4_51 y51_ h; rw [f_X8_digest_51] at h; cases h
          | succ n ih =>
            intro cl51_ sl51_ hcl51_ hsl51_ x1_51 x4_51 y51_ h kc H locs ls hw hl
            rw [f_X8_digest_51] at h
            refine lv_iload hx hb dX8_digest_51 (lv_at hl 3 rfl) ?_
            refine lv_iconst (v := 5) hx hb dX8_digest_53 (by decide) ?_
            refine mg_icmp_ge (tgt := 78) hx hb h dX8_digest_54 (by decide) (fun h => ?_) (fun h => ?_)
            · cases h
              refine W.widen (k := (cl42_ + 6)) (n := (sl42_ + 30)) (by omega) (by omega) ?_
              exact kc H locs ls hw (lv_sub hl [0, 1, 2, 3] rfl)
            · refine lv_lload_n hx hb dX8_digest_57 rfl (lv_at hl 1 rfl) ?_
              refine lv_ldc2 (v := 31) hx hb hown w3_ dX8_digest_58 ?_
              refine lv_lmul hx hb dX8_digest_61 ?_
              refine lv_aload_n hx hb dX8_digest_62 rfl (lv_at hl 0 rfl) ?_
              refine lv_iload_n hx hb dX8_digest_63 rfl (lv_at hl 2 rfl) ?_
              refine lv_iload hx hb dX8_digest_64 (lv_at hl 3 rfl) ?_
              obtain ⟨y6, h9_, h⟩ := mg_bind h
              refine mg_k (rv := (some (.int y6))) (va_runV (As := [.int x3_42, .int x4_51]) (rest := [.long (x1_51 * 31)]) G9 (k_X8_cellTold l D o cI cZ g H.size y1 x3_42 x4_51 y6 h9_) (cwV 2 hts gX8_digest_X8_cellTold rfl rfl rfl (by decide +kernel) ⟨Nat.le_of_ble_eq_true rfl, Nat.le_of_ble_eq_true rfl⟩) (mg_preV hK hO hA hw (q0 := 0) rfl rfl) rfl rfl hl.1 rfl (lv_room (Nat.le_of_ble_eq_true rfl)) dX8_digest_66 ⟨(show cl51_ + 1 ≤ 640 by omega), (show sl51_ + 5 ≤ 3300 by omega)⟩) hw hA (fun H locs hw => ?_)
              clear h9_
              refine lv_i2l hx hb dX8_digest_69 rfl ?_
              refine lv_ladd hx hb dX8_digest_70 ?_
              refine lv_lstore_n (lv' := [(1, .long ((x1_51 * 31) + (Int32.toInt64 y6))), (0, .ref (g 0)), (3, .int x3_42), (4, .int x4_51)]) hx hb dX8_digest_71 rfl hl (by decide) rfl (fun ls hl => ?_)
              refine lv_iinc (v := (x4_51 + 1)) (lv' := [(4, .int (x4_51 + 1)), (1, .long ((x1_51 * 31) + (Int32.toInt64 y6))), (0, .ref (g 0)), (3, .int x3_42)]) hx hb dX8_digest_72 hl (k := 3) rfl rfl (by decide) rfl (fun ls hl => ?_)
              refine lv_goto (tgt := 51) hx hb dX8_digest_75 (by decide) ?_
              exact ih _ _ (by omega) (by omega) _ _ _ h kc H locs ls hw (lv_sub hl [2, 1, 3, 0] rfl)
        obtain ⟨y5, h9_, h⟩ := mg_bind h
        refine L51_ _ cl42_ sl42_ (Nat.le_refl _) (Nat.le_refl _) _ _ _ h9_ (fun H locs ls hw hl => ?_) H locs ls hw (lv_sub hl [1, 2, 3, 0] rfl)
        clear L51_ h9_
        refine lv_iinc (v := (x3_42 + 1)) (lv' := [(3, .int (x3_42 + 1)), (0, .ref (g 0)), (1, .long y5.1), (4, .int y5.2)]) hx hb dX8_digest_78 hl (k := 2) rfl rfl (by decide) rfl (fun ls hl => ?_)
        refine lv_goto (tgt := 42) hx hb dX8_digest_81 (by decide) ?_
        exact ih _ _ (by omega) (by omega) _ _ _ h kc H locs ls hw (lv_sub hl [1, 2, 0] rfl)
  obtain ⟨y4, h9_, h⟩ := mg_bind h
  refine L42_ _ (0 + 12) (0 + 132) (Nat.le_refl _) (Nat.le_refl _) _ _ _ h9_ (fun H locs ls hw hl => ?_) H locs ls hw (lv_sub hl [1, 2, 0] rfl)
  clear L42_ h9_
  refine lv_iconst (v := 0) hx hb dX8_digest_84 (by decide) ?_
  refine lv_istore_n (lv' := [(3, .int 0), (0, .ref (g 0)), (1, .long y4.1)]) hx hb dX8_digest_85 rfl hl (by decide) rfl (fun ls hl => ?_)
  have L86_ : ∀ (n : Nat), ∀ (cl86_ sl86_ : Nat), cl86_ + n * 6 ≤ (((0 + 12) + 426) + 186) → sl86_ + n * 30 ≤ (((0 + 132) + 2130) + 930) → ∀ (x1_86 : Int64) (x3_86 : Int32) (y86_ : Int64 × Int32), f_X8_digest_86 y1 n x1_86 x3_86 = some y86_ → (∀ (H : Heap) (locs : List Loc) (ls : Array Slot), mg_Wo D A s.heap H locs (mg_mW g cI cZ y1) → lv_has ls 5 [(0, .ref (g 0)), (1, .long y86_.1), (3, .int y86_.2)] → W p l e (headSpec wsX8_digest ({ frames := 5, cells := 640, slots := 3300, locals := 120 } : Room)).room s m ([.ref (g 0)] : List Value).toArray below meth c H locs (((0 + 12) + 426) + 186) (((0 + 132) + 2130) + 930) (MQ below (mg_Q D (mg_mW g cI cZ y.2) A (some (.long y.1))) ([.ref (g 0)] : List Value).toArray s 640 3300 A) (F0 m 130 ls [])) → ∀ (H : Heap) (locs : List Loc) (ls : Array Slot), mg_Wo D A s.heap H locs (mg_mW g cI cZ y1) → lv_has ls 5 [(0, .ref (g 0)), (1, .long x1_86), (3, .int x3_86)] → W p l e (headSpec wsX8_digest ({ frames := 5, cells := 640, slots := 3300, locals := 120 } : Room)).room s m ([.ref (g 0)] : List Value).toArray below meth c H locs cl86_ sl86_ (MQ below (mg_Q D (mg_mW g cI cZ y.2) A (some (.long y.1))) ([.ref (g 0)] : List Value).toArray s 640 3300 A) (F0 m 86 ls []) := by
    intro n
    induction n with
    | zero => intro cl86_ sl86_ hcl86_ hsl86_ x1_86 x3_86 y86_ h; rw [f_X8_digest_86] at h; cases h
    | succ n ih =>
      intro cl86_ sl86_ hcl86_ hsl86_ x1_86 x3_86 y86_ h kc H locs ls hw hl
      rw [f_X8_digest_86] at h
      refine lv_iload_n hx hb dX8_digest_86 rfl (lv_at hl 2 rfl) ?_
      refine lv_aload_n hx hb dX8_digest_87 rfl (lv_at hl 0 rfl) ?_
      refine va_get (D := D) (ci := 8) (v := .int (y1 0 5)) (C := RX8) (T := TX8) (N := 15) hx hb hts iX8_ hown hK hw.1 0 rfl rfl 5 (by decide) w4_ (fun _ h9 => h9) rfl dX8_digest_88 ?_
      refine mg_icmp_ge (tgt := 130) hx hb h dX8_digest_91 (by decide) (fun h => ?_) (fun h => ?_)
      · cases h
        refine W.widen (k := (((0 + 12) + 426) + 186)) (n := (((0 + 132) + 2130) + 930)) (by omega) (by omega) ?_
        exact kc H locs ls hw (lv_sub hl [0, 1, 2] rfl)
      · refine lv_iconst (v := 0) hx hb dX8_digest_94 (by decide) ?_
        refine lv_istore (lv' := [(4, .int 0), (0, .ref (g 0)), (1, .long x1_86), (3, .int x3_86)]) hx hb dX8_digest_95 hl (by decide) rfl (fun ls hl => ?_)
        have L97_ : ∀ (n : Nat), ∀ (cl97_ sl97_ : Nat), cl97_ + n * 1 ≤ (cl86_ + 6) → sl97_ + n * 5 ≤ (sl86_ + 30) → ∀ (x1_97 : Int64) (x4_97 : Int32) (y97_ : Int64 × Int32), f_X8_digest_97 y1 x3_86 n x1_97 x4_97 = some y97_ → (∀ (H : Heap) (locs : List Loc) (ls : Array Slot), mg_Wo D A s.heap H locs (mg_mW g cI cZ y1) → lv_has ls 5 [(0, .ref (g 0)), (1, .long y97_.1), (3, .int x3_86), (4, .int y97_.2)] → W p l e (headSpec wsX8_digest ({ frames := 5, cells := 640, slots := 3300, locals := 120 } : Room)).room s m ([.ref (g 0)] : List Value).toArray below meth c H locs (cl86_ + 6) (sl86_ + 30) (MQ below (mg_Q D (mg_mW g cI cZ y.2) A (some (.long y.1))) ([.ref (g 0)] : List Value).toArray s 640 3300 A) (F0 m 124 ls [])) → ∀ (H : Heap) (locs : List Loc) (ls : Array Slot), mg_Wo D A s.heap H locs (mg_mW g cI cZ y1) → lv_has ls 5 [(0, .ref (g 0)), (1, .long x1_97), (3, .int x3_86), (4, .int x4_97)] → W p l e (headSpec wsX8_digest ({ frames := 5, cells := 640, slots := 3300, locals := 120 } : Room)).room s m ([.ref (g 0)] : List Value).toArray below meth c H locs cl97_ sl97_ (MQ below (mg_Q D (mg_mW g cI cZ y.2) A (some (.long y.1))) ([.ref (g 0)] : List Value).toArray s 640 3300 A) (F0 m 97 ls []) := by
          intro n
          induction n with
          | zero => intro cl97_ sl97_ hcl97_ hsl97_ x1_97 x4_97 y97_ h; rw [f_X8_digest_97] at h; cases h
          | succ n ih =>
            intro cl97_ sl97_ hcl97_ hsl97_ x1_97 x4_97 y97_ h kc H locs ls hw hl
            rw [f_X8_digest_97] at h
            refine lv_iload hx hb dX8_digest_97 (lv_at hl 3 rfl) ?_
            refine lv_iconst (v := 5) hx hb dX8_digest_99 (by decide) ?_
            refine mg_icmp_ge (tgt := 124) hx hb h dX8_digest_100 (by decide) (fun h => ?_) (fun h => ?_)
            · cases h
              refine W.widen (k := (cl86_ + 6)) (n := (sl86_ + 30)) (by omega) (by omega) ?_
              exact kc H locs ls hw (lv_sub hl [0, 1, 2, 3] rfl)
            · refine lv_lload_n hx hb dX8_digest_103 rfl (lv_at hl 1 rfl) ?_
              refine lv_ldc2 (v := 31) hx hb hown w3_ dX8_digest_104 ?_
              refine lv_lmul hx hb dX8_digest_107 ?_
              refine lv_aload_n hx hb dX8_digest_108 rfl (lv_at hl 0 rfl) ?_
              refine lv_iload_n hx hb dX8_digest_109 rfl (lv_at hl 2 rfl) ?_
              refine lv_iload hx hb dX8_digest_110 (lv_at hl 3 rfl) ?_
              obtain ⟨y9, h9_, h⟩ := mg_bind h
              refine mg_k (rv := (some (.int y9))) (va_runV (As := [.int x3_86, .int x4_97]) (rest := [.long (x1_97 * 31)]) G9 (k_X8_carpTold l D o cI cZ g H.size y1 x3_86 x4_97 y9 h9_) (cwV 2 hts gX8_digest_X8_carpTold rfl rfl rfl (by decide +kernel) ⟨Nat.le_of_ble_eq_true rfl, Nat.le_of_ble_eq_true rfl⟩) (mg_preV hK hO hA hw (q0 := 0) rfl rfl) rfl rfl hl.1 rfl (lv_room (Nat.le_of_ble_eq_true rfl)) dX8_digest_112 ⟨(show cl97_ + 1 ≤ 640 by omega), (show sl97_ + 5 ≤ 3300 by omega)⟩) hw hA (fun H locs hw => ?_)
              clear h9_
              refine lv_i2l hx hb dX8_digest_115 rfl ?_
              refine lv_ladd hx hb dX8_digest_116 ?_
              refine lv_lstore_n (lv' := [(1, .long ((x1_97 * 31) + (Int32.toInt64 y9))), (0, .ref (g 0)), (3, .int x3_86), (4, .int x4_97)]) hx hb dX8_digest_117 rfl hl (by decide) rfl (fun ls hl => ?_)
              refine lv_iinc (v := (x4_97 + 1)) (lv' := [(4, .int (x4_97 + 1)), (1, .long ((x1_97 * 31) + (Int32.toInt64 y9))), (0, .ref (g 0)), (3, .int x3_86)]) hx hb dX8_digest_118 hl (k := 3) rfl rfl (by decide) rfl (fun ls hl => ?_)
              refine lv_goto (tgt := 97) hx hb dX8_digest_121 (by decide) ?_
              exact ih _ _ (by omega) (by omega) _ _ _ h kc H locs ls hw (lv_sub hl [2, 1, 3, 0] rfl)
        obtain ⟨y8, h9_, h⟩ := mg_bind h
        refine L97_ _ cl86_ sl86_ (Nat.le_refl _) (Nat.le_refl _) _ _ _ h9_ (fun H locs ls hw hl => ?_) H locs ls hw (lv_sub hl [1, 2, 3, 0] rfl)
        clear L97_ h9_
        refine lv_iinc (v := (x3_86 + 1)) (lv' := [(3, .int (x3_86 + 1)), (0, .ref (g 0)), (1, .long y8.1), (4, .int y8.2)]) hx hb dX8_digest_124 hl (k := 2) rfl rfl (by decide) rfl (fun ls hl => ?_)
        refine lv_goto (tgt := 86) hx hb dX8_digest_127 (by decide) ?_
        exact ih _ _ (by omega) (by omega) _ _ _ h kc H locs ls hw (lv_sub hl [1, 2, 0] rfl)
  obtain ⟨y7, h9_, h⟩ := mg_bind h
  refine L86_ _ ((0 + 12) + 426) ((0 + 132) + 2130) (Nat.le_refl _) (Nat.le_refl _) _ _ _ h9_ (fun H locs ls hw hl => ?_) H locs ls hw (lv_sub hl [1, 2, 0] rfl)
  clear L86_ h9_
  refine lv_iconst (v := 0) hx hb dX8_digest_130 (by decide) ?_
  refine lv_istore_n (lv' := [(3, .int 0), (0, .ref (g 0)), (1, .long y7.1)]) hx hb dX8_digest_131 rfl hl (by decide) rfl (fun ls hl => ?_)
  have L132_ : ∀ (n : Nat) (x1_132 : Int64) (x3_132 : Int32) (y132_ : Int64 × Int32), f_X8_digest_132 y1 n x1_132 x3_132 = some y132_ → (∀ (H : Heap) (locs : List Loc) (ls : Array Slot), mg_Wo D A s.heap H locs (mg_mW g cI cZ y1) → lv_has ls 5 [(0, .ref (g 0)), (1, .long y132_.1), (3, .int y132_.2)] → W p l e (headSpec wsX8_digest ({ frames := 5, cells := 640, slots := 3300, locals := 120 } : Room)).room s m ([.ref (g 0)] : List Value).toArray below meth c H locs (((0 + 12) + 426) + 186) (((0 + 132) + 2130) + 930) (MQ below (mg_Q D (mg_mW g cI cZ y.2) A (some (.long y.1))) ([.ref (g 0)] : List Value).toArray s 640 3300 A) (F0 m 176 ls [])) → ∀ (H : Heap) (locs : List Loc) (ls : Array Slot), mg_Wo D A s.heap H locs (mg_mW g cI cZ y1) → lv_has ls 5 [(0, .ref (g 0)), (1, .long x1_132), (3, .int x3_132)] → W p l e (headSpec wsX8_digest ({ frames := 5, cells := 640, slots := 3300, locals := 120 } : Room)).room s m ([.ref (g 0)] : List Value).toArray below meth c H locs (((0 + 12) + 426) + 186) (((0 + 132) + 2130) + 930) (MQ below (mg_Q D (mg_mW g cI cZ y.2) A (some (.long y.1))) ([.ref (g 0)] : List Value).toArray s 640 3300 A) (F0 m 132 ls []) := by
    intro n
    induction n with
    | zero => intro x1_132 x3_132 y132_ h; rw [f_X8_digest_132] at h; cases h
    | succ n ih =>
      intro x1_132 x3_132 y132_ h kc H locs ls hw hl
      rw [f_X8_digest_132] at h
      refine lv_iload_n hx hb dX8_digest_132 rfl (lv_at hl 2 rfl) ?_
      refine lv_aload_n hx hb dX8_digest_133 rfl (lv_at hl 0 rfl) ?_
      refine va_get (D := D) (ci := 8) (v := .int (y1 0 8)) (C := RX8) (T := TX8) (N := 15) hx hb hts iX8_ hown hK hw.1 0 rfl rfl 8 (by decide) w5_ (fun _ h9 => h9) rfl dX8_digest_134 ?_
      refine mg_icmp_ge (tgt := 176) hx hb h dX8_digest_137 (by decide) (fun h => ?_) (fun h => ?_)
      · cases h
        exact kc H locs ls hw (lv_sub hl [0, 1, 2] rfl)
      · refine lv_iconst (v := 0) hx hb dX8_digest_140 (by decide) ?_
        refine lv_istore (lv' := [(4, .int 0), (0, .ref (g 0)), (1, .long x1_132), (3, .int x3_132)]) hx hb dX8_digest_141 hl (by decide) rfl (fun ls hl => ?_)
        have L143_ : ∀ (n : Nat) (x1_143 : Int64) (x4_143 : Int32) (y143_ : Int64 × Int32), f_X8_digest_143 y1 x3_132 n x1_143 x4_143 = some y143_ → (∀ (H : Heap) (locs : List Loc) (ls : Array Slot), mg_Wo D A s.heap H locs (mg_mW g cI cZ y1) → lv_has ls 5 [(0, .ref (g 0)), (1, .long y143_.1), (3, .int x3_132), (4, .int y143_.2)] → W p l e (headSpec wsX8_digest ({ frames := 5, cells := 640, slots := 3300, locals := 120 } : Room)).room s m ([.ref (g 0)] : List Value).toArray below meth c H locs (((0 + 12) + 426) + 186) (((0 + 132) + 2130) + 930) (MQ below (mg_Q D (mg_mW g cI cZ y.2) A (some (.long y.1))) ([.ref (g 0)] : List Value).toArray s 640 3300 A) (F0 m 170 ls [])) → ∀ (H : Heap) (locs : List Loc) (ls : Array Slot), mg_Wo D A s.heap H locs (mg_mW g cI cZ y1) → lv_has ls 5 [(0, .ref (g 0)), (1, .long x1_143), (3, .int x3_132), (4, .int x4_143)] → W p l e (headSpec wsX8_digest ({ frames := 5, cells := 640, slots := 3300, locals := 120 } : Room)).room s m ([.ref (g 0)] : List Value).toArray below meth c H locs (((0 + 12) + 426) + 186) (((0 + 132) + 2130) + 930) (MQ below (mg_Q D (mg_mW g cI cZ y.2) A (some (.long y.1))) ([.ref (g 0)] : List Value).toArray s 640 3300 A) (F0 m 143 ls []) := by
          intro n
          induction n with
          | zero => intro x1_143 x4_143 y143_ h; rw [f_X8_digest_143] at h; cases h
          | succ n ih =>
            intro x1_143 x4_143 y143_ h kc H locs ls hw hl
            rw [f_X8_digest_143] at h
            refine lv_iload hx hb dX8_digest_143 (lv_at hl 3 rfl) ?_
            refine lv_iconst (v := 5) hx hb dX8_digest_145 (by decide) ?_
            refine mg_icmp_ge (tgt := 170) hx hb h dX8_digest_146 (by decide) (fun h => ?_) (fun h => ?_)
            · cases h
              exact kc H locs ls hw (lv_sub hl [0, 1, 2, 3] rfl)
            · refine lv_lload_n hx hb dX8_digest_149 rfl (lv_at hl 1 rfl) ?_
              refine lv_ldc2 (v := 31) hx hb hown w3_ dX8_digest_150 ?_
              refine lv_lmul hx hb dX8_digest_153 ?_
              refine lv_aload_n hx hb dX8_digest_154 rfl (lv_at hl 0 rfl) ?_
              refine lv_iload_n hx hb dX8_digest_155 rfl (lv_at hl 2 rfl) ?_
              refine lv_iload hx hb dX8_digest_156 (lv_at hl 3 rfl) ?_
              obtain ⟨y12, h9_, h⟩ := mg_bind h
              refine mg_k (rv := (some (.int y12))) (va_runV (As := [.int x3_132, .int x4_143]) (rest := [.long (x1_143 * 31)]) G9 (k_X8_gateTold l D o cI cZ g H.size y1 x3_132 x4_143 y12 h9_) (cwV 2 hts gX8_digest_X8_gateTold rfl rfl rfl (by decide +kernel) ⟨Nat.le_of_ble_eq_true rfl, Nat.le_of_ble_eq_true rfl⟩) (mg_preV hK hO hA hw (q0 := 0) rfl rfl) rfl rfl hl.1 rfl (lv_room (Nat.le_of_ble_eq_true rfl)) dX8_digest_158 ⟨(show (((0 + 12) + 426) + 186) + 0 ≤ 640 by omega), (show (((0 + 132) + 2130) + 930) + 0 ≤ 3300 by omega)⟩) hw hA (fun H locs hw => ?_)
              clear h9_
              refine lv_i2l hx hb dX8_digest_161 rfl ?_
              refine lv_ladd hx hb dX8_digest_162 ?_
              refine lv_lstore_n (lv' := [(1, .long ((x1_143 * 31) + (Int32.toInt64 y12))), (0, .ref (g 0)), (3, .int x3_132), (4, .int x4_143)]) hx hb dX8_digest_163 rfl hl (by decide) rfl (fun ls hl => ?_)
              refine lv_iinc (v := (x4_143 + 1)) (lv' := [(4, .int (x4_143 + 1)), (1, .long ((x1_143 * 31) + (Int32.toInt64 y12))), (0, .ref (g 0)), (3, .int x3_132)]) hx hb dX8_digest_164 hl (k := 3) rfl rfl (by decide) rfl (fun ls hl => ?_)
              refine lv_goto (tgt := 143) hx hb dX8_digest_167 (by decide) ?_
              exact ih _ _ _ h kc H locs ls hw (lv_sub hl [2, 1, 3, 0] rfl)
        obtain ⟨y11, h9_, h⟩ := mg_bind h
        refine L143_ _ _ _ _ h9_ (fun H locs ls hw hl => ?_) H locs ls hw (lv_sub hl [1, 2, 3, 0] rfl)
        clear L143_ h9_
        refine lv_iinc (v := (x3_132 + 1)) (lv' := [(3, .int (x3_132 + 1)), (0, .ref (g 0)), (1, .long y11.1), (4, .int y11.2)]) hx hb dX8_digest_170 hl (k := 2) rfl rfl (by decide) rfl (fun ls hl => ?_)
        refine lv_goto (tgt := 132) hx hb dX8_digest_173 (by decide) ?_
        exact ih _ _ _ h kc H locs ls hw (lv_sub hl [1, 2, 0] rfl)
  obtain ⟨y10, h9_, h⟩ := mg_bind h
  refine L132_ _ _ _ _ h9_ (fun H locs ls hw hl => ?_) H locs ls hw (lv_sub hl [1, 2, 0] rfl)
  clear L132_ h9_
  refine lv_iconst (v := 0) hx hb dX8_digest_176 (by decide) ?_
  refine lv_istore_n (lv' := [(3, .int 0), (0, .ref (g 0)), (1, .long y10.1)]) hx hb dX8_digest_177 rfl hl (by decide) rfl (fun ls hl => ?_)
  have L178_ : ∀ (n : Nat) (x1_178 : Int64) (x3_178 : Int32) (y178_ : Int64 × Int32), f_X8_digest_178 y1 n x1_178 x3_178 = some y178_ → (∀ (H : Heap) (locs : List Loc) (ls : Array Slot), mg_Wo D A s.heap H locs (mg_mW g cI cZ y1) → lv_has ls 5 [(0, .ref (g 0)), (1, .long y178_.1), (3, .int y178_.2)] → W p l e (headSpec wsX8_digest ({ frames := 5, cells := 640, slots := 3300, locals := 120 } : Room)).room s m ([.ref (g 0)] : List Value).toArray below meth c H locs (((0 + 12) + 426) + 186) (((0 + 132) + 2130) + 930) (MQ below (mg_Q D (mg_mW g cI cZ y.2) A (some (.long y.1))) ([.ref (g 0)] : List Value).toArray s 640 3300 A) (F0 m 209 ls [])) → ∀ (H : Heap) (locs : List Loc) (ls : Array Slot), mg_Wo D A s.heap H locs (mg_mW g cI cZ y1) → lv_has ls 5 [(0, .ref (g 0)), (1, .long x1_178), (3, .int x3_178)] → W p l e (headSpec wsX8_digest ({ frames := 5, cells := 640, slots := 3300, locals := 120 } : Room)).room s m ([.ref (g 0)] : List Value).toArray below meth c H locs (((0 + 12) + 426) + 186) (((0 + 132) + 2130) + 930) (MQ below (mg_Q D (mg_mW g cI cZ y.2) A (some (.long y.1))) ([.ref (g 0)] : List Value).toArray s 640 3300 A) (F0 m 178 ls []) := by
    intro n
    induction n with
    | zero => intro x1_178 x3_178 y178_ h; rw [f_X8_digest_178] at h; cases h
    | succ n ih =>
      intro x1_178 x3_178 y178_ h kc H locs ls hw hl
      rw [f_X8_digest_178] at h
      refine lv_iload_n hx hb dX8_digest_178 rfl (lv_at hl 2 rfl) ?_
      refine lv_aload_n hx hb dX8_digest_179 rfl (lv_at hl 0 rfl) ?_
      refine va_get (D := D) (ci := 8) (v := .int (y1 0 11)) (C := RX8) (T := TX8) (N := 15) hx hb hts iX8_ hown hK hw.1 0 rfl rfl 11 (by decide) w6_ (fun _ h9 => h9) rfl dX8_digest_180 ?_
      refine mg_icmp_ge (tgt := 209) hx hb h dX8_digest_183 (by decide) (fun h => ?_) (fun h => ?_)
      · cases h
        exact kc H locs ls hw (lv_sub hl [0, 1, 2] rfl)
      · refine lv_lload_n hx hb dX8_digest_186 rfl (lv_at hl 1 rfl) ?_
        refine lv_ldc2 (v := 31) hx hb hown w3_ dX8_digest_187 ?_
        refine lv_lmul hx hb dX8_digest_190 ?_
        refine lv_aload_n hx hb dX8_digest_191 rfl (lv_at hl 0 rfl) ?_
        refine va_get (D := D) (ci := 8) (v := .ref (g 1)) (C := RX8) (T := TX8) (N := 15) hx hb hts iX8_ hown hK hw.1 0 rfl rfl 13 (by decide) w7_ (fun _ h9 => h9) rfl dX8_digest_192 ?_
        refine va_getN (D := D) (ci := 7) (v := .ref (g 13)) (C := RX7) (T := TX7) (N := 4) hx hb hts iX7_ hown hK hw.1 1 rfl rfl 3 (by decide) (va_Nw.use rfl (hO.2.2.2.2.2.2.2.2.2.2.2.2.2.2.1)) (fun _ h9 => h9) rfl dX8_digest_195 ?_
        refine lv_iload_n hx hb dX8_digest_198 rfl (lv_at hl 2 rfl) ?_
        refine mg_ald (σ := y1) (k := 13) (n := 5) hx hb hK hw 13 0 rfl rfl h dX8_digest_199 (fun v14 h => ?_)
        refine lv_i2l hx hb dX8_digest_200 rfl ?_
        refine lv_ladd hx hb dX8_digest_201 ?_
        refine lv_lstore_n (lv' := [(1, .long ((x1_178 * 31) + (Int32.toInt64 v14))), (0, .ref (g 0)), (3, .int x3_178)]) hx hb dX8_digest_202 rfl hl (by decide) rfl (fun ls hl => ?_)
        refine lv_iinc (v := (x3_178 + 1)) (lv' := [(3, .int (x3_178 + 1)), (1, .long ((x1_178 * 31) + (Int32.toInt64 v14))), (0, .ref (g 0))]) hx hb dX8_digest_203 hl (k := 2) rfl rfl (by decide) rfl (fun ls hl => ?_)
        refine lv_goto (tgt := 178) hx hb dX8_digest_206 (by decide) ?_
        exact ih _ _ _ h kc H locs ls hw (lv_sub hl [2, 1, 0] rfl)
  obtain ⟨y13, h9_, h⟩ := mg_bind h
  refine L178_ _ _ _ _ h9_ (fun H locs ls hw hl => ?_) H locs ls hw (lv_sub hl [1, 2, 0] rfl)
  clear L178_ h9_
  refine lv_lload_n hx hb dX8_digest_209 rfl (lv_at hl 1 rfl) ?_
  cases h
  exact mg_eL hx hb hr hlocks hw (by omega) (by omega) dX8_digest_210
