set_option maxHeartbeats 4000000 in
set_option maxRecDepth 100000 in
theorem k_X6_checkPlace (l : Launch) (hst : l.stackTraces = false) (D : va_G) (o : Nat → Nat) (cI cZ : ClassId) (g : Nat → Nat) (sz : Nat) (σ : mg_St) (x1 : Int32) (x2 : Int32) (out : Except (Fin 3) Unit) (σ9 : mg_St) (h : f_X6_checkPlace σ x1 x2 = some (out, σ9)) (mc ms : Nat) (hmc : ∀ k, out = .error k → 1 ≤ mc ∧ 6 ≤ ms) : mg_CX l yX6_checkPlace wsX6_checkPlace ({ frames := 6, cells := mc, slots := ms, locals := 90 } : Room) D [(cI, .int), (cZ, .boolean)] o (mg_cW g cI cZ σ) sz [.ref (g 0), .int x1, .int x2] (Except.map (fun _ : Unit => none) out) (mg_cW g cI cZ σ9) mc ms := by
  unfold mg_CX
  refine vx_ofW (cc := cX6_checkPlace) (maxL := 3) (ret := none) (by decide) rfl ?_
  intro p e s m args below meth c s₁ B hml ht hv
  obtain ⟨rfl, hsz, hP, hK, hD0, hO⟩ := hv
  have hx := B.exec
  have hb := B.bytes
  have hr := B.returns
  have hts := atoms_spec (ws := wsX6_checkPlace) B.pre
  have hown : s.vm.findClass RX6 = some m.cls := findClass_of_methodNamed B.named
  have hlocks := B.notSynchronized
  subst hsz
  have hD := hD0.self (sz := s.heap.size)
  generalize hAe : va_A (mg_cW g cI cZ σ) s.heap.size = A at hD hO ⊢
  have hA : ∀ q : Nat, s.heap.size ≤ q → A q := fun q h => by rw [← hAe]; exact Or.inr h
  have hw : mg_Wo D A s.heap s.heap [] (mg_cW g cI cZ σ) := ⟨hP, hD, va_S.rf⟩
  have G9 : CallFix p m c cX6_checkPlace 3 s ([.ref (g 0), .int x1, .int x2] : List Value).toArray wsX6_checkPlace RX6 := ⟨hx, hb, hml, hown, hts⟩
  clear hP hD hD0 hAe
  obtain ⟨H, hHe⟩ : ∃ H : Heap, H = s.heap := ⟨_, rfl⟩
  have w0_ := hts (.classLink RX6 249 "java/lang/IndexOutOfBoundsException") (by decide +kernel)
  have w1_ := hts (.initialized "java/lang/IndexOutOfBoundsException") (by decide +kernel)
  have hl := lv_entry ([.ref (g 0), .int x1, .int x2]) (n := 3) (Nat.le_of_ble_eq_true rfl)
  rw [lg_entry_eq]
  generalize (lg_sl ([.ref (g 0), .int x1, .int x2]) ++ List.replicate (3 - (lg_sl ([.ref (g 0), .int x1, .int x2])).length) Slot.unset).toArray = ls at hl ⊢
  have hl : lv_has ls 3 [(0, .ref (g 0)), (1, .int x1), (2, .int x2)] := hl
  unfold f_X6_checkPlace at h
  revert hw
  intro hw
  suffices K_ : ∀ (H : Heap) (locs : List Loc), mg_Wo D A s.heap H locs (mg_cW g cI cZ σ) → W p l e (headSpec wsX6_checkPlace ({ frames := 6, cells := mc, slots := ms, locals := 90 } : Room)).room s m ([.ref (g 0), .int x1, .int x2] : List Value).toArray below meth c H locs 0 0 (vx_MQ below (mg_QX D (mg_cW g cI cZ σ9) A (Except.map (fun _ : Unit => none) out)) (mg_XC D (mg_cW g cI cZ σ9) A (Except.map (fun _ : Unit => none) out)) ([.ref (g 0), .int x1, .int x2] : List Value).toArray s mc ms A) (F0 m 0 ls []) from K_ _ _ hw
  clear hw hHe H
  intro H locs hw
  refine lv_iload_n hx hb dX6_checkPlace_0 rfl (lv_at hl 1 rfl) ?_
  refine lv_iload_n hx hb dX6_checkPlace_1 rfl (lv_at hl 2 rfl) ?_
  obtain ⟨y1, h9_, h⟩ := mg_bind h
  refine mg_k (rv := (some (.int y1))) (va_runS (As := [.int x1, .int x2]) (rest := []) G9 (k_X1_isInside l D o cI cZ g H.size σ x1 x2 y1 h9_) (va_cwS 2 hts gX6_checkPlace_X1_isInside rfl rfl rfl (by decide +kernel) ⟨Nat.le_of_ble_eq_true rfl, Nat.le_of_ble_eq_true rfl⟩) (mg_pre hK hO hA hw) rfl rfl hl.1 rfl (lv_room (Nat.le_of_ble_eq_true rfl)) dX6_checkPlace_2 ⟨Nat.zero_le _, Nat.zero_le _⟩) hw hA (fun H locs hw => ?_)
  clear h9_
  refine mg_if_ne (tgt := 19) hx hb h dX6_checkPlace_5 (by decide) (fun h => ?_) (fun h => ?_)
  · cases h
    exact mg_xV hx hb hr hlocks hw rfl (Nat.zero_le _) (Nat.zero_le _) dX6_checkPlace_19
  · cases h
    exact mg_throwW (k := 0) (own := RX6) (text := "no such cell") (ik := 249) (is := 340) (ic := 253) hx hb hst hown (by decide +kernel) w0_ w1_ (hO.2.2.2.2.2.2.2.2.2.2.2.2.2.2.2.2.2.2.2.2.2.2.2.2.2.2.2.2.2.2.1) (vx_hat (B := [.declares (Bundle.initS "java/lang/RuntimeException"), .declares (Bundle.initS "java/lang/Exception"), .declares (Bundle.initS Bundle.tN), .castable "java/lang/IndexOutOfBoundsException" "java/lang/IndexOutOfBoundsException"]) (fun w h => hts w (List.mem_cons_of_mem _ (List.mem_append_right _ h))) (by decide +kernel) (vx_c (va_Nw.use rfl (hO.2.2.2.2.2.2.2.2.1)) (vx_c (va_Nw.use rfl (hO.2.2.2.2.2.2.2.2.2.1)) (vx_c (va_Nw.use rfl (hO.2.2.2.2.2.2.2.2.2.2.1)) (vx_c (va_Nw.use rfl (hO.2.2.2.2.2.2.2.2.2.2.2.1)) vx_n))))) (by decide +kernel) (hO.2.2.2.2.1) (hO.2.2.2.2.2.1) hw (hl.1.trans hml.symm) dX6_checkPlace_8 dX6_checkPlace_11 dX6_checkPlace_12 dX6_checkPlace_15 dX6_checkPlace_18 ht (Nat.le_of_ble_eq_true rfl) (Nat.le_of_ble_eq_true rfl) (hmc _ rfl).1 (hmc _ rfl).2 hlocks rfl (hmc _ rfl).1 (hmc _ rfl).2
set_option maxHeartbeats 4000000 in
set_option maxRecDepth 100000 in
theorem k_X6_checkRock (l : Launch) (hst : l.stackTraces = false) (D : va_G) (o : Nat → Nat) (cI cZ : ClassId) (g : Nat → Nat) (sz : Nat) (σ : mg_St) (x1 : Int32) (x2 : Int32) (out : Except (Fin 3) Unit) (σ9 : mg_St) (h : f_X6_checkRock σ x1 x2 = some (out, σ9)) (mc ms : Nat) (hmc : ∀ k, out = .error k → 1 ≤ mc ∧ 6 ≤ ms) : mg_CX l yX6_checkRock wsX6_checkRock ({ frames := 6, cells := mc, slots := ms, locals := 90 } : Room) D [(cI, .int), (cZ, .boolean)] o (mg_cW g cI cZ σ) sz [.ref (g 0), .int x1, .int x2] (Except.map (fun _ : Unit => none) out) (mg_cW g cI cZ σ9) mc ms := by
  unfold mg_CX
  refine vx_ofW (cc := cX6_checkRock) (maxL := 3) (ret := none) (by decide) rfl ?_
  intro p e s m args below meth c s₁ B hml ht hv
  obtain ⟨rfl, hsz, hP, hK, hD0, hO⟩ := hv
  have hx := B.exec
  have hb := B.bytes
  have hr := B.returns
  have hts := atoms_spec (ws := wsX6_checkRock) B.pre
  have hown : s.vm.findClass RX6 = some m.cls := findClass_of_methodNamed B.named
  have hlocks := B.notSynchronized
  subst hsz
  have hD := hD0.self (sz := s.heap.size)
  generalize hAe : va_A (mg_cW g cI cZ σ) s.heap.size = A at hD hO ⊢
  have hA : ∀ q : Nat, s.heap.size ≤ q → A q := fun q h => by rw [← hAe]; exact Or.inr h
  have hw : mg_Wo D A s.heap s.heap [] (mg_cW g cI cZ σ) := ⟨hP, hD, va_S.rf⟩
  have G9 : CallFix p m c cX6_checkRock 3 s ([.ref (g 0), .int x1, .int x2] : List Value).toArray wsX6_checkRock RX6 := ⟨hx, hb, hml, hown, hts⟩
  clear hP hD hD0 hAe
  obtain ⟨H, hHe⟩ : ∃ H : Heap, H = s.heap := ⟨_, rfl⟩
  have w0_ := hts (.classLink RX6 166 "java/lang/IllegalArgumentException") (by decide +kernel)
  have w1_ := hts (.initialized "java/lang/IllegalArgumentException") (by decide +kernel)
  have hl := lv_entry ([.ref (g 0), .int x1, .int x2]) (n := 3) (Nat.le_of_ble_eq_true rfl)
  rw [lg_entry_eq]
  generalize (lg_sl ([.ref (g 0), .int x1, .int x2]) ++ List.replicate (3 - (lg_sl ([.ref (g 0), .int x1, .int x2])).length) Slot.unset).toArray = ls at hl ⊢
  have hl : lv_has ls 3 [(0, .ref (g 0)), (1, .int x1), (2, .int x2)] := hl
  unfold f_X6_checkRock at h
  revert hw
  intro hw
  suffices K_ : ∀ (H : Heap) (locs : List Loc), mg_Wo D A s.heap H locs (mg_cW g cI cZ σ) → W p l e (headSpec wsX6_checkRock ({ frames := 6, cells := mc, slots := ms, locals := 90 } : Room)).room s m ([.ref (g 0), .int x1, .int x2] : List Value).toArray below meth c H locs 0 0 (vx_MQ below (mg_QX D (mg_cW g cI cZ σ9) A (Except.map (fun _ : Unit => none) out)) (mg_XC D (mg_cW g cI cZ σ9) A (Except.map (fun _ : Unit => none) out)) ([.ref (g 0), .int x1, .int x2] : List Value).toArray s mc ms A) (F0 m 0 ls []) from K_ _ _ hw
  clear hw hHe H
  intro H locs hw
  refine lv_iload_n hx hb dX6_checkRock_0 rfl (lv_at hl 1 rfl) ?_
  refine mg_if_lt (tgt := 9) hx hb h dX6_checkRock_1 (by decide) (fun h => ?_) (fun h => ?_)
  · cases h
    exact mg_throwW (k := 1) (own := RX6) (text := "no such shape") (ik := 166) (is := 342) (ic := 170) hx hb hst hown (by decide +kernel) w0_ w1_ (hO.2.2.2.2.2.2.2.2.2.2.2.2.2.2.2.2.2.2.2.2.2.2.2.2.2.2.2.2.2.2.2.1) (vx_hat (B := [.declares (Bundle.initS "java/lang/RuntimeException"), .declares (Bundle.initS "java/lang/Exception"), .declares (Bundle.initS Bundle.tN), .castable "java/lang/IllegalArgumentException" "java/lang/IllegalArgumentException"]) (fun w h => hts w (List.mem_cons_of_mem _ (List.mem_append_right _ h))) (by decide +kernel) (vx_c (va_Nw.use rfl (hO.2.2.2.2.2.2.2.2.1)) (vx_c (va_Nw.use rfl (hO.2.2.2.2.2.2.2.2.2.1)) (vx_c (va_Nw.use rfl (hO.2.2.2.2.2.2.2.2.2.2.1)) (vx_c (va_Nw.use rfl (hO.2.2.2.2.2.2.2.2.2.2.2.2.1)) vx_n))))) (by decide +kernel) (hO.2.2.2.2.1) (hO.2.2.2.2.2.1) hw (hl.1.trans hml.symm) dX6_checkRock_9 dX6_checkRock_12 dX6_checkRock_13 dX6_checkRock_16 dX6_checkRock_19 ht (Nat.le_of_ble_eq_true rfl) (Nat.le_of_ble_eq_true rfl) (hmc _ rfl).1 (hmc _ rfl).2 hlocks rfl (hmc _ rfl).1 (hmc _ rfl).2
  · refine lv_iload_n hx hb dX6_checkRock_4 rfl (lv_at hl 1 rfl) ?_
    refine lv_iconst (v := 5) hx hb dX6_checkRock_5 (by decide) ?_
    refine mg_icmp_le (tgt := 20) hx hb h dX6_checkRock_6 (by decide) (fun h => ?_) (fun h => ?_)
    · refine lv_iload_n hx hb dX6_checkRock_20 rfl (lv_at hl 2 rfl) ?_
      refine lv_iconst (v := 1) hx hb dX6_checkRock_21 (by decide) ?_
      refine mg_icmp_lt (tgt := 31) hx hb h dX6_checkRock_22 (by decide) (fun h => ?_) (fun h => ?_)
      · cases h
        exact mg_throwW (k := 1) (own := RX6) (text := "no such size") (ik := 166) (is := 344) (ic := 170) hx hb hst hown (by decide +kernel) w0_ w1_ (hO.2.2.2.2.2.2.2.2.2.2.2.2.2.2.2.2.2.2.2.2.2.2.2.2.2.2.2.2.2.2.2.2.1) (vx_hat (B := [.declares (Bundle.initS "java/lang/RuntimeException"), .declares (Bundle.initS "java/lang/Exception"), .declares (Bundle.initS Bundle.tN), .castable "java/lang/IllegalArgumentException" "java/lang/IllegalArgumentException"]) (fun w h => hts w (List.mem_cons_of_mem _ (List.mem_append_right _ h))) (by decide +kernel) (vx_c (va_Nw.use rfl (hO.2.2.2.2.2.2.2.2.1)) (vx_c (va_Nw.use rfl (hO.2.2.2.2.2.2.2.2.2.1)) (vx_c (va_Nw.use rfl (hO.2.2.2.2.2.2.2.2.2.2.1)) (vx_c (va_Nw.use rfl (hO.2.2.2.2.2.2.2.2.2.2.2.2.1)) vx_n))))) (by decide +kernel) (hO.2.2.2.2.1) (hO.2.2.2.2.2.1) hw (hl.1.trans hml.symm) dX6_checkRock_31 dX6_checkRock_34 dX6_checkRock_35 dX6_checkRock_38 dX6_checkRock_41 ht (Nat.le_of_ble_eq_true rfl) (Nat.le_of_ble_eq_true rfl) (hmc _ rfl).1 (hmc _ rfl).2 hlocks rfl (hmc _ rfl).1 (hmc _ rfl).2
      · refine lv_iload_n hx hb dX6_checkRock_25 rfl (lv_at hl 2 rfl) ?_
        refine lv_bipush (v := 9) hx hb dX6_checkRock_26 (by decide) ?_
        refine mg_icmp_le (tgt := 42) hx hb h dX6_checkRock_28 (by decide) (fun h => ?_) (fun h => ?_)
        · cases h
          exact mg_xV hx hb hr hlocks hw rfl (Nat.zero_le _) (Nat.zero_le _) dX6_checkRock_42
        · cases h
          exact mg_throwW (k := 1) (own := RX6) (text := "no such size") (ik := 166) (is := 344) (ic := 170) hx hb hst hown (by decide +kernel) w0_ w1_ (hO.2.2.2.2.2.2.2.2.2.2.2.2.2.2.2.2.2.2.2.2.2.2.2.2.2.2.2.2.2.2.2.2.1) (vx_hat (B := [.declares (Bundle.initS "java/lang/RuntimeException"), .declares (Bundle.initS "java/lang/Exception"), .declares (Bundle.initS Bundle.tN), .castable "java/lang/IllegalArgumentException" "java/lang/IllegalArgumentException"]) (fun w h => hts w (List.mem_cons_of_mem _ (List.mem_append_right _ h))) (by decide +kernel) (vx_c (va_Nw.use rfl (hO.2.2.2.2.2.2.2.2.1)) (vx_c (va_Nw.use rfl (hO.2.2.2.2.2.2.2.2.2.1)) (vx_c (va_Nw.use rfl (hO.2.2.2.2.2.2.2.2.2.2.1)) (vx_c (va_Nw.use rfl (hO.2.2.2.2.2.2.2.2.2.2.2.2.1)) vx_n))))) (by decide +kernel) (hO.2.2.2.2.1) (hO.2.2.2.2.2.1) hw (hl.1.trans hml.symm) dX6_checkRock_31 dX6_checkRock_34 dX6_checkRock_35 dX6_checkRock_38 dX6_checkRock_41 ht (Nat.le_of_ble_eq_true rfl) (Nat.le_of_ble_eq_true rfl) (hmc _ rfl).1 (hmc _ rfl).2 hlocks rfl (hmc _ rfl).1 (hmc _ rfl).2
    · cases h
      exact mg_throwW (k := 1) (own := RX6) (text := "no such shape") (ik := 166) (is := 342) (ic := 170) hx hb hst hown (by decide +kernel) w0_ w1_ (hO.2.2.2.2.2.2.2.2.2.2.2.2.2.2.2.2.2.2.2.2.2.2.2.2.2.2.2.2.2.2.2.1) (vx_hat (B := [.declares (Bundle.initS "java/lang/RuntimeException"), .declares (Bundle.initS "java/lang/Exception"), .declares (Bundle.initS Bundle.tN), .castable "java/lang/IllegalArgumentException" "java/lang/IllegalArgumentException"]) (fun w h => hts w (List.mem_cons_of_mem _ (List.mem_append_right _ h))) (by decide +kernel) (vx_c (va_Nw.use rfl (hO.2.2.2.2.2.2.2.2.1)) (vx_c (va_Nw.use rfl (hO.2.2.2.2.2.2.2.2.2.1)) (vx_c (va_Nw.use rfl (hO.2.2.2.2.2.2.2.2.2.2.1)) (vx_c (va_Nw.use rfl (hO.2.2.2.2.2.2.2.2.2.2.2.2.1)) vx_n))))) (by decide +kernel) (hO.2.2.2.2.1) (hO.2.2.2.2.2.1) hw (hl.1.trans hml.symm) dX6_checkRock_9 dX6_checkRock_12 dX6_checkRock_13 dX6_checkRock_16 dX6_checkRock_19 ht (Nat.le_of_ble_eq_true rfl) (Nat.le_of_ble_eq_true rfl) (hmc _ rfl).1 (hmc _ rfl).2 hlocks rfl (hmc _ rfl).1 (hmc _ rfl).2
set_option maxHeartbeats 4000000 in
set_option maxRecDepth 100000 in
theorem k_X6_checkBare (l : Launch) (hst : l.stackTraces = false) (D : va_G) (o : Nat → Nat) (cI cZ : ClassId) (g : Nat → Nat) (sz : Nat) (σ : mg_St) (x1 : Int32) (out : Except (Fin 3) Unit) (σ9 : mg_St) (h : f_X6_checkBare σ x1 = some (out, σ9)) (mc ms : Nat) (hmc : ∀ k, out = .error k → 1 ≤ mc ∧ 6 ≤ ms) : mg_CX l yX6_checkBare wsX6_checkBare ({ frames := 6, cells := mc, slots := ms, locals := 90 } : Room) D [(cI, .int), (cZ, .boolean)] o (mg_cW g cI cZ σ) sz [.ref (g 0), .int x1] (Except.map (fun _ : Unit => none) out) (mg_cW g cI cZ σ9) mc ms := by
  unfold mg_CX
  refine vx_ofW (cc := cX6_checkBare) (maxL := 2) (ret := none) (by decide) rfl ?_
  intro p e s m args below meth c s₁ B hml ht hv
  obtain ⟨rfl, hsz, hP, hK, hD0, hO⟩ := hv
  have hx := B.exec
  have hb := B.bytes
  have hr := B.returns
  have hts := atoms_spec (ws := wsX6_checkBare) B.pre
  have hown : s.vm.findClass RX6 = some m.cls := findClass_of_methodNamed B.named
  have hlocks := B.notSynchronized
  subst hsz
  have hD := hD0.self (sz := s.heap.size)
  generalize hAe : va_A (mg_cW g cI cZ σ) s.heap.size = A at hD hO ⊢
  have hA : ∀ q : Nat, s.heap.size ≤ q → A q := fun q h => by rw [← hAe]; exact Or.inr h
  have hw : mg_Wo D A s.heap s.heap [] (mg_cW g cI cZ σ) := ⟨hP, hD, va_S.rf⟩
  have G9 : CallFix p m c cX6_checkBare 2 s ([.ref (g 0), .int x1] : List Value).toArray wsX6_checkBare RX6 := ⟨hx, hb, hml, hown, hts⟩
  clear hP hD hD0 hAe
  obtain ⟨H, hHe⟩ : ∃ H : Heap, H = s.heap := ⟨_, rfl⟩
  have w0_ := hts (.fieldLink RX6 10 "MoonGate" "garden" "LMoonGate$Garden;") (by decide +kernel)
  have iX6_ : ∀ w ∈ wsX60, w ∈ wsX6_checkBare := (fun _ h => List.mem_cons_of_mem _ (List.mem_append_left _ (List.mem_append_left _ (List.mem_append_right _ h))))
  have w2_ := hts (.classLink RX6 94 "java/lang/IllegalStateException") (by decide +kernel)
  have w3_ := hts (.initialized "java/lang/IllegalStateException") (by decide +kernel)
  have hl := lv_entry ([.ref (g 0), .int x1]) (n := 2) (Nat.le_of_ble_eq_true rfl)
  rw [lg_entry_eq]
  generalize (lg_sl ([.ref (g 0), .int x1]) ++ List.replicate (2 - (lg_sl ([.ref (g 0), .int x1])).length) Slot.unset).toArray = ls at hl ⊢
  have hl : lv_has ls 2 [(0, .ref (g 0)), (1, .int x1)] := hl
  unfold f_X6_checkBare at h
  revert hw
  intro hw
  suffices K_ : ∀ (H : Heap) (locs : List Loc), mg_Wo D A s.heap H locs (mg_cW g cI cZ σ) → W p l e (headSpec wsX6_checkBare ({ frames := 6, cells := mc, slots := ms, locals := 90 } : Room)).room s m ([.ref (g 0), .int x1] : List Value).toArray below meth c H locs 0 0 (vx_MQ below (mg_QX D (mg_cW g cI cZ σ9) A (Except.map (fun _ : Unit => none) out)) (mg_XC D (mg_cW g cI cZ σ9) A (Except.map (fun _ : Unit => none) out)) ([.ref (g 0), .int x1] : List Value).toArray s mc ms A) (F0 m 0 ls []) from K_ _ _ hw
  clear hw hHe H
  intro H locs hw
  refine lv_aload_n hx hb dX6_checkBare_0 rfl (lv_at hl 0 rfl) ?_
  refine va_get (D := D) (ci := 6) (v := .ref (g 1)) (C := RX6) (T := TX6) (N := 7) hx hb hts iX6_ hown hK hw.1 0 rfl rfl 0 (by decide) w0_ (fun _ h9 => h9) rfl dX6_checkBare_1 ?_
  refine lv_iload_n hx hb dX6_checkBare_4 rfl (lv_at hl 1 rfl) ?_
  obtain ⟨y1, h9_, h⟩ := mg_bind h
  refine mg_k (rv := (some (.int y1))) (va_runV (As := [.int x1]) (rest := []) G9 (k_X1_isBare l D o cI cZ g H.size σ x1 y1 h9_) (cwV 1 hts gX6_checkBare_X1_isBare rfl rfl rfl (by decide +kernel) ⟨Nat.le_of_ble_eq_true rfl, Nat.le_of_ble_eq_true rfl⟩) (mg_preV hK hO hA hw (q0 := 1) rfl rfl) rfl rfl hl.1 rfl (lv_room (Nat.le_of_ble_eq_true rfl)) dX6_checkBare_5 ⟨Nat.zero_le _, Nat.zero_le _⟩) hw hA (fun H locs hw => ?_)
  clear h9_
  refine mg_if_ne (tgt := 22) hx hb h dX6_checkBare_8 (by decide) (fun h => ?_) (fun h => ?_)
  · cases h
    exact mg_xV hx hb hr hlocks hw rfl (Nat.zero_le _) (Nat.zero_le _) dX6_checkBare_22
  · cases h
    exact mg_throwW (k := 2) (own := RX6) (text := "the cell is not bare") (ik := 94) (is := 346) (ic := 98) hx hb hst hown (by decide +kernel) w2_ w3_ (hO.2.2.2.2.2.2.2.2.2.2.2.2.2.2.2.2.2.2.2.2.2.2.2.2.2.2.2.2.2.2.2.2.2.1) (vx_hat (B := [.declares (Bundle.initS "java/lang/RuntimeException"), .declares (Bundle.initS "java/lang/Exception"), .declares (Bundle.initS Bundle.tN), .castable "java/lang/IllegalStateException" "java/lang/IllegalStateException"]) (fun w h => hts w (List.mem_cons_of_mem _ (List.mem_append_right _ h))) (by decide +kernel) (vx_c (va_Nw.use rfl (hO.2.2.2.2.2.2.2.2.1)) (vx_c (va_Nw.use rfl (hO.2.2.2.2.2.2.2.2.2.1)) (vx_c (va_Nw.use rfl (hO.2.2.2.2.2.2.2.2.2.2.1)) (vx_c (va_Nw.use rfl (hO.2.2.2.2.2.2.2.2.2.2.2.2.2.1)) vx_n))))) (by decide +kernel) (hO.2.2.2.2.1) (hO.2.2.2.2.2.1) hw (hl.1.trans hml.symm) dX6_checkBare_11 dX6_checkBare_14 dX6_checkBare_15 dX6_checkBare_18 dX6_checkBare_21 ht (Nat.le_of_ble_eq_true rfl) (Nat.le_of_ble_eq_true rfl) (hmc _ rfl).1 (hmc _ rfl).2 hlocks rfl (hmc _ rfl).1 (hmc _ rfl).2
set_option maxHeartbeats 4000000 in
set_option maxRecDepth 100000 in
theorem k_X6_spend (l : Launch) (hst : l.stackTraces = false) (D : va_G) (o : Nat → Nat) (cI cZ : ClassId) (g : Nat → Nat) (sz : Nat) (σ : mg_St) (x1 : Int32) (out : Except (Fin 3) Unit) (σ9 : mg_St) (h : f_X6_spend σ x1 = some (out, σ9)) (mc ms : Nat) (hmc : ∀ k, out = .error k → 1 ≤ mc ∧ 6 ≤ ms) : mg_CX l yX6_spend wsX6_spend ({ frames := 6, cells := mc, slots := ms, locals := 90 } : Room) D [(cI, .int), (cZ, .boolean)] o (mg_cW g cI cZ σ) sz [.ref (g 0), .int x1] (Except.map (fun _ : Unit => none) out) (mg_cW g cI cZ σ9) mc ms := by
  unfold mg_CX
  refine vx_ofW (cc := cX6_spend) (maxL := 2) (ret := none) (by decide) rfl ?_
  intro p e s m args below meth c s₁ B hml ht hv
  obtain ⟨rfl, hsz, hP, hK, hD0, hO⟩ := hv
  have hx := B.exec
  have hb := B.bytes
  have hr := B.returns
  have hts := atoms_spec (ws := wsX6_spend) B.pre
  have hown : s.vm.findClass RX6 = some m.cls := findClass_of_methodNamed B.named
  have hlocks := B.notSynchronized
  subst hsz
  have hD := hD0.self (sz := s.heap.size)
  generalize hAe : va_A (mg_cW g cI cZ σ) s.heap.size = A at hD hO ⊢
  have hA : ∀ q : Nat, s.heap.size ≤ q → A q := fun q h => by rw [← hAe]; exact Or.inr h
  have hw : mg_Wo D A s.heap s.heap [] (mg_cW g cI cZ σ) := ⟨hP, hD, va_S.rf⟩
  have G9 : CallFix p m c cX6_spend 2 s ([.ref (g 0), .int x1] : List Value).toArray wsX6_spend RX6 := ⟨hx, hb, hml, hown, hts⟩
  clear hP hD hD0 hAe
  obtain ⟨H, hHe⟩ : ∃ H : Heap, H = s.heap := ⟨_, rfl⟩
  have w0_ := hts (.fieldLink RX6 40 "MoonGate" "now" "LMoonGate$Course;") (by decide +kernel)
  have iX6_ : ∀ w ∈ wsX60, w ∈ wsX6_spend := (fun _ h => List.mem_cons_of_mem _ (List.mem_append_left _ (List.mem_append_left _ (List.mem_append_right _ h))))
  have w2_ := hts (.fieldLink RX6 76 "MoonGate$Course" "coins" "I") (by decide +kernel)
  have iX0_ : ∀ w ∈ wsX00, w ∈ wsX6_spend := (fun _ h => List.mem_cons_of_mem _ (List.mem_append_left _ (List.mem_append_right _ h)))
  have w4_ := hts (.classLink RX6 94 "java/lang/IllegalStateException") (by decide +kernel)
  have w5_ := hts (.initialized "java/lang/IllegalStateException") (by decide +kernel)
  have hl := lv_entry ([.ref (g 0), .int x1]) (n := 2) (Nat.le_of_ble_eq_true rfl)
  rw [lg_entry_eq]
  generalize (lg_sl ([.ref (g 0), .int x1]) ++ List.replicate (2 - (lg_sl ([.ref (g 0), .int x1])).length) Slot.unset).toArray = ls at hl ⊢
  have hl : lv_has ls 2 [(0, .ref (g 0)), (1, .int x1)] := hl
  unfold f_X6_spend at h
  revert hw
  intro hw
  suffices K_ : ∀ (H : Heap) (locs : List Loc), mg_Wo D A s.heap H locs (mg_cW g cI cZ σ) → W p l e (headSpec wsX6_spend ({ frames := 6, cells := mc, slots := ms, locals := 90 } : Room)).room s m ([.ref (g 0), .int x1] : List Value).toArray below meth c H locs 0 0 (vx_MQ below (mg_QX D (mg_cW g cI cZ σ9) A (Except.map (fun _ : Unit => none) out)) (mg_XC D (mg_cW g cI cZ σ9) A (Except.map (fun _ : Unit => none) out)) ([.ref (g 0), .int x1] : List Value).toArray s mc ms A) (F0 m 0 ls []) from K_ _ _ hw
  clear hw hHe H
  intro H locs hw
  refine lv_aload_n hx hb dX6_spend_0 rfl (lv_at hl 0 rfl) ?_
  refine va_get (D := D) (ci := 6) (v := .ref (g 5)) (C := RX6) (T := TX6) (N := 7) hx hb hts iX6_ hown hK hw.1 0 rfl rfl 4 (by decide) w0_ (fun _ h9 => h9) rfl dX6_spend_1 ?_
  refine va_get (D := D) (ci := 0) (v := .int (σ 5 1)) (C := RX0) (T := TX0) (N := 4) hx hb hts iX0_ hown hK hw.1 5 rfl rfl 1 (by decide) w2_ (fun _ h9 => h9) rfl dX6_spend_4 ?_
  refine lv_iload_n hx hb dX6_spend_7 rfl (lv_at hl 1 rfl) ?_
  refine mg_icmp_ge (tgt := 22) hx hb h dX6_spend_8 (by decide) (fun h => ?_) (fun h => ?_)
  · refine lv_aload_n hx hb dX6_spend_22 rfl (lv_at hl 0 rfl) ?_
    refine va_get (D := D) (ci := 6) (v := .ref (g 5)) (C := RX6) (T := TX6) (N := 7) hx hb hts iX6_ hown hK hw.1 0 rfl rfl 4 (by decide) w0_ (fun _ h9 => h9) rfl dX6_spend_23 ?_
    refine lv_dup hx hb dX6_spend_26 rfl ?_
    refine va_get (D := D) (ci := 0) (v := .int (σ 5 1)) (C := RX0) (T := TX0) (N := 4) hx hb hts iX0_ hown hK hw.1 5 rfl rfl 1 (by decide) w2_ (fun _ h9 => h9) rfl dX6_spend_27 ?_
    refine lv_iload_n hx hb dX6_spend_30 rfl (lv_at hl 1 rfl) ?_
    refine lv_isub hx hb dX6_spend_31 ?_
    refine mg_put (wd := mg_cW g cI cZ) (σ := σ) (v := ((σ 5 1) - x1)) (ci := 0) (C := RX0) (T := TX0) (N := 4) hx hb hts iX0_ tyX0 tyX0_ok nmX0 hown hK hw 5 5 rfl rfl 1 (by decide) w2_ (fun _ h9 => h9) rfl (by decide +kernel) (Nat.le_of_ble_eq_true rfl) rfl dX6_spend_32 (fun H locs hw => ?_)
    cases h
    exact mg_xV hx hb hr hlocks hw rfl (Nat.zero_le _) (Nat.zero_le _) dX6_spend_35
  · cases h
    exact mg_throwW (k := 2) (own := RX6) (text := "there are not so many coins") (ik := 94) (is := 348) (ic := 98) hx hb hst hown (by decide +kernel) w4_ w5_ (hO.2.2.2.2.2.2.2.2.2.2.2.2.2.2.2.2.2.2.2.2.2.2.2.2.2.2.2.2.2.2.2.2.2.2.1) (vx_hat (B := [.declares (Bundle.initS "java/lang/RuntimeException"), .declares (Bundle.initS "java/lang/Exception"), .declares (Bundle.initS Bundle.tN), .castable "java/lang/IllegalStateException" "java/lang/IllegalStateException"]) (fun w h => hts w (List.mem_cons_of_mem _ (List.mem_append_right _ h))) (by decide +kernel) (vx_c (va_Nw.use rfl (hO.2.2.2.2.2.2.2.2.1)) (vx_c (va_Nw.use rfl (hO.2.2.2.2.2.2.2.2.2.1)) (vx_c (va_Nw.use rfl (hO.2.2.2.2.2.2.2.2.2.2.1)) (vx_c (va_Nw.use rfl (hO.2.2.2.2.2.2.2.2.2.2.2.2.2.1)) vx_n))))) (by decide +kernel) (hO.2.2.2.2.1) (hO.2.2.2.2.2.1) hw (hl.1.trans hml.symm) dX6_spend_11 dX6_spend_14 dX6_spend_15 dX6_spend_18 dX6_spend_21 ht (Nat.le_of_ble_eq_true rfl) (Nat.le_of_ble_eq_true rfl) (hmc _ rfl).1 (hmc _ rfl).2 hlocks rfl (hmc _ rfl).1 (hmc _ rfl).2
set_option maxHeartbeats 4000000 in
set_option maxRecDepth 100000 in
theorem k_X6_rock (l : Launch) (hst : l.stackTraces = false) (D : va_G) (o : Nat → Nat) (cI cZ : ClassId) (g : Nat → Nat) (sz : Nat) (σ : mg_St) (x1 : Int32) (x2 : Int32) (x3 : Int32) (x4 : Int32) (out : Except (Fin 3) Int32) (σ9 : mg_St) (h : f_X6_rock σ x1 x2 x3 x4 = some (out, σ9)) (mc ms : Nat) (hmc : ∀ k, out = .error k → 1 ≤ mc ∧ 6 ≤ ms) : mg_CX l yX6_rock wsX6_rock ({ frames := 7, cells := mc, slots := ms, locals := 112 } : Room) D [(cI, .int), (cZ, .boolean)] o (mg_cW g cI cZ σ) sz [.ref (g 0), .int x1, .int x2, .int x3, .int x4] (Except.map (fun v : Int32 => some (.int v)) out) (mg_cW g cI cZ σ9) mc ms := by
  unfold mg_CX
  refine vx_ofW (cc := cX6_rock) (maxL := 6) (ret := (some .int)) (by decide) rfl ?_
  intro p e s m args below meth c s₁ B hml ht hv
  obtain ⟨rfl, hsz, hP, hK, hD0, hO⟩ := hv
  have hx := B.exec
  have hb := B.bytes
  have hr := B.returns
  have hts := atoms_spec (ws := wsX6_rock) B.pre
  have hown : s.vm.findClass RX6 = some m.cls := findClass_of_methodNamed B.named
  have hlocks := B.notSynchronized
  subst hsz
  have hD := hD0.self (sz := s.heap.size)
  generalize hAe : va_A (mg_cW g cI cZ σ) s.heap.size = A at hD hO ⊢
  have hA : ∀ q : Nat, s.heap.size ≤ q → A q := fun q h => by rw [← hAe]; exact Or.inr h
  have hw : mg_Wo D A s.heap s.heap [] (mg_cW g cI cZ σ) := ⟨hP, hD, va_S.rf⟩
  have G9 : CallFix p m c cX6_rock 6 s ([.ref (g 0), .int x1, .int x2, .int x3, .int x4] : List Value).toArray wsX6_rock RX6 := ⟨hx, hb, hml, hown, hts⟩
  clear hP hD hD0 hAe
  obtain ⟨H, hHe⟩ : ∃ H : Heap, H = s.heap := ⟨_, rfl⟩
  have w0_ := hts (.fieldLink RX6 10 "MoonGate" "garden" "LMoonGate$Garden;") (by decide +kernel)
  have iX6_ : ∀ w ∈ wsX60, w ∈ wsX6_rock := (fun _ h => List.mem_cons_of_mem _ (List.mem_append_left _ (List.mem_append_left _ (List.mem_append_left _ (List.mem_append_left _ (List.mem_append_left _ (List.mem_append_right _ h)))))))
  have w2_ := hts (.fieldLink RX6 40 "MoonGate" "now" "LMoonGate$Course;") (by decide +kernel)
  have w3_ := hts (.fieldLink RX6 76 "MoonGate$Course" "coins" "I") (by decide +kernel)
  have iX0_ : ∀ w ∈ wsX00, w ∈ wsX6_rock := (fun _ h => List.mem_cons_of_mem _ (List.mem_append_left _ (List.mem_append_left _ (List.mem_append_left _ (List.mem_append_left _ (List.mem_append_right _ h))))))
  have hl := lv_entry ([.ref (g 0), .int x1, .int x2, .int x3, .int x4]) (n := 6) (Nat.le_of_ble_eq_true rfl)
  rw [lg_entry_eq]
  generalize (lg_sl ([.ref (g 0), .int x1, .int x2, .int x3, .int x4]) ++ List.replicate (6 - (lg_sl ([.ref (g 0), .int x1, .int x2, .int x3, .int x4])).length) Slot.unset).toArray = ls at hl ⊢
  have hl : lv_has ls 6 [(0, .ref (g 0)), (1, .int x1), (2, .int x2), (3, .int x3), (4, .int x4)] := hl
  unfold f_X6_rock at h
  revert hw
  intro hw
  suffices K_ : ∀ (H : Heap) (locs : List Loc), mg_Wo D A s.heap H locs (mg_cW g cI cZ σ) → W p l e (headSpec wsX6_rock ({ frames := 7, cells := mc, slots := ms, locals := 112 } : Room)).room s m ([.ref (g 0), .int x1, .int x2, .int x3, .int x4] : List Value).toArray below meth c H locs 0 0 (vx_MQ below (mg_QX D (mg_cW g cI cZ σ9) A (Except.map (fun v : Int32 => some (.int v)) out)) (mg_XC D (mg_cW g cI cZ σ9) A (Except.map (fun v : Int32 => some (.int v)) out)) ([.ref (g 0), .int x1, .int x2, .int x3, .int x4] : List Value).toArray s mc ms A) (F0 m 0 ls []) from K_ _ _ hw
  clear hw hHe H
  intro H locs hw
  refine lv_aload_n hx hb dX6_rock_0 rfl (lv_at hl 0 rfl) ?_
  refine lv_iload_n hx hb dX6_rock_1 rfl (lv_at hl 1 rfl) ?_
  refine lv_iload_n hx hb dX6_rock_2 rfl (lv_at hl 2 rfl) ?_
  refine mg_kxx (wd := mg_cW g cI cZ) h (fun _ : Unit => none) (fun v : Int32 => some (.int v)) (fun mc9 ms9 o9 s9 hm9 h9 hc9 hs9 => vx_runV (As := [.int x1, .int x2]) (rest := []) G9 (k_X6_checkPlace l hst D o cI cZ g H.size σ x1 x2 o9 s9 h9 mc9 ms9 hm9) (cwV 2 hts gX6_rock_X6_checkPlace rfl rfl rfl (by decide +kernel) ⟨Nat.le_of_ble_eq_true rfl, Nat.le_of_ble_eq_true rfl⟩) (mg_preV hK hO hA hw (q0 := 0) rfl rfl) rfl rfl hl.1 rfl (lv_room (Nat.le_of_ble_eq_true rfl)) dX6_rock_3 ⟨hc9, hs9⟩) hw hA ht hlocks (Nat.zero_le _) (Nat.zero_le _) (fun k9 hk9 => ⟨(hmc k9 hk9).1, (hmc k9 hk9).2, (hmc k9 hk9).1, (hmc k9 hk9).2⟩) (fun _ s2 h H locs hw => ?_)
  refine lv_aload_n hx hb dX6_rock_6 rfl (lv_at hl 0 rfl) ?_
  refine lv_iload_n hx hb dX6_rock_7 rfl (lv_at hl 3 rfl) ?_
  refine lv_iload hx hb dX6_rock_8 (lv_at hl 4 rfl) ?_
  refine mg_kxx (wd := mg_cW g cI cZ) h (fun _ : Unit => none) (fun v : Int32 => some (.int v)) (fun mc9 ms9 o9 s9 hm9 h9 hc9 hs9 => vx_runV (As := [.int x3, .int x4]) (rest := []) G9 (k_X6_checkRock l hst D o cI cZ g H.size s2 x3 x4 o9 s9 h9 mc9 ms9 hm9) (cwV 2 hts gX6_rock_X6_checkRock rfl rfl rfl (by decide +kernel) ⟨Nat.le_of_ble_eq_true rfl, Nat.le_of_ble_eq_true rfl⟩) (mg_preV hK hO hA hw (q0 := 0) rfl rfl) rfl rfl hl.1 rfl (lv_room (Nat.le_of_ble_eq_true rfl)) dX6_rock_10 ⟨hc9, hs9⟩) hw hA ht hlocks (Nat.zero_le _) (Nat.zero_le _) (fun k9 hk9 => ⟨(hmc k9 hk9).1, (hmc k9 hk9).2, (hmc k9 hk9).1, (hmc k9 hk9).2⟩) (fun _ s4 h H locs hw => ?_)
  refine lv_iload_n hx hb dX6_rock_13 rfl (lv_at hl 1 rfl) ?_
  refine lv_iload_n hx hb dX6_rock_14 rfl (lv_at hl 2 rfl) ?_
  obtain ⟨y5, h9_, h⟩ := mg_bind h
  refine mg_k (rv := (some (.int y5))) (va_runS (As := [.int x1, .int x2]) (rest := []) G9 (k_X1_numberOf l D o cI cZ g H.size s4 x1 x2 y5 h9_) (va_cwS 2 hts gX6_rock_X1_numberOf rfl rfl rfl (by decide +kernel) ⟨Nat.le_of_ble_eq_true rfl, Nat.le_of_ble_eq_true rfl⟩) (mg_pre hK hO hA hw) rfl rfl hl.1 rfl (lv_room (Nat.le_of_ble_eq_true rfl)) dX6_rock_15 ⟨Nat.zero_le _, Nat.zero_le _⟩) hw hA (fun H locs hw => ?_)
  clear h9_
  refine lv_istore (lv' := [(5, .int y5), (0, .ref (g 0)), (1, .int x1), (2, .int x2), (3, .int x3), (4, .int x4)]) hx hb dX6_rock_18 hl (by decide) rfl (fun ls hl => ?_)
  refine lv_aload_n hx hb dX6_rock_20 rfl (lv_at hl 1 rfl) ?_
  refine lv_iload hx hb dX6_rock_21 (lv_at hl 0 rfl) ?_
  refine mg_kxx (wd := mg_cW g cI cZ) h (fun _ : Unit => none) (fun v : Int32 => some (.int v)) (fun mc9 ms9 o9 s9 hm9 h9 hc9 hs9 => vx_runV (As := [.int y5]) (rest := []) G9 (k_X6_checkBare l hst D o cI cZ g H.size s4 y5 o9 s9 h9 mc9 ms9 hm9) (cwV 1 hts gX6_rock_X6_checkBare rfl rfl rfl (by decide +kernel) ⟨Nat.le_of_ble_eq_true rfl, Nat.le_of_ble_eq_true rfl⟩) (mg_preV hK hO hA hw (q0 := 0) rfl rfl) rfl rfl hl.1 rfl (lv_room (Nat.le_of_ble_eq_true rfl)) dX6_rock_23 ⟨hc9, hs9⟩) hw hA ht hlocks (Nat.zero_le _) (Nat.zero_le _) (fun k9 hk9 => ⟨(hmc k9 hk9).1, (hmc k9 hk9).2, (hmc k9 hk9).1, (hmc k9 hk9).2⟩) (fun _ s7 h H locs hw => ?_)
  refine lv_aload_n hx hb dX6_rock_26 rfl (lv_at hl 1 rfl) ?_
  refine lv_iconst (v := 2) hx hb dX6_rock_27 (by decide) ?_
  refine lv_iload hx hb dX6_rock_28 (lv_at hl 5 rfl) ?_
  refine lv_imul hx hb dX6_rock_30 ?_
  refine mg_kxx (wd := mg_cW g cI cZ) h (fun _ : Unit => none) (fun v : Int32 => some (.int v)) (fun mc9 ms9 o9 s9 hm9 h9 hc9 hs9 => vx_runV (As := [.int (2 * x4)]) (rest := []) G9 (k_X6_spend l hst D o cI cZ g H.size s7 (2 * x4) o9 s9 h9 mc9 ms9 hm9) (cwV 1 hts gX6_rock_X6_spend rfl rfl rfl (by decide +kernel) ⟨Nat.le_of_ble_eq_true rfl, Nat.le_of_ble_eq_true rfl⟩) (mg_preV hK hO hA hw (q0 := 0) rfl rfl) rfl rfl hl.1 rfl (lv_room (Nat.le_of_ble_eq_true rfl)) dX6_rock_31 ⟨hc9, hs9⟩) hw hA ht hlocks (Nat.zero_le _) (Nat.zero_le _) (fun k9 hk9 => ⟨(hmc k9 hk9).1, (hmc k9 hk9).2, (hmc k9 hk9).1, (hmc k9 hk9).2⟩) (fun _ s9 h H locs hw => ?_)
  refine lv_aload_n hx hb dX6_rock_34 rfl (lv_at hl 1 rfl) ?_
  refine va_get (D := D) (ci := 6) (v := .ref (g 1)) (C := RX6) (T := TX6) (N := 7) hx hb hts iX6_ hown hK hw.1 0 rfl rfl 0 (by decide) w0_ (fun _ h9 => h9) rfl dX6_rock_35 ?_
  refine lv_iload hx hb dX6_rock_38 (lv_at hl 0 rfl) ?_
  refine lv_iload_n hx hb dX6_rock_40 rfl (lv_at hl 4 rfl) ?_
  refine lv_iload hx hb dX6_rock_41 (lv_at hl 5 rfl) ?_
  obtain ⟨y10, h9_, h⟩ := mg_bind h
  refine mg_k (rv := none) (va_runV (As := [.int y5, .int x3, .int x4]) (rest := []) G9 (k_X1_setRock l D o cI cZ g H.size s9 y5 x3 x4 y10 h9_) (cwV 3 hts gX6_rock_X1_setRock rfl rfl rfl (by decide +kernel) ⟨Nat.le_of_ble_eq_true rfl, Nat.le_of_ble_eq_true rfl⟩) (mg_preV hK hO hA hw (q0 := 1) rfl rfl) rfl rfl hl.1 rfl (lv_room (Nat.le_of_ble_eq_true rfl)) dX6_rock_43 ⟨Nat.zero_le _, Nat.zero_le _⟩) hw hA (fun H locs hw => ?_)
  clear h9_
  refine lv_aload_n hx hb dX6_rock_46 rfl (lv_at hl 1 rfl) ?_
  refine va_get (D := D) (ci := 6) (v := .ref (g 5)) (C := RX6) (T := TX6) (N := 7) hx hb hts iX6_ hown hK hw.1 0 rfl rfl 4 (by decide) w2_ (fun _ h9 => h9) rfl dX6_rock_47 ?_
  refine va_get (D := D) (ci := 0) (v := .int (y10 5 1)) (C := RX0) (T := TX0) (N := 4) hx hb hts iX0_ hown hK hw.1 5 rfl rfl 1 (by decide) w3_ (fun _ h9 => h9) rfl dX6_rock_50 ?_
  cases h
  exact mg_xI hx hb hr hlocks hw rfl (Nat.zero_le _) (Nat.zero_le _) dX6_rock_53
set_option maxHeartbeats 4000000 in
set_option maxRecDepth 100000 in
theorem k_X6_dig (l : Launch) (hst : l.stackTraces = false) (D : va_G) (o : Nat → Nat) (cI cZ : ClassId) (g : Nat → Nat) (sz : Nat) (σ : mg_St) (x1 : Int32) (x2 : Int32) (out : Except (Fin 3) Int32) (σ9 : mg_St) (h : f_X6_dig σ x1 x2 = some (out, σ9)) (mc ms : Nat) (hmc : ∀ k, out = .error k → 1 ≤ mc ∧ 6 ≤ ms) : mg_CX l yX6_dig wsX6_dig ({ frames := 7, cells := mc, slots := ms, locals := 138 } : Room) D [(cI, .int), (cZ, .boolean)] o (mg_cW g cI cZ σ) sz [.ref (g 0), .int x1, .int x2] (Except.map (fun v : Int32 => some (.int v)) out) (mg_cW g cI cZ σ9) mc ms := by
  unfold mg_CX
  refine vx_ofW (cc := cX6_dig) (maxL := 4) (ret := (some .int)) (by decide) rfl ?_
  intro p e s m args below meth c s₁ B hml ht hv
  obtain ⟨rfl, hsz, hP, hK, hD0, hO⟩ := hv
  have hx := B.exec
  have hb := B.bytes
  have hr := B.returns
  have hts := atoms_spec (ws := wsX6_dig) B.pre
  have hown : s.vm.findClass RX6 = some m.cls := findClass_of_methodNamed B.named
  have hlocks := B.notSynchronized
  subst hsz
  have hD := hD0.self (sz := s.heap.size)
  generalize hAe : va_A (mg_cW g cI cZ σ) s.heap.size = A at hD hO ⊢
  have hA : ∀ q : Nat, s.heap.size ≤ q → A q := fun q h => by rw [← hAe]; exact Or.inr h
  have hw : mg_Wo D A s.heap s.heap [] (mg_cW g cI cZ σ) := ⟨hP, hD, va_S.rf⟩
  have G9 : CallFix p m c cX6_dig 4 s ([.ref (g 0), .int x1, .int x2] : List Value).toArray wsX6_dig RX6 := ⟨hx, hb, hml, hown, hts⟩
  clear hP hD hD0 hAe
  obtain ⟨H, hHe⟩ : ∃ H : Heap, H = s.heap := ⟨_, rfl⟩
  have w0_ := hts (.fieldLink RX6 10 "MoonGate" "garden" "LMoonGate$Garden;") (by decide +kernel)
  have iX6_ : ∀ w ∈ wsX60, w ∈ wsX6_dig := (fun _ h => List.mem_cons_of_mem _ (List.mem_append_left _ (List.mem_append_left _ (List.mem_append_left _ (List.mem_append_left _ (List.mem_append_right _ h))))))
  have hl := lv_entry ([.ref (g 0), .int x1, .int x2]) (n := 4) (Nat.le_of_ble_eq_true rfl)
  rw [lg_entry_eq]
  generalize (lg_sl ([.ref (g 0), .int x1, .int x2]) ++ List.replicate (4 - (lg_sl ([.ref (g 0), .int x1, .int x2])).length) Slot.unset).toArray = ls at hl ⊢
  have hl : lv_has ls 4 [(0, .ref (g 0)), (1, .int x1), (2, .int x2)] := hl
  unfold f_X6_dig at h
  revert hw
  intro hw
  suffices K_ : ∀ (H : Heap) (locs : List Loc), mg_Wo D A s.heap H locs (mg_cW g cI cZ σ) → W p l e (headSpec wsX6_dig ({ frames := 7, cells := mc, slots := ms, locals := 138 } : Room)).room s m ([.ref (g 0), .int x1, .int x2] : List Value).toArray below meth c H locs 0 0 (vx_MQ below (mg_QX D (mg_cW g cI cZ σ9) A (Except.map (fun v : Int32 => some (.int v)) out)) (mg_XC D (mg_cW g cI cZ σ9) A (Except.map (fun v : Int32 => some (.int v)) out)) ([.ref (g 0), .int x1, .int x2] : List Value).toArray s mc ms A) (F0 m 0 ls []) from K_ _ _ hw
  clear hw hHe H
  intro H locs hw
  refine lv_aload_n hx hb dX6_dig_0 rfl (lv_at hl 0 rfl) ?_
  refine lv_iload_n hx hb dX6_dig_1 rfl (lv_at hl 1 rfl) ?_
  refine lv_iload_n hx hb dX6_dig_2 rfl (lv_at hl 2 rfl) ?_
  refine mg_kxx (wd := mg_cW g cI cZ) h (fun _ : Unit => none) (fun v : Int32 => some (.int v)) (fun mc9 ms9 o9 s9 hm9 h9 hc9 hs9 => vx_runV (As := [.int x1, .int x2]) (rest := []) G9 (k_X6_checkPlace l hst D o cI cZ g H.size σ x1 x2 o9 s9 h9 mc9 ms9 hm9) (cwV 2 hts gX6_dig_X6_checkPlace rfl rfl rfl (by decide +kernel) ⟨Nat.le_of_ble_eq_true rfl, Nat.le_of_ble_eq_true rfl⟩) (mg_preV hK hO hA hw (q0 := 0) rfl rfl) rfl rfl hl.1 rfl (lv_room (Nat.le_of_ble_eq_true rfl)) dX6_dig_3 ⟨hc9, hs9⟩) hw hA ht hlocks (Nat.zero_le _) (Nat.zero_le _) (fun k9 hk9 => ⟨(hmc k9 hk9).1, (hmc k9 hk9).2, (hmc k9 hk9).1, (hmc k9 hk9).2⟩) (fun _ s2 h H locs hw => ?_)
  refine lv_iload_n hx hb dX6_dig_6 rfl (lv_at hl 1 rfl) ?_
  refine lv_iload_n hx hb dX6_dig_7 rfl (lv_at hl 2 rfl) ?_
  obtain ⟨y3, h9_, h⟩ := mg_bind h
  refine mg_k (rv := (some (.int y3))) (va_runS (As := [.int x1, .int x2]) (rest := []) G9 (k_X1_numberOf l D o cI cZ g H.size s2 x1 x2 y3 h9_) (va_cwS 2 hts gX6_dig_X1_numberOf rfl rfl rfl (by decide +kernel) ⟨Nat.le_of_ble_eq_true rfl, Nat.le_of_ble_eq_true rfl⟩) (mg_pre hK hO hA hw) rfl rfl hl.1 rfl (lv_room (Nat.le_of_ble_eq_true rfl)) dX6_dig_8 ⟨Nat.zero_le _, Nat.zero_le _⟩) hw hA (fun H locs hw => ?_)
  clear h9_
  refine lv_istore_n (lv' := [(3, .int y3), (0, .ref (g 0)), (1, .int x1), (2, .int x2)]) hx hb dX6_dig_11 rfl hl (by decide) rfl (fun ls hl => ?_)
  refine lv_aload_n hx hb dX6_dig_12 rfl (lv_at hl 1 rfl) ?_
  refine lv_iload_n hx hb dX6_dig_13 rfl (lv_at hl 0 rfl) ?_
  refine mg_kxx (wd := mg_cW g cI cZ) h (fun _ : Unit => none) (fun v : Int32 => some (.int v)) (fun mc9 ms9 o9 s9 hm9 h9 hc9 hs9 => vx_runV (As := [.int y3]) (rest := []) G9 (k_X6_checkBare l hst D o cI cZ g H.size s2 y3 o9 s9 h9 mc9 ms9 hm9) (cwV 1 hts gX6_dig_X6_checkBare rfl rfl rfl (by decide +kernel) ⟨Nat.le_of_ble_eq_true rfl, Nat.le_of_ble_eq_true rfl⟩) (mg_preV hK hO hA hw (q0 := 0) rfl rfl) rfl rfl hl.1 rfl (lv_room (Nat.le_of_ble_eq_true rfl)) dX6_dig_14 ⟨hc9, hs9⟩) hw hA ht hlocks (Nat.zero_le _) (Nat.zero_le _) (fun k9 hk9 => ⟨(hmc k9 hk9).1, (hmc k9 hk9).2, (hmc k9 hk9).1, (hmc k9 hk9).2⟩) (fun _ s5 h H locs hw => ?_)
  refine lv_aload_n hx hb dX6_dig_17 rfl (lv_at hl 1 rfl) ?_
  refine lv_bipush (v := 6) hx hb dX6_dig_18 (by decide) ?_
  refine mg_kxx (wd := mg_cW g cI cZ) h (fun _ : Unit => none) (fun v : Int32 => some (.int v)) (fun mc9 ms9 o9 s9 hm9 h9 hc9 hs9 => vx_runV (As := [.int 6]) (rest := []) G9 (k_X6_spend l hst D o cI cZ g H.size s5 6 o9 s9 h9 mc9 ms9 hm9) (cwV 1 hts gX6_dig_X6_spend rfl rfl rfl (by decide +kernel) ⟨Nat.le_of_ble_eq_true rfl, Nat.le_of_ble_eq_true rfl⟩) (mg_preV hK hO hA hw (q0 := 0) rfl rfl) rfl rfl hl.1 rfl (lv_room (Nat.le_of_ble_eq_true rfl)) dX6_dig_20 ⟨hc9, hs9⟩) hw hA ht hlocks (Nat.zero_le _) (Nat.zero_le _) (fun k9 hk9 => ⟨(hmc k9 hk9).1, (hmc k9 hk9).2, (hmc k9 hk9).1, (hmc k9 hk9).2⟩) (fun _ s7 h H locs hw => ?_)
  refine lv_aload_n hx hb dX6_dig_23 rfl (lv_at hl 1 rfl) ?_
  refine va_get (D := D) (ci := 6) (v := .ref (g 1)) (C := RX6) (T := TX6) (N := 7) hx hb hts iX6_ hown hK hw.1 0 rfl rfl 0 (by decide) w0_ (fun _ h9 => h9) rfl dX6_dig_24 ?_
  refine lv_iload_n hx hb dX6_dig_27 rfl (lv_at hl 0 rfl) ?_
  obtain ⟨y8, h9_, h⟩ := mg_bind h
  refine mg_k (rv := none) (va_runV (As := [.int y3]) (rest := []) G9 (k_X1_setPond l D o cI cZ g H.size s7 y3 y8 h9_) (cwV 1 hts gX6_dig_X1_setPond rfl rfl rfl (by decide +kernel) ⟨Nat.le_of_ble_eq_true rfl, Nat.le_of_ble_eq_true rfl⟩) (mg_preV hK hO hA hw (q0 := 1) rfl rfl) rfl rfl hl.1 rfl (lv_room (Nat.le_of_ble_eq_true rfl)) dX6_dig_28 ⟨Nat.zero_le _, Nat.zero_le _⟩) hw hA (fun H locs hw => ?_)
  clear h9_
  refine lv_aload_n hx hb dX6_dig_31 rfl (lv_at hl 1 rfl) ?_
  refine va_get (D := D) (ci := 6) (v := .ref (g 1)) (C := RX6) (T := TX6) (N := 7) hx hb hts iX6_ hown hK hw.1 0 rfl rfl 0 (by decide) w0_ (fun _ h9 => h9) rfl dX6_dig_32 ?_
  refine lv_iload_n hx hb dX6_dig_35 rfl (lv_at hl 0 rfl) ?_
  obtain ⟨y9, h9_, h⟩ := mg_bind h
  refine mg_k (rv := (some (.int y9))) (va_runV (As := [.int y3]) (rest := []) G9 (k_X1_cellsOfPondAt l D o cI cZ g H.size y8 y3 y9 h9_) (cwV 1 hts gX6_dig_X1_cellsOfPondAt rfl rfl rfl (by decide +kernel) ⟨Nat.le_of_ble_eq_true rfl, Nat.le_of_ble_eq_true rfl⟩) (mg_preV hK hO hA hw (q0 := 1) rfl rfl) rfl rfl hl.1 rfl (lv_room (Nat.le_of_ble_eq_true rfl)) dX6_dig_36 ⟨Nat.zero_le _, Nat.zero_le _⟩) hw hA (fun H locs hw => ?_)
  clear h9_
  cases h
  exact mg_xI hx hb hr hlocks hw rfl (Nat.zero_le _) (Nat.zero_le _) dX6_dig_39
set_option maxHeartbeats 4000000 in
set_option maxRecDepth 100000 in
theorem k_X6_wall (l : Launch) (hst : l.stackTraces = false) (D : va_G) (o : Nat → Nat) (cI cZ : ClassId) (g : Nat → Nat) (sz : Nat) (σ : mg_St) (x1 : Int32) (x2 : Int32) (out : Except (Fin 3) Int32) (σ9 : mg_St) (h : f_X6_wall σ x1 x2 = some (out, σ9)) (mc ms : Nat) (hmc : ∀ k, out = .error k → 1 ≤ mc ∧ 6 ≤ ms) : mg_CX l yX6_wall wsX6_wall ({ frames := 7, cells := mc, slots := ms, locals := 112 } : Room) D [(cI, .int), (cZ, .boolean)] o (mg_cW g cI cZ σ) sz [.ref (g 0), .int x1, .int x2] (Except.map (fun v : Int32 => some (.int v)) out) (mg_cW g cI cZ σ9) mc ms := by
  unfold mg_CX
  refine vx_ofW (cc := cX6_wall) (maxL := 4) (ret := (some .int)) (by decide) rfl ?_
  intro p e s m args below meth c s₁ B hml ht hv
  obtain ⟨rfl, hsz, hP, hK, hD0, hO⟩ := hv
  have hx := B.exec
  have hb := B.bytes
  have hr := B.returns
  have hts := atoms_spec (ws := wsX6_wall) B.pre
  have hown : s.vm.findClass RX6 = some m.cls := findClass_of_methodNamed B.named
  have hlocks := B.notSynchronized
  subst hsz
  have hD := hD0.self (sz := s.heap.size)
  generalize hAe : va_A (mg_cW g cI cZ σ) s.heap.size = A at hD hO ⊢
  have hA : ∀ q : Nat, s.heap.size ≤ q → A q := fun q h => by rw [← hAe]; exact Or.inr h
  have hw : mg_Wo D A s.heap s.heap [] (mg_cW g cI cZ σ) := ⟨hP, hD, va_S.rf⟩
  have G9 : CallFix p m c cX6_wall 4 s ([.ref (g 0), .int x1, .int x2] : List Value).toArray wsX6_wall RX6 := ⟨hx, hb, hml, hown, hts⟩
  clear hP hD hD0 hAe
  obtain ⟨H, hHe⟩ : ∃ H : Heap, H = s.heap := ⟨_, rfl⟩
  have w0_ := hts (.fieldLink RX6 10 "MoonGate" "garden" "LMoonGate$Garden;") (by decide +kernel)
  have iX6_ : ∀ w ∈ wsX60, w ∈ wsX6_wall := (fun _ h => List.mem_cons_of_mem _ (List.mem_append_left _ (List.mem_append_left _ (List.mem_append_left _ (List.mem_append_left _ (List.mem_append_right _ h))))))
  have w2_ := hts (.fieldLink RX6 40 "MoonGate" "now" "LMoonGate$Course;") (by decide +kernel)
  have w3_ := hts (.fieldLink RX6 76 "MoonGate$Course" "coins" "I") (by decide +kernel)
  have iX0_ : ∀ w ∈ wsX00, w ∈ wsX6_wall := (fun _ h => List.mem_cons_of_mem _ (List.mem_append_left _ (List.mem_append_left _ (List.mem_append_left _ (List.mem_append_right _ h)))))
  have hl := lv_entry ([.ref (g 0), .int x1, .int x2]) (n := 4) (Nat.le_of_ble_eq_true rfl)
  rw [lg_entry_eq]
  generalize (lg_sl ([.ref (g 0), .int x1, .int x2]) ++ List.replicate (4 - (lg_sl ([.ref (g 0), .int x1, .int x2])).length) Slot.unset).toArray = ls at hl ⊢
  have hl : lv_has ls 4 [(0, .ref (g 0)), (1, .int x1), (2, .int x2)] := hl
  unfold f_X6_wall at h
  revert hw
  intro hw
  suffices K_ : ∀ (H : Heap) (locs : List Loc), mg_Wo D A s.heap H locs (mg_cW g cI cZ σ) → W p l e (headSpec wsX6_wall ({ frames := 7, cells := mc, slots := ms, locals := 112 } : Room)).room s m ([.ref (g 0), .int x1, .int x2] : List Value).toArray below meth c H locs 0 0 (vx_MQ below (mg_QX D (mg_cW g cI cZ σ9) A (Except.map (fun v : Int32 => some (.int v)) out)) (mg_XC D (mg_cW g cI cZ σ9) A (Except.map (fun v : Int32 => some (.int v)) out)) ([.ref (g 0), .int x1, .int x2] : List Value).toArray s mc ms A) (F0 m 0 ls []) from K_ _ _ hw
  clear hw hHe H
  intro H locs hw
  refine lv_aload_n hx hb dX6_wall_0 rfl (lv_at hl 0 rfl) ?_
  refine lv_iload_n hx hb dX6_wall_1 rfl (lv_at hl 1 rfl) ?_
  refine lv_iload_n hx hb dX6_wall_2 rfl (lv_at hl 2 rfl) ?_
  refine mg_kxx (wd := mg_cW g cI cZ) h (fun _ : Unit => none) (fun v : Int32 => some (.int v)) (fun mc9 ms9 o9 s9 hm9 h9 hc9 hs9 => vx_runV (As := [.int x1, .int x2]) (rest := []) G9 (k_X6_checkPlace l hst D o cI cZ g H.size σ x1 x2 o9 s9 h9 mc9 ms9 hm9) (cwV 2 hts gX6_wall_X6_checkPlace rfl rfl rfl (by decide +kernel) ⟨Nat.le_of_ble_eq_true rfl, Nat.le_of_ble_eq_true rfl⟩) (mg_preV hK hO hA hw (q0 := 0) rfl rfl) rfl rfl hl.1 rfl (lv_room (Nat.le_of_ble_eq_true rfl)) dX6_wall_3 ⟨hc9, hs9⟩) hw hA ht hlocks (Nat.zero_le _) (Nat.zero_le _) (fun k9 hk9 => ⟨(hmc k9 hk9).1, (hmc k9 hk9).2, (hmc k9 hk9).1, (hmc k9 hk9).2⟩) (fun _ s2 h H locs hw => ?_)
  refine lv_iload_n hx hb dX6_wall_6 rfl (lv_at hl 1 rfl) ?_
  refine lv_iload_n hx hb dX6_wall_7 rfl (lv_at hl 2 rfl) ?_
  obtain ⟨y3, h9_, h⟩ := mg_bind h
  refine mg_k (rv := (some (.int y3))) (va_runS (As := [.int x1, .int x2]) (rest := []) G9 (k_X1_numberOf l D o cI cZ g H.size s2 x1 x2 y3 h9_) (va_cwS 2 hts gX6_wall_X1_numberOf rfl rfl rfl (by decide +kernel) ⟨Nat.le_of_ble_eq_true rfl, Nat.le_of_ble_eq_true rfl⟩) (mg_pre hK hO hA hw) rfl rfl hl.1 rfl (lv_room (Nat.le_of_ble_eq_true rfl)) dX6_wall_8 ⟨Nat.zero_le _, Nat.zero_le _⟩) hw hA (fun H locs hw => ?_)
  clear h9_
  refine lv_istore_n (lv' := [(3, .int y3), (0, .ref (g 0)), (1, .int x1), (2, .int x2)]) hx hb dX6_wall_11 rfl hl (by decide) rfl (fun ls hl => ?_)
  refine lv_aload_n hx hb dX6_wall_12 rfl (lv_at hl 1 rfl) ?_
  refine lv_iload_n hx hb dX6_wall_13 rfl (lv_at hl 0 rfl) ?_
  refine mg_kxx (wd := mg_cW g cI cZ) h (fun _ : Unit => none) (fun v : Int32 => some (.int v)) (fun mc9 ms9 o9 s9 hm9 h9 hc9 hs9 => vx_runV (As := [.int y3]) (rest := []) G9 (k_X6_checkBare l hst D o cI cZ g H.size s2 y3 o9 s9 h9 mc9 ms9 hm9) (cwV 1 hts gX6_wall_X6_checkBare rfl rfl rfl (by decide +kernel) ⟨Nat.le_of_ble_eq_true rfl, Nat.le_of_ble_eq_true rfl⟩) (mg_preV hK hO hA hw (q0 := 0) rfl rfl) rfl rfl hl.1 rfl (lv_room (Nat.le_of_ble_eq_true rfl)) dX6_wall_14 ⟨hc9, hs9⟩) hw hA ht hlocks (Nat.zero_le _) (Nat.zero_le _) (fun k9 hk9 => ⟨(hmc k9 hk9).1, (hmc k9 hk9).2, (hmc k9 hk9).1, (hmc k9 hk9).2⟩) (fun _ s5 h H locs hw => ?_)
  refine lv_aload_n hx hb dX6_wall_17 rfl (lv_at hl 1 rfl) ?_
  refine lv_iconst (v := 3) hx hb dX6_wall_18 (by decide) ?_
  refine mg_kxx (wd := mg_cW g cI cZ) h (fun _ : Unit => none) (fun v : Int32 => some (.int v)) (fun mc9 ms9 o9 s9 hm9 h9 hc9 hs9 => vx_runV (As := [.int 3]) (rest := []) G9 (k_X6_spend l hst D o cI cZ g H.size s5 3 o9 s9 h9 mc9 ms9 hm9) (cwV 1 hts gX6_wall_X6_spend rfl rfl rfl (by decide +kernel) ⟨Nat.le_of_ble_eq_true rfl, Nat.le_of_ble_eq_true rfl⟩) (mg_preV hK hO hA hw (q0 := 0) rfl rfl) rfl rfl hl.1 rfl (lv_room (Nat.le_of_ble_eq_true rfl)) dX6_wall_19 ⟨hc9, hs9⟩) hw hA ht hlocks (Nat.zero_le _) (Nat.zero_le _) (fun k9 hk9 => ⟨(hmc k9 hk9).1, (hmc k9 hk9).2, (hmc k9 hk9).1, (hmc k9 hk9).2⟩) (fun _ s7 h H locs hw => ?_)
  refine lv_aload_n hx hb dX6_wall_22 rfl (lv_at hl 1 rfl) ?_
  refine va_get (D := D) (ci := 6) (v := .ref (g 1)) (C := RX6) (T := TX6) (N := 7) hx hb hts iX6_ hown hK hw.1 0 rfl rfl 0 (by decide) w0_ (fun _ h9 => h9) rfl dX6_wall_23 ?_
  refine lv_iload_n hx hb dX6_wall_26 rfl (lv_at hl 0 rfl) ?_
  obtain ⟨y8, h9_, h⟩ := mg_bind h
  refine mg_k (rv := none) (va_runV (As := [.int y3]) (rest := []) G9 (k_X1_setWall l D o cI cZ g H.size s7 y3 y8 h9_) (cwV 1 hts gX6_wall_X1_setWall rfl rfl rfl (by decide +kernel) ⟨Nat.le_of_ble_eq_true rfl, Nat.le_of_ble_eq_true rfl⟩) (mg_preV hK hO hA hw (q0 := 1) rfl rfl) rfl rfl hl.1 rfl (lv_room (Nat.le_of_ble_eq_true rfl)) dX6_wall_27 ⟨Nat.zero_le _, Nat.zero_le _⟩) hw hA (fun H locs hw => ?_)
  clear h9_
  refine lv_aload_n hx hb dX6_wall_30 rfl (lv_at hl 1 rfl) ?_
  refine va_get (D := D) (ci := 6) (v := .ref (g 5)) (C := RX6) (T := TX6) (N := 7) hx hb hts iX6_ hown hK hw.1 0 rfl rfl 4 (by decide) w2_ (fun _ h9 => h9) rfl dX6_wall_31 ?_
  refine va_get (D := D) (ci := 0) (v := .int (y8 5 1)) (C := RX0) (T := TX0) (N := 4) hx hb hts iX0_ hown hK hw.1 5 rfl rfl 1 (by decide) w3_ (fun _ h9 => h9) rfl dX6_wall_34 ?_
  cases h
  exact mg_xI hx hb hr hlocks hw rfl (Nat.zero_le _) (Nat.zero_le _) dX6_wall_37
set_option maxHeartbeats 4000000 in
set_option maxRecDepth 100000 in
theorem k_X6_clear (l : Launch) (hst : l.stackTraces = false) (D : va_G) (o : Nat → Nat) (cI cZ : ClassId) (g : Nat → Nat) (sz : Nat) (σ : mg_St) (x1 : Int32) (x2 : Int32) (out : Except (Fin 3) Int32) (σ9 : mg_St) (h : f_X6_clear σ x1 x2 = some (out, σ9)) (mc ms : Nat) (hmc : ∀ k, out = .error k → 1 ≤ mc ∧ 6 ≤ ms) : mg_CX l yX6_clear wsX6_clear ({ frames := 7, cells := mc, slots := ms, locals := 139 } : Room) D [(cI, .int), (cZ, .boolean)] o (mg_cW g cI cZ σ) sz [.ref (g 0), .int x1, .int x2] (Except.map (fun v : Int32 => some (.int v)) out) (mg_cW g cI cZ σ9) mc ms := by
  unfold mg_CX
  refine vx_ofW (cc := cX6_clear) (maxL := 4) (ret := (some .int)) (by decide) rfl ?_
  intro p e s m args below meth c s₁ B hml ht hv
  obtain ⟨rfl, hsz, hP, hK, hD0, hO⟩ := hv
  have hx := B.exec
  have hb := B.bytes
  have hr := B.returns
  have hts := atoms_spec (ws := wsX6_clear) B.pre
  have hown : s.vm.findClass RX6 = some m.cls := findClass_of_methodNamed B.named
  have hlocks := B.notSynchronized
  subst hsz
  have hD := hD0.self (sz := s.heap.size)
  generalize hAe : va_A (mg_cW g cI cZ σ) s.heap.size = A at hD hO ⊢
  have hA : ∀ q : Nat, s.heap.size ≤ q → A q := fun q h => by rw [← hAe]; exact Or.inr h
  have hw : mg_Wo D A s.heap s.heap [] (mg_cW g cI cZ σ) := ⟨hP, hD, va_S.rf⟩
  have G9 : CallFix p m c cX6_clear 4 s ([.ref (g 0), .int x1, .int x2] : List Value).toArray wsX6_clear RX6 := ⟨hx, hb, hml, hown, hts⟩
  clear hP hD hD0 hAe
  obtain ⟨H, hHe⟩ : ∃ H : Heap, H = s.heap := ⟨_, rfl⟩
  have w0_ := hts (.fieldLink RX6 10 "MoonGate" "garden" "LMoonGate$Garden;") (by decide +kernel)
  have iX6_ : ∀ w ∈ wsX60, w ∈ wsX6_clear := (fun _ h => List.mem_cons_of_mem _ (List.mem_append_left _ (List.mem_append_left _ (List.mem_append_left _ (List.mem_append_left _ (List.mem_append_right _ h))))))
  have w2_ := hts (.fieldLink RX6 40 "MoonGate" "now" "LMoonGate$Course;") (by decide +kernel)
  have w3_ := hts (.fieldLink RX6 76 "MoonGate$Course" "coins" "I") (by decide +kernel)
  have iX0_ : ∀ w ∈ wsX00, w ∈ wsX6_clear := (fun _ h => List.mem_cons_of_mem _ (List.mem_append_left _ (List.mem_append_left _ (List.mem_append_left _ (List.mem_append_right _ h)))))
  have w5_ := hts (.classLink RX6 94 "java/lang/IllegalStateException") (by decide +kernel)
  have w6_ := hts (.initialized "java/lang/IllegalStateException") (by decide +kernel)
  have hl := lv_entry ([.ref (g 0), .int x1, .int x2]) (n := 4) (Nat.le_of_ble_eq_true rfl)
  rw [lg_entry_eq]
  generalize (lg_sl ([.ref (g 0), .int x1, .int x2]) ++ List.replicate (4 - (lg_sl ([.ref (g 0), .int x1, .int x2])).length) Slot.unset).toArray = ls at hl ⊢
  have hl : lv_has ls 4 [(0, .ref (g 0)), (1, .int x1), (2, .int x2)] := hl
  unfold f_X6_clear at h
  revert hw
  intro hw
  suffices K_ : ∀ (H : Heap) (locs : List Loc), mg_Wo D A s.heap H locs (mg_cW g cI cZ σ) → W p l e (headSpec wsX6_clear ({ frames := 7, cells := mc, slots := ms, locals := 139 } : Room)).room s m ([.ref (g 0), .int x1, .int x2] : List Value).toArray below meth c H locs 0 0 (vx_MQ below (mg_QX D (mg_cW g cI cZ σ9) A (Except.map (fun v : Int32 => some (.int v)) out)) (mg_XC D (mg_cW g cI cZ σ9) A (Except.map (fun v : Int32 => some (.int v)) out)) ([.ref (g 0), .int x1, .int x2] : List Value).toArray s mc ms A) (F0 m 0 ls []) from K_ _ _ hw
  clear hw hHe H
  intro H locs hw
  refine lv_aload_n hx hb dX6_clear_0 rfl (lv_at hl 0 rfl) ?_
  refine lv_iload_n hx hb dX6_clear_1 rfl (lv_at hl 1 rfl) ?_
  refine lv_iload_n hx hb dX6_clear_2 rfl (lv_at hl 2 rfl) ?_
  refine mg_kxx (wd := mg_cW g cI cZ) h (fun _ : Unit => none) (fun v : Int32 => some (.int v)) (fun mc9 ms9 o9 s9 hm9 h9 hc9 hs9 => vx_runV (As := [.int x1, .int x2]) (rest := []) G9 (k_X6_checkPlace l hst D o cI cZ g H.size σ x1 x2 o9 s9 h9 mc9 ms9 hm9) (cwV 2 hts gX6_clear_X6_checkPlace rfl rfl rfl (by decide +kernel) ⟨Nat.le_of_ble_eq_true rfl, Nat.le_of_ble_eq_true rfl⟩) (mg_preV hK hO hA hw (q0 := 0) rfl rfl) rfl rfl hl.1 rfl (lv_room (Nat.le_of_ble_eq_true rfl)) dX6_clear_3 ⟨hc9, hs9⟩) hw hA ht hlocks (Nat.zero_le _) (Nat.zero_le _) (fun k9 hk9 => ⟨(hmc k9 hk9).1, (hmc k9 hk9).2, (hmc k9 hk9).1, (hmc k9 hk9).2⟩) (fun _ s2 h H locs hw => ?_)
  refine lv_iload_n hx hb dX6_clear_6 rfl (lv_at hl 1 rfl) ?_
  refine lv_iload_n hx hb dX6_clear_7 rfl (lv_at hl 2 rfl) ?_
  obtain ⟨y3, h9_, h⟩ := mg_bind h
  refine mg_k (rv := (some (.int y3))) (va_runS (As := [.int x1, .int x2]) (rest := []) G9 (k_X1_numberOf l D o cI cZ g H.size s2 x1 x2 y3 h9_) (va_cwS 2 hts gX6_clear_X1_numberOf rfl rfl rfl (by decide +kernel) ⟨Nat.le_of_ble_eq_true rfl, Nat.le_of_ble_eq_true rfl⟩) (mg_pre hK hO hA hw) rfl rfl hl.1 rfl (lv_room (Nat.le_of_ble_eq_true rfl)) dX6_clear_8 ⟨Nat.zero_le _, Nat.zero_le _⟩) hw hA (fun H locs hw => ?_)
  clear h9_
  refine lv_istore_n (lv' := [(3, .int y3), (0, .ref (g 0)), (1, .int x1), (2, .int x2)]) hx hb dX6_clear_11 rfl hl (by decide) rfl (fun ls hl => ?_)
  refine lv_aload_n hx hb dX6_clear_12 rfl (lv_at hl 1 rfl) ?_
  refine va_get (D := D) (ci := 6) (v := .ref (g 1)) (C := RX6) (T := TX6) (N := 7) hx hb hts iX6_ hown hK hw.1 0 rfl rfl 0 (by decide) w0_ (fun _ h9 => h9) rfl dX6_clear_13 ?_
  refine lv_iload_n hx hb dX6_clear_16 rfl (lv_at hl 0 rfl) ?_
  obtain ⟨y4, h9_, h⟩ := mg_bind h
  refine mg_k (rv := (some (.int y4))) (va_runV (As := [.int y3]) (rest := []) G9 (k_X1_isBare l D o cI cZ g H.size s2 y3 y4 h9_) (cwV 1 hts gX6_clear_X1_isBare rfl rfl rfl (by decide +kernel) ⟨Nat.le_of_ble_eq_true rfl, Nat.le_of_ble_eq_true rfl⟩) (mg_preV hK hO hA hw (q0 := 1) rfl rfl) rfl rfl hl.1 rfl (lv_room (Nat.le_of_ble_eq_true rfl)) dX6_clear_17 ⟨Nat.zero_le _, Nat.zero_le _⟩) hw hA (fun H locs hw => ?_)
  clear h9_
  refine mg_if_eq (tgt := 33) hx hb h dX6_clear_20 (by decide) (fun h => ?_) (fun h => ?_)
  · refine lv_aload_n hx hb dX6_clear_33 rfl (lv_at hl 1 rfl) ?_
    refine va_get (D := D) (ci := 6) (v := .ref (g 1)) (C := RX6) (T := TX6) (N := 7) hx hb hts iX6_ hown hK hw.1 0 rfl rfl 0 (by decide) w0_ (fun _ h9 => h9) rfl dX6_clear_34 ?_
    refine lv_iload_n hx hb dX6_clear_37 rfl (lv_at hl 0 rfl) ?_
    obtain ⟨y5, h9_, h⟩ := mg_bind h
    refine mg_k (rv := (some (.int y5))) (va_runV (As := [.int y3]) (rest := []) G9 (k_X1_hasCarps l D o cI cZ g H.size s2 y3 y5 h9_) (cwV 1 hts gX6_clear_X1_hasCarps rfl rfl rfl (by decide +kernel) ⟨Nat.le_of_ble_eq_true rfl, Nat.le_of_ble_eq_true rfl⟩) (mg_preV hK hO hA hw (q0 := 1) rfl rfl) rfl rfl hl.1 rfl (lv_room (Nat.le_of_ble_eq_true rfl)) dX6_clear_38 ⟨Nat.zero_le _, Nat.zero_le _⟩) hw hA (fun H locs hw => ?_)
    clear h9_
    refine mg_if_eq (tgt := 54) hx hb h dX6_clear_41 (by decide) (fun h => ?_) (fun h => ?_)
    · refine lv_aload_n hx hb dX6_clear_54 rfl (lv_at hl 1 rfl) ?_
      refine va_get (D := D) (ci := 6) (v := .ref (g 5)) (C := RX6) (T := TX6) (N := 7) hx hb hts iX6_ hown hK hw.1 0 rfl rfl 4 (by decide) w2_ (fun _ h9 => h9) rfl dX6_clear_55 ?_
      refine lv_dup hx hb dX6_clear_58 rfl ?_
      refine va_get (D := D) (ci := 0) (v := .int (s2 5 1)) (C := RX0) (T := TX0) (N := 4) hx hb hts iX0_ hown hK hw.1 5 rfl rfl 1 (by decide) w3_ (fun _ h9 => h9) rfl dX6_clear_59 ?_
      refine lv_aload_n hx hb dX6_clear_62 rfl (lv_at hl 1 rfl) ?_
      refine va_get (D := D) (ci := 6) (v := .ref (g 1)) (C := RX6) (T := TX6) (N := 7) hx hb hts iX6_ hown hK hw.1 0 rfl rfl 0 (by decide) w0_ (fun _ h9 => h9) rfl dX6_clear_63 ?_
      refine lv_iload_n hx hb dX6_clear_66 rfl (lv_at hl 0 rfl) ?_
      obtain ⟨y6, h9_, h⟩ := mg_bind h
      refine mg_k (rv := (some (.int y6))) (va_runV (As := [.int y3]) (rest := [.int (s2 5 1), .ref (g 5)]) G9 (k_X1_sizeAt l D o cI cZ g H.size s2 y3 y6 h9_) (cwV 1 hts gX6_clear_X1_sizeAt rfl rfl rfl (by decide +kernel) ⟨Nat.le_of_ble_eq_true rfl, Nat.le_of_ble_eq_true rfl⟩) (mg_preV hK hO hA hw (q0 := 1) rfl rfl) rfl rfl hl.1 rfl (lv_room (Nat.le_of_ble_eq_true rfl)) dX6_clear_67 ⟨Nat.zero_le _, Nat.zero_le _⟩) hw hA (fun H locs hw => ?_)
      clear h9_
      refine lv_iadd hx hb dX6_clear_70 ?_
      refine mg_put (wd := mg_cW g cI cZ) (σ := s2) (v := ((s2 5 1) + y6)) (ci := 0) (C := RX0) (T := TX0) (N := 4) hx hb hts iX0_ tyX0 tyX0_ok nmX0 hown hK hw 5 5 rfl rfl 1 (by decide) w3_ (fun _ h9 => h9) rfl (by decide +kernel) (Nat.le_of_ble_eq_true rfl) rfl dX6_clear_71 (fun H locs hw => ?_)
      refine lv_aload_n hx hb dX6_clear_74 rfl (lv_at hl 1 rfl) ?_
      refine va_get (D := D) (ci := 6) (v := .ref (g 1)) (C := RX6) (T := TX6) (N := 7) hx hb hts iX6_ hown hK hw.1 0 rfl rfl 0 (by decide) w0_ (fun _ h9 => h9) rfl dX6_clear_75 ?_
      refine lv_iload_n hx hb dX6_clear_78 rfl (lv_at hl 0 rfl) ?_
      obtain ⟨y7, h9_, h⟩ := mg_bind h
      refine mg_k (rv := none) (va_runV (As := [.int y3]) (rest := []) G9 (k_X1_setBare l D o cI cZ g H.size (mg_su s2 5 1 ((s2 5 1) + y6)) y3 y7 h9_) (cwV 1 hts gX6_clear_X1_setBare rfl rfl rfl (by decide +kernel) ⟨Nat.le_of_ble_eq_true rfl, Nat.le_of_ble_eq_true rfl⟩) (mg_preV hK hO hA hw (q0 := 1) rfl rfl) rfl rfl hl.1 rfl (lv_room (Nat.le_of_ble_eq_true rfl)) dX6_clear_79 ⟨Nat.zero_le _, Nat.zero_le _⟩) hw hA (fun H locs hw => ?_)
      clear h9_
      refine lv_aload_n hx hb dX6_clear_82 rfl (lv_at hl 1 rfl) ?_
      refine va_get (D := D) (ci := 6) (v := .ref (g 5)) (C := RX6) (T := TX6) (N := 7) hx hb hts iX6_ hown hK hw.1 0 rfl rfl 4 (by decide) w2_ (fun _ h9 => h9) rfl dX6_clear_83 ?_
      refine va_get (D := D) (ci := 0) (v := .int (y7 5 1)) (C := RX0) (T := TX0) (N := 4) hx hb hts iX0_ hown hK hw.1 5 rfl rfl 1 (by decide) w3_ (fun _ h9 => h9) rfl dX6_clear_86 ?_
      cases h
      exact mg_xI hx hb hr hlocks hw rfl (Nat.zero_le _) (Nat.zero_le _) dX6_clear_89
    · cases h
      exact mg_throw (k := 2) (own := RX6) (text := "carps are in the cell") (ik := 94) (is := 104) (ic := 98) hx hb hst hown (by decide +kernel) w5_ w6_ (hO.2.2.2.2.2.2.2.2.2.2.2.2.2.2.2.2.2.2.2.2.2.1) (vx_hat (B := [.declares (Bundle.initS "java/lang/RuntimeException"), .declares (Bundle.initS "java/lang/Exception"), .declares (Bundle.initS Bundle.tN), .castable "java/lang/IllegalStateException" "java/lang/IllegalStateException"]) (fun w h => hts w (List.mem_cons_of_mem _ (List.mem_append_left _ (List.mem_append_right _ h)))) (by decide +kernel) (vx_c (va_Nw.use rfl (hO.2.2.2.2.2.2.2.2.1)) (vx_c (va_Nw.use rfl (hO.2.2.2.2.2.2.2.2.2.1)) (vx_c (va_Nw.use rfl (hO.2.2.2.2.2.2.2.2.2.2.1)) (vx_c (va_Nw.use rfl (hO.2.2.2.2.2.2.2.2.2.2.2.2.2.1)) vx_n))))) (by decide +kernel) (hO.2.2.2.2.1) (hO.2.2.2.2.2.1) hw (hl.1.trans hml.symm) dX6_clear_44 dX6_clear_47 dX6_clear_48 dX6_clear_50 dX6_clear_53 ht (Nat.le_of_ble_eq_true rfl) (Nat.le_of_ble_eq_true rfl) (hmc _ rfl).1 (hmc _ rfl).2 hlocks rfl (hmc _ rfl).1 (hmc _ rfl).2
  · cases h
    exact mg_throw (k := 2) (own := RX6) (text := "the cell is bare") (ik := 94) (is := 96) (ic := 98) hx hb hst hown (by decide +kernel) w5_ w6_ (hO.2.2.2.2.2.2.2.2.2.2.2.2.2.2.2.2.2.2.2.2.2.2.2.2.2.2.2.2.2.1) (vx_hat (B := [.declares (Bundle.initS "java/lang/RuntimeException"), .declares (Bundle.initS "java/lang/Exception"), .declares (Bundle.initS Bundle.tN), .castable "java/lang/IllegalStateException" "java/lang/IllegalStateException"]) (fun w h => hts w (List.mem_cons_of_mem _ (List.mem_append_left _ (List.mem_append_right _ h)))) (by decide +kernel) (vx_c (va_Nw.use rfl (hO.2.2.2.2.2.2.2.2.1)) (vx_c (va_Nw.use rfl (hO.2.2.2.2.2.2.2.2.2.1)) (vx_c (va_Nw.use rfl (hO.2.2.2.2.2.2.2.2.2.2.1)) (vx_c (va_Nw.use rfl (hO.2.2.2.2.2.2.2.2.2.2.2.2.2.1)) vx_n))))) (by decide +kernel) (hO.2.2.2.2.1) (hO.2.2.2.2.2.1) hw (hl.1.trans hml.symm) dX6_clear_23 dX6_clear_26 dX6_clear_27 dX6_clear_29 dX6_clear_32 ht (Nat.le_of_ble_eq_true rfl) (Nat.le_of_ble_eq_true rfl) (hmc _ rfl).1 (hmc _ rfl).2 hlocks rfl (hmc _ rfl).1 (hmc _ rfl).2
set_option maxHeartbeats 4000000 in
set_option maxRecDepth 100000 in
theorem k_X6_checkWhat (l : Launch) (hst : l.stackTraces = false) (D : va_G) (o : Nat → Nat) (cI cZ : ClassId) (g : Nat → Nat) (sz : Nat) (σ : mg_St) (x1 : Int32) (x2 : Int32) (out : Except (Fin 3) Unit) (σ9 : mg_St) (h : f_X6_checkWhat σ x1 x2 = some (out, σ9)) (mc ms : Nat) (hmc : ∀ k, out = .error k → 1 ≤ mc ∧ 6 ≤ ms) : mg_CX l yX6_checkWhat wsX6_checkWhat ({ frames := 6, cells := mc, slots := ms, locals := 90 } : Room) D [(cI, .int), (cZ, .boolean)] o (mg_cW g cI cZ σ) sz [.ref (g 0), .int x1, .int x2] (Except.map (fun _ : Unit => none) out) (mg_cW g cI cZ σ9) mc ms := by
  unfold mg_CX
  refine vx_ofW (cc := cX6_checkWhat) (maxL := 3) (ret := none) (by decide) rfl ?_
  intro p e s m args below meth c s₁ B hml ht hv
  obtain ⟨rfl, hsz, hP, hK, hD0, hO⟩ := hv
  have hx := B.exec
  have hb := B.bytes
  have hr := B.returns
  have hts := atoms_spec (ws := wsX6_checkWhat) B.pre
  have hown : s.vm.findClass RX6 = some m.cls := findClass_of_methodNamed B.named
  have hlocks := B.notSynchronized
  subst hsz
  have hD := hD0.self (sz := s.heap.size)
  generalize hAe : va_A (mg_cW g cI cZ σ) s.heap.size = A at hD hO ⊢
  have hA : ∀ q : Nat, s.heap.size ≤ q → A q := fun q h => by rw [← hAe]; exact Or.inr h
  have hw : mg_Wo D A s.heap s.heap [] (mg_cW g cI cZ σ) := ⟨hP, hD, va_S.rf⟩
  have G9 : CallFix p m c cX6_checkWhat 3 s ([.ref (g 0), .int x1, .int x2] : List Value).toArray wsX6_checkWhat RX6 := ⟨hx, hb, hml, hown, hts⟩
  clear hP hD hD0 hAe
  obtain ⟨H, hHe⟩ : ∃ H : Heap, H = s.heap := ⟨_, rfl⟩
  have w0_ := hts (.classLink RX6 249 "java/lang/IndexOutOfBoundsException") (by decide +kernel)
  have w1_ := hts (.initialized "java/lang/IndexOutOfBoundsException") (by decide +kernel)
  have hl := lv_entry ([.ref (g 0), .int x1, .int x2]) (n := 3) (Nat.le_of_ble_eq_true rfl)
  rw [lg_entry_eq]
  generalize (lg_sl ([.ref (g 0), .int x1, .int x2]) ++ List.replicate (3 - (lg_sl ([.ref (g 0), .int x1, .int x2])).length) Slot.unset).toArray = ls at hl ⊢
  have hl : lv_has ls 3 [(0, .ref (g 0)), (1, .int x1), (2, .int x2)] := hl
  unfold f_X6_checkWhat at h
  revert hw
  intro hw
  suffices K_ : ∀ (H : Heap) (locs : List Loc), mg_Wo D A s.heap H locs (mg_cW g cI cZ σ) → W p l e (headSpec wsX6_checkWhat ({ frames := 6, cells := mc, slots := ms, locals := 90 } : Room)).room s m ([.ref (g 0), .int x1, .int x2] : List Value).toArray below meth c H locs 0 0 (vx_MQ below (mg_QX D (mg_cW g cI cZ σ9) A (Except.map (fun _ : Unit => none) out)) (mg_XC D (mg_cW g cI cZ σ9) A (Except.map (fun _ : Unit => none) out)) ([.ref (g 0), .int x1, .int x2] : List Value).toArray s mc ms A) (F0 m 0 ls []) from K_ _ _ hw
  clear hw hHe H
  intro H locs hw
  refine lv_iload_n hx hb dX6_checkWhat_0 rfl (lv_at hl 1 rfl) ?_
  refine mg_if_lt (tgt := 9) hx hb h dX6_checkWhat_1 (by decide) (fun h => ?_) (fun h => ?_)
  · cases h
    exact mg_throwW (k := 0) (own := RX6) (text := "this is not told") (ik := 249) (is := 350) (ic := 253) hx hb hst hown (by decide +kernel) w0_ w1_ (hO.2.2.2.2.2.2.2.2.2.2.2.2.2.2.2.2.2.2.2.2.2.2.2.2.2.2.2.2.2.2.2.2.2.2.2.1) (vx_hat (B := [.declares (Bundle.initS "java/lang/RuntimeException"), .declares (Bundle.initS "java/lang/Exception"), .declares (Bundle.initS Bundle.tN), .castable "java/lang/IndexOutOfBoundsException" "java/lang/IndexOutOfBoundsException"]) (fun w h => hts w (List.mem_cons_of_mem _ (List.mem_append_right _ h))) (by decide +kernel) (vx_c (va_Nw.use rfl (hO.2.2.2.2.2.2.2.2.1)) (vx_c (va_Nw.use rfl (hO.2.2.2.2.2.2.2.2.2.1)) (vx_c (va_Nw.use rfl (hO.2.2.2.2.2.2.2.2.2.2.1)) (vx_c (va_Nw.use rfl (hO.2.2.2.2.2.2.2.2.2.2.2.1)) vx_n))))) (by decide +kernel) (hO.2.2.2.2.1) (hO.2.2.2.2.2.1) hw (hl.1.trans hml.symm) dX6_checkWhat_9 dX6_checkWhat_12 dX6_checkWhat_13 dX6_checkWhat_16 dX6_checkWhat_19 ht (Nat.le_of_ble_eq_true rfl) (Nat.le_of_ble_eq_true rfl) (hmc _ rfl).1 (hmc _ rfl).2 hlocks rfl (hmc _ rfl).1 (hmc _ rfl).2
  · refine lv_iload_n hx hb dX6_checkWhat_4 rfl (lv_at hl 1 rfl) ?_
    refine lv_iload_n hx hb dX6_checkWhat_5 rfl (lv_at hl 2 rfl) ?_
    refine mg_icmp_lt (tgt := 20) hx hb h dX6_checkWhat_6 (by decide) (fun h => ?_) (fun h => ?_)
    · cases h
      exact mg_xV hx hb hr hlocks hw rfl (Nat.zero_le _) (Nat.zero_le _) dX6_checkWhat_20
    · cases h
      exact mg_throwW (k := 0) (own := RX6) (text := "this is not told") (ik := 249) (is := 350) (ic := 253) hx hb hst hown (by decide +kernel) w0_ w1_ (hO.2.2.2.2.2.2.2.2.2.2.2.2.2.2.2.2.2.2.2.2.2.2.2.2.2.2.2.2.2.2.2.2.2.2.2.1) (vx_hat (B := [.declares (Bundle.initS "java/lang/RuntimeException"), .declares (Bundle.initS "java/lang/Exception"), .declares (Bundle.initS Bundle.tN), .castable "java/lang/IndexOutOfBoundsException" "java/lang/IndexOutOfBoundsException"]) (fun w h => hts w (List.mem_cons_of_mem _ (List.mem_append_right _ h))) (by decide +kernel) (vx_c (va_Nw.use rfl (hO.2.2.2.2.2.2.2.2.1)) (vx_c (va_Nw.use rfl (hO.2.2.2.2.2.2.2.2.2.1)) (vx_c (va_Nw.use rfl (hO.2.2.2.2.2.2.2.2.2.2.1)) (vx_c (va_Nw.use rfl (hO.2.2.2.2.2.2.2.2.2.2.2.1)) vx_n))))) (by decide +kernel) (hO.2.2.2.2.1) (hO.2.2.2.2.2.1) hw (hl.1.trans hml.symm) dX6_checkWhat_9 dX6_checkWhat_12 dX6_checkWhat_13 dX6_checkWhat_16 dX6_checkWhat_19 ht (Nat.le_of_ble_eq_true rfl) (Nat.le_of_ble_eq_true rfl) (hmc _ rfl).1 (hmc _ rfl).2 hlocks rfl (hmc _ rfl).1 (hmc _ rfl).2
set_option maxHeartbeats 4000000 in
set_option maxRecDepth 100000 in
theorem k_X6_cell (l : Launch) (hst : l.stackTraces = false) (D : va_G) (o : Nat → Nat) (cI cZ : ClassId) (g : Nat → Nat) (sz : Nat) (σ : mg_St) (x1 : Int32) (x2 : Int32) (x3 : Int32) (out : Except (Fin 3) Int32) (σ9 : mg_St) (h : f_X6_cell σ x1 x2 x3 = some (out, σ9)) (mc ms : Nat) (hmc : ∀ k, out = .error k → 1 ≤ mc ∧ 6 ≤ ms) : mg_CX l yX6_cell wsX6_cell ({ frames := 7, cells := mc, slots := ms, locals := 112 } : Room) D [(cI, .int), (cZ, .boolean)] o (mg_cW g cI cZ σ) sz [.ref (g 0), .int x1, .int x2, .int x3] (Except.map (fun v : Int32 => some (.int v)) out) (mg_cW g cI cZ σ9) mc ms := by
  unfold mg_CX
  refine vx_ofW (cc := cX6_cell) (maxL := 5) (ret := (some .int)) (by decide) rfl ?_
  intro p e s m args below meth c s₁ B hml ht hv
  obtain ⟨rfl, hsz, hP, hK, hD0, hO⟩ := hv
  have hx := B.exec
  have hb := B.bytes
  have hr := B.returns
  have hts := atoms_spec (ws := wsX6_cell) B.pre
  have hown : s.vm.findClass RX6 = some m.cls := findClass_of_methodNamed B.named
  have hlocks := B.notSynchronized
  subst hsz
  have hD := hD0.self (sz := s.heap.size)
  generalize hAe : va_A (mg_cW g cI cZ σ) s.heap.size = A at hD hO ⊢
  have hA : ∀ q : Nat, s.heap.size ≤ q → A q := fun q h => by rw [← hAe]; exact Or.inr h
  have hw : mg_Wo D A s.heap s.heap [] (mg_cW g cI cZ σ) := ⟨hP, hD, va_S.rf⟩
  have G9 : CallFix p m c cX6_cell 5 s ([.ref (g 0), .int x1, .int x2, .int x3] : List Value).toArray wsX6_cell RX6 := ⟨hx, hb, hml, hown, hts⟩
  clear hP hD hD0 hAe
  obtain ⟨H, hHe⟩ : ∃ H : Heap, H = s.heap := ⟨_, rfl⟩
  have w0_ := hts (.fieldLink RX6 10 "MoonGate" "garden" "LMoonGate$Garden;") (by decide +kernel)
  have iX6_ : ∀ w ∈ wsX60, w ∈ wsX6_cell := (fun _ h => List.mem_cons_of_mem _ (List.mem_append_left _ (List.mem_append_left _ (List.mem_append_right _ h))))
  have hl := lv_entry ([.ref (g 0), .int x1, .int x2, .int x3]) (n := 5) (Nat.le_of_ble_eq_true rfl)
  rw [lg_entry_eq]
  generalize (lg_sl ([.ref (g 0), .int x1, .int x2, .int x3]) ++ List.replicate (5 - (lg_sl ([.ref (g 0), .int x1, .int x2, .int x3])).length) Slot.unset).toArray = ls at hl ⊢
  have hl : lv_has ls 5 [(0, .ref (g 0)), (1, .int x1), (2, .int x2), (3, .int x3)] := hl
  unfold f_X6_cell at h
  revert hw
  intro hw
  suffices K_ : ∀ (H : Heap) (locs : List Loc), mg_Wo D A s.heap H locs (mg_cW g cI cZ σ) → W p l e (headSpec wsX6_cell ({ frames := 7, cells := mc, slots := ms, locals := 112 } : Room)).room s m ([.ref (g 0), .int x1, .int x2, .int x3] : List Value).toArray below meth c H locs 0 0 (vx_MQ below (mg_QX D (mg_cW g cI cZ σ9) A (Except.map (fun v : Int32 => some (.int v)) out)) (mg_XC D (mg_cW g cI cZ σ9) A (Except.map (fun v : Int32 => some (.int v)) out)) ([.ref (g 0), .int x1, .int x2, .int x3] : List Value).toArray s mc ms A) (F0 m 0 ls []) from K_ _ _ hw
  clear hw hHe H
  intro H locs hw
  refine lv_aload_n hx hb dX6_cell_0 rfl (lv_at hl 0 rfl) ?_
  refine lv_iload_n hx hb dX6_cell_1 rfl (lv_at hl 1 rfl) ?_
  refine lv_iload_n hx hb dX6_cell_2 rfl (lv_at hl 2 rfl) ?_
  refine mg_kxx (wd := mg_cW g cI cZ) h (fun _ : Unit => none) (fun v : Int32 => some (.int v)) (fun mc9 ms9 o9 s9 hm9 h9 hc9 hs9 => vx_runV (As := [.int x1, .int x2]) (rest := []) G9 (k_X6_checkPlace l hst D o cI cZ g H.size σ x1 x2 o9 s9 h9 mc9 ms9 hm9) (cwV 2 hts gX6_cell_X6_checkPlace rfl rfl rfl (by decide +kernel) ⟨Nat.le_of_ble_eq_true rfl, Nat.le_of_ble_eq_true rfl⟩) (mg_preV hK hO hA hw (q0 := 0) rfl rfl) rfl rfl hl.1 rfl (lv_room (Nat.le_of_ble_eq_true rfl)) dX6_cell_3 ⟨hc9, hs9⟩) hw hA ht hlocks (Nat.zero_le _) (Nat.zero_le _) (fun k9 hk9 => ⟨(hmc k9 hk9).1, (hmc k9 hk9).2, (hmc k9 hk9).1, (hmc k9 hk9).2⟩) (fun _ s2 h H locs hw => ?_)
  refine lv_aload_n hx hb dX6_cell_6 rfl (lv_at hl 0 rfl) ?_
  refine lv_iload_n hx hb dX6_cell_7 rfl (lv_at hl 3 rfl) ?_
  refine lv_iconst (v := 5) hx hb dX6_cell_8 (by decide) ?_
  refine mg_kxx (wd := mg_cW g cI cZ) h (fun _ : Unit => none) (fun v : Int32 => some (.int v)) (fun mc9 ms9 o9 s9 hm9 h9 hc9 hs9 => vx_runV (As := [.int x3, .int 5]) (rest := []) G9 (k_X6_checkWhat l hst D o cI cZ g H.size s2 x3 5 o9 s9 h9 mc9 ms9 hm9) (cwV 2 hts gX6_cell_X6_checkWhat rfl rfl rfl (by decide +kernel) ⟨Nat.le_of_ble_eq_true rfl, Nat.le_of_ble_eq_true rfl⟩) (mg_preV hK hO hA hw (q0 := 0) rfl rfl) rfl rfl hl.1 rfl (lv_room (Nat.le_of_ble_eq_true rfl)) dX6_cell_9 ⟨hc9, hs9⟩) hw hA ht hlocks (Nat.zero_le _) (Nat.zero_le _) (fun k9 hk9 => ⟨(hmc k9 hk9).1, (hmc k9 hk9).2, (hmc k9 hk9).1, (hmc k9 hk9).2⟩) (fun _ s4 h H locs hw => ?_)
  refine lv_iload_n hx hb dX6_cell_12 rfl (lv_at hl 1 rfl) ?_
  refine lv_iload_n hx hb dX6_cell_13 rfl (lv_at hl 2 rfl) ?_
  obtain ⟨y5, h9_, h⟩ := mg_bind h
  refine mg_k (rv := (some (.int y5))) (va_runS (As := [.int x1, .int x2]) (rest := []) G9 (k_X1_numberOf l D o cI cZ g H.size s4 x1 x2 y5 h9_) (va_cwS 2 hts gX6_cell_X1_numberOf rfl rfl rfl (by decide +kernel) ⟨Nat.le_of_ble_eq_true rfl, Nat.le_of_ble_eq_true rfl⟩) (mg_pre hK hO hA hw) rfl rfl hl.1 rfl (lv_room (Nat.le_of_ble_eq_true rfl)) dX6_cell_14 ⟨Nat.zero_le _, Nat.zero_le _⟩) hw hA (fun H locs hw => ?_)
  clear h9_
  refine lv_istore (lv' := [(4, .int y5), (0, .ref (g 0)), (1, .int x1), (2, .int x2), (3, .int x3)]) hx hb dX6_cell_17 hl (by decide) rfl (fun ls hl => ?_)
  refine lv_iload_n hx hb dX6_cell_19 rfl (lv_at hl 4 rfl) ?_
  by_cases g0_ : x3 = 0
  · rw [if_pos g0_] at h
    refine lv_tableIn (off := 32) (tgt := 52) hx hb dX6_cell_20 (by rw [g0_]; decide) (by rw [g0_]; decide) (by rw [g0_]; rfl) (by decide) ?_
    refine lv_aload_n hx hb dX6_cell_52 rfl (lv_at hl 1 rfl) ?_
    refine va_get (D := D) (ci := 6) (v := .ref (g 1)) (C := RX6) (T := TX6) (N := 7) hx hb hts iX6_ hown hK hw.1 0 rfl rfl 0 (by decide) w0_ (fun _ h9 => h9) rfl dX6_cell_53 ?_
    refine lv_iload hx hb dX6_cell_56 (lv_at hl 0 rfl) ?_
    obtain ⟨y6, h9_, h⟩ := mg_bind h
    refine mg_k (rv := (some (.int y6))) (va_runV (As := [.int y5]) (rest := []) G9 (k_X1_kindAt l D o cI cZ g H.size s4 y5 y6 h9_) (cwV 1 hts gX6_cell_X1_kindAt rfl rfl rfl (by decide +kernel) ⟨Nat.le_of_ble_eq_true rfl, Nat.le_of_ble_eq_true rfl⟩) (mg_preV hK hO hA hw (q0 := 1) rfl rfl) rfl rfl hl.1 rfl (lv_room (Nat.le_of_ble_eq_true rfl)) dX6_cell_58 ⟨Nat.zero_le _, Nat.zero_le _⟩) hw hA (fun H locs hw => ?_)
    clear h9_
    cases h
    exact mg_xI hx hb hr hlocks hw rfl (Nat.zero_le _) (Nat.zero_le _) dX6_cell_61
  · rw [if_neg g0_] at h
    by_cases g1_ : x3 = 1
    · rw [if_pos g1_] at h
      refine lv_tableIn (off := 42) (tgt := 62) hx hb dX6_cell_20 (by rw [g1_]; decide) (by rw [g1_]; decide) (by rw [g1_]; rfl) (by decide) ?_
      refine lv_aload_n hx hb dX6_cell_62 rfl (lv_at hl 1 rfl) ?_
      refine va_get (D := D) (ci := 6) (v := .ref (g 1)) (C := RX6) (T := TX6) (N := 7) hx hb hts iX6_ hown hK hw.1 0 rfl rfl 0 (by decide) w0_ (fun _ h9 => h9) rfl dX6_cell_63 ?_
      refine lv_iload hx hb dX6_cell_66 (lv_at hl 0 rfl) ?_
      obtain ⟨y7, h9_, h⟩ := mg_bind h
      refine mg_k (rv := (some (.int y7))) (va_runV (As := [.int y5]) (rest := []) G9 (k_X1_shapeAt l D o cI cZ g H.size s4 y5 y7 h9_) (cwV 1 hts gX6_cell_X1_shapeAt rfl rfl rfl (by decide +kernel) ⟨Nat.le_of_ble_eq_true rfl, Nat.le_of_ble_eq_true rfl⟩) (mg_preV hK hO hA hw (q0 := 1) rfl rfl) rfl rfl hl.1 rfl (lv_room (Nat.le_of_ble_eq_true rfl)) dX6_cell_68 ⟨Nat.zero_le _, Nat.zero_le _⟩) hw hA (fun H locs hw => ?_)
      clear h9_
      cases h
      exact mg_xI hx hb hr hlocks hw rfl (Nat.zero_le _) (Nat.zero_le _) dX6_cell_71
    · rw [if_neg g1_] at h
      by_cases g2_ : x3 = 2
      · rw [if_pos g2_] at h
        refine lv_tableIn (off := 52) (tgt := 72) hx hb dX6_cell_20 (by rw [g2_]; decide) (by rw [g2_]; decide) (by rw [g2_]; rfl) (by decide) ?_
        refine lv_aload_n hx hb dX6_cell_72 rfl (lv_at hl 1 rfl) ?_
        refine va_get (D := D) (ci := 6) (v := .ref (g 1)) (C := RX6) (T := TX6) (N := 7) hx hb hts iX6_ hown hK hw.1 0 rfl rfl 0 (by decide) w0_ (fun _ h9 => h9) rfl dX6_cell_73 ?_
        refine lv_iload hx hb dX6_cell_76 (lv_at hl 0 rfl) ?_
        obtain ⟨y8, h9_, h⟩ := mg_bind h
        refine mg_k (rv := (some (.int y8))) (va_runV (As := [.int y5]) (rest := []) G9 (k_X1_sizeAt l D o cI cZ g H.size s4 y5 y8 h9_) (cwV 1 hts gX6_cell_X1_sizeAt rfl rfl rfl (by decide +kernel) ⟨Nat.le_of_ble_eq_true rfl, Nat.le_of_ble_eq_true rfl⟩) (mg_preV hK hO hA hw (q0 := 1) rfl rfl) rfl rfl hl.1 rfl (lv_room (Nat.le_of_ble_eq_true rfl)) dX6_cell_78 ⟨Nat.zero_le _, Nat.zero_le _⟩) hw hA (fun H locs hw => ?_)
        clear h9_
        cases h
        exact mg_xI hx hb hr hlocks hw rfl (Nat.zero_le _) (Nat.zero_le _) dX6_cell_81
      · rw [if_neg g2_] at h
        by_cases g3_ : x3 = 3
        · rw [if_pos g3_] at h
          refine lv_tableIn (off := 62) (tgt := 82) hx hb dX6_cell_20 (by rw [g3_]; decide) (by rw [g3_]; decide) (by rw [g3_]; rfl) (by decide) ?_
          refine lv_aload_n hx hb dX6_cell_82 rfl (lv_at hl 1 rfl) ?_
          refine va_get (D := D) (ci := 6) (v := .ref (g 1)) (C := RX6) (T := TX6) (N := 7) hx hb hts iX6_ hown hK hw.1 0 rfl rfl 0 (by decide) w0_ (fun _ h9 => h9) rfl dX6_cell_83 ?_
          refine lv_iload hx hb dX6_cell_86 (lv_at hl 0 rfl) ?_
          obtain ⟨y9, h9_, h⟩ := mg_bind h
          refine mg_k (rv := (some (.int y9))) (va_runV (As := [.int y5]) (rest := []) G9 (k_X1_cellsOfPondAt l D o cI cZ g H.size s4 y5 y9 h9_) (cwV 1 hts gX6_cell_X1_cellsOfPondAt rfl rfl rfl (by decide +kernel) ⟨Nat.le_of_ble_eq_true rfl, Nat.le_of_ble_eq_true rfl⟩) (mg_preV hK hO hA hw (q0 := 1) rfl rfl) rfl rfl hl.1 rfl (lv_room (Nat.le_of_ble_eq_true rfl)) dX6_cell_88 ⟨Nat.zero_le _, Nat.zero_le _⟩) hw hA (fun H locs hw => ?_)
          clear h9_
          cases h
          exact mg_xI hx hb hr hlocks hw rfl (Nat.zero_le _) (Nat.zero_le _) dX6_cell_91
        · rw [if_neg g3_] at h
          have e0_ := lv_neT (a := 0) g0_ rfl
          have e1_ := lv_neT (a := 1) g1_ rfl
          have e2_ := lv_neT (a := 2) g2_ rfl
          have e3_ := lv_neT (a := 3) g3_ rfl
          refine lv_tableOut (tgt := 92) hx hb dX6_cell_20 (by omega) (by decide) ?_
          refine lv_aload_n hx hb dX6_cell_92 rfl (lv_at hl 1 rfl) ?_
          refine va_get (D := D) (ci := 6) (v := .ref (g 1)) (C := RX6) (T := TX6) (N := 7) hx hb hts iX6_ hown hK hw.1 0 rfl rfl 0 (by decide) w0_ (fun _ h9 => h9) rfl dX6_cell_93 ?_
          refine lv_iload hx hb dX6_cell_96 (lv_at hl 0 rfl) ?_
          obtain ⟨y10, h9_, h⟩ := mg_bind h
          refine mg_k (rv := (some (.int y10))) (va_runV (As := [.int y5]) (rest := []) G9 (k_X1_carpsOfPondAt l D o cI cZ g H.size s4 y5 y10 h9_) (cwV 1 hts gX6_cell_X1_carpsOfPondAt rfl rfl rfl (by decide +kernel) ⟨Nat.le_of_ble_eq_true rfl, Nat.le_of_ble_eq_true rfl⟩) (mg_preV hK hO hA hw (q0 := 1) rfl rfl) rfl rfl hl.1 rfl (lv_room (Nat.le_of_ble_eq_true rfl)) dX6_cell_98 ⟨Nat.zero_le _, Nat.zero_le _⟩) hw hA (fun H locs hw => ?_)
          clear h9_
          cases h
          exact mg_xI hx hb hr hlocks hw rfl (Nat.zero_le _) (Nat.zero_le _) dX6_cell_101
set_option maxHeartbeats 4000000 in
set_option maxRecDepth 100000 in
theorem k_X6_carp (l : Launch) (hst : l.stackTraces = false) (D : va_G) (o : Nat → Nat) (cI cZ : ClassId) (g : Nat → Nat) (sz : Nat) (σ : mg_St) (x1 : Int32) (x2 : Int32) (out : Except (Fin 3) Int32) (σ9 : mg_St) (h : f_X6_carp σ x1 x2 = some (out, σ9)) (mc ms : Nat) (hmc : ∀ k, out = .error k → 1 ≤ mc ∧ 6 ≤ ms) : mg_CX l yX6_carp wsX6_carp ({ frames := 7, cells := mc, slots := ms, locals := 112 } : Room) D [(cI, .int), (cZ, .boolean)] o (mg_cW g cI cZ σ) sz [.ref (g 0), .int x1, .int x2] (Except.map (fun v : Int32 => some (.int v)) out) (mg_cW g cI cZ σ9) mc ms := by
  unfold mg_CX
  refine vx_ofW (cc := cX6_carp) (maxL := 5) (ret := (some .int)) (by decide) rfl ?_
  intro p e s m args below meth c s₁ B hml ht hv
  obtain ⟨rfl, hsz, hP, hK, hD0, hO⟩ := hv
  have hx := B.exec
  have hb := B.bytes
  have hr := B.returns
  have hts := atoms_spec (ws := wsX6_carp) B.pre
  have hown : s.vm.findClass RX6 = some m.cls := findClass_of_methodNamed B.named
  have hlocks := B.notSynchronized
  subst hsz
  have hD := hD0.self (sz := s.heap.size)
  generalize hAe : va_A (mg_cW g cI cZ σ) s.heap.size = A at hD hO ⊢
  have hA : ∀ q : Nat, s.heap.size ≤ q → A q := fun q h => by rw [← hAe]; exact Or.inr h
  have hw : mg_Wo D A s.heap s.heap [] (mg_cW g cI cZ σ) := ⟨hP, hD, va_S.rf⟩
  have G9 : CallFix p m c cX6_carp 5 s ([.ref (g 0), .int x1, .int x2] : List Value).toArray wsX6_carp RX6 := ⟨hx, hb, hml, hown, hts⟩
  clear hP hD hD0 hAe
  obtain ⟨H, hHe⟩ : ∃ H : Heap, H = s.heap := ⟨_, rfl⟩
  have w0_ := hts (.fieldLink RX6 10 "MoonGate" "garden" "LMoonGate$Garden;") (by decide +kernel)
  have iX6_ : ∀ w ∈ wsX60, w ∈ wsX6_carp := (fun _ h => List.mem_cons_of_mem _ (List.mem_append_left _ (List.mem_append_left _ (List.mem_append_left _ (List.mem_append_left _ (List.mem_append_left _ (List.mem_append_right _ h)))))))
  have w2_ := hts (.fieldLink RX6 19 "MoonGate" "shoal" "LMoonGate$Shoal;") (by decide +kernel)
  have w3_ := hts (.fieldLink RX6 129 "MoonGate$Shoal" "came" "I") (by decide +kernel)
  have iX4_ : ∀ w ∈ wsX40, w ∈ wsX6_carp := (fun _ h => List.mem_cons_of_mem _ (List.mem_append_left _ (List.mem_append_left _ (List.mem_append_left _ (List.mem_append_left _ (List.mem_append_right _ h))))))
  have w5_ := hts (.fieldLink RX6 40 "MoonGate" "now" "LMoonGate$Course;") (by decide +kernel)
  have w6_ := hts (.classLink RX6 94 "java/lang/IllegalStateException") (by decide +kernel)
  have w7_ := hts (.initialized "java/lang/IllegalStateException") (by decide +kernel)
  have hl := lv_entry ([.ref (g 0), .int x1, .int x2]) (n := 5) (Nat.le_of_ble_eq_true rfl)
  rw [lg_entry_eq]
  generalize (lg_sl ([.ref (g 0), .int x1, .int x2]) ++ List.replicate (5 - (lg_sl ([.ref (g 0), .int x1, .int x2])).length) Slot.unset).toArray = ls at hl ⊢
  have hl : lv_has ls 5 [(0, .ref (g 0)), (1, .int x1), (2, .int x2)] := hl
  unfold f_X6_carp at h
  revert hw
  intro hw
  suffices K_ : ∀ (H : Heap) (locs : List Loc), mg_Wo D A s.heap H locs (mg_cW g cI cZ σ) → W p l e (headSpec wsX6_carp ({ frames := 7, cells := mc, slots := ms, locals := 112 } : Room)).room s m ([.ref (g 0), .int x1, .int x2] : List Value).toArray below meth c H locs 0 0 (vx_MQ below (mg_QX D (mg_cW g cI cZ σ9) A (Except.map (fun v : Int32 => some (.int v)) out)) (mg_XC D (mg_cW g cI cZ σ9) A (Except.map (fun v : Int32 => some (.int v)) out)) ([.ref (g 0), .int x1, .int x2] : List Value).toArray s mc ms A) (F0 m 0 ls []) from K_ _ _ hw
  clear hw hHe H
  intro H locs hw
  refine lv_aload_n hx hb dX6_carp_0 rfl (lv_at hl 0 rfl) ?_
  refine lv_iload_n hx hb dX6_carp_1 rfl (lv_at hl 1 rfl) ?_
  refine lv_iload_n hx hb dX6_carp_2 rfl (lv_at hl 2 rfl) ?_
  refine mg_kxx (wd := mg_cW g cI cZ) h (fun _ : Unit => none) (fun v : Int32 => some (.int v)) (fun mc9 ms9 o9 s9 hm9 h9 hc9 hs9 => vx_runV (As := [.int x1, .int x2]) (rest := []) G9 (k_X6_checkPlace l hst D o cI cZ g H.size σ x1 x2 o9 s9 h9 mc9 ms9 hm9) (cwV 2 hts gX6_carp_X6_checkPlace rfl rfl rfl (by decide +kernel) ⟨Nat.le_of_ble_eq_true rfl, Nat.le_of_ble_eq_true rfl⟩) (mg_preV hK hO hA hw (q0 := 0) rfl rfl) rfl rfl hl.1 rfl (lv_room (Nat.le_of_ble_eq_true rfl)) dX6_carp_3 ⟨hc9, hs9⟩) hw hA ht hlocks (Nat.zero_le _) (Nat.zero_le _) (fun k9 hk9 => ⟨(hmc k9 hk9).1, (hmc k9 hk9).2, (hmc k9 hk9).1, (hmc k9 hk9).2⟩) (fun _ s2 h H locs hw => ?_)
  refine lv_iload_n hx hb dX6_carp_6 rfl (lv_at hl 1 rfl) ?_
  refine lv_iload_n hx hb dX6_carp_7 rfl (lv_at hl 2 rfl) ?_
  obtain ⟨y3, h9_, h⟩ := mg_bind h
  refine mg_k (rv := (some (.int y3))) (va_runS (As := [.int x1, .int x2]) (rest := []) G9 (k_X1_numberOf l D o cI cZ g H.size s2 x1 x2 y3 h9_) (va_cwS 2 hts gX6_carp_X1_numberOf rfl rfl rfl (by decide +kernel) ⟨Nat.le_of_ble_eq_true rfl, Nat.le_of_ble_eq_true rfl⟩) (mg_pre hK hO hA hw) rfl rfl hl.1 rfl (lv_room (Nat.le_of_ble_eq_true rfl)) dX6_carp_8 ⟨Nat.zero_le _, Nat.zero_le _⟩) hw hA (fun H locs hw => ?_)
  clear h9_
  refine lv_istore_n (lv' := [(3, .int y3), (0, .ref (g 0)), (1, .int x1), (2, .int x2)]) hx hb dX6_carp_11 rfl hl (by decide) rfl (fun ls hl => ?_)
  refine lv_aload_n hx hb dX6_carp_12 rfl (lv_at hl 1 rfl) ?_
  refine va_get (D := D) (ci := 6) (v := .ref (g 1)) (C := RX6) (T := TX6) (N := 7) hx hb hts iX6_ hown hK hw.1 0 rfl rfl 0 (by decide) w0_ (fun _ h9 => h9) rfl dX6_carp_13 ?_
  refine lv_iload_n hx hb dX6_carp_16 rfl (lv_at hl 0 rfl) ?_
  obtain ⟨y4, h9_, h⟩ := mg_bind h
  refine mg_k (rv := (some (.int y4))) (va_runV (As := [.int y3]) (rest := []) G9 (k_X1_isPond l D o cI cZ g H.size s2 y3 y4 h9_) (cwV 1 hts gX6_carp_X1_isPond rfl rfl rfl (by decide +kernel) ⟨Nat.le_of_ble_eq_true rfl, Nat.le_of_ble_eq_true rfl⟩) (mg_preV hK hO hA hw (q0 := 1) rfl rfl) rfl rfl hl.1 rfl (lv_room (Nat.le_of_ble_eq_true rfl)) dX6_carp_17 ⟨Nat.zero_le _, Nat.zero_le _⟩) hw hA (fun H locs hw => ?_)
  clear h9_
  refine mg_if_ne (tgt := 33) hx hb h dX6_carp_20 (by decide) (fun h => ?_) (fun h => ?_)
  · refine lv_aload_n hx hb dX6_carp_33 rfl (lv_at hl 1 rfl) ?_
    refine va_get (D := D) (ci := 6) (v := .ref (g 2)) (C := RX6) (T := TX6) (N := 7) hx hb hts iX6_ hown hK hw.1 0 rfl rfl 1 (by decide) w2_ (fun _ h9 => h9) rfl dX6_carp_34 ?_
    refine va_get (D := D) (ci := 4) (v := .int (s2 2 2)) (C := RX4) (T := TX4) (N := 3) hx hb hts iX4_ hown hK hw.1 2 rfl rfl 2 (by decide) w3_ (fun _ h9 => h9) rfl dX6_carp_37 ?_
    refine lv_bipush (v := 30) hx hb dX6_carp_40 (by decide) ?_
    refine mg_icmp_lt (tgt := 55) hx hb h dX6_carp_42 (by decide) (fun h => ?_) (fun h => ?_)
    · refine lv_aload_n hx hb dX6_carp_55 rfl (lv_at hl 1 rfl) ?_
      refine lv_iconst (v := 4) hx hb dX6_carp_56 (by decide) ?_
      refine mg_kxx (wd := mg_cW g cI cZ) h (fun _ : Unit => none) (fun v : Int32 => some (.int v)) (fun mc9 ms9 o9 s9 hm9 h9 hc9 hs9 => vx_runV (As := [.int 4]) (rest := []) G9 (k_X6_spend l hst D o cI cZ g H.size s2 4 o9 s9 h9 mc9 ms9 hm9) (cwV 1 hts gX6_carp_X6_spend rfl rfl rfl (by decide +kernel) ⟨Nat.le_of_ble_eq_true rfl, Nat.le_of_ble_eq_true rfl⟩) (mg_preV hK hO hA hw (q0 := 0) rfl rfl) rfl rfl hl.1 rfl (lv_room (Nat.le_of_ble_eq_true rfl)) dX6_carp_57 ⟨hc9, hs9⟩) hw hA ht hlocks (Nat.zero_le _) (Nat.zero_le _) (fun k9 hk9 => ⟨(hmc k9 hk9).1, (hmc k9 hk9).2, (hmc k9 hk9).1, (hmc k9 hk9).2⟩) (fun _ s6 h H locs hw => ?_)
      refine lv_aload_n hx hb dX6_carp_60 rfl (lv_at hl 1 rfl) ?_
      refine va_get (D := D) (ci := 6) (v := .ref (g 2)) (C := RX6) (T := TX6) (N := 7) hx hb hts iX6_ hown hK hw.1 0 rfl rfl 1 (by decide) w2_ (fun _ h9 => h9) rfl dX6_carp_61 ?_
      refine lv_iload_n hx hb dX6_carp_64 rfl (lv_at hl 0 rfl) ?_
      obtain ⟨y7, h9_, h⟩ := mg_bind h
      refine mg_k (rv := (some (.int y7.1))) (va_runV (As := [.int y3]) (rest := []) G9 (k_X4_add l D o cI cZ g H.size s6 y3 y7 h9_) (cwV 1 hts gX6_carp_X4_add rfl rfl rfl (by decide +kernel) ⟨Nat.le_of_ble_eq_true rfl, Nat.le_of_ble_eq_true rfl⟩) (mg_preV hK hO hA hw (q0 := 2) rfl rfl) rfl rfl hl.1 rfl (lv_room (Nat.le_of_ble_eq_true rfl)) dX6_carp_65 ⟨Nat.zero_le _, Nat.zero_le _⟩) hw hA (fun H locs hw => ?_)
      clear h9_
      refine lv_istore (lv' := [(4, .int y7.1), (3, .int y3), (0, .ref (g 0)), (1, .int x1), (2, .int x2)]) hx hb dX6_carp_68 hl (by decide) rfl (fun ls hl => ?_)
      refine lv_aload_n hx hb dX6_carp_70 rfl (lv_at hl 2 rfl) ?_
      refine va_get (D := D) (ci := 6) (v := .ref (g 5)) (C := RX6) (T := TX6) (N := 7) hx hb hts iX6_ hown hK hw.1 0 rfl rfl 4 (by decide) w5_ (fun _ h9 => h9) rfl dX6_carp_71 ?_
      refine lv_iload hx hb dX6_carp_74 (lv_at hl 0 rfl) ?_
      refine lv_iconst (v := 1) hx hb dX6_carp_76 (by decide) ?_
      obtain ⟨y8, h9_, h⟩ := mg_bind h
      refine mg_k (rv := none) (va_runV (As := [.int y7.1, .int 1]) (rest := []) G9 (k_X0_setCarpSize_5 l D o cI cZ g H.size y7.2 y7.1 1 y8 h9_) (cwV 2 hts gX6_carp_X0_setCarpSize rfl rfl rfl (by decide +kernel) ⟨Nat.le_of_ble_eq_true rfl, Nat.le_of_ble_eq_true rfl⟩) (mg_preV hK hO hA hw (q0 := 5) rfl rfl) rfl rfl hl.1 rfl (lv_room (Nat.le_of_ble_eq_true rfl)) dX6_carp_77 ⟨Nat.zero_le _, Nat.zero_le _⟩) hw hA (fun H locs hw => ?_)
      clear h9_
      refine lv_aload_n hx hb dX6_carp_80 rfl (lv_at hl 2 rfl) ?_
      refine va_get (D := D) (ci := 6) (v := .ref (g 1)) (C := RX6) (T := TX6) (N := 7) hx hb hts iX6_ hown hK hw.1 0 rfl rfl 0 (by decide) w0_ (fun _ h9 => h9) rfl dX6_carp_81 ?_
      refine lv_iload_n hx hb dX6_carp_84 rfl (lv_at hl 1 rfl) ?_
      refine lv_iconst (v := 1) hx hb dX6_carp_85 (by decide) ?_
      obtain ⟨y9, h9_, h⟩ := mg_bind h
      refine mg_k (rv := none) (va_runV (As := [.int y3, .int 1]) (rest := []) G9 (k_X1_changeCarps l D o cI cZ g H.size y8 y3 1 y9 h9_) (cwV 2 hts gX6_carp_X1_changeCarps rfl rfl rfl (by decide +kernel) ⟨Nat.le_of_ble_eq_true rfl, Nat.le_of_ble_eq_true rfl⟩) (mg_preV hK hO hA hw (q0 := 1) rfl rfl) rfl rfl hl.1 rfl (lv_room (Nat.le_of_ble_eq_true rfl)) dX6_carp_86 ⟨Nat.zero_le _, Nat.zero_le _⟩) hw hA (fun H locs hw => ?_)
      clear h9_
      refine lv_iload hx hb dX6_carp_89 (lv_at hl 0 rfl) ?_
      cases h
      exact mg_xI hx hb hr hlocks hw rfl (Nat.zero_le _) (Nat.zero_le _) dX6_carp_91
    · cases h
      exact mg_throw (k := 2) (own := RX6) (text := "there were 30 carps") (ik := 94) (is := 132) (ic := 98) hx hb hst hown (by decide +kernel) w6_ w7_ (hO.2.2.2.2.2.2.2.2.2.2.2.2.2.2.2.2.2.2.2.2.2.2.2.1) (vx_hat (B := [.declares (Bundle.initS "java/lang/RuntimeException"), .declares (Bundle.initS "java/lang/Exception"), .declares (Bundle.initS Bundle.tN), .castable "java/lang/IllegalStateException" "java/lang/IllegalStateException"]) (fun w h => hts w (List.mem_cons_of_mem _ (List.mem_append_left _ (List.mem_append_right _ h)))) (by decide +kernel) (vx_c (va_Nw.use rfl (hO.2.2.2.2.2.2.2.2.1)) (vx_c (va_Nw.use rfl (hO.2.2.2.2.2.2.2.2.2.1)) (vx_c (va_Nw.use rfl (hO.2.2.2.2.2.2.2.2.2.2.1)) (vx_c (va_Nw.use rfl (hO.2.2.2.2.2.2.2.2.2.2.2.2.2.1)) vx_n))))) (by decide +kernel) (hO.2.2.2.2.1) (hO.2.2.2.2.2.1) hw (hl.1.trans hml.symm) dX6_carp_45 dX6_carp_48 dX6_carp_49 dX6_carp_51 dX6_carp_54 ht (Nat.le_of_ble_eq_true rfl) (Nat.le_of_ble_eq_true rfl) (hmc _ rfl).1 (hmc _ rfl).2 hlocks rfl (hmc _ rfl).1 (hmc _ rfl).2
  · cases h
    exact mg_throw (k := 2) (own := RX6) (text := "the cell is no pond") (ik := 94) (is := 127) (ic := 98) hx hb hst hown (by decide +kernel) w6_ w7_ (hO.2.2.2.2.2.2.2.2.2.2.2.2.2.2.2.2.2.2.2.2.2.2.1) (vx_hat (B := [.declares (Bundle.initS "java/lang/RuntimeException"), .declares (Bundle.initS "java/lang/Exception"), .declares (Bundle.initS Bundle.tN), .castable "java/lang/IllegalStateException" "java/lang/IllegalStateException"]) (fun w h => hts w (List.mem_cons_of_mem _ (List.mem_append_left _ (List.mem_append_right _ h)))) (by decide +kernel) (vx_c (va_Nw.use rfl (hO.2.2.2.2.2.2.2.2.1)) (vx_c (va_Nw.use rfl (hO.2.2.2.2.2.2.2.2.2.1)) (vx_c (va_Nw.use rfl (hO.2.2.2.2.2.2.2.2.2.2.1)) (vx_c (va_Nw.use rfl (hO.2.2.2.2.2.2.2.2.2.2.2.2.2.1)) vx_n))))) (by decide +kernel) (hO.2.2.2.2.1) (hO.2.2.2.2.2.1) hw (hl.1.trans hml.symm) dX6_carp_23 dX6_carp_26 dX6_carp_27 dX6_carp_29 dX6_carp_32 ht (Nat.le_of_ble_eq_true rfl) (Nat.le_of_ble_eq_true rfl) (hmc _ rfl).1 (hmc _ rfl).2 hlocks rfl (hmc _ rfl).1 (hmc _ rfl).2
set_option maxHeartbeats 4000000 in
set_option maxRecDepth 100000 in
theorem k_X6_checkCarp (l : Launch) (hst : l.stackTraces = false) (D : va_G) (o : Nat → Nat) (cI cZ : ClassId) (g : Nat → Nat) (sz : Nat) (σ : mg_St) (x1 : Int32) (out : Except (Fin 3) Unit) (σ9 : mg_St) (h : f_X6_checkCarp σ x1 = some (out, σ9)) (mc ms : Nat) (hmc : ∀ k, out = .error k → 1 ≤ mc ∧ 6 ≤ ms) : mg_CX l yX6_checkCarp wsX6_checkCarp ({ frames := 6, cells := mc, slots := ms, locals := 90 } : Room) D [(cI, .int), (cZ, .boolean)] o (mg_cW g cI cZ σ) sz [.ref (g 0), .int x1] (Except.map (fun _ : Unit => none) out) (mg_cW g cI cZ σ9) mc ms := by
  unfold mg_CX
  refine vx_ofW (cc := cX6_checkCarp) (maxL := 2) (ret := none) (by decide) rfl ?_
  intro p e s m args below meth c s₁ B hml ht hv
  obtain ⟨rfl, hsz, hP, hK, hD0, hO⟩ := hv
  have hx := B.exec
  have hb := B.bytes
  have hr := B.returns
  have hts := atoms_spec (ws := wsX6_checkCarp) B.pre
  have hown : s.vm.findClass RX6 = some m.cls := findClass_of_methodNamed B.named
  have hlocks := B.notSynchronized
  subst hsz
  have hD := hD0.self (sz := s.heap.size)
  generalize hAe : va_A (mg_cW g cI cZ σ) s.heap.size = A at hD hO ⊢
  have hA : ∀ q : Nat, s.heap.size ≤ q → A q := fun q h => by rw [← hAe]; exact Or.inr h
  have hw : mg_Wo D A s.heap s.heap [] (mg_cW g cI cZ σ) := ⟨hP, hD, va_S.rf⟩
  have G9 : CallFix p m c cX6_checkCarp 2 s ([.ref (g 0), .int x1] : List Value).toArray wsX6_checkCarp RX6 := ⟨hx, hb, hml, hown, hts⟩
  clear hP hD hD0 hAe
  obtain ⟨H, hHe⟩ : ∃ H : Heap, H = s.heap := ⟨_, rfl⟩
  have w0_ := hts (.classLink RX6 249 "java/lang/IndexOutOfBoundsException") (by decide +kernel)
  have w1_ := hts (.initialized "java/lang/IndexOutOfBoundsException") (by decide +kernel)
  have w2_ := hts (.fieldLink RX6 19 "MoonGate" "shoal" "LMoonGate$Shoal;") (by decide +kernel)
  have iX6_ : ∀ w ∈ wsX60, w ∈ wsX6_checkCarp := (fun _ h => List.mem_cons_of_mem _ (List.mem_append_left _ (List.mem_append_left _ (List.mem_append_right _ h))))
  have w4_ := hts (.fieldLink RX6 129 "MoonGate$Shoal" "came" "I") (by decide +kernel)
  have iX4_ : ∀ w ∈ wsX40, w ∈ wsX6_checkCarp := (fun _ h => List.mem_cons_of_mem _ (List.mem_append_left _ (List.mem_append_right _ h)))
  have hl := lv_entry ([.ref (g 0), .int x1]) (n := 2) (Nat.le_of_ble_eq_true rfl)
  rw [lg_entry_eq]
  generalize (lg_sl ([.ref (g 0), .int x1]) ++ List.replicate (2 - (lg_sl ([.ref (g 0), .int x1])).length) Slot.unset).toArray = ls at hl ⊢
  have hl : lv_has ls 2 [(0, .ref (g 0)), (1, .int x1)] := hl
  unfold f_X6_checkCarp at h
  revert hw
  intro hw
  suffices K_ : ∀ (H : Heap) (locs : List Loc), mg_Wo D A s.heap H locs (mg_cW g cI cZ σ) → W p l e (headSpec wsX6_checkCarp ({ frames := 6, cells := mc, slots := ms, locals := 90 } : Room)).room s m ([.ref (g 0), .int x1] : List Value).toArray below meth c H locs 0 0 (vx_MQ below (mg_QX D (mg_cW g cI cZ σ9) A (Except.map (fun _ : Unit => none) out)) (mg_XC D (mg_cW g cI cZ σ9) A (Except.map (fun _ : Unit => none) out)) ([.ref (g 0), .int x1] : List Value).toArray s mc ms A) (F0 m 0 ls []) from K_ _ _ hw
  clear hw hHe H
  intro H locs hw
  refine lv_iload_n hx hb dX6_checkCarp_0 rfl (lv_at hl 1 rfl) ?_
  refine mg_if_lt (tgt := 15) hx hb h dX6_checkCarp_1 (by decide) (fun h => ?_) (fun h => ?_)
  · cases h
    exact mg_throwW (k := 0) (own := RX6) (text := "no such carp") (ik := 249) (is := 352) (ic := 253) hx hb hst hown (by decide +kernel) w0_ w1_ (hO.2.2.2.2.2.2.2.2.2.2.2.2.2.2.2.2.2.2.2.2.2.2.2.2.2.2.2.2.2.2.2.2.2.2.2.2.1) (vx_hat (B := [.declares (Bundle.initS "java/lang/RuntimeException"), .declares (Bundle.initS "java/lang/Exception"), .declares (Bundle.initS Bundle.tN), .castable "java/lang/IndexOutOfBoundsException" "java/lang/IndexOutOfBoundsException"]) (fun w h => hts w (List.mem_cons_of_mem _ (List.mem_append_right _ h))) (by decide +kernel) (vx_c (va_Nw.use rfl (hO.2.2.2.2.2.2.2.2.1)) (vx_c (va_Nw.use rfl (hO.2.2.2.2.2.2.2.2.2.1)) (vx_c (va_Nw.use rfl (hO.2.2.2.2.2.2.2.2.2.2.1)) (vx_c (va_Nw.use rfl (hO.2.2.2.2.2.2.2.2.2.2.2.1)) vx_n))))) (by decide +kernel) (hO.2.2.2.2.1) (hO.2.2.2.2.2.1) hw (hl.1.trans hml.symm) dX6_checkCarp_15 dX6_checkCarp_18 dX6_checkCarp_19 dX6_checkCarp_22 dX6_checkCarp_25 ht (Nat.le_of_ble_eq_true rfl) (Nat.le_of_ble_eq_true rfl) (hmc _ rfl).1 (hmc _ rfl).2 hlocks rfl (hmc _ rfl).1 (hmc _ rfl).2
  · refine lv_iload_n hx hb dX6_checkCarp_4 rfl (lv_at hl 1 rfl) ?_
    refine lv_aload_n hx hb dX6_checkCarp_5 rfl (lv_at hl 0 rfl) ?_
    refine va_get (D := D) (ci := 6) (v := .ref (g 2)) (C := RX6) (T := TX6) (N := 7) hx hb hts iX6_ hown hK hw.1 0 rfl rfl 1 (by decide) w2_ (fun _ h9 => h9) rfl dX6_checkCarp_6 ?_
    refine va_get (D := D) (ci := 4) (v := .int (σ 2 2)) (C := RX4) (T := TX4) (N := 3) hx hb hts iX4_ hown hK hw.1 2 rfl rfl 2 (by decide) w4_ (fun _ h9 => h9) rfl dX6_checkCarp_9 ?_
    refine mg_icmp_lt (tgt := 26) hx hb h dX6_checkCarp_12 (by decide) (fun h => ?_) (fun h => ?_)
    · cases h
      exact mg_xV hx hb hr hlocks hw rfl (Nat.zero_le _) (Nat.zero_le _) dX6_checkCarp_26
    · cases h
      exact mg_throwW (k := 0) (own := RX6) (text := "no such carp") (ik := 249) (is := 352) (ic := 253) hx hb hst hown (by decide +kernel) w0_ w1_ (hO.2.2.2.2.2.2.2.2.2.2.2.2.2.2.2.2.2.2.2.2.2.2.2.2.2.2.2.2.2.2.2.2.2.2.2.2.1) (vx_hat (B := [.declares (Bundle.initS "java/lang/RuntimeException"), .declares (Bundle.initS "java/lang/Exception"), .declares (Bundle.initS Bundle.tN), .castable "java/lang/IndexOutOfBoundsException" "java/lang/IndexOutOfBoundsException"]) (fun w h => hts w (List.mem_cons_of_mem _ (List.mem_append_right _ h))) (by decide +kernel) (vx_c (va_Nw.use rfl (hO.2.2.2.2.2.2.2.2.1)) (vx_c (va_Nw.use rfl (hO.2.2.2.2.2.2.2.2.2.1)) (vx_c (va_Nw.use rfl (hO.2.2.2.2.2.2.2.2.2.2.1)) (vx_c (va_Nw.use rfl (hO.2.2.2.2.2.2.2.2.2.2.2.1)) vx_n))))) (by decide +kernel) (hO.2.2.2.2.1) (hO.2.2.2.2.2.1) hw (hl.1.trans hml.symm) dX6_checkCarp_15 dX6_checkCarp_18 dX6_checkCarp_19 dX6_checkCarp_22 dX6_checkCarp_25 ht (Nat.le_of_ble_eq_true rfl) (Nat.le_of_ble_eq_true rfl) (hmc _ rfl).1 (hmc _ rfl).2 hlocks rfl (hmc _ rfl).1 (hmc _ rfl).2
set_option maxHeartbeats 4000000 in
set_option maxRecDepth 100000 in
theorem k_X6_sell (l : Launch) (hst : l.stackTraces = false) (D : va_G) (o : Nat → Nat) (cI cZ : ClassId) (g : Nat → Nat) (sz : Nat) (σ : mg_St) (x1 : Int32) (out : Except (Fin 3) Int32) (σ9 : mg_St) (h : f_X6_sell σ x1 = some (out, σ9)) (mc ms : Nat) (hmc : ∀ k, out = .error k → 1 ≤ mc ∧ 6 ≤ ms) : mg_CX l yX6_sell wsX6_sell ({ frames := 7, cells := mc, slots := ms, locals := 111 } : Room) D [(cI, .int), (cZ, .boolean)] o (mg_cW g cI cZ σ) sz [.ref (g 0), .int x1] (Except.map (fun v : Int32 => some (.int v)) out) (mg_cW g cI cZ σ9) mc ms := by
  unfold mg_CX
  refine vx_ofW (cc := cX6_sell) (maxL := 2) (ret := (some .int)) (by decide) rfl ?_
  intro p e s m args below meth c s₁ B hml ht hv
  obtain ⟨rfl, hsz, hP, hK, hD0, hO⟩ := hv
  have hx := B.exec
  have hb := B.bytes
  have hr := B.returns
  have hts := atoms_spec (ws := wsX6_sell) B.pre
  have hown : s.vm.findClass RX6 = some m.cls := findClass_of_methodNamed B.named
  have hlocks := B.notSynchronized
  subst hsz
  have hD := hD0.self (sz := s.heap.size)
  generalize hAe : va_A (mg_cW g cI cZ σ) s.heap.size = A at hD hO ⊢
  have hA : ∀ q : Nat, s.heap.size ≤ q → A q := fun q h => by rw [← hAe]; exact Or.inr h
  have hw : mg_Wo D A s.heap s.heap [] (mg_cW g cI cZ σ) := ⟨hP, hD, va_S.rf⟩
  have G9 : CallFix p m c cX6_sell 2 s ([.ref (g 0), .int x1] : List Value).toArray wsX6_sell RX6 := ⟨hx, hb, hml, hown, hts⟩
  clear hP hD hD0 hAe
  obtain ⟨H, hHe⟩ : ∃ H : Heap, H = s.heap := ⟨_, rfl⟩
  have w0_ := hts (.fieldLink RX6 19 "MoonGate" "shoal" "LMoonGate$Shoal;") (by decide +kernel)
  have iX6_ : ∀ w ∈ wsX60, w ∈ wsX6_sell := (fun _ h => List.mem_cons_of_mem _ (List.mem_append_left _ (List.mem_append_left _ (List.mem_append_left _ (List.mem_append_left _ (List.mem_append_left _ (List.mem_append_right _ h)))))))
  have w2_ := hts (.fieldLink RX6 10 "MoonGate" "garden" "LMoonGate$Garden;") (by decide +kernel)
  have w3_ := hts (.fieldLink RX6 40 "MoonGate" "now" "LMoonGate$Course;") (by decide +kernel)
  have w4_ := hts (.fieldLink RX6 76 "MoonGate$Course" "coins" "I") (by decide +kernel)
  have iX0_ : ∀ w ∈ wsX00, w ∈ wsX6_sell := (fun _ h => List.mem_cons_of_mem _ (List.mem_append_left _ (List.mem_append_left _ (List.mem_append_left _ (List.mem_append_left _ (List.mem_append_right _ h))))))
  have w6_ := hts (.classLink RX6 94 "java/lang/IllegalStateException") (by decide +kernel)
  have w7_ := hts (.initialized "java/lang/IllegalStateException") (by decide +kernel)
  have hl := lv_entry ([.ref (g 0), .int x1]) (n := 2) (Nat.le_of_ble_eq_true rfl)
  rw [lg_entry_eq]
  generalize (lg_sl ([.ref (g 0), .int x1]) ++ List.replicate (2 - (lg_sl ([.ref (g 0), .int x1])).length) Slot.unset).toArray = ls at hl ⊢
  have hl : lv_has ls 2 [(0, .ref (g 0)), (1, .int x1)] := hl
  unfold f_X6_sell at h
  revert hw
  intro hw
  suffices K_ : ∀ (H : Heap) (locs : List Loc), mg_Wo D A s.heap H locs (mg_cW g cI cZ σ) → W p l e (headSpec wsX6_sell ({ frames := 7, cells := mc, slots := ms, locals := 111 } : Room)).room s m ([.ref (g 0), .int x1] : List Value).toArray below meth c H locs 0 0 (vx_MQ below (mg_QX D (mg_cW g cI cZ σ9) A (Except.map (fun v : Int32 => some (.int v)) out)) (mg_XC D (mg_cW g cI cZ σ9) A (Except.map (fun v : Int32 => some (.int v)) out)) ([.ref (g 0), .int x1] : List Value).toArray s mc ms A) (F0 m 0 ls []) from K_ _ _ hw
  clear hw hHe H
  intro H locs hw
  refine lv_aload_n hx hb dX6_sell_0 rfl (lv_at hl 0 rfl) ?_
  refine lv_iload_n hx hb dX6_sell_1 rfl (lv_at hl 1 rfl) ?_
  refine mg_kxx (wd := mg_cW g cI cZ) h (fun _ : Unit => none) (fun v : Int32 => some (.int v)) (fun mc9 ms9 o9 s9 hm9 h9 hc9 hs9 => vx_runV (As := [.int x1]) (rest := []) G9 (k_X6_checkCarp l hst D o cI cZ g H.size σ x1 o9 s9 h9 mc9 ms9 hm9) (cwV 1 hts gX6_sell_X6_checkCarp rfl rfl rfl (by decide +kernel) ⟨Nat.le_of_ble_eq_true rfl, Nat.le_of_ble_eq_true rfl⟩) (mg_preV hK hO hA hw (q0 := 0) rfl rfl) rfl rfl hl.1 rfl (lv_room (Nat.le_of_ble_eq_true rfl)) dX6_sell_2 ⟨hc9, hs9⟩) hw hA ht hlocks (Nat.zero_le _) (Nat.zero_le _) (fun k9 hk9 => ⟨(hmc k9 hk9).1, (hmc k9 hk9).2, (hmc k9 hk9).1, (hmc k9 hk9).2⟩) (fun _ s2 h H locs hw => ?_)
  refine lv_aload_n hx hb dX6_sell_5 rfl (lv_at hl 0 rfl) ?_
  refine va_get (D := D) (ci := 6) (v := .ref (g 2)) (C := RX6) (T := TX6) (N := 7) hx hb hts iX6_ hown hK hw.1 0 rfl rfl 1 (by decide) w0_ (fun _ h9 => h9) rfl dX6_sell_6 ?_
  refine lv_iload_n hx hb dX6_sell_9 rfl (lv_at hl 1 rfl) ?_
  obtain ⟨y3, h9_, h⟩ := mg_bind h
  refine mg_k (rv := (some (.int y3))) (va_runV (As := [.int x1]) (rest := []) G9 (k_X4_isHere l D o cI cZ g H.size s2 x1 y3 h9_) (cwV 1 hts gX6_sell_X4_isHere rfl rfl rfl (by decide +kernel) ⟨Nat.le_of_ble_eq_true rfl, Nat.le_of_ble_eq_true rfl⟩) (mg_preV hK hO hA hw (q0 := 2) rfl rfl) rfl rfl hl.1 rfl (lv_room (Nat.le_of_ble_eq_true rfl)) dX6_sell_10 ⟨Nat.zero_le _, Nat.zero_le _⟩) hw hA (fun H locs hw => ?_)
  clear h9_
  refine mg_if_ne (tgt := 26) hx hb h dX6_sell_13 (by decide) (fun h => ?_) (fun h => ?_)
  · refine lv_aload_n hx hb dX6_sell_26 rfl (lv_at hl 0 rfl) ?_
    refine va_get (D := D) (ci := 6) (v := .ref (g 2)) (C := RX6) (T := TX6) (N := 7) hx hb hts iX6_ hown hK hw.1 0 rfl rfl 1 (by decide) w0_ (fun _ h9 => h9) rfl dX6_sell_27 ?_
    refine lv_iload_n hx hb dX6_sell_30 rfl (lv_at hl 1 rfl) ?_
    obtain ⟨y4, h9_, h⟩ := mg_bind h
    refine mg_k (rv := none) (va_runV (As := [.int x1]) (rest := []) G9 (k_X4_takeOut l D o cI cZ g H.size s2 x1 y4 h9_) (cwV 1 hts gX6_sell_X4_takeOut rfl rfl rfl (by decide +kernel) ⟨Nat.le_of_ble_eq_true rfl, Nat.le_of_ble_eq_true rfl⟩) (mg_preV hK hO hA hw (q0 := 2) rfl rfl) rfl rfl hl.1 rfl (lv_room (Nat.le_of_ble_eq_true rfl)) dX6_sell_31 ⟨Nat.zero_le _, Nat.zero_le _⟩) hw hA (fun H locs hw => ?_)
    clear h9_
    refine lv_aload_n hx hb dX6_sell_34 rfl (lv_at hl 0 rfl) ?_
    refine va_get (D := D) (ci := 6) (v := .ref (g 1)) (C := RX6) (T := TX6) (N := 7) hx hb hts iX6_ hown hK hw.1 0 rfl rfl 0 (by decide) w2_ (fun _ h9 => h9) rfl dX6_sell_35 ?_
    refine lv_aload_n hx hb dX6_sell_38 rfl (lv_at hl 0 rfl) ?_
    refine va_get (D := D) (ci := 6) (v := .ref (g 2)) (C := RX6) (T := TX6) (N := 7) hx hb hts iX6_ hown hK hw.1 0 rfl rfl 1 (by decide) w0_ (fun _ h9 => h9) rfl dX6_sell_39 ?_
    refine lv_iload_n hx hb dX6_sell_42 rfl (lv_at hl 1 rfl) ?_
    obtain ⟨y5, h9_, h⟩ := mg_bind h
    refine mg_k (rv := (some (.int y5))) (va_runV (As := [.int x1]) (rest := [.ref (g 1)]) G9 (k_X4_placeOf l D o cI cZ g H.size y4 x1 y5 h9_) (cwV 1 hts gX6_sell_X4_placeOf rfl rfl rfl (by decide +kernel) ⟨Nat.le_of_ble_eq_true rfl, Nat.le_of_ble_eq_true rfl⟩) (mg_preV hK hO hA hw (q0 := 2) rfl rfl) rfl rfl hl.1 rfl (lv_room (Nat.le_of_ble_eq_true rfl)) dX6_sell_43 ⟨Nat.zero_le _, Nat.zero_le _⟩) hw hA (fun H locs hw => ?_)
    clear h9_
    refine lv_iconst (v := (-1)) hx hb dX6_sell_46 (by decide) ?_
    obtain ⟨y6, h9_, h⟩ := mg_bind h
    refine mg_k (rv := none) (va_runV (As := [.int y5, .int (-1)]) (rest := []) G9 (k_X1_changeCarps l D o cI cZ g H.size y4 y5 (-1) y6 h9_) (cwV 2 hts gX6_sell_X1_changeCarps rfl rfl rfl (by decide +kernel) ⟨Nat.le_of_ble_eq_true rfl, Nat.le_of_ble_eq_true rfl⟩) (mg_preV hK hO hA hw (q0 := 1) rfl rfl) rfl rfl hl.1 rfl (lv_room (Nat.le_of_ble_eq_true rfl)) dX6_sell_47 ⟨Nat.zero_le _, Nat.zero_le _⟩) hw hA (fun H locs hw => ?_)
    clear h9_
    refine lv_aload_n hx hb dX6_sell_50 rfl (lv_at hl 0 rfl) ?_
    refine va_get (D := D) (ci := 6) (v := .ref (g 5)) (C := RX6) (T := TX6) (N := 7) hx hb hts iX6_ hown hK hw.1 0 rfl rfl 4 (by decide) w3_ (fun _ h9 => h9) rfl dX6_sell_51 ?_
    refine lv_dup hx hb dX6_sell_54 rfl ?_
    refine va_get (D := D) (ci := 0) (v := .int (y6 5 1)) (C := RX0) (T := TX0) (N := 4) hx hb hts iX0_ hown hK hw.1 5 rfl rfl 1 (by decide) w4_ (fun _ h9 => h9) rfl dX6_sell_55 ?_
    refine lv_aload_n hx hb dX6_sell_58 rfl (lv_at hl 0 rfl) ?_
    refine va_get (D := D) (ci := 6) (v := .ref (g 5)) (C := RX6) (T := TX6) (N := 7) hx hb hts iX6_ hown hK hw.1 0 rfl rfl 4 (by decide) w3_ (fun _ h9 => h9) rfl dX6_sell_59 ?_
    refine lv_iload_n hx hb dX6_sell_62 rfl (lv_at hl 1 rfl) ?_
    obtain ⟨y7, h9_, h⟩ := mg_bind h
    refine mg_k (rv := (some (.int y7))) (va_runV (As := [.int x1]) (rest := [.int (y6 5 1), .ref (g 5)]) G9 (k_X0_carpSize_5 l D o cI cZ g H.size y6 x1 y7 h9_) (cwV 1 hts gX6_sell_X0_carpSize rfl rfl rfl (by decide +kernel) ⟨Nat.le_of_ble_eq_true rfl, Nat.le_of_ble_eq_true rfl⟩) (mg_preV hK hO hA hw (q0 := 5) rfl rfl) rfl rfl hl.1 rfl (lv_room (Nat.le_of_ble_eq_true rfl)) dX6_sell_63 ⟨Nat.zero_le _, Nat.zero_le _⟩) hw hA (fun H locs hw => ?_)
    clear h9_
    refine lv_iconst (v := 2) hx hb dX6_sell_66 (by decide) ?_
    refine lv_idiv hx hb dX6_sell_67 (by decide) ?_
    refine lv_iconst (v := 1) hx hb dX6_sell_68 (by decide) ?_
    refine lv_iadd hx hb dX6_sell_69 ?_
    refine lv_iadd hx hb dX6_sell_70 ?_
    refine mg_put (wd := mg_cW g cI cZ) (σ := y6) (v := ((y6 5 1) + ((y7 / 2) + 1))) (ci := 0) (C := RX0) (T := TX0) (N := 4) hx hb hts iX0_ tyX0 tyX0_ok nmX0 hown hK hw 5 5 rfl rfl 1 (by decide) w4_ (fun _ h9 => h9) rfl (by decide +kernel) (Nat.le_of_ble_eq_true rfl) rfl dX6_sell_71 (fun H locs hw => ?_)
    refine lv_aload_n hx hb dX6_sell_74 rfl (lv_at hl 0 rfl) ?_
    refine va_get (D := D) (ci := 6) (v := .ref (g 5)) (C := RX6) (T := TX6) (N := 7) hx hb hts iX6_ hown hK hw.1 0 rfl rfl 4 (by decide) w3_ (fun _ h9 => h9) rfl dX6_sell_75 ?_
    refine va_get (D := D) (ci := 0) (v := .int ((mg_su y6 5 1 ((y6 5 1) + ((y7 / 2) + 1))) 5 1)) (C := RX0) (T := TX0) (N := 4) hx hb hts iX0_ hown hK hw.1 5 rfl rfl 1 (by decide) w4_ (fun _ h9 => h9) rfl dX6_sell_78 ?_
    cases h
    exact mg_xI hx hb hr hlocks hw rfl (Nat.zero_le _) (Nat.zero_le _) dX6_sell_81
  · cases h
    exact mg_throw (k := 2) (own := RX6) (text := "the carp is sold") (ik := 94) (is := 149) (ic := 98) hx hb hst hown (by decide +kernel) w6_ w7_ (hO.2.2.2.2.2.2.2.2.2.2.2.2.2.2.2.2.2.2.2.2.2.2.2.2.1) (vx_hat (B := [.declares (Bundle.initS "java/lang/RuntimeException"), .declares (Bundle.initS "java/lang/Exception"), .declares (Bundle.initS Bundle.tN), .castable "java/lang/IllegalStateException" "java/lang/IllegalStateException"]) (fun w h => hts w (List.mem_cons_of_mem _ (List.mem_append_left _ (List.mem_append_right _ h)))) (by decide +kernel) (vx_c (va_Nw.use rfl (hO.2.2.2.2.2.2.2.2.1)) (vx_c (va_Nw.use rfl (hO.2.2.2.2.2.2.2.2.2.1)) (vx_c (va_Nw.use rfl (hO.2.2.2.2.2.2.2.2.2.2.1)) (vx_c (va_Nw.use rfl (hO.2.2.2.2.2.2.2.2.2.2.2.2.2.1)) vx_n))))) (by decide +kernel) (hO.2.2.2.2.1) (hO.2.2.2.2.2.1) hw (hl.1.trans hml.symm) dX6_sell_16 dX6_sell_19 dX6_sell_20 dX6_sell_22 dX6_sell_25 ht (Nat.le_of_ble_eq_true rfl) (Nat.le_of_ble_eq_true rfl) (hmc _ rfl).1 (hmc _ rfl).2 hlocks rfl (hmc _ rfl).1 (hmc _ rfl).2
set_option maxHeartbeats 4000000 in
set_option maxRecDepth 100000 in
theorem k_X6_rankOf (l : Launch) (D : va_G) (o : Nat → Nat) (cI cZ : ClassId) (g : Nat → Nat) (sz : Nat) (σ : mg_St) (x1 : Int32) (y : Int32) (h : f_X6_rankOf σ x1 = some y) : mg_CT l yX6_rankOf wsX6_rankOf ({ frames := 2, cells := 0, slots := 0, locals := 42 } : Room) D [(cI, .int), (cZ, .boolean)] o (mg_cW g cI cZ σ) sz [.ref (g 0), .int x1] (some (.int y)) (mg_cW g cI cZ σ) 0 0 := by
  unfold mg_CT
  refine Met.ofW (cc := cX6_rankOf) (maxL := 4) (ret := (some .int)) (by decide) rfl ?_
  intro p e s m args below meth c s₁ B hml hv
  obtain ⟨rfl, hsz, hP, hK, hD0, hO⟩ := hv
  have hx := B.exec
  have hb := B.bytes
  have hr := B.returns
  have hts := atoms_spec (ws := wsX6_rankOf) B.pre
  have hown : s.vm.findClass RX6 = some m.cls := findClass_of_methodNamed B.named
  have hlocks := B.notSynchronized
  subst hsz
  have hD := hD0.self (sz := s.heap.size)
  generalize hAe : va_A (mg_cW g cI cZ σ) s.heap.size = A at hD hO ⊢
  have hA : ∀ q : Nat, s.heap.size ≤ q → A q := fun q h => by rw [← hAe]; exact Or.inr h
  have hw : mg_Wo D A s.heap s.heap [] (mg_cW g cI cZ σ) := ⟨hP, hD, va_S.rf⟩
  have G9 : CallFix p m c cX6_rankOf 4 s ([.ref (g 0), .int x1] : List Value).toArray wsX6_rankOf RX6 := ⟨hx, hb, hml, hown, hts⟩
  clear hP hD hD0 hAe
  obtain ⟨H, hHe⟩ : ∃ H : Heap, H = s.heap := ⟨_, rfl⟩
  have w0_ := hts (.fieldLink RX6 19 "MoonGate" "shoal" "LMoonGate$Shoal;") (by decide +kernel)
  have iX6_ : ∀ w ∈ wsX60, w ∈ wsX6_rankOf := (fun _ h => List.mem_cons_of_mem _ (List.mem_append_left _ (List.mem_append_left _ (List.mem_append_right _ h))))
  have w2_ := hts (.fieldLink RX6 129 "MoonGate$Shoal" "came" "I") (by decide +kernel)
  have iX4_ : ∀ w ∈ wsX40, w ∈ wsX6_rankOf := (fun _ h => List.mem_cons_of_mem _ (List.mem_append_left _ (List.mem_append_right _ h)))
  have w4_ := hts (.fieldLink RX6 40 "MoonGate" "now" "LMoonGate$Course;") (by decide +kernel)
  have hl := lv_entry ([.ref (g 0), .int x1]) (n := 4) (Nat.le_of_ble_eq_true rfl)
  rw [lg_entry_eq]
  generalize (lg_sl ([.ref (g 0), .int x1]) ++ List.replicate (4 - (lg_sl ([.ref (g 0), .int x1])).length) Slot.unset).toArray = ls at hl ⊢
  have hl : lv_has ls 4 [(0, .ref (g 0)), (1, .int x1)] := hl
  unfold f_X6_rankOf at h
  revert hw
  intro hw
  suffices K_ : ∀ (H : Heap) (locs : List Loc), mg_Wo D A s.heap H locs (mg_cW g cI cZ σ) → W p l e (headSpec wsX6_rankOf ({ frames := 2, cells := 0, slots := 0, locals := 42 } : Room)).room s m ([.ref (g 0), .int x1] : List Value).toArray below meth c H locs 0 0 (MQ below (mg_Q D (mg_cW g cI cZ σ) A (some (.int y))) ([.ref (g 0), .int x1] : List Value).toArray s 0 0 A) (F0 m 0 ls []) from K_ _ _ hw
  clear hw hHe H
  intro H locs hw
  refine lv_aload_n hx hb dX6_rankOf_0 rfl (lv_at hl 0 rfl) ?_
  refine va_get (D := D) (ci := 6) (v := .ref (g 2)) (C := RX6) (T := TX6) (N := 7) hx hb hts iX6_ hown hK hw.1 0 rfl rfl 1 (by decide) w0_ (fun _ h9 => h9) rfl dX6_rankOf_1 ?_
  refine lv_iload_n hx hb dX6_rankOf_4 rfl (lv_at hl 1 rfl) ?_
  obtain ⟨y1, h9_, h⟩ := mg_bind h
  refine mg_k (rv := (some (.int y1))) (va_runV (As := [.int x1]) (rest := []) G9 (k_X4_isHere l D o cI cZ g H.size σ x1 y1 h9_) (cwV 1 hts gX6_rankOf_X4_isHere rfl rfl rfl (by decide +kernel) ⟨Nat.le_of_ble_eq_true rfl, Nat.le_of_ble_eq_true rfl⟩) (mg_preV hK hO hA hw (q0 := 2) rfl rfl) rfl rfl hl.1 rfl (lv_room (Nat.le_of_ble_eq_true rfl)) dX6_rankOf_5 ⟨Nat.zero_le _, Nat.zero_le _⟩) hw hA (fun H locs hw => ?_)
  clear h9_
  refine mg_if_ne (tgt := 13) hx hb h dX6_rankOf_8 (by decide) (fun h => ?_) (fun h => ?_)
  · refine lv_iconst (v := 1) hx hb dX6_rankOf_13 (by decide) ?_
    refine lv_istore_n (lv' := [(2, .int 1), (0, .ref (g 0)), (1, .int x1)]) hx hb dX6_rankOf_14 rfl hl (by decide) rfl (fun ls hl => ?_)
    refine lv_iconst (v := 0) hx hb dX6_rankOf_15 (by decide) ?_
    refine lv_istore_n (lv' := [(3, .int 0), (2, .int 1), (0, .ref (g 0)), (1, .int x1)]) hx hb dX6_rankOf_16 rfl hl (by decide) rfl (fun ls hl => ?_)
    have L17_ : ∀ (n : Nat) (x2_17 : Int32) (x3_17 : Int32) (y17_ : Int32 × Int32), f_X6_rankOf_17 σ x1 n x2_17 x3_17 = some y17_ → (∀ (H : Heap) (locs : List Loc) (ls : Array Slot), mg_Wo D A s.heap H locs (mg_cW g cI cZ σ) → lv_has ls 4 [(0, .ref (g 0)), (1, .int x1), (2, .int y17_.1), (3, .int y17_.2)] → W p l e (headSpec wsX6_rankOf ({ frames := 2, cells := 0, slots := 0, locals := 42 } : Room)).room s m ([.ref (g 0), .int x1] : List Value).toArray below meth c H locs 0 0 (MQ below (mg_Q D (mg_cW g cI cZ σ) A (some (.int y))) ([.ref (g 0), .int x1] : List Value).toArray s 0 0 A) (F0 m 67 ls [])) → ∀ (H : Heap) (locs : List Loc) (ls : Array Slot), mg_Wo D A s.heap H locs (mg_cW g cI cZ σ) → lv_has ls 4 [(0, .ref (g 0)), (1, .int x1), (2, .int x2_17), (3, .int x3_17)] → W p l e (headSpec wsX6_rankOf ({ frames := 2, cells := 0, slots := 0, locals := 42 } : Room)).room s m ([.ref (g 0), .int x1] : List Value).toArray below meth c H locs 0 0 (MQ below (mg_Q D (mg_cW g cI cZ σ) A (some (.int y))) ([.ref (g 0), .int x1] : List Value).toArray s 0 0 A) (F0 m 17 ls []) := by
      intro n
      induction n with
      | zero => intro x2_17 x3_17 y17_ h; rw [f_X6_rankOf_17] at h; cases h
      | succ n ih =>
        intro x2_17 x3_17 y17_ h kc H locs ls hw hl
        rw [f_X6_rankOf_17] at h
        refine lv_iload_n hx hb dX6_rankOf_17 rfl (lv_at hl 3 rfl) ?_
        refine lv_aload_n hx hb dX6_rankOf_18 rfl (lv_at hl 0 rfl) ?_
        refine va_get (D := D) (ci := 6) (v := .ref (g 2)) (C := RX6) (T := TX6) (N := 7) hx hb hts iX6_ hown hK hw.1 0 rfl rfl 1 (by decide) w0_ (fun _ h9 => h9) rfl dX6_rankOf_19 ?_
        refine va_get (D := D) (ci := 4) (v := .int (σ 2 2)) (C := RX4) (T := TX4) (N := 3) hx hb hts iX4_ hown hK hw.1 2 rfl rfl 2 (by decide) w2_ (fun _ h9 => h9) rfl dX6_rankOf_22 ?_
        refine mg_icmp_ge (tgt := 67) hx hb h dX6_rankOf_25 (by decide) (fun h => ?_) (fun h => ?_)
        · cases h
          exact kc H locs ls hw (lv_sub hl [0, 1, 2, 3] rfl)
        · refine lv_aload_n hx hb dX6_rankOf_28 rfl (lv_at hl 0 rfl) ?_
          refine va_get (D := D) (ci := 6) (v := .ref (g 2)) (C := RX6) (T := TX6) (N := 7) hx hb hts iX6_ hown hK hw.1 0 rfl rfl 1 (by decide) w0_ (fun _ h9 => h9) rfl dX6_rankOf_29 ?_
          refine lv_iload_n hx hb dX6_rankOf_32 rfl (lv_at hl 3 rfl) ?_
          obtain ⟨y3, h9_, h⟩ := mg_bind h
          refine mg_k (rv := (some (.int y3))) (va_runV (As := [.int x3_17]) (rest := []) G9 (k_X4_isHere l D o cI cZ g H.size σ x3_17 y3 h9_) (cwV 1 hts gX6_rankOf_X4_isHere rfl rfl rfl (by decide +kernel) ⟨Nat.le_of_ble_eq_true rfl, Nat.le_of_ble_eq_true rfl⟩) (mg_preV hK hO hA hw (q0 := 2) rfl rfl) rfl rfl hl.1 rfl (lv_room (Nat.le_of_ble_eq_true rfl)) dX6_rankOf_33 ⟨Nat.zero_le _, Nat.zero_le _⟩) hw hA (fun H locs hw => ?_)
          clear h9_
          refine mg_if_eq (tgt := 61) hx hb h dX6_rankOf_36 (by decide) (fun h => ?_) (fun h => ?_)
          · refine lv_iinc (v := (x3_17 + 1)) (lv' := [(3, .int (x3_17 + 1)), (0, .ref (g 0)), (1, .int x1), (2, .int x2_17)]) hx hb dX6_rankOf_61 hl (k := 3) rfl rfl (by decide) rfl (fun ls hl => ?_)
            refine lv_goto (tgt := 17) hx hb dX6_rankOf_64 (by decide) ?_
            exact ih _ _ _ h kc H locs ls hw (lv_sub hl [1, 2, 3, 0] rfl)
          · refine lv_aload_n hx hb dX6_rankOf_39 rfl (lv_at hl 0 rfl) ?_
            refine va_get (D := D) (ci := 6) (v := .ref (g 5)) (C := RX6) (T := TX6) (N := 7) hx hb hts iX6_ hown hK hw.1 0 rfl rfl 4 (by decide) w4_ (fun _ h9 => h9) rfl dX6_rankOf_40 ?_
            refine lv_iload_n hx hb dX6_rankOf_43 rfl (lv_at hl 3 rfl) ?_
            obtain ⟨y4, h9_, h⟩ := mg_bind h
            refine mg_k (rv := (some (.int y4))) (va_runV (As := [.int x3_17]) (rest := []) G9 (k_X0_carpSize_5 l D o cI cZ g H.size σ x3_17 y4 h9_) (cwV 1 hts gX6_rankOf_X0_carpSize rfl rfl rfl (by decide +kernel) ⟨Nat.le_of_ble_eq_true rfl, Nat.le_of_ble_eq_true rfl⟩) (mg_preV hK hO hA hw (q0 := 5) rfl rfl) rfl rfl hl.1 rfl (lv_room (Nat.le_of_ble_eq_true rfl)) dX6_rankOf_44 ⟨Nat.zero_le _, Nat.zero_le _⟩) hw hA (fun H locs hw => ?_)
            clear h9_
            refine lv_aload_n hx hb dX6_rankOf_47 rfl (lv_at hl 0 rfl) ?_
            refine va_get (D := D) (ci := 6) (v := .ref (g 5)) (C := RX6) (T := TX6) (N := 7) hx hb hts iX6_ hown hK hw.1 0 rfl rfl 4 (by decide) w4_ (fun _ h9 => h9) rfl dX6_rankOf_48 ?_
            refine lv_iload_n hx hb dX6_rankOf_51 rfl (lv_at hl 1 rfl) ?_
            obtain ⟨y5, h9_, h⟩ := mg_bind h
            refine mg_k (rv := (some (.int y5))) (va_runV (As := [.int x1]) (rest := [.int y4]) G9 (k_X0_carpSize_5 l D o cI cZ g H.size σ x1 y5 h9_) (cwV 1 hts gX6_rankOf_X0_carpSize rfl rfl rfl (by decide +kernel) ⟨Nat.le_of_ble_eq_true rfl, Nat.le_of_ble_eq_true rfl⟩) (mg_preV hK hO hA hw (q0 := 5) rfl rfl) rfl rfl hl.1 rfl (lv_room (Nat.le_of_ble_eq_true rfl)) dX6_rankOf_52 ⟨Nat.zero_le _, Nat.zero_le _⟩) hw hA (fun H locs hw => ?_)
            clear h9_
            refine mg_icmp_le (tgt := 61) hx hb h dX6_rankOf_55 (by decide) (fun h => ?_) (fun h => ?_)
            · refine lv_iinc (v := (x3_17 + 1)) (lv' := [(3, .int (x3_17 + 1)), (0, .ref (g 0)), (1, .int x1), (2, .int x2_17)]) hx hb dX6_rankOf_61 hl (k := 3) rfl rfl (by decide) rfl (fun ls hl => ?_)
              refine lv_goto (tgt := 17) hx hb dX6_rankOf_64 (by decide) ?_
              exact ih _ _ _ h kc H locs ls hw (lv_sub hl [1, 2, 3, 0] rfl)
            · refine lv_iinc (v := (x2_17 + 1)) (lv' := [(2, .int (x2_17 + 1)), (0, .ref (g 0)), (1, .int x1), (3, .int x3_17)]) hx hb dX6_rankOf_58 hl (k := 2) rfl rfl (by decide) rfl (fun ls hl => ?_)
              refine lv_iinc (v := (x3_17 + 1)) (lv' := [(3, .int (x3_17 + 1)), (2, .int (x2_17 + 1)), (0, .ref (g 0)), (1, .int x1)]) hx hb dX6_rankOf_61 hl (k := 3) rfl rfl (by decide) rfl (fun ls hl => ?_)
              refine lv_goto (tgt := 17) hx hb dX6_rankOf_64 (by decide) ?_
              exact ih _ _ _ h kc H locs ls hw (lv_sub hl [2, 3, 1, 0] rfl)
    obtain ⟨y2, h9_, h⟩ := mg_bind h
    refine L17_ _ _ _ _ h9_ (fun H locs ls hw hl => ?_) H locs ls hw (lv_sub hl [2, 3, 1, 0] rfl)
    clear L17_ h9_
    refine lv_iload_n hx hb dX6_rankOf_67 rfl (lv_at hl 2 rfl) ?_
    cases h
    exact mg_eI hx hb hr hlocks hw (Nat.zero_le _) (Nat.zero_le _) dX6_rankOf_68
  · refine lv_iconst (v := 0) hx hb dX6_rankOf_11 (by decide) ?_
    cases h
    exact mg_eI hx hb hr hlocks hw (Nat.zero_le _) (Nat.zero_le _) dX6_rankOf_12
set_option maxHeartbeats 4000000 in
set_option maxRecDepth 100000 in
theorem k_X6_told (l : Launch) (hst : l.stackTraces = false) (D : va_G) (o : Nat → Nat) (cI cZ : ClassId) (g : Nat → Nat) (sz : Nat) (σ : mg_St) (x1 : Int32) (x2 : Int32) (out : Except (Fin 3) Int32) (σ9 : mg_St) (h : f_X6_told σ x1 x2 = some (out, σ9)) (mc ms : Nat) (hmc : ∀ k, out = .error k → 1 ≤ mc ∧ 6 ≤ ms) : mg_CX l yX6_told wsX6_told ({ frames := 7, cells := mc, slots := ms, locals := 112 } : Room) D [(cI, .int), (cZ, .boolean)] o (mg_cW g cI cZ σ) sz [.ref (g 0), .int x1, .int x2] (Except.map (fun v : Int32 => some (.int v)) out) (mg_cW g cI cZ σ9) mc ms := by
  unfold mg_CX
  refine vx_ofW (cc := cX6_told) (maxL := 3) (ret := (some .int)) (by decide) rfl ?_
  intro p e s m args below meth c s₁ B hml ht hv
  obtain ⟨rfl, hsz, hP, hK, hD0, hO⟩ := hv
  have hx := B.exec
  have hb := B.bytes
  have hr := B.returns
  have hts := atoms_spec (ws := wsX6_told) B.pre
  have hown : s.vm.findClass RX6 = some m.cls := findClass_of_methodNamed B.named
  have hlocks := B.notSynchronized
  subst hsz
  have hD := hD0.self (sz := s.heap.size)
  generalize hAe : va_A (mg_cW g cI cZ σ) s.heap.size = A at hD hO ⊢
  have hA : ∀ q : Nat, s.heap.size ≤ q → A q := fun q h => by rw [← hAe]; exact Or.inr h
  have hw : mg_Wo D A s.heap s.heap [] (mg_cW g cI cZ σ) := ⟨hP, hD, va_S.rf⟩
  have G9 : CallFix p m c cX6_told 3 s ([.ref (g 0), .int x1, .int x2] : List Value).toArray wsX6_told RX6 := ⟨hx, hb, hml, hown, hts⟩
  clear hP hD hD0 hAe
  obtain ⟨H, hHe⟩ : ∃ H : Heap, H = s.heap := ⟨_, rfl⟩
  have w0_ := hts (.fieldLink RX6 19 "MoonGate" "shoal" "LMoonGate$Shoal;") (by decide +kernel)
  have iX6_ : ∀ w ∈ wsX60, w ∈ wsX6_told := (fun _ h => List.mem_cons_of_mem _ (List.mem_append_left _ (List.mem_append_left _ (List.mem_append_left _ (List.mem_append_right _ h)))))
  have w2_ := hts (.fieldLink RX6 40 "MoonGate" "now" "LMoonGate$Course;") (by decide +kernel)
  have hl := lv_entry ([.ref (g 0), .int x1, .int x2]) (n := 3) (Nat.le_of_ble_eq_true rfl)
  rw [lg_entry_eq]
  generalize (lg_sl ([.ref (g 0), .int x1, .int x2]) ++ List.replicate (3 - (lg_sl ([.ref (g 0), .int x1, .int x2])).length) Slot.unset).toArray = ls at hl ⊢
  have hl : lv_has ls 3 [(0, .ref (g 0)), (1, .int x1), (2, .int x2)] := hl
  unfold f_X6_told at h
  revert hw
  intro hw
  suffices K_ : ∀ (H : Heap) (locs : List Loc), mg_Wo D A s.heap H locs (mg_cW g cI cZ σ) → W p l e (headSpec wsX6_told ({ frames := 7, cells := mc, slots := ms, locals := 112 } : Room)).room s m ([.ref (g 0), .int x1, .int x2] : List Value).toArray below meth c H locs 0 0 (vx_MQ below (mg_QX D (mg_cW g cI cZ σ9) A (Except.map (fun v : Int32 => some (.int v)) out)) (mg_XC D (mg_cW g cI cZ σ9) A (Except.map (fun v : Int32 => some (.int v)) out)) ([.ref (g 0), .int x1, .int x2] : List Value).toArray s mc ms A) (F0 m 0 ls []) from K_ _ _ hw
  clear hw hHe H
  intro H locs hw
  refine lv_aload_n hx hb dX6_told_0 rfl (lv_at hl 0 rfl) ?_
  refine lv_iload_n hx hb dX6_told_1 rfl (lv_at hl 1 rfl) ?_
  refine mg_kxx (wd := mg_cW g cI cZ) h (fun _ : Unit => none) (fun v : Int32 => some (.int v)) (fun mc9 ms9 o9 s9 hm9 h9 hc9 hs9 => vx_runV (As := [.int x1]) (rest := []) G9 (k_X6_checkCarp l hst D o cI cZ g H.size σ x1 o9 s9 h9 mc9 ms9 hm9) (cwV 1 hts gX6_told_X6_checkCarp rfl rfl rfl (by decide +kernel) ⟨Nat.le_of_ble_eq_true rfl, Nat.le_of_ble_eq_true rfl⟩) (mg_preV hK hO hA hw (q0 := 0) rfl rfl) rfl rfl hl.1 rfl (lv_room (Nat.le_of_ble_eq_true rfl)) dX6_told_2 ⟨hc9, hs9⟩) hw hA ht hlocks (Nat.zero_le _) (Nat.zero_le _) (fun k9 hk9 => ⟨(hmc k9 hk9).1, (hmc k9 hk9).2, (hmc k9 hk9).1, (hmc k9 hk9).2⟩) (fun _ s2 h H locs hw => ?_)
  refine lv_aload_n hx hb dX6_told_5 rfl (lv_at hl 0 rfl) ?_
  refine lv_iload_n hx hb dX6_told_6 rfl (lv_at hl 2 rfl) ?_
  refine lv_iconst (v := 5) hx hb dX6_told_7 (by decide) ?_
  refine mg_kxx (wd := mg_cW g cI cZ) h (fun _ : Unit => none) (fun v : Int32 => some (.int v)) (fun mc9 ms9 o9 s9 hm9 h9 hc9 hs9 => vx_runV (As := [.int x2, .int 5]) (rest := []) G9 (k_X6_checkWhat l hst D o cI cZ g H.size s2 x2 5 o9 s9 h9 mc9 ms9 hm9) (cwV 2 hts gX6_told_X6_checkWhat rfl rfl rfl (by decide +kernel) ⟨Nat.le_of_ble_eq_true rfl, Nat.le_of_ble_eq_true rfl⟩) (mg_preV hK hO hA hw (q0 := 0) rfl rfl) rfl rfl hl.1 rfl (lv_room (Nat.le_of_ble_eq_true rfl)) dX6_told_8 ⟨hc9, hs9⟩) hw hA ht hlocks (Nat.zero_le _) (Nat.zero_le _) (fun k9 hk9 => ⟨(hmc k9 hk9).1, (hmc k9 hk9).2, (hmc k9 hk9).1, (hmc k9 hk9).2⟩) (fun _ s4 h H locs hw => ?_)
  refine lv_iload_n hx hb dX6_told_11 rfl (lv_at hl 2 rfl) ?_
  by_cases g0_ : x2 = 0
  · rw [if_pos g0_] at h
    refine lv_tableIn (off := 32) (tgt := 44) hx hb dX6_told_12 (by rw [g0_]; decide) (by rw [g0_]; decide) (by rw [g0_]; rfl) (by decide) ?_
    refine lv_aload_n hx hb dX6_told_44 rfl (lv_at hl 0 rfl) ?_
    refine va_get (D := D) (ci := 6) (v := .ref (g 2)) (C := RX6) (T := TX6) (N := 7) hx hb hts iX6_ hown hK hw.1 0 rfl rfl 1 (by decide) w0_ (fun _ h9 => h9) rfl dX6_told_45 ?_
    refine lv_iload_n hx hb dX6_told_48 rfl (lv_at hl 1 rfl) ?_
    obtain ⟨y5, h9_, h⟩ := mg_bind h
    refine mg_k (rv := (some (.int y5))) (va_runV (As := [.int x1]) (rest := []) G9 (k_X4_placeOf l D o cI cZ g H.size s4 x1 y5 h9_) (cwV 1 hts gX6_told_X4_placeOf rfl rfl rfl (by decide +kernel) ⟨Nat.le_of_ble_eq_true rfl, Nat.le_of_ble_eq_true rfl⟩) (mg_preV hK hO hA hw (q0 := 2) rfl rfl) rfl rfl hl.1 rfl (lv_room (Nat.le_of_ble_eq_true rfl)) dX6_told_49 ⟨Nat.zero_le _, Nat.zero_le _⟩) hw hA (fun H locs hw => ?_)
    clear h9_
    refine lv_bipush (v := 10) hx hb dX6_told_52 (by decide) ?_
    refine lv_irem hx hb dX6_told_54 (by decide) ?_
    cases h
    exact mg_xI hx hb hr hlocks hw rfl (Nat.zero_le _) (Nat.zero_le _) dX6_told_55
  · rw [if_neg g0_] at h
    by_cases g1_ : x2 = 1
    · rw [if_pos g1_] at h
      refine lv_tableIn (off := 44) (tgt := 56) hx hb dX6_told_12 (by rw [g1_]; decide) (by rw [g1_]; decide) (by rw [g1_]; rfl) (by decide) ?_
      refine lv_aload_n hx hb dX6_told_56 rfl (lv_at hl 0 rfl) ?_
      refine va_get (D := D) (ci := 6) (v := .ref (g 2)) (C := RX6) (T := TX6) (N := 7) hx hb hts iX6_ hown hK hw.1 0 rfl rfl 1 (by decide) w0_ (fun _ h9 => h9) rfl dX6_told_57 ?_
      refine lv_iload_n hx hb dX6_told_60 rfl (lv_at hl 1 rfl) ?_
      obtain ⟨y6, h9_, h⟩ := mg_bind h
      refine mg_k (rv := (some (.int y6))) (va_runV (As := [.int x1]) (rest := []) G9 (k_X4_placeOf l D o cI cZ g H.size s4 x1 y6 h9_) (cwV 1 hts gX6_told_X4_placeOf rfl rfl rfl (by decide +kernel) ⟨Nat.le_of_ble_eq_true rfl, Nat.le_of_ble_eq_true rfl⟩) (mg_preV hK hO hA hw (q0 := 2) rfl rfl) rfl rfl hl.1 rfl (lv_room (Nat.le_of_ble_eq_true rfl)) dX6_told_61 ⟨Nat.zero_le _, Nat.zero_le _⟩) hw hA (fun H locs hw => ?_)
      clear h9_
      refine lv_bipush (v := 10) hx hb dX6_told_64 (by decide) ?_
      refine lv_idiv hx hb dX6_told_66 (by decide) ?_
      cases h
      exact mg_xI hx hb hr hlocks hw rfl (Nat.zero_le _) (Nat.zero_le _) dX6_told_67
    · rw [if_neg g1_] at h
      by_cases g2_ : x2 = 2
      · rw [if_pos g2_] at h
        refine lv_tableIn (off := 56) (tgt := 68) hx hb dX6_told_12 (by rw [g2_]; decide) (by rw [g2_]; decide) (by rw [g2_]; rfl) (by decide) ?_
        refine lv_aload_n hx hb dX6_told_68 rfl (lv_at hl 0 rfl) ?_
        refine va_get (D := D) (ci := 6) (v := .ref (g 5)) (C := RX6) (T := TX6) (N := 7) hx hb hts iX6_ hown hK hw.1 0 rfl rfl 4 (by decide) w2_ (fun _ h9 => h9) rfl dX6_told_69 ?_
        refine lv_iload_n hx hb dX6_told_72 rfl (lv_at hl 1 rfl) ?_
        obtain ⟨y7, h9_, h⟩ := mg_bind h
        refine mg_k (rv := (some (.int y7))) (va_runV (As := [.int x1]) (rest := []) G9 (k_X0_carpSize_5 l D o cI cZ g H.size s4 x1 y7 h9_) (cwV 1 hts gX6_told_X0_carpSize rfl rfl rfl (by decide +kernel) ⟨Nat.le_of_ble_eq_true rfl, Nat.le_of_ble_eq_true rfl⟩) (mg_preV hK hO hA hw (q0 := 5) rfl rfl) rfl rfl hl.1 rfl (lv_room (Nat.le_of_ble_eq_true rfl)) dX6_told_73 ⟨Nat.zero_le _, Nat.zero_le _⟩) hw hA (fun H locs hw => ?_)
        clear h9_
        cases h
        exact mg_xI hx hb hr hlocks hw rfl (Nat.zero_le _) (Nat.zero_le _) dX6_told_76
      · rw [if_neg g2_] at h
        by_cases g3_ : x2 = 3
        · rw [if_pos g3_] at h
          refine lv_tableIn (off := 65) (tgt := 77) hx hb dX6_told_12 (by rw [g3_]; decide) (by rw [g3_]; decide) (by rw [g3_]; rfl) (by decide) ?_
          refine lv_aload_n hx hb dX6_told_77 rfl (lv_at hl 0 rfl) ?_
          refine va_get (D := D) (ci := 6) (v := .ref (g 2)) (C := RX6) (T := TX6) (N := 7) hx hb hts iX6_ hown hK hw.1 0 rfl rfl 1 (by decide) w0_ (fun _ h9 => h9) rfl dX6_told_78 ?_
          refine lv_iload_n hx hb dX6_told_81 rfl (lv_at hl 1 rfl) ?_
          obtain ⟨y8, h9_, h⟩ := mg_bind h
          refine mg_k (rv := (some (.int y8))) (va_runV (As := [.int x1]) (rest := []) G9 (k_X4_isHere l D o cI cZ g H.size s4 x1 y8 h9_) (cwV 1 hts gX6_told_X4_isHere rfl rfl rfl (by decide +kernel) ⟨Nat.le_of_ble_eq_true rfl, Nat.le_of_ble_eq_true rfl⟩) (mg_preV hK hO hA hw (q0 := 2) rfl rfl) rfl rfl hl.1 rfl (lv_room (Nat.le_of_ble_eq_true rfl)) dX6_told_82 ⟨Nat.zero_le _, Nat.zero_le _⟩) hw hA (fun H locs hw => ?_)
          clear h9_
          refine mg_if_eq (tgt := 92) hx hb h dX6_told_85 (by decide) (fun h => ?_) (fun h => ?_)
          · refine lv_iconst (v := 1) hx hb dX6_told_92 (by decide) ?_
            cases h
            exact mg_xI hx hb hr hlocks hw rfl (Nat.zero_le _) (Nat.zero_le _) dX6_told_93
          · refine lv_iconst (v := 0) hx hb dX6_told_88 (by decide) ?_
            refine lv_goto (tgt := 93) hx hb dX6_told_89 (by decide) ?_
            cases h
            exact mg_xI hx hb hr hlocks hw rfl (Nat.zero_le _) (Nat.zero_le _) dX6_told_93
        · rw [if_neg g3_] at h
          have e0_ := lv_neT (a := 0) g0_ rfl
          have e1_ := lv_neT (a := 1) g1_ rfl
          have e2_ := lv_neT (a := 2) g2_ rfl
          have e3_ := lv_neT (a := 3) g3_ rfl
          refine lv_tableOut (tgt := 94) hx hb dX6_told_12 (by omega) (by decide) ?_
          refine lv_aload_n hx hb dX6_told_94 rfl (lv_at hl 0 rfl) ?_
          refine lv_iload_n hx hb dX6_told_95 rfl (lv_at hl 1 rfl) ?_
          obtain ⟨y9, h9_, h⟩ := mg_bind h
          refine mg_k (rv := (some (.int y9))) (va_runV (As := [.int x1]) (rest := []) G9 (k_X6_rankOf l D o cI cZ g H.size s4 x1 y9 h9_) (cwV 1 hts gX6_told_X6_rankOf rfl rfl rfl (by decide +kernel) ⟨Nat.le_of_ble_eq_true rfl, Nat.le_of_ble_eq_true rfl⟩) (mg_preV hK hO hA hw (q0 := 0) rfl rfl) rfl rfl hl.1 rfl (lv_room (Nat.le_of_ble_eq_true rfl)) dX6_told_96 ⟨Nat.zero_le _, Nat.zero_le _⟩) hw hA (fun H locs hw => ?_)
          clear h9_
          cases h
          exact mg_xI hx hb hr hlocks hw rfl (Nat.zero_le _) (Nat.zero_le _) dX6_told_99
set_option maxHeartbeats 4000000 in
set_option maxRecDepth 100000 in
theorem k_X6_gate (l : Launch) (hst : l.stackTraces = false) (D : va_G) (o : Nat → Nat) (cI cZ : ClassId) (g : Nat → Nat) (sz : Nat) (σ : mg_St) (x1 : Int32) (x2 : Int32) (x3 : Int32) (out : Except (Fin 3) Int32) (σ9 : mg_St) (h : f_X6_gate σ x1 x2 x3 = some (out, σ9)) (mc ms : Nat) (hmc : ∀ k, out = .error k → 1 ≤ mc ∧ 6 ≤ ms) : mg_CX l yX6_gate wsX6_gate ({ frames := 7, cells := mc, slots := ms, locals := 112 } : Room) D [(cI, .int), (cZ, .boolean)] o (mg_cW g cI cZ σ) sz [.ref (g 0), .int x1, .int x2, .int x3] (Except.map (fun v : Int32 => some (.int v)) out) (mg_cW g cI cZ σ9) mc ms := by
  unfold mg_CX
  refine vx_ofW (cc := cX6_gate) (maxL := 4) (ret := (some .int)) (by decide) rfl ?_
  intro p e s m args below meth c s₁ B hml ht hv
  obtain ⟨rfl, hsz, hP, hK, hD0, hO⟩ := hv
  have hx := B.exec
  have hb := B.bytes
  have hr := B.returns
  have hts := atoms_spec (ws := wsX6_gate) B.pre
  have hown : s.vm.findClass RX6 = some m.cls := findClass_of_methodNamed B.named
  have hlocks := B.notSynchronized
  subst hsz
  have hD := hD0.self (sz := s.heap.size)
  generalize hAe : va_A (mg_cW g cI cZ σ) s.heap.size = A at hD hO ⊢
  have hA : ∀ q : Nat, s.heap.size ≤ q → A q := fun q h => by rw [← hAe]; exact Or.inr h
  have hw : mg_Wo D A s.heap s.heap [] (mg_cW g cI cZ σ) := ⟨hP, hD, va_S.rf⟩
  have G9 : CallFix p m c cX6_gate 4 s ([.ref (g 0), .int x1, .int x2, .int x3] : List Value).toArray wsX6_gate RX6 := ⟨hx, hb, hml, hown, hts⟩
  clear hP hD hD0 hAe
  obtain ⟨H, hHe⟩ : ∃ H : Heap, H = s.heap := ⟨_, rfl⟩
  have w0_ := hts (.fieldLink RX6 26 "MoonGate" "gates" "LMoonGate$Gates;") (by decide +kernel)
  have iX6_ : ∀ w ∈ wsX60, w ∈ wsX6_gate := (fun _ h => List.mem_cons_of_mem _ (List.mem_append_left _ (List.mem_append_left _ (List.mem_append_left _ (List.mem_append_left _ (List.mem_append_right _ h))))))
  have w2_ := hts (.fieldLink RX6 171 "MoonGate$Gates" "many" "I") (by decide +kernel)
  have iX2_ : ∀ w ∈ wsX20, w ∈ wsX6_gate := (fun _ h => List.mem_cons_of_mem _ (List.mem_append_left _ (List.mem_append_left _ (List.mem_append_left _ (List.mem_append_right _ h)))))
  have w4_ := hts (.classLink RX6 94 "java/lang/IllegalStateException") (by decide +kernel)
  have w5_ := hts (.initialized "java/lang/IllegalStateException") (by decide +kernel)
  have w6_ := hts (.classLink RX6 166 "java/lang/IllegalArgumentException") (by decide +kernel)
  have w7_ := hts (.initialized "java/lang/IllegalArgumentException") (by decide +kernel)
  have hl := lv_entry ([.ref (g 0), .int x1, .int x2, .int x3]) (n := 4) (Nat.le_of_ble_eq_true rfl)
  rw [lg_entry_eq]
  generalize (lg_sl ([.ref (g 0), .int x1, .int x2, .int x3]) ++ List.replicate (4 - (lg_sl ([.ref (g 0), .int x1, .int x2, .int x3])).length) Slot.unset).toArray = ls at hl ⊢
  have hl : lv_has ls 4 [(0, .ref (g 0)), (1, .int x1), (2, .int x2), (3, .int x3)] := hl
  unfold f_X6_gate at h
  revert hw
  intro hw
  suffices K_ : ∀ (H : Heap) (locs : List Loc), mg_Wo D A s.heap H locs (mg_cW g cI cZ σ) → W p l e (headSpec wsX6_gate ({ frames := 7, cells := mc, slots := ms, locals := 112 } : Room)).room s m ([.ref (g 0), .int x1, .int x2, .int x3] : List Value).toArray below meth c H locs 0 0 (vx_MQ below (mg_QX D (mg_cW g cI cZ σ9) A (Except.map (fun v : Int32 => some (.int v)) out)) (mg_XC D (mg_cW g cI cZ σ9) A (Except.map (fun v : Int32 => some (.int v)) out)) ([.ref (g 0), .int x1, .int x2, .int x3] : List Value).toArray s mc ms A) (F0 m 0 ls []) from K_ _ _ hw
  clear hw hHe H
  intro H locs hw
  refine lv_aload_n hx hb dX6_gate_0 rfl (lv_at hl 0 rfl) ?_
  refine lv_iload_n hx hb dX6_gate_1 rfl (lv_at hl 1 rfl) ?_
  refine lv_iload_n hx hb dX6_gate_2 rfl (lv_at hl 2 rfl) ?_
  refine mg_kxx (wd := mg_cW g cI cZ) h (fun _ : Unit => none) (fun v : Int32 => some (.int v)) (fun mc9 ms9 o9 s9 hm9 h9 hc9 hs9 => vx_runV (As := [.int x1, .int x2]) (rest := []) G9 (k_X6_checkPlace l hst D o cI cZ g H.size σ x1 x2 o9 s9 h9 mc9 ms9 hm9) (cwV 2 hts gX6_gate_X6_checkPlace rfl rfl rfl (by decide +kernel) ⟨Nat.le_of_ble_eq_true rfl, Nat.le_of_ble_eq_true rfl⟩) (mg_preV hK hO hA hw (q0 := 0) rfl rfl) rfl rfl hl.1 rfl (lv_room (Nat.le_of_ble_eq_true rfl)) dX6_gate_3 ⟨hc9, hs9⟩) hw hA ht hlocks (Nat.zero_le _) (Nat.zero_le _) (fun k9 hk9 => ⟨(hmc k9 hk9).1, (hmc k9 hk9).2, (hmc k9 hk9).1, (hmc k9 hk9).2⟩) (fun _ s2 h H locs hw => ?_)
  refine lv_iload_n hx hb dX6_gate_6 rfl (lv_at hl 3 rfl) ?_
  obtain ⟨y3, h9_, h⟩ := mg_bind h
  refine mg_k (rv := (some (.int y3))) (va_runS (As := [.int x3]) (rest := []) G9 (k_X1_isDirection l D o cI cZ g H.size s2 x3 y3 h9_) (va_cwS 1 hts gX6_gate_X1_isDirection rfl rfl rfl (by decide +kernel) ⟨Nat.le_of_ble_eq_true rfl, Nat.le_of_ble_eq_true rfl⟩) (mg_pre hK hO hA hw) rfl rfl hl.1 rfl (lv_room (Nat.le_of_ble_eq_true rfl)) dX6_gate_7 ⟨Nat.zero_le _, Nat.zero_le _⟩) hw hA (fun H locs hw => ?_)
  clear h9_
  refine mg_if_ne (tgt := 23) hx hb h dX6_gate_10 (by decide) (fun h => ?_) (fun h => ?_)
  · refine lv_aload_n hx hb dX6_gate_23 rfl (lv_at hl 0 rfl) ?_
    refine va_get (D := D) (ci := 6) (v := .ref (g 3)) (C := RX6) (T := TX6) (N := 7) hx hb hts iX6_ hown hK hw.1 0 rfl rfl 2 (by decide) w0_ (fun _ h9 => h9) rfl dX6_gate_24 ?_
    refine va_get (D := D) (ci := 2) (v := .int (s2 3 2)) (C := RX2) (T := TX2) (N := 3) hx hb hts iX2_ hown hK hw.1 3 rfl rfl 2 (by decide) w2_ (fun _ h9 => h9) rfl dX6_gate_27 ?_
    refine lv_bipush (v := 6) hx hb dX6_gate_30 (by decide) ?_
    refine mg_icmp_lt (tgt := 45) hx hb h dX6_gate_32 (by decide) (fun h => ?_) (fun h => ?_)
    · refine lv_aload_n hx hb dX6_gate_45 rfl (lv_at hl 0 rfl) ?_
      refine va_get (D := D) (ci := 6) (v := .ref (g 3)) (C := RX6) (T := TX6) (N := 7) hx hb hts iX6_ hown hK hw.1 0 rfl rfl 2 (by decide) w0_ (fun _ h9 => h9) rfl dX6_gate_46 ?_
      refine lv_iload_n hx hb dX6_gate_49 rfl (lv_at hl 1 rfl) ?_
      refine lv_iload_n hx hb dX6_gate_50 rfl (lv_at hl 2 rfl) ?_
      obtain ⟨y4, h9_, h⟩ := mg_bind h
      refine mg_k (rv := (some (.int y4))) (va_runS (As := [.int x1, .int x2]) (rest := [.ref (g 3)]) G9 (k_X1_numberOf l D o cI cZ g H.size s2 x1 x2 y4 h9_) (va_cwS 2 hts gX6_gate_X1_numberOf rfl rfl rfl (by decide +kernel) ⟨Nat.le_of_ble_eq_true rfl, Nat.le_of_ble_eq_true rfl⟩) (mg_pre hK hO hA hw) rfl rfl hl.1 rfl (lv_room (Nat.le_of_ble_eq_true rfl)) dX6_gate_51 ⟨Nat.zero_le _, Nat.zero_le _⟩) hw hA (fun H locs hw => ?_)
      clear h9_
      refine lv_iload_n hx hb dX6_gate_54 rfl (lv_at hl 3 rfl) ?_
      obtain ⟨y5, h9_, h⟩ := mg_bind h
      refine mg_k (rv := (some (.int y5.1))) (va_runV (As := [.int y4, .int x3]) (rest := []) G9 (k_X2_add l D o cI cZ g H.size s2 y4 x3 y5 h9_) (cwV 2 hts gX6_gate_X2_add rfl rfl rfl (by decide +kernel) ⟨Nat.le_of_ble_eq_true rfl, Nat.le_of_ble_eq_true rfl⟩) (mg_preV hK hO hA hw (q0 := 3) rfl rfl) rfl rfl hl.1 rfl (lv_room (Nat.le_of_ble_eq_true rfl)) dX6_gate_55 ⟨Nat.zero_le _, Nat.zero_le _⟩) hw hA (fun H locs hw => ?_)
      clear h9_
      cases h
      exact mg_xI hx hb hr hlocks hw rfl (Nat.zero_le _) (Nat.zero_le _) dX6_gate_58
    · cases h
      exact mg_throw (k := 2) (own := RX6) (text := "there are 6 gates") (ik := 94) (is := 174) (ic := 98) hx hb hst hown (by decide +kernel) w4_ w5_ (hO.2.2.2.2.2.2.2.2.2.2.2.2.2.2.2.2.2.2.2.2.2.2.2.2.2.2.1) (vx_hat (B := [.declares (Bundle.initS "java/lang/RuntimeException"), .declares (Bundle.initS "java/lang/Exception"), .declares (Bundle.initS Bundle.tN), .castable "java/lang/IllegalStateException" "java/lang/IllegalStateException"]) (fun w h => hts w (List.mem_cons_of_mem _ (List.mem_append_left _ (List.mem_append_right _ h)))) (by decide +kernel) (vx_c (va_Nw.use rfl (hO.2.2.2.2.2.2.2.2.1)) (vx_c (va_Nw.use rfl (hO.2.2.2.2.2.2.2.2.2.1)) (vx_c (va_Nw.use rfl (hO.2.2.2.2.2.2.2.2.2.2.1)) (vx_c (va_Nw.use rfl (hO.2.2.2.2.2.2.2.2.2.2.2.2.2.1)) vx_n))))) (by decide +kernel) (hO.2.2.2.2.1) (hO.2.2.2.2.2.1) hw (hl.1.trans hml.symm) dX6_gate_35 dX6_gate_38 dX6_gate_39 dX6_gate_41 dX6_gate_44 ht (Nat.le_of_ble_eq_true rfl) (Nat.le_of_ble_eq_true rfl) (hmc _ rfl).1 (hmc _ rfl).2 hlocks rfl (hmc _ rfl).1 (hmc _ rfl).2
  · cases h
    exact mg_throw (k := 1) (own := RX6) (text := "no such direction") (ik := 166) (is := 168) (ic := 170) hx hb hst hown (by decide +kernel) w6_ w7_ (hO.2.2.2.2.2.2.2.2.2.2.2.2.2.2.2.2.2.2.2.2.2.2.2.2.2.1) (vx_hat (B := [.declares (Bundle.initS "java/lang/RuntimeException"), .declares (Bundle.initS "java/lang/Exception"), .declares (Bundle.initS Bundle.tN), .castable "java/lang/IllegalArgumentException" "java/lang/IllegalArgumentException"]) (fun w h => hts w (List.mem_cons_of_mem _ (List.mem_append_left _ (List.mem_append_left _ (List.mem_append_right _ h))))) (by decide +kernel) (vx_c (va_Nw.use rfl (hO.2.2.2.2.2.2.2.2.1)) (vx_c (va_Nw.use rfl (hO.2.2.2.2.2.2.2.2.2.1)) (vx_c (va_Nw.use rfl (hO.2.2.2.2.2.2.2.2.2.2.1)) (vx_c (va_Nw.use rfl (hO.2.2.2.2.2.2.2.2.2.2.2.2.1)) vx_n))))) (by decide +kernel) (hO.2.2.2.2.1) (hO.2.2.2.2.2.1) hw (hl.1.trans hml.symm) dX6_gate_13 dX6_gate_16 dX6_gate_17 dX6_gate_19 dX6_gate_22 ht (Nat.le_of_ble_eq_true rfl) (Nat.le_of_ble_eq_true rfl) (hmc _ rfl).1 (hmc _ rfl).2 hlocks rfl (hmc _ rfl).1 (hmc _ rfl).2
set_option maxHeartbeats 4000000 in
set_option maxRecDepth 100000 in
theorem k_X6_checkGate (l : Launch) (hst : l.stackTraces = false) (D : va_G) (o : Nat → Nat) (cI cZ : ClassId) (g : Nat → Nat) (sz : Nat) (σ : mg_St) (x1 : Int32) (out : Except (Fin 3) Unit) (σ9 : mg_St) (h : f_X6_checkGate σ x1 = some (out, σ9)) (mc ms : Nat) (hmc : ∀ k, out = .error k → 1 ≤ mc ∧ 6 ≤ ms) : mg_CX l yX6_checkGate wsX6_checkGate ({ frames := 6, cells := mc, slots := ms, locals := 90 } : Room) D [(cI, .int), (cZ, .boolean)] o (mg_cW g cI cZ σ) sz [.ref (g 0), .int x1] (Except.map (fun _ : Unit => none) out) (mg_cW g cI cZ σ9) mc ms := by
  unfold mg_CX
  refine vx_ofW (cc := cX6_checkGate) (maxL := 2) (ret := none) (by decide) rfl ?_
  intro p e s m args below meth c s₁ B hml ht hv
  obtain ⟨rfl, hsz, hP, hK, hD0, hO⟩ := hv
  have hx := B.exec
  have hb := B.bytes
  have hr := B.returns
  have hts := atoms_spec (ws := wsX6_checkGate) B.pre
  have hown : s.vm.findClass RX6 = some m.cls := findClass_of_methodNamed B.named
  have hlocks := B.notSynchronized
  subst hsz
  have hD := hD0.self (sz := s.heap.size)
  generalize hAe : va_A (mg_cW g cI cZ σ) s.heap.size = A at hD hO ⊢
  have hA : ∀ q : Nat, s.heap.size ≤ q → A q := fun q h => by rw [← hAe]; exact Or.inr h
  have hw : mg_Wo D A s.heap s.heap [] (mg_cW g cI cZ σ) := ⟨hP, hD, va_S.rf⟩
  have G9 : CallFix p m c cX6_checkGate 2 s ([.ref (g 0), .int x1] : List Value).toArray wsX6_checkGate RX6 := ⟨hx, hb, hml, hown, hts⟩
  clear hP hD hD0 hAe
  obtain ⟨H, hHe⟩ : ∃ H : Heap, H = s.heap := ⟨_, rfl⟩
  have w0_ := hts (.classLink RX6 249 "java/lang/IndexOutOfBoundsException") (by decide +kernel)
  have w1_ := hts (.initialized "java/lang/IndexOutOfBoundsException") (by decide +kernel)
  have w2_ := hts (.fieldLink RX6 26 "MoonGate" "gates" "LMoonGate$Gates;") (by decide +kernel)
  have iX6_ : ∀ w ∈ wsX60, w ∈ wsX6_checkGate := (fun _ h => List.mem_cons_of_mem _ (List.mem_append_left _ (List.mem_append_left _ (List.mem_append_right _ h))))
  have w4_ := hts (.fieldLink RX6 171 "MoonGate$Gates" "many" "I") (by decide +kernel)
  have iX2_ : ∀ w ∈ wsX20, w ∈ wsX6_checkGate := (fun _ h => List.mem_cons_of_mem _ (List.mem_append_left _ (List.mem_append_right _ h)))
  have hl := lv_entry ([.ref (g 0), .int x1]) (n := 2) (Nat.le_of_ble_eq_true rfl)
  rw [lg_entry_eq]
  generalize (lg_sl ([.ref (g 0), .int x1]) ++ List.replicate (2 - (lg_sl ([.ref (g 0), .int x1])).length) Slot.unset).toArray = ls at hl ⊢
  have hl : lv_has ls 2 [(0, .ref (g 0)), (1, .int x1)] := hl
  unfold f_X6_checkGate at h
  revert hw
  intro hw
  suffices K_ : ∀ (H : Heap) (locs : List Loc), mg_Wo D A s.heap H locs (mg_cW g cI cZ σ) → W p l e (headSpec wsX6_checkGate ({ frames := 6, cells := mc, slots := ms, locals := 90 } : Room)).room s m ([.ref (g 0), .int x1] : List Value).toArray below meth c H locs 0 0 (vx_MQ below (mg_QX D (mg_cW g cI cZ σ9) A (Except.map (fun _ : Unit => none) out)) (mg_XC D (mg_cW g cI cZ σ9) A (Except.map (fun _ : Unit => none) out)) ([.ref (g 0), .int x1] : List Value).toArray s mc ms A) (F0 m 0 ls []) from K_ _ _ hw
  clear hw hHe H
  intro H locs hw
  refine lv_iload_n hx hb dX6_checkGate_0 rfl (lv_at hl 1 rfl) ?_
  refine mg_if_lt (tgt := 15) hx hb h dX6_checkGate_1 (by decide) (fun h => ?_) (fun h => ?_)
  · cases h
    exact mg_throwW (k := 0) (own := RX6) (text := "no such gate") (ik := 249) (is := 354) (ic := 253) hx hb hst hown (by decide +kernel) w0_ w1_ (hO.2.2.2.2.2.2.2.2.2.2.2.2.2.2.2.2.2.2.2.2.2.2.2.2.2.2.2.2.2.2.2.2.2.2.2.2.2.1) (vx_hat (B := [.declares (Bundle.initS "java/lang/RuntimeException"), .declares (Bundle.initS "java/lang/Exception"), .declares (Bundle.initS Bundle.tN), .castable "java/lang/IndexOutOfBoundsException" "java/lang/IndexOutOfBoundsException"]) (fun w h => hts w (List.mem_cons_of_mem _ (List.mem_append_right _ h))) (by decide +kernel) (vx_c (va_Nw.use rfl (hO.2.2.2.2.2.2.2.2.1)) (vx_c (va_Nw.use rfl (hO.2.2.2.2.2.2.2.2.2.1)) (vx_c (va_Nw.use rfl (hO.2.2.2.2.2.2.2.2.2.2.1)) (vx_c (va_Nw.use rfl (hO.2.2.2.2.2.2.2.2.2.2.2.1)) vx_n))))) (by decide +kernel) (hO.2.2.2.2.1) (hO.2.2.2.2.2.1) hw (hl.1.trans hml.symm) dX6_checkGate_15 dX6_checkGate_18 dX6_checkGate_19 dX6_checkGate_22 dX6_checkGate_25 ht (Nat.le_of_ble_eq_true rfl) (Nat.le_of_ble_eq_true rfl) (hmc _ rfl).1 (hmc _ rfl).2 hlocks rfl (hmc _ rfl).1 (hmc _ rfl).2
  · refine lv_iload_n hx hb dX6_checkGate_4 rfl (lv_at hl 1 rfl) ?_
    refine lv_aload_n hx hb dX6_checkGate_5 rfl (lv_at hl 0 rfl) ?_
    refine va_get (D := D) (ci := 6) (v := .ref (g 3)) (C := RX6) (T := TX6) (N := 7) hx hb hts iX6_ hown hK hw.1 0 rfl rfl 2 (by decide) w2_ (fun _ h9 => h9) rfl dX6_checkGate_6 ?_
    refine va_get (D := D) (ci := 2) (v := .int (σ 3 2)) (C := RX2) (T := TX2) (N := 3) hx hb hts iX2_ hown hK hw.1 3 rfl rfl 2 (by decide) w4_ (fun _ h9 => h9) rfl dX6_checkGate_9 ?_
    refine mg_icmp_lt (tgt := 26) hx hb h dX6_checkGate_12 (by decide) (fun h => ?_) (fun h => ?_)
    · cases h
      exact mg_xV hx hb hr hlocks hw rfl (Nat.zero_le _) (Nat.zero_le _) dX6_checkGate_26
    · cases h
      exact mg_throwW (k := 0) (own := RX6) (text := "no such gate") (ik := 249) (is := 354) (ic := 253) hx hb hst hown (by decide +kernel) w0_ w1_ (hO.2.2.2.2.2.2.2.2.2.2.2.2.2.2.2.2.2.2.2.2.2.2.2.2.2.2.2.2.2.2.2.2.2.2.2.2.2.1) (vx_hat (B := [.declares (Bundle.initS "java/lang/RuntimeException"), .declares (Bundle.initS "java/lang/Exception"), .declares (Bundle.initS Bundle.tN), .castable "java/lang/IndexOutOfBoundsException" "java/lang/IndexOutOfBoundsException"]) (fun w h => hts w (List.mem_cons_of_mem _ (List.mem_append_right _ h))) (by decide +kernel) (vx_c (va_Nw.use rfl (hO.2.2.2.2.2.2.2.2.1)) (vx_c (va_Nw.use rfl (hO.2.2.2.2.2.2.2.2.2.1)) (vx_c (va_Nw.use rfl (hO.2.2.2.2.2.2.2.2.2.2.1)) (vx_c (va_Nw.use rfl (hO.2.2.2.2.2.2.2.2.2.2.2.1)) vx_n))))) (by decide +kernel) (hO.2.2.2.2.1) (hO.2.2.2.2.2.1) hw (hl.1.trans hml.symm) dX6_checkGate_15 dX6_checkGate_18 dX6_checkGate_19 dX6_checkGate_22 dX6_checkGate_25 ht (Nat.le_of_ble_eq_true rfl) (Nat.le_of_ble_eq_true rfl) (hmc _ rfl).1 (hmc _ rfl).2 hlocks rfl (hmc _ rfl).1 (hmc _ rfl).2
set_option maxHeartbeats 4000000 in
set_option maxRecDepth 100000 in
theorem k_X6_show_5 (l : Launch) (D : va_G) (o : Nat → Nat) (cI cZ : ClassId) (g : Nat → Nat) (sz : Nat) (σ : mg_St) (x1 : Int32) (y : mg_St) (h : f_X6_show σ 5 x1 = some y) : mg_CT l yX6_show wsX6_show ({ frames := 2, cells := 0, slots := 0, locals := 45 } : Room) D [(cI, .int), (cZ, .boolean)] o (mg_cW g cI cZ σ) sz [.ref (g 0), .int x1, .ref (g 5)] none (mg_cW g cI cZ y) 0 0 := by
  unfold mg_CT
  refine Met.ofW (cc := cX6_show) (maxL := 4) (ret := none) (by decide) rfl ?_
  intro p e s m args below meth c s₁ B hml hv
  obtain ⟨rfl, hsz, hP, hK, hD0, hO⟩ := hv
  have hx := B.exec
  have hb := B.bytes
  have hr := B.returns
  have hts := atoms_spec (ws := wsX6_show) B.pre
  have hown : s.vm.findClass RX6 = some m.cls := findClass_of_methodNamed B.named
  have hlocks := B.notSynchronized
  subst hsz
  have hD := hD0.self (sz := s.heap.size)
  generalize hAe : va_A (mg_cW g cI cZ σ) s.heap.size = A at hD hO ⊢
  have hA : ∀ q : Nat, s.heap.size ≤ q → A q := fun q h => by rw [← hAe]; exact Or.inr h
  have hw : mg_Wo D A s.heap s.heap [] (mg_cW g cI cZ σ) := ⟨hP, hD, va_S.rf⟩
  have G9 : CallFix p m c cX6_show 4 s ([.ref (g 0), .int x1, .ref (g 5)] : List Value).toArray wsX6_show RX6 := ⟨hx, hb, hml, hown, hts⟩
  clear hP hD hD0 hAe
  obtain ⟨H, hHe⟩ : ∃ H : Heap, H = s.heap := ⟨_, rfl⟩
  have w0_ := hts (.fieldLink RX6 50 "MoonGate" "view" "LMoonGate$View;") (by decide +kernel)
  have iX6_ : ∀ w ∈ wsX60, w ∈ wsX6_show := (fun _ h => List.mem_cons_of_mem _ (List.mem_append_left _ (List.mem_append_left _ (List.mem_append_left _ (List.mem_append_left _ (List.mem_append_right _ h))))))
  have w2_ := hts (.fieldLink RX6 185 "MoonGate$View" "cells" "I") (by decide +kernel)
  have iX5_ : ∀ w ∈ wsX50, w ∈ wsX6_show := (fun _ h => List.mem_cons_of_mem _ (List.mem_append_left _ (List.mem_append_left _ (List.mem_append_left _ (List.mem_append_right _ h)))))
  have w4_ := hts (.fieldLink RX6 10 "MoonGate" "garden" "LMoonGate$Garden;") (by decide +kernel)
  have w5_ := hts (.fieldLink RX6 19 "MoonGate" "shoal" "LMoonGate$Shoal;") (by decide +kernel)
  have hl := lv_entry ([.ref (g 0), .int x1, .ref (g 5)]) (n := 4) (Nat.le_of_ble_eq_true rfl)
  rw [lg_entry_eq]
  generalize (lg_sl ([.ref (g 0), .int x1, .ref (g 5)]) ++ List.replicate (4 - (lg_sl ([.ref (g 0), .int x1, .ref (g 5)])).length) Slot.unset).toArray = ls at hl ⊢
  have hl : lv_has ls 4 [(0, .ref (g 0)), (1, .int x1), (2, .ref (g 5))] := hl
  unfold f_X6_show at h
  revert hw
  intro hw
  suffices K_ : ∀ (H : Heap) (locs : List Loc), mg_Wo D A s.heap H locs (mg_cW g cI cZ σ) → W p l e (headSpec wsX6_show ({ frames := 2, cells := 0, slots := 0, locals := 45 } : Room)).room s m ([.ref (g 0), .int x1, .ref (g 5)] : List Value).toArray below meth c H locs 0 0 (MQ below (mg_Q D (mg_cW g cI cZ y) A none) ([.ref (g 0), .int x1, .ref (g 5)] : List Value).toArray s 0 0 A) (F0 m 0 ls []) from K_ _ _ hw
  clear hw hHe H
  intro H locs hw
  refine lv_aload_n hx hb dX6_show_0 rfl (lv_at hl 0 rfl) ?_
  refine va_get (D := D) (ci := 6) (v := .ref (g 7)) (C := RX6) (T := TX6) (N := 7) hx hb hts iX6_ hown hK hw.1 0 rfl rfl 6 (by decide) w0_ (fun _ h9 => h9) rfl dX6_show_1 ?_
  refine lv_dup hx hb dX6_show_4 rfl ?_
  refine va_get (D := D) (ci := 5) (v := .int (σ 7 0)) (C := RX5) (T := TX5) (N := 5) hx hb hts iX5_ hown hK hw.1 7 rfl rfl 0 (by decide) w2_ (fun _ h9 => h9) rfl dX6_show_5 ?_
  refine lv_iconst (v := 1) hx hb dX6_show_8 (by decide) ?_
  refine lv_iadd hx hb dX6_show_9 ?_
  refine mg_put (wd := mg_cW g cI cZ) (σ := σ) (v := ((σ 7 0) + 1)) (ci := 5) (C := RX5) (T := TX5) (N := 5) hx hb hts iX5_ tyX5 tyX5_ok nmX5 hown hK hw 7 7 rfl rfl 0 (by decide) w2_ (fun _ h9 => h9) rfl (by decide +kernel) (Nat.le_of_ble_eq_true rfl) rfl dX6_show_10 (fun H locs hw => ?_)
  refine lv_aload_n hx hb dX6_show_13 rfl (lv_at hl 0 rfl) ?_
  refine va_get (D := D) (ci := 6) (v := .ref (g 1)) (C := RX6) (T := TX6) (N := 7) hx hb hts iX6_ hown hK hw.1 0 rfl rfl 0 (by decide) w4_ (fun _ h9 => h9) rfl dX6_show_14 ?_
  refine lv_iload_n hx hb dX6_show_17 rfl (lv_at hl 1 rfl) ?_
  obtain ⟨y1, h9_, h⟩ := mg_bind h
  refine mg_k (rv := (some (.int y1))) (va_runV (As := [.int x1]) (rest := []) G9 (k_X1_kindAt l D o cI cZ g H.size (mg_su σ 7 0 ((σ 7 0) + 1)) x1 y1 h9_) (cwV 1 hts gX6_show_X1_kindAt rfl rfl rfl (by decide +kernel) ⟨Nat.le_of_ble_eq_true rfl, Nat.le_of_ble_eq_true rfl⟩) (mg_preV hK hO hA hw (q0 := 1) rfl rfl) rfl rfl hl.1 rfl (lv_room (Nat.le_of_ble_eq_true rfl)) dX6_show_18 ⟨Nat.zero_le _, Nat.zero_le _⟩) hw hA (fun H locs hw => ?_)
  clear h9_
  refine lv_istore_n (lv' := [(3, .int y1), (0, .ref (g 0)), (1, .int x1), (2, .ref (g 5))]) hx hb dX6_show_21 rfl hl (by decide) rfl (fun ls hl => ?_)
  refine lv_iload_n hx hb dX6_show_22 rfl (lv_at hl 0 rfl) ?_
  refine lv_iconst (v := 1) hx hb dX6_show_23 (by decide) ?_
  refine mg_icmp_ne (tgt := 53) hx hb h dX6_show_24 (by decide) (fun h => ?_) (fun h => ?_)
  · refine lv_iload_n hx hb dX6_show_53 rfl (lv_at hl 0 rfl) ?_
    refine lv_iconst (v := 2) hx hb dX6_show_54 (by decide) ?_
    refine mg_icmp_ne (tgt := 74) hx hb h dX6_show_55 (by decide) (fun h => ?_) (fun h => ?_)
    · cases h
      exact mg_eV hx hb hr hlocks hw (Nat.zero_le _) (Nat.zero_le _) dX6_show_74
    · refine lv_aload_n hx hb dX6_show_58 rfl (lv_at hl 1 rfl) ?_
      refine va_get (D := D) (ci := 6) (v := .ref (g 7)) (C := RX6) (T := TX6) (N := 7) hx hb hts iX6_ hown hK hw.1 0 rfl rfl 6 (by decide) w0_ (fun _ h9 => h9) rfl dX6_show_59 ?_
      refine lv_aload_n hx hb dX6_show_62 rfl (lv_at hl 1 rfl) ?_
      refine va_get (D := D) (ci := 6) (v := .ref (g 2)) (C := RX6) (T := TX6) (N := 7) hx hb hts iX6_ hown hK hw.1 0 rfl rfl 1 (by decide) w5_ (fun _ h9 => h9) rfl dX6_show_63 ?_
      refine lv_iload_n hx hb dX6_show_66 rfl (lv_at hl 2 rfl) ?_
      refine lv_aload_n hx hb dX6_show_67 rfl (lv_at hl 3 rfl) ?_
      obtain ⟨y2, h9_, h⟩ := mg_bind h
      refine mg_k (rv := (some (.int y2))) (va_runV (As := [.int x1, .ref (g 5)]) (rest := [.ref (g 7)]) G9 (k_X4_sizesIn_5 l D o cI cZ g H.size (mg_su σ 7 0 ((σ 7 0) + 1)) x1 y2 h9_) (cwV 2 hts gX6_show_X4_sizesIn rfl rfl rfl (by decide +kernel) ⟨Nat.le_of_ble_eq_true rfl, Nat.le_of_ble_eq_true rfl⟩) (mg_preV hK hO hA hw (q0 := 2) rfl rfl) rfl rfl hl.1 rfl (lv_room (Nat.le_of_ble_eq_true rfl)) dX6_show_68 ⟨Nat.zero_le _, Nat.zero_le _⟩) hw hA (fun H locs hw => ?_)
      clear h9_
      obtain ⟨y3, h9_, h⟩ := mg_bind h
      refine mg_k (rv := none) (va_runV (As := [.int y2]) (rest := []) G9 (k_X5_addPondCell l D o cI cZ g H.size (mg_su σ 7 0 ((σ 7 0) + 1)) y2 y3 h9_) (cwV 1 hts gX6_show_X5_addPondCell rfl rfl rfl (by decide +kernel) ⟨Nat.le_of_ble_eq_true rfl, Nat.le_of_ble_eq_true rfl⟩) (mg_preV hK hO hA hw (q0 := 7) rfl rfl) rfl rfl hl.1 rfl (lv_room (Nat.le_of_ble_eq_true rfl)) dX6_show_71 ⟨Nat.zero_le _, Nat.zero_le _⟩) hw hA (fun H locs hw => ?_)
      clear h9_
      cases h
      exact mg_eV hx hb hr hlocks hw (Nat.zero_le _) (Nat.zero_le _) dX6_show_74
  · refine lv_aload_n hx hb dX6_show_27 rfl (lv_at hl 1 rfl) ?_
    refine va_get (D := D) (ci := 6) (v := .ref (g 7)) (C := RX6) (T := TX6) (N := 7) hx hb hts iX6_ hown hK hw.1 0 rfl rfl 6 (by decide) w0_ (fun _ h9 => h9) rfl dX6_show_28 ?_
    refine lv_aload_n hx hb dX6_show_31 rfl (lv_at hl 1 rfl) ?_
    refine va_get (D := D) (ci := 6) (v := .ref (g 1)) (C := RX6) (T := TX6) (N := 7) hx hb hts iX6_ hown hK hw.1 0 rfl rfl 0 (by decide) w4_ (fun _ h9 => h9) rfl dX6_show_32 ?_
    refine lv_iload_n hx hb dX6_show_35 rfl (lv_at hl 2 rfl) ?_
    obtain ⟨y4, h9_, h⟩ := mg_bind h
    refine mg_k (rv := (some (.int y4))) (va_runV (As := [.int x1]) (rest := [.ref (g 7)]) G9 (k_X1_shapeAt l D o cI cZ g H.size (mg_su σ 7 0 ((σ 7 0) + 1)) x1 y4 h9_) (cwV 1 hts gX6_show_X1_shapeAt rfl rfl rfl (by decide +kernel) ⟨Nat.le_of_ble_eq_true rfl, Nat.le_of_ble_eq_true rfl⟩) (mg_preV hK hO hA hw (q0 := 1) rfl rfl) rfl rfl hl.1 rfl (lv_room (Nat.le_of_ble_eq_true rfl)) dX6_show_36 ⟨Nat.zero_le _, Nat.zero_le _⟩) hw hA (fun H locs hw => ?_)
    clear h9_
    refine lv_aload_n hx hb dX6_show_39 rfl (lv_at hl 1 rfl) ?_
    refine va_get (D := D) (ci := 6) (v := .ref (g 1)) (C := RX6) (T := TX6) (N := 7) hx hb hts iX6_ hown hK hw.1 0 rfl rfl 0 (by decide) w4_ (fun _ h9 => h9) rfl dX6_show_40 ?_
    refine lv_iload_n hx hb dX6_show_43 rfl (lv_at hl 2 rfl) ?_
    obtain ⟨y5, h9_, h⟩ := mg_bind h
    refine mg_k (rv := (some (.int y5))) (va_runV (As := [.int x1]) (rest := [.int y4, .ref (g 7)]) G9 (k_X1_sizeAt l D o cI cZ g H.size (mg_su σ 7 0 ((σ 7 0) + 1)) x1 y5 h9_) (cwV 1 hts gX6_show_X1_sizeAt rfl rfl rfl (by decide +kernel) ⟨Nat.le_of_ble_eq_true rfl, Nat.le_of_ble_eq_true rfl⟩) (mg_preV hK hO hA hw (q0 := 1) rfl rfl) rfl rfl hl.1 rfl (lv_room (Nat.le_of_ble_eq_true rfl)) dX6_show_44 ⟨Nat.zero_le _, Nat.zero_le _⟩) hw hA (fun H locs hw => ?_)
    clear h9_
    obtain ⟨y6, h9_, h⟩ := mg_bind h
    refine mg_k (rv := none) (va_runV (As := [.int y4, .int y5]) (rest := []) G9 (k_X5_addRock l D o cI cZ g H.size (mg_su σ 7 0 ((σ 7 0) + 1)) y4 y5 y6 h9_) (cwV 2 hts gX6_show_X5_addRock rfl rfl rfl (by decide +kernel) ⟨Nat.le_of_ble_eq_true rfl, Nat.le_of_ble_eq_true rfl⟩) (mg_preV hK hO hA hw (q0 := 7) rfl rfl) rfl rfl hl.1 rfl (lv_room (Nat.le_of_ble_eq_true rfl)) dX6_show_47 ⟨Nat.zero_le _, Nat.zero_le _⟩) hw hA (fun H locs hw => ?_)
    clear h9_
    refine lv_goto (tgt := 74) hx hb dX6_show_50 (by decide) ?_
    cases h
    exact mg_eV hx hb hr hlocks hw (Nat.zero_le _) (Nat.zero_le _) dX6_show_74
set_option maxHeartbeats 4000000 in
set_option maxRecDepth 100000 in
theorem k_X6_show_6 (l : Launch) (D : va_G) (o : Nat → Nat) (cI cZ : ClassId) (g : Nat → Nat) (sz : Nat) (σ : mg_St) (x1 : Int32) (y : mg_St) (h : f_X6_show σ 6 x1 = some y) : mg_CT l yX6_show wsX6_show ({ frames := 2, cells := 0, slots := 0, locals := 45 } : Room) D [(cI, .int), (cZ, .boolean)] o (mg_cW g cI cZ σ) sz [.ref (g 0), .int x1, .ref (g 6)] none (mg_cW g cI cZ y) 0 0 := by
  unfold mg_CT
  refine Met.ofW (cc := cX6_show) (maxL := 4) (ret := none) (by decide) rfl ?_
  intro p e s m args below meth c s₁ B hml hv
  obtain ⟨rfl, hsz, hP, hK, hD0, hO⟩ := hv
  have hx := B.exec
  have hb := B.bytes
  have hr := B.returns
  have hts := atoms_spec (ws := wsX6_show) B.pre
  have hown : s.vm.findClass RX6 = some m.cls := findClass_of_methodNamed B.named
  have hlocks := B.notSynchronized
  subst hsz
  have hD := hD0.self (sz := s.heap.size)
  generalize hAe : va_A (mg_cW g cI cZ σ) s.heap.size = A at hD hO ⊢
  have hA : ∀ q : Nat, s.heap.size ≤ q → A q := fun q h => by rw [← hAe]; exact Or.inr h
  have hw : mg_Wo D A s.heap s.heap [] (mg_cW g cI cZ σ) := ⟨hP, hD, va_S.rf⟩
  have G9 : CallFix p m c cX6_show 4 s ([.ref (g 0), .int x1, .ref (g 6)] : List Value).toArray wsX6_show RX6 := ⟨hx, hb, hml, hown, hts⟩
  clear hP hD hD0 hAe
  obtain ⟨H, hHe⟩ : ∃ H : Heap, H = s.heap := ⟨_, rfl⟩
  have w0_ := hts (.fieldLink RX6 50 "MoonGate" "view" "LMoonGate$View;") (by decide +kernel)
  have iX6_ : ∀ w ∈ wsX60, w ∈ wsX6_show := (fun _ h => List.mem_cons_of_mem _ (List.mem_append_left _ (List.mem_append_left _ (List.mem_append_left _ (List.mem_append_left _ (List.mem_append_right _ h))))))
  have w2_ := hts (.fieldLink RX6 185 "MoonGate$View" "cells" "I") (by decide +kernel)
  have iX5_ : ∀ w ∈ wsX50, w ∈ wsX6_show := (fun _ h => List.mem_cons_of_mem _ (List.mem_append_left _ (List.mem_append_left _ (List.mem_append_left _ (List.mem_append_right _ h)))))
  have w4_ := hts (.fieldLink RX6 10 "MoonGate" "garden" "LMoonGate$Garden;") (by decide +kernel)
  have w5_ := hts (.fieldLink RX6 19 "MoonGate" "shoal" "LMoonGate$Shoal;") (by decide +kernel)
  have hl := lv_entry ([.ref (g 0), .int x1, .ref (g 6)]) (n := 4) (Nat.le_of_ble_eq_true rfl)
  rw [lg_entry_eq]
  generalize (lg_sl ([.ref (g 0), .int x1, .ref (g 6)]) ++ List.replicate (4 - (lg_sl ([.ref (g 0), .int x1, .ref (g 6)])).length) Slot.unset).toArray = ls at hl ⊢
  have hl : lv_has ls 4 [(0, .ref (g 0)), (1, .int x1), (2, .ref (g 6))] := hl
  unfold f_X6_show at h
  revert hw
  intro hw
  suffices K_ : ∀ (H : Heap) (locs : List Loc), mg_Wo D A s.heap H locs (mg_cW g cI cZ σ) → W p l e (headSpec wsX6_show ({ frames := 2, cells := 0, slots := 0, locals := 45 } : Room)).room s m ([.ref (g 0), .int x1, .ref (g 6)] : List Value).toArray below meth c H locs 0 0 (MQ below (mg_Q D (mg_cW g cI cZ y) A none) ([.ref (g 0), .int x1, .ref (g 6)] : List Value).toArray s 0 0 A) (F0 m 0 ls []) from K_ _ _ hw
  clear hw hHe H
  intro H locs hw
  refine lv_aload_n hx hb dX6_show_0 rfl (lv_at hl 0 rfl) ?_
  refine va_get (D := D) (ci := 6) (v := .ref (g 7)) (C := RX6) (T := TX6) (N := 7) hx hb hts iX6_ hown hK hw.1 0 rfl rfl 6 (by decide) w0_ (fun _ h9 => h9) rfl dX6_show_1 ?_
  refine lv_dup hx hb dX6_show_4 rfl ?_
  refine va_get (D := D) (ci := 5) (v := .int (σ 7 0)) (C := RX5) (T := TX5) (N := 5) hx hb hts iX5_ hown hK hw.1 7 rfl rfl 0 (by decide) w2_ (fun _ h9 => h9) rfl dX6_show_5 ?_
  refine lv_iconst (v := 1) hx hb dX6_show_8 (by decide) ?_
  refine lv_iadd hx hb dX6_show_9 ?_
  refine mg_put (wd := mg_cW g cI cZ) (σ := σ) (v := ((σ 7 0) + 1)) (ci := 5) (C := RX5) (T := TX5) (N := 5) hx hb hts iX5_ tyX5 tyX5_ok nmX5 hown hK hw 7 7 rfl rfl 0 (by decide) w2_ (fun _ h9 => h9) rfl (by decide +kernel) (Nat.le_of_ble_eq_true rfl) rfl dX6_show_10 (fun H locs hw => ?_)
  refine lv_aload_n hx hb dX6_show_13 rfl (lv_at hl 0 rfl) ?_
  refine va_get (D := D) (ci := 6) (v := .ref (g 1)) (C := RX6) (T := TX6) (N := 7) hx hb hts iX6_ hown hK hw.1 0 rfl rfl 0 (by decide) w4_ (fun _ h9 => h9) rfl dX6_show_14 ?_
  refine lv_iload_n hx hb dX6_show_17 rfl (lv_at hl 1 rfl) ?_
  obtain ⟨y1, h9_, h⟩ := mg_bind h
  refine mg_k (rv := (some (.int y1))) (va_runV (As := [.int x1]) (rest := []) G9 (k_X1_kindAt l D o cI cZ g H.size (mg_su σ 7 0 ((σ 7 0) + 1)) x1 y1 h9_) (cwV 1 hts gX6_show_X1_kindAt rfl rfl rfl (by decide +kernel) ⟨Nat.le_of_ble_eq_true rfl, Nat.le_of_ble_eq_true rfl⟩) (mg_preV hK hO hA hw (q0 := 1) rfl rfl) rfl rfl hl.1 rfl (lv_room (Nat.le_of_ble_eq_true rfl)) dX6_show_18 ⟨Nat.zero_le _, Nat.zero_le _⟩) hw hA (fun H locs hw => ?_)
  clear h9_
  refine lv_istore_n (lv' := [(3, .int y1), (0, .ref (g 0)), (1, .int x1), (2, .ref (g 6))]) hx hb dX6_show_21 rfl hl (by decide) rfl (fun ls hl => ?_)
  refine lv_iload_n hx hb dX6_show_22 rfl (lv_at hl 0 rfl) ?_
  refine lv_iconst (v := 1) hx hb dX6_show_23 (by decide) ?_
  refine mg_icmp_ne (tgt := 53) hx hb h dX6_show_24 (by decide) (fun h => ?_) (fun h => ?_)
  · refine lv_iload_n hx hb dX6_show_53 rfl (lv_at hl 0 rfl) ?_
    refine lv_iconst (v := 2) hx hb dX6_show_54 (by decide) ?_
    refine mg_icmp_ne (tgt := 74) hx hb h dX6_show_55 (by decide) (fun h => ?_) (fun h => ?_)
    · cases h
      exact mg_eV hx hb hr hlocks hw (Nat.zero_le _) (Nat.zero_le _) dX6_show_74
    · refine lv_aload_n hx hb dX6_show_58 rfl (lv_at hl 1 rfl) ?_
      refine va_get (D := D) (ci := 6) (v := .ref (g 7)) (C := RX6) (T := TX6) (N := 7) hx hb hts iX6_ hown hK hw.1 0 rfl rfl 6 (by decide) w0_ (fun _ h9 => h9) rfl dX6_show_59 ?_
      refine lv_aload_n hx hb dX6_show_62 rfl (lv_at hl 1 rfl) ?_
      refine va_get (D := D) (ci := 6) (v := .ref (g 2)) (C := RX6) (T := TX6) (N := 7) hx hb hts iX6_ hown hK hw.1 0 rfl rfl 1 (by decide) w5_ (fun _ h9 => h9) rfl dX6_show_63 ?_
      refine lv_iload_n hx hb dX6_show_66 rfl (lv_at hl 2 rfl) ?_
      refine lv_aload_n hx hb dX6_show_67 rfl (lv_at hl 3 rfl) ?_
      obtain ⟨y2, h9_, h⟩ := mg_bind h
      refine mg_k (rv := (some (.int y2))) (va_runV (As := [.int x1, .ref (g 6)]) (rest := [.ref (g 7)]) G9 (k_X4_sizesIn_6 l D o cI cZ g H.size (mg_su σ 7 0 ((σ 7 0) + 1)) x1 y2 h9_) (cwV 2 hts gX6_show_X4_sizesIn rfl rfl rfl (by decide +kernel) ⟨Nat.le_of_ble_eq_true rfl, Nat.le_of_ble_eq_true rfl⟩) (mg_preV hK hO hA hw (q0 := 2) rfl rfl) rfl rfl hl.1 rfl (lv_room (Nat.le_of_ble_eq_true rfl)) dX6_show_68 ⟨Nat.zero_le _, Nat.zero_le _⟩) hw hA (fun H locs hw => ?_)
      clear h9_
      obtain ⟨y3, h9_, h⟩ := mg_bind h
      refine mg_k (rv := none) (va_runV (As := [.int y2]) (rest := []) G9 (k_X5_addPondCell l D o cI cZ g H.size (mg_su σ 7 0 ((σ 7 0) + 1)) y2 y3 h9_) (cwV 1 hts gX6_show_X5_addPondCell rfl rfl rfl (by decide +kernel) ⟨Nat.le_of_ble_eq_true rfl, Nat.le_of_ble_eq_true rfl⟩) (mg_preV hK hO hA hw (q0 := 7) rfl rfl) rfl rfl hl.1 rfl (lv_room (Nat.le_of_ble_eq_true rfl)) dX6_show_71 ⟨Nat.zero_le _, Nat.zero_le _⟩) hw hA (fun H locs hw => ?_)
      clear h9_
      cases h
      exact mg_eV hx hb hr hlocks hw (Nat.zero_le _) (Nat.zero_le _) dX6_show_74
  · refine lv_aload_n hx hb dX6_show_27 rfl (lv_at hl 1 rfl) ?_
    refine va_get (D := D) (ci := 6) (v := .ref (g 7)) (C := RX6) (T := TX6) (N := 7) hx hb hts iX6_ hown hK hw.1 0 rfl rfl 6 (by decide) w0_ (fun _ h9 => h9) rfl dX6_show_28 ?_
    refine lv_aload_n hx hb dX6_show_31 rfl (lv_at hl 1 rfl) ?_
    refine va_get (D := D) (ci := 6) (v := .ref (g 1)) (C := RX6) (T := TX6) (N := 7) hx hb hts iX6_ hown hK hw.1 0 rfl rfl 0 (by decide) w4_ (fun _ h9 => h9) rfl dX6_show_32 ?_
    refine lv_iload_n hx hb dX6_show_35 rfl (lv_at hl 2 rfl) ?_
    obtain ⟨y4, h9_, h⟩ := mg_bind h
    refine mg_k (rv := (some (.int y4))) (va_runV (As := [.int x1]) (rest := [.ref (g 7)]) G9 (k_X1_shapeAt l D o cI cZ g H.size (mg_su σ 7 0 ((σ 7 0) + 1)) x1 y4 h9_) (cwV 1 hts gX6_show_X1_shapeAt rfl rfl rfl (by decide +kernel) ⟨Nat.le_of_ble_eq_true rfl, Nat.le_of_ble_eq_true rfl⟩) (mg_preV hK hO hA hw (q0 := 1) rfl rfl) rfl rfl hl.1 rfl (lv_room (Nat.le_of_ble_eq_true rfl)) dX6_show_36 ⟨Nat.zero_le _, Nat.zero_le _⟩) hw hA (fun H locs hw => ?_)
    clear h9_
    refine lv_aload_n hx hb dX6_show_39 rfl (lv_at hl 1 rfl) ?_
    refine va_get (D := D) (ci := 6) (v := .ref (g 1)) (C := RX6) (T := TX6) (N := 7) hx hb hts iX6_ hown hK hw.1 0 rfl rfl 0 (by decide) w4_ (fun _ h9 => h9) rfl dX6_show_40 ?_
    refine lv_iload_n hx hb dX6_show_43 rfl (lv_at hl 2 rfl) ?_
    obtain ⟨y5, h9_, h⟩ := mg_bind h
    refine mg_k (rv := (some (.int y5))) (va_runV (As := [.int x1]) (rest := [.int y4, .ref (g 7)]) G9 (k_X1_sizeAt l D o cI cZ g H.size (mg_su σ 7 0 ((σ 7 0) + 1)) x1 y5 h9_) (cwV 1 hts gX6_show_X1_sizeAt rfl rfl rfl (by decide +kernel) ⟨Nat.le_of_ble_eq_true rfl, Nat.le_of_ble_eq_true rfl⟩) (mg_preV hK hO hA hw (q0 := 1) rfl rfl) rfl rfl hl.1 rfl (lv_room (Nat.le_of_ble_eq_true rfl)) dX6_show_44 ⟨Nat.zero_le _, Nat.zero_le _⟩) hw hA (fun H locs hw => ?_)
    clear h9_
    obtain ⟨y6, h9_, h⟩ := mg_bind h
    refine mg_k (rv := none) (va_runV (As := [.int y4, .int y5]) (rest := []) G9 (k_X5_addRock l D o cI cZ g H.size (mg_su σ 7 0 ((σ 7 0) + 1)) y4 y5 y6 h9_) (cwV 2 hts gX6_show_X5_addRock rfl rfl rfl (by decide +kernel) ⟨Nat.le_of_ble_eq_true rfl, Nat.le_of_ble_eq_true rfl⟩) (mg_preV hK hO hA hw (q0 := 7) rfl rfl) rfl rfl hl.1 rfl (lv_room (Nat.le_of_ble_eq_true rfl)) dX6_show_47 ⟨Nat.zero_le _, Nat.zero_le _⟩) hw hA (fun H locs hw => ?_)
    clear h9_
    refine lv_goto (tgt := 74) hx hb dX6_show_50 (by decide) ?_
    cases h
    exact mg_eV hx hb hr hlocks hw (Nat.zero_le _) (Nat.zero_le _) dX6_show_74
set_option maxHeartbeats 4000000 in
set_option maxRecDepth 100000 in
theorem k_X6_look_5 (l : Launch) (D : va_G) (o : Nat → Nat) (cI cZ : ClassId) (g : Nat → Nat) (sz : Nat) (σ : mg_St) (x1 : Int32) (y : (Int32 × mg_St)) (h : f_X6_look σ 5 x1 = some y) : mg_CT l yX6_look wsX6_look ({ frames := 3, cells := 0, slots := 0, locals := 68 } : Room) D [(cI, .int), (cZ, .boolean)] o (mg_cW g cI cZ σ) sz [.ref (g 0), .int x1, .ref (g 5)] (some (.int y.1)) (mg_cW g cI cZ y.2) 0 0 := by
  unfold mg_CT
  refine Met.ofW (cc := cX6_look) (maxL := 6) (ret := (some .int)) (by decide) rfl ?_
  intro p e s m args below meth c s₁ B hml hv
  obtain ⟨rfl, hsz, hP, hK, hD0, hO⟩ := hv
  have hx := B.exec
  have hb := B.bytes
  have hr := B.returns
  have hts := atoms_spec (ws := wsX6_look) B.pre
  have hown : s.vm.findClass RX6 = some m.cls := findClass_of_methodNamed B.named
  have hlocks := B.notSynchronized
  subst hsz
  have hD := hD0.self (sz := s.heap.size)
  generalize hAe : va_A (mg_cW g cI cZ σ) s.heap.size = A at hD hO ⊢
  have hA : ∀ q : Nat, s.heap.size ≤ q → A q := fun q h => by rw [← hAe]; exact Or.inr h
  have hw : mg_Wo D A s.heap s.heap [] (mg_cW g cI cZ σ) := ⟨hP, hD, va_S.rf⟩
  have G9 : CallFix p m c cX6_look 6 s ([.ref (g 0), .int x1, .ref (g 5)] : List Value).toArray wsX6_look RX6 := ⟨hx, hb, hml, hown, hts⟩
  clear hP hD hD0 hAe
  obtain ⟨H, hHe⟩ : ∃ H : Heap, H = s.heap := ⟨_, rfl⟩
  have w0_ := hts (.fieldLink RX6 50 "MoonGate" "view" "LMoonGate$View;") (by decide +kernel)
  have iX6_ : ∀ w ∈ wsX60, w ∈ wsX6_look := (fun _ h => List.mem_cons_of_mem _ (List.mem_append_left _ (List.mem_append_left _ (List.mem_append_left _ (List.mem_append_left _ (List.mem_append_left _ (List.mem_append_right _ h)))))))
  have w2_ := hts (.fieldLink RX6 26 "MoonGate" "gates" "LMoonGate$Gates;") (by decide +kernel)
  have w3_ := hts (.fieldLink RX6 10 "MoonGate" "garden" "LMoonGate$Garden;") (by decide +kernel)
  have w4_ := hts (.fieldLink RX6 194 "MoonGate$View" "beauty" "I") (by decide +kernel)
  have iX5_ : ∀ w ∈ wsX50, w ∈ wsX6_look := (fun _ h => List.mem_cons_of_mem _ (List.mem_append_left _ (List.mem_append_left _ (List.mem_append_left _ (List.mem_append_left _ (List.mem_append_right _ h))))))
  have hl := lv_entry ([.ref (g 0), .int x1, .ref (g 5)]) (n := 6) (Nat.le_of_ble_eq_true rfl)
  rw [lg_entry_eq]
  generalize (lg_sl ([.ref (g 0), .int x1, .ref (g 5)]) ++ List.replicate (6 - (lg_sl ([.ref (g 0), .int x1, .ref (g 5)])).length) Slot.unset).toArray = ls at hl ⊢
  have hl : lv_has ls 6 [(0, .ref (g 0)), (1, .int x1), (2, .ref (g 5))] := hl
  unfold f_X6_look at h
  revert hw
  intro hw
  suffices K_ : ∀ (H : Heap) (locs : List Loc), mg_Wo D A s.heap H locs (mg_cW g cI cZ σ) → W p l e (headSpec wsX6_look ({ frames := 3, cells := 0, slots := 0, locals := 68 } : Room)).room s m ([.ref (g 0), .int x1, .ref (g 5)] : List Value).toArray below meth c H locs 0 0 (MQ below (mg_Q D (mg_cW g cI cZ y.2) A (some (.int y.1))) ([.ref (g 0), .int x1, .ref (g 5)] : List Value).toArray s 0 0 A) (F0 m 0 ls []) from K_ _ _ hw
  clear hw hHe H
  intro H locs hw
  refine lv_aload_n hx hb dX6_look_0 rfl (lv_at hl 0 rfl) ?_
  refine va_get (D := D) (ci := 6) (v := .ref (g 7)) (C := RX6) (T := TX6) (N := 7) hx hb hts iX6_ hown hK hw.1 0 rfl rfl 6 (by decide) w0_ (fun _ h9 => h9) rfl dX6_look_1 ?_
  obtain ⟨y1, h9_, h⟩ := mg_bind h
  refine mg_k (rv := none) (va_runV (As := []) (rest := []) G9 (k_X5_begin l D o cI cZ g H.size σ  y1 h9_) (cwV 0 hts gX6_look_X5_begin rfl rfl rfl (by decide +kernel) ⟨Nat.le_of_ble_eq_true rfl, Nat.le_of_ble_eq_true rfl⟩) (mg_preV hK hO hA hw (q0 := 7) rfl rfl) rfl rfl hl.1 rfl (lv_room (Nat.le_of_ble_eq_true rfl)) dX6_look_4 ⟨Nat.zero_le _, Nat.zero_le _⟩) hw hA (fun H locs hw => ?_)
  clear h9_
  refine lv_aload_n hx hb dX6_look_7 rfl (lv_at hl 0 rfl) ?_
  refine va_get (D := D) (ci := 6) (v := .ref (g 3)) (C := RX6) (T := TX6) (N := 7) hx hb hts iX6_ hown hK hw.1 0 rfl rfl 2 (by decide) w2_ (fun _ h9 => h9) rfl dX6_look_8 ?_
  refine lv_iload_n hx hb dX6_look_11 rfl (lv_at hl 1 rfl) ?_
  obtain ⟨y2, h9_, h⟩ := mg_bind h
  refine mg_k (rv := (some (.int y2))) (va_runV (As := [.int x1]) (rest := []) G9 (k_X2_directionOf l D o cI cZ g H.size y1 x1 y2 h9_) (cwV 1 hts gX6_look_X2_directionOf rfl rfl rfl (by decide +kernel) ⟨Nat.le_of_ble_eq_true rfl, Nat.le_of_ble_eq_true rfl⟩) (mg_preV hK hO hA hw (q0 := 3) rfl rfl) rfl rfl hl.1 rfl (lv_room (Nat.le_of_ble_eq_true rfl)) dX6_look_12 ⟨Nat.zero_le _, Nat.zero_le _⟩) hw hA (fun H locs hw => ?_)
  clear h9_
  refine lv_istore_n (lv' := [(3, .int y2), (0, .ref (g 0)), (1, .int x1), (2, .ref (g 5))]) hx hb dX6_look_15 rfl hl (by decide) rfl (fun ls hl => ?_)
  refine lv_aload_n hx hb dX6_look_16 rfl (lv_at hl 1 rfl) ?_
  refine va_get (D := D) (ci := 6) (v := .ref (g 1)) (C := RX6) (T := TX6) (N := 7) hx hb hts iX6_ hown hK hw.1 0 rfl rfl 0 (by decide) w3_ (fun _ h9 => h9) rfl dX6_look_17 ?_
  refine lv_aload_n hx hb dX6_look_20 rfl (lv_at hl 1 rfl) ?_
  refine va_get (D := D) (ci := 6) (v := .ref (g 3)) (C := RX6) (T := TX6) (N := 7) hx hb hts iX6_ hown hK hw.1 0 rfl rfl 2 (by decide) w2_ (fun _ h9 => h9) rfl dX6_look_21 ?_
  refine lv_iload_n hx hb dX6_look_24 rfl (lv_at hl 2 rfl) ?_
  obtain ⟨y3, h9_, h⟩ := mg_bind h
  refine mg_k (rv := (some (.int y3))) (va_runV (As := [.int x1]) (rest := [.ref (g 1)]) G9 (k_X2_placeOf l D o cI cZ g H.size y1 x1 y3 h9_) (cwV 1 hts gX6_look_X2_placeOf rfl rfl rfl (by decide +kernel) ⟨Nat.le_of_ble_eq_true rfl, Nat.le_of_ble_eq_true rfl⟩) (mg_preV hK hO hA hw (q0 := 3) rfl rfl) rfl rfl hl.1 rfl (lv_room (Nat.le_of_ble_eq_true rfl)) dX6_look_25 ⟨Nat.zero_le _, Nat.zero_le _⟩) hw hA (fun H locs hw => ?_)
  clear h9_
  refine lv_iload_n hx hb dX6_look_28 rfl (lv_at hl 0 rfl) ?_
  obtain ⟨y4, h9_, h⟩ := mg_bind h
  refine mg_k (rv := (some (.int y4))) (va_runV (As := [.int y3, .int y2]) (rest := []) G9 (k_X1_beside l D o cI cZ g H.size y1 y3 y2 y4 h9_) (cwV 2 hts gX6_look_X1_beside rfl rfl rfl (by decide +kernel) ⟨Nat.le_of_ble_eq_true rfl, Nat.le_of_ble_eq_true rfl⟩) (mg_preV hK hO hA hw (q0 := 1) rfl rfl) rfl rfl hl.1 rfl (lv_room (Nat.le_of_ble_eq_true rfl)) dX6_look_29 ⟨Nat.zero_le _, Nat.zero_le _⟩) hw hA (fun H locs hw => ?_)
  clear h9_
  refine lv_istore (lv' := [(4, .int y4), (3, .int y2), (0, .ref (g 0)), (1, .int x1), (2, .ref (g 5))]) hx hb dX6_look_32 hl (by decide) rfl (fun ls hl => ?_)
  refine lv_iconst (v := 0) hx hb dX6_look_34 (by decide) ?_
  refine lv_istore (lv' := [(5, .int 0), (4, .int y4), (3, .int y2), (0, .ref (g 0)), (1, .int x1), (2, .ref (g 5))]) hx hb dX6_look_35 hl (by decide) rfl (fun ls hl => ?_)
  have L37_ : ∀ (n : Nat) (x4_37 : Int32) (x5_37 : Int32) (s37_ : mg_St) (y37_ : Int32 × Int32 × mg_St), f_X6_look_37 5 x1 y2 n x4_37 x5_37 s37_ = some y37_ → (∀ (H : Heap) (locs : List Loc) (ls : Array Slot), mg_Wo D A s.heap H locs (mg_cW g cI cZ y37_.2.2) → lv_has ls 6 [(0, .ref (g 0)), (1, .int x1), (2, .ref (g 5)), (3, .int y2), (4, .int y37_.1), (5, .int y37_.2.1)] → W p l e (headSpec wsX6_look ({ frames := 3, cells := 0, slots := 0, locals := 68 } : Room)).room s m ([.ref (g 0), .int x1, .ref (g 5)] : List Value).toArray below meth c H locs 0 0 (MQ below (mg_Q D (mg_cW g cI cZ y.2) A (some (.int y.1))) ([.ref (g 0), .int x1, .ref (g 5)] : List Value).toArray s 0 0 A) (F0 m 103 ls [])) → ∀ (H : Heap) (locs : List Loc) (ls : Array Slot), mg_Wo D A s.heap H locs (mg_cW g cI cZ s37_) → lv_has ls 6 [(0, .ref (g 0)), (1, .int x1), (2, .ref (g 5)), (3, .int y2), (4, .int x4_37), (5, .int x5_37)] → W p l e (headSpec wsX6_look ({ frames := 3, cells := 0, slots := 0, locals := 68 } : Room)).room s m ([.ref (g 0), .int x1, .ref (g 5)] : List Value).toArray below meth c H locs 0 0 (MQ below (mg_Q D (mg_cW g cI cZ y.2) A (some (.int y.1))) ([.ref (g 0), .int x1, .ref (g 5)] : List Value).toArray s 0 0 A) (F0 m 37 ls []) := by
    intro n
    induction n with
    | zero => intro x4_37 x5_37 s37_ y37_ h; rw [f_X6_look_37] at h; cases h
    | succ n ih =>
      intro x4_37 x5_37 s37_ y37_ h kc H locs ls hw hl
      rw [f_X6_look_37] at h
      refine lv_iload hx hb dX6_look_37 (lv_at hl 5 rfl) ?_
      refine lv_bipush (v := 10) hx hb dX6_look_39 (by decide) ?_
      refine mg_icmp_ge (tgt := 103) hx hb h dX6_look_41 (by decide) (fun h => ?_) (fun h => ?_)
      · cases h
        exact kc H locs ls hw (lv_sub hl [0, 1, 2, 3, 4, 5] rfl)
      · refine lv_iload hx hb dX6_look_44 (lv_at hl 4 rfl) ?_
        refine lv_iconst (v := (-1)) hx hb dX6_look_46 (by decide) ?_
        refine mg_icmp_eq (tgt := 103) hx hb h dX6_look_47 (by decide) (fun h => ?_) (fun h => ?_)
        · cases h
          exact kc H locs ls hw (lv_sub hl [0, 1, 2, 3, 4, 5] rfl)
        · refine lv_aload_n hx hb dX6_look_50 rfl (lv_at hl 0 rfl) ?_
          refine va_get (D := D) (ci := 6) (v := .ref (g 1)) (C := RX6) (T := TX6) (N := 7) hx hb hts iX6_ hown hK hw.1 0 rfl rfl 0 (by decide) w3_ (fun _ h9 => h9) rfl dX6_look_51 ?_
          refine lv_iload hx hb dX6_look_54 (lv_at hl 4 rfl) ?_
          obtain ⟨y6, h9_, h⟩ := mg_bind h
          refine mg_k (rv := (some (.int y6))) (va_runV (As := [.int x4_37]) (rest := []) G9 (k_X1_isWall l D o cI cZ g H.size s37_ x4_37 y6 h9_) (cwV 1 hts gX6_look_X1_isWall rfl rfl rfl (by decide +kernel) ⟨Nat.le_of_ble_eq_true rfl, Nat.le_of_ble_eq_true rfl⟩) (mg_preV hK hO hA hw (q0 := 1) rfl rfl) rfl rfl hl.1 rfl (lv_room (Nat.le_of_ble_eq_true rfl)) dX6_look_56 ⟨Nat.zero_le _, Nat.zero_le _⟩) hw hA (fun H locs hw => ?_)
          clear h9_
          refine mg_if_ne (tgt := 103) hx hb h dX6_look_59 (by decide) (fun h => ?_) (fun h => ?_)
          · cases h
            exact kc H locs ls hw (lv_sub hl [0, 1, 2, 3, 4, 5] rfl)
          · refine lv_aload_n hx hb dX6_look_62 rfl (lv_at hl 0 rfl) ?_
            refine lv_iload hx hb dX6_look_63 (lv_at hl 4 rfl) ?_
            refine lv_aload_n hx hb dX6_look_65 rfl (lv_at hl 2 rfl) ?_
            obtain ⟨y7, h9_, h⟩ := mg_bind h
            refine mg_k (rv := none) (va_runV (As := [.int x4_37, .ref (g 5)]) (rest := []) G9 (k_X6_show_5 l D o cI cZ g H.size s37_ x4_37 y7 h9_) (cwV 2 hts gX6_look_X6_show rfl rfl rfl (by decide +kernel) ⟨Nat.le_of_ble_eq_true rfl, Nat.le_of_ble_eq_true rfl⟩) (mg_preV hK hO hA hw (q0 := 0) rfl rfl) rfl rfl hl.1 rfl (lv_room (Nat.le_of_ble_eq_true rfl)) dX6_look_66 ⟨Nat.zero_le _, Nat.zero_le _⟩) hw hA (fun H locs hw => ?_)
            clear h9_
            refine lv_aload_n hx hb dX6_look_69 rfl (lv_at hl 0 rfl) ?_
            refine va_get (D := D) (ci := 6) (v := .ref (g 1)) (C := RX6) (T := TX6) (N := 7) hx hb hts iX6_ hown hK hw.1 0 rfl rfl 0 (by decide) w3_ (fun _ h9 => h9) rfl dX6_look_70 ?_
            refine lv_iload hx hb dX6_look_73 (lv_at hl 4 rfl) ?_
            obtain ⟨y8, h9_, h⟩ := mg_bind h
            refine mg_k (rv := (some (.int y8))) (va_runV (As := [.int x4_37]) (rest := []) G9 (k_X1_isGreatRock l D o cI cZ g H.size y7 x4_37 y8 h9_) (cwV 1 hts gX6_look_X1_isGreatRock rfl rfl rfl (by decide +kernel) ⟨Nat.le_of_ble_eq_true rfl, Nat.le_of_ble_eq_true rfl⟩) (mg_preV hK hO hA hw (q0 := 1) rfl rfl) rfl rfl hl.1 rfl (lv_room (Nat.le_of_ble_eq_true rfl)) dX6_look_75 ⟨Nat.zero_le _, Nat.zero_le _⟩) hw hA (fun H locs hw => ?_)
            clear h9_
            refine mg_if_eq (tgt := 85) hx hb h dX6_look_78 (by decide) (fun h => ?_) (fun h => ?_)
            · refine lv_aload_n hx hb dX6_look_85 rfl (lv_at hl 0 rfl) ?_
              refine va_get (D := D) (ci := 6) (v := .ref (g 1)) (C := RX6) (T := TX6) (N := 7) hx hb hts iX6_ hown hK hw.1 0 rfl rfl 0 (by decide) w3_ (fun _ h9 => h9) rfl dX6_look_86 ?_
              refine lv_iload hx hb dX6_look_89 (lv_at hl 4 rfl) ?_
              refine lv_iload_n hx hb dX6_look_91 rfl (lv_at hl 3 rfl) ?_
              obtain ⟨y9, h9_, h⟩ := mg_bind h
              refine mg_k (rv := (some (.int y9))) (va_runV (As := [.int x4_37, .int y2]) (rest := []) G9 (k_X1_beside l D o cI cZ g H.size y7 x4_37 y2 y9 h9_) (cwV 2 hts gX6_look_X1_beside rfl rfl rfl (by decide +kernel) ⟨Nat.le_of_ble_eq_true rfl, Nat.le_of_ble_eq_true rfl⟩) (mg_preV hK hO hA hw (q0 := 1) rfl rfl) rfl rfl hl.1 rfl (lv_room (Nat.le_of_ble_eq_true rfl)) dX6_look_92 ⟨Nat.zero_le _, Nat.zero_le _⟩) hw hA (fun H locs hw => ?_)
              clear h9_
              refine lv_istore (lv' := [(4, .int y9), (0, .ref (g 0)), (1, .int x1), (2, .ref (g 5)), (3, .int y2), (5, .int x5_37)]) hx hb dX6_look_95 hl (by decide) rfl (fun ls hl => ?_)
              refine lv_iinc (v := (x5_37 + 1)) (lv' := [(5, .int (x5_37 + 1)), (4, .int y9), (0, .ref (g 0)), (1, .int x1), (2, .ref (g 5)), (3, .int y2)]) hx hb dX6_look_97 hl (k := 5) rfl rfl (by decide) rfl (fun ls hl => ?_)
              refine lv_goto (tgt := 37) hx hb dX6_look_100 (by decide) ?_
              exact ih _ _ _ _ h kc H locs ls hw (lv_sub hl [2, 3, 4, 5, 1, 0] rfl)
            · refine lv_iconst (v := (-1)) hx hb dX6_look_81 (by decide) ?_
              refine lv_goto (tgt := 95) hx hb dX6_look_82 (by decide) ?_
              refine lv_istore (lv' := [(4, .int (-1)), (0, .ref (g 0)), (1, .int x1), (2, .ref (g 5)), (3, .int y2), (5, .int x5_37)]) hx hb dX6_look_95 hl (by decide) rfl (fun ls hl => ?_)
              refine lv_iinc (v := (x5_37 + 1)) (lv' := [(5, .int (x5_37 + 1)), (4, .int (-1)), (0, .ref (g 0)), (1, .int x1), (2, .ref (g 5)), (3, .int y2)]) hx hb dX6_look_97 hl (k := 5) rfl rfl (by decide) rfl (fun ls hl => ?_)
              refine lv_goto (tgt := 37) hx hb dX6_look_100 (by decide) ?_
              exact ih _ _ _ _ h kc H locs ls hw (lv_sub hl [2, 3, 4, 5, 1, 0] rfl)
  obtain ⟨y5, h9_, h⟩ := mg_bind h
  refine L37_ _ _ _ _ _ h9_ (fun H locs ls hw hl => ?_) H locs ls hw (lv_sub hl [3, 4, 5, 2, 1, 0] rfl)
  clear L37_ h9_
  refine lv_aload_n hx hb dX6_look_103 rfl (lv_at hl 0 rfl) ?_
  refine va_get (D := D) (ci := 6) (v := .ref (g 7)) (C := RX6) (T := TX6) (N := 7) hx hb hts iX6_ hown hK hw.1 0 rfl rfl 6 (by decide) w0_ (fun _ h9 => h9) rfl dX6_look_104 ?_
  refine va_get (D := D) (ci := 5) (v := .int (y5.2.2 7 3)) (C := RX5) (T := TX5) (N := 5) hx hb hts iX5_ hown hK hw.1 7 rfl rfl 3 (by decide) w4_ (fun _ h9 => h9) rfl dX6_look_107 ?_
  cases h
  exact mg_eI hx hb hr hlocks hw (Nat.zero_le _) (Nat.zero_le _) dX6_look_110
set_option maxHeartbeats 4000000 in
set_option maxRecDepth 100000 in
theorem k_X6_look_6 (l : Launch) (D : va_G) (o : Nat → Nat) (cI cZ : ClassId) (g : Nat → Nat) (sz : Nat) (σ : mg_St) (x1 : Int32) (y : (Int32 × mg_St)) (h : f_X6_look σ 6 x1 = some y) : mg_CT l yX6_look wsX6_look ({ frames := 3, cells := 0, slots := 0, locals := 68 } : Room) D [(cI, .int), (cZ, .boolean)] o (mg_cW g cI cZ σ) sz [.ref (g 0), .int x1, .ref (g 6)] (some (.int y.1)) (mg_cW g cI cZ y.2) 0 0 := by
  unfold mg_CT
  refine Met.ofW (cc := cX6_look) (maxL := 6) (ret := (some .int)) (by decide) rfl ?_
  intro p e s m args below meth c s₁ B hml hv
  obtain ⟨rfl, hsz, hP, hK, hD0, hO⟩ := hv
  have hx := B.exec
  have hb := B.bytes
  have hr := B.returns
  have hts := atoms_spec (ws := wsX6_look) B.pre
  have hown : s.vm.findClass RX6 = some m.cls := findClass_of_methodNamed B.named
  have hlocks := B.notSynchronized
  subst hsz
  have hD := hD0.self (sz := s.heap.size)
  generalize hAe : va_A (mg_cW g cI cZ σ) s.heap.size = A at hD hO ⊢
  have hA : ∀ q : Nat, s.heap.size ≤ q → A q := fun q h => by rw [← hAe]; exact Or.inr h
  have hw : mg_Wo D A s.heap s.heap [] (mg_cW g cI cZ σ) := ⟨hP, hD, va_S.rf⟩
  have G9 : CallFix p m c cX6_look 6 s ([.ref (g 0), .int x1, .ref (g 6)] : List Value).toArray wsX6_look RX6 := ⟨hx, hb, hml, hown, hts⟩
  clear hP hD hD0 hAe
  obtain ⟨H, hHe⟩ : ∃ H : Heap, H = s.heap := ⟨_, rfl⟩
  have w0_ := hts (.fieldLink RX6 50 "MoonGate" "view" "LMoonGate$View;") (by decide +kernel)
  have iX6_ : ∀ w ∈ wsX60, w ∈ wsX6_look := (fun _ h => List.mem_cons_of_mem _ (List.mem_append_left _ (List.mem_append_left _ (List.mem_append_left _ (List.mem_append_left _ (List.mem_append_left _ (List.mem_append_right _ h)))))))
  have w2_ := hts (.fieldLink RX6 26 "MoonGate" "gates" "LMoonGate$Gates;") (by decide +kernel)
  have w3_ := hts (.fieldLink RX6 10 "MoonGate" "garden" "LMoonGate$Garden;") (by decide +kernel)
  have w4_ := hts (.fieldLink RX6 194 "MoonGate$View" "beauty" "I") (by decide +kernel)
  have iX5_ : ∀ w ∈ wsX50, w ∈ wsX6_look := (fun _ h => List.mem_cons_of_mem _ (List.mem_append_left _ (List.mem_append_left _ (List.mem_append_left _ (List.mem_append_left _ (List.mem_append_right _ h))))))
  have hl := lv_entry ([.ref (g 0), .int x1, .ref (g 6)]) (n := 6) (Nat.le_of_ble_eq_true rfl)
  rw [lg_entry_eq]
  generalize (lg_sl ([.ref (g 0), .int x1, .ref (g 6)]) ++ List.replicate (6 - (lg_sl ([.ref (g 0), .int x1, .ref (g 6)])).length) Slot.unset).toArray = ls at hl ⊢
  have hl : lv_has ls 6 [(0, .ref (g 0)), (1, .int x1), (2, .ref (g 6))] := hl
  unfold f_X6_look at h
  revert hw
  intro hw
  suffices K_ : ∀ (H : Heap) (locs : List Loc), mg_Wo D A s.heap H locs (mg_cW g cI cZ σ) → W p l e (headSpec wsX6_look ({ frames := 3, cells := 0, slots := 0, locals := 68 } : Room)).room s m ([.ref (g 0), .int x1, .ref (g 6)] : List Value).toArray below meth c H locs 0 0 (MQ below (mg_Q D (mg_cW g cI cZ y.2) A (some (.int y.1))) ([.ref (g 0), .int x1, .ref (g 6)] : List Value).toArray s 0 0 A) (F0 m 0 ls []) from K_ _ _ hw
  clear hw hHe H
  intro H locs hw
  refine lv_aload_n hx hb dX6_look_0 rfl (lv_at hl 0 rfl) ?_
  refine va_get (D := D) (ci := 6) (v := .ref (g 7)) (C := RX6) (T := TX6) (N := 7) hx hb hts iX6_ hown hK hw.1 0 rfl rfl 6 (by decide) w0_ (fun _ h9 => h9) rfl dX6_look_1 ?_
  obtain ⟨y1, h9_, h⟩ := mg_bind h
  refine mg_k (rv := none) (va_runV (As := []) (rest := []) G9 (k_X5_begin l D o cI cZ g H.size σ  y1 h9_) (cwV 0 hts gX6_look_X5_begin rfl rfl rfl (by decide +kernel) ⟨Nat.le_of_ble_eq_true rfl, Nat.le_of_ble_eq_true rfl⟩) (mg_preV hK hO hA hw (q0 := 7) rfl rfl) rfl rfl hl.1 rfl (lv_room (Nat.le_of_ble_eq_true rfl)) dX6_look_4 ⟨Nat.zero_le _, Nat.zero_le _⟩) hw hA (fun H locs hw => ?_)
  clear h9_
  refine lv_aload_n hx hb dX6_look_7 rfl (lv_at hl 0 rfl) ?_
  refine va_get (D := D) (ci := 6) (v := .ref (g 3)) (C := RX6) (T := TX6) (N := 7) hx hb hts iX6_ hown hK hw.1 0 rfl rfl 2 (by decide) w2_ (fun _ h9 => h9) rfl dX6_look_8 ?_
  refine lv_iload_n hx hb dX6_look_11 rfl (lv_at hl 1 rfl) ?_
  obtain ⟨y2, h9_, h⟩ := mg_bind h
  refine mg_k (rv := (some (.int y2))) (va_runV (As := [.int x1]) (rest := []) G9 (k_X2_directionOf l D o cI cZ g H.size y1 x1 y2 h9_) (cwV 1 hts gX6_look_X2_directionOf rfl rfl rfl (by decide +kernel) ⟨Nat.le_of_ble_eq_true rfl, Nat.le_of_ble_eq_true rfl⟩) (mg_preV hK hO hA hw (q0 := 3) rfl rfl) rfl rfl hl.1 rfl (lv_room (Nat.le_of_ble_eq_true rfl)) dX6_look_12 ⟨Nat.zero_le _, Nat.zero_le _⟩) hw hA (fun H locs hw => ?_)
  clear h9_
  refine lv_istore_n (lv' := [(3, .int y2), (0, .ref (g 0)), (1, .int x1), (2, .ref (g 6))]) hx hb dX6_look_15 rfl hl (by decide) rfl (fun ls hl => ?_)
  refine lv_aload_n hx hb dX6_look_16 rfl (lv_at hl 1 rfl) ?_
  refine va_get (D := D) (ci := 6) (v := .ref (g 1)) (C := RX6) (T := TX6) (N := 7) hx hb hts iX6_ hown hK hw.1 0 rfl rfl 0 (by decide) w3_ (fun _ h9 => h9) rfl dX6_look_17 ?_
  refine lv_aload_n hx hb dX6_look_20 rfl (lv_at hl 1 rfl) ?_
  refine va_get (D := D) (ci := 6) (v := .ref (g 3)) (C := RX6) (T := TX6) (N := 7) hx hb hts iX6_ hown hK hw.1 0 rfl rfl 2 (by decide) w2_ (fun _ h9 => h9) rfl dX6_look_21 ?_
  refine lv_iload_n hx hb dX6_look_24 rfl (lv_at hl 2 rfl) ?_
  obtain ⟨y3, h9_, h⟩ := mg_bind h
  refine mg_k (rv := (some (.int y3))) (va_runV (As := [.int x1]) (rest := [.ref (g 1)]) G9 (k_X2_placeOf l D o cI cZ g H.size y1 x1 y3 h9_) (cwV 1 hts gX6_look_X2_placeOf rfl rfl rfl (by decide +kernel) ⟨Nat.le_of_ble_eq_true rfl, Nat.le_of_ble_eq_true rfl⟩) (mg_preV hK hO hA hw (q0 := 3) rfl rfl) rfl rfl hl.1 rfl (lv_room (Nat.le_of_ble_eq_true rfl)) dX6_look_25 ⟨Nat.zero_le _, Nat.zero_le _⟩) hw hA (fun H locs hw => ?_)
  clear h9_
  refine lv_iload_n hx hb dX6_look_28 rfl (lv_at hl 0 rfl) ?_
  obtain ⟨y4, h9_, h⟩ := mg_bind h
  refine mg_k (rv := (some (.int y4))) (va_runV (As := [.int y3, .int y2]) (rest := []) G9 (k_X1_beside l D o cI cZ g H.size y1 y3 y2 y4 h9_) (cwV 2 hts gX6_look_X1_beside rfl rfl rfl (by decide +kernel) ⟨Nat.le_of_ble_eq_true rfl, Nat.le_of_ble_eq_true rfl⟩) (mg_preV hK hO hA hw (q0 := 1) rfl rfl) rfl rfl hl.1 rfl (lv_room (Nat.le_of_ble_eq_true rfl)) dX6_look_29 ⟨Nat.zero_le _, Nat.zero_le _⟩) hw hA (fun H locs hw => ?_)
  clear h9_
  refine lv_istore (lv' := [(4, .int y4), (3, .int y2), (0, .ref (g 0)), (1, .int x1), (2, .ref (g 6))]) hx hb dX6_look_32 hl (by decide) rfl (fun ls hl => ?_)
  refine lv_iconst (v := 0) hx hb dX6_look_34 (by decide) ?_
  refine lv_istore (lv' := [(5, .int 0), (4, .int y4), (3, .int y2), (0, .ref (g 0)), (1, .int x1), (2, .ref (g 6))]) hx hb dX6_look_35 hl (by decide) rfl (fun ls hl => ?_)
  have L37_ : ∀ (n : Nat) (x4_37 : Int32) (x5_37 : Int32) (s37_ : mg_St) (y37_ : Int32 × Int32 × mg_St), f_X6_look_37 6 x1 y2 n x4_37 x5_37 s37_ = some y37_ → (∀ (H : Heap) (locs : List Loc) (ls : Array Slot), mg_Wo D A s.heap H locs (mg_cW g cI cZ y37_.2.2) → lv_has ls 6 [(0, .ref (g 0)), (1, .int x1), (2, .ref (g 6)), (3, .int y2), (4, .int y37_.1), (5, .int y37_.2.1)] → W p l e (headSpec wsX6_look ({ frames := 3, cells := 0, slots := 0, locals := 68 } : Room)).room s m ([.ref (g 0), .int x1, .ref (g 6)] : List Value).toArray below meth c H locs 0 0 (MQ below (mg_Q D (mg_cW g cI cZ y.2) A (some (.int y.1))) ([.ref (g 0), .int x1, .ref (g 6)] : List Value).toArray s 0 0 A) (F0 m 103 ls [])) → ∀ (H : Heap) (locs : List Loc) (ls : Array Slot), mg_Wo D A s.heap H locs (mg_cW g cI cZ s37_) → lv_has ls 6 [(0, .ref (g 0)), (1, .int x1), (2, .ref (g 6)), (3, .int y2), (4, .int x4_37), (5, .int x5_37)] → W p l e (headSpec wsX6_look ({ frames := 3, cells := 0, slots := 0, locals := 68 } : Room)).room s m ([.ref (g 0), .int x1, .ref (g 6)] : List Value).toArray below meth c H locs 0 0 (MQ below (mg_Q D (mg_cW g cI cZ y.2) A (some (.int y.1))) ([.ref (g 0), .int x1, .ref (g 6)] : List Value).toArray s 0 0 A) (F0 m 37 ls []) := by
    intro n
    induction n with
    | zero => intro x4_37 x5_37 s37_ y37_ h; rw [f_X6_look_37] at h; cases h
    | succ n ih =>
      intro x4_37 x5_37 s37_ y37_ h kc H locs ls hw hl
      rw [f_X6_look_37] at h
      refine lv_iload hx hb dX6_look_37 (lv_at hl 5 rfl) ?_
      refine lv_bipush (v := 10) hx hb dX6_look_39 (by decide) ?_
      refine mg_icmp_ge (tgt := 103) hx hb h dX6_look_41 (by decide) (fun h => ?_) (fun h => ?_)
      · cases h
        exact kc H locs ls hw (lv_sub hl [0, 1, 2, 3, 4, 5] rfl)
      · refine lv_iload hx hb dX6_look_44 (lv_at hl 4 rfl) ?_
        refine lv_iconst (v := (-1)) hx hb dX6_look_46 (by decide) ?_
        refine mg_icmp_eq (tgt := 103) hx hb h dX6_look_47 (by decide) (fun h => ?_) (fun h => ?_)
        · cases h
          exact kc H locs ls hw (lv_sub hl [0, 1, 2, 3, 4, 5] rfl)
        · refine lv_aload_n hx hb dX6_look_50 rfl (lv_at hl 0 rfl) ?_
          refine va_get (D := D) (ci := 6) (v := .ref (g 1)) (C := RX6) (T := TX6) (N := 7) hx hb hts iX6_ hown hK hw.1 0 rfl rfl 0 (by decide) w3_ (fun _ h9 => h9) rfl dX6_look_51 ?_
          refine lv_iload hx hb dX6_look_54 (lv_at hl 4 rfl) ?_
          obtain ⟨y6, h9_, h⟩ := mg_bind h
          refine mg_k (rv := (some (.int y6))) (va_runV (As := [.int x4_37]) (rest := []) G9 (k_X1_isWall l D o cI cZ g H.size s37_ x4_37 y6 h9_) (cwV 1 hts gX6_look_X1_isWall rfl rfl rfl (by decide +kernel) ⟨Nat.le_of_ble_eq_true rfl, Nat.le_of_ble_eq_true rfl⟩) (mg_preV hK hO hA hw (q0 := 1) rfl rfl) rfl rfl hl.1 rfl (lv_room (Nat.le_of_ble_eq_true rfl)) dX6_look_56 ⟨Nat.zero_le _, Nat.zero_le _⟩) hw hA (fun H locs hw => ?_)
          clear h9_
          refine mg_if_ne (tgt := 103) hx hb h dX6_look_59 (by decide) (fun h => ?_) (fun h => ?_)
          · cases h
            exact kc H locs ls hw (lv_sub hl [0, 1, 2, 3, 4, 5] rfl)
          · refine lv_aload_n hx hb dX6_look_62 rfl (lv_at hl 0 rfl) ?_
            refine lv_iload hx hb dX6_look_63 (lv_at hl 4 rfl) ?_
            refine lv_aload_n hx hb dX6_look_65 rfl (lv_at hl 2 rfl) ?_
            obtain ⟨y7, h9_, h⟩ := mg_bind h
            refine mg_k (rv := none) (va_runV (As := [.int x4_37, .ref (g 6)]) (rest := []) G9 (k_X6_show_6 l D o cI cZ g H.size s37_ x4_37 y7 h9_) (cwV 2 hts gX6_look_X6_show rfl rfl rfl (by decide +kernel) ⟨Nat.le_of_ble_eq_true rfl, Nat.le_of_ble_eq_true rfl⟩) (mg_preV hK hO hA hw (q0 := 0) rfl rfl) rfl rfl hl.1 rfl (lv_room (Nat.le_of_ble_eq_true rfl)) dX6_look_66 ⟨Nat.zero_le _, Nat.zero_le _⟩) hw hA (fun H locs hw => ?_)
            clear h9_
            refine lv_aload_n hx hb dX6_look_69 rfl (lv_at hl 0 rfl) ?_
            refine va_get (D := D) (ci := 6) (v := .ref (g 1)) (C := RX6) (T := TX6) (N := 7) hx hb hts iX6_ hown hK hw.1 0 rfl rfl 0 (by decide) w3_ (fun _ h9 => h9) rfl dX6_look_70 ?_
            refine lv_iload hx hb dX6_look_73 (lv_at hl 4 rfl) ?_
            obtain ⟨y8, h9_, h⟩ := mg_bind h
            refine mg_k (rv := (some (.int y8))) (va_runV (As := [.int x4_37]) (rest := []) G9 (k_X1_isGreatRock l D o cI cZ g H.size y7 x4_37 y8 h9_) (cwV 1 hts gX6_look_X1_isGreatRock rfl rfl rfl (by decide +kernel) ⟨Nat.le_of_ble_eq_true rfl, Nat.le_of_ble_eq_true rfl⟩) (mg_preV hK hO hA hw (q0 := 1) rfl rfl) rfl rfl hl.1 rfl (lv_room (Nat.le_of_ble_eq_true rfl)) dX6_look_75 ⟨Nat.zero_le _, Nat.zero_le _⟩) hw hA (fun H locs hw => ?_)
            clear h9_
            refine mg_if_eq (tgt := 85) hx hb h dX6_look_78 (by decide) (fun h => ?_) (fun h => ?_)
            · refine lv_aload_n hx hb dX6_look_85 rfl (lv_at hl 0 rfl) ?_
              refine va_get (D := D) (ci := 6) (v := .ref (g 1)) (C := RX6) (T := TX6) (N := 7) hx hb hts iX6_ hown hK hw.1 0 rfl rfl 0 (by decide) w3_ (fun _ h9 => h9) rfl dX6_look_86 ?_
              refine lv_iload hx hb dX6_look_89 (lv_at hl 4 rfl) ?_
              refine lv_iload_n hx hb dX6_look_91 rfl (lv_at hl 3 rfl) ?_
              obtain ⟨y9, h9_, h⟩ := mg_bind h
              refine mg_k (rv := (some (.int y9))) (va_runV (As := [.int x4_37, .int y2]) (rest := []) G9 (k_X1_beside l D o cI cZ g H.size y7 x4_37 y2 y9 h9_) (cwV 2 hts gX6_look_X1_beside rfl rfl rfl (by decide +kernel) ⟨Nat.le_of_ble_eq_true rfl, Nat.le_of_ble_eq_true rfl⟩) (mg_preV hK hO hA hw (q0 := 1) rfl rfl) rfl rfl hl.1 rfl (lv_room (Nat.le_of_ble_eq_true rfl)) dX6_look_92 ⟨Nat.zero_le _, Nat.zero_le _⟩) hw hA (fun H locs hw => ?_)
              clear h9_
              refine lv_istore (lv' := [(4, .int y9), (0, .ref (g 0)), (1, .int x1), (2, .ref (g 6)), (3, .int y2), (5, .int x5_37)]) hx hb dX6_look_95 hl (by decide) rfl (fun ls hl => ?_)
              refine lv_iinc (v := (x5_37 + 1)) (lv' := [(5, .int (x5_37 + 1)), (4, .int y9), (0, .ref (g 0)), (1, .int x1), (2, .ref (g 6)), (3, .int y2)]) hx hb dX6_look_97 hl (k := 5) rfl rfl (by decide) rfl (fun ls hl => ?_)
              refine lv_goto (tgt := 37) hx hb dX6_look_100 (by decide) ?_
              exact ih _ _ _ _ h kc H locs ls hw (lv_sub hl [2, 3, 4, 5, 1, 0] rfl)
            · refine lv_iconst (v := (-1)) hx hb dX6_look_81 (by decide) ?_
              refine lv_goto (tgt := 95) hx hb dX6_look_82 (by decide) ?_
              refine lv_istore (lv' := [(4, .int (-1)), (0, .ref (g 0)), (1, .int x1), (2, .ref (g 6)), (3, .int y2), (5, .int x5_37)]) hx hb dX6_look_95 hl (by decide) rfl (fun ls hl => ?_)
              refine lv_iinc (v := (x5_37 + 1)) (lv' := [(5, .int (x5_37 + 1)), (4, .int (-1)), (0, .ref (g 0)), (1, .int x1), (2, .ref (g 6)), (3, .int y2)]) hx hb dX6_look_97 hl (k := 5) rfl rfl (by decide) rfl (fun ls hl => ?_)
              refine lv_goto (tgt := 37) hx hb dX6_look_100 (by decide) ?_
              exact ih _ _ _ _ h kc H locs ls hw (lv_sub hl [2, 3, 4, 5, 1, 0] rfl)
  obtain ⟨y5, h9_, h⟩ := mg_bind h
  refine L37_ _ _ _ _ _ h9_ (fun H locs ls hw hl => ?_) H locs ls hw (lv_sub hl [3, 4, 5, 2, 1, 0] rfl)
  clear L37_ h9_
  refine lv_aload_n hx hb dX6_look_103 rfl (lv_at hl 0 rfl) ?_
  refine va_get (D := D) (ci := 6) (v := .ref (g 7)) (C := RX6) (T := TX6) (N := 7) hx hb hts iX6_ hown hK hw.1 0 rfl rfl 6 (by decide) w0_ (fun _ h9 => h9) rfl dX6_look_104 ?_
  refine va_get (D := D) (ci := 5) (v := .int (y5.2.2 7 3)) (C := RX5) (T := TX5) (N := 5) hx hb hts iX5_ hown hK hw.1 7 rfl rfl 3 (by decide) w4_ (fun _ h9 => h9) rfl dX6_look_107 ?_
  cases h
  exact mg_eI hx hb hr hlocks hw (Nat.zero_le _) (Nat.zero_le _) dX6_look_110
set_option maxHeartbeats 4000000 in
set_option maxRecDepth 100000 in
theorem k_X6_about (l : Launch) (hst : l.stackTraces = false) (D : va_G) (o : Nat → Nat) (cI cZ : ClassId) (g : Nat → Nat) (sz : Nat) (σ : mg_St) (x1 : Int32) (x2 : Int32) (out : Except (Fin 3) Int32) (σ9 : mg_St) (h : f_X6_about σ x1 x2 = some (out, σ9)) (mc ms : Nat) (hmc : ∀ k, out = .error k → 1 ≤ mc ∧ 6 ≤ ms) : mg_CX l yX6_about wsX6_about ({ frames := 7, cells := mc, slots := ms, locals := 112 } : Room) D [(cI, .int), (cZ, .boolean)] o (mg_cW g cI cZ σ) sz [.ref (g 0), .int x1, .int x2] (Except.map (fun v : Int32 => some (.int v)) out) (mg_cW g cI cZ σ9) mc ms := by
  unfold mg_CX
  refine vx_ofW (cc := cX6_about) (maxL := 3) (ret := (some .int)) (by decide) rfl ?_
  intro p e s m args below meth c s₁ B hml ht hv
  obtain ⟨rfl, hsz, hP, hK, hD0, hO⟩ := hv
  have hx := B.exec
  have hb := B.bytes
  have hr := B.returns
  have hts := atoms_spec (ws := wsX6_about) B.pre
  have hown : s.vm.findClass RX6 = some m.cls := findClass_of_methodNamed B.named
  have hlocks := B.notSynchronized
  subst hsz
  have hD := hD0.self (sz := s.heap.size)
  generalize hAe : va_A (mg_cW g cI cZ σ) s.heap.size = A at hD hO ⊢
  have hA : ∀ q : Nat, s.heap.size ≤ q → A q := fun q h => by rw [← hAe]; exact Or.inr h
  have hw : mg_Wo D A s.heap s.heap [] (mg_cW g cI cZ σ) := ⟨hP, hD, va_S.rf⟩
  have G9 : CallFix p m c cX6_about 3 s ([.ref (g 0), .int x1, .int x2] : List Value).toArray wsX6_about RX6 := ⟨hx, hb, hml, hown, hts⟩
  clear hP hD hD0 hAe
  obtain ⟨H, hHe⟩ : ∃ H : Heap, H = s.heap := ⟨_, rfl⟩
  have w0_ := hts (.fieldLink RX6 40 "MoonGate" "now" "LMoonGate$Course;") (by decide +kernel)
  have iX6_ : ∀ w ∈ wsX60, w ∈ wsX6_about := (fun _ h => List.mem_cons_of_mem _ (List.mem_append_left _ (List.mem_append_left _ (List.mem_append_left _ (List.mem_append_left _ (List.mem_append_left _ (List.mem_append_left _ (List.mem_append_left _ (List.mem_append_right _ h)))))))))
  have w2_ := hts (.fieldLink RX6 50 "MoonGate" "view" "LMoonGate$View;") (by decide +kernel)
  have w3_ := hts (.fieldLink RX6 185 "MoonGate$View" "cells" "I") (by decide +kernel)
  have iX5_ : ∀ w ∈ wsX50, w ∈ wsX6_about := (fun _ h => List.mem_cons_of_mem _ (List.mem_append_left _ (List.mem_append_left _ (List.mem_append_left _ (List.mem_append_left _ (List.mem_append_left _ (List.mem_append_left _ (List.mem_append_right _ h))))))))
  have w5_ := hts (.fieldLink RX6 188 "MoonGate$View" "rocks" "I") (by decide +kernel)
  have w6_ := hts (.fieldLink RX6 191 "MoonGate$View" "pondCells" "I") (by decide +kernel)
  have w7_ := hts (.fieldLink RX6 194 "MoonGate$View" "beauty" "I") (by decide +kernel)
  have w8_ := hts (.fieldLink RX6 33 "MoonGate" "poets" "LMoonGate$Poets;") (by decide +kernel)
  have hl := lv_entry ([.ref (g 0), .int x1, .int x2]) (n := 3) (Nat.le_of_ble_eq_true rfl)
  rw [lg_entry_eq]
  generalize (lg_sl ([.ref (g 0), .int x1, .int x2]) ++ List.replicate (3 - (lg_sl ([.ref (g 0), .int x1, .int x2])).length) Slot.unset).toArray = ls at hl ⊢
  have hl : lv_has ls 3 [(0, .ref (g 0)), (1, .int x1), (2, .int x2)] := hl
  unfold f_X6_about at h
  revert hw
  intro hw
  suffices K_ : ∀ (H : Heap) (locs : List Loc), mg_Wo D A s.heap H locs (mg_cW g cI cZ σ) → W p l e (headSpec wsX6_about ({ frames := 7, cells := mc, slots := ms, locals := 112 } : Room)).room s m ([.ref (g 0), .int x1, .int x2] : List Value).toArray below meth c H locs 0 0 (vx_MQ below (mg_QX D (mg_cW g cI cZ σ9) A (Except.map (fun v : Int32 => some (.int v)) out)) (mg_XC D (mg_cW g cI cZ σ9) A (Except.map (fun v : Int32 => some (.int v)) out)) ([.ref (g 0), .int x1, .int x2] : List Value).toArray s mc ms A) (F0 m 0 ls []) from K_ _ _ hw
  clear hw hHe H
  intro H locs hw
  refine lv_aload_n hx hb dX6_about_0 rfl (lv_at hl 0 rfl) ?_
  refine lv_iload_n hx hb dX6_about_1 rfl (lv_at hl 1 rfl) ?_
  refine mg_kxx (wd := mg_cW g cI cZ) h (fun _ : Unit => none) (fun v : Int32 => some (.int v)) (fun mc9 ms9 o9 s9 hm9 h9 hc9 hs9 => vx_runV (As := [.int x1]) (rest := []) G9 (k_X6_checkGate l hst D o cI cZ g H.size σ x1 o9 s9 h9 mc9 ms9 hm9) (cwV 1 hts gX6_about_X6_checkGate rfl rfl rfl (by decide +kernel) ⟨Nat.le_of_ble_eq_true rfl, Nat.le_of_ble_eq_true rfl⟩) (mg_preV hK hO hA hw (q0 := 0) rfl rfl) rfl rfl hl.1 rfl (lv_room (Nat.le_of_ble_eq_true rfl)) dX6_about_2 ⟨hc9, hs9⟩) hw hA ht hlocks (Nat.zero_le _) (Nat.zero_le _) (fun k9 hk9 => ⟨(hmc k9 hk9).1, (hmc k9 hk9).2, (hmc k9 hk9).1, (hmc k9 hk9).2⟩) (fun _ s2 h H locs hw => ?_)
  refine lv_aload_n hx hb dX6_about_5 rfl (lv_at hl 0 rfl) ?_
  refine lv_iload_n hx hb dX6_about_6 rfl (lv_at hl 2 rfl) ?_
  refine lv_iconst (v := 5) hx hb dX6_about_7 (by decide) ?_
  refine mg_kxx (wd := mg_cW g cI cZ) h (fun _ : Unit => none) (fun v : Int32 => some (.int v)) (fun mc9 ms9 o9 s9 hm9 h9 hc9 hs9 => vx_runV (As := [.int x2, .int 5]) (rest := []) G9 (k_X6_checkWhat l hst D o cI cZ g H.size s2 x2 5 o9 s9 h9 mc9 ms9 hm9) (cwV 2 hts gX6_about_X6_checkWhat rfl rfl rfl (by decide +kernel) ⟨Nat.le_of_ble_eq_true rfl, Nat.le_of_ble_eq_true rfl⟩) (mg_preV hK hO hA hw (q0 := 0) rfl rfl) rfl rfl hl.1 rfl (lv_room (Nat.le_of_ble_eq_true rfl)) dX6_about_8 ⟨hc9, hs9⟩) hw hA ht hlocks (Nat.zero_le _) (Nat.zero_le _) (fun k9 hk9 => ⟨(hmc k9 hk9).1, (hmc k9 hk9).2, (hmc k9 hk9).1, (hmc k9 hk9).2⟩) (fun _ s4 h H locs hw => ?_)
  refine lv_aload_n hx hb dX6_about_11 rfl (lv_at hl 0 rfl) ?_
  refine lv_iload_n hx hb dX6_about_12 rfl (lv_at hl 1 rfl) ?_
  refine lv_aload_n hx hb dX6_about_13 rfl (lv_at hl 0 rfl) ?_
  refine va_get (D := D) (ci := 6) (v := .ref (g 5)) (C := RX6) (T := TX6) (N := 7) hx hb hts iX6_ hown hK hw.1 0 rfl rfl 4 (by decide) w0_ (fun _ h9 => h9) rfl dX6_about_14 ?_
  obtain ⟨y5, h9_, h⟩ := mg_bind h
  refine mg_k (rv := (some (.int y5.1))) (va_runV (As := [.int x1, .ref (g 5)]) (rest := []) G9 (k_X6_look_5 l D o cI cZ g H.size s4 x1 y5 h9_) (cwV 2 hts gX6_about_X6_look rfl rfl rfl (by decide +kernel) ⟨Nat.le_of_ble_eq_true rfl, Nat.le_of_ble_eq_true rfl⟩) (mg_preV hK hO hA hw (q0 := 0) rfl rfl) rfl rfl hl.1 rfl (lv_room (Nat.le_of_ble_eq_true rfl)) dX6_about_17 ⟨Nat.zero_le _, Nat.zero_le _⟩) hw hA (fun H locs hw => ?_)
  clear h9_
  refine lv_pop hx hb dX6_about_20 rfl ?_
  refine lv_iload_n hx hb dX6_about_21 rfl (lv_at hl 2 rfl) ?_
  by_cases g0_ : x2 = 0
  · rw [if_pos g0_] at h
    refine lv_tableIn (off := 30) (tgt := 52) hx hb dX6_about_22 (by rw [g0_]; decide) (by rw [g0_]; decide) (by rw [g0_]; rfl) (by decide) ?_
    refine lv_aload_n hx hb dX6_about_52 rfl (lv_at hl 0 rfl) ?_
    refine va_get (D := D) (ci := 6) (v := .ref (g 7)) (C := RX6) (T := TX6) (N := 7) hx hb hts iX6_ hown hK hw.1 0 rfl rfl 6 (by decide) w2_ (fun _ h9 => h9) rfl dX6_about_53 ?_
    refine va_get (D := D) (ci := 5) (v := .int (y5.2 7 0)) (C := RX5) (T := TX5) (N := 5) hx hb hts iX5_ hown hK hw.1 7 rfl rfl 0 (by decide) w3_ (fun _ h9 => h9) rfl dX6_about_56 ?_
    cases h
    exact mg_xI hx hb hr hlocks hw rfl (Nat.zero_le _) (Nat.zero_le _) dX6_about_59
  · rw [if_neg g0_] at h
    by_cases g1_ : x2 = 1
    · rw [if_pos g1_] at h
      refine lv_tableIn (off := 38) (tgt := 60) hx hb dX6_about_22 (by rw [g1_]; decide) (by rw [g1_]; decide) (by rw [g1_]; rfl) (by decide) ?_
      refine lv_aload_n hx hb dX6_about_60 rfl (lv_at hl 0 rfl) ?_
      refine va_get (D := D) (ci := 6) (v := .ref (g 7)) (C := RX6) (T := TX6) (N := 7) hx hb hts iX6_ hown hK hw.1 0 rfl rfl 6 (by decide) w2_ (fun _ h9 => h9) rfl dX6_about_61 ?_
      refine va_get (D := D) (ci := 5) (v := .int (y5.2 7 1)) (C := RX5) (T := TX5) (N := 5) hx hb hts iX5_ hown hK hw.1 7 rfl rfl 1 (by decide) w5_ (fun _ h9 => h9) rfl dX6_about_64 ?_
      cases h
      exact mg_xI hx hb hr hlocks hw rfl (Nat.zero_le _) (Nat.zero_le _) dX6_about_67
    · rw [if_neg g1_] at h
      by_cases g2_ : x2 = 2
      · rw [if_pos g2_] at h
        refine lv_tableIn (off := 46) (tgt := 68) hx hb dX6_about_22 (by rw [g2_]; decide) (by rw [g2_]; decide) (by rw [g2_]; rfl) (by decide) ?_
        refine lv_aload_n hx hb dX6_about_68 rfl (lv_at hl 0 rfl) ?_
        refine va_get (D := D) (ci := 6) (v := .ref (g 7)) (C := RX6) (T := TX6) (N := 7) hx hb hts iX6_ hown hK hw.1 0 rfl rfl 6 (by decide) w2_ (fun _ h9 => h9) rfl dX6_about_69 ?_
        refine va_get (D := D) (ci := 5) (v := .int (y5.2 7 2)) (C := RX5) (T := TX5) (N := 5) hx hb hts iX5_ hown hK hw.1 7 rfl rfl 2 (by decide) w6_ (fun _ h9 => h9) rfl dX6_about_72 ?_
        cases h
        exact mg_xI hx hb hr hlocks hw rfl (Nat.zero_le _) (Nat.zero_le _) dX6_about_75
      · rw [if_neg g2_] at h
        by_cases g3_ : x2 = 3
        · rw [if_pos g3_] at h
          refine lv_tableIn (off := 54) (tgt := 76) hx hb dX6_about_22 (by rw [g3_]; decide) (by rw [g3_]; decide) (by rw [g3_]; rfl) (by decide) ?_
          refine lv_aload_n hx hb dX6_about_76 rfl (lv_at hl 0 rfl) ?_
          refine va_get (D := D) (ci := 6) (v := .ref (g 7)) (C := RX6) (T := TX6) (N := 7) hx hb hts iX6_ hown hK hw.1 0 rfl rfl 6 (by decide) w2_ (fun _ h9 => h9) rfl dX6_about_77 ?_
          refine va_get (D := D) (ci := 5) (v := .int (y5.2 7 3)) (C := RX5) (T := TX5) (N := 5) hx hb hts iX5_ hown hK hw.1 7 rfl rfl 3 (by decide) w7_ (fun _ h9 => h9) rfl dX6_about_80 ?_
          cases h
          exact mg_xI hx hb hr hlocks hw rfl (Nat.zero_le _) (Nat.zero_le _) dX6_about_83
        · rw [if_neg g3_] at h
          have e0_ := lv_neT (a := 0) g0_ rfl
          have e1_ := lv_neT (a := 1) g1_ rfl
          have e2_ := lv_neT (a := 2) g2_ rfl
          have e3_ := lv_neT (a := 3) g3_ rfl
          refine lv_tableOut (tgt := 84) hx hb dX6_about_22 (by omega) (by decide) ?_
          refine lv_aload_n hx hb dX6_about_84 rfl (lv_at hl 0 rfl) ?_
          refine va_get (D := D) (ci := 6) (v := .ref (g 4)) (C := RX6) (T := TX6) (N := 7) hx hb hts iX6_ hown hK hw.1 0 rfl rfl 3 (by decide) w8_ (fun _ h9 => h9) rfl dX6_about_85 ?_
          refine lv_iload_n hx hb dX6_about_88 rfl (lv_at hl 1 rfl) ?_
          obtain ⟨y6, h9_, h⟩ := mg_bind h
          refine mg_k (rv := (some (.int y6))) (va_runV (As := [.int x1]) (rest := []) G9 (k_X3_manyAt l D o cI cZ g H.size y5.2 x1 y6 h9_) (cwV 1 hts gX6_about_X3_manyAt rfl rfl rfl (by decide +kernel) ⟨Nat.le_of_ble_eq_true rfl, Nat.le_of_ble_eq_true rfl⟩) (mg_preV hK hO hA hw (q0 := 4) rfl rfl) rfl rfl hl.1 rfl (lv_room (Nat.le_of_ble_eq_true rfl)) dX6_about_89 ⟨Nat.zero_le _, Nat.zero_le _⟩) hw hA (fun H locs hw => ?_)
          clear h9_
          cases h
          exact mg_xI hx hb hr hlocks hw rfl (Nat.zero_le _) (Nat.zero_le _) dX6_about_92
set_option maxHeartbeats 4000000 in
set_option maxRecDepth 100000 in
theorem k_X6_invite (l : Launch) (hst : l.stackTraces = false) (D : va_G) (o : Nat → Nat) (cI cZ : ClassId) (g : Nat → Nat) (sz : Nat) (σ : mg_St) (x1 : Int32) (out : Except (Fin 3) Int32) (σ9 : mg_St) (h : f_X6_invite σ x1 = some (out, σ9)) (mc ms : Nat) (hmc : ∀ k, out = .error k → 1 ≤ mc ∧ 6 ≤ ms) : mg_CX l yX6_invite wsX6_invite ({ frames := 7, cells := mc, slots := ms, locals := 111 } : Room) D [(cI, .int), (cZ, .boolean)] o (mg_cW g cI cZ σ) sz [.ref (g 0), .int x1] (Except.map (fun v : Int32 => some (.int v)) out) (mg_cW g cI cZ σ9) mc ms := by
  unfold mg_CX
  refine vx_ofW (cc := cX6_invite) (maxL := 2) (ret := (some .int)) (by decide) rfl ?_
  intro p e s m args below meth c s₁ B hml ht hv
  obtain ⟨rfl, hsz, hP, hK, hD0, hO⟩ := hv
  have hx := B.exec
  have hb := B.bytes
  have hr := B.returns
  have hts := atoms_spec (ws := wsX6_invite) B.pre
  have hown : s.vm.findClass RX6 = some m.cls := findClass_of_methodNamed B.named
  have hlocks := B.notSynchronized
  subst hsz
  have hD := hD0.self (sz := s.heap.size)
  generalize hAe : va_A (mg_cW g cI cZ σ) s.heap.size = A at hD hO ⊢
  have hA : ∀ q : Nat, s.heap.size ≤ q → A q := fun q h => by rw [← hAe]; exact Or.inr h
  have hw : mg_Wo D A s.heap s.heap [] (mg_cW g cI cZ σ) := ⟨hP, hD, va_S.rf⟩
  have G9 : CallFix p m c cX6_invite 2 s ([.ref (g 0), .int x1] : List Value).toArray wsX6_invite RX6 := ⟨hx, hb, hml, hown, hts⟩
  clear hP hD hD0 hAe
  obtain ⟨H, hHe⟩ : ∃ H : Heap, H = s.heap := ⟨_, rfl⟩
  have w0_ := hts (.fieldLink RX6 33 "MoonGate" "poets" "LMoonGate$Poets;") (by decide +kernel)
  have iX6_ : ∀ w ∈ wsX60, w ∈ wsX6_invite := (fun _ h => List.mem_cons_of_mem _ (List.mem_append_left _ (List.mem_append_left _ (List.mem_append_left _ (List.mem_append_left _ (List.mem_append_right _ h))))))
  have w2_ := hts (.fieldLink RX6 200 "MoonGate$Poets" "many" "I") (by decide +kernel)
  have iX3_ : ∀ w ∈ wsX30, w ∈ wsX6_invite := (fun _ h => List.mem_cons_of_mem _ (List.mem_append_left _ (List.mem_append_left _ (List.mem_append_left _ (List.mem_append_right _ h)))))
  have w4_ := hts (.classLink RX6 94 "java/lang/IllegalStateException") (by decide +kernel)
  have w5_ := hts (.initialized "java/lang/IllegalStateException") (by decide +kernel)
  have hl := lv_entry ([.ref (g 0), .int x1]) (n := 2) (Nat.le_of_ble_eq_true rfl)
  rw [lg_entry_eq]
  generalize (lg_sl ([.ref (g 0), .int x1]) ++ List.replicate (2 - (lg_sl ([.ref (g 0), .int x1])).length) Slot.unset).toArray = ls at hl ⊢
  have hl : lv_has ls 2 [(0, .ref (g 0)), (1, .int x1)] := hl
  unfold f_X6_invite at h
  revert hw
  intro hw
  suffices K_ : ∀ (H : Heap) (locs : List Loc), mg_Wo D A s.heap H locs (mg_cW g cI cZ σ) → W p l e (headSpec wsX6_invite ({ frames := 7, cells := mc, slots := ms, locals := 111 } : Room)).room s m ([.ref (g 0), .int x1] : List Value).toArray below meth c H locs 0 0 (vx_MQ below (mg_QX D (mg_cW g cI cZ σ9) A (Except.map (fun v : Int32 => some (.int v)) out)) (mg_XC D (mg_cW g cI cZ σ9) A (Except.map (fun v : Int32 => some (.int v)) out)) ([.ref (g 0), .int x1] : List Value).toArray s mc ms A) (F0 m 0 ls []) from K_ _ _ hw
  clear hw hHe H
  intro H locs hw
  refine lv_aload_n hx hb dX6_invite_0 rfl (lv_at hl 0 rfl) ?_
  refine lv_iload_n hx hb dX6_invite_1 rfl (lv_at hl 1 rfl) ?_
  refine mg_kxx (wd := mg_cW g cI cZ) h (fun _ : Unit => none) (fun v : Int32 => some (.int v)) (fun mc9 ms9 o9 s9 hm9 h9 hc9 hs9 => vx_runV (As := [.int x1]) (rest := []) G9 (k_X6_checkGate l hst D o cI cZ g H.size σ x1 o9 s9 h9 mc9 ms9 hm9) (cwV 1 hts gX6_invite_X6_checkGate rfl rfl rfl (by decide +kernel) ⟨Nat.le_of_ble_eq_true rfl, Nat.le_of_ble_eq_true rfl⟩) (mg_preV hK hO hA hw (q0 := 0) rfl rfl) rfl rfl hl.1 rfl (lv_room (Nat.le_of_ble_eq_true rfl)) dX6_invite_2 ⟨hc9, hs9⟩) hw hA ht hlocks (Nat.zero_le _) (Nat.zero_le _) (fun k9 hk9 => ⟨(hmc k9 hk9).1, (hmc k9 hk9).2, (hmc k9 hk9).1, (hmc k9 hk9).2⟩) (fun _ s2 h H locs hw => ?_)
  refine lv_aload_n hx hb dX6_invite_5 rfl (lv_at hl 0 rfl) ?_
  refine va_get (D := D) (ci := 6) (v := .ref (g 4)) (C := RX6) (T := TX6) (N := 7) hx hb hts iX6_ hown hK hw.1 0 rfl rfl 3 (by decide) w0_ (fun _ h9 => h9) rfl dX6_invite_6 ?_
  refine va_get (D := D) (ci := 3) (v := .int (s2 4 1)) (C := RX3) (T := TX3) (N := 2) hx hb hts iX3_ hown hK hw.1 4 rfl rfl 1 (by decide) w2_ (fun _ h9 => h9) rfl dX6_invite_9 ?_
  refine lv_iconst (v := 5) hx hb dX6_invite_12 (by decide) ?_
  refine mg_icmp_lt (tgt := 26) hx hb h dX6_invite_13 (by decide) (fun h => ?_) (fun h => ?_)
  · refine lv_aload_n hx hb dX6_invite_26 rfl (lv_at hl 0 rfl) ?_
    refine va_get (D := D) (ci := 6) (v := .ref (g 4)) (C := RX6) (T := TX6) (N := 7) hx hb hts iX6_ hown hK hw.1 0 rfl rfl 3 (by decide) w0_ (fun _ h9 => h9) rfl dX6_invite_27 ?_
    refine lv_iload_n hx hb dX6_invite_30 rfl (lv_at hl 1 rfl) ?_
    obtain ⟨y3, h9_, h⟩ := mg_bind h
    refine mg_k (rv := (some (.int y3.1))) (va_runV (As := [.int x1]) (rest := []) G9 (k_X3_add l D o cI cZ g H.size s2 x1 y3 h9_) (cwV 1 hts gX6_invite_X3_add rfl rfl rfl (by decide +kernel) ⟨Nat.le_of_ble_eq_true rfl, Nat.le_of_ble_eq_true rfl⟩) (mg_preV hK hO hA hw (q0 := 4) rfl rfl) rfl rfl hl.1 rfl (lv_room (Nat.le_of_ble_eq_true rfl)) dX6_invite_31 ⟨Nat.zero_le _, Nat.zero_le _⟩) hw hA (fun H locs hw => ?_)
    clear h9_
    cases h
    exact mg_xI hx hb hr hlocks hw rfl (Nat.zero_le _) (Nat.zero_le _) dX6_invite_34
  · cases h
    exact mg_throw (k := 2) (own := RX6) (text := "there are 5 poets") (ik := 94) (is := 201) (ic := 98) hx hb hst hown (by decide +kernel) w4_ w5_ (hO.2.2.2.2.2.2.2.2.2.2.2.2.2.2.2.2.2.2.2.2.2.2.2.2.2.2.2.1) (vx_hat (B := [.declares (Bundle.initS "java/lang/RuntimeException"), .declares (Bundle.initS "java/lang/Exception"), .declares (Bundle.initS Bundle.tN), .castable "java/lang/IllegalStateException" "java/lang/IllegalStateException"]) (fun w h => hts w (List.mem_cons_of_mem _ (List.mem_append_left _ (List.mem_append_right _ h)))) (by decide +kernel) (vx_c (va_Nw.use rfl (hO.2.2.2.2.2.2.2.2.1)) (vx_c (va_Nw.use rfl (hO.2.2.2.2.2.2.2.2.2.1)) (vx_c (va_Nw.use rfl (hO.2.2.2.2.2.2.2.2.2.2.1)) (vx_c (va_Nw.use rfl (hO.2.2.2.2.2.2.2.2.2.2.2.2.2.1)) vx_n))))) (by decide +kernel) (hO.2.2.2.2.1) (hO.2.2.2.2.2.1) hw (hl.1.trans hml.symm) dX6_invite_16 dX6_invite_19 dX6_invite_20 dX6_invite_22 dX6_invite_25 ht (Nat.le_of_ble_eq_true rfl) (Nat.le_of_ble_eq_true rfl) (hmc _ rfl).1 (hmc _ rfl).2 hlocks rfl (hmc _ rfl).1 (hmc _ rfl).2
set_option maxHeartbeats 4000000 in
set_option maxRecDepth 100000 in
theorem k_X6_checkPoet (l : Launch) (hst : l.stackTraces = false) (D : va_G) (o : Nat → Nat) (cI cZ : ClassId) (g : Nat → Nat) (sz : Nat) (σ : mg_St) (x1 : Int32) (out : Except (Fin 3) Unit) (σ9 : mg_St) (h : f_X6_checkPoet σ x1 = some (out, σ9)) (mc ms : Nat) (hmc : ∀ k, out = .error k → 1 ≤ mc ∧ 6 ≤ ms) : mg_CX l yX6_checkPoet wsX6_checkPoet ({ frames := 6, cells := mc, slots := ms, locals := 90 } : Room) D [(cI, .int), (cZ, .boolean)] o (mg_cW g cI cZ σ) sz [.ref (g 0), .int x1] (Except.map (fun _ : Unit => none) out) (mg_cW g cI cZ σ9) mc ms := by
  unfold mg_CX
  refine vx_ofW (cc := cX6_checkPoet) (maxL := 2) (ret := none) (by decide) rfl ?_
  intro p e s m args below meth c s₁ B hml ht hv
  obtain ⟨rfl, hsz, hP, hK, hD0, hO⟩ := hv
  have hx := B.exec
  have hb := B.bytes
  have hr := B.returns
  have hts := atoms_spec (ws := wsX6_checkPoet) B.pre
  have hown : s.vm.findClass RX6 = some m.cls := findClass_of_methodNamed B.named
  have hlocks := B.notSynchronized
  subst hsz
  have hD := hD0.self (sz := s.heap.size)
  generalize hAe : va_A (mg_cW g cI cZ σ) s.heap.size = A at hD hO ⊢
  have hA : ∀ q : Nat, s.heap.size ≤ q → A q := fun q h => by rw [← hAe]; exact Or.inr h
  have hw : mg_Wo D A s.heap s.heap [] (mg_cW g cI cZ σ) := ⟨hP, hD, va_S.rf⟩
  have G9 : CallFix p m c cX6_checkPoet 2 s ([.ref (g 0), .int x1] : List Value).toArray wsX6_checkPoet RX6 := ⟨hx, hb, hml, hown, hts⟩
  clear hP hD hD0 hAe
  obtain ⟨H, hHe⟩ : ∃ H : Heap, H = s.heap := ⟨_, rfl⟩
  have w0_ := hts (.classLink RX6 249 "java/lang/IndexOutOfBoundsException") (by decide +kernel)
  have w1_ := hts (.initialized "java/lang/IndexOutOfBoundsException") (by decide +kernel)
  have w2_ := hts (.fieldLink RX6 33 "MoonGate" "poets" "LMoonGate$Poets;") (by decide +kernel)
  have iX6_ : ∀ w ∈ wsX60, w ∈ wsX6_checkPoet := (fun _ h => List.mem_cons_of_mem _ (List.mem_append_left _ (List.mem_append_left _ (List.mem_append_right _ h))))
  have w4_ := hts (.fieldLink RX6 200 "MoonGate$Poets" "many" "I") (by decide +kernel)
  have iX3_ : ∀ w ∈ wsX30, w ∈ wsX6_checkPoet := (fun _ h => List.mem_cons_of_mem _ (List.mem_append_left _ (List.mem_append_right _ h)))
  have hl := lv_entry ([.ref (g 0), .int x1]) (n := 2) (Nat.le_of_ble_eq_true rfl)
  rw [lg_entry_eq]
  generalize (lg_sl ([.ref (g 0), .int x1]) ++ List.replicate (2 - (lg_sl ([.ref (g 0), .int x1])).length) Slot.unset).toArray = ls at hl ⊢
  have hl : lv_has ls 2 [(0, .ref (g 0)), (1, .int x1)] := hl
  unfold f_X6_checkPoet at h
  revert hw
  intro hw
  suffices K_ : ∀ (H : Heap) (locs : List Loc), mg_Wo D A s.heap H locs (mg_cW g cI cZ σ) → W p l e (headSpec wsX6_checkPoet ({ frames := 6, cells := mc, slots := ms, locals := 90 } : Room)).room s m ([.ref (g 0), .int x1] : List Value).toArray below meth c H locs 0 0 (vx_MQ below (mg_QX D (mg_cW g cI cZ σ9) A (Except.map (fun _ : Unit => none) out)) (mg_XC D (mg_cW g cI cZ σ9) A (Except.map (fun _ : Unit => none) out)) ([.ref (g 0), .int x1] : List Value).toArray s mc ms A) (F0 m 0 ls []) from K_ _ _ hw
  clear hw hHe H
  intro H locs hw
  refine lv_iload_n hx hb dX6_checkPoet_0 rfl (lv_at hl 1 rfl) ?_
  refine mg_if_lt (tgt := 15) hx hb h dX6_checkPoet_1 (by decide) (fun h => ?_) (fun h => ?_)
  · cases h
    exact mg_throwW (k := 0) (own := RX6) (text := "no such poet") (ik := 249) (is := 356) (ic := 253) hx hb hst hown (by decide +kernel) w0_ w1_ (hO.2.2.2.2.2.2.2.2.2.2.2.2.2.2.2.2.2.2.2.2.2.2.2.2.2.2.2.2.2.2.2.2.2.2.2.2.2.2.1) (vx_hat (B := [.declares (Bundle.initS "java/lang/RuntimeException"), .declares (Bundle.initS "java/lang/Exception"), .declares (Bundle.initS Bundle.tN), .castable "java/lang/IndexOutOfBoundsException" "java/lang/IndexOutOfBoundsException"]) (fun w h => hts w (List.mem_cons_of_mem _ (List.mem_append_right _ h))) (by decide +kernel) (vx_c (va_Nw.use rfl (hO.2.2.2.2.2.2.2.2.1)) (vx_c (va_Nw.use rfl (hO.2.2.2.2.2.2.2.2.2.1)) (vx_c (va_Nw.use rfl (hO.2.2.2.2.2.2.2.2.2.2.1)) (vx_c (va_Nw.use rfl (hO.2.2.2.2.2.2.2.2.2.2.2.1)) vx_n))))) (by decide +kernel) (hO.2.2.2.2.1) (hO.2.2.2.2.2.1) hw (hl.1.trans hml.symm) dX6_checkPoet_15 dX6_checkPoet_18 dX6_checkPoet_19 dX6_checkPoet_22 dX6_checkPoet_25 ht (Nat.le_of_ble_eq_true rfl) (Nat.le_of_ble_eq_true rfl) (hmc _ rfl).1 (hmc _ rfl).2 hlocks rfl (hmc _ rfl).1 (hmc _ rfl).2
  · refine lv_iload_n hx hb dX6_checkPoet_4 rfl (lv_at hl 1 rfl) ?_
    refine lv_aload_n hx hb dX6_checkPoet_5 rfl (lv_at hl 0 rfl) ?_
    refine va_get (D := D) (ci := 6) (v := .ref (g 4)) (C := RX6) (T := TX6) (N := 7) hx hb hts iX6_ hown hK hw.1 0 rfl rfl 3 (by decide) w2_ (fun _ h9 => h9) rfl dX6_checkPoet_6 ?_
    refine va_get (D := D) (ci := 3) (v := .int (σ 4 1)) (C := RX3) (T := TX3) (N := 2) hx hb hts iX3_ hown hK hw.1 4 rfl rfl 1 (by decide) w4_ (fun _ h9 => h9) rfl dX6_checkPoet_9 ?_
    refine mg_icmp_lt (tgt := 26) hx hb h dX6_checkPoet_12 (by decide) (fun h => ?_) (fun h => ?_)
    · cases h
      exact mg_xV hx hb hr hlocks hw rfl (Nat.zero_le _) (Nat.zero_le _) dX6_checkPoet_26
    · cases h
      exact mg_throwW (k := 0) (own := RX6) (text := "no such poet") (ik := 249) (is := 356) (ic := 253) hx hb hst hown (by decide +kernel) w0_ w1_ (hO.2.2.2.2.2.2.2.2.2.2.2.2.2.2.2.2.2.2.2.2.2.2.2.2.2.2.2.2.2.2.2.2.2.2.2.2.2.2.1) (vx_hat (B := [.declares (Bundle.initS "java/lang/RuntimeException"), .declares (Bundle.initS "java/lang/Exception"), .declares (Bundle.initS Bundle.tN), .castable "java/lang/IndexOutOfBoundsException" "java/lang/IndexOutOfBoundsException"]) (fun w h => hts w (List.mem_cons_of_mem _ (List.mem_append_right _ h))) (by decide +kernel) (vx_c (va_Nw.use rfl (hO.2.2.2.2.2.2.2.2.1)) (vx_c (va_Nw.use rfl (hO.2.2.2.2.2.2.2.2.2.1)) (vx_c (va_Nw.use rfl (hO.2.2.2.2.2.2.2.2.2.2.1)) (vx_c (va_Nw.use rfl (hO.2.2.2.2.2.2.2.2.2.2.2.1)) vx_n))))) (by decide +kernel) (hO.2.2.2.2.1) (hO.2.2.2.2.2.1) hw (hl.1.trans hml.symm) dX6_checkPoet_15 dX6_checkPoet_18 dX6_checkPoet_19 dX6_checkPoet_22 dX6_checkPoet_25 ht (Nat.le_of_ble_eq_true rfl) (Nat.le_of_ble_eq_true rfl) (hmc _ rfl).1 (hmc _ rfl).2 hlocks rfl (hmc _ rfl).1 (hmc _ rfl).2
set_option maxHeartbeats 4000000 in
set_option maxRecDepth 100000 in
theorem k_X6_lead (l : Launch) (hst : l.stackTraces = false) (D : va_G) (o : Nat → Nat) (cI cZ : ClassId) (g : Nat → Nat) (sz : Nat) (σ : mg_St) (x1 : Int32) (x2 : Int32) (out : Except (Fin 3) Int32) (σ9 : mg_St) (h : f_X6_lead σ x1 x2 = some (out, σ9)) (mc ms : Nat) (hmc : ∀ k, out = .error k → 1 ≤ mc ∧ 6 ≤ ms) : mg_CX l yX6_lead wsX6_lead ({ frames := 7, cells := mc, slots := ms, locals := 111 } : Room) D [(cI, .int), (cZ, .boolean)] o (mg_cW g cI cZ σ) sz [.ref (g 0), .int x1, .int x2] (Except.map (fun v : Int32 => some (.int v)) out) (mg_cW g cI cZ σ9) mc ms := by
  unfold mg_CX
  refine vx_ofW (cc := cX6_lead) (maxL := 4) (ret := (some .int)) (by decide) rfl ?_
  intro p e s m args below meth c s₁ B hml ht hv
  obtain ⟨rfl, hsz, hP, hK, hD0, hO⟩ := hv
  have hx := B.exec
  have hb := B.bytes
  have hr := B.returns
  have hts := atoms_spec (ws := wsX6_lead) B.pre
  have hown : s.vm.findClass RX6 = some m.cls := findClass_of_methodNamed B.named
  have hlocks := B.notSynchronized
  subst hsz
  have hD := hD0.self (sz := s.heap.size)
  generalize hAe : va_A (mg_cW g cI cZ σ) s.heap.size = A at hD hO ⊢
  have hA : ∀ q : Nat, s.heap.size ≤ q → A q := fun q h => by rw [← hAe]; exact Or.inr h
  have hw : mg_Wo D A s.heap s.heap [] (mg_cW g cI cZ σ) := ⟨hP, hD, va_S.rf⟩
  have G9 : CallFix p m c cX6_lead 4 s ([.ref (g 0), .int x1, .int x2] : List Value).toArray wsX6_lead RX6 := ⟨hx, hb, hml, hown, hts⟩
  clear hP hD hD0 hAe
  obtain ⟨H, hHe⟩ : ∃ H : Heap, H = s.heap := ⟨_, rfl⟩
  have w0_ := hts (.fieldLink RX6 33 "MoonGate" "poets" "LMoonGate$Poets;") (by decide +kernel)
  have iX6_ : ∀ w ∈ wsX60, w ∈ wsX6_lead := (fun _ h => List.mem_cons_of_mem _ (List.mem_append_left _ (List.mem_append_left _ (List.mem_append_left _ (List.mem_append_right _ h)))))
  have hl := lv_entry ([.ref (g 0), .int x1, .int x2]) (n := 4) (Nat.le_of_ble_eq_true rfl)
  rw [lg_entry_eq]
  generalize (lg_sl ([.ref (g 0), .int x1, .int x2]) ++ List.replicate (4 - (lg_sl ([.ref (g 0), .int x1, .int x2])).length) Slot.unset).toArray = ls at hl ⊢
  have hl : lv_has ls 4 [(0, .ref (g 0)), (1, .int x1), (2, .int x2)] := hl
  unfold f_X6_lead at h
  revert hw
  intro hw
  suffices K_ : ∀ (H : Heap) (locs : List Loc), mg_Wo D A s.heap H locs (mg_cW g cI cZ σ) → W p l e (headSpec wsX6_lead ({ frames := 7, cells := mc, slots := ms, locals := 111 } : Room)).room s m ([.ref (g 0), .int x1, .int x2] : List Value).toArray below meth c H locs 0 0 (vx_MQ below (mg_QX D (mg_cW g cI cZ σ9) A (Except.map (fun v : Int32 => some (.int v)) out)) (mg_XC D (mg_cW g cI cZ σ9) A (Except.map (fun v : Int32 => some (.int v)) out)) ([.ref (g 0), .int x1, .int x2] : List Value).toArray s mc ms A) (F0 m 0 ls []) from K_ _ _ hw
  clear hw hHe H
  intro H locs hw
  refine lv_aload_n hx hb dX6_lead_0 rfl (lv_at hl 0 rfl) ?_
  refine lv_iload_n hx hb dX6_lead_1 rfl (lv_at hl 1 rfl) ?_
  refine mg_kxx (wd := mg_cW g cI cZ) h (fun _ : Unit => none) (fun v : Int32 => some (.int v)) (fun mc9 ms9 o9 s9 hm9 h9 hc9 hs9 => vx_runV (As := [.int x1]) (rest := []) G9 (k_X6_checkPoet l hst D o cI cZ g H.size σ x1 o9 s9 h9 mc9 ms9 hm9) (cwV 1 hts gX6_lead_X6_checkPoet rfl rfl rfl (by decide +kernel) ⟨Nat.le_of_ble_eq_true rfl, Nat.le_of_ble_eq_true rfl⟩) (mg_preV hK hO hA hw (q0 := 0) rfl rfl) rfl rfl hl.1 rfl (lv_room (Nat.le_of_ble_eq_true rfl)) dX6_lead_2 ⟨hc9, hs9⟩) hw hA ht hlocks (Nat.zero_le _) (Nat.zero_le _) (fun k9 hk9 => ⟨(hmc k9 hk9).1, (hmc k9 hk9).2, (hmc k9 hk9).1, (hmc k9 hk9).2⟩) (fun _ s2 h H locs hw => ?_)
  refine lv_aload_n hx hb dX6_lead_5 rfl (lv_at hl 0 rfl) ?_
  refine lv_iload_n hx hb dX6_lead_6 rfl (lv_at hl 2 rfl) ?_
  refine mg_kxx (wd := mg_cW g cI cZ) h (fun _ : Unit => none) (fun v : Int32 => some (.int v)) (fun mc9 ms9 o9 s9 hm9 h9 hc9 hs9 => vx_runV (As := [.int x2]) (rest := []) G9 (k_X6_checkGate l hst D o cI cZ g H.size s2 x2 o9 s9 h9 mc9 ms9 hm9) (cwV 1 hts gX6_lead_X6_checkGate rfl rfl rfl (by decide +kernel) ⟨Nat.le_of_ble_eq_true rfl, Nat.le_of_ble_eq_true rfl⟩) (mg_preV hK hO hA hw (q0 := 0) rfl rfl) rfl rfl hl.1 rfl (lv_room (Nat.le_of_ble_eq_true rfl)) dX6_lead_7 ⟨hc9, hs9⟩) hw hA ht hlocks (Nat.zero_le _) (Nat.zero_le _) (fun k9 hk9 => ⟨(hmc k9 hk9).1, (hmc k9 hk9).2, (hmc k9 hk9).1, (hmc k9 hk9).2⟩) (fun _ s4 h H locs hw => ?_)
  refine lv_aload_n hx hb dX6_lead_10 rfl (lv_at hl 0 rfl) ?_
  refine va_get (D := D) (ci := 6) (v := .ref (g 4)) (C := RX6) (T := TX6) (N := 7) hx hb hts iX6_ hown hK hw.1 0 rfl rfl 3 (by decide) w0_ (fun _ h9 => h9) rfl dX6_lead_11 ?_
  refine lv_iload_n hx hb dX6_lead_14 rfl (lv_at hl 1 rfl) ?_
  obtain ⟨y5, h9_, h⟩ := mg_bind h
  refine mg_k (rv := (some (.int y5))) (va_runV (As := [.int x1]) (rest := []) G9 (k_X3_gateOf l D o cI cZ g H.size s4 x1 y5 h9_) (cwV 1 hts gX6_lead_X3_gateOf rfl rfl rfl (by decide +kernel) ⟨Nat.le_of_ble_eq_true rfl, Nat.le_of_ble_eq_true rfl⟩) (mg_preV hK hO hA hw (q0 := 4) rfl rfl) rfl rfl hl.1 rfl (lv_room (Nat.le_of_ble_eq_true rfl)) dX6_lead_15 ⟨Nat.zero_le _, Nat.zero_le _⟩) hw hA (fun H locs hw => ?_)
  clear h9_
  refine lv_istore_n (lv' := [(3, .int y5), (0, .ref (g 0)), (1, .int x1), (2, .int x2)]) hx hb dX6_lead_18 rfl hl (by decide) rfl (fun ls hl => ?_)
  refine lv_aload_n hx hb dX6_lead_19 rfl (lv_at hl 1 rfl) ?_
  refine va_get (D := D) (ci := 6) (v := .ref (g 4)) (C := RX6) (T := TX6) (N := 7) hx hb hts iX6_ hown hK hw.1 0 rfl rfl 3 (by decide) w0_ (fun _ h9 => h9) rfl dX6_lead_20 ?_
  refine lv_iload_n hx hb dX6_lead_23 rfl (lv_at hl 2 rfl) ?_
  refine lv_iload_n hx hb dX6_lead_24 rfl (lv_at hl 3 rfl) ?_
  obtain ⟨y6, h9_, h⟩ := mg_bind h
  refine mg_k (rv := none) (va_runV (As := [.int x1, .int x2]) (rest := []) G9 (k_X3_setGate l D o cI cZ g H.size s4 x1 x2 y6 h9_) (cwV 2 hts gX6_lead_X3_setGate rfl rfl rfl (by decide +kernel) ⟨Nat.le_of_ble_eq_true rfl, Nat.le_of_ble_eq_true rfl⟩) (mg_preV hK hO hA hw (q0 := 4) rfl rfl) rfl rfl hl.1 rfl (lv_room (Nat.le_of_ble_eq_true rfl)) dX6_lead_25 ⟨Nat.zero_le _, Nat.zero_le _⟩) hw hA (fun H locs hw => ?_)
  clear h9_
  refine lv_iload_n hx hb dX6_lead_28 rfl (lv_at hl 0 rfl) ?_
  cases h
  exact mg_xI hx hb hr hlocks hw rfl (Nat.zero_le _) (Nat.zero_le _) dX6_lead_29
set_option maxHeartbeats 4000000 in
set_option maxRecDepth 100000 in
theorem k_X6_lines (l : Launch) (hst : l.stackTraces = false) (D : va_G) (o : Nat → Nat) (cI cZ : ClassId) (g : Nat → Nat) (sz : Nat) (σ : mg_St) (x1 : Int32) (out : Except (Fin 3) Int32) (σ9 : mg_St) (h : f_X6_lines σ x1 = some (out, σ9)) (mc ms : Nat) (hmc : ∀ k, out = .error k → 1 ≤ mc ∧ 6 ≤ ms) : mg_CX l yX6_lines wsX6_lines ({ frames := 7, cells := mc, slots := ms, locals := 111 } : Room) D [(cI, .int), (cZ, .boolean)] o (mg_cW g cI cZ σ) sz [.ref (g 0), .int x1] (Except.map (fun v : Int32 => some (.int v)) out) (mg_cW g cI cZ σ9) mc ms := by
  unfold mg_CX
  refine vx_ofW (cc := cX6_lines) (maxL := 2) (ret := (some .int)) (by decide) rfl ?_
  intro p e s m args below meth c s₁ B hml ht hv
  obtain ⟨rfl, hsz, hP, hK, hD0, hO⟩ := hv
  have hx := B.exec
  have hb := B.bytes
  have hr := B.returns
  have hts := atoms_spec (ws := wsX6_lines) B.pre
  have hown : s.vm.findClass RX6 = some m.cls := findClass_of_methodNamed B.named
  have hlocks := B.notSynchronized
  subst hsz
  have hD := hD0.self (sz := s.heap.size)
  generalize hAe : va_A (mg_cW g cI cZ σ) s.heap.size = A at hD hO ⊢
  have hA : ∀ q : Nat, s.heap.size ≤ q → A q := fun q h => by rw [← hAe]; exact Or.inr h
  have hw : mg_Wo D A s.heap s.heap [] (mg_cW g cI cZ σ) := ⟨hP, hD, va_S.rf⟩
  have G9 : CallFix p m c cX6_lines 2 s ([.ref (g 0), .int x1] : List Value).toArray wsX6_lines RX6 := ⟨hx, hb, hml, hown, hts⟩
  clear hP hD hD0 hAe
  obtain ⟨H, hHe⟩ : ∃ H : Heap, H = s.heap := ⟨_, rfl⟩
  have w0_ := hts (.fieldLink RX6 40 "MoonGate" "now" "LMoonGate$Course;") (by decide +kernel)
  have iX6_ : ∀ w ∈ wsX60, w ∈ wsX6_lines := (fun _ h => List.mem_cons_of_mem _ (List.mem_append_left _ (List.mem_append_left _ (List.mem_append_left _ (List.mem_append_right _ h)))))
  have hl := lv_entry ([.ref (g 0), .int x1]) (n := 2) (Nat.le_of_ble_eq_true rfl)
  rw [lg_entry_eq]
  generalize (lg_sl ([.ref (g 0), .int x1]) ++ List.replicate (2 - (lg_sl ([.ref (g 0), .int x1])).length) Slot.unset).toArray = ls at hl ⊢
  have hl : lv_has ls 2 [(0, .ref (g 0)), (1, .int x1)] := hl
  unfold f_X6_lines at h
  revert hw
  intro hw
  suffices K_ : ∀ (H : Heap) (locs : List Loc), mg_Wo D A s.heap H locs (mg_cW g cI cZ σ) → W p l e (headSpec wsX6_lines ({ frames := 7, cells := mc, slots := ms, locals := 111 } : Room)).room s m ([.ref (g 0), .int x1] : List Value).toArray below meth c H locs 0 0 (vx_MQ below (mg_QX D (mg_cW g cI cZ σ9) A (Except.map (fun v : Int32 => some (.int v)) out)) (mg_XC D (mg_cW g cI cZ σ9) A (Except.map (fun v : Int32 => some (.int v)) out)) ([.ref (g 0), .int x1] : List Value).toArray s mc ms A) (F0 m 0 ls []) from K_ _ _ hw
  clear hw hHe H
  intro H locs hw
  refine lv_aload_n hx hb dX6_lines_0 rfl (lv_at hl 0 rfl) ?_
  refine lv_iload_n hx hb dX6_lines_1 rfl (lv_at hl 1 rfl) ?_
  refine mg_kxx (wd := mg_cW g cI cZ) h (fun _ : Unit => none) (fun v : Int32 => some (.int v)) (fun mc9 ms9 o9 s9 hm9 h9 hc9 hs9 => vx_runV (As := [.int x1]) (rest := []) G9 (k_X6_checkPoet l hst D o cI cZ g H.size σ x1 o9 s9 h9 mc9 ms9 hm9) (cwV 1 hts gX6_lines_X6_checkPoet rfl rfl rfl (by decide +kernel) ⟨Nat.le_of_ble_eq_true rfl, Nat.le_of_ble_eq_true rfl⟩) (mg_preV hK hO hA hw (q0 := 0) rfl rfl) rfl rfl hl.1 rfl (lv_room (Nat.le_of_ble_eq_true rfl)) dX6_lines_2 ⟨hc9, hs9⟩) hw hA ht hlocks (Nat.zero_le _) (Nat.zero_le _) (fun k9 hk9 => ⟨(hmc k9 hk9).1, (hmc k9 hk9).2, (hmc k9 hk9).1, (hmc k9 hk9).2⟩) (fun _ s2 h H locs hw => ?_)
  refine lv_aload_n hx hb dX6_lines_5 rfl (lv_at hl 0 rfl) ?_
  refine va_get (D := D) (ci := 6) (v := .ref (g 5)) (C := RX6) (T := TX6) (N := 7) hx hb hts iX6_ hown hK hw.1 0 rfl rfl 4 (by decide) w0_ (fun _ h9 => h9) rfl dX6_lines_6 ?_
  refine lv_iload_n hx hb dX6_lines_9 rfl (lv_at hl 1 rfl) ?_
  obtain ⟨y3, h9_, h⟩ := mg_bind h
  refine mg_k (rv := (some (.int y3))) (va_runV (As := [.int x1]) (rest := []) G9 (k_X0_written_5 l D o cI cZ g H.size s2 x1 y3 h9_) (cwV 1 hts gX6_lines_X0_written rfl rfl rfl (by decide +kernel) ⟨Nat.le_of_ble_eq_true rfl, Nat.le_of_ble_eq_true rfl⟩) (mg_preV hK hO hA hw (q0 := 5) rfl rfl) rfl rfl hl.1 rfl (lv_room (Nat.le_of_ble_eq_true rfl)) dX6_lines_10 ⟨Nat.zero_le _, Nat.zero_le _⟩) hw hA (fun H locs hw => ?_)
  clear h9_
  cases h
  exact mg_xI hx hb hr hlocks hw rfl (Nat.zero_le _) (Nat.zero_le _) dX6_lines_13
set_option maxHeartbeats 4000000 in
set_option maxRecDepth 100000 in
theorem k_X6_changingCount_5 (l : Launch) (D : va_G) (o : Nat → Nat) (cI cZ : ClassId) (g : Nat → Nat) (sz : Nat) (σ : mg_St) (x1 : Int32) (y : Int32) (h : f_X6_changingCount σ 5 x1 = some y) : mg_CT l yX6_changingCount wsX6_changingCount ({ frames := 3, cells := 0, slots := 0, locals := 65 } : Room) D [(cI, .int), (cZ, .boolean)] o (mg_cW g cI cZ σ) sz [.ref (g 0), .int x1, .ref (g 5)] (some (.int y)) (mg_cW g cI cZ σ) 0 0 := by
  unfold mg_CT
  refine Met.ofW (cc := cX6_changingCount) (maxL := 3) (ret := (some .int)) (by decide) rfl ?_
  intro p e s m args below meth c s₁ B hml hv
  obtain ⟨rfl, hsz, hP, hK, hD0, hO⟩ := hv
  have hx := B.exec
  have hb := B.bytes
  have hr := B.returns
  have hts := atoms_spec (ws := wsX6_changingCount) B.pre
  have hown : s.vm.findClass RX6 = some m.cls := findClass_of_methodNamed B.named
  have hlocks := B.notSynchronized
  subst hsz
  have hD := hD0.self (sz := s.heap.size)
  generalize hAe : va_A (mg_cW g cI cZ σ) s.heap.size = A at hD hO ⊢
  have hA : ∀ q : Nat, s.heap.size ≤ q → A q := fun q h => by rw [← hAe]; exact Or.inr h
  have hw : mg_Wo D A s.heap s.heap [] (mg_cW g cI cZ σ) := ⟨hP, hD, va_S.rf⟩
  have G9 : CallFix p m c cX6_changingCount 3 s ([.ref (g 0), .int x1, .ref (g 5)] : List Value).toArray wsX6_changingCount RX6 := ⟨hx, hb, hml, hown, hts⟩
  clear hP hD hD0 hAe
  obtain ⟨H, hHe⟩ : ∃ H : Heap, H = s.heap := ⟨_, rfl⟩
  have w0_ := hts (.fieldLink RX6 76 "MoonGate$Course" "coins" "I") (by decide +kernel)
  have iX0_ : ∀ w ∈ wsX00, w ∈ wsX6_changingCount := (fun _ h => List.mem_cons_of_mem _ (List.mem_append_left _ (List.mem_append_left _ (List.mem_append_right _ h))))
  have w2_ := hts (.fieldLink RX6 19 "MoonGate" "shoal" "LMoonGate$Shoal;") (by decide +kernel)
  have iX6_ : ∀ w ∈ wsX60, w ∈ wsX6_changingCount := (fun _ h => List.mem_cons_of_mem _ (List.mem_append_left _ (List.mem_append_right _ h)))
  have hl := lv_entry ([.ref (g 0), .int x1, .ref (g 5)]) (n := 3) (Nat.le_of_ble_eq_true rfl)
  rw [lg_entry_eq]
  generalize (lg_sl ([.ref (g 0), .int x1, .ref (g 5)]) ++ List.replicate (3 - (lg_sl ([.ref (g 0), .int x1, .ref (g 5)])).length) Slot.unset).toArray = ls at hl ⊢
  have hl : lv_has ls 3 [(0, .ref (g 0)), (1, .int x1), (2, .ref (g 5))] := hl
  unfold f_X6_changingCount at h
  revert hw
  intro hw
  suffices K_ : ∀ (H : Heap) (locs : List Loc), mg_Wo D A s.heap H locs (mg_cW g cI cZ σ) → W p l e (headSpec wsX6_changingCount ({ frames := 3, cells := 0, slots := 0, locals := 65 } : Room)).room s m ([.ref (g 0), .int x1, .ref (g 5)] : List Value).toArray below meth c H locs 0 0 (MQ below (mg_Q D (mg_cW g cI cZ σ) A (some (.int y))) ([.ref (g 0), .int x1, .ref (g 5)] : List Value).toArray s 0 0 A) (F0 m 0 ls []) from K_ _ _ hw
  clear hw hHe H
  intro H locs hw
  refine lv_iload_n hx hb dX6_changingCount_0 rfl (lv_at hl 1 rfl) ?_
  by_cases g0_ : x1 = 2
  · rw [if_pos g0_] at h
    refine lv_lookup (off := 27) (tgt := 28) hx hb dX6_changingCount_1 (by decide) (by rw [g0_]; rfl) (by decide) ?_
    refine lv_aload_n hx hb dX6_changingCount_28 rfl (lv_at hl 2 rfl) ?_
    refine va_get (D := D) (ci := 0) (v := .int (σ 5 1)) (C := RX0) (T := TX0) (N := 4) hx hb hts iX0_ hown hK hw.1 5 rfl rfl 1 (by decide) w0_ (fun _ h9 => h9) rfl dX6_changingCount_29 ?_
    cases h
    exact mg_eI hx hb hr hlocks hw (Nat.zero_le _) (Nat.zero_le _) dX6_changingCount_32
  · rw [if_neg g0_] at h
    by_cases g1_ : x1 = 7
    · rw [if_pos g1_] at h
      refine lv_lookup (off := 32) (tgt := 33) hx hb dX6_changingCount_1 (by decide) (by rw [g1_]; rfl) (by decide) ?_
      refine lv_aload_n hx hb dX6_changingCount_33 rfl (lv_at hl 0 rfl) ?_
      refine va_get (D := D) (ci := 6) (v := .ref (g 2)) (C := RX6) (T := TX6) (N := 7) hx hb hts iX6_ hown hK hw.1 0 rfl rfl 1 (by decide) w2_ (fun _ h9 => h9) rfl dX6_changingCount_34 ?_
      refine lv_aload_n hx hb dX6_changingCount_37 rfl (lv_at hl 2 rfl) ?_
      obtain ⟨y1, h9_, h⟩ := mg_bind h
      refine mg_k (rv := (some (.int y1))) (va_runV (As := [.ref (g 5)]) (rest := []) G9 (k_X4_sizesHere_5 l D o cI cZ g H.size σ  y1 h9_) (cwV 1 hts gX6_changingCount_X4_sizesHere rfl rfl rfl (by decide +kernel) ⟨Nat.le_of_ble_eq_true rfl, Nat.le_of_ble_eq_true rfl⟩) (mg_preV hK hO hA hw (q0 := 2) rfl rfl) rfl rfl hl.1 rfl (lv_room (Nat.le_of_ble_eq_true rfl)) dX6_changingCount_38 ⟨Nat.zero_le _, Nat.zero_le _⟩) hw hA (fun H locs hw => ?_)
      clear h9_
      cases h
      exact mg_eI hx hb hr hlocks hw (Nat.zero_le _) (Nat.zero_le _) dX6_changingCount_41
    · rw [if_neg g1_] at h
      refine lv_lookup (off := 41) (tgt := 42) hx hb dX6_changingCount_1 (by decide) (by show Op.lookupswitch.offset [(2, 27), (7, 32)] 41 (Int32.toInt x1) = 41; rw [lv_osw (a := 2) g0_ rfl]; rw [lv_osw (a := 7) g1_ rfl]; rfl) (by decide) ?_
      refine lv_aload_n hx hb dX6_changingCount_42 rfl (lv_at hl 2 rfl) ?_
      obtain ⟨y2, h9_, h⟩ := mg_bind h
      refine mg_k (rv := (some (.int y2))) (va_runV (As := []) (rest := []) G9 (k_X0_writtenByAll_5 l D o cI cZ g H.size σ  y2 h9_) (cwV 0 hts gX6_changingCount_X0_writtenByAll rfl rfl rfl (by decide +kernel) ⟨Nat.le_of_ble_eq_true rfl, Nat.le_of_ble_eq_true rfl⟩) (mg_preV hK hO hA hw (q0 := 5) rfl rfl) rfl rfl hl.1 rfl (lv_room (Nat.le_of_ble_eq_true rfl)) dX6_changingCount_43 ⟨Nat.zero_le _, Nat.zero_le _⟩) hw hA (fun H locs hw => ?_)
      clear h9_
      cases h
      exact mg_eI hx hb hr hlocks hw (Nat.zero_le _) (Nat.zero_le _) dX6_changingCount_46
set_option maxHeartbeats 4000000 in
set_option maxRecDepth 100000 in
theorem k_X6_changingCount_6 (l : Launch) (D : va_G) (o : Nat → Nat) (cI cZ : ClassId) (g : Nat → Nat) (sz : Nat) (σ : mg_St) (x1 : Int32) (y : Int32) (h : f_X6_changingCount σ 6 x1 = some y) : mg_CT l yX6_changingCount wsX6_changingCount ({ frames := 3, cells := 0, slots := 0, locals := 65 } : Room) D [(cI, .int), (cZ, .boolean)] o (mg_cW g cI cZ σ) sz [.ref (g 0), .int x1, .ref (g 6)] (some (.int y)) (mg_cW g cI cZ σ) 0 0 := by
  unfold mg_CT
  refine Met.ofW (cc := cX6_changingCount) (maxL := 3) (ret := (some .int)) (by decide) rfl ?_
  intro p e s m args below meth c s₁ B hml hv
  obtain ⟨rfl, hsz, hP, hK, hD0, hO⟩ := hv
  have hx := B.exec
  have hb := B.bytes
  have hr := B.returns
  have hts := atoms_spec (ws := wsX6_changingCount) B.pre
  have hown : s.vm.findClass RX6 = some m.cls := findClass_of_methodNamed B.named
  have hlocks := B.notSynchronized
  subst hsz
  have hD := hD0.self (sz := s.heap.size)
  generalize hAe : va_A (mg_cW g cI cZ σ) s.heap.size = A at hD hO ⊢
  have hA : ∀ q : Nat, s.heap.size ≤ q → A q := fun q h => by rw [← hAe]; exact Or.inr h
  have hw : mg_Wo D A s.heap s.heap [] (mg_cW g cI cZ σ) := ⟨hP, hD, va_S.rf⟩
  have G9 : CallFix p m c cX6_changingCount 3 s ([.ref (g 0), .int x1, .ref (g 6)] : List Value).toArray wsX6_changingCount RX6 := ⟨hx, hb, hml, hown, hts⟩
  clear hP hD hD0 hAe
  obtain ⟨H, hHe⟩ : ∃ H : Heap, H = s.heap := ⟨_, rfl⟩
  have w0_ := hts (.fieldLink RX6 76 "MoonGate$Course" "coins" "I") (by decide +kernel)
  have iX0_ : ∀ w ∈ wsX00, w ∈ wsX6_changingCount := (fun _ h => List.mem_cons_of_mem _ (List.mem_append_left _ (List.mem_append_left _ (List.mem_append_right _ h))))
  have w2_ := hts (.fieldLink RX6 19 "MoonGate" "shoal" "LMoonGate$Shoal;") (by decide +kernel)
  have iX6_ : ∀ w ∈ wsX60, w ∈ wsX6_changingCount := (fun _ h => List.mem_cons_of_mem _ (List.mem_append_left _ (List.mem_append_right _ h)))
  have hl := lv_entry ([.ref (g 0), .int x1, .ref (g 6)]) (n := 3) (Nat.le_of_ble_eq_true rfl)
  rw [lg_entry_eq]
  generalize (lg_sl ([.ref (g 0), .int x1, .ref (g 6)]) ++ List.replicate (3 - (lg_sl ([.ref (g 0), .int x1, .ref (g 6)])).length) Slot.unset).toArray = ls at hl ⊢
  have hl : lv_has ls 3 [(0, .ref (g 0)), (1, .int x1), (2, .ref (g 6))] := hl
  unfold f_X6_changingCount at h
  revert hw
  intro hw
  suffices K_ : ∀ (H : Heap) (locs : List Loc), mg_Wo D A s.heap H locs (mg_cW g cI cZ σ) → W p l e (headSpec wsX6_changingCount ({ frames := 3, cells := 0, slots := 0, locals := 65 } : Room)).room s m ([.ref (g 0), .int x1, .ref (g 6)] : List Value).toArray below meth c H locs 0 0 (MQ below (mg_Q D (mg_cW g cI cZ σ) A (some (.int y))) ([.ref (g 0), .int x1, .ref (g 6)] : List Value).toArray s 0 0 A) (F0 m 0 ls []) from K_ _ _ hw
  clear hw hHe H
  intro H locs hw
  refine lv_iload_n hx hb dX6_changingCount_0 rfl (lv_at hl 1 rfl) ?_
  by_cases g0_ : x1 = 2
  · rw [if_pos g0_] at h
    refine lv_lookup (off := 27) (tgt := 28) hx hb dX6_changingCount_1 (by decide) (by rw [g0_]; rfl) (by decide) ?_
    refine lv_aload_n hx hb dX6_changingCount_28 rfl (lv_at hl 2 rfl) ?_
    refine va_get (D := D) (ci := 0) (v := .int (σ 6 1)) (C := RX0) (T := TX0) (N := 4) hx hb hts iX0_ hown hK hw.1 6 rfl rfl 1 (by decide) w0_ (fun _ h9 => h9) rfl dX6_changingCount_29 ?_
    cases h
    exact mg_eI hx hb hr hlocks hw (Nat.zero_le _) (Nat.zero_le _) dX6_changingCount_32
  · rw [if_neg g0_] at h
    by_cases g1_ : x1 = 7
    · rw [if_pos g1_] at h
      refine lv_lookup (off := 32) (tgt := 33) hx hb dX6_changingCount_1 (by decide) (by rw [g1_]; rfl) (by decide) ?_
      refine lv_aload_n hx hb dX6_changingCount_33 rfl (lv_at hl 0 rfl) ?_
      refine va_get (D := D) (ci := 6) (v := .ref (g 2)) (C := RX6) (T := TX6) (N := 7) hx hb hts iX6_ hown hK hw.1 0 rfl rfl 1 (by decide) w2_ (fun _ h9 => h9) rfl dX6_changingCount_34 ?_
      refine lv_aload_n hx hb dX6_changingCount_37 rfl (lv_at hl 2 rfl) ?_
      obtain ⟨y1, h9_, h⟩ := mg_bind h
      refine mg_k (rv := (some (.int y1))) (va_runV (As := [.ref (g 6)]) (rest := []) G9 (k_X4_sizesHere_6 l D o cI cZ g H.size σ  y1 h9_) (cwV 1 hts gX6_changingCount_X4_sizesHere rfl rfl rfl (by decide +kernel) ⟨Nat.le_of_ble_eq_true rfl, Nat.le_of_ble_eq_true rfl⟩) (mg_preV hK hO hA hw (q0 := 2) rfl rfl) rfl rfl hl.1 rfl (lv_room (Nat.le_of_ble_eq_true rfl)) dX6_changingCount_38 ⟨Nat.zero_le _, Nat.zero_le _⟩) hw hA (fun H locs hw => ?_)
      clear h9_
      cases h
      exact mg_eI hx hb hr hlocks hw (Nat.zero_le _) (Nat.zero_le _) dX6_changingCount_41
    · rw [if_neg g1_] at h
      refine lv_lookup (off := 41) (tgt := 42) hx hb dX6_changingCount_1 (by decide) (by show Op.lookupswitch.offset [(2, 27), (7, 32)] 41 (Int32.toInt x1) = 41; rw [lv_osw (a := 2) g0_ rfl]; rw [lv_osw (a := 7) g1_ rfl]; rfl) (by decide) ?_
      refine lv_aload_n hx hb dX6_changingCount_42 rfl (lv_at hl 2 rfl) ?_
      obtain ⟨y2, h9_, h⟩ := mg_bind h
      refine mg_k (rv := (some (.int y2))) (va_runV (As := []) (rest := []) G9 (k_X0_writtenByAll_6 l D o cI cZ g H.size σ  y2 h9_) (cwV 0 hts gX6_changingCount_X0_writtenByAll rfl rfl rfl (by decide +kernel) ⟨Nat.le_of_ble_eq_true rfl, Nat.le_of_ble_eq_true rfl⟩) (mg_preV hK hO hA hw (q0 := 6) rfl rfl) rfl rfl hl.1 rfl (lv_room (Nat.le_of_ble_eq_true rfl)) dX6_changingCount_43 ⟨Nat.zero_le _, Nat.zero_le _⟩) hw hA (fun H locs hw => ?_)
      clear h9_
      cases h
      exact mg_eI hx hb hr hlocks hw (Nat.zero_le _) (Nat.zero_le _) dX6_changingCount_46
set_option maxHeartbeats 4000000 in
set_option maxRecDepth 100000 in
theorem k_X6_count (l : Launch) (hst : l.stackTraces = false) (D : va_G) (o : Nat → Nat) (cI cZ : ClassId) (g : Nat → Nat) (sz : Nat) (σ : mg_St) (x1 : Int32) (out : Except (Fin 3) Int32) (σ9 : mg_St) (h : f_X6_count σ x1 = some (out, σ9)) (mc ms : Nat) (hmc : ∀ k, out = .error k → 1 ≤ mc ∧ 6 ≤ ms) : mg_CX l yX6_count wsX6_count ({ frames := 7, cells := mc, slots := ms, locals := 112 } : Room) D [(cI, .int), (cZ, .boolean)] o (mg_cW g cI cZ σ) sz [.ref (g 0), .int x1] (Except.map (fun v : Int32 => some (.int v)) out) (mg_cW g cI cZ σ9) mc ms := by
  unfold mg_CX
  refine vx_ofW (cc := cX6_count) (maxL := 2) (ret := (some .int)) (by decide) rfl ?_
  intro p e s m args below meth c s₁ B hml ht hv
  obtain ⟨rfl, hsz, hP, hK, hD0, hO⟩ := hv
  have hx := B.exec
  have hb := B.bytes
  have hr := B.returns
  have hts := atoms_spec (ws := wsX6_count) B.pre
  have hown : s.vm.findClass RX6 = some m.cls := findClass_of_methodNamed B.named
  have hlocks := B.notSynchronized
  subst hsz
  have hD := hD0.self (sz := s.heap.size)
  generalize hAe : va_A (mg_cW g cI cZ σ) s.heap.size = A at hD hO ⊢
  have hA : ∀ q : Nat, s.heap.size ≤ q → A q := fun q h => by rw [← hAe]; exact Or.inr h
  have hw : mg_Wo D A s.heap s.heap [] (mg_cW g cI cZ σ) := ⟨hP, hD, va_S.rf⟩
  have G9 : CallFix p m c cX6_count 2 s ([.ref (g 0), .int x1] : List Value).toArray wsX6_count RX6 := ⟨hx, hb, hml, hown, hts⟩
  clear hP hD hD0 hAe
  obtain ⟨H, hHe⟩ : ∃ H : Heap, H = s.heap := ⟨_, rfl⟩
  have w0_ := hts (.fieldLink RX6 40 "MoonGate" "now" "LMoonGate$Course;") (by decide +kernel)
  have iX6_ : ∀ w ∈ wsX60, w ∈ wsX6_count := (fun _ h => List.mem_cons_of_mem _ (List.mem_append_left _ (List.mem_append_left _ (List.mem_append_left _ (List.mem_append_left _ (List.mem_append_left _ (List.mem_append_left _ (List.mem_append_right _ h))))))))
  have w2_ := hts (.fieldLink RX6 216 "MoonGate$Course" "day" "I") (by decide +kernel)
  have iX0_ : ∀ w ∈ wsX00, w ∈ wsX6_count := (fun _ h => List.mem_cons_of_mem _ (List.mem_append_left _ (List.mem_append_left _ (List.mem_append_left _ (List.mem_append_left _ (List.mem_append_left _ (List.mem_append_right _ h)))))))
  have w4_ := hts (.fieldLink RX6 10 "MoonGate" "garden" "LMoonGate$Garden;") (by decide +kernel)
  have w5_ := hts (.fieldLink RX6 226 "MoonGate$Garden" "ponds" "I") (by decide +kernel)
  have iX1_ : ∀ w ∈ wsX10, w ∈ wsX6_count := (fun _ h => List.mem_cons_of_mem _ (List.mem_append_left _ (List.mem_append_left _ (List.mem_append_left _ (List.mem_append_left _ (List.mem_append_right _ h))))))
  have w7_ := hts (.fieldLink RX6 19 "MoonGate" "shoal" "LMoonGate$Shoal;") (by decide +kernel)
  have w8_ := hts (.fieldLink RX6 26 "MoonGate" "gates" "LMoonGate$Gates;") (by decide +kernel)
  have w9_ := hts (.fieldLink RX6 171 "MoonGate$Gates" "many" "I") (by decide +kernel)
  have iX2_ : ∀ w ∈ wsX20, w ∈ wsX6_count := (fun _ h => List.mem_cons_of_mem _ (List.mem_append_left _ (List.mem_append_left _ (List.mem_append_left _ (List.mem_append_right _ h)))))
  have w11_ := hts (.fieldLink RX6 33 "MoonGate" "poets" "LMoonGate$Poets;") (by decide +kernel)
  have w12_ := hts (.fieldLink RX6 200 "MoonGate$Poets" "many" "I") (by decide +kernel)
  have iX3_ : ∀ w ∈ wsX30, w ∈ wsX6_count := (fun _ h => List.mem_cons_of_mem _ (List.mem_append_left _ (List.mem_append_left _ (List.mem_append_right _ h))))
  have hl := lv_entry ([.ref (g 0), .int x1]) (n := 2) (Nat.le_of_ble_eq_true rfl)
  rw [lg_entry_eq]
  generalize (lg_sl ([.ref (g 0), .int x1]) ++ List.replicate (2 - (lg_sl ([.ref (g 0), .int x1])).length) Slot.unset).toArray = ls at hl ⊢
  have hl : lv_has ls 2 [(0, .ref (g 0)), (1, .int x1)] := hl
  unfold f_X6_count at h
  revert hw
  intro hw
  suffices K_ : ∀ (H : Heap) (locs : List Loc), mg_Wo D A s.heap H locs (mg_cW g cI cZ σ) → W p l e (headSpec wsX6_count ({ frames := 7, cells := mc, slots := ms, locals := 112 } : Room)).room s m ([.ref (g 0), .int x1] : List Value).toArray below meth c H locs 0 0 (vx_MQ below (mg_QX D (mg_cW g cI cZ σ9) A (Except.map (fun v : Int32 => some (.int v)) out)) (mg_XC D (mg_cW g cI cZ σ9) A (Except.map (fun v : Int32 => some (.int v)) out)) ([.ref (g 0), .int x1] : List Value).toArray s mc ms A) (F0 m 0 ls []) from K_ _ _ hw
  clear hw hHe H
  intro H locs hw
  refine lv_aload_n hx hb dX6_count_0 rfl (lv_at hl 0 rfl) ?_
  refine lv_iload_n hx hb dX6_count_1 rfl (lv_at hl 1 rfl) ?_
  refine lv_bipush (v := 11) hx hb dX6_count_2 (by decide) ?_
  refine mg_kxx (wd := mg_cW g cI cZ) h (fun _ : Unit => none) (fun v : Int32 => some (.int v)) (fun mc9 ms9 o9 s9 hm9 h9 hc9 hs9 => vx_runV (As := [.int x1, .int 11]) (rest := []) G9 (k_X6_checkWhat l hst D o cI cZ g H.size σ x1 11 o9 s9 h9 mc9 ms9 hm9) (cwV 2 hts gX6_count_X6_checkWhat rfl rfl rfl (by decide +kernel) ⟨Nat.le_of_ble_eq_true rfl, Nat.le_of_ble_eq_true rfl⟩) (mg_preV hK hO hA hw (q0 := 0) rfl rfl) rfl rfl hl.1 rfl (lv_room (Nat.le_of_ble_eq_true rfl)) dX6_count_4 ⟨hc9, hs9⟩) hw hA ht hlocks (Nat.zero_le _) (Nat.zero_le _) (fun k9 hk9 => ⟨(hmc k9 hk9).1, (hmc k9 hk9).2, (hmc k9 hk9).1, (hmc k9 hk9).2⟩) (fun _ s2 h H locs hw => ?_)
  refine lv_iload_n hx hb dX6_count_7 rfl (lv_at hl 1 rfl) ?_
  by_cases g0_ : x1 = 0
  · rw [if_pos g0_] at h
    refine lv_tableIn (off := 56) (tgt := 64) hx hb dX6_count_8 (by rw [g0_]; decide) (by rw [g0_]; decide) (by rw [g0_]; rfl) (by decide) ?_
    refine lv_aload_n hx hb dX6_count_64 rfl (lv_at hl 0 rfl) ?_
    refine va_get (D := D) (ci := 6) (v := .ref (g 5)) (C := RX6) (T := TX6) (N := 7) hx hb hts iX6_ hown hK hw.1 0 rfl rfl 4 (by decide) w0_ (fun _ h9 => h9) rfl dX6_count_65 ?_
    refine va_get (D := D) (ci := 0) (v := .int (s2 5 0)) (C := RX0) (T := TX0) (N := 4) hx hb hts iX0_ hown hK hw.1 5 rfl rfl 0 (by decide) w2_ (fun _ h9 => h9) rfl dX6_count_68 ?_
    cases h
    exact mg_xI hx hb hr hlocks hw rfl (Nat.zero_le _) (Nat.zero_le _) dX6_count_71
  · rw [if_neg g0_] at h
    by_cases g1_ : x1 = 1
    · rw [if_pos g1_] at h
      refine lv_tableIn (off := 64) (tgt := 72) hx hb dX6_count_8 (by rw [g1_]; decide) (by rw [g1_]; decide) (by rw [g1_]; rfl) (by decide) ?_
      refine lv_aload_n hx hb dX6_count_72 rfl (lv_at hl 0 rfl) ?_
      refine va_get (D := D) (ci := 6) (v := .ref (g 5)) (C := RX6) (T := TX6) (N := 7) hx hb hts iX6_ hown hK hw.1 0 rfl rfl 4 (by decide) w0_ (fun _ h9 => h9) rfl dX6_count_73 ?_
      obtain ⟨y3, h9_, h⟩ := mg_bind h
      refine mg_k (rv := (some (.int y3))) (va_runV (As := []) (rest := []) G9 (k_X0_isFullMoon_5 l D o cI cZ g H.size s2  y3 h9_) (cwV 0 hts gX6_count_X0_isFullMoon rfl rfl rfl (by decide +kernel) ⟨Nat.le_of_ble_eq_true rfl, Nat.le_of_ble_eq_true rfl⟩) (mg_preV hK hO hA hw (q0 := 5) rfl rfl) rfl rfl hl.1 rfl (lv_room (Nat.le_of_ble_eq_true rfl)) dX6_count_76 ⟨Nat.zero_le _, Nat.zero_le _⟩) hw hA (fun H locs hw => ?_)
      clear h9_
      refine mg_if_eq (tgt := 86) hx hb h dX6_count_79 (by decide) (fun h => ?_) (fun h => ?_)
      · refine lv_iconst (v := 0) hx hb dX6_count_86 (by decide) ?_
        cases h
        exact mg_xI hx hb hr hlocks hw rfl (Nat.zero_le _) (Nat.zero_le _) dX6_count_87
      · refine lv_iconst (v := 1) hx hb dX6_count_82 (by decide) ?_
        refine lv_goto (tgt := 87) hx hb dX6_count_83 (by decide) ?_
        cases h
        exact mg_xI hx hb hr hlocks hw rfl (Nat.zero_le _) (Nat.zero_le _) dX6_count_87
    · rw [if_neg g1_] at h
      by_cases g2_ : x1 = 2
      · rw [if_pos g2_] at h
        refine lv_tableIn (off := 130) (tgt := 138) hx hb dX6_count_8 (by rw [g2_]; decide) (by rw [g2_]; decide) (by rw [g2_]; rfl) (by decide) ?_
        refine lv_aload_n hx hb dX6_count_138 rfl (lv_at hl 0 rfl) ?_
        refine lv_iload_n hx hb dX6_count_139 rfl (lv_at hl 1 rfl) ?_
        refine lv_aload_n hx hb dX6_count_140 rfl (lv_at hl 0 rfl) ?_
        refine va_get (D := D) (ci := 6) (v := .ref (g 5)) (C := RX6) (T := TX6) (N := 7) hx hb hts iX6_ hown hK hw.1 0 rfl rfl 4 (by decide) w0_ (fun _ h9 => h9) rfl dX6_count_141 ?_
        obtain ⟨y4, h9_, h⟩ := mg_bind h
        refine mg_k (rv := (some (.int y4))) (va_runV (As := [.int x1, .ref (g 5)]) (rest := []) G9 (k_X6_changingCount_5 l D o cI cZ g H.size s2 x1 y4 h9_) (cwV 2 hts gX6_count_X6_changingCount rfl rfl rfl (by decide +kernel) ⟨Nat.le_of_ble_eq_true rfl, Nat.le_of_ble_eq_true rfl⟩) (mg_preV hK hO hA hw (q0 := 0) rfl rfl) rfl rfl hl.1 rfl (lv_room (Nat.le_of_ble_eq_true rfl)) dX6_count_144 ⟨Nat.zero_le _, Nat.zero_le _⟩) hw hA (fun H locs hw => ?_)
        clear h9_
        cases h
        exact mg_xI hx hb hr hlocks hw rfl (Nat.zero_le _) (Nat.zero_le _) dX6_count_147
      · rw [if_neg g2_] at h
        by_cases g3_ : x1 = 3
        · rw [if_pos g3_] at h
          refine lv_tableIn (off := 80) (tgt := 88) hx hb dX6_count_8 (by rw [g3_]; decide) (by rw [g3_]; decide) (by rw [g3_]; rfl) (by decide) ?_
          refine lv_aload_n hx hb dX6_count_88 rfl (lv_at hl 0 rfl) ?_
          refine va_get (D := D) (ci := 6) (v := .ref (g 1)) (C := RX6) (T := TX6) (N := 7) hx hb hts iX6_ hown hK hw.1 0 rfl rfl 0 (by decide) w4_ (fun _ h9 => h9) rfl dX6_count_89 ?_
          refine lv_iconst (v := 1) hx hb dX6_count_92 (by decide) ?_
          obtain ⟨y5, h9_, h⟩ := mg_bind h
          refine mg_k (rv := (some (.int y5))) (va_runV (As := [.int 1]) (rest := []) G9 (k_X1_manyOf l D o cI cZ g H.size s2 1 y5 h9_) (cwV 1 hts gX6_count_X1_manyOf rfl rfl rfl (by decide +kernel) ⟨Nat.le_of_ble_eq_true rfl, Nat.le_of_ble_eq_true rfl⟩) (mg_preV hK hO hA hw (q0 := 1) rfl rfl) rfl rfl hl.1 rfl (lv_room (Nat.le_of_ble_eq_true rfl)) dX6_count_93 ⟨Nat.zero_le _, Nat.zero_le _⟩) hw hA (fun H locs hw => ?_)
          clear h9_
          cases h
          exact mg_xI hx hb hr hlocks hw rfl (Nat.zero_le _) (Nat.zero_le _) dX6_count_96
        · rw [if_neg g3_] at h
          by_cases g4_ : x1 = 4
          · rw [if_pos g4_] at h
            refine lv_tableIn (off := 89) (tgt := 97) hx hb dX6_count_8 (by rw [g4_]; decide) (by rw [g4_]; decide) (by rw [g4_]; rfl) (by decide) ?_
            refine lv_aload_n hx hb dX6_count_97 rfl (lv_at hl 0 rfl) ?_
            refine va_get (D := D) (ci := 6) (v := .ref (g 1)) (C := RX6) (T := TX6) (N := 7) hx hb hts iX6_ hown hK hw.1 0 rfl rfl 0 (by decide) w4_ (fun _ h9 => h9) rfl dX6_count_98 ?_
            refine lv_iconst (v := 2) hx hb dX6_count_101 (by decide) ?_
            obtain ⟨y6, h9_, h⟩ := mg_bind h
            refine mg_k (rv := (some (.int y6))) (va_runV (As := [.int 2]) (rest := []) G9 (k_X1_manyOf l D o cI cZ g H.size s2 2 y6 h9_) (cwV 1 hts gX6_count_X1_manyOf rfl rfl rfl (by decide +kernel) ⟨Nat.le_of_ble_eq_true rfl, Nat.le_of_ble_eq_true rfl⟩) (mg_preV hK hO hA hw (q0 := 1) rfl rfl) rfl rfl hl.1 rfl (lv_room (Nat.le_of_ble_eq_true rfl)) dX6_count_102 ⟨Nat.zero_le _, Nat.zero_le _⟩) hw hA (fun H locs hw => ?_)
            clear h9_
            cases h
            exact mg_xI hx hb hr hlocks hw rfl (Nat.zero_le _) (Nat.zero_le _) dX6_count_105
          · rw [if_neg g4_] at h
            by_cases g5_ : x1 = 5
            · rw [if_pos g5_] at h
              refine lv_tableIn (off := 98) (tgt := 106) hx hb dX6_count_8 (by rw [g5_]; decide) (by rw [g5_]; decide) (by rw [g5_]; rfl) (by decide) ?_
              refine lv_aload_n hx hb dX6_count_106 rfl (lv_at hl 0 rfl) ?_
              refine va_get (D := D) (ci := 6) (v := .ref (g 1)) (C := RX6) (T := TX6) (N := 7) hx hb hts iX6_ hown hK hw.1 0 rfl rfl 0 (by decide) w4_ (fun _ h9 => h9) rfl dX6_count_107 ?_
              refine va_get (D := D) (ci := 1) (v := .int (s2 1 8)) (C := RX1) (T := TX1) (N := 9) hx hb hts iX1_ hown hK hw.1 1 rfl rfl 8 (by decide) w5_ (fun _ h9 => h9) rfl dX6_count_110 ?_
              cases h
              exact mg_xI hx hb hr hlocks hw rfl (Nat.zero_le _) (Nat.zero_le _) dX6_count_113
            · rw [if_neg g5_] at h
              by_cases g6_ : x1 = 6
              · rw [if_pos g6_] at h
                refine lv_tableIn (off := 106) (tgt := 114) hx hb dX6_count_8 (by rw [g6_]; decide) (by rw [g6_]; decide) (by rw [g6_]; rfl) (by decide) ?_
                refine lv_aload_n hx hb dX6_count_114 rfl (lv_at hl 0 rfl) ?_
                refine va_get (D := D) (ci := 6) (v := .ref (g 2)) (C := RX6) (T := TX6) (N := 7) hx hb hts iX6_ hown hK hw.1 0 rfl rfl 1 (by decide) w7_ (fun _ h9 => h9) rfl dX6_count_115 ?_
                obtain ⟨y7, h9_, h⟩ := mg_bind h
                refine mg_k (rv := (some (.int y7))) (va_runV (As := []) (rest := []) G9 (k_X4_manyHere l D o cI cZ g H.size s2  y7 h9_) (cwV 0 hts gX6_count_X4_manyHere rfl rfl rfl (by decide +kernel) ⟨Nat.le_of_ble_eq_true rfl, Nat.le_of_ble_eq_true rfl⟩) (mg_preV hK hO hA hw (q0 := 2) rfl rfl) rfl rfl hl.1 rfl (lv_room (Nat.le_of_ble_eq_true rfl)) dX6_count_118 ⟨Nat.zero_le _, Nat.zero_le _⟩) hw hA (fun H locs hw => ?_)
                clear h9_
                cases h
                exact mg_xI hx hb hr hlocks hw rfl (Nat.zero_le _) (Nat.zero_le _) dX6_count_121
              · rw [if_neg g6_] at h
                by_cases g7_ : x1 = 7
                · rw [if_pos g7_] at h
                  refine lv_tableIn (off := 130) (tgt := 138) hx hb dX6_count_8 (by rw [g7_]; decide) (by rw [g7_]; decide) (by rw [g7_]; rfl) (by decide) ?_
                  refine lv_aload_n hx hb dX6_count_138 rfl (lv_at hl 0 rfl) ?_
                  refine lv_iload_n hx hb dX6_count_139 rfl (lv_at hl 1 rfl) ?_
                  refine lv_aload_n hx hb dX6_count_140 rfl (lv_at hl 0 rfl) ?_
                  refine va_get (D := D) (ci := 6) (v := .ref (g 5)) (C := RX6) (T := TX6) (N := 7) hx hb hts iX6_ hown hK hw.1 0 rfl rfl 4 (by decide) w0_ (fun _ h9 => h9) rfl dX6_count_141 ?_
                  obtain ⟨y8, h9_, h⟩ := mg_bind h
                  refine mg_k (rv := (some (.int y8))) (va_runV (As := [.int x1, .ref (g 5)]) (rest := []) G9 (k_X6_changingCount_5 l D o cI cZ g H.size s2 x1 y8 h9_) (cwV 2 hts gX6_count_X6_changingCount rfl rfl rfl (by decide +kernel) ⟨Nat.le_of_ble_eq_true rfl, Nat.le_of_ble_eq_true rfl⟩) (mg_preV hK hO hA hw (q0 := 0) rfl rfl) rfl rfl hl.1 rfl (lv_room (Nat.le_of_ble_eq_true rfl)) dX6_count_144 ⟨Nat.zero_le _, Nat.zero_le _⟩) hw hA (fun H locs hw => ?_)
                  clear h9_
                  cases h
                  exact mg_xI hx hb hr hlocks hw rfl (Nat.zero_le _) (Nat.zero_le _) dX6_count_147
                · rw [if_neg g7_] at h
                  by_cases g8_ : x1 = 8
                  · rw [if_pos g8_] at h
                    refine lv_tableIn (off := 114) (tgt := 122) hx hb dX6_count_8 (by rw [g8_]; decide) (by rw [g8_]; decide) (by rw [g8_]; rfl) (by decide) ?_
                    refine lv_aload_n hx hb dX6_count_122 rfl (lv_at hl 0 rfl) ?_
                    refine va_get (D := D) (ci := 6) (v := .ref (g 3)) (C := RX6) (T := TX6) (N := 7) hx hb hts iX6_ hown hK hw.1 0 rfl rfl 2 (by decide) w8_ (fun _ h9 => h9) rfl dX6_count_123 ?_
                    refine va_get (D := D) (ci := 2) (v := .int (s2 3 2)) (C := RX2) (T := TX2) (N := 3) hx hb hts iX2_ hown hK hw.1 3 rfl rfl 2 (by decide) w9_ (fun _ h9 => h9) rfl dX6_count_126 ?_
                    cases h
                    exact mg_xI hx hb hr hlocks hw rfl (Nat.zero_le _) (Nat.zero_le _) dX6_count_129
                  · rw [if_neg g8_] at h
                    by_cases g9_ : x1 = 9
                    · rw [if_pos g9_] at h
                      refine lv_tableIn (off := 122) (tgt := 130) hx hb dX6_count_8 (by rw [g9_]; decide) (by rw [g9_]; decide) (by rw [g9_]; rfl) (by decide) ?_
                      refine lv_aload_n hx hb dX6_count_130 rfl (lv_at hl 0 rfl) ?_
                      refine va_get (D := D) (ci := 6) (v := .ref (g 4)) (C := RX6) (T := TX6) (N := 7) hx hb hts iX6_ hown hK hw.1 0 rfl rfl 3 (by decide) w11_ (fun _ h9 => h9) rfl dX6_count_131 ?_
                      refine va_get (D := D) (ci := 3) (v := .int (s2 4 1)) (C := RX3) (T := TX3) (N := 2) hx hb hts iX3_ hown hK hw.1 4 rfl rfl 1 (by decide) w12_ (fun _ h9 => h9) rfl dX6_count_134 ?_
                      cases h
                      exact mg_xI hx hb hr hlocks hw rfl (Nat.zero_le _) (Nat.zero_le _) dX6_count_137
                    · rw [if_neg g9_] at h
                      have e0_ := lv_neT (a := 0) g0_ rfl
                      have e1_ := lv_neT (a := 1) g1_ rfl
                      have e2_ := lv_neT (a := 2) g2_ rfl
                      have e3_ := lv_neT (a := 3) g3_ rfl
                      have e4_ := lv_neT (a := 4) g4_ rfl
                      have e5_ := lv_neT (a := 5) g5_ rfl
                      have e6_ := lv_neT (a := 6) g6_ rfl
                      have e7_ := lv_neT (a := 7) g7_ rfl
                      have e8_ := lv_neT (a := 8) g8_ rfl
                      have e9_ := lv_neT (a := 9) g9_ rfl
                      refine lv_tableOut (tgt := 138) hx hb dX6_count_8 (by omega) (by decide) ?_
                      refine lv_aload_n hx hb dX6_count_138 rfl (lv_at hl 0 rfl) ?_
                      refine lv_iload_n hx hb dX6_count_139 rfl (lv_at hl 1 rfl) ?_
                      refine lv_aload_n hx hb dX6_count_140 rfl (lv_at hl 0 rfl) ?_
                      refine va_get (D := D) (ci := 6) (v := .ref (g 5)) (C := RX6) (T := TX6) (N := 7) hx hb hts iX6_ hown hK hw.1 0 rfl rfl 4 (by decide) w0_ (fun _ h9 => h9) rfl dX6_count_141 ?_
                      obtain ⟨y9, h9_, h⟩ := mg_bind h
                      refine mg_k (rv := (some (.int y9))) (va_runV (As := [.int x1, .ref (g 5)]) (rest := []) G9 (k_X6_changingCount_5 l D o cI cZ g H.size s2 x1 y9 h9_) (cwV 2 hts gX6_count_X6_changingCount rfl rfl rfl (by decide +kernel) ⟨Nat.le_of_ble_eq_true rfl, Nat.le_of_ble_eq_true rfl⟩) (mg_preV hK hO hA hw (q0 := 0) rfl rfl) rfl rfl hl.1 rfl (lv_room (Nat.le_of_ble_eq_true rfl)) dX6_count_144 ⟨Nat.zero_le _, Nat.zero_le _⟩) hw hA (fun H locs hw => ?_)
                      clear h9_
                      cases h
                      exact mg_xI hx hb hr hlocks hw rfl (Nat.zero_le _) (Nat.zero_le _) dX6_count_147
set_option maxHeartbeats 4000000 in
set_option maxRecDepth 100000 in
theorem k_X6_checkDays (l : Launch) (hst : l.stackTraces = false) (D : va_G) (o : Nat → Nat) (cI cZ : ClassId) (g : Nat → Nat) (sz : Nat) (σ : mg_St) (x1 : Int32) (out : Except (Fin 3) Unit) (σ9 : mg_St) (h : f_X6_checkDays σ x1 = some (out, σ9)) (mc ms : Nat) (hmc : ∀ k, out = .error k → 1 ≤ mc ∧ 6 ≤ ms) : mg_CX l yX6_checkDays wsX6_checkDays ({ frames := 6, cells := mc, slots := ms, locals := 90 } : Room) D [(cI, .int), (cZ, .boolean)] o (mg_cW g cI cZ σ) sz [.ref (g 0), .int x1] (Except.map (fun _ : Unit => none) out) (mg_cW g cI cZ σ9) mc ms := by
  unfold mg_CX
  refine vx_ofW (cc := cX6_checkDays) (maxL := 2) (ret := none) (by decide) rfl ?_
  intro p e s m args below meth c s₁ B hml ht hv
  obtain ⟨rfl, hsz, hP, hK, hD0, hO⟩ := hv
  have hx := B.exec
  have hb := B.bytes
  have hr := B.returns
  have hts := atoms_spec (ws := wsX6_checkDays) B.pre
  have hown : s.vm.findClass RX6 = some m.cls := findClass_of_methodNamed B.named
  have hlocks := B.notSynchronized
  subst hsz
  have hD := hD0.self (sz := s.heap.size)
  generalize hAe : va_A (mg_cW g cI cZ σ) s.heap.size = A at hD hO ⊢
  have hA : ∀ q : Nat, s.heap.size ≤ q → A q := fun q h => by rw [← hAe]; exact Or.inr h
  have hw : mg_Wo D A s.heap s.heap [] (mg_cW g cI cZ σ) := ⟨hP, hD, va_S.rf⟩
  have G9 : CallFix p m c cX6_checkDays 2 s ([.ref (g 0), .int x1] : List Value).toArray wsX6_checkDays RX6 := ⟨hx, hb, hml, hown, hts⟩
  clear hP hD hD0 hAe
  obtain ⟨H, hHe⟩ : ∃ H : Heap, H = s.heap := ⟨_, rfl⟩
  have w0_ := hts (.classLink RX6 166 "java/lang/IllegalArgumentException") (by decide +kernel)
  have w1_ := hts (.initialized "java/lang/IllegalArgumentException") (by decide +kernel)
  have hl := lv_entry ([.ref (g 0), .int x1]) (n := 2) (Nat.le_of_ble_eq_true rfl)
  rw [lg_entry_eq]
  generalize (lg_sl ([.ref (g 0), .int x1]) ++ List.replicate (2 - (lg_sl ([.ref (g 0), .int x1])).length) Slot.unset).toArray = ls at hl ⊢
  have hl : lv_has ls 2 [(0, .ref (g 0)), (1, .int x1)] := hl
  unfold f_X6_checkDays at h
  revert hw
  intro hw
  suffices K_ : ∀ (H : Heap) (locs : List Loc), mg_Wo D A s.heap H locs (mg_cW g cI cZ σ) → W p l e (headSpec wsX6_checkDays ({ frames := 6, cells := mc, slots := ms, locals := 90 } : Room)).room s m ([.ref (g 0), .int x1] : List Value).toArray below meth c H locs 0 0 (vx_MQ below (mg_QX D (mg_cW g cI cZ σ9) A (Except.map (fun _ : Unit => none) out)) (mg_XC D (mg_cW g cI cZ σ9) A (Except.map (fun _ : Unit => none) out)) ([.ref (g 0), .int x1] : List Value).toArray s mc ms A) (F0 m 0 ls []) from K_ _ _ hw
  clear hw hHe H
  intro H locs hw
  refine lv_iload_n hx hb dX6_checkDays_0 rfl (lv_at hl 1 rfl) ?_
  refine lv_iconst (v := 1) hx hb dX6_checkDays_1 (by decide) ?_
  refine mg_icmp_lt (tgt := 11) hx hb h dX6_checkDays_2 (by decide) (fun h => ?_) (fun h => ?_)
  · cases h
    exact mg_throwW (k := 1) (own := RX6) (text := "not so many days") (ik := 166) (is := 358) (ic := 170) hx hb hst hown (by decide +kernel) w0_ w1_ (hO.2.2.2.2.2.2.2.2.2.2.2.2.2.2.2.2.2.2.2.2.2.2.2.2.2.2.2.2.2.2.2.2.2.2.2.2.2.2.2) (vx_hat (B := [.declares (Bundle.initS "java/lang/RuntimeException"), .declares (Bundle.initS "java/lang/Exception"), .declares (Bundle.initS Bundle.tN), .castable "java/lang/IllegalArgumentException" "java/lang/IllegalArgumentException"]) (fun w h => hts w (List.mem_cons_of_mem _ (List.mem_append_right _ h))) (by decide +kernel) (vx_c (va_Nw.use rfl (hO.2.2.2.2.2.2.2.2.1)) (vx_c (va_Nw.use rfl (hO.2.2.2.2.2.2.2.2.2.1)) (vx_c (va_Nw.use rfl (hO.2.2.2.2.2.2.2.2.2.2.1)) (vx_c (va_Nw.use rfl (hO.2.2.2.2.2.2.2.2.2.2.2.2.1)) vx_n))))) (by decide +kernel) (hO.2.2.2.2.1) (hO.2.2.2.2.2.1) hw (hl.1.trans hml.symm) dX6_checkDays_11 dX6_checkDays_14 dX6_checkDays_15 dX6_checkDays_18 dX6_checkDays_21 ht (Nat.le_of_ble_eq_true rfl) (Nat.le_of_ble_eq_true rfl) (hmc _ rfl).1 (hmc _ rfl).2 hlocks rfl (hmc _ rfl).1 (hmc _ rfl).2
  · refine lv_iload_n hx hb dX6_checkDays_5 rfl (lv_at hl 1 rfl) ?_
    refine lv_bipush (v := 60) hx hb dX6_checkDays_6 (by decide) ?_
    refine mg_icmp_le (tgt := 22) hx hb h dX6_checkDays_8 (by decide) (fun h => ?_) (fun h => ?_)
    · cases h
      exact mg_xV hx hb hr hlocks hw rfl (Nat.zero_le _) (Nat.zero_le _) dX6_checkDays_22
    · cases h
      exact mg_throwW (k := 1) (own := RX6) (text := "not so many days") (ik := 166) (is := 358) (ic := 170) hx hb hst hown (by decide +kernel) w0_ w1_ (hO.2.2.2.2.2.2.2.2.2.2.2.2.2.2.2.2.2.2.2.2.2.2.2.2.2.2.2.2.2.2.2.2.2.2.2.2.2.2.2) (vx_hat (B := [.declares (Bundle.initS "java/lang/RuntimeException"), .declares (Bundle.initS "java/lang/Exception"), .declares (Bundle.initS Bundle.tN), .castable "java/lang/IllegalArgumentException" "java/lang/IllegalArgumentException"]) (fun w h => hts w (List.mem_cons_of_mem _ (List.mem_append_right _ h))) (by decide +kernel) (vx_c (va_Nw.use rfl (hO.2.2.2.2.2.2.2.2.1)) (vx_c (va_Nw.use rfl (hO.2.2.2.2.2.2.2.2.2.1)) (vx_c (va_Nw.use rfl (hO.2.2.2.2.2.2.2.2.2.2.1)) (vx_c (va_Nw.use rfl (hO.2.2.2.2.2.2.2.2.2.2.2.2.1)) vx_n))))) (by decide +kernel) (hO.2.2.2.2.1) (hO.2.2.2.2.2.1) hw (hl.1.trans hml.symm) dX6_checkDays_11 dX6_checkDays_14 dX6_checkDays_15 dX6_checkDays_18 dX6_checkDays_21 ht (Nat.le_of_ble_eq_true rfl) (Nat.le_of_ble_eq_true rfl) (hmc _ rfl).1 (hmc _ rfl).2 hlocks rfl (hmc _ rfl).1 (hmc _ rfl).2
set_option maxHeartbeats 4000000 in
set_option maxRecDepth 100000 in
theorem k_X6_letCarpsGrow_5 (l : Launch) (D : va_G) (o : Nat → Nat) (cI cZ : ClassId) (g : Nat → Nat) (sz : Nat) (σ : mg_St)  (y : mg_St) (h : f_X6_letCarpsGrow σ 5  = some y) : mg_CT l yX6_letCarpsGrow wsX6_letCarpsGrow ({ frames := 4, cells := 0, slots := 0, locals := 85 } : Room) D [(cI, .int), (cZ, .boolean)] o (mg_cW g cI cZ σ) sz [.ref (g 0), .ref (g 5)] none (mg_cW g cI cZ y) 0 0 := by
  unfold mg_CT
  refine Met.ofW (cc := cX6_letCarpsGrow) (maxL := 4) (ret := none) (by decide) rfl ?_
  intro p e s m args below meth c s₁ B hml hv
  obtain ⟨rfl, hsz, hP, hK, hD0, hO⟩ := hv
  have hx := B.exec
  have hb := B.bytes
  have hr := B.returns
  have hts := atoms_spec (ws := wsX6_letCarpsGrow) B.pre
  have hown : s.vm.findClass RX6 = some m.cls := findClass_of_methodNamed B.named
  have hlocks := B.notSynchronized
  subst hsz
  have hD := hD0.self (sz := s.heap.size)
  generalize hAe : va_A (mg_cW g cI cZ σ) s.heap.size = A at hD hO ⊢
  have hA : ∀ q : Nat, s.heap.size ≤ q → A q := fun q h => by rw [← hAe]; exact Or.inr h
  have hw : mg_Wo D A s.heap s.heap [] (mg_cW g cI cZ σ) := ⟨hP, hD, va_S.rf⟩
  have G9 : CallFix p m c cX6_letCarpsGrow 4 s ([.ref (g 0), .ref (g 5)] : List Value).toArray wsX6_letCarpsGrow RX6 := ⟨hx, hb, hml, hown, hts⟩
  clear hP hD hD0 hAe
  obtain ⟨H, hHe⟩ : ∃ H : Heap, H = s.heap := ⟨_, rfl⟩
  have w0_ := hts (.fieldLink RX6 19 "MoonGate" "shoal" "LMoonGate$Shoal;") (by decide +kernel)
  have iX6_ : ∀ w ∈ wsX60, w ∈ wsX6_letCarpsGrow := (fun _ h => List.mem_cons_of_mem _ (List.mem_append_left _ (List.mem_append_left _ (List.mem_append_left _ (List.mem_append_right _ h)))))
  have w2_ := hts (.fieldLink RX6 129 "MoonGate$Shoal" "came" "I") (by decide +kernel)
  have iX4_ : ∀ w ∈ wsX40, w ∈ wsX6_letCarpsGrow := (fun _ h => List.mem_cons_of_mem _ (List.mem_append_left _ (List.mem_append_left _ (List.mem_append_right _ h))))
  have w4_ := hts (.fieldLink RX6 10 "MoonGate" "garden" "LMoonGate$Garden;") (by decide +kernel)
  have hl := lv_entry ([.ref (g 0), .ref (g 5)]) (n := 4) (Nat.le_of_ble_eq_true rfl)
  rw [lg_entry_eq]
  generalize (lg_sl ([.ref (g 0), .ref (g 5)]) ++ List.replicate (4 - (lg_sl ([.ref (g 0), .ref (g 5)])).length) Slot.unset).toArray = ls at hl ⊢
  have hl : lv_has ls 4 [(0, .ref (g 0)), (1, .ref (g 5))] := hl
  unfold f_X6_letCarpsGrow at h
  revert hw
  intro hw
  suffices K_ : ∀ (H : Heap) (locs : List Loc), mg_Wo D A s.heap H locs (mg_cW g cI cZ σ) → W p l e (headSpec wsX6_letCarpsGrow ({ frames := 4, cells := 0, slots := 0, locals := 85 } : Room)).room s m ([.ref (g 0), .ref (g 5)] : List Value).toArray below meth c H locs 0 0 (MQ below (mg_Q D (mg_cW g cI cZ y) A none) ([.ref (g 0), .ref (g 5)] : List Value).toArray s 0 0 A) (F0 m 0 ls []) from K_ _ _ hw
  clear hw hHe H
  intro H locs hw
  refine lv_iconst (v := 0) hx hb dX6_letCarpsGrow_0 (by decide) ?_
  refine lv_istore_n (lv' := [(2, .int 0), (0, .ref (g 0)), (1, .ref (g 5))]) hx hb dX6_letCarpsGrow_1 rfl hl (by decide) rfl (fun ls hl => ?_)
  have L2_ : ∀ (n : Nat) (x2_2 : Int32) (s2_ : mg_St) (y2_ : Int32 × mg_St), f_X6_letCarpsGrow_2 5 n x2_2 s2_ = some y2_ → (∀ (H : Heap) (locs : List Loc) (ls : Array Slot), mg_Wo D A s.heap H locs (mg_cW g cI cZ y2_.2) → lv_has ls 4 [(0, .ref (g 0)), (1, .ref (g 5)), (2, .int y2_.1)] → W p l e (headSpec wsX6_letCarpsGrow ({ frames := 4, cells := 0, slots := 0, locals := 85 } : Room)).room s m ([.ref (g 0), .ref (g 5)] : List Value).toArray below meth c H locs 0 0 (MQ below (mg_Q D (mg_cW g cI cZ y) A none) ([.ref (g 0), .ref (g 5)] : List Value).toArray s 0 0 A) (F0 m 66 ls [])) → ∀ (H : Heap) (locs : List Loc) (ls : Array Slot), mg_Wo D A s.heap H locs (mg_cW g cI cZ s2_) → lv_has ls 4 [(0, .ref (g 0)), (1, .ref (g 5)), (2, .int x2_2)] → W p l e (headSpec wsX6_letCarpsGrow ({ frames := 4, cells := 0, slots := 0, locals := 85 } : Room)).room s m ([.ref (g 0), .ref (g 5)] : List Value).toArray below meth c H locs 0 0 (MQ below (mg_Q D (mg_cW g cI cZ y) A none) ([.ref (g 0), .ref (g 5)] : List Value).toArray s 0 0 A) (F0 m 2 ls []) := by
    intro n
    induction n with
    | zero => intro x2_2 s2_ y2_ h; rw [f_X6_letCarpsGrow_2] at h; cases h
    | succ n ih =>
      intro x2_2 s2_ y2_ h kc H locs ls hw hl
      rw [f_X6_letCarpsGrow_2] at h
      refine lv_iload_n hx hb dX6_letCarpsGrow_2 rfl (lv_at hl 2 rfl) ?_
      refine lv_aload_n hx hb dX6_letCarpsGrow_3 rfl (lv_at hl 0 rfl) ?_
      refine va_get (D := D) (ci := 6) (v := .ref (g 2)) (C := RX6) (T := TX6) (N := 7) hx hb hts iX6_ hown hK hw.1 0 rfl rfl 1 (by decide) w0_ (fun _ h9 => h9) rfl dX6_letCarpsGrow_4 ?_
      refine va_get (D := D) (ci := 4) (v := .int (s2_ 2 2)) (C := RX4) (T := TX4) (N := 3) hx hb hts iX4_ hown hK hw.1 2 rfl rfl 2 (by decide) w2_ (fun _ h9 => h9) rfl dX6_letCarpsGrow_7 ?_
      refine mg_icmp_ge (tgt := 66) hx hb h dX6_letCarpsGrow_10 (by decide) (fun h => ?_) (fun h => ?_)
      · cases h
        exact kc H locs ls hw (lv_sub hl [0, 1, 2] rfl)
      · refine lv_aload_n hx hb dX6_letCarpsGrow_13 rfl (lv_at hl 0 rfl) ?_
        refine va_get (D := D) (ci := 6) (v := .ref (g 2)) (C := RX6) (T := TX6) (N := 7) hx hb hts iX6_ hown hK hw.1 0 rfl rfl 1 (by decide) w0_ (fun _ h9 => h9) rfl dX6_letCarpsGrow_14 ?_
        refine lv_iload_n hx hb dX6_letCarpsGrow_17 rfl (lv_at hl 2 rfl) ?_
        obtain ⟨y2, h9_, h⟩ := mg_bind h
        refine mg_k (rv := (some (.int y2))) (va_runV (As := [.int x2_2]) (rest := []) G9 (k_X4_isHere l D o cI cZ g H.size s2_ x2_2 y2 h9_) (cwV 1 hts gX6_letCarpsGrow_X4_isHere rfl rfl rfl (by decide +kernel) ⟨Nat.le_of_ble_eq_true rfl, Nat.le_of_ble_eq_true rfl⟩) (mg_preV hK hO hA hw (q0 := 2) rfl rfl) rfl rfl hl.1 rfl (lv_room (Nat.le_of_ble_eq_true rfl)) dX6_letCarpsGrow_18 ⟨Nat.zero_le _, Nat.zero_le _⟩) hw hA (fun H locs hw => ?_)
        clear h9_
        refine mg_if_eq (tgt := 60) hx hb h dX6_letCarpsGrow_21 (by decide) (fun h => ?_) (fun h => ?_)
        · refine lv_iinc (v := (x2_2 + 1)) (lv' := [(2, .int (x2_2 + 1)), (0, .ref (g 0)), (1, .ref (g 5))]) hx hb dX6_letCarpsGrow_60 hl (k := 2) rfl rfl (by decide) rfl (fun ls hl => ?_)
          refine lv_goto (tgt := 2) hx hb dX6_letCarpsGrow_63 (by decide) ?_
          exact ih _ _ _ h kc H locs ls hw (lv_sub hl [1, 2, 0] rfl)
        · refine lv_aload_n hx hb dX6_letCarpsGrow_24 rfl (lv_at hl 0 rfl) ?_
          refine va_get (D := D) (ci := 6) (v := .ref (g 1)) (C := RX6) (T := TX6) (N := 7) hx hb hts iX6_ hown hK hw.1 0 rfl rfl 0 (by decide) w4_ (fun _ h9 => h9) rfl dX6_letCarpsGrow_25 ?_
          refine lv_aload_n hx hb dX6_letCarpsGrow_28 rfl (lv_at hl 0 rfl) ?_
          refine va_get (D := D) (ci := 6) (v := .ref (g 2)) (C := RX6) (T := TX6) (N := 7) hx hb hts iX6_ hown hK hw.1 0 rfl rfl 1 (by decide) w0_ (fun _ h9 => h9) rfl dX6_letCarpsGrow_29 ?_
          refine lv_iload_n hx hb dX6_letCarpsGrow_32 rfl (lv_at hl 2 rfl) ?_
          obtain ⟨y3, h9_, h⟩ := mg_bind h
          refine mg_k (rv := (some (.int y3))) (va_runV (As := [.int x2_2]) (rest := [.ref (g 1)]) G9 (k_X4_placeOf l D o cI cZ g H.size s2_ x2_2 y3 h9_) (cwV 1 hts gX6_letCarpsGrow_X4_placeOf rfl rfl rfl (by decide +kernel) ⟨Nat.le_of_ble_eq_true rfl, Nat.le_of_ble_eq_true rfl⟩) (mg_preV hK hO hA hw (q0 := 2) rfl rfl) rfl rfl hl.1 rfl (lv_room (Nat.le_of_ble_eq_true rfl)) dX6_letCarpsGrow_33 ⟨Nat.zero_le _, Nat.zero_le _⟩) hw hA (fun H locs hw => ?_)
          clear h9_
          obtain ⟨y4, h9_, h⟩ := mg_bind h
          refine mg_k (rv := (some (.int y4))) (va_runV (As := [.int y3]) (rest := []) G9 (k_X1_isTooFull l D o cI cZ g H.size s2_ y3 y4 h9_) (cwV 1 hts gX6_letCarpsGrow_X1_isTooFull rfl rfl rfl (by decide +kernel) ⟨Nat.le_of_ble_eq_true rfl, Nat.le_of_ble_eq_true rfl⟩) (mg_preV hK hO hA hw (q0 := 1) rfl rfl) rfl rfl hl.1 rfl (lv_room (Nat.le_of_ble_eq_true rfl)) dX6_letCarpsGrow_36 ⟨Nat.zero_le _, Nat.zero_le _⟩) hw hA (fun H locs hw => ?_)
          clear h9_
          obtain ⟨y5, h9_, h⟩ := mg_bind h
          have J39_ : ∀ (H : Heap) (locs : List Loc) (ls : Array Slot), mg_Wo D A s.heap H locs (mg_cW g cI cZ s2_) → lv_has ls 4 [(0, .ref (g 0)), (1, .ref (g 5)), (2, .int x2_2)] → W p l e (headSpec wsX6_letCarpsGrow ({ frames := 4, cells := 0, slots := 0, locals := 85 } : Room)).room s m ([.ref (g 0), .ref (g 5)] : List Value).toArray below meth c H locs 0 0 (MQ below (mg_Q D (mg_cW g cI cZ y) A none) ([.ref (g 0), .ref (g 5)] : List Value).toArray s 0 0 A) (F0 m 47 ls [.int y5]) := by
            intro H locs ls hw hl
            clear h9_
            refine lv_istore_n (lv' := [(3, .int y5), (0, .ref (g 0)), (1, .ref (g 5)), (2, .int x2_2)]) hx hb dX6_letCarpsGrow_47 rfl hl (by decide) rfl (fun ls hl => ?_)
            refine lv_aload_n hx hb dX6_letCarpsGrow_48 rfl (lv_at hl 2 rfl) ?_
            refine lv_iload_n hx hb dX6_letCarpsGrow_49 rfl (lv_at hl 3 rfl) ?_
            refine lv_aload_n hx hb dX6_letCarpsGrow_50 rfl (lv_at hl 2 rfl) ?_
            refine lv_iload_n hx hb dX6_letCarpsGrow_51 rfl (lv_at hl 3 rfl) ?_
            obtain ⟨y6, h9_, h⟩ := mg_bind h
            refine mg_k (rv := (some (.int y6))) (va_runV (As := [.int x2_2]) (rest := [.int x2_2, .ref (g 5)]) G9 (k_X0_carpSize_5 l D o cI cZ g H.size s2_ x2_2 y6 h9_) (cwV 1 hts gX6_letCarpsGrow_X0_carpSize rfl rfl rfl (by decide +kernel) ⟨Nat.le_of_ble_eq_true rfl, Nat.le_of_ble_eq_true rfl⟩) (mg_preV hK hO hA hw (q0 := 5) rfl rfl) rfl rfl hl.1 rfl (lv_room (Nat.le_of_ble_eq_true rfl)) dX6_letCarpsGrow_52 ⟨Nat.zero_le _, Nat.zero_le _⟩) hw hA (fun H locs hw => ?_)
            clear h9_
            refine lv_iload_n hx hb dX6_letCarpsGrow_55 rfl (lv_at hl 0 rfl) ?_
            refine lv_iadd hx hb dX6_letCarpsGrow_56 ?_
            obtain ⟨y7, h9_, h⟩ := mg_bind h
            refine mg_k (rv := none) (va_runV (As := [.int x2_2, .int (y6 + y5)]) (rest := []) G9 (k_X0_setCarpSize_5 l D o cI cZ g H.size s2_ x2_2 (y6 + y5) y7 h9_) (cwV 2 hts gX6_letCarpsGrow_X0_setCarpSize rfl rfl rfl (by decide +kernel) ⟨Nat.le_of_ble_eq_true rfl, Nat.le_of_ble_eq_true rfl⟩) (mg_preV hK hO hA hw (q0 := 5) rfl rfl) rfl rfl hl.1 rfl (lv_room (Nat.le_of_ble_eq_true rfl)) dX6_letCarpsGrow_57 ⟨Nat.zero_le _, Nat.zero_le _⟩) hw hA (fun H locs hw => ?_)
            clear h9_
            refine lv_iinc (v := (x2_2 + 1)) (lv' := [(2, .int (x2_2 + 1)), (3, .int y5), (0, .ref (g 0)), (1, .ref (g 5))]) hx hb dX6_letCarpsGrow_60 hl (k := 3) rfl rfl (by decide) rfl (fun ls hl => ?_)
            refine lv_goto (tgt := 2) hx hb dX6_letCarpsGrow_63 (by decide) ?_
            exact ih _ _ _ h kc H locs ls hw (lv_sub hl [2, 3, 0] rfl)
          clear h
          have h := h9_
          clear h9_
          refine mg_if_eq (tgt := 46) hx hb h dX6_letCarpsGrow_39 (by decide) (fun h => ?_) (fun h => ?_)
          · refine lv_iconst (v := 1) hx hb dX6_letCarpsGrow_46 (by decide) ?_
            cases h
            exact J39_ H locs ls hw (lv_sub hl [0, 1, 2] rfl)
          · refine lv_iconst (v := (-1)) hx hb dX6_letCarpsGrow_42 (by decide) ?_
            refine lv_goto (tgt := 47) hx hb dX6_letCarpsGrow_43 (by decide) ?_
            cases h
            exact J39_ H locs ls hw (lv_sub hl [0, 1, 2] rfl)
  obtain ⟨y1, h9_, h⟩ := mg_bind h
  refine L2_ _ _ _ _ h9_ (fun H locs ls hw hl => ?_) H locs ls hw (lv_sub hl [1, 2, 0] rfl)
  clear L2_ h9_
  cases h
  exact mg_eV hx hb hr hlocks hw (Nat.zero_le _) (Nat.zero_le _) dX6_letCarpsGrow_66
set_option maxHeartbeats 4000000 in
set_option maxRecDepth 100000 in
theorem k_X6_letCarpsGrow_6 (l : Launch) (D : va_G) (o : Nat → Nat) (cI cZ : ClassId) (g : Nat → Nat) (sz : Nat) (σ : mg_St)  (y : mg_St) (h : f_X6_letCarpsGrow σ 6  = some y) : mg_CT l yX6_letCarpsGrow wsX6_letCarpsGrow ({ frames := 4, cells := 0, slots := 0, locals := 85 } : Room) D [(cI, .int), (cZ, .boolean)] o (mg_cW g cI cZ σ) sz [.ref (g 0), .ref (g 6)] none (mg_cW g cI cZ y) 0 0 := by
  unfold mg_CT
  refine Met.ofW (cc := cX6_letCarpsGrow) (maxL := 4) (ret := none) (by decide) rfl ?_
  intro p e s m args below meth c s₁ B hml hv
  obtain ⟨rfl, hsz, hP, hK, hD0, hO⟩ := hv
  have hx := B.exec
  have hb := B.bytes
  have hr := B.returns
  have hts := atoms_spec (ws := wsX6_letCarpsGrow) B.pre
  have hown : s.vm.findClass RX6 = some m.cls := findClass_of_methodNamed B.named
  have hlocks := B.notSynchronized
  subst hsz
  have hD := hD0.self (sz := s.heap.size)
  generalize hAe : va_A (mg_cW g cI cZ σ) s.heap.size = A at hD hO ⊢
  have hA : ∀ q : Nat, s.heap.size ≤ q → A q := fun q h => by rw [← hAe]; exact Or.inr h
  have hw : mg_Wo D A s.heap s.heap [] (mg_cW g cI cZ σ) := ⟨hP, hD, va_S.rf⟩
  have G9 : CallFix p m c cX6_letCarpsGrow 4 s ([.ref (g 0), .ref (g 6)] : List Value).toArray wsX6_letCarpsGrow RX6 := ⟨hx, hb, hml, hown, hts⟩
  clear hP hD hD0 hAe
  obtain ⟨H, hHe⟩ : ∃ H : Heap, H = s.heap := ⟨_, rfl⟩
  have w0_ := hts (.fieldLink RX6 19 "MoonGate" "shoal" "LMoonGate$Shoal;") (by decide +kernel)
  have iX6_ : ∀ w ∈ wsX60, w ∈ wsX6_letCarpsGrow := (fun _ h => List.mem_cons_of_mem _ (List.mem_append_left _ (List.mem_append_left _ (List.mem_append_left _ (List.mem_append_right _ h)))))
  have w2_ := hts (.fieldLink RX6 129 "MoonGate$Shoal" "came" "I") (by decide +kernel)
  have iX4_ : ∀ w ∈ wsX40, w ∈ wsX6_letCarpsGrow := (fun _ h => List.mem_cons_of_mem _ (List.mem_append_left _ (List.mem_append_left _ (List.mem_append_right _ h))))
  have w4_ := hts (.fieldLink RX6 10 "MoonGate" "garden" "LMoonGate$Garden;") (by decide +kernel)
  have hl := lv_entry ([.ref (g 0), .ref (g 6)]) (n := 4) (Nat.le_of_ble_eq_true rfl)
  rw [lg_entry_eq]
  generalize (lg_sl ([.ref (g 0), .ref (g 6)]) ++ List.replicate (4 - (lg_sl ([.ref (g 0), .ref (g 6)])).length) Slot.unset).toArray = ls at hl ⊢
  have hl : lv_has ls 4 [(0, .ref (g 0)), (1, .ref (g 6))] := hl
  unfold f_X6_letCarpsGrow at h
  revert hw
  intro hw
  suffices K_ : ∀ (H : Heap) (locs : List Loc), mg_Wo D A s.heap H locs (mg_cW g cI cZ σ) → W p l e (headSpec wsX6_letCarpsGrow ({ frames := 4, cells := 0, slots := 0, locals := 85 } : Room)).room s m ([.ref (g 0), .ref (g 6)] : List Value).toArray below meth c H locs 0 0 (MQ below (mg_Q D (mg_cW g cI cZ y) A none) ([.ref (g 0), .ref (g 6)] : List Value).toArray s 0 0 A) (F0 m 0 ls []) from K_ _ _ hw
  clear hw hHe H
  intro H locs hw
  refine lv_iconst (v := 0) hx hb dX6_letCarpsGrow_0 (by decide) ?_
  refine lv_istore_n (lv' := [(2, .int 0), (0, .ref (g 0)), (1, .ref (g 6))]) hx hb dX6_letCarpsGrow_1 rfl hl (by decide) rfl (fun ls hl => ?_)
  have L2_ : ∀ (n : Nat) (x2_2 : Int32) (s2_ : mg_St) (y2_ : Int32 × mg_St), f_X6_letCarpsGrow_2 6 n x2_2 s2_ = some y2_ → (∀ (H : Heap) (locs : List Loc) (ls : Array Slot), mg_Wo D A s.heap H locs (mg_cW g cI cZ y2_.2) → lv_has ls 4 [(0, .ref (g 0)), (1, .ref (g 6)), (2, .int y2_.1)] → W p l e (headSpec wsX6_letCarpsGrow ({ frames := 4, cells := 0, slots := 0, locals := 85 } : Room)).room s m ([.ref (g 0), .ref (g 6)] : List Value).toArray below meth c H locs 0 0 (MQ below (mg_Q D (mg_cW g cI cZ y) A none) ([.ref (g 0), .ref (g 6)] : List Value).toArray s 0 0 A) (F0 m 66 ls [])) → ∀ (H : Heap) (locs : List Loc) (ls : Array Slot), mg_Wo D A s.heap H locs (mg_cW g cI cZ s2_) → lv_has ls 4 [(0, .ref (g 0)), (1, .ref (g 6)), (2, .int x2_2)] → W p l e (headSpec wsX6_letCarpsGrow ({ frames := 4, cells := 0, slots := 0, locals := 85 } : Room)).room s m ([.ref (g 0), .ref (g 6)] : List Value).toArray below meth c H locs 0 0 (MQ below (mg_Q D (mg_cW g cI cZ y) A none) ([.ref (g 0), .ref (g 6)] : List Value).toArray s 0 0 A) (F0 m 2 ls []) := by
    intro n
    induction n with
    | zero => intro x2_2 s2_ y2_ h; rw [f_X6_letCarpsGrow_2] at h; cases h
    | succ n ih =>
      intro x2_2 s2_ y2_ h kc H locs ls hw hl
      rw [f_X6_letCarpsGrow_2] at h
      refine lv_iload_n hx hb dX6_letCarpsGrow_2 rfl (lv_at hl 2 rfl) ?_
      refine lv_aload_n hx hb dX6_letCarpsGrow_3 rfl (lv_at hl 0 rfl) ?_
      refine va_get (D := D) (ci := 6) (v := .ref (g 2)) (C := RX6) (T := TX6) (N := 7) hx hb hts iX6_ hown hK hw.1 0 rfl rfl 1 (by decide) w0_ (fun _ h9 => h9) rfl dX6_letCarpsGrow_4 ?_
      refine va_get (D := D) (ci := 4) (v := .int (s2_ 2 2)) (C := RX4) (T := TX4) (N := 3) hx hb hts iX4_ hown hK hw.1 2 rfl rfl 2 (by decide) w2_ (fun _ h9 => h9) rfl dX6_letCarpsGrow_7 ?_
      refine mg_icmp_ge (tgt := 66) hx hb h dX6_letCarpsGrow_10 (by decide) (fun h => ?_) (fun h => ?_)
      · cases h
        exact kc H locs ls hw (lv_sub hl [0, 1, 2] rfl)
      · refine lv_aload_n hx hb dX6_letCarpsGrow_13 rfl (lv_at hl 0 rfl) ?_
        refine va_get (D := D) (ci := 6) (v := .ref (g 2)) (C := RX6) (T := TX6) (N := 7) hx hb hts iX6_ hown hK hw.1 0 rfl rfl 1 (by decide) w0_ (fun _ h9 => h9) rfl dX6_letCarpsGrow_14 ?_
        refine lv_iload_n hx hb dX6_letCarpsGrow_17 rfl (lv_at hl 2 rfl) ?_
        obtain ⟨y2, h9_, h⟩ := mg_bind h
        refine mg_k (rv := (some (.int y2))) (va_runV (As := [.int x2_2]) (rest := []) G9 (k_X4_isHere l D o cI cZ g H.size s2_ x2_2 y2 h9_) (cwV 1 hts gX6_letCarpsGrow_X4_isHere rfl rfl rfl (by decide +kernel) ⟨Nat.le_of_ble_eq_true rfl, Nat.le_of_ble_eq_true rfl⟩) (mg_preV hK hO hA hw (q0 := 2) rfl rfl) rfl rfl hl.1 rfl (lv_room (Nat.le_of_ble_eq_true rfl)) dX6_letCarpsGrow_18 ⟨Nat.zero_le _, Nat.zero_le _⟩) hw hA (fun H locs hw => ?_)
        clear h9_
        refine mg_if_eq (tgt := 60) hx hb h dX6_letCarpsGrow_21 (by decide) (fun h => ?_) (fun h => ?_)
        · refine lv_iinc (v := (x2_2 + 1)) (lv' := [(2, .int (x2_2 + 1)), (0, .ref (g 0)), (1, .ref (g 6))]) hx hb dX6_letCarpsGrow_60 hl (k := 2) rfl rfl (by decide) rfl (fun ls hl => ?_)
          refine lv_goto (tgt := 2) hx hb dX6_letCarpsGrow_63 (by decide) ?_
          exact ih _ _ _ h kc H locs ls hw (lv_sub hl [1, 2, 0] rfl)
        · refine lv_aload_n hx hb dX6_letCarpsGrow_24 rfl (lv_at hl 0 rfl) ?_
          refine va_get (D := D) (ci := 6) (v := .ref (g 1)) (C := RX6) (T := TX6) (N := 7) hx hb hts iX6_ hown hK hw.1 0 rfl rfl 0 (by decide) w4_ (fun _ h9 => h9) rfl dX6_letCarpsGrow_25 ?_
          refine lv_aload_n hx hb dX6_letCarpsGrow_28 rfl (lv_at hl 0 rfl) ?_
          refine va_get (D := D) (ci := 6) (v := .ref (g 2)) (C := RX6) (T := TX6) (N := 7) hx hb hts iX6_ hown hK hw.1 0 rfl rfl 1 (by decide) w0_ (fun _ h9 => h9) rfl dX6_letCarpsGrow_29 ?_
          refine lv_iload_n hx hb dX6_letCarpsGrow_32 rfl (lv_at hl 2 rfl) ?_
          obtain ⟨y3, h9_, h⟩ := mg_bind h
          refine mg_k (rv := (some (.int y3))) (va_runV (As := [.int x2_2]) (rest := [.ref (g 1)]) G9 (k_X4_placeOf l D o cI cZ g H.size s2_ x2_2 y3 h9_) (cwV 1 hts gX6_letCarpsGrow_X4_placeOf rfl rfl rfl (by decide +kernel) ⟨Nat.le_of_ble_eq_true rfl, Nat.le_of_ble_eq_true rfl⟩) (mg_preV hK hO hA hw (q0 := 2) rfl rfl) rfl rfl hl.1 rfl (lv_room (Nat.le_of_ble_eq_true rfl)) dX6_letCarpsGrow_33 ⟨Nat.zero_le _, Nat.zero_le _⟩) hw hA (fun H locs hw => ?_)
          clear h9_
          obtain ⟨y4, h9_, h⟩ := mg_bind h
          refine mg_k (rv := (some (.int y4))) (va_runV (As := [.int y3]) (rest := []) G9 (k_X1_isTooFull l D o cI cZ g H.size s2_ y3 y4 h9_) (cwV 1 hts gX6_letCarpsGrow_X1_isTooFull rfl rfl rfl (by decide +kernel) ⟨Nat.le_of_ble_eq_true rfl, Nat.le_of_ble_eq_true rfl⟩) (mg_preV hK hO hA hw (q0 := 1) rfl rfl) rfl rfl hl.1 rfl (lv_room (Nat.le_of_ble_eq_true rfl)) dX6_letCarpsGrow_36 ⟨Nat.zero_le _, Nat.zero_le _⟩) hw hA (fun H locs hw => ?_)
          clear h9_
          obtain ⟨y5, h9_, h⟩ := mg_bind h
          have J39_ : ∀ (H : Heap) (locs : List Loc) (ls : Array Slot), mg_Wo D A s.heap H locs (mg_cW g cI cZ s2_) → lv_has ls 4 [(0, .ref (g 0)), (1, .ref (g 6)), (2, .int x2_2)] → W p l e (headSpec wsX6_letCarpsGrow ({ frames := 4, cells := 0, slots := 0, locals := 85 } : Room)).room s m ([.ref (g 0), .ref (g 6)] : List Value).toArray below meth c H locs 0 0 (MQ below (mg_Q D (mg_cW g cI cZ y) A none) ([.ref (g 0), .ref (g 6)] : List Value).toArray s 0 0 A) (F0 m 47 ls [.int y5]) := by
            intro H locs ls hw hl
            clear h9_
            refine lv_istore_n (lv' := [(3, .int y5), (0, .ref (g 0)), (1, .ref (g 6)), (2, .int x2_2)]) hx hb dX6_letCarpsGrow_47 rfl hl (by decide) rfl (fun ls hl => ?_)
            refine lv_aload_n hx hb dX6_letCarpsGrow_48 rfl (lv_at hl 2 rfl) ?_
            refine lv_iload_n hx hb dX6_letCarpsGrow_49 rfl (lv_at hl 3 rfl) ?_
            refine lv_aload_n hx hb dX6_letCarpsGrow_50 rfl (lv_at hl 2 rfl) ?_
            refine lv_iload_n hx hb dX6_letCarpsGrow_51 rfl (lv_at hl 3 rfl) ?_
            obtain ⟨y6, h9_, h⟩ := mg_bind h
            refine mg_k (rv := (some (.int y6))) (va_runV (As := [.int x2_2]) (rest := [.int x2_2, .ref (g 6)]) G9 (k_X0_carpSize_6 l D o cI cZ g H.size s2_ x2_2 y6 h9_) (cwV 1 hts gX6_letCarpsGrow_X0_carpSize rfl rfl rfl (by decide +kernel) ⟨Nat.le_of_ble_eq_true rfl, Nat.le_of_ble_eq_true rfl⟩) (mg_preV hK hO hA hw (q0 := 6) rfl rfl) rfl rfl hl.1 rfl (lv_room (Nat.le_of_ble_eq_true rfl)) dX6_letCarpsGrow_52 ⟨Nat.zero_le _, Nat.zero_le _⟩) hw hA (fun H locs hw => ?_)
            clear h9_
            refine lv_iload_n hx hb dX6_letCarpsGrow_55 rfl (lv_at hl 0 rfl) ?_
            refine lv_iadd hx hb dX6_letCarpsGrow_56 ?_
            obtain ⟨y7, h9_, h⟩ := mg_bind h
            refine mg_k (rv := none) (va_runV (As := [.int x2_2, .int (y6 + y5)]) (rest := []) G9 (k_X0_setCarpSize_6 l D o cI cZ g H.size s2_ x2_2 (y6 + y5) y7 h9_) (cwV 2 hts gX6_letCarpsGrow_X0_setCarpSize rfl rfl rfl (by decide +kernel) ⟨Nat.le_of_ble_eq_true rfl, Nat.le_of_ble_eq_true rfl⟩) (mg_preV hK hO hA hw (q0 := 6) rfl rfl) rfl rfl hl.1 rfl (lv_room (Nat.le_of_ble_eq_true rfl)) dX6_letCarpsGrow_57 ⟨Nat.zero_le _, Nat.zero_le _⟩) hw hA (fun H locs hw => ?_)
            clear h9_
            refine lv_iinc (v := (x2_2 + 1)) (lv' := [(2, .int (x2_2 + 1)), (3, .int y5), (0, .ref (g 0)), (1, .ref (g 6))]) hx hb dX6_letCarpsGrow_60 hl (k := 3) rfl rfl (by decide) rfl (fun ls hl => ?_)
            refine lv_goto (tgt := 2) hx hb dX6_letCarpsGrow_63 (by decide) ?_
            exact ih _ _ _ h kc H locs ls hw (lv_sub hl [2, 3, 0] rfl)
          clear h
          have h := h9_
          clear h9_
          refine mg_if_eq (tgt := 46) hx hb h dX6_letCarpsGrow_39 (by decide) (fun h => ?_) (fun h => ?_)
          · refine lv_iconst (v := 1) hx hb dX6_letCarpsGrow_46 (by decide) ?_
            cases h
            exact J39_ H locs ls hw (lv_sub hl [0, 1, 2] rfl)
          · refine lv_iconst (v := (-1)) hx hb dX6_letCarpsGrow_42 (by decide) ?_
            refine lv_goto (tgt := 47) hx hb dX6_letCarpsGrow_43 (by decide) ?_
            cases h
            exact J39_ H locs ls hw (lv_sub hl [0, 1, 2] rfl)
  obtain ⟨y1, h9_, h⟩ := mg_bind h
  refine L2_ _ _ _ _ h9_ (fun H locs ls hw hl => ?_) H locs ls hw (lv_sub hl [1, 2, 0] rfl)
  clear L2_ h9_
  cases h
  exact mg_eV hx hb hr hlocks hw (Nat.zero_le _) (Nat.zero_le _) dX6_letCarpsGrow_66
set_option maxHeartbeats 4000000 in
set_option maxRecDepth 100000 in
theorem k_X6_letPoetsWrite_5 (l : Launch) (D : va_G) (o : Nat → Nat) (cI cZ : ClassId) (g : Nat → Nat) (sz : Nat) (σ : mg_St)  (y : (Int32 × mg_St)) (h : f_X6_letPoetsWrite σ 5  = some y) : mg_CT l yX6_letPoetsWrite wsX6_letPoetsWrite ({ frames := 4, cells := 0, slots := 0, locals := 93 } : Room) D [(cI, .int), (cZ, .boolean)] o (mg_cW g cI cZ σ) sz [.ref (g 0), .ref (g 5)] (some (.int y.1)) (mg_cW g cI cZ y.2) 0 0 := by
  unfold mg_CT
  refine Met.ofW (cc := cX6_letPoetsWrite) (maxL := 6) (ret := (some .int)) (by decide) rfl ?_
  intro p e s m args below meth c s₁ B hml hv
  obtain ⟨rfl, hsz, hP, hK, hD0, hO⟩ := hv
  have hx := B.exec
  have hb := B.bytes
  have hr := B.returns
  have hts := atoms_spec (ws := wsX6_letPoetsWrite) B.pre
  have hown : s.vm.findClass RX6 = some m.cls := findClass_of_methodNamed B.named
  have hlocks := B.notSynchronized
  subst hsz
  have hD := hD0.self (sz := s.heap.size)
  generalize hAe : va_A (mg_cW g cI cZ σ) s.heap.size = A at hD hO ⊢
  have hA : ∀ q : Nat, s.heap.size ≤ q → A q := fun q h => by rw [← hAe]; exact Or.inr h
  have hw : mg_Wo D A s.heap s.heap [] (mg_cW g cI cZ σ) := ⟨hP, hD, va_S.rf⟩
  have G9 : CallFix p m c cX6_letPoetsWrite 6 s ([.ref (g 0), .ref (g 5)] : List Value).toArray wsX6_letPoetsWrite RX6 := ⟨hx, hb, hml, hown, hts⟩
  clear hP hD hD0 hAe
  obtain ⟨H, hHe⟩ : ∃ H : Heap, H = s.heap := ⟨_, rfl⟩
  have w0_ := hts (.fieldLink RX6 33 "MoonGate" "poets" "LMoonGate$Poets;") (by decide +kernel)
  have iX6_ : ∀ w ∈ wsX60, w ∈ wsX6_letPoetsWrite := (fun _ h => List.mem_cons_of_mem _ (List.mem_append_left _ (List.mem_append_left _ (List.mem_append_left _ (List.mem_append_left _ (List.mem_append_left _ (List.mem_append_left _ (List.mem_append_right _ h))))))))
  have w2_ := hts (.fieldLink RX6 200 "MoonGate$Poets" "many" "I") (by decide +kernel)
  have iX3_ : ∀ w ∈ wsX30, w ∈ wsX6_letPoetsWrite := (fun _ h => List.mem_cons_of_mem _ (List.mem_append_left _ (List.mem_append_left _ (List.mem_append_left _ (List.mem_append_left _ (List.mem_append_left _ (List.mem_append_right _ h)))))))
  have hl := lv_entry ([.ref (g 0), .ref (g 5)]) (n := 6) (Nat.le_of_ble_eq_true rfl)
  rw [lg_entry_eq]
  generalize (lg_sl ([.ref (g 0), .ref (g 5)]) ++ List.replicate (6 - (lg_sl ([.ref (g 0), .ref (g 5)])).length) Slot.unset).toArray = ls at hl ⊢
  have hl : lv_has ls 6 [(0, .ref (g 0)), (1, .ref (g 5))] := hl
  unfold f_X6_letPoetsWrite at h
  revert hw
  intro hw
  suffices K_ : ∀ (H : Heap) (locs : List Loc), mg_Wo D A s.heap H locs (mg_cW g cI cZ σ) → W p l e (headSpec wsX6_letPoetsWrite ({ frames := 4, cells := 0, slots := 0, locals := 93 } : Room)).room s m ([.ref (g 0), .ref (g 5)] : List Value).toArray below meth c H locs 0 0 (MQ below (mg_Q D (mg_cW g cI cZ y.2) A (some (.int y.1))) ([.ref (g 0), .ref (g 5)] : List Value).toArray s 0 0 A) (F0 m 0 ls []) from K_ _ _ hw
  clear hw hHe H
  intro H locs hw
  refine lv_iconst (v := 0) hx hb dX6_letPoetsWrite_0 (by decide) ?_
  refine lv_istore_n (lv' := [(2, .int 0), (0, .ref (g 0)), (1, .ref (g 5))]) hx hb dX6_letPoetsWrite_1 rfl hl (by decide) rfl (fun ls hl => ?_)
  refine lv_aload_n hx hb dX6_letPoetsWrite_2 rfl (lv_at hl 2 rfl) ?_
  obtain ⟨y1, h9_, h⟩ := mg_bind h
  refine mg_k (rv := (some (.int y1))) (va_runV (As := []) (rest := []) G9 (k_X0_isFullMoon_5 l D o cI cZ g H.size σ  y1 h9_) (cwV 0 hts gX6_letPoetsWrite_X0_isFullMoon rfl rfl rfl (by decide +kernel) ⟨Nat.le_of_ble_eq_true rfl, Nat.le_of_ble_eq_true rfl⟩) (mg_preV hK hO hA hw (q0 := 5) rfl rfl) rfl rfl hl.1 rfl (lv_room (Nat.le_of_ble_eq_true rfl)) dX6_letPoetsWrite_3 ⟨Nat.zero_le _, Nat.zero_le _⟩) hw hA (fun H locs hw => ?_)
  clear h9_
  obtain ⟨y2, h9_, h⟩ := mg_bind h
  have J6_ : ∀ (H : Heap) (locs : List Loc) (ls : Array Slot), mg_Wo D A s.heap H locs (mg_cW g cI cZ σ) → lv_has ls 6 [(0, .ref (g 0)), (1, .ref (g 5)), (2, .int 0)] → W p l e (headSpec wsX6_letPoetsWrite ({ frames := 4, cells := 0, slots := 0, locals := 93 } : Room)).room s m ([.ref (g 0), .ref (g 5)] : List Value).toArray below meth c H locs 0 0 (MQ below (mg_Q D (mg_cW g cI cZ y.2) A (some (.int y.1))) ([.ref (g 0), .ref (g 5)] : List Value).toArray s 0 0 A) (F0 m 14 ls [.int y2]) := by
    intro H locs ls hw hl
    clear h9_
    refine lv_istore_n (lv' := [(3, .int y2), (0, .ref (g 0)), (1, .ref (g 5)), (2, .int 0)]) hx hb dX6_letPoetsWrite_14 rfl hl (by decide) rfl (fun ls hl => ?_)
    refine lv_iconst (v := 0) hx hb dX6_letPoetsWrite_15 (by decide) ?_
    refine lv_istore (lv' := [(4, .int 0), (3, .int y2), (0, .ref (g 0)), (1, .ref (g 5)), (2, .int 0)]) hx hb dX6_letPoetsWrite_16 hl (by decide) rfl (fun ls hl => ?_)
    have L18_ : ∀ (n : Nat) (x2_18 : Int32) (x4_18 : Int32) (s18_ : mg_St) (y18_ : Int32 × Int32 × mg_St), f_X6_letPoetsWrite_18 5 y2 n x2_18 x4_18 s18_ = some y18_ → (∀ (H : Heap) (locs : List Loc) (ls : Array Slot), mg_Wo D A s.heap H locs (mg_cW g cI cZ y18_.2.2) → lv_has ls 6 [(0, .ref (g 0)), (1, .ref (g 5)), (2, .int y18_.1), (3, .int y2), (4, .int y18_.2.1)] → W p l e (headSpec wsX6_letPoetsWrite ({ frames := 4, cells := 0, slots := 0, locals := 93 } : Room)).room s m ([.ref (g 0), .ref (g 5)] : List Value).toArray below meth c H locs 0 0 (MQ below (mg_Q D (mg_cW g cI cZ y.2) A (some (.int y.1))) ([.ref (g 0), .ref (g 5)] : List Value).toArray s 0 0 A) (F0 m 69 ls [])) → ∀ (H : Heap) (locs : List Loc) (ls : Array Slot), mg_Wo D A s.heap H locs (mg_cW g cI cZ s18_) → lv_has ls 6 [(0, .ref (g 0)), (1, .ref (g 5)), (2, .int x2_18), (3, .int y2), (4, .int x4_18)] → W p l e (headSpec wsX6_letPoetsWrite ({ frames := 4, cells := 0, slots := 0, locals := 93 } : Room)).room s m ([.ref (g 0), .ref (g 5)] : List Value).toArray below meth c H locs 0 0 (MQ below (mg_Q D (mg_cW g cI cZ y.2) A (some (.int y.1))) ([.ref (g 0), .ref (g 5)] : List Value).toArray s 0 0 A) (F0 m 18 ls []) := by
      intro n
      induction n with
      | zero => intro x2_18 x4_18 s18_ y18_ h; rw [f_X6_letPoetsWrite_18] at h; cases h
      | succ n ih =>
        intro x2_18 x4_18 s18_ y18_ h kc H locs ls hw hl
        rw [f_X6_letPoetsWrite_18] at h
        refine lv_iload hx hb dX6_letPoetsWrite_18 (lv_at hl 4 rfl) ?_
        refine lv_aload_n hx hb dX6_letPoetsWrite_20 rfl (lv_at hl 0 rfl) ?_
        refine va_get (D := D) (ci := 6) (v := .ref (g 4)) (C := RX6) (T := TX6) (N := 7) hx hb hts iX6_ hown hK hw.1 0 rfl rfl 3 (by decide) w0_ (fun _ h9 => h9) rfl dX6_letPoetsWrite_21 ?_
        refine va_get (D := D) (ci := 3) (v := .int (s18_ 4 1)) (C := RX3) (T := TX3) (N := 2) hx hb hts iX3_ hown hK hw.1 4 rfl rfl 1 (by decide) w2_ (fun _ h9 => h9) rfl dX6_letPoetsWrite_24 ?_
        refine mg_icmp_ge (tgt := 69) hx hb h dX6_letPoetsWrite_27 (by decide) (fun h => ?_) (fun h => ?_)
        · cases h
          exact kc H locs ls hw (lv_sub hl [0, 1, 2, 3, 4] rfl)
        · refine lv_iload_n hx hb dX6_letPoetsWrite_30 rfl (lv_at hl 3 rfl) ?_
          refine lv_aload_n hx hb dX6_letPoetsWrite_31 rfl (lv_at hl 0 rfl) ?_
          refine lv_aload_n hx hb dX6_letPoetsWrite_32 rfl (lv_at hl 0 rfl) ?_
          refine va_get (D := D) (ci := 6) (v := .ref (g 4)) (C := RX6) (T := TX6) (N := 7) hx hb hts iX6_ hown hK hw.1 0 rfl rfl 3 (by decide) w0_ (fun _ h9 => h9) rfl dX6_letPoetsWrite_33 ?_
          refine lv_iload hx hb dX6_letPoetsWrite_36 (lv_at hl 4 rfl) ?_
          obtain ⟨y4, h9_, h⟩ := mg_bind h
          refine mg_k (rv := (some (.int y4))) (va_runV (As := [.int x4_18]) (rest := [.ref (g 0), .int y2]) G9 (k_X3_gateOf l D o cI cZ g H.size s18_ x4_18 y4 h9_) (cwV 1 hts gX6_letPoetsWrite_X3_gateOf rfl rfl rfl (by decide +kernel) ⟨Nat.le_of_ble_eq_true rfl, Nat.le_of_ble_eq_true rfl⟩) (mg_preV hK hO hA hw (q0 := 4) rfl rfl) rfl rfl hl.1 rfl (lv_room (Nat.le_of_ble_eq_true rfl)) dX6_letPoetsWrite_38 ⟨Nat.zero_le _, Nat.zero_le _⟩) hw hA (fun H locs hw => ?_)
          clear h9_
          refine lv_aload_n hx hb dX6_letPoetsWrite_41 rfl (lv_at hl 1 rfl) ?_
          obtain ⟨y5, h9_, h⟩ := mg_bind h
          refine mg_k (rv := (some (.int y5.1))) (va_runV (As := [.int y4, .ref (g 5)]) (rest := [.int y2]) G9 (k_X6_look_5 l D o cI cZ g H.size s18_ y4 y5 h9_) (cwV 2 hts gX6_letPoetsWrite_X6_look rfl rfl rfl (by decide +kernel) ⟨Nat.le_of_ble_eq_true rfl, Nat.le_of_ble_eq_true rfl⟩) (mg_preV hK hO hA hw (q0 := 0) rfl rfl) rfl rfl hl.1 rfl (lv_room (Nat.le_of_ble_eq_true rfl)) dX6_letPoetsWrite_42 ⟨Nat.zero_le _, Nat.zero_le _⟩) hw hA (fun H locs hw => ?_)
          clear h9_
          refine lv_iconst (v := 5) hx hb dX6_letPoetsWrite_45 (by decide) ?_
          refine lv_idiv hx hb dX6_letPoetsWrite_46 (by decide) ?_
          refine lv_imul hx hb dX6_letPoetsWrite_47 ?_
          refine lv_istore (lv' := [(5, .int (y2 * (y5.1 / 5))), (0, .ref (g 0)), (1, .ref (g 5)), (2, .int x2_18), (3, .int y2), (4, .int x4_18)]) hx hb dX6_letPoetsWrite_48 hl (by decide) rfl (fun ls hl => ?_)
          refine lv_aload_n hx hb dX6_letPoetsWrite_50 rfl (lv_at hl 2 rfl) ?_
          refine lv_iload hx hb dX6_letPoetsWrite_51 (lv_at hl 5 rfl) ?_
          refine lv_iload hx hb dX6_letPoetsWrite_53 (lv_at hl 0 rfl) ?_
          obtain ⟨y6, h9_, h⟩ := mg_bind h
          refine mg_k (rv := none) (va_runV (As := [.int x4_18, .int (y2 * (y5.1 / 5))]) (rest := []) G9 (k_X0_addWritten_5 l D o cI cZ g H.size y5.2 x4_18 (y2 * (y5.1 / 5)) y6 h9_) (cwV 2 hts gX6_letPoetsWrite_X0_addWritten rfl rfl rfl (by decide +kernel) ⟨Nat.le_of_ble_eq_true rfl, Nat.le_of_ble_eq_true rfl⟩) (mg_preV hK hO hA hw (q0 := 5) rfl rfl) rfl rfl hl.1 rfl (lv_room (Nat.le_of_ble_eq_true rfl)) dX6_letPoetsWrite_55 ⟨Nat.zero_le _, Nat.zero_le _⟩) hw hA (fun H locs hw => ?_)
          clear h9_
          refine lv_iload_n hx hb dX6_letPoetsWrite_58 rfl (lv_at hl 3 rfl) ?_
          refine lv_iload hx hb dX6_letPoetsWrite_59 (lv_at hl 0 rfl) ?_
          refine lv_iadd hx hb dX6_letPoetsWrite_61 ?_
          refine lv_istore_n (lv' := [(2, .int (x2_18 + (y2 * (y5.1 / 5)))), (5, .int (y2 * (y5.1 / 5))), (0, .ref (g 0)), (1, .ref (g 5)), (3, .int y2), (4, .int x4_18)]) hx hb dX6_letPoetsWrite_62 rfl hl (by decide) rfl (fun ls hl => ?_)
          refine lv_iinc (v := (x4_18 + 1)) (lv' := [(4, .int (x4_18 + 1)), (2, .int (x2_18 + (y2 * (y5.1 / 5)))), (5, .int (y2 * (y5.1 / 5))), (0, .ref (g 0)), (1, .ref (g 5)), (3, .int y2)]) hx hb dX6_letPoetsWrite_63 hl (k := 5) rfl rfl (by decide) rfl (fun ls hl => ?_)
          refine lv_goto (tgt := 18) hx hb dX6_letPoetsWrite_66 (by decide) ?_
          exact ih _ _ _ _ h kc H locs ls hw (lv_sub hl [3, 4, 1, 5, 0] rfl)
    obtain ⟨y3, h9_, h⟩ := mg_bind h
    refine L18_ _ _ _ _ _ h9_ (fun H locs ls hw hl => ?_) H locs ls hw (lv_sub hl [2, 3, 4, 1, 0] rfl)
    clear L18_ h9_
    refine lv_iload_n hx hb dX6_letPoetsWrite_69 rfl (lv_at hl 2 rfl) ?_
    cases h
    exact mg_eI hx hb hr hlocks hw (Nat.zero_le _) (Nat.zero_le _) dX6_letPoetsWrite_70
  clear h
  have h := h9_
  clear h9_
  refine mg_if_eq (tgt := 13) hx hb h dX6_letPoetsWrite_6 (by decide) (fun h => ?_) (fun h => ?_)
  · refine lv_iconst (v := 1) hx hb dX6_letPoetsWrite_13 (by decide) ?_
    cases h
    exact J6_ H locs ls hw (lv_sub hl [1, 2, 0] rfl)
  · refine lv_iconst (v := 2) hx hb dX6_letPoetsWrite_9 (by decide) ?_
    refine lv_goto (tgt := 14) hx hb dX6_letPoetsWrite_10 (by decide) ?_
    cases h
    exact J6_ H locs ls hw (lv_sub hl [1, 2, 0] rfl)
set_option maxHeartbeats 4000000 in
set_option maxRecDepth 100000 in
theorem k_X6_letPoetsWrite_6 (l : Launch) (D : va_G) (o : Nat → Nat) (cI cZ : ClassId) (g : Nat → Nat) (sz : Nat) (σ : mg_St)  (y : (Int32 × mg_St)) (h : f_X6_letPoetsWrite σ 6  = some y) : mg_CT l yX6_letPoetsWrite wsX6_letPoetsWrite ({ frames := 4, cells := 0, slots := 0, locals := 93 } : Room) D [(cI, .int), (cZ, .boolean)] o (mg_cW g cI cZ σ) sz [.ref (g 0), .ref (g 6)] (some (.int y.1)) (mg_cW g cI cZ y.2) 0 0 := by
  unfold mg_CT
  refine Met.ofW (cc := cX6_letPoetsWrite) (maxL := 6) (ret := (some .int)) (by decide) rfl ?_
  intro p e s m args below meth c s₁ B hml hv
  obtain ⟨rfl, hsz, hP, hK, hD0, hO⟩ := hv
  have hx := B.exec
  have hb := B.bytes
  have hr := B.returns
  have hts := atoms_spec (ws := wsX6_letPoetsWrite) B.pre
  have hown : s.vm.findClass RX6 = some m.cls := findClass_of_methodNamed B.named
  have hlocks := B.notSynchronized
  subst hsz
  have hD := hD0.self (sz := s.heap.size)
  generalize hAe : va_A (mg_cW g cI cZ σ) s.heap.size = A at hD hO ⊢
  have hA : ∀ q : Nat, s.heap.size ≤ q → A q := fun q h => by rw [← hAe]; exact Or.inr h
  have hw : mg_Wo D A s.heap s.heap [] (mg_cW g cI cZ σ) := ⟨hP, hD, va_S.rf⟩
  have G9 : CallFix p m c cX6_letPoetsWrite 6 s ([.ref (g 0), .ref (g 6)] : List Value).toArray wsX6_letPoetsWrite RX6 := ⟨hx, hb, hml, hown, hts⟩
  clear hP hD hD0 hAe
  obtain ⟨H, hHe⟩ : ∃ H : Heap, H = s.heap := ⟨_, rfl⟩
  have w0_ := hts (.fieldLink RX6 33 "MoonGate" "poets" "LMoonGate$Poets;") (by decide +kernel)
  have iX6_ : ∀ w ∈ wsX60, w ∈ wsX6_letPoetsWrite := (fun _ h => List.mem_cons_of_mem _ (List.mem_append_left _ (List.mem_append_left _ (List.mem_append_left _ (List.mem_append_left _ (List.mem_append_left _ (List.mem_append_left _ (List.mem_append_right _ h))))))))
  have w2_ := hts (.fieldLink RX6 200 "MoonGate$Poets" "many" "I") (by decide +kernel)
  have iX3_ : ∀ w ∈ wsX30, w ∈ wsX6_letPoetsWrite := (fun _ h => List.mem_cons_of_mem _ (List.mem_append_left _ (List.mem_append_left _ (List.mem_append_left _ (List.mem_append_left _ (List.mem_append_left _ (List.mem_append_right _ h)))))))
  have hl := lv_entry ([.ref (g 0), .ref (g 6)]) (n := 6) (Nat.le_of_ble_eq_true rfl)
  rw [lg_entry_eq]
  generalize (lg_sl ([.ref (g 0), .ref (g 6)]) ++ List.replicate (6 - (lg_sl ([.ref (g 0), .ref (g 6)])).length) Slot.unset).toArray = ls at hl ⊢
  have hl : lv_has ls 6 [(0, .ref (g 0)), (1, .ref (g 6))] := hl
  unfold f_X6_letPoetsWrite at h
  revert hw
  intro hw
  suffices K_ : ∀ (H : Heap) (locs : List Loc), mg_Wo D A s.heap H locs (mg_cW g cI cZ σ) → W p l e (headSpec wsX6_letPoetsWrite ({ frames := 4, cells := 0, slots := 0, locals := 93 } : Room)).room s m ([.ref (g 0), .ref (g 6)] : List Value).toArray below meth c H locs 0 0 (MQ below (mg_Q D (mg_cW g cI cZ y.2) A (some (.int y.1))) ([.ref (g 0), .ref (g 6)] : List Value).toArray s 0 0 A) (F0 m 0 ls []) from K_ _ _ hw
  clear hw hHe H
  intro H locs hw
  refine lv_iconst (v := 0) hx hb dX6_letPoetsWrite_0 (by decide) ?_
  refine lv_istore_n (lv' := [(2, .int 0), (0, .ref (g 0)), (1, .ref (g 6))]) hx hb dX6_letPoetsWrite_1 rfl hl (by decide) rfl (fun ls hl => ?_)
  refine lv_aload_n hx hb dX6_letPoetsWrite_2 rfl (lv_at hl 2 rfl) ?_
  obtain ⟨y1, h9_, h⟩ := mg_bind h
  refine mg_k (rv := (some (.int y1))) (va_runV (As := []) (rest := []) G9 (k_X0_isFullMoon_6 l D o cI cZ g H.size σ  y1 h9_) (cwV 0 hts gX6_letPoetsWrite_X0_isFullMoon rfl rfl rfl (by decide +kernel) ⟨Nat.le_of_ble_eq_true rfl, Nat.le_of_ble_eq_true rfl⟩) (mg_preV hK hO hA hw (q0 := 6) rfl rfl) rfl rfl hl.1 rfl (lv_room (Nat.le_of_ble_eq_true rfl)) dX6_letPoetsWrite_3 ⟨Nat.zero_le _, Nat.zero_le _⟩) hw hA (fun H locs hw => ?_)
  clear h9_
  obtain ⟨y2, h9_, h⟩ := mg_bind h
  have J6_ : ∀ (H : Heap) (locs : List Loc) (ls : Array Slot), mg_Wo D A s.heap H locs (mg_cW g cI cZ σ) → lv_has ls 6 [(0, .ref (g 0)), (1, .ref (g 6)), (2, .int 0)] → W p l e (headSpec wsX6_letPoetsWrite ({ frames := 4, cells := 0, slots := 0, locals := 93 } : Room)).room s m ([.ref (g 0), .ref (g 6)] : List Value).toArray below meth c H locs 0 0 (MQ below (mg_Q D (mg_cW g cI cZ y.2) A (some (.int y.1))) ([.ref (g 0), .ref (g 6)] : List Value).toArray s 0 0 A) (F0 m 14 ls [.int y2]) := by
    intro H locs ls hw hl
    clear h9_
    refine lv_istore_n (lv' := [(3, .int y2), (0, .ref (g 0)), (1, .ref (g 6)), (2, .int 0)]) hx hb dX6_letPoetsWrite_14 rfl hl (by decide) rfl (fun ls hl => ?_)
    refine lv_iconst (v := 0) hx hb dX6_letPoetsWrite_15 (by decide) ?_
    refine lv_istore (lv' := [(4, .int 0), (3, .int y2), (0, .ref (g 0)), (1, .ref (g 6)), (2, .int 0)]) hx hb dX6_letPoetsWrite_16 hl (by decide) rfl (fun ls hl => ?_)
    have L18_ : ∀ (n : Nat) (x2_18 : Int32) (x4_18 : Int32) (s18_ : mg_St) (y18_ : Int32 × Int32 × mg_St), f_X6_letPoetsWrite_18 6 y2 n x2_18 x4_18 s18_ = some y18_ → (∀ (H : Heap) (locs : List Loc) (ls : Array Slot), mg_Wo D A s.heap H locs (mg_cW g cI cZ y18_.2.2) → lv_has ls 6 [(0, .ref (g 0)), (1, .ref (g 6)), (2, .int y18_.1), (3, .int y2), (4, .int y18_.2.1)] → W p l e (headSpec wsX6_letPoetsWrite ({ frames := 4, cells := 0, slots := 0, locals := 93 } : Room)).room s m ([.ref (g 0), .ref (g 6)] : List Value).toArray below meth c H locs 0 0 (MQ below (mg_Q D (mg_cW g cI cZ y.2) A (some (.int y.1))) ([.ref (g 0), .ref (g 6)] : List Value).toArray s 0 0 A) (F0 m 69 ls [])) → ∀ (H : Heap) (locs : List Loc) (ls : Array Slot), mg_Wo D A s.heap H locs (mg_cW g cI cZ s18_) → lv_has ls 6 [(0, .ref (g 0)), (1, .ref (g 6)), (2, .int x2_18), (3, .int y2), (4, .int x4_18)] → W p l e (headSpec wsX6_letPoetsWrite ({ frames := 4, cells := 0, slots := 0, locals := 93 } : Room)).room s m ([.ref (g 0), .ref (g 6)] : List Value).toArray below meth c H locs 0 0 (MQ below (mg_Q D (mg_cW g cI cZ y.2) A (some (.int y.1))) ([.ref (g 0), .ref (g 6)] : List Value).toArray s 0 0 A) (F0 m 18 ls []) := by
      intro n
      induction n with
      | zero => intro x2_18 x4_18 s18_ y18_ h; rw [f_X6_letPoetsWrite_18] at h; cases h
      | succ n ih =>
        intro x2_18 x4_18 s18_ y18_ h kc H locs ls hw hl
        rw [f_X6_letPoetsWrite_18] at h
        refine lv_iload hx hb dX6_letPoetsWrite_18 (lv_at hl 4 rfl) ?_
        refine lv_aload_n hx hb dX6_letPoetsWrite_20 rfl (lv_at hl 0 rfl) ?_
        refine va_get (D := D) (ci := 6) (v := .ref (g 4)) (C := RX6) (T := TX6) (N := 7) hx hb hts iX6_ hown hK hw.1 0 rfl rfl 3 (by decide) w0_ (fun _ h9 => h9) rfl dX6_letPoetsWrite_21 ?_
        refine va_get (D := D) (ci := 3) (v := .int (s18_ 4 1)) (C := RX3) (T := TX3) (N := 2) hx hb hts iX3_ hown hK hw.1 4 rfl rfl 1 (by decide) w2_ (fun _ h9 => h9) rfl dX6_letPoetsWrite_24 ?_
        refine mg_icmp_ge (tgt := 69) hx hb h dX6_letPoetsWrite_27 (by decide) (fun h => ?_) (fun h => ?_)
        · cases h
          exact kc H locs ls hw (lv_sub hl [0, 1, 2, 3, 4] rfl)
        · refine lv_iload_n hx hb dX6_letPoetsWrite_30 rfl (lv_at hl 3 rfl) ?_
          refine lv_aload_n hx hb dX6_letPoetsWrite_31 rfl (lv_at hl 0 rfl) ?_
          refine lv_aload_n hx hb dX6_letPoetsWrite_32 rfl (lv_at hl 0 rfl) ?_
          refine va_get (D := D) (ci := 6) (v := .ref (g 4)) (C := RX6) (T := TX6) (N := 7) hx hb hts iX6_ hown hK hw.1 0 rfl rfl 3 (by decide) w0_ (fun _ h9 => h9) rfl dX6_letPoetsWrite_33 ?_
          refine lv_iload hx hb dX6_letPoetsWrite_36 (lv_at hl 4 rfl) ?_
          obtain ⟨y4, h9_, h⟩ := mg_bind h
          refine mg_k (rv := (some (.int y4))) (va_runV (As := [.int x4_18]) (rest := [.ref (g 0), .int y2]) G9 (k_X3_gateOf l D o cI cZ g H.size s18_ x4_18 y4 h9_) (cwV 1 hts gX6_letPoetsWrite_X3_gateOf rfl rfl rfl (by decide +kernel) ⟨Nat.le_of_ble_eq_true rfl, Nat.le_of_ble_eq_true rfl⟩) (mg_preV hK hO hA hw (q0 := 4) rfl rfl) rfl rfl hl.1 rfl (lv_room (Nat.le_of_ble_eq_true rfl)) dX6_letPoetsWrite_38 ⟨Nat.zero_le _, Nat.zero_le _⟩) hw hA (fun H locs hw => ?_)
          clear h9_
          refine lv_aload_n hx hb dX6_letPoetsWrite_41 rfl (lv_at hl 1 rfl) ?_
          obtain ⟨y5, h9_, h⟩ := mg_bind h
          refine mg_k (rv := (some (.int y5.1))) (va_runV (As := [.int y4, .ref (g 6)]) (rest := [.int y2]) G9 (k_X6_look_6 l D o cI cZ g H.size s18_ y4 y5 h9_) (cwV 2 hts gX6_letPoetsWrite_X6_look rfl rfl rfl (by decide +kernel) ⟨Nat.le_of_ble_eq_true rfl, Nat.le_of_ble_eq_true rfl⟩) (mg_preV hK hO hA hw (q0 := 0) rfl rfl) rfl rfl hl.1 rfl (lv_room (Nat.le_of_ble_eq_true rfl)) dX6_letPoetsWrite_42 ⟨Nat.zero_le _, Nat.zero_le _⟩) hw hA (fun H locs hw => ?_)
          clear h9_
          refine lv_iconst (v := 5) hx hb dX6_letPoetsWrite_45 (by decide) ?_
          refine lv_idiv hx hb dX6_letPoetsWrite_46 (by decide) ?_
          refine lv_imul hx hb dX6_letPoetsWrite_47 ?_
          refine lv_istore (lv' := [(5, .int (y2 * (y5.1 / 5))), (0, .ref (g 0)), (1, .ref (g 6)), (2, .int x2_18), (3, .int y2), (4, .int x4_18)]) hx hb dX6_letPoetsWrite_48 hl (by decide) rfl (fun ls hl => ?_)
          refine lv_aload_n hx hb dX6_letPoetsWrite_50 rfl (lv_at hl 2 rfl) ?_
          refine lv_iload hx hb dX6_letPoetsWrite_51 (lv_at hl 5 rfl) ?_
          refine lv_iload hx hb dX6_letPoetsWrite_53 (lv_at hl 0 rfl) ?_
          obtain ⟨y6, h9_, h⟩ := mg_bind h
          refine mg_k (rv := none) (va_runV (As := [.int x4_18, .int (y2 * (y5.1 / 5))]) (rest := []) G9 (k_X0_addWritten_6 l D o cI cZ g H.size y5.2 x4_18 (y2 * (y5.1 / 5)) y6 h9_) (cwV 2 hts gX6_letPoetsWrite_X0_addWritten rfl rfl rfl (by decide +kernel) ⟨Nat.le_of_ble_eq_true rfl, Nat.le_of_ble_eq_true rfl⟩) (mg_preV hK hO hA hw (q0 := 6) rfl rfl) rfl rfl hl.1 rfl (lv_room (Nat.le_of_ble_eq_true rfl)) dX6_letPoetsWrite_55 ⟨Nat.zero_le _, Nat.zero_le _⟩) hw hA (fun H locs hw => ?_)
          clear h9_
          refine lv_iload_n hx hb dX6_letPoetsWrite_58 rfl (lv_at hl 3 rfl) ?_
          refine lv_iload hx hb dX6_letPoetsWrite_59 (lv_at hl 0 rfl) ?_
          refine lv_iadd hx hb dX6_letPoetsWrite_61 ?_
          refine lv_istore_n (lv' := [(2, .int (x2_18 + (y2 * (y5.1 / 5)))), (5, .int (y2 * (y5.1 / 5))), (0, .ref (g 0)), (1, .ref (g 6)), (3, .int y2), (4, .int x4_18)]) hx hb dX6_letPoetsWrite_62 rfl hl (by decide) rfl (fun ls hl => ?_)
          refine lv_iinc (v := (x4_18 + 1)) (lv' := [(4, .int (x4_18 + 1)), (2, .int (x2_18 + (y2 * (y5.1 / 5)))), (5, .int (y2 * (y5.1 / 5))), (0, .ref (g 0)), (1, .ref (g 6)), (3, .int y2)]) hx hb dX6_letPoetsWrite_63 hl (k := 5) rfl rfl (by decide) rfl (fun ls hl => ?_)
          refine lv_goto (tgt := 18) hx hb dX6_letPoetsWrite_66 (by decide) ?_
          exact ih _ _ _ _ h kc H locs ls hw (lv_sub hl [3, 4, 1, 5, 0] rfl)
    obtain ⟨y3, h9_, h⟩ := mg_bind h
    refine L18_ _ _ _ _ _ h9_ (fun H locs ls hw hl => ?_) H locs ls hw (lv_sub hl [2, 3, 4, 1, 0] rfl)
    clear L18_ h9_
    refine lv_iload_n hx hb dX6_letPoetsWrite_69 rfl (lv_at hl 2 rfl) ?_
    cases h
    exact mg_eI hx hb hr hlocks hw (Nat.zero_le _) (Nat.zero_le _) dX6_letPoetsWrite_70
  clear h
  have h := h9_
  clear h9_
  refine mg_if_eq (tgt := 13) hx hb h dX6_letPoetsWrite_6 (by decide) (fun h => ?_) (fun h => ?_)
  · refine lv_iconst (v := 1) hx hb dX6_letPoetsWrite_13 (by decide) ?_
    cases h
    exact J6_ H locs ls hw (lv_sub hl [1, 2, 0] rfl)
  · refine lv_iconst (v := 2) hx hb dX6_letPoetsWrite_9 (by decide) ?_
    refine lv_goto (tgt := 14) hx hb dX6_letPoetsWrite_10 (by decide) ?_
    cases h
    exact J6_ H locs ls hw (lv_sub hl [1, 2, 0] rfl)
set_option maxHeartbeats 4000000 in
set_option maxRecDepth 100000 in
theorem k_X6_letPass_5 (l : Launch) (D : va_G) (o : Nat → Nat) (cI cZ : ClassId) (g : Nat → Nat) (sz : Nat) (σ : mg_St) (x1 : Int32) (y : (Int32 × mg_St)) (h : f_X6_letPass σ 5 x1 = some y) : mg_CT l yX6_letPass wsX6_letPass ({ frames := 5, cells := 0, slots := 0, locals := 118 } : Room) D [(cI, .int), (cZ, .boolean)] o (mg_cW g cI cZ σ) sz [.ref (g 0), .int x1, .ref (g 5)] (some (.int y.1)) (mg_cW g cI cZ y.2) 0 0 := by
  unfold mg_CT
  refine Met.ofW (cc := cX6_letPass) (maxL := 6) (ret := (some .int)) (by decide) rfl ?_
  intro p e s m args below meth c s₁ B hml hv
  obtain ⟨rfl, hsz, hP, hK, hD0, hO⟩ := hv
  have hx := B.exec
  have hb := B.bytes
  have hr := B.returns
  have hts := atoms_spec (ws := wsX6_letPass) B.pre
  have hown : s.vm.findClass RX6 = some m.cls := findClass_of_methodNamed B.named
  have hlocks := B.notSynchronized
  subst hsz
  have hD := hD0.self (sz := s.heap.size)
  generalize hAe : va_A (mg_cW g cI cZ σ) s.heap.size = A at hD hO ⊢
  have hA : ∀ q : Nat, s.heap.size ≤ q → A q := fun q h => by rw [← hAe]; exact Or.inr h
  have hw : mg_Wo D A s.heap s.heap [] (mg_cW g cI cZ σ) := ⟨hP, hD, va_S.rf⟩
  have G9 : CallFix p m c cX6_letPass 6 s ([.ref (g 0), .int x1, .ref (g 5)] : List Value).toArray wsX6_letPass RX6 := ⟨hx, hb, hml, hown, hts⟩
  clear hP hD hD0 hAe
  obtain ⟨H, hHe⟩ : ∃ H : Heap, H = s.heap := ⟨_, rfl⟩
  have w0_ := hts (.fieldLink RX6 76 "MoonGate$Course" "coins" "I") (by decide +kernel)
  have iX0_ : ∀ w ∈ wsX00, w ∈ wsX6_letPass := (fun _ h => List.mem_cons_of_mem _ (List.mem_append_left _ (List.mem_append_left _ (List.mem_append_left _ (List.mem_append_left _ (List.mem_append_left _ (List.mem_append_left _ (List.mem_append_right _ h))))))))
  have w2_ := hts (.fieldLink RX6 216 "MoonGate$Course" "day" "I") (by decide +kernel)
  have hl := lv_entry ([.ref (g 0), .int x1, .ref (g 5)]) (n := 6) (Nat.le_of_ble_eq_true rfl)
  rw [lg_entry_eq]
  generalize (lg_sl ([.ref (g 0), .int x1, .ref (g 5)]) ++ List.replicate (6 - (lg_sl ([.ref (g 0), .int x1, .ref (g 5)])).length) Slot.unset).toArray = ls at hl ⊢
  have hl : lv_has ls 6 [(0, .ref (g 0)), (1, .int x1), (2, .ref (g 5))] := hl
  unfold f_X6_letPass at h
  revert hw
  intro hw
  suffices K_ : ∀ (H : Heap) (locs : List Loc), mg_Wo D A s.heap H locs (mg_cW g cI cZ σ) → W p l e (headSpec wsX6_letPass ({ frames := 5, cells := 0, slots := 0, locals := 118 } : Room)).room s m ([.ref (g 0), .int x1, .ref (g 5)] : List Value).toArray below meth c H locs 0 0 (MQ below (mg_Q D (mg_cW g cI cZ y.2) A (some (.int y.1))) ([.ref (g 0), .int x1, .ref (g 5)] : List Value).toArray s 0 0 A) (F0 m 0 ls []) from K_ _ _ hw
  clear hw hHe H
  intro H locs hw
  refine lv_iconst (v := 0) hx hb dX6_letPass_0 (by decide) ?_
  refine lv_istore_n (lv' := [(3, .int 0), (0, .ref (g 0)), (1, .int x1), (2, .ref (g 5))]) hx hb dX6_letPass_1 rfl hl (by decide) rfl (fun ls hl => ?_)
  refine lv_iconst (v := 0) hx hb dX6_letPass_2 (by decide) ?_
  refine lv_istore (lv' := [(4, .int 0), (3, .int 0), (0, .ref (g 0)), (1, .int x1), (2, .ref (g 5))]) hx hb dX6_letPass_3 hl (by decide) rfl (fun ls hl => ?_)
  have L5_ : ∀ (n : Nat) (x3_5 : Int32) (x4_5 : Int32) (s5_ : mg_St) (y5_ : Int32 × Int32 × mg_St), f_X6_letPass_5 5 x1 n x3_5 x4_5 s5_ = some y5_ → (∀ (H : Heap) (locs : List Loc) (ls : Array Slot), mg_Wo D A s.heap H locs (mg_cW g cI cZ y5_.2.2) → lv_has ls 6 [(0, .ref (g 0)), (1, .int x1), (2, .ref (g 5)), (3, .int y5_.1), (4, .int y5_.2.1)] → W p l e (headSpec wsX6_letPass ({ frames := 5, cells := 0, slots := 0, locals := 118 } : Room)).room s m ([.ref (g 0), .int x1, .ref (g 5)] : List Value).toArray below meth c H locs 0 0 (MQ below (mg_Q D (mg_cW g cI cZ y.2) A (some (.int y.1))) ([.ref (g 0), .int x1, .ref (g 5)] : List Value).toArray s 0 0 A) (F0 m 58 ls [])) → ∀ (H : Heap) (locs : List Loc) (ls : Array Slot), mg_Wo D A s.heap H locs (mg_cW g cI cZ s5_) → lv_has ls 6 [(0, .ref (g 0)), (1, .int x1), (2, .ref (g 5)), (3, .int x3_5), (4, .int x4_5)] → W p l e (headSpec wsX6_letPass ({ frames := 5, cells := 0, slots := 0, locals := 118 } : Room)).room s m ([.ref (g 0), .int x1, .ref (g 5)] : List Value).toArray below meth c H locs 0 0 (MQ below (mg_Q D (mg_cW g cI cZ y.2) A (some (.int y.1))) ([.ref (g 0), .int x1, .ref (g 5)] : List Value).toArray s 0 0 A) (F0 m 5 ls []) := by
    intro n
    induction n with
    | zero => intro x3_5 x4_5 s5_ y5_ h; rw [f_X6_letPass_5] at h; cases h
    | succ n ih =>
      intro x3_5 x4_5 s5_ y5_ h kc H locs ls hw hl
      rw [f_X6_letPass_5] at h
      refine lv_iload hx hb dX6_letPass_5 (lv_at hl 4 rfl) ?_
      refine lv_iload_n hx hb dX6_letPass_7 rfl (lv_at hl 1 rfl) ?_
      refine mg_icmp_ge (tgt := 58) hx hb h dX6_letPass_8 (by decide) (fun h => ?_) (fun h => ?_)
      · cases h
        exact kc H locs ls hw (lv_sub hl [0, 1, 2, 3, 4] rfl)
      · refine lv_aload_n hx hb dX6_letPass_11 rfl (lv_at hl 0 rfl) ?_
        refine lv_aload_n hx hb dX6_letPass_12 rfl (lv_at hl 2 rfl) ?_
        obtain ⟨y2, h9_, h⟩ := mg_bind h
        refine mg_k (rv := none) (va_runV (As := [.ref (g 5)]) (rest := []) G9 (k_X6_letCarpsGrow_5 l D o cI cZ g H.size s5_  y2 h9_) (cwV 1 hts gX6_letPass_X6_letCarpsGrow rfl rfl rfl (by decide +kernel) ⟨Nat.le_of_ble_eq_true rfl, Nat.le_of_ble_eq_true rfl⟩) (mg_preV hK hO hA hw (q0 := 0) rfl rfl) rfl rfl hl.1 rfl (lv_room (Nat.le_of_ble_eq_true rfl)) dX6_letPass_13 ⟨Nat.zero_le _, Nat.zero_le _⟩) hw hA (fun H locs hw => ?_)
        clear h9_
        refine lv_aload_n hx hb dX6_letPass_16 rfl (lv_at hl 0 rfl) ?_
        refine lv_aload_n hx hb dX6_letPass_17 rfl (lv_at hl 2 rfl) ?_
        obtain ⟨y3, h9_, h⟩ := mg_bind h
        refine mg_k (rv := (some (.int y3.1))) (va_runV (As := [.ref (g 5)]) (rest := []) G9 (k_X6_letPoetsWrite_5 l D o cI cZ g H.size y2  y3 h9_) (cwV 1 hts gX6_letPass_X6_letPoetsWrite rfl rfl rfl (by decide +kernel) ⟨Nat.le_of_ble_eq_true rfl, Nat.le_of_ble_eq_true rfl⟩) (mg_preV hK hO hA hw (q0 := 0) rfl rfl) rfl rfl hl.1 rfl (lv_room (Nat.le_of_ble_eq_true rfl)) dX6_letPass_18 ⟨Nat.zero_le _, Nat.zero_le _⟩) hw hA (fun H locs hw => ?_)
        clear h9_
        refine lv_istore (lv' := [(5, .int y3.1), (0, .ref (g 0)), (1, .int x1), (2, .ref (g 5)), (3, .int x3_5), (4, .int x4_5)]) hx hb dX6_letPass_21 hl (by decide) rfl (fun ls hl => ?_)
        refine lv_aload_n hx hb dX6_letPass_23 rfl (lv_at hl 3 rfl) ?_
        refine lv_dup hx hb dX6_letPass_24 rfl ?_
        refine va_get (D := D) (ci := 0) (v := .int (y3.2 5 1)) (C := RX0) (T := TX0) (N := 4) hx hb hts iX0_ hown hK hw.1 5 rfl rfl 1 (by decide) w0_ (fun _ h9 => h9) rfl dX6_letPass_25 ?_
        refine lv_iload hx hb dX6_letPass_28 (lv_at hl 0 rfl) ?_
        refine lv_bipush (v := 10) hx hb dX6_letPass_30 (by decide) ?_
        refine lv_idiv hx hb dX6_letPass_32 (by decide) ?_
        refine lv_iadd hx hb dX6_letPass_33 ?_
        refine mg_put (wd := mg_cW g cI cZ) (σ := y3.2) (v := ((y3.2 5 1) + (y3.1 / 10))) (ci := 0) (C := RX0) (T := TX0) (N := 4) hx hb hts iX0_ tyX0 tyX0_ok nmX0 hown hK hw 5 5 rfl rfl 1 (by decide) w0_ (fun _ h9 => h9) rfl (by decide +kernel) (Nat.le_of_ble_eq_true rfl) rfl dX6_letPass_34 (fun H locs hw => ?_)
        refine lv_aload_n hx hb dX6_letPass_37 rfl (lv_at hl 3 rfl) ?_
        refine lv_dup hx hb dX6_letPass_38 rfl ?_
        refine va_get (D := D) (ci := 0) (v := .int ((mg_su y3.2 5 1 ((y3.2 5 1) + (y3.1 / 10))) 5 0)) (C := RX0) (T := TX0) (N := 4) hx hb hts iX0_ hown hK hw.1 5 rfl rfl 0 (by decide) w2_ (fun _ h9 => h9) rfl dX6_letPass_39 ?_
        refine lv_iconst (v := 1) hx hb dX6_letPass_42 (by decide) ?_
        refine lv_iadd hx hb dX6_letPass_43 ?_
        refine mg_put (wd := mg_cW g cI cZ) (σ := (mg_su y3.2 5 1 ((y3.2 5 1) + (y3.1 / 10)))) (v := (((mg_su y3.2 5 1 ((y3.2 5 1) + (y3.1 / 10))) 5 0) + 1)) (ci := 0) (C := RX0) (T := TX0) (N := 4) hx hb hts iX0_ tyX0 tyX0_ok nmX0 hown hK hw 5 5 rfl rfl 0 (by decide) w2_ (fun _ h9 => h9) rfl (by decide +kernel) (Nat.le_of_ble_eq_true rfl) rfl dX6_letPass_44 (fun H locs hw => ?_)
        refine lv_iload_n hx hb dX6_letPass_47 rfl (lv_at hl 4 rfl) ?_
        refine lv_iload hx hb dX6_letPass_48 (lv_at hl 0 rfl) ?_
        refine lv_iadd hx hb dX6_letPass_50 ?_
        refine lv_istore_n (lv' := [(3, .int (x3_5 + y3.1)), (5, .int y3.1), (0, .ref (g 0)), (1, .int x1), (2, .ref (g 5)), (4, .int x4_5)]) hx hb dX6_letPass_51 rfl hl (by decide) rfl (fun ls hl => ?_)
        refine lv_iinc (v := (x4_5 + 1)) (lv' := [(4, .int (x4_5 + 1)), (3, .int (x3_5 + y3.1)), (5, .int y3.1), (0, .ref (g 0)), (1, .int x1), (2, .ref (g 5))]) hx hb dX6_letPass_52 hl (k := 5) rfl rfl (by decide) rfl (fun ls hl => ?_)
        refine lv_goto (tgt := 5) hx hb dX6_letPass_55 (by decide) ?_
        exact ih _ _ _ _ h kc H locs ls hw (lv_sub hl [3, 4, 5, 1, 0] rfl)
  obtain ⟨y1, h9_, h⟩ := mg_bind h
  refine L5_ _ _ _ _ _ h9_ (fun H locs ls hw hl => ?_) H locs ls hw (lv_sub hl [2, 3, 4, 1, 0] rfl)
  clear L5_ h9_
  refine lv_iload_n hx hb dX6_letPass_58 rfl (lv_at hl 3 rfl) ?_
  cases h
  exact mg_eI hx hb hr hlocks hw (Nat.zero_le _) (Nat.zero_le _) dX6_letPass_59
set_option maxHeartbeats 4000000 in
set_option maxRecDepth 100000 in
theorem k_X6_letPass_6 (l : Launch) (D : va_G) (o : Nat → Nat) (cI cZ : ClassId) (g : Nat → Nat) (sz : Nat) (σ : mg_St) (x1 : Int32) (y : (Int32 × mg_St)) (h : f_X6_letPass σ 6 x1 = some y) : mg_CT l yX6_letPass wsX6_letPass ({ frames := 5, cells := 0, slots := 0, locals := 118 } : Room) D [(cI, .int), (cZ, .boolean)] o (mg_cW g cI cZ σ) sz [.ref (g 0), .int x1, .ref (g 6)] (some (.int y.1)) (mg_cW g cI cZ y.2) 0 0 := by
  unfold mg_CT
  refine Met.ofW (cc := cX6_letPass) (maxL := 6) (ret := (some .int)) (by decide) rfl ?_
  intro p e s m args below meth c s₁ B hml hv
  obtain ⟨rfl, hsz, hP, hK, hD0, hO⟩ := hv
  have hx := B.exec
  have hb := B.bytes
  have hr := B.returns
  have hts := atoms_spec (ws := wsX6_letPass) B.pre
  have hown : s.vm.findClass RX6 = some m.cls := findClass_of_methodNamed B.named
  have hlocks := B.notSynchronized
  subst hsz
  have hD := hD0.self (sz := s.heap.size)
  generalize hAe : va_A (mg_cW g cI cZ σ) s.heap.size = A at hD hO ⊢
  have hA : ∀ q : Nat, s.heap.size ≤ q → A q := fun q h => by rw [← hAe]; exact Or.inr h
  have hw : mg_Wo D A s.heap s.heap [] (mg_cW g cI cZ σ) := ⟨hP, hD, va_S.rf⟩
  have G9 : CallFix p m c cX6_letPass 6 s ([.ref (g 0), .int x1, .ref (g 6)] : List Value).toArray wsX6_letPass RX6 := ⟨hx, hb, hml, hown, hts⟩
  clear hP hD hD0 hAe
  obtain ⟨H, hHe⟩ : ∃ H : Heap, H = s.heap := ⟨_, rfl⟩
  have w0_ := hts (.fieldLink RX6 76 "MoonGate$Course" "coins" "I") (by decide +kernel)
  have iX0_ : ∀ w ∈ wsX00, w ∈ wsX6_letPass := (fun _ h => List.mem_cons_of_mem _ (List.mem_append_left _ (List.mem_append_left _ (List.mem_append_left _ (List.mem_append_left _ (List.mem_append_left _ (List.mem_append_left _ (List.mem_append_right _ h))))))))
  have w2_ := hts (.fieldLink RX6 216 "MoonGate$Course" "day" "I") (by decide +kernel)
  have hl := lv_entry ([.ref (g 0), .int x1, .ref (g 6)]) (n := 6) (Nat.le_of_ble_eq_true rfl)
  rw [lg_entry_eq]
  generalize (lg_sl ([.ref (g 0), .int x1, .ref (g 6)]) ++ List.replicate (6 - (lg_sl ([.ref (g 0), .int x1, .ref (g 6)])).length) Slot.unset).toArray = ls at hl ⊢
  have hl : lv_has ls 6 [(0, .ref (g 0)), (1, .int x1), (2, .ref (g 6))] := hl
  unfold f_X6_letPass at h
  revert hw
  intro hw
  suffices K_ : ∀ (H : Heap) (locs : List Loc), mg_Wo D A s.heap H locs (mg_cW g cI cZ σ) → W p l e (headSpec wsX6_letPass ({ frames := 5, cells := 0, slots := 0, locals := 118 } : Room)).room s m ([.ref (g 0), .int x1, .ref (g 6)] : List Value).toArray below meth c H locs 0 0 (MQ below (mg_Q D (mg_cW g cI cZ y.2) A (some (.int y.1))) ([.ref (g 0), .int x1, .ref (g 6)] : List Value).toArray s 0 0 A) (F0 m 0 ls []) from K_ _ _ hw
  clear hw hHe H
  intro H locs hw
  refine lv_iconst (v := 0) hx hb dX6_letPass_0 (by decide) ?_
  refine lv_istore_n (lv' := [(3, .int 0), (0, .ref (g 0)), (1, .int x1), (2, .ref (g 6))]) hx hb dX6_letPass_1 rfl hl (by decide) rfl (fun ls hl => ?_)
  refine lv_iconst (v := 0) hx hb dX6_letPass_2 (by decide) ?_
  refine lv_istore (lv' := [(4, .int 0), (3, .int 0), (0, .ref (g 0)), (1, .int x1), (2, .ref (g 6))]) hx hb dX6_letPass_3 hl (by decide) rfl (fun ls hl => ?_)
  have L5_ : ∀ (n : Nat) (x3_5 : Int32) (x4_5 : Int32) (s5_ : mg_St) (y5_ : Int32 × Int32 × mg_St), f_X6_letPass_5 6 x1 n x3_5 x4_5 s5_ = some y5_ → (∀ (H : Heap) (locs : List Loc) (ls : Array Slot), mg_Wo D A s.heap H locs (mg_cW g cI cZ y5_.2.2) → lv_has ls 6 [(0, .ref (g 0)), (1, .int x1), (2, .ref (g 6)), (3, .int y5_.1), (4, .int y5_.2.1)] → W p l e (headSpec wsX6_letPass ({ frames := 5, cells := 0, slots := 0, locals := 118 } : Room)).room s m ([.ref (g 0), .int x1, .ref (g 6)] : List Value).toArray below meth c H locs 0 0 (MQ below (mg_Q D (mg_cW g cI cZ y.2) A (some (.int y.1))) ([.ref (g 0), .int x1, .ref (g 6)] : List Value).toArray s 0 0 A) (F0 m 58 ls [])) → ∀ (H : Heap) (locs : List Loc) (ls : Array Slot), mg_Wo D A s.heap H locs (mg_cW g cI cZ s5_) → lv_has ls 6 [(0, .ref (g 0)), (1, .int x1), (2, .ref (g 6)), (3, .int x3_5), (4, .int x4_5)] → W p l e (headSpec wsX6_letPass ({ frames := 5, cells := 0, slots := 0, locals := 118 } : Room)).room s m ([.ref (g 0), .int x1, .ref (g 6)] : List Value).toArray below meth c H locs 0 0 (MQ below (mg_Q D (mg_cW g cI cZ y.2) A (some (.int y.1))) ([.ref (g 0), .int x1, .ref (g 6)] : List Value).toArray s 0 0 A) (F0 m 5 ls []) := by
    intro n
    induction n with
    | zero => intro x3_5 x4_5 s5_ y5_ h; rw [f_X6_letPass_5] at h; cases h
    | succ n ih =>
      intro x3_5 x4_5 s5_ y5_ h kc H locs ls hw hl
      rw [f_X6_letPass_5] at h
      refine lv_iload hx hb dX6_letPass_5 (lv_at hl 4 rfl) ?_
      refine lv_iload_n hx hb dX6_letPass_7 rfl (lv_at hl 1 rfl) ?_
      refine mg_icmp_ge (tgt := 58) hx hb h dX6_letPass_8 (by decide) (fun h => ?_) (fun h => ?_)
      · cases h
        exact kc H locs ls hw (lv_sub hl [0, 1, 2, 3, 4] rfl)
      · refine lv_aload_n hx hb dX6_letPass_11 rfl (lv_at hl 0 rfl) ?_
        refine lv_aload_n hx hb dX6_letPass_12 rfl (lv_at hl 2 rfl) ?_
        obtain ⟨y2, h9_, h⟩ := mg_bind h
        refine mg_k (rv := none) (va_runV (As := [.ref (g 6)]) (rest := []) G9 (k_X6_letCarpsGrow_6 l D o cI cZ g H.size s5_  y2 h9_) (cwV 1 hts gX6_letPass_X6_letCarpsGrow rfl rfl rfl (by decide +kernel) ⟨Nat.le_of_ble_eq_true rfl, Nat.le_of_ble_eq_true rfl⟩) (mg_preV hK hO hA hw (q0 := 0) rfl rfl) rfl rfl hl.1 rfl (lv_room (Nat.le_of_ble_eq_true rfl)) dX6_letPass_13 ⟨Nat.zero_le _, Nat.zero_le _⟩) hw hA (fun H locs hw => ?_)
        clear h9_
        refine lv_aload_n hx hb dX6_letPass_16 rfl (lv_at hl 0 rfl) ?_
        refine lv_aload_n hx hb dX6_letPass_17 rfl (lv_at hl 2 rfl) ?_
        obtain ⟨y3, h9_, h⟩ := mg_bind h
        refine mg_k (rv := (some (.int y3.1))) (va_runV (As := [.ref (g 6)]) (rest := []) G9 (k_X6_letPoetsWrite_6 l D o cI cZ g H.size y2  y3 h9_) (cwV 1 hts gX6_letPass_X6_letPoetsWrite rfl rfl rfl (by decide +kernel) ⟨Nat.le_of_ble_eq_true rfl, Nat.le_of_ble_eq_true rfl⟩) (mg_preV hK hO hA hw (q0 := 0) rfl rfl) rfl rfl hl.1 rfl (lv_room (Nat.le_of_ble_eq_true rfl)) dX6_letPass_18 ⟨Nat.zero_le _, Nat.zero_le _⟩) hw hA (fun H locs hw => ?_)
        clear h9_
        refine lv_istore (lv' := [(5, .int y3.1), (0, .ref (g 0)), (1, .int x1), (2, .ref (g 6)), (3, .int x3_5), (4, .int x4_5)]) hx hb dX6_letPass_21 hl (by decide) rfl (fun ls hl => ?_)
        refine lv_aload_n hx hb dX6_letPass_23 rfl (lv_at hl 3 rfl) ?_
        refine lv_dup hx hb dX6_letPass_24 rfl ?_
        refine va_get (D := D) (ci := 0) (v := .int (y3.2 6 1)) (C := RX0) (T := TX0) (N := 4) hx hb hts iX0_ hown hK hw.1 6 rfl rfl 1 (by decide) w0_ (fun _ h9 => h9) rfl dX6_letPass_25 ?_
        refine lv_iload hx hb dX6_letPass_28 (lv_at hl 0 rfl) ?_
        refine lv_bipush (v := 10) hx hb dX6_letPass_30 (by decide) ?_
        refine lv_idiv hx hb dX6_letPass_32 (by decide) ?_
        refine lv_iadd hx hb dX6_letPass_33 ?_
        refine mg_put (wd := mg_cW g cI cZ) (σ := y3.2) (v := ((y3.2 6 1) + (y3.1 / 10))) (ci := 0) (C := RX0) (T := TX0) (N := 4) hx hb hts iX0_ tyX0 tyX0_ok nmX0 hown hK hw 6 6 rfl rfl 1 (by decide) w0_ (fun _ h9 => h9) rfl (by decide +kernel) (Nat.le_of_ble_eq_true rfl) rfl dX6_letPass_34 (fun H locs hw => ?_)
        refine lv_aload_n hx hb dX6_letPass_37 rfl (lv_at hl 3 rfl) ?_
        refine lv_dup hx hb dX6_letPass_38 rfl ?_
        refine va_get (D := D) (ci := 0) (v := .int ((mg_su y3.2 6 1 ((y3.2 6 1) + (y3.1 / 10))) 6 0)) (C := RX0) (T := TX0) (N := 4) hx hb hts iX0_ hown hK hw.1 6 rfl rfl 0 (by decide) w2_ (fun _ h9 => h9) rfl dX6_letPass_39 ?_
        refine lv_iconst (v := 1) hx hb dX6_letPass_42 (by decide) ?_
        refine lv_iadd hx hb dX6_letPass_43 ?_
        refine mg_put (wd := mg_cW g cI cZ) (σ := (mg_su y3.2 6 1 ((y3.2 6 1) + (y3.1 / 10)))) (v := (((mg_su y3.2 6 1 ((y3.2 6 1) + (y3.1 / 10))) 6 0) + 1)) (ci := 0) (C := RX0) (T := TX0) (N := 4) hx hb hts iX0_ tyX0 tyX0_ok nmX0 hown hK hw 6 6 rfl rfl 0 (by decide) w2_ (fun _ h9 => h9) rfl (by decide +kernel) (Nat.le_of_ble_eq_true rfl) rfl dX6_letPass_44 (fun H locs hw => ?_)
        refine lv_iload_n hx hb dX6_letPass_47 rfl (lv_at hl 4 rfl) ?_
        refine lv_iload hx hb dX6_letPass_48 (lv_at hl 0 rfl) ?_
        refine lv_iadd hx hb dX6_letPass_50 ?_
        refine lv_istore_n (lv' := [(3, .int (x3_5 + y3.1)), (5, .int y3.1), (0, .ref (g 0)), (1, .int x1), (2, .ref (g 6)), (4, .int x4_5)]) hx hb dX6_letPass_51 rfl hl (by decide) rfl (fun ls hl => ?_)
        refine lv_iinc (v := (x4_5 + 1)) (lv' := [(4, .int (x4_5 + 1)), (3, .int (x3_5 + y3.1)), (5, .int y3.1), (0, .ref (g 0)), (1, .int x1), (2, .ref (g 6))]) hx hb dX6_letPass_52 hl (k := 5) rfl rfl (by decide) rfl (fun ls hl => ?_)
        refine lv_goto (tgt := 5) hx hb dX6_letPass_55 (by decide) ?_
        exact ih _ _ _ _ h kc H locs ls hw (lv_sub hl [3, 4, 5, 1, 0] rfl)
  obtain ⟨y1, h9_, h⟩ := mg_bind h
  refine L5_ _ _ _ _ _ h9_ (fun H locs ls hw hl => ?_) H locs ls hw (lv_sub hl [2, 3, 4, 1, 0] rfl)
  clear L5_ h9_
  refine lv_iload_n hx hb dX6_letPass_58 rfl (lv_at hl 3 rfl) ?_
  cases h
  exact mg_eI hx hb hr hlocks hw (Nat.zero_le _) (Nat.zero_le _) dX6_letPass_59
set_option maxHeartbeats 4000000 in
set_option maxRecDepth 100000 in
theorem k_X6_pass (l : Launch) (hst : l.stackTraces = false) (D : va_G) (o : Nat → Nat) (cI cZ : ClassId) (g : Nat → Nat) (sz : Nat) (σ : mg_St) (x1 : Int32) (out : Except (Fin 3) Int32) (σ9 : mg_St) (h : f_X6_pass σ x1 = some (out, σ9)) (mc ms : Nat) (hmc : ∀ k, out = .error k → 1 ≤ mc ∧ 6 ≤ ms) : mg_CX l yX6_pass wsX6_pass ({ frames := 7, cells := mc, slots := ms, locals := 143 } : Room) D [(cI, .int), (cZ, .boolean)] o (mg_cW g cI cZ σ) sz [.ref (g 0), .int x1] (Except.map (fun v : Int32 => some (.int v)) out) (mg_cW g cI cZ σ9) mc ms := by
  unfold mg_CX
  refine vx_ofW (cc := cX6_pass) (maxL := 2) (ret := (some .int)) (by decide) rfl ?_
  intro p e s m args below meth c s₁ B hml ht hv
  obtain ⟨rfl, hsz, hP, hK, hD0, hO⟩ := hv
  have hx := B.exec
  have hb := B.bytes
  have hr := B.returns
  have hts := atoms_spec (ws := wsX6_pass) B.pre
  have hown : s.vm.findClass RX6 = some m.cls := findClass_of_methodNamed B.named
  have hlocks := B.notSynchronized
  subst hsz
  have hD := hD0.self (sz := s.heap.size)
  generalize hAe : va_A (mg_cW g cI cZ σ) s.heap.size = A at hD hO ⊢
  have hA : ∀ q : Nat, s.heap.size ≤ q → A q := fun q h => by rw [← hAe]; exact Or.inr h
  have hw : mg_Wo D A s.heap s.heap [] (mg_cW g cI cZ σ) := ⟨hP, hD, va_S.rf⟩
  have G9 : CallFix p m c cX6_pass 2 s ([.ref (g 0), .int x1] : List Value).toArray wsX6_pass RX6 := ⟨hx, hb, hml, hown, hts⟩
  clear hP hD hD0 hAe
  obtain ⟨H, hHe⟩ : ∃ H : Heap, H = s.heap := ⟨_, rfl⟩
  have w0_ := hts (.fieldLink RX6 40 "MoonGate" "now" "LMoonGate$Course;") (by decide +kernel)
  have iX6_ : ∀ w ∈ wsX60, w ∈ wsX6_pass := (fun _ h => List.mem_cons_of_mem _ (List.mem_append_left _ (List.mem_append_left _ (List.mem_append_left _ (List.mem_append_left _ (List.mem_append_left _ (List.mem_append_left _ (List.mem_append_left _ (List.mem_append_right _ h)))))))))
  have hl := lv_entry ([.ref (g 0), .int x1]) (n := 2) (Nat.le_of_ble_eq_true rfl)
  rw [lg_entry_eq]
  generalize (lg_sl ([.ref (g 0), .int x1]) ++ List.replicate (2 - (lg_sl ([.ref (g 0), .int x1])).length) Slot.unset).toArray = ls at hl ⊢
  have hl : lv_has ls 2 [(0, .ref (g 0)), (1, .int x1)] := hl
  unfold f_X6_pass at h
  revert hw
  intro hw
  suffices K_ : ∀ (H : Heap) (locs : List Loc), mg_Wo D A s.heap H locs (mg_cW g cI cZ σ) → W p l e (headSpec wsX6_pass ({ frames := 7, cells := mc, slots := ms, locals := 143 } : Room)).room s m ([.ref (g 0), .int x1] : List Value).toArray below meth c H locs 0 0 (vx_MQ below (mg_QX D (mg_cW g cI cZ σ9) A (Except.map (fun v : Int32 => some (.int v)) out)) (mg_XC D (mg_cW g cI cZ σ9) A (Except.map (fun v : Int32 => some (.int v)) out)) ([.ref (g 0), .int x1] : List Value).toArray s mc ms A) (F0 m 0 ls []) from K_ _ _ hw
  clear hw hHe H
  intro H locs hw
  refine lv_aload_n hx hb dX6_pass_0 rfl (lv_at hl 0 rfl) ?_
  refine lv_iload_n hx hb dX6_pass_1 rfl (lv_at hl 1 rfl) ?_
  refine mg_kxx (wd := mg_cW g cI cZ) h (fun _ : Unit => none) (fun v : Int32 => some (.int v)) (fun mc9 ms9 o9 s9 hm9 h9 hc9 hs9 => vx_runV (As := [.int x1]) (rest := []) G9 (k_X6_checkDays l hst D o cI cZ g H.size σ x1 o9 s9 h9 mc9 ms9 hm9) (cwV 1 hts gX6_pass_X6_checkDays rfl rfl rfl (by decide +kernel) ⟨Nat.le_of_ble_eq_true rfl, Nat.le_of_ble_eq_true rfl⟩) (mg_preV hK hO hA hw (q0 := 0) rfl rfl) rfl rfl hl.1 rfl (lv_room (Nat.le_of_ble_eq_true rfl)) dX6_pass_2 ⟨hc9, hs9⟩) hw hA ht hlocks (Nat.zero_le _) (Nat.zero_le _) (fun k9 hk9 => ⟨(hmc k9 hk9).1, (hmc k9 hk9).2, (hmc k9 hk9).1, (hmc k9 hk9).2⟩) (fun _ s2 h H locs hw => ?_)
  refine lv_aload_n hx hb dX6_pass_5 rfl (lv_at hl 0 rfl) ?_
  refine lv_iload_n hx hb dX6_pass_6 rfl (lv_at hl 1 rfl) ?_
  refine lv_aload_n hx hb dX6_pass_7 rfl (lv_at hl 0 rfl) ?_
  refine va_get (D := D) (ci := 6) (v := .ref (g 5)) (C := RX6) (T := TX6) (N := 7) hx hb hts iX6_ hown hK hw.1 0 rfl rfl 4 (by decide) w0_ (fun _ h9 => h9) rfl dX6_pass_8 ?_
  obtain ⟨y3, h9_, h⟩ := mg_bind h
  refine mg_k (rv := (some (.int y3.1))) (va_runV (As := [.int x1, .ref (g 5)]) (rest := []) G9 (k_X6_letPass_5 l D o cI cZ g H.size s2 x1 y3 h9_) (cwV 2 hts gX6_pass_X6_letPass rfl rfl rfl (by decide +kernel) ⟨Nat.le_of_ble_eq_true rfl, Nat.le_of_ble_eq_true rfl⟩) (mg_preV hK hO hA hw (q0 := 0) rfl rfl) rfl rfl hl.1 rfl (lv_room (Nat.le_of_ble_eq_true rfl)) dX6_pass_11 ⟨Nat.zero_le _, Nat.zero_le _⟩) hw hA (fun H locs hw => ?_)
  clear h9_
  cases h
  exact mg_xI hx hb hr hlocks hw rfl (Nat.zero_le _) (Nat.zero_le _) dX6_pass_14
set_option maxHeartbeats 4000000 in
set_option maxRecDepth 100000 in
theorem k_X6_foresee (l : Launch) (hst : l.stackTraces = false) (D : va_G) (o : Nat → Nat) (cI cZ : ClassId) (g : Nat → Nat) (sz : Nat) (σ : mg_St) (x1 : Int32) (x2 : Int32) (out : Except (Fin 3) Int32) (σ9 : mg_St) (h : f_X6_foresee σ x1 x2 = some (out, σ9)) (mc ms : Nat) (hmc : ∀ k, out = .error k → 1 ≤ mc ∧ 6 ≤ ms) : mg_CX l yX6_foresee wsX6_foresee ({ frames := 7, cells := mc, slots := ms, locals := 143 } : Room) D [(cI, .int), (cZ, .boolean)] o (mg_cW g cI cZ σ) sz [.ref (g 0), .int x1, .int x2] (Except.map (fun v : Int32 => some (.int v)) out) (mg_cW g cI cZ σ9) mc ms := by
  unfold mg_CX
  refine vx_ofW (cc := cX6_foresee) (maxL := 3) (ret := (some .int)) (by decide) rfl ?_
  intro p e s m args below meth c s₁ B hml ht hv
  obtain ⟨rfl, hsz, hP, hK, hD0, hO⟩ := hv
  have hx := B.exec
  have hb := B.bytes
  have hr := B.returns
  have hts := atoms_spec (ws := wsX6_foresee) B.pre
  have hown : s.vm.findClass RX6 = some m.cls := findClass_of_methodNamed B.named
  have hlocks := B.notSynchronized
  subst hsz
  have hD := hD0.self (sz := s.heap.size)
  generalize hAe : va_A (mg_cW g cI cZ σ) s.heap.size = A at hD hO ⊢
  have hA : ∀ q : Nat, s.heap.size ≤ q → A q := fun q h => by rw [← hAe]; exact Or.inr h
  have hw : mg_Wo D A s.heap s.heap [] (mg_cW g cI cZ σ) := ⟨hP, hD, va_S.rf⟩
  have G9 : CallFix p m c cX6_foresee 3 s ([.ref (g 0), .int x1, .int x2] : List Value).toArray wsX6_foresee RX6 := ⟨hx, hb, hml, hown, hts⟩
  clear hP hD hD0 hAe
  obtain ⟨H, hHe⟩ : ∃ H : Heap, H = s.heap := ⟨_, rfl⟩
  have w0_ := hts (.fieldLink RX6 44 "MoonGate" "ahead" "LMoonGate$Course;") (by decide +kernel)
  have iX6_ : ∀ w ∈ wsX60, w ∈ wsX6_foresee := (fun _ h => List.mem_cons_of_mem _ (List.mem_append_left _ (List.mem_append_left _ (List.mem_append_left _ (List.mem_append_left _ (List.mem_append_left _ (List.mem_append_left _ (List.mem_append_left _ (List.mem_append_left _ (List.mem_append_right _ h))))))))))
  have w2_ := hts (.fieldLink RX6 40 "MoonGate" "now" "LMoonGate$Course;") (by decide +kernel)
  have w3_ := hts (.classLink RX6 249 "java/lang/IndexOutOfBoundsException") (by decide +kernel)
  have w4_ := hts (.initialized "java/lang/IndexOutOfBoundsException") (by decide +kernel)
  have hl := lv_entry ([.ref (g 0), .int x1, .int x2]) (n := 3) (Nat.le_of_ble_eq_true rfl)
  rw [lg_entry_eq]
  generalize (lg_sl ([.ref (g 0), .int x1, .int x2]) ++ List.replicate (3 - (lg_sl ([.ref (g 0), .int x1, .int x2])).length) Slot.unset).toArray = ls at hl ⊢
  have hl : lv_has ls 3 [(0, .ref (g 0)), (1, .int x1), (2, .int x2)] := hl
  unfold f_X6_foresee at h
  revert hw
  intro hw
  suffices K_ : ∀ (H : Heap) (locs : List Loc), mg_Wo D A s.heap H locs (mg_cW g cI cZ σ) → W p l e (headSpec wsX6_foresee ({ frames := 7, cells := mc, slots := ms, locals := 143 } : Room)).room s m ([.ref (g 0), .int x1, .int x2] : List Value).toArray below meth c H locs 0 0 (vx_MQ below (mg_QX D (mg_cW g cI cZ σ9) A (Except.map (fun v : Int32 => some (.int v)) out)) (mg_XC D (mg_cW g cI cZ σ9) A (Except.map (fun v : Int32 => some (.int v)) out)) ([.ref (g 0), .int x1, .int x2] : List Value).toArray s mc ms A) (F0 m 0 ls []) from K_ _ _ hw
  clear hw hHe H
  intro H locs hw
  refine lv_aload_n hx hb dX6_foresee_0 rfl (lv_at hl 0 rfl) ?_
  refine lv_iload_n hx hb dX6_foresee_1 rfl (lv_at hl 1 rfl) ?_
  refine mg_kxx (wd := mg_cW g cI cZ) h (fun _ : Unit => none) (fun v : Int32 => some (.int v)) (fun mc9 ms9 o9 s9 hm9 h9 hc9 hs9 => vx_runV (As := [.int x1]) (rest := []) G9 (k_X6_checkDays l hst D o cI cZ g H.size σ x1 o9 s9 h9 mc9 ms9 hm9) (cwV 1 hts gX6_foresee_X6_checkDays rfl rfl rfl (by decide +kernel) ⟨Nat.le_of_ble_eq_true rfl, Nat.le_of_ble_eq_true rfl⟩) (mg_preV hK hO hA hw (q0 := 0) rfl rfl) rfl rfl hl.1 rfl (lv_room (Nat.le_of_ble_eq_true rfl)) dX6_foresee_2 ⟨hc9, hs9⟩) hw hA ht hlocks (Nat.zero_le _) (Nat.zero_le _) (fun k9 hk9 => ⟨(hmc k9 hk9).1, (hmc k9 hk9).2, (hmc k9 hk9).1, (hmc k9 hk9).2⟩) (fun _ s2 h H locs hw => ?_)
  refine lv_iload_n hx hb dX6_foresee_5 rfl (lv_at hl 2 rfl) ?_
  refine lv_iconst (v := 2) hx hb dX6_foresee_6 (by decide) ?_
  refine mg_icmp_eq (tgt := 32) hx hb h dX6_foresee_7 (by decide) (fun h => ?_) (fun h => ?_)
  · refine lv_aload_n hx hb dX6_foresee_32 rfl (lv_at hl 0 rfl) ?_
    refine va_get (D := D) (ci := 6) (v := .ref (g 6)) (C := RX6) (T := TX6) (N := 7) hx hb hts iX6_ hown hK hw.1 0 rfl rfl 5 (by decide) w0_ (fun _ h9 => h9) rfl dX6_foresee_33 ?_
    refine lv_aload_n hx hb dX6_foresee_36 rfl (lv_at hl 0 rfl) ?_
    refine va_get (D := D) (ci := 6) (v := .ref (g 5)) (C := RX6) (T := TX6) (N := 7) hx hb hts iX6_ hown hK hw.1 0 rfl rfl 4 (by decide) w2_ (fun _ h9 => h9) rfl dX6_foresee_37 ?_
    obtain ⟨y3, h9_, h⟩ := mg_bind h
    refine mg_k (rv := none) (va_runV (As := [.ref (g 5)]) (rest := []) G9 (k_X0_becomeLike l D o cI cZ g H.size s2  y3 h9_) (cwV 1 hts gX6_foresee_X0_becomeLike rfl rfl rfl (by decide +kernel) ⟨Nat.le_of_ble_eq_true rfl, Nat.le_of_ble_eq_true rfl⟩) (mg_preV hK hO hA hw (q0 := 6) rfl rfl) rfl rfl hl.1 rfl (lv_room (Nat.le_of_ble_eq_true rfl)) dX6_foresee_40 ⟨Nat.zero_le _, Nat.zero_le _⟩) hw hA (fun H locs hw => ?_)
    clear h9_
    refine lv_aload_n hx hb dX6_foresee_43 rfl (lv_at hl 0 rfl) ?_
    refine lv_iload_n hx hb dX6_foresee_44 rfl (lv_at hl 1 rfl) ?_
    refine lv_aload_n hx hb dX6_foresee_45 rfl (lv_at hl 0 rfl) ?_
    refine va_get (D := D) (ci := 6) (v := .ref (g 6)) (C := RX6) (T := TX6) (N := 7) hx hb hts iX6_ hown hK hw.1 0 rfl rfl 5 (by decide) w0_ (fun _ h9 => h9) rfl dX6_foresee_46 ?_
    obtain ⟨y4, h9_, h⟩ := mg_bind h
    refine mg_k (rv := (some (.int y4.1))) (va_runV (As := [.int x1, .ref (g 6)]) (rest := []) G9 (k_X6_letPass_6 l D o cI cZ g H.size y3 x1 y4 h9_) (cwV 2 hts gX6_foresee_X6_letPass rfl rfl rfl (by decide +kernel) ⟨Nat.le_of_ble_eq_true rfl, Nat.le_of_ble_eq_true rfl⟩) (mg_preV hK hO hA hw (q0 := 0) rfl rfl) rfl rfl hl.1 rfl (lv_room (Nat.le_of_ble_eq_true rfl)) dX6_foresee_49 ⟨Nat.zero_le _, Nat.zero_le _⟩) hw hA (fun H locs hw => ?_)
    clear h9_
    refine lv_pop hx hb dX6_foresee_52 rfl ?_
    refine lv_aload_n hx hb dX6_foresee_53 rfl (lv_at hl 0 rfl) ?_
    refine lv_iload_n hx hb dX6_foresee_54 rfl (lv_at hl 2 rfl) ?_
    refine lv_aload_n hx hb dX6_foresee_55 rfl (lv_at hl 0 rfl) ?_
    refine va_get (D := D) (ci := 6) (v := .ref (g 6)) (C := RX6) (T := TX6) (N := 7) hx hb hts iX6_ hown hK hw.1 0 rfl rfl 5 (by decide) w0_ (fun _ h9 => h9) rfl dX6_foresee_56 ?_
    obtain ⟨y5, h9_, h⟩ := mg_bind h
    refine mg_k (rv := (some (.int y5))) (va_runV (As := [.int x2, .ref (g 6)]) (rest := []) G9 (k_X6_changingCount_6 l D o cI cZ g H.size y4.2 x2 y5 h9_) (cwV 2 hts gX6_foresee_X6_changingCount rfl rfl rfl (by decide +kernel) ⟨Nat.le_of_ble_eq_true rfl, Nat.le_of_ble_eq_true rfl⟩) (mg_preV hK hO hA hw (q0 := 0) rfl rfl) rfl rfl hl.1 rfl (lv_room (Nat.le_of_ble_eq_true rfl)) dX6_foresee_59 ⟨Nat.zero_le _, Nat.zero_le _⟩) hw hA (fun H locs hw => ?_)
    clear h9_
    cases h
    exact mg_xI hx hb hr hlocks hw rfl (Nat.zero_le _) (Nat.zero_le _) dX6_foresee_62
  · refine lv_iload_n hx hb dX6_foresee_10 rfl (lv_at hl 2 rfl) ?_
    refine lv_bipush (v := 7) hx hb dX6_foresee_11 (by decide) ?_
    refine mg_icmp_eq (tgt := 32) hx hb h dX6_foresee_13 (by decide) (fun h => ?_) (fun h => ?_)
    · refine lv_aload_n hx hb dX6_foresee_32 rfl (lv_at hl 0 rfl) ?_
      refine va_get (D := D) (ci := 6) (v := .ref (g 6)) (C := RX6) (T := TX6) (N := 7) hx hb hts iX6_ hown hK hw.1 0 rfl rfl 5 (by decide) w0_ (fun _ h9 => h9) rfl dX6_foresee_33 ?_
      refine lv_aload_n hx hb dX6_foresee_36 rfl (lv_at hl 0 rfl) ?_
      refine va_get (D := D) (ci := 6) (v := .ref (g 5)) (C := RX6) (T := TX6) (N := 7) hx hb hts iX6_ hown hK hw.1 0 rfl rfl 4 (by decide) w2_ (fun _ h9 => h9) rfl dX6_foresee_37 ?_
      obtain ⟨y6, h9_, h⟩ := mg_bind h
      refine mg_k (rv := none) (va_runV (As := [.ref (g 5)]) (rest := []) G9 (k_X0_becomeLike l D o cI cZ g H.size s2  y6 h9_) (cwV 1 hts gX6_foresee_X0_becomeLike rfl rfl rfl (by decide +kernel) ⟨Nat.le_of_ble_eq_true rfl, Nat.le_of_ble_eq_true rfl⟩) (mg_preV hK hO hA hw (q0 := 6) rfl rfl) rfl rfl hl.1 rfl (lv_room (Nat.le_of_ble_eq_true rfl)) dX6_foresee_40 ⟨Nat.zero_le _, Nat.zero_le _⟩) hw hA (fun H locs hw => ?_)
      clear h9_
      refine lv_aload_n hx hb dX6_foresee_43 rfl (lv_at hl 0 rfl) ?_
      refine lv_iload_n hx hb dX6_foresee_44 rfl (lv_at hl 1 rfl) ?_
      refine lv_aload_n hx hb dX6_foresee_45 rfl (lv_at hl 0 rfl) ?_
      refine va_get (D := D) (ci := 6) (v := .ref (g 6)) (C := RX6) (T := TX6) (N := 7) hx hb hts iX6_ hown hK hw.1 0 rfl rfl 5 (by decide) w0_ (fun _ h9 => h9) rfl dX6_foresee_46 ?_
      obtain ⟨y7, h9_, h⟩ := mg_bind h
      refine mg_k (rv := (some (.int y7.1))) (va_runV (As := [.int x1, .ref (g 6)]) (rest := []) G9 (k_X6_letPass_6 l D o cI cZ g H.size y6 x1 y7 h9_) (cwV 2 hts gX6_foresee_X6_letPass rfl rfl rfl (by decide +kernel) ⟨Nat.le_of_ble_eq_true rfl, Nat.le_of_ble_eq_true rfl⟩) (mg_preV hK hO hA hw (q0 := 0) rfl rfl) rfl rfl hl.1 rfl (lv_room (Nat.le_of_ble_eq_true rfl)) dX6_foresee_49 ⟨Nat.zero_le _, Nat.zero_le _⟩) hw hA (fun H locs hw => ?_)
      clear h9_
      refine lv_pop hx hb dX6_foresee_52 rfl ?_
      refine lv_aload_n hx hb dX6_foresee_53 rfl (lv_at hl 0 rfl) ?_
      refine lv_iload_n hx hb dX6_foresee_54 rfl (lv_at hl 2 rfl) ?_
      refine lv_aload_n hx hb dX6_foresee_55 rfl (lv_at hl 0 rfl) ?_
      refine va_get (D := D) (ci := 6) (v := .ref (g 6)) (C := RX6) (T := TX6) (N := 7) hx hb hts iX6_ hown hK hw.1 0 rfl rfl 5 (by decide) w0_ (fun _ h9 => h9) rfl dX6_foresee_56 ?_
      obtain ⟨y8, h9_, h⟩ := mg_bind h
      refine mg_k (rv := (some (.int y8))) (va_runV (As := [.int x2, .ref (g 6)]) (rest := []) G9 (k_X6_changingCount_6 l D o cI cZ g H.size y7.2 x2 y8 h9_) (cwV 2 hts gX6_foresee_X6_changingCount rfl rfl rfl (by decide +kernel) ⟨Nat.le_of_ble_eq_true rfl, Nat.le_of_ble_eq_true rfl⟩) (mg_preV hK hO hA hw (q0 := 0) rfl rfl) rfl rfl hl.1 rfl (lv_room (Nat.le_of_ble_eq_true rfl)) dX6_foresee_59 ⟨Nat.zero_le _, Nat.zero_le _⟩) hw hA (fun H locs hw => ?_)
      clear h9_
      cases h
      exact mg_xI hx hb hr hlocks hw rfl (Nat.zero_le _) (Nat.zero_le _) dX6_foresee_62
    · refine lv_iload_n hx hb dX6_foresee_16 rfl (lv_at hl 2 rfl) ?_
      refine lv_bipush (v := 10) hx hb dX6_foresee_17 (by decide) ?_
      refine mg_icmp_eq (tgt := 32) hx hb h dX6_foresee_19 (by decide) (fun h => ?_) (fun h => ?_)
      · refine lv_aload_n hx hb dX6_foresee_32 rfl (lv_at hl 0 rfl) ?_
        refine va_get (D := D) (ci := 6) (v := .ref (g 6)) (C := RX6) (T := TX6) (N := 7) hx hb hts iX6_ hown hK hw.1 0 rfl rfl 5 (by decide) w0_ (fun _ h9 => h9) rfl dX6_foresee_33 ?_
        refine lv_aload_n hx hb dX6_foresee_36 rfl (lv_at hl 0 rfl) ?_
        refine va_get (D := D) (ci := 6) (v := .ref (g 5)) (C := RX6) (T := TX6) (N := 7) hx hb hts iX6_ hown hK hw.1 0 rfl rfl 4 (by decide) w2_ (fun _ h9 => h9) rfl dX6_foresee_37 ?_
        obtain ⟨y9, h9_, h⟩ := mg_bind h
        refine mg_k (rv := none) (va_runV (As := [.ref (g 5)]) (rest := []) G9 (k_X0_becomeLike l D o cI cZ g H.size s2  y9 h9_) (cwV 1 hts gX6_foresee_X0_becomeLike rfl rfl rfl (by decide +kernel) ⟨Nat.le_of_ble_eq_true rfl, Nat.le_of_ble_eq_true rfl⟩) (mg_preV hK hO hA hw (q0 := 6) rfl rfl) rfl rfl hl.1 rfl (lv_room (Nat.le_of_ble_eq_true rfl)) dX6_foresee_40 ⟨Nat.zero_le _, Nat.zero_le _⟩) hw hA (fun H locs hw => ?_)
        clear h9_
        refine lv_aload_n hx hb dX6_foresee_43 rfl (lv_at hl 0 rfl) ?_
        refine lv_iload_n hx hb dX6_foresee_44 rfl (lv_at hl 1 rfl) ?_
        refine lv_aload_n hx hb dX6_foresee_45 rfl (lv_at hl 0 rfl) ?_
        refine va_get (D := D) (ci := 6) (v := .ref (g 6)) (C := RX6) (T := TX6) (N := 7) hx hb hts iX6_ hown hK hw.1 0 rfl rfl 5 (by decide) w0_ (fun _ h9 => h9) rfl dX6_foresee_46 ?_
        obtain ⟨y10, h9_, h⟩ := mg_bind h
        refine mg_k (rv := (some (.int y10.1))) (va_runV (As := [.int x1, .ref (g 6)]) (rest := []) G9 (k_X6_letPass_6 l D o cI cZ g H.size y9 x1 y10 h9_) (cwV 2 hts gX6_foresee_X6_letPass rfl rfl rfl (by decide +kernel) ⟨Nat.le_of_ble_eq_true rfl, Nat.le_of_ble_eq_true rfl⟩) (mg_preV hK hO hA hw (q0 := 0) rfl rfl) rfl rfl hl.1 rfl (lv_room (Nat.le_of_ble_eq_true rfl)) dX6_foresee_49 ⟨Nat.zero_le _, Nat.zero_le _⟩) hw hA (fun H locs hw => ?_)
        clear h9_
        refine lv_pop hx hb dX6_foresee_52 rfl ?_
        refine lv_aload_n hx hb dX6_foresee_53 rfl (lv_at hl 0 rfl) ?_
        refine lv_iload_n hx hb dX6_foresee_54 rfl (lv_at hl 2 rfl) ?_
        refine lv_aload_n hx hb dX6_foresee_55 rfl (lv_at hl 0 rfl) ?_
        refine va_get (D := D) (ci := 6) (v := .ref (g 6)) (C := RX6) (T := TX6) (N := 7) hx hb hts iX6_ hown hK hw.1 0 rfl rfl 5 (by decide) w0_ (fun _ h9 => h9) rfl dX6_foresee_56 ?_
        obtain ⟨y11, h9_, h⟩ := mg_bind h
        refine mg_k (rv := (some (.int y11))) (va_runV (As := [.int x2, .ref (g 6)]) (rest := []) G9 (k_X6_changingCount_6 l D o cI cZ g H.size y10.2 x2 y11 h9_) (cwV 2 hts gX6_foresee_X6_changingCount rfl rfl rfl (by decide +kernel) ⟨Nat.le_of_ble_eq_true rfl, Nat.le_of_ble_eq_true rfl⟩) (mg_preV hK hO hA hw (q0 := 0) rfl rfl) rfl rfl hl.1 rfl (lv_room (Nat.le_of_ble_eq_true rfl)) dX6_foresee_59 ⟨Nat.zero_le _, Nat.zero_le _⟩) hw hA (fun H locs hw => ?_)
        clear h9_
        cases h
        exact mg_xI hx hb hr hlocks hw rfl (Nat.zero_le _) (Nat.zero_le _) dX6_foresee_62
      · cases h
        exact mg_throw (k := 0) (own := RX6) (text := "this is not foreseen") (ik := 249) (is := 251) (ic := 253) hx hb hst hown (by decide +kernel) w3_ w4_ (hO.2.2.2.2.2.2.2.2.2.2.2.2.2.2.2.2.2.2.2.2.2.2.2.2.2.2.2.2.1) (vx_hat (B := [.declares (Bundle.initS "java/lang/RuntimeException"), .declares (Bundle.initS "java/lang/Exception"), .declares (Bundle.initS Bundle.tN), .castable "java/lang/IndexOutOfBoundsException" "java/lang/IndexOutOfBoundsException"]) (fun w h => hts w (List.mem_cons_of_mem _ (List.mem_append_left _ (List.mem_append_right _ h)))) (by decide +kernel) (vx_c (va_Nw.use rfl (hO.2.2.2.2.2.2.2.2.1)) (vx_c (va_Nw.use rfl (hO.2.2.2.2.2.2.2.2.2.1)) (vx_c (va_Nw.use rfl (hO.2.2.2.2.2.2.2.2.2.2.1)) (vx_c (va_Nw.use rfl (hO.2.2.2.2.2.2.2.2.2.2.2.1)) vx_n))))) (by decide +kernel) (hO.2.2.2.2.1) (hO.2.2.2.2.2.1) hw (hl.1.trans hml.symm) dX6_foresee_22 dX6_foresee_25 dX6_foresee_26 dX6_foresee_28 dX6_foresee_31 ht (Nat.le_of_ble_eq_true rfl) (Nat.le_of_ble_eq_true rfl) (hmc _ rfl).1 (hmc _ rfl).2 hlocks rfl (hmc _ rfl).1 (hmc _ rfl).2
set_option maxHeartbeats 4000000 in
set_option maxRecDepth 100000 in
theorem k_X6_beautyWithRock (l : Launch) (D : va_G) (o : Nat → Nat) (cI cZ : ClassId) (g : Nat → Nat) (sz : Nat) (σ : mg_St) (x1 : Int32) (x2 : Int32) (x3 : Int32) (x4 : Int32) (y : (Int32 × mg_St)) (h : f_X6_beautyWithRock σ x1 x2 x3 x4 = some y) : mg_CT l yX6_beautyWithRock wsX6_beautyWithRock ({ frames := 4, cells := 0, slots := 0, locals := 93 } : Room) D [(cI, .int), (cZ, .boolean)] o (mg_cW g cI cZ σ) sz [.ref (g 0), .int x1, .int x2, .int x3, .int x4] (some (.int y.1)) (mg_cW g cI cZ y.2) 0 0 := by
  unfold mg_CT
  refine Met.ofW (cc := cX6_beautyWithRock) (maxL := 6) (ret := (some .int)) (by decide) rfl ?_
  intro p e s m args below meth c s₁ B hml hv
  obtain ⟨rfl, hsz, hP, hK, hD0, hO⟩ := hv
  have hx := B.exec
  have hb := B.bytes
  have hr := B.returns
  have hts := atoms_spec (ws := wsX6_beautyWithRock) B.pre
  have hown : s.vm.findClass RX6 = some m.cls := findClass_of_methodNamed B.named
  have hlocks := B.notSynchronized
  subst hsz
  have hD := hD0.self (sz := s.heap.size)
  generalize hAe : va_A (mg_cW g cI cZ σ) s.heap.size = A at hD hO ⊢
  have hA : ∀ q : Nat, s.heap.size ≤ q → A q := fun q h => by rw [← hAe]; exact Or.inr h
  have hw : mg_Wo D A s.heap s.heap [] (mg_cW g cI cZ σ) := ⟨hP, hD, va_S.rf⟩
  have G9 : CallFix p m c cX6_beautyWithRock 6 s ([.ref (g 0), .int x1, .int x2, .int x3, .int x4] : List Value).toArray wsX6_beautyWithRock RX6 := ⟨hx, hb, hml, hown, hts⟩
  clear hP hD hD0 hAe
  obtain ⟨H, hHe⟩ : ∃ H : Heap, H = s.heap := ⟨_, rfl⟩
  have w0_ := hts (.fieldLink RX6 10 "MoonGate" "garden" "LMoonGate$Garden;") (by decide +kernel)
  have iX6_ : ∀ w ∈ wsX60, w ∈ wsX6_beautyWithRock := (fun _ h => List.mem_cons_of_mem _ (List.mem_append_left _ (List.mem_append_left _ (List.mem_append_left _ (List.mem_append_left _ (List.mem_append_left _ (List.mem_append_right _ h)))))))
  have w2_ := hts (.fieldLink RX6 40 "MoonGate" "now" "LMoonGate$Course;") (by decide +kernel)
  have hl := lv_entry ([.ref (g 0), .int x1, .int x2, .int x3, .int x4]) (n := 6) (Nat.le_of_ble_eq_true rfl)
  rw [lg_entry_eq]
  generalize (lg_sl ([.ref (g 0), .int x1, .int x2, .int x3, .int x4]) ++ List.replicate (6 - (lg_sl ([.ref (g 0), .int x1, .int x2, .int x3, .int x4])).length) Slot.unset).toArray = ls at hl ⊢
  have hl : lv_has ls 6 [(0, .ref (g 0)), (1, .int x1), (2, .int x2), (3, .int x3), (4, .int x4)] := hl
  unfold f_X6_beautyWithRock at h
  revert hw
  intro hw
  suffices K_ : ∀ (H : Heap) (locs : List Loc), mg_Wo D A s.heap H locs (mg_cW g cI cZ σ) → W p l e (headSpec wsX6_beautyWithRock ({ frames := 4, cells := 0, slots := 0, locals := 93 } : Room)).room s m ([.ref (g 0), .int x1, .int x2, .int x3, .int x4] : List Value).toArray below meth c H locs 0 0 (MQ below (mg_Q D (mg_cW g cI cZ y.2) A (some (.int y.1))) ([.ref (g 0), .int x1, .int x2, .int x3, .int x4] : List Value).toArray s 0 0 A) (F0 m 0 ls []) from K_ _ _ hw
  clear hw hHe H
  intro H locs hw
  refine lv_aload_n hx hb dX6_beautyWithRock_0 rfl (lv_at hl 0 rfl) ?_
  refine va_get (D := D) (ci := 6) (v := .ref (g 1)) (C := RX6) (T := TX6) (N := 7) hx hb hts iX6_ hown hK hw.1 0 rfl rfl 0 (by decide) w0_ (fun _ h9 => h9) rfl dX6_beautyWithRock_1 ?_
  refine lv_iload_n hx hb dX6_beautyWithRock_4 rfl (lv_at hl 2 rfl) ?_
  refine lv_iload_n hx hb dX6_beautyWithRock_5 rfl (lv_at hl 3 rfl) ?_
  refine lv_iload hx hb dX6_beautyWithRock_6 (lv_at hl 4 rfl) ?_
  obtain ⟨y1, h9_, h⟩ := mg_bind h
  refine mg_k (rv := none) (va_runV (As := [.int x2, .int x3, .int x4]) (rest := []) G9 (k_X1_setRock l D o cI cZ g H.size σ x2 x3 x4 y1 h9_) (cwV 3 hts gX6_beautyWithRock_X1_setRock rfl rfl rfl (by decide +kernel) ⟨Nat.le_of_ble_eq_true rfl, Nat.le_of_ble_eq_true rfl⟩) (mg_preV hK hO hA hw (q0 := 1) rfl rfl) rfl rfl hl.1 rfl (lv_room (Nat.le_of_ble_eq_true rfl)) dX6_beautyWithRock_8 ⟨Nat.zero_le _, Nat.zero_le _⟩) hw hA (fun H locs hw => ?_)
  clear h9_
  refine lv_aload_n hx hb dX6_beautyWithRock_11 rfl (lv_at hl 0 rfl) ?_
  refine lv_iload_n hx hb dX6_beautyWithRock_12 rfl (lv_at hl 1 rfl) ?_
  refine lv_aload_n hx hb dX6_beautyWithRock_13 rfl (lv_at hl 0 rfl) ?_
  refine va_get (D := D) (ci := 6) (v := .ref (g 5)) (C := RX6) (T := TX6) (N := 7) hx hb hts iX6_ hown hK hw.1 0 rfl rfl 4 (by decide) w2_ (fun _ h9 => h9) rfl dX6_beautyWithRock_14 ?_
  obtain ⟨y2, h9_, h⟩ := mg_bind h
  refine mg_k (rv := (some (.int y2.1))) (va_runV (As := [.int x1, .ref (g 5)]) (rest := []) G9 (k_X6_look_5 l D o cI cZ g H.size y1 x1 y2 h9_) (cwV 2 hts gX6_beautyWithRock_X6_look rfl rfl rfl (by decide +kernel) ⟨Nat.le_of_ble_eq_true rfl, Nat.le_of_ble_eq_true rfl⟩) (mg_preV hK hO hA hw (q0 := 0) rfl rfl) rfl rfl hl.1 rfl (lv_room (Nat.le_of_ble_eq_true rfl)) dX6_beautyWithRock_17 ⟨Nat.zero_le _, Nat.zero_le _⟩) hw hA (fun H locs hw => ?_)
  clear h9_
  refine lv_istore (lv' := [(5, .int y2.1), (0, .ref (g 0)), (1, .int x1), (2, .int x2), (3, .int x3), (4, .int x4)]) hx hb dX6_beautyWithRock_20 hl (by decide) rfl (fun ls hl => ?_)
  refine lv_aload_n hx hb dX6_beautyWithRock_22 rfl (lv_at hl 1 rfl) ?_
  refine va_get (D := D) (ci := 6) (v := .ref (g 1)) (C := RX6) (T := TX6) (N := 7) hx hb hts iX6_ hown hK hw.1 0 rfl rfl 0 (by decide) w0_ (fun _ h9 => h9) rfl dX6_beautyWithRock_23 ?_
  refine lv_iload_n hx hb dX6_beautyWithRock_26 rfl (lv_at hl 3 rfl) ?_
  obtain ⟨y3, h9_, h⟩ := mg_bind h
  refine mg_k (rv := none) (va_runV (As := [.int x2]) (rest := []) G9 (k_X1_takeRock l D o cI cZ g H.size y2.2 x2 y3 h9_) (cwV 1 hts gX6_beautyWithRock_X1_takeRock rfl rfl rfl (by decide +kernel) ⟨Nat.le_of_ble_eq_true rfl, Nat.le_of_ble_eq_true rfl⟩) (mg_preV hK hO hA hw (q0 := 1) rfl rfl) rfl rfl hl.1 rfl (lv_room (Nat.le_of_ble_eq_true rfl)) dX6_beautyWithRock_27 ⟨Nat.zero_le _, Nat.zero_le _⟩) hw hA (fun H locs hw => ?_)
  clear h9_
  refine lv_iload hx hb dX6_beautyWithRock_30 (lv_at hl 0 rfl) ?_
  cases h
  exact mg_eI hx hb hr hlocks hw (Nat.zero_le _) (Nat.zero_le _) dX6_beautyWithRock_32
set_option maxHeartbeats 4000000 in
set_option maxRecDepth 100000 in
theorem k_X6_advise (l : Launch) (hst : l.stackTraces = false) (D : va_G) (o : Nat → Nat) (cI cZ : ClassId) (g : Nat → Nat) (sz : Nat) (σ : mg_St) (x1 : Int32) (x2 : Int32) (x3 : Int32) (out : Except (Fin 3) Int32) (σ9 : mg_St) (h : f_X6_advise σ x1 x2 x3 = some (out, σ9)) (mc ms : Nat) (hmc : ∀ k, out = .error k → 1 ≤ mc ∧ 6 ≤ ms) : mg_CX l yX6_advise wsX6_advise ({ frames := 7, cells := mc, slots := ms, locals := 118 } : Room) D [(cI, .int), (cZ, .boolean)] o (mg_cW g cI cZ σ) sz [.ref (g 0), .int x1, .int x2, .int x3] (Except.map (fun v : Int32 => some (.int v)) out) (mg_cW g cI cZ σ9) mc ms := by
  unfold mg_CX
  refine vx_ofW (cc := cX6_advise) (maxL := 8) (ret := (some .int)) (by decide) rfl ?_
  intro p e s m args below meth c s₁ B hml ht hv
  obtain ⟨rfl, hsz, hP, hK, hD0, hO⟩ := hv
  have hx := B.exec
  have hb := B.bytes
  have hr := B.returns
  have hts := atoms_spec (ws := wsX6_advise) B.pre
  have hown : s.vm.findClass RX6 = some m.cls := findClass_of_methodNamed B.named
  have hlocks := B.notSynchronized
  subst hsz
  have hD := hD0.self (sz := s.heap.size)
  generalize hAe : va_A (mg_cW g cI cZ σ) s.heap.size = A at hD hO ⊢
  have hA : ∀ q : Nat, s.heap.size ≤ q → A q := fun q h => by rw [← hAe]; exact Or.inr h
  have hw : mg_Wo D A s.heap s.heap [] (mg_cW g cI cZ σ) := ⟨hP, hD, va_S.rf⟩
  have G9 : CallFix p m c cX6_advise 8 s ([.ref (g 0), .int x1, .int x2, .int x3] : List Value).toArray wsX6_advise RX6 := ⟨hx, hb, hml, hown, hts⟩
  clear hP hD hD0 hAe
  obtain ⟨H, hHe⟩ : ∃ H : Heap, H = s.heap := ⟨_, rfl⟩
  have w0_ := hts (.fieldLink RX6 40 "MoonGate" "now" "LMoonGate$Course;") (by decide +kernel)
  have iX6_ : ∀ w ∈ wsX60, w ∈ wsX6_advise := (fun _ h => List.mem_cons_of_mem _ (List.mem_append_left _ (List.mem_append_left _ (List.mem_append_left _ (List.mem_append_left _ (List.mem_append_left _ (List.mem_append_left _ (List.mem_append_left _ (List.mem_append_right _ h)))))))))
  have w2_ := hts (.fieldLink RX6 10 "MoonGate" "garden" "LMoonGate$Garden;") (by decide +kernel)
  have hl := lv_entry ([.ref (g 0), .int x1, .int x2, .int x3]) (n := 8) (Nat.le_of_ble_eq_true rfl)
  rw [lg_entry_eq]
  generalize (lg_sl ([.ref (g 0), .int x1, .int x2, .int x3]) ++ List.replicate (8 - (lg_sl ([.ref (g 0), .int x1, .int x2, .int x3])).length) Slot.unset).toArray = ls at hl ⊢
  have hl : lv_has ls 8 [(0, .ref (g 0)), (1, .int x1), (2, .int x2), (3, .int x3)] := hl
  unfold f_X6_advise at h
  revert hw
  intro hw
  suffices K_ : ∀ (H : Heap) (locs : List Loc), mg_Wo D A s.heap H locs (mg_cW g cI cZ σ) → W p l e (headSpec wsX6_advise ({ frames := 7, cells := mc, slots := ms, locals := 118 } : Room)).room s m ([.ref (g 0), .int x1, .int x2, .int x3] : List Value).toArray below meth c H locs 0 0 (vx_MQ below (mg_QX D (mg_cW g cI cZ σ9) A (Except.map (fun v : Int32 => some (.int v)) out)) (mg_XC D (mg_cW g cI cZ σ9) A (Except.map (fun v : Int32 => some (.int v)) out)) ([.ref (g 0), .int x1, .int x2, .int x3] : List Value).toArray s mc ms A) (F0 m 0 ls []) from K_ _ _ hw
  clear hw hHe H
  intro H locs hw
  refine lv_aload_n hx hb dX6_advise_0 rfl (lv_at hl 0 rfl) ?_
  refine lv_iload_n hx hb dX6_advise_1 rfl (lv_at hl 1 rfl) ?_
  refine mg_kxx (wd := mg_cW g cI cZ) h (fun _ : Unit => none) (fun v : Int32 => some (.int v)) (fun mc9 ms9 o9 s9 hm9 h9 hc9 hs9 => vx_runV (As := [.int x1]) (rest := []) G9 (k_X6_checkGate l hst D o cI cZ g H.size σ x1 o9 s9 h9 mc9 ms9 hm9) (cwV 1 hts gX6_advise_X6_checkGate rfl rfl rfl (by decide +kernel) ⟨Nat.le_of_ble_eq_true rfl, Nat.le_of_ble_eq_true rfl⟩) (mg_preV hK hO hA hw (q0 := 0) rfl rfl) rfl rfl hl.1 rfl (lv_room (Nat.le_of_ble_eq_true rfl)) dX6_advise_2 ⟨hc9, hs9⟩) hw hA ht hlocks (Nat.zero_le _) (Nat.zero_le _) (fun k9 hk9 => ⟨(hmc k9 hk9).1, (hmc k9 hk9).2, (hmc k9 hk9).1, (hmc k9 hk9).2⟩) (fun _ s2 h H locs hw => ?_)
  refine lv_aload_n hx hb dX6_advise_5 rfl (lv_at hl 0 rfl) ?_
  refine lv_iload_n hx hb dX6_advise_6 rfl (lv_at hl 2 rfl) ?_
  refine lv_iload_n hx hb dX6_advise_7 rfl (lv_at hl 3 rfl) ?_
  refine mg_kxx (wd := mg_cW g cI cZ) h (fun _ : Unit => none) (fun v : Int32 => some (.int v)) (fun mc9 ms9 o9 s9 hm9 h9 hc9 hs9 => vx_runV (As := [.int x2, .int x3]) (rest := []) G9 (k_X6_checkRock l hst D o cI cZ g H.size s2 x2 x3 o9 s9 h9 mc9 ms9 hm9) (cwV 2 hts gX6_advise_X6_checkRock rfl rfl rfl (by decide +kernel) ⟨Nat.le_of_ble_eq_true rfl, Nat.le_of_ble_eq_true rfl⟩) (mg_preV hK hO hA hw (q0 := 0) rfl rfl) rfl rfl hl.1 rfl (lv_room (Nat.le_of_ble_eq_true rfl)) dX6_advise_8 ⟨hc9, hs9⟩) hw hA ht hlocks (Nat.zero_le _) (Nat.zero_le _) (fun k9 hk9 => ⟨(hmc k9 hk9).1, (hmc k9 hk9).2, (hmc k9 hk9).1, (hmc k9 hk9).2⟩) (fun _ s4 h H locs hw => ?_)
  refine lv_iconst (v := (-1)) hx hb dX6_advise_11 (by decide) ?_
  refine lv_istore (lv' := [(4, .int (-1)), (0, .ref (g 0)), (1, .int x1), (2, .int x2), (3, .int x3)]) hx hb dX6_advise_12 hl (by decide) rfl (fun ls hl => ?_)
  refine lv_aload_n hx hb dX6_advise_14 rfl (lv_at hl 1 rfl) ?_
  refine lv_iload_n hx hb dX6_advise_15 rfl (lv_at hl 2 rfl) ?_
  refine lv_aload_n hx hb dX6_advise_16 rfl (lv_at hl 1 rfl) ?_
  refine va_get (D := D) (ci := 6) (v := .ref (g 5)) (C := RX6) (T := TX6) (N := 7) hx hb hts iX6_ hown hK hw.1 0 rfl rfl 4 (by decide) w0_ (fun _ h9 => h9) rfl dX6_advise_17 ?_
  obtain ⟨y5, h9_, h⟩ := mg_bind h
  refine mg_k (rv := (some (.int y5.1))) (va_runV (As := [.int x1, .ref (g 5)]) (rest := []) G9 (k_X6_look_5 l D o cI cZ g H.size s4 x1 y5 h9_) (cwV 2 hts gX6_advise_X6_look rfl rfl rfl (by decide +kernel) ⟨Nat.le_of_ble_eq_true rfl, Nat.le_of_ble_eq_true rfl⟩) (mg_preV hK hO hA hw (q0 := 0) rfl rfl) rfl rfl hl.1 rfl (lv_room (Nat.le_of_ble_eq_true rfl)) dX6_advise_20 ⟨Nat.zero_le _, Nat.zero_le _⟩) hw hA (fun H locs hw => ?_)
  clear h9_
  refine lv_istore (lv' := [(5, .int y5.1), (4, .int (-1)), (0, .ref (g 0)), (1, .int x1), (2, .int x2), (3, .int x3)]) hx hb dX6_advise_23 hl (by decide) rfl (fun ls hl => ?_)
  refine lv_iconst (v := 0) hx hb dX6_advise_25 (by decide) ?_
  refine lv_istore (lv' := [(6, .int 0), (5, .int y5.1), (4, .int (-1)), (0, .ref (g 0)), (1, .int x1), (2, .int x2), (3, .int x3)]) hx hb dX6_advise_26 hl (by decide) rfl (fun ls hl => ?_)
  have L28_ : ∀ (n : Nat) (x4_28 : Int32) (x5_28 : Int32) (x6_28 : Int32) (s28_ : mg_St) (y28_ : Int32 × Int32 × Int32 × mg_St), f_X6_advise_28 x1 x2 x3 n x4_28 x5_28 x6_28 s28_ = some y28_ → (∀ (H : Heap) (locs : List Loc) (ls : Array Slot), mg_Wo D A s.heap H locs (mg_cW g cI cZ y28_.2.2.2) → lv_has ls 8 [(0, .ref (g 0)), (1, .int x1), (2, .int x2), (3, .int x3), (4, .int y28_.1), (5, .int y28_.2.1), (6, .int y28_.2.2.1)] → W p l e (headSpec wsX6_advise ({ frames := 7, cells := mc, slots := ms, locals := 118 } : Room)).room s m ([.ref (g 0), .int x1, .int x2, .int x3] : List Value).toArray below meth c H locs 0 0 (vx_MQ below (mg_QX D (mg_cW g cI cZ σ9) A (Except.map (fun v : Int32 => some (.int v)) out)) (mg_XC D (mg_cW g cI cZ σ9) A (Except.map (fun v : Int32 => some (.int v)) out)) ([.ref (g 0), .int x1, .int x2, .int x3] : List Value).toArray s mc ms A) (F0 m 79 ls [])) → ∀ (H : Heap) (locs : List Loc) (ls : Array Slot), mg_Wo D A s.heap H locs (mg_cW g cI cZ s28_) → lv_has ls 8 [(0, .ref (g 0)), (1, .int x1), (2, .int x2), (3, .int x3), (4, .int x4_28), (5, .int x5_28), (6, .int x6_28)] → W p l e (headSpec wsX6_advise ({ frames := 7, cells := mc, slots := ms, locals := 118 } : Room)).room s m ([.ref (g 0), .int x1, .int x2, .int x3] : List Value).toArray below meth c H locs 0 0 (vx_MQ below (mg_QX D (mg_cW g cI cZ σ9) A (Except.map (fun v : Int32 => some (.int v)) out)) (mg_XC D (mg_cW g cI cZ σ9) A (Except.map (fun v : Int32 => some (.int v)) out)) ([.ref (g 0), .int x1, .int x2, .int x3] : List Value).toArray s mc ms A) (F0 m 28 ls []) := by
    intro n
    induction n with
    | zero => intro x4_28 x5_28 x6_28 s28_ y28_ h; rw [f_X6_advise_28] at h; cases h
    | succ n ih =>
      intro x4_28 x5_28 x6_28 s28_ y28_ h kc H locs ls hw hl
      rw [f_X6_advise_28] at h
      refine lv_iload hx hb dX6_advise_28 (lv_at hl 6 rfl) ?_
      refine lv_bipush (v := 70) hx hb dX6_advise_30 (by decide) ?_
      refine mg_icmp_ge (tgt := 79) hx hb h dX6_advise_32 (by decide) (fun h => ?_) (fun h => ?_)
      · cases h
        exact kc H locs ls hw (lv_sub hl [0, 1, 2, 3, 4, 5, 6] rfl)
      · refine lv_aload_n hx hb dX6_advise_35 rfl (lv_at hl 0 rfl) ?_
        refine va_get (D := D) (ci := 6) (v := .ref (g 1)) (C := RX6) (T := TX6) (N := 7) hx hb hts iX6_ hown hK hw.1 0 rfl rfl 0 (by decide) w2_ (fun _ h9 => h9) rfl dX6_advise_36 ?_
        refine lv_iload hx hb dX6_advise_39 (lv_at hl 6 rfl) ?_
        obtain ⟨y7, h9_, h⟩ := mg_bind h
        refine mg_k (rv := (some (.int y7))) (va_runV (As := [.int x6_28]) (rest := []) G9 (k_X1_isBare l D o cI cZ g H.size s28_ x6_28 y7 h9_) (cwV 1 hts gX6_advise_X1_isBare rfl rfl rfl (by decide +kernel) ⟨Nat.le_of_ble_eq_true rfl, Nat.le_of_ble_eq_true rfl⟩) (mg_preV hK hO hA hw (q0 := 1) rfl rfl) rfl rfl hl.1 rfl (lv_room (Nat.le_of_ble_eq_true rfl)) dX6_advise_41 ⟨Nat.zero_le _, Nat.zero_le _⟩) hw hA (fun H locs hw => ?_)
        clear h9_
        refine mg_if_eq (tgt := 73) hx hb h dX6_advise_44 (by decide) (fun h => ?_) (fun h => ?_)
        · refine lv_iinc (v := (x6_28 + 1)) (lv' := [(6, .int (x6_28 + 1)), (0, .ref (g 0)), (1, .int x1), (2, .int x2), (3, .int x3), (4, .int x4_28), (5, .int x5_28)]) hx hb dX6_advise_73 hl (k := 6) rfl rfl (by decide) rfl (fun ls hl => ?_)
          refine lv_goto (tgt := 28) hx hb dX6_advise_76 (by decide) ?_
          exact ih _ _ _ _ _ h kc H locs ls hw (lv_sub hl [1, 2, 3, 4, 5, 6, 0] rfl)
        · refine lv_aload_n hx hb dX6_advise_47 rfl (lv_at hl 0 rfl) ?_
          refine lv_iload_n hx hb dX6_advise_48 rfl (lv_at hl 1 rfl) ?_
          refine lv_iload hx hb dX6_advise_49 (lv_at hl 6 rfl) ?_
          refine lv_iload_n hx hb dX6_advise_51 rfl (lv_at hl 2 rfl) ?_
          refine lv_iload_n hx hb dX6_advise_52 rfl (lv_at hl 3 rfl) ?_
          obtain ⟨y8, h9_, h⟩ := mg_bind h
          refine mg_k (rv := (some (.int y8.1))) (va_runV (As := [.int x1, .int x6_28, .int x2, .int x3]) (rest := []) G9 (k_X6_beautyWithRock l D o cI cZ g H.size s28_ x1 x6_28 x2 x3 y8 h9_) (cwV 4 hts gX6_advise_X6_beautyWithRock rfl rfl rfl (by decide +kernel) ⟨Nat.le_of_ble_eq_true rfl, Nat.le_of_ble_eq_true rfl⟩) (mg_preV hK hO hA hw (q0 := 0) rfl rfl) rfl rfl hl.1 rfl (lv_room (Nat.le_of_ble_eq_true rfl)) dX6_advise_53 ⟨Nat.zero_le _, Nat.zero_le _⟩) hw hA (fun H locs hw => ?_)
          clear h9_
          refine lv_istore (lv' := [(7, .int y8.1), (0, .ref (g 0)), (1, .int x1), (2, .int x2), (3, .int x3), (4, .int x4_28), (5, .int x5_28), (6, .int x6_28)]) hx hb dX6_advise_56 hl (by decide) rfl (fun ls hl => ?_)
          refine lv_iload hx hb dX6_advise_58 (lv_at hl 0 rfl) ?_
          refine lv_iload hx hb dX6_advise_60 (lv_at hl 6 rfl) ?_
          refine mg_icmp_le (tgt := 73) hx hb h dX6_advise_62 (by decide) (fun h => ?_) (fun h => ?_)
          · refine lv_iinc (v := (x6_28 + 1)) (lv' := [(6, .int (x6_28 + 1)), (7, .int y8.1), (0, .ref (g 0)), (1, .int x1), (2, .int x2), (3, .int x3), (4, .int x4_28), (5, .int x5_28)]) hx hb dX6_advise_73 hl (k := 7) rfl rfl (by decide) rfl (fun ls hl => ?_)
            refine lv_goto (tgt := 28) hx hb dX6_advise_76 (by decide) ?_
            exact ih _ _ _ _ _ h kc H locs ls hw (lv_sub hl [2, 3, 4, 5, 6, 7, 0] rfl)
          · refine lv_iload hx hb dX6_advise_65 (lv_at hl 7 rfl) ?_
            refine lv_istore (lv' := [(4, .int x6_28), (7, .int y8.1), (0, .ref (g 0)), (1, .int x1), (2, .int x2), (3, .int x3), (5, .int x5_28), (6, .int x6_28)]) hx hb dX6_advise_67 hl (by decide) rfl (fun ls hl => ?_)
            refine lv_iload hx hb dX6_advise_69 (lv_at hl 1 rfl) ?_
            refine lv_istore (lv' := [(5, .int y8.1), (4, .int x6_28), (7, .int y8.1), (0, .ref (g 0)), (1, .int x1), (2, .int x2), (3, .int x3), (6, .int x6_28)]) hx hb dX6_advise_71 hl (by decide) rfl (fun ls hl => ?_)
            refine lv_iinc (v := (x6_28 + 1)) (lv' := [(6, .int (x6_28 + 1)), (5, .int y8.1), (4, .int x6_28), (7, .int y8.1), (0, .ref (g 0)), (1, .int x1), (2, .int x2), (3, .int x3)]) hx hb dX6_advise_73 hl (k := 7) rfl rfl (by decide) rfl (fun ls hl => ?_)
            refine lv_goto (tgt := 28) hx hb dX6_advise_76 (by decide) ?_
            exact ih _ _ _ _ _ h kc H locs ls hw (lv_sub hl [4, 5, 6, 7, 2, 1, 0] rfl)
  obtain ⟨y6, h9_, h⟩ := mg_bind h
  refine L28_ _ _ _ _ _ _ h9_ (fun H locs ls hw hl => ?_) H locs ls hw (lv_sub hl [3, 4, 5, 6, 2, 1, 0] rfl)
  clear L28_ h9_
  refine lv_iload hx hb dX6_advise_79 (lv_at hl 4 rfl) ?_
  cases h
  exact mg_xI hx hb hr hlocks hw rfl (Nat.zero_le _) (Nat.zero_le _) dX6_advise_81
set_option maxHeartbeats 4000000 in
set_option maxRecDepth 100000 in
theorem k_X6_finest (l : Launch) (D : va_G) (o : Nat → Nat) (cI cZ : ClassId) (g : Nat → Nat) (sz : Nat) (σ : mg_St)  (y : (Int32 × mg_St)) (h : f_X6_finest σ  = some y) : mg_CT l yX6_finest wsX6_finest ({ frames := 4, cells := 0, slots := 0, locals := 93 } : Room) D [(cI, .int), (cZ, .boolean)] o (mg_cW g cI cZ σ) sz [.ref (g 0)] (some (.int y.1)) (mg_cW g cI cZ y.2) 0 0 := by
  unfold mg_CT
  refine Met.ofW (cc := cX6_finest) (maxL := 5) (ret := (some .int)) (by decide) rfl ?_
  intro p e s m args below meth c s₁ B hml hv
  obtain ⟨rfl, hsz, hP, hK, hD0, hO⟩ := hv
  have hx := B.exec
  have hb := B.bytes
  have hr := B.returns
  have hts := atoms_spec (ws := wsX6_finest) B.pre
  have hown : s.vm.findClass RX6 = some m.cls := findClass_of_methodNamed B.named
  have hlocks := B.notSynchronized
  subst hsz
  have hD := hD0.self (sz := s.heap.size)
  generalize hAe : va_A (mg_cW g cI cZ σ) s.heap.size = A at hD hO ⊢
  have hA : ∀ q : Nat, s.heap.size ≤ q → A q := fun q h => by rw [← hAe]; exact Or.inr h
  have hw : mg_Wo D A s.heap s.heap [] (mg_cW g cI cZ σ) := ⟨hP, hD, va_S.rf⟩
  have G9 : CallFix p m c cX6_finest 5 s ([.ref (g 0)] : List Value).toArray wsX6_finest RX6 := ⟨hx, hb, hml, hown, hts⟩
  clear hP hD hD0 hAe
  obtain ⟨H, hHe⟩ : ∃ H : Heap, H = s.heap := ⟨_, rfl⟩
  have w0_ := hts (.fieldLink RX6 26 "MoonGate" "gates" "LMoonGate$Gates;") (by decide +kernel)
  have iX6_ : ∀ w ∈ wsX60, w ∈ wsX6_finest := (fun _ h => List.mem_cons_of_mem _ (List.mem_append_left _ (List.mem_append_left _ (List.mem_append_left _ (List.mem_append_left _ (List.mem_append_left _ (List.mem_append_right _ h)))))))
  have w2_ := hts (.fieldLink RX6 171 "MoonGate$Gates" "many" "I") (by decide +kernel)
  have iX2_ : ∀ w ∈ wsX20, w ∈ wsX6_finest := (fun _ h => List.mem_cons_of_mem _ (List.mem_append_left _ (List.mem_append_left _ (List.mem_append_left _ (List.mem_append_left _ (List.mem_append_right _ h))))))
  have w4_ := hts (.fieldLink RX6 40 "MoonGate" "now" "LMoonGate$Course;") (by decide +kernel)
  have hl := lv_entry ([.ref (g 0)]) (n := 5) (Nat.le_of_ble_eq_true rfl)
  rw [lg_entry_eq]
  generalize (lg_sl ([.ref (g 0)]) ++ List.replicate (5 - (lg_sl ([.ref (g 0)])).length) Slot.unset).toArray = ls at hl ⊢
  have hl : lv_has ls 5 [(0, .ref (g 0))] := hl
  unfold f_X6_finest at h
  revert hw
  intro hw
  suffices K_ : ∀ (H : Heap) (locs : List Loc), mg_Wo D A s.heap H locs (mg_cW g cI cZ σ) → W p l e (headSpec wsX6_finest ({ frames := 4, cells := 0, slots := 0, locals := 93 } : Room)).room s m ([.ref (g 0)] : List Value).toArray below meth c H locs 0 0 (MQ below (mg_Q D (mg_cW g cI cZ y.2) A (some (.int y.1))) ([.ref (g 0)] : List Value).toArray s 0 0 A) (F0 m 0 ls []) from K_ _ _ hw
  clear hw hHe H
  intro H locs hw
  refine lv_iconst (v := (-1)) hx hb dX6_finest_0 (by decide) ?_
  refine lv_istore_n (lv' := [(1, .int (-1)), (0, .ref (g 0))]) hx hb dX6_finest_1 rfl hl (by decide) rfl (fun ls hl => ?_)
  refine lv_iconst (v := (-1)) hx hb dX6_finest_2 (by decide) ?_
  refine lv_istore_n (lv' := [(2, .int (-1)), (1, .int (-1)), (0, .ref (g 0))]) hx hb dX6_finest_3 rfl hl (by decide) rfl (fun ls hl => ?_)
  refine lv_iconst (v := 0) hx hb dX6_finest_4 (by decide) ?_
  refine lv_istore_n (lv' := [(3, .int 0), (2, .int (-1)), (1, .int (-1)), (0, .ref (g 0))]) hx hb dX6_finest_5 rfl hl (by decide) rfl (fun ls hl => ?_)
  have L6_ : ∀ (n : Nat) (x1_6 : Int32) (x2_6 : Int32) (x3_6 : Int32) (s6_ : mg_St) (y6_ : Int32 × Int32 × Int32 × mg_St), f_X6_finest_6  n x1_6 x2_6 x3_6 s6_ = some y6_ → (∀ (H : Heap) (locs : List Loc) (ls : Array Slot), mg_Wo D A s.heap H locs (mg_cW g cI cZ y6_.2.2.2) → lv_has ls 5 [(0, .ref (g 0)), (1, .int y6_.1), (2, .int y6_.2.1), (3, .int y6_.2.2.1)] → W p l e (headSpec wsX6_finest ({ frames := 4, cells := 0, slots := 0, locals := 93 } : Room)).room s m ([.ref (g 0)] : List Value).toArray below meth c H locs 0 0 (MQ below (mg_Q D (mg_cW g cI cZ y.2) A (some (.int y.1))) ([.ref (g 0)] : List Value).toArray s 0 0 A) (F0 m 45 ls [])) → ∀ (H : Heap) (locs : List Loc) (ls : Array Slot), mg_Wo D A s.heap H locs (mg_cW g cI cZ s6_) → lv_has ls 5 [(0, .ref (g 0)), (1, .int x1_6), (2, .int x2_6), (3, .int x3_6)] → W p l e (headSpec wsX6_finest ({ frames := 4, cells := 0, slots := 0, locals := 93 } : Room)).room s m ([.ref (g 0)] : List Value).toArray below meth c H locs 0 0 (MQ below (mg_Q D (mg_cW g cI cZ y.2) A (some (.int y.1))) ([.ref (g 0)] : List Value).toArray s 0 0 A) (F0 m 6 ls []) := by
    intro n
    induction n with
    | zero => intro x1_6 x2_6 x3_6 s6_ y6_ h; rw [f_X6_finest_6] at h; cases h
    | succ n ih =>
      intro x1_6 x2_6 x3_6 s6_ y6_ h kc H locs ls hw hl
      rw [f_X6_finest_6] at h
      refine lv_iload_n hx hb dX6_finest_6 rfl (lv_at hl 3 rfl) ?_
      refine lv_aload_n hx hb dX6_finest_7 rfl (lv_at hl 0 rfl) ?_
      refine va_get (D := D) (ci := 6) (v := .ref (g 3)) (C := RX6) (T := TX6) (N := 7) hx hb hts iX6_ hown hK hw.1 0 rfl rfl 2 (by decide) w0_ (fun _ h9 => h9) rfl dX6_finest_8 ?_
      refine va_get (D := D) (ci := 2) (v := .int (s6_ 3 2)) (C := RX2) (T := TX2) (N := 3) hx hb hts iX2_ hown hK hw.1 3 rfl rfl 2 (by decide) w2_ (fun _ h9 => h9) rfl dX6_finest_11 ?_
      refine mg_icmp_ge (tgt := 45) hx hb h dX6_finest_14 (by decide) (fun h => ?_) (fun h => ?_)
      · cases h
        exact kc H locs ls hw (lv_sub hl [0, 1, 2, 3] rfl)
      · refine lv_aload_n hx hb dX6_finest_17 rfl (lv_at hl 0 rfl) ?_
        refine lv_iload_n hx hb dX6_finest_18 rfl (lv_at hl 3 rfl) ?_
        refine lv_aload_n hx hb dX6_finest_19 rfl (lv_at hl 0 rfl) ?_
        refine va_get (D := D) (ci := 6) (v := .ref (g 5)) (C := RX6) (T := TX6) (N := 7) hx hb hts iX6_ hown hK hw.1 0 rfl rfl 4 (by decide) w4_ (fun _ h9 => h9) rfl dX6_finest_20 ?_
        obtain ⟨y2, h9_, h⟩ := mg_bind h
        refine mg_k (rv := (some (.int y2.1))) (va_runV (As := [.int x3_6, .ref (g 5)]) (rest := []) G9 (k_X6_look_5 l D o cI cZ g H.size s6_ x3_6 y2 h9_) (cwV 2 hts gX6_finest_X6_look rfl rfl rfl (by decide +kernel) ⟨Nat.le_of_ble_eq_true rfl, Nat.le_of_ble_eq_true rfl⟩) (mg_preV hK hO hA hw (q0 := 0) rfl rfl) rfl rfl hl.1 rfl (lv_room (Nat.le_of_ble_eq_true rfl)) dX6_finest_23 ⟨Nat.zero_le _, Nat.zero_le _⟩) hw hA (fun H locs hw => ?_)
        clear h9_
        refine lv_istore (lv' := [(4, .int y2.1), (0, .ref (g 0)), (1, .int x1_6), (2, .int x2_6), (3, .int x3_6)]) hx hb dX6_finest_26 hl (by decide) rfl (fun ls hl => ?_)
        refine lv_iload hx hb dX6_finest_28 (lv_at hl 0 rfl) ?_
        refine lv_iload_n hx hb dX6_finest_30 rfl (lv_at hl 3 rfl) ?_
        refine mg_icmp_le (tgt := 39) hx hb h dX6_finest_31 (by decide) (fun h => ?_) (fun h => ?_)
        · refine lv_iinc (v := (x3_6 + 1)) (lv' := [(3, .int (x3_6 + 1)), (4, .int y2.1), (0, .ref (g 0)), (1, .int x1_6), (2, .int x2_6)]) hx hb dX6_finest_39 hl (k := 4) rfl rfl (by decide) rfl (fun ls hl => ?_)
          refine lv_goto (tgt := 6) hx hb dX6_finest_42 (by decide) ?_
          exact ih _ _ _ _ _ h kc H locs ls hw (lv_sub hl [2, 3, 4, 0] rfl)
        · refine lv_iload_n hx hb dX6_finest_34 rfl (lv_at hl 4 rfl) ?_
          refine lv_istore_n (lv' := [(1, .int x3_6), (4, .int y2.1), (0, .ref (g 0)), (2, .int x2_6), (3, .int x3_6)]) hx hb dX6_finest_35 rfl hl (by decide) rfl (fun ls hl => ?_)
          refine lv_iload hx hb dX6_finest_36 (lv_at hl 1 rfl) ?_
          refine lv_istore_n (lv' := [(2, .int y2.1), (1, .int x3_6), (4, .int y2.1), (0, .ref (g 0)), (3, .int x3_6)]) hx hb dX6_finest_38 rfl hl (by decide) rfl (fun ls hl => ?_)
          refine lv_iinc (v := (x3_6 + 1)) (lv' := [(3, .int (x3_6 + 1)), (2, .int y2.1), (1, .int x3_6), (4, .int y2.1), (0, .ref (g 0))]) hx hb dX6_finest_39 hl (k := 4) rfl rfl (by decide) rfl (fun ls hl => ?_)
          refine lv_goto (tgt := 6) hx hb dX6_finest_42 (by decide) ?_
          exact ih _ _ _ _ _ h kc H locs ls hw (lv_sub hl [4, 2, 1, 0] rfl)
  obtain ⟨y1, h9_, h⟩ := mg_bind h
  refine L6_ _ _ _ _ _ _ h9_ (fun H locs ls hw hl => ?_) H locs ls hw (lv_sub hl [3, 2, 1, 0] rfl)
  clear L6_ h9_
  refine lv_iload_n hx hb dX6_finest_45 rfl (lv_at hl 1 rfl) ?_
  cases h
  exact mg_eI hx hb hr hlocks hw (Nat.zero_le _) (Nat.zero_le _) dX6_finest_46
set_option maxHeartbeats 4000000 in
set_option maxRecDepth 100000 in
theorem k_X6_mean (l : Launch) (D : va_G) (o : Nat → Nat) (cI cZ : ClassId) (g : Nat → Nat) (sz : Nat) (σ : mg_St) (y : (UInt64 × mg_St)) (h : f_X6_mean σ  = some y) : mg_CD l yX6_mean wsX6_mean ({ frames := 4, cells := 0, slots := 0, locals := 93 } : Room) D [(cI, .int), (cZ, .boolean)] o (mg_cW g cI cZ σ) sz [.ref (g 0)] y.1 (mg_cW g cI cZ y.2) 0 0 := by
  unfold mg_CD
  refine MetD.ofW (cc := cX6_mean) (maxL := 3) (ret := (some .double)) (by decide) rfl ?_
  intro p e s m args below meth c s₁ B hml hv hd0
  obtain ⟨rfl, hsz, hP, hK, hD0, hO⟩ := hv
  have hx := B.exec
  have hb := B.bytes
  have hr := B.returns
  have hts := atoms_spec (ws := wsX6_mean) B.pre
  have hown : s.vm.findClass RX6 = some m.cls := findClass_of_methodNamed B.named
  have hlocks := B.notSynchronized
  subst hsz
  have hD := hD0.self (sz := s.heap.size)
  generalize hAe : va_A (mg_cW g cI cZ σ) s.heap.size = A at hD hO ⊢
  have hA : ∀ q : Nat, s.heap.size ≤ q → A q := fun q h => by rw [← hAe]; exact Or.inr h
  have hw : mg_Wo D A s.heap s.heap [] (mg_cW g cI cZ σ) := ⟨hP, hD, va_S.rf⟩
  have G9 : CallFix p m c cX6_mean 3 s ([.ref (g 0)] : List Value).toArray wsX6_mean RX6 := ⟨hx, hb, hml, hown, hts⟩
  clear hP hD hD0 hAe
  obtain ⟨H, hHe⟩ : ∃ H : Heap, H = s.heap := ⟨_, rfl⟩
  have w0_ := hts (.fieldLink RX6 26 "MoonGate" "gates" "LMoonGate$Gates;") (by decide +kernel)
  have iX6_ : ∀ w ∈ wsX60, w ∈ wsX6_mean := (fun _ h => List.mem_cons_of_mem _ (List.mem_append_left _ (List.mem_append_left _ (List.mem_append_left _ (List.mem_append_left _ (List.mem_append_left _ (List.mem_append_right _ h)))))))
  have w2_ := hts (.fieldLink RX6 171 "MoonGate$Gates" "many" "I") (by decide +kernel)
  have iX2_ : ∀ w ∈ wsX20, w ∈ wsX6_mean := (fun _ h => List.mem_cons_of_mem _ (List.mem_append_left _ (List.mem_append_left _ (List.mem_append_left _ (List.mem_append_left _ (List.mem_append_right _ h))))))
  have w4_ := hts (.fieldLink RX6 40 "MoonGate" "now" "LMoonGate$Course;") (by decide +kernel)
  have hl := lv_entry ([.ref (g 0)]) (n := 3) (Nat.le_of_ble_eq_true rfl)
  rw [lg_entry_eq]
  generalize (lg_sl ([.ref (g 0)]) ++ List.replicate (3 - (lg_sl ([.ref (g 0)])).length) Slot.unset).toArray = ls at hl ⊢
  have hl : lv_has ls 3 [(0, .ref (g 0))] := hl
  unfold f_X6_mean at h
  revert hw
  intro hw
  suffices K_ : ∀ (H : Heap) (locs : List Loc), mg_Wo D A s.heap H locs (mg_cW g cI cZ σ) → W p l e (headSpec wsX6_mean ({ frames := 4, cells := 0, slots := 0, locals := 93 } : Room)).room s m ([.ref (g 0)] : List Value).toArray below meth c H locs 0 0 (MQD lw_cs below (mg_QD D (mg_cW g cI cZ y.2) A y.1) ([.ref (g 0)] : List Value).toArray s 0 0 A) (F0 m 0 ls []) from K_ _ _ hw
  clear hw hHe H
  intro H locs hw
  refine lv_aload_n hx hb dX6_mean_0 rfl (lv_at hl 0 rfl) ?_
  refine va_get (D := D) (ci := 6) (v := .ref (g 3)) (C := RX6) (T := TX6) (N := 7) hx hb hts iX6_ hown hK hw.1 0 rfl rfl 2 (by decide) w0_ (fun _ h9 => h9) rfl dX6_mean_1 ?_
  refine va_get (D := D) (ci := 2) (v := .int (σ 3 2)) (C := RX2) (T := TX2) (N := 3) hx hb hts iX2_ hown hK hw.1 3 rfl rfl 2 (by decide) w2_ (fun _ h9 => h9) rfl dX6_mean_4 ?_
  refine mg_if_gt (tgt := 12) hx hb h dX6_mean_7 (by decide) (fun h => ?_) (fun h => ?_)
  · refine lv_iconst (v := 0) hx hb dX6_mean_12 (by decide) ?_
    refine lv_istore_n (lv' := [(1, .int 0), (0, .ref (g 0))]) hx hb dX6_mean_13 rfl hl (by decide) rfl (fun ls hl => ?_)
    refine lv_iconst (v := 0) hx hb dX6_mean_14 (by decide) ?_
    refine lv_istore_n (lv' := [(2, .int 0), (1, .int 0), (0, .ref (g 0))]) hx hb dX6_mean_15 rfl hl (by decide) rfl (fun ls hl => ?_)
    have L16_ : ∀ (n : Nat) (x1_16 : Int32) (x2_16 : Int32) (s16_ : mg_St) (y16_ : Int32 × Int32 × mg_St), f_X6_mean_16  n x1_16 x2_16 s16_ = some y16_ → (∀ (H : Heap) (locs : List Loc) (ls : Array Slot), mg_Wo D A s.heap H locs (mg_cW g cI cZ y16_.2.2) → lv_has ls 3 [(0, .ref (g 0)), (1, .int y16_.1), (2, .int y16_.2.1)] → W p l e (headSpec wsX6_mean ({ frames := 4, cells := 0, slots := 0, locals := 93 } : Room)).room s m ([.ref (g 0)] : List Value).toArray below meth c H locs 0 0 (MQD lw_cs below (mg_QD D (mg_cW g cI cZ y.2) A y.1) ([.ref (g 0)] : List Value).toArray s 0 0 A) (F0 m 45 ls [])) → ∀ (H : Heap) (locs : List Loc) (ls : Array Slot), mg_Wo D A s.heap H locs (mg_cW g cI cZ s16_) → lv_has ls 3 [(0, .ref (g 0)), (1, .int x1_16), (2, .int x2_16)] → W p l e (headSpec wsX6_mean ({ frames := 4, cells := 0, slots := 0, locals := 93 } : Room)).room s m ([.ref (g 0)] : List Value).toArray below meth c H locs 0 0 (MQD lw_cs below (mg_QD D (mg_cW g cI cZ y.2) A y.1) ([.ref (g 0)] : List Value).toArray s 0 0 A) (F0 m 16 ls []) := by
      intro n
      induction n with
      | zero => intro x1_16 x2_16 s16_ y16_ h; rw [f_X6_mean_16] at h; cases h
      | succ n ih =>
        intro x1_16 x2_16 s16_ y16_ h kc H locs ls hw hl
        rw [f_X6_mean_16] at h
        refine lv_iload_n hx hb dX6_mean_16 rfl (lv_at hl 2 rfl) ?_
        refine lv_aload_n hx hb dX6_mean_17 rfl (lv_at hl 0 rfl) ?_
        refine va_get (D := D) (ci := 6) (v := .ref (g 3)) (C := RX6) (T := TX6) (N := 7) hx hb hts iX6_ hown hK hw.1 0 rfl rfl 2 (by decide) w0_ (fun _ h9 => h9) rfl dX6_mean_18 ?_
        refine va_get (D := D) (ci := 2) (v := .int (s16_ 3 2)) (C := RX2) (T := TX2) (N := 3) hx hb hts iX2_ hown hK hw.1 3 rfl rfl 2 (by decide) w2_ (fun _ h9 => h9) rfl dX6_mean_21 ?_
        refine mg_icmp_ge (tgt := 45) hx hb h dX6_mean_24 (by decide) (fun h => ?_) (fun h => ?_)
        · cases h
          exact kc H locs ls hw (lv_sub hl [0, 1, 2] rfl)
        · refine lv_iload_n hx hb dX6_mean_27 rfl (lv_at hl 1 rfl) ?_
          refine lv_aload_n hx hb dX6_mean_28 rfl (lv_at hl 0 rfl) ?_
          refine lv_iload_n hx hb dX6_mean_29 rfl (lv_at hl 2 rfl) ?_
          refine lv_aload_n hx hb dX6_mean_30 rfl (lv_at hl 0 rfl) ?_
          refine va_get (D := D) (ci := 6) (v := .ref (g 5)) (C := RX6) (T := TX6) (N := 7) hx hb hts iX6_ hown hK hw.1 0 rfl rfl 4 (by decide) w4_ (fun _ h9 => h9) rfl dX6_mean_31 ?_
          obtain ⟨y2, h9_, h⟩ := mg_bind h
          refine mg_k (rv := (some (.int y2.1))) (va_runV (As := [.int x2_16, .ref (g 5)]) (rest := [.int x1_16]) G9 (k_X6_look_5 l D o cI cZ g H.size s16_ x2_16 y2 h9_) (cwV 2 hts gX6_mean_X6_look rfl rfl rfl (by decide +kernel) ⟨Nat.le_of_ble_eq_true rfl, Nat.le_of_ble_eq_true rfl⟩) (mg_preV hK hO hA hw (q0 := 0) rfl rfl) rfl rfl hl.1 rfl (lv_room (Nat.le_of_ble_eq_true rfl)) dX6_mean_34 ⟨Nat.zero_le _, Nat.zero_le _⟩) hw hA (fun H locs hw => ?_)
          clear h9_
          refine lv_iadd hx hb dX6_mean_37 ?_
          refine lv_istore_n (lv' := [(1, .int (x1_16 + y2.1)), (0, .ref (g 0)), (2, .int x2_16)]) hx hb dX6_mean_38 rfl hl (by decide) rfl (fun ls hl => ?_)
          refine lv_iinc (v := (x2_16 + 1)) (lv' := [(2, .int (x2_16 + 1)), (1, .int (x1_16 + y2.1)), (0, .ref (g 0))]) hx hb dX6_mean_39 hl (k := 2) rfl rfl (by decide) rfl (fun ls hl => ?_)
          refine lv_goto (tgt := 16) hx hb dX6_mean_42 (by decide) ?_
          exact ih _ _ _ _ h kc H locs ls hw (lv_sub hl [2, 1, 0] rfl)
    obtain ⟨y1, h9_, h⟩ := mg_bind h
    refine L16_ _ _ _ _ _ h9_ (fun H locs ls hw hl => ?_) H locs ls hw (lv_sub hl [2, 1, 0] rfl)
    clear L16_ h9_
    refine lv_iload_n hx hb dX6_mean_45 rfl (lv_at hl 1 rfl) ?_
    refine lv_i2d hx hb dX6_mean_46 ?_
    refine lv_aload_n hx hb dX6_mean_47 rfl (lv_at hl 0 rfl) ?_
    refine va_get (D := D) (ci := 6) (v := .ref (g 3)) (C := RX6) (T := TX6) (N := 7) hx hb hts iX6_ hown hK hw.1 0 rfl rfl 2 (by decide) w0_ (fun _ h9 => h9) rfl dX6_mean_48 ?_
    refine va_get (D := D) (ci := 2) (v := .int (y1.2.2 3 2)) (C := RX2) (T := TX2) (N := 3) hx hb hts iX2_ hown hK hw.1 3 rfl rfl 2 (by decide) w2_ (fun _ h9 => h9) rfl dX6_mean_51 ?_
    refine lv_i2d hx hb dX6_mean_54 ?_
    refine W.base ?_
    refine lv_ddiv_any (d0 := s.drawn) hd0 lw_bits hx hb dX6_mean_55 (fun r9 d9 hal9 hd9 => ?_)
    cases h
    exact mg_eD hd9 hal9 hx hb hr hlocks hw (Nat.zero_le _) (Nat.zero_le _) dX6_mean_56
  · refine lv_dconst0 hx hb dX6_mean_10 ?_
    cases h
    refine W.base ?_
    exact mg_eD (Drawn.sameBut.refl s.drawn lw_cs) (alike64_refl _) hx hb hr hlocks hw (Nat.zero_le _) (Nat.zero_le _) dX6_mean_11
set_option maxHeartbeats 4000000 in
set_option maxRecDepth 100000 in
theorem k_X6_digestOfCells (l : Launch) (hst : l.stackTraces = false) (D : va_G) (o : Nat → Nat) (cI cZ : ClassId) (g : Nat → Nat) (sz : Nat) (σ : mg_St) (x1 : Int64) (y : (Int64 × mg_St)) (h : f_X6_digestOfCells σ x1 = some y) : mg_CT l yX6_digestOfCells wsX6_digestOfCells ({ frames := 8, cells := 0, slots := 0, locals := 136 } : Room) D [(cI, .int), (cZ, .boolean)] o (mg_cW g cI cZ σ) sz [.ref (g 0), .long x1] (some (.long y.1)) (mg_cW g cI cZ y.2) 0 0 := by
  unfold mg_CT
  refine Met.ofW (cc := cX6_digestOfCells) (maxL := 8) (ret := (some .long)) (by decide) rfl ?_
  intro p e s m args below meth c s₁ B hml hv
  obtain ⟨rfl, hsz, hP, hK, hD0, hO⟩ := hv
  have hx := B.exec
  have hb := B.bytes
  have hr := B.returns
  have hts := atoms_spec (ws := wsX6_digestOfCells) B.pre
  have hown : s.vm.findClass RX6 = some m.cls := findClass_of_methodNamed B.named
  have hlocks := B.notSynchronized
  subst hsz
  have hD := hD0.self (sz := s.heap.size)
  generalize hAe : va_A (mg_cW g cI cZ σ) s.heap.size = A at hD hO ⊢
  have hA : ∀ q : Nat, s.heap.size ≤ q → A q := fun q h => by rw [← hAe]; exact Or.inr h
  have hw : mg_Wo D A s.heap s.heap [] (mg_cW g cI cZ σ) := ⟨hP, hD, va_S.rf⟩
  have G9 : CallFix p m c cX6_digestOfCells 8 s ([.ref (g 0), .long x1] : List Value).toArray wsX6_digestOfCells RX6 := ⟨hx, hb, hml, hown, hts⟩
  clear hP hD hD0 hAe
  obtain ⟨H, hHe⟩ : ∃ H : Heap, H = s.heap := ⟨_, rfl⟩
  have w0_ := hts (.constantLong RX6 264 31) (by decide +kernel)
  have hl := lv_entry ([.ref (g 0), .long x1]) (n := 8) (Nat.le_of_ble_eq_true rfl)
  rw [lg_entry_eq]
  generalize (lg_sl ([.ref (g 0), .long x1]) ++ List.replicate (8 - (lg_sl ([.ref (g 0), .long x1])).length) Slot.unset).toArray = ls at hl ⊢
  have hl : lv_has ls 8 [(0, .ref (g 0)), (1, .long x1)] := hl
  unfold f_X6_digestOfCells at h
  revert hw
  intro hw
  suffices K_ : ∀ (H : Heap) (locs : List Loc), mg_Wo D A s.heap H locs (mg_cW g cI cZ σ) → W p l e (headSpec wsX6_digestOfCells ({ frames := 8, cells := 0, slots := 0, locals := 136 } : Room)).room s m ([.ref (g 0), .long x1] : List Value).toArray below meth c H locs 0 0 (MQ below (mg_Q D (mg_cW g cI cZ y.2) A (some (.long y.1))) ([.ref (g 0), .long x1] : List Value).toArray s 0 0 A) (F0 m 0 ls []) from K_ _ _ hw
  clear hw hHe H
  intro H locs hw
  refine lv_lload_n hx hb dX6_digestOfCells_0 rfl (lv_at hl 1 rfl) ?_
  refine lv_lstore_n (lv' := [(3, .long x1), (0, .ref (g 0)), (1, .long x1)]) hx hb dX6_digestOfCells_1 rfl hl (by decide) rfl (fun ls hl => ?_)
  refine lv_iconst (v := 0) hx hb dX6_digestOfCells_2 (by decide) ?_
  refine lv_istore (lv' := [(5, .int 0), (3, .long x1), (0, .ref (g 0)), (1, .long x1)]) hx hb dX6_digestOfCells_3 hl (by decide) rfl (fun ls hl => ?_)
  have L5_ : ∀ (n : Nat) (x3_5 : Int64) (x5_5 : Int32) (s5_ : mg_St) (y5_ : Int64 × Int32 × mg_St), f_X6_digestOfCells_5 x1 n x3_5 x5_5 s5_ = some y5_ → (∀ (H : Heap) (locs : List Loc) (ls : Array Slot), mg_Wo D A s.heap H locs (mg_cW g cI cZ y5_.2.2) → lv_has ls 8 [(0, .ref (g 0)), (1, .long x1), (3, .long y5_.1), (5, .int y5_.2.1)] → W p l e (headSpec wsX6_digestOfCells ({ frames := 8, cells := 0, slots := 0, locals := 136 } : Room)).room s m ([.ref (g 0), .long x1] : List Value).toArray below meth c H locs 0 0 (MQ below (mg_Q D (mg_cW g cI cZ y.2) A (some (.long y.1))) ([.ref (g 0), .long x1] : List Value).toArray s 0 0 A) (F0 m 67 ls [])) → ∀ (H : Heap) (locs : List Loc) (ls : Array Slot), mg_Wo D A s.heap H locs (mg_cW g cI cZ s5_) → lv_has ls 8 [(0, .ref (g 0)), (1, .long x1), (3, .long x3_5), (5, .int x5_5)] → W p l e (headSpec wsX6_digestOfCells ({ frames := 8, cells := 0, slots := 0, locals := 136 } : Room)).room s m ([.ref (g 0), .long x1] : List Value).toArray below meth c H locs 0 0 (MQ below (mg_Q D (mg_cW g cI cZ y.2) A (some (.long y.1))) ([.ref (g 0), .long x1] : List Value).toArray s 0 0 A) (F0 m 5 ls []) := by
    intro n
    induction n with
    | zero => intro x3_5 x5_5 s5_ y5_ h; rw [f_X6_digestOfCells_5] at h; cases h
    | succ n ih =>
      intro x3_5 x5_5 s5_ y5_ h kc H locs ls hw hl
      rw [f_X6_digestOfCells_5] at h
      refine lv_iload hx hb dX6_digestOfCells_5 (lv_at hl 3 rfl) ?_
      refine lv_bipush (v := 7) hx hb dX6_digestOfCells_7 (by decide) ?_
      refine mg_icmp_ge (tgt := 67) hx hb h dX6_digestOfCells_9 (by decide) (fun h => ?_) (fun h => ?_)
      · cases h
        exact kc H locs ls hw (lv_sub hl [0, 1, 2, 3] rfl)
      · refine lv_iconst (v := 0) hx hb dX6_digestOfCells_12 (by decide) ?_
        refine lv_istore (lv' := [(6, .int 0), (0, .ref (g 0)), (1, .long x1), (3, .long x3_5), (5, .int x5_5)]) hx hb dX6_digestOfCells_13 hl (by decide) rfl (fun ls hl => ?_)
        have L15_ : ∀ (n : Nat) (x3_15 : Int64) (x6_15 : Int32) (s15_ : mg_St) (y15_ : Int64 × Int32 × mg_St), f_X6_digestOfCells_15 x1 x5_5 n x3_15 x6_15 s15_ = some y15_ → (∀ (H : Heap) (locs : List Loc) (ls : Array Slot), mg_Wo D A s.heap H locs (mg_cW g cI cZ y15_.2.2) → lv_has ls 8 [(0, .ref (g 0)), (1, .long x1), (3, .long y15_.1), (5, .int x5_5), (6, .int y15_.2.1)] → W p l e (headSpec wsX6_digestOfCells ({ frames := 8, cells := 0, slots := 0, locals := 136 } : Room)).room s m ([.ref (g 0), .long x1] : List Value).toArray below meth c H locs 0 0 (MQ below (mg_Q D (mg_cW g cI cZ y.2) A (some (.long y.1))) ([.ref (g 0), .long x1] : List Value).toArray s 0 0 A) (F0 m 61 ls [])) → ∀ (H : Heap) (locs : List Loc) (ls : Array Slot), mg_Wo D A s.heap H locs (mg_cW g cI cZ s15_) → lv_has ls 8 [(0, .ref (g 0)), (1, .long x1), (3, .long x3_15), (5, .int x5_5), (6, .int x6_15)] → W p l e (headSpec wsX6_digestOfCells ({ frames := 8, cells := 0, slots := 0, locals := 136 } : Room)).room s m ([.ref (g 0), .long x1] : List Value).toArray below meth c H locs 0 0 (MQ below (mg_Q D (mg_cW g cI cZ y.2) A (some (.long y.1))) ([.ref (g 0), .long x1] : List Value).toArray s 0 0 A) (F0 m 15 ls []) := by
          intro n
          induction n with
          | zero => intro x3_15 x6_15 s15_ y15_ h; rw [f_X6_digestOfCells_15] at h; cases h
          | succ n ih =>
            intro x3_15 x6_15 s15_ y15_ h kc H locs ls hw hl
            rw [f_X6_digestOfCells_15] at h
            refine lv_iload hx hb dX6_digestOfCells_15 (lv_at hl 4 rfl) ?_
            refine lv_bipush (v := 10) hx hb dX6_digestOfCells_17 (by decide) ?_
            refine mg_icmp_ge (tgt := 61) hx hb h dX6_digestOfCells_19 (by decide) (fun h => ?_) (fun h => ?_)
            · cases h
              exact kc H locs ls hw (lv_sub hl [0, 1, 2, 3, 4] rfl)
            · refine lv_iconst (v := 0) hx hb dX6_digestOfCells_22 (by decide) ?_
              refine lv_istore (lv' := [(7, .int 0), (0, .ref (g 0)), (1, .long x1), (3, .long x3_15), (5, .int x5_5), (6, .int x6_15)]) hx hb dX6_digestOfCells_23 hl (by decide) rfl (fun ls hl => ?_)
              have L25_ : ∀ (n : Nat) (x3_25 : Int64) (x7_25 : Int32) (s25_ : mg_St) (y25_ : Int64 × Int32 × mg_St), f_X6_digestOfCells_25 x1 x5_5 x6_15 n x3_25 x7_25 s25_ = some y25_ → (∀ (H : Heap) (locs : List Loc) (ls : Array Slot), mg_Wo D A s.heap H locs (mg_cW g cI cZ y25_.2.2) → lv_has ls 8 [(0, .ref (g 0)), (1, .long x1), (3, .long y25_.1), (5, .int x5_5), (6, .int x6_15), (7, .int y25_.2.1)] → W p l e (headSpec wsX6_digestOfCells ({ frames := 8, cells := 0, slots := 0, locals := 136 } : Room)).room s m ([.ref (g 0), .long x1] : List Value).toArray below meth c H locs 0 0 (MQ below (mg_Q D (mg_cW g cI cZ y.2) A (some (.long y.1))) ([.ref (g 0), .long x1] : List Value).toArray s 0 0 A) (F0 m 55 ls [])) → ∀ (H : Heap) (locs : List Loc) (ls : Array Slot), mg_Wo D A s.heap H locs (mg_cW g cI cZ s25_) → lv_has ls 8 [(0, .ref (g 0)), (1, .long x1), (3, .long x3_25), (5, .int x5_5), (6, .int x6_15), (7, .int x7_25)] → W p l e (headSpec wsX6_digestOfCells ({ frames := 8, cells := 0, slots := 0, locals := 136 } : Room)).room s m ([.ref (g 0), .long x1] : List Value).toArray below meth c H locs 0 0 (MQ below (mg_Q D (mg_cW g cI cZ y.2) A (some (.long y.1))) ([.ref (g 0), .long x1] : List Value).toArray s 0 0 A) (F0 m 25 ls []) := by
                intro n
                induction n with
                | zero => intro x3_25 x7_25 s25_ y25_ h; rw [f_X6_digestOfCells_25] at h; cases h
                | succ n ih =>
                  intro x3_25 x7_25 s25_ y25_ h kc H locs ls hw hl
                  rw [f_X6_digestOfCells_25] at h
                  refine lv_iload hx hb dX6_digestOfCells_25 (lv_at hl 5 rfl) ?_
                  refine lv_iconst (v := 5) hx hb dX6_digestOfCells_27 (by decide) ?_
                  refine mg_icmp_ge (tgt := 55) hx hb h dX6_digestOfCells_28 (by decide) (fun h => ?_) (fun h => ?_)
                  · cases h
                    exact kc H locs ls hw (lv_sub hl [0, 1, 2, 3, 4, 5] rfl)
                  · refine lv_lload_n hx hb dX6_digestOfCells_31 rfl (lv_at hl 2 rfl) ?_
                    refine lv_ldc2 (v := 31) hx hb hown w0_ dX6_digestOfCells_32 ?_
                    refine lv_lmul hx hb dX6_digestOfCells_35 ?_
                    refine lv_aload_n hx hb dX6_digestOfCells_36 rfl (lv_at hl 0 rfl) ?_
                    refine lv_iload hx hb dX6_digestOfCells_37 (lv_at hl 4 rfl) ?_
                    refine lv_iload hx hb dX6_digestOfCells_39 (lv_at hl 3 rfl) ?_
                    refine lv_iload hx hb dX6_digestOfCells_41 (lv_at hl 5 rfl) ?_
                    refine mg_kxq (wd := mg_cW g cI cZ) h (fun v : Int32 => some (.int v)) (fun mc9 ms9 o9 s9 hm9 h9 hc9 hs9 => vx_runV (As := [.int x6_15, .int x5_5, .int x7_25]) (rest := [.long (x3_25 * 31)]) G9 (k_X6_cell l hst D o cI cZ g H.size s25_ x6_15 x5_5 x7_25 o9 s9 h9 mc9 ms9 hm9) (cwV 3 hts gX6_digestOfCells_X6_cell rfl rfl rfl (by decide +kernel) ⟨Nat.le_of_ble_eq_true rfl, Nat.le_of_ble_eq_true rfl⟩) (mg_preV hK hO hA hw (q0 := 0) rfl rfl) rfl rfl hl.1 rfl (lv_room (Nat.le_of_ble_eq_true rfl)) dX6_digestOfCells_43 ⟨hc9, hs9⟩) hw hA (Nat.zero_le _) (Nat.zero_le _) (fun v4 s5 h H locs hw => ?_)
                    refine lv_i2l hx hb dX6_digestOfCells_46 rfl ?_
                    refine lv_ladd hx hb dX6_digestOfCells_47 ?_
                    refine lv_lstore_n (lv' := [(3, .long ((x3_25 * 31) + (Int32.toInt64 v4))), (0, .ref (g 0)), (1, .long x1), (5, .int x5_5), (6, .int x6_15), (7, .int x7_25)]) hx hb dX6_digestOfCells_48 rfl hl (by decide) rfl (fun ls hl => ?_)
                    refine lv_iinc (v := (x7_25 + 1)) (lv' := [(7, .int (x7_25 + 1)), (3, .long ((x3_25 * 31) + (Int32.toInt64 v4))), (0, .ref (g 0)), (1, .long x1), (5, .int x5_5), (6, .int x6_15)]) hx hb dX6_digestOfCells_49 hl (k := 5) rfl rfl (by decide) rfl (fun ls hl => ?_)
                    refine lv_goto (tgt := 25) hx hb dX6_digestOfCells_52 (by decide) ?_
                    exact ih _ _ _ _ h kc H locs ls hw (lv_sub hl [2, 3, 1, 4, 5, 0] rfl)
              obtain ⟨y3, h9_, h⟩ := mg_bind h
              refine L25_ _ _ _ _ _ h9_ (fun H locs ls hw hl => ?_) H locs ls hw (lv_sub hl [1, 2, 3, 4, 5, 0] rfl)
              clear L25_ h9_
              refine lv_iinc (v := (x6_15 + 1)) (lv' := [(6, .int (x6_15 + 1)), (0, .ref (g 0)), (1, .long x1), (3, .long y3.1), (5, .int x5_5), (7, .int y3.2.1)]) hx hb dX6_digestOfCells_55 hl (k := 4) rfl rfl (by decide) rfl (fun ls hl => ?_)
              refine lv_goto (tgt := 15) hx hb dX6_digestOfCells_58 (by decide) ?_
              exact ih _ _ _ _ h kc H locs ls hw (lv_sub hl [1, 2, 3, 4, 0] rfl)
        obtain ⟨y2, h9_, h⟩ := mg_bind h
        refine L15_ _ _ _ _ _ h9_ (fun H locs ls hw hl => ?_) H locs ls hw (lv_sub hl [1, 2, 3, 4, 0] rfl)
        clear L15_ h9_
        refine lv_iinc (v := (x5_5 + 1)) (lv' := [(5, .int (x5_5 + 1)), (0, .ref (g 0)), (1, .long x1), (3, .long y2.1), (6, .int y2.2.1)]) hx hb dX6_digestOfCells_61 hl (k := 3) rfl rfl (by decide) rfl (fun ls hl => ?_)
        refine lv_goto (tgt := 5) hx hb dX6_digestOfCells_64 (by decide) ?_
        exact ih _ _ _ _ h kc H locs ls hw (lv_sub hl [1, 2, 3, 0] rfl)
  obtain ⟨y1, h9_, h⟩ := mg_bind h
  refine L5_ _ _ _ _ _ h9_ (fun H locs ls hw hl => ?_) H locs ls hw (lv_sub hl [2, 3, 1, 0] rfl)
  clear L5_ h9_
  refine lv_lload_n hx hb dX6_digestOfCells_67 rfl (lv_at hl 2 rfl) ?_
  cases h
  exact mg_eL hx hb hr hlocks hw (Nat.zero_le _) (Nat.zero_le _) dX6_digestOfCells_68
set_option maxHeartbeats 4000000 in
set_option maxRecDepth 100000 in
theorem k_X6_digestOfCarps (l : Launch) (hst : l.stackTraces = false) (D : va_G) (o : Nat → Nat) (cI cZ : ClassId) (g : Nat → Nat) (sz : Nat) (σ : mg_St) (x1 : Int64) (y : (Int64 × mg_St)) (h : f_X6_digestOfCarps σ x1 = some y) : mg_CT l yX6_digestOfCarps wsX6_digestOfCarps ({ frames := 8, cells := 0, slots := 0, locals := 134 } : Room) D [(cI, .int), (cZ, .boolean)] o (mg_cW g cI cZ σ) sz [.ref (g 0), .long x1] (some (.long y.1)) (mg_cW g cI cZ y.2) 0 0 := by
  unfold mg_CT
  refine Met.ofW (cc := cX6_digestOfCarps) (maxL := 7) (ret := (some .long)) (by decide) rfl ?_
  intro p e s m args below meth c s₁ B hml hv
  obtain ⟨rfl, hsz, hP, hK, hD0, hO⟩ := hv
  have hx := B.exec
  have hb := B.bytes
  have hr := B.returns
  have hts := atoms_spec (ws := wsX6_digestOfCarps) B.pre
  have hown : s.vm.findClass RX6 = some m.cls := findClass_of_methodNamed B.named
  have hlocks := B.notSynchronized
  subst hsz
  have hD := hD0.self (sz := s.heap.size)
  generalize hAe : va_A (mg_cW g cI cZ σ) s.heap.size = A at hD hO ⊢
  have hA : ∀ q : Nat, s.heap.size ≤ q → A q := fun q h => by rw [← hAe]; exact Or.inr h
  have hw : mg_Wo D A s.heap s.heap [] (mg_cW g cI cZ σ) := ⟨hP, hD, va_S.rf⟩
  have G9 : CallFix p m c cX6_digestOfCarps 7 s ([.ref (g 0), .long x1] : List Value).toArray wsX6_digestOfCarps RX6 := ⟨hx, hb, hml, hown, hts⟩
  clear hP hD hD0 hAe
  obtain ⟨H, hHe⟩ : ∃ H : Heap, H = s.heap := ⟨_, rfl⟩
  have w0_ := hts (.fieldLink RX6 19 "MoonGate" "shoal" "LMoonGate$Shoal;") (by decide +kernel)
  have iX6_ : ∀ w ∈ wsX60, w ∈ wsX6_digestOfCarps := (fun _ h => List.mem_cons_of_mem _ (List.mem_append_left _ (List.mem_append_left _ (List.mem_append_left _ (List.mem_append_right _ h)))))
  have w2_ := hts (.fieldLink RX6 129 "MoonGate$Shoal" "came" "I") (by decide +kernel)
  have iX4_ : ∀ w ∈ wsX40, w ∈ wsX6_digestOfCarps := (fun _ h => List.mem_cons_of_mem _ (List.mem_append_left _ (List.mem_append_left _ (List.mem_append_right _ h))))
  have w4_ := hts (.constantLong RX6 264 31) (by decide +kernel)
  have hl := lv_entry ([.ref (g 0), .long x1]) (n := 7) (Nat.le_of_ble_eq_true rfl)
  rw [lg_entry_eq]
  generalize (lg_sl ([.ref (g 0), .long x1]) ++ List.replicate (7 - (lg_sl ([.ref (g 0), .long x1])).length) Slot.unset).toArray = ls at hl ⊢
  have hl : lv_has ls 7 [(0, .ref (g 0)), (1, .long x1)] := hl
  unfold f_X6_digestOfCarps at h
  revert hw
  intro hw
  suffices K_ : ∀ (H : Heap) (locs : List Loc), mg_Wo D A s.heap H locs (mg_cW g cI cZ σ) → W p l e (headSpec wsX6_digestOfCarps ({ frames := 8, cells := 0, slots := 0, locals := 134 } : Room)).room s m ([.ref (g 0), .long x1] : List Value).toArray below meth c H locs 0 0 (MQ below (mg_Q D (mg_cW g cI cZ y.2) A (some (.long y.1))) ([.ref (g 0), .long x1] : List Value).toArray s 0 0 A) (F0 m 0 ls []) from K_ _ _ hw
  clear hw hHe H
  intro H locs hw
  refine lv_lload_n hx hb dX6_digestOfCarps_0 rfl (lv_at hl 1 rfl) ?_
  refine lv_lstore_n (lv' := [(3, .long x1), (0, .ref (g 0)), (1, .long x1)]) hx hb dX6_digestOfCarps_1 rfl hl (by decide) rfl (fun ls hl => ?_)
  refine lv_iconst (v := 0) hx hb dX6_digestOfCarps_2 (by decide) ?_
  refine lv_istore (lv' := [(5, .int 0), (3, .long x1), (0, .ref (g 0)), (1, .long x1)]) hx hb dX6_digestOfCarps_3 hl (by decide) rfl (fun ls hl => ?_)
  have L5_ : ∀ (n : Nat) (x3_5 : Int64) (x5_5 : Int32) (s5_ : mg_St) (y5_ : Int64 × Int32 × mg_St), f_X6_digestOfCarps_5 x1 n x3_5 x5_5 s5_ = some y5_ → (∀ (H : Heap) (locs : List Loc) (ls : Array Slot), mg_Wo D A s.heap H locs (mg_cW g cI cZ y5_.2.2) → lv_has ls 7 [(0, .ref (g 0)), (1, .long x1), (3, .long y5_.1), (5, .int y5_.2.1)] → W p l e (headSpec wsX6_digestOfCarps ({ frames := 8, cells := 0, slots := 0, locals := 134 } : Room)).room s m ([.ref (g 0), .long x1] : List Value).toArray below meth c H locs 0 0 (MQ below (mg_Q D (mg_cW g cI cZ y.2) A (some (.long y.1))) ([.ref (g 0), .long x1] : List Value).toArray s 0 0 A) (F0 m 54 ls [])) → ∀ (H : Heap) (locs : List Loc) (ls : Array Slot), mg_Wo D A s.heap H locs (mg_cW g cI cZ s5_) → lv_has ls 7 [(0, .ref (g 0)), (1, .long x1), (3, .long x3_5), (5, .int x5_5)] → W p l e (headSpec wsX6_digestOfCarps ({ frames := 8, cells := 0, slots := 0, locals := 134 } : Room)).room s m ([.ref (g 0), .long x1] : List Value).toArray below meth c H locs 0 0 (MQ below (mg_Q D (mg_cW g cI cZ y.2) A (some (.long y.1))) ([.ref (g 0), .long x1] : List Value).toArray s 0 0 A) (F0 m 5 ls []) := by
    intro n
    induction n with
    | zero => intro x3_5 x5_5 s5_ y5_ h; rw [f_X6_digestOfCarps_5] at h; cases h
    | succ n ih =>
      intro x3_5 x5_5 s5_ y5_ h kc H locs ls hw hl
      rw [f_X6_digestOfCarps_5] at h
      refine lv_iload hx hb dX6_digestOfCarps_5 (lv_at hl 3 rfl) ?_
      refine lv_aload_n hx hb dX6_digestOfCarps_7 rfl (lv_at hl 0 rfl) ?_
      refine va_get (D := D) (ci := 6) (v := .ref (g 2)) (C := RX6) (T := TX6) (N := 7) hx hb hts iX6_ hown hK hw.1 0 rfl rfl 1 (by decide) w0_ (fun _ h9 => h9) rfl dX6_digestOfCarps_8 ?_
      refine va_get (D := D) (ci := 4) (v := .int (s5_ 2 2)) (C := RX4) (T := TX4) (N := 3) hx hb hts iX4_ hown hK hw.1 2 rfl rfl 2 (by decide) w2_ (fun _ h9 => h9) rfl dX6_digestOfCarps_11 ?_
      refine mg_icmp_ge (tgt := 54) hx hb h dX6_digestOfCarps_14 (by decide) (fun h => ?_) (fun h => ?_)
      · cases h
        exact kc H locs ls hw (lv_sub hl [0, 1, 2, 3] rfl)
      · refine lv_iconst (v := 0) hx hb dX6_digestOfCarps_17 (by decide) ?_
        refine lv_istore (lv' := [(6, .int 0), (0, .ref (g 0)), (1, .long x1), (3, .long x3_5), (5, .int x5_5)]) hx hb dX6_digestOfCarps_18 hl (by decide) rfl (fun ls hl => ?_)
        have L20_ : ∀ (n : Nat) (x3_20 : Int64) (x6_20 : Int32) (s20_ : mg_St) (y20_ : Int64 × Int32 × mg_St), f_X6_digestOfCarps_20 x1 x5_5 n x3_20 x6_20 s20_ = some y20_ → (∀ (H : Heap) (locs : List Loc) (ls : Array Slot), mg_Wo D A s.heap H locs (mg_cW g cI cZ y20_.2.2) → lv_has ls 7 [(0, .ref (g 0)), (1, .long x1), (3, .long y20_.1), (5, .int x5_5), (6, .int y20_.2.1)] → W p l e (headSpec wsX6_digestOfCarps ({ frames := 8, cells := 0, slots := 0, locals := 134 } : Room)).room s m ([.ref (g 0), .long x1] : List Value).toArray below meth c H locs 0 0 (MQ below (mg_Q D (mg_cW g cI cZ y.2) A (some (.long y.1))) ([.ref (g 0), .long x1] : List Value).toArray s 0 0 A) (F0 m 48 ls [])) → ∀ (H : Heap) (locs : List Loc) (ls : Array Slot), mg_Wo D A s.heap H locs (mg_cW g cI cZ s20_) → lv_has ls 7 [(0, .ref (g 0)), (1, .long x1), (3, .long x3_20), (5, .int x5_5), (6, .int x6_20)] → W p l e (headSpec wsX6_digestOfCarps ({ frames := 8, cells := 0, slots := 0, locals := 134 } : Room)).room s m ([.ref (g 0), .long x1] : List Value).toArray below meth c H locs 0 0 (MQ below (mg_Q D (mg_cW g cI cZ y.2) A (some (.long y.1))) ([.ref (g 0), .long x1] : List Value).toArray s 0 0 A) (F0 m 20 ls []) := by
          intro n
          induction n with
          | zero => intro x3_20 x6_20 s20_ y20_ h; rw [f_X6_digestOfCarps_20] at h; cases h
          | succ n ih =>
            intro x3_20 x6_20 s20_ y20_ h kc H locs ls hw hl
            rw [f_X6_digestOfCarps_20] at h
            refine lv_iload hx hb dX6_digestOfCarps_20 (lv_at hl 4 rfl) ?_
            refine lv_iconst (v := 5) hx hb dX6_digestOfCarps_22 (by decide) ?_
            refine mg_icmp_ge (tgt := 48) hx hb h dX6_digestOfCarps_23 (by decide) (fun h => ?_) (fun h => ?_)
            · cases h
              exact kc H locs ls hw (lv_sub hl [0, 1, 2, 3, 4] rfl)
            · refine lv_lload_n hx hb dX6_digestOfCarps_26 rfl (lv_at hl 2 rfl) ?_
              refine lv_ldc2 (v := 31) hx hb hown w4_ dX6_digestOfCarps_27 ?_
              refine lv_lmul hx hb dX6_digestOfCarps_30 ?_
              refine lv_aload_n hx hb dX6_digestOfCarps_31 rfl (lv_at hl 0 rfl) ?_
              refine lv_iload hx hb dX6_digestOfCarps_32 (lv_at hl 3 rfl) ?_
              refine lv_iload hx hb dX6_digestOfCarps_34 (lv_at hl 4 rfl) ?_
              refine mg_kxq (wd := mg_cW g cI cZ) h (fun v : Int32 => some (.int v)) (fun mc9 ms9 o9 s9 hm9 h9 hc9 hs9 => vx_runV (As := [.int x5_5, .int x6_20]) (rest := [.long (x3_20 * 31)]) G9 (k_X6_told l hst D o cI cZ g H.size s20_ x5_5 x6_20 o9 s9 h9 mc9 ms9 hm9) (cwV 2 hts gX6_digestOfCarps_X6_told rfl rfl rfl (by decide +kernel) ⟨Nat.le_of_ble_eq_true rfl, Nat.le_of_ble_eq_true rfl⟩) (mg_preV hK hO hA hw (q0 := 0) rfl rfl) rfl rfl hl.1 rfl (lv_room (Nat.le_of_ble_eq_true rfl)) dX6_digestOfCarps_36 ⟨hc9, hs9⟩) hw hA (Nat.zero_le _) (Nat.zero_le _) (fun v3 s4 h H locs hw => ?_)
              refine lv_i2l hx hb dX6_digestOfCarps_39 rfl ?_
              refine lv_ladd hx hb dX6_digestOfCarps_40 ?_
              refine lv_lstore_n (lv' := [(3, .long ((x3_20 * 31) + (Int32.toInt64 v3))), (0, .ref (g 0)), (1, .long x1), (5, .int x5_5), (6, .int x6_20)]) hx hb dX6_digestOfCarps_41 rfl hl (by decide) rfl (fun ls hl => ?_)
              refine lv_iinc (v := (x6_20 + 1)) (lv' := [(6, .int (x6_20 + 1)), (3, .long ((x3_20 * 31) + (Int32.toInt64 v3))), (0, .ref (g 0)), (1, .long x1), (5, .int x5_5)]) hx hb dX6_digestOfCarps_42 hl (k := 4) rfl rfl (by decide) rfl (fun ls hl => ?_)
              refine lv_goto (tgt := 20) hx hb dX6_digestOfCarps_45 (by decide) ?_
              exact ih _ _ _ _ h kc H locs ls hw (lv_sub hl [2, 3, 1, 4, 0] rfl)
        obtain ⟨y2, h9_, h⟩ := mg_bind h
        refine L20_ _ _ _ _ _ h9_ (fun H locs ls hw hl => ?_) H locs ls hw (lv_sub hl [1, 2, 3, 4, 0] rfl)
        clear L20_ h9_
        refine lv_iinc (v := (x5_5 + 1)) (lv' := [(5, .int (x5_5 + 1)), (0, .ref (g 0)), (1, .long x1), (3, .long y2.1), (6, .int y2.2.1)]) hx hb dX6_digestOfCarps_48 hl (k := 3) rfl rfl (by decide) rfl (fun ls hl => ?_)
        refine lv_goto (tgt := 5) hx hb dX6_digestOfCarps_51 (by decide) ?_
        exact ih _ _ _ _ h kc H locs ls hw (lv_sub hl [1, 2, 3, 0] rfl)
  obtain ⟨y1, h9_, h⟩ := mg_bind h
  refine L5_ _ _ _ _ _ h9_ (fun H locs ls hw hl => ?_) H locs ls hw (lv_sub hl [2, 3, 1, 0] rfl)
  clear L5_ h9_
  refine lv_lload_n hx hb dX6_digestOfCarps_54 rfl (lv_at hl 2 rfl) ?_
  cases h
  exact mg_eL hx hb hr hlocks hw (Nat.zero_le _) (Nat.zero_le _) dX6_digestOfCarps_55
set_option maxHeartbeats 4000000 in
set_option maxRecDepth 100000 in
theorem k_X6_digestOfGates (l : Launch) (hst : l.stackTraces = false) (D : va_G) (o : Nat → Nat) (cI cZ : ClassId) (g : Nat → Nat) (sz : Nat) (σ : mg_St) (x1 : Int64) (y : (Int64 × mg_St)) (h : f_X6_digestOfGates σ x1 = some y) : mg_CT l yX6_digestOfGates wsX6_digestOfGates ({ frames := 8, cells := 0, slots := 0, locals := 134 } : Room) D [(cI, .int), (cZ, .boolean)] o (mg_cW g cI cZ σ) sz [.ref (g 0), .long x1] (some (.long y.1)) (mg_cW g cI cZ y.2) 0 0 := by
  unfold mg_CT
  refine Met.ofW (cc := cX6_digestOfGates) (maxL := 7) (ret := (some .long)) (by decide) rfl ?_
  intro p e s m args below meth c s₁ B hml hv
  obtain ⟨rfl, hsz, hP, hK, hD0, hO⟩ := hv
  have hx := B.exec
  have hb := B.bytes
  have hr := B.returns
  have hts := atoms_spec (ws := wsX6_digestOfGates) B.pre
  have hown : s.vm.findClass RX6 = some m.cls := findClass_of_methodNamed B.named
  have hlocks := B.notSynchronized
  subst hsz
  have hD := hD0.self (sz := s.heap.size)
  generalize hAe : va_A (mg_cW g cI cZ σ) s.heap.size = A at hD hO ⊢
  have hA : ∀ q : Nat, s.heap.size ≤ q → A q := fun q h => by rw [← hAe]; exact Or.inr h
  have hw : mg_Wo D A s.heap s.heap [] (mg_cW g cI cZ σ) := ⟨hP, hD, va_S.rf⟩
  have G9 : CallFix p m c cX6_digestOfGates 7 s ([.ref (g 0), .long x1] : List Value).toArray wsX6_digestOfGates RX6 := ⟨hx, hb, hml, hown, hts⟩
  clear hP hD hD0 hAe
  obtain ⟨H, hHe⟩ : ∃ H : Heap, H = s.heap := ⟨_, rfl⟩
  have w0_ := hts (.fieldLink RX6 26 "MoonGate" "gates" "LMoonGate$Gates;") (by decide +kernel)
  have iX6_ : ∀ w ∈ wsX60, w ∈ wsX6_digestOfGates := (fun _ h => List.mem_cons_of_mem _ (List.mem_append_left _ (List.mem_append_left _ (List.mem_append_left _ (List.mem_append_left _ (List.mem_append_left _ (List.mem_append_left _ (List.mem_append_left _ (List.mem_append_right _ h)))))))))
  have w2_ := hts (.fieldLink RX6 171 "MoonGate$Gates" "many" "I") (by decide +kernel)
  have iX2_ : ∀ w ∈ wsX20, w ∈ wsX6_digestOfGates := (fun _ h => List.mem_cons_of_mem _ (List.mem_append_left _ (List.mem_append_left _ (List.mem_append_left _ (List.mem_append_left _ (List.mem_append_left _ (List.mem_append_left _ (List.mem_append_right _ h))))))))
  have w4_ := hts (.constantLong RX6 264 31) (by decide +kernel)
  have hl := lv_entry ([.ref (g 0), .long x1]) (n := 7) (Nat.le_of_ble_eq_true rfl)
  rw [lg_entry_eq]
  generalize (lg_sl ([.ref (g 0), .long x1]) ++ List.replicate (7 - (lg_sl ([.ref (g 0), .long x1])).length) Slot.unset).toArray = ls at hl ⊢
  have hl : lv_has ls 7 [(0, .ref (g 0)), (1, .long x1)] := hl
  unfold f_X6_digestOfGates at h
  revert hw
  intro hw
  suffices K_ : ∀ (H : Heap) (locs : List Loc), mg_Wo D A s.heap H locs (mg_cW g cI cZ σ) → W p l e (headSpec wsX6_digestOfGates ({ frames := 8, cells := 0, slots := 0, locals := 134 } : Room)).room s m ([.ref (g 0), .long x1] : List Value).toArray below meth c H locs 0 0 (MQ below (mg_Q D (mg_cW g cI cZ y.2) A (some (.long y.1))) ([.ref (g 0), .long x1] : List Value).toArray s 0 0 A) (F0 m 0 ls []) from K_ _ _ hw
  clear hw hHe H
  intro H locs hw
  refine lv_lload_n hx hb dX6_digestOfGates_0 rfl (lv_at hl 1 rfl) ?_
  refine lv_lstore_n (lv' := [(3, .long x1), (0, .ref (g 0)), (1, .long x1)]) hx hb dX6_digestOfGates_1 rfl hl (by decide) rfl (fun ls hl => ?_)
  refine lv_iconst (v := 0) hx hb dX6_digestOfGates_2 (by decide) ?_
  refine lv_istore (lv' := [(5, .int 0), (3, .long x1), (0, .ref (g 0)), (1, .long x1)]) hx hb dX6_digestOfGates_3 hl (by decide) rfl (fun ls hl => ?_)
  have L5_ : ∀ (n : Nat) (x3_5 : Int64) (x5_5 : Int32) (s5_ : mg_St) (y5_ : Int64 × Int32 × mg_St), f_X6_digestOfGates_5 x1 n x3_5 x5_5 s5_ = some y5_ → (∀ (H : Heap) (locs : List Loc) (ls : Array Slot), mg_Wo D A s.heap H locs (mg_cW g cI cZ y5_.2.2) → lv_has ls 7 [(0, .ref (g 0)), (1, .long x1), (3, .long y5_.1), (5, .int y5_.2.1)] → W p l e (headSpec wsX6_digestOfGates ({ frames := 8, cells := 0, slots := 0, locals := 134 } : Room)).room s m ([.ref (g 0), .long x1] : List Value).toArray below meth c H locs 0 0 (MQ below (mg_Q D (mg_cW g cI cZ y.2) A (some (.long y.1))) ([.ref (g 0), .long x1] : List Value).toArray s 0 0 A) (F0 m 54 ls [])) → ∀ (H : Heap) (locs : List Loc) (ls : Array Slot), mg_Wo D A s.heap H locs (mg_cW g cI cZ s5_) → lv_has ls 7 [(0, .ref (g 0)), (1, .long x1), (3, .long x3_5), (5, .int x5_5)] → W p l e (headSpec wsX6_digestOfGates ({ frames := 8, cells := 0, slots := 0, locals := 134 } : Room)).room s m ([.ref (g 0), .long x1] : List Value).toArray below meth c H locs 0 0 (MQ below (mg_Q D (mg_cW g cI cZ y.2) A (some (.long y.1))) ([.ref (g 0), .long x1] : List Value).toArray s 0 0 A) (F0 m 5 ls []) := by
    intro n
    induction n with
    | zero => intro x3_5 x5_5 s5_ y5_ h; rw [f_X6_digestOfGates_5] at h; cases h
    | succ n ih =>
      intro x3_5 x5_5 s5_ y5_ h kc H locs ls hw hl
      rw [f_X6_digestOfGates_5] at h
      refine lv_iload hx hb dX6_digestOfGates_5 (lv_at hl 3 rfl) ?_
      refine lv_aload_n hx hb dX6_digestOfGates_7 rfl (lv_at hl 0 rfl) ?_
      refine va_get (D := D) (ci := 6) (v := .ref (g 3)) (C := RX6) (T := TX6) (N := 7) hx hb hts iX6_ hown hK hw.1 0 rfl rfl 2 (by decide) w0_ (fun _ h9 => h9) rfl dX6_digestOfGates_8 ?_
      refine va_get (D := D) (ci := 2) (v := .int (s5_ 3 2)) (C := RX2) (T := TX2) (N := 3) hx hb hts iX2_ hown hK hw.1 3 rfl rfl 2 (by decide) w2_ (fun _ h9 => h9) rfl dX6_digestOfGates_11 ?_
      refine mg_icmp_ge (tgt := 54) hx hb h dX6_digestOfGates_14 (by decide) (fun h => ?_) (fun h => ?_)
      · cases h
        exact kc H locs ls hw (lv_sub hl [0, 1, 2, 3] rfl)
      · refine lv_iconst (v := 0) hx hb dX6_digestOfGates_17 (by decide) ?_
        refine lv_istore (lv' := [(6, .int 0), (0, .ref (g 0)), (1, .long x1), (3, .long x3_5), (5, .int x5_5)]) hx hb dX6_digestOfGates_18 hl (by decide) rfl (fun ls hl => ?_)
        have L20_ : ∀ (n : Nat) (x3_20 : Int64) (x6_20 : Int32) (s20_ : mg_St) (y20_ : Int64 × Int32 × mg_St), f_X6_digestOfGates_20 x1 x5_5 n x3_20 x6_20 s20_ = some y20_ → (∀ (H : Heap) (locs : List Loc) (ls : Array Slot), mg_Wo D A s.heap H locs (mg_cW g cI cZ y20_.2.2) → lv_has ls 7 [(0, .ref (g 0)), (1, .long x1), (3, .long y20_.1), (5, .int x5_5), (6, .int y20_.2.1)] → W p l e (headSpec wsX6_digestOfGates ({ frames := 8, cells := 0, slots := 0, locals := 134 } : Room)).room s m ([.ref (g 0), .long x1] : List Value).toArray below meth c H locs 0 0 (MQ below (mg_Q D (mg_cW g cI cZ y.2) A (some (.long y.1))) ([.ref (g 0), .long x1] : List Value).toArray s 0 0 A) (F0 m 48 ls [])) → ∀ (H : Heap) (locs : List Loc) (ls : Array Slot), mg_Wo D A s.heap H locs (mg_cW g cI cZ s20_) → lv_has ls 7 [(0, .ref (g 0)), (1, .long x1), (3, .long x3_20), (5, .int x5_5), (6, .int x6_20)] → W p l e (headSpec wsX6_digestOfGates ({ frames := 8, cells := 0, slots := 0, locals := 134 } : Room)).room s m ([.ref (g 0), .long x1] : List Value).toArray below meth c H locs 0 0 (MQ below (mg_Q D (mg_cW g cI cZ y.2) A (some (.long y.1))) ([.ref (g 0), .long x1] : List Value).toArray s 0 0 A) (F0 m 20 ls []) := by
          intro n
          induction n with
          | zero => intro x3_20 x6_20 s20_ y20_ h; rw [f_X6_digestOfGates_20] at h; cases h
          | succ n ih =>
            intro x3_20 x6_20 s20_ y20_ h kc H locs ls hw hl
            rw [f_X6_digestOfGates_20] at h
            refine lv_iload hx hb dX6_digestOfGates_20 (lv_at hl 4 rfl) ?_
            refine lv_iconst (v := 5) hx hb dX6_digestOfGates_22 (by decide) ?_
            refine mg_icmp_ge (tgt := 48) hx hb h dX6_digestOfGates_23 (by decide) (fun h => ?_) (fun h => ?_)
            · cases h
              exact kc H locs ls hw (lv_sub hl [0, 1, 2, 3, 4] rfl)
            · refine lv_lload_n hx hb dX6_digestOfGates_26 rfl (lv_at hl 2 rfl) ?_
              refine lv_ldc2 (v := 31) hx hb hown w4_ dX6_digestOfGates_27 ?_
              refine lv_lmul hx hb dX6_digestOfGates_30 ?_
              refine lv_aload_n hx hb dX6_digestOfGates_31 rfl (lv_at hl 0 rfl) ?_
              refine lv_iload hx hb dX6_digestOfGates_32 (lv_at hl 3 rfl) ?_
              refine lv_iload hx hb dX6_digestOfGates_34 (lv_at hl 4 rfl) ?_
              refine mg_kxq (wd := mg_cW g cI cZ) h (fun v : Int32 => some (.int v)) (fun mc9 ms9 o9 s9 hm9 h9 hc9 hs9 => vx_runV (As := [.int x5_5, .int x6_20]) (rest := [.long (x3_20 * 31)]) G9 (k_X6_about l hst D o cI cZ g H.size s20_ x5_5 x6_20 o9 s9 h9 mc9 ms9 hm9) (cwV 2 hts gX6_digestOfGates_X6_about rfl rfl rfl (by decide +kernel) ⟨Nat.le_of_ble_eq_true rfl, Nat.le_of_ble_eq_true rfl⟩) (mg_preV hK hO hA hw (q0 := 0) rfl rfl) rfl rfl hl.1 rfl (lv_room (Nat.le_of_ble_eq_true rfl)) dX6_digestOfGates_36 ⟨hc9, hs9⟩) hw hA (Nat.zero_le _) (Nat.zero_le _) (fun v3 s4 h H locs hw => ?_)
              refine lv_i2l hx hb dX6_digestOfGates_39 rfl ?_
              refine lv_ladd hx hb dX6_digestOfGates_40 ?_
              refine lv_lstore_n (lv' := [(3, .long ((x3_20 * 31) + (Int32.toInt64 v3))), (0, .ref (g 0)), (1, .long x1), (5, .int x5_5), (6, .int x6_20)]) hx hb dX6_digestOfGates_41 rfl hl (by decide) rfl (fun ls hl => ?_)
              refine lv_iinc (v := (x6_20 + 1)) (lv' := [(6, .int (x6_20 + 1)), (3, .long ((x3_20 * 31) + (Int32.toInt64 v3))), (0, .ref (g 0)), (1, .long x1), (5, .int x5_5)]) hx hb dX6_digestOfGates_42 hl (k := 4) rfl rfl (by decide) rfl (fun ls hl => ?_)
              refine lv_goto (tgt := 20) hx hb dX6_digestOfGates_45 (by decide) ?_
              exact ih _ _ _ _ h kc H locs ls hw (lv_sub hl [2, 3, 1, 4, 0] rfl)
        obtain ⟨y2, h9_, h⟩ := mg_bind h
        refine L20_ _ _ _ _ _ h9_ (fun H locs ls hw hl => ?_) H locs ls hw (lv_sub hl [1, 2, 3, 4, 0] rfl)
        clear L20_ h9_
        refine lv_iinc (v := (x5_5 + 1)) (lv' := [(5, .int (x5_5 + 1)), (0, .ref (g 0)), (1, .long x1), (3, .long y2.1), (6, .int y2.2.1)]) hx hb dX6_digestOfGates_48 hl (k := 3) rfl rfl (by decide) rfl (fun ls hl => ?_)
        refine lv_goto (tgt := 5) hx hb dX6_digestOfGates_51 (by decide) ?_
        exact ih _ _ _ _ h kc H locs ls hw (lv_sub hl [1, 2, 3, 0] rfl)
  obtain ⟨y1, h9_, h⟩ := mg_bind h
  refine L5_ _ _ _ _ _ h9_ (fun H locs ls hw hl => ?_) H locs ls hw (lv_sub hl [2, 3, 1, 0] rfl)
  clear L5_ h9_
  refine lv_lload_n hx hb dX6_digestOfGates_54 rfl (lv_at hl 2 rfl) ?_
  cases h
  exact mg_eL hx hb hr hlocks hw (Nat.zero_le _) (Nat.zero_le _) dX6_digestOfGates_55
set_option maxHeartbeats 4000000 in
set_option maxRecDepth 100000 in
theorem k_X6_digest (l : Launch) (hst : l.stackTraces = false) (D : va_G) (o : Nat → Nat) (cI cZ : ClassId) (g : Nat → Nat) (sz : Nat) (σ : mg_St)  (y : (Int64 × mg_St)) (h : f_X6_digest σ  = some y) : mg_CT l yX6_digest wsX6_digest ({ frames := 9, cells := 0, slots := 0, locals := 163 } : Room) D [(cI, .int), (cZ, .boolean)] o (mg_cW g cI cZ σ) sz [.ref (g 0)] (some (.long y.1)) (mg_cW g cI cZ y.2) 0 0 := by
  unfold mg_CT
  refine Met.ofW (cc := cX6_digest) (maxL := 4) (ret := (some .long)) (by decide) rfl ?_
  intro p e s m args below meth c s₁ B hml hv
  obtain ⟨rfl, hsz, hP, hK, hD0, hO⟩ := hv
  have hx := B.exec
  have hb := B.bytes
  have hr := B.returns
  have hts := atoms_spec (ws := wsX6_digest) B.pre
  have hown : s.vm.findClass RX6 = some m.cls := findClass_of_methodNamed B.named
  have hlocks := B.notSynchronized
  subst hsz
  have hD := hD0.self (sz := s.heap.size)
  generalize hAe : va_A (mg_cW g cI cZ σ) s.heap.size = A at hD hO ⊢
  have hA : ∀ q : Nat, s.heap.size ≤ q → A q := fun q h => by rw [← hAe]; exact Or.inr h
  have hw : mg_Wo D A s.heap s.heap [] (mg_cW g cI cZ σ) := ⟨hP, hD, va_S.rf⟩
  have G9 : CallFix p m c cX6_digest 4 s ([.ref (g 0)] : List Value).toArray wsX6_digest RX6 := ⟨hx, hb, hml, hown, hts⟩
  clear hP hD hD0 hAe
  obtain ⟨H, hHe⟩ : ∃ H : Heap, H = s.heap := ⟨_, rfl⟩
  have w0_ := hts (.constantLong RX6 262 1193) (by decide +kernel)
  have w1_ := hts (.constantLong RX6 264 31) (by decide +kernel)
  have w2_ := hts (.fieldLink RX6 33 "MoonGate" "poets" "LMoonGate$Poets;") (by decide +kernel)
  have iX6_ : ∀ w ∈ wsX60, w ∈ wsX6_digest := (fun _ h => List.mem_cons_of_mem _ (List.mem_append_left _ (List.mem_append_left _ (List.mem_append_left _ (List.mem_append_left _ (List.mem_append_left _ (List.mem_append_left _ (List.mem_append_left _ (List.mem_append_right _ h)))))))))
  have w4_ := hts (.fieldLink RX6 200 "MoonGate$Poets" "many" "I") (by decide +kernel)
  have iX3_ : ∀ w ∈ wsX30, w ∈ wsX6_digest := (fun _ h => List.mem_cons_of_mem _ (List.mem_append_left _ (List.mem_append_left _ (List.mem_append_left _ (List.mem_append_left _ (List.mem_append_left _ (List.mem_append_left _ (List.mem_append_right _ h))))))))
  have hl := lv_entry ([.ref (g 0)]) (n := 4) (Nat.le_of_ble_eq_true rfl)
  rw [lg_entry_eq]
  generalize (lg_sl ([.ref (g 0)]) ++ List.replicate (4 - (lg_sl ([.ref (g 0)])).length) Slot.unset).toArray = ls at hl ⊢
  have hl : lv_has ls 4 [(0, .ref (g 0))] := hl
  unfold f_X6_digest at h
  revert hw
  intro hw
  suffices K_ : ∀ (H : Heap) (locs : List Loc), mg_Wo D A s.heap H locs (mg_cW g cI cZ σ) → W p l e (headSpec wsX6_digest ({ frames := 9, cells := 0, slots := 0, locals := 163 } : Room)).room s m ([.ref (g 0)] : List Value).toArray below meth c H locs 0 0 (MQ below (mg_Q D (mg_cW g cI cZ y.2) A (some (.long y.1))) ([.ref (g 0)] : List Value).toArray s 0 0 A) (F0 m 0 ls []) from K_ _ _ hw
  clear hw hHe H
  intro H locs hw
  refine lv_ldc2 (v := 1193) hx hb hown w0_ dX6_digest_0 ?_
  refine lv_lstore_n (lv' := [(1, .long 1193), (0, .ref (g 0))]) hx hb dX6_digest_3 rfl hl (by decide) rfl (fun ls hl => ?_)
  refine lv_iconst (v := 0) hx hb dX6_digest_4 (by decide) ?_
  refine lv_istore_n (lv' := [(3, .int 0), (1, .long 1193), (0, .ref (g 0))]) hx hb dX6_digest_5 rfl hl (by decide) rfl (fun ls hl => ?_)
  have L6_ : ∀ (n : Nat) (x1_6 : Int64) (x3_6 : Int32) (s6_ : mg_St) (y6_ : Int64 × Int32 × mg_St), f_X6_digest_6  n x1_6 x3_6 s6_ = some y6_ → (∀ (H : Heap) (locs : List Loc) (ls : Array Slot), mg_Wo D A s.heap H locs (mg_cW g cI cZ y6_.2.2) → lv_has ls 4 [(0, .ref (g 0)), (1, .long y6_.1), (3, .int y6_.2.1)] → W p l e (headSpec wsX6_digest ({ frames := 9, cells := 0, slots := 0, locals := 163 } : Room)).room s m ([.ref (g 0)] : List Value).toArray below meth c H locs 0 0 (MQ below (mg_Q D (mg_cW g cI cZ y.2) A (some (.long y.1))) ([.ref (g 0)] : List Value).toArray s 0 0 A) (F0 m 31 ls [])) → ∀ (H : Heap) (locs : List Loc) (ls : Array Slot), mg_Wo D A s.heap H locs (mg_cW g cI cZ s6_) → lv_has ls 4 [(0, .ref (g 0)), (1, .long x1_6), (3, .int x3_6)] → W p l e (headSpec wsX6_digest ({ frames := 9, cells := 0, slots := 0, locals := 163 } : Room)).room s m ([.ref (g 0)] : List Value).toArray below meth c H locs 0 0 (MQ below (mg_Q D (mg_cW g cI cZ y.2) A (some (.long y.1))) ([.ref (g 0)] : List Value).toArray s 0 0 A) (F0 m 6 ls []) := by
    intro n
    induction n with
    | zero => intro x1_6 x3_6 s6_ y6_ h; rw [f_X6_digest_6] at h; cases h
    | succ n ih =>
      intro x1_6 x3_6 s6_ y6_ h kc H locs ls hw hl
      rw [f_X6_digest_6] at h
      refine lv_iload_n hx hb dX6_digest_6 rfl (lv_at hl 2 rfl) ?_
      refine lv_bipush (v := 11) hx hb dX6_digest_7 (by decide) ?_
      refine mg_icmp_ge (tgt := 31) hx hb h dX6_digest_9 (by decide) (fun h => ?_) (fun h => ?_)
      · cases h
        exact kc H locs ls hw (lv_sub hl [0, 1, 2] rfl)
      · refine lv_lload_n hx hb dX6_digest_12 rfl (lv_at hl 1 rfl) ?_
        refine lv_ldc2 (v := 31) hx hb hown w1_ dX6_digest_13 ?_
        refine lv_lmul hx hb dX6_digest_16 ?_
        refine lv_aload_n hx hb dX6_digest_17 rfl (lv_at hl 0 rfl) ?_
        refine lv_iload_n hx hb dX6_digest_18 rfl (lv_at hl 2 rfl) ?_
        refine mg_kxq (wd := mg_cW g cI cZ) h (fun v : Int32 => some (.int v)) (fun mc9 ms9 o9 s9 hm9 h9 hc9 hs9 => vx_runV (As := [.int x3_6]) (rest := [.long (x1_6 * 31)]) G9 (k_X6_count l hst D o cI cZ g H.size s6_ x3_6 o9 s9 h9 mc9 ms9 hm9) (cwV 1 hts gX6_digest_X6_count rfl rfl rfl (by decide +kernel) ⟨Nat.le_of_ble_eq_true rfl, Nat.le_of_ble_eq_true rfl⟩) (mg_preV hK hO hA hw (q0 := 0) rfl rfl) rfl rfl hl.1 rfl (lv_room (Nat.le_of_ble_eq_true rfl)) dX6_digest_19 ⟨hc9, hs9⟩) hw hA (Nat.zero_le _) (Nat.zero_le _) (fun v2 s3 h H locs hw => ?_)
        refine lv_i2l hx hb dX6_digest_22 rfl ?_
        refine lv_ladd hx hb dX6_digest_23 ?_
        refine lv_lstore_n (lv' := [(1, .long ((x1_6 * 31) + (Int32.toInt64 v2))), (0, .ref (g 0)), (3, .int x3_6)]) hx hb dX6_digest_24 rfl hl (by decide) rfl (fun ls hl => ?_)
        refine lv_iinc (v := (x3_6 + 1)) (lv' := [(3, .int (x3_6 + 1)), (1, .long ((x1_6 * 31) + (Int32.toInt64 v2))), (0, .ref (g 0))]) hx hb dX6_digest_25 hl (k := 2) rfl rfl (by decide) rfl (fun ls hl => ?_)
        refine lv_goto (tgt := 6) hx hb dX6_digest_28 (by decide) ?_
        exact ih _ _ _ _ h kc H locs ls hw (lv_sub hl [2, 1, 0] rfl)
  obtain ⟨y1, h9_, h⟩ := mg_bind h
  refine L6_ _ _ _ _ _ h9_ (fun H locs ls hw hl => ?_) H locs ls hw (lv_sub hl [2, 1, 0] rfl)
  clear L6_ h9_
  refine lv_aload_n hx hb dX6_digest_31 rfl (lv_at hl 0 rfl) ?_
  refine lv_lload_n hx hb dX6_digest_32 rfl (lv_at hl 1 rfl) ?_
  obtain ⟨y4, h9_, h⟩ := mg_bind h
  refine mg_k (rv := (some (.long y4.1))) (va_runV (As := [.long y1.1]) (rest := []) G9 (k_X6_digestOfCells l hst D o cI cZ g H.size y1.2.2 y1.1 y4 h9_) (cwV 1 hts gX6_digest_X6_digestOfCells rfl rfl rfl (by decide +kernel) ⟨Nat.le_of_ble_eq_true rfl, Nat.le_of_ble_eq_true rfl⟩) (mg_preV hK hO hA hw (q0 := 0) rfl rfl) rfl rfl hl.1 rfl (lv_room (Nat.le_of_ble_eq_true rfl)) dX6_digest_33 ⟨Nat.zero_le _, Nat.zero_le _⟩) hw hA (fun H locs hw => ?_)
  clear h9_
  refine lv_lstore_n (lv' := [(1, .long y4.1), (0, .ref (g 0)), (3, .int y1.2.1)]) hx hb dX6_digest_36 rfl hl (by decide) rfl (fun ls hl => ?_)
  refine lv_aload_n hx hb dX6_digest_37 rfl (lv_at hl 1 rfl) ?_
  refine lv_lload_n hx hb dX6_digest_38 rfl (lv_at hl 0 rfl) ?_
  obtain ⟨y5, h9_, h⟩ := mg_bind h
  refine mg_k (rv := (some (.long y5.1))) (va_runV (As := [.long y4.1]) (rest := []) G9 (k_X6_digestOfCarps l hst D o cI cZ g H.size y4.2 y4.1 y5 h9_) (cwV 1 hts gX6_digest_X6_digestOfCarps rfl rfl rfl (by decide +kernel) ⟨Nat.le_of_ble_eq_true rfl, Nat.le_of_ble_eq_true rfl⟩) (mg_preV hK hO hA hw (q0 := 0) rfl rfl) rfl rfl hl.1 rfl (lv_room (Nat.le_of_ble_eq_true rfl)) dX6_digest_39 ⟨Nat.zero_le _, Nat.zero_le _⟩) hw hA (fun H locs hw => ?_)
  clear h9_
  refine lv_lstore_n (lv' := [(1, .long y5.1), (0, .ref (g 0)), (3, .int y1.2.1)]) hx hb dX6_digest_42 rfl hl (by decide) rfl (fun ls hl => ?_)
  refine lv_aload_n hx hb dX6_digest_43 rfl (lv_at hl 1 rfl) ?_
  refine lv_lload_n hx hb dX6_digest_44 rfl (lv_at hl 0 rfl) ?_
  obtain ⟨y6, h9_, h⟩ := mg_bind h
  refine mg_k (rv := (some (.long y6.1))) (va_runV (As := [.long y5.1]) (rest := []) G9 (k_X6_digestOfGates l hst D o cI cZ g H.size y5.2 y5.1 y6 h9_) (cwV 1 hts gX6_digest_X6_digestOfGates rfl rfl rfl (by decide +kernel) ⟨Nat.le_of_ble_eq_true rfl, Nat.le_of_ble_eq_true rfl⟩) (mg_preV hK hO hA hw (q0 := 0) rfl rfl) rfl rfl hl.1 rfl (lv_room (Nat.le_of_ble_eq_true rfl)) dX6_digest_45 ⟨Nat.zero_le _, Nat.zero_le _⟩) hw hA (fun H locs hw => ?_)
  clear h9_
  refine lv_lstore_n (lv' := [(1, .long y6.1), (0, .ref (g 0)), (3, .int y1.2.1)]) hx hb dX6_digest_48 rfl hl (by decide) rfl (fun ls hl => ?_)
  refine lv_iconst (v := 0) hx hb dX6_digest_49 (by decide) ?_
  refine lv_istore_n (lv' := [(3, .int 0), (1, .long y6.1), (0, .ref (g 0))]) hx hb dX6_digest_50 rfl hl (by decide) rfl (fun ls hl => ?_)
  have L51_ : ∀ (n : Nat) (x1_51 : Int64) (x3_51 : Int32) (s51_ : mg_St) (y51_ : Int64 × Int32 × mg_St), f_X6_digest_51  n x1_51 x3_51 s51_ = some y51_ → (∀ (H : Heap) (locs : List Loc) (ls : Array Slot), mg_Wo D A s.heap H locs (mg_cW g cI cZ y51_.2.2) → lv_has ls 4 [(0, .ref (g 0)), (1, .long y51_.1), (3, .int y51_.2.1)] → W p l e (headSpec wsX6_digest ({ frames := 9, cells := 0, slots := 0, locals := 163 } : Room)).room s m ([.ref (g 0)] : List Value).toArray below meth c H locs 0 0 (MQ below (mg_Q D (mg_cW g cI cZ y.2) A (some (.long y.1))) ([.ref (g 0)] : List Value).toArray s 0 0 A) (F0 m 81 ls [])) → ∀ (H : Heap) (locs : List Loc) (ls : Array Slot), mg_Wo D A s.heap H locs (mg_cW g cI cZ s51_) → lv_has ls 4 [(0, .ref (g 0)), (1, .long x1_51), (3, .int x3_51)] → W p l e (headSpec wsX6_digest ({ frames := 9, cells := 0, slots := 0, locals := 163 } : Room)).room s m ([.ref (g 0)] : List Value).toArray below meth c H locs 0 0 (MQ below (mg_Q D (mg_cW g cI cZ y.2) A (some (.long y.1))) ([.ref (g 0)] : List Value).toArray s 0 0 A) (F0 m 51 ls []) := by
    intro n
    induction n with
    | zero => intro x1_51 x3_51 s51_ y51_ h; rw [f_X6_digest_51] at h; cases h
    | succ n ih =>
      intro x1_51 x3_51 s51_ y51_ h kc H locs ls hw hl
      rw [f_X6_digest_51] at h
      refine lv_iload_n hx hb dX6_digest_51 rfl (lv_at hl 2 rfl) ?_
      refine lv_aload_n hx hb dX6_digest_52 rfl (lv_at hl 0 rfl) ?_
      refine va_get (D := D) (ci := 6) (v := .ref (g 4)) (C := RX6) (T := TX6) (N := 7) hx hb hts iX6_ hown hK hw.1 0 rfl rfl 3 (by decide) w2_ (fun _ h9 => h9) rfl dX6_digest_53 ?_
      refine va_get (D := D) (ci := 3) (v := .int (s51_ 4 1)) (C := RX3) (T := TX3) (N := 2) hx hb hts iX3_ hown hK hw.1 4 rfl rfl 1 (by decide) w4_ (fun _ h9 => h9) rfl dX6_digest_56 ?_
      refine mg_icmp_ge (tgt := 81) hx hb h dX6_digest_59 (by decide) (fun h => ?_) (fun h => ?_)
      · cases h
        exact kc H locs ls hw (lv_sub hl [0, 1, 2] rfl)
      · refine lv_lload_n hx hb dX6_digest_62 rfl (lv_at hl 1 rfl) ?_
        refine lv_ldc2 (v := 31) hx hb hown w1_ dX6_digest_63 ?_
        refine lv_lmul hx hb dX6_digest_66 ?_
        refine lv_aload_n hx hb dX6_digest_67 rfl (lv_at hl 0 rfl) ?_
        refine lv_iload_n hx hb dX6_digest_68 rfl (lv_at hl 2 rfl) ?_
        refine mg_kxq (wd := mg_cW g cI cZ) h (fun v : Int32 => some (.int v)) (fun mc9 ms9 o9 s9 hm9 h9 hc9 hs9 => vx_runV (As := [.int x3_51]) (rest := [.long (x1_51 * 31)]) G9 (k_X6_lines l hst D o cI cZ g H.size s51_ x3_51 o9 s9 h9 mc9 ms9 hm9) (cwV 1 hts gX6_digest_X6_lines rfl rfl rfl (by decide +kernel) ⟨Nat.le_of_ble_eq_true rfl, Nat.le_of_ble_eq_true rfl⟩) (mg_preV hK hO hA hw (q0 := 0) rfl rfl) rfl rfl hl.1 rfl (lv_room (Nat.le_of_ble_eq_true rfl)) dX6_digest_69 ⟨hc9, hs9⟩) hw hA (Nat.zero_le _) (Nat.zero_le _) (fun v8 s9 h H locs hw => ?_)
        refine lv_i2l hx hb dX6_digest_72 rfl ?_
        refine lv_ladd hx hb dX6_digest_73 ?_
        refine lv_lstore_n (lv' := [(1, .long ((x1_51 * 31) + (Int32.toInt64 v8))), (0, .ref (g 0)), (3, .int x3_51)]) hx hb dX6_digest_74 rfl hl (by decide) rfl (fun ls hl => ?_)
        refine lv_iinc (v := (x3_51 + 1)) (lv' := [(3, .int (x3_51 + 1)), (1, .long ((x1_51 * 31) + (Int32.toInt64 v8))), (0, .ref (g 0))]) hx hb dX6_digest_75 hl (k := 2) rfl rfl (by decide) rfl (fun ls hl => ?_)
        refine lv_goto (tgt := 51) hx hb dX6_digest_78 (by decide) ?_
        exact ih _ _ _ _ h kc H locs ls hw (lv_sub hl [2, 1, 0] rfl)
  obtain ⟨y7, h9_, h⟩ := mg_bind h
  refine L51_ _ _ _ _ _ h9_ (fun H locs ls hw hl => ?_) H locs ls hw (lv_sub hl [2, 1, 0] rfl)
  clear L51_ h9_
  refine lv_lload_n hx hb dX6_digest_81 rfl (lv_at hl 1 rfl) ?_
  cases h
  exact mg_eL hx hb hr hlocks hw (Nat.zero_le _) (Nat.zero_le _) dX6_digest_82
