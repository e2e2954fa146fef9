set_option maxHeartbeats 4000000 in
set_option maxRecDepth 100000 in
theorem k_X0_becomeLike (l : Launch) (D : va_G) (o : Nat → Nat) (cI cZ : ClassId) (g : Nat → Nat) (sz : Nat) (σ : mg_St)  (y : mg_St) (h : f_X0_becomeLike σ  = some y) : mg_CT l yX0_becomeLike wsX0_becomeLike ({ frames := 0, cells := 0, slots := 0, locals := 0 } : Room) D [(cI, .int), (cZ, .boolean)] o (mg_cW g cI cZ σ) sz [.ref (g 6), .ref (g 5)] none (mg_cW g cI cZ y) 0 0 := by
  unfold mg_CT
  refine Met.ofW (cc := cX0_becomeLike) (maxL := 3) (ret := none) (by decide) rfl ?_
  intro p e s m args below meth c s₁ B hml hv
  obtain ⟨rfl, hsz, hP, hK, hD0, hO⟩ := hv
  have hx := B.exec
  have hb := B.bytes
  have hr := B.returns
  have hts := atoms_spec (ws := wsX0_becomeLike) B.pre
  have hown : s.vm.findClass RX0 = some m.cls := findClass_of_methodNamed B.named
  have hlocks := B.notSynchronized
  subst hsz
  have hD := hD0.self (sz := s.heap.size)
  generalize hAe : va_A (mg_cW g cI cZ σ) s.heap.size = A at hD hO ⊢
  have hA : ∀ q : Nat, s.heap.size ≤ q → A q := fun q h => by rw [← hAe]; exact Or.inr h
  have hw : mg_Wo D A s.heap s.heap [] (mg_cW g cI cZ σ) := ⟨hP, hD, va_S.rf⟩
  have G9 : CallFix p m c cX0_becomeLike 3 s ([.ref (g 6), .ref (g 5)] : List Value).toArray wsX0_becomeLike RX0 := ⟨hx, hb, hml, hown, hts⟩
  clear hP hD hD0 hAe
  obtain ⟨H, hHe⟩ : ∃ H : Heap, H = s.heap := ⟨_, rfl⟩
  have w0_ := hts (.fieldLink RX0 9 "MoonGate$Course" "day" "I") (by decide +kernel)
  have iX0_ : ∀ w ∈ wsX00, w ∈ wsX0_becomeLike := (fun _ h => List.mem_cons_of_mem _ (List.mem_append_right _ h))
  have w2_ := hts (.fieldLink RX0 15 "MoonGate$Course" "coins" "I") (by decide +kernel)
  have w3_ := hts (.fieldLink RX0 18 "MoonGate$Course" "carpSizes" "[I") (by decide +kernel)
  have w4_ := hts (.fieldLink RX0 22 "MoonGate$Course" "linesWritten" "[I") (by decide +kernel)
  have hl := lv_entry ([.ref (g 6), .ref (g 5)]) (n := 3) (Nat.le_of_ble_eq_true rfl)
  rw [lg_entry_eq]
  generalize (lg_sl ([.ref (g 6), .ref (g 5)]) ++ List.replicate (3 - (lg_sl ([.ref (g 6), .ref (g 5)])).length) Slot.unset).toArray = ls at hl ⊢
  have hl : lv_has ls 3 [(0, .ref (g 6)), (1, .ref (g 5))] := hl
  unfold f_X0_becomeLike at h
  revert hw
  intro hw
  suffices K_ : ∀ (H : Heap) (locs : List Loc), mg_Wo D A s.heap H locs (mg_cW g cI cZ σ) → W p l e (headSpec wsX0_becomeLike ({ frames := 0, cells := 0, slots := 0, locals := 0 } : Room)).room s m ([.ref (g 6), .ref (g 5)] : List Value).toArray below meth c H locs 0 0 (MQ below (mg_Q D (mg_cW g cI cZ y) A none) ([.ref (g 6), .ref (g 5)] : List Value).toArray s 0 0 A) (F0 m 0 ls []) from K_ _ _ hw
  clear hw hHe H
  intro H locs hw
  refine lv_aload_n hx hb dX0_becomeLike_0 rfl (lv_at hl 0 rfl) ?_
  refine lv_aload_n hx hb dX0_becomeLike_1 rfl (lv_at hl 1 rfl) ?_
  refine va_get (D := D) (ci := 0) (v := .int (σ 5 0)) (C := RX0) (T := TX0) (N := 4) hx hb hts iX0_ hown hK hw.1 5 rfl rfl 0 (by decide) w0_ (fun _ h9 => h9) rfl dX0_becomeLike_2 ?_
  refine mg_put (wd := mg_cW g cI cZ) (σ := σ) (v := (σ 5 0)) (ci := 0) (C := RX0) (T := TX0) (N := 4) hx hb hts iX0_ tyX0 tyX0_ok nmX0 hown hK hw 6 6 rfl rfl 0 (by decide) w0_ (fun _ h9 => h9) rfl (by decide +kernel) (Nat.le_of_ble_eq_true rfl) rfl dX0_becomeLike_5 (fun H locs hw => ?_)
  refine lv_aload_n hx hb dX0_becomeLike_8 rfl (lv_at hl 0 rfl) ?_
  refine lv_aload_n hx hb dX0_becomeLike_9 rfl (lv_at hl 1 rfl) ?_
  refine va_get (D := D) (ci := 0) (v := .int ((mg_su σ 6 0 (σ 5 0)) 5 1)) (C := RX0) (T := TX0) (N := 4) hx hb hts iX0_ hown hK hw.1 5 rfl rfl 1 (by decide) w2_ (fun _ h9 => h9) rfl dX0_becomeLike_10 ?_
  refine mg_put (wd := mg_cW g cI cZ) (σ := (mg_su σ 6 0 (σ 5 0))) (v := ((mg_su σ 6 0 (σ 5 0)) 5 1)) (ci := 0) (C := RX0) (T := TX0) (N := 4) hx hb hts iX0_ tyX0 tyX0_ok nmX0 hown hK hw 6 6 rfl rfl 1 (by decide) w2_ (fun _ h9 => h9) rfl (by decide +kernel) (Nat.le_of_ble_eq_true rfl) rfl dX0_becomeLike_13 (fun H locs hw => ?_)
  refine lv_iconst (v := 0) hx hb dX0_becomeLike_16 (by decide) ?_
  refine lv_istore_n (lv' := [(2, .int 0), (0, .ref (g 6)), (1, .ref (g 5))]) hx hb dX0_becomeLike_17 rfl hl (by decide) rfl (fun ls hl => ?_)
  have L18_ : ∀ (n : Nat) (x2_18 : Int32) (s18_ : mg_St) (y18_ : Int32 × mg_St), f_X0_becomeLike_18  n x2_18 s18_ = some y18_ → (∀ (H : Heap) (locs : List Loc) (ls : Array Slot), mg_Wo D A s.heap H locs (mg_cW g cI cZ y18_.2) → lv_has ls 3 [(0, .ref (g 6)), (1, .ref (g 5)), (2, .int y18_.1)] → W p l e (headSpec wsX0_becomeLike ({ frames := 0, cells := 0, slots := 0, locals := 0 } : Room)).room s m ([.ref (g 6), .ref (g 5)] : List Value).toArray below meth c H locs 0 0 (MQ below (mg_Q D (mg_cW g cI cZ y) A none) ([.ref (g 6), .ref (g 5)] : List Value).toArray s 0 0 A) (F0 m 42 ls [])) → ∀ (H : Heap) (locs : List Loc) (ls : Array Slot), mg_Wo D A s.heap H locs (mg_cW g cI cZ s18_) → lv_has ls 3 [(0, .ref (g 6)), (1, .ref (g 5)), (2, .int x2_18)] → W p l e (headSpec wsX0_becomeLike ({ frames := 0, cells := 0, slots := 0, locals := 0 } : Room)).room s m ([.ref (g 6), .ref (g 5)] : List Value).toArray below meth c H locs 0 0 (MQ below (mg_Q D (mg_cW g cI cZ y) A none) ([.ref (g 6), .ref (g 5)] : List Value).toArray s 0 0 A) (F0 m 18 ls []) := by
    intro n
    induction n with
    | zero => intro x2_18 s18_ y18_ h; rw [f_X0_becomeLike_18] at h; cases h
    | succ n ih =>
      intro x2_18 s18_ y18_ h kc H locs ls hw hl
      rw [f_X0_becomeLike_18] at h
      refine lv_iload_n hx hb dX0_becomeLike_18 rfl (lv_at hl 2 rfl) ?_
      refine lv_bipush (v := 30) hx hb dX0_becomeLike_19 (by decide) ?_
      refine mg_icmp_ge (tgt := 42) hx hb h dX0_becomeLike_21 (by decide) (fun h => ?_) (fun h => ?_)
      · cases h
        exact kc H locs ls hw (lv_sub hl [0, 1, 2] rfl)
      · refine lv_aload_n hx hb dX0_becomeLike_24 rfl (lv_at hl 0 rfl) ?_
        refine va_get (D := D) (ci := 0) (v := .ref (g 23)) (C := RX0) (T := TX0) (N := 4) hx hb hts iX0_ hown hK hw.1 6 rfl rfl 2 (by decide) w3_ (fun _ h9 => h9) rfl dX0_becomeLike_25 ?_
        refine lv_iload_n hx hb dX0_becomeLike_28 rfl (lv_at hl 2 rfl) ?_
        refine lv_aload_n hx hb dX0_becomeLike_29 rfl (lv_at hl 1 rfl) ?_
        refine va_get (D := D) (ci := 0) (v := .ref (g 21)) (C := RX0) (T := TX0) (N := 4) hx hb hts iX0_ hown hK hw.1 5 rfl rfl 2 (by decide) w3_ (fun _ h9 => h9) rfl dX0_becomeLike_30 ?_
        refine lv_iload_n hx hb dX0_becomeLike_33 rfl (lv_at hl 2 rfl) ?_
        refine mg_ald (σ := s18_) (k := 21) (n := 30) hx hb hK hw 21 0 rfl rfl h dX0_becomeLike_34 (fun v2 h => ?_)
        refine mg_ast (wd := mg_cW g cI cZ) (σ := s18_) (k := 23) (n := 30) hx hb hK hw 23 0 rfl (mg_cS_23 g cI cZ s18_) rfl h dX0_becomeLike_35 (fun s3 h H locs hw => ?_)
        refine lv_iinc (v := (x2_18 + 1)) (lv' := [(2, .int (x2_18 + 1)), (0, .ref (g 6)), (1, .ref (g 5))]) hx hb dX0_becomeLike_36 hl (k := 2) rfl rfl (by decide) rfl (fun ls hl => ?_)
        refine lv_goto (tgt := 18) hx hb dX0_becomeLike_39 (by decide) ?_
        exact ih _ _ _ h kc H locs ls hw (lv_sub hl [1, 2, 0] rfl)
  obtain ⟨y1, h9_, h⟩ := mg_bind h
  refine L18_ _ _ _ _ h9_ (fun H locs ls hw hl => ?_) H locs ls hw (lv_sub hl [1, 2, 0] rfl)
  clear L18_ h9_
  refine lv_iconst (v := 0) hx hb dX0_becomeLike_42 (by decide) ?_
  refine lv_istore_n (lv' := [(2, .int 0), (0, .ref (g 6)), (1, .ref (g 5))]) hx hb dX0_becomeLike_43 rfl hl (by decide) rfl (fun ls hl => ?_)
  have L44_ : ∀ (n : Nat) (x2_44 : Int32) (s44_ : mg_St) (y44_ : Int32 × mg_St), f_X0_becomeLike_44  n x2_44 s44_ = some y44_ → (∀ (H : Heap) (locs : List Loc) (ls : Array Slot), mg_Wo D A s.heap H locs (mg_cW g cI cZ y44_.2) → lv_has ls 3 [(0, .ref (g 6)), (1, .ref (g 5)), (2, .int y44_.1)] → W p l e (headSpec wsX0_becomeLike ({ frames := 0, cells := 0, slots := 0, locals := 0 } : Room)).room s m ([.ref (g 6), .ref (g 5)] : List Value).toArray below meth c H locs 0 0 (MQ below (mg_Q D (mg_cW g cI cZ y) A none) ([.ref (g 6), .ref (g 5)] : List Value).toArray s 0 0 A) (F0 m 67 ls [])) → ∀ (H : Heap) (locs : List Loc) (ls : Array Slot), mg_Wo D A s.heap H locs (mg_cW g cI cZ s44_) → lv_has ls 3 [(0, .ref (g 6)), (1, .ref (g 5)), (2, .int x2_44)] → W p l e (headSpec wsX0_becomeLike ({ frames := 0, cells := 0, slots := 0, locals := 0 } : Room)).room s m ([.ref (g 6), .ref (g 5)] : List Value).toArray below meth c H locs 0 0 (MQ below (mg_Q D (mg_cW g cI cZ y) A none) ([.ref (g 6), .ref (g 5)] : List Value).toArray s 0 0 A) (F0 m 44 ls []) := by
    intro n
    induction n with
    | zero => intro x2_44 s44_ y44_ h; rw [f_X0_becomeLike_44] at h; cases h
    | succ n ih =>
      intro x2_44 s44_ y44_ h kc H locs ls hw hl
      rw [f_X0_becomeLike_44] at h
      refine lv_iload_n hx hb dX0_becomeLike_44 rfl (lv_at hl 2 rfl) ?_
      refine lv_iconst (v := 5) hx hb dX0_becomeLike_45 (by decide) ?_
      refine mg_icmp_ge (tgt := 67) hx hb h dX0_becomeLike_46 (by decide) (fun h => ?_) (fun h => ?_)
      · cases h
        exact kc H locs ls hw (lv_sub hl [0, 1, 2] rfl)
      · refine lv_aload_n hx hb dX0_becomeLike_49 rfl (lv_at hl 0 rfl) ?_
        refine va_get (D := D) (ci := 0) (v := .ref (g 24)) (C := RX0) (T := TX0) (N := 4) hx hb hts iX0_ hown hK hw.1 6 rfl rfl 3 (by decide) w4_ (fun _ h9 => h9) rfl dX0_becomeLike_50 ?_
        refine lv_iload_n hx hb dX0_becomeLike_53 rfl (lv_at hl 2 rfl) ?_
        refine lv_aload_n hx hb dX0_becomeLike_54 rfl (lv_at hl 1 rfl) ?_
        refine va_get (D := D) (ci := 0) (v := .ref (g 22)) (C := RX0) (T := TX0) (N := 4) hx hb hts iX0_ hown hK hw.1 5 rfl rfl 3 (by decide) w4_ (fun _ h9 => h9) rfl dX0_becomeLike_55 ?_
        refine lv_iload_n hx hb dX0_becomeLike_58 rfl (lv_at hl 2 rfl) ?_
        refine mg_ald (σ := s44_) (k := 22) (n := 5) hx hb hK hw 22 0 rfl rfl h dX0_becomeLike_59 (fun v5 h => ?_)
        refine mg_ast (wd := mg_cW g cI cZ) (σ := s44_) (k := 24) (n := 5) hx hb hK hw 24 0 rfl (mg_cS_24 g cI cZ s44_) rfl h dX0_becomeLike_60 (fun s6 h H locs hw => ?_)
        refine lv_iinc (v := (x2_44 + 1)) (lv' := [(2, .int (x2_44 + 1)), (0, .ref (g 6)), (1, .ref (g 5))]) hx hb dX0_becomeLike_61 hl (k := 2) rfl rfl (by decide) rfl (fun ls hl => ?_)
        refine lv_goto (tgt := 44) hx hb dX0_becomeLike_64 (by decide) ?_
        exact ih _ _ _ h kc H locs ls hw (lv_sub hl [1, 2, 0] rfl)
  obtain ⟨y4, h9_, h⟩ := mg_bind h
  refine L44_ _ _ _ _ h9_ (fun H locs ls hw hl => ?_) H locs ls hw (lv_sub hl [1, 2, 0] rfl)
  clear L44_ h9_
  cases h
  exact mg_eV hx hb hr hlocks hw (Nat.zero_le _) (Nat.zero_le _) dX0_becomeLike_67
set_option maxHeartbeats 4000000 in
set_option maxRecDepth 100000 in
theorem k_X0_isFullMoon_5 (l : Launch) (D : va_G) (o : Nat → Nat) (cI cZ : ClassId) (g : Nat → Nat) (sz : Nat) (σ : mg_St)  (y : Int32) (h : f_X0_isFullMoon σ 5  = some y) : mg_CT l yX0_isFullMoon wsX0_isFullMoon ({ frames := 0, cells := 0, slots := 0, locals := 0 } : Room) D [(cI, .int), (cZ, .boolean)] o (mg_cW g cI cZ σ) sz [.ref (g 5)] (some (.int y)) (mg_cW g cI cZ σ) 0 0 := by
  unfold mg_CT
  refine Met.ofW (cc := cX0_isFullMoon) (maxL := 1) (ret := (some .boolean)) (by decide) rfl ?_
  intro p e s m args below meth c s₁ B hml hv
  obtain ⟨rfl, hsz, hP, hK, hD0, hO⟩ := hv
  have hx := B.exec
  have hb := B.bytes
  have hr := B.returns
  have hts := atoms_spec (ws := wsX0_isFullMoon) B.pre
  have hown : s.vm.findClass RX0 = some m.cls := findClass_of_methodNamed B.named
  have hlocks := B.notSynchronized
  subst hsz
  have hD := hD0.self (sz := s.heap.size)
  generalize hAe : va_A (mg_cW g cI cZ σ) s.heap.size = A at hD hO ⊢
  have hA : ∀ q : Nat, s.heap.size ≤ q → A q := fun q h => by rw [← hAe]; exact Or.inr h
  have hw : mg_Wo D A s.heap s.heap [] (mg_cW g cI cZ σ) := ⟨hP, hD, va_S.rf⟩
  have G9 : CallFix p m c cX0_isFullMoon 1 s ([.ref (g 5)] : List Value).toArray wsX0_isFullMoon RX0 := ⟨hx, hb, hml, hown, hts⟩
  clear hP hD hD0 hAe
  obtain ⟨H, hHe⟩ : ∃ H : Heap, H = s.heap := ⟨_, rfl⟩
  have w0_ := hts (.fieldLink RX0 9 "MoonGate$Course" "day" "I") (by decide +kernel)
  have iX0_ : ∀ w ∈ wsX00, w ∈ wsX0_isFullMoon := (fun _ h => List.mem_cons_of_mem _ (List.mem_append_right _ h))
  have hl := lv_entry ([.ref (g 5)]) (n := 1) (Nat.le_of_ble_eq_true rfl)
  rw [lg_entry_eq]
  generalize (lg_sl ([.ref (g 5)]) ++ List.replicate (1 - (lg_sl ([.ref (g 5)])).length) Slot.unset).toArray = ls at hl ⊢
  have hl : lv_has ls 1 [(0, .ref (g 5))] := hl
  unfold f_X0_isFullMoon at h
  revert hw
  intro hw
  suffices K_ : ∀ (H : Heap) (locs : List Loc), mg_Wo D A s.heap H locs (mg_cW g cI cZ σ) → W p l e (headSpec wsX0_isFullMoon ({ frames := 0, cells := 0, slots := 0, locals := 0 } : Room)).room s m ([.ref (g 5)] : List Value).toArray below meth c H locs 0 0 (MQ below (mg_Q D (mg_cW g cI cZ σ) A (some (.int y))) ([.ref (g 5)] : List Value).toArray s 0 0 A) (F0 m 0 ls []) from K_ _ _ hw
  clear hw hHe H
  intro H locs hw
  refine lv_aload_n hx hb dX0_isFullMoon_0 rfl (lv_at hl 0 rfl) ?_
  refine va_get (D := D) (ci := 0) (v := .int (σ 5 0)) (C := RX0) (T := TX0) (N := 4) hx hb hts iX0_ hown hK hw.1 5 rfl rfl 0 (by decide) w0_ (fun _ h9 => h9) rfl dX0_isFullMoon_1 ?_
  refine lv_bipush (v := 8) hx hb dX0_isFullMoon_4 (by decide) ?_
  refine lv_irem hx hb dX0_isFullMoon_6 (by decide) ?_
  refine lv_iconst (v := 4) hx hb dX0_isFullMoon_7 (by decide) ?_
  refine mg_icmp_ne (tgt := 15) hx hb h dX0_isFullMoon_8 (by decide) (fun h => ?_) (fun h => ?_)
  · refine lv_iconst (v := 0) hx hb dX0_isFullMoon_15 (by decide) ?_
    cases h
    exact mg_eZ hx hb hr hlocks hw rfl (Nat.zero_le _) (Nat.zero_le _) dX0_isFullMoon_16
  · refine lv_iconst (v := 1) hx hb dX0_isFullMoon_11 (by decide) ?_
    refine lv_goto (tgt := 16) hx hb dX0_isFullMoon_12 (by decide) ?_
    cases h
    exact mg_eZ hx hb hr hlocks hw rfl (Nat.zero_le _) (Nat.zero_le _) dX0_isFullMoon_16
set_option maxHeartbeats 4000000 in
set_option maxRecDepth 100000 in
theorem k_X0_isFullMoon_6 (l : Launch) (D : va_G) (o : Nat → Nat) (cI cZ : ClassId) (g : Nat → Nat) (sz : Nat) (σ : mg_St)  (y : Int32) (h : f_X0_isFullMoon σ 6  = some y) : mg_CT l yX0_isFullMoon wsX0_isFullMoon ({ frames := 0, cells := 0, slots := 0, locals := 0 } : Room) D [(cI, .int), (cZ, .boolean)] o (mg_cW g cI cZ σ) sz [.ref (g 6)] (some (.int y)) (mg_cW g cI cZ σ) 0 0 := by
  unfold mg_CT
  refine Met.ofW (cc := cX0_isFullMoon) (maxL := 1) (ret := (some .boolean)) (by decide) rfl ?_
  intro p e s m args below meth c s₁ B hml hv
  obtain ⟨rfl, hsz, hP, hK, hD0, hO⟩ := hv
  have hx := B.exec
  have hb := B.bytes
  have hr := B.returns
  have hts := atoms_spec (ws := wsX0_isFullMoon) B.pre
  have hown : s.vm.findClass RX0 = some m.cls := findClass_of_methodNamed B.named
  have hlocks := B.notSynchronized
  subst hsz
  have hD := hD0.self (sz := s.heap.size)
  generalize hAe : va_A (mg_cW g cI cZ σ) s.heap.size = A at hD hO ⊢
  have hA : ∀ q : Nat, s.heap.size ≤ q → A q := fun q h => by rw [← hAe]; exact Or.inr h
  have hw : mg_Wo D A s.heap s.heap [] (mg_cW g cI cZ σ) := ⟨hP, hD, va_S.rf⟩
  have G9 : CallFix p m c cX0_isFullMoon 1 s ([.ref (g 6)] : List Value).toArray wsX0_isFullMoon RX0 := ⟨hx, hb, hml, hown, hts⟩
  clear hP hD hD0 hAe
  obtain ⟨H, hHe⟩ : ∃ H : Heap, H = s.heap := ⟨_, rfl⟩
  have w0_ := hts (.fieldLink RX0 9 "MoonGate$Course" "day" "I") (by decide +kernel)
  have iX0_ : ∀ w ∈ wsX00, w ∈ wsX0_isFullMoon := (fun _ h => List.mem_cons_of_mem _ (List.mem_append_right _ h))
  have hl := lv_entry ([.ref (g 6)]) (n := 1) (Nat.le_of_ble_eq_true rfl)
  rw [lg_entry_eq]
  generalize (lg_sl ([.ref (g 6)]) ++ List.replicate (1 - (lg_sl ([.ref (g 6)])).length) Slot.unset).toArray = ls at hl ⊢
  have hl : lv_has ls 1 [(0, .ref (g 6))] := hl
  unfold f_X0_isFullMoon at h
  revert hw
  intro hw
  suffices K_ : ∀ (H : Heap) (locs : List Loc), mg_Wo D A s.heap H locs (mg_cW g cI cZ σ) → W p l e (headSpec wsX0_isFullMoon ({ frames := 0, cells := 0, slots := 0, locals := 0 } : Room)).room s m ([.ref (g 6)] : List Value).toArray below meth c H locs 0 0 (MQ below (mg_Q D (mg_cW g cI cZ σ) A (some (.int y))) ([.ref (g 6)] : List Value).toArray s 0 0 A) (F0 m 0 ls []) from K_ _ _ hw
  clear hw hHe H
  intro H locs hw
  refine lv_aload_n hx hb dX0_isFullMoon_0 rfl (lv_at hl 0 rfl) ?_
  refine va_get (D := D) (ci := 0) (v := .int (σ 6 0)) (C := RX0) (T := TX0) (N := 4) hx hb hts iX0_ hown hK hw.1 6 rfl rfl 0 (by decide) w0_ (fun _ h9 => h9) rfl dX0_isFullMoon_1 ?_
  refine lv_bipush (v := 8) hx hb dX0_isFullMoon_4 (by decide) ?_
  refine lv_irem hx hb dX0_isFullMoon_6 (by decide) ?_
  refine lv_iconst (v := 4) hx hb dX0_isFullMoon_7 (by decide) ?_
  refine mg_icmp_ne (tgt := 15) hx hb h dX0_isFullMoon_8 (by decide) (fun h => ?_) (fun h => ?_)
  · refine lv_iconst (v := 0) hx hb dX0_isFullMoon_15 (by decide) ?_
    cases h
    exact mg_eZ hx hb hr hlocks hw rfl (Nat.zero_le _) (Nat.zero_le _) dX0_isFullMoon_16
  · refine lv_iconst (v := 1) hx hb dX0_isFullMoon_11 (by decide) ?_
    refine lv_goto (tgt := 16) hx hb dX0_isFullMoon_12 (by decide) ?_
    cases h
    exact mg_eZ hx hb hr hlocks hw rfl (Nat.zero_le _) (Nat.zero_le _) dX0_isFullMoon_16
set_option maxHeartbeats 4000000 in
set_option maxRecDepth 100000 in
theorem k_X0_carpSize_5 (l : Launch) (D : va_G) (o : Nat → Nat) (cI cZ : ClassId) (g : Nat → Nat) (sz : Nat) (σ : mg_St) (x1 : Int32) (y : Int32) (h : f_X0_carpSize σ 5 x1 = some y) : mg_CT l yX0_carpSize wsX0_carpSize ({ frames := 0, cells := 0, slots := 0, locals := 0 } : Room) D [(cI, .int), (cZ, .boolean)] o (mg_cW g cI cZ σ) sz [.ref (g 5), .int x1] (some (.int y)) (mg_cW g cI cZ σ) 0 0 := by
  unfold mg_CT
  refine Met.ofW (cc := cX0_carpSize) (maxL := 2) (ret := (some .int)) (by decide) rfl ?_
  intro p e s m args below meth c s₁ B hml hv
  obtain ⟨rfl, hsz, hP, hK, hD0, hO⟩ := hv
  have hx := B.exec
  have hb := B.bytes
  have hr := B.returns
  have hts := atoms_spec (ws := wsX0_carpSize) B.pre
  have hown : s.vm.findClass RX0 = some m.cls := findClass_of_methodNamed B.named
  have hlocks := B.notSynchronized
  subst hsz
  have hD := hD0.self (sz := s.heap.size)
  generalize hAe : va_A (mg_cW g cI cZ σ) s.heap.size = A at hD hO ⊢
  have hA : ∀ q : Nat, s.heap.size ≤ q → A q := fun q h => by rw [← hAe]; exact Or.inr h
  have hw : mg_Wo D A s.heap s.heap [] (mg_cW g cI cZ σ) := ⟨hP, hD, va_S.rf⟩
  have G9 : CallFix p m c cX0_carpSize 2 s ([.ref (g 5), .int x1] : List Value).toArray wsX0_carpSize RX0 := ⟨hx, hb, hml, hown, hts⟩
  clear hP hD hD0 hAe
  obtain ⟨H, hHe⟩ : ∃ H : Heap, H = s.heap := ⟨_, rfl⟩
  have w0_ := hts (.fieldLink RX0 18 "MoonGate$Course" "carpSizes" "[I") (by decide +kernel)
  have iX0_ : ∀ w ∈ wsX00, w ∈ wsX0_carpSize := (fun _ h => List.mem_cons_of_mem _ (List.mem_append_right _ h))
  have hl := lv_entry ([.ref (g 5), .int x1]) (n := 2) (Nat.le_of_ble_eq_true rfl)
  rw [lg_entry_eq]
  generalize (lg_sl ([.ref (g 5), .int x1]) ++ List.replicate (2 - (lg_sl ([.ref (g 5), .int x1])).length) Slot.unset).toArray = ls at hl ⊢
  have hl : lv_has ls 2 [(0, .ref (g 5)), (1, .int x1)] := hl
  unfold f_X0_carpSize at h
  revert hw
  intro hw
  suffices K_ : ∀ (H : Heap) (locs : List Loc), mg_Wo D A s.heap H locs (mg_cW g cI cZ σ) → W p l e (headSpec wsX0_carpSize ({ frames := 0, cells := 0, slots := 0, locals := 0 } : Room)).room s m ([.ref (g 5), .int x1] : List Value).toArray below meth c H locs 0 0 (MQ below (mg_Q D (mg_cW g cI cZ σ) A (some (.int y))) ([.ref (g 5), .int x1] : List Value).toArray s 0 0 A) (F0 m 0 ls []) from K_ _ _ hw
  clear hw hHe H
  intro H locs hw
  refine lv_iload_n hx hb dX0_carpSize_0 rfl (lv_at hl 1 rfl) ?_
  refine mg_if_lt (tgt := 19) hx hb h dX0_carpSize_1 (by decide) (fun h => ?_) (fun h => ?_)
  · refine lv_iconst (v := 0) hx hb dX0_carpSize_19 (by decide) ?_
    cases h
    exact mg_eI hx hb hr hlocks hw (Nat.zero_le _) (Nat.zero_le _) dX0_carpSize_20
  · refine lv_iload_n hx hb dX0_carpSize_4 rfl (lv_at hl 1 rfl) ?_
    refine lv_bipush (v := 30) hx hb dX0_carpSize_5 (by decide) ?_
    refine mg_icmp_ge (tgt := 19) hx hb h dX0_carpSize_7 (by decide) (fun h => ?_) (fun h => ?_)
    · refine lv_iconst (v := 0) hx hb dX0_carpSize_19 (by decide) ?_
      cases h
      exact mg_eI hx hb hr hlocks hw (Nat.zero_le _) (Nat.zero_le _) dX0_carpSize_20
    · refine lv_aload_n hx hb dX0_carpSize_10 rfl (lv_at hl 0 rfl) ?_
      refine va_get (D := D) (ci := 0) (v := .ref (g 21)) (C := RX0) (T := TX0) (N := 4) hx hb hts iX0_ hown hK hw.1 5 rfl rfl 2 (by decide) w0_ (fun _ h9 => h9) rfl dX0_carpSize_11 ?_
      refine lv_iload_n hx hb dX0_carpSize_14 rfl (lv_at hl 1 rfl) ?_
      refine mg_ald (σ := σ) (k := (2 * 5 + 11)) (n := 30) hx hb hK hw 21 0 rfl rfl h dX0_carpSize_15 (fun v1 h => ?_)
      refine lv_goto (tgt := 20) hx hb dX0_carpSize_16 (by decide) ?_
      cases h
      exact mg_eI hx hb hr hlocks hw (Nat.zero_le _) (Nat.zero_le _) dX0_carpSize_20
set_option maxHeartbeats 4000000 in
set_option maxRecDepth 100000 in
theorem k_X0_carpSize_6 (l : Launch) (D : va_G) (o : Nat → Nat) (cI cZ : ClassId) (g : Nat → Nat) (sz : Nat) (σ : mg_St) (x1 : Int32) (y : Int32) (h : f_X0_carpSize σ 6 x1 = some y) : mg_CT l yX0_carpSize wsX0_carpSize ({ frames := 0, cells := 0, slots := 0, locals := 0 } : Room) D [(cI, .int), (cZ, .boolean)] o (mg_cW g cI cZ σ) sz [.ref (g 6), .int x1] (some (.int y)) (mg_cW g cI cZ σ) 0 0 := by
  unfold mg_CT
  refine Met.ofW (cc := cX0_carpSize) (maxL := 2) (ret := (some .int)) (by decide) rfl ?_
  intro p e s m args below meth c s₁ B hml hv
  obtain ⟨rfl, hsz, hP, hK, hD0, hO⟩ := hv
  have hx := B.exec
  have hb := B.bytes
  have hr := B.returns
  have hts := atoms_spec (ws := wsX0_carpSize) B.pre
  have hown : s.vm.findClass RX0 = some m.cls := findClass_of_methodNamed B.named
  have hlocks := B.notSynchronized
  subst hsz
  have hD := hD0.self (sz := s.heap.size)
  generalize hAe : va_A (mg_cW g cI cZ σ) s.heap.size = A at hD hO ⊢
  have hA : ∀ q : Nat, s.heap.size ≤ q → A q := fun q h => by rw [← hAe]; exact Or.inr h
  have hw : mg_Wo D A s.heap s.heap [] (mg_cW g cI cZ σ) := ⟨hP, hD, va_S.rf⟩
  have G9 : CallFix p m c cX0_carpSize 2 s ([.ref (g 6), .int x1] : List Value).toArray wsX0_carpSize RX0 := ⟨hx, hb, hml, hown, hts⟩
  clear hP hD hD0 hAe
  obtain ⟨H, hHe⟩ : ∃ H : Heap, H = s.heap := ⟨_, rfl⟩
  have w0_ := hts (.fieldLink RX0 18 "MoonGate$Course" "carpSizes" "[I") (by decide +kernel)
  have iX0_ : ∀ w ∈ wsX00, w ∈ wsX0_carpSize := (fun _ h => List.mem_cons_of_mem _ (List.mem_append_right _ h))
  have hl := lv_entry ([.ref (g 6), .int x1]) (n := 2) (Nat.le_of_ble_eq_true rfl)
  rw [lg_entry_eq]
  generalize (lg_sl ([.ref (g 6), .int x1]) ++ List.replicate (2 - (lg_sl ([.ref (g 6), .int x1])).length) Slot.unset).toArray = ls at hl ⊢
  have hl : lv_has ls 2 [(0, .ref (g 6)), (1, .int x1)] := hl
  unfold f_X0_carpSize at h
  revert hw
  intro hw
  suffices K_ : ∀ (H : Heap) (locs : List Loc), mg_Wo D A s.heap H locs (mg_cW g cI cZ σ) → W p l e (headSpec wsX0_carpSize ({ frames := 0, cells := 0, slots := 0, locals := 0 } : Room)).room s m ([.ref (g 6), .int x1] : List Value).toArray below meth c H locs 0 0 (MQ below (mg_Q D (mg_cW g cI cZ σ) A (some (.int y))) ([.ref (g 6), .int x1] : List Value).toArray s 0 0 A) (F0 m 0 ls []) from K_ _ _ hw
  clear hw hHe H
  intro H locs hw
  refine lv_iload_n hx hb dX0_carpSize_0 rfl (lv_at hl 1 rfl) ?_
  refine mg_if_lt (tgt := 19) hx hb h dX0_carpSize_1 (by decide) (fun h => ?_) (fun h => ?_)
  · refine lv_iconst (v := 0) hx hb dX0_carpSize_19 (by decide) ?_
    cases h
    exact mg_eI hx hb hr hlocks hw (Nat.zero_le _) (Nat.zero_le _) dX0_carpSize_20
  · refine lv_iload_n hx hb dX0_carpSize_4 rfl (lv_at hl 1 rfl) ?_
    refine lv_bipush (v := 30) hx hb dX0_carpSize_5 (by decide) ?_
    refine mg_icmp_ge (tgt := 19) hx hb h dX0_carpSize_7 (by decide) (fun h => ?_) (fun h => ?_)
    · refine lv_iconst (v := 0) hx hb dX0_carpSize_19 (by decide) ?_
      cases h
      exact mg_eI hx hb hr hlocks hw (Nat.zero_le _) (Nat.zero_le _) dX0_carpSize_20
    · refine lv_aload_n hx hb dX0_carpSize_10 rfl (lv_at hl 0 rfl) ?_
      refine va_get (D := D) (ci := 0) (v := .ref (g 23)) (C := RX0) (T := TX0) (N := 4) hx hb hts iX0_ hown hK hw.1 6 rfl rfl 2 (by decide) w0_ (fun _ h9 => h9) rfl dX0_carpSize_11 ?_
      refine lv_iload_n hx hb dX0_carpSize_14 rfl (lv_at hl 1 rfl) ?_
      refine mg_ald (σ := σ) (k := (2 * 6 + 11)) (n := 30) hx hb hK hw 23 0 rfl rfl h dX0_carpSize_15 (fun v1 h => ?_)
      refine lv_goto (tgt := 20) hx hb dX0_carpSize_16 (by decide) ?_
      cases h
      exact mg_eI hx hb hr hlocks hw (Nat.zero_le _) (Nat.zero_le _) dX0_carpSize_20
set_option maxHeartbeats 4000000 in
set_option maxRecDepth 100000 in
theorem k_X0_setCarpSize_5 (l : Launch) (D : va_G) (o : Nat → Nat) (cI cZ : ClassId) (g : Nat → Nat) (sz : Nat) (σ : mg_St) (x1 : Int32) (x2 : Int32) (y : mg_St) (h : f_X0_setCarpSize σ 5 x1 x2 = some y) : mg_CT l yX0_setCarpSize wsX0_setCarpSize ({ frames := 1, cells := 0, slots := 0, locals := 40 } : Room) D [(cI, .int), (cZ, .boolean)] o (mg_cW g cI cZ σ) sz [.ref (g 5), .int x1, .int x2] none (mg_cW g cI cZ y) 0 0 := by
  unfold mg_CT
  refine Met.ofW (cc := cX0_setCarpSize) (maxL := 3) (ret := none) (by decide) rfl ?_
  intro p e s m args below meth c s₁ B hml hv
  obtain ⟨rfl, hsz, hP, hK, hD0, hO⟩ := hv
  have hx := B.exec
  have hb := B.bytes
  have hr := B.returns
  have hts := atoms_spec (ws := wsX0_setCarpSize) B.pre
  have hown : s.vm.findClass RX0 = some m.cls := findClass_of_methodNamed B.named
  have hlocks := B.notSynchronized
  subst hsz
  have hD := hD0.self (sz := s.heap.size)
  generalize hAe : va_A (mg_cW g cI cZ σ) s.heap.size = A at hD hO ⊢
  have hA : ∀ q : Nat, s.heap.size ≤ q → A q := fun q h => by rw [← hAe]; exact Or.inr h
  have hw : mg_Wo D A s.heap s.heap [] (mg_cW g cI cZ σ) := ⟨hP, hD, va_S.rf⟩
  have G9 : CallFix p m c cX0_setCarpSize 3 s ([.ref (g 5), .int x1, .int x2] : List Value).toArray wsX0_setCarpSize RX0 := ⟨hx, hb, hml, hown, hts⟩
  clear hP hD hD0 hAe
  obtain ⟨H, hHe⟩ : ∃ H : Heap, H = s.heap := ⟨_, rfl⟩
  have w0_ := hts (.fieldLink RX0 18 "MoonGate$Course" "carpSizes" "[I") (by decide +kernel)
  have iX0_ : ∀ w ∈ wsX00, w ∈ wsX0_setCarpSize := (fun _ h => List.mem_cons_of_mem _ (List.mem_append_right _ h))
  have w2_ := hts (.methodLink RX0 25 Lib.Math.min.name) (by decide +kernel)
  have w3_ := hts (.static Lib.Math.min.name) (by decide +kernel)
  have w4_ := hts (.initialized "java/lang/Math") (by decide +kernel)
  have w5_ := hts (.code Lib.Math.min.name Lib.Math.min.code 2 (some .int)) (by decide +kernel)
  have w6_ := hts (.methodLink RX0 31 Lib.Math.max.name) (by decide +kernel)
  have w7_ := hts (.static Lib.Math.max.name) (by decide +kernel)
  have w8_ := hts (.code Lib.Math.max.name Lib.Math.max.code 2 (some .int)) (by decide +kernel)
  have hl := lv_entry ([.ref (g 5), .int x1, .int x2]) (n := 3) (Nat.le_of_ble_eq_true rfl)
  rw [lg_entry_eq]
  generalize (lg_sl ([.ref (g 5), .int x1, .int x2]) ++ List.replicate (3 - (lg_sl ([.ref (g 5), .int x1, .int x2])).length) Slot.unset).toArray = ls at hl ⊢
  have hl : lv_has ls 3 [(0, .ref (g 5)), (1, .int x1), (2, .int x2)] := hl
  unfold f_X0_setCarpSize at h
  revert hw
  intro hw
  suffices K_ : ∀ (H : Heap) (locs : List Loc), mg_Wo D A s.heap H locs (mg_cW g cI cZ σ) → W p l e (headSpec wsX0_setCarpSize ({ frames := 1, cells := 0, slots := 0, locals := 40 } : Room)).room s m ([.ref (g 5), .int x1, .int x2] : List Value).toArray below meth c H locs 0 0 (MQ below (mg_Q D (mg_cW g cI cZ y) A none) ([.ref (g 5), .int x1, .int x2] : List Value).toArray s 0 0 A) (F0 m 0 ls []) from K_ _ _ hw
  clear hw hHe H
  intro H locs hw
  refine lv_iload_n hx hb dX0_setCarpSize_0 rfl (lv_at hl 1 rfl) ?_
  refine mg_if_lt (tgt := 26) hx hb h dX0_setCarpSize_1 (by decide) (fun h => ?_) (fun h => ?_)
  · cases h
    exact mg_eV hx hb hr hlocks hw (Nat.zero_le _) (Nat.zero_le _) dX0_setCarpSize_26
  · refine lv_iload_n hx hb dX0_setCarpSize_4 rfl (lv_at hl 1 rfl) ?_
    refine lv_bipush (v := 30) hx hb dX0_setCarpSize_5 (by decide) ?_
    refine mg_icmp_ge (tgt := 26) hx hb h dX0_setCarpSize_7 (by decide) (fun h => ?_) (fun h => ?_)
    · cases h
      exact mg_eV hx hb hr hlocks hw (Nat.zero_le _) (Nat.zero_le _) dX0_setCarpSize_26
    · refine lv_aload_n hx hb dX0_setCarpSize_10 rfl (lv_at hl 0 rfl) ?_
      refine va_get (D := D) (ci := 0) (v := .ref (g 21)) (C := RX0) (T := TX0) (N := 4) hx hb hts iX0_ hown hK hw.1 5 rfl rfl 2 (by decide) w0_ (fun _ h9 => h9) rfl dX0_setCarpSize_11 ?_
      refine lv_iload_n hx hb dX0_setCarpSize_14 rfl (lv_at hl 1 rfl) ?_
      refine lv_iconst (v := 1) hx hb dX0_setCarpSize_15 (by decide) ?_
      refine lv_bipush (v := 40) hx hb dX0_setCarpSize_16 (by decide) ?_
      refine lv_iload_n hx hb dX0_setCarpSize_18 rfl (lv_at hl 2 rfl) ?_
      refine va_mmin hx hb (hml.trans hl.1.symm) hown w2_ w3_ w4_ w5_ (Nat.le_of_ble_eq_true rfl) (Nat.le_of_ble_eq_true rfl) (Nat.zero_le _) (Nat.zero_le _) dX0_setCarpSize_19 ?_
      refine va_mmax hx hb (hml.trans hl.1.symm) hown w6_ w7_ w4_ w8_ (Nat.le_of_ble_eq_true rfl) (Nat.le_of_ble_eq_true rfl) (Nat.zero_le _) (Nat.zero_le _) dX0_setCarpSize_22 ?_
      refine mg_ast (wd := mg_cW g cI cZ) (σ := σ) (k := (2 * 5 + 11)) (n := 30) hx hb hK hw 21 0 rfl (mg_cS_21 g cI cZ σ) rfl h dX0_setCarpSize_25 (fun s1 h H locs hw => ?_)
      cases h
      exact mg_eV hx hb hr hlocks hw (Nat.zero_le _) (Nat.zero_le _) dX0_setCarpSize_26
set_option maxHeartbeats 4000000 in
set_option maxRecDepth 100000 in
theorem k_X0_setCarpSize_6 (l : Launch) (D : va_G) (o : Nat → Nat) (cI cZ : ClassId) (g : Nat → Nat) (sz : Nat) (σ : mg_St) (x1 : Int32) (x2 : Int32) (y : mg_St) (h : f_X0_setCarpSize σ 6 x1 x2 = some y) : mg_CT l yX0_setCarpSize wsX0_setCarpSize ({ frames := 1, cells := 0, slots := 0, locals := 40 } : Room) D [(cI, .int), (cZ, .boolean)] o (mg_cW g cI cZ σ) sz [.ref (g 6), .int x1, .int x2] none (mg_cW g cI cZ y) 0 0 := by
  unfold mg_CT
  refine Met.ofW (cc := cX0_setCarpSize) (maxL := 3) (ret := none) (by decide) rfl ?_
  intro p e s m args below meth c s₁ B hml hv
  obtain ⟨rfl, hsz, hP, hK, hD0, hO⟩ := hv
  have hx := B.exec
  have hb := B.bytes
  have hr := B.returns
  have hts := atoms_spec (ws := wsX0_setCarpSize) B.pre
  have hown : s.vm.findClass RX0 = some m.cls := findClass_of_methodNamed B.named
  have hlocks := B.notSynchronized
  subst hsz
  have hD := hD0.self (sz := s.heap.size)
  generalize hAe : va_A (mg_cW g cI cZ σ) s.heap.size = A at hD hO ⊢
  have hA : ∀ q : Nat, s.heap.size ≤ q → A q := fun q h => by rw [← hAe]; exact Or.inr h
  have hw : mg_Wo D A s.heap s.heap [] (mg_cW g cI cZ σ) := ⟨hP, hD, va_S.rf⟩
  have G9 : CallFix p m c cX0_setCarpSize 3 s ([.ref (g 6), .int x1, .int x2] : List Value).toArray wsX0_setCarpSize RX0 := ⟨hx, hb, hml, hown, hts⟩
  clear hP hD hD0 hAe
  obtain ⟨H, hHe⟩ : ∃ H : Heap, H = s.heap := ⟨_, rfl⟩
  have w0_ := hts (.fieldLink RX0 18 "MoonGate$Course" "carpSizes" "[I") (by decide +kernel)
  have iX0_ : ∀ w ∈ wsX00, w ∈ wsX0_setCarpSize := (fun _ h => List.mem_cons_of_mem _ (List.mem_append_right _ h))
  have w2_ := hts (.methodLink RX0 25 Lib.Math.min.name) (by decide +kernel)
  have w3_ := hts (.static Lib.Math.min.name) (by decide +kernel)
  have w4_ := hts (.initialized "java/lang/Math") (by decide +kernel)
  have w5_ := hts (.code Lib.Math.min.name Lib.Math.min.code 2 (some .int)) (by decide +kernel)
  have w6_ := hts (.methodLink RX0 31 Lib.Math.max.name) (by decide +kernel)
  have w7_ := hts (.static Lib.Math.max.name) (by decide +kernel)
  have w8_ := hts (.code Lib.Math.max.name Lib.Math.max.code 2 (some .int)) (by decide +kernel)
  have hl := lv_entry ([.ref (g 6), .int x1, .int x2]) (n := 3) (Nat.le_of_ble_eq_true rfl)
  rw [lg_entry_eq]
  generalize (lg_sl ([.ref (g 6), .int x1, .int x2]) ++ List.replicate (3 - (lg_sl ([.ref (g 6), .int x1, .int x2])).length) Slot.unset).toArray = ls at hl ⊢
  have hl : lv_has ls 3 [(0, .ref (g 6)), (1, .int x1), (2, .int x2)] := hl
  unfold f_X0_setCarpSize at h
  revert hw
  intro hw
  suffices K_ : ∀ (H : Heap) (locs : List Loc), mg_Wo D A s.heap H locs (mg_cW g cI cZ σ) → W p l e (headSpec wsX0_setCarpSize ({ frames := 1, cells := 0, slots := 0, locals := 40 } : Room)).room s m ([.ref (g 6), .int x1, .int x2] : List Value).toArray below meth c H locs 0 0 (MQ below (mg_Q D (mg_cW g cI cZ y) A none) ([.ref (g 6), .int x1, .int x2] : List Value).toArray s 0 0 A) (F0 m 0 ls []) from K_ _ _ hw
  clear hw hHe H
  intro H locs hw
  refine lv_iload_n hx hb dX0_setCarpSize_0 rfl (lv_at hl 1 rfl) ?_
  refine mg_if_lt (tgt := 26) hx hb h dX0_setCarpSize_1 (by decide) (fun h => ?_) (fun h => ?_)
  · cases h
    exact mg_eV hx hb hr hlocks hw (Nat.zero_le _) (Nat.zero_le _) dX0_setCarpSize_26
  · refine lv_iload_n hx hb dX0_setCarpSize_4 rfl (lv_at hl 1 rfl) ?_
    refine lv_bipush (v := 30) hx hb dX0_setCarpSize_5 (by decide) ?_
    refine mg_icmp_ge (tgt := 26) hx hb h dX0_setCarpSize_7 (by decide) (fun h => ?_) (fun h => ?_)
    · cases h
      exact mg_eV hx hb hr hlocks hw (Nat.zero_le _) (Nat.zero_le _) dX0_setCarpSize_26
    · refine lv_aload_n hx hb dX0_setCarpSize_10 rfl (lv_at hl 0 rfl) ?_
      refine va_get (D := D) (ci := 0) (v := .ref (g 23)) (C := RX0) (T := TX0) (N := 4) hx hb hts iX0_ hown hK hw.1 6 rfl rfl 2 (by decide) w0_ (fun _ h9 => h9) rfl dX0_setCarpSize_11 ?_
      refine lv_iload_n hx hb dX0_setCarpSize_14 rfl (lv_at hl 1 rfl) ?_
      refine lv_iconst (v := 1) hx hb dX0_setCarpSize_15 (by decide) ?_
      refine lv_bipush (v := 40) hx hb dX0_setCarpSize_16 (by decide) ?_
      refine lv_iload_n hx hb dX0_setCarpSize_18 rfl (lv_at hl 2 rfl) ?_
      refine va_mmin hx hb (hml.trans hl.1.symm) hown w2_ w3_ w4_ w5_ (Nat.le_of_ble_eq_true rfl) (Nat.le_of_ble_eq_true rfl) (Nat.zero_le _) (Nat.zero_le _) dX0_setCarpSize_19 ?_
      refine va_mmax hx hb (hml.trans hl.1.symm) hown w6_ w7_ w4_ w8_ (Nat.le_of_ble_eq_true rfl) (Nat.le_of_ble_eq_true rfl) (Nat.zero_le _) (Nat.zero_le _) dX0_setCarpSize_22 ?_
      refine mg_ast (wd := mg_cW g cI cZ) (σ := σ) (k := (2 * 6 + 11)) (n := 30) hx hb hK hw 23 0 rfl (mg_cS_23 g cI cZ σ) rfl h dX0_setCarpSize_25 (fun s1 h H locs hw => ?_)
      cases h
      exact mg_eV hx hb hr hlocks hw (Nat.zero_le _) (Nat.zero_le _) dX0_setCarpSize_26
set_option maxHeartbeats 4000000 in
set_option maxRecDepth 100000 in
theorem k_X0_written_5 (l : Launch) (D : va_G) (o : Nat → Nat) (cI cZ : ClassId) (g : Nat → Nat) (sz : Nat) (σ : mg_St) (x1 : Int32) (y : Int32) (h : f_X0_written σ 5 x1 = some y) : mg_CT l yX0_written wsX0_written ({ frames := 0, cells := 0, slots := 0, locals := 0 } : Room) D [(cI, .int), (cZ, .boolean)] o (mg_cW g cI cZ σ) sz [.ref (g 5), .int x1] (some (.int y)) (mg_cW g cI cZ σ) 0 0 := by
  unfold mg_CT
  refine Met.ofW (cc := cX0_written) (maxL := 2) (ret := (some .int)) (by decide) rfl ?_
  intro p e s m args below meth c s₁ B hml hv
  obtain ⟨rfl, hsz, hP, hK, hD0, hO⟩ := hv
  have hx := B.exec
  have hb := B.bytes
  have hr := B.returns
  have hts := atoms_spec (ws := wsX0_written) B.pre
  have hown : s.vm.findClass RX0 = some m.cls := findClass_of_methodNamed B.named
  have hlocks := B.notSynchronized
  subst hsz
  have hD := hD0.self (sz := s.heap.size)
  generalize hAe : va_A (mg_cW g cI cZ σ) s.heap.size = A at hD hO ⊢
  have hA : ∀ q : Nat, s.heap.size ≤ q → A q := fun q h => by rw [← hAe]; exact Or.inr h
  have hw : mg_Wo D A s.heap s.heap [] (mg_cW g cI cZ σ) := ⟨hP, hD, va_S.rf⟩
  have G9 : CallFix p m c cX0_written 2 s ([.ref (g 5), .int x1] : List Value).toArray wsX0_written RX0 := ⟨hx, hb, hml, hown, hts⟩
  clear hP hD hD0 hAe
  obtain ⟨H, hHe⟩ : ∃ H : Heap, H = s.heap := ⟨_, rfl⟩
  have w0_ := hts (.fieldLink RX0 22 "MoonGate$Course" "linesWritten" "[I") (by decide +kernel)
  have iX0_ : ∀ w ∈ wsX00, w ∈ wsX0_written := (fun _ h => List.mem_cons_of_mem _ (List.mem_append_right _ h))
  have hl := lv_entry ([.ref (g 5), .int x1]) (n := 2) (Nat.le_of_ble_eq_true rfl)
  rw [lg_entry_eq]
  generalize (lg_sl ([.ref (g 5), .int x1]) ++ List.replicate (2 - (lg_sl ([.ref (g 5), .int x1])).length) Slot.unset).toArray = ls at hl ⊢
  have hl : lv_has ls 2 [(0, .ref (g 5)), (1, .int x1)] := hl
  unfold f_X0_written at h
  revert hw
  intro hw
  suffices K_ : ∀ (H : Heap) (locs : List Loc), mg_Wo D A s.heap H locs (mg_cW g cI cZ σ) → W p l e (headSpec wsX0_written ({ frames := 0, cells := 0, slots := 0, locals := 0 } : Room)).room s m ([.ref (g 5), .int x1] : List Value).toArray below meth c H locs 0 0 (MQ below (mg_Q D (mg_cW g cI cZ σ) A (some (.int y))) ([.ref (g 5), .int x1] : List Value).toArray s 0 0 A) (F0 m 0 ls []) from K_ _ _ hw
  clear hw hHe H
  intro H locs hw
  refine lv_iload_n hx hb dX0_written_0 rfl (lv_at hl 1 rfl) ?_
  refine mg_if_lt (tgt := 18) hx hb h dX0_written_1 (by decide) (fun h => ?_) (fun h => ?_)
  · refine lv_iconst (v := 0) hx hb dX0_written_18 (by decide) ?_
    cases h
    exact mg_eI hx hb hr hlocks hw (Nat.zero_le _) (Nat.zero_le _) dX0_written_19
  · refine lv_iload_n hx hb dX0_written_4 rfl (lv_at hl 1 rfl) ?_
    refine lv_iconst (v := 5) hx hb dX0_written_5 (by decide) ?_
    refine mg_icmp_ge (tgt := 18) hx hb h dX0_written_6 (by decide) (fun h => ?_) (fun h => ?_)
    · refine lv_iconst (v := 0) hx hb dX0_written_18 (by decide) ?_
      cases h
      exact mg_eI hx hb hr hlocks hw (Nat.zero_le _) (Nat.zero_le _) dX0_written_19
    · refine lv_aload_n hx hb dX0_written_9 rfl (lv_at hl 0 rfl) ?_
      refine va_get (D := D) (ci := 0) (v := .ref (g 22)) (C := RX0) (T := TX0) (N := 4) hx hb hts iX0_ hown hK hw.1 5 rfl rfl 3 (by decide) w0_ (fun _ h9 => h9) rfl dX0_written_10 ?_
      refine lv_iload_n hx hb dX0_written_13 rfl (lv_at hl 1 rfl) ?_
      refine mg_ald (σ := σ) (k := (2 * 5 + 12)) (n := 5) hx hb hK hw 22 0 rfl rfl h dX0_written_14 (fun v1 h => ?_)
      refine lv_goto (tgt := 19) hx hb dX0_written_15 (by decide) ?_
      cases h
      exact mg_eI hx hb hr hlocks hw (Nat.zero_le _) (Nat.zero_le _) dX0_written_19
set_option maxHeartbeats 4000000 in
set_option maxRecDepth 100000 in
theorem k_X0_written_6 (l : Launch) (D : va_G) (o : Nat → Nat) (cI cZ : ClassId) (g : Nat → Nat) (sz : Nat) (σ : mg_St) (x1 : Int32) (y : Int32) (h : f_X0_written σ 6 x1 = some y) : mg_CT l yX0_written wsX0_written ({ frames := 0, cells := 0, slots := 0, locals := 0 } : Room) D [(cI, .int), (cZ, .boolean)] o (mg_cW g cI cZ σ) sz [.ref (g 6), .int x1] (some (.int y)) (mg_cW g cI cZ σ) 0 0 := by
  unfold mg_CT
  refine Met.ofW (cc := cX0_written) (maxL := 2) (ret := (some .int)) (by decide) rfl ?_
  intro p e s m args below meth c s₁ B hml hv
  obtain ⟨rfl, hsz, hP, hK, hD0, hO⟩ := hv
  have hx := B.exec
  have hb := B.bytes
  have hr := B.returns
  have hts := atoms_spec (ws := wsX0_written) B.pre
  have hown : s.vm.findClass RX0 = some m.cls := findClass_of_methodNamed B.named
  have hlocks := B.notSynchronized
  subst hsz
  have hD := hD0.self (sz := s.heap.size)
  generalize hAe : va_A (mg_cW g cI cZ σ) s.heap.size = A at hD hO ⊢
  have hA : ∀ q : Nat, s.heap.size ≤ q → A q := fun q h => by rw [← hAe]; exact Or.inr h
  have hw : mg_Wo D A s.heap s.heap [] (mg_cW g cI cZ σ) := ⟨hP, hD, va_S.rf⟩
  have G9 : CallFix p m c cX0_written 2 s ([.ref (g 6), .int x1] : List Value).toArray wsX0_written RX0 := ⟨hx, hb, hml, hown, hts⟩
  clear hP hD hD0 hAe
  obtain ⟨H, hHe⟩ : ∃ H : Heap, H = s.heap := ⟨_, rfl⟩
  have w0_ := hts (.fieldLink RX0 22 "MoonGate$Course" "linesWritten" "[I") (by decide +kernel)
  have iX0_ : ∀ w ∈ wsX00, w ∈ wsX0_written := (fun _ h => List.mem_cons_of_mem _ (List.mem_append_right _ h))
  have hl := lv_entry ([.ref (g 6), .int x1]) (n := 2) (Nat.le_of_ble_eq_true rfl)
  rw [lg_entry_eq]
  generalize (lg_sl ([.ref (g 6), .int x1]) ++ List.replicate (2 - (lg_sl ([.ref (g 6), .int x1])).length) Slot.unset).toArray = ls at hl ⊢
  have hl : lv_has ls 2 [(0, .ref (g 6)), (1, .int x1)] := hl
  unfold f_X0_written at h
  revert hw
  intro hw
  suffices K_ : ∀ (H : Heap) (locs : List Loc), mg_Wo D A s.heap H locs (mg_cW g cI cZ σ) → W p l e (headSpec wsX0_written ({ frames := 0, cells := 0, slots := 0, locals := 0 } : Room)).room s m ([.ref (g 6), .int x1] : List Value).toArray below meth c H locs 0 0 (MQ below (mg_Q D (mg_cW g cI cZ σ) A (some (.int y))) ([.ref (g 6), .int x1] : List Value).toArray s 0 0 A) (F0 m 0 ls []) from K_ _ _ hw
  clear hw hHe H
  intro H locs hw
  refine lv_iload_n hx hb dX0_written_0 rfl (lv_at hl 1 rfl) ?_
  refine mg_if_lt (tgt := 18) hx hb h dX0_written_1 (by decide) (fun h => ?_) (fun h => ?_)
  · refine lv_iconst (v := 0) hx hb dX0_written_18 (by decide) ?_
    cases h
    exact mg_eI hx hb hr hlocks hw (Nat.zero_le _) (Nat.zero_le _) dX0_written_19
  · refine lv_iload_n hx hb dX0_written_4 rfl (lv_at hl 1 rfl) ?_
    refine lv_iconst (v := 5) hx hb dX0_written_5 (by decide) ?_
    refine mg_icmp_ge (tgt := 18) hx hb h dX0_written_6 (by decide) (fun h => ?_) (fun h => ?_)
    · refine lv_iconst (v := 0) hx hb dX0_written_18 (by decide) ?_
      cases h
      exact mg_eI hx hb hr hlocks hw (Nat.zero_le _) (Nat.zero_le _) dX0_written_19
    · refine lv_aload_n hx hb dX0_written_9 rfl (lv_at hl 0 rfl) ?_
      refine va_get (D := D) (ci := 0) (v := .ref (g 24)) (C := RX0) (T := TX0) (N := 4) hx hb hts iX0_ hown hK hw.1 6 rfl rfl 3 (by decide) w0_ (fun _ h9 => h9) rfl dX0_written_10 ?_
      refine lv_iload_n hx hb dX0_written_13 rfl (lv_at hl 1 rfl) ?_
      refine mg_ald (σ := σ) (k := (2 * 6 + 12)) (n := 5) hx hb hK hw 24 0 rfl rfl h dX0_written_14 (fun v1 h => ?_)
      refine lv_goto (tgt := 19) hx hb dX0_written_15 (by decide) ?_
      cases h
      exact mg_eI hx hb hr hlocks hw (Nat.zero_le _) (Nat.zero_le _) dX0_written_19
set_option maxHeartbeats 4000000 in
set_option maxRecDepth 100000 in
theorem k_X0_addWritten_5 (l : Launch) (D : va_G) (o : Nat → Nat) (cI cZ : ClassId) (g : Nat → Nat) (sz : Nat) (σ : mg_St) (x1 : Int32) (x2 : Int32) (y : mg_St) (h : f_X0_addWritten σ 5 x1 x2 = some y) : mg_CT l yX0_addWritten wsX0_addWritten ({ frames := 0, cells := 0, slots := 0, locals := 0 } : Room) D [(cI, .int), (cZ, .boolean)] o (mg_cW g cI cZ σ) sz [.ref (g 5), .int x1, .int x2] none (mg_cW g cI cZ y) 0 0 := by
  unfold mg_CT
  refine Met.ofW (cc := cX0_addWritten) (maxL := 3) (ret := none) (by decide) rfl ?_
  intro p e s m args below meth c s₁ B hml hv
  obtain ⟨rfl, hsz, hP, hK, hD0, hO⟩ := hv
  have hx := B.exec
  have hb := B.bytes
  have hr := B.returns
  have hts := atoms_spec (ws := wsX0_addWritten) B.pre
  have hown : s.vm.findClass RX0 = some m.cls := findClass_of_methodNamed B.named
  have hlocks := B.notSynchronized
  subst hsz
  have hD := hD0.self (sz := s.heap.size)
  generalize hAe : va_A (mg_cW g cI cZ σ) s.heap.size = A at hD hO ⊢
  have hA : ∀ q : Nat, s.heap.size ≤ q → A q := fun q h => by rw [← hAe]; exact Or.inr h
  have hw : mg_Wo D A s.heap s.heap [] (mg_cW g cI cZ σ) := ⟨hP, hD, va_S.rf⟩
  have G9 : CallFix p m c cX0_addWritten 3 s ([.ref (g 5), .int x1, .int x2] : List Value).toArray wsX0_addWritten RX0 := ⟨hx, hb, hml, hown, hts⟩
  clear hP hD hD0 hAe
  obtain ⟨H, hHe⟩ : ∃ H : Heap, H = s.heap := ⟨_, rfl⟩
  have w0_ := hts (.fieldLink RX0 22 "MoonGate$Course" "linesWritten" "[I") (by decide +kernel)
  have iX0_ : ∀ w ∈ wsX00, w ∈ wsX0_addWritten := (fun _ h => List.mem_cons_of_mem _ (List.mem_append_right _ h))
  have hl := lv_entry ([.ref (g 5), .int x1, .int x2]) (n := 3) (Nat.le_of_ble_eq_true rfl)
  rw [lg_entry_eq]
  generalize (lg_sl ([.ref (g 5), .int x1, .int x2]) ++ List.replicate (3 - (lg_sl ([.ref (g 5), .int x1, .int x2])).length) Slot.unset).toArray = ls at hl ⊢
  have hl : lv_has ls 3 [(0, .ref (g 5)), (1, .int x1), (2, .int x2)] := hl
  unfold f_X0_addWritten at h
  revert hw
  intro hw
  suffices K_ : ∀ (H : Heap) (locs : List Loc), mg_Wo D A s.heap H locs (mg_cW g cI cZ σ) → W p l e (headSpec wsX0_addWritten ({ frames := 0, cells := 0, slots := 0, locals := 0 } : Room)).room s m ([.ref (g 5), .int x1, .int x2] : List Value).toArray below meth c H locs 0 0 (MQ below (mg_Q D (mg_cW g cI cZ y) A none) ([.ref (g 5), .int x1, .int x2] : List Value).toArray s 0 0 A) (F0 m 0 ls []) from K_ _ _ hw
  clear hw hHe H
  intro H locs hw
  refine lv_iload_n hx hb dX0_addWritten_0 rfl (lv_at hl 1 rfl) ?_
  refine mg_if_lt (tgt := 19) hx hb h dX0_addWritten_1 (by decide) (fun h => ?_) (fun h => ?_)
  · cases h
    exact mg_eV hx hb hr hlocks hw (Nat.zero_le _) (Nat.zero_le _) dX0_addWritten_19
  · refine lv_iload_n hx hb dX0_addWritten_4 rfl (lv_at hl 1 rfl) ?_
    refine lv_iconst (v := 5) hx hb dX0_addWritten_5 (by decide) ?_
    refine mg_icmp_ge (tgt := 19) hx hb h dX0_addWritten_6 (by decide) (fun h => ?_) (fun h => ?_)
    · cases h
      exact mg_eV hx hb hr hlocks hw (Nat.zero_le _) (Nat.zero_le _) dX0_addWritten_19
    · refine lv_aload_n hx hb dX0_addWritten_9 rfl (lv_at hl 0 rfl) ?_
      refine va_get (D := D) (ci := 0) (v := .ref (g 22)) (C := RX0) (T := TX0) (N := 4) hx hb hts iX0_ hown hK hw.1 5 rfl rfl 3 (by decide) w0_ (fun _ h9 => h9) rfl dX0_addWritten_10 ?_
      refine lv_iload_n hx hb dX0_addWritten_13 rfl (lv_at hl 1 rfl) ?_
      refine lv_dup2_11 hx hb dX0_addWritten_14 rfl rfl ?_
      refine mg_ald (σ := σ) (k := (2 * 5 + 12)) (n := 5) hx hb hK hw 22 0 rfl rfl h dX0_addWritten_15 (fun v1 h => ?_)
      refine lv_iload_n hx hb dX0_addWritten_16 rfl (lv_at hl 2 rfl) ?_
      refine lv_iadd hx hb dX0_addWritten_17 ?_
      refine mg_ast (wd := mg_cW g cI cZ) (σ := σ) (k := (2 * 5 + 12)) (n := 5) hx hb hK hw 22 0 rfl (mg_cS_22 g cI cZ σ) rfl h dX0_addWritten_18 (fun s2 h H locs hw => ?_)
      cases h
      exact mg_eV hx hb hr hlocks hw (Nat.zero_le _) (Nat.zero_le _) dX0_addWritten_19
set_option maxHeartbeats 4000000 in
set_option maxRecDepth 100000 in
theorem k_X0_addWritten_6 (l : Launch) (D : va_G) (o : Nat → Nat) (cI cZ : ClassId) (g : Nat → Nat) (sz : Nat) (σ : mg_St) (x1 : Int32) (x2 : Int32) (y : mg_St) (h : f_X0_addWritten σ 6 x1 x2 = some y) : mg_CT l yX0_addWritten wsX0_addWritten ({ frames := 0, cells := 0, slots := 0, locals := 0 } : Room) D [(cI, .int), (cZ, .boolean)] o (mg_cW g cI cZ σ) sz [.ref (g 6), .int x1, .int x2] none (mg_cW g cI cZ y) 0 0 := by
  unfold mg_CT
  refine Met.ofW (cc := cX0_addWritten) (maxL := 3) (ret := none) (by decide) rfl ?_
  intro p e s m args below meth c s₁ B hml hv
  obtain ⟨rfl, hsz, hP, hK, hD0, hO⟩ := hv
  have hx := B.exec
  have hb := B.bytes
  have hr := B.returns
  have hts := atoms_spec (ws := wsX0_addWritten) B.pre
  have hown : s.vm.findClass RX0 = some m.cls := findClass_of_methodNamed B.named
  have hlocks := B.notSynchronized
  subst hsz
  have hD := hD0.self (sz := s.heap.size)
  generalize hAe : va_A (mg_cW g cI cZ σ) s.heap.size = A at hD hO ⊢
  have hA : ∀ q : Nat, s.heap.size ≤ q → A q := fun q h => by rw [← hAe]; exact Or.inr h
  have hw : mg_Wo D A s.heap s.heap [] (mg_cW g cI cZ σ) := ⟨hP, hD, va_S.rf⟩
  have G9 : CallFix p m c cX0_addWritten 3 s ([.ref (g 6), .int x1, .int x2] : List Value).toArray wsX0_addWritten RX0 := ⟨hx, hb, hml, hown, hts⟩
  clear hP hD hD0 hAe
  obtain ⟨H, hHe⟩ : ∃ H : Heap, H = s.heap := ⟨_, rfl⟩
  have w0_ := hts (.fieldLink RX0 22 "MoonGate$Course" "linesWritten" "[I") (by decide +kernel)
  have iX0_ : ∀ w ∈ wsX00, w ∈ wsX0_addWritten := (fun _ h => List.mem_cons_of_mem _ (List.mem_append_right _ h))
  have hl := lv_entry ([.ref (g 6), .int x1, .int x2]) (n := 3) (Nat.le_of_ble_eq_true rfl)
  rw [lg_entry_eq]
  generalize (lg_sl ([.ref (g 6), .int x1, .int x2]) ++ List.replicate (3 - (lg_sl ([.ref (g 6), .int x1, .int x2])).length) Slot.unset).toArray = ls at hl ⊢
  have hl : lv_has ls 3 [(0, .ref (g 6)), (1, .int x1), (2, .int x2)] := hl
  unfold f_X0_addWritten at h
  revert hw
  intro hw
  suffices K_ : ∀ (H : Heap) (locs : List Loc), mg_Wo D A s.heap H locs (mg_cW g cI cZ σ) → W p l e (headSpec wsX0_addWritten ({ frames := 0, cells := 0, slots := 0, locals := 0 } : Room)).room s m ([.ref (g 6), .int x1, .int x2] : List Value).toArray below meth c H locs 0 0 (MQ below (mg_Q D (mg_cW g cI cZ y) A none) ([.ref (g 6), .int x1, .int x2] : List Value).toArray s 0 0 A) (F0 m 0 ls []) from K_ _ _ hw
  clear hw hHe H
  intro H locs hw
  refine lv_iload_n hx hb dX0_addWritten_0 rfl (lv_at hl 1 rfl) ?_
  refine mg_if_lt (tgt := 19) hx hb h dX0_addWritten_1 (by decide) (fun h => ?_) (fun h => ?_)
  · cases h
    exact mg_eV hx hb hr hlocks hw (Nat.zero_le _) (Nat.zero_le _) dX0_addWritten_19
  · refine lv_iload_n hx hb dX0_addWritten_4 rfl (lv_at hl 1 rfl) ?_
    refine lv_iconst (v := 5) hx hb dX0_addWritten_5 (by decide) ?_
    refine mg_icmp_ge (tgt := 19) hx hb h dX0_addWritten_6 (by decide) (fun h => ?_) (fun h => ?_)
    · cases h
      exact mg_eV hx hb hr hlocks hw (Nat.zero_le _) (Nat.zero_le _) dX0_addWritten_19
    · refine lv_aload_n hx hb dX0_addWritten_9 rfl (lv_at hl 0 rfl) ?_
      refine va_get (D := D) (ci := 0) (v := .ref (g 24)) (C := RX0) (T := TX0) (N := 4) hx hb hts iX0_ hown hK hw.1 6 rfl rfl 3 (by decide) w0_ (fun _ h9 => h9) rfl dX0_addWritten_10 ?_
      refine lv_iload_n hx hb dX0_addWritten_13 rfl (lv_at hl 1 rfl) ?_
      refine lv_dup2_11 hx hb dX0_addWritten_14 rfl rfl ?_
      refine mg_ald (σ := σ) (k := (2 * 6 + 12)) (n := 5) hx hb hK hw 24 0 rfl rfl h dX0_addWritten_15 (fun v1 h => ?_)
      refine lv_iload_n hx hb dX0_addWritten_16 rfl (lv_at hl 2 rfl) ?_
      refine lv_iadd hx hb dX0_addWritten_17 ?_
      refine mg_ast (wd := mg_cW g cI cZ) (σ := σ) (k := (2 * 6 + 12)) (n := 5) hx hb hK hw 24 0 rfl (mg_cS_24 g cI cZ σ) rfl h dX0_addWritten_18 (fun s2 h H locs hw => ?_)
      cases h
      exact mg_eV hx hb hr hlocks hw (Nat.zero_le _) (Nat.zero_le _) dX0_addWritten_19
set_option maxHeartbeats 4000000 in
set_option maxRecDepth 100000 in
theorem k_X0_writtenByAll_5 (l : Launch) (D : va_G) (o : Nat → Nat) (cI cZ : ClassId) (g : Nat → Nat) (sz : Nat) (σ : mg_St)  (y : Int32) (h : f_X0_writtenByAll σ 5  = some y) : mg_CT l yX0_writtenByAll wsX0_writtenByAll ({ frames := 0, cells := 0, slots := 0, locals := 0 } : Room) D [(cI, .int), (cZ, .boolean)] o (mg_cW g cI cZ σ) sz [.ref (g 5)] (some (.int y)) (mg_cW g cI cZ σ) 0 0 := by
  unfold mg_CT
  refine Met.ofW (cc := cX0_writtenByAll) (maxL := 3) (ret := (some .int)) (by decide) rfl ?_
  intro p e s m args below meth c s₁ B hml hv
  obtain ⟨rfl, hsz, hP, hK, hD0, hO⟩ := hv
  have hx := B.exec
  have hb := B.bytes
  have hr := B.returns
  have hts := atoms_spec (ws := wsX0_writtenByAll) B.pre
  have hown : s.vm.findClass RX0 = some m.cls := findClass_of_methodNamed B.named
  have hlocks := B.notSynchronized
  subst hsz
  have hD := hD0.self (sz := s.heap.size)
  generalize hAe : va_A (mg_cW g cI cZ σ) s.heap.size = A at hD hO ⊢
  have hA : ∀ q : Nat, s.heap.size ≤ q → A q := fun q h => by rw [← hAe]; exact Or.inr h
  have hw : mg_Wo D A s.heap s.heap [] (mg_cW g cI cZ σ) := ⟨hP, hD, va_S.rf⟩
  have G9 : CallFix p m c cX0_writtenByAll 3 s ([.ref (g 5)] : List Value).toArray wsX0_writtenByAll RX0 := ⟨hx, hb, hml, hown, hts⟩
  clear hP hD hD0 hAe
  obtain ⟨H, hHe⟩ : ∃ H : Heap, H = s.heap := ⟨_, rfl⟩
  have w0_ := hts (.fieldLink RX0 22 "MoonGate$Course" "linesWritten" "[I") (by decide +kernel)
  have iX0_ : ∀ w ∈ wsX00, w ∈ wsX0_writtenByAll := (fun _ h => List.mem_cons_of_mem _ (List.mem_append_right _ h))
  have hl := lv_entry ([.ref (g 5)]) (n := 3) (Nat.le_of_ble_eq_true rfl)
  rw [lg_entry_eq]
  generalize (lg_sl ([.ref (g 5)]) ++ List.replicate (3 - (lg_sl ([.ref (g 5)])).length) Slot.unset).toArray = ls at hl ⊢
  have hl : lv_has ls 3 [(0, .ref (g 5))] := hl
  unfold f_X0_writtenByAll at h
  revert hw
  intro hw
  suffices K_ : ∀ (H : Heap) (locs : List Loc), mg_Wo D A s.heap H locs (mg_cW g cI cZ σ) → W p l e (headSpec wsX0_writtenByAll ({ frames := 0, cells := 0, slots := 0, locals := 0 } : Room)).room s m ([.ref (g 5)] : List Value).toArray below meth c H locs 0 0 (MQ below (mg_Q D (mg_cW g cI cZ σ) A (some (.int y))) ([.ref (g 5)] : List Value).toArray s 0 0 A) (F0 m 0 ls []) from K_ _ _ hw
  clear hw hHe H
  intro H locs hw
  refine lv_iconst (v := 0) hx hb dX0_writtenByAll_0 (by decide) ?_
  refine lv_istore_n (lv' := [(1, .int 0), (0, .ref (g 5))]) hx hb dX0_writtenByAll_1 rfl hl (by decide) rfl (fun ls hl => ?_)
  refine lv_iconst (v := 0) hx hb dX0_writtenByAll_2 (by decide) ?_
  refine lv_istore_n (lv' := [(2, .int 0), (1, .int 0), (0, .ref (g 5))]) hx hb dX0_writtenByAll_3 rfl hl (by decide) rfl (fun ls hl => ?_)
  have L4_ : ∀ (n : Nat) (x1_4 : Int32) (x2_4 : Int32) (y4_ : Int32 × Int32), f_X0_writtenByAll_4 σ 5 n x1_4 x2_4 = some y4_ → (∀ (H : Heap) (locs : List Loc) (ls : Array Slot), mg_Wo D A s.heap H locs (mg_cW g cI cZ σ) → lv_has ls 3 [(0, .ref (g 5)), (1, .int y4_.1), (2, .int y4_.2)] → W p l e (headSpec wsX0_writtenByAll ({ frames := 0, cells := 0, slots := 0, locals := 0 } : Room)).room s m ([.ref (g 5)] : List Value).toArray below meth c H locs 0 0 (MQ below (mg_Q D (mg_cW g cI cZ σ) A (some (.int y))) ([.ref (g 5)] : List Value).toArray s 0 0 A) (F0 m 24 ls [])) → ∀ (H : Heap) (locs : List Loc) (ls : Array Slot), mg_Wo D A s.heap H locs (mg_cW g cI cZ σ) → lv_has ls 3 [(0, .ref (g 5)), (1, .int x1_4), (2, .int x2_4)] → W p l e (headSpec wsX0_writtenByAll ({ frames := 0, cells := 0, slots := 0, locals := 0 } : Room)).room s m ([.ref (g 5)] : List Value).toArray below meth c H locs 0 0 (MQ below (mg_Q D (mg_cW g cI cZ σ) A (some (.int y))) ([.ref (g 5)] : List Value).toArray s 0 0 A) (F0 m 4 ls []) := by
    intro n
    induction n with
    | zero => intro x1_4 x2_4 y4_ h; rw [f_X0_writtenByAll_4] at h; cases h
    | succ n ih =>
      intro x1_4 x2_4 y4_ h kc H locs ls hw hl
      rw [f_X0_writtenByAll_4] at h
      refine lv_iload_n hx hb dX0_writtenByAll_4 rfl (lv_at hl 2 rfl) ?_
      refine lv_iconst (v := 5) hx hb dX0_writtenByAll_5 (by decide) ?_
      refine mg_icmp_ge (tgt := 24) hx hb h dX0_writtenByAll_6 (by decide) (fun h => ?_) (fun h => ?_)
      · cases h
        exact kc H locs ls hw (lv_sub hl [0, 1, 2] rfl)
      · refine lv_iload_n hx hb dX0_writtenByAll_9 rfl (lv_at hl 1 rfl) ?_
        refine lv_aload_n hx hb dX0_writtenByAll_10 rfl (lv_at hl 0 rfl) ?_
        refine va_get (D := D) (ci := 0) (v := .ref (g 22)) (C := RX0) (T := TX0) (N := 4) hx hb hts iX0_ hown hK hw.1 5 rfl rfl 3 (by decide) w0_ (fun _ h9 => h9) rfl dX0_writtenByAll_11 ?_
        refine lv_iload_n hx hb dX0_writtenByAll_14 rfl (lv_at hl 2 rfl) ?_
        refine mg_ald (σ := σ) (k := (2 * 5 + 12)) (n := 5) hx hb hK hw 22 0 rfl rfl h dX0_writtenByAll_15 (fun v2 h => ?_)
        refine lv_iadd hx hb dX0_writtenByAll_16 ?_
        refine lv_istore_n (lv' := [(1, .int (x1_4 + v2)), (0, .ref (g 5)), (2, .int x2_4)]) hx hb dX0_writtenByAll_17 rfl hl (by decide) rfl (fun ls hl => ?_)
        refine lv_iinc (v := (x2_4 + 1)) (lv' := [(2, .int (x2_4 + 1)), (1, .int (x1_4 + v2)), (0, .ref (g 5))]) hx hb dX0_writtenByAll_18 hl (k := 2) rfl rfl (by decide) rfl (fun ls hl => ?_)
        refine lv_goto (tgt := 4) hx hb dX0_writtenByAll_21 (by decide) ?_
        exact ih _ _ _ h kc H locs ls hw (lv_sub hl [2, 1, 0] rfl)
  obtain ⟨y1, h9_, h⟩ := mg_bind h
  refine L4_ _ _ _ _ h9_ (fun H locs ls hw hl => ?_) H locs ls hw (lv_sub hl [2, 1, 0] rfl)
  clear L4_ h9_
  refine lv_iload_n hx hb dX0_writtenByAll_24 rfl (lv_at hl 1 rfl) ?_
  cases h
  exact mg_eI hx hb hr hlocks hw (Nat.zero_le _) (Nat.zero_le _) dX0_writtenByAll_25
set_option maxHeartbeats 4000000 in
set_option maxRecDepth 100000 in
theorem k_X0_writtenByAll_6 (l : Launch) (D : va_G) (o : Nat → Nat) (cI cZ : ClassId) (g : Nat → Nat) (sz : Nat) (σ : mg_St)  (y : Int32) (h : f_X0_writtenByAll σ 6  = some y) : mg_CT l yX0_writtenByAll wsX0_writtenByAll ({ frames := 0, cells := 0, slots := 0, locals := 0 } : Room) D [(cI, .int), (cZ, .boolean)] o (mg_cW g cI cZ σ) sz [.ref (g 6)] (some (.int y)) (mg_cW g cI cZ σ) 0 0 := by
  unfold mg_CT
  refine Met.ofW (cc := cX0_writtenByAll) (maxL := 3) (ret := (some .int)) (by decide) rfl ?_
  intro p e s m args below meth c s₁ B hml hv
  obtain ⟨rfl, hsz, hP, hK, hD0, hO⟩ := hv
  have hx := B.exec
  have hb := B.bytes
  have hr := B.returns
  have hts := atoms_spec (ws := wsX0_writtenByAll) B.pre
  have hown : s.vm.findClass RX0 = some m.cls := findClass_of_methodNamed B.named
  have hlocks := B.notSynchronized
  subst hsz
  have hD := hD0.self (sz := s.heap.size)
  generalize hAe : va_A (mg_cW g cI cZ σ) s.heap.size = A at hD hO ⊢
  have hA : ∀ q : Nat, s.heap.size ≤ q → A q := fun q h => by rw [← hAe]; exact Or.inr h
  have hw : mg_Wo D A s.heap s.heap [] (mg_cW g cI cZ σ) := ⟨hP, hD, va_S.rf⟩
  have G9 : CallFix p m c cX0_writtenByAll 3 s ([.ref (g 6)] : List Value).toArray wsX0_writtenByAll RX0 := ⟨hx, hb, hml, hown, hts⟩
  clear hP hD hD0 hAe
  obtain ⟨H, hHe⟩ : ∃ H : Heap, H = s.heap := ⟨_, rfl⟩
  have w0_ := hts (.fieldLink RX0 22 "MoonGate$Course" "linesWritten" "[I") (by decide +kernel)
  have iX0_ : ∀ w ∈ wsX00, w ∈ wsX0_writtenByAll := (fun _ h => List.mem_cons_of_mem _ (List.mem_append_right _ h))
  have hl := lv_entry ([.ref (g 6)]) (n := 3) (Nat.le_of_ble_eq_true rfl)
  rw [lg_entry_eq]
  generalize (lg_sl ([.ref (g 6)]) ++ List.replicate (3 - (lg_sl ([.ref (g 6)])).length) Slot.unset).toArray = ls at hl ⊢
  have hl : lv_has ls 3 [(0, .ref (g 6))] := hl
  unfold f_X0_writtenByAll at h
  revert hw
  intro hw
  suffices K_ : ∀ (H : Heap) (locs : List Loc), mg_Wo D A s.heap H locs (mg_cW g cI cZ σ) → W p l e (headSpec wsX0_writtenByAll ({ frames := 0, cells := 0, slots := 0, locals := 0 } : Room)).room s m ([.ref (g 6)] : List Value).toArray below meth c H locs 0 0 (MQ below (mg_Q D (mg_cW g cI cZ σ) A (some (.int y))) ([.ref (g 6)] : List Value).toArray s 0 0 A) (F0 m 0 ls []) from K_ _ _ hw
  clear hw hHe H
  intro H locs hw
  refine lv_iconst (v := 0) hx hb dX0_writtenByAll_0 (by decide) ?_
  refine lv_istore_n (lv' := [(1, .int 0), (0, .ref (g 6))]) hx hb dX0_writtenByAll_1 rfl hl (by decide) rfl (fun ls hl => ?_)
  refine lv_iconst (v := 0) hx hb dX0_writtenByAll_2 (by decide) ?_
  refine lv_istore_n (lv' := [(2, .int 0), (1, .int 0), (0, .ref (g 6))]) hx hb dX0_writtenByAll_3 rfl hl (by decide) rfl (fun ls hl => ?_)
  have L4_ : ∀ (n : Nat) (x1_4 : Int32) (x2_4 : Int32) (y4_ : Int32 × Int32), f_X0_writtenByAll_4 σ 6 n x1_4 x2_4 = some y4_ → (∀ (H : Heap) (locs : List Loc) (ls : Array Slot), mg_Wo D A s.heap H locs (mg_cW g cI cZ σ) → lv_has ls 3 [(0, .ref (g 6)), (1, .int y4_.1), (2, .int y4_.2)] → W p l e (headSpec wsX0_writtenByAll ({ frames := 0, cells := 0, slots := 0, locals := 0 } : Room)).room s m ([.ref (g 6)] : List Value).toArray below meth c H locs 0 0 (MQ below (mg_Q D (mg_cW g cI cZ σ) A (some (.int y))) ([.ref (g 6)] : List Value).toArray s 0 0 A) (F0 m 24 ls [])) → ∀ (H : Heap) (locs : List Loc) (ls : Array Slot), mg_Wo D A s.heap H locs (mg_cW g cI cZ σ) → lv_has ls 3 [(0, .ref (g 6)), (1, .int x1_4), (2, .int x2_4)] → W p l e (headSpec wsX0_writtenByAll ({ frames := 0, cells := 0, slots := 0, locals := 0 } : Room)).room s m ([.ref (g 6)] : List Value).toArray below meth c H locs 0 0 (MQ below (mg_Q D (mg_cW g cI cZ σ) A (some (.int y))) ([.ref (g 6)] : List Value).toArray s 0 0 A) (F0 m 4 ls []) := by
    intro n
    induction n with
    | zero => intro x1_4 x2_4 y4_ h; rw [f_X0_writtenByAll_4] at h; cases h
    | succ n ih =>
      intro x1_4 x2_4 y4_ h kc H locs ls hw hl
      rw [f_X0_writtenByAll_4] at h
      refine lv_iload_n hx hb dX0_writtenByAll_4 rfl (lv_at hl 2 rfl) ?_
      refine lv_iconst (v := 5) hx hb dX0_writtenByAll_5 (by decide) ?_
      refine mg_icmp_ge (tgt := 24) hx hb h dX0_writtenByAll_6 (by decide) (fun h => ?_) (fun h => ?_)
      · cases h
        exact kc H locs ls hw (lv_sub hl [0, 1, 2] rfl)
      · refine lv_iload_n hx hb dX0_writtenByAll_9 rfl (lv_at hl 1 rfl) ?_
        refine lv_aload_n hx hb dX0_writtenByAll_10 rfl (lv_at hl 0 rfl) ?_
        refine va_get (D := D) (ci := 0) (v := .ref (g 24)) (C := RX0) (T := TX0) (N := 4) hx hb hts iX0_ hown hK hw.1 6 rfl rfl 3 (by decide) w0_ (fun _ h9 => h9) rfl dX0_writtenByAll_11 ?_
        refine lv_iload_n hx hb dX0_writtenByAll_14 rfl (lv_at hl 2 rfl) ?_
        refine mg_ald (σ := σ) (k := (2 * 6 + 12)) (n := 5) hx hb hK hw 24 0 rfl rfl h dX0_writtenByAll_15 (fun v2 h => ?_)
        refine lv_iadd hx hb dX0_writtenByAll_16 ?_
        refine lv_istore_n (lv' := [(1, .int (x1_4 + v2)), (0, .ref (g 6)), (2, .int x2_4)]) hx hb dX0_writtenByAll_17 rfl hl (by decide) rfl (fun ls hl => ?_)
        refine lv_iinc (v := (x2_4 + 1)) (lv' := [(2, .int (x2_4 + 1)), (1, .int (x1_4 + v2)), (0, .ref (g 6))]) hx hb dX0_writtenByAll_18 hl (k := 2) rfl rfl (by decide) rfl (fun ls hl => ?_)
        refine lv_goto (tgt := 4) hx hb dX0_writtenByAll_21 (by decide) ?_
        exact ih _ _ _ h kc H locs ls hw (lv_sub hl [2, 1, 0] rfl)
  obtain ⟨y1, h9_, h⟩ := mg_bind h
  refine L4_ _ _ _ _ h9_ (fun H locs ls hw hl => ?_) H locs ls hw (lv_sub hl [2, 1, 0] rfl)
  clear L4_ h9_
  refine lv_iload_n hx hb dX0_writtenByAll_24 rfl (lv_at hl 1 rfl) ?_
  cases h
  exact mg_eI hx hb hr hlocks hw (Nat.zero_le _) (Nat.zero_le _) dX0_writtenByAll_25
set_option maxHeartbeats 4000000 in
set_option maxRecDepth 100000 in
theorem k_X1_isInside (l : Launch) (D : va_G) (o : Nat → Nat) (cI cZ : ClassId) (g : Nat → Nat) (sz : Nat) (σ : mg_St) (x0 : Int32) (x1 : Int32) (y : Int32) (h : f_X1_isInside σ x0 x1 = some y) : mg_CT l yX1_isInside wsX1_isInside ({ frames := 0, cells := 0, slots := 0, locals := 0 } : Room) D [(cI, .int), (cZ, .boolean)] o (mg_cW g cI cZ σ) sz [.int x0, .int x1] (some (.int y)) (mg_cW g cI cZ σ) 0 0 := by
  unfold mg_CT
  refine Met.ofW (cc := cX1_isInside) (maxL := 2) (ret := (some .boolean)) (by decide) rfl ?_
  intro p e s m args below meth c s₁ B hml hv
  obtain ⟨rfl, hsz, hP, hK, hD0, hO⟩ := hv
  have hx := B.exec
  have hb := B.bytes
  have hr := B.returns
  have hts := atoms_spec (ws := wsX1_isInside) B.pre
  have hown : s.vm.findClass RX1 = some m.cls := findClass_of_methodNamed B.named
  have hlocks := B.notSynchronized
  subst hsz
  have hD := hD0.self (sz := s.heap.size)
  generalize hAe : va_A (mg_cW g cI cZ σ) s.heap.size = A at hD hO ⊢
  have hA : ∀ q : Nat, s.heap.size ≤ q → A q := fun q h => by rw [← hAe]; exact Or.inr h
  have hw : mg_Wo D A s.heap s.heap [] (mg_cW g cI cZ σ) := ⟨hP, hD, va_S.rf⟩
  have G9 : CallFix p m c cX1_isInside 2 s ([.int x0, .int x1] : List Value).toArray wsX1_isInside RX1 := ⟨hx, hb, hml, hown, hts⟩
  clear hP hD hD0 hAe
  obtain ⟨H, hHe⟩ : ∃ H : Heap, H = s.heap := ⟨_, rfl⟩
  have hl := lv_entry ([.int x0, .int x1]) (n := 2) (Nat.le_of_ble_eq_true rfl)
  rw [lg_entry_eq]
  generalize (lg_sl ([.int x0, .int x1]) ++ List.replicate (2 - (lg_sl ([.int x0, .int x1])).length) Slot.unset).toArray = ls at hl ⊢
  have hl : lv_has ls 2 [(0, .int x0), (1, .int x1)] := hl
  unfold f_X1_isInside at h
  revert hw
  intro hw
  suffices K_ : ∀ (H : Heap) (locs : List Loc), mg_Wo D A s.heap H locs (mg_cW g cI cZ σ) → W p l e (headSpec wsX1_isInside ({ frames := 0, cells := 0, slots := 0, locals := 0 } : Room)).room s m ([.int x0, .int x1] : List Value).toArray below meth c H locs 0 0 (MQ below (mg_Q D (mg_cW g cI cZ σ) A (some (.int y))) ([.int x0, .int x1] : List Value).toArray s 0 0 A) (F0 m 0 ls []) from K_ _ _ hw
  clear hw hHe H
  intro H locs hw
  refine lv_iload_n hx hb dX1_isInside_0 rfl (lv_at hl 0 rfl) ?_
  refine mg_if_lt (tgt := 24) hx hb h dX1_isInside_1 (by decide) (fun h => ?_) (fun h => ?_)
  · refine lv_iconst (v := 0) hx hb dX1_isInside_24 (by decide) ?_
    cases h
    exact mg_eZ hx hb hr hlocks hw rfl (Nat.zero_le _) (Nat.zero_le _) dX1_isInside_25
  · refine lv_iload_n hx hb dX1_isInside_4 rfl (lv_at hl 0 rfl) ?_
    refine lv_bipush (v := 10) hx hb dX1_isInside_5 (by decide) ?_
    refine mg_icmp_ge (tgt := 24) hx hb h dX1_isInside_7 (by decide) (fun h => ?_) (fun h => ?_)
    · refine lv_iconst (v := 0) hx hb dX1_isInside_24 (by decide) ?_
      cases h
      exact mg_eZ hx hb hr hlocks hw rfl (Nat.zero_le _) (Nat.zero_le _) dX1_isInside_25
    · refine lv_iload_n hx hb dX1_isInside_10 rfl (lv_at hl 1 rfl) ?_
      refine mg_if_lt (tgt := 24) hx hb h dX1_isInside_11 (by decide) (fun h => ?_) (fun h => ?_)
      · refine lv_iconst (v := 0) hx hb dX1_isInside_24 (by decide) ?_
        cases h
        exact mg_eZ hx hb hr hlocks hw rfl (Nat.zero_le _) (Nat.zero_le _) dX1_isInside_25
      · refine lv_iload_n hx hb dX1_isInside_14 rfl (lv_at hl 1 rfl) ?_
        refine lv_bipush (v := 7) hx hb dX1_isInside_15 (by decide) ?_
        refine mg_icmp_ge (tgt := 24) hx hb h dX1_isInside_17 (by decide) (fun h => ?_) (fun h => ?_)
        · refine lv_iconst (v := 0) hx hb dX1_isInside_24 (by decide) ?_
          cases h
          exact mg_eZ hx hb hr hlocks hw rfl (Nat.zero_le _) (Nat.zero_le _) dX1_isInside_25
        · refine lv_iconst (v := 1) hx hb dX1_isInside_20 (by decide) ?_
          refine lv_goto (tgt := 25) hx hb dX1_isInside_21 (by decide) ?_
          cases h
          exact mg_eZ hx hb hr hlocks hw rfl (Nat.zero_le _) (Nat.zero_le _) dX1_isInside_25
set_option maxHeartbeats 4000000 in
set_option maxRecDepth 100000 in
theorem k_X1_numberOf (l : Launch) (D : va_G) (o : Nat → Nat) (cI cZ : ClassId) (g : Nat → Nat) (sz : Nat) (σ : mg_St) (x0 : Int32) (x1 : Int32) (y : Int32) (h : f_X1_numberOf σ x0 x1 = some y) : mg_CT l yX1_numberOf wsX1_numberOf ({ frames := 0, cells := 0, slots := 0, locals := 0 } : Room) D [(cI, .int), (cZ, .boolean)] o (mg_cW g cI cZ σ) sz [.int x0, .int x1] (some (.int y)) (mg_cW g cI cZ σ) 0 0 := by
  unfold mg_CT
  refine Met.ofW (cc := cX1_numberOf) (maxL := 2) (ret := (some .int)) (by decide) rfl ?_
  intro p e s m args below meth c s₁ B hml hv
  obtain ⟨rfl, hsz, hP, hK, hD0, hO⟩ := hv
  have hx := B.exec
  have hb := B.bytes
  have hr := B.returns
  have hts := atoms_spec (ws := wsX1_numberOf) B.pre
  have hown : s.vm.findClass RX1 = some m.cls := findClass_of_methodNamed B.named
  have hlocks := B.notSynchronized
  subst hsz
  have hD := hD0.self (sz := s.heap.size)
  generalize hAe : va_A (mg_cW g cI cZ σ) s.heap.size = A at hD hO ⊢
  have hA : ∀ q : Nat, s.heap.size ≤ q → A q := fun q h => by rw [← hAe]; exact Or.inr h
  have hw : mg_Wo D A s.heap s.heap [] (mg_cW g cI cZ σ) := ⟨hP, hD, va_S.rf⟩
  have G9 : CallFix p m c cX1_numberOf 2 s ([.int x0, .int x1] : List Value).toArray wsX1_numberOf RX1 := ⟨hx, hb, hml, hown, hts⟩
  clear hP hD hD0 hAe
  obtain ⟨H, hHe⟩ : ∃ H : Heap, H = s.heap := ⟨_, rfl⟩
  have hl := lv_entry ([.int x0, .int x1]) (n := 2) (Nat.le_of_ble_eq_true rfl)
  rw [lg_entry_eq]
  generalize (lg_sl ([.int x0, .int x1]) ++ List.replicate (2 - (lg_sl ([.int x0, .int x1])).length) Slot.unset).toArray = ls at hl ⊢
  have hl : lv_has ls 2 [(0, .int x0), (1, .int x1)] := hl
  unfold f_X1_numberOf at h
  revert hw
  intro hw
  suffices K_ : ∀ (H : Heap) (locs : List Loc), mg_Wo D A s.heap H locs (mg_cW g cI cZ σ) → W p l e (headSpec wsX1_numberOf ({ frames := 0, cells := 0, slots := 0, locals := 0 } : Room)).room s m ([.int x0, .int x1] : List Value).toArray below meth c H locs 0 0 (MQ below (mg_Q D (mg_cW g cI cZ σ) A (some (.int y))) ([.int x0, .int x1] : List Value).toArray s 0 0 A) (F0 m 0 ls []) from K_ _ _ hw
  clear hw hHe H
  intro H locs hw
  refine lv_bipush (v := 10) hx hb dX1_numberOf_0 (by decide) ?_
  refine lv_iload_n hx hb dX1_numberOf_2 rfl (lv_at hl 1 rfl) ?_
  refine lv_imul hx hb dX1_numberOf_3 ?_
  refine lv_iload_n hx hb dX1_numberOf_4 rfl (lv_at hl 0 rfl) ?_
  refine lv_iadd hx hb dX1_numberOf_5 ?_
  cases h
  exact mg_eI hx hb hr hlocks hw (Nat.zero_le _) (Nat.zero_le _) dX1_numberOf_6
set_option maxHeartbeats 4000000 in
set_option maxRecDepth 100000 in
theorem k_X1_isDirection (l : Launch) (D : va_G) (o : Nat → Nat) (cI cZ : ClassId) (g : Nat → Nat) (sz : Nat) (σ : mg_St) (x0 : Int32) (y : Int32) (h : f_X1_isDirection σ x0 = some y) : mg_CT l yX1_isDirection wsX1_isDirection ({ frames := 0, cells := 0, slots := 0, locals := 0 } : Room) D [(cI, .int), (cZ, .boolean)] o (mg_cW g cI cZ σ) sz [.int x0] (some (.int y)) (mg_cW g cI cZ σ) 0 0 := by
  unfold mg_CT
  refine Met.ofW (cc := cX1_isDirection) (maxL := 1) (ret := (some .boolean)) (by decide) rfl ?_
  intro p e s m args below meth c s₁ B hml hv
  obtain ⟨rfl, hsz, hP, hK, hD0, hO⟩ := hv
  have hx := B.exec
  have hb := B.bytes
  have hr := B.returns
  have hts := atoms_spec (ws := wsX1_isDirection) B.pre
  have hown : s.vm.findClass RX1 = some m.cls := findClass_of_methodNamed B.named
  have hlocks := B.notSynchronized
  subst hsz
  have hD := hD0.self (sz := s.heap.size)
  generalize hAe : va_A (mg_cW g cI cZ σ) s.heap.size = A at hD hO ⊢
  have hA : ∀ q : Nat, s.heap.size ≤ q → A q := fun q h => by rw [← hAe]; exact Or.inr h
  have hw : mg_Wo D A s.heap s.heap [] (mg_cW g cI cZ σ) := ⟨hP, hD, va_S.rf⟩
  have G9 : CallFix p m c cX1_isDirection 1 s ([.int x0] : List Value).toArray wsX1_isDirection RX1 := ⟨hx, hb, hml, hown, hts⟩
  clear hP hD hD0 hAe
  obtain ⟨H, hHe⟩ : ∃ H : Heap, H = s.heap := ⟨_, rfl⟩
  have hl := lv_entry ([.int x0]) (n := 1) (Nat.le_of_ble_eq_true rfl)
  rw [lg_entry_eq]
  generalize (lg_sl ([.int x0]) ++ List.replicate (1 - (lg_sl ([.int x0])).length) Slot.unset).toArray = ls at hl ⊢
  have hl : lv_has ls 1 [(0, .int x0)] := hl
  unfold f_X1_isDirection at h
  revert hw
  intro hw
  suffices K_ : ∀ (H : Heap) (locs : List Loc), mg_Wo D A s.heap H locs (mg_cW g cI cZ σ) → W p l e (headSpec wsX1_isDirection ({ frames := 0, cells := 0, slots := 0, locals := 0 } : Room)).room s m ([.int x0] : List Value).toArray below meth c H locs 0 0 (MQ below (mg_Q D (mg_cW g cI cZ σ) A (some (.int y))) ([.int x0] : List Value).toArray s 0 0 A) (F0 m 0 ls []) from K_ _ _ hw
  clear hw hHe H
  intro H locs hw
  refine lv_iload_n hx hb dX1_isDirection_0 rfl (lv_at hl 0 rfl) ?_
  refine mg_if_lt (tgt := 13) hx hb h dX1_isDirection_1 (by decide) (fun h => ?_) (fun h => ?_)
  · refine lv_iconst (v := 0) hx hb dX1_isDirection_13 (by decide) ?_
    cases h
    exact mg_eZ hx hb hr hlocks hw rfl (Nat.zero_le _) (Nat.zero_le _) dX1_isDirection_14
  · refine lv_iload_n hx hb dX1_isDirection_4 rfl (lv_at hl 0 rfl) ?_
    refine lv_iconst (v := 4) hx hb dX1_isDirection_5 (by decide) ?_
    refine mg_icmp_ge (tgt := 13) hx hb h dX1_isDirection_6 (by decide) (fun h => ?_) (fun h => ?_)
    · refine lv_iconst (v := 0) hx hb dX1_isDirection_13 (by decide) ?_
      cases h
      exact mg_eZ hx hb hr hlocks hw rfl (Nat.zero_le _) (Nat.zero_le _) dX1_isDirection_14
    · refine lv_iconst (v := 1) hx hb dX1_isDirection_9 (by decide) ?_
      refine lv_goto (tgt := 14) hx hb dX1_isDirection_10 (by decide) ?_
      cases h
      exact mg_eZ hx hb hr hlocks hw rfl (Nat.zero_le _) (Nat.zero_le _) dX1_isDirection_14
set_option maxHeartbeats 4000000 in
set_option maxRecDepth 100000 in
theorem k_X1_isPlace (l : Launch) (D : va_G) (o : Nat → Nat) (cI cZ : ClassId) (g : Nat → Nat) (sz : Nat) (σ : mg_St) (x0 : Int32) (y : Int32) (h : f_X1_isPlace σ x0 = some y) : mg_CT l yX1_isPlace wsX1_isPlace ({ frames := 0, cells := 0, slots := 0, locals := 0 } : Room) D [(cI, .int), (cZ, .boolean)] o (mg_cW g cI cZ σ) sz [.int x0] (some (.int y)) (mg_cW g cI cZ σ) 0 0 := by
  unfold mg_CT
  refine Met.ofW (cc := cX1_isPlace) (maxL := 1) (ret := (some .boolean)) (by decide) rfl ?_
  intro p e s m args below meth c s₁ B hml hv
  obtain ⟨rfl, hsz, hP, hK, hD0, hO⟩ := hv
  have hx := B.exec
  have hb := B.bytes
  have hr := B.returns
  have hts := atoms_spec (ws := wsX1_isPlace) B.pre
  have hown : s.vm.findClass RX1 = some m.cls := findClass_of_methodNamed B.named
  have hlocks := B.notSynchronized
  subst hsz
  have hD := hD0.self (sz := s.heap.size)
  generalize hAe : va_A (mg_cW g cI cZ σ) s.heap.size = A at hD hO ⊢
  have hA : ∀ q : Nat, s.heap.size ≤ q → A q := fun q h => by rw [← hAe]; exact Or.inr h
  have hw : mg_Wo D A s.heap s.heap [] (mg_cW g cI cZ σ) := ⟨hP, hD, va_S.rf⟩
  have G9 : CallFix p m c cX1_isPlace 1 s ([.int x0] : List Value).toArray wsX1_isPlace RX1 := ⟨hx, hb, hml, hown, hts⟩
  clear hP hD hD0 hAe
  obtain ⟨H, hHe⟩ : ∃ H : Heap, H = s.heap := ⟨_, rfl⟩
  have hl := lv_entry ([.int x0]) (n := 1) (Nat.le_of_ble_eq_true rfl)
  rw [lg_entry_eq]
  generalize (lg_sl ([.int x0]) ++ List.replicate (1 - (lg_sl ([.int x0])).length) Slot.unset).toArray = ls at hl ⊢
  have hl : lv_has ls 1 [(0, .int x0)] := hl
  unfold f_X1_isPlace at h
  revert hw
  intro hw
  suffices K_ : ∀ (H : Heap) (locs : List Loc), mg_Wo D A s.heap H locs (mg_cW g cI cZ σ) → W p l e (headSpec wsX1_isPlace ({ frames := 0, cells := 0, slots := 0, locals := 0 } : Room)).room s m ([.int x0] : List Value).toArray below meth c H locs 0 0 (MQ below (mg_Q D (mg_cW g cI cZ σ) A (some (.int y))) ([.int x0] : List Value).toArray s 0 0 A) (F0 m 0 ls []) from K_ _ _ hw
  clear hw hHe H
  intro H locs hw
  refine lv_iload_n hx hb dX1_isPlace_0 rfl (lv_at hl 0 rfl) ?_
  refine mg_if_lt (tgt := 14) hx hb h dX1_isPlace_1 (by decide) (fun h => ?_) (fun h => ?_)
  · refine lv_iconst (v := 0) hx hb dX1_isPlace_14 (by decide) ?_
    cases h
    exact mg_eZ hx hb hr hlocks hw rfl (Nat.zero_le _) (Nat.zero_le _) dX1_isPlace_15
  · refine lv_iload_n hx hb dX1_isPlace_4 rfl (lv_at hl 0 rfl) ?_
    refine lv_bipush (v := 70) hx hb dX1_isPlace_5 (by decide) ?_
    refine mg_icmp_ge (tgt := 14) hx hb h dX1_isPlace_7 (by decide) (fun h => ?_) (fun h => ?_)
    · refine lv_iconst (v := 0) hx hb dX1_isPlace_14 (by decide) ?_
      cases h
      exact mg_eZ hx hb hr hlocks hw rfl (Nat.zero_le _) (Nat.zero_le _) dX1_isPlace_15
    · refine lv_iconst (v := 1) hx hb dX1_isPlace_10 (by decide) ?_
      refine lv_goto (tgt := 15) hx hb dX1_isPlace_11 (by decide) ?_
      cases h
      exact mg_eZ hx hb hr hlocks hw rfl (Nat.zero_le _) (Nat.zero_le _) dX1_isPlace_15
set_option maxHeartbeats 4000000 in
set_option maxRecDepth 100000 in
theorem k_X1_beside (l : Launch) (D : va_G) (o : Nat → Nat) (cI cZ : ClassId) (g : Nat → Nat) (sz : Nat) (σ : mg_St) (x1 : Int32) (x2 : Int32) (y : Int32) (h : f_X1_beside σ x1 x2 = some y) : mg_CT l yX1_beside wsX1_beside ({ frames := 1, cells := 0, slots := 0, locals := 21 } : Room) D [(cI, .int), (cZ, .boolean)] o (mg_cW g cI cZ σ) sz [.ref (g 1), .int x1, .int x2] (some (.int y)) (mg_cW g cI cZ σ) 0 0 := by
  unfold mg_CT
  refine Met.ofW (cc := cX1_beside) (maxL := 5) (ret := (some .int)) (by decide) rfl ?_
  intro p e s m args below meth c s₁ B hml hv
  obtain ⟨rfl, hsz, hP, hK, hD0, hO⟩ := hv
  have hx := B.exec
  have hb := B.bytes
  have hr := B.returns
  have hts := atoms_spec (ws := wsX1_beside) B.pre
  have hown : s.vm.findClass RX1 = some m.cls := findClass_of_methodNamed B.named
  have hlocks := B.notSynchronized
  subst hsz
  have hD := hD0.self (sz := s.heap.size)
  generalize hAe : va_A (mg_cW g cI cZ σ) s.heap.size = A at hD hO ⊢
  have hA : ∀ q : Nat, s.heap.size ≤ q → A q := fun q h => by rw [← hAe]; exact Or.inr h
  have hw : mg_Wo D A s.heap s.heap [] (mg_cW g cI cZ σ) := ⟨hP, hD, va_S.rf⟩
  have G9 : CallFix p m c cX1_beside 5 s ([.ref (g 1), .int x1, .int x2] : List Value).toArray wsX1_beside RX1 := ⟨hx, hb, hml, hown, hts⟩
  clear hP hD hD0 hAe
  obtain ⟨H, hHe⟩ : ∃ H : Heap, H = s.heap := ⟨_, rfl⟩
  have w0_ := hts (.fieldLink RX1 47 "MoonGate$Garden" "STEP_X" "[I") (by decide +kernel)
  have w1_ := hts (.fieldLink RX1 50 "MoonGate$Garden" "STEP_Y" "[I") (by decide +kernel)
  have hl := lv_entry ([.ref (g 1), .int x1, .int x2]) (n := 5) (Nat.le_of_ble_eq_true rfl)
  rw [lg_entry_eq]
  generalize (lg_sl ([.ref (g 1), .int x1, .int x2]) ++ List.replicate (5 - (lg_sl ([.ref (g 1), .int x1, .int x2])).length) Slot.unset).toArray = ls at hl ⊢
  have hl : lv_has ls 5 [(0, .ref (g 1)), (1, .int x1), (2, .int x2)] := hl
  unfold f_X1_beside at h
  revert hw
  intro hw
  suffices K_ : ∀ (H : Heap) (locs : List Loc), mg_Wo D A s.heap H locs (mg_cW g cI cZ σ) → W p l e (headSpec wsX1_beside ({ frames := 1, cells := 0, slots := 0, locals := 21 } : Room)).room s m ([.ref (g 1), .int x1, .int x2] : List Value).toArray below meth c H locs 0 0 (MQ below (mg_Q D (mg_cW g cI cZ σ) A (some (.int y))) ([.ref (g 1), .int x1, .int x2] : List Value).toArray s 0 0 A) (F0 m 0 ls []) from K_ _ _ hw
  clear hw hHe H
  intro H locs hw
  refine lv_iload_n hx hb dX1_beside_0 rfl (lv_at hl 1 rfl) ?_
  obtain ⟨y1, h9_, h⟩ := mg_bind h
  refine mg_k (rv := (some (.int y1))) (va_runS (As := [.int x1]) (rest := []) G9 (k_X1_isPlace l D o cI cZ g H.size σ x1 y1 h9_) (va_cwS 1 hts gX1_beside_X1_isPlace rfl rfl rfl (by decide +kernel) ⟨Nat.le_of_ble_eq_true rfl, Nat.le_of_ble_eq_true rfl⟩) (mg_pre hK hO hA hw) rfl rfl hl.1 rfl (lv_room (Nat.le_of_ble_eq_true rfl)) dX1_beside_1 ⟨Nat.zero_le _, Nat.zero_le _⟩) hw hA (fun H locs hw => ?_)
  clear h9_
  refine mg_if_eq (tgt := 14) hx hb h dX1_beside_4 (by decide) (fun h => ?_) (fun h => ?_)
  · refine lv_iconst (v := (-1)) hx hb dX1_beside_14 (by decide) ?_
    cases h
    exact mg_eI hx hb hr hlocks hw (Nat.zero_le _) (Nat.zero_le _) dX1_beside_15
  · refine lv_iload_n hx hb dX1_beside_7 rfl (lv_at hl 2 rfl) ?_
    obtain ⟨y2, h9_, h⟩ := mg_bind h
    refine mg_k (rv := (some (.int y2))) (va_runS (As := [.int x2]) (rest := []) G9 (k_X1_isDirection l D o cI cZ g H.size σ x2 y2 h9_) (va_cwS 1 hts gX1_beside_X1_isDirection rfl rfl rfl (by decide +kernel) ⟨Nat.le_of_ble_eq_true rfl, Nat.le_of_ble_eq_true rfl⟩) (mg_pre hK hO hA hw) rfl rfl hl.1 rfl (lv_room (Nat.le_of_ble_eq_true rfl)) dX1_beside_8 ⟨Nat.zero_le _, Nat.zero_le _⟩) hw hA (fun H locs hw => ?_)
    clear h9_
    refine mg_if_ne (tgt := 16) hx hb h dX1_beside_11 (by decide) (fun h => ?_) (fun h => ?_)
    · refine lv_iload_n hx hb dX1_beside_16 rfl (lv_at hl 1 rfl) ?_
      refine lv_bipush (v := 10) hx hb dX1_beside_17 (by decide) ?_
      refine lv_irem hx hb dX1_beside_19 (by decide) ?_
      refine va_gets (C := "MoonGate$Garden") (n := "STEP_X") (d := "[I") hx hb (hO.1) hw.2.2 hown w0_ (fun _ h9 => h9) dX1_beside_20 ?_
      refine lv_iload_n hx hb dX1_beside_23 rfl (lv_at hl 2 rfl) ?_
      refine mg_tld hx hb (hO.2.1) hw h dX1_beside_24 (fun v3 h => ?_)
      refine lv_iadd hx hb dX1_beside_25 ?_
      refine lv_istore_n (lv' := [(3, .int ((x1 - x1 / 10 * 10) + v3)), (0, .ref (g 1)), (1, .int x1), (2, .int x2)]) hx hb dX1_beside_26 rfl hl (by decide) rfl (fun ls hl => ?_)
      refine lv_iload_n hx hb dX1_beside_27 rfl (lv_at hl 2 rfl) ?_
      refine lv_bipush (v := 10) hx hb dX1_beside_28 (by decide) ?_
      refine lv_idiv hx hb dX1_beside_30 (by decide) ?_
      refine va_gets (C := "MoonGate$Garden") (n := "STEP_Y") (d := "[I") hx hb (hO.2.2.1) hw.2.2 hown w1_ (fun _ h9 => h9) dX1_beside_31 ?_
      refine lv_iload_n hx hb dX1_beside_34 rfl (lv_at hl 3 rfl) ?_
      refine mg_tld hx hb (hO.2.2.2.1) hw h dX1_beside_35 (fun v4 h => ?_)
      refine lv_iadd hx hb dX1_beside_36 ?_
      refine lv_istore (lv' := [(4, .int ((x1 / 10) + v4)), (3, .int ((x1 - x1 / 10 * 10) + v3)), (0, .ref (g 1)), (1, .int x1), (2, .int x2)]) hx hb dX1_beside_37 hl (by decide) rfl (fun ls hl => ?_)
      refine lv_iload_n hx hb dX1_beside_39 rfl (lv_at hl 1 rfl) ?_
      refine lv_iload hx hb dX1_beside_40 (lv_at hl 0 rfl) ?_
      obtain ⟨y5, h9_, h⟩ := mg_bind h
      refine mg_k (rv := (some (.int y5))) (va_runS (As := [.int ((x1 - x1 / 10 * 10) + v3), .int ((x1 / 10) + v4)]) (rest := []) G9 (k_X1_isInside l D o cI cZ g H.size σ ((x1 - x1 / 10 * 10) + v3) ((x1 / 10) + v4) y5 h9_) (va_cwS 2 hts gX1_beside_X1_isInside rfl rfl rfl (by decide +kernel) ⟨Nat.le_of_ble_eq_true rfl, Nat.le_of_ble_eq_true rfl⟩) (mg_pre hK hO hA hw) rfl rfl hl.1 rfl (lv_room (Nat.le_of_ble_eq_true rfl)) dX1_beside_42 ⟨Nat.zero_le _, Nat.zero_le _⟩) hw hA (fun H locs hw => ?_)
      clear h9_
      refine mg_if_eq (tgt := 57) hx hb h dX1_beside_45 (by decide) (fun h => ?_) (fun h => ?_)
      · refine lv_iconst (v := (-1)) hx hb dX1_beside_57 (by decide) ?_
        cases h
        exact mg_eI hx hb hr hlocks hw (Nat.zero_le _) (Nat.zero_le _) dX1_beside_58
      · refine lv_iload_n hx hb dX1_beside_48 rfl (lv_at hl 1 rfl) ?_
        refine lv_iload hx hb dX1_beside_49 (lv_at hl 0 rfl) ?_
        obtain ⟨y6, h9_, h⟩ := mg_bind h
        refine mg_k (rv := (some (.int y6))) (va_runS (As := [.int ((x1 - x1 / 10 * 10) + v3), .int ((x1 / 10) + v4)]) (rest := []) G9 (k_X1_numberOf l D o cI cZ g H.size σ ((x1 - x1 / 10 * 10) + v3) ((x1 / 10) + v4) y6 h9_) (va_cwS 2 hts gX1_beside_X1_numberOf rfl rfl rfl (by decide +kernel) ⟨Nat.le_of_ble_eq_true rfl, Nat.le_of_ble_eq_true rfl⟩) (mg_pre hK hO hA hw) rfl rfl hl.1 rfl (lv_room (Nat.le_of_ble_eq_true rfl)) dX1_beside_51 ⟨Nat.zero_le _, Nat.zero_le _⟩) hw hA (fun H locs hw => ?_)
        clear h9_
        refine lv_goto (tgt := 58) hx hb dX1_beside_54 (by decide) ?_
        cases h
        exact mg_eI hx hb hr hlocks hw (Nat.zero_le _) (Nat.zero_le _) dX1_beside_58
    · refine lv_iconst (v := (-1)) hx hb dX1_beside_14 (by decide) ?_
      cases h
      exact mg_eI hx hb hr hlocks hw (Nat.zero_le _) (Nat.zero_le _) dX1_beside_15
set_option maxHeartbeats 4000000 in
set_option maxRecDepth 100000 in
theorem k_X1_kindAt (l : Launch) (D : va_G) (o : Nat → Nat) (cI cZ : ClassId) (g : Nat → Nat) (sz : Nat) (σ : mg_St) (x1 : Int32) (y : Int32) (h : f_X1_kindAt σ x1 = some y) : mg_CT l yX1_kindAt wsX1_kindAt ({ frames := 1, cells := 0, slots := 0, locals := 20 } : Room) D [(cI, .int), (cZ, .boolean)] o (mg_cW g cI cZ σ) sz [.ref (g 1), .int x1] (some (.int y)) (mg_cW g cI cZ σ) 0 0 := by
  unfold mg_CT
  refine Met.ofW (cc := cX1_kindAt) (maxL := 2) (ret := (some .int)) (by decide) rfl ?_
  intro p e s m args below meth c s₁ B hml hv
  obtain ⟨rfl, hsz, hP, hK, hD0, hO⟩ := hv
  have hx := B.exec
  have hb := B.bytes
  have hr := B.returns
  have hts := atoms_spec (ws := wsX1_kindAt) B.pre
  have hown : s.vm.findClass RX1 = some m.cls := findClass_of_methodNamed B.named
  have hlocks := B.notSynchronized
  subst hsz
  have hD := hD0.self (sz := s.heap.size)
  generalize hAe : va_A (mg_cW g cI cZ σ) s.heap.size = A at hD hO ⊢
  have hA : ∀ q : Nat, s.heap.size ≤ q → A q := fun q h => by rw [← hAe]; exact Or.inr h
  have hw : mg_Wo D A s.heap s.heap [] (mg_cW g cI cZ σ) := ⟨hP, hD, va_S.rf⟩
  have G9 : CallFix p m c cX1_kindAt 2 s ([.ref (g 1), .int x1] : List Value).toArray wsX1_kindAt RX1 := ⟨hx, hb, hml, hown, hts⟩
  clear hP hD hD0 hAe
  obtain ⟨H, hHe⟩ : ∃ H : Heap, H = s.heap := ⟨_, rfl⟩
  have w0_ := hts (.fieldLink RX1 11 "MoonGate$Garden" "kinds" "[I") (by decide +kernel)
  have iX1_ : ∀ w ∈ wsX10, w ∈ wsX1_kindAt := (fun _ h => List.mem_cons_of_mem _ (List.mem_append_right _ h))
  have hl := lv_entry ([.ref (g 1), .int x1]) (n := 2) (Nat.le_of_ble_eq_true rfl)
  rw [lg_entry_eq]
  generalize (lg_sl ([.ref (g 1), .int x1]) ++ List.replicate (2 - (lg_sl ([.ref (g 1), .int x1])).length) Slot.unset).toArray = ls at hl ⊢
  have hl : lv_has ls 2 [(0, .ref (g 1)), (1, .int x1)] := hl
  unfold f_X1_kindAt at h
  revert hw
  intro hw
  suffices K_ : ∀ (H : Heap) (locs : List Loc), mg_Wo D A s.heap H locs (mg_cW g cI cZ σ) → W p l e (headSpec wsX1_kindAt ({ frames := 1, cells := 0, slots := 0, locals := 20 } : Room)).room s m ([.ref (g 1), .int x1] : List Value).toArray below meth c H locs 0 0 (MQ below (mg_Q D (mg_cW g cI cZ σ) A (some (.int y))) ([.ref (g 1), .int x1] : List Value).toArray s 0 0 A) (F0 m 0 ls []) from K_ _ _ hw
  clear hw hHe H
  intro H locs hw
  refine lv_iload_n hx hb dX1_kindAt_0 rfl (lv_at hl 1 rfl) ?_
  obtain ⟨y1, h9_, h⟩ := mg_bind h
  refine mg_k (rv := (some (.int y1))) (va_runS (As := [.int x1]) (rest := []) G9 (k_X1_isPlace l D o cI cZ g H.size σ x1 y1 h9_) (va_cwS 1 hts gX1_kindAt_X1_isPlace rfl rfl rfl (by decide +kernel) ⟨Nat.le_of_ble_eq_true rfl, Nat.le_of_ble_eq_true rfl⟩) (mg_pre hK hO hA hw) rfl rfl hl.1 rfl (lv_room (Nat.le_of_ble_eq_true rfl)) dX1_kindAt_1 ⟨Nat.zero_le _, Nat.zero_le _⟩) hw hA (fun H locs hw => ?_)
  clear h9_
  refine mg_if_eq (tgt := 16) hx hb h dX1_kindAt_4 (by decide) (fun h => ?_) (fun h => ?_)
  · refine lv_iconst (v := (-1)) hx hb dX1_kindAt_16 (by decide) ?_
    cases h
    exact mg_eI hx hb hr hlocks hw (Nat.zero_le _) (Nat.zero_le _) dX1_kindAt_17
  · refine lv_aload_n hx hb dX1_kindAt_7 rfl (lv_at hl 0 rfl) ?_
    refine va_get (D := D) (ci := 1) (v := .ref (g 8)) (C := RX1) (T := TX1) (N := 9) hx hb hts iX1_ hown hK hw.1 1 rfl rfl 0 (by decide) w0_ (fun _ h9 => h9) rfl dX1_kindAt_8 ?_
    refine lv_iload_n hx hb dX1_kindAt_11 rfl (lv_at hl 1 rfl) ?_
    refine mg_ald (σ := σ) (k := 8) (n := 70) hx hb hK hw 8 0 rfl rfl h dX1_kindAt_12 (fun v2 h => ?_)
    refine lv_goto (tgt := 17) hx hb dX1_kindAt_13 (by decide) ?_
    cases h
    exact mg_eI hx hb hr hlocks hw (Nat.zero_le _) (Nat.zero_le _) dX1_kindAt_17
set_option maxHeartbeats 4000000 in
set_option maxRecDepth 100000 in
theorem k_X1_shapeAt (l : Launch) (D : va_G) (o : Nat → Nat) (cI cZ : ClassId) (g : Nat → Nat) (sz : Nat) (σ : mg_St) (x1 : Int32) (y : Int32) (h : f_X1_shapeAt σ x1 = some y) : mg_CT l yX1_shapeAt wsX1_shapeAt ({ frames := 1, cells := 0, slots := 0, locals := 20 } : Room) D [(cI, .int), (cZ, .boolean)] o (mg_cW g cI cZ σ) sz [.ref (g 1), .int x1] (some (.int y)) (mg_cW g cI cZ σ) 0 0 := by
  unfold mg_CT
  refine Met.ofW (cc := cX1_shapeAt) (maxL := 2) (ret := (some .int)) (by decide) rfl ?_
  intro p e s m args below meth c s₁ B hml hv
  obtain ⟨rfl, hsz, hP, hK, hD0, hO⟩ := hv
  have hx := B.exec
  have hb := B.bytes
  have hr := B.returns
  have hts := atoms_spec (ws := wsX1_shapeAt) B.pre
  have hown : s.vm.findClass RX1 = some m.cls := findClass_of_methodNamed B.named
  have hlocks := B.notSynchronized
  subst hsz
  have hD := hD0.self (sz := s.heap.size)
  generalize hAe : va_A (mg_cW g cI cZ σ) s.heap.size = A at hD hO ⊢
  have hA : ∀ q : Nat, s.heap.size ≤ q → A q := fun q h => by rw [← hAe]; exact Or.inr h
  have hw : mg_Wo D A s.heap s.heap [] (mg_cW g cI cZ σ) := ⟨hP, hD, va_S.rf⟩
  have G9 : CallFix p m c cX1_shapeAt 2 s ([.ref (g 1), .int x1] : List Value).toArray wsX1_shapeAt RX1 := ⟨hx, hb, hml, hown, hts⟩
  clear hP hD hD0 hAe
  obtain ⟨H, hHe⟩ : ∃ H : Heap, H = s.heap := ⟨_, rfl⟩
  have w0_ := hts (.fieldLink RX1 15 "MoonGate$Garden" "shapes" "[I") (by decide +kernel)
  have iX1_ : ∀ w ∈ wsX10, w ∈ wsX1_shapeAt := (fun _ h => List.mem_cons_of_mem _ (List.mem_append_right _ h))
  have hl := lv_entry ([.ref (g 1), .int x1]) (n := 2) (Nat.le_of_ble_eq_true rfl)
  rw [lg_entry_eq]
  generalize (lg_sl ([.ref (g 1), .int x1]) ++ List.replicate (2 - (lg_sl ([.ref (g 1), .int x1])).length) Slot.unset).toArray = ls at hl ⊢
  have hl : lv_has ls 2 [(0, .ref (g 1)), (1, .int x1)] := hl
  unfold f_X1_shapeAt at h
  revert hw
  intro hw
  suffices K_ : ∀ (H : Heap) (locs : List Loc), mg_Wo D A s.heap H locs (mg_cW g cI cZ σ) → W p l e (headSpec wsX1_shapeAt ({ frames := 1, cells := 0, slots := 0, locals := 20 } : Room)).room s m ([.ref (g 1), .int x1] : List Value).toArray below meth c H locs 0 0 (MQ below (mg_Q D (mg_cW g cI cZ σ) A (some (.int y))) ([.ref (g 1), .int x1] : List Value).toArray s 0 0 A) (F0 m 0 ls []) from K_ _ _ hw
  clear hw hHe H
  intro H locs hw
  refine lv_iload_n hx hb dX1_shapeAt_0 rfl (lv_at hl 1 rfl) ?_
  obtain ⟨y1, h9_, h⟩ := mg_bind h
  refine mg_k (rv := (some (.int y1))) (va_runS (As := [.int x1]) (rest := []) G9 (k_X1_isPlace l D o cI cZ g H.size σ x1 y1 h9_) (va_cwS 1 hts gX1_shapeAt_X1_isPlace rfl rfl rfl (by decide +kernel) ⟨Nat.le_of_ble_eq_true rfl, Nat.le_of_ble_eq_true rfl⟩) (mg_pre hK hO hA hw) rfl rfl hl.1 rfl (lv_room (Nat.le_of_ble_eq_true rfl)) dX1_shapeAt_1 ⟨Nat.zero_le _, Nat.zero_le _⟩) hw hA (fun H locs hw => ?_)
  clear h9_
  refine mg_if_eq (tgt := 16) hx hb h dX1_shapeAt_4 (by decide) (fun h => ?_) (fun h => ?_)
  · refine lv_iconst (v := (-1)) hx hb dX1_shapeAt_16 (by decide) ?_
    cases h
    exact mg_eI hx hb hr hlocks hw (Nat.zero_le _) (Nat.zero_le _) dX1_shapeAt_17
  · refine lv_aload_n hx hb dX1_shapeAt_7 rfl (lv_at hl 0 rfl) ?_
    refine va_get (D := D) (ci := 1) (v := .ref (g 9)) (C := RX1) (T := TX1) (N := 9) hx hb hts iX1_ hown hK hw.1 1 rfl rfl 1 (by decide) w0_ (fun _ h9 => h9) rfl dX1_shapeAt_8 ?_
    refine lv_iload_n hx hb dX1_shapeAt_11 rfl (lv_at hl 1 rfl) ?_
    refine mg_ald (σ := σ) (k := 9) (n := 70) hx hb hK hw 9 0 rfl rfl h dX1_shapeAt_12 (fun v2 h => ?_)
    refine lv_goto (tgt := 17) hx hb dX1_shapeAt_13 (by decide) ?_
    cases h
    exact mg_eI hx hb hr hlocks hw (Nat.zero_le _) (Nat.zero_le _) dX1_shapeAt_17
set_option maxHeartbeats 4000000 in
set_option maxRecDepth 100000 in
theorem k_X1_sizeAt (l : Launch) (D : va_G) (o : Nat → Nat) (cI cZ : ClassId) (g : Nat → Nat) (sz : Nat) (σ : mg_St) (x1 : Int32) (y : Int32) (h : f_X1_sizeAt σ x1 = some y) : mg_CT l yX1_sizeAt wsX1_sizeAt ({ frames := 1, cells := 0, slots := 0, locals := 20 } : Room) D [(cI, .int), (cZ, .boolean)] o (mg_cW g cI cZ σ) sz [.ref (g 1), .int x1] (some (.int y)) (mg_cW g cI cZ σ) 0 0 := by
  unfold mg_CT
  refine Met.ofW (cc := cX1_sizeAt) (maxL := 2) (ret := (some .int)) (by decide) rfl ?_
  intro p e s m args below meth c s₁ B hml hv
  obtain ⟨rfl, hsz, hP, hK, hD0, hO⟩ := hv
  have hx := B.exec
  have hb := B.bytes
  have hr := B.returns
  have hts := atoms_spec (ws := wsX1_sizeAt) B.pre
  have hown : s.vm.findClass RX1 = some m.cls := findClass_of_methodNamed B.named
  have hlocks := B.notSynchronized
  subst hsz
  have hD := hD0.self (sz := s.heap.size)
  generalize hAe : va_A (mg_cW g cI cZ σ) s.heap.size = A at hD hO ⊢
  have hA : ∀ q : Nat, s.heap.size ≤ q → A q := fun q h => by rw [← hAe]; exact Or.inr h
  have hw : mg_Wo D A s.heap s.heap [] (mg_cW g cI cZ σ) := ⟨hP, hD, va_S.rf⟩
  have G9 : CallFix p m c cX1_sizeAt 2 s ([.ref (g 1), .int x1] : List Value).toArray wsX1_sizeAt RX1 := ⟨hx, hb, hml, hown, hts⟩
  clear hP hD hD0 hAe
  obtain ⟨H, hHe⟩ : ∃ H : Heap, H = s.heap := ⟨_, rfl⟩
  have w0_ := hts (.fieldLink RX1 18 "MoonGate$Garden" "sizes" "[I") (by decide +kernel)
  have iX1_ : ∀ w ∈ wsX10, w ∈ wsX1_sizeAt := (fun _ h => List.mem_cons_of_mem _ (List.mem_append_right _ h))
  have hl := lv_entry ([.ref (g 1), .int x1]) (n := 2) (Nat.le_of_ble_eq_true rfl)
  rw [lg_entry_eq]
  generalize (lg_sl ([.ref (g 1), .int x1]) ++ List.replicate (2 - (lg_sl ([.ref (g 1), .int x1])).length) Slot.unset).toArray = ls at hl ⊢
  have hl : lv_has ls 2 [(0, .ref (g 1)), (1, .int x1)] := hl
  unfold f_X1_sizeAt at h
  revert hw
  intro hw
  suffices K_ : ∀ (H : Heap) (locs : List Loc), mg_Wo D A s.heap H locs (mg_cW g cI cZ σ) → W p l e (headSpec wsX1_sizeAt ({ frames := 1, cells := 0, slots := 0, locals := 20 } : Room)).room s m ([.ref (g 1), .int x1] : List Value).toArray below meth c H locs 0 0 (MQ below (mg_Q D (mg_cW g cI cZ σ) A (some (.int y))) ([.ref (g 1), .int x1] : List Value).toArray s 0 0 A) (F0 m 0 ls []) from K_ _ _ hw
  clear hw hHe H
  intro H locs hw
  refine lv_iload_n hx hb dX1_sizeAt_0 rfl (lv_at hl 1 rfl) ?_
  obtain ⟨y1, h9_, h⟩ := mg_bind h
  refine mg_k (rv := (some (.int y1))) (va_runS (As := [.int x1]) (rest := []) G9 (k_X1_isPlace l D o cI cZ g H.size σ x1 y1 h9_) (va_cwS 1 hts gX1_sizeAt_X1_isPlace rfl rfl rfl (by decide +kernel) ⟨Nat.le_of_ble_eq_true rfl, Nat.le_of_ble_eq_true rfl⟩) (mg_pre hK hO hA hw) rfl rfl hl.1 rfl (lv_room (Nat.le_of_ble_eq_true rfl)) dX1_sizeAt_1 ⟨Nat.zero_le _, Nat.zero_le _⟩) hw hA (fun H locs hw => ?_)
  clear h9_
  refine mg_if_eq (tgt := 16) hx hb h dX1_sizeAt_4 (by decide) (fun h => ?_) (fun h => ?_)
  · refine lv_iconst (v := 0) hx hb dX1_sizeAt_16 (by decide) ?_
    cases h
    exact mg_eI hx hb hr hlocks hw (Nat.zero_le _) (Nat.zero_le _) dX1_sizeAt_17
  · refine lv_aload_n hx hb dX1_sizeAt_7 rfl (lv_at hl 0 rfl) ?_
    refine va_get (D := D) (ci := 1) (v := .ref (g 10)) (C := RX1) (T := TX1) (N := 9) hx hb hts iX1_ hown hK hw.1 1 rfl rfl 2 (by decide) w0_ (fun _ h9 => h9) rfl dX1_sizeAt_8 ?_
    refine lv_iload_n hx hb dX1_sizeAt_11 rfl (lv_at hl 1 rfl) ?_
    refine mg_ald (σ := σ) (k := 10) (n := 70) hx hb hK hw 10 0 rfl rfl h dX1_sizeAt_12 (fun v2 h => ?_)
    refine lv_goto (tgt := 17) hx hb dX1_sizeAt_13 (by decide) ?_
    cases h
    exact mg_eI hx hb hr hlocks hw (Nat.zero_le _) (Nat.zero_le _) dX1_sizeAt_17
set_option maxHeartbeats 4000000 in
set_option maxRecDepth 100000 in
theorem k_X1_isBare (l : Launch) (D : va_G) (o : Nat → Nat) (cI cZ : ClassId) (g : Nat → Nat) (sz : Nat) (σ : mg_St) (x1 : Int32) (y : Int32) (h : f_X1_isBare σ x1 = some y) : mg_CT l yX1_isBare wsX1_isBare ({ frames := 2, cells := 0, slots := 0, locals := 41 } : Room) D [(cI, .int), (cZ, .boolean)] o (mg_cW g cI cZ σ) sz [.ref (g 1), .int x1] (some (.int y)) (mg_cW g cI cZ σ) 0 0 := by
  unfold mg_CT
  refine Met.ofW (cc := cX1_isBare) (maxL := 2) (ret := (some .boolean)) (by decide) rfl ?_
  intro p e s m args below meth c s₁ B hml hv
  obtain ⟨rfl, hsz, hP, hK, hD0, hO⟩ := hv
  have hx := B.exec
  have hb := B.bytes
  have hr := B.returns
  have hts := atoms_spec (ws := wsX1_isBare) B.pre
  have hown : s.vm.findClass RX1 = some m.cls := findClass_of_methodNamed B.named
  have hlocks := B.notSynchronized
  subst hsz
  have hD := hD0.self (sz := s.heap.size)
  generalize hAe : va_A (mg_cW g cI cZ σ) s.heap.size = A at hD hO ⊢
  have hA : ∀ q : Nat, s.heap.size ≤ q → A q := fun q h => by rw [← hAe]; exact Or.inr h
  have hw : mg_Wo D A s.heap s.heap [] (mg_cW g cI cZ σ) := ⟨hP, hD, va_S.rf⟩
  have G9 : CallFix p m c cX1_isBare 2 s ([.ref (g 1), .int x1] : List Value).toArray wsX1_isBare RX1 := ⟨hx, hb, hml, hown, hts⟩
  clear hP hD hD0 hAe
  obtain ⟨H, hHe⟩ : ∃ H : Heap, H = s.heap := ⟨_, rfl⟩
  have hl := lv_entry ([.ref (g 1), .int x1]) (n := 2) (Nat.le_of_ble_eq_true rfl)
  rw [lg_entry_eq]
  generalize (lg_sl ([.ref (g 1), .int x1]) ++ List.replicate (2 - (lg_sl ([.ref (g 1), .int x1])).length) Slot.unset).toArray = ls at hl ⊢
  have hl : lv_has ls 2 [(0, .ref (g 1)), (1, .int x1)] := hl
  unfold f_X1_isBare at h
  revert hw
  intro hw
  suffices K_ : ∀ (H : Heap) (locs : List Loc), mg_Wo D A s.heap H locs (mg_cW g cI cZ σ) → W p l e (headSpec wsX1_isBare ({ frames := 2, cells := 0, slots := 0, locals := 41 } : Room)).room s m ([.ref (g 1), .int x1] : List Value).toArray below meth c H locs 0 0 (MQ below (mg_Q D (mg_cW g cI cZ σ) A (some (.int y))) ([.ref (g 1), .int x1] : List Value).toArray s 0 0 A) (F0 m 0 ls []) from K_ _ _ hw
  clear hw hHe H
  intro H locs hw
  refine lv_aload_n hx hb dX1_isBare_0 rfl (lv_at hl 0 rfl) ?_
  refine lv_iload_n hx hb dX1_isBare_1 rfl (lv_at hl 1 rfl) ?_
  obtain ⟨y1, h9_, h⟩ := mg_bind h
  refine mg_k (rv := (some (.int y1))) (va_runV (As := [.int x1]) (rest := []) G9 (k_X1_kindAt l D o cI cZ g H.size σ x1 y1 h9_) (cwV 1 hts gX1_isBare_X1_kindAt rfl rfl rfl (by decide +kernel) ⟨Nat.le_of_ble_eq_true rfl, Nat.le_of_ble_eq_true rfl⟩) (mg_preV hK hO hA hw (q0 := 1) rfl rfl) rfl rfl hl.1 rfl (lv_room (Nat.le_of_ble_eq_true rfl)) dX1_isBare_2 ⟨Nat.zero_le _, Nat.zero_le _⟩) hw hA (fun H locs hw => ?_)
  clear h9_
  refine mg_if_ne (tgt := 12) hx hb h dX1_isBare_5 (by decide) (fun h => ?_) (fun h => ?_)
  · refine lv_iconst (v := 0) hx hb dX1_isBare_12 (by decide) ?_
    cases h
    exact mg_eZ hx hb hr hlocks hw rfl (Nat.zero_le _) (Nat.zero_le _) dX1_isBare_13
  · refine lv_iconst (v := 1) hx hb dX1_isBare_8 (by decide) ?_
    refine lv_goto (tgt := 13) hx hb dX1_isBare_9 (by decide) ?_
    cases h
    exact mg_eZ hx hb hr hlocks hw rfl (Nat.zero_le _) (Nat.zero_le _) dX1_isBare_13
set_option maxHeartbeats 4000000 in
set_option maxRecDepth 100000 in
theorem k_X1_isPond (l : Launch) (D : va_G) (o : Nat → Nat) (cI cZ : ClassId) (g : Nat → Nat) (sz : Nat) (σ : mg_St) (x1 : Int32) (y : Int32) (h : f_X1_isPond σ x1 = some y) : mg_CT l yX1_isPond wsX1_isPond ({ frames := 2, cells := 0, slots := 0, locals := 41 } : Room) D [(cI, .int), (cZ, .boolean)] o (mg_cW g cI cZ σ) sz [.ref (g 1), .int x1] (some (.int y)) (mg_cW g cI cZ σ) 0 0 := by
  unfold mg_CT
  refine Met.ofW (cc := cX1_isPond) (maxL := 2) (ret := (some .boolean)) (by decide) rfl ?_
  intro p e s m args below meth c s₁ B hml hv
  obtain ⟨rfl, hsz, hP, hK, hD0, hO⟩ := hv
  have hx := B.exec
  have hb := B.bytes
  have hr := B.returns
  have hts := atoms_spec (ws := wsX1_isPond) B.pre
  have hown : s.vm.findClass RX1 = some m.cls := findClass_of_methodNamed B.named
  have hlocks := B.notSynchronized
  subst hsz
  have hD := hD0.self (sz := s.heap.size)
  generalize hAe : va_A (mg_cW g cI cZ σ) s.heap.size = A at hD hO ⊢
  have hA : ∀ q : Nat, s.heap.size ≤ q → A q := fun q h => by rw [← hAe]; exact Or.inr h
  have hw : mg_Wo D A s.heap s.heap [] (mg_cW g cI cZ σ) := ⟨hP, hD, va_S.rf⟩
  have G9 : CallFix p m c cX1_isPond 2 s ([.ref (g 1), .int x1] : List Value).toArray wsX1_isPond RX1 := ⟨hx, hb, hml, hown, hts⟩
  clear hP hD hD0 hAe
  obtain ⟨H, hHe⟩ : ∃ H : Heap, H = s.heap := ⟨_, rfl⟩
  have hl := lv_entry ([.ref (g 1), .int x1]) (n := 2) (Nat.le_of_ble_eq_true rfl)
  rw [lg_entry_eq]
  generalize (lg_sl ([.ref (g 1), .int x1]) ++ List.replicate (2 - (lg_sl ([.ref (g 1), .int x1])).length) Slot.unset).toArray = ls at hl ⊢
  have hl : lv_has ls 2 [(0, .ref (g 1)), (1, .int x1)] := hl
  unfold f_X1_isPond at h
  revert hw
  intro hw
  suffices K_ : ∀ (H : Heap) (locs : List Loc), mg_Wo D A s.heap H locs (mg_cW g cI cZ σ) → W p l e (headSpec wsX1_isPond ({ frames := 2, cells := 0, slots := 0, locals := 41 } : Room)).room s m ([.ref (g 1), .int x1] : List Value).toArray below meth c H locs 0 0 (MQ below (mg_Q D (mg_cW g cI cZ σ) A (some (.int y))) ([.ref (g 1), .int x1] : List Value).toArray s 0 0 A) (F0 m 0 ls []) from K_ _ _ hw
  clear hw hHe H
  intro H locs hw
  refine lv_aload_n hx hb dX1_isPond_0 rfl (lv_at hl 0 rfl) ?_
  refine lv_iload_n hx hb dX1_isPond_1 rfl (lv_at hl 1 rfl) ?_
  obtain ⟨y1, h9_, h⟩ := mg_bind h
  refine mg_k (rv := (some (.int y1))) (va_runV (As := [.int x1]) (rest := []) G9 (k_X1_kindAt l D o cI cZ g H.size σ x1 y1 h9_) (cwV 1 hts gX1_isPond_X1_kindAt rfl rfl rfl (by decide +kernel) ⟨Nat.le_of_ble_eq_true rfl, Nat.le_of_ble_eq_true rfl⟩) (mg_preV hK hO hA hw (q0 := 1) rfl rfl) rfl rfl hl.1 rfl (lv_room (Nat.le_of_ble_eq_true rfl)) dX1_isPond_2 ⟨Nat.zero_le _, Nat.zero_le _⟩) hw hA (fun H locs hw => ?_)
  clear h9_
  refine lv_iconst (v := 2) hx hb dX1_isPond_5 (by decide) ?_
  refine mg_icmp_ne (tgt := 13) hx hb h dX1_isPond_6 (by decide) (fun h => ?_) (fun h => ?_)
  · refine lv_iconst (v := 0) hx hb dX1_isPond_13 (by decide) ?_
    cases h
    exact mg_eZ hx hb hr hlocks hw rfl (Nat.zero_le _) (Nat.zero_le _) dX1_isPond_14
  · refine lv_iconst (v := 1) hx hb dX1_isPond_9 (by decide) ?_
    refine lv_goto (tgt := 14) hx hb dX1_isPond_10 (by decide) ?_
    cases h
    exact mg_eZ hx hb hr hlocks hw rfl (Nat.zero_le _) (Nat.zero_le _) dX1_isPond_14
set_option maxHeartbeats 4000000 in
set_option maxRecDepth 100000 in
theorem k_X1_isWall (l : Launch) (D : va_G) (o : Nat → Nat) (cI cZ : ClassId) (g : Nat → Nat) (sz : Nat) (σ : mg_St) (x1 : Int32) (y : Int32) (h : f_X1_isWall σ x1 = some y) : mg_CT l yX1_isWall wsX1_isWall ({ frames := 2, cells := 0, slots := 0, locals := 41 } : Room) D [(cI, .int), (cZ, .boolean)] o (mg_cW g cI cZ σ) sz [.ref (g 1), .int x1] (some (.int y)) (mg_cW g cI cZ σ) 0 0 := by
  unfold mg_CT
  refine Met.ofW (cc := cX1_isWall) (maxL := 2) (ret := (some .boolean)) (by decide) rfl ?_
  intro p e s m args below meth c s₁ B hml hv
  obtain ⟨rfl, hsz, hP, hK, hD0, hO⟩ := hv
  have hx := B.exec
  have hb := B.bytes
  have hr := B.returns
  have hts := atoms_spec (ws := wsX1_isWall) B.pre
  have hown : s.vm.findClass RX1 = some m.cls := findClass_of_methodNamed B.named
  have hlocks := B.notSynchronized
  subst hsz
  have hD := hD0.self (sz := s.heap.size)
  generalize hAe : va_A (mg_cW g cI cZ σ) s.heap.size = A at hD hO ⊢
  have hA : ∀ q : Nat, s.heap.size ≤ q → A q := fun q h => by rw [← hAe]; exact Or.inr h
  have hw : mg_Wo D A s.heap s.heap [] (mg_cW g cI cZ σ) := ⟨hP, hD, va_S.rf⟩
  have G9 : CallFix p m c cX1_isWall 2 s ([.ref (g 1), .int x1] : List Value).toArray wsX1_isWall RX1 := ⟨hx, hb, hml, hown, hts⟩
  clear hP hD hD0 hAe
  obtain ⟨H, hHe⟩ : ∃ H : Heap, H = s.heap := ⟨_, rfl⟩
  have hl := lv_entry ([.ref (g 1), .int x1]) (n := 2) (Nat.le_of_ble_eq_true rfl)
  rw [lg_entry_eq]
  generalize (lg_sl ([.ref (g 1), .int x1]) ++ List.replicate (2 - (lg_sl ([.ref (g 1), .int x1])).length) Slot.unset).toArray = ls at hl ⊢
  have hl : lv_has ls 2 [(0, .ref (g 1)), (1, .int x1)] := hl
  unfold f_X1_isWall at h
  revert hw
  intro hw
  suffices K_ : ∀ (H : Heap) (locs : List Loc), mg_Wo D A s.heap H locs (mg_cW g cI cZ σ) → W p l e (headSpec wsX1_isWall ({ frames := 2, cells := 0, slots := 0, locals := 41 } : Room)).room s m ([.ref (g 1), .int x1] : List Value).toArray below meth c H locs 0 0 (MQ below (mg_Q D (mg_cW g cI cZ σ) A (some (.int y))) ([.ref (g 1), .int x1] : List Value).toArray s 0 0 A) (F0 m 0 ls []) from K_ _ _ hw
  clear hw hHe H
  intro H locs hw
  refine lv_aload_n hx hb dX1_isWall_0 rfl (lv_at hl 0 rfl) ?_
  refine lv_iload_n hx hb dX1_isWall_1 rfl (lv_at hl 1 rfl) ?_
  obtain ⟨y1, h9_, h⟩ := mg_bind h
  refine mg_k (rv := (some (.int y1))) (va_runV (As := [.int x1]) (rest := []) G9 (k_X1_kindAt l D o cI cZ g H.size σ x1 y1 h9_) (cwV 1 hts gX1_isWall_X1_kindAt rfl rfl rfl (by decide +kernel) ⟨Nat.le_of_ble_eq_true rfl, Nat.le_of_ble_eq_true rfl⟩) (mg_preV hK hO hA hw (q0 := 1) rfl rfl) rfl rfl hl.1 rfl (lv_room (Nat.le_of_ble_eq_true rfl)) dX1_isWall_2 ⟨Nat.zero_le _, Nat.zero_le _⟩) hw hA (fun H locs hw => ?_)
  clear h9_
  refine lv_iconst (v := 3) hx hb dX1_isWall_5 (by decide) ?_
  refine mg_icmp_ne (tgt := 13) hx hb h dX1_isWall_6 (by decide) (fun h => ?_) (fun h => ?_)
  · refine lv_iconst (v := 0) hx hb dX1_isWall_13 (by decide) ?_
    cases h
    exact mg_eZ hx hb hr hlocks hw rfl (Nat.zero_le _) (Nat.zero_le _) dX1_isWall_14
  · refine lv_iconst (v := 1) hx hb dX1_isWall_9 (by decide) ?_
    refine lv_goto (tgt := 14) hx hb dX1_isWall_10 (by decide) ?_
    cases h
    exact mg_eZ hx hb hr hlocks hw rfl (Nat.zero_le _) (Nat.zero_le _) dX1_isWall_14
set_option maxHeartbeats 4000000 in
set_option maxRecDepth 100000 in
theorem k_X1_isGreatRock (l : Launch) (D : va_G) (o : Nat → Nat) (cI cZ : ClassId) (g : Nat → Nat) (sz : Nat) (σ : mg_St) (x1 : Int32) (y : Int32) (h : f_X1_isGreatRock σ x1 = some y) : mg_CT l yX1_isGreatRock wsX1_isGreatRock ({ frames := 2, cells := 0, slots := 0, locals := 41 } : Room) D [(cI, .int), (cZ, .boolean)] o (mg_cW g cI cZ σ) sz [.ref (g 1), .int x1] (some (.int y)) (mg_cW g cI cZ σ) 0 0 := by
  unfold mg_CT
  refine Met.ofW (cc := cX1_isGreatRock) (maxL := 2) (ret := (some .boolean)) (by decide) rfl ?_
  intro p e s m args below meth c s₁ B hml hv
  obtain ⟨rfl, hsz, hP, hK, hD0, hO⟩ := hv
  have hx := B.exec
  have hb := B.bytes
  have hr := B.returns
  have hts := atoms_spec (ws := wsX1_isGreatRock) B.pre
  have hown : s.vm.findClass RX1 = some m.cls := findClass_of_methodNamed B.named
  have hlocks := B.notSynchronized
  subst hsz
  have hD := hD0.self (sz := s.heap.size)
  generalize hAe : va_A (mg_cW g cI cZ σ) s.heap.size = A at hD hO ⊢
  have hA : ∀ q : Nat, s.heap.size ≤ q → A q := fun q h => by rw [← hAe]; exact Or.inr h
  have hw : mg_Wo D A s.heap s.heap [] (mg_cW g cI cZ σ) := ⟨hP, hD, va_S.rf⟩
  have G9 : CallFix p m c cX1_isGreatRock 2 s ([.ref (g 1), .int x1] : List Value).toArray wsX1_isGreatRock RX1 := ⟨hx, hb, hml, hown, hts⟩
  clear hP hD hD0 hAe
  obtain ⟨H, hHe⟩ : ∃ H : Heap, H = s.heap := ⟨_, rfl⟩
  have hl := lv_entry ([.ref (g 1), .int x1]) (n := 2) (Nat.le_of_ble_eq_true rfl)
  rw [lg_entry_eq]
  generalize (lg_sl ([.ref (g 1), .int x1]) ++ List.replicate (2 - (lg_sl ([.ref (g 1), .int x1])).length) Slot.unset).toArray = ls at hl ⊢
  have hl : lv_has ls 2 [(0, .ref (g 1)), (1, .int x1)] := hl
  unfold f_X1_isGreatRock at h
  revert hw
  intro hw
  suffices K_ : ∀ (H : Heap) (locs : List Loc), mg_Wo D A s.heap H locs (mg_cW g cI cZ σ) → W p l e (headSpec wsX1_isGreatRock ({ frames := 2, cells := 0, slots := 0, locals := 41 } : Room)).room s m ([.ref (g 1), .int x1] : List Value).toArray below meth c H locs 0 0 (MQ below (mg_Q D (mg_cW g cI cZ σ) A (some (.int y))) ([.ref (g 1), .int x1] : List Value).toArray s 0 0 A) (F0 m 0 ls []) from K_ _ _ hw
  clear hw hHe H
  intro H locs hw
  refine lv_aload_n hx hb dX1_isGreatRock_0 rfl (lv_at hl 0 rfl) ?_
  refine lv_iload_n hx hb dX1_isGreatRock_1 rfl (lv_at hl 1 rfl) ?_
  obtain ⟨y1, h9_, h⟩ := mg_bind h
  refine mg_k (rv := (some (.int y1))) (va_runV (As := [.int x1]) (rest := []) G9 (k_X1_kindAt l D o cI cZ g H.size σ x1 y1 h9_) (cwV 1 hts gX1_isGreatRock_X1_kindAt rfl rfl rfl (by decide +kernel) ⟨Nat.le_of_ble_eq_true rfl, Nat.le_of_ble_eq_true rfl⟩) (mg_preV hK hO hA hw (q0 := 1) rfl rfl) rfl rfl hl.1 rfl (lv_room (Nat.le_of_ble_eq_true rfl)) dX1_isGreatRock_2 ⟨Nat.zero_le _, Nat.zero_le _⟩) hw hA (fun H locs hw => ?_)
  clear h9_
  refine lv_iconst (v := 1) hx hb dX1_isGreatRock_5 (by decide) ?_
  refine mg_icmp_ne (tgt := 23) hx hb h dX1_isGreatRock_6 (by decide) (fun h => ?_) (fun h => ?_)
  · refine lv_iconst (v := 0) hx hb dX1_isGreatRock_23 (by decide) ?_
    cases h
    exact mg_eZ hx hb hr hlocks hw rfl (Nat.zero_le _) (Nat.zero_le _) dX1_isGreatRock_24
  · refine lv_aload_n hx hb dX1_isGreatRock_9 rfl (lv_at hl 0 rfl) ?_
    refine lv_iload_n hx hb dX1_isGreatRock_10 rfl (lv_at hl 1 rfl) ?_
    obtain ⟨y2, h9_, h⟩ := mg_bind h
    refine mg_k (rv := (some (.int y2))) (va_runV (As := [.int x1]) (rest := []) G9 (k_X1_sizeAt l D o cI cZ g H.size σ x1 y2 h9_) (cwV 1 hts gX1_isGreatRock_X1_sizeAt rfl rfl rfl (by decide +kernel) ⟨Nat.le_of_ble_eq_true rfl, Nat.le_of_ble_eq_true rfl⟩) (mg_preV hK hO hA hw (q0 := 1) rfl rfl) rfl rfl hl.1 rfl (lv_room (Nat.le_of_ble_eq_true rfl)) dX1_isGreatRock_11 ⟨Nat.zero_le _, Nat.zero_le _⟩) hw hA (fun H locs hw => ?_)
    clear h9_
    refine lv_bipush (v := 7) hx hb dX1_isGreatRock_14 (by decide) ?_
    refine mg_icmp_lt (tgt := 23) hx hb h dX1_isGreatRock_16 (by decide) (fun h => ?_) (fun h => ?_)
    · refine lv_iconst (v := 0) hx hb dX1_isGreatRock_23 (by decide) ?_
      cases h
      exact mg_eZ hx hb hr hlocks hw rfl (Nat.zero_le _) (Nat.zero_le _) dX1_isGreatRock_24
    · refine lv_iconst (v := 1) hx hb dX1_isGreatRock_19 (by decide) ?_
      refine lv_goto (tgt := 24) hx hb dX1_isGreatRock_20 (by decide) ?_
      cases h
      exact mg_eZ hx hb hr hlocks hw rfl (Nat.zero_le _) (Nat.zero_le _) dX1_isGreatRock_24
set_option maxHeartbeats 4000000 in
set_option maxRecDepth 100000 in
theorem k_X1_hasCarps (l : Launch) (D : va_G) (o : Nat → Nat) (cI cZ : ClassId) (g : Nat → Nat) (sz : Nat) (σ : mg_St) (x1 : Int32) (y : Int32) (h : f_X1_hasCarps σ x1 = some y) : mg_CT l yX1_hasCarps wsX1_hasCarps ({ frames := 1, cells := 0, slots := 0, locals := 20 } : Room) D [(cI, .int), (cZ, .boolean)] o (mg_cW g cI cZ σ) sz [.ref (g 1), .int x1] (some (.int y)) (mg_cW g cI cZ σ) 0 0 := by
  unfold mg_CT
  refine Met.ofW (cc := cX1_hasCarps) (maxL := 2) (ret := (some .boolean)) (by decide) rfl ?_
  intro p e s m args below meth c s₁ B hml hv
  obtain ⟨rfl, hsz, hP, hK, hD0, hO⟩ := hv
  have hx := B.exec
  have hb := B.bytes
  have hr := B.returns
  have hts := atoms_spec (ws := wsX1_hasCarps) B.pre
  have hown : s.vm.findClass RX1 = some m.cls := findClass_of_methodNamed B.named
  have hlocks := B.notSynchronized
  subst hsz
  have hD := hD0.self (sz := s.heap.size)
  generalize hAe : va_A (mg_cW g cI cZ σ) s.heap.size = A at hD hO ⊢
  have hA : ∀ q : Nat, s.heap.size ≤ q → A q := fun q h => by rw [← hAe]; exact Or.inr h
  have hw : mg_Wo D A s.heap s.heap [] (mg_cW g cI cZ σ) := ⟨hP, hD, va_S.rf⟩
  have G9 : CallFix p m c cX1_hasCarps 2 s ([.ref (g 1), .int x1] : List Value).toArray wsX1_hasCarps RX1 := ⟨hx, hb, hml, hown, hts⟩
  clear hP hD hD0 hAe
  obtain ⟨H, hHe⟩ : ∃ H : Heap, H = s.heap := ⟨_, rfl⟩
  have w0_ := hts (.fieldLink RX1 21 "MoonGate$Garden" "carps" "[I") (by decide +kernel)
  have iX1_ : ∀ w ∈ wsX10, w ∈ wsX1_hasCarps := (fun _ h => List.mem_cons_of_mem _ (List.mem_append_right _ h))
  have hl := lv_entry ([.ref (g 1), .int x1]) (n := 2) (Nat.le_of_ble_eq_true rfl)
  rw [lg_entry_eq]
  generalize (lg_sl ([.ref (g 1), .int x1]) ++ List.replicate (2 - (lg_sl ([.ref (g 1), .int x1])).length) Slot.unset).toArray = ls at hl ⊢
  have hl : lv_has ls 2 [(0, .ref (g 1)), (1, .int x1)] := hl
  unfold f_X1_hasCarps at h
  revert hw
  intro hw
  suffices K_ : ∀ (H : Heap) (locs : List Loc), mg_Wo D A s.heap H locs (mg_cW g cI cZ σ) → W p l e (headSpec wsX1_hasCarps ({ frames := 1, cells := 0, slots := 0, locals := 20 } : Room)).room s m ([.ref (g 1), .int x1] : List Value).toArray below meth c H locs 0 0 (MQ below (mg_Q D (mg_cW g cI cZ σ) A (some (.int y))) ([.ref (g 1), .int x1] : List Value).toArray s 0 0 A) (F0 m 0 ls []) from K_ _ _ hw
  clear hw hHe H
  intro H locs hw
  refine lv_iload_n hx hb dX1_hasCarps_0 rfl (lv_at hl 1 rfl) ?_
  obtain ⟨y1, h9_, h⟩ := mg_bind h
  refine mg_k (rv := (some (.int y1))) (va_runS (As := [.int x1]) (rest := []) G9 (k_X1_isPlace l D o cI cZ g H.size σ x1 y1 h9_) (va_cwS 1 hts gX1_hasCarps_X1_isPlace rfl rfl rfl (by decide +kernel) ⟨Nat.le_of_ble_eq_true rfl, Nat.le_of_ble_eq_true rfl⟩) (mg_pre hK hO hA hw) rfl rfl hl.1 rfl (lv_room (Nat.le_of_ble_eq_true rfl)) dX1_hasCarps_1 ⟨Nat.zero_le _, Nat.zero_le _⟩) hw hA (fun H locs hw => ?_)
  clear h9_
  refine mg_if_eq (tgt := 20) hx hb h dX1_hasCarps_4 (by decide) (fun h => ?_) (fun h => ?_)
  · refine lv_iconst (v := 0) hx hb dX1_hasCarps_20 (by decide) ?_
    cases h
    exact mg_eZ hx hb hr hlocks hw rfl (Nat.zero_le _) (Nat.zero_le _) dX1_hasCarps_21
  · refine lv_aload_n hx hb dX1_hasCarps_7 rfl (lv_at hl 0 rfl) ?_
    refine va_get (D := D) (ci := 1) (v := .ref (g 11)) (C := RX1) (T := TX1) (N := 9) hx hb hts iX1_ hown hK hw.1 1 rfl rfl 3 (by decide) w0_ (fun _ h9 => h9) rfl dX1_hasCarps_8 ?_
    refine lv_iload_n hx hb dX1_hasCarps_11 rfl (lv_at hl 1 rfl) ?_
    refine mg_ald (σ := σ) (k := 11) (n := 70) hx hb hK hw 11 0 rfl rfl h dX1_hasCarps_12 (fun v2 h => ?_)
    refine mg_if_le (tgt := 20) hx hb h dX1_hasCarps_13 (by decide) (fun h => ?_) (fun h => ?_)
    · refine lv_iconst (v := 0) hx hb dX1_hasCarps_20 (by decide) ?_
      cases h
      exact mg_eZ hx hb hr hlocks hw rfl (Nat.zero_le _) (Nat.zero_le _) dX1_hasCarps_21
    · refine lv_iconst (v := 1) hx hb dX1_hasCarps_16 (by decide) ?_
      refine lv_goto (tgt := 21) hx hb dX1_hasCarps_17 (by decide) ?_
      cases h
      exact mg_eZ hx hb hr hlocks hw rfl (Nat.zero_le _) (Nat.zero_le _) dX1_hasCarps_21
set_option maxHeartbeats 4000000 in
set_option maxRecDepth 100000 in
theorem k_X1_manyOf (l : Launch) (D : va_G) (o : Nat → Nat) (cI cZ : ClassId) (g : Nat → Nat) (sz : Nat) (σ : mg_St) (x1 : Int32) (y : Int32) (h : f_X1_manyOf σ x1 = some y) : mg_CT l yX1_manyOf wsX1_manyOf ({ frames := 0, cells := 0, slots := 0, locals := 0 } : Room) D [(cI, .int), (cZ, .boolean)] o (mg_cW g cI cZ σ) sz [.ref (g 1), .int x1] (some (.int y)) (mg_cW g cI cZ σ) 0 0 := by
  unfold mg_CT
  refine Met.ofW (cc := cX1_manyOf) (maxL := 4) (ret := (some .int)) (by decide) rfl ?_
  intro p e s m args below meth c s₁ B hml hv
  obtain ⟨rfl, hsz, hP, hK, hD0, hO⟩ := hv
  have hx := B.exec
  have hb := B.bytes
  have hr := B.returns
  have hts := atoms_spec (ws := wsX1_manyOf) B.pre
  have hown : s.vm.findClass RX1 = some m.cls := findClass_of_methodNamed B.named
  have hlocks := B.notSynchronized
  subst hsz
  have hD := hD0.self (sz := s.heap.size)
  generalize hAe : va_A (mg_cW g cI cZ σ) s.heap.size = A at hD hO ⊢
  have hA : ∀ q : Nat, s.heap.size ≤ q → A q := fun q h => by rw [← hAe]; exact Or.inr h
  have hw : mg_Wo D A s.heap s.heap [] (mg_cW g cI cZ σ) := ⟨hP, hD, va_S.rf⟩
  have G9 : CallFix p m c cX1_manyOf 4 s ([.ref (g 1), .int x1] : List Value).toArray wsX1_manyOf RX1 := ⟨hx, hb, hml, hown, hts⟩
  clear hP hD hD0 hAe
  obtain ⟨H, hHe⟩ : ∃ H : Heap, H = s.heap := ⟨_, rfl⟩
  have w0_ := hts (.fieldLink RX1 11 "MoonGate$Garden" "kinds" "[I") (by decide +kernel)
  have iX1_ : ∀ w ∈ wsX10, w ∈ wsX1_manyOf := (fun _ h => List.mem_cons_of_mem _ (List.mem_append_right _ h))
  have hl := lv_entry ([.ref (g 1), .int x1]) (n := 4) (Nat.le_of_ble_eq_true rfl)
  rw [lg_entry_eq]
  generalize (lg_sl ([.ref (g 1), .int x1]) ++ List.replicate (4 - (lg_sl ([.ref (g 1), .int x1])).length) Slot.unset).toArray = ls at hl ⊢
  have hl : lv_has ls 4 [(0, .ref (g 1)), (1, .int x1)] := hl
  unfold f_X1_manyOf at h
  revert hw
  intro hw
  suffices K_ : ∀ (H : Heap) (locs : List Loc), mg_Wo D A s.heap H locs (mg_cW g cI cZ σ) → W p l e (headSpec wsX1_manyOf ({ frames := 0, cells := 0, slots := 0, locals := 0 } : Room)).room s m ([.ref (g 1), .int x1] : List Value).toArray below meth c H locs 0 0 (MQ below (mg_Q D (mg_cW g cI cZ σ) A (some (.int y))) ([.ref (g 1), .int x1] : List Value).toArray s 0 0 A) (F0 m 0 ls []) from K_ _ _ hw
  clear hw hHe H
  intro H locs hw
  refine lv_iconst (v := 0) hx hb dX1_manyOf_0 (by decide) ?_
  refine lv_istore_n (lv' := [(2, .int 0), (0, .ref (g 1)), (1, .int x1)]) hx hb dX1_manyOf_1 rfl hl (by decide) rfl (fun ls hl => ?_)
  refine lv_iconst (v := 0) hx hb dX1_manyOf_2 (by decide) ?_
  refine lv_istore_n (lv' := [(3, .int 0), (2, .int 0), (0, .ref (g 1)), (1, .int x1)]) hx hb dX1_manyOf_3 rfl hl (by decide) rfl (fun ls hl => ?_)
  have L4_ : ∀ (n : Nat) (x2_4 : Int32) (x3_4 : Int32) (y4_ : Int32 × Int32), f_X1_manyOf_4 σ x1 n x2_4 x3_4 = some y4_ → (∀ (H : Heap) (locs : List Loc) (ls : Array Slot), mg_Wo D A s.heap H locs (mg_cW g cI cZ σ) → lv_has ls 4 [(0, .ref (g 1)), (1, .int x1), (2, .int y4_.1), (3, .int y4_.2)] → W p l e (headSpec wsX1_manyOf ({ frames := 0, cells := 0, slots := 0, locals := 0 } : Room)).room s m ([.ref (g 1), .int x1] : List Value).toArray below meth c H locs 0 0 (MQ below (mg_Q D (mg_cW g cI cZ σ) A (some (.int y))) ([.ref (g 1), .int x1] : List Value).toArray s 0 0 A) (F0 m 29 ls [])) → ∀ (H : Heap) (locs : List Loc) (ls : Array Slot), mg_Wo D A s.heap H locs (mg_cW g cI cZ σ) → lv_has ls 4 [(0, .ref (g 1)), (1, .int x1), (2, .int x2_4), (3, .int x3_4)] → W p l e (headSpec wsX1_manyOf ({ frames := 0, cells := 0, slots := 0, locals := 0 } : Room)).room s m ([.ref (g 1), .int x1] : List Value).toArray below meth c H locs 0 0 (MQ below (mg_Q D (mg_cW g cI cZ σ) A (some (.int y))) ([.ref (g 1), .int x1] : List Value).toArray s 0 0 A) (F0 m 4 ls []) := by
    intro n
    induction n with
    | zero => intro x2_4 x3_4 y4_ h; rw [f_X1_manyOf_4] at h; cases h
    | succ n ih =>
      intro x2_4 x3_4 y4_ h kc H locs ls hw hl
      rw [f_X1_manyOf_4] at h
      refine lv_iload_n hx hb dX1_manyOf_4 rfl (lv_at hl 3 rfl) ?_
      refine lv_bipush (v := 70) hx hb dX1_manyOf_5 (by decide) ?_
      refine mg_icmp_ge (tgt := 29) hx hb h dX1_manyOf_7 (by decide) (fun h => ?_) (fun h => ?_)
      · cases h
        exact kc H locs ls hw (lv_sub hl [0, 1, 2, 3] rfl)
      · refine lv_aload_n hx hb dX1_manyOf_10 rfl (lv_at hl 0 rfl) ?_
        refine va_get (D := D) (ci := 1) (v := .ref (g 8)) (C := RX1) (T := TX1) (N := 9) hx hb hts iX1_ hown hK hw.1 1 rfl rfl 0 (by decide) w0_ (fun _ h9 => h9) rfl dX1_manyOf_11 ?_
        refine lv_iload_n hx hb dX1_manyOf_14 rfl (lv_at hl 3 rfl) ?_
        refine mg_ald (σ := σ) (k := 8) (n := 70) hx hb hK hw 8 0 rfl rfl h dX1_manyOf_15 (fun v2 h => ?_)
        refine lv_iload_n hx hb dX1_manyOf_16 rfl (lv_at hl 1 rfl) ?_
        refine mg_icmp_ne (tgt := 23) hx hb h dX1_manyOf_17 (by decide) (fun h => ?_) (fun h => ?_)
        · refine lv_iinc (v := (x3_4 + 1)) (lv' := [(3, .int (x3_4 + 1)), (0, .ref (g 1)), (1, .int x1), (2, .int x2_4)]) hx hb dX1_manyOf_23 hl (k := 3) rfl rfl (by decide) rfl (fun ls hl => ?_)
          refine lv_goto (tgt := 4) hx hb dX1_manyOf_26 (by decide) ?_
          exact ih _ _ _ h kc H locs ls hw (lv_sub hl [1, 2, 3, 0] rfl)
        · refine lv_iinc (v := (x2_4 + 1)) (lv' := [(2, .int (x2_4 + 1)), (0, .ref (g 1)), (1, .int x1), (3, .int x3_4)]) hx hb dX1_manyOf_20 hl (k := 2) rfl rfl (by decide) rfl (fun ls hl => ?_)
          refine lv_iinc (v := (x3_4 + 1)) (lv' := [(3, .int (x3_4 + 1)), (2, .int (x2_4 + 1)), (0, .ref (g 1)), (1, .int x1)]) hx hb dX1_manyOf_23 hl (k := 3) rfl rfl (by decide) rfl (fun ls hl => ?_)
          refine lv_goto (tgt := 4) hx hb dX1_manyOf_26 (by decide) ?_
          exact ih _ _ _ h kc H locs ls hw (lv_sub hl [2, 3, 1, 0] rfl)
  obtain ⟨y1, h9_, h⟩ := mg_bind h
  refine L4_ _ _ _ _ h9_ (fun H locs ls hw hl => ?_) H locs ls hw (lv_sub hl [2, 3, 1, 0] rfl)
  clear L4_ h9_
  refine lv_iload_n hx hb dX1_manyOf_29 rfl (lv_at hl 2 rfl) ?_
  cases h
  exact mg_eI hx hb hr hlocks hw (Nat.zero_le _) (Nat.zero_le _) dX1_manyOf_30
set_option maxHeartbeats 4000000 in
set_option maxRecDepth 100000 in
theorem k_X1_setCell (l : Launch) (D : va_G) (o : Nat → Nat) (cI cZ : ClassId) (g : Nat → Nat) (sz : Nat) (σ : mg_St) (x1 : Int32) (x2 : Int32) (x3 : Int32) (x4 : Int32) (y : mg_St) (h : f_X1_setCell σ x1 x2 x3 x4 = some y) : mg_CT l yX1_setCell wsX1_setCell ({ frames := 1, cells := 0, slots := 0, locals := 20 } : Room) D [(cI, .int), (cZ, .boolean)] o (mg_cW g cI cZ σ) sz [.ref (g 1), .int x1, .int x2, .int x3, .int x4] none (mg_cW g cI cZ y) 0 0 := by
  unfold mg_CT
  refine Met.ofW (cc := cX1_setCell) (maxL := 5) (ret := none) (by decide) rfl ?_
  intro p e s m args below meth c s₁ B hml hv
  obtain ⟨rfl, hsz, hP, hK, hD0, hO⟩ := hv
  have hx := B.exec
  have hb := B.bytes
  have hr := B.returns
  have hts := atoms_spec (ws := wsX1_setCell) B.pre
  have hown : s.vm.findClass RX1 = some m.cls := findClass_of_methodNamed B.named
  have hlocks := B.notSynchronized
  subst hsz
  have hD := hD0.self (sz := s.heap.size)
  generalize hAe : va_A (mg_cW g cI cZ σ) s.heap.size = A at hD hO ⊢
  have hA : ∀ q : Nat, s.heap.size ≤ q → A q := fun q h => by rw [← hAe]; exact Or.inr h
  have hw : mg_Wo D A s.heap s.heap [] (mg_cW g cI cZ σ) := ⟨hP, hD, va_S.rf⟩
  have G9 : CallFix p m c cX1_setCell 5 s ([.ref (g 1), .int x1, .int x2, .int x3, .int x4] : List Value).toArray wsX1_setCell RX1 := ⟨hx, hb, hml, hown, hts⟩
  clear hP hD hD0 hAe
  obtain ⟨H, hHe⟩ : ∃ H : Heap, H = s.heap := ⟨_, rfl⟩
  have w0_ := hts (.fieldLink RX1 11 "MoonGate$Garden" "kinds" "[I") (by decide +kernel)
  have iX1_ : ∀ w ∈ wsX10, w ∈ wsX1_setCell := (fun _ h => List.mem_cons_of_mem _ (List.mem_append_right _ h))
  have w2_ := hts (.fieldLink RX1 15 "MoonGate$Garden" "shapes" "[I") (by decide +kernel)
  have w3_ := hts (.fieldLink RX1 18 "MoonGate$Garden" "sizes" "[I") (by decide +kernel)
  have hl := lv_entry ([.ref (g 1), .int x1, .int x2, .int x3, .int x4]) (n := 5) (Nat.le_of_ble_eq_true rfl)
  rw [lg_entry_eq]
  generalize (lg_sl ([.ref (g 1), .int x1, .int x2, .int x3, .int x4]) ++ List.replicate (5 - (lg_sl ([.ref (g 1), .int x1, .int x2, .int x3, .int x4])).length) Slot.unset).toArray = ls at hl ⊢
  have hl : lv_has ls 5 [(0, .ref (g 1)), (1, .int x1), (2, .int x2), (3, .int x3), (4, .int x4)] := hl
  unfold f_X1_setCell at h
  revert hw
  intro hw
  suffices K_ : ∀ (H : Heap) (locs : List Loc), mg_Wo D A s.heap H locs (mg_cW g cI cZ σ) → W p l e (headSpec wsX1_setCell ({ frames := 1, cells := 0, slots := 0, locals := 20 } : Room)).room s m ([.ref (g 1), .int x1, .int x2, .int x3, .int x4] : List Value).toArray below meth c H locs 0 0 (MQ below (mg_Q D (mg_cW g cI cZ y) A none) ([.ref (g 1), .int x1, .int x2, .int x3, .int x4] : List Value).toArray s 0 0 A) (F0 m 0 ls []) from K_ _ _ hw
  clear hw hHe H
  intro H locs hw
  refine lv_iload_n hx hb dX1_setCell_0 rfl (lv_at hl 1 rfl) ?_
  obtain ⟨y1, h9_, h⟩ := mg_bind h
  refine mg_k (rv := (some (.int y1))) (va_runS (As := [.int x1]) (rest := []) G9 (k_X1_isPlace l D o cI cZ g H.size σ x1 y1 h9_) (va_cwS 1 hts gX1_setCell_X1_isPlace rfl rfl rfl (by decide +kernel) ⟨Nat.le_of_ble_eq_true rfl, Nat.le_of_ble_eq_true rfl⟩) (mg_pre hK hO hA hw) rfl rfl hl.1 rfl (lv_room (Nat.le_of_ble_eq_true rfl)) dX1_setCell_1 ⟨Nat.zero_le _, Nat.zero_le _⟩) hw hA (fun H locs hw => ?_)
  clear h9_
  refine mg_if_eq (tgt := 29) hx hb h dX1_setCell_4 (by decide) (fun h => ?_) (fun h => ?_)
  · cases h
    exact mg_eV hx hb hr hlocks hw (Nat.zero_le _) (Nat.zero_le _) dX1_setCell_29
  · refine lv_aload_n hx hb dX1_setCell_7 rfl (lv_at hl 0 rfl) ?_
    refine va_get (D := D) (ci := 1) (v := .ref (g 8)) (C := RX1) (T := TX1) (N := 9) hx hb hts iX1_ hown hK hw.1 1 rfl rfl 0 (by decide) w0_ (fun _ h9 => h9) rfl dX1_setCell_8 ?_
    refine lv_iload_n hx hb dX1_setCell_11 rfl (lv_at hl 1 rfl) ?_
    refine lv_iload_n hx hb dX1_setCell_12 rfl (lv_at hl 2 rfl) ?_
    refine mg_ast (wd := mg_cW g cI cZ) (σ := σ) (k := 8) (n := 70) hx hb hK hw 8 0 rfl (mg_cS_8 g cI cZ σ) rfl h dX1_setCell_13 (fun s2 h H locs hw => ?_)
    refine lv_aload_n hx hb dX1_setCell_14 rfl (lv_at hl 0 rfl) ?_
    refine va_get (D := D) (ci := 1) (v := .ref (g 9)) (C := RX1) (T := TX1) (N := 9) hx hb hts iX1_ hown hK hw.1 1 rfl rfl 1 (by decide) w2_ (fun _ h9 => h9) rfl dX1_setCell_15 ?_
    refine lv_iload_n hx hb dX1_setCell_18 rfl (lv_at hl 1 rfl) ?_
    refine lv_iload_n hx hb dX1_setCell_19 rfl (lv_at hl 3 rfl) ?_
    refine mg_ast (wd := mg_cW g cI cZ) (σ := s2) (k := 9) (n := 70) hx hb hK hw 9 0 rfl (mg_cS_9 g cI cZ s2) rfl h dX1_setCell_20 (fun s3 h H locs hw => ?_)
    refine lv_aload_n hx hb dX1_setCell_21 rfl (lv_at hl 0 rfl) ?_
    refine va_get (D := D) (ci := 1) (v := .ref (g 10)) (C := RX1) (T := TX1) (N := 9) hx hb hts iX1_ hown hK hw.1 1 rfl rfl 2 (by decide) w3_ (fun _ h9 => h9) rfl dX1_setCell_22 ?_
    refine lv_iload_n hx hb dX1_setCell_25 rfl (lv_at hl 1 rfl) ?_
    refine lv_iload hx hb dX1_setCell_26 (lv_at hl 4 rfl) ?_
    refine mg_ast (wd := mg_cW g cI cZ) (σ := s3) (k := 10) (n := 70) hx hb hK hw 10 0 rfl (mg_cS_10 g cI cZ s3) rfl h dX1_setCell_28 (fun s4 h H locs hw => ?_)
    cases h
    exact mg_eV hx hb hr hlocks hw (Nat.zero_le _) (Nat.zero_le _) dX1_setCell_29
set_option maxHeartbeats 4000000 in
set_option maxRecDepth 100000 in
theorem k_X1_setRock (l : Launch) (D : va_G) (o : Nat → Nat) (cI cZ : ClassId) (g : Nat → Nat) (sz : Nat) (σ : mg_St) (x1 : Int32) (x2 : Int32) (x3 : Int32) (y : mg_St) (h : f_X1_setRock σ x1 x2 x3 = some y) : mg_CT l yX1_setRock wsX1_setRock ({ frames := 2, cells := 0, slots := 0, locals := 44 } : Room) D [(cI, .int), (cZ, .boolean)] o (mg_cW g cI cZ σ) sz [.ref (g 1), .int x1, .int x2, .int x3] none (mg_cW g cI cZ y) 0 0 := by
  unfold mg_CT
  refine Met.ofW (cc := cX1_setRock) (maxL := 4) (ret := none) (by decide) rfl ?_
  intro p e s m args below meth c s₁ B hml hv
  obtain ⟨rfl, hsz, hP, hK, hD0, hO⟩ := hv
  have hx := B.exec
  have hb := B.bytes
  have hr := B.returns
  have hts := atoms_spec (ws := wsX1_setRock) B.pre
  have hown : s.vm.findClass RX1 = some m.cls := findClass_of_methodNamed B.named
  have hlocks := B.notSynchronized
  subst hsz
  have hD := hD0.self (sz := s.heap.size)
  generalize hAe : va_A (mg_cW g cI cZ σ) s.heap.size = A at hD hO ⊢
  have hA : ∀ q : Nat, s.heap.size ≤ q → A q := fun q h => by rw [← hAe]; exact Or.inr h
  have hw : mg_Wo D A s.heap s.heap [] (mg_cW g cI cZ σ) := ⟨hP, hD, va_S.rf⟩
  have G9 : CallFix p m c cX1_setRock 4 s ([.ref (g 1), .int x1, .int x2, .int x3] : List Value).toArray wsX1_setRock RX1 := ⟨hx, hb, hml, hown, hts⟩
  clear hP hD hD0 hAe
  obtain ⟨H, hHe⟩ : ∃ H : Heap, H = s.heap := ⟨_, rfl⟩
  have hl := lv_entry ([.ref (g 1), .int x1, .int x2, .int x3]) (n := 4) (Nat.le_of_ble_eq_true rfl)
  rw [lg_entry_eq]
  generalize (lg_sl ([.ref (g 1), .int x1, .int x2, .int x3]) ++ List.replicate (4 - (lg_sl ([.ref (g 1), .int x1, .int x2, .int x3])).length) Slot.unset).toArray = ls at hl ⊢
  have hl : lv_has ls 4 [(0, .ref (g 1)), (1, .int x1), (2, .int x2), (3, .int x3)] := hl
  unfold f_X1_setRock at h
  revert hw
  intro hw
  suffices K_ : ∀ (H : Heap) (locs : List Loc), mg_Wo D A s.heap H locs (mg_cW g cI cZ σ) → W p l e (headSpec wsX1_setRock ({ frames := 2, cells := 0, slots := 0, locals := 44 } : Room)).room s m ([.ref (g 1), .int x1, .int x2, .int x3] : List Value).toArray below meth c H locs 0 0 (MQ below (mg_Q D (mg_cW g cI cZ y) A none) ([.ref (g 1), .int x1, .int x2, .int x3] : List Value).toArray s 0 0 A) (F0 m 0 ls []) from K_ _ _ hw
  clear hw hHe H
  intro H locs hw
  refine lv_aload_n hx hb dX1_setRock_0 rfl (lv_at hl 0 rfl) ?_
  refine lv_iload_n hx hb dX1_setRock_1 rfl (lv_at hl 1 rfl) ?_
  refine lv_iconst (v := 1) hx hb dX1_setRock_2 (by decide) ?_
  refine lv_iload_n hx hb dX1_setRock_3 rfl (lv_at hl 2 rfl) ?_
  refine lv_iload_n hx hb dX1_setRock_4 rfl (lv_at hl 3 rfl) ?_
  obtain ⟨y1, h9_, h⟩ := mg_bind h
  refine mg_k (rv := none) (va_runV (As := [.int x1, .int 1, .int x2, .int x3]) (rest := []) G9 (k_X1_setCell l D o cI cZ g H.size σ x1 1 x2 x3 y1 h9_) (cwV 4 hts gX1_setRock_X1_setCell rfl rfl rfl (by decide +kernel) ⟨Nat.le_of_ble_eq_true rfl, Nat.le_of_ble_eq_true rfl⟩) (mg_preV hK hO hA hw (q0 := 1) rfl rfl) rfl rfl hl.1 rfl (lv_room (Nat.le_of_ble_eq_true rfl)) dX1_setRock_5 ⟨Nat.zero_le _, Nat.zero_le _⟩) hw hA (fun H locs hw => ?_)
  clear h9_
  cases h
  exact mg_eV hx hb hr hlocks hw (Nat.zero_le _) (Nat.zero_le _) dX1_setRock_8
set_option maxHeartbeats 4000000 in
set_option maxRecDepth 100000 in
theorem k_X1_takeRock (l : Launch) (D : va_G) (o : Nat → Nat) (cI cZ : ClassId) (g : Nat → Nat) (sz : Nat) (σ : mg_St) (x1 : Int32) (y : mg_St) (h : f_X1_takeRock σ x1 = some y) : mg_CT l yX1_takeRock wsX1_takeRock ({ frames := 2, cells := 0, slots := 0, locals := 44 } : Room) D [(cI, .int), (cZ, .boolean)] o (mg_cW g cI cZ σ) sz [.ref (g 1), .int x1] none (mg_cW g cI cZ y) 0 0 := by
  unfold mg_CT
  refine Met.ofW (cc := cX1_takeRock) (maxL := 2) (ret := none) (by decide) rfl ?_
  intro p e s m args below meth c s₁ B hml hv
  obtain ⟨rfl, hsz, hP, hK, hD0, hO⟩ := hv
  have hx := B.exec
  have hb := B.bytes
  have hr := B.returns
  have hts := atoms_spec (ws := wsX1_takeRock) B.pre
  have hown : s.vm.findClass RX1 = some m.cls := findClass_of_methodNamed B.named
  have hlocks := B.notSynchronized
  subst hsz
  have hD := hD0.self (sz := s.heap.size)
  generalize hAe : va_A (mg_cW g cI cZ σ) s.heap.size = A at hD hO ⊢
  have hA : ∀ q : Nat, s.heap.size ≤ q → A q := fun q h => by rw [← hAe]; exact Or.inr h
  have hw : mg_Wo D A s.heap s.heap [] (mg_cW g cI cZ σ) := ⟨hP, hD, va_S.rf⟩
  have G9 : CallFix p m c cX1_takeRock 2 s ([.ref (g 1), .int x1] : List Value).toArray wsX1_takeRock RX1 := ⟨hx, hb, hml, hown, hts⟩
  clear hP hD hD0 hAe
  obtain ⟨H, hHe⟩ : ∃ H : Heap, H = s.heap := ⟨_, rfl⟩
  have hl := lv_entry ([.ref (g 1), .int x1]) (n := 2) (Nat.le_of_ble_eq_true rfl)
  rw [lg_entry_eq]
  generalize (lg_sl ([.ref (g 1), .int x1]) ++ List.replicate (2 - (lg_sl ([.ref (g 1), .int x1])).length) Slot.unset).toArray = ls at hl ⊢
  have hl : lv_has ls 2 [(0, .ref (g 1)), (1, .int x1)] := hl
  unfold f_X1_takeRock at h
  revert hw
  intro hw
  suffices K_ : ∀ (H : Heap) (locs : List Loc), mg_Wo D A s.heap H locs (mg_cW g cI cZ σ) → W p l e (headSpec wsX1_takeRock ({ frames := 2, cells := 0, slots := 0, locals := 44 } : Room)).room s m ([.ref (g 1), .int x1] : List Value).toArray below meth c H locs 0 0 (MQ below (mg_Q D (mg_cW g cI cZ y) A none) ([.ref (g 1), .int x1] : List Value).toArray s 0 0 A) (F0 m 0 ls []) from K_ _ _ hw
  clear hw hHe H
  intro H locs hw
  refine lv_aload_n hx hb dX1_takeRock_0 rfl (lv_at hl 0 rfl) ?_
  refine lv_iload_n hx hb dX1_takeRock_1 rfl (lv_at hl 1 rfl) ?_
  refine lv_iconst (v := 0) hx hb dX1_takeRock_2 (by decide) ?_
  refine lv_iconst (v := (-1)) hx hb dX1_takeRock_3 (by decide) ?_
  refine lv_iconst (v := 0) hx hb dX1_takeRock_4 (by decide) ?_
  obtain ⟨y1, h9_, h⟩ := mg_bind h
  refine mg_k (rv := none) (va_runV (As := [.int x1, .int 0, .int (-1), .int 0]) (rest := []) G9 (k_X1_setCell l D o cI cZ g H.size σ x1 0 (-1) 0 y1 h9_) (cwV 4 hts gX1_takeRock_X1_setCell rfl rfl rfl (by decide +kernel) ⟨Nat.le_of_ble_eq_true rfl, Nat.le_of_ble_eq_true rfl⟩) (mg_preV hK hO hA hw (q0 := 1) rfl rfl) rfl rfl hl.1 rfl (lv_room (Nat.le_of_ble_eq_true rfl)) dX1_takeRock_5 ⟨Nat.zero_le _, Nat.zero_le _⟩) hw hA (fun H locs hw => ?_)
  clear h9_
  cases h
  exact mg_eV hx hb hr hlocks hw (Nat.zero_le _) (Nat.zero_le _) dX1_takeRock_8
set_option maxHeartbeats 4000000 in
set_option maxRecDepth 100000 in
theorem k_X1_isUnknownPond (l : Launch) (D : va_G) (o : Nat → Nat) (cI cZ : ClassId) (g : Nat → Nat) (sz : Nat) (σ : mg_St) (x1 : Int32) (y : Int32) (h : f_X1_isUnknownPond σ x1 = some y) : mg_CT l yX1_isUnknownPond wsX1_isUnknownPond ({ frames := 1, cells := 0, slots := 0, locals := 20 } : Room) D [(cI, .int), (cZ, .boolean)] o (mg_cW g cI cZ σ) sz [.ref (g 1), .int x1] (some (.int y)) (mg_cW g cI cZ σ) 0 0 := by
  unfold mg_CT
  refine Met.ofW (cc := cX1_isUnknownPond) (maxL := 2) (ret := (some .boolean)) (by decide) rfl ?_
  intro p e s m args below meth c s₁ B hml hv
  obtain ⟨rfl, hsz, hP, hK, hD0, hO⟩ := hv
  have hx := B.exec
  have hb := B.bytes
  have hr := B.returns
  have hts := atoms_spec (ws := wsX1_isUnknownPond) B.pre
  have hown : s.vm.findClass RX1 = some m.cls := findClass_of_methodNamed B.named
  have hlocks := B.notSynchronized
  subst hsz
  have hD := hD0.self (sz := s.heap.size)
  generalize hAe : va_A (mg_cW g cI cZ σ) s.heap.size = A at hD hO ⊢
  have hA : ∀ q : Nat, s.heap.size ≤ q → A q := fun q h => by rw [← hAe]; exact Or.inr h
  have hw : mg_Wo D A s.heap s.heap [] (mg_cW g cI cZ σ) := ⟨hP, hD, va_S.rf⟩
  have G9 : CallFix p m c cX1_isUnknownPond 2 s ([.ref (g 1), .int x1] : List Value).toArray wsX1_isUnknownPond RX1 := ⟨hx, hb, hml, hown, hts⟩
  clear hP hD hD0 hAe
  obtain ⟨H, hHe⟩ : ∃ H : Heap, H = s.heap := ⟨_, rfl⟩
  have w0_ := hts (.fieldLink RX1 11 "MoonGate$Garden" "kinds" "[I") (by decide +kernel)
  have iX1_ : ∀ w ∈ wsX10, w ∈ wsX1_isUnknownPond := (fun _ h => List.mem_cons_of_mem _ (List.mem_append_right _ h))
  have w2_ := hts (.fieldLink RX1 24 "MoonGate$Garden" "pondOf" "[I") (by decide +kernel)
  have hl := lv_entry ([.ref (g 1), .int x1]) (n := 2) (Nat.le_of_ble_eq_true rfl)
  rw [lg_entry_eq]
  generalize (lg_sl ([.ref (g 1), .int x1]) ++ List.replicate (2 - (lg_sl ([.ref (g 1), .int x1])).length) Slot.unset).toArray = ls at hl ⊢
  have hl : lv_has ls 2 [(0, .ref (g 1)), (1, .int x1)] := hl
  unfold f_X1_isUnknownPond at h
  revert hw
  intro hw
  suffices K_ : ∀ (H : Heap) (locs : List Loc), mg_Wo D A s.heap H locs (mg_cW g cI cZ σ) → W p l e (headSpec wsX1_isUnknownPond ({ frames := 1, cells := 0, slots := 0, locals := 20 } : Room)).room s m ([.ref (g 1), .int x1] : List Value).toArray below meth c H locs 0 0 (MQ below (mg_Q D (mg_cW g cI cZ σ) A (some (.int y))) ([.ref (g 1), .int x1] : List Value).toArray s 0 0 A) (F0 m 0 ls []) from K_ _ _ hw
  clear hw hHe H
  intro H locs hw
  refine lv_iload_n hx hb dX1_isUnknownPond_0 rfl (lv_at hl 1 rfl) ?_
  obtain ⟨y1, h9_, h⟩ := mg_bind h
  refine mg_k (rv := (some (.int y1))) (va_runS (As := [.int x1]) (rest := []) G9 (k_X1_isPlace l D o cI cZ g H.size σ x1 y1 h9_) (va_cwS 1 hts gX1_isUnknownPond_X1_isPlace rfl rfl rfl (by decide +kernel) ⟨Nat.le_of_ble_eq_true rfl, Nat.le_of_ble_eq_true rfl⟩) (mg_pre hK hO hA hw) rfl rfl hl.1 rfl (lv_room (Nat.le_of_ble_eq_true rfl)) dX1_isUnknownPond_1 ⟨Nat.zero_le _, Nat.zero_le _⟩) hw hA (fun H locs hw => ?_)
  clear h9_
  refine mg_if_eq (tgt := 31) hx hb h dX1_isUnknownPond_4 (by decide) (fun h => ?_) (fun h => ?_)
  · refine lv_iconst (v := 0) hx hb dX1_isUnknownPond_31 (by decide) ?_
    cases h
    exact mg_eZ hx hb hr hlocks hw rfl (Nat.zero_le _) (Nat.zero_le _) dX1_isUnknownPond_32
  · refine lv_aload_n hx hb dX1_isUnknownPond_7 rfl (lv_at hl 0 rfl) ?_
    refine va_get (D := D) (ci := 1) (v := .ref (g 8)) (C := RX1) (T := TX1) (N := 9) hx hb hts iX1_ hown hK hw.1 1 rfl rfl 0 (by decide) w0_ (fun _ h9 => h9) rfl dX1_isUnknownPond_8 ?_
    refine lv_iload_n hx hb dX1_isUnknownPond_11 rfl (lv_at hl 1 rfl) ?_
    refine mg_ald (σ := σ) (k := 8) (n := 70) hx hb hK hw 8 0 rfl rfl h dX1_isUnknownPond_12 (fun v2 h => ?_)
    refine lv_iconst (v := 2) hx hb dX1_isUnknownPond_13 (by decide) ?_
    refine mg_icmp_ne (tgt := 31) hx hb h dX1_isUnknownPond_14 (by decide) (fun h => ?_) (fun h => ?_)
    · refine lv_iconst (v := 0) hx hb dX1_isUnknownPond_31 (by decide) ?_
      cases h
      exact mg_eZ hx hb hr hlocks hw rfl (Nat.zero_le _) (Nat.zero_le _) dX1_isUnknownPond_32
    · refine lv_aload_n hx hb dX1_isUnknownPond_17 rfl (lv_at hl 0 rfl) ?_
      refine va_get (D := D) (ci := 1) (v := .ref (g 12)) (C := RX1) (T := TX1) (N := 9) hx hb hts iX1_ hown hK hw.1 1 rfl rfl 4 (by decide) w2_ (fun _ h9 => h9) rfl dX1_isUnknownPond_18 ?_
      refine lv_iload_n hx hb dX1_isUnknownPond_21 rfl (lv_at hl 1 rfl) ?_
      refine mg_ald (σ := σ) (k := 12) (n := 70) hx hb hK hw 12 0 rfl rfl h dX1_isUnknownPond_22 (fun v3 h => ?_)
      refine lv_iconst (v := (-1)) hx hb dX1_isUnknownPond_23 (by decide) ?_
      refine mg_icmp_ne (tgt := 31) hx hb h dX1_isUnknownPond_24 (by decide) (fun h => ?_) (fun h => ?_)
      · refine lv_iconst (v := 0) hx hb dX1_isUnknownPond_31 (by decide) ?_
        cases h
        exact mg_eZ hx hb hr hlocks hw rfl (Nat.zero_le _) (Nat.zero_le _) dX1_isUnknownPond_32
      · refine lv_iconst (v := 1) hx hb dX1_isUnknownPond_27 (by decide) ?_
        refine lv_goto (tgt := 32) hx hb dX1_isUnknownPond_28 (by decide) ?_
        cases h
        exact mg_eZ hx hb hr hlocks hw rfl (Nat.zero_le _) (Nat.zero_le _) dX1_isUnknownPond_32
set_option maxHeartbeats 4000000 in
set_option maxRecDepth 100000 in
theorem k_X1_reachOnFrom (l : Launch) (D : va_G) (o : Nat → Nat) (cI cZ : ClassId) (g : Nat → Nat) (sz : Nat) (σ : mg_St) (x1 : Int32) (x2 : Int32) (x3 : Int32) (y : (Int32 × mg_St)) (h : f_X1_reachOnFrom σ x1 x2 x3 = some y) : mg_CT l yX1_reachOnFrom wsX1_reachOnFrom ({ frames := 2, cells := 0, slots := 0, locals := 45 } : Room) D [(cI, .int), (cZ, .boolean)] o (mg_cW g cI cZ σ) sz [.ref (g 1), .int x1, .int x2, .int x3] (some (.int y.1)) (mg_cW g cI cZ y.2) 0 0 := by
  unfold mg_CT
  refine Met.ofW (cc := cX1_reachOnFrom) (maxL := 7) (ret := (some .int)) (by decide) rfl ?_
  intro p e s m args below meth c s₁ B hml hv
  obtain ⟨rfl, hsz, hP, hK, hD0, hO⟩ := hv
  have hx := B.exec
  have hb := B.bytes
  have hr := B.returns
  have hts := atoms_spec (ws := wsX1_reachOnFrom) B.pre
  have hown : s.vm.findClass RX1 = some m.cls := findClass_of_methodNamed B.named
  have hlocks := B.notSynchronized
  subst hsz
  have hD := hD0.self (sz := s.heap.size)
  generalize hAe : va_A (mg_cW g cI cZ σ) s.heap.size = A at hD hO ⊢
  have hA : ∀ q : Nat, s.heap.size ≤ q → A q := fun q h => by rw [← hAe]; exact Or.inr h
  have hw : mg_Wo D A s.heap s.heap [] (mg_cW g cI cZ σ) := ⟨hP, hD, va_S.rf⟩
  have G9 : CallFix p m c cX1_reachOnFrom 7 s ([.ref (g 1), .int x1, .int x2, .int x3] : List Value).toArray wsX1_reachOnFrom RX1 := ⟨hx, hb, hml, hown, hts⟩
  clear hP hD hD0 hAe
  obtain ⟨H, hHe⟩ : ∃ H : Heap, H = s.heap := ⟨_, rfl⟩
  have w0_ := hts (.fieldLink RX1 24 "MoonGate$Garden" "pondOf" "[I") (by decide +kernel)
  have iX1_ : ∀ w ∈ wsX10, w ∈ wsX1_reachOnFrom := (fun _ h => List.mem_cons_of_mem _ (List.mem_append_right _ h))
  have w2_ := hts (.fieldLink RX1 33 "MoonGate$Garden" "reached" "[I") (by decide +kernel)
  have hl := lv_entry ([.ref (g 1), .int x1, .int x2, .int x3]) (n := 7) (Nat.le_of_ble_eq_true rfl)
  rw [lg_entry_eq]
  generalize (lg_sl ([.ref (g 1), .int x1, .int x2, .int x3]) ++ List.replicate (7 - (lg_sl ([.ref (g 1), .int x1, .int x2, .int x3])).length) Slot.unset).toArray = ls at hl ⊢
  have hl : lv_has ls 7 [(0, .ref (g 1)), (1, .int x1), (2, .int x2), (3, .int x3)] := hl
  unfold f_X1_reachOnFrom at h
  revert hw
  intro hw
  suffices K_ : ∀ (H : Heap) (locs : List Loc), mg_Wo D A s.heap H locs (mg_cW g cI cZ σ) → W p l e (headSpec wsX1_reachOnFrom ({ frames := 2, cells := 0, slots := 0, locals := 45 } : Room)).room s m ([.ref (g 1), .int x1, .int x2, .int x3] : List Value).toArray below meth c H locs 0 0 (MQ below (mg_Q D (mg_cW g cI cZ y.2) A (some (.int y.1))) ([.ref (g 1), .int x1, .int x2, .int x3] : List Value).toArray s 0 0 A) (F0 m 0 ls []) from K_ _ _ hw
  clear hw hHe H
  intro H locs hw
  refine lv_iload_n hx hb dX1_reachOnFrom_0 rfl (lv_at hl 3 rfl) ?_
  refine lv_istore (lv' := [(4, .int x3), (0, .ref (g 1)), (1, .int x1), (2, .int x2), (3, .int x3)]) hx hb dX1_reachOnFrom_1 hl (by decide) rfl (fun ls hl => ?_)
  refine lv_iconst (v := 0) hx hb dX1_reachOnFrom_3 (by decide) ?_
  refine lv_istore (lv' := [(5, .int 0), (4, .int x3), (0, .ref (g 1)), (1, .int x1), (2, .int x2), (3, .int x3)]) hx hb dX1_reachOnFrom_4 hl (by decide) rfl (fun ls hl => ?_)
  have L6_ : ∀ (n : Nat) (x4_6 : Int32) (x5_6 : Int32) (s6_ : mg_St) (y6_ : Int32 × Int32 × mg_St), f_X1_reachOnFrom_6 x1 x2 x3 n x4_6 x5_6 s6_ = some y6_ → (∀ (H : Heap) (locs : List Loc) (ls : Array Slot), mg_Wo D A s.heap H locs (mg_cW g cI cZ y6_.2.2) → lv_has ls 7 [(0, .ref (g 1)), (1, .int x1), (2, .int x2), (3, .int x3), (4, .int y6_.1), (5, .int y6_.2.1)] → W p l e (headSpec wsX1_reachOnFrom ({ frames := 2, cells := 0, slots := 0, locals := 45 } : Room)).room s m ([.ref (g 1), .int x1, .int x2, .int x3] : List Value).toArray below meth c H locs 0 0 (MQ below (mg_Q D (mg_cW g cI cZ y.2) A (some (.int y.1))) ([.ref (g 1), .int x1, .int x2, .int x3] : List Value).toArray s 0 0 A) (F0 m 68 ls [])) → ∀ (H : Heap) (locs : List Loc) (ls : Array Slot), mg_Wo D A s.heap H locs (mg_cW g cI cZ s6_) → lv_has ls 7 [(0, .ref (g 1)), (1, .int x1), (2, .int x2), (3, .int x3), (4, .int x4_6), (5, .int x5_6)] → W p l e (headSpec wsX1_reachOnFrom ({ frames := 2, cells := 0, slots := 0, locals := 45 } : Room)).room s m ([.ref (g 1), .int x1, .int x2, .int x3] : List Value).toArray below meth c H locs 0 0 (MQ below (mg_Q D (mg_cW g cI cZ y.2) A (some (.int y.1))) ([.ref (g 1), .int x1, .int x2, .int x3] : List Value).toArray s 0 0 A) (F0 m 6 ls []) := by
    intro n
    induction n with
    | zero => intro x4_6 x5_6 s6_ y6_ h; rw [f_X1_reachOnFrom_6] at h; cases h
    | succ n ih =>
      intro x4_6 x5_6 s6_ y6_ h kc H locs ls hw hl
      rw [f_X1_reachOnFrom_6] at h
      refine lv_iload hx hb dX1_reachOnFrom_6 (lv_at hl 5 rfl) ?_
      refine lv_iconst (v := 4) hx hb dX1_reachOnFrom_8 (by decide) ?_
      refine mg_icmp_ge (tgt := 68) hx hb h dX1_reachOnFrom_9 (by decide) (fun h => ?_) (fun h => ?_)
      · cases h
        exact kc H locs ls hw (lv_sub hl [0, 1, 2, 3, 4, 5] rfl)
      · refine lv_aload_n hx hb dX1_reachOnFrom_12 rfl (lv_at hl 0 rfl) ?_
        refine lv_iload_n hx hb dX1_reachOnFrom_13 rfl (lv_at hl 1 rfl) ?_
        refine lv_iload hx hb dX1_reachOnFrom_14 (lv_at hl 5 rfl) ?_
        obtain ⟨y2, h9_, h⟩ := mg_bind h
        refine mg_k (rv := (some (.int y2))) (va_runV (As := [.int x1, .int x5_6]) (rest := []) G9 (k_X1_beside l D o cI cZ g H.size s6_ x1 x5_6 y2 h9_) (cwV 2 hts gX1_reachOnFrom_X1_beside rfl rfl rfl (by decide +kernel) ⟨Nat.le_of_ble_eq_true rfl, Nat.le_of_ble_eq_true rfl⟩) (mg_preV hK hO hA hw (q0 := 1) rfl rfl) rfl rfl hl.1 rfl (lv_room (Nat.le_of_ble_eq_true rfl)) dX1_reachOnFrom_16 ⟨Nat.zero_le _, Nat.zero_le _⟩) hw hA (fun H locs hw => ?_)
        clear h9_
        refine lv_istore (lv' := [(6, .int y2), (0, .ref (g 1)), (1, .int x1), (2, .int x2), (3, .int x3), (4, .int x4_6), (5, .int x5_6)]) hx hb dX1_reachOnFrom_19 hl (by decide) rfl (fun ls hl => ?_)
        refine lv_aload_n hx hb dX1_reachOnFrom_21 rfl (lv_at hl 1 rfl) ?_
        refine lv_iload hx hb dX1_reachOnFrom_22 (lv_at hl 0 rfl) ?_
        obtain ⟨y3, h9_, h⟩ := mg_bind h
        refine mg_k (rv := (some (.int y3))) (va_runV (As := [.int y2]) (rest := []) G9 (k_X1_isUnknownPond l D o cI cZ g H.size s6_ y2 y3 h9_) (cwV 1 hts gX1_reachOnFrom_X1_isUnknownPond rfl rfl rfl (by decide +kernel) ⟨Nat.le_of_ble_eq_true rfl, Nat.le_of_ble_eq_true rfl⟩) (mg_preV hK hO hA hw (q0 := 1) rfl rfl) rfl rfl hl.1 rfl (lv_room (Nat.le_of_ble_eq_true rfl)) dX1_reachOnFrom_24 ⟨Nat.zero_le _, Nat.zero_le _⟩) hw hA (fun H locs hw => ?_)
        clear h9_
        refine mg_if_eq (tgt := 62) hx hb h dX1_reachOnFrom_27 (by decide) (fun h => ?_) (fun h => ?_)
        · refine lv_iinc (v := (x5_6 + 1)) (lv' := [(5, .int (x5_6 + 1)), (6, .int y2), (0, .ref (g 1)), (1, .int x1), (2, .int x2), (3, .int x3), (4, .int x4_6)]) hx hb dX1_reachOnFrom_62 hl (k := 6) rfl rfl (by decide) rfl (fun ls hl => ?_)
          refine lv_goto (tgt := 6) hx hb dX1_reachOnFrom_65 (by decide) ?_
          exact ih _ _ _ _ h kc H locs ls hw (lv_sub hl [2, 3, 4, 5, 6, 0] rfl)
        · refine lv_iload hx hb dX1_reachOnFrom_30 (lv_at hl 5 rfl) ?_
          refine mg_if_lt (tgt := 62) hx hb h dX1_reachOnFrom_32 (by decide) (fun h => ?_) (fun h => ?_)
          · refine lv_iinc (v := (x5_6 + 1)) (lv' := [(5, .int (x5_6 + 1)), (6, .int y2), (0, .ref (g 1)), (1, .int x1), (2, .int x2), (3, .int x3), (4, .int x4_6)]) hx hb dX1_reachOnFrom_62 hl (k := 6) rfl rfl (by decide) rfl (fun ls hl => ?_)
            refine lv_goto (tgt := 6) hx hb dX1_reachOnFrom_65 (by decide) ?_
            exact ih _ _ _ _ h kc H locs ls hw (lv_sub hl [2, 3, 4, 5, 6, 0] rfl)
          · refine lv_iload hx hb dX1_reachOnFrom_35 (lv_at hl 5 rfl) ?_
            refine lv_bipush (v := 70) hx hb dX1_reachOnFrom_37 (by decide) ?_
            refine mg_icmp_ge (tgt := 62) hx hb h dX1_reachOnFrom_39 (by decide) (fun h => ?_) (fun h => ?_)
            · refine lv_iinc (v := (x5_6 + 1)) (lv' := [(5, .int (x5_6 + 1)), (6, .int y2), (0, .ref (g 1)), (1, .int x1), (2, .int x2), (3, .int x3), (4, .int x4_6)]) hx hb dX1_reachOnFrom_62 hl (k := 6) rfl rfl (by decide) rfl (fun ls hl => ?_)
              refine lv_goto (tgt := 6) hx hb dX1_reachOnFrom_65 (by decide) ?_
              exact ih _ _ _ _ h kc H locs ls hw (lv_sub hl [2, 3, 4, 5, 6, 0] rfl)
            · refine lv_aload_n hx hb dX1_reachOnFrom_42 rfl (lv_at hl 1 rfl) ?_
              refine va_get (D := D) (ci := 1) (v := .ref (g 12)) (C := RX1) (T := TX1) (N := 9) hx hb hts iX1_ hown hK hw.1 1 rfl rfl 4 (by decide) w0_ (fun _ h9 => h9) rfl dX1_reachOnFrom_43 ?_
              refine lv_iload hx hb dX1_reachOnFrom_46 (lv_at hl 0 rfl) ?_
              refine lv_iload_n hx hb dX1_reachOnFrom_48 rfl (lv_at hl 3 rfl) ?_
              refine mg_ast (wd := mg_cW g cI cZ) (σ := s6_) (k := 12) (n := 70) hx hb hK hw 12 0 rfl (mg_cS_12 g cI cZ s6_) rfl h dX1_reachOnFrom_49 (fun s4 h H locs hw => ?_)
              refine lv_aload_n hx hb dX1_reachOnFrom_50 rfl (lv_at hl 1 rfl) ?_
              refine va_get (D := D) (ci := 1) (v := .ref (g 15)) (C := RX1) (T := TX1) (N := 9) hx hb hts iX1_ hown hK hw.1 1 rfl rfl 7 (by decide) w2_ (fun _ h9 => h9) rfl dX1_reachOnFrom_51 ?_
              refine lv_iload hx hb dX1_reachOnFrom_54 (lv_at hl 5 rfl) ?_
              refine lv_iload hx hb dX1_reachOnFrom_56 (lv_at hl 0 rfl) ?_
              refine mg_ast (wd := mg_cW g cI cZ) (σ := s4) (k := 15) (n := 70) hx hb hK hw 15 0 rfl (mg_cS_15 g cI cZ s4) rfl h dX1_reachOnFrom_58 (fun s5 h H locs hw => ?_)
              refine lv_iinc (v := (x4_6 + 1)) (lv' := [(4, .int (x4_6 + 1)), (6, .int y2), (0, .ref (g 1)), (1, .int x1), (2, .int x2), (3, .int x3), (5, .int x5_6)]) hx hb dX1_reachOnFrom_59 hl (k := 5) rfl rfl (by decide) rfl (fun ls hl => ?_)
              refine lv_iinc (v := (x5_6 + 1)) (lv' := [(5, .int (x5_6 + 1)), (4, .int (x4_6 + 1)), (6, .int y2), (0, .ref (g 1)), (1, .int x1), (2, .int x2), (3, .int x3)]) hx hb dX1_reachOnFrom_62 hl (k := 6) rfl rfl (by decide) rfl (fun ls hl => ?_)
              refine lv_goto (tgt := 6) hx hb dX1_reachOnFrom_65 (by decide) ?_
              exact ih _ _ _ _ h kc H locs ls hw (lv_sub hl [3, 4, 5, 6, 1, 0] rfl)
  obtain ⟨y1, h9_, h⟩ := mg_bind h
  refine L6_ _ _ _ _ _ h9_ (fun H locs ls hw hl => ?_) H locs ls hw (lv_sub hl [2, 3, 4, 5, 1, 0] rfl)
  clear L6_ h9_
  refine lv_iload hx hb dX1_reachOnFrom_68 (lv_at hl 4 rfl) ?_
  cases h
  exact mg_eI hx hb hr hlocks hw (Nat.zero_le _) (Nat.zero_le _) dX1_reachOnFrom_70
set_option maxHeartbeats 4000000 in
set_option maxRecDepth 100000 in
theorem k_X1_surveyPond (l : Launch) (D : va_G) (o : Nat → Nat) (cI cZ : ClassId) (g : Nat → Nat) (sz : Nat) (σ : mg_St) (x1 : Int32) (x2 : Int32) (y : mg_St) (h : f_X1_surveyPond σ x1 x2 = some y) : mg_CT l yX1_surveyPond wsX1_surveyPond ({ frames := 3, cells := 0, slots := 0, locals := 71 } : Room) D [(cI, .int), (cZ, .boolean)] o (mg_cW g cI cZ σ) sz [.ref (g 1), .int x1, .int x2] none (mg_cW g cI cZ y) 0 0 := by
  unfold mg_CT
  refine Met.ofW (cc := cX1_surveyPond) (maxL := 6) (ret := none) (by decide) rfl ?_
  intro p e s m args below meth c s₁ B hml hv
  obtain ⟨rfl, hsz, hP, hK, hD0, hO⟩ := hv
  have hx := B.exec
  have hb := B.bytes
  have hr := B.returns
  have hts := atoms_spec (ws := wsX1_surveyPond) B.pre
  have hown : s.vm.findClass RX1 = some m.cls := findClass_of_methodNamed B.named
  have hlocks := B.notSynchronized
  subst hsz
  have hD := hD0.self (sz := s.heap.size)
  generalize hAe : va_A (mg_cW g cI cZ σ) s.heap.size = A at hD hO ⊢
  have hA : ∀ q : Nat, s.heap.size ≤ q → A q := fun q h => by rw [← hAe]; exact Or.inr h
  have hw : mg_Wo D A s.heap s.heap [] (mg_cW g cI cZ σ) := ⟨hP, hD, va_S.rf⟩
  have G9 : CallFix p m c cX1_surveyPond 6 s ([.ref (g 1), .int x1, .int x2] : List Value).toArray wsX1_surveyPond RX1 := ⟨hx, hb, hml, hown, hts⟩
  clear hP hD hD0 hAe
  obtain ⟨H, hHe⟩ : ∃ H : Heap, H = s.heap := ⟨_, rfl⟩
  have w0_ := hts (.fieldLink RX1 27 "MoonGate$Garden" "pondCells" "[I") (by decide +kernel)
  have iX1_ : ∀ w ∈ wsX10, w ∈ wsX1_surveyPond := (fun _ h => List.mem_cons_of_mem _ (List.mem_append_right _ h))
  have w2_ := hts (.fieldLink RX1 30 "MoonGate$Garden" "pondCarps" "[I") (by decide +kernel)
  have w3_ := hts (.fieldLink RX1 24 "MoonGate$Garden" "pondOf" "[I") (by decide +kernel)
  have w4_ := hts (.fieldLink RX1 33 "MoonGate$Garden" "reached" "[I") (by decide +kernel)
  have w5_ := hts (.fieldLink RX1 21 "MoonGate$Garden" "carps" "[I") (by decide +kernel)
  have hl := lv_entry ([.ref (g 1), .int x1, .int x2]) (n := 6) (Nat.le_of_ble_eq_true rfl)
  rw [lg_entry_eq]
  generalize (lg_sl ([.ref (g 1), .int x1, .int x2]) ++ List.replicate (6 - (lg_sl ([.ref (g 1), .int x1, .int x2])).length) Slot.unset).toArray = ls at hl ⊢
  have hl : lv_has ls 6 [(0, .ref (g 1)), (1, .int x1), (2, .int x2)] := hl
  unfold f_X1_surveyPond at h
  revert hw
  intro hw
  suffices K_ : ∀ (H : Heap) (locs : List Loc), mg_Wo D A s.heap H locs (mg_cW g cI cZ σ) → W p l e (headSpec wsX1_surveyPond ({ frames := 3, cells := 0, slots := 0, locals := 71 } : Room)).room s m ([.ref (g 1), .int x1, .int x2] : List Value).toArray below meth c H locs 0 0 (MQ below (mg_Q D (mg_cW g cI cZ y) A none) ([.ref (g 1), .int x1, .int x2] : List Value).toArray s 0 0 A) (F0 m 0 ls []) from K_ _ _ hw
  clear hw hHe H
  intro H locs hw
  refine lv_iload_n hx hb dX1_surveyPond_0 rfl (lv_at hl 1 rfl) ?_
  obtain ⟨y1, h9_, h⟩ := mg_bind h
  refine mg_k (rv := (some (.int y1))) (va_runS (As := [.int x1]) (rest := []) G9 (k_X1_isPlace l D o cI cZ g H.size σ x1 y1 h9_) (va_cwS 1 hts gX1_surveyPond_X1_isPlace rfl rfl rfl (by decide +kernel) ⟨Nat.le_of_ble_eq_true rfl, Nat.le_of_ble_eq_true rfl⟩) (mg_pre hK hO hA hw) rfl rfl hl.1 rfl (lv_room (Nat.le_of_ble_eq_true rfl)) dX1_surveyPond_1 ⟨Nat.zero_le _, Nat.zero_le _⟩) hw hA (fun H locs hw => ?_)
  clear h9_
  refine mg_if_eq (tgt := 14) hx hb h dX1_surveyPond_4 (by decide) (fun h => ?_) (fun h => ?_)
  · cases h
    exact mg_eV hx hb hr hlocks hw (Nat.zero_le _) (Nat.zero_le _) dX1_surveyPond_14
  · refine lv_iload_n hx hb dX1_surveyPond_7 rfl (lv_at hl 2 rfl) ?_
    obtain ⟨y2, h9_, h⟩ := mg_bind h
    refine mg_k (rv := (some (.int y2))) (va_runS (As := [.int x2]) (rest := []) G9 (k_X1_isPlace l D o cI cZ g H.size σ x2 y2 h9_) (va_cwS 1 hts gX1_surveyPond_X1_isPlace rfl rfl rfl (by decide +kernel) ⟨Nat.le_of_ble_eq_true rfl, Nat.le_of_ble_eq_true rfl⟩) (mg_pre hK hO hA hw) rfl rfl hl.1 rfl (lv_room (Nat.le_of_ble_eq_true rfl)) dX1_surveyPond_8 ⟨Nat.zero_le _, Nat.zero_le _⟩) hw hA (fun H locs hw => ?_)
    clear h9_
    refine mg_if_ne (tgt := 15) hx hb h dX1_surveyPond_11 (by decide) (fun h => ?_) (fun h => ?_)
    · refine lv_aload_n hx hb dX1_surveyPond_15 rfl (lv_at hl 0 rfl) ?_
      refine va_get (D := D) (ci := 1) (v := .ref (g 13)) (C := RX1) (T := TX1) (N := 9) hx hb hts iX1_ hown hK hw.1 1 rfl rfl 5 (by decide) w0_ (fun _ h9 => h9) rfl dX1_surveyPond_16 ?_
      refine lv_iload_n hx hb dX1_surveyPond_19 rfl (lv_at hl 1 rfl) ?_
      refine lv_iconst (v := 0) hx hb dX1_surveyPond_20 (by decide) ?_
      refine mg_ast (wd := mg_cW g cI cZ) (σ := σ) (k := 13) (n := 70) hx hb hK hw 13 0 rfl (mg_cS_13 g cI cZ σ) rfl h dX1_surveyPond_21 (fun s3 h H locs hw => ?_)
      refine lv_aload_n hx hb dX1_surveyPond_22 rfl (lv_at hl 0 rfl) ?_
      refine va_get (D := D) (ci := 1) (v := .ref (g 14)) (C := RX1) (T := TX1) (N := 9) hx hb hts iX1_ hown hK hw.1 1 rfl rfl 6 (by decide) w2_ (fun _ h9 => h9) rfl dX1_surveyPond_23 ?_
      refine lv_iload_n hx hb dX1_surveyPond_26 rfl (lv_at hl 1 rfl) ?_
      refine lv_iconst (v := 0) hx hb dX1_surveyPond_27 (by decide) ?_
      refine mg_ast (wd := mg_cW g cI cZ) (σ := s3) (k := 14) (n := 70) hx hb hK hw 14 0 rfl (mg_cS_14 g cI cZ s3) rfl h dX1_surveyPond_28 (fun s4 h H locs hw => ?_)
      refine lv_aload_n hx hb dX1_surveyPond_29 rfl (lv_at hl 0 rfl) ?_
      refine va_get (D := D) (ci := 1) (v := .ref (g 12)) (C := RX1) (T := TX1) (N := 9) hx hb hts iX1_ hown hK hw.1 1 rfl rfl 4 (by decide) w3_ (fun _ h9 => h9) rfl dX1_surveyPond_30 ?_
      refine lv_iload_n hx hb dX1_surveyPond_33 rfl (lv_at hl 2 rfl) ?_
      refine lv_iload_n hx hb dX1_surveyPond_34 rfl (lv_at hl 1 rfl) ?_
      refine mg_ast (wd := mg_cW g cI cZ) (σ := s4) (k := 12) (n := 70) hx hb hK hw 12 0 rfl (mg_cS_12 g cI cZ s4) rfl h dX1_surveyPond_35 (fun s5 h H locs hw => ?_)
      refine lv_aload_n hx hb dX1_surveyPond_36 rfl (lv_at hl 0 rfl) ?_
      refine va_get (D := D) (ci := 1) (v := .ref (g 15)) (C := RX1) (T := TX1) (N := 9) hx hb hts iX1_ hown hK hw.1 1 rfl rfl 7 (by decide) w4_ (fun _ h9 => h9) rfl dX1_surveyPond_37 ?_
      refine lv_iconst (v := 0) hx hb dX1_surveyPond_40 (by decide) ?_
      refine lv_iload_n hx hb dX1_surveyPond_41 rfl (lv_at hl 2 rfl) ?_
      refine mg_ast (wd := mg_cW g cI cZ) (σ := s5) (k := 15) (n := 70) hx hb hK hw 15 0 rfl (mg_cS_15 g cI cZ s5) rfl h dX1_surveyPond_42 (fun s6 h H locs hw => ?_)
      refine lv_iconst (v := 1) hx hb dX1_surveyPond_43 (by decide) ?_
      refine lv_istore_n (lv' := [(3, .int 1), (0, .ref (g 1)), (1, .int x1), (2, .int x2)]) hx hb dX1_surveyPond_44 rfl hl (by decide) rfl (fun ls hl => ?_)
      refine lv_iconst (v := 0) hx hb dX1_surveyPond_45 (by decide) ?_
      refine lv_istore (lv' := [(4, .int 0), (3, .int 1), (0, .ref (g 1)), (1, .int x1), (2, .int x2)]) hx hb dX1_surveyPond_46 hl (by decide) rfl (fun ls hl => ?_)
      have L48_ : ∀ (n : Nat) (x3_48 : Int32) (x4_48 : Int32) (s48_ : mg_St) (y48_ : Int32 × Int32 × mg_St), f_X1_surveyPond_48 x1 x2 n x3_48 x4_48 s48_ = some y48_ → (∀ (H : Heap) (locs : List Loc) (ls : Array Slot), mg_Wo D A s.heap H locs (mg_cW g cI cZ y48_.2.2) → lv_has ls 6 [(0, .ref (g 1)), (1, .int x1), (2, .int x2), (3, .int y48_.1), (4, .int y48_.2.1)] → W p l e (headSpec wsX1_surveyPond ({ frames := 3, cells := 0, slots := 0, locals := 71 } : Room)).room s m ([.ref (g 1), .int x1, .int x2] : List Value).toArray below meth c H locs 0 0 (MQ below (mg_Q D (mg_cW g cI cZ y) A none) ([.ref (g 1), .int x1, .int x2] : List Value).toArray s 0 0 A) (F0 m 123 ls [])) → ∀ (H : Heap) (locs : List Loc) (ls : Array Slot), mg_Wo D A s.heap H locs (mg_cW g cI cZ s48_) → lv_has ls 6 [(0, .ref (g 1)), (1, .int x1), (2, .int x2), (3, .int x3_48), (4, .int x4_48)] → W p l e (headSpec wsX1_surveyPond ({ frames := 3, cells := 0, slots := 0, locals := 71 } : Room)).room s m ([.ref (g 1), .int x1, .int x2] : List Value).toArray below meth c H locs 0 0 (MQ below (mg_Q D (mg_cW g cI cZ y) A none) ([.ref (g 1), .int x1, .int x2] : List Value).toArray s 0 0 A) (F0 m 48 ls []) := by
        intro n
        induction n with
        | zero => intro x3_48 x4_48 s48_ y48_ h; rw [f_X1_surveyPond_48] at h; cases h
        | succ n ih =>
          intro x3_48 x4_48 s48_ y48_ h kc H locs ls hw hl
          rw [f_X1_surveyPond_48] at h
          refine lv_iload hx hb dX1_surveyPond_48 (lv_at hl 4 rfl) ?_
          refine lv_iload_n hx hb dX1_surveyPond_50 rfl (lv_at hl 3 rfl) ?_
          refine mg_icmp_ge (tgt := 123) hx hb h dX1_surveyPond_51 (by decide) (fun h => ?_) (fun h => ?_)
          · cases h
            exact kc H locs ls hw (lv_sub hl [0, 1, 2, 3, 4] rfl)
          · refine lv_iload hx hb dX1_surveyPond_54 (lv_at hl 4 rfl) ?_
            refine lv_bipush (v := 70) hx hb dX1_surveyPond_56 (by decide) ?_
            refine mg_icmp_ge (tgt := 123) hx hb h dX1_surveyPond_58 (by decide) (fun h => ?_) (fun h => ?_)
            · cases h
              exact kc H locs ls hw (lv_sub hl [0, 1, 2, 3, 4] rfl)
            · refine lv_aload_n hx hb dX1_surveyPond_61 rfl (lv_at hl 0 rfl) ?_
              refine va_get (D := D) (ci := 1) (v := .ref (g 15)) (C := RX1) (T := TX1) (N := 9) hx hb hts iX1_ hown hK hw.1 1 rfl rfl 7 (by decide) w4_ (fun _ h9 => h9) rfl dX1_surveyPond_62 ?_
              refine lv_iload hx hb dX1_surveyPond_65 (lv_at hl 4 rfl) ?_
              refine mg_ald (σ := s48_) (k := 15) (n := 70) hx hb hK hw 15 0 rfl rfl h dX1_surveyPond_67 (fun v8 h => ?_)
              refine lv_istore (lv' := [(5, .int v8), (0, .ref (g 1)), (1, .int x1), (2, .int x2), (3, .int x3_48), (4, .int x4_48)]) hx hb dX1_surveyPond_68 hl (by decide) rfl (fun ls hl => ?_)
              refine lv_aload_n hx hb dX1_surveyPond_70 rfl (lv_at hl 1 rfl) ?_
              refine va_get (D := D) (ci := 1) (v := .ref (g 13)) (C := RX1) (T := TX1) (N := 9) hx hb hts iX1_ hown hK hw.1 1 rfl rfl 5 (by decide) w0_ (fun _ h9 => h9) rfl dX1_surveyPond_71 ?_
              refine lv_iload_n hx hb dX1_surveyPond_74 rfl (lv_at hl 2 rfl) ?_
              refine lv_dup2_11 hx hb dX1_surveyPond_75 rfl rfl ?_
              refine mg_ald (σ := s48_) (k := 13) (n := 70) hx hb hK hw 13 0 rfl rfl h dX1_surveyPond_76 (fun v9 h => ?_)
              refine lv_iconst (v := 1) hx hb dX1_surveyPond_77 (by decide) ?_
              refine lv_iadd hx hb dX1_surveyPond_78 ?_
              refine mg_ast (wd := mg_cW g cI cZ) (σ := s48_) (k := 13) (n := 70) hx hb hK hw 13 0 rfl (mg_cS_13 g cI cZ s48_) rfl h dX1_surveyPond_79 (fun s10 h H locs hw => ?_)
              refine lv_aload_n hx hb dX1_surveyPond_80 rfl (lv_at hl 1 rfl) ?_
              refine va_get (D := D) (ci := 1) (v := .ref (g 14)) (C := RX1) (T := TX1) (N := 9) hx hb hts iX1_ hown hK hw.1 1 rfl rfl 6 (by decide) w2_ (fun _ h9 => h9) rfl dX1_surveyPond_81 ?_
              refine lv_iload_n hx hb dX1_surveyPond_84 rfl (lv_at hl 2 rfl) ?_
              refine lv_dup2_11 hx hb dX1_surveyPond_85 rfl rfl ?_
              refine mg_ald (σ := s10) (k := 14) (n := 70) hx hb hK hw 14 0 rfl rfl h dX1_surveyPond_86 (fun v11 h => ?_)
              refine lv_iload hx hb dX1_surveyPond_87 (lv_at hl 0 rfl) ?_
              obtain ⟨y12, h9_, h⟩ := mg_bind h
              refine mg_k (rv := (some (.int y12))) (va_runS (As := [.int v8]) (rest := [.int v11, .int x1, .ref (g 14)]) G9 (k_X1_isPlace l D o cI cZ g H.size s10 v8 y12 h9_) (va_cwS 1 hts gX1_surveyPond_X1_isPlace rfl rfl rfl (by decide +kernel) ⟨Nat.le_of_ble_eq_true rfl, Nat.le_of_ble_eq_true rfl⟩) (mg_pre hK hO hA hw) rfl rfl hl.1 rfl (lv_room (Nat.le_of_ble_eq_true rfl)) dX1_surveyPond_89 ⟨Nat.zero_le _, Nat.zero_le _⟩) hw hA (fun H locs hw => ?_)
              clear h9_
              obtain ⟨y13, h9_, h⟩ := mg_bind h
              have J92_ : ∀ (H : Heap) (locs : List Loc) (ls : Array Slot), mg_Wo D A s.heap H locs (mg_cW g cI cZ s10) → lv_has ls 6 [(0, .ref (g 1)), (1, .int x1), (2, .int x2), (3, .int x3_48), (4, .int x4_48), (5, .int v8)] → W p l e (headSpec wsX1_surveyPond ({ frames := 3, cells := 0, slots := 0, locals := 71 } : Room)).room s m ([.ref (g 1), .int x1, .int x2] : List Value).toArray below meth c H locs 0 0 (MQ below (mg_Q D (mg_cW g cI cZ y) A none) ([.ref (g 1), .int x1, .int x2] : List Value).toArray s 0 0 A) (F0 m 106 ls [.int y13, .int v11, .int x1, .ref (g 14)]) := by
                intro H locs ls hw hl
                clear h9_
                refine lv_iadd hx hb dX1_surveyPond_106 ?_
                refine mg_ast (wd := mg_cW g cI cZ) (σ := s10) (k := 14) (n := 70) hx hb hK hw 14 0 rfl (mg_cS_14 g cI cZ s10) rfl h dX1_surveyPond_107 (fun s15 h H locs hw => ?_)
                refine lv_aload_n hx hb dX1_surveyPond_108 rfl (lv_at hl 0 rfl) ?_
                refine lv_iload hx hb dX1_surveyPond_109 (lv_at hl 5 rfl) ?_
                refine lv_iload_n hx hb dX1_surveyPond_111 rfl (lv_at hl 1 rfl) ?_
                refine lv_iload_n hx hb dX1_surveyPond_112 rfl (lv_at hl 3 rfl) ?_
                obtain ⟨y16, h9_, h⟩ := mg_bind h
                refine mg_k (rv := (some (.int y16.1))) (va_runV (As := [.int v8, .int x1, .int x3_48]) (rest := []) G9 (k_X1_reachOnFrom l D o cI cZ g H.size s15 v8 x1 x3_48 y16 h9_) (cwV 3 hts gX1_surveyPond_X1_reachOnFrom rfl rfl rfl (by decide +kernel) ⟨Nat.le_of_ble_eq_true rfl, Nat.le_of_ble_eq_true rfl⟩) (mg_preV hK hO hA hw (q0 := 1) rfl rfl) rfl rfl hl.1 rfl (lv_room (Nat.le_of_ble_eq_true rfl)) dX1_surveyPond_113 ⟨Nat.zero_le _, Nat.zero_le _⟩) hw hA (fun H locs hw => ?_)
                clear h9_
                refine lv_istore_n (lv' := [(3, .int y16.1), (0, .ref (g 1)), (1, .int x1), (2, .int x2), (4, .int x4_48), (5, .int v8)]) hx hb dX1_surveyPond_116 rfl hl (by decide) rfl (fun ls hl => ?_)
                refine lv_iinc (v := (x4_48 + 1)) (lv' := [(4, .int (x4_48 + 1)), (3, .int y16.1), (0, .ref (g 1)), (1, .int x1), (2, .int x2), (5, .int v8)]) hx hb dX1_surveyPond_117 hl (k := 4) rfl rfl (by decide) rfl (fun ls hl => ?_)
                refine lv_goto (tgt := 48) hx hb dX1_surveyPond_120 (by decide) ?_
                exact ih _ _ _ _ h kc H locs ls hw (lv_sub hl [2, 3, 4, 1, 0] rfl)
              clear h
              have h := h9_
              clear h9_
              refine mg_if_eq (tgt := 105) hx hb h dX1_surveyPond_92 (by decide) (fun h => ?_) (fun h => ?_)
              · refine lv_iconst (v := 0) hx hb dX1_surveyPond_105 (by decide) ?_
                cases h
                exact J92_ H locs ls hw (lv_sub hl [1, 2, 3, 4, 5, 0] rfl)
              · refine lv_aload_n hx hb dX1_surveyPond_95 rfl (lv_at hl 1 rfl) ?_
                refine va_get (D := D) (ci := 1) (v := .ref (g 11)) (C := RX1) (T := TX1) (N := 9) hx hb hts iX1_ hown hK hw.1 1 rfl rfl 3 (by decide) w5_ (fun _ h9 => h9) rfl dX1_surveyPond_96 ?_
                refine lv_iload hx hb dX1_surveyPond_99 (lv_at hl 0 rfl) ?_
                refine mg_ald (σ := s10) (k := 11) (n := 70) hx hb hK hw 11 0 rfl rfl h dX1_surveyPond_101 (fun v14 h => ?_)
                refine lv_goto (tgt := 106) hx hb dX1_surveyPond_102 (by decide) ?_
                cases h
                exact J92_ H locs ls hw (lv_sub hl [1, 2, 3, 4, 5, 0] rfl)
      obtain ⟨y7, h9_, h⟩ := mg_bind h
      refine L48_ _ _ _ _ _ h9_ (fun H locs ls hw hl => ?_) H locs ls hw (lv_sub hl [2, 3, 4, 1, 0] rfl)
      clear L48_ h9_
      cases h
      exact mg_eV hx hb hr hlocks hw (Nat.zero_le _) (Nat.zero_le _) dX1_surveyPond_123
    · cases h
      exact mg_eV hx hb hr hlocks hw (Nat.zero_le _) (Nat.zero_le _) dX1_surveyPond_14
set_option maxHeartbeats 4000000 in
set_option maxRecDepth 100000 in
theorem k_X1_surveyPonds (l : Launch) (D : va_G) (o : Nat → Nat) (cI cZ : ClassId) (g : Nat → Nat) (sz : Nat) (σ : mg_St)  (y : mg_St) (h : f_X1_surveyPonds σ  = some y) : mg_CT l yX1_surveyPonds wsX1_surveyPonds ({ frames := 4, cells := 0, slots := 0, locals := 96 } : Room) D [(cI, .int), (cZ, .boolean)] o (mg_cW g cI cZ σ) sz [.ref (g 1)] none (mg_cW g cI cZ y) 0 0 := by
  unfold mg_CT
  refine Met.ofW (cc := cX1_surveyPonds) (maxL := 2) (ret := none) (by decide) rfl ?_
  intro p e s m args below meth c s₁ B hml hv
  obtain ⟨rfl, hsz, hP, hK, hD0, hO⟩ := hv
  have hx := B.exec
  have hb := B.bytes
  have hr := B.returns
  have hts := atoms_spec (ws := wsX1_surveyPonds) B.pre
  have hown : s.vm.findClass RX1 = some m.cls := findClass_of_methodNamed B.named
  have hlocks := B.notSynchronized
  subst hsz
  have hD := hD0.self (sz := s.heap.size)
  generalize hAe : va_A (mg_cW g cI cZ σ) s.heap.size = A at hD hO ⊢
  have hA : ∀ q : Nat, s.heap.size ≤ q → A q := fun q h => by rw [← hAe]; exact Or.inr h
  have hw : mg_Wo D A s.heap s.heap [] (mg_cW g cI cZ σ) := ⟨hP, hD, va_S.rf⟩
  have G9 : CallFix p m c cX1_surveyPonds 2 s ([.ref (g 1)] : List Value).toArray wsX1_surveyPonds RX1 := ⟨hx, hb, hml, hown, hts⟩
  clear hP hD hD0 hAe
  obtain ⟨H, hHe⟩ : ∃ H : Heap, H = s.heap := ⟨_, rfl⟩
  have w0_ := hts (.fieldLink RX1 24 "MoonGate$Garden" "pondOf" "[I") (by decide +kernel)
  have iX1_ : ∀ w ∈ wsX10, w ∈ wsX1_surveyPonds := (fun _ h => List.mem_cons_of_mem _ (List.mem_append_right _ h))
  have w2_ := hts (.fieldLink RX1 36 "MoonGate$Garden" "ponds" "I") (by decide +kernel)
  have hl := lv_entry ([.ref (g 1)]) (n := 2) (Nat.le_of_ble_eq_true rfl)
  rw [lg_entry_eq]
  generalize (lg_sl ([.ref (g 1)]) ++ List.replicate (2 - (lg_sl ([.ref (g 1)])).length) Slot.unset).toArray = ls at hl ⊢
  have hl : lv_has ls 2 [(0, .ref (g 1))] := hl
  unfold f_X1_surveyPonds at h
  revert hw
  intro hw
  suffices K_ : ∀ (H : Heap) (locs : List Loc), mg_Wo D A s.heap H locs (mg_cW g cI cZ σ) → W p l e (headSpec wsX1_surveyPonds ({ frames := 4, cells := 0, slots := 0, locals := 96 } : Room)).room s m ([.ref (g 1)] : List Value).toArray below meth c H locs 0 0 (MQ below (mg_Q D (mg_cW g cI cZ y) A none) ([.ref (g 1)] : List Value).toArray s 0 0 A) (F0 m 0 ls []) from K_ _ _ hw
  clear hw hHe H
  intro H locs hw
  refine lv_iconst (v := 0) hx hb dX1_surveyPonds_0 (by decide) ?_
  refine lv_istore_n (lv' := [(1, .int 0), (0, .ref (g 1))]) hx hb dX1_surveyPonds_1 rfl hl (by decide) rfl (fun ls hl => ?_)
  have L2_ : ∀ (n : Nat) (x1_2 : Int32) (s2_ : mg_St) (y2_ : Int32 × mg_St), f_X1_surveyPonds_2  n x1_2 s2_ = some y2_ → (∀ (H : Heap) (locs : List Loc) (ls : Array Slot), mg_Wo D A s.heap H locs (mg_cW g cI cZ y2_.2) → lv_has ls 2 [(0, .ref (g 1)), (1, .int y2_.1)] → W p l e (headSpec wsX1_surveyPonds ({ frames := 4, cells := 0, slots := 0, locals := 96 } : Room)).room s m ([.ref (g 1)] : List Value).toArray below meth c H locs 0 0 (MQ below (mg_Q D (mg_cW g cI cZ y) A none) ([.ref (g 1)] : List Value).toArray s 0 0 A) (F0 m 21 ls [])) → ∀ (H : Heap) (locs : List Loc) (ls : Array Slot), mg_Wo D A s.heap H locs (mg_cW g cI cZ s2_) → lv_has ls 2 [(0, .ref (g 1)), (1, .int x1_2)] → W p l e (headSpec wsX1_surveyPonds ({ frames := 4, cells := 0, slots := 0, locals := 96 } : Room)).room s m ([.ref (g 1)] : List Value).toArray below meth c H locs 0 0 (MQ below (mg_Q D (mg_cW g cI cZ y) A none) ([.ref (g 1)] : List Value).toArray s 0 0 A) (F0 m 2 ls []) := by
    intro n
    induction n with
    | zero => intro x1_2 s2_ y2_ h; rw [f_X1_surveyPonds_2] at h; cases h
    | succ n ih =>
      intro x1_2 s2_ y2_ h kc H locs ls hw hl
      rw [f_X1_surveyPonds_2] at h
      refine lv_iload_n hx hb dX1_surveyPonds_2 rfl (lv_at hl 1 rfl) ?_
      refine lv_bipush (v := 70) hx hb dX1_surveyPonds_3 (by decide) ?_
      refine mg_icmp_ge (tgt := 21) hx hb h dX1_surveyPonds_5 (by decide) (fun h => ?_) (fun h => ?_)
      · cases h
        exact kc H locs ls hw (lv_sub hl [0, 1] rfl)
      · refine lv_aload_n hx hb dX1_surveyPonds_8 rfl (lv_at hl 0 rfl) ?_
        refine va_get (D := D) (ci := 1) (v := .ref (g 12)) (C := RX1) (T := TX1) (N := 9) hx hb hts iX1_ hown hK hw.1 1 rfl rfl 4 (by decide) w0_ (fun _ h9 => h9) rfl dX1_surveyPonds_9 ?_
        refine lv_iload_n hx hb dX1_surveyPonds_12 rfl (lv_at hl 1 rfl) ?_
        refine lv_iconst (v := (-1)) hx hb dX1_surveyPonds_13 (by decide) ?_
        refine mg_ast (wd := mg_cW g cI cZ) (σ := s2_) (k := 12) (n := 70) hx hb hK hw 12 0 rfl (mg_cS_12 g cI cZ s2_) rfl h dX1_surveyPonds_14 (fun s2 h H locs hw => ?_)
        refine lv_iinc (v := (x1_2 + 1)) (lv' := [(1, .int (x1_2 + 1)), (0, .ref (g 1))]) hx hb dX1_surveyPonds_15 hl (k := 1) rfl rfl (by decide) rfl (fun ls hl => ?_)
        refine lv_goto (tgt := 2) hx hb dX1_surveyPonds_18 (by decide) ?_
        exact ih _ _ _ h kc H locs ls hw (lv_sub hl [1, 0] rfl)
  obtain ⟨y1, h9_, h⟩ := mg_bind h
  refine L2_ _ _ _ _ h9_ (fun H locs ls hw hl => ?_) H locs ls hw (lv_sub hl [1, 0] rfl)
  clear L2_ h9_
  refine lv_aload_n hx hb dX1_surveyPonds_21 rfl (lv_at hl 0 rfl) ?_
  refine lv_iconst (v := 0) hx hb dX1_surveyPonds_22 (by decide) ?_
  refine mg_put (wd := mg_cW g cI cZ) (σ := y1.2) (v := 0) (ci := 1) (C := RX1) (T := TX1) (N := 9) hx hb hts iX1_ tyX1 tyX1_ok nmX1 hown hK hw 1 1 rfl rfl 8 (by decide) w2_ (fun _ h9 => h9) rfl (by decide +kernel) (Nat.le_of_ble_eq_true rfl) rfl dX1_surveyPonds_23 (fun H locs hw => ?_)
  refine lv_iconst (v := 0) hx hb dX1_surveyPonds_26 (by decide) ?_
  refine lv_istore_n (lv' := [(1, .int 0), (0, .ref (g 1))]) hx hb dX1_surveyPonds_27 rfl hl (by decide) rfl (fun ls hl => ?_)
  have L28_ : ∀ (n : Nat) (x1_28 : Int32) (s28_ : mg_St) (y28_ : Int32 × mg_St), f_X1_surveyPonds_28  n x1_28 s28_ = some y28_ → (∀ (H : Heap) (locs : List Loc) (ls : Array Slot), mg_Wo D A s.heap H locs (mg_cW g cI cZ y28_.2) → lv_has ls 2 [(0, .ref (g 1)), (1, .int y28_.1)] → W p l e (headSpec wsX1_surveyPonds ({ frames := 4, cells := 0, slots := 0, locals := 96 } : Room)).room s m ([.ref (g 1)] : List Value).toArray below meth c H locs 0 0 (MQ below (mg_Q D (mg_cW g cI cZ y) A none) ([.ref (g 1)] : List Value).toArray s 0 0 A) (F0 m 67 ls [])) → ∀ (H : Heap) (locs : List Loc) (ls : Array Slot), mg_Wo D A s.heap H locs (mg_cW g cI cZ s28_) → lv_has ls 2 [(0, .ref (g 1)), (1, .int x1_28)] → W p l e (headSpec wsX1_surveyPonds ({ frames := 4, cells := 0, slots := 0, locals := 96 } : Room)).room s m ([.ref (g 1)] : List Value).toArray below meth c H locs 0 0 (MQ below (mg_Q D (mg_cW g cI cZ y) A none) ([.ref (g 1)] : List Value).toArray s 0 0 A) (F0 m 28 ls []) := by
    intro n
    induction n with
    | zero => intro x1_28 s28_ y28_ h; rw [f_X1_surveyPonds_28] at h; cases h
    | succ n ih =>
      intro x1_28 s28_ y28_ h kc H locs ls hw hl
      rw [f_X1_surveyPonds_28] at h
      refine lv_iload_n hx hb dX1_surveyPonds_28 rfl (lv_at hl 1 rfl) ?_
      refine lv_bipush (v := 70) hx hb dX1_surveyPonds_29 (by decide) ?_
      refine mg_icmp_ge (tgt := 67) hx hb h dX1_surveyPonds_31 (by decide) (fun h => ?_) (fun h => ?_)
      · cases h
        exact kc H locs ls hw (lv_sub hl [0, 1] rfl)
      · refine lv_aload_n hx hb dX1_surveyPonds_34 rfl (lv_at hl 0 rfl) ?_
        refine lv_iload_n hx hb dX1_surveyPonds_35 rfl (lv_at hl 1 rfl) ?_
        obtain ⟨y4, h9_, h⟩ := mg_bind h
        refine mg_k (rv := (some (.int y4))) (va_runV (As := [.int x1_28]) (rest := []) G9 (k_X1_isUnknownPond l D o cI cZ g H.size s28_ x1_28 y4 h9_) (cwV 1 hts gX1_surveyPonds_X1_isUnknownPond rfl rfl rfl (by decide +kernel) ⟨Nat.le_of_ble_eq_true rfl, Nat.le_of_ble_eq_true rfl⟩) (mg_preV hK hO hA hw (q0 := 1) rfl rfl) rfl rfl hl.1 rfl (lv_room (Nat.le_of_ble_eq_true rfl)) dX1_surveyPonds_36 ⟨Nat.zero_le _, Nat.zero_le _⟩) hw hA (fun H locs hw => ?_)
        clear h9_
        refine mg_if_eq (tgt := 61) hx hb h dX1_surveyPonds_39 (by decide) (fun h => ?_) (fun h => ?_)
        · refine lv_iinc (v := (x1_28 + 1)) (lv' := [(1, .int (x1_28 + 1)), (0, .ref (g 1))]) hx hb dX1_surveyPonds_61 hl (k := 1) rfl rfl (by decide) rfl (fun ls hl => ?_)
          refine lv_goto (tgt := 28) hx hb dX1_surveyPonds_64 (by decide) ?_
          exact ih _ _ _ h kc H locs ls hw (lv_sub hl [1, 0] rfl)
        · refine lv_aload_n hx hb dX1_surveyPonds_42 rfl (lv_at hl 0 rfl) ?_
          refine lv_aload_n hx hb dX1_surveyPonds_43 rfl (lv_at hl 0 rfl) ?_
          refine va_get (D := D) (ci := 1) (v := .int (s28_ 1 8)) (C := RX1) (T := TX1) (N := 9) hx hb hts iX1_ hown hK hw.1 1 rfl rfl 8 (by decide) w2_ (fun _ h9 => h9) rfl dX1_surveyPonds_44 ?_
          refine lv_iload_n hx hb dX1_surveyPonds_47 rfl (lv_at hl 1 rfl) ?_
          obtain ⟨y5, h9_, h⟩ := mg_bind h
          refine mg_k (rv := none) (va_runV (As := [.int (s28_ 1 8), .int x1_28]) (rest := []) G9 (k_X1_surveyPond l D o cI cZ g H.size s28_ (s28_ 1 8) x1_28 y5 h9_) (cwV 2 hts gX1_surveyPonds_X1_surveyPond rfl rfl rfl (by decide +kernel) ⟨Nat.le_of_ble_eq_true rfl, Nat.le_of_ble_eq_true rfl⟩) (mg_preV hK hO hA hw (q0 := 1) rfl rfl) rfl rfl hl.1 rfl (lv_room (Nat.le_of_ble_eq_true rfl)) dX1_surveyPonds_48 ⟨Nat.zero_le _, Nat.zero_le _⟩) hw hA (fun H locs hw => ?_)
          clear h9_
          refine lv_aload_n hx hb dX1_surveyPonds_51 rfl (lv_at hl 0 rfl) ?_
          refine lv_dup hx hb dX1_surveyPonds_52 rfl ?_
          refine va_get (D := D) (ci := 1) (v := .int (y5 1 8)) (C := RX1) (T := TX1) (N := 9) hx hb hts iX1_ hown hK hw.1 1 rfl rfl 8 (by decide) w2_ (fun _ h9 => h9) rfl dX1_surveyPonds_53 ?_
          refine lv_iconst (v := 1) hx hb dX1_surveyPonds_56 (by decide) ?_
          refine lv_iadd hx hb dX1_surveyPonds_57 ?_
          refine mg_put (wd := mg_cW g cI cZ) (σ := y5) (v := ((y5 1 8) + 1)) (ci := 1) (C := RX1) (T := TX1) (N := 9) hx hb hts iX1_ tyX1 tyX1_ok nmX1 hown hK hw 1 1 rfl rfl 8 (by decide) w2_ (fun _ h9 => h9) rfl (by decide +kernel) (Nat.le_of_ble_eq_true rfl) rfl dX1_surveyPonds_58 (fun H locs hw => ?_)
          refine lv_iinc (v := (x1_28 + 1)) (lv' := [(1, .int (x1_28 + 1)), (0, .ref (g 1))]) hx hb dX1_surveyPonds_61 hl (k := 1) rfl rfl (by decide) rfl (fun ls hl => ?_)
          refine lv_goto (tgt := 28) hx hb dX1_surveyPonds_64 (by decide) ?_
          exact ih _ _ _ h kc H locs ls hw (lv_sub hl [1, 0] rfl)
  obtain ⟨y3, h9_, h⟩ := mg_bind h
  refine L28_ _ _ _ _ h9_ (fun H locs ls hw hl => ?_) H locs ls hw (lv_sub hl [1, 0] rfl)
  clear L28_ h9_
  cases h
  exact mg_eV hx hb hr hlocks hw (Nat.zero_le _) (Nat.zero_le _) dX1_surveyPonds_67
set_option maxHeartbeats 4000000 in
set_option maxRecDepth 100000 in
theorem k_X1_setPond (l : Launch) (D : va_G) (o : Nat → Nat) (cI cZ : ClassId) (g : Nat → Nat) (sz : Nat) (σ : mg_St) (x1 : Int32) (y : mg_St) (h : f_X1_setPond σ x1 = some y) : mg_CT l yX1_setPond wsX1_setPond ({ frames := 5, cells := 0, slots := 0, locals := 117 } : Room) D [(cI, .int), (cZ, .boolean)] o (mg_cW g cI cZ σ) sz [.ref (g 1), .int x1] none (mg_cW g cI cZ y) 0 0 := by
  unfold mg_CT
  refine Met.ofW (cc := cX1_setPond) (maxL := 2) (ret := none) (by decide) rfl ?_
  intro p e s m args below meth c s₁ B hml hv
  obtain ⟨rfl, hsz, hP, hK, hD0, hO⟩ := hv
  have hx := B.exec
  have hb := B.bytes
  have hr := B.returns
  have hts := atoms_spec (ws := wsX1_setPond) B.pre
  have hown : s.vm.findClass RX1 = some m.cls := findClass_of_methodNamed B.named
  have hlocks := B.notSynchronized
  subst hsz
  have hD := hD0.self (sz := s.heap.size)
  generalize hAe : va_A (mg_cW g cI cZ σ) s.heap.size = A at hD hO ⊢
  have hA : ∀ q : Nat, s.heap.size ≤ q → A q := fun q h => by rw [← hAe]; exact Or.inr h
  have hw : mg_Wo D A s.heap s.heap [] (mg_cW g cI cZ σ) := ⟨hP, hD, va_S.rf⟩
  have G9 : CallFix p m c cX1_setPond 2 s ([.ref (g 1), .int x1] : List Value).toArray wsX1_setPond RX1 := ⟨hx, hb, hml, hown, hts⟩
  clear hP hD hD0 hAe
  obtain ⟨H, hHe⟩ : ∃ H : Heap, H = s.heap := ⟨_, rfl⟩
  have hl := lv_entry ([.ref (g 1), .int x1]) (n := 2) (Nat.le_of_ble_eq_true rfl)
  rw [lg_entry_eq]
  generalize (lg_sl ([.ref (g 1), .int x1]) ++ List.replicate (2 - (lg_sl ([.ref (g 1), .int x1])).length) Slot.unset).toArray = ls at hl ⊢
  have hl : lv_has ls 2 [(0, .ref (g 1)), (1, .int x1)] := hl
  unfold f_X1_setPond at h
  revert hw
  intro hw
  suffices K_ : ∀ (H : Heap) (locs : List Loc), mg_Wo D A s.heap H locs (mg_cW g cI cZ σ) → W p l e (headSpec wsX1_setPond ({ frames := 5, cells := 0, slots := 0, locals := 117 } : Room)).room s m ([.ref (g 1), .int x1] : List Value).toArray below meth c H locs 0 0 (MQ below (mg_Q D (mg_cW g cI cZ y) A none) ([.ref (g 1), .int x1] : List Value).toArray s 0 0 A) (F0 m 0 ls []) from K_ _ _ hw
  clear hw hHe H
  intro H locs hw
  refine lv_aload_n hx hb dX1_setPond_0 rfl (lv_at hl 0 rfl) ?_
  refine lv_iload_n hx hb dX1_setPond_1 rfl (lv_at hl 1 rfl) ?_
  refine lv_iconst (v := 2) hx hb dX1_setPond_2 (by decide) ?_
  refine lv_iconst (v := (-1)) hx hb dX1_setPond_3 (by decide) ?_
  refine lv_iconst (v := 0) hx hb dX1_setPond_4 (by decide) ?_
  obtain ⟨y1, h9_, h⟩ := mg_bind h
  refine mg_k (rv := none) (va_runV (As := [.int x1, .int 2, .int (-1), .int 0]) (rest := []) G9 (k_X1_setCell l D o cI cZ g H.size σ x1 2 (-1) 0 y1 h9_) (cwV 4 hts gX1_setPond_X1_setCell rfl rfl rfl (by decide +kernel) ⟨Nat.le_of_ble_eq_true rfl, Nat.le_of_ble_eq_true rfl⟩) (mg_preV hK hO hA hw (q0 := 1) rfl rfl) rfl rfl hl.1 rfl (lv_room (Nat.le_of_ble_eq_true rfl)) dX1_setPond_5 ⟨Nat.zero_le _, Nat.zero_le _⟩) hw hA (fun H locs hw => ?_)
  clear h9_
  refine lv_aload_n hx hb dX1_setPond_8 rfl (lv_at hl 0 rfl) ?_
  obtain ⟨y2, h9_, h⟩ := mg_bind h
  refine mg_k (rv := none) (va_runV (As := []) (rest := []) G9 (k_X1_surveyPonds l D o cI cZ g H.size y1  y2 h9_) (cwV 0 hts gX1_setPond_X1_surveyPonds rfl rfl rfl (by decide +kernel) ⟨Nat.le_of_ble_eq_true rfl, Nat.le_of_ble_eq_true rfl⟩) (mg_preV hK hO hA hw (q0 := 1) rfl rfl) rfl rfl hl.1 rfl (lv_room (Nat.le_of_ble_eq_true rfl)) dX1_setPond_9 ⟨Nat.zero_le _, Nat.zero_le _⟩) hw hA (fun H locs hw => ?_)
  clear h9_
  cases h
  exact mg_eV hx hb hr hlocks hw (Nat.zero_le _) (Nat.zero_le _) dX1_setPond_12
set_option maxHeartbeats 4000000 in
set_option maxRecDepth 100000 in
theorem k_X1_setWall (l : Launch) (D : va_G) (o : Nat → Nat) (cI cZ : ClassId) (g : Nat → Nat) (sz : Nat) (σ : mg_St) (x1 : Int32) (y : mg_St) (h : f_X1_setWall σ x1 = some y) : mg_CT l yX1_setWall wsX1_setWall ({ frames := 2, cells := 0, slots := 0, locals := 44 } : Room) D [(cI, .int), (cZ, .boolean)] o (mg_cW g cI cZ σ) sz [.ref (g 1), .int x1] none (mg_cW g cI cZ y) 0 0 := by
  unfold mg_CT
  refine Met.ofW (cc := cX1_setWall) (maxL := 2) (ret := none) (by decide) rfl ?_
  intro p e s m args below meth c s₁ B hml hv
  obtain ⟨rfl, hsz, hP, hK, hD0, hO⟩ := hv
  have hx := B.exec
  have hb := B.bytes
  have hr := B.returns
  have hts := atoms_spec (ws := wsX1_setWall) B.pre
  have hown : s.vm.findClass RX1 = some m.cls := findClass_of_methodNamed B.named
  have hlocks := B.notSynchronized
  subst hsz
  have hD := hD0.self (sz := s.heap.size)
  generalize hAe : va_A (mg_cW g cI cZ σ) s.heap.size = A at hD hO ⊢
  have hA : ∀ q : Nat, s.heap.size ≤ q → A q := fun q h => by rw [← hAe]; exact Or.inr h
  have hw : mg_Wo D A s.heap s.heap [] (mg_cW g cI cZ σ) := ⟨hP, hD, va_S.rf⟩
  have G9 : CallFix p m c cX1_setWall 2 s ([.ref (g 1), .int x1] : List Value).toArray wsX1_setWall RX1 := ⟨hx, hb, hml, hown, hts⟩
  clear hP hD hD0 hAe
  obtain ⟨H, hHe⟩ : ∃ H : Heap, H = s.heap := ⟨_, rfl⟩
  have hl := lv_entry ([.ref (g 1), .int x1]) (n := 2) (Nat.le_of_ble_eq_true rfl)
  rw [lg_entry_eq]
  generalize (lg_sl ([.ref (g 1), .int x1]) ++ List.replicate (2 - (lg_sl ([.ref (g 1), .int x1])).length) Slot.unset).toArray = ls at hl ⊢
  have hl : lv_has ls 2 [(0, .ref (g 1)), (1, .int x1)] := hl
  unfold f_X1_setWall at h
  revert hw
  intro hw
  suffices K_ : ∀ (H : Heap) (locs : List Loc), mg_Wo D A s.heap H locs (mg_cW g cI cZ σ) → W p l e (headSpec wsX1_setWall ({ frames := 2, cells := 0, slots := 0, locals := 44 } : Room)).room s m ([.ref (g 1), .int x1] : List Value).toArray below meth c H locs 0 0 (MQ below (mg_Q D (mg_cW g cI cZ y) A none) ([.ref (g 1), .int x1] : List Value).toArray s 0 0 A) (F0 m 0 ls []) from K_ _ _ hw
  clear hw hHe H
  intro H locs hw
  refine lv_aload_n hx hb dX1_setWall_0 rfl (lv_at hl 0 rfl) ?_
  refine lv_iload_n hx hb dX1_setWall_1 rfl (lv_at hl 1 rfl) ?_
  refine lv_iconst (v := 3) hx hb dX1_setWall_2 (by decide) ?_
  refine lv_iconst (v := (-1)) hx hb dX1_setWall_3 (by decide) ?_
  refine lv_iconst (v := 0) hx hb dX1_setWall_4 (by decide) ?_
  obtain ⟨y1, h9_, h⟩ := mg_bind h
  refine mg_k (rv := none) (va_runV (As := [.int x1, .int 3, .int (-1), .int 0]) (rest := []) G9 (k_X1_setCell l D o cI cZ g H.size σ x1 3 (-1) 0 y1 h9_) (cwV 4 hts gX1_setWall_X1_setCell rfl rfl rfl (by decide +kernel) ⟨Nat.le_of_ble_eq_true rfl, Nat.le_of_ble_eq_true rfl⟩) (mg_preV hK hO hA hw (q0 := 1) rfl rfl) rfl rfl hl.1 rfl (lv_room (Nat.le_of_ble_eq_true rfl)) dX1_setWall_5 ⟨Nat.zero_le _, Nat.zero_le _⟩) hw hA (fun H locs hw => ?_)
  clear h9_
  cases h
  exact mg_eV hx hb hr hlocks hw (Nat.zero_le _) (Nat.zero_le _) dX1_setWall_8
set_option maxHeartbeats 4000000 in
set_option maxRecDepth 100000 in
theorem k_X1_setBare (l : Launch) (D : va_G) (o : Nat → Nat) (cI cZ : ClassId) (g : Nat → Nat) (sz : Nat) (σ : mg_St) (x1 : Int32) (y : mg_St) (h : f_X1_setBare σ x1 = some y) : mg_CT l yX1_setBare wsX1_setBare ({ frames := 5, cells := 0, slots := 0, locals := 117 } : Room) D [(cI, .int), (cZ, .boolean)] o (mg_cW g cI cZ σ) sz [.ref (g 1), .int x1] none (mg_cW g cI cZ y) 0 0 := by
  unfold mg_CT
  refine Met.ofW (cc := cX1_setBare) (maxL := 3) (ret := none) (by decide) rfl ?_
  intro p e s m args below meth c s₁ B hml hv
  obtain ⟨rfl, hsz, hP, hK, hD0, hO⟩ := hv
  have hx := B.exec
  have hb := B.bytes
  have hr := B.returns
  have hts := atoms_spec (ws := wsX1_setBare) B.pre
  have hown : s.vm.findClass RX1 = some m.cls := findClass_of_methodNamed B.named
  have hlocks := B.notSynchronized
  subst hsz
  have hD := hD0.self (sz := s.heap.size)
  generalize hAe : va_A (mg_cW g cI cZ σ) s.heap.size = A at hD hO ⊢
  have hA : ∀ q : Nat, s.heap.size ≤ q → A q := fun q h => by rw [← hAe]; exact Or.inr h
  have hw : mg_Wo D A s.heap s.heap [] (mg_cW g cI cZ σ) := ⟨hP, hD, va_S.rf⟩
  have G9 : CallFix p m c cX1_setBare 3 s ([.ref (g 1), .int x1] : List Value).toArray wsX1_setBare RX1 := ⟨hx, hb, hml, hown, hts⟩
  clear hP hD hD0 hAe
  obtain ⟨H, hHe⟩ : ∃ H : Heap, H = s.heap := ⟨_, rfl⟩
  have hl := lv_entry ([.ref (g 1), .int x1]) (n := 3) (Nat.le_of_ble_eq_true rfl)
  rw [lg_entry_eq]
  generalize (lg_sl ([.ref (g 1), .int x1]) ++ List.replicate (3 - (lg_sl ([.ref (g 1), .int x1])).length) Slot.unset).toArray = ls at hl ⊢
  have hl : lv_has ls 3 [(0, .ref (g 1)), (1, .int x1)] := hl
  unfold f_X1_setBare at h
  revert hw
  intro hw
  suffices K_ : ∀ (H : Heap) (locs : List Loc), mg_Wo D A s.heap H locs (mg_cW g cI cZ σ) → W p l e (headSpec wsX1_setBare ({ frames := 5, cells := 0, slots := 0, locals := 117 } : Room)).room s m ([.ref (g 1), .int x1] : List Value).toArray below meth c H locs 0 0 (MQ below (mg_Q D (mg_cW g cI cZ y) A none) ([.ref (g 1), .int x1] : List Value).toArray s 0 0 A) (F0 m 0 ls []) from K_ _ _ hw
  clear hw hHe H
  intro H locs hw
  refine lv_aload_n hx hb dX1_setBare_0 rfl (lv_at hl 0 rfl) ?_
  refine lv_iload_n hx hb dX1_setBare_1 rfl (lv_at hl 1 rfl) ?_
  obtain ⟨y1, h9_, h⟩ := mg_bind h
  refine mg_k (rv := (some (.int y1))) (va_runV (As := [.int x1]) (rest := []) G9 (k_X1_isPond l D o cI cZ g H.size σ x1 y1 h9_) (cwV 1 hts gX1_setBare_X1_isPond rfl rfl rfl (by decide +kernel) ⟨Nat.le_of_ble_eq_true rfl, Nat.le_of_ble_eq_true rfl⟩) (mg_preV hK hO hA hw (q0 := 1) rfl rfl) rfl rfl hl.1 rfl (lv_room (Nat.le_of_ble_eq_true rfl)) dX1_setBare_2 ⟨Nat.zero_le _, Nat.zero_le _⟩) hw hA (fun H locs hw => ?_)
  clear h9_
  refine lv_istore_n (lv' := [(2, .int y1), (0, .ref (g 1)), (1, .int x1)]) hx hb dX1_setBare_5 rfl hl (by decide) rfl (fun ls hl => ?_)
  refine lv_aload_n hx hb dX1_setBare_6 rfl (lv_at hl 1 rfl) ?_
  refine lv_iload_n hx hb dX1_setBare_7 rfl (lv_at hl 2 rfl) ?_
  refine lv_iconst (v := 0) hx hb dX1_setBare_8 (by decide) ?_
  refine lv_iconst (v := (-1)) hx hb dX1_setBare_9 (by decide) ?_
  refine lv_iconst (v := 0) hx hb dX1_setBare_10 (by decide) ?_
  obtain ⟨y2, h9_, h⟩ := mg_bind h
  refine mg_k (rv := none) (va_runV (As := [.int x1, .int 0, .int (-1), .int 0]) (rest := []) G9 (k_X1_setCell l D o cI cZ g H.size σ x1 0 (-1) 0 y2 h9_) (cwV 4 hts gX1_setBare_X1_setCell rfl rfl rfl (by decide +kernel) ⟨Nat.le_of_ble_eq_true rfl, Nat.le_of_ble_eq_true rfl⟩) (mg_preV hK hO hA hw (q0 := 1) rfl rfl) rfl rfl hl.1 rfl (lv_room (Nat.le_of_ble_eq_true rfl)) dX1_setBare_11 ⟨Nat.zero_le _, Nat.zero_le _⟩) hw hA (fun H locs hw => ?_)
  clear h9_
  refine lv_iload_n hx hb dX1_setBare_14 rfl (lv_at hl 0 rfl) ?_
  refine mg_if_eq (tgt := 22) hx hb h dX1_setBare_15 (by decide) (fun h => ?_) (fun h => ?_)
  · cases h
    exact mg_eV hx hb hr hlocks hw (Nat.zero_le _) (Nat.zero_le _) dX1_setBare_22
  · refine lv_aload_n hx hb dX1_setBare_18 rfl (lv_at hl 1 rfl) ?_
    obtain ⟨y3, h9_, h⟩ := mg_bind h
    refine mg_k (rv := none) (va_runV (As := []) (rest := []) G9 (k_X1_surveyPonds l D o cI cZ g H.size y2  y3 h9_) (cwV 0 hts gX1_setBare_X1_surveyPonds rfl rfl rfl (by decide +kernel) ⟨Nat.le_of_ble_eq_true rfl, Nat.le_of_ble_eq_true rfl⟩) (mg_preV hK hO hA hw (q0 := 1) rfl rfl) rfl rfl hl.1 rfl (lv_room (Nat.le_of_ble_eq_true rfl)) dX1_setBare_19 ⟨Nat.zero_le _, Nat.zero_le _⟩) hw hA (fun H locs hw => ?_)
    clear h9_
    cases h
    exact mg_eV hx hb hr hlocks hw (Nat.zero_le _) (Nat.zero_le _) dX1_setBare_22
set_option maxHeartbeats 4000000 in
set_option maxRecDepth 100000 in
theorem k_X1_pondAt (l : Launch) (D : va_G) (o : Nat → Nat) (cI cZ : ClassId) (g : Nat → Nat) (sz : Nat) (σ : mg_St) (x1 : Int32) (y : Int32) (h : f_X1_pondAt σ x1 = some y) : mg_CT l yX1_pondAt wsX1_pondAt ({ frames := 1, cells := 0, slots := 0, locals := 20 } : Room) D [(cI, .int), (cZ, .boolean)] o (mg_cW g cI cZ σ) sz [.ref (g 1), .int x1] (some (.int y)) (mg_cW g cI cZ σ) 0 0 := by
  unfold mg_CT
  refine Met.ofW (cc := cX1_pondAt) (maxL := 3) (ret := (some .int)) (by decide) rfl ?_
  intro p e s m args below meth c s₁ B hml hv
  obtain ⟨rfl, hsz, hP, hK, hD0, hO⟩ := hv
  have hx := B.exec
  have hb := B.bytes
  have hr := B.returns
  have hts := atoms_spec (ws := wsX1_pondAt) B.pre
  have hown : s.vm.findClass RX1 = some m.cls := findClass_of_methodNamed B.named
  have hlocks := B.notSynchronized
  subst hsz
  have hD := hD0.self (sz := s.heap.size)
  generalize hAe : va_A (mg_cW g cI cZ σ) s.heap.size = A at hD hO ⊢
  have hA : ∀ q : Nat, s.heap.size ≤ q → A q := fun q h => by rw [← hAe]; exact Or.inr h
  have hw : mg_Wo D A s.heap s.heap [] (mg_cW g cI cZ σ) := ⟨hP, hD, va_S.rf⟩
  have G9 : CallFix p m c cX1_pondAt 3 s ([.ref (g 1), .int x1] : List Value).toArray wsX1_pondAt RX1 := ⟨hx, hb, hml, hown, hts⟩
  clear hP hD hD0 hAe
  obtain ⟨H, hHe⟩ : ∃ H : Heap, H = s.heap := ⟨_, rfl⟩
  have w0_ := hts (.fieldLink RX1 24 "MoonGate$Garden" "pondOf" "[I") (by decide +kernel)
  have iX1_ : ∀ w ∈ wsX10, w ∈ wsX1_pondAt := (fun _ h => List.mem_cons_of_mem _ (List.mem_append_right _ h))
  have hl := lv_entry ([.ref (g 1), .int x1]) (n := 3) (Nat.le_of_ble_eq_true rfl)
  rw [lg_entry_eq]
  generalize (lg_sl ([.ref (g 1), .int x1]) ++ List.replicate (3 - (lg_sl ([.ref (g 1), .int x1])).length) Slot.unset).toArray = ls at hl ⊢
  have hl : lv_has ls 3 [(0, .ref (g 1)), (1, .int x1)] := hl
  unfold f_X1_pondAt at h
  revert hw
  intro hw
  suffices K_ : ∀ (H : Heap) (locs : List Loc), mg_Wo D A s.heap H locs (mg_cW g cI cZ σ) → W p l e (headSpec wsX1_pondAt ({ frames := 1, cells := 0, slots := 0, locals := 20 } : Room)).room s m ([.ref (g 1), .int x1] : List Value).toArray below meth c H locs 0 0 (MQ below (mg_Q D (mg_cW g cI cZ σ) A (some (.int y))) ([.ref (g 1), .int x1] : List Value).toArray s 0 0 A) (F0 m 0 ls []) from K_ _ _ hw
  clear hw hHe H
  intro H locs hw
  refine lv_iload_n hx hb dX1_pondAt_0 rfl (lv_at hl 1 rfl) ?_
  obtain ⟨y1, h9_, h⟩ := mg_bind h
  refine mg_k (rv := (some (.int y1))) (va_runS (As := [.int x1]) (rest := []) G9 (k_X1_isPlace l D o cI cZ g H.size σ x1 y1 h9_) (va_cwS 1 hts gX1_pondAt_X1_isPlace rfl rfl rfl (by decide +kernel) ⟨Nat.le_of_ble_eq_true rfl, Nat.le_of_ble_eq_true rfl⟩) (mg_pre hK hO hA hw) rfl rfl hl.1 rfl (lv_room (Nat.le_of_ble_eq_true rfl)) dX1_pondAt_1 ⟨Nat.zero_le _, Nat.zero_le _⟩) hw hA (fun H locs hw => ?_)
  clear h9_
  obtain ⟨y2, h9_, h⟩ := mg_bind h
  have J4_ : ∀ (H : Heap) (locs : List Loc) (ls : Array Slot), mg_Wo D A s.heap H locs (mg_cW g cI cZ σ) → lv_has ls 3 [(0, .ref (g 1)), (1, .int x1)] → W p l e (headSpec wsX1_pondAt ({ frames := 1, cells := 0, slots := 0, locals := 20 } : Room)).room s m ([.ref (g 1), .int x1] : List Value).toArray below meth c H locs 0 0 (MQ below (mg_Q D (mg_cW g cI cZ σ) A (some (.int y))) ([.ref (g 1), .int x1] : List Value).toArray s 0 0 A) (F0 m 17 ls [.int y2]) := by
    intro H locs ls hw hl
    clear h9_
    refine lv_istore_n (lv' := [(2, .int y2), (0, .ref (g 1)), (1, .int x1)]) hx hb dX1_pondAt_17 rfl hl (by decide) rfl (fun ls hl => ?_)
    refine lv_iload_n hx hb dX1_pondAt_18 rfl (lv_at hl 0 rfl) ?_
    refine mg_if_lt (tgt := 32) hx hb h dX1_pondAt_19 (by decide) (fun h => ?_) (fun h => ?_)
    · refine lv_iconst (v := (-1)) hx hb dX1_pondAt_32 (by decide) ?_
      cases h
      exact mg_eI hx hb hr hlocks hw (Nat.zero_le _) (Nat.zero_le _) dX1_pondAt_33
    · refine lv_iload_n hx hb dX1_pondAt_22 rfl (lv_at hl 0 rfl) ?_
      refine lv_bipush (v := 70) hx hb dX1_pondAt_23 (by decide) ?_
      refine mg_icmp_ge (tgt := 32) hx hb h dX1_pondAt_25 (by decide) (fun h => ?_) (fun h => ?_)
      · refine lv_iconst (v := (-1)) hx hb dX1_pondAt_32 (by decide) ?_
        cases h
        exact mg_eI hx hb hr hlocks hw (Nat.zero_le _) (Nat.zero_le _) dX1_pondAt_33
      · refine lv_iload_n hx hb dX1_pondAt_28 rfl (lv_at hl 0 rfl) ?_
        refine lv_goto (tgt := 33) hx hb dX1_pondAt_29 (by decide) ?_
        cases h
        exact mg_eI hx hb hr hlocks hw (Nat.zero_le _) (Nat.zero_le _) dX1_pondAt_33
  clear h
  have h := h9_
  clear h9_
  refine mg_if_eq (tgt := 16) hx hb h dX1_pondAt_4 (by decide) (fun h => ?_) (fun h => ?_)
  · refine lv_iconst (v := (-1)) hx hb dX1_pondAt_16 (by decide) ?_
    cases h
    exact J4_ H locs ls hw (lv_sub hl [0, 1] rfl)
  · refine lv_aload_n hx hb dX1_pondAt_7 rfl (lv_at hl 0 rfl) ?_
    refine va_get (D := D) (ci := 1) (v := .ref (g 12)) (C := RX1) (T := TX1) (N := 9) hx hb hts iX1_ hown hK hw.1 1 rfl rfl 4 (by decide) w0_ (fun _ h9 => h9) rfl dX1_pondAt_8 ?_
    refine lv_iload_n hx hb dX1_pondAt_11 rfl (lv_at hl 1 rfl) ?_
    refine mg_ald (σ := σ) (k := 12) (n := 70) hx hb hK hw 12 0 rfl rfl h dX1_pondAt_12 (fun v3 h => ?_)
    refine lv_goto (tgt := 17) hx hb dX1_pondAt_13 (by decide) ?_
    cases h
    exact J4_ H locs ls hw (lv_sub hl [0, 1] rfl)
set_option maxHeartbeats 4000000 in
set_option maxRecDepth 100000 in
theorem k_X1_changeCarps (l : Launch) (D : va_G) (o : Nat → Nat) (cI cZ : ClassId) (g : Nat → Nat) (sz : Nat) (σ : mg_St) (x1 : Int32) (x2 : Int32) (y : mg_St) (h : f_X1_changeCarps σ x1 x2 = some y) : mg_CT l yX1_changeCarps wsX1_changeCarps ({ frames := 2, cells := 0, slots := 0, locals := 42 } : Room) D [(cI, .int), (cZ, .boolean)] o (mg_cW g cI cZ σ) sz [.ref (g 1), .int x1, .int x2] none (mg_cW g cI cZ y) 0 0 := by
  unfold mg_CT
  refine Met.ofW (cc := cX1_changeCarps) (maxL := 4) (ret := none) (by decide) rfl ?_
  intro p e s m args below meth c s₁ B hml hv
  obtain ⟨rfl, hsz, hP, hK, hD0, hO⟩ := hv
  have hx := B.exec
  have hb := B.bytes
  have hr := B.returns
  have hts := atoms_spec (ws := wsX1_changeCarps) B.pre
  have hown : s.vm.findClass RX1 = some m.cls := findClass_of_methodNamed B.named
  have hlocks := B.notSynchronized
  subst hsz
  have hD := hD0.self (sz := s.heap.size)
  generalize hAe : va_A (mg_cW g cI cZ σ) s.heap.size = A at hD hO ⊢
  have hA : ∀ q : Nat, s.heap.size ≤ q → A q := fun q h => by rw [← hAe]; exact Or.inr h
  have hw : mg_Wo D A s.heap s.heap [] (mg_cW g cI cZ σ) := ⟨hP, hD, va_S.rf⟩
  have G9 : CallFix p m c cX1_changeCarps 4 s ([.ref (g 1), .int x1, .int x2] : List Value).toArray wsX1_changeCarps RX1 := ⟨hx, hb, hml, hown, hts⟩
  clear hP hD hD0 hAe
  obtain ⟨H, hHe⟩ : ∃ H : Heap, H = s.heap := ⟨_, rfl⟩
  have w0_ := hts (.fieldLink RX1 21 "MoonGate$Garden" "carps" "[I") (by decide +kernel)
  have iX1_ : ∀ w ∈ wsX10, w ∈ wsX1_changeCarps := (fun _ h => List.mem_cons_of_mem _ (List.mem_append_right _ h))
  have w2_ := hts (.fieldLink RX1 30 "MoonGate$Garden" "pondCarps" "[I") (by decide +kernel)
  have hl := lv_entry ([.ref (g 1), .int x1, .int x2]) (n := 4) (Nat.le_of_ble_eq_true rfl)
  rw [lg_entry_eq]
  generalize (lg_sl ([.ref (g 1), .int x1, .int x2]) ++ List.replicate (4 - (lg_sl ([.ref (g 1), .int x1, .int x2])).length) Slot.unset).toArray = ls at hl ⊢
  have hl : lv_has ls 4 [(0, .ref (g 1)), (1, .int x1), (2, .int x2)] := hl
  unfold f_X1_changeCarps at h
  revert hw
  intro hw
  suffices K_ : ∀ (H : Heap) (locs : List Loc), mg_Wo D A s.heap H locs (mg_cW g cI cZ σ) → W p l e (headSpec wsX1_changeCarps ({ frames := 2, cells := 0, slots := 0, locals := 42 } : Room)).room s m ([.ref (g 1), .int x1, .int x2] : List Value).toArray below meth c H locs 0 0 (MQ below (mg_Q D (mg_cW g cI cZ y) A none) ([.ref (g 1), .int x1, .int x2] : List Value).toArray s 0 0 A) (F0 m 0 ls []) from K_ _ _ hw
  clear hw hHe H
  intro H locs hw
  refine lv_aload_n hx hb dX1_changeCarps_0 rfl (lv_at hl 0 rfl) ?_
  refine lv_iload_n hx hb dX1_changeCarps_1 rfl (lv_at hl 1 rfl) ?_
  obtain ⟨y1, h9_, h⟩ := mg_bind h
  refine mg_k (rv := (some (.int y1))) (va_runV (As := [.int x1]) (rest := []) G9 (k_X1_pondAt l D o cI cZ g H.size σ x1 y1 h9_) (cwV 1 hts gX1_changeCarps_X1_pondAt rfl rfl rfl (by decide +kernel) ⟨Nat.le_of_ble_eq_true rfl, Nat.le_of_ble_eq_true rfl⟩) (mg_preV hK hO hA hw (q0 := 1) rfl rfl) rfl rfl hl.1 rfl (lv_room (Nat.le_of_ble_eq_true rfl)) dX1_changeCarps_2 ⟨Nat.zero_le _, Nat.zero_le _⟩) hw hA (fun H locs hw => ?_)
  clear h9_
  refine lv_istore_n (lv' := [(3, .int y1), (0, .ref (g 1)), (1, .int x1), (2, .int x2)]) hx hb dX1_changeCarps_5 rfl hl (by decide) rfl (fun ls hl => ?_)
  refine lv_iload_n hx hb dX1_changeCarps_6 rfl (lv_at hl 0 rfl) ?_
  refine lv_iconst (v := (-1)) hx hb dX1_changeCarps_7 (by decide) ?_
  refine mg_icmp_eq (tgt := 31) hx hb h dX1_changeCarps_8 (by decide) (fun h => ?_) (fun h => ?_)
  · cases h
    exact mg_eV hx hb hr hlocks hw (Nat.zero_le _) (Nat.zero_le _) dX1_changeCarps_31
  · refine lv_aload_n hx hb dX1_changeCarps_11 rfl (lv_at hl 1 rfl) ?_
    refine va_get (D := D) (ci := 1) (v := .ref (g 11)) (C := RX1) (T := TX1) (N := 9) hx hb hts iX1_ hown hK hw.1 1 rfl rfl 3 (by decide) w0_ (fun _ h9 => h9) rfl dX1_changeCarps_12 ?_
    refine lv_iload_n hx hb dX1_changeCarps_15 rfl (lv_at hl 2 rfl) ?_
    refine lv_dup2_11 hx hb dX1_changeCarps_16 rfl rfl ?_
    refine mg_ald (σ := σ) (k := 11) (n := 70) hx hb hK hw 11 0 rfl rfl h dX1_changeCarps_17 (fun v2 h => ?_)
    refine lv_iload_n hx hb dX1_changeCarps_18 rfl (lv_at hl 3 rfl) ?_
    refine lv_iadd hx hb dX1_changeCarps_19 ?_
    refine mg_ast (wd := mg_cW g cI cZ) (σ := σ) (k := 11) (n := 70) hx hb hK hw 11 0 rfl (mg_cS_11 g cI cZ σ) rfl h dX1_changeCarps_20 (fun s3 h H locs hw => ?_)
    refine lv_aload_n hx hb dX1_changeCarps_21 rfl (lv_at hl 1 rfl) ?_
    refine va_get (D := D) (ci := 1) (v := .ref (g 14)) (C := RX1) (T := TX1) (N := 9) hx hb hts iX1_ hown hK hw.1 1 rfl rfl 6 (by decide) w2_ (fun _ h9 => h9) rfl dX1_changeCarps_22 ?_
    refine lv_iload_n hx hb dX1_changeCarps_25 rfl (lv_at hl 0 rfl) ?_
    refine lv_dup2_11 hx hb dX1_changeCarps_26 rfl rfl ?_
    refine mg_ald (σ := s3) (k := 14) (n := 70) hx hb hK hw 14 0 rfl rfl h dX1_changeCarps_27 (fun v4 h => ?_)
    refine lv_iload_n hx hb dX1_changeCarps_28 rfl (lv_at hl 3 rfl) ?_
    refine lv_iadd hx hb dX1_changeCarps_29 ?_
    refine mg_ast (wd := mg_cW g cI cZ) (σ := s3) (k := 14) (n := 70) hx hb hK hw 14 0 rfl (mg_cS_14 g cI cZ s3) rfl h dX1_changeCarps_30 (fun s5 h H locs hw => ?_)
    cases h
    exact mg_eV hx hb hr hlocks hw (Nat.zero_le _) (Nat.zero_le _) dX1_changeCarps_31
set_option maxHeartbeats 4000000 in
set_option maxRecDepth 100000 in
theorem k_X1_cellsOfPondAt (l : Launch) (D : va_G) (o : Nat → Nat) (cI cZ : ClassId) (g : Nat → Nat) (sz : Nat) (σ : mg_St) (x1 : Int32) (y : Int32) (h : f_X1_cellsOfPondAt σ x1 = some y) : mg_CT l yX1_cellsOfPondAt wsX1_cellsOfPondAt ({ frames := 2, cells := 0, slots := 0, locals := 42 } : Room) D [(cI, .int), (cZ, .boolean)] o (mg_cW g cI cZ σ) sz [.ref (g 1), .int x1] (some (.int y)) (mg_cW g cI cZ σ) 0 0 := by
  unfold mg_CT
  refine Met.ofW (cc := cX1_cellsOfPondAt) (maxL := 3) (ret := (some .int)) (by decide) rfl ?_
  intro p e s m args below meth c s₁ B hml hv
  obtain ⟨rfl, hsz, hP, hK, hD0, hO⟩ := hv
  have hx := B.exec
  have hb := B.bytes
  have hr := B.returns
  have hts := atoms_spec (ws := wsX1_cellsOfPondAt) B.pre
  have hown : s.vm.findClass RX1 = some m.cls := findClass_of_methodNamed B.named
  have hlocks := B.notSynchronized
  subst hsz
  have hD := hD0.self (sz := s.heap.size)
  generalize hAe : va_A (mg_cW g cI cZ σ) s.heap.size = A at hD hO ⊢
  have hA : ∀ q : Nat, s.heap.size ≤ q → A q := fun q h => by rw [← hAe]; exact Or.inr h
  have hw : mg_Wo D A s.heap s.heap [] (mg_cW g cI cZ σ) := ⟨hP, hD, va_S.rf⟩
  have G9 : CallFix p m c cX1_cellsOfPondAt 3 s ([.ref (g 1), .int x1] : List Value).toArray wsX1_cellsOfPondAt RX1 := ⟨hx, hb, hml, hown, hts⟩
  clear hP hD hD0 hAe
  obtain ⟨H, hHe⟩ : ∃ H : Heap, H = s.heap := ⟨_, rfl⟩
  have w0_ := hts (.fieldLink RX1 27 "MoonGate$Garden" "pondCells" "[I") (by decide +kernel)
  have iX1_ : ∀ w ∈ wsX10, w ∈ wsX1_cellsOfPondAt := (fun _ h => List.mem_cons_of_mem _ (List.mem_append_right _ h))
  have hl := lv_entry ([.ref (g 1), .int x1]) (n := 3) (Nat.le_of_ble_eq_true rfl)
  rw [lg_entry_eq]
  generalize (lg_sl ([.ref (g 1), .int x1]) ++ List.replicate (3 - (lg_sl ([.ref (g 1), .int x1])).length) Slot.unset).toArray = ls at hl ⊢
  have hl : lv_has ls 3 [(0, .ref (g 1)), (1, .int x1)] := hl
  unfold f_X1_cellsOfPondAt at h
  revert hw
  intro hw
  suffices K_ : ∀ (H : Heap) (locs : List Loc), mg_Wo D A s.heap H locs (mg_cW g cI cZ σ) → W p l e (headSpec wsX1_cellsOfPondAt ({ frames := 2, cells := 0, slots := 0, locals := 42 } : Room)).room s m ([.ref (g 1), .int x1] : List Value).toArray below meth c H locs 0 0 (MQ below (mg_Q D (mg_cW g cI cZ σ) A (some (.int y))) ([.ref (g 1), .int x1] : List Value).toArray s 0 0 A) (F0 m 0 ls []) from K_ _ _ hw
  clear hw hHe H
  intro H locs hw
  refine lv_aload_n hx hb dX1_cellsOfPondAt_0 rfl (lv_at hl 0 rfl) ?_
  refine lv_iload_n hx hb dX1_cellsOfPondAt_1 rfl (lv_at hl 1 rfl) ?_
  obtain ⟨y1, h9_, h⟩ := mg_bind h
  refine mg_k (rv := (some (.int y1))) (va_runV (As := [.int x1]) (rest := []) G9 (k_X1_pondAt l D o cI cZ g H.size σ x1 y1 h9_) (cwV 1 hts gX1_cellsOfPondAt_X1_pondAt rfl rfl rfl (by decide +kernel) ⟨Nat.le_of_ble_eq_true rfl, Nat.le_of_ble_eq_true rfl⟩) (mg_preV hK hO hA hw (q0 := 1) rfl rfl) rfl rfl hl.1 rfl (lv_room (Nat.le_of_ble_eq_true rfl)) dX1_cellsOfPondAt_2 ⟨Nat.zero_le _, Nat.zero_le _⟩) hw hA (fun H locs hw => ?_)
  clear h9_
  refine lv_istore_n (lv' := [(2, .int y1), (0, .ref (g 1)), (1, .int x1)]) hx hb dX1_cellsOfPondAt_5 rfl hl (by decide) rfl (fun ls hl => ?_)
  refine lv_iload_n hx hb dX1_cellsOfPondAt_6 rfl (lv_at hl 0 rfl) ?_
  refine lv_iconst (v := (-1)) hx hb dX1_cellsOfPondAt_7 (by decide) ?_
  refine mg_icmp_ne (tgt := 15) hx hb h dX1_cellsOfPondAt_8 (by decide) (fun h => ?_) (fun h => ?_)
  · refine lv_aload_n hx hb dX1_cellsOfPondAt_15 rfl (lv_at hl 1 rfl) ?_
    refine va_get (D := D) (ci := 1) (v := .ref (g 13)) (C := RX1) (T := TX1) (N := 9) hx hb hts iX1_ hown hK hw.1 1 rfl rfl 5 (by decide) w0_ (fun _ h9 => h9) rfl dX1_cellsOfPondAt_16 ?_
    refine lv_iload_n hx hb dX1_cellsOfPondAt_19 rfl (lv_at hl 0 rfl) ?_
    refine mg_ald (σ := σ) (k := 13) (n := 70) hx hb hK hw 13 0 rfl rfl h dX1_cellsOfPondAt_20 (fun v2 h => ?_)
    cases h
    exact mg_eI hx hb hr hlocks hw (Nat.zero_le _) (Nat.zero_le _) dX1_cellsOfPondAt_21
  · refine lv_iconst (v := 0) hx hb dX1_cellsOfPondAt_11 (by decide) ?_
    refine lv_goto (tgt := 21) hx hb dX1_cellsOfPondAt_12 (by decide) ?_
    cases h
    exact mg_eI hx hb hr hlocks hw (Nat.zero_le _) (Nat.zero_le _) dX1_cellsOfPondAt_21
set_option maxHeartbeats 4000000 in
set_option maxRecDepth 100000 in
theorem k_X1_carpsOfPondAt (l : Launch) (D : va_G) (o : Nat → Nat) (cI cZ : ClassId) (g : Nat → Nat) (sz : Nat) (σ : mg_St) (x1 : Int32) (y : Int32) (h : f_X1_carpsOfPondAt σ x1 = some y) : mg_CT l yX1_carpsOfPondAt wsX1_carpsOfPondAt ({ frames := 2, cells := 0, slots := 0, locals := 42 } : Room) D [(cI, .int), (cZ, .boolean)] o (mg_cW g cI cZ σ) sz [.ref (g 1), .int x1] (some (.int y)) (mg_cW g cI cZ σ) 0 0 := by
  unfold mg_CT
  refine Met.ofW (cc := cX1_carpsOfPondAt) (maxL := 3) (ret := (some .int)) (by decide) rfl ?_
  intro p e s m args below meth c s₁ B hml hv
  obtain ⟨rfl, hsz, hP, hK, hD0, hO⟩ := hv
  have hx := B.exec
  have hb := B.bytes
  have hr := B.returns
  have hts := atoms_spec (ws := wsX1_carpsOfPondAt) B.pre
  have hown : s.vm.findClass RX1 = some m.cls := findClass_of_methodNamed B.named
  have hlocks := B.notSynchronized
  subst hsz
  have hD := hD0.self (sz := s.heap.size)
  generalize hAe : va_A (mg_cW g cI cZ σ) s.heap.size = A at hD hO ⊢
  have hA : ∀ q : Nat, s.heap.size ≤ q → A q := fun q h => by rw [← hAe]; exact Or.inr h
  have hw : mg_Wo D A s.heap s.heap [] (mg_cW g cI cZ σ) := ⟨hP, hD, va_S.rf⟩
  have G9 : CallFix p m c cX1_carpsOfPondAt 3 s ([.ref (g 1), .int x1] : List Value).toArray wsX1_carpsOfPondAt RX1 := ⟨hx, hb, hml, hown, hts⟩
  clear hP hD hD0 hAe
  obtain ⟨H, hHe⟩ : ∃ H : Heap, H = s.heap := ⟨_, rfl⟩
  have w0_ := hts (.fieldLink RX1 30 "MoonGate$Garden" "pondCarps" "[I") (by decide +kernel)
  have iX1_ : ∀ w ∈ wsX10, w ∈ wsX1_carpsOfPondAt := (fun _ h => List.mem_cons_of_mem _ (List.mem_append_right _ h))
  have hl := lv_entry ([.ref (g 1), .int x1]) (n := 3) (Nat.le_of_ble_eq_true rfl)
  rw [lg_entry_eq]
  generalize (lg_sl ([.ref (g 1), .int x1]) ++ List.replicate (3 - (lg_sl ([.ref (g 1), .int x1])).length) Slot.unset).toArray = ls at hl ⊢
  have hl : lv_has ls 3 [(0, .ref (g 1)), (1, .int x1)] := hl
  unfold f_X1_carpsOfPondAt at h
  revert hw
  intro hw
  suffices K_ : ∀ (H : Heap) (locs : List Loc), mg_Wo D A s.heap H locs (mg_cW g cI cZ σ) → W p l e (headSpec wsX1_carpsOfPondAt ({ frames := 2, cells := 0, slots := 0, locals := 42 } : Room)).room s m ([.ref (g 1), .int x1] : List Value).toArray below meth c H locs 0 0 (MQ below (mg_Q D (mg_cW g cI cZ σ) A (some (.int y))) ([.ref (g 1), .int x1] : List Value).toArray s 0 0 A) (F0 m 0 ls []) from K_ _ _ hw
  clear hw hHe H
  intro H locs hw
  refine lv_aload_n hx hb dX1_carpsOfPondAt_0 rfl (lv_at hl 0 rfl) ?_
  refine lv_iload_n hx hb dX1_carpsOfPondAt_1 rfl (lv_at hl 1 rfl) ?_
  obtain ⟨y1, h9_, h⟩ := mg_bind h
  refine mg_k (rv := (some (.int y1))) (va_runV (As := [.int x1]) (rest := []) G9 (k_X1_pondAt l D o cI cZ g H.size σ x1 y1 h9_) (cwV 1 hts gX1_carpsOfPondAt_X1_pondAt rfl rfl rfl (by decide +kernel) ⟨Nat.le_of_ble_eq_true rfl, Nat.le_of_ble_eq_true rfl⟩) (mg_preV hK hO hA hw (q0 := 1) rfl rfl) rfl rfl hl.1 rfl (lv_room (Nat.le_of_ble_eq_true rfl)) dX1_carpsOfPondAt_2 ⟨Nat.zero_le _, Nat.zero_le _⟩) hw hA (fun H locs hw => ?_)
  clear h9_
  refine lv_istore_n (lv' := [(2, .int y1), (0, .ref (g 1)), (1, .int x1)]) hx hb dX1_carpsOfPondAt_5 rfl hl (by decide) rfl (fun ls hl => ?_)
  refine lv_iload_n hx hb dX1_carpsOfPondAt_6 rfl (lv_at hl 0 rfl) ?_
  refine lv_iconst (v := (-1)) hx hb dX1_carpsOfPondAt_7 (by decide) ?_
  refine mg_icmp_ne (tgt := 15) hx hb h dX1_carpsOfPondAt_8 (by decide) (fun h => ?_) (fun h => ?_)
  · refine lv_aload_n hx hb dX1_carpsOfPondAt_15 rfl (lv_at hl 1 rfl) ?_
    refine va_get (D := D) (ci := 1) (v := .ref (g 14)) (C := RX1) (T := TX1) (N := 9) hx hb hts iX1_ hown hK hw.1 1 rfl rfl 6 (by decide) w0_ (fun _ h9 => h9) rfl dX1_carpsOfPondAt_16 ?_
    refine lv_iload_n hx hb dX1_carpsOfPondAt_19 rfl (lv_at hl 0 rfl) ?_
    refine mg_ald (σ := σ) (k := 14) (n := 70) hx hb hK hw 14 0 rfl rfl h dX1_carpsOfPondAt_20 (fun v2 h => ?_)
    cases h
    exact mg_eI hx hb hr hlocks hw (Nat.zero_le _) (Nat.zero_le _) dX1_carpsOfPondAt_21
  · refine lv_iconst (v := 0) hx hb dX1_carpsOfPondAt_11 (by decide) ?_
    refine lv_goto (tgt := 21) hx hb dX1_carpsOfPondAt_12 (by decide) ?_
    cases h
    exact mg_eI hx hb hr hlocks hw (Nat.zero_le _) (Nat.zero_le _) dX1_carpsOfPondAt_21
set_option maxHeartbeats 4000000 in
set_option maxRecDepth 100000 in
theorem k_X1_isTooFull (l : Launch) (D : va_G) (o : Nat → Nat) (cI cZ : ClassId) (g : Nat → Nat) (sz : Nat) (σ : mg_St) (x1 : Int32) (y : Int32) (h : f_X1_isTooFull σ x1 = some y) : mg_CT l yX1_isTooFull wsX1_isTooFull ({ frames := 3, cells := 0, slots := 0, locals := 64 } : Room) D [(cI, .int), (cZ, .boolean)] o (mg_cW g cI cZ σ) sz [.ref (g 1), .int x1] (some (.int y)) (mg_cW g cI cZ σ) 0 0 := by
  unfold mg_CT
  refine Met.ofW (cc := cX1_isTooFull) (maxL := 2) (ret := (some .boolean)) (by decide) rfl ?_
  intro p e s m args below meth c s₁ B hml hv
  obtain ⟨rfl, hsz, hP, hK, hD0, hO⟩ := hv
  have hx := B.exec
  have hb := B.bytes
  have hr := B.returns
  have hts := atoms_spec (ws := wsX1_isTooFull) B.pre
  have hown : s.vm.findClass RX1 = some m.cls := findClass_of_methodNamed B.named
  have hlocks := B.notSynchronized
  subst hsz
  have hD := hD0.self (sz := s.heap.size)
  generalize hAe : va_A (mg_cW g cI cZ σ) s.heap.size = A at hD hO ⊢
  have hA : ∀ q : Nat, s.heap.size ≤ q → A q := fun q h => by rw [← hAe]; exact Or.inr h
  have hw : mg_Wo D A s.heap s.heap [] (mg_cW g cI cZ σ) := ⟨hP, hD, va_S.rf⟩
  have G9 : CallFix p m c cX1_isTooFull 2 s ([.ref (g 1), .int x1] : List Value).toArray wsX1_isTooFull RX1 := ⟨hx, hb, hml, hown, hts⟩
  clear hP hD hD0 hAe
  obtain ⟨H, hHe⟩ : ∃ H : Heap, H = s.heap := ⟨_, rfl⟩
  have hl := lv_entry ([.ref (g 1), .int x1]) (n := 2) (Nat.le_of_ble_eq_true rfl)
  rw [lg_entry_eq]
  generalize (lg_sl ([.ref (g 1), .int x1]) ++ List.replicate (2 - (lg_sl ([.ref (g 1), .int x1])).length) Slot.unset).toArray = ls at hl ⊢
  have hl : lv_has ls 2 [(0, .ref (g 1)), (1, .int x1)] := hl
  unfold f_X1_isTooFull at h
  revert hw
  intro hw
  suffices K_ : ∀ (H : Heap) (locs : List Loc), mg_Wo D A s.heap H locs (mg_cW g cI cZ σ) → W p l e (headSpec wsX1_isTooFull ({ frames := 3, cells := 0, slots := 0, locals := 64 } : Room)).room s m ([.ref (g 1), .int x1] : List Value).toArray below meth c H locs 0 0 (MQ below (mg_Q D (mg_cW g cI cZ σ) A (some (.int y))) ([.ref (g 1), .int x1] : List Value).toArray s 0 0 A) (F0 m 0 ls []) from K_ _ _ hw
  clear hw hHe H
  intro H locs hw
  refine lv_aload_n hx hb dX1_isTooFull_0 rfl (lv_at hl 0 rfl) ?_
  refine lv_iload_n hx hb dX1_isTooFull_1 rfl (lv_at hl 1 rfl) ?_
  obtain ⟨y1, h9_, h⟩ := mg_bind h
  refine mg_k (rv := (some (.int y1))) (va_runV (As := [.int x1]) (rest := []) G9 (k_X1_carpsOfPondAt l D o cI cZ g H.size σ x1 y1 h9_) (cwV 1 hts gX1_isTooFull_X1_carpsOfPondAt rfl rfl rfl (by decide +kernel) ⟨Nat.le_of_ble_eq_true rfl, Nat.le_of_ble_eq_true rfl⟩) (mg_preV hK hO hA hw (q0 := 1) rfl rfl) rfl rfl hl.1 rfl (lv_room (Nat.le_of_ble_eq_true rfl)) dX1_isTooFull_2 ⟨Nat.zero_le _, Nat.zero_le _⟩) hw hA (fun H locs hw => ?_)
  clear h9_
  refine lv_iconst (v := 2) hx hb dX1_isTooFull_5 (by decide) ?_
  refine lv_aload_n hx hb dX1_isTooFull_6 rfl (lv_at hl 0 rfl) ?_
  refine lv_iload_n hx hb dX1_isTooFull_7 rfl (lv_at hl 1 rfl) ?_
  obtain ⟨y2, h9_, h⟩ := mg_bind h
  refine mg_k (rv := (some (.int y2))) (va_runV (As := [.int x1]) (rest := [.int 2, .int y1]) G9 (k_X1_cellsOfPondAt l D o cI cZ g H.size σ x1 y2 h9_) (cwV 1 hts gX1_isTooFull_X1_cellsOfPondAt rfl rfl rfl (by decide +kernel) ⟨Nat.le_of_ble_eq_true rfl, Nat.le_of_ble_eq_true rfl⟩) (mg_preV hK hO hA hw (q0 := 1) rfl rfl) rfl rfl hl.1 rfl (lv_room (Nat.le_of_ble_eq_true rfl)) dX1_isTooFull_8 ⟨Nat.zero_le _, Nat.zero_le _⟩) hw hA (fun H locs hw => ?_)
  clear h9_
  refine lv_imul hx hb dX1_isTooFull_11 ?_
  refine mg_icmp_le (tgt := 19) hx hb h dX1_isTooFull_12 (by decide) (fun h => ?_) (fun h => ?_)
  · refine lv_iconst (v := 0) hx hb dX1_isTooFull_19 (by decide) ?_
    cases h
    exact mg_eZ hx hb hr hlocks hw rfl (Nat.zero_le _) (Nat.zero_le _) dX1_isTooFull_20
  · refine lv_iconst (v := 1) hx hb dX1_isTooFull_15 (by decide) ?_
    refine lv_goto (tgt := 20) hx hb dX1_isTooFull_16 (by decide) ?_
    cases h
    exact mg_eZ hx hb hr hlocks hw rfl (Nat.zero_le _) (Nat.zero_le _) dX1_isTooFull_20
set_option maxHeartbeats 4000000 in
set_option maxRecDepth 100000 in
theorem k_X2_isNumber (l : Launch) (D : va_G) (o : Nat → Nat) (cI cZ : ClassId) (g : Nat → Nat) (sz : Nat) (σ : mg_St) (x1 : Int32) (y : Int32) (h : f_X2_isNumber σ x1 = some y) : mg_CT l yX2_isNumber wsX2_isNumber ({ frames := 0, cells := 0, slots := 0, locals := 0 } : Room) D [(cI, .int), (cZ, .boolean)] o (mg_cW g cI cZ σ) sz [.ref (g 3), .int x1] (some (.int y)) (mg_cW g cI cZ σ) 0 0 := by
  unfold mg_CT
  refine Met.ofW (cc := cX2_isNumber) (maxL := 2) (ret := (some .boolean)) (by decide) rfl ?_
  intro p e s m args below meth c s₁ B hml hv
  obtain ⟨rfl, hsz, hP, hK, hD0, hO⟩ := hv
  have hx := B.exec
  have hb := B.bytes
  have hr := B.returns
  have hts := atoms_spec (ws := wsX2_isNumber) B.pre
  have hown : s.vm.findClass RX2 = some m.cls := findClass_of_methodNamed B.named
  have hlocks := B.notSynchronized
  subst hsz
  have hD := hD0.self (sz := s.heap.size)
  generalize hAe : va_A (mg_cW g cI cZ σ) s.heap.size = A at hD hO ⊢
  have hA : ∀ q : Nat, s.heap.size ≤ q → A q := fun q h => by rw [← hAe]; exact Or.inr h
  have hw : mg_Wo D A s.heap s.heap [] (mg_cW g cI cZ σ) := ⟨hP, hD, va_S.rf⟩
  have G9 : CallFix p m c cX2_isNumber 2 s ([.ref (g 3), .int x1] : List Value).toArray wsX2_isNumber RX2 := ⟨hx, hb, hml, hown, hts⟩
  clear hP hD hD0 hAe
  obtain ⟨H, hHe⟩ : ∃ H : Heap, H = s.heap := ⟨_, rfl⟩
  have w0_ := hts (.fieldLink RX2 18 "MoonGate$Gates" "many" "I") (by decide +kernel)
  have iX2_ : ∀ w ∈ wsX20, w ∈ wsX2_isNumber := (fun _ h => List.mem_cons_of_mem _ (List.mem_append_right _ h))
  have hl := lv_entry ([.ref (g 3), .int x1]) (n := 2) (Nat.le_of_ble_eq_true rfl)
  rw [lg_entry_eq]
  generalize (lg_sl ([.ref (g 3), .int x1]) ++ List.replicate (2 - (lg_sl ([.ref (g 3), .int x1])).length) Slot.unset).toArray = ls at hl ⊢
  have hl : lv_has ls 2 [(0, .ref (g 3)), (1, .int x1)] := hl
  unfold f_X2_isNumber at h
  revert hw
  intro hw
  suffices K_ : ∀ (H : Heap) (locs : List Loc), mg_Wo D A s.heap H locs (mg_cW g cI cZ σ) → W p l e (headSpec wsX2_isNumber ({ frames := 0, cells := 0, slots := 0, locals := 0 } : Room)).room s m ([.ref (g 3), .int x1] : List Value).toArray below meth c H locs 0 0 (MQ below (mg_Q D (mg_cW g cI cZ σ) A (some (.int y))) ([.ref (g 3), .int x1] : List Value).toArray s 0 0 A) (F0 m 0 ls []) from K_ _ _ hw
  clear hw hHe H
  intro H locs hw
  refine lv_iload_n hx hb dX2_isNumber_0 rfl (lv_at hl 1 rfl) ?_
  refine mg_if_lt (tgt := 22) hx hb h dX2_isNumber_1 (by decide) (fun h => ?_) (fun h => ?_)
  · refine lv_iconst (v := 0) hx hb dX2_isNumber_22 (by decide) ?_
    cases h
    exact mg_eZ hx hb hr hlocks hw rfl (Nat.zero_le _) (Nat.zero_le _) dX2_isNumber_23
  · refine lv_iload_n hx hb dX2_isNumber_4 rfl (lv_at hl 1 rfl) ?_
    refine lv_aload_n hx hb dX2_isNumber_5 rfl (lv_at hl 0 rfl) ?_
    refine va_get (D := D) (ci := 2) (v := .int (σ 3 2)) (C := RX2) (T := TX2) (N := 3) hx hb hts iX2_ hown hK hw.1 3 rfl rfl 2 (by decide) w0_ (fun _ h9 => h9) rfl dX2_isNumber_6 ?_
    refine mg_icmp_ge (tgt := 22) hx hb h dX2_isNumber_9 (by decide) (fun h => ?_) (fun h => ?_)
    · refine lv_iconst (v := 0) hx hb dX2_isNumber_22 (by decide) ?_
      cases h
      exact mg_eZ hx hb hr hlocks hw rfl (Nat.zero_le _) (Nat.zero_le _) dX2_isNumber_23
    · refine lv_iload_n hx hb dX2_isNumber_12 rfl (lv_at hl 1 rfl) ?_
      refine lv_bipush (v := 6) hx hb dX2_isNumber_13 (by decide) ?_
      refine mg_icmp_ge (tgt := 22) hx hb h dX2_isNumber_15 (by decide) (fun h => ?_) (fun h => ?_)
      · refine lv_iconst (v := 0) hx hb dX2_isNumber_22 (by decide) ?_
        cases h
        exact mg_eZ hx hb hr hlocks hw rfl (Nat.zero_le _) (Nat.zero_le _) dX2_isNumber_23
      · refine lv_iconst (v := 1) hx hb dX2_isNumber_18 (by decide) ?_
        refine lv_goto (tgt := 23) hx hb dX2_isNumber_19 (by decide) ?_
        cases h
        exact mg_eZ hx hb hr hlocks hw rfl (Nat.zero_le _) (Nat.zero_le _) dX2_isNumber_23
set_option maxHeartbeats 4000000 in
set_option maxRecDepth 100000 in
theorem k_X2_add (l : Launch) (D : va_G) (o : Nat → Nat) (cI cZ : ClassId) (g : Nat → Nat) (sz : Nat) (σ : mg_St) (x1 : Int32) (x2 : Int32) (y : (Int32 × mg_St)) (h : f_X2_add σ x1 x2 = some y) : mg_CT l yX2_add wsX2_add ({ frames := 0, cells := 0, slots := 0, locals := 0 } : Room) D [(cI, .int), (cZ, .boolean)] o (mg_cW g cI cZ σ) sz [.ref (g 3), .int x1, .int x2] (some (.int y.1)) (mg_cW g cI cZ y.2) 0 0 := by
  unfold mg_CT
  refine Met.ofW (cc := cX2_add) (maxL := 4) (ret := (some .int)) (by decide) rfl ?_
  intro p e s m args below meth c s₁ B hml hv
  obtain ⟨rfl, hsz, hP, hK, hD0, hO⟩ := hv
  have hx := B.exec
  have hb := B.bytes
  have hr := B.returns
  have hts := atoms_spec (ws := wsX2_add) B.pre
  have hown : s.vm.findClass RX2 = some m.cls := findClass_of_methodNamed B.named
  have hlocks := B.notSynchronized
  subst hsz
  have hD := hD0.self (sz := s.heap.size)
  generalize hAe : va_A (mg_cW g cI cZ σ) s.heap.size = A at hD hO ⊢
  have hA : ∀ q : Nat, s.heap.size ≤ q → A q := fun q h => by rw [← hAe]; exact Or.inr h
  have hw : mg_Wo D A s.heap s.heap [] (mg_cW g cI cZ σ) := ⟨hP, hD, va_S.rf⟩
  have G9 : CallFix p m c cX2_add 4 s ([.ref (g 3), .int x1, .int x2] : List Value).toArray wsX2_add RX2 := ⟨hx, hb, hml, hown, hts⟩
  clear hP hD hD0 hAe
  obtain ⟨H, hHe⟩ : ∃ H : Heap, H = s.heap := ⟨_, rfl⟩
  have w0_ := hts (.fieldLink RX2 18 "MoonGate$Gates" "many" "I") (by decide +kernel)
  have iX2_ : ∀ w ∈ wsX20, w ∈ wsX2_add := (fun _ h => List.mem_cons_of_mem _ (List.mem_append_right _ h))
  have w2_ := hts (.fieldLink RX2 9 "MoonGate$Gates" "places" "[I") (by decide +kernel)
  have w3_ := hts (.fieldLink RX2 15 "MoonGate$Gates" "directions" "[I") (by decide +kernel)
  have hl := lv_entry ([.ref (g 3), .int x1, .int x2]) (n := 4) (Nat.le_of_ble_eq_true rfl)
  rw [lg_entry_eq]
  generalize (lg_sl ([.ref (g 3), .int x1, .int x2]) ++ List.replicate (4 - (lg_sl ([.ref (g 3), .int x1, .int x2])).length) Slot.unset).toArray = ls at hl ⊢
  have hl : lv_has ls 4 [(0, .ref (g 3)), (1, .int x1), (2, .int x2)] := hl
  unfold f_X2_add at h
  revert hw
  intro hw
  suffices K_ : ∀ (H : Heap) (locs : List Loc), mg_Wo D A s.heap H locs (mg_cW g cI cZ σ) → W p l e (headSpec wsX2_add ({ frames := 0, cells := 0, slots := 0, locals := 0 } : Room)).room s m ([.ref (g 3), .int x1, .int x2] : List Value).toArray below meth c H locs 0 0 (MQ below (mg_Q D (mg_cW g cI cZ y.2) A (some (.int y.1))) ([.ref (g 3), .int x1, .int x2] : List Value).toArray s 0 0 A) (F0 m 0 ls []) from K_ _ _ hw
  clear hw hHe H
  intro H locs hw
  refine lv_aload_n hx hb dX2_add_0 rfl (lv_at hl 0 rfl) ?_
  refine va_get (D := D) (ci := 2) (v := .int (σ 3 2)) (C := RX2) (T := TX2) (N := 3) hx hb hts iX2_ hown hK hw.1 3 rfl rfl 2 (by decide) w0_ (fun _ h9 => h9) rfl dX2_add_1 ?_
  refine lv_istore_n (lv' := [(3, .int (σ 3 2)), (0, .ref (g 3)), (1, .int x1), (2, .int x2)]) hx hb dX2_add_4 rfl hl (by decide) rfl (fun ls hl => ?_)
  refine lv_iload_n hx hb dX2_add_5 rfl (lv_at hl 0 rfl) ?_
  refine mg_if_lt (tgt := 39) hx hb h dX2_add_6 (by decide) (fun h => ?_) (fun h => ?_)
  · refine lv_iload_n hx hb dX2_add_39 rfl (lv_at hl 0 rfl) ?_
    cases h
    exact mg_eI hx hb hr hlocks hw (Nat.zero_le _) (Nat.zero_le _) dX2_add_40
  · refine lv_iload_n hx hb dX2_add_9 rfl (lv_at hl 0 rfl) ?_
    refine lv_bipush (v := 6) hx hb dX2_add_10 (by decide) ?_
    refine mg_icmp_ge (tgt := 39) hx hb h dX2_add_12 (by decide) (fun h => ?_) (fun h => ?_)
    · refine lv_iload_n hx hb dX2_add_39 rfl (lv_at hl 0 rfl) ?_
      cases h
      exact mg_eI hx hb hr hlocks hw (Nat.zero_le _) (Nat.zero_le _) dX2_add_40
    · refine lv_aload_n hx hb dX2_add_15 rfl (lv_at hl 1 rfl) ?_
      refine va_get (D := D) (ci := 2) (v := .ref (g 18)) (C := RX2) (T := TX2) (N := 3) hx hb hts iX2_ hown hK hw.1 3 rfl rfl 0 (by decide) w2_ (fun _ h9 => h9) rfl dX2_add_16 ?_
      refine lv_iload_n hx hb dX2_add_19 rfl (lv_at hl 0 rfl) ?_
      refine lv_iload_n hx hb dX2_add_20 rfl (lv_at hl 2 rfl) ?_
      refine mg_ast (wd := mg_cW g cI cZ) (σ := σ) (k := 18) (n := 6) hx hb hK hw 18 0 rfl (mg_cS_18 g cI cZ σ) rfl h dX2_add_21 (fun s1 h H locs hw => ?_)
      refine lv_aload_n hx hb dX2_add_22 rfl (lv_at hl 1 rfl) ?_
      refine va_get (D := D) (ci := 2) (v := .ref (g 19)) (C := RX2) (T := TX2) (N := 3) hx hb hts iX2_ hown hK hw.1 3 rfl rfl 1 (by decide) w3_ (fun _ h9 => h9) rfl dX2_add_23 ?_
      refine lv_iload_n hx hb dX2_add_26 rfl (lv_at hl 0 rfl) ?_
      refine lv_iload_n hx hb dX2_add_27 rfl (lv_at hl 3 rfl) ?_
      refine mg_ast (wd := mg_cW g cI cZ) (σ := s1) (k := 19) (n := 6) hx hb hK hw 19 0 rfl (mg_cS_19 g cI cZ s1) rfl h dX2_add_28 (fun s2 h H locs hw => ?_)
      refine lv_aload_n hx hb dX2_add_29 rfl (lv_at hl 1 rfl) ?_
      refine lv_dup hx hb dX2_add_30 rfl ?_
      refine va_get (D := D) (ci := 2) (v := .int (s2 3 2)) (C := RX2) (T := TX2) (N := 3) hx hb hts iX2_ hown hK hw.1 3 rfl rfl 2 (by decide) w0_ (fun _ h9 => h9) rfl dX2_add_31 ?_
      refine lv_iconst (v := 1) hx hb dX2_add_34 (by decide) ?_
      refine lv_iadd hx hb dX2_add_35 ?_
      refine mg_put (wd := mg_cW g cI cZ) (σ := s2) (v := ((s2 3 2) + 1)) (ci := 2) (C := RX2) (T := TX2) (N := 3) hx hb hts iX2_ tyX2 tyX2_ok nmX2 hown hK hw 3 3 rfl rfl 2 (by decide) w0_ (fun _ h9 => h9) rfl (by decide +kernel) (Nat.le_of_ble_eq_true rfl) rfl dX2_add_36 (fun H locs hw => ?_)
      refine lv_iload_n hx hb dX2_add_39 rfl (lv_at hl 0 rfl) ?_
      cases h
      exact mg_eI hx hb hr hlocks hw (Nat.zero_le _) (Nat.zero_le _) dX2_add_40
set_option maxHeartbeats 4000000 in
set_option maxRecDepth 100000 in
theorem k_X2_placeOf (l : Launch) (D : va_G) (o : Nat → Nat) (cI cZ : ClassId) (g : Nat → Nat) (sz : Nat) (σ : mg_St) (x1 : Int32) (y : Int32) (h : f_X2_placeOf σ x1 = some y) : mg_CT l yX2_placeOf wsX2_placeOf ({ frames := 1, cells := 0, slots := 0, locals := 21 } : Room) D [(cI, .int), (cZ, .boolean)] o (mg_cW g cI cZ σ) sz [.ref (g 3), .int x1] (some (.int y)) (mg_cW g cI cZ σ) 0 0 := by
  unfold mg_CT
  refine Met.ofW (cc := cX2_placeOf) (maxL := 2) (ret := (some .int)) (by decide) rfl ?_
  intro p e s m args below meth c s₁ B hml hv
  obtain ⟨rfl, hsz, hP, hK, hD0, hO⟩ := hv
  have hx := B.exec
  have hb := B.bytes
  have hr := B.returns
  have hts := atoms_spec (ws := wsX2_placeOf) B.pre
  have hown : s.vm.findClass RX2 = some m.cls := findClass_of_methodNamed B.named
  have hlocks := B.notSynchronized
  subst hsz
  have hD := hD0.self (sz := s.heap.size)
  generalize hAe : va_A (mg_cW g cI cZ σ) s.heap.size = A at hD hO ⊢
  have hA : ∀ q : Nat, s.heap.size ≤ q → A q := fun q h => by rw [← hAe]; exact Or.inr h
  have hw : mg_Wo D A s.heap s.heap [] (mg_cW g cI cZ σ) := ⟨hP, hD, va_S.rf⟩
  have G9 : CallFix p m c cX2_placeOf 2 s ([.ref (g 3), .int x1] : List Value).toArray wsX2_placeOf RX2 := ⟨hx, hb, hml, hown, hts⟩
  clear hP hD hD0 hAe
  obtain ⟨H, hHe⟩ : ∃ H : Heap, H = s.heap := ⟨_, rfl⟩
  have w0_ := hts (.fieldLink RX2 9 "MoonGate$Gates" "places" "[I") (by decide +kernel)
  have iX2_ : ∀ w ∈ wsX20, w ∈ wsX2_placeOf := (fun _ h => List.mem_cons_of_mem _ (List.mem_append_right _ h))
  have hl := lv_entry ([.ref (g 3), .int x1]) (n := 2) (Nat.le_of_ble_eq_true rfl)
  rw [lg_entry_eq]
  generalize (lg_sl ([.ref (g 3), .int x1]) ++ List.replicate (2 - (lg_sl ([.ref (g 3), .int x1])).length) Slot.unset).toArray = ls at hl ⊢
  have hl : lv_has ls 2 [(0, .ref (g 3)), (1, .int x1)] := hl
  unfold f_X2_placeOf at h
  revert hw
  intro hw
  suffices K_ : ∀ (H : Heap) (locs : List Loc), mg_Wo D A s.heap H locs (mg_cW g cI cZ σ) → W p l e (headSpec wsX2_placeOf ({ frames := 1, cells := 0, slots := 0, locals := 21 } : Room)).room s m ([.ref (g 3), .int x1] : List Value).toArray below meth c H locs 0 0 (MQ below (mg_Q D (mg_cW g cI cZ σ) A (some (.int y))) ([.ref (g 3), .int x1] : List Value).toArray s 0 0 A) (F0 m 0 ls []) from K_ _ _ hw
  clear hw hHe H
  intro H locs hw
  refine lv_aload_n hx hb dX2_placeOf_0 rfl (lv_at hl 0 rfl) ?_
  refine lv_iload_n hx hb dX2_placeOf_1 rfl (lv_at hl 1 rfl) ?_
  obtain ⟨y1, h9_, h⟩ := mg_bind h
  refine mg_k (rv := (some (.int y1))) (va_runV (As := [.int x1]) (rest := []) G9 (k_X2_isNumber l D o cI cZ g H.size σ x1 y1 h9_) (cwV 1 hts gX2_placeOf_X2_isNumber rfl rfl rfl (by decide +kernel) ⟨Nat.le_of_ble_eq_true rfl, Nat.le_of_ble_eq_true rfl⟩) (mg_preV hK hO hA hw (q0 := 3) rfl rfl) rfl rfl hl.1 rfl (lv_room (Nat.le_of_ble_eq_true rfl)) dX2_placeOf_2 ⟨Nat.zero_le _, Nat.zero_le _⟩) hw hA (fun H locs hw => ?_)
  clear h9_
  refine mg_if_eq (tgt := 17) hx hb h dX2_placeOf_5 (by decide) (fun h => ?_) (fun h => ?_)
  · refine lv_iconst (v := (-1)) hx hb dX2_placeOf_17 (by decide) ?_
    cases h
    exact mg_eI hx hb hr hlocks hw (Nat.zero_le _) (Nat.zero_le _) dX2_placeOf_18
  · refine lv_aload_n hx hb dX2_placeOf_8 rfl (lv_at hl 0 rfl) ?_
    refine va_get (D := D) (ci := 2) (v := .ref (g 18)) (C := RX2) (T := TX2) (N := 3) hx hb hts iX2_ hown hK hw.1 3 rfl rfl 0 (by decide) w0_ (fun _ h9 => h9) rfl dX2_placeOf_9 ?_
    refine lv_iload_n hx hb dX2_placeOf_12 rfl (lv_at hl 1 rfl) ?_
    refine mg_ald (σ := σ) (k := 18) (n := 6) hx hb hK hw 18 0 rfl rfl h dX2_placeOf_13 (fun v2 h => ?_)
    refine lv_goto (tgt := 18) hx hb dX2_placeOf_14 (by decide) ?_
    cases h
    exact mg_eI hx hb hr hlocks hw (Nat.zero_le _) (Nat.zero_le _) dX2_placeOf_18
set_option maxHeartbeats 4000000 in
set_option maxRecDepth 100000 in
theorem k_X2_directionOf (l : Launch) (D : va_G) (o : Nat → Nat) (cI cZ : ClassId) (g : Nat → Nat) (sz : Nat) (σ : mg_St) (x1 : Int32) (y : Int32) (h : f_X2_directionOf σ x1 = some y) : mg_CT l yX2_directionOf wsX2_directionOf ({ frames := 1, cells := 0, slots := 0, locals := 21 } : Room) D [(cI, .int), (cZ, .boolean)] o (mg_cW g cI cZ σ) sz [.ref (g 3), .int x1] (some (.int y)) (mg_cW g cI cZ σ) 0 0 := by
  unfold mg_CT
  refine Met.ofW (cc := cX2_directionOf) (maxL := 2) (ret := (some .int)) (by decide) rfl ?_
  intro p e s m args below meth c s₁ B hml hv
  obtain ⟨rfl, hsz, hP, hK, hD0, hO⟩ := hv
  have hx := B.exec
  have hb := B.bytes
  have hr := B.returns
  have hts := atoms_spec (ws := wsX2_directionOf) B.pre
  have hown : s.vm.findClass RX2 = some m.cls := findClass_of_methodNamed B.named
  have hlocks := B.notSynchronized
  subst hsz
  have hD := hD0.self (sz := s.heap.size)
  generalize hAe : va_A (mg_cW g cI cZ σ) s.heap.size = A at hD hO ⊢
  have hA : ∀ q : Nat, s.heap.size ≤ q → A q := fun q h => by rw [← hAe]; exact Or.inr h
  have hw : mg_Wo D A s.heap s.heap [] (mg_cW g cI cZ σ) := ⟨hP, hD, va_S.rf⟩
  have G9 : CallFix p m c cX2_directionOf 2 s ([.ref (g 3), .int x1] : List Value).toArray wsX2_directionOf RX2 := ⟨hx, hb, hml, hown, hts⟩
  clear hP hD hD0 hAe
  obtain ⟨H, hHe⟩ : ∃ H : Heap, H = s.heap := ⟨_, rfl⟩
  have w0_ := hts (.fieldLink RX2 15 "MoonGate$Gates" "directions" "[I") (by decide +kernel)
  have iX2_ : ∀ w ∈ wsX20, w ∈ wsX2_directionOf := (fun _ h => List.mem_cons_of_mem _ (List.mem_append_right _ h))
  have hl := lv_entry ([.ref (g 3), .int x1]) (n := 2) (Nat.le_of_ble_eq_true rfl)
  rw [lg_entry_eq]
  generalize (lg_sl ([.ref (g 3), .int x1]) ++ List.replicate (2 - (lg_sl ([.ref (g 3), .int x1])).length) Slot.unset).toArray = ls at hl ⊢
  have hl : lv_has ls 2 [(0, .ref (g 3)), (1, .int x1)] := hl
  unfold f_X2_directionOf at h
  revert hw
  intro hw
  suffices K_ : ∀ (H : Heap) (locs : List Loc), mg_Wo D A s.heap H locs (mg_cW g cI cZ σ) → W p l e (headSpec wsX2_directionOf ({ frames := 1, cells := 0, slots := 0, locals := 21 } : Room)).room s m ([.ref (g 3), .int x1] : List Value).toArray below meth c H locs 0 0 (MQ below (mg_Q D (mg_cW g cI cZ σ) A (some (.int y))) ([.ref (g 3), .int x1] : List Value).toArray s 0 0 A) (F0 m 0 ls []) from K_ _ _ hw
  clear hw hHe H
  intro H locs hw
  refine lv_aload_n hx hb dX2_directionOf_0 rfl (lv_at hl 0 rfl) ?_
  refine lv_iload_n hx hb dX2_directionOf_1 rfl (lv_at hl 1 rfl) ?_
  obtain ⟨y1, h9_, h⟩ := mg_bind h
  refine mg_k (rv := (some (.int y1))) (va_runV (As := [.int x1]) (rest := []) G9 (k_X2_isNumber l D o cI cZ g H.size σ x1 y1 h9_) (cwV 1 hts gX2_directionOf_X2_isNumber rfl rfl rfl (by decide +kernel) ⟨Nat.le_of_ble_eq_true rfl, Nat.le_of_ble_eq_true rfl⟩) (mg_preV hK hO hA hw (q0 := 3) rfl rfl) rfl rfl hl.1 rfl (lv_room (Nat.le_of_ble_eq_true rfl)) dX2_directionOf_2 ⟨Nat.zero_le _, Nat.zero_le _⟩) hw hA (fun H locs hw => ?_)
  clear h9_
  refine mg_if_eq (tgt := 17) hx hb h dX2_directionOf_5 (by decide) (fun h => ?_) (fun h => ?_)
  · refine lv_iconst (v := (-1)) hx hb dX2_directionOf_17 (by decide) ?_
    cases h
    exact mg_eI hx hb hr hlocks hw (Nat.zero_le _) (Nat.zero_le _) dX2_directionOf_18
  · refine lv_aload_n hx hb dX2_directionOf_8 rfl (lv_at hl 0 rfl) ?_
    refine va_get (D := D) (ci := 2) (v := .ref (g 19)) (C := RX2) (T := TX2) (N := 3) hx hb hts iX2_ hown hK hw.1 3 rfl rfl 1 (by decide) w0_ (fun _ h9 => h9) rfl dX2_directionOf_9 ?_
    refine lv_iload_n hx hb dX2_directionOf_12 rfl (lv_at hl 1 rfl) ?_
    refine mg_ald (σ := σ) (k := 19) (n := 6) hx hb hK hw 19 0 rfl rfl h dX2_directionOf_13 (fun v2 h => ?_)
    refine lv_goto (tgt := 18) hx hb dX2_directionOf_14 (by decide) ?_
    cases h
    exact mg_eI hx hb hr hlocks hw (Nat.zero_le _) (Nat.zero_le _) dX2_directionOf_18
set_option maxHeartbeats 4000000 in
set_option maxRecDepth 100000 in
theorem k_X3_isNumber (l : Launch) (D : va_G) (o : Nat → Nat) (cI cZ : ClassId) (g : Nat → Nat) (sz : Nat) (σ : mg_St) (x1 : Int32) (y : Int32) (h : f_X3_isNumber σ x1 = some y) : mg_CT l yX3_isNumber wsX3_isNumber ({ frames := 0, cells := 0, slots := 0, locals := 0 } : Room) D [(cI, .int), (cZ, .boolean)] o (mg_cW g cI cZ σ) sz [.ref (g 4), .int x1] (some (.int y)) (mg_cW g cI cZ σ) 0 0 := by
  unfold mg_CT
  refine Met.ofW (cc := cX3_isNumber) (maxL := 2) (ret := (some .boolean)) (by decide) rfl ?_
  intro p e s m args below meth c s₁ B hml hv
  obtain ⟨rfl, hsz, hP, hK, hD0, hO⟩ := hv
  have hx := B.exec
  have hb := B.bytes
  have hr := B.returns
  have hts := atoms_spec (ws := wsX3_isNumber) B.pre
  have hown : s.vm.findClass RX3 = some m.cls := findClass_of_methodNamed B.named
  have hlocks := B.notSynchronized
  subst hsz
  have hD := hD0.self (sz := s.heap.size)
  generalize hAe : va_A (mg_cW g cI cZ σ) s.heap.size = A at hD hO ⊢
  have hA : ∀ q : Nat, s.heap.size ≤ q → A q := fun q h => by rw [← hAe]; exact Or.inr h
  have hw : mg_Wo D A s.heap s.heap [] (mg_cW g cI cZ σ) := ⟨hP, hD, va_S.rf⟩
  have G9 : CallFix p m c cX3_isNumber 2 s ([.ref (g 4), .int x1] : List Value).toArray wsX3_isNumber RX3 := ⟨hx, hb, hml, hown, hts⟩
  clear hP hD hD0 hAe
  obtain ⟨H, hHe⟩ : ∃ H : Heap, H = s.heap := ⟨_, rfl⟩
  have w0_ := hts (.fieldLink RX3 15 "MoonGate$Poets" "many" "I") (by decide +kernel)
  have iX3_ : ∀ w ∈ wsX30, w ∈ wsX3_isNumber := (fun _ h => List.mem_cons_of_mem _ (List.mem_append_right _ h))
  have hl := lv_entry ([.ref (g 4), .int x1]) (n := 2) (Nat.le_of_ble_eq_true rfl)
  rw [lg_entry_eq]
  generalize (lg_sl ([.ref (g 4), .int x1]) ++ List.replicate (2 - (lg_sl ([.ref (g 4), .int x1])).length) Slot.unset).toArray = ls at hl ⊢
  have hl : lv_has ls 2 [(0, .ref (g 4)), (1, .int x1)] := hl
  unfold f_X3_isNumber at h
  revert hw
  intro hw
  suffices K_ : ∀ (H : Heap) (locs : List Loc), mg_Wo D A s.heap H locs (mg_cW g cI cZ σ) → W p l e (headSpec wsX3_isNumber ({ frames := 0, cells := 0, slots := 0, locals := 0 } : Room)).room s m ([.ref (g 4), .int x1] : List Value).toArray below meth c H locs 0 0 (MQ below (mg_Q D (mg_cW g cI cZ σ) A (some (.int y))) ([.ref (g 4), .int x1] : List Value).toArray s 0 0 A) (F0 m 0 ls []) from K_ _ _ hw
  clear hw hHe H
  intro H locs hw
  refine lv_iload_n hx hb dX3_isNumber_0 rfl (lv_at hl 1 rfl) ?_
  refine mg_if_lt (tgt := 21) hx hb h dX3_isNumber_1 (by decide) (fun h => ?_) (fun h => ?_)
  · refine lv_iconst (v := 0) hx hb dX3_isNumber_21 (by decide) ?_
    cases h
    exact mg_eZ hx hb hr hlocks hw rfl (Nat.zero_le _) (Nat.zero_le _) dX3_isNumber_22
  · refine lv_iload_n hx hb dX3_isNumber_4 rfl (lv_at hl 1 rfl) ?_
    refine lv_aload_n hx hb dX3_isNumber_5 rfl (lv_at hl 0 rfl) ?_
    refine va_get (D := D) (ci := 3) (v := .int (σ 4 1)) (C := RX3) (T := TX3) (N := 2) hx hb hts iX3_ hown hK hw.1 4 rfl rfl 1 (by decide) w0_ (fun _ h9 => h9) rfl dX3_isNumber_6 ?_
    refine mg_icmp_ge (tgt := 21) hx hb h dX3_isNumber_9 (by decide) (fun h => ?_) (fun h => ?_)
    · refine lv_iconst (v := 0) hx hb dX3_isNumber_21 (by decide) ?_
      cases h
      exact mg_eZ hx hb hr hlocks hw rfl (Nat.zero_le _) (Nat.zero_le _) dX3_isNumber_22
    · refine lv_iload_n hx hb dX3_isNumber_12 rfl (lv_at hl 1 rfl) ?_
      refine lv_iconst (v := 5) hx hb dX3_isNumber_13 (by decide) ?_
      refine mg_icmp_ge (tgt := 21) hx hb h dX3_isNumber_14 (by decide) (fun h => ?_) (fun h => ?_)
      · refine lv_iconst (v := 0) hx hb dX3_isNumber_21 (by decide) ?_
        cases h
        exact mg_eZ hx hb hr hlocks hw rfl (Nat.zero_le _) (Nat.zero_le _) dX3_isNumber_22
      · refine lv_iconst (v := 1) hx hb dX3_isNumber_17 (by decide) ?_
        refine lv_goto (tgt := 22) hx hb dX3_isNumber_18 (by decide) ?_
        cases h
        exact mg_eZ hx hb hr hlocks hw rfl (Nat.zero_le _) (Nat.zero_le _) dX3_isNumber_22
set_option maxHeartbeats 4000000 in
set_option maxRecDepth 100000 in
theorem k_X3_add (l : Launch) (D : va_G) (o : Nat → Nat) (cI cZ : ClassId) (g : Nat → Nat) (sz : Nat) (σ : mg_St) (x1 : Int32) (y : (Int32 × mg_St)) (h : f_X3_add σ x1 = some y) : mg_CT l yX3_add wsX3_add ({ frames := 0, cells := 0, slots := 0, locals := 0 } : Room) D [(cI, .int), (cZ, .boolean)] o (mg_cW g cI cZ σ) sz [.ref (g 4), .int x1] (some (.int y.1)) (mg_cW g cI cZ y.2) 0 0 := by
  unfold mg_CT
  refine Met.ofW (cc := cX3_add) (maxL := 3) (ret := (some .int)) (by decide) rfl ?_
  intro p e s m args below meth c s₁ B hml hv
  obtain ⟨rfl, hsz, hP, hK, hD0, hO⟩ := hv
  have hx := B.exec
  have hb := B.bytes
  have hr := B.returns
  have hts := atoms_spec (ws := wsX3_add) B.pre
  have hown : s.vm.findClass RX3 = some m.cls := findClass_of_methodNamed B.named
  have hlocks := B.notSynchronized
  subst hsz
  have hD := hD0.self (sz := s.heap.size)
  generalize hAe : va_A (mg_cW g cI cZ σ) s.heap.size = A at hD hO ⊢
  have hA : ∀ q : Nat, s.heap.size ≤ q → A q := fun q h => by rw [← hAe]; exact Or.inr h
  have hw : mg_Wo D A s.heap s.heap [] (mg_cW g cI cZ σ) := ⟨hP, hD, va_S.rf⟩
  have G9 : CallFix p m c cX3_add 3 s ([.ref (g 4), .int x1] : List Value).toArray wsX3_add RX3 := ⟨hx, hb, hml, hown, hts⟩
  clear hP hD hD0 hAe
  obtain ⟨H, hHe⟩ : ∃ H : Heap, H = s.heap := ⟨_, rfl⟩
  have w0_ := hts (.fieldLink RX3 15 "MoonGate$Poets" "many" "I") (by decide +kernel)
  have iX3_ : ∀ w ∈ wsX30, w ∈ wsX3_add := (fun _ h => List.mem_cons_of_mem _ (List.mem_append_right _ h))
  have w2_ := hts (.fieldLink RX3 9 "MoonGate$Poets" "gatesOf" "[I") (by decide +kernel)
  have hl := lv_entry ([.ref (g 4), .int x1]) (n := 3) (Nat.le_of_ble_eq_true rfl)
  rw [lg_entry_eq]
  generalize (lg_sl ([.ref (g 4), .int x1]) ++ List.replicate (3 - (lg_sl ([.ref (g 4), .int x1])).length) Slot.unset).toArray = ls at hl ⊢
  have hl : lv_has ls 3 [(0, .ref (g 4)), (1, .int x1)] := hl
  unfold f_X3_add at h
  revert hw
  intro hw
  suffices K_ : ∀ (H : Heap) (locs : List Loc), mg_Wo D A s.heap H locs (mg_cW g cI cZ σ) → W p l e (headSpec wsX3_add ({ frames := 0, cells := 0, slots := 0, locals := 0 } : Room)).room s m ([.ref (g 4), .int x1] : List Value).toArray below meth c H locs 0 0 (MQ below (mg_Q D (mg_cW g cI cZ y.2) A (some (.int y.1))) ([.ref (g 4), .int x1] : List Value).toArray s 0 0 A) (F0 m 0 ls []) from K_ _ _ hw
  clear hw hHe H
  intro H locs hw
  refine lv_aload_n hx hb dX3_add_0 rfl (lv_at hl 0 rfl) ?_
  refine va_get (D := D) (ci := 3) (v := .int (σ 4 1)) (C := RX3) (T := TX3) (N := 2) hx hb hts iX3_ hown hK hw.1 4 rfl rfl 1 (by decide) w0_ (fun _ h9 => h9) rfl dX3_add_1 ?_
  refine lv_istore_n (lv' := [(2, .int (σ 4 1)), (0, .ref (g 4)), (1, .int x1)]) hx hb dX3_add_4 rfl hl (by decide) rfl (fun ls hl => ?_)
  refine lv_iload_n hx hb dX3_add_5 rfl (lv_at hl 0 rfl) ?_
  refine mg_if_lt (tgt := 31) hx hb h dX3_add_6 (by decide) (fun h => ?_) (fun h => ?_)
  · refine lv_iload_n hx hb dX3_add_31 rfl (lv_at hl 0 rfl) ?_
    cases h
    exact mg_eI hx hb hr hlocks hw (Nat.zero_le _) (Nat.zero_le _) dX3_add_32
  · refine lv_iload_n hx hb dX3_add_9 rfl (lv_at hl 0 rfl) ?_
    refine lv_iconst (v := 5) hx hb dX3_add_10 (by decide) ?_
    refine mg_icmp_ge (tgt := 31) hx hb h dX3_add_11 (by decide) (fun h => ?_) (fun h => ?_)
    · refine lv_iload_n hx hb dX3_add_31 rfl (lv_at hl 0 rfl) ?_
      cases h
      exact mg_eI hx hb hr hlocks hw (Nat.zero_le _) (Nat.zero_le _) dX3_add_32
    · refine lv_aload_n hx hb dX3_add_14 rfl (lv_at hl 1 rfl) ?_
      refine va_get (D := D) (ci := 3) (v := .ref (g 20)) (C := RX3) (T := TX3) (N := 2) hx hb hts iX3_ hown hK hw.1 4 rfl rfl 0 (by decide) w2_ (fun _ h9 => h9) rfl dX3_add_15 ?_
      refine lv_iload_n hx hb dX3_add_18 rfl (lv_at hl 0 rfl) ?_
      refine lv_iload_n hx hb dX3_add_19 rfl (lv_at hl 2 rfl) ?_
      refine mg_ast (wd := mg_cW g cI cZ) (σ := σ) (k := 20) (n := 5) hx hb hK hw 20 0 rfl (mg_cS_20 g cI cZ σ) rfl h dX3_add_20 (fun s1 h H locs hw => ?_)
      refine lv_aload_n hx hb dX3_add_21 rfl (lv_at hl 1 rfl) ?_
      refine lv_dup hx hb dX3_add_22 rfl ?_
      refine va_get (D := D) (ci := 3) (v := .int (s1 4 1)) (C := RX3) (T := TX3) (N := 2) hx hb hts iX3_ hown hK hw.1 4 rfl rfl 1 (by decide) w0_ (fun _ h9 => h9) rfl dX3_add_23 ?_
      refine lv_iconst (v := 1) hx hb dX3_add_26 (by decide) ?_
      refine lv_iadd hx hb dX3_add_27 ?_
      refine mg_put (wd := mg_cW g cI cZ) (σ := s1) (v := ((s1 4 1) + 1)) (ci := 3) (C := RX3) (T := TX3) (N := 2) hx hb hts iX3_ tyX3 tyX3_ok nmX3 hown hK hw 4 4 rfl rfl 1 (by decide) w0_ (fun _ h9 => h9) rfl (by decide +kernel) (Nat.le_of_ble_eq_true rfl) rfl dX3_add_28 (fun H locs hw => ?_)
      refine lv_iload_n hx hb dX3_add_31 rfl (lv_at hl 0 rfl) ?_
      cases h
      exact mg_eI hx hb hr hlocks hw (Nat.zero_le _) (Nat.zero_le _) dX3_add_32
set_option maxHeartbeats 4000000 in
set_option maxRecDepth 100000 in
theorem k_X3_gateOf (l : Launch) (D : va_G) (o : Nat → Nat) (cI cZ : ClassId) (g : Nat → Nat) (sz : Nat) (σ : mg_St) (x1 : Int32) (y : Int32) (h : f_X3_gateOf σ x1 = some y) : mg_CT l yX3_gateOf wsX3_gateOf ({ frames := 1, cells := 0, slots := 0, locals := 21 } : Room) D [(cI, .int), (cZ, .boolean)] o (mg_cW g cI cZ σ) sz [.ref (g 4), .int x1] (some (.int y)) (mg_cW g cI cZ σ) 0 0 := by
  unfold mg_CT
  refine Met.ofW (cc := cX3_gateOf) (maxL := 2) (ret := (some .int)) (by decide) rfl ?_
  intro p e s m args below meth c s₁ B hml hv
  obtain ⟨rfl, hsz, hP, hK, hD0, hO⟩ := hv
  have hx := B.exec
  have hb := B.bytes
  have hr := B.returns
  have hts := atoms_spec (ws := wsX3_gateOf) B.pre
  have hown : s.vm.findClass RX3 = some m.cls := findClass_of_methodNamed B.named
  have hlocks := B.notSynchronized
  subst hsz
  have hD := hD0.self (sz := s.heap.size)
  generalize hAe : va_A (mg_cW g cI cZ σ) s.heap.size = A at hD hO ⊢
  have hA : ∀ q : Nat, s.heap.size ≤ q → A q := fun q h => by rw [← hAe]; exact Or.inr h
  have hw : mg_Wo D A s.heap s.heap [] (mg_cW g cI cZ σ) := ⟨hP, hD, va_S.rf⟩
  have G9 : CallFix p m c cX3_gateOf 2 s ([.ref (g 4), .int x1] : List Value).toArray wsX3_gateOf RX3 := ⟨hx, hb, hml, hown, hts⟩
  clear hP hD hD0 hAe
  obtain ⟨H, hHe⟩ : ∃ H : Heap, H = s.heap := ⟨_, rfl⟩
  have w0_ := hts (.fieldLink RX3 9 "MoonGate$Poets" "gatesOf" "[I") (by decide +kernel)
  have iX3_ : ∀ w ∈ wsX30, w ∈ wsX3_gateOf := (fun _ h => List.mem_cons_of_mem _ (List.mem_append_right _ h))
  have hl := lv_entry ([.ref (g 4), .int x1]) (n := 2) (Nat.le_of_ble_eq_true rfl)
  rw [lg_entry_eq]
  generalize (lg_sl ([.ref (g 4), .int x1]) ++ List.replicate (2 - (lg_sl ([.ref (g 4), .int x1])).length) Slot.unset).toArray = ls at hl ⊢
  have hl : lv_has ls 2 [(0, .ref (g 4)), (1, .int x1)] := hl
  unfold f_X3_gateOf at h
  revert hw
  intro hw
  suffices K_ : ∀ (H : Heap) (locs : List Loc), mg_Wo D A s.heap H locs (mg_cW g cI cZ σ) → W p l e (headSpec wsX3_gateOf ({ frames := 1, cells := 0, slots := 0, locals := 21 } : Room)).room s m ([.ref (g 4), .int x1] : List Value).toArray below meth c H locs 0 0 (MQ below (mg_Q D (mg_cW g cI cZ σ) A (some (.int y))) ([.ref (g 4), .int x1] : List Value).toArray s 0 0 A) (F0 m 0 ls []) from K_ _ _ hw
  clear hw hHe H
  intro H locs hw
  refine lv_aload_n hx hb dX3_gateOf_0 rfl (lv_at hl 0 rfl) ?_
  refine lv_iload_n hx hb dX3_gateOf_1 rfl (lv_at hl 1 rfl) ?_
  obtain ⟨y1, h9_, h⟩ := mg_bind h
  refine mg_k (rv := (some (.int y1))) (va_runV (As := [.int x1]) (rest := []) G9 (k_X3_isNumber l D o cI cZ g H.size σ x1 y1 h9_) (cwV 1 hts gX3_gateOf_X3_isNumber rfl rfl rfl (by decide +kernel) ⟨Nat.le_of_ble_eq_true rfl, Nat.le_of_ble_eq_true rfl⟩) (mg_preV hK hO hA hw (q0 := 4) rfl rfl) rfl rfl hl.1 rfl (lv_room (Nat.le_of_ble_eq_true rfl)) dX3_gateOf_2 ⟨Nat.zero_le _, Nat.zero_le _⟩) hw hA (fun H locs hw => ?_)
  clear h9_
  refine mg_if_eq (tgt := 17) hx hb h dX3_gateOf_5 (by decide) (fun h => ?_) (fun h => ?_)
  · refine lv_iconst (v := (-1)) hx hb dX3_gateOf_17 (by decide) ?_
    cases h
    exact mg_eI hx hb hr hlocks hw (Nat.zero_le _) (Nat.zero_le _) dX3_gateOf_18
  · refine lv_aload_n hx hb dX3_gateOf_8 rfl (lv_at hl 0 rfl) ?_
    refine va_get (D := D) (ci := 3) (v := .ref (g 20)) (C := RX3) (T := TX3) (N := 2) hx hb hts iX3_ hown hK hw.1 4 rfl rfl 0 (by decide) w0_ (fun _ h9 => h9) rfl dX3_gateOf_9 ?_
    refine lv_iload_n hx hb dX3_gateOf_12 rfl (lv_at hl 1 rfl) ?_
    refine mg_ald (σ := σ) (k := 20) (n := 5) hx hb hK hw 20 0 rfl rfl h dX3_gateOf_13 (fun v2 h => ?_)
    refine lv_goto (tgt := 18) hx hb dX3_gateOf_14 (by decide) ?_
    cases h
    exact mg_eI hx hb hr hlocks hw (Nat.zero_le _) (Nat.zero_le _) dX3_gateOf_18
set_option maxHeartbeats 4000000 in
set_option maxRecDepth 100000 in
theorem k_X3_setGate (l : Launch) (D : va_G) (o : Nat → Nat) (cI cZ : ClassId) (g : Nat → Nat) (sz : Nat) (σ : mg_St) (x1 : Int32) (x2 : Int32) (y : mg_St) (h : f_X3_setGate σ x1 x2 = some y) : mg_CT l yX3_setGate wsX3_setGate ({ frames := 1, cells := 0, slots := 0, locals := 21 } : Room) D [(cI, .int), (cZ, .boolean)] o (mg_cW g cI cZ σ) sz [.ref (g 4), .int x1, .int x2] none (mg_cW g cI cZ y) 0 0 := by
  unfold mg_CT
  refine Met.ofW (cc := cX3_setGate) (maxL := 3) (ret := none) (by decide) rfl ?_
  intro p e s m args below meth c s₁ B hml hv
  obtain ⟨rfl, hsz, hP, hK, hD0, hO⟩ := hv
  have hx := B.exec
  have hb := B.bytes
  have hr := B.returns
  have hts := atoms_spec (ws := wsX3_setGate) B.pre
  have hown : s.vm.findClass RX3 = some m.cls := findClass_of_methodNamed B.named
  have hlocks := B.notSynchronized
  subst hsz
  have hD := hD0.self (sz := s.heap.size)
  generalize hAe : va_A (mg_cW g cI cZ σ) s.heap.size = A at hD hO ⊢
  have hA : ∀ q : Nat, s.heap.size ≤ q → A q := fun q h => by rw [← hAe]; exact Or.inr h
  have hw : mg_Wo D A s.heap s.heap [] (mg_cW g cI cZ σ) := ⟨hP, hD, va_S.rf⟩
  have G9 : CallFix p m c cX3_setGate 3 s ([.ref (g 4), .int x1, .int x2] : List Value).toArray wsX3_setGate RX3 := ⟨hx, hb, hml, hown, hts⟩
  clear hP hD hD0 hAe
  obtain ⟨H, hHe⟩ : ∃ H : Heap, H = s.heap := ⟨_, rfl⟩
  have w0_ := hts (.fieldLink RX3 9 "MoonGate$Poets" "gatesOf" "[I") (by decide +kernel)
  have iX3_ : ∀ w ∈ wsX30, w ∈ wsX3_setGate := (fun _ h => List.mem_cons_of_mem _ (List.mem_append_right _ h))
  have hl := lv_entry ([.ref (g 4), .int x1, .int x2]) (n := 3) (Nat.le_of_ble_eq_true rfl)
  rw [lg_entry_eq]
  generalize (lg_sl ([.ref (g 4), .int x1, .int x2]) ++ List.replicate (3 - (lg_sl ([.ref (g 4), .int x1, .int x2])).length) Slot.unset).toArray = ls at hl ⊢
  have hl : lv_has ls 3 [(0, .ref (g 4)), (1, .int x1), (2, .int x2)] := hl
  unfold f_X3_setGate at h
  revert hw
  intro hw
  suffices K_ : ∀ (H : Heap) (locs : List Loc), mg_Wo D A s.heap H locs (mg_cW g cI cZ σ) → W p l e (headSpec wsX3_setGate ({ frames := 1, cells := 0, slots := 0, locals := 21 } : Room)).room s m ([.ref (g 4), .int x1, .int x2] : List Value).toArray below meth c H locs 0 0 (MQ below (mg_Q D (mg_cW g cI cZ y) A none) ([.ref (g 4), .int x1, .int x2] : List Value).toArray s 0 0 A) (F0 m 0 ls []) from K_ _ _ hw
  clear hw hHe H
  intro H locs hw
  refine lv_aload_n hx hb dX3_setGate_0 rfl (lv_at hl 0 rfl) ?_
  refine lv_iload_n hx hb dX3_setGate_1 rfl (lv_at hl 1 rfl) ?_
  obtain ⟨y1, h9_, h⟩ := mg_bind h
  refine mg_k (rv := (some (.int y1))) (va_runV (As := [.int x1]) (rest := []) G9 (k_X3_isNumber l D o cI cZ g H.size σ x1 y1 h9_) (cwV 1 hts gX3_setGate_X3_isNumber rfl rfl rfl (by decide +kernel) ⟨Nat.le_of_ble_eq_true rfl, Nat.le_of_ble_eq_true rfl⟩) (mg_preV hK hO hA hw (q0 := 4) rfl rfl) rfl rfl hl.1 rfl (lv_room (Nat.le_of_ble_eq_true rfl)) dX3_setGate_2 ⟨Nat.zero_le _, Nat.zero_le _⟩) hw hA (fun H locs hw => ?_)
  clear h9_
  refine mg_if_eq (tgt := 15) hx hb h dX3_setGate_5 (by decide) (fun h => ?_) (fun h => ?_)
  · cases h
    exact mg_eV hx hb hr hlocks hw (Nat.zero_le _) (Nat.zero_le _) dX3_setGate_15
  · refine lv_aload_n hx hb dX3_setGate_8 rfl (lv_at hl 0 rfl) ?_
    refine va_get (D := D) (ci := 3) (v := .ref (g 20)) (C := RX3) (T := TX3) (N := 2) hx hb hts iX3_ hown hK hw.1 4 rfl rfl 0 (by decide) w0_ (fun _ h9 => h9) rfl dX3_setGate_9 ?_
    refine lv_iload_n hx hb dX3_setGate_12 rfl (lv_at hl 1 rfl) ?_
    refine lv_iload_n hx hb dX3_setGate_13 rfl (lv_at hl 2 rfl) ?_
    refine mg_ast (wd := mg_cW g cI cZ) (σ := σ) (k := 20) (n := 5) hx hb hK hw 20 0 rfl (mg_cS_20 g cI cZ σ) rfl h dX3_setGate_14 (fun s2 h H locs hw => ?_)
    cases h
    exact mg_eV hx hb hr hlocks hw (Nat.zero_le _) (Nat.zero_le _) dX3_setGate_15
set_option maxHeartbeats 4000000 in
set_option maxRecDepth 100000 in
theorem k_X3_manyAt (l : Launch) (D : va_G) (o : Nat → Nat) (cI cZ : ClassId) (g : Nat → Nat) (sz : Nat) (σ : mg_St) (x1 : Int32) (y : Int32) (h : f_X3_manyAt σ x1 = some y) : mg_CT l yX3_manyAt wsX3_manyAt ({ frames := 2, cells := 0, slots := 0, locals := 42 } : Room) D [(cI, .int), (cZ, .boolean)] o (mg_cW g cI cZ σ) sz [.ref (g 4), .int x1] (some (.int y)) (mg_cW g cI cZ σ) 0 0 := by
  unfold mg_CT
  refine Met.ofW (cc := cX3_manyAt) (maxL := 4) (ret := (some .int)) (by decide) rfl ?_
  intro p e s m args below meth c s₁ B hml hv
  obtain ⟨rfl, hsz, hP, hK, hD0, hO⟩ := hv
  have hx := B.exec
  have hb := B.bytes
  have hr := B.returns
  have hts := atoms_spec (ws := wsX3_manyAt) B.pre
  have hown : s.vm.findClass RX3 = some m.cls := findClass_of_methodNamed B.named
  have hlocks := B.notSynchronized
  subst hsz
  have hD := hD0.self (sz := s.heap.size)
  generalize hAe : va_A (mg_cW g cI cZ σ) s.heap.size = A at hD hO ⊢
  have hA : ∀ q : Nat, s.heap.size ≤ q → A q := fun q h => by rw [← hAe]; exact Or.inr h
  have hw : mg_Wo D A s.heap s.heap [] (mg_cW g cI cZ σ) := ⟨hP, hD, va_S.rf⟩
  have G9 : CallFix p m c cX3_manyAt 4 s ([.ref (g 4), .int x1] : List Value).toArray wsX3_manyAt RX3 := ⟨hx, hb, hml, hown, hts⟩
  clear hP hD hD0 hAe
  obtain ⟨H, hHe⟩ : ∃ H : Heap, H = s.heap := ⟨_, rfl⟩
  have w0_ := hts (.fieldLink RX3 15 "MoonGate$Poets" "many" "I") (by decide +kernel)
  have iX3_ : ∀ w ∈ wsX30, w ∈ wsX3_manyAt := (fun _ h => List.mem_cons_of_mem _ (List.mem_append_right _ h))
  have hl := lv_entry ([.ref (g 4), .int x1]) (n := 4) (Nat.le_of_ble_eq_true rfl)
  rw [lg_entry_eq]
  generalize (lg_sl ([.ref (g 4), .int x1]) ++ List.replicate (4 - (lg_sl ([.ref (g 4), .int x1])).length) Slot.unset).toArray = ls at hl ⊢
  have hl : lv_has ls 4 [(0, .ref (g 4)), (1, .int x1)] := hl
  unfold f_X3_manyAt at h
  revert hw
  intro hw
  suffices K_ : ∀ (H : Heap) (locs : List Loc), mg_Wo D A s.heap H locs (mg_cW g cI cZ σ) → W p l e (headSpec wsX3_manyAt ({ frames := 2, cells := 0, slots := 0, locals := 42 } : Room)).room s m ([.ref (g 4), .int x1] : List Value).toArray below meth c H locs 0 0 (MQ below (mg_Q D (mg_cW g cI cZ σ) A (some (.int y))) ([.ref (g 4), .int x1] : List Value).toArray s 0 0 A) (F0 m 0 ls []) from K_ _ _ hw
  clear hw hHe H
  intro H locs hw
  refine lv_iconst (v := 0) hx hb dX3_manyAt_0 (by decide) ?_
  refine lv_istore_n (lv' := [(2, .int 0), (0, .ref (g 4)), (1, .int x1)]) hx hb dX3_manyAt_1 rfl hl (by decide) rfl (fun ls hl => ?_)
  refine lv_iconst (v := 0) hx hb dX3_manyAt_2 (by decide) ?_
  refine lv_istore_n (lv' := [(3, .int 0), (2, .int 0), (0, .ref (g 4)), (1, .int x1)]) hx hb dX3_manyAt_3 rfl hl (by decide) rfl (fun ls hl => ?_)
  have L4_ : ∀ (n : Nat) (x2_4 : Int32) (x3_4 : Int32) (y4_ : Int32 × Int32), f_X3_manyAt_4 σ x1 n x2_4 x3_4 = some y4_ → (∀ (H : Heap) (locs : List Loc) (ls : Array Slot), mg_Wo D A s.heap H locs (mg_cW g cI cZ σ) → lv_has ls 4 [(0, .ref (g 4)), (1, .int x1), (2, .int y4_.1), (3, .int y4_.2)] → W p l e (headSpec wsX3_manyAt ({ frames := 2, cells := 0, slots := 0, locals := 42 } : Room)).room s m ([.ref (g 4), .int x1] : List Value).toArray below meth c H locs 0 0 (MQ below (mg_Q D (mg_cW g cI cZ σ) A (some (.int y))) ([.ref (g 4), .int x1] : List Value).toArray s 0 0 A) (F0 m 30 ls [])) → ∀ (H : Heap) (locs : List Loc) (ls : Array Slot), mg_Wo D A s.heap H locs (mg_cW g cI cZ σ) → lv_has ls 4 [(0, .ref (g 4)), (1, .int x1), (2, .int x2_4), (3, .int x3_4)] → W p l e (headSpec wsX3_manyAt ({ frames := 2, cells := 0, slots := 0, locals := 42 } : Room)).room s m ([.ref (g 4), .int x1] : List Value).toArray below meth c H locs 0 0 (MQ below (mg_Q D (mg_cW g cI cZ σ) A (some (.int y))) ([.ref (g 4), .int x1] : List Value).toArray s 0 0 A) (F0 m 4 ls []) := by
    intro n
    induction n with
    | zero => intro x2_4 x3_4 y4_ h; rw [f_X3_manyAt_4] at h; cases h
    | succ n ih =>
      intro x2_4 x3_4 y4_ h kc H locs ls hw hl
      rw [f_X3_manyAt_4] at h
      refine lv_iload_n hx hb dX3_manyAt_4 rfl (lv_at hl 3 rfl) ?_
      refine lv_aload_n hx hb dX3_manyAt_5 rfl (lv_at hl 0 rfl) ?_
      refine va_get (D := D) (ci := 3) (v := .int (σ 4 1)) (C := RX3) (T := TX3) (N := 2) hx hb hts iX3_ hown hK hw.1 4 rfl rfl 1 (by decide) w0_ (fun _ h9 => h9) rfl dX3_manyAt_6 ?_
      refine mg_icmp_ge (tgt := 30) hx hb h dX3_manyAt_9 (by decide) (fun h => ?_) (fun h => ?_)
      · cases h
        exact kc H locs ls hw (lv_sub hl [0, 1, 2, 3] rfl)
      · refine lv_aload_n hx hb dX3_manyAt_12 rfl (lv_at hl 0 rfl) ?_
        refine lv_iload_n hx hb dX3_manyAt_13 rfl (lv_at hl 3 rfl) ?_
        obtain ⟨y2, h9_, h⟩ := mg_bind h
        refine mg_k (rv := (some (.int y2))) (va_runV (As := [.int x3_4]) (rest := []) G9 (k_X3_gateOf l D o cI cZ g H.size σ x3_4 y2 h9_) (cwV 1 hts gX3_manyAt_X3_gateOf rfl rfl rfl (by decide +kernel) ⟨Nat.le_of_ble_eq_true rfl, Nat.le_of_ble_eq_true rfl⟩) (mg_preV hK hO hA hw (q0 := 4) rfl rfl) rfl rfl hl.1 rfl (lv_room (Nat.le_of_ble_eq_true rfl)) dX3_manyAt_14 ⟨Nat.zero_le _, Nat.zero_le _⟩) hw hA (fun H locs hw => ?_)
        clear h9_
        refine lv_iload_n hx hb dX3_manyAt_17 rfl (lv_at hl 1 rfl) ?_
        refine mg_icmp_ne (tgt := 24) hx hb h dX3_manyAt_18 (by decide) (fun h => ?_) (fun h => ?_)
        · refine lv_iinc (v := (x3_4 + 1)) (lv' := [(3, .int (x3_4 + 1)), (0, .ref (g 4)), (1, .int x1), (2, .int x2_4)]) hx hb dX3_manyAt_24 hl (k := 3) rfl rfl (by decide) rfl (fun ls hl => ?_)
          refine lv_goto (tgt := 4) hx hb dX3_manyAt_27 (by decide) ?_
          exact ih _ _ _ h kc H locs ls hw (lv_sub hl [1, 2, 3, 0] rfl)
        · refine lv_iinc (v := (x2_4 + 1)) (lv' := [(2, .int (x2_4 + 1)), (0, .ref (g 4)), (1, .int x1), (3, .int x3_4)]) hx hb dX3_manyAt_21 hl (k := 2) rfl rfl (by decide) rfl (fun ls hl => ?_)
          refine lv_iinc (v := (x3_4 + 1)) (lv' := [(3, .int (x3_4 + 1)), (2, .int (x2_4 + 1)), (0, .ref (g 4)), (1, .int x1)]) hx hb dX3_manyAt_24 hl (k := 3) rfl rfl (by decide) rfl (fun ls hl => ?_)
          refine lv_goto (tgt := 4) hx hb dX3_manyAt_27 (by decide) ?_
          exact ih _ _ _ h kc H locs ls hw (lv_sub hl [2, 3, 1, 0] rfl)
  obtain ⟨y1, h9_, h⟩ := mg_bind h
  refine L4_ _ _ _ _ h9_ (fun H locs ls hw hl => ?_) H locs ls hw (lv_sub hl [2, 3, 1, 0] rfl)
  clear L4_ h9_
  refine lv_iload_n hx hb dX3_manyAt_30 rfl (lv_at hl 2 rfl) ?_
  cases h
  exact mg_eI hx hb hr hlocks hw (Nat.zero_le _) (Nat.zero_le _) dX3_manyAt_31
set_option maxHeartbeats 4000000 in
set_option maxRecDepth 100000 in
theorem k_X4_isNumber (l : Launch) (D : va_G) (o : Nat → Nat) (cI cZ : ClassId) (g : Nat → Nat) (sz : Nat) (σ : mg_St) (x1 : Int32) (y : Int32) (h : f_X4_isNumber σ x1 = some y) : mg_CT l yX4_isNumber wsX4_isNumber ({ frames := 0, cells := 0, slots := 0, locals := 0 } : Room) D [(cI, .int), (cZ, .boolean)] o (mg_cW g cI cZ σ) sz [.ref (g 2), .int x1] (some (.int y)) (mg_cW g cI cZ σ) 0 0 := by
  unfold mg_CT
  refine Met.ofW (cc := cX4_isNumber) (maxL := 2) (ret := (some .boolean)) (by decide) rfl ?_
  intro p e s m args below meth c s₁ B hml hv
  obtain ⟨rfl, hsz, hP, hK, hD0, hO⟩ := hv
  have hx := B.exec
  have hb := B.bytes
  have hr := B.returns
  have hts := atoms_spec (ws := wsX4_isNumber) B.pre
  have hown : s.vm.findClass RX4 = some m.cls := findClass_of_methodNamed B.named
  have hlocks := B.notSynchronized
  subst hsz
  have hD := hD0.self (sz := s.heap.size)
  generalize hAe : va_A (mg_cW g cI cZ σ) s.heap.size = A at hD hO ⊢
  have hA : ∀ q : Nat, s.heap.size ≤ q → A q := fun q h => by rw [← hAe]; exact Or.inr h
  have hw : mg_Wo D A s.heap s.heap [] (mg_cW g cI cZ σ) := ⟨hP, hD, va_S.rf⟩
  have G9 : CallFix p m c cX4_isNumber 2 s ([.ref (g 2), .int x1] : List Value).toArray wsX4_isNumber RX4 := ⟨hx, hb, hml, hown, hts⟩
  clear hP hD hD0 hAe
  obtain ⟨H, hHe⟩ : ∃ H : Heap, H = s.heap := ⟨_, rfl⟩
  have w0_ := hts (.fieldLink RX4 19 "MoonGate$Shoal" "came" "I") (by decide +kernel)
  have iX4_ : ∀ w ∈ wsX40, w ∈ wsX4_isNumber := (fun _ h => List.mem_cons_of_mem _ (List.mem_append_right _ h))
  have hl := lv_entry ([.ref (g 2), .int x1]) (n := 2) (Nat.le_of_ble_eq_true rfl)
  rw [lg_entry_eq]
  generalize (lg_sl ([.ref (g 2), .int x1]) ++ List.replicate (2 - (lg_sl ([.ref (g 2), .int x1])).length) Slot.unset).toArray = ls at hl ⊢
  have hl : lv_has ls 2 [(0, .ref (g 2)), (1, .int x1)] := hl
  unfold f_X4_isNumber at h
  revert hw
  intro hw
  suffices K_ : ∀ (H : Heap) (locs : List Loc), mg_Wo D A s.heap H locs (mg_cW g cI cZ σ) → W p l e (headSpec wsX4_isNumber ({ frames := 0, cells := 0, slots := 0, locals := 0 } : Room)).room s m ([.ref (g 2), .int x1] : List Value).toArray below meth c H locs 0 0 (MQ below (mg_Q D (mg_cW g cI cZ σ) A (some (.int y))) ([.ref (g 2), .int x1] : List Value).toArray s 0 0 A) (F0 m 0 ls []) from K_ _ _ hw
  clear hw hHe H
  intro H locs hw
  refine lv_iload_n hx hb dX4_isNumber_0 rfl (lv_at hl 1 rfl) ?_
  refine mg_if_lt (tgt := 22) hx hb h dX4_isNumber_1 (by decide) (fun h => ?_) (fun h => ?_)
  · refine lv_iconst (v := 0) hx hb dX4_isNumber_22 (by decide) ?_
    cases h
    exact mg_eZ hx hb hr hlocks hw rfl (Nat.zero_le _) (Nat.zero_le _) dX4_isNumber_23
  · refine lv_iload_n hx hb dX4_isNumber_4 rfl (lv_at hl 1 rfl) ?_
    refine lv_aload_n hx hb dX4_isNumber_5 rfl (lv_at hl 0 rfl) ?_
    refine va_get (D := D) (ci := 4) (v := .int (σ 2 2)) (C := RX4) (T := TX4) (N := 3) hx hb hts iX4_ hown hK hw.1 2 rfl rfl 2 (by decide) w0_ (fun _ h9 => h9) rfl dX4_isNumber_6 ?_
    refine mg_icmp_ge (tgt := 22) hx hb h dX4_isNumber_9 (by decide) (fun h => ?_) (fun h => ?_)
    · refine lv_iconst (v := 0) hx hb dX4_isNumber_22 (by decide) ?_
      cases h
      exact mg_eZ hx hb hr hlocks hw rfl (Nat.zero_le _) (Nat.zero_le _) dX4_isNumber_23
    · refine lv_iload_n hx hb dX4_isNumber_12 rfl (lv_at hl 1 rfl) ?_
      refine lv_bipush (v := 30) hx hb dX4_isNumber_13 (by decide) ?_
      refine mg_icmp_ge (tgt := 22) hx hb h dX4_isNumber_15 (by decide) (fun h => ?_) (fun h => ?_)
      · refine lv_iconst (v := 0) hx hb dX4_isNumber_22 (by decide) ?_
        cases h
        exact mg_eZ hx hb hr hlocks hw rfl (Nat.zero_le _) (Nat.zero_le _) dX4_isNumber_23
      · refine lv_iconst (v := 1) hx hb dX4_isNumber_18 (by decide) ?_
        refine lv_goto (tgt := 23) hx hb dX4_isNumber_19 (by decide) ?_
        cases h
        exact mg_eZ hx hb hr hlocks hw rfl (Nat.zero_le _) (Nat.zero_le _) dX4_isNumber_23
set_option maxHeartbeats 4000000 in
set_option maxRecDepth 100000 in
theorem k_X4_add (l : Launch) (D : va_G) (o : Nat → Nat) (cI cZ : ClassId) (g : Nat → Nat) (sz : Nat) (σ : mg_St) (x1 : Int32) (y : (Int32 × mg_St)) (h : f_X4_add σ x1 = some y) : mg_CT l yX4_add wsX4_add ({ frames := 0, cells := 0, slots := 0, locals := 0 } : Room) D [(cI, .int), (cZ, .boolean)] o (mg_cW g cI cZ σ) sz [.ref (g 2), .int x1] (some (.int y.1)) (mg_cW g cI cZ y.2) 0 0 := by
  unfold mg_CT
  refine Met.ofW (cc := cX4_add) (maxL := 3) (ret := (some .int)) (by decide) rfl ?_
  intro p e s m args below meth c s₁ B hml hv
  obtain ⟨rfl, hsz, hP, hK, hD0, hO⟩ := hv
  have hx := B.exec
  have hb := B.bytes
  have hr := B.returns
  have hts := atoms_spec (ws := wsX4_add) B.pre
  have hown : s.vm.findClass RX4 = some m.cls := findClass_of_methodNamed B.named
  have hlocks := B.notSynchronized
  subst hsz
  have hD := hD0.self (sz := s.heap.size)
  generalize hAe : va_A (mg_cW g cI cZ σ) s.heap.size = A at hD hO ⊢
  have hA : ∀ q : Nat, s.heap.size ≤ q → A q := fun q h => by rw [← hAe]; exact Or.inr h
  have hw : mg_Wo D A s.heap s.heap [] (mg_cW g cI cZ σ) := ⟨hP, hD, va_S.rf⟩
  have G9 : CallFix p m c cX4_add 3 s ([.ref (g 2), .int x1] : List Value).toArray wsX4_add RX4 := ⟨hx, hb, hml, hown, hts⟩
  clear hP hD hD0 hAe
  obtain ⟨H, hHe⟩ : ∃ H : Heap, H = s.heap := ⟨_, rfl⟩
  have w0_ := hts (.fieldLink RX4 19 "MoonGate$Shoal" "came" "I") (by decide +kernel)
  have iX4_ : ∀ w ∈ wsX40, w ∈ wsX4_add := (fun _ h => List.mem_cons_of_mem _ (List.mem_append_right _ h))
  have w2_ := hts (.fieldLink RX4 9 "MoonGate$Shoal" "places" "[I") (by decide +kernel)
  have w3_ := hts (.fieldLink RX4 15 "MoonGate$Shoal" "sold" "[Z") (by decide +kernel)
  have hl := lv_entry ([.ref (g 2), .int x1]) (n := 3) (Nat.le_of_ble_eq_true rfl)
  rw [lg_entry_eq]
  generalize (lg_sl ([.ref (g 2), .int x1]) ++ List.replicate (3 - (lg_sl ([.ref (g 2), .int x1])).length) Slot.unset).toArray = ls at hl ⊢
  have hl : lv_has ls 3 [(0, .ref (g 2)), (1, .int x1)] := hl
  unfold f_X4_add at h
  revert hw
  intro hw
  suffices K_ : ∀ (H : Heap) (locs : List Loc), mg_Wo D A s.heap H locs (mg_cW g cI cZ σ) → W p l e (headSpec wsX4_add ({ frames := 0, cells := 0, slots := 0, locals := 0 } : Room)).room s m ([.ref (g 2), .int x1] : List Value).toArray below meth c H locs 0 0 (MQ below (mg_Q D (mg_cW g cI cZ y.2) A (some (.int y.1))) ([.ref (g 2), .int x1] : List Value).toArray s 0 0 A) (F0 m 0 ls []) from K_ _ _ hw
  clear hw hHe H
  intro H locs hw
  refine lv_aload_n hx hb dX4_add_0 rfl (lv_at hl 0 rfl) ?_
  refine va_get (D := D) (ci := 4) (v := .int (σ 2 2)) (C := RX4) (T := TX4) (N := 3) hx hb hts iX4_ hown hK hw.1 2 rfl rfl 2 (by decide) w0_ (fun _ h9 => h9) rfl dX4_add_1 ?_
  refine lv_istore_n (lv' := [(2, .int (σ 2 2)), (0, .ref (g 2)), (1, .int x1)]) hx hb dX4_add_4 rfl hl (by decide) rfl (fun ls hl => ?_)
  refine lv_iload_n hx hb dX4_add_5 rfl (lv_at hl 0 rfl) ?_
  refine mg_if_lt (tgt := 39) hx hb h dX4_add_6 (by decide) (fun h => ?_) (fun h => ?_)
  · refine lv_iload_n hx hb dX4_add_39 rfl (lv_at hl 0 rfl) ?_
    cases h
    exact mg_eI hx hb hr hlocks hw (Nat.zero_le _) (Nat.zero_le _) dX4_add_40
  · refine lv_iload_n hx hb dX4_add_9 rfl (lv_at hl 0 rfl) ?_
    refine lv_bipush (v := 30) hx hb dX4_add_10 (by decide) ?_
    refine mg_icmp_ge (tgt := 39) hx hb h dX4_add_12 (by decide) (fun h => ?_) (fun h => ?_)
    · refine lv_iload_n hx hb dX4_add_39 rfl (lv_at hl 0 rfl) ?_
      cases h
      exact mg_eI hx hb hr hlocks hw (Nat.zero_le _) (Nat.zero_le _) dX4_add_40
    · refine lv_aload_n hx hb dX4_add_15 rfl (lv_at hl 1 rfl) ?_
      refine va_get (D := D) (ci := 4) (v := .ref (g 16)) (C := RX4) (T := TX4) (N := 3) hx hb hts iX4_ hown hK hw.1 2 rfl rfl 0 (by decide) w2_ (fun _ h9 => h9) rfl dX4_add_16 ?_
      refine lv_iload_n hx hb dX4_add_19 rfl (lv_at hl 0 rfl) ?_
      refine lv_iload_n hx hb dX4_add_20 rfl (lv_at hl 2 rfl) ?_
      refine mg_ast (wd := mg_cW g cI cZ) (σ := σ) (k := 16) (n := 30) hx hb hK hw 16 0 rfl (mg_cS_16 g cI cZ σ) rfl h dX4_add_21 (fun s1 h H locs hw => ?_)
      refine lv_aload_n hx hb dX4_add_22 rfl (lv_at hl 1 rfl) ?_
      refine va_get (D := D) (ci := 4) (v := .ref (g 17)) (C := RX4) (T := TX4) (N := 3) hx hb hts iX4_ hown hK hw.1 2 rfl rfl 1 (by decide) w3_ (fun _ h9 => h9) rfl dX4_add_23 ?_
      refine lv_iload_n hx hb dX4_add_26 rfl (lv_at hl 0 rfl) ?_
      refine lv_iconst (v := 0) hx hb dX4_add_27 (by decide) ?_
      refine mg_zast (wd := mg_cW g cI cZ) (σ := s1) (k := 17) (n := 30) hx hb hK hw 17 1 rfl (mg_cS_17 g cI cZ s1) rfl rfl h dX4_add_28 (fun s2 h H locs hw => ?_)
      refine lv_aload_n hx hb dX4_add_29 rfl (lv_at hl 1 rfl) ?_
      refine lv_dup hx hb dX4_add_30 rfl ?_
      refine va_get (D := D) (ci := 4) (v := .int (s2 2 2)) (C := RX4) (T := TX4) (N := 3) hx hb hts iX4_ hown hK hw.1 2 rfl rfl 2 (by decide) w0_ (fun _ h9 => h9) rfl dX4_add_31 ?_
      refine lv_iconst (v := 1) hx hb dX4_add_34 (by decide) ?_
      refine lv_iadd hx hb dX4_add_35 ?_
      refine mg_put (wd := mg_cW g cI cZ) (σ := s2) (v := ((s2 2 2) + 1)) (ci := 4) (C := RX4) (T := TX4) (N := 3) hx hb hts iX4_ tyX4 tyX4_ok nmX4 hown hK hw 2 2 rfl rfl 2 (by decide) w0_ (fun _ h9 => h9) rfl (by decide +kernel) (Nat.le_of_ble_eq_true rfl) rfl dX4_add_36 (fun H locs hw => ?_)
      refine lv_iload_n hx hb dX4_add_39 rfl (lv_at hl 0 rfl) ?_
      cases h
      exact mg_eI hx hb hr hlocks hw (Nat.zero_le _) (Nat.zero_le _) dX4_add_40
set_option maxHeartbeats 4000000 in
set_option maxRecDepth 100000 in
theorem k_X4_takeOut (l : Launch) (D : va_G) (o : Nat → Nat) (cI cZ : ClassId) (g : Nat → Nat) (sz : Nat) (σ : mg_St) (x1 : Int32) (y : mg_St) (h : f_X4_takeOut σ x1 = some y) : mg_CT l yX4_takeOut wsX4_takeOut ({ frames := 1, cells := 0, slots := 0, locals := 21 } : Room) D [(cI, .int), (cZ, .boolean)] o (mg_cW g cI cZ σ) sz [.ref (g 2), .int x1] none (mg_cW g cI cZ y) 0 0 := by
  unfold mg_CT
  refine Met.ofW (cc := cX4_takeOut) (maxL := 2) (ret := none) (by decide) rfl ?_
  intro p e s m args below meth c s₁ B hml hv
  obtain ⟨rfl, hsz, hP, hK, hD0, hO⟩ := hv
  have hx := B.exec
  have hb := B.bytes
  have hr := B.returns
  have hts := atoms_spec (ws := wsX4_takeOut) B.pre
  have hown : s.vm.findClass RX4 = some m.cls := findClass_of_methodNamed B.named
  have hlocks := B.notSynchronized
  subst hsz
  have hD := hD0.self (sz := s.heap.size)
  generalize hAe : va_A (mg_cW g cI cZ σ) s.heap.size = A at hD hO ⊢
  have hA : ∀ q : Nat, s.heap.size ≤ q → A q := fun q h => by rw [← hAe]; exact Or.inr h
  have hw : mg_Wo D A s.heap s.heap [] (mg_cW g cI cZ σ) := ⟨hP, hD, va_S.rf⟩
  have G9 : CallFix p m c cX4_takeOut 2 s ([.ref (g 2), .int x1] : List Value).toArray wsX4_takeOut RX4 := ⟨hx, hb, hml, hown, hts⟩
  clear hP hD hD0 hAe
  obtain ⟨H, hHe⟩ : ∃ H : Heap, H = s.heap := ⟨_, rfl⟩
  have w0_ := hts (.fieldLink RX4 15 "MoonGate$Shoal" "sold" "[Z") (by decide +kernel)
  have iX4_ : ∀ w ∈ wsX40, w ∈ wsX4_takeOut := (fun _ h => List.mem_cons_of_mem _ (List.mem_append_right _ h))
  have hl := lv_entry ([.ref (g 2), .int x1]) (n := 2) (Nat.le_of_ble_eq_true rfl)
  rw [lg_entry_eq]
  generalize (lg_sl ([.ref (g 2), .int x1]) ++ List.replicate (2 - (lg_sl ([.ref (g 2), .int x1])).length) Slot.unset).toArray = ls at hl ⊢
  have hl : lv_has ls 2 [(0, .ref (g 2)), (1, .int x1)] := hl
  unfold f_X4_takeOut at h
  revert hw
  intro hw
  suffices K_ : ∀ (H : Heap) (locs : List Loc), mg_Wo D A s.heap H locs (mg_cW g cI cZ σ) → W p l e (headSpec wsX4_takeOut ({ frames := 1, cells := 0, slots := 0, locals := 21 } : Room)).room s m ([.ref (g 2), .int x1] : List Value).toArray below meth c H locs 0 0 (MQ below (mg_Q D (mg_cW g cI cZ y) A none) ([.ref (g 2), .int x1] : List Value).toArray s 0 0 A) (F0 m 0 ls []) from K_ _ _ hw
  clear hw hHe H
  intro H locs hw
  refine lv_aload_n hx hb dX4_takeOut_0 rfl (lv_at hl 0 rfl) ?_
  refine lv_iload_n hx hb dX4_takeOut_1 rfl (lv_at hl 1 rfl) ?_
  obtain ⟨y1, h9_, h⟩ := mg_bind h
  refine mg_k (rv := (some (.int y1))) (va_runV (As := [.int x1]) (rest := []) G9 (k_X4_isNumber l D o cI cZ g H.size σ x1 y1 h9_) (cwV 1 hts gX4_takeOut_X4_isNumber rfl rfl rfl (by decide +kernel) ⟨Nat.le_of_ble_eq_true rfl, Nat.le_of_ble_eq_true rfl⟩) (mg_preV hK hO hA hw (q0 := 2) rfl rfl) rfl rfl hl.1 rfl (lv_room (Nat.le_of_ble_eq_true rfl)) dX4_takeOut_2 ⟨Nat.zero_le _, Nat.zero_le _⟩) hw hA (fun H locs hw => ?_)
  clear h9_
  refine mg_if_eq (tgt := 15) hx hb h dX4_takeOut_5 (by decide) (fun h => ?_) (fun h => ?_)
  · cases h
    exact mg_eV hx hb hr hlocks hw (Nat.zero_le _) (Nat.zero_le _) dX4_takeOut_15
  · refine lv_aload_n hx hb dX4_takeOut_8 rfl (lv_at hl 0 rfl) ?_
    refine va_get (D := D) (ci := 4) (v := .ref (g 17)) (C := RX4) (T := TX4) (N := 3) hx hb hts iX4_ hown hK hw.1 2 rfl rfl 1 (by decide) w0_ (fun _ h9 => h9) rfl dX4_takeOut_9 ?_
    refine lv_iload_n hx hb dX4_takeOut_12 rfl (lv_at hl 1 rfl) ?_
    refine lv_iconst (v := 1) hx hb dX4_takeOut_13 (by decide) ?_
    refine mg_zast (wd := mg_cW g cI cZ) (σ := σ) (k := 17) (n := 30) hx hb hK hw 17 1 rfl (mg_cS_17 g cI cZ σ) rfl rfl h dX4_takeOut_14 (fun s2 h H locs hw => ?_)
    cases h
    exact mg_eV hx hb hr hlocks hw (Nat.zero_le _) (Nat.zero_le _) dX4_takeOut_15
set_option maxHeartbeats 4000000 in
set_option maxRecDepth 100000 in
theorem k_X4_isHere (l : Launch) (D : va_G) (o : Nat → Nat) (cI cZ : ClassId) (g : Nat → Nat) (sz : Nat) (σ : mg_St) (x1 : Int32) (y : Int32) (h : f_X4_isHere σ x1 = some y) : mg_CT l yX4_isHere wsX4_isHere ({ frames := 1, cells := 0, slots := 0, locals := 21 } : Room) D [(cI, .int), (cZ, .boolean)] o (mg_cW g cI cZ σ) sz [.ref (g 2), .int x1] (some (.int y)) (mg_cW g cI cZ σ) 0 0 := by
  unfold mg_CT
  refine Met.ofW (cc := cX4_isHere) (maxL := 2) (ret := (some .boolean)) (by decide) rfl ?_
  intro p e s m args below meth c s₁ B hml hv
  obtain ⟨rfl, hsz, hP, hK, hD0, hO⟩ := hv
  have hx := B.exec
  have hb := B.bytes
  have hr := B.returns
  have hts := atoms_spec (ws := wsX4_isHere) B.pre
  have hown : s.vm.findClass RX4 = some m.cls := findClass_of_methodNamed B.named
  have hlocks := B.notSynchronized
  subst hsz
  have hD := hD0.self (sz := s.heap.size)
  generalize hAe : va_A (mg_cW g cI cZ σ) s.heap.size = A at hD hO ⊢
  have hA : ∀ q : Nat, s.heap.size ≤ q → A q := fun q h => by rw [← hAe]; exact Or.inr h
  have hw : mg_Wo D A s.heap s.heap [] (mg_cW g cI cZ σ) := ⟨hP, hD, va_S.rf⟩
  have G9 : CallFix p m c cX4_isHere 2 s ([.ref (g 2), .int x1] : List Value).toArray wsX4_isHere RX4 := ⟨hx, hb, hml, hown, hts⟩
  clear hP hD hD0 hAe
  obtain ⟨H, hHe⟩ : ∃ H : Heap, H = s.heap := ⟨_, rfl⟩
  have w0_ := hts (.fieldLink RX4 15 "MoonGate$Shoal" "sold" "[Z") (by decide +kernel)
  have iX4_ : ∀ w ∈ wsX40, w ∈ wsX4_isHere := (fun _ h => List.mem_cons_of_mem _ (List.mem_append_right _ h))
  have hl := lv_entry ([.ref (g 2), .int x1]) (n := 2) (Nat.le_of_ble_eq_true rfl)
  rw [lg_entry_eq]
  generalize (lg_sl ([.ref (g 2), .int x1]) ++ List.replicate (2 - (lg_sl ([.ref (g 2), .int x1])).length) Slot.unset).toArray = ls at hl ⊢
  have hl : lv_has ls 2 [(0, .ref (g 2)), (1, .int x1)] := hl
  unfold f_X4_isHere at h
  revert hw
  intro hw
  suffices K_ : ∀ (H : Heap) (locs : List Loc), mg_Wo D A s.heap H locs (mg_cW g cI cZ σ) → W p l e (headSpec wsX4_isHere ({ frames := 1, cells := 0, slots := 0, locals := 21 } : Room)).room s m ([.ref (g 2), .int x1] : List Value).toArray below meth c H locs 0 0 (MQ below (mg_Q D (mg_cW g cI cZ σ) A (some (.int y))) ([.ref (g 2), .int x1] : List Value).toArray s 0 0 A) (F0 m 0 ls []) from K_ _ _ hw
  clear hw hHe H
  intro H locs hw
  refine lv_aload_n hx hb dX4_isHere_0 rfl (lv_at hl 0 rfl) ?_
  refine lv_iload_n hx hb dX4_isHere_1 rfl (lv_at hl 1 rfl) ?_
  obtain ⟨y1, h9_, h⟩ := mg_bind h
  refine mg_k (rv := (some (.int y1))) (va_runV (As := [.int x1]) (rest := []) G9 (k_X4_isNumber l D o cI cZ g H.size σ x1 y1 h9_) (cwV 1 hts gX4_isHere_X4_isNumber rfl rfl rfl (by decide +kernel) ⟨Nat.le_of_ble_eq_true rfl, Nat.le_of_ble_eq_true rfl⟩) (mg_preV hK hO hA hw (q0 := 2) rfl rfl) rfl rfl hl.1 rfl (lv_room (Nat.le_of_ble_eq_true rfl)) dX4_isHere_2 ⟨Nat.zero_le _, Nat.zero_le _⟩) hw hA (fun H locs hw => ?_)
  clear h9_
  refine mg_if_eq (tgt := 21) hx hb h dX4_isHere_5 (by decide) (fun h => ?_) (fun h => ?_)
  · refine lv_iconst (v := 0) hx hb dX4_isHere_21 (by decide) ?_
    cases h
    exact mg_eZ hx hb hr hlocks hw rfl (Nat.zero_le _) (Nat.zero_le _) dX4_isHere_22
  · refine lv_aload_n hx hb dX4_isHere_8 rfl (lv_at hl 0 rfl) ?_
    refine va_get (D := D) (ci := 4) (v := .ref (g 17)) (C := RX4) (T := TX4) (N := 3) hx hb hts iX4_ hown hK hw.1 2 rfl rfl 1 (by decide) w0_ (fun _ h9 => h9) rfl dX4_isHere_9 ?_
    refine lv_iload_n hx hb dX4_isHere_12 rfl (lv_at hl 1 rfl) ?_
    refine mg_zald (σ := σ) (k := 17) (n := 30) hx hb hK hw 17 1 rfl rfl h dX4_isHere_13 (fun v2 h => ?_)
    refine mg_if_ne (tgt := 21) hx hb h dX4_isHere_14 (by decide) (fun h => ?_) (fun h => ?_)
    · refine lv_iconst (v := 0) hx hb dX4_isHere_21 (by decide) ?_
      cases h
      exact mg_eZ hx hb hr hlocks hw rfl (Nat.zero_le _) (Nat.zero_le _) dX4_isHere_22
    · refine lv_iconst (v := 1) hx hb dX4_isHere_17 (by decide) ?_
      refine lv_goto (tgt := 22) hx hb dX4_isHere_18 (by decide) ?_
      cases h
      exact mg_eZ hx hb hr hlocks hw rfl (Nat.zero_le _) (Nat.zero_le _) dX4_isHere_22
set_option maxHeartbeats 4000000 in
set_option maxRecDepth 100000 in
theorem k_X4_placeOf (l : Launch) (D : va_G) (o : Nat → Nat) (cI cZ : ClassId) (g : Nat → Nat) (sz : Nat) (σ : mg_St) (x1 : Int32) (y : Int32) (h : f_X4_placeOf σ x1 = some y) : mg_CT l yX4_placeOf wsX4_placeOf ({ frames := 1, cells := 0, slots := 0, locals := 21 } : Room) D [(cI, .int), (cZ, .boolean)] o (mg_cW g cI cZ σ) sz [.ref (g 2), .int x1] (some (.int y)) (mg_cW g cI cZ σ) 0 0 := by
  unfold mg_CT
  refine Met.ofW (cc := cX4_placeOf) (maxL := 2) (ret := (some .int)) (by decide) rfl ?_
  intro p e s m args below meth c s₁ B hml hv
  obtain ⟨rfl, hsz, hP, hK, hD0, hO⟩ := hv
  have hx := B.exec
  have hb := B.bytes
  have hr := B.returns
  have hts := atoms_spec (ws := wsX4_placeOf) B.pre
  have hown : s.vm.findClass RX4 = some m.cls := findClass_of_methodNamed B.named
  have hlocks := B.notSynchronized
  subst hsz
  have hD := hD0.self (sz := s.heap.size)
  generalize hAe : va_A (mg_cW g cI cZ σ) s.heap.size = A at hD hO ⊢
  have hA : ∀ q : Nat, s.heap.size ≤ q → A q := fun q h => by rw [← hAe]; exact Or.inr h
  have hw : mg_Wo D A s.heap s.heap [] (mg_cW g cI cZ σ) := ⟨hP, hD, va_S.rf⟩
  have G9 : CallFix p m c cX4_placeOf 2 s ([.ref (g 2), .int x1] : List Value).toArray wsX4_placeOf RX4 := ⟨hx, hb, hml, hown, hts⟩
  clear hP hD hD0 hAe
  obtain ⟨H, hHe⟩ : ∃ H : Heap, H = s.heap := ⟨_, rfl⟩
  have w0_ := hts (.fieldLink RX4 9 "MoonGate$Shoal" "places" "[I") (by decide +kernel)
  have iX4_ : ∀ w ∈ wsX40, w ∈ wsX4_placeOf := (fun _ h => List.mem_cons_of_mem _ (List.mem_append_right _ h))
  have hl := lv_entry ([.ref (g 2), .int x1]) (n := 2) (Nat.le_of_ble_eq_true rfl)
  rw [lg_entry_eq]
  generalize (lg_sl ([.ref (g 2), .int x1]) ++ List.replicate (2 - (lg_sl ([.ref (g 2), .int x1])).length) Slot.unset).toArray = ls at hl ⊢
  have hl : lv_has ls 2 [(0, .ref (g 2)), (1, .int x1)] := hl
  unfold f_X4_placeOf at h
  revert hw
  intro hw
  suffices K_ : ∀ (H : Heap) (locs : List Loc), mg_Wo D A s.heap H locs (mg_cW g cI cZ σ) → W p l e (headSpec wsX4_placeOf ({ frames := 1, cells := 0, slots := 0, locals := 21 } : Room)).room s m ([.ref (g 2), .int x1] : List Value).toArray below meth c H locs 0 0 (MQ below (mg_Q D (mg_cW g cI cZ σ) A (some (.int y))) ([.ref (g 2), .int x1] : List Value).toArray s 0 0 A) (F0 m 0 ls []) from K_ _ _ hw
  clear hw hHe H
  intro H locs hw
  refine lv_aload_n hx hb dX4_placeOf_0 rfl (lv_at hl 0 rfl) ?_
  refine lv_iload_n hx hb dX4_placeOf_1 rfl (lv_at hl 1 rfl) ?_
  obtain ⟨y1, h9_, h⟩ := mg_bind h
  refine mg_k (rv := (some (.int y1))) (va_runV (As := [.int x1]) (rest := []) G9 (k_X4_isNumber l D o cI cZ g H.size σ x1 y1 h9_) (cwV 1 hts gX4_placeOf_X4_isNumber rfl rfl rfl (by decide +kernel) ⟨Nat.le_of_ble_eq_true rfl, Nat.le_of_ble_eq_true rfl⟩) (mg_preV hK hO hA hw (q0 := 2) rfl rfl) rfl rfl hl.1 rfl (lv_room (Nat.le_of_ble_eq_true rfl)) dX4_placeOf_2 ⟨Nat.zero_le _, Nat.zero_le _⟩) hw hA (fun H locs hw => ?_)
  clear h9_
  refine mg_if_eq (tgt := 17) hx hb h dX4_placeOf_5 (by decide) (fun h => ?_) (fun h => ?_)
  · refine lv_iconst (v := (-1)) hx hb dX4_placeOf_17 (by decide) ?_
    cases h
    exact mg_eI hx hb hr hlocks hw (Nat.zero_le _) (Nat.zero_le _) dX4_placeOf_18
  · refine lv_aload_n hx hb dX4_placeOf_8 rfl (lv_at hl 0 rfl) ?_
    refine va_get (D := D) (ci := 4) (v := .ref (g 16)) (C := RX4) (T := TX4) (N := 3) hx hb hts iX4_ hown hK hw.1 2 rfl rfl 0 (by decide) w0_ (fun _ h9 => h9) rfl dX4_placeOf_9 ?_
    refine lv_iload_n hx hb dX4_placeOf_12 rfl (lv_at hl 1 rfl) ?_
    refine mg_ald (σ := σ) (k := 16) (n := 30) hx hb hK hw 16 0 rfl rfl h dX4_placeOf_13 (fun v2 h => ?_)
    refine lv_goto (tgt := 18) hx hb dX4_placeOf_14 (by decide) ?_
    cases h
    exact mg_eI hx hb hr hlocks hw (Nat.zero_le _) (Nat.zero_le _) dX4_placeOf_18
set_option maxHeartbeats 4000000 in
set_option maxRecDepth 100000 in
theorem k_X4_manyHere (l : Launch) (D : va_G) (o : Nat → Nat) (cI cZ : ClassId) (g : Nat → Nat) (sz : Nat) (σ : mg_St)  (y : Int32) (h : f_X4_manyHere σ  = some y) : mg_CT l yX4_manyHere wsX4_manyHere ({ frames := 2, cells := 0, slots := 0, locals := 42 } : Room) D [(cI, .int), (cZ, .boolean)] o (mg_cW g cI cZ σ) sz [.ref (g 2)] (some (.int y)) (mg_cW g cI cZ σ) 0 0 := by
  unfold mg_CT
  refine Met.ofW (cc := cX4_manyHere) (maxL := 3) (ret := (some .int)) (by decide) rfl ?_
  intro p e s m args below meth c s₁ B hml hv
  obtain ⟨rfl, hsz, hP, hK, hD0, hO⟩ := hv
  have hx := B.exec
  have hb := B.bytes
  have hr := B.returns
  have hts := atoms_spec (ws := wsX4_manyHere) B.pre
  have hown : s.vm.findClass RX4 = some m.cls := findClass_of_methodNamed B.named
  have hlocks := B.notSynchronized
  subst hsz
  have hD := hD0.self (sz := s.heap.size)
  generalize hAe : va_A (mg_cW g cI cZ σ) s.heap.size = A at hD hO ⊢
  have hA : ∀ q : Nat, s.heap.size ≤ q → A q := fun q h => by rw [← hAe]; exact Or.inr h
  have hw : mg_Wo D A s.heap s.heap [] (mg_cW g cI cZ σ) := ⟨hP, hD, va_S.rf⟩
  have G9 : CallFix p m c cX4_manyHere 3 s ([.ref (g 2)] : List Value).toArray wsX4_manyHere RX4 := ⟨hx, hb, hml, hown, hts⟩
  clear hP hD hD0 hAe
  obtain ⟨H, hHe⟩ : ∃ H : Heap, H = s.heap := ⟨_, rfl⟩
  have w0_ := hts (.fieldLink RX4 19 "MoonGate$Shoal" "came" "I") (by decide +kernel)
  have iX4_ : ∀ w ∈ wsX40, w ∈ wsX4_manyHere := (fun _ h => List.mem_cons_of_mem _ (List.mem_append_right _ h))
  have hl := lv_entry ([.ref (g 2)]) (n := 3) (Nat.le_of_ble_eq_true rfl)
  rw [lg_entry_eq]
  generalize (lg_sl ([.ref (g 2)]) ++ List.replicate (3 - (lg_sl ([.ref (g 2)])).length) Slot.unset).toArray = ls at hl ⊢
  have hl : lv_has ls 3 [(0, .ref (g 2))] := hl
  unfold f_X4_manyHere at h
  revert hw
  intro hw
  suffices K_ : ∀ (H : Heap) (locs : List Loc), mg_Wo D A s.heap H locs (mg_cW g cI cZ σ) → W p l e (headSpec wsX4_manyHere ({ frames := 2, cells := 0, slots := 0, locals := 42 } : Room)).room s m ([.ref (g 2)] : List Value).toArray below meth c H locs 0 0 (MQ below (mg_Q D (mg_cW g cI cZ σ) A (some (.int y))) ([.ref (g 2)] : List Value).toArray s 0 0 A) (F0 m 0 ls []) from K_ _ _ hw
  clear hw hHe H
  intro H locs hw
  refine lv_iconst (v := 0) hx hb dX4_manyHere_0 (by decide) ?_
  refine lv_istore_n (lv' := [(1, .int 0), (0, .ref (g 2))]) hx hb dX4_manyHere_1 rfl hl (by decide) rfl (fun ls hl => ?_)
  refine lv_iconst (v := 0) hx hb dX4_manyHere_2 (by decide) ?_
  refine lv_istore_n (lv' := [(2, .int 0), (1, .int 0), (0, .ref (g 2))]) hx hb dX4_manyHere_3 rfl hl (by decide) rfl (fun ls hl => ?_)
  have L4_ : ∀ (n : Nat) (x1_4 : Int32) (x2_4 : Int32) (y4_ : Int32 × Int32), f_X4_manyHere_4 σ n x1_4 x2_4 = some y4_ → (∀ (H : Heap) (locs : List Loc) (ls : Array Slot), mg_Wo D A s.heap H locs (mg_cW g cI cZ σ) → lv_has ls 3 [(0, .ref (g 2)), (1, .int y4_.1), (2, .int y4_.2)] → W p l e (headSpec wsX4_manyHere ({ frames := 2, cells := 0, slots := 0, locals := 42 } : Room)).room s m ([.ref (g 2)] : List Value).toArray below meth c H locs 0 0 (MQ below (mg_Q D (mg_cW g cI cZ σ) A (some (.int y))) ([.ref (g 2)] : List Value).toArray s 0 0 A) (F0 m 29 ls [])) → ∀ (H : Heap) (locs : List Loc) (ls : Array Slot), mg_Wo D A s.heap H locs (mg_cW g cI cZ σ) → lv_has ls 3 [(0, .ref (g 2)), (1, .int x1_4), (2, .int x2_4)] → W p l e (headSpec wsX4_manyHere ({ frames := 2, cells := 0, slots := 0, locals := 42 } : Room)).room s m ([.ref (g 2)] : List Value).toArray below meth c H locs 0 0 (MQ below (mg_Q D (mg_cW g cI cZ σ) A (some (.int y))) ([.ref (g 2)] : List Value).toArray s 0 0 A) (F0 m 4 ls []) := by
    intro n
    induction n with
    | zero => intro x1_4 x2_4 y4_ h; rw [f_X4_manyHere_4] at h; cases h
    | succ n ih =>
      intro x1_4 x2_4 y4_ h kc H locs ls hw hl
      rw [f_X4_manyHere_4] at h
      refine lv_iload_n hx hb dX4_manyHere_4 rfl (lv_at hl 2 rfl) ?_
      refine lv_aload_n hx hb dX4_manyHere_5 rfl (lv_at hl 0 rfl) ?_
      refine va_get (D := D) (ci := 4) (v := .int (σ 2 2)) (C := RX4) (T := TX4) (N := 3) hx hb hts iX4_ hown hK hw.1 2 rfl rfl 2 (by decide) w0_ (fun _ h9 => h9) rfl dX4_manyHere_6 ?_
      refine mg_icmp_ge (tgt := 29) hx hb h dX4_manyHere_9 (by decide) (fun h => ?_) (fun h => ?_)
      · cases h
        exact kc H locs ls hw (lv_sub hl [0, 1, 2] rfl)
      · refine lv_aload_n hx hb dX4_manyHere_12 rfl (lv_at hl 0 rfl) ?_
        refine lv_iload_n hx hb dX4_manyHere_13 rfl (lv_at hl 2 rfl) ?_
        obtain ⟨y2, h9_, h⟩ := mg_bind h
        refine mg_k (rv := (some (.int y2))) (va_runV (As := [.int x2_4]) (rest := []) G9 (k_X4_isHere l D o cI cZ g H.size σ x2_4 y2 h9_) (cwV 1 hts gX4_manyHere_X4_isHere rfl rfl rfl (by decide +kernel) ⟨Nat.le_of_ble_eq_true rfl, Nat.le_of_ble_eq_true rfl⟩) (mg_preV hK hO hA hw (q0 := 2) rfl rfl) rfl rfl hl.1 rfl (lv_room (Nat.le_of_ble_eq_true rfl)) dX4_manyHere_14 ⟨Nat.zero_le _, Nat.zero_le _⟩) hw hA (fun H locs hw => ?_)
        clear h9_
        refine mg_if_eq (tgt := 23) hx hb h dX4_manyHere_17 (by decide) (fun h => ?_) (fun h => ?_)
        · refine lv_iinc (v := (x2_4 + 1)) (lv' := [(2, .int (x2_4 + 1)), (0, .ref (g 2)), (1, .int x1_4)]) hx hb dX4_manyHere_23 hl (k := 2) rfl rfl (by decide) rfl (fun ls hl => ?_)
          refine lv_goto (tgt := 4) hx hb dX4_manyHere_26 (by decide) ?_
          exact ih _ _ _ h kc H locs ls hw (lv_sub hl [1, 2, 0] rfl)
        · refine lv_iinc (v := (x1_4 + 1)) (lv' := [(1, .int (x1_4 + 1)), (0, .ref (g 2)), (2, .int x2_4)]) hx hb dX4_manyHere_20 hl (k := 1) rfl rfl (by decide) rfl (fun ls hl => ?_)
          refine lv_iinc (v := (x2_4 + 1)) (lv' := [(2, .int (x2_4 + 1)), (1, .int (x1_4 + 1)), (0, .ref (g 2))]) hx hb dX4_manyHere_23 hl (k := 2) rfl rfl (by decide) rfl (fun ls hl => ?_)
          refine lv_goto (tgt := 4) hx hb dX4_manyHere_26 (by decide) ?_
          exact ih _ _ _ h kc H locs ls hw (lv_sub hl [2, 1, 0] rfl)
  obtain ⟨y1, h9_, h⟩ := mg_bind h
  refine L4_ _ _ _ _ h9_ (fun H locs ls hw hl => ?_) H locs ls hw (lv_sub hl [2, 1, 0] rfl)
  clear L4_ h9_
  refine lv_iload_n hx hb dX4_manyHere_29 rfl (lv_at hl 1 rfl) ?_
  cases h
  exact mg_eI hx hb hr hlocks hw (Nat.zero_le _) (Nat.zero_le _) dX4_manyHere_30
set_option maxHeartbeats 4000000 in
set_option maxRecDepth 100000 in
theorem k_X4_sizesHere_5 (l : Launch) (D : va_G) (o : Nat → Nat) (cI cZ : ClassId) (g : Nat → Nat) (sz : Nat) (σ : mg_St)  (y : Int32) (h : f_X4_sizesHere σ 5  = some y) : mg_CT l yX4_sizesHere wsX4_sizesHere ({ frames := 2, cells := 0, slots := 0, locals := 42 } : Room) D [(cI, .int), (cZ, .boolean)] o (mg_cW g cI cZ σ) sz [.ref (g 2), .ref (g 5)] (some (.int y)) (mg_cW g cI cZ σ) 0 0 := by
  unfold mg_CT
  refine Met.ofW (cc := cX4_sizesHere) (maxL := 4) (ret := (some .int)) (by decide) rfl ?_
  intro p e s m args below meth c s₁ B hml hv
  obtain ⟨rfl, hsz, hP, hK, hD0, hO⟩ := hv
  have hx := B.exec
  have hb := B.bytes
  have hr := B.returns
  have hts := atoms_spec (ws := wsX4_sizesHere) B.pre
  have hown : s.vm.findClass RX4 = some m.cls := findClass_of_methodNamed B.named
  have hlocks := B.notSynchronized
  subst hsz
  have hD := hD0.self (sz := s.heap.size)
  generalize hAe : va_A (mg_cW g cI cZ σ) s.heap.size = A at hD hO ⊢
  have hA : ∀ q : Nat, s.heap.size ≤ q → A q := fun q h => by rw [← hAe]; exact Or.inr h
  have hw : mg_Wo D A s.heap s.heap [] (mg_cW g cI cZ σ) := ⟨hP, hD, va_S.rf⟩
  have G9 : CallFix p m c cX4_sizesHere 4 s ([.ref (g 2), .ref (g 5)] : List Value).toArray wsX4_sizesHere RX4 := ⟨hx, hb, hml, hown, hts⟩
  clear hP hD hD0 hAe
  obtain ⟨H, hHe⟩ : ∃ H : Heap, H = s.heap := ⟨_, rfl⟩
  have w0_ := hts (.fieldLink RX4 19 "MoonGate$Shoal" "came" "I") (by decide +kernel)
  have iX4_ : ∀ w ∈ wsX40, w ∈ wsX4_sizesHere := (fun _ h => List.mem_cons_of_mem _ (List.mem_append_left _ (List.mem_append_right _ h)))
  have hl := lv_entry ([.ref (g 2), .ref (g 5)]) (n := 4) (Nat.le_of_ble_eq_true rfl)
  rw [lg_entry_eq]
  generalize (lg_sl ([.ref (g 2), .ref (g 5)]) ++ List.replicate (4 - (lg_sl ([.ref (g 2), .ref (g 5)])).length) Slot.unset).toArray = ls at hl ⊢
  have hl : lv_has ls 4 [(0, .ref (g 2)), (1, .ref (g 5))] := hl
  unfold f_X4_sizesHere at h
  revert hw
  intro hw
  suffices K_ : ∀ (H : Heap) (locs : List Loc), mg_Wo D A s.heap H locs (mg_cW g cI cZ σ) → W p l e (headSpec wsX4_sizesHere ({ frames := 2, cells := 0, slots := 0, locals := 42 } : Room)).room s m ([.ref (g 2), .ref (g 5)] : List Value).toArray below meth c H locs 0 0 (MQ below (mg_Q D (mg_cW g cI cZ σ) A (some (.int y))) ([.ref (g 2), .ref (g 5)] : List Value).toArray s 0 0 A) (F0 m 0 ls []) from K_ _ _ hw
  clear hw hHe H
  intro H locs hw
  refine lv_iconst (v := 0) hx hb dX4_sizesHere_0 (by decide) ?_
  refine lv_istore_n (lv' := [(2, .int 0), (0, .ref (g 2)), (1, .ref (g 5))]) hx hb dX4_sizesHere_1 rfl hl (by decide) rfl (fun ls hl => ?_)
  refine lv_iconst (v := 0) hx hb dX4_sizesHere_2 (by decide) ?_
  refine lv_istore_n (lv' := [(3, .int 0), (2, .int 0), (0, .ref (g 2)), (1, .ref (g 5))]) hx hb dX4_sizesHere_3 rfl hl (by decide) rfl (fun ls hl => ?_)
  have L4_ : ∀ (n : Nat) (x2_4 : Int32) (x3_4 : Int32) (y4_ : Int32 × Int32), f_X4_sizesHere_4 σ 5 n x2_4 x3_4 = some y4_ → (∀ (H : Heap) (locs : List Loc) (ls : Array Slot), mg_Wo D A s.heap H locs (mg_cW g cI cZ σ) → lv_has ls 4 [(0, .ref (g 2)), (1, .ref (g 5)), (2, .int y4_.1), (3, .int y4_.2)] → W p l e (headSpec wsX4_sizesHere ({ frames := 2, cells := 0, slots := 0, locals := 42 } : Room)).room s m ([.ref (g 2), .ref (g 5)] : List Value).toArray below meth c H locs 0 0 (MQ below (mg_Q D (mg_cW g cI cZ σ) A (some (.int y))) ([.ref (g 2), .ref (g 5)] : List Value).toArray s 0 0 A) (F0 m 34 ls [])) → ∀ (H : Heap) (locs : List Loc) (ls : Array Slot), mg_Wo D A s.heap H locs (mg_cW g cI cZ σ) → lv_has ls 4 [(0, .ref (g 2)), (1, .ref (g 5)), (2, .int x2_4), (3, .int x3_4)] → W p l e (headSpec wsX4_sizesHere ({ frames := 2, cells := 0, slots := 0, locals := 42 } : Room)).room s m ([.ref (g 2), .ref (g 5)] : List Value).toArray below meth c H locs 0 0 (MQ below (mg_Q D (mg_cW g cI cZ σ) A (some (.int y))) ([.ref (g 2), .ref (g 5)] : List Value).toArray s 0 0 A) (F0 m 4 ls []) := by
    intro n
    induction n with
    | zero => intro x2_4 x3_4 y4_ h; rw [f_X4_sizesHere_4] at h; cases h
    | succ n ih =>
      intro x2_4 x3_4 y4_ h kc H locs ls hw hl
      rw [f_X4_sizesHere_4] at h
      refine lv_iload_n hx hb dX4_sizesHere_4 rfl (lv_at hl 3 rfl) ?_
      refine lv_aload_n hx hb dX4_sizesHere_5 rfl (lv_at hl 0 rfl) ?_
      refine va_get (D := D) (ci := 4) (v := .int (σ 2 2)) (C := RX4) (T := TX4) (N := 3) hx hb hts iX4_ hown hK hw.1 2 rfl rfl 2 (by decide) w0_ (fun _ h9 => h9) rfl dX4_sizesHere_6 ?_
      refine mg_icmp_ge (tgt := 34) hx hb h dX4_sizesHere_9 (by decide) (fun h => ?_) (fun h => ?_)
      · cases h
        exact kc H locs ls hw (lv_sub hl [0, 1, 2, 3] rfl)
      · refine lv_aload_n hx hb dX4_sizesHere_12 rfl (lv_at hl 0 rfl) ?_
        refine lv_iload_n hx hb dX4_sizesHere_13 rfl (lv_at hl 3 rfl) ?_
        obtain ⟨y2, h9_, h⟩ := mg_bind h
        refine mg_k (rv := (some (.int y2))) (va_runV (As := [.int x3_4]) (rest := []) G9 (k_X4_isHere l D o cI cZ g H.size σ x3_4 y2 h9_) (cwV 1 hts gX4_sizesHere_X4_isHere rfl rfl rfl (by decide +kernel) ⟨Nat.le_of_ble_eq_true rfl, Nat.le_of_ble_eq_true rfl⟩) (mg_preV hK hO hA hw (q0 := 2) rfl rfl) rfl rfl hl.1 rfl (lv_room (Nat.le_of_ble_eq_true rfl)) dX4_sizesHere_14 ⟨Nat.zero_le _, Nat.zero_le _⟩) hw hA (fun H locs hw => ?_)
        clear h9_
        refine mg_if_eq (tgt := 28) hx hb h dX4_sizesHere_17 (by decide) (fun h => ?_) (fun h => ?_)
        · refine lv_iinc (v := (x3_4 + 1)) (lv' := [(3, .int (x3_4 + 1)), (0, .ref (g 2)), (1, .ref (g 5)), (2, .int x2_4)]) hx hb dX4_sizesHere_28 hl (k := 3) rfl rfl (by decide) rfl (fun ls hl => ?_)
          refine lv_goto (tgt := 4) hx hb dX4_sizesHere_31 (by decide) ?_
          exact ih _ _ _ h kc H locs ls hw (lv_sub hl [1, 2, 3, 0] rfl)
        · refine lv_iload_n hx hb dX4_sizesHere_20 rfl (lv_at hl 2 rfl) ?_
          refine lv_aload_n hx hb dX4_sizesHere_21 rfl (lv_at hl 1 rfl) ?_
          refine lv_iload_n hx hb dX4_sizesHere_22 rfl (lv_at hl 3 rfl) ?_
          obtain ⟨y3, h9_, h⟩ := mg_bind h
          refine mg_k (rv := (some (.int y3))) (va_runV (As := [.int x3_4]) (rest := [.int x2_4]) G9 (k_X0_carpSize_5 l D o cI cZ g H.size σ x3_4 y3 h9_) (cwV 1 hts gX4_sizesHere_X0_carpSize rfl rfl rfl (by decide +kernel) ⟨Nat.le_of_ble_eq_true rfl, Nat.le_of_ble_eq_true rfl⟩) (mg_preV hK hO hA hw (q0 := 5) rfl rfl) rfl rfl hl.1 rfl (lv_room (Nat.le_of_ble_eq_true rfl)) dX4_sizesHere_23 ⟨Nat.zero_le _, Nat.zero_le _⟩) hw hA (fun H locs hw => ?_)
          clear h9_
          refine lv_iadd hx hb dX4_sizesHere_26 ?_
          refine lv_istore_n (lv' := [(2, .int (x2_4 + y3)), (0, .ref (g 2)), (1, .ref (g 5)), (3, .int x3_4)]) hx hb dX4_sizesHere_27 rfl hl (by decide) rfl (fun ls hl => ?_)
          refine lv_iinc (v := (x3_4 + 1)) (lv' := [(3, .int (x3_4 + 1)), (2, .int (x2_4 + y3)), (0, .ref (g 2)), (1, .ref (g 5))]) hx hb dX4_sizesHere_28 hl (k := 3) rfl rfl (by decide) rfl (fun ls hl => ?_)
          refine lv_goto (tgt := 4) hx hb dX4_sizesHere_31 (by decide) ?_
          exact ih _ _ _ h kc H locs ls hw (lv_sub hl [2, 3, 1, 0] rfl)
  obtain ⟨y1, h9_, h⟩ := mg_bind h
  refine L4_ _ _ _ _ h9_ (fun H locs ls hw hl => ?_) H locs ls hw (lv_sub hl [2, 3, 1, 0] rfl)
  clear L4_ h9_
  refine lv_iload_n hx hb dX4_sizesHere_34 rfl (lv_at hl 2 rfl) ?_
  cases h
  exact mg_eI hx hb hr hlocks hw (Nat.zero_le _) (Nat.zero_le _) dX4_sizesHere_35
set_option maxHeartbeats 4000000 in
set_option maxRecDepth 100000 in
theorem k_X4_sizesHere_6 (l : Launch) (D : va_G) (o : Nat → Nat) (cI cZ : ClassId) (g : Nat → Nat) (sz : Nat) (σ : mg_St)  (y : Int32) (h : f_X4_sizesHere σ 6  = some y) : mg_CT l yX4_sizesHere wsX4_sizesHere ({ frames := 2, cells := 0, slots := 0, locals := 42 } : Room) D [(cI, .int), (cZ, .boolean)] o (mg_cW g cI cZ σ) sz [.ref (g 2), .ref (g 6)] (some (.int y)) (mg_cW g cI cZ σ) 0 0 := by
  unfold mg_CT
  refine Met.ofW (cc := cX4_sizesHere) (maxL := 4) (ret := (some .int)) (by decide) rfl ?_
  intro p e s m args below meth c s₁ B hml hv
  obtain ⟨rfl, hsz, hP, hK, hD0, hO⟩ := hv
  have hx := B.exec
  have hb := B.bytes
  have hr := B.returns
  have hts := atoms_spec (ws := wsX4_sizesHere) B.pre
  have hown : s.vm.findClass RX4 = some m.cls := findClass_of_methodNamed B.named
  have hlocks := B.notSynchronized
  subst hsz
  have hD := hD0.self (sz := s.heap.size)
  generalize hAe : va_A (mg_cW g cI cZ σ) s.heap.size = A at hD hO ⊢
  have hA : ∀ q : Nat, s.heap.size ≤ q → A q := fun q h => by rw [← hAe]; exact Or.inr h
  have hw : mg_Wo D A s.heap s.heap [] (mg_cW g cI cZ σ) := ⟨hP, hD, va_S.rf⟩
  have G9 : CallFix p m c cX4_sizesHere 4 s ([.ref (g 2), .ref (g 6)] : List Value).toArray wsX4_sizesHere RX4 := ⟨hx, hb, hml, hown, hts⟩
  clear hP hD hD0 hAe
  obtain ⟨H, hHe⟩ : ∃ H : Heap, H = s.heap := ⟨_, rfl⟩
  have w0_ := hts (.fieldLink RX4 19 "MoonGate$Shoal" "came" "I") (by decide +kernel)
  have iX4_ : ∀ w ∈ wsX40, w ∈ wsX4_sizesHere := (fun _ h => List.mem_cons_of_mem _ (List.mem_append_left _ (List.mem_append_right _ h)))
  have hl := lv_entry ([.ref (g 2), .ref (g 6)]) (n := 4) (Nat.le_of_ble_eq_true rfl)
  rw [lg_entry_eq]
  generalize (lg_sl ([.ref (g 2), .ref (g 6)]) ++ List.replicate (4 - (lg_sl ([.ref (g 2), .ref (g 6)])).length) Slot.unset).toArray = ls at hl ⊢
  have hl : lv_has ls 4 [(0, .ref (g 2)), (1, .ref (g 6))] := hl
  unfold f_X4_sizesHere at h
  revert hw
  intro hw
  suffices K_ : ∀ (H : Heap) (locs : List Loc), mg_Wo D A s.heap H locs (mg_cW g cI cZ σ) → W p l e (headSpec wsX4_sizesHere ({ frames := 2, cells := 0, slots := 0, locals := 42 } : Room)).room s m ([.ref (g 2), .ref (g 6)] : List Value).toArray below meth c H locs 0 0 (MQ below (mg_Q D (mg_cW g cI cZ σ) A (some (.int y))) ([.ref (g 2), .ref (g 6)] : List Value).toArray s 0 0 A) (F0 m 0 ls []) from K_ _ _ hw
  clear hw hHe H
  intro H locs hw
  refine lv_iconst (v := 0) hx hb dX4_sizesHere_0 (by decide) ?_
  refine lv_istore_n (lv' := [(2, .int 0), (0, .ref (g 2)), (1, .ref (g 6))]) hx hb dX4_sizesHere_1 rfl hl (by decide) rfl (fun ls hl => ?_)
  refine lv_iconst (v := 0) hx hb dX4_sizesHere_2 (by decide) ?_
  refine lv_istore_n (lv' := [(3, .int 0), (2, .int 0), (0, .ref (g 2)), (1, .ref (g 6))]) hx hb dX4_sizesHere_3 rfl hl (by decide) rfl (fun ls hl => ?_)
  have L4_ : ∀ (n : Nat) (x2_4 : Int32) (x3_4 : Int32) (y4_ : Int32 × Int32), f_X4_sizesHere_4 σ 6 n x2_4 x3_4 = some y4_ → (∀ (H : Heap) (locs : List Loc) (ls : Array Slot), mg_Wo D A s.heap H locs (mg_cW g cI cZ σ) → lv_has ls 4 [(0, .ref (g 2)), (1, .ref (g 6)), (2, .int y4_.1), (3, .int y4_.2)] → W p l e (headSpec wsX4_sizesHere ({ frames := 2, cells := 0, slots := 0, locals := 42 } : Room)).room s m ([.ref (g 2), .ref (g 6)] : List Value).toArray below meth c H locs 0 0 (MQ below (mg_Q D (mg_cW g cI cZ σ) A (some (.int y))) ([.ref (g 2), .ref (g 6)] : List Value).toArray s 0 0 A) (F0 m 34 ls [])) → ∀ (H : Heap) (locs : List Loc) (ls : Array Slot), mg_Wo D A s.heap H locs (mg_cW g cI cZ σ) → lv_has ls 4 [(0, .ref (g 2)), (1, .ref (g 6)), (2, .int x2_4), (3, .int x3_4)] → W p l e (headSpec wsX4_sizesHere ({ frames := 2, cells := 0, slots := 0, locals := 42 } : Room)).room s m ([.ref (g 2), .ref (g 6)] : List Value).toArray below meth c H locs 0 0 (MQ below (mg_Q D (mg_cW g cI cZ σ) A (some (.int y))) ([.ref (g 2), .ref (g 6)] : List Value).toArray s 0 0 A) (F0 m 4 ls []) := by
    intro n
    induction n with
    | zero => intro x2_4 x3_4 y4_ h; rw [f_X4_sizesHere_4] at h; cases h
    | succ n ih =>
      intro x2_4 x3_4 y4_ h kc H locs ls hw hl
      rw [f_X4_sizesHere_4] at h
      refine lv_iload_n hx hb dX4_sizesHere_4 rfl (lv_at hl 3 rfl) ?_
      refine lv_aload_n hx hb dX4_sizesHere_5 rfl (lv_at hl 0 rfl) ?_
      refine va_get (D := D) (ci := 4) (v := .int (σ 2 2)) (C := RX4) (T := TX4) (N := 3) hx hb hts iX4_ hown hK hw.1 2 rfl rfl 2 (by decide) w0_ (fun _ h9 => h9) rfl dX4_sizesHere_6 ?_
      refine mg_icmp_ge (tgt := 34) hx hb h dX4_sizesHere_9 (by decide) (fun h => ?_) (fun h => ?_)
      · cases h
        exact kc H locs ls hw (lv_sub hl [0, 1, 2, 3] rfl)
      · refine lv_aload_n hx hb dX4_sizesHere_12 rfl (lv_at hl 0 rfl) ?_
        refine lv_iload_n hx hb dX4_sizesHere_13 rfl (lv_at hl 3 rfl) ?_
        obtain ⟨y2, h9_, h⟩ := mg_bind h
        refine mg_k (rv := (some (.int y2))) (va_runV (As := [.int x3_4]) (rest := []) G9 (k_X4_isHere l D o cI cZ g H.size σ x3_4 y2 h9_) (cwV 1 hts gX4_sizesHere_X4_isHere rfl rfl rfl (by decide +kernel) ⟨Nat.le_of_ble_eq_true rfl, Nat.le_of_ble_eq_true rfl⟩) (mg_preV hK hO hA hw (q0 := 2) rfl rfl) rfl rfl hl.1 rfl (lv_room (Nat.le_of_ble_eq_true rfl)) dX4_sizesHere_14 ⟨Nat.zero_le _, Nat.zero_le _⟩) hw hA (fun H locs hw => ?_)
        clear h9_
        refine mg_if_eq (tgt := 28) hx hb h dX4_sizesHere_17 (by decide) (fun h => ?_) (fun h => ?_)
        · refine lv_iinc (v := (x3_4 + 1)) (lv' := [(3, .int (x3_4 + 1)), (0, .ref (g 2)), (1, .ref (g 6)), (2, .int x2_4)]) hx hb dX4_sizesHere_28 hl (k := 3) rfl rfl (by decide) rfl (fun ls hl => ?_)
          refine lv_goto (tgt := 4) hx hb dX4_sizesHere_31 (by decide) ?_
          exact ih _ _ _ h kc H locs ls hw (lv_sub hl [1, 2, 3, 0] rfl)
        · refine lv_iload_n hx hb dX4_sizesHere_20 rfl (lv_at hl 2 rfl) ?_
          refine lv_aload_n hx hb dX4_sizesHere_21 rfl (lv_at hl 1 rfl) ?_
          refine lv_iload_n hx hb dX4_sizesHere_22 rfl (lv_at hl 3 rfl) ?_
          obtain ⟨y3, h9_, h⟩ := mg_bind h
          refine mg_k (rv := (some (.int y3))) (va_runV (As := [.int x3_4]) (rest := [.int x2_4]) G9 (k_X0_carpSize_6 l D o cI cZ g H.size σ x3_4 y3 h9_) (cwV 1 hts gX4_sizesHere_X0_carpSize rfl rfl rfl (by decide +kernel) ⟨Nat.le_of_ble_eq_true rfl, Nat.le_of_ble_eq_true rfl⟩) (mg_preV hK hO hA hw (q0 := 6) rfl rfl) rfl rfl hl.1 rfl (lv_room (Nat.le_of_ble_eq_true rfl)) dX4_sizesHere_23 ⟨Nat.zero_le _, Nat.zero_le _⟩) hw hA (fun H locs hw => ?_)
          clear h9_
          refine lv_iadd hx hb dX4_sizesHere_26 ?_
          refine lv_istore_n (lv' := [(2, .int (x2_4 + y3)), (0, .ref (g 2)), (1, .ref (g 6)), (3, .int x3_4)]) hx hb dX4_sizesHere_27 rfl hl (by decide) rfl (fun ls hl => ?_)
          refine lv_iinc (v := (x3_4 + 1)) (lv' := [(3, .int (x3_4 + 1)), (2, .int (x2_4 + y3)), (0, .ref (g 2)), (1, .ref (g 6))]) hx hb dX4_sizesHere_28 hl (k := 3) rfl rfl (by decide) rfl (fun ls hl => ?_)
          refine lv_goto (tgt := 4) hx hb dX4_sizesHere_31 (by decide) ?_
          exact ih _ _ _ h kc H locs ls hw (lv_sub hl [2, 3, 1, 0] rfl)
  obtain ⟨y1, h9_, h⟩ := mg_bind h
  refine L4_ _ _ _ _ h9_ (fun H locs ls hw hl => ?_) H locs ls hw (lv_sub hl [2, 3, 1, 0] rfl)
  clear L4_ h9_
  refine lv_iload_n hx hb dX4_sizesHere_34 rfl (lv_at hl 2 rfl) ?_
  cases h
  exact mg_eI hx hb hr hlocks hw (Nat.zero_le _) (Nat.zero_le _) dX4_sizesHere_35
set_option maxHeartbeats 4000000 in
set_option maxRecDepth 100000 in
theorem k_X4_sizesIn_5 (l : Launch) (D : va_G) (o : Nat → Nat) (cI cZ : ClassId) (g : Nat → Nat) (sz : Nat) (σ : mg_St) (x1 : Int32) (y : Int32) (h : f_X4_sizesIn σ 5 x1 = some y) : mg_CT l yX4_sizesIn wsX4_sizesIn ({ frames := 1, cells := 0, slots := 0, locals := 21 } : Room) D [(cI, .int), (cZ, .boolean)] o (mg_cW g cI cZ σ) sz [.ref (g 2), .int x1, .ref (g 5)] (some (.int y)) (mg_cW g cI cZ σ) 0 0 := by
  unfold mg_CT
  refine Met.ofW (cc := cX4_sizesIn) (maxL := 5) (ret := (some .int)) (by decide) rfl ?_
  intro p e s m args below meth c s₁ B hml hv
  obtain ⟨rfl, hsz, hP, hK, hD0, hO⟩ := hv
  have hx := B.exec
  have hb := B.bytes
  have hr := B.returns
  have hts := atoms_spec (ws := wsX4_sizesIn) B.pre
  have hown : s.vm.findClass RX4 = some m.cls := findClass_of_methodNamed B.named
  have hlocks := B.notSynchronized
  subst hsz
  have hD := hD0.self (sz := s.heap.size)
  generalize hAe : va_A (mg_cW g cI cZ σ) s.heap.size = A at hD hO ⊢
  have hA : ∀ q : Nat, s.heap.size ≤ q → A q := fun q h => by rw [← hAe]; exact Or.inr h
  have hw : mg_Wo D A s.heap s.heap [] (mg_cW g cI cZ σ) := ⟨hP, hD, va_S.rf⟩
  have G9 : CallFix p m c cX4_sizesIn 5 s ([.ref (g 2), .int x1, .ref (g 5)] : List Value).toArray wsX4_sizesIn RX4 := ⟨hx, hb, hml, hown, hts⟩
  clear hP hD hD0 hAe
  obtain ⟨H, hHe⟩ : ∃ H : Heap, H = s.heap := ⟨_, rfl⟩
  have w0_ := hts (.fieldLink RX4 19 "MoonGate$Shoal" "came" "I") (by decide +kernel)
  have iX4_ : ∀ w ∈ wsX40, w ∈ wsX4_sizesIn := (fun _ h => List.mem_cons_of_mem _ (List.mem_append_left _ (List.mem_append_right _ h)))
  have w2_ := hts (.fieldLink RX4 9 "MoonGate$Shoal" "places" "[I") (by decide +kernel)
  have w3_ := hts (.fieldLink RX4 15 "MoonGate$Shoal" "sold" "[Z") (by decide +kernel)
  have hl := lv_entry ([.ref (g 2), .int x1, .ref (g 5)]) (n := 5) (Nat.le_of_ble_eq_true rfl)
  rw [lg_entry_eq]
  generalize (lg_sl ([.ref (g 2), .int x1, .ref (g 5)]) ++ List.replicate (5 - (lg_sl ([.ref (g 2), .int x1, .ref (g 5)])).length) Slot.unset).toArray = ls at hl ⊢
  have hl : lv_has ls 5 [(0, .ref (g 2)), (1, .int x1), (2, .ref (g 5))] := hl
  unfold f_X4_sizesIn at h
  revert hw
  intro hw
  suffices K_ : ∀ (H : Heap) (locs : List Loc), mg_Wo D A s.heap H locs (mg_cW g cI cZ σ) → W p l e (headSpec wsX4_sizesIn ({ frames := 1, cells := 0, slots := 0, locals := 21 } : Room)).room s m ([.ref (g 2), .int x1, .ref (g 5)] : List Value).toArray below meth c H locs 0 0 (MQ below (mg_Q D (mg_cW g cI cZ σ) A (some (.int y))) ([.ref (g 2), .int x1, .ref (g 5)] : List Value).toArray s 0 0 A) (F0 m 0 ls []) from K_ _ _ hw
  clear hw hHe H
  intro H locs hw
  refine lv_iconst (v := 0) hx hb dX4_sizesIn_0 (by decide) ?_
  refine lv_istore_n (lv' := [(3, .int 0), (0, .ref (g 2)), (1, .int x1), (2, .ref (g 5))]) hx hb dX4_sizesIn_1 rfl hl (by decide) rfl (fun ls hl => ?_)
  refine lv_iconst (v := 0) hx hb dX4_sizesIn_2 (by decide) ?_
  refine lv_istore (lv' := [(4, .int 0), (3, .int 0), (0, .ref (g 2)), (1, .int x1), (2, .ref (g 5))]) hx hb dX4_sizesIn_3 hl (by decide) rfl (fun ls hl => ?_)
  have L5_ : ∀ (n : Nat) (x3_5 : Int32) (x4_5 : Int32) (y5_ : Int32 × Int32), f_X4_sizesIn_5 σ 5 x1 n x3_5 x4_5 = some y5_ → (∀ (H : Heap) (locs : List Loc) (ls : Array Slot), mg_Wo D A s.heap H locs (mg_cW g cI cZ σ) → lv_has ls 5 [(0, .ref (g 2)), (1, .int x1), (2, .ref (g 5)), (3, .int y5_.1), (4, .int y5_.2)] → W p l e (headSpec wsX4_sizesIn ({ frames := 1, cells := 0, slots := 0, locals := 21 } : Room)).room s m ([.ref (g 2), .int x1, .ref (g 5)] : List Value).toArray below meth c H locs 0 0 (MQ below (mg_Q D (mg_cW g cI cZ σ) A (some (.int y))) ([.ref (g 2), .int x1, .ref (g 5)] : List Value).toArray s 0 0 A) (F0 m 57 ls [])) → ∀ (H : Heap) (locs : List Loc) (ls : Array Slot), mg_Wo D A s.heap H locs (mg_cW g cI cZ σ) → lv_has ls 5 [(0, .ref (g 2)), (1, .int x1), (2, .ref (g 5)), (3, .int x3_5), (4, .int x4_5)] → W p l e (headSpec wsX4_sizesIn ({ frames := 1, cells := 0, slots := 0, locals := 21 } : Room)).room s m ([.ref (g 2), .int x1, .ref (g 5)] : List Value).toArray below meth c H locs 0 0 (MQ below (mg_Q D (mg_cW g cI cZ σ) A (some (.int y))) ([.ref (g 2), .int x1, .ref (g 5)] : List Value).toArray s 0 0 A) (F0 m 5 ls []) := by
    intro n
    induction n with
    | zero => intro x3_5 x4_5 y5_ h; rw [f_X4_sizesIn_5] at h; cases h
    | succ n ih =>
      intro x3_5 x4_5 y5_ h kc H locs ls hw hl
      rw [f_X4_sizesIn_5] at h
      refine lv_iload hx hb dX4_sizesIn_5 (lv_at hl 4 rfl) ?_
      refine lv_aload_n hx hb dX4_sizesIn_7 rfl (lv_at hl 0 rfl) ?_
      refine va_get (D := D) (ci := 4) (v := .int (σ 2 2)) (C := RX4) (T := TX4) (N := 3) hx hb hts iX4_ hown hK hw.1 2 rfl rfl 2 (by decide) w0_ (fun _ h9 => h9) rfl dX4_sizesIn_8 ?_
      refine mg_icmp_ge (tgt := 57) hx hb h dX4_sizesIn_11 (by decide) (fun h => ?_) (fun h => ?_)
      · cases h
        exact kc H locs ls hw (lv_sub hl [0, 1, 2, 3, 4] rfl)
      · refine lv_iload hx hb dX4_sizesIn_14 (lv_at hl 4 rfl) ?_
        refine lv_bipush (v := 30) hx hb dX4_sizesIn_16 (by decide) ?_
        refine mg_icmp_ge (tgt := 57) hx hb h dX4_sizesIn_18 (by decide) (fun h => ?_) (fun h => ?_)
        · cases h
          exact kc H locs ls hw (lv_sub hl [0, 1, 2, 3, 4] rfl)
        · refine lv_aload_n hx hb dX4_sizesIn_21 rfl (lv_at hl 0 rfl) ?_
          refine va_get (D := D) (ci := 4) (v := .ref (g 16)) (C := RX4) (T := TX4) (N := 3) hx hb hts iX4_ hown hK hw.1 2 rfl rfl 0 (by decide) w2_ (fun _ h9 => h9) rfl dX4_sizesIn_22 ?_
          refine lv_iload hx hb dX4_sizesIn_25 (lv_at hl 4 rfl) ?_
          refine mg_ald (σ := σ) (k := 16) (n := 30) hx hb hK hw 16 0 rfl rfl h dX4_sizesIn_27 (fun v2 h => ?_)
          refine lv_iload_n hx hb dX4_sizesIn_28 rfl (lv_at hl 1 rfl) ?_
          refine mg_icmp_ne (tgt := 51) hx hb h dX4_sizesIn_29 (by decide) (fun h => ?_) (fun h => ?_)
          · refine lv_iinc (v := (x4_5 + 1)) (lv' := [(4, .int (x4_5 + 1)), (0, .ref (g 2)), (1, .int x1), (2, .ref (g 5)), (3, .int x3_5)]) hx hb dX4_sizesIn_51 hl (k := 4) rfl rfl (by decide) rfl (fun ls hl => ?_)
            refine lv_goto (tgt := 5) hx hb dX4_sizesIn_54 (by decide) ?_
            exact ih _ _ _ h kc H locs ls hw (lv_sub hl [1, 2, 3, 4, 0] rfl)
          · refine lv_aload_n hx hb dX4_sizesIn_32 rfl (lv_at hl 0 rfl) ?_
            refine va_get (D := D) (ci := 4) (v := .ref (g 17)) (C := RX4) (T := TX4) (N := 3) hx hb hts iX4_ hown hK hw.1 2 rfl rfl 1 (by decide) w3_ (fun _ h9 => h9) rfl dX4_sizesIn_33 ?_
            refine lv_iload hx hb dX4_sizesIn_36 (lv_at hl 4 rfl) ?_
            refine mg_zald (σ := σ) (k := 17) (n := 30) hx hb hK hw 17 1 rfl rfl h dX4_sizesIn_38 (fun v3 h => ?_)
            refine mg_if_ne (tgt := 51) hx hb h dX4_sizesIn_39 (by decide) (fun h => ?_) (fun h => ?_)
            · refine lv_iinc (v := (x4_5 + 1)) (lv' := [(4, .int (x4_5 + 1)), (0, .ref (g 2)), (1, .int x1), (2, .ref (g 5)), (3, .int x3_5)]) hx hb dX4_sizesIn_51 hl (k := 4) rfl rfl (by decide) rfl (fun ls hl => ?_)
              refine lv_goto (tgt := 5) hx hb dX4_sizesIn_54 (by decide) ?_
              exact ih _ _ _ h kc H locs ls hw (lv_sub hl [1, 2, 3, 4, 0] rfl)
            · refine lv_iload_n hx hb dX4_sizesIn_42 rfl (lv_at hl 3 rfl) ?_
              refine lv_aload_n hx hb dX4_sizesIn_43 rfl (lv_at hl 2 rfl) ?_
              refine lv_iload hx hb dX4_sizesIn_44 (lv_at hl 4 rfl) ?_
              obtain ⟨y4, h9_, h⟩ := mg_bind h
              refine mg_k (rv := (some (.int y4))) (va_runV (As := [.int x4_5]) (rest := [.int x3_5]) G9 (k_X0_carpSize_5 l D o cI cZ g H.size σ x4_5 y4 h9_) (cwV 1 hts gX4_sizesIn_X0_carpSize rfl rfl rfl (by decide +kernel) ⟨Nat.le_of_ble_eq_true rfl, Nat.le_of_ble_eq_true rfl⟩) (mg_preV hK hO hA hw (q0 := 5) rfl rfl) rfl rfl hl.1 rfl (lv_room (Nat.le_of_ble_eq_true rfl)) dX4_sizesIn_46 ⟨Nat.zero_le _, Nat.zero_le _⟩) hw hA (fun H locs hw => ?_)
              clear h9_
              refine lv_iadd hx hb dX4_sizesIn_49 ?_
              refine lv_istore_n (lv' := [(3, .int (x3_5 + y4)), (0, .ref (g 2)), (1, .int x1), (2, .ref (g 5)), (4, .int x4_5)]) hx hb dX4_sizesIn_50 rfl hl (by decide) rfl (fun ls hl => ?_)
              refine lv_iinc (v := (x4_5 + 1)) (lv' := [(4, .int (x4_5 + 1)), (3, .int (x3_5 + y4)), (0, .ref (g 2)), (1, .int x1), (2, .ref (g 5))]) hx hb dX4_sizesIn_51 hl (k := 4) rfl rfl (by decide) rfl (fun ls hl => ?_)
              refine lv_goto (tgt := 5) hx hb dX4_sizesIn_54 (by decide) ?_
              exact ih _ _ _ h kc H locs ls hw (lv_sub hl [2, 3, 4, 1, 0] rfl)
  obtain ⟨y1, h9_, h⟩ := mg_bind h
  refine L5_ _ _ _ _ h9_ (fun H locs ls hw hl => ?_) H locs ls hw (lv_sub hl [2, 3, 4, 1, 0] rfl)
  clear L5_ h9_
  refine lv_iload_n hx hb dX4_sizesIn_57 rfl (lv_at hl 3 rfl) ?_
  cases h
  exact mg_eI hx hb hr hlocks hw (Nat.zero_le _) (Nat.zero_le _) dX4_sizesIn_58
set_option maxHeartbeats 4000000 in
set_option maxRecDepth 100000 in
theorem k_X4_sizesIn_6 (l : Launch) (D : va_G) (o : Nat → Nat) (cI cZ : ClassId) (g : Nat → Nat) (sz : Nat) (σ : mg_St) (x1 : Int32) (y : Int32) (h : f_X4_sizesIn σ 6 x1 = some y) : mg_CT l yX4_sizesIn wsX4_sizesIn ({ frames := 1, cells := 0, slots := 0, locals := 21 } : Room) D [(cI, .int), (cZ, .boolean)] o (mg_cW g cI cZ σ) sz [.ref (g 2), .int x1, .ref (g 6)] (some (.int y)) (mg_cW g cI cZ σ) 0 0 := by
  unfold mg_CT
  refine Met.ofW (cc := cX4_sizesIn) (maxL := 5) (ret := (some .int)) (by decide) rfl ?_
  intro p e s m args below meth c s₁ B hml hv
  obtain ⟨rfl, hsz, hP, hK, hD0, hO⟩ := hv
  have hx := B.exec
  have hb := B.bytes
  have hr := B.returns
  have hts := atoms_spec (ws := wsX4_sizesIn) B.pre
  have hown : s.vm.findClass RX4 = some m.cls := findClass_of_methodNamed B.named
  have hlocks := B.notSynchronized
  subst hsz
  have hD := hD0.self (sz := s.heap.size)
  generalize hAe : va_A (mg_cW g cI cZ σ) s.heap.size = A at hD hO ⊢
  have hA : ∀ q : Nat, s.heap.size ≤ q → A q := fun q h => by rw [← hAe]; exact Or.inr h
  have hw : mg_Wo D A s.heap s.heap [] (mg_cW g cI cZ σ) := ⟨hP, hD, va_S.rf⟩
  have G9 : CallFix p m c cX4_sizesIn 5 s ([.ref (g 2), .int x1, .ref (g 6)] : List Value).toArray wsX4_sizesIn RX4 := ⟨hx, hb, hml, hown, hts⟩
  clear hP hD hD0 hAe
  obtain ⟨H, hHe⟩ : ∃ H : Heap, H = s.heap := ⟨_, rfl⟩
  have w0_ := hts (.fieldLink RX4 19 "MoonGate$Shoal" "came" "I") (by decide +kernel)
  have iX4_ : ∀ w ∈ wsX40, w ∈ wsX4_sizesIn := (fun _ h => List.mem_cons_of_mem _ (List.mem_append_left _ (List.mem_append_right _ h)))
  have w2_ := hts (.fieldLink RX4 9 "MoonGate$Shoal" "places" "[I") (by decide +kernel)
  have w3_ := hts (.fieldLink RX4 15 "MoonGate$Shoal" "sold" "[Z") (by decide +kernel)
  have hl := lv_entry ([.ref (g 2), .int x1, .ref (g 6)]) (n := 5) (Nat.le_of_ble_eq_true rfl)
  rw [lg_entry_eq]
  generalize (lg_sl ([.ref (g 2), .int x1, .ref (g 6)]) ++ List.replicate (5 - (lg_sl ([.ref (g 2), .int x1, .ref (g 6)])).length) Slot.unset).toArray = ls at hl ⊢
  have hl : lv_has ls 5 [(0, .ref (g 2)), (1, .int x1), (2, .ref (g 6))] := hl
  unfold f_X4_sizesIn at h
  revert hw
  intro hw
  suffices K_ : ∀ (H : Heap) (locs : List Loc), mg_Wo D A s.heap H locs (mg_cW g cI cZ σ) → W p l e (headSpec wsX4_sizesIn ({ frames := 1, cells := 0, slots := 0, locals := 21 } : Room)).room s m ([.ref (g 2), .int x1, .ref (g 6)] : List Value).toArray below meth c H locs 0 0 (MQ below (mg_Q D (mg_cW g cI cZ σ) A (some (.int y))) ([.ref (g 2), .int x1, .ref (g 6)] : List Value).toArray s 0 0 A) (F0 m 0 ls []) from K_ _ _ hw
  clear hw hHe H
  intro H locs hw
  refine lv_iconst (v := 0) hx hb dX4_sizesIn_0 (by decide) ?_
  refine lv_istore_n (lv' := [(3, .int 0), (0, .ref (g 2)), (1, .int x1), (2, .ref (g 6))]) hx hb dX4_sizesIn_1 rfl hl (by decide) rfl (fun ls hl => ?_)
  refine lv_iconst (v := 0) hx hb dX4_sizesIn_2 (by decide) ?_
  refine lv_istore (lv' := [(4, .int 0), (3, .int 0), (0, .ref (g 2)), (1, .int x1), (2, .ref (g 6))]) hx hb dX4_sizesIn_3 hl (by decide) rfl (fun ls hl => ?_)
  have L5_ : ∀ (n : Nat) (x3_5 : Int32) (x4_5 : Int32) (y5_ : Int32 × Int32), f_X4_sizesIn_5 σ 6 x1 n x3_5 x4_5 = some y5_ → (∀ (H : Heap) (locs : List Loc) (ls : Array Slot), mg_Wo D A s.heap H locs (mg_cW g cI cZ σ) → lv_has ls 5 [(0, .ref (g 2)), (1, .int x1), (2, .ref (g 6)), (3, .int y5_.1), (4, .int y5_.2)] → W p l e (headSpec wsX4_sizesIn ({ frames := 1, cells := 0, slots := 0, locals := 21 } : Room)).room s m ([.ref (g 2), .int x1, .ref (g 6)] : List Value).toArray below meth c H locs 0 0 (MQ below (mg_Q D (mg_cW g cI cZ σ) A (some (.int y))) ([.ref (g 2), .int x1, .ref (g 6)] : List Value).toArray s 0 0 A) (F0 m 57 ls [])) → ∀ (H : Heap) (locs : List Loc) (ls : Array Slot), mg_Wo D A s.heap H locs (mg_cW g cI cZ σ) → lv_has ls 5 [(0, .ref (g 2)), (1, .int x1), (2, .ref (g 6)), (3, .int x3_5), (4, .int x4_5)] → W p l e (headSpec wsX4_sizesIn ({ frames := 1, cells := 0, slots := 0, locals := 21 } : Room)).room s m ([.ref (g 2), .int x1, .ref (g 6)] : List Value).toArray below meth c H locs 0 0 (MQ below (mg_Q D (mg_cW g cI cZ σ) A (some (.int y))) ([.ref (g 2), .int x1, .ref (g 6)] : List Value).toArray s 0 0 A) (F0 m 5 ls []) := by
    intro n
    induction n with
    | zero => intro x3_5 x4_5 y5_ h; rw [f_X4_sizesIn_5] at h; cases h
    | succ n ih =>
      intro x3_5 x4_5 y5_ h kc H locs ls hw hl
      rw [f_X4_sizesIn_5] at h
      refine lv_iload hx hb dX4_sizesIn_5 (lv_at hl 4 rfl) ?_
      refine lv_aload_n hx hb dX4_sizesIn_7 rfl (lv_at hl 0 rfl) ?_
      refine va_get (D := D) (ci := 4) (v := .int (σ 2 2)) (C := RX4) (T := TX4) (N := 3) hx hb hts iX4_ hown hK hw.1 2 rfl rfl 2 (by decide) w0_ (fun _ h9 => h9) rfl dX4_sizesIn_8 ?_
      refine mg_icmp_ge (tgt := 57) hx hb h dX4_sizesIn_11 (by decide) (fun h => ?_) (fun h => ?_)
      · cases h
        exact kc H locs ls hw (lv_sub hl [0, 1, 2, 3, 4] rfl)
      · refine lv_iload hx hb dX4_sizesIn_14 (lv_at hl 4 rfl) ?_
        refine lv_bipush (v := 30) hx hb dX4_sizesIn_16 (by decide) ?_
        refine mg_icmp_ge (tgt := 57) hx hb h dX4_sizesIn_18 (by decide) (fun h => ?_) (fun h => ?_)
        · cases h
          exact kc H locs ls hw (lv_sub hl [0, 1, 2, 3, 4] rfl)
        · refine lv_aload_n hx hb dX4_sizesIn_21 rfl (lv_at hl 0 rfl) ?_
          refine va_get (D := D) (ci := 4) (v := .ref (g 16)) (C := RX4) (T := TX4) (N := 3) hx hb hts iX4_ hown hK hw.1 2 rfl rfl 0 (by decide) w2_ (fun _ h9 => h9) rfl dX4_sizesIn_22 ?_
          refine lv_iload hx hb dX4_sizesIn_25 (lv_at hl 4 rfl) ?_
          refine mg_ald (σ := σ) (k := 16) (n := 30) hx hb hK hw 16 0 rfl rfl h dX4_sizesIn_27 (fun v2 h => ?_)
          refine lv_iload_n hx hb dX4_sizesIn_28 rfl (lv_at hl 1 rfl) ?_
          refine mg_icmp_ne (tgt := 51) hx hb h dX4_sizesIn_29 (by decide) (fun h => ?_) (fun h => ?_)
          · refine lv_iinc (v := (x4_5 + 1)) (lv' := [(4, .int (x4_5 + 1)), (0, .ref (g 2)), (1, .int x1), (2, .ref (g 6)), (3, .int x3_5)]) hx hb dX4_sizesIn_51 hl (k := 4) rfl rfl (by decide) rfl (fun ls hl => ?_)
            refine lv_goto (tgt := 5) hx hb dX4_sizesIn_54 (by decide) ?_
            exact ih _ _ _ h kc H locs ls hw (lv_sub hl [1, 2, 3, 4, 0] rfl)
          · refine lv_aload_n hx hb dX4_sizesIn_32 rfl (lv_at hl 0 rfl) ?_
            refine va_get (D := D) (ci := 4) (v := .ref (g 17)) (C := RX4) (T := TX4) (N := 3) hx hb hts iX4_ hown hK hw.1 2 rfl rfl 1 (by decide) w3_ (fun _ h9 => h9) rfl dX4_sizesIn_33 ?_
            refine lv_iload hx hb dX4_sizesIn_36 (lv_at hl 4 rfl) ?_
            refine mg_zald (σ := σ) (k := 17) (n := 30) hx hb hK hw 17 1 rfl rfl h dX4_sizesIn_38 (fun v3 h => ?_)
            refine mg_if_ne (tgt := 51) hx hb h dX4_sizesIn_39 (by decide) (fun h => ?_) (fun h => ?_)
            · refine lv_iinc (v := (x4_5 + 1)) (lv' := [(4, .int (x4_5 + 1)), (0, .ref (g 2)), (1, .int x1), (2, .ref (g 6)), (3, .int x3_5)]) hx hb dX4_sizesIn_51 hl (k := 4) rfl rfl (by decide) rfl (fun ls hl => ?_)
              refine lv_goto (tgt := 5) hx hb dX4_sizesIn_54 (by decide) ?_
              exact ih _ _ _ h kc H locs ls hw (lv_sub hl [1, 2, 3, 4, 0] rfl)
            · refine lv_iload_n hx hb dX4_sizesIn_42 rfl (lv_at hl 3 rfl) ?_
              refine lv_aload_n hx hb dX4_sizesIn_43 rfl (lv_at hl 2 rfl) ?_
              refine lv_iload hx hb dX4_sizesIn_44 (lv_at hl 4 rfl) ?_
              obtain ⟨y4, h9_, h⟩ := mg_bind h
              refine mg_k (rv := (some (.int y4))) (va_runV (As := [.int x4_5]) (rest := [.int x3_5]) G9 (k_X0_carpSize_6 l D o cI cZ g H.size σ x4_5 y4 h9_) (cwV 1 hts gX4_sizesIn_X0_carpSize rfl rfl rfl (by decide +kernel) ⟨Nat.le_of_ble_eq_true rfl, Nat.le_of_ble_eq_true rfl⟩) (mg_preV hK hO hA hw (q0 := 6) rfl rfl) rfl rfl hl.1 rfl (lv_room (Nat.le_of_ble_eq_true rfl)) dX4_sizesIn_46 ⟨Nat.zero_le _, Nat.zero_le _⟩) hw hA (fun H locs hw => ?_)
              clear h9_
              refine lv_iadd hx hb dX4_sizesIn_49 ?_
              refine lv_istore_n (lv' := [(3, .int (x3_5 + y4)), (0, .ref (g 2)), (1, .int x1), (2, .ref (g 6)), (4, .int x4_5)]) hx hb dX4_sizesIn_50 rfl hl (by decide) rfl (fun ls hl => ?_)
              refine lv_iinc (v := (x4_5 + 1)) (lv' := [(4, .int (x4_5 + 1)), (3, .int (x3_5 + y4)), (0, .ref (g 2)), (1, .int x1), (2, .ref (g 6))]) hx hb dX4_sizesIn_51 hl (k := 4) rfl rfl (by decide) rfl (fun ls hl => ?_)
              refine lv_goto (tgt := 5) hx hb dX4_sizesIn_54 (by decide) ?_
              exact ih _ _ _ h kc H locs ls hw (lv_sub hl [2, 3, 4, 1, 0] rfl)
  obtain ⟨y1, h9_, h⟩ := mg_bind h
  refine L5_ _ _ _ _ h9_ (fun H locs ls hw hl => ?_) H locs ls hw (lv_sub hl [2, 3, 4, 1, 0] rfl)
  clear L5_ h9_
  refine lv_iload_n hx hb dX4_sizesIn_57 rfl (lv_at hl 3 rfl) ?_
  cases h
  exact mg_eI hx hb hr hlocks hw (Nat.zero_le _) (Nat.zero_le _) dX4_sizesIn_58
set_option maxHeartbeats 4000000 in
set_option maxRecDepth 100000 in
theorem k_X5_begin (l : Launch) (D : va_G) (o : Nat → Nat) (cI cZ : ClassId) (g : Nat → Nat) (sz : Nat) (σ : mg_St)  (y : mg_St) (h : f_X5_begin σ  = some y) : mg_CT l yX5_begin wsX5_begin ({ frames := 0, cells := 0, slots := 0, locals := 0 } : Room) D [(cI, .int), (cZ, .boolean)] o (mg_cW g cI cZ σ) sz [.ref (g 7)] none (mg_cW g cI cZ y) 0 0 := by
  unfold mg_CT
  refine Met.ofW (cc := cX5_begin) (maxL := 1) (ret := none) (by decide) rfl ?_
  intro p e s m args below meth c s₁ B hml hv
  obtain ⟨rfl, hsz, hP, hK, hD0, hO⟩ := hv
  have hx := B.exec
  have hb := B.bytes
  have hr := B.returns
  have hts := atoms_spec (ws := wsX5_begin) B.pre
  have hown : s.vm.findClass RX5 = some m.cls := findClass_of_methodNamed B.named
  have hlocks := B.notSynchronized
  subst hsz
  have hD := hD0.self (sz := s.heap.size)
  generalize hAe : va_A (mg_cW g cI cZ σ) s.heap.size = A at hD hO ⊢
  have hA : ∀ q : Nat, s.heap.size ≤ q → A q := fun q h => by rw [← hAe]; exact Or.inr h
  have hw : mg_Wo D A s.heap s.heap [] (mg_cW g cI cZ σ) := ⟨hP, hD, va_S.rf⟩
  have G9 : CallFix p m c cX5_begin 1 s ([.ref (g 7)] : List Value).toArray wsX5_begin RX5 := ⟨hx, hb, hml, hown, hts⟩
  clear hP hD hD0 hAe
  obtain ⟨H, hHe⟩ : ∃ H : Heap, H = s.heap := ⟨_, rfl⟩
  have w0_ := hts (.fieldLink RX5 7 "MoonGate$View" "cells" "I") (by decide +kernel)
  have iX5_ : ∀ w ∈ wsX50, w ∈ wsX5_begin := (fun _ h => List.mem_cons_of_mem _ (List.mem_append_right _ h))
  have w2_ := hts (.fieldLink RX5 13 "MoonGate$View" "rocks" "I") (by decide +kernel)
  have w3_ := hts (.fieldLink RX5 16 "MoonGate$View" "pondCells" "I") (by decide +kernel)
  have w4_ := hts (.fieldLink RX5 19 "MoonGate$View" "beauty" "I") (by decide +kernel)
  have w5_ := hts (.fieldLink RX5 22 "MoonGate$View" "shapesShown" "I") (by decide +kernel)
  have hl := lv_entry ([.ref (g 7)]) (n := 1) (Nat.le_of_ble_eq_true rfl)
  rw [lg_entry_eq]
  generalize (lg_sl ([.ref (g 7)]) ++ List.replicate (1 - (lg_sl ([.ref (g 7)])).length) Slot.unset).toArray = ls at hl ⊢
  have hl : lv_has ls 1 [(0, .ref (g 7))] := hl
  unfold f_X5_begin at h
  revert hw
  intro hw
  suffices K_ : ∀ (H : Heap) (locs : List Loc), mg_Wo D A s.heap H locs (mg_cW g cI cZ σ) → W p l e (headSpec wsX5_begin ({ frames := 0, cells := 0, slots := 0, locals := 0 } : Room)).room s m ([.ref (g 7)] : List Value).toArray below meth c H locs 0 0 (MQ below (mg_Q D (mg_cW g cI cZ y) A none) ([.ref (g 7)] : List Value).toArray s 0 0 A) (F0 m 0 ls []) from K_ _ _ hw
  clear hw hHe H
  intro H locs hw
  refine lv_aload_n hx hb dX5_begin_0 rfl (lv_at hl 0 rfl) ?_
  refine lv_iconst (v := 0) hx hb dX5_begin_1 (by decide) ?_
  refine mg_put (wd := mg_cW g cI cZ) (σ := σ) (v := 0) (ci := 5) (C := RX5) (T := TX5) (N := 5) hx hb hts iX5_ tyX5 tyX5_ok nmX5 hown hK hw 7 7 rfl rfl 0 (by decide) w0_ (fun _ h9 => h9) rfl (by decide +kernel) (Nat.le_of_ble_eq_true rfl) rfl dX5_begin_2 (fun H locs hw => ?_)
  refine lv_aload_n hx hb dX5_begin_5 rfl (lv_at hl 0 rfl) ?_
  refine lv_iconst (v := 0) hx hb dX5_begin_6 (by decide) ?_
  refine mg_put (wd := mg_cW g cI cZ) (σ := (mg_su σ 7 0 0)) (v := 0) (ci := 5) (C := RX5) (T := TX5) (N := 5) hx hb hts iX5_ tyX5 tyX5_ok nmX5 hown hK hw 7 7 rfl rfl 1 (by decide) w2_ (fun _ h9 => h9) rfl (by decide +kernel) (Nat.le_of_ble_eq_true rfl) rfl dX5_begin_7 (fun H locs hw => ?_)
  refine lv_aload_n hx hb dX5_begin_10 rfl (lv_at hl 0 rfl) ?_
  refine lv_iconst (v := 0) hx hb dX5_begin_11 (by decide) ?_
  refine mg_put (wd := mg_cW g cI cZ) (σ := (mg_su (mg_su σ 7 0 0) 7 1 0)) (v := 0) (ci := 5) (C := RX5) (T := TX5) (N := 5) hx hb hts iX5_ tyX5 tyX5_ok nmX5 hown hK hw 7 7 rfl rfl 2 (by decide) w3_ (fun _ h9 => h9) rfl (by decide +kernel) (Nat.le_of_ble_eq_true rfl) rfl dX5_begin_12 (fun H locs hw => ?_)
  refine lv_aload_n hx hb dX5_begin_15 rfl (lv_at hl 0 rfl) ?_
  refine lv_iconst (v := 0) hx hb dX5_begin_16 (by decide) ?_
  refine mg_put (wd := mg_cW g cI cZ) (σ := (mg_su (mg_su (mg_su σ 7 0 0) 7 1 0) 7 2 0)) (v := 0) (ci := 5) (C := RX5) (T := TX5) (N := 5) hx hb hts iX5_ tyX5 tyX5_ok nmX5 hown hK hw 7 7 rfl rfl 3 (by decide) w4_ (fun _ h9 => h9) rfl (by decide +kernel) (Nat.le_of_ble_eq_true rfl) rfl dX5_begin_17 (fun H locs hw => ?_)
  refine lv_aload_n hx hb dX5_begin_20 rfl (lv_at hl 0 rfl) ?_
  refine lv_iconst (v := 0) hx hb dX5_begin_21 (by decide) ?_
  refine mg_put (wd := mg_cW g cI cZ) (σ := (mg_su (mg_su (mg_su (mg_su σ 7 0 0) 7 1 0) 7 2 0) 7 3 0)) (v := 0) (ci := 5) (C := RX5) (T := TX5) (N := 5) hx hb hts iX5_ tyX5 tyX5_ok nmX5 hown hK hw 7 7 rfl rfl 4 (by decide) w5_ (fun _ h9 => h9) rfl (by decide +kernel) (Nat.le_of_ble_eq_true rfl) rfl dX5_begin_22 (fun H locs hw => ?_)
  cases h
  exact mg_eV hx hb hr hlocks hw (Nat.zero_le _) (Nat.zero_le _) dX5_begin_25
set_option maxHeartbeats 4000000 in
set_option maxRecDepth 100000 in
theorem k_X5_addRock (l : Launch) (D : va_G) (o : Nat → Nat) (cI cZ : ClassId) (g : Nat → Nat) (sz : Nat) (σ : mg_St) (x1 : Int32) (x2 : Int32) (y : mg_St) (h : f_X5_addRock σ x1 x2 = some y) : mg_CT l yX5_addRock wsX5_addRock ({ frames := 0, cells := 0, slots := 0, locals := 0 } : Room) D [(cI, .int), (cZ, .boolean)] o (mg_cW g cI cZ σ) sz [.ref (g 7), .int x1, .int x2] none (mg_cW g cI cZ y) 0 0 := by
  unfold mg_CT
  refine Met.ofW (cc := cX5_addRock) (maxL := 4) (ret := none) (by decide) rfl ?_
  intro p e s m args below meth c s₁ B hml hv
  obtain ⟨rfl, hsz, hP, hK, hD0, hO⟩ := hv
  have hx := B.exec
  have hb := B.bytes
  have hr := B.returns
  have hts := atoms_spec (ws := wsX5_addRock) B.pre
  have hown : s.vm.findClass RX5 = some m.cls := findClass_of_methodNamed B.named
  have hlocks := B.notSynchronized
  subst hsz
  have hD := hD0.self (sz := s.heap.size)
  generalize hAe : va_A (mg_cW g cI cZ σ) s.heap.size = A at hD hO ⊢
  have hA : ∀ q : Nat, s.heap.size ≤ q → A q := fun q h => by rw [← hAe]; exact Or.inr h
  have hw : mg_Wo D A s.heap s.heap [] (mg_cW g cI cZ σ) := ⟨hP, hD, va_S.rf⟩
  have G9 : CallFix p m c cX5_addRock 4 s ([.ref (g 7), .int x1, .int x2] : List Value).toArray wsX5_addRock RX5 := ⟨hx, hb, hml, hown, hts⟩
  clear hP hD hD0 hAe
  obtain ⟨H, hHe⟩ : ∃ H : Heap, H = s.heap := ⟨_, rfl⟩
  have w0_ := hts (.fieldLink RX5 13 "MoonGate$View" "rocks" "I") (by decide +kernel)
  have iX5_ : ∀ w ∈ wsX50, w ∈ wsX5_addRock := (fun _ h => List.mem_cons_of_mem _ (List.mem_append_right _ h))
  have w2_ := hts (.fieldLink RX5 19 "MoonGate$View" "beauty" "I") (by decide +kernel)
  have w3_ := hts (.fieldLink RX5 22 "MoonGate$View" "shapesShown" "I") (by decide +kernel)
  have hl := lv_entry ([.ref (g 7), .int x1, .int x2]) (n := 4) (Nat.le_of_ble_eq_true rfl)
  rw [lg_entry_eq]
  generalize (lg_sl ([.ref (g 7), .int x1, .int x2]) ++ List.replicate (4 - (lg_sl ([.ref (g 7), .int x1, .int x2])).length) Slot.unset).toArray = ls at hl ⊢
  have hl : lv_has ls 4 [(0, .ref (g 7)), (1, .int x1), (2, .int x2)] := hl
  unfold f_X5_addRock at h
  revert hw
  intro hw
  suffices K_ : ∀ (H : Heap) (locs : List Loc), mg_Wo D A s.heap H locs (mg_cW g cI cZ σ) → W p l e (headSpec wsX5_addRock ({ frames := 0, cells := 0, slots := 0, locals := 0 } : Room)).room s m ([.ref (g 7), .int x1, .int x2] : List Value).toArray below meth c H locs 0 0 (MQ below (mg_Q D (mg_cW g cI cZ y) A none) ([.ref (g 7), .int x1, .int x2] : List Value).toArray s 0 0 A) (F0 m 0 ls []) from K_ _ _ hw
  clear hw hHe H
  intro H locs hw
  refine lv_iconst (v := 1) hx hb dX5_addRock_0 (by decide) ?_
  refine lv_iload_n hx hb dX5_addRock_1 rfl (lv_at hl 1 rfl) ?_
  refine lv_ishl hx hb dX5_addRock_2 ?_
  refine lv_istore_n (lv' := [(3, .int (1 <<< (x1 &&& 31))), (0, .ref (g 7)), (1, .int x1), (2, .int x2)]) hx hb dX5_addRock_3 rfl hl (by decide) rfl (fun ls hl => ?_)
  refine lv_aload_n hx hb dX5_addRock_4 rfl (lv_at hl 1 rfl) ?_
  refine lv_dup hx hb dX5_addRock_5 rfl ?_
  refine va_get (D := D) (ci := 5) (v := .int (σ 7 1)) (C := RX5) (T := TX5) (N := 5) hx hb hts iX5_ hown hK hw.1 7 rfl rfl 1 (by decide) w0_ (fun _ h9 => h9) rfl dX5_addRock_6 ?_
  refine lv_iconst (v := 1) hx hb dX5_addRock_9 (by decide) ?_
  refine lv_iadd hx hb dX5_addRock_10 ?_
  refine mg_put (wd := mg_cW g cI cZ) (σ := σ) (v := ((σ 7 1) + 1)) (ci := 5) (C := RX5) (T := TX5) (N := 5) hx hb hts iX5_ tyX5 tyX5_ok nmX5 hown hK hw 7 7 rfl rfl 1 (by decide) w0_ (fun _ h9 => h9) rfl (by decide +kernel) (Nat.le_of_ble_eq_true rfl) rfl dX5_addRock_11 (fun H locs hw => ?_)
  refine lv_aload_n hx hb dX5_addRock_14 rfl (lv_at hl 1 rfl) ?_
  refine lv_dup hx hb dX5_addRock_15 rfl ?_
  refine va_get (D := D) (ci := 5) (v := .int ((mg_su σ 7 1 ((σ 7 1) + 1)) 7 3)) (C := RX5) (T := TX5) (N := 5) hx hb hts iX5_ hown hK hw.1 7 rfl rfl 3 (by decide) w2_ (fun _ h9 => h9) rfl dX5_addRock_16 ?_
  refine lv_iload_n hx hb dX5_addRock_19 rfl (lv_at hl 3 rfl) ?_
  refine lv_iadd hx hb dX5_addRock_20 ?_
  refine mg_put (wd := mg_cW g cI cZ) (σ := (mg_su σ 7 1 ((σ 7 1) + 1))) (v := (((mg_su σ 7 1 ((σ 7 1) + 1)) 7 3) + x2)) (ci := 5) (C := RX5) (T := TX5) (N := 5) hx hb hts iX5_ tyX5 tyX5_ok nmX5 hown hK hw 7 7 rfl rfl 3 (by decide) w2_ (fun _ h9 => h9) rfl (by decide +kernel) (Nat.le_of_ble_eq_true rfl) rfl dX5_addRock_21 (fun H locs hw => ?_)
  refine lv_aload_n hx hb dX5_addRock_24 rfl (lv_at hl 1 rfl) ?_
  refine va_get (D := D) (ci := 5) (v := .int ((mg_su (mg_su σ 7 1 ((σ 7 1) + 1)) 7 3 (((mg_su σ 7 1 ((σ 7 1) + 1)) 7 3) + x2)) 7 4)) (C := RX5) (T := TX5) (N := 5) hx hb hts iX5_ hown hK hw.1 7 rfl rfl 4 (by decide) w3_ (fun _ h9 => h9) rfl dX5_addRock_25 ?_
  refine lv_iload_n hx hb dX5_addRock_28 rfl (lv_at hl 0 rfl) ?_
  refine lv_iand hx hb dX5_addRock_29 ?_
  obtain ⟨y1, h9_, h⟩ := mg_bind h
  have J30_ : ∀ (H : Heap) (locs : List Loc) (ls : Array Slot), mg_Wo D A s.heap H locs (mg_cW g cI cZ y1) → lv_has ls 4 [(0, .ref (g 7)), (1, .int x1), (2, .int x2), (3, .int (1 <<< (x1 &&& 31)))] → W p l e (headSpec wsX5_addRock ({ frames := 0, cells := 0, slots := 0, locals := 0 } : Room)).room s m ([.ref (g 7), .int x1, .int x2] : List Value).toArray below meth c H locs 0 0 (MQ below (mg_Q D (mg_cW g cI cZ y) A none) ([.ref (g 7), .int x1, .int x2] : List Value).toArray s 0 0 A) (F0 m 43 ls []) := by
    intro H locs ls hw hl
    clear h9_
    refine lv_aload_n hx hb dX5_addRock_43 rfl (lv_at hl 0 rfl) ?_
    refine lv_dup hx hb dX5_addRock_44 rfl ?_
    refine va_get (D := D) (ci := 5) (v := .int (y1 7 4)) (C := RX5) (T := TX5) (N := 5) hx hb hts iX5_ hown hK hw.1 7 rfl rfl 4 (by decide) w3_ (fun _ h9 => h9) rfl dX5_addRock_45 ?_
    refine lv_iload_n hx hb dX5_addRock_48 rfl (lv_at hl 3 rfl) ?_
    refine lv_ior hx hb dX5_addRock_49 ?_
    refine mg_put (wd := mg_cW g cI cZ) (σ := y1) (v := ((y1 7 4) ||| (1 <<< (x1 &&& 31)))) (ci := 5) (C := RX5) (T := TX5) (N := 5) hx hb hts iX5_ tyX5 tyX5_ok nmX5 hown hK hw 7 7 rfl rfl 4 (by decide) w3_ (fun _ h9 => h9) rfl (by decide +kernel) (Nat.le_of_ble_eq_true rfl) rfl dX5_addRock_50 (fun H locs hw => ?_)
    cases h
    exact mg_eV hx hb hr hlocks hw (Nat.zero_le _) (Nat.zero_le _) dX5_addRock_53
  clear h
  have h := h9_
  clear h9_
  refine mg_if_ne (tgt := 43) hx hb h dX5_addRock_30 (by decide) (fun h => ?_) (fun h => ?_)
  · cases h
    exact J30_ H locs ls hw (lv_sub hl [1, 2, 3, 0] rfl)
  · refine lv_aload_n hx hb dX5_addRock_33 rfl (lv_at hl 1 rfl) ?_
    refine lv_dup hx hb dX5_addRock_34 rfl ?_
    refine va_get (D := D) (ci := 5) (v := .int ((mg_su (mg_su σ 7 1 ((σ 7 1) + 1)) 7 3 (((mg_su σ 7 1 ((σ 7 1) + 1)) 7 3) + x2)) 7 3)) (C := RX5) (T := TX5) (N := 5) hx hb hts iX5_ hown hK hw.1 7 rfl rfl 3 (by decide) w2_ (fun _ h9 => h9) rfl dX5_addRock_35 ?_
    refine lv_iconst (v := 4) hx hb dX5_addRock_38 (by decide) ?_
    refine lv_iadd hx hb dX5_addRock_39 ?_
    refine mg_put (wd := mg_cW g cI cZ) (σ := (mg_su (mg_su σ 7 1 ((σ 7 1) + 1)) 7 3 (((mg_su σ 7 1 ((σ 7 1) + 1)) 7 3) + x2))) (v := (((mg_su (mg_su σ 7 1 ((σ 7 1) + 1)) 7 3 (((mg_su σ 7 1 ((σ 7 1) + 1)) 7 3) + x2)) 7 3) + 4)) (ci := 5) (C := RX5) (T := TX5) (N := 5) hx hb hts iX5_ tyX5 tyX5_ok nmX5 hown hK hw 7 7 rfl rfl 3 (by decide) w2_ (fun _ h9 => h9) rfl (by decide +kernel) (Nat.le_of_ble_eq_true rfl) rfl dX5_addRock_40 (fun H locs hw => ?_)
    cases h
    exact J30_ H locs ls hw (lv_sub hl [1, 2, 3, 0] rfl)
set_option maxHeartbeats 4000000 in
set_option maxRecDepth 100000 in
theorem k_X5_addPondCell (l : Launch) (D : va_G) (o : Nat → Nat) (cI cZ : ClassId) (g : Nat → Nat) (sz : Nat) (σ : mg_St) (x1 : Int32) (y : mg_St) (h : f_X5_addPondCell σ x1 = some y) : mg_CT l yX5_addPondCell wsX5_addPondCell ({ frames := 0, cells := 0, slots := 0, locals := 0 } : Room) D [(cI, .int), (cZ, .boolean)] o (mg_cW g cI cZ σ) sz [.ref (g 7), .int x1] none (mg_cW g cI cZ y) 0 0 := by
  unfold mg_CT
  refine Met.ofW (cc := cX5_addPondCell) (maxL := 2) (ret := none) (by decide) rfl ?_
  intro p e s m args below meth c s₁ B hml hv
  obtain ⟨rfl, hsz, hP, hK, hD0, hO⟩ := hv
  have hx := B.exec
  have hb := B.bytes
  have hr := B.returns
  have hts := atoms_spec (ws := wsX5_addPondCell) B.pre
  have hown : s.vm.findClass RX5 = some m.cls := findClass_of_methodNamed B.named
  have hlocks := B.notSynchronized
  subst hsz
  have hD := hD0.self (sz := s.heap.size)
  generalize hAe : va_A (mg_cW g cI cZ σ) s.heap.size = A at hD hO ⊢
  have hA : ∀ q : Nat, s.heap.size ≤ q → A q := fun q h => by rw [← hAe]; exact Or.inr h
  have hw : mg_Wo D A s.heap s.heap [] (mg_cW g cI cZ σ) := ⟨hP, hD, va_S.rf⟩
  have G9 : CallFix p m c cX5_addPondCell 2 s ([.ref (g 7), .int x1] : List Value).toArray wsX5_addPondCell RX5 := ⟨hx, hb, hml, hown, hts⟩
  clear hP hD hD0 hAe
  obtain ⟨H, hHe⟩ : ∃ H : Heap, H = s.heap := ⟨_, rfl⟩
  have w0_ := hts (.fieldLink RX5 16 "MoonGate$View" "pondCells" "I") (by decide +kernel)
  have iX5_ : ∀ w ∈ wsX50, w ∈ wsX5_addPondCell := (fun _ h => List.mem_cons_of_mem _ (List.mem_append_right _ h))
  have w2_ := hts (.fieldLink RX5 19 "MoonGate$View" "beauty" "I") (by decide +kernel)
  have hl := lv_entry ([.ref (g 7), .int x1]) (n := 2) (Nat.le_of_ble_eq_true rfl)
  rw [lg_entry_eq]
  generalize (lg_sl ([.ref (g 7), .int x1]) ++ List.replicate (2 - (lg_sl ([.ref (g 7), .int x1])).length) Slot.unset).toArray = ls at hl ⊢
  have hl : lv_has ls 2 [(0, .ref (g 7)), (1, .int x1)] := hl
  unfold f_X5_addPondCell at h
  revert hw
  intro hw
  suffices K_ : ∀ (H : Heap) (locs : List Loc), mg_Wo D A s.heap H locs (mg_cW g cI cZ σ) → W p l e (headSpec wsX5_addPondCell ({ frames := 0, cells := 0, slots := 0, locals := 0 } : Room)).room s m ([.ref (g 7), .int x1] : List Value).toArray below meth c H locs 0 0 (MQ below (mg_Q D (mg_cW g cI cZ y) A none) ([.ref (g 7), .int x1] : List Value).toArray s 0 0 A) (F0 m 0 ls []) from K_ _ _ hw
  clear hw hHe H
  intro H locs hw
  refine lv_aload_n hx hb dX5_addPondCell_0 rfl (lv_at hl 0 rfl) ?_
  refine lv_dup hx hb dX5_addPondCell_1 rfl ?_
  refine va_get (D := D) (ci := 5) (v := .int (σ 7 2)) (C := RX5) (T := TX5) (N := 5) hx hb hts iX5_ hown hK hw.1 7 rfl rfl 2 (by decide) w0_ (fun _ h9 => h9) rfl dX5_addPondCell_2 ?_
  refine lv_iconst (v := 1) hx hb dX5_addPondCell_5 (by decide) ?_
  refine lv_iadd hx hb dX5_addPondCell_6 ?_
  refine mg_put (wd := mg_cW g cI cZ) (σ := σ) (v := ((σ 7 2) + 1)) (ci := 5) (C := RX5) (T := TX5) (N := 5) hx hb hts iX5_ tyX5 tyX5_ok nmX5 hown hK hw 7 7 rfl rfl 2 (by decide) w0_ (fun _ h9 => h9) rfl (by decide +kernel) (Nat.le_of_ble_eq_true rfl) rfl dX5_addPondCell_7 (fun H locs hw => ?_)
  refine lv_aload_n hx hb dX5_addPondCell_10 rfl (lv_at hl 0 rfl) ?_
  refine lv_dup hx hb dX5_addPondCell_11 rfl ?_
  refine va_get (D := D) (ci := 5) (v := .int ((mg_su σ 7 2 ((σ 7 2) + 1)) 7 3)) (C := RX5) (T := TX5) (N := 5) hx hb hts iX5_ hown hK hw.1 7 rfl rfl 3 (by decide) w2_ (fun _ h9 => h9) rfl dX5_addPondCell_12 ?_
  refine lv_iconst (v := 3) hx hb dX5_addPondCell_15 (by decide) ?_
  refine lv_iload_n hx hb dX5_addPondCell_16 rfl (lv_at hl 1 rfl) ?_
  refine lv_bipush (v := 10) hx hb dX5_addPondCell_17 (by decide) ?_
  refine lv_idiv hx hb dX5_addPondCell_19 (by decide) ?_
  refine lv_iadd hx hb dX5_addPondCell_20 ?_
  refine lv_iadd hx hb dX5_addPondCell_21 ?_
  refine mg_put (wd := mg_cW g cI cZ) (σ := (mg_su σ 7 2 ((σ 7 2) + 1))) (v := (((mg_su σ 7 2 ((σ 7 2) + 1)) 7 3) + (3 + (x1 / 10)))) (ci := 5) (C := RX5) (T := TX5) (N := 5) hx hb hts iX5_ tyX5 tyX5_ok nmX5 hown hK hw 7 7 rfl rfl 3 (by decide) w2_ (fun _ h9 => h9) rfl (by decide +kernel) (Nat.le_of_ble_eq_true rfl) rfl dX5_addPondCell_22 (fun H locs hw => ?_)
  cases h
  exact mg_eV hx hb hr hlocks hw (Nat.zero_le _) (Nat.zero_le _) dX5_addPondCell_25
