set_option maxHeartbeats 4000000 in
set_option maxRecDepth 100000 in
theorem k_L_rock (l : Launch) (hst : l.stackTraces = false) (D : va_G) (o : Nat → Nat) (cI cZ cL : ClassId) (g : Nat → Nat) (q : Nat) (sz : Nat) (σ : mg_St) (f : Nat → Int64) (x1 x2 x3 x4 : Int32) (out : Except (Fin 3) Int32) (σ9 : mg_St) (h : f_X6_rock σ x1 x2 x3 x4 = some (out, σ9)) : mg_CT l yL_rock wsL_rock ({ frames := 8, cells := 1, slots := 6, locals := 137 } : Room) D [(cI, .int), (cZ, .boolean), (cL, .long)] o ((mg_cW g cI cZ σ) ++ (mg_oc q cL f)) sz [.ref (g 0), .int x1, .int x2, .int x3, .int x4, .ref q] (some (.int (mg_cd 1 2 3 out))) ((mg_cW g cI cZ σ9) ++ (mg_oc q cL (mg_of out f))) 1 6 := by
  unfold mg_CT
  refine mg_ofX (vx_ofWH (cc := cL_rock) (maxL := 7) (ret := some .int) (hh := [(0, 14, 17, 13), (0, 14, 21, 15), (0, 14, 25, 17)]) (by decide) rfl ?_)
  intro p e s m args below meth c s₁ B hml hv
  obtain ⟨rfl, hsz, hP, hK, hD0, hO⟩ := hv
  have hx := B.exec
  have hb := B.bytes
  have hr := B.returns
  have hts := atoms_spec (ws := wsL_rock) B.pre
  have hown : s.vm.findClass RL = some m.cls := findClass_of_methodNamed B.named
  have hlocks := B.notSynchronized
  have htab := vx_table (x := yL_rock) B (hts _ List.mem_cons_self)
  subst hsz
  have hD := hD0.self (sz := s.heap.size)
  generalize hAe : va_A ((mg_cW g cI cZ σ) ++ (mg_oc q cL f)) s.heap.size = A at hD hO ⊢
  have hA : ∀ q : Nat, s.heap.size ≤ q → A q := fun q h => by rw [← hAe]; exact Or.inr h
  have hw : mg_Wo D A s.heap s.heap [] ((mg_cW g cI cZ σ) ++ (mg_oc q cL f)) := ⟨hP, hD, va_S.rf⟩
  have G9 : CallFix p m c cL_rock 7 s ([.ref (g 0), .int x1, .int x2, .int x3, .int x4, .ref q] : List Value).toArray wsL_rock RL := ⟨hx, hb, hml, hown, hts⟩
  clear hP hD hD0 hAe
  have hl := lv_entry ([.ref (g 0), .int x1, .int x2, .int x3, .int x4, .ref q]) (n := 7) (Nat.le_of_ble_eq_true rfl)
  rw [lg_entry_eq]
  generalize (lg_sl ([.ref (g 0), .int x1, .int x2, .int x3, .int x4, .ref q]) ++ List.replicate (7 - (lg_sl ([.ref (g 0), .int x1, .int x2, .int x3, .int x4, .ref q])).length) Slot.unset).toArray = ls at hl ⊢
  have hl : lv_has ls 7 [(0, .ref (g 0)), (1, .int x1), (2, .int x2), (3, .int x3), (4, .int x4), (5, .ref q)] := hl
  refine lv_aload hx hb dL_rock_0 (lv_at hl 5 rfl) ?_
  refine lv_iconst (v := 0) hx hb dL_rock_2 (by decide) ?_
  refine lv_aload_n hx hb dL_rock_3 rfl (lv_at hl 0 rfl) ?_
  refine lv_iload_n hx hb dL_rock_4 rfl (lv_at hl 1 rfl) ?_
  refine lv_iload_n hx hb dL_rock_5 rfl (lv_at hl 2 rfl) ?_
  refine lv_iload_n hx hb dL_rock_6 rfl (lv_at hl 3 rfl) ?_
  refine lv_iload hx hb dL_rock_7 (lv_at hl 4 rfl) ?_
  refine mg_kxF (wl := []) (w0 := (mg_cW g cI cZ σ)) (wr := (mg_oc q cL f)) (w1 := (mg_cW g cI cZ σ9)) (out := Except.map (fun v : Int32 => some (.int v)) out) (vx_runV (As := [.int x1, .int x2, .int x3, .int x4]) (rest := [.int 0, .ref q]) G9 (k_X6_rock l hst D o cI cZ g s.heap.size σ x1 x2 x3 x4 out σ9 h 1 6 (fun _ _ => ⟨Nat.le_refl _, Nat.le_refl _⟩)) (cwV 4 hts gL_rock_X6_rock rfl rfl rfl (by decide +kernel) ⟨Nat.le_of_ble_eq_true rfl, Nat.le_of_ble_eq_true rfl⟩) (mg_preV (hK.sub (tys' := [(cI, .int), (cZ, .boolean)]) [0, 1] rfl) hO hA (mg_sub (wl := []) (w0 := (mg_cW g cI cZ σ)) hw) (q0 := 0) rfl rfl) rfl rfl hl.1 rfl (lv_room (Nat.le_of_ble_eq_true rfl)) dL_rock_9 ⟨Nat.le_of_ble_eq_true rfl, Nat.le_of_ble_eq_true rfl⟩) hw hA (fun k hk_ H locs q9 ce hw a1 a2 a3 => ?_) (fun rv hrv H locs hw => ?_)
  · cases out with
    | ok v => cases hk_
    | error k9 =>
      cases hk_
      rcases mg_fin3 k with rfl | rfl | rfl
      · refine vx_catch (own := RL) (name := "java/lang/IndexOutOfBoundsException") (E := mg_xn 0) hown [] ⟨0, 14, 17, 13⟩ [⟨0, 14, 21, 15⟩, ⟨0, 14, 25, 17⟩] (htab.trans rfl) (fun _ h_ => nomatch h_) rfl (by decide) (hts (.classLink RL 13 "java/lang/IndexOutOfBoundsException") (by decide +kernel)) (va_Nw.use rfl (hO.2.2.2.2.2.2.2.2.2.2.2.2.2.2.2.2.2.2.2.1)) a1 a2 a3 ?_
        refine lv_astore (lv' := [(6, .ref q9), (0, .ref (g 0)), (1, .int x1), (2, .int x2), (3, .int x3), (4, .int x4), (5, .ref q)]) hx hb dL_rock_17 hl (by decide) rfl (fun ls hl => ?_)
        refine lv_iconst (v := 1) hx hb dL_rock_19 (by decide) ?_
        exact vx_ret (mg_eI (w1 := (mg_cW g cI cZ σ9) ++ (mg_oc q cL (mg_of (.error 0) f))) hx hb hr hlocks hw (Nat.le_of_ble_eq_true rfl) (Nat.le_of_ble_eq_true rfl) dL_rock_20)
      · refine vx_catch (own := RL) (name := "java/lang/IllegalArgumentException") (E := mg_xn 1) hown [⟨0, 14, 17, 13⟩] ⟨0, 14, 21, 15⟩ [⟨0, 14, 25, 17⟩] (htab.trans rfl) (List.forall_mem_cons.mpr ⟨Or.inr ⟨by decide, "java/lang/IndexOutOfBoundsException", hts (.classLink RL 13 "java/lang/IndexOutOfBoundsException") (by decide +kernel), hO.2.2.2.2.2.2.2.2.2.2.2.2.2.2.2.2.2.2.2.2.2.2.2.2.1⟩, (fun _ h_ => nomatch h_)⟩) rfl (by decide) (hts (.classLink RL 15 "java/lang/IllegalArgumentException") (by decide +kernel)) (va_Nw.use rfl (hO.2.2.2.2.2.2.2.2.2.2.2.2.2.2.2.2.2.2.2.2.1)) a1 a2 a3 ?_
        refine lv_astore (lv' := [(6, .ref q9), (0, .ref (g 0)), (1, .int x1), (2, .int x2), (3, .int x3), (4, .int x4), (5, .ref q)]) hx hb dL_rock_21 hl (by decide) rfl (fun ls hl => ?_)
        refine lv_iconst (v := 2) hx hb dL_rock_23 (by decide) ?_
        exact vx_ret (mg_eI (w1 := (mg_cW g cI cZ σ9) ++ (mg_oc q cL (mg_of (.error 1) f))) hx hb hr hlocks hw (Nat.le_of_ble_eq_true rfl) (Nat.le_of_ble_eq_true rfl) dL_rock_24)
      · refine vx_catch (own := RL) (name := "java/lang/IllegalStateException") (E := mg_xn 2) hown [⟨0, 14, 17, 13⟩, ⟨0, 14, 21, 15⟩] ⟨0, 14, 25, 17⟩ [] (htab.trans rfl) (List.forall_mem_cons.mpr ⟨Or.inr ⟨by decide, "java/lang/IndexOutOfBoundsException", hts (.classLink RL 13 "java/lang/IndexOutOfBoundsException") (by decide +kernel), hO.2.2.2.2.2.2.2.2.2.2.2.2.2.2.2.2.2.2.2.2.2.2.2.2.2.2.1⟩, (List.forall_mem_cons.mpr ⟨Or.inr ⟨by decide, "java/lang/IllegalArgumentException", hts (.classLink RL 15 "java/lang/IllegalArgumentException") (by decide +kernel), hO.2.2.2.2.2.2.2.2.2.2.2.2.2.2.2.2.2.2.2.2.2.2.2.2.2.2.2.1⟩, (fun _ h_ => nomatch h_)⟩)⟩) rfl (by decide) (hts (.classLink RL 17 "java/lang/IllegalStateException") (by decide +kernel)) (va_Nw.use rfl (hO.2.2.2.2.2.2.2.2.2.2.2.2.2.2.2.2.2.2.2.2.2.1)) a1 a2 a3 ?_
        refine lv_astore (lv' := [(6, .ref q9), (0, .ref (g 0)), (1, .int x1), (2, .int x2), (3, .int x3), (4, .int x4), (5, .ref q)]) hx hb dL_rock_25 hl (by decide) rfl (fun ls hl => ?_)
        refine lv_iconst (v := 3) hx hb dL_rock_27 (by decide) ?_
        exact vx_ret (mg_eI (w1 := (mg_cW g cI cZ σ9) ++ (mg_oc q cL (mg_of (.error 2) f))) hx hb hr hlocks hw (Nat.le_of_ble_eq_true rfl) (Nat.le_of_ble_eq_true rfl) dL_rock_28)
  · cases out with
    | error k9 => cases hrv
    | ok v =>
      cases hrv
      refine lv_i2l hx hb dL_rock_12 rfl ?_
      refine va_last hx hb hK hw.1 hw.2.1 hw.2.2 25 2 rfl rfl (by unfold vp_in; decide) dL_rock_13 (fun H locs hP hD hS => ?_)
      have hw : mg_Wo D A s.heap H locs ((mg_cW g cI cZ σ9) ++ (mg_oc q cL (mg_of (.ok v) f))) := ⟨hP, hD, hS⟩
      refine lv_goto (tgt := 29) hx hb dL_rock_14 (by decide) ?_
      refine lv_iconst (v := 0) hx hb dL_rock_29 (by decide) ?_
      exact vx_ret (mg_eI hx hb hr hlocks hw (Nat.le_of_ble_eq_true rfl) (Nat.le_of_ble_eq_true rfl) dL_rock_30)
set_option maxHeartbeats 4000000 in
set_option maxRecDepth 100000 in
theorem k_L_dig (l : Launch) (hst : l.stackTraces = false) (D : va_G) (o : Nat → Nat) (cI cZ cL : ClassId) (g : Nat → Nat) (q : Nat) (sz : Nat) (σ : mg_St) (f : Nat → Int64) (x1 x2 : Int32) (out : Except (Fin 3) Int32) (σ9 : mg_St) (h : f_X6_dig σ x1 x2 = some (out, σ9)) (hk1 : out ≠ .error 1) : mg_CT l yL_dig wsL_dig ({ frames := 8, cells := 1, slots := 6, locals := 161 } : Room) D [(cI, .int), (cZ, .boolean), (cL, .long)] o ((mg_cW g cI cZ σ) ++ (mg_oc q cL f)) sz [.ref (g 0), .int x1, .int x2, .ref q] (some (.int (mg_cd 1 9 2 out))) ((mg_cW g cI cZ σ9) ++ (mg_oc q cL (mg_of out f))) 1 6 := by
  unfold mg_CT
  refine mg_ofX (vx_ofWH (cc := cL_dig) (maxL := 5) (ret := some .int) (hh := [(0, 10, 13, 13), (0, 10, 17, 17)]) (by decide) rfl ?_)
  intro p e s m args below meth c s₁ B hml hv
  obtain ⟨rfl, hsz, hP, hK, hD0, hO⟩ := hv
  have hx := B.exec
  have hb := B.bytes
  have hr := B.returns
  have hts := atoms_spec (ws := wsL_dig) B.pre
  have hown : s.vm.findClass RL = some m.cls := findClass_of_methodNamed B.named
  have hlocks := B.notSynchronized
  have htab := vx_table (x := yL_rock) B (hts _ List.mem_cons_self)
  subst hsz
  have hD := hD0.self (sz := s.heap.size)
  generalize hAe : va_A ((mg_cW g cI cZ σ) ++ (mg_oc q cL f)) s.heap.size = A at hD hO ⊢
  have hA : ∀ q : Nat, s.heap.size ≤ q → A q := fun q h => by rw [← hAe]; exact Or.inr h
  have hw : mg_Wo D A s.heap s.heap [] ((mg_cW g cI cZ σ) ++ (mg_oc q cL f)) := ⟨hP, hD, va_S.rf⟩
  have G9 : CallFix p m c cL_dig 5 s ([.ref (g 0), .int x1, .int x2, .ref q] : List Value).toArray wsL_dig RL := ⟨hx, hb, hml, hown, hts⟩
  clear hP hD hD0 hAe
  have hl := lv_entry ([.ref (g 0), .int x1, .int x2, .ref q]) (n := 5) (Nat.le_of_ble_eq_true rfl)
  rw [lg_entry_eq]
  generalize (lg_sl ([.ref (g 0), .int x1, .int x2, .ref q]) ++ List.replicate (5 - (lg_sl ([.ref (g 0), .int x1, .int x2, .ref q])).length) Slot.unset).toArray = ls at hl ⊢
  have hl : lv_has ls 5 [(0, .ref (g 0)), (1, .int x1), (2, .int x2), (3, .ref q)] := hl
  refine lv_aload_n hx hb dL_dig_0 rfl (lv_at hl 3 rfl) ?_
  refine lv_iconst (v := 0) hx hb dL_dig_1 (by decide) ?_
  refine lv_aload_n hx hb dL_dig_2 rfl (lv_at hl 0 rfl) ?_
  refine lv_iload_n hx hb dL_dig_3 rfl (lv_at hl 1 rfl) ?_
  refine lv_iload_n hx hb dL_dig_4 rfl (lv_at hl 2 rfl) ?_
  refine mg_kxF (wl := []) (w0 := (mg_cW g cI cZ σ)) (wr := (mg_oc q cL f)) (w1 := (mg_cW g cI cZ σ9)) (out := Except.map (fun v : Int32 => some (.int v)) out) (vx_runV (As := [.int x1, .int x2]) (rest := [.int 0, .ref q]) G9 (k_X6_dig l hst D o cI cZ g s.heap.size σ x1 x2 out σ9 h 1 6 (fun _ _ => ⟨Nat.le_refl _, Nat.le_refl _⟩)) (cwV 2 hts gL_dig_X6_dig rfl rfl rfl (by decide +kernel) ⟨Nat.le_of_ble_eq_true rfl, Nat.le_of_ble_eq_true rfl⟩) (mg_preV (hK.sub (tys' := [(cI, .int), (cZ, .boolean)]) [0, 1] rfl) hO hA (mg_sub (wl := []) (w0 := (mg_cW g cI cZ σ)) hw) (q0 := 0) rfl rfl) rfl rfl hl.1 rfl (lv_room (Nat.le_of_ble_eq_true rfl)) dL_dig_5 ⟨Nat.le_of_ble_eq_true rfl, Nat.le_of_ble_eq_true rfl⟩) hw hA (fun k hk_ H locs q9 ce hw a1 a2 a3 => ?_) (fun rv hrv H locs hw => ?_)
  · cases out with
    | ok v => cases hk_
    | error k9 =>
      cases hk_
      rcases mg_fin3 k with rfl | rfl | rfl
      · refine vx_catch (own := RL) (name := "java/lang/IndexOutOfBoundsException") (E := mg_xn 0) hown [] ⟨0, 10, 13, 13⟩ [⟨0, 10, 17, 17⟩] (htab.trans rfl) (fun _ h_ => nomatch h_) rfl (by decide) (hts (.classLink RL 13 "java/lang/IndexOutOfBoundsException") (by decide +kernel)) (va_Nw.use rfl (hO.2.2.2.2.2.2.2.2.2.2.2.2.2.2.2.2.2.2.2.1)) a1 a2 a3 ?_
        refine lv_astore (lv' := [(4, .ref q9), (0, .ref (g 0)), (1, .int x1), (2, .int x2), (3, .ref q)]) hx hb dL_dig_13 hl (by decide) rfl (fun ls hl => ?_)
        refine lv_iconst (v := 1) hx hb dL_dig_15 (by decide) ?_
        exact vx_ret (mg_eI (w1 := (mg_cW g cI cZ σ9) ++ (mg_oc q cL (mg_of (.error 0) f))) hx hb hr hlocks hw (Nat.le_of_ble_eq_true rfl) (Nat.le_of_ble_eq_true rfl) dL_dig_16)
      · exact absurd rfl hk1
      · refine vx_catch (own := RL) (name := "java/lang/IllegalStateException") (E := mg_xn 2) hown [⟨0, 10, 13, 13⟩] ⟨0, 10, 17, 17⟩ [] (htab.trans rfl) (List.forall_mem_cons.mpr ⟨Or.inr ⟨by decide, "java/lang/IndexOutOfBoundsException", hts (.classLink RL 13 "java/lang/IndexOutOfBoundsException") (by decide +kernel), hO.2.2.2.2.2.2.2.2.2.2.2.2.2.2.2.2.2.2.2.2.2.2.2.2.2.2.1⟩, (fun _ h_ => nomatch h_)⟩) rfl (by decide) (hts (.classLink RL 17 "java/lang/IllegalStateException") (by decide +kernel)) (va_Nw.use rfl (hO.2.2.2.2.2.2.2.2.2.2.2.2.2.2.2.2.2.2.2.2.2.1)) a1 a2 a3 ?_
        refine lv_astore (lv' := [(4, .ref q9), (0, .ref (g 0)), (1, .int x1), (2, .int x2), (3, .ref q)]) hx hb dL_dig_17 hl (by decide) rfl (fun ls hl => ?_)
        refine lv_iconst (v := 2) hx hb dL_dig_19 (by decide) ?_
        exact vx_ret (mg_eI (w1 := (mg_cW g cI cZ σ9) ++ (mg_oc q cL (mg_of (.error 2) f))) hx hb hr hlocks hw (Nat.le_of_ble_eq_true rfl) (Nat.le_of_ble_eq_true rfl) dL_dig_20)
  · cases out with
    | error k9 => cases hrv
    | ok v =>
      cases hrv
      refine lv_i2l hx hb dL_dig_8 rfl ?_
      refine va_last hx hb hK hw.1 hw.2.1 hw.2.2 25 2 rfl rfl (by unfold vp_in; decide) dL_dig_9 (fun H locs hP hD hS => ?_)
      have hw : mg_Wo D A s.heap H locs ((mg_cW g cI cZ σ9) ++ (mg_oc q cL (mg_of (.ok v) f))) := ⟨hP, hD, hS⟩
      refine lv_goto (tgt := 21) hx hb dL_dig_10 (by decide) ?_
      refine lv_iconst (v := 0) hx hb dL_dig_21 (by decide) ?_
      exact vx_ret (mg_eI hx hb hr hlocks hw (Nat.le_of_ble_eq_true rfl) (Nat.le_of_ble_eq_true rfl) dL_dig_22)
set_option maxHeartbeats 4000000 in
set_option maxRecDepth 100000 in
theorem k_L_wall (l : Launch) (hst : l.stackTraces = false) (D : va_G) (o : Nat → Nat) (cI cZ cL : ClassId) (g : Nat → Nat) (q : Nat) (sz : Nat) (σ : mg_St) (f : Nat → Int64) (x1 x2 : Int32) (out : Except (Fin 3) Int32) (σ9 : mg_St) (h : f_X6_wall σ x1 x2 = some (out, σ9)) (hk1 : out ≠ .error 1) : mg_CT l yL_wall wsL_wall ({ frames := 8, cells := 1, slots := 6, locals := 135 } : Room) D [(cI, .int), (cZ, .boolean), (cL, .long)] o ((mg_cW g cI cZ σ) ++ (mg_oc q cL f)) sz [.ref (g 0), .int x1, .int x2, .ref q] (some (.int (mg_cd 1 9 2 out))) ((mg_cW g cI cZ σ9) ++ (mg_oc q cL (mg_of out f))) 1 6 := by
  unfold mg_CT
  refine mg_ofX (vx_ofWH (cc := cL_wall) (maxL := 5) (ret := some .int) (hh := [(0, 10, 13, 13), (0, 10, 17, 17)]) (by decide) rfl ?_)
  intro p e s m args below meth c s₁ B hml hv
  obtain ⟨rfl, hsz, hP, hK, hD0, hO⟩ := hv
  have hx := B.exec
  have hb := B.bytes
  have hr := B.returns
  have hts := atoms_spec (ws := wsL_wall) B.pre
  have hown : s.vm.findClass RL = some m.cls := findClass_of_methodNamed B.named
  have hlocks := B.notSynchronized
  have htab := vx_table (x := yL_rock) B (hts _ List.mem_cons_self)
  subst hsz
  have hD := hD0.self (sz := s.heap.size)
  generalize hAe : va_A ((mg_cW g cI cZ σ) ++ (mg_oc q cL f)) s.heap.size = A at hD hO ⊢
  have hA : ∀ q : Nat, s.heap.size ≤ q → A q := fun q h => by rw [← hAe]; exact Or.inr h
  have hw : mg_Wo D A s.heap s.heap [] ((mg_cW g cI cZ σ) ++ (mg_oc q cL f)) := ⟨hP, hD, va_S.rf⟩
  have G9 : CallFix p m c cL_wall 5 s ([.ref (g 0), .int x1, .int x2, .ref q] : List Value).toArray wsL_wall RL := ⟨hx, hb, hml, hown, hts⟩
  clear hP hD hD0 hAe
  have hl := lv_entry ([.ref (g 0), .int x1, .int x2, .ref q]) (n := 5) (Nat.le_of_ble_eq_true rfl)
  rw [lg_entry_eq]
  generalize (lg_sl ([.ref (g 0), .int x1, .int x2, .ref q]) ++ List.replicate (5 - (lg_sl ([.ref (g 0), .int x1, .int x2, .ref q])).length) Slot.unset).toArray = ls at hl ⊢
  have hl : lv_has ls 5 [(0, .ref (g 0)), (1, .int x1), (2, .int x2), (3, .ref q)] := hl
  refine lv_aload_n hx hb dL_wall_0 rfl (lv_at hl 3 rfl) ?_
  refine lv_iconst (v := 0) hx hb dL_wall_1 (by decide) ?_
  refine lv_aload_n hx hb dL_wall_2 rfl (lv_at hl 0 rfl) ?_
  refine lv_iload_n hx hb dL_wall_3 rfl (lv_at hl 1 rfl) ?_
  refine lv_iload_n hx hb dL_wall_4 rfl (lv_at hl 2 rfl) ?_
  refine mg_kxF (wl := []) (w0 := (mg_cW g cI cZ σ)) (wr := (mg_oc q cL f)) (w1 := (mg_cW g cI cZ σ9)) (out := Except.map (fun v : Int32 => some (.int v)) out) (vx_runV (As := [.int x1, .int x2]) (rest := [.int 0, .ref q]) G9 (k_X6_wall l hst D o cI cZ g s.heap.size σ x1 x2 out σ9 h 1 6 (fun _ _ => ⟨Nat.le_refl _, Nat.le_refl _⟩)) (cwV 2 hts gL_wall_X6_wall rfl rfl rfl (by decide +kernel) ⟨Nat.le_of_ble_eq_true rfl, Nat.le_of_ble_eq_true rfl⟩) (mg_preV (hK.sub (tys' := [(cI, .int), (cZ, .boolean)]) [0, 1] rfl) hO hA (mg_sub (wl := []) (w0 := (mg_cW g cI cZ σ)) hw) (q0 := 0) rfl rfl) rfl rfl hl.1 rfl (lv_room (Nat.le_of_ble_eq_true rfl)) dL_wall_5 ⟨Nat.le_of_ble_eq_true rfl, Nat.le_of_ble_eq_true rfl⟩) hw hA (fun k hk_ H locs q9 ce hw a1 a2 a3 => ?_) (fun rv hrv H locs hw => ?_)
  · cases out with
    | ok v => cases hk_
    | error k9 =>
      cases hk_
      rcases mg_fin3 k with rfl | rfl | rfl
      · refine vx_catch (own := RL) (name := "java/lang/IndexOutOfBoundsException") (E := mg_xn 0) hown [] ⟨0, 10, 13, 13⟩ [⟨0, 10, 17, 17⟩] (htab.trans rfl) (fun _ h_ => nomatch h_) rfl (by decide) (hts (.classLink RL 13 "java/lang/IndexOutOfBoundsException") (by decide +kernel)) (va_Nw.use rfl (hO.2.2.2.2.2.2.2.2.2.2.2.2.2.2.2.2.2.2.2.1)) a1 a2 a3 ?_
        refine lv_astore (lv' := [(4, .ref q9), (0, .ref (g 0)), (1, .int x1), (2, .int x2), (3, .ref q)]) hx hb dL_wall_13 hl (by decide) rfl (fun ls hl => ?_)
        refine lv_iconst (v := 1) hx hb dL_wall_15 (by decide) ?_
        exact vx_ret (mg_eI (w1 := (mg_cW g cI cZ σ9) ++ (mg_oc q cL (mg_of (.error 0) f))) hx hb hr hlocks hw (Nat.le_of_ble_eq_true rfl) (Nat.le_of_ble_eq_true rfl) dL_wall_16)
      · exact absurd rfl hk1
      · refine vx_catch (own := RL) (name := "java/lang/IllegalStateException") (E := mg_xn 2) hown [⟨0, 10, 13, 13⟩] ⟨0, 10, 17, 17⟩ [] (htab.trans rfl) (List.forall_mem_cons.mpr ⟨Or.inr ⟨by decide, "java/lang/IndexOutOfBoundsException", hts (.classLink RL 13 "java/lang/IndexOutOfBoundsException") (by decide +kernel), hO.2.2.2.2.2.2.2.2.2.2.2.2.2.2.2.2.2.2.2.2.2.2.2.2.2.2.1⟩, (fun _ h_ => nomatch h_)⟩) rfl (by decide) (hts (.classLink RL 17 "java/lang/IllegalStateException") (by decide +kernel)) (va_Nw.use rfl (hO.2.2.2.2.2.2.2.2.2.2.2.2.2.2.2.2.2.2.2.2.2.1)) a1 a2 a3 ?_
        refine lv_astore (lv' := [(4, .ref q9), (0, .ref (g 0)), (1, .int x1), (2, .int x2), (3, .ref q)]) hx hb dL_wall_17 hl (by decide) rfl (fun ls hl => ?_)
        refine lv_iconst (v := 2) hx hb dL_wall_19 (by decide) ?_
        exact vx_ret (mg_eI (w1 := (mg_cW g cI cZ σ9) ++ (mg_oc q cL (mg_of (.error 2) f))) hx hb hr hlocks hw (Nat.le_of_ble_eq_true rfl) (Nat.le_of_ble_eq_true rfl) dL_wall_20)
  · cases out with
    | error k9 => cases hrv
    | ok v =>
      cases hrv
      refine lv_i2l hx hb dL_wall_8 rfl ?_
      refine va_last hx hb hK hw.1 hw.2.1 hw.2.2 25 2 rfl rfl (by unfold vp_in; decide) dL_wall_9 (fun H locs hP hD hS => ?_)
      have hw : mg_Wo D A s.heap H locs ((mg_cW g cI cZ σ9) ++ (mg_oc q cL (mg_of (.ok v) f))) := ⟨hP, hD, hS⟩
      refine lv_goto (tgt := 21) hx hb dL_wall_10 (by decide) ?_
      refine lv_iconst (v := 0) hx hb dL_wall_21 (by decide) ?_
      exact vx_ret (mg_eI hx hb hr hlocks hw (Nat.le_of_ble_eq_true rfl) (Nat.le_of_ble_eq_true rfl) dL_wall_22)
set_option maxHeartbeats 4000000 in
set_option maxRecDepth 100000 in
theorem k_L_clear (l : Launch) (hst : l.stackTraces = false) (D : va_G) (o : Nat → Nat) (cI cZ cL : ClassId) (g : Nat → Nat) (q : Nat) (sz : Nat) (σ : mg_St) (f : Nat → Int64) (x1 x2 : Int32) (out : Except (Fin 3) Int32) (σ9 : mg_St) (h : f_X6_clear σ x1 x2 = some (out, σ9)) (hk1 : out ≠ .error 1) : mg_CT l yL_clear wsL_clear ({ frames := 8, cells := 1, slots := 6, locals := 162 } : Room) D [(cI, .int), (cZ, .boolean), (cL, .long)] o ((mg_cW g cI cZ σ) ++ (mg_oc q cL f)) sz [.ref (g 0), .int x1, .int x2, .ref q] (some (.int (mg_cd 1 9 2 out))) ((mg_cW g cI cZ σ9) ++ (mg_oc q cL (mg_of out f))) 1 6 := by
  unfold mg_CT
  refine mg_ofX (vx_ofWH (cc := cL_clear) (maxL := 5) (ret := some .int) (hh := [(0, 10, 13, 13), (0, 10, 17, 17)]) (by decide) rfl ?_)
  intro p e s m args below meth c s₁ B hml hv
  obtain ⟨rfl, hsz, hP, hK, hD0, hO⟩ := hv
  have hx := B.exec
  have hb := B.bytes
  have hr := B.returns
  have hts := atoms_spec (ws := wsL_clear) B.pre
  have hown : s.vm.findClass RL = some m.cls := findClass_of_methodNamed B.named
  have hlocks := B.notSynchronized
  have htab := vx_table (x := yL_rock) B (hts _ List.mem_cons_self)
  subst hsz
  have hD := hD0.self (sz := s.heap.size)
  generalize hAe : va_A ((mg_cW g cI cZ σ) ++ (mg_oc q cL f)) s.heap.size = A at hD hO ⊢
  have hA : ∀ q : Nat, s.heap.size ≤ q → A q := fun q h => by rw [← hAe]; exact Or.inr h
  have hw : mg_Wo D A s.heap s.heap [] ((mg_cW g cI cZ σ) ++ (mg_oc q cL f)) := ⟨hP, hD, va_S.rf⟩
  have G9 : CallFix p m c cL_clear 5 s ([.ref (g 0), .int x1, .int x2, .ref q] : List Value).toArray wsL_clear RL := ⟨hx, hb, hml, hown, hts⟩
  clear hP hD hD0 hAe
  have hl := lv_entry ([.ref (g 0), .int x1, .int x2, .ref q]) (n := 5) (Nat.le_of_ble_eq_true rfl)
  rw [lg_entry_eq]
  generalize (lg_sl ([.ref (g 0), .int x1, .int x2, .ref q]) ++ List.replicate (5 - (lg_sl ([.ref (g 0), .int x1, .int x2, .ref q])).length) Slot.unset).toArray = ls at hl ⊢
  have hl : lv_has ls 5 [(0, .ref (g 0)), (1, .int x1), (2, .int x2), (3, .ref q)] := hl
  refine lv_aload_n hx hb dL_clear_0 rfl (lv_at hl 3 rfl) ?_
  refine lv_iconst (v := 0) hx hb dL_clear_1 (by decide) ?_
  refine lv_aload_n hx hb dL_clear_2 rfl (lv_at hl 0 rfl) ?_
  refine lv_iload_n hx hb dL_clear_3 rfl (lv_at hl 1 rfl) ?_
  refine lv_iload_n hx hb dL_clear_4 rfl (lv_at hl 2 rfl) ?_
  refine mg_kxF (wl := []) (w0 := (mg_cW g cI cZ σ)) (wr := (mg_oc q cL f)) (w1 := (mg_cW g cI cZ σ9)) (out := Except.map (fun v : Int32 => some (.int v)) out) (vx_runV (As := [.int x1, .int x2]) (rest := [.int 0, .ref q]) G9 (k_X6_clear l hst D o cI cZ g s.heap.size σ x1 x2 out σ9 h 1 6 (fun _ _ => ⟨Nat.le_refl _, Nat.le_refl _⟩)) (cwV 2 hts gL_clear_X6_clear rfl rfl rfl (by decide +kernel) ⟨Nat.le_of_ble_eq_true rfl, Nat.le_of_ble_eq_true rfl⟩) (mg_preV (hK.sub (tys' := [(cI, .int), (cZ, .boolean)]) [0, 1] rfl) hO hA (mg_sub (wl := []) (w0 := (mg_cW g cI cZ σ)) hw) (q0 := 0) rfl rfl) rfl rfl hl.1 rfl (lv_room (Nat.le_of_ble_eq_true rfl)) dL_clear_5 ⟨Nat.le_of_ble_eq_true rfl, Nat.le_of_ble_eq_true rfl⟩) hw hA (fun k hk_ H locs q9 ce hw a1 a2 a3 => ?_) (fun rv hrv H locs hw => ?_)
  · cases out with
    | ok v => cases hk_
    | error k9 =>
      cases hk_
      rcases mg_fin3 k with rfl | rfl | rfl
      · refine vx_catch (own := RL) (name := "java/lang/IndexOutOfBoundsException") (E := mg_xn 0) hown [] ⟨0, 10, 13, 13⟩ [⟨0, 10, 17, 17⟩] (htab.trans rfl) (fun _ h_ => nomatch h_) rfl (by decide) (hts (.classLink RL 13 "java/lang/IndexOutOfBoundsException") (by decide +kernel)) (va_Nw.use rfl (hO.2.2.2.2.2.2.2.2.2.2.2.2.2.2.2.2.2.2.2.1)) a1 a2 a3 ?_
        refine lv_astore (lv' := [(4, .ref q9), (0, .ref (g 0)), (1, .int x1), (2, .int x2), (3, .ref q)]) hx hb dL_clear_13 hl (by decide) rfl (fun ls hl => ?_)
        refine lv_iconst (v := 1) hx hb dL_clear_15 (by decide) ?_
        exact vx_ret (mg_eI (w1 := (mg_cW g cI cZ σ9) ++ (mg_oc q cL (mg_of (.error 0) f))) hx hb hr hlocks hw (Nat.le_of_ble_eq_true rfl) (Nat.le_of_ble_eq_true rfl) dL_clear_16)
      · exact absurd rfl hk1
      · refine vx_catch (own := RL) (name := "java/lang/IllegalStateException") (E := mg_xn 2) hown [⟨0, 10, 13, 13⟩] ⟨0, 10, 17, 17⟩ [] (htab.trans rfl) (List.forall_mem_cons.mpr ⟨Or.inr ⟨by decide, "java/lang/IndexOutOfBoundsException", hts (.classLink RL 13 "java/lang/IndexOutOfBoundsException") (by decide +kernel), hO.2.2.2.2.2.2.2.2.2.2.2.2.2.2.2.2.2.2.2.2.2.2.2.2.2.2.1⟩, (fun _ h_ => nomatch h_)⟩) rfl (by decide) (hts (.classLink RL 17 "java/lang/IllegalStateException") (by decide +kernel)) (va_Nw.use rfl (hO.2.2.2.2.2.2.2.2.2.2.2.2.2.2.2.2.2.2.2.2.2.1)) a1 a2 a3 ?_
        refine lv_astore (lv' := [(4, .ref q9), (0, .ref (g 0)), (1, .int x1), (2, .int x2), (3, .ref q)]) hx hb dL_clear_17 hl (by decide) rfl (fun ls hl => ?_)
        refine lv_iconst (v := 2) hx hb dL_clear_19 (by decide) ?_
        exact vx_ret (mg_eI (w1 := (mg_cW g cI cZ σ9) ++ (mg_oc q cL (mg_of (.error 2) f))) hx hb hr hlocks hw (Nat.le_of_ble_eq_true rfl) (Nat.le_of_ble_eq_true rfl) dL_clear_20)
  · cases out with
    | error k9 => cases hrv
    | ok v =>
      cases hrv
      refine lv_i2l hx hb dL_clear_8 rfl ?_
      refine va_last hx hb hK hw.1 hw.2.1 hw.2.2 25 2 rfl rfl (by unfold vp_in; decide) dL_clear_9 (fun H locs hP hD hS => ?_)
      have hw : mg_Wo D A s.heap H locs ((mg_cW g cI cZ σ9) ++ (mg_oc q cL (mg_of (.ok v) f))) := ⟨hP, hD, hS⟩
      refine lv_goto (tgt := 21) hx hb dL_clear_10 (by decide) ?_
      refine lv_iconst (v := 0) hx hb dL_clear_21 (by decide) ?_
      exact vx_ret (mg_eI hx hb hr hlocks hw (Nat.le_of_ble_eq_true rfl) (Nat.le_of_ble_eq_true rfl) dL_clear_22)
set_option maxHeartbeats 4000000 in
set_option maxRecDepth 100000 in
theorem k_L_cell (l : Launch) (hst : l.stackTraces = false) (D : va_G) (o : Nat → Nat) (cI cZ cL : ClassId) (g : Nat → Nat) (q : Nat) (sz : Nat) (σ : mg_St) (f : Nat → Int64) (x1 x2 x3 : Int32) (out : Except (Fin 3) Int32) (σ9 : mg_St) (h : f_X6_cell σ x1 x2 x3 = some (out, σ9)) (hk1 : out ≠ .error 1) (hk2 : out ≠ .error 2) : mg_CT l yL_cell wsL_cell ({ frames := 8, cells := 1, slots := 6, locals := 136 } : Room) D [(cI, .int), (cZ, .boolean), (cL, .long)] o ((mg_cW g cI cZ σ) ++ (mg_oc q cL f)) sz [.ref (g 0), .int x1, .int x2, .int x3, .ref q] (some (.int (mg_cd 1 9 9 out))) ((mg_cW g cI cZ σ9) ++ (mg_oc q cL (mg_of out f))) 1 6 := by
  unfold mg_CT
  refine mg_ofX (vx_ofWH (cc := cL_cell) (maxL := 6) (ret := some .int) (hh := [(0, 12, 15, 13)]) (by decide) rfl ?_)
  intro p e s m args below meth c s₁ B hml hv
  obtain ⟨rfl, hsz, hP, hK, hD0, hO⟩ := hv
  have hx := B.exec
  have hb := B.bytes
  have hr := B.returns
  have hts := atoms_spec (ws := wsL_cell) B.pre
  have hown : s.vm.findClass RL = some m.cls := findClass_of_methodNamed B.named
  have hlocks := B.notSynchronized
  have htab := vx_table (x := yL_rock) B (hts _ List.mem_cons_self)
  subst hsz
  have hD := hD0.self (sz := s.heap.size)
  generalize hAe : va_A ((mg_cW g cI cZ σ) ++ (mg_oc q cL f)) s.heap.size = A at hD hO ⊢
  have hA : ∀ q : Nat, s.heap.size ≤ q → A q := fun q h => by rw [← hAe]; exact Or.inr h
  have hw : mg_Wo D A s.heap s.heap [] ((mg_cW g cI cZ σ) ++ (mg_oc q cL f)) := ⟨hP, hD, va_S.rf⟩
  have G9 : CallFix p m c cL_cell 6 s ([.ref (g 0), .int x1, .int x2, .int x3, .ref q] : List Value).toArray wsL_cell RL := ⟨hx, hb, hml, hown, hts⟩
  clear hP hD hD0 hAe
  have hl := lv_entry ([.ref (g 0), .int x1, .int x2, .int x3, .ref q]) (n := 6) (Nat.le_of_ble_eq_true rfl)
  rw [lg_entry_eq]
  generalize (lg_sl ([.ref (g 0), .int x1, .int x2, .int x3, .ref q]) ++ List.replicate (6 - (lg_sl ([.ref (g 0), .int x1, .int x2, .int x3, .ref q])).length) Slot.unset).toArray = ls at hl ⊢
  have hl : lv_has ls 6 [(0, .ref (g 0)), (1, .int x1), (2, .int x2), (3, .int x3), (4, .ref q)] := hl
  refine lv_aload hx hb dL_cell_0 (lv_at hl 4 rfl) ?_
  refine lv_iconst (v := 0) hx hb dL_cell_2 (by decide) ?_
  refine lv_aload_n hx hb dL_cell_3 rfl (lv_at hl 0 rfl) ?_
  refine lv_iload_n hx hb dL_cell_4 rfl (lv_at hl 1 rfl) ?_
  refine lv_iload_n hx hb dL_cell_5 rfl (lv_at hl 2 rfl) ?_
  refine lv_iload_n hx hb dL_cell_6 rfl (lv_at hl 3 rfl) ?_
  refine mg_kxF (wl := []) (w0 := (mg_cW g cI cZ σ)) (wr := (mg_oc q cL f)) (w1 := (mg_cW g cI cZ σ9)) (out := Except.map (fun v : Int32 => some (.int v)) out) (vx_runV (As := [.int x1, .int x2, .int x3]) (rest := [.int 0, .ref q]) G9 (k_X6_cell l hst D o cI cZ g s.heap.size σ x1 x2 x3 out σ9 h 1 6 (fun _ _ => ⟨Nat.le_refl _, Nat.le_refl _⟩)) (cwV 3 hts gL_cell_X6_cell rfl rfl rfl (by decide +kernel) ⟨Nat.le_of_ble_eq_true rfl, Nat.le_of_ble_eq_true rfl⟩) (mg_preV (hK.sub (tys' := [(cI, .int), (cZ, .boolean)]) [0, 1] rfl) hO hA (mg_sub (wl := []) (w0 := (mg_cW g cI cZ σ)) hw) (q0 := 0) rfl rfl) rfl rfl hl.1 rfl (lv_room (Nat.le_of_ble_eq_true rfl)) dL_cell_7 ⟨Nat.le_of_ble_eq_true rfl, Nat.le_of_ble_eq_true rfl⟩) hw hA (fun k hk_ H locs q9 ce hw a1 a2 a3 => ?_) (fun rv hrv H locs hw => ?_)
  · cases out with
    | ok v => cases hk_
    | error k9 =>
      cases hk_
      rcases mg_fin3 k with rfl | rfl | rfl
      · refine vx_catch (own := RL) (name := "java/lang/IndexOutOfBoundsException") (E := mg_xn 0) hown [] ⟨0, 12, 15, 13⟩ [] (htab.trans rfl) (fun _ h_ => nomatch h_) rfl (by decide) (hts (.classLink RL 13 "java/lang/IndexOutOfBoundsException") (by decide +kernel)) (va_Nw.use rfl (hO.2.2.2.2.2.2.2.2.2.2.2.2.2.2.2.2.2.2.2.1)) a1 a2 a3 ?_
        refine lv_astore (lv' := [(5, .ref q9), (0, .ref (g 0)), (1, .int x1), (2, .int x2), (3, .int x3), (4, .ref q)]) hx hb dL_cell_15 hl (by decide) rfl (fun ls hl => ?_)
        refine lv_iconst (v := 1) hx hb dL_cell_17 (by decide) ?_
        exact vx_ret (mg_eI (w1 := (mg_cW g cI cZ σ9) ++ (mg_oc q cL (mg_of (.error 0) f))) hx hb hr hlocks hw (Nat.le_of_ble_eq_true rfl) (Nat.le_of_ble_eq_true rfl) dL_cell_18)
      · exact absurd rfl hk1
      · exact absurd rfl hk2
  · cases out with
    | error k9 => cases hrv
    | ok v =>
      cases hrv
      refine lv_i2l hx hb dL_cell_10 rfl ?_
      refine va_last hx hb hK hw.1 hw.2.1 hw.2.2 25 2 rfl rfl (by unfold vp_in; decide) dL_cell_11 (fun H locs hP hD hS => ?_)
      have hw : mg_Wo D A s.heap H locs ((mg_cW g cI cZ σ9) ++ (mg_oc q cL (mg_of (.ok v) f))) := ⟨hP, hD, hS⟩
      refine lv_goto (tgt := 19) hx hb dL_cell_12 (by decide) ?_
      refine lv_iconst (v := 0) hx hb dL_cell_19 (by decide) ?_
      exact vx_ret (mg_eI hx hb hr hlocks hw (Nat.le_of_ble_eq_true rfl) (Nat.le_of_ble_eq_true rfl) dL_cell_20)
set_option maxHeartbeats 4000000 in
set_option maxRecDepth 100000 in
theorem k_L_carp (l : Launch) (hst : l.stackTraces = false) (D : va_G) (o : Nat → Nat) (cI cZ cL : ClassId) (g : Nat → Nat) (q : Nat) (sz : Nat) (σ : mg_St) (f : Nat → Int64) (x1 x2 : Int32) (out : Except (Fin 3) Int32) (σ9 : mg_St) (h : f_X6_carp σ x1 x2 = some (out, σ9)) (hk1 : out ≠ .error 1) : mg_CT l yL_carp wsL_carp ({ frames := 8, cells := 1, slots := 6, locals := 136 } : Room) D [(cI, .int), (cZ, .boolean), (cL, .long)] o ((mg_cW g cI cZ σ) ++ (mg_oc q cL f)) sz [.ref (g 0), .int x1, .int x2, .ref q] (some (.int (mg_cd 1 9 2 out))) ((mg_cW g cI cZ σ9) ++ (mg_oc q cL (mg_of out f))) 1 6 := by
  unfold mg_CT
  refine mg_ofX (vx_ofWH (cc := cL_carp) (maxL := 5) (ret := some .int) (hh := [(0, 10, 13, 13), (0, 10, 17, 17)]) (by decide) rfl ?_)
  intro p e s m args below meth c s₁ B hml hv
  obtain ⟨rfl, hsz, hP, hK, hD0, hO⟩ := hv
  have hx := B.exec
  have hb := B.bytes
  have hr := B.returns
  have hts := atoms_spec (ws := wsL_carp) B.pre
  have hown : s.vm.findClass RL = some m.cls := findClass_of_methodNamed B.named
  have hlocks := B.notSynchronized
  have htab := vx_table (x := yL_rock) B (hts _ List.mem_cons_self)
  subst hsz
  have hD := hD0.self (sz := s.heap.size)
  generalize hAe : va_A ((mg_cW g cI cZ σ) ++ (mg_oc q cL f)) s.heap.size = A at hD hO ⊢
  have hA : ∀ q : Nat, s.heap.size ≤ q → A q := fun q h => by rw [← hAe]; exact Or.inr h
  have hw : mg_Wo D A s.heap s.heap [] ((mg_cW g cI cZ σ) ++ (mg_oc q cL f)) := ⟨hP, hD, va_S.rf⟩
  have G9 : CallFix p m c cL_carp 5 s ([.ref (g 0), .int x1, .int x2, .ref q] : List Value).toArray wsL_carp RL := ⟨hx, hb, hml, hown, hts⟩
  clear hP hD hD0 hAe
  have hl := lv_entry ([.ref (g 0), .int x1, .int x2, .ref q]) (n := 5) (Nat.le_of_ble_eq_true rfl)
  rw [lg_entry_eq]
  generalize (lg_sl ([.ref (g 0), .int x1, .int x2, .ref q]) ++ List.replicate (5 - (lg_sl ([.ref (g 0), .int x1, .int x2, .ref q])).length) Slot.unset).toArray = ls at hl ⊢
  have hl : lv_has ls 5 [(0, .ref (g 0)), (1, .int x1), (2, .int x2), (3, .ref q)] := hl
  refine lv_aload_n hx hb dL_carp_0 rfl (lv_at hl 3 rfl) ?_
  refine lv_iconst (v := 0) hx hb dL_carp_1 (by decide) ?_
  refine lv_aload_n hx hb dL_carp_2 rfl (lv_at hl 0 rfl) ?_
  refine lv_iload_n hx hb dL_carp_3 rfl (lv_at hl 1 rfl) ?_
  refine lv_iload_n hx hb dL_carp_4 rfl (lv_at hl 2 rfl) ?_
  refine mg_kxF (wl := []) (w0 := (mg_cW g cI cZ σ)) (wr := (mg_oc q cL f)) (w1 := (mg_cW g cI cZ σ9)) (out := Except.map (fun v : Int32 => some (.int v)) out) (vx_runV (As := [.int x1, .int x2]) (rest := [.int 0, .ref q]) G9 (k_X6_carp l hst D o cI cZ g s.heap.size σ x1 x2 out σ9 h 1 6 (fun _ _ => ⟨Nat.le_refl _, Nat.le_refl _⟩)) (cwV 2 hts gL_carp_X6_carp rfl rfl rfl (by decide +kernel) ⟨Nat.le_of_ble_eq_true rfl, Nat.le_of_ble_eq_true rfl⟩) (mg_preV (hK.sub (tys' := [(cI, .int), (cZ, .boolean)]) [0, 1] rfl) hO hA (mg_sub (wl := []) (w0 := (mg_cW g cI cZ σ)) hw) (q0 := 0) rfl rfl) rfl rfl hl.1 rfl (lv_room (Nat.le_of_ble_eq_true rfl)) dL_carp_5 ⟨Nat.le_of_ble_eq_true rfl, Nat.le_of_ble_eq_true rfl⟩) hw hA (fun k hk_ H locs q9 ce hw a1 a2 a3 => ?_) (fun rv hrv H locs hw => ?_)
  · cases out with
    | ok v => cases hk_
    | error k9 =>
      cases hk_
      rcases mg_fin3 k with rfl | rfl | rfl
      · refine vx_catch (own := RL) (name := "java/lang/IndexOutOfBoundsException") (E := mg_xn 0) hown [] ⟨0, 10, 13, 13⟩ [⟨0, 10, 17, 17⟩] (htab.trans rfl) (fun _ h_ => nomatch h_) rfl (by decide) (hts (.classLink RL 13 "java/lang/IndexOutOfBoundsException") (by decide +kernel)) (va_Nw.use rfl (hO.2.2.2.2.2.2.2.2.2.2.2.2.2.2.2.2.2.2.2.1)) a1 a2 a3 ?_
        refine lv_astore (lv' := [(4, .ref q9), (0, .ref (g 0)), (1, .int x1), (2, .int x2), (3, .ref q)]) hx hb dL_carp_13 hl (by decide) rfl (fun ls hl => ?_)
        refine lv_iconst (v := 1) hx hb dL_carp_15 (by decide) ?_
        exact vx_ret (mg_eI (w1 := (mg_cW g cI cZ σ9) ++ (mg_oc q cL (mg_of (.error 0) f))) hx hb hr hlocks hw (Nat.le_of_ble_eq_true rfl) (Nat.le_of_ble_eq_true rfl) dL_carp_16)
      · exact absurd rfl hk1
      · refine vx_catch (own := RL) (name := "java/lang/IllegalStateException") (E := mg_xn 2) hown [⟨0, 10, 13, 13⟩] ⟨0, 10, 17, 17⟩ [] (htab.trans rfl) (List.forall_mem_cons.mpr ⟨Or.inr ⟨by decide, "java/lang/IndexOutOfBoundsException", hts (.classLink RL 13 "java/lang/IndexOutOfBoundsException") (by decide +kernel), hO.2.2.2.2.2.2.2.2.2.2.2.2.2.2.2.2.2.2.2.2.2.2.2.2.2.2.1⟩, (fun _ h_ => nomatch h_)⟩) rfl (by decide) (hts (.classLink RL 17 "java/lang/IllegalStateException") (by decide +kernel)) (va_Nw.use rfl (hO.2.2.2.2.2.2.2.2.2.2.2.2.2.2.2.2.2.2.2.2.2.1)) a1 a2 a3 ?_
        refine lv_astore (lv' := [(4, .ref q9), (0, .ref (g 0)), (1, .int x1), (2, .int x2), (3, .ref q)]) hx hb dL_carp_17 hl (by decide) rfl (fun ls hl => ?_)
        refine lv_iconst (v := 2) hx hb dL_carp_19 (by decide) ?_
        exact vx_ret (mg_eI (w1 := (mg_cW g cI cZ σ9) ++ (mg_oc q cL (mg_of (.error 2) f))) hx hb hr hlocks hw (Nat.le_of_ble_eq_true rfl) (Nat.le_of_ble_eq_true rfl) dL_carp_20)
  · cases out with
    | error k9 => cases hrv
    | ok v =>
      cases hrv
      refine lv_i2l hx hb dL_carp_8 rfl ?_
      refine va_last hx hb hK hw.1 hw.2.1 hw.2.2 25 2 rfl rfl (by unfold vp_in; decide) dL_carp_9 (fun H locs hP hD hS => ?_)
      have hw : mg_Wo D A s.heap H locs ((mg_cW g cI cZ σ9) ++ (mg_oc q cL (mg_of (.ok v) f))) := ⟨hP, hD, hS⟩
      refine lv_goto (tgt := 21) hx hb dL_carp_10 (by decide) ?_
      refine lv_iconst (v := 0) hx hb dL_carp_21 (by decide) ?_
      exact vx_ret (mg_eI hx hb hr hlocks hw (Nat.le_of_ble_eq_true rfl) (Nat.le_of_ble_eq_true rfl) dL_carp_22)
set_option maxHeartbeats 4000000 in
set_option maxRecDepth 100000 in
theorem k_L_sell (l : Launch) (hst : l.stackTraces = false) (D : va_G) (o : Nat → Nat) (cI cZ cL : ClassId) (g : Nat → Nat) (q : Nat) (sz : Nat) (σ : mg_St) (f : Nat → Int64) (x1 : Int32) (out : Except (Fin 3) Int32) (σ9 : mg_St) (h : f_X6_sell σ x1 = some (out, σ9)) (hk1 : out ≠ .error 1) : mg_CT l yL_sell wsL_sell ({ frames := 8, cells := 1, slots := 6, locals := 132 } : Room) D [(cI, .int), (cZ, .boolean), (cL, .long)] o ((mg_cW g cI cZ σ) ++ (mg_oc q cL f)) sz [.ref (g 0), .int x1, .ref q] (some (.int (mg_cd 1 9 2 out))) ((mg_cW g cI cZ σ9) ++ (mg_oc q cL (mg_of out f))) 1 6 := by
  unfold mg_CT
  refine mg_ofX (vx_ofWH (cc := cL_sell) (maxL := 4) (ret := some .int) (hh := [(0, 9, 12, 13), (0, 9, 15, 17)]) (by decide) rfl ?_)
  intro p e s m args below meth c s₁ B hml hv
  obtain ⟨rfl, hsz, hP, hK, hD0, hO⟩ := hv
  have hx := B.exec
  have hb := B.bytes
  have hr := B.returns
  have hts := atoms_spec (ws := wsL_sell) B.pre
  have hown : s.vm.findClass RL = some m.cls := findClass_of_methodNamed B.named
  have hlocks := B.notSynchronized
  have htab := vx_table (x := yL_rock) B (hts _ List.mem_cons_self)
  subst hsz
  have hD := hD0.self (sz := s.heap.size)
  generalize hAe : va_A ((mg_cW g cI cZ σ) ++ (mg_oc q cL f)) s.heap.size = A at hD hO ⊢
  have hA : ∀ q : Nat, s.heap.size ≤ q → A q := fun q h => by rw [← hAe]; exact Or.inr h
  have hw : mg_Wo D A s.heap s.heap [] ((mg_cW g cI cZ σ) ++ (mg_oc q cL f)) := ⟨hP, hD, va_S.rf⟩
  have G9 : CallFix p m c cL_sell 4 s ([.ref (g 0), .int x1, .ref q] : List Value).toArray wsL_sell RL := ⟨hx, hb, hml, hown, hts⟩
  clear hP hD hD0 hAe
  have hl := lv_entry ([.ref (g 0), .int x1, .ref q]) (n := 4) (Nat.le_of_ble_eq_true rfl)
  rw [lg_entry_eq]
  generalize (lg_sl ([.ref (g 0), .int x1, .ref q]) ++ List.replicate (4 - (lg_sl ([.ref (g 0), .int x1, .ref q])).length) Slot.unset).toArray = ls at hl ⊢
  have hl : lv_has ls 4 [(0, .ref (g 0)), (1, .int x1), (2, .ref q)] := hl
  refine lv_aload_n hx hb dL_sell_0 rfl (lv_at hl 2 rfl) ?_
  refine lv_iconst (v := 0) hx hb dL_sell_1 (by decide) ?_
  refine lv_aload_n hx hb dL_sell_2 rfl (lv_at hl 0 rfl) ?_
  refine lv_iload_n hx hb dL_sell_3 rfl (lv_at hl 1 rfl) ?_
  refine mg_kxF (wl := []) (w0 := (mg_cW g cI cZ σ)) (wr := (mg_oc q cL f)) (w1 := (mg_cW g cI cZ σ9)) (out := Except.map (fun v : Int32 => some (.int v)) out) (vx_runV (As := [.int x1]) (rest := [.int 0, .ref q]) G9 (k_X6_sell l hst D o cI cZ g s.heap.size σ x1 out σ9 h 1 6 (fun _ _ => ⟨Nat.le_refl _, Nat.le_refl _⟩)) (cwV 1 hts gL_sell_X6_sell rfl rfl rfl (by decide +kernel) ⟨Nat.le_of_ble_eq_true rfl, Nat.le_of_ble_eq_true rfl⟩) (mg_preV (hK.sub (tys' := [(cI, .int), (cZ, .boolean)]) [0, 1] rfl) hO hA (mg_sub (wl := []) (w0 := (mg_cW g cI cZ σ)) hw) (q0 := 0) rfl rfl) rfl rfl hl.1 rfl (lv_room (Nat.le_of_ble_eq_true rfl)) dL_sell_4 ⟨Nat.le_of_ble_eq_true rfl, Nat.le_of_ble_eq_true rfl⟩) hw hA (fun k hk_ H locs q9 ce hw a1 a2 a3 => ?_) (fun rv hrv H locs hw => ?_)
  · cases out with
    | ok v => cases hk_
    | error k9 =>
      cases hk_
      rcases mg_fin3 k with rfl | rfl | rfl
      · refine vx_catch (own := RL) (name := "java/lang/IndexOutOfBoundsException") (E := mg_xn 0) hown [] ⟨0, 9, 12, 13⟩ [⟨0, 9, 15, 17⟩] (htab.trans rfl) (fun _ h_ => nomatch h_) rfl (by decide) (hts (.classLink RL 13 "java/lang/IndexOutOfBoundsException") (by decide +kernel)) (va_Nw.use rfl (hO.2.2.2.2.2.2.2.2.2.2.2.2.2.2.2.2.2.2.2.1)) a1 a2 a3 ?_
        refine lv_astore_n (lv' := [(3, .ref q9), (0, .ref (g 0)), (1, .int x1), (2, .ref q)]) hx hb dL_sell_12 rfl hl (by decide) rfl (fun ls hl => ?_)
        refine lv_iconst (v := 1) hx hb dL_sell_13 (by decide) ?_
        exact vx_ret (mg_eI (w1 := (mg_cW g cI cZ σ9) ++ (mg_oc q cL (mg_of (.error 0) f))) hx hb hr hlocks hw (Nat.le_of_ble_eq_true rfl) (Nat.le_of_ble_eq_true rfl) dL_sell_14)
      · exact absurd rfl hk1
      · refine vx_catch (own := RL) (name := "java/lang/IllegalStateException") (E := mg_xn 2) hown [⟨0, 9, 12, 13⟩] ⟨0, 9, 15, 17⟩ [] (htab.trans rfl) (List.forall_mem_cons.mpr ⟨Or.inr ⟨by decide, "java/lang/IndexOutOfBoundsException", hts (.classLink RL 13 "java/lang/IndexOutOfBoundsException") (by decide +kernel), hO.2.2.2.2.2.2.2.2.2.2.2.2.2.2.2.2.2.2.2.2.2.2.2.2.2.2.1⟩, (fun _ h_ => nomatch h_)⟩) rfl (by decide) (hts (.classLink RL 17 "java/lang/IllegalStateException") (by decide +kernel)) (va_Nw.use rfl (hO.2.2.2.2.2.2.2.2.2.2.2.2.2.2.2.2.2.2.2.2.2.1)) a1 a2 a3 ?_
        refine lv_astore_n (lv' := [(3, .ref q9), (0, .ref (g 0)), (1, .int x1), (2, .ref q)]) hx hb dL_sell_15 rfl hl (by decide) rfl (fun ls hl => ?_)
        refine lv_iconst (v := 2) hx hb dL_sell_16 (by decide) ?_
        exact vx_ret (mg_eI (w1 := (mg_cW g cI cZ σ9) ++ (mg_oc q cL (mg_of (.error 2) f))) hx hb hr hlocks hw (Nat.le_of_ble_eq_true rfl) (Nat.le_of_ble_eq_true rfl) dL_sell_17)
  · cases out with
    | error k9 => cases hrv
    | ok v =>
      cases hrv
      refine lv_i2l hx hb dL_sell_7 rfl ?_
      refine va_last hx hb hK hw.1 hw.2.1 hw.2.2 25 2 rfl rfl (by unfold vp_in; decide) dL_sell_8 (fun H locs hP hD hS => ?_)
      have hw : mg_Wo D A s.heap H locs ((mg_cW g cI cZ σ9) ++ (mg_oc q cL (mg_of (.ok v) f))) := ⟨hP, hD, hS⟩
      refine lv_goto (tgt := 18) hx hb dL_sell_9 (by decide) ?_
      refine lv_iconst (v := 0) hx hb dL_sell_18 (by decide) ?_
      exact vx_ret (mg_eI hx hb hr hlocks hw (Nat.le_of_ble_eq_true rfl) (Nat.le_of_ble_eq_true rfl) dL_sell_19)
set_option maxHeartbeats 4000000 in
set_option maxRecDepth 100000 in
theorem k_L_told (l : Launch) (hst : l.stackTraces = false) (D : va_G) (o : Nat → Nat) (cI cZ cL : ClassId) (g : Nat → Nat) (q : Nat) (sz : Nat) (σ : mg_St) (f : Nat → Int64) (x1 x2 : Int32) (out : Except (Fin 3) Int32) (σ9 : mg_St) (h : f_X6_told σ x1 x2 = some (out, σ9)) (hk1 : out ≠ .error 1) (hk2 : out ≠ .error 2) : mg_CT l yL_told wsL_told ({ frames := 8, cells := 1, slots := 6, locals := 134 } : Room) D [(cI, .int), (cZ, .boolean), (cL, .long)] o ((mg_cW g cI cZ σ) ++ (mg_oc q cL f)) sz [.ref (g 0), .int x1, .int x2, .ref q] (some (.int (mg_cd 1 9 9 out))) ((mg_cW g cI cZ σ9) ++ (mg_oc q cL (mg_of out f))) 1 6 := by
  unfold mg_CT
  refine mg_ofX (vx_ofWH (cc := cL_told) (maxL := 5) (ret := some .int) (hh := [(0, 10, 13, 13)]) (by decide) rfl ?_)
  intro p e s m args below meth c s₁ B hml hv
  obtain ⟨rfl, hsz, hP, hK, hD0, hO⟩ := hv
  have hx := B.exec
  have hb := B.bytes
  have hr := B.returns
  have hts := atoms_spec (ws := wsL_told) B.pre
  have hown : s.vm.findClass RL = some m.cls := findClass_of_methodNamed B.named
  have hlocks := B.notSynchronized
  have htab := vx_table (x := yL_rock) B (hts _ List.mem_cons_self)
  subst hsz
  have hD := hD0.self (sz := s.heap.size)
  generalize hAe : va_A ((mg_cW g cI cZ σ) ++ (mg_oc q cL f)) s.heap.size = A at hD hO ⊢
  have hA : ∀ q : Nat, s.heap.size ≤ q → A q := fun q h => by rw [← hAe]; exact Or.inr h
  have hw : mg_Wo D A s.heap s.heap [] ((mg_cW g cI cZ σ) ++ (mg_oc q cL f)) := ⟨hP, hD, va_S.rf⟩
  have G9 : CallFix p m c cL_told 5 s ([.ref (g 0), .int x1, .int x2, .ref q] : List Value).toArray wsL_told RL := ⟨hx, hb, hml, hown, hts⟩
  clear hP hD hD0 hAe
  have hl := lv_entry ([.ref (g 0), .int x1, .int x2, .ref q]) (n := 5) (Nat.le_of_ble_eq_true rfl)
  rw [lg_entry_eq]
  generalize (lg_sl ([.ref (g 0), .int x1, .int x2, .ref q]) ++ List.replicate (5 - (lg_sl ([.ref (g 0), .int x1, .int x2, .ref q])).length) Slot.unset).toArray = ls at hl ⊢
  have hl : lv_has ls 5 [(0, .ref (g 0)), (1, .int x1), (2, .int x2), (3, .ref q)] := hl
  refine lv_aload_n hx hb dL_told_0 rfl (lv_at hl 3 rfl) ?_
  refine lv_iconst (v := 0) hx hb dL_told_1 (by decide) ?_
  refine lv_aload_n hx hb dL_told_2 rfl (lv_at hl 0 rfl) ?_
  refine lv_iload_n hx hb dL_told_3 rfl (lv_at hl 1 rfl) ?_
  refine lv_iload_n hx hb dL_told_4 rfl (lv_at hl 2 rfl) ?_
  refine mg_kxF (wl := []) (w0 := (mg_cW g cI cZ σ)) (wr := (mg_oc q cL f)) (w1 := (mg_cW g cI cZ σ9)) (out := Except.map (fun v : Int32 => some (.int v)) out) (vx_runV (As := [.int x1, .int x2]) (rest := [.int 0, .ref q]) G9 (k_X6_told l hst D o cI cZ g s.heap.size σ x1 x2 out σ9 h 1 6 (fun _ _ => ⟨Nat.le_refl _, Nat.le_refl _⟩)) (cwV 2 hts gL_told_X6_told rfl rfl rfl (by decide +kernel) ⟨Nat.le_of_ble_eq_true rfl, Nat.le_of_ble_eq_true rfl⟩) (mg_preV (hK.sub (tys' := [(cI, .int), (cZ, .boolean)]) [0, 1] rfl) hO hA (mg_sub (wl := []) (w0 := (mg_cW g cI cZ σ)) hw) (q0 := 0) rfl rfl) rfl rfl hl.1 rfl (lv_room (Nat.le_of_ble_eq_true rfl)) dL_told_5 ⟨Nat.le_of_ble_eq_true rfl, Nat.le_of_ble_eq_true rfl⟩) hw hA (fun k hk_ H locs q9 ce hw a1 a2 a3 => ?_) (fun rv hrv H locs hw => ?_)
  · cases out with
    | ok v => cases hk_
    | error k9 =>
      cases hk_
      rcases mg_fin3 k with rfl | rfl | rfl
      · refine vx_catch (own := RL) (name := "java/lang/IndexOutOfBoundsException") (E := mg_xn 0) hown [] ⟨0, 10, 13, 13⟩ [] (htab.trans rfl) (fun _ h_ => nomatch h_) rfl (by decide) (hts (.classLink RL 13 "java/lang/IndexOutOfBoundsException") (by decide +kernel)) (va_Nw.use rfl (hO.2.2.2.2.2.2.2.2.2.2.2.2.2.2.2.2.2.2.2.1)) a1 a2 a3 ?_
        refine lv_astore (lv' := [(4, .ref q9), (0, .ref (g 0)), (1, .int x1), (2, .int x2), (3, .ref q)]) hx hb dL_told_13 hl (by decide) rfl (fun ls hl => ?_)
        refine lv_iconst (v := 1) hx hb dL_told_15 (by decide) ?_
        exact vx_ret (mg_eI (w1 := (mg_cW g cI cZ σ9) ++ (mg_oc q cL (mg_of (.error 0) f))) hx hb hr hlocks hw (Nat.le_of_ble_eq_true rfl) (Nat.le_of_ble_eq_true rfl) dL_told_16)
      · exact absurd rfl hk1
      · exact absurd rfl hk2
  · cases out with
    | error k9 => cases hrv
    | ok v =>
      cases hrv
      refine lv_i2l hx hb dL_told_8 rfl ?_
      refine va_last hx hb hK hw.1 hw.2.1 hw.2.2 25 2 rfl rfl (by unfold vp_in; decide) dL_told_9 (fun H locs hP hD hS => ?_)
      have hw : mg_Wo D A s.heap H locs ((mg_cW g cI cZ σ9) ++ (mg_oc q cL (mg_of (.ok v) f))) := ⟨hP, hD, hS⟩
      refine lv_goto (tgt := 17) hx hb dL_told_10 (by decide) ?_
      refine lv_iconst (v := 0) hx hb dL_told_17 (by decide) ?_
      exact vx_ret (mg_eI hx hb hr hlocks hw (Nat.le_of_ble_eq_true rfl) (Nat.le_of_ble_eq_true rfl) dL_told_18)
set_option maxHeartbeats 4000000 in
set_option maxRecDepth 100000 in
theorem k_L_gate (l : Launch) (hst : l.stackTraces = false) (D : va_G) (o : Nat → Nat) (cI cZ cL : ClassId) (g : Nat → Nat) (q : Nat) (sz : Nat) (σ : mg_St) (f : Nat → Int64) (x1 x2 x3 : Int32) (out : Except (Fin 3) Int32) (σ9 : mg_St) (h : f_X6_gate σ x1 x2 x3 = some (out, σ9)) : mg_CT l yL_gate wsL_gate ({ frames := 8, cells := 1, slots := 6, locals := 135 } : Room) D [(cI, .int), (cZ, .boolean), (cL, .long)] o ((mg_cW g cI cZ σ) ++ (mg_oc q cL f)) sz [.ref (g 0), .int x1, .int x2, .int x3, .ref q] (some (.int (mg_cd 1 2 3 out))) ((mg_cW g cI cZ σ9) ++ (mg_oc q cL (mg_of out f))) 1 6 := by
  unfold mg_CT
  refine mg_ofX (vx_ofWH (cc := cL_gate) (maxL := 6) (ret := some .int) (hh := [(0, 12, 15, 13), (0, 12, 19, 15), (0, 12, 23, 17)]) (by decide) rfl ?_)
  intro p e s m args below meth c s₁ B hml hv
  obtain ⟨rfl, hsz, hP, hK, hD0, hO⟩ := hv
  have hx := B.exec
  have hb := B.bytes
  have hr := B.returns
  have hts := atoms_spec (ws := wsL_gate) B.pre
  have hown : s.vm.findClass RL = some m.cls := findClass_of_methodNamed B.named
  have hlocks := B.notSynchronized
  have htab := vx_table (x := yL_rock) B (hts _ List.mem_cons_self)
  subst hsz
  have hD := hD0.self (sz := s.heap.size)
  generalize hAe : va_A ((mg_cW g cI cZ σ) ++ (mg_oc q cL f)) s.heap.size = A at hD hO ⊢
  have hA : ∀ q : Nat, s.heap.size ≤ q → A q := fun q h => by rw [← hAe]; exact Or.inr h
  have hw : mg_Wo D A s.heap s.heap [] ((mg_cW g cI cZ σ) ++ (mg_oc q cL f)) := ⟨hP, hD, va_S.rf⟩
  have G9 : CallFix p m c cL_gate 6 s ([.ref (g 0), .int x1, .int x2, .int x3, .ref q] : List Value).toArray wsL_gate RL := ⟨hx, hb, hml, hown, hts⟩
  clear hP hD hD0 hAe
  have hl := lv_entry ([.ref (g 0), .int x1, .int x2, .int x3, .ref q]) (n := 6) (Nat.le_of_ble_eq_true rfl)
  rw [lg_entry_eq]
  generalize (lg_sl ([.ref (g 0), .int x1, .int x2, .int x3, .ref q]) ++ List.replicate (6 - (lg_sl ([.ref (g 0), .int x1, .int x2, .int x3, .ref q])).length) Slot.unset).toArray = ls at hl ⊢
  have hl : lv_has ls 6 [(0, .ref (g 0)), (1, .int x1), (2, .int x2), (3, .int x3), (4, .ref q)] := hl
  refine lv_aload hx hb dL_gate_0 (lv_at hl 4 rfl) ?_
  refine lv_iconst (v := 0) hx hb dL_gate_2 (by decide) ?_
  refine lv_aload_n hx hb dL_gate_3 rfl (lv_at hl 0 rfl) ?_
  refine lv_iload_n hx hb dL_gate_4 rfl (lv_at hl 1 rfl) ?_
  refine lv_iload_n hx hb dL_gate_5 rfl (lv_at hl 2 rfl) ?_
  refine lv_iload_n hx hb dL_gate_6 rfl (lv_at hl 3 rfl) ?_
  refine mg_kxF (wl := []) (w0 := (mg_cW g cI cZ σ)) (wr := (mg_oc q cL f)) (w1 := (mg_cW g cI cZ σ9)) (out := Except.map (fun v : Int32 => some (.int v)) out) (vx_runV (As := [.int x1, .int x2, .int x3]) (rest := [.int 0, .ref q]) G9 (k_X6_gate l hst D o cI cZ g s.heap.size σ x1 x2 x3 out σ9 h 1 6 (fun _ _ => ⟨Nat.le_refl _, Nat.le_refl _⟩)) (cwV 3 hts gL_gate_X6_gate rfl rfl rfl (by decide +kernel) ⟨Nat.le_of_ble_eq_true rfl, Nat.le_of_ble_eq_true rfl⟩) (mg_preV (hK.sub (tys' := [(cI, .int), (cZ, .boolean)]) [0, 1] rfl) hO hA (mg_sub (wl := []) (w0 := (mg_cW g cI cZ σ)) hw) (q0 := 0) rfl rfl) rfl rfl hl.1 rfl (lv_room (Nat.le_of_ble_eq_true rfl)) dL_gate_7 ⟨Nat.le_of_ble_eq_true rfl, Nat.le_of_ble_eq_true rfl⟩) hw hA (fun k hk_ H locs q9 ce hw a1 a2 a3 => ?_) (fun rv hrv H locs hw => ?_)
  · cases out with
    | ok v => cases hk_
    | error k9 =>
      cases hk_
      rcases mg_fin3 k with rfl | rfl | rfl
      · refine vx_catch (own := RL) (name := "java/lang/IndexOutOfBoundsException") (E := mg_xn 0) hown [] ⟨0, 12, 15, 13⟩ [⟨0, 12, 19, 15⟩, ⟨0, 12, 23, 17⟩] (htab.trans rfl) (fun _ h_ => nomatch h_) rfl (by decide) (hts (.classLink RL 13 "java/lang/IndexOutOfBoundsException") (by decide +kernel)) (va_Nw.use rfl (hO.2.2.2.2.2.2.2.2.2.2.2.2.2.2.2.2.2.2.2.1)) a1 a2 a3 ?_
        refine lv_astore (lv' := [(5, .ref q9), (0, .ref (g 0)), (1, .int x1), (2, .int x2), (3, .int x3), (4, .ref q)]) hx hb dL_gate_15 hl (by decide) rfl (fun ls hl => ?_)
        refine lv_iconst (v := 1) hx hb dL_gate_17 (by decide) ?_
        exact vx_ret (mg_eI (w1 := (mg_cW g cI cZ σ9) ++ (mg_oc q cL (mg_of (.error 0) f))) hx hb hr hlocks hw (Nat.le_of_ble_eq_true rfl) (Nat.le_of_ble_eq_true rfl) dL_gate_18)
      · refine vx_catch (own := RL) (name := "java/lang/IllegalArgumentException") (E := mg_xn 1) hown [⟨0, 12, 15, 13⟩] ⟨0, 12, 19, 15⟩ [⟨0, 12, 23, 17⟩] (htab.trans rfl) (List.forall_mem_cons.mpr ⟨Or.inr ⟨by decide, "java/lang/IndexOutOfBoundsException", hts (.classLink RL 13 "java/lang/IndexOutOfBoundsException") (by decide +kernel), hO.2.2.2.2.2.2.2.2.2.2.2.2.2.2.2.2.2.2.2.2.2.2.2.2.1⟩, (fun _ h_ => nomatch h_)⟩) rfl (by decide) (hts (.classLink RL 15 "java/lang/IllegalArgumentException") (by decide +kernel)) (va_Nw.use rfl (hO.2.2.2.2.2.2.2.2.2.2.2.2.2.2.2.2.2.2.2.2.1)) a1 a2 a3 ?_
        refine lv_astore (lv' := [(5, .ref q9), (0, .ref (g 0)), (1, .int x1), (2, .int x2), (3, .int x3), (4, .ref q)]) hx hb dL_gate_19 hl (by decide) rfl (fun ls hl => ?_)
        refine lv_iconst (v := 2) hx hb dL_gate_21 (by decide) ?_
        exact vx_ret (mg_eI (w1 := (mg_cW g cI cZ σ9) ++ (mg_oc q cL (mg_of (.error 1) f))) hx hb hr hlocks hw (Nat.le_of_ble_eq_true rfl) (Nat.le_of_ble_eq_true rfl) dL_gate_22)
      · refine vx_catch (own := RL) (name := "java/lang/IllegalStateException") (E := mg_xn 2) hown [⟨0, 12, 15, 13⟩, ⟨0, 12, 19, 15⟩] ⟨0, 12, 23, 17⟩ [] (htab.trans rfl) (List.forall_mem_cons.mpr ⟨Or.inr ⟨by decide, "java/lang/IndexOutOfBoundsException", hts (.classLink RL 13 "java/lang/IndexOutOfBoundsException") (by decide +kernel), hO.2.2.2.2.2.2.2.2.2.2.2.2.2.2.2.2.2.2.2.2.2.2.2.2.2.2.1⟩, (List.forall_mem_cons.mpr ⟨Or.inr ⟨by decide, "java/lang/IllegalArgumentException", hts (.classLink RL 15 "java/lang/IllegalArgumentException") (by decide +kernel), hO.2.2.2.2.2.2.2.2.2.2.2.2.2.2.2.2.2.2.2.2.2.2.2.2.2.2.2.1⟩, (fun _ h_ => nomatch h_)⟩)⟩) rfl (by decide) (hts (.classLink RL 17 "java/lang/IllegalStateException") (by decide +kernel)) (va_Nw.use rfl (hO.2.2.2.2.2.2.2.2.2.2.2.2.2.2.2.2.2.2.2.2.2.1)) a1 a2 a3 ?_
        refine lv_astore (lv' := [(5, .ref q9), (0, .ref (g 0)), (1, .int x1), (2, .int x2), (3, .int x3), (4, .ref q)]) hx hb dL_gate_23 hl (by decide) rfl (fun ls hl => ?_)
        refine lv_iconst (v := 3) hx hb dL_gate_25 (by decide) ?_
        exact vx_ret (mg_eI (w1 := (mg_cW g cI cZ σ9) ++ (mg_oc q cL (mg_of (.error 2) f))) hx hb hr hlocks hw (Nat.le_of_ble_eq_true rfl) (Nat.le_of_ble_eq_true rfl) dL_gate_26)
  · cases out with
    | error k9 => cases hrv
    | ok v =>
      cases hrv
      refine lv_i2l hx hb dL_gate_10 rfl ?_
      refine va_last hx hb hK hw.1 hw.2.1 hw.2.2 25 2 rfl rfl (by unfold vp_in; decide) dL_gate_11 (fun H locs hP hD hS => ?_)
      have hw : mg_Wo D A s.heap H locs ((mg_cW g cI cZ σ9) ++ (mg_oc q cL (mg_of (.ok v) f))) := ⟨hP, hD, hS⟩
      refine lv_goto (tgt := 27) hx hb dL_gate_12 (by decide) ?_
      refine lv_iconst (v := 0) hx hb dL_gate_27 (by decide) ?_
      exact vx_ret (mg_eI hx hb hr hlocks hw (Nat.le_of_ble_eq_true rfl) (Nat.le_of_ble_eq_true rfl) dL_gate_28)
set_option maxHeartbeats 4000000 in
set_option maxRecDepth 100000 in
theorem k_L_about (l : Launch) (hst : l.stackTraces = false) (D : va_G) (o : Nat → Nat) (cI cZ cL : ClassId) (g : Nat → Nat) (q : Nat) (sz : Nat) (σ : mg_St) (f : Nat → Int64) (x1 x2 : Int32) (out : Except (Fin 3) Int32) (σ9 : mg_St) (h : f_X6_about σ x1 x2 = some (out, σ9)) (hk1 : out ≠ .error 1) (hk2 : out ≠ .error 2) : mg_CT l yL_about wsL_about ({ frames := 8, cells := 1, slots := 6, locals := 134 } : Room) D [(cI, .int), (cZ, .boolean), (cL, .long)] o ((mg_cW g cI cZ σ) ++ (mg_oc q cL f)) sz [.ref (g 0), .int x1, .int x2, .ref q] (some (.int (mg_cd 1 9 9 out))) ((mg_cW g cI cZ σ9) ++ (mg_oc q cL (mg_of out f))) 1 6 := by
  unfold mg_CT
  refine mg_ofX (vx_ofWH (cc := cL_about) (maxL := 5) (ret := some .int) (hh := [(0, 10, 13, 13)]) (by decide) rfl ?_)
  intro p e s m args below meth c s₁ B hml hv
  obtain ⟨rfl, hsz, hP, hK, hD0, hO⟩ := hv
  have hx := B.exec
  have hb := B.bytes
  have hr := B.returns
  have hts := atoms_spec (ws := wsL_about) B.pre
  have hown : s.vm.findClass RL = some m.cls := findClass_of_methodNamed B.named
  have hlocks := B.notSynchronized
  have htab := vx_table (x := yL_rock) B (hts _ List.mem_cons_self)
  subst hsz
  have hD := hD0.self (sz := s.heap.size)
  generalize hAe : va_A ((mg_cW g cI cZ σ) ++ (mg_oc q cL f)) s.heap.size = A at hD hO ⊢
  have hA : ∀ q : Nat, s.heap.size ≤ q → A q := fun q h => by rw [← hAe]; exact Or.inr h
  have hw : mg_Wo D A s.heap s.heap [] ((mg_cW g cI cZ σ) ++ (mg_oc q cL f)) := ⟨hP, hD, va_S.rf⟩
  have G9 : CallFix p m c cL_about 5 s ([.ref (g 0), .int x1, .int x2, .ref q] : List Value).toArray wsL_about RL := ⟨hx, hb, hml, hown, hts⟩
  clear hP hD hD0 hAe
  have hl := lv_entry ([.ref (g 0), .int x1, .int x2, .ref q]) (n := 5) (Nat.le_of_ble_eq_true rfl)
  rw [lg_entry_eq]
  generalize (lg_sl ([.ref (g 0), .int x1, .int x2, .ref q]) ++ List.replicate (5 - (lg_sl ([.ref (g 0), .int x1, .int x2, .ref q])).length) Slot.unset).toArray = ls at hl ⊢
  have hl : lv_has ls 5 [(0, .ref (g 0)), (1, .int x1), (2, .int x2), (3, .ref q)] := hl
  refine lv_aload_n hx hb dL_about_0 rfl (lv_at hl 3 rfl) ?_
  refine lv_iconst (v := 0) hx hb dL_about_1 (by decide) ?_
  refine lv_aload_n hx hb dL_about_2 rfl (lv_at hl 0 rfl) ?_
  refine lv_iload_n hx hb dL_about_3 rfl (lv_at hl 1 rfl) ?_
  refine lv_iload_n hx hb dL_about_4 rfl (lv_at hl 2 rfl) ?_
  refine mg_kxF (wl := []) (w0 := (mg_cW g cI cZ σ)) (wr := (mg_oc q cL f)) (w1 := (mg_cW g cI cZ σ9)) (out := Except.map (fun v : Int32 => some (.int v)) out) (vx_runV (As := [.int x1, .int x2]) (rest := [.int 0, .ref q]) G9 (k_X6_about l hst D o cI cZ g s.heap.size σ x1 x2 out σ9 h 1 6 (fun _ _ => ⟨Nat.le_refl _, Nat.le_refl _⟩)) (cwV 2 hts gL_about_X6_about rfl rfl rfl (by decide +kernel) ⟨Nat.le_of_ble_eq_true rfl, Nat.le_of_ble_eq_true rfl⟩) (mg_preV (hK.sub (tys' := [(cI, .int), (cZ, .boolean)]) [0, 1] rfl) hO hA (mg_sub (wl := []) (w0 := (mg_cW g cI cZ σ)) hw) (q0 := 0) rfl rfl) rfl rfl hl.1 rfl (lv_room (Nat.le_of_ble_eq_true rfl)) dL_about_5 ⟨Nat.le_of_ble_eq_true rfl, Nat.le_of_ble_eq_true rfl⟩) hw hA (fun k hk_ H locs q9 ce hw a1 a2 a3 => ?_) (fun rv hrv H locs hw => ?_)
  · cases out with
    | ok v => cases hk_
    | error k9 =>
      cases hk_
      rcases mg_fin3 k with rfl | rfl | rfl
      · refine vx_catch (own := RL) (name := "java/lang/IndexOutOfBoundsException") (E := mg_xn 0) hown [] ⟨0, 10, 13, 13⟩ [] (htab.trans rfl) (fun _ h_ => nomatch h_) rfl (by decide) (hts (.classLink RL 13 "java/lang/IndexOutOfBoundsException") (by decide +kernel)) (va_Nw.use rfl (hO.2.2.2.2.2.2.2.2.2.2.2.2.2.2.2.2.2.2.2.1)) a1 a2 a3 ?_
        refine lv_astore (lv' := [(4, .ref q9), (0, .ref (g 0)), (1, .int x1), (2, .int x2), (3, .ref q)]) hx hb dL_about_13 hl (by decide) rfl (fun ls hl => ?_)
        refine lv_iconst (v := 1) hx hb dL_about_15 (by decide) ?_
        exact vx_ret (mg_eI (w1 := (mg_cW g cI cZ σ9) ++ (mg_oc q cL (mg_of (.error 0) f))) hx hb hr hlocks hw (Nat.le_of_ble_eq_true rfl) (Nat.le_of_ble_eq_true rfl) dL_about_16)
      · exact absurd rfl hk1
      · exact absurd rfl hk2
  · cases out with
    | error k9 => cases hrv
    | ok v =>
      cases hrv
      refine lv_i2l hx hb dL_about_8 rfl ?_
      refine va_last hx hb hK hw.1 hw.2.1 hw.2.2 25 2 rfl rfl (by unfold vp_in; decide) dL_about_9 (fun H locs hP hD hS => ?_)
      have hw : mg_Wo D A s.heap H locs ((mg_cW g cI cZ σ9) ++ (mg_oc q cL (mg_of (.ok v) f))) := ⟨hP, hD, hS⟩
      refine lv_goto (tgt := 17) hx hb dL_about_10 (by decide) ?_
      refine lv_iconst (v := 0) hx hb dL_about_17 (by decide) ?_
      exact vx_ret (mg_eI hx hb hr hlocks hw (Nat.le_of_ble_eq_true rfl) (Nat.le_of_ble_eq_true rfl) dL_about_18)
set_option maxHeartbeats 4000000 in
set_option maxRecDepth 100000 in
theorem k_L_invite (l : Launch) (hst : l.stackTraces = false) (D : va_G) (o : Nat → Nat) (cI cZ cL : ClassId) (g : Nat → Nat) (q : Nat) (sz : Nat) (σ : mg_St) (f : Nat → Int64) (x1 : Int32) (out : Except (Fin 3) Int32) (σ9 : mg_St) (h : f_X6_invite σ x1 = some (out, σ9)) (hk1 : out ≠ .error 1) : mg_CT l yL_invite wsL_invite ({ frames := 8, cells := 1, slots := 6, locals := 132 } : Room) D [(cI, .int), (cZ, .boolean), (cL, .long)] o ((mg_cW g cI cZ σ) ++ (mg_oc q cL f)) sz [.ref (g 0), .int x1, .ref q] (some (.int (mg_cd 1 9 2 out))) ((mg_cW g cI cZ σ9) ++ (mg_oc q cL (mg_of out f))) 1 6 := by
  unfold mg_CT
  refine mg_ofX (vx_ofWH (cc := cL_invite) (maxL := 4) (ret := some .int) (hh := [(0, 9, 12, 13), (0, 9, 15, 17)]) (by decide) rfl ?_)
  intro p e s m args below meth c s₁ B hml hv
  obtain ⟨rfl, hsz, hP, hK, hD0, hO⟩ := hv
  have hx := B.exec
  have hb := B.bytes
  have hr := B.returns
  have hts := atoms_spec (ws := wsL_invite) B.pre
  have hown : s.vm.findClass RL = some m.cls := findClass_of_methodNamed B.named
  have hlocks := B.notSynchronized
  have htab := vx_table (x := yL_rock) B (hts _ List.mem_cons_self)
  subst hsz
  have hD := hD0.self (sz := s.heap.size)
  generalize hAe : va_A ((mg_cW g cI cZ σ) ++ (mg_oc q cL f)) s.heap.size = A at hD hO ⊢
  have hA : ∀ q : Nat, s.heap.size ≤ q → A q := fun q h => by rw [← hAe]; exact Or.inr h
  have hw : mg_Wo D A s.heap s.heap [] ((mg_cW g cI cZ σ) ++ (mg_oc q cL f)) := ⟨hP, hD, va_S.rf⟩
  have G9 : CallFix p m c cL_invite 4 s ([.ref (g 0), .int x1, .ref q] : List Value).toArray wsL_invite RL := ⟨hx, hb, hml, hown, hts⟩
  clear hP hD hD0 hAe
  have hl := lv_entry ([.ref (g 0), .int x1, .ref q]) (n := 4) (Nat.le_of_ble_eq_true rfl)
  rw [lg_entry_eq]
  generalize (lg_sl ([.ref (g 0), .int x1, .ref q]) ++ List.replicate (4 - (lg_sl ([.ref (g 0), .int x1, .ref q])).length) Slot.unset).toArray = ls at hl ⊢
  have hl : lv_has ls 4 [(0, .ref (g 0)), (1, .int x1), (2, .ref q)] := hl
  refine lv_aload_n hx hb dL_invite_0 rfl (lv_at hl 2 rfl) ?_
  refine lv_iconst (v := 0) hx hb dL_invite_1 (by decide) ?_
  refine lv_aload_n hx hb dL_invite_2 rfl (lv_at hl 0 rfl) ?_
  refine lv_iload_n hx hb dL_invite_3 rfl (lv_at hl 1 rfl) ?_
  refine mg_kxF (wl := []) (w0 := (mg_cW g cI cZ σ)) (wr := (mg_oc q cL f)) (w1 := (mg_cW g cI cZ σ9)) (out := Except.map (fun v : Int32 => some (.int v)) out) (vx_runV (As := [.int x1]) (rest := [.int 0, .ref q]) G9 (k_X6_invite l hst D o cI cZ g s.heap.size σ x1 out σ9 h 1 6 (fun _ _ => ⟨Nat.le_refl _, Nat.le_refl _⟩)) (cwV 1 hts gL_invite_X6_invite rfl rfl rfl (by decide +kernel) ⟨Nat.le_of_ble_eq_true rfl, Nat.le_of_ble_eq_true rfl⟩) (mg_preV (hK.sub (tys' := [(cI, .int), (cZ, .boolean)]) [0, 1] rfl) hO hA (mg_sub (wl := []) (w0 := (mg_cW g cI cZ σ)) hw) (q0 := 0) rfl rfl) rfl rfl hl.1 rfl (lv_room (Nat.le_of_ble_eq_true rfl)) dL_invite_4 ⟨Nat.le_of_ble_eq_true rfl, Nat.le_of_ble_eq_true rfl⟩) hw hA (fun k hk_ H locs q9 ce hw a1 a2 a3 => ?_) (fun rv hrv H locs hw => ?_)
  · cases out with
    | ok v => cases hk_
    | error k9 =>
      cases hk_
      rcases mg_fin3 k with rfl | rfl | rfl
      · refine vx_catch (own := RL) (name := "java/lang/IndexOutOfBoundsException") (E := mg_xn 0) hown [] ⟨0, 9, 12, 13⟩ [⟨0, 9, 15, 17⟩] (htab.trans rfl) (fun _ h_ => nomatch h_) rfl (by decide) (hts (.classLink RL 13 "java/lang/IndexOutOfBoundsException") (by decide +kernel)) (va_Nw.use rfl (hO.2.2.2.2.2.2.2.2.2.2.2.2.2.2.2.2.2.2.2.1)) a1 a2 a3 ?_
        refine lv_astore_n (lv' := [(3, .ref q9), (0, .ref (g 0)), (1, .int x1), (2, .ref q)]) hx hb dL_invite_12 rfl hl (by decide) rfl (fun ls hl => ?_)
        refine lv_iconst (v := 1) hx hb dL_invite_13 (by decide) ?_
        exact vx_ret (mg_eI (w1 := (mg_cW g cI cZ σ9) ++ (mg_oc q cL (mg_of (.error 0) f))) hx hb hr hlocks hw (Nat.le_of_ble_eq_true rfl) (Nat.le_of_ble_eq_true rfl) dL_invite_14)
      · exact absurd rfl hk1
      · refine vx_catch (own := RL) (name := "java/lang/IllegalStateException") (E := mg_xn 2) hown [⟨0, 9, 12, 13⟩] ⟨0, 9, 15, 17⟩ [] (htab.trans rfl) (List.forall_mem_cons.mpr ⟨Or.inr ⟨by decide, "java/lang/IndexOutOfBoundsException", hts (.classLink RL 13 "java/lang/IndexOutOfBoundsException") (by decide +kernel), hO.2.2.2.2.2.2.2.2.2.2.2.2.2.2.2.2.2.2.2.2.2.2.2.2.2.2.1⟩, (fun _ h_ => nomatch h_)⟩) rfl (by decide) (hts (.classLink RL 17 "java/lang/IllegalStateException") (by decide +kernel)) (va_Nw.use rfl (hO.2.2.2.2.2.2.2.2.2.2.2.2.2.2.2.2.2.2.2.2.2.1)) a1 a2 a3 ?_
        refine lv_astore_n (lv' := [(3, .ref q9), (0, .ref (g 0)), (1, .int x1), (2, .ref q)]) hx hb dL_invite_15 rfl hl (by decide) rfl (fun ls hl => ?_)
        refine lv_iconst (v := 2) hx hb dL_invite_16 (by decide) ?_
        exact vx_ret (mg_eI (w1 := (mg_cW g cI cZ σ9) ++ (mg_oc q cL (mg_of (.error 2) f))) hx hb hr hlocks hw (Nat.le_of_ble_eq_true rfl) (Nat.le_of_ble_eq_true rfl) dL_invite_17)
  · cases out with
    | error k9 => cases hrv
    | ok v =>
      cases hrv
      refine lv_i2l hx hb dL_invite_7 rfl ?_
      refine va_last hx hb hK hw.1 hw.2.1 hw.2.2 25 2 rfl rfl (by unfold vp_in; decide) dL_invite_8 (fun H locs hP hD hS => ?_)
      have hw : mg_Wo D A s.heap H locs ((mg_cW g cI cZ σ9) ++ (mg_oc q cL (mg_of (.ok v) f))) := ⟨hP, hD, hS⟩
      refine lv_goto (tgt := 18) hx hb dL_invite_9 (by decide) ?_
      refine lv_iconst (v := 0) hx hb dL_invite_18 (by decide) ?_
      exact vx_ret (mg_eI hx hb hr hlocks hw (Nat.le_of_ble_eq_true rfl) (Nat.le_of_ble_eq_true rfl) dL_invite_19)
set_option maxHeartbeats 4000000 in
set_option maxRecDepth 100000 in
theorem k_L_lead (l : Launch) (hst : l.stackTraces = false) (D : va_G) (o : Nat → Nat) (cI cZ cL : ClassId) (g : Nat → Nat) (q : Nat) (sz : Nat) (σ : mg_St) (f : Nat → Int64) (x1 x2 : Int32) (out : Except (Fin 3) Int32) (σ9 : mg_St) (h : f_X6_lead σ x1 x2 = some (out, σ9)) (hk1 : out ≠ .error 1) (hk2 : out ≠ .error 2) : mg_CT l yL_lead wsL_lead ({ frames := 8, cells := 1, slots := 6, locals := 134 } : Room) D [(cI, .int), (cZ, .boolean), (cL, .long)] o ((mg_cW g cI cZ σ) ++ (mg_oc q cL f)) sz [.ref (g 0), .int x1, .int x2, .ref q] (some (.int (mg_cd 1 9 9 out))) ((mg_cW g cI cZ σ9) ++ (mg_oc q cL (mg_of out f))) 1 6 := by
  unfold mg_CT
  refine mg_ofX (vx_ofWH (cc := cL_lead) (maxL := 5) (ret := some .int) (hh := [(0, 10, 13, 13)]) (by decide) rfl ?_)
  intro p e s m args below meth c s₁ B hml hv
  obtain ⟨rfl, hsz, hP, hK, hD0, hO⟩ := hv
  have hx := B.exec
  have hb := B.bytes
  have hr := B.returns
  have hts := atoms_spec (ws := wsL_lead) B.pre
  have hown : s.vm.findClass RL = some m.cls := findClass_of_methodNamed B.named
  have hlocks := B.notSynchronized
  have htab := vx_table (x := yL_rock) B (hts _ List.mem_cons_self)
  subst hsz
  have hD := hD0.self (sz := s.heap.size)
  generalize hAe : va_A ((mg_cW g cI cZ σ) ++ (mg_oc q cL f)) s.heap.size = A at hD hO ⊢
  have hA : ∀ q : Nat, s.heap.size ≤ q → A q := fun q h => by rw [← hAe]; exact Or.inr h
  have hw : mg_Wo D A s.heap s.heap [] ((mg_cW g cI cZ σ) ++ (mg_oc q cL f)) := ⟨hP, hD, va_S.rf⟩
  have G9 : CallFix p m c cL_lead 5 s ([.ref (g 0), .int x1, .int x2, .ref q] : List Value).toArray wsL_lead RL := ⟨hx, hb, hml, hown, hts⟩
  clear hP hD hD0 hAe
  have hl := lv_entry ([.ref (g 0), .int x1, .int x2, .ref q]) (n := 5) (Nat.le_of_ble_eq_true rfl)
  rw [lg_entry_eq]
  generalize (lg_sl ([.ref (g 0), .int x1, .int x2, .ref q]) ++ List.replicate (5 - (lg_sl ([.ref (g 0), .int x1, .int x2, .ref q])).length) Slot.unset).toArray = ls at hl ⊢
  have hl : lv_has ls 5 [(0, .ref (g 0)), (1, .int x1), (2, .int x2), (3, .ref q)] := hl
  refine lv_aload_n hx hb dL_lead_0 rfl (lv_at hl 3 rfl) ?_
  refine lv_iconst (v := 0) hx hb dL_lead_1 (by decide) ?_
  refine lv_aload_n hx hb dL_lead_2 rfl (lv_at hl 0 rfl) ?_
  refine lv_iload_n hx hb dL_lead_3 rfl (lv_at hl 1 rfl) ?_
  refine lv_iload_n hx hb dL_lead_4 rfl (lv_at hl 2 rfl) ?_
  refine mg_kxF (wl := []) (w0 := (mg_cW g cI cZ σ)) (wr := (mg_oc q cL f)) (w1 := (mg_cW g cI cZ σ9)) (out := Except.map (fun v : Int32 => some (.int v)) out) (vx_runV (As := [.int x1, .int x2]) (rest := [.int 0, .ref q]) G9 (k_X6_lead l hst D o cI cZ g s.heap.size σ x1 x2 out σ9 h 1 6 (fun _ _ => ⟨Nat.le_refl _, Nat.le_refl _⟩)) (cwV 2 hts gL_lead_X6_lead rfl rfl rfl (by decide +kernel) ⟨Nat.le_of_ble_eq_true rfl, Nat.le_of_ble_eq_true rfl⟩) (mg_preV (hK.sub (tys' := [(cI, .int), (cZ, .boolean)]) [0, 1] rfl) hO hA (mg_sub (wl := []) (w0 := (mg_cW g cI cZ σ)) hw) (q0 := 0) rfl rfl) rfl rfl hl.1 rfl (lv_room (Nat.le_of_ble_eq_true rfl)) dL_lead_5 ⟨Nat.le_of_ble_eq_true rfl, Nat.le_of_ble_eq_true rfl⟩) hw hA (fun k hk_ H locs q9 ce hw a1 a2 a3 => ?_) (fun rv hrv H locs hw => ?_)
  · cases out with
    | ok v => cases hk_
    | error k9 =>
      cases hk_
      rcases mg_fin3 k with rfl | rfl | rfl
      · refine vx_catch (own := RL) (name := "java/lang/IndexOutOfBoundsException") (E := mg_xn 0) hown [] ⟨0, 10, 13, 13⟩ [] (htab.trans rfl) (fun _ h_ => nomatch h_) rfl (by decide) (hts (.classLink RL 13 "java/lang/IndexOutOfBoundsException") (by decide +kernel)) (va_Nw.use rfl (hO.2.2.2.2.2.2.2.2.2.2.2.2.2.2.2.2.2.2.2.1)) a1 a2 a3 ?_
        refine lv_astore (lv' := [(4, .ref q9), (0, .ref (g 0)), (1, .int x1), (2, .int x2), (3, .ref q)]) hx hb dL_lead_13 hl (by decide) rfl (fun ls hl => ?_)
        refine lv_iconst (v := 1) hx hb dL_lead_15 (by decide) ?_
        exact vx_ret (mg_eI (w1 := (mg_cW g cI cZ σ9) ++ (mg_oc q cL (mg_of (.error 0) f))) hx hb hr hlocks hw (Nat.le_of_ble_eq_true rfl) (Nat.le_of_ble_eq_true rfl) dL_lead_16)
      · exact absurd rfl hk1
      · exact absurd rfl hk2
  · cases out with
    | error k9 => cases hrv
    | ok v =>
      cases hrv
      refine lv_i2l hx hb dL_lead_8 rfl ?_
      refine va_last hx hb hK hw.1 hw.2.1 hw.2.2 25 2 rfl rfl (by unfold vp_in; decide) dL_lead_9 (fun H locs hP hD hS => ?_)
      have hw : mg_Wo D A s.heap H locs ((mg_cW g cI cZ σ9) ++ (mg_oc q cL (mg_of (.ok v) f))) := ⟨hP, hD, hS⟩
      refine lv_goto (tgt := 17) hx hb dL_lead_10 (by decide) ?_
      refine lv_iconst (v := 0) hx hb dL_lead_17 (by decide) ?_
      exact vx_ret (mg_eI hx hb hr hlocks hw (Nat.le_of_ble_eq_true rfl) (Nat.le_of_ble_eq_true rfl) dL_lead_18)
set_option maxHeartbeats 4000000 in
set_option maxRecDepth 100000 in
theorem k_L_lines (l : Launch) (hst : l.stackTraces = false) (D : va_G) (o : Nat → Nat) (cI cZ cL : ClassId) (g : Nat → Nat) (q : Nat) (sz : Nat) (σ : mg_St) (f : Nat → Int64) (x1 : Int32) (out : Except (Fin 3) Int32) (σ9 : mg_St) (h : f_X6_lines σ x1 = some (out, σ9)) (hk1 : out ≠ .error 1) (hk2 : out ≠ .error 2) : mg_CT l yL_lines wsL_lines ({ frames := 8, cells := 1, slots := 6, locals := 132 } : Room) D [(cI, .int), (cZ, .boolean), (cL, .long)] o ((mg_cW g cI cZ σ) ++ (mg_oc q cL f)) sz [.ref (g 0), .int x1, .ref q] (some (.int (mg_cd 1 9 9 out))) ((mg_cW g cI cZ σ9) ++ (mg_oc q cL (mg_of out f))) 1 6 := by
  unfold mg_CT
  refine mg_ofX (vx_ofWH (cc := cL_lines) (maxL := 4) (ret := some .int) (hh := [(0, 9, 12, 13)]) (by decide) rfl ?_)
  intro p e s m args below meth c s₁ B hml hv
  obtain ⟨rfl, hsz, hP, hK, hD0, hO⟩ := hv
  have hx := B.exec
  have hb := B.bytes
  have hr := B.returns
  have hts := atoms_spec (ws := wsL_lines) B.pre
  have hown : s.vm.findClass RL = some m.cls := findClass_of_methodNamed B.named
  have hlocks := B.notSynchronized
  have htab := vx_table (x := yL_rock) B (hts _ List.mem_cons_self)
  subst hsz
  have hD := hD0.self (sz := s.heap.size)
  generalize hAe : va_A ((mg_cW g cI cZ σ) ++ (mg_oc q cL f)) s.heap.size = A at hD hO ⊢
  have hA : ∀ q : Nat, s.heap.size ≤ q → A q := fun q h => by rw [← hAe]; exact Or.inr h
  have hw : mg_Wo D A s.heap s.heap [] ((mg_cW g cI cZ σ) ++ (mg_oc q cL f)) := ⟨hP, hD, va_S.rf⟩
  have G9 : CallFix p m c cL_lines 4 s ([.ref (g 0), .int x1, .ref q] : List Value).toArray wsL_lines RL := ⟨hx, hb, hml, hown, hts⟩
  clear hP hD hD0 hAe
  have hl := lv_entry ([.ref (g 0), .int x1, .ref q]) (n := 4) (Nat.le_of_ble_eq_true rfl)
  rw [lg_entry_eq]
  generalize (lg_sl ([.ref (g 0), .int x1, .ref q]) ++ List.replicate (4 - (lg_sl ([.ref (g 0), .int x1, .ref q])).length) Slot.unset).toArray = ls at hl ⊢
  have hl : lv_has ls 4 [(0, .ref (g 0)), (1, .int x1), (2, .ref q)] := hl
  refine lv_aload_n hx hb dL_lines_0 rfl (lv_at hl 2 rfl) ?_
  refine lv_iconst (v := 0) hx hb dL_lines_1 (by decide) ?_
  refine lv_aload_n hx hb dL_lines_2 rfl (lv_at hl 0 rfl) ?_
  refine lv_iload_n hx hb dL_lines_3 rfl (lv_at hl 1 rfl) ?_
  refine mg_kxF (wl := []) (w0 := (mg_cW g cI cZ σ)) (wr := (mg_oc q cL f)) (w1 := (mg_cW g cI cZ σ9)) (out := Except.map (fun v : Int32 => some (.int v)) out) (vx_runV (As := [.int x1]) (rest := [.int 0, .ref q]) G9 (k_X6_lines l hst D o cI cZ g s.heap.size σ x1 out σ9 h 1 6 (fun _ _ => ⟨Nat.le_refl _, Nat.le_refl _⟩)) (cwV 1 hts gL_lines_X6_lines rfl rfl rfl (by decide +kernel) ⟨Nat.le_of_ble_eq_true rfl, Nat.le_of_ble_eq_true rfl⟩) (mg_preV (hK.sub (tys' := [(cI, .int), (cZ, .boolean)]) [0, 1] rfl) hO hA (mg_sub (wl := []) (w0 := (mg_cW g cI cZ σ)) hw) (q0 := 0) rfl rfl) rfl rfl hl.1 rfl (lv_room (Nat.le_of_ble_eq_true rfl)) dL_lines_4 ⟨Nat.le_of_ble_eq_true rfl, Nat.le_of_ble_eq_true rfl⟩) hw hA (fun k hk_ H locs q9 ce hw a1 a2 a3 => ?_) (fun rv hrv H locs hw => ?_)
  · cases out with
    | ok v => cases hk_
    | error k9 =>
      cases hk_
      rcases mg_fin3 k with rfl | rfl | rfl
      · refine vx_catch (own := RL) (name := "java/lang/IndexOutOfBoundsException") (E := mg_xn 0) hown [] ⟨0, 9, 12, 13⟩ [] (htab.trans rfl) (fun _ h_ => nomatch h_) rfl (by decide) (hts (.classLink RL 13 "java/lang/IndexOutOfBoundsException") (by decide +kernel)) (va_Nw.use rfl (hO.2.2.2.2.2.2.2.2.2.2.2.2.2.2.2.2.2.2.2.1)) a1 a2 a3 ?_
        refine lv_astore_n (lv' := [(3, .ref q9), (0, .ref (g 0)), (1, .int x1), (2, .ref q)]) hx hb dL_lines_12 rfl hl (by decide) rfl (fun ls hl => ?_)
        refine lv_iconst (v := 1) hx hb dL_lines_13 (by decide) ?_
        exact vx_ret (mg_eI (w1 := (mg_cW g cI cZ σ9) ++ (mg_oc q cL (mg_of (.error 0) f))) hx hb hr hlocks hw (Nat.le_of_ble_eq_true rfl) (Nat.le_of_ble_eq_true rfl) dL_lines_14)
      · exact absurd rfl hk1
      · exact absurd rfl hk2
  · cases out with
    | error k9 => cases hrv
    | ok v =>
      cases hrv
      refine lv_i2l hx hb dL_lines_7 rfl ?_
      refine va_last hx hb hK hw.1 hw.2.1 hw.2.2 25 2 rfl rfl (by unfold vp_in; decide) dL_lines_8 (fun H locs hP hD hS => ?_)
      have hw : mg_Wo D A s.heap H locs ((mg_cW g cI cZ σ9) ++ (mg_oc q cL (mg_of (.ok v) f))) := ⟨hP, hD, hS⟩
      refine lv_goto (tgt := 15) hx hb dL_lines_9 (by decide) ?_
      refine lv_iconst (v := 0) hx hb dL_lines_15 (by decide) ?_
      exact vx_ret (mg_eI hx hb hr hlocks hw (Nat.le_of_ble_eq_true rfl) (Nat.le_of_ble_eq_true rfl) dL_lines_16)
set_option maxHeartbeats 4000000 in
set_option maxRecDepth 100000 in
theorem k_L_count (l : Launch) (hst : l.stackTraces = false) (D : va_G) (o : Nat → Nat) (cI cZ cL : ClassId) (g : Nat → Nat) (q : Nat) (sz : Nat) (σ : mg_St) (f : Nat → Int64) (x1 : Int32) (out : Except (Fin 3) Int32) (σ9 : mg_St) (h : f_X6_count σ x1 = some (out, σ9)) (hk1 : out ≠ .error 1) (hk2 : out ≠ .error 2) : mg_CT l yL_count wsL_count ({ frames := 8, cells := 1, slots := 6, locals := 133 } : Room) D [(cI, .int), (cZ, .boolean), (cL, .long)] o ((mg_cW g cI cZ σ) ++ (mg_oc q cL f)) sz [.ref (g 0), .int x1, .ref q] (some (.int (mg_cd 1 9 9 out))) ((mg_cW g cI cZ σ9) ++ (mg_oc q cL (mg_of out f))) 1 6 := by
  unfold mg_CT
  refine mg_ofX (vx_ofWH (cc := cL_count) (maxL := 4) (ret := some .int) (hh := [(0, 9, 12, 13)]) (by decide) rfl ?_)
  intro p e s m args below meth c s₁ B hml hv
  obtain ⟨rfl, hsz, hP, hK, hD0, hO⟩ := hv
  have hx := B.exec
  have hb := B.bytes
  have hr := B.returns
  have hts := atoms_spec (ws := wsL_count) B.pre
  have hown : s.vm.findClass RL = some m.cls := findClass_of_methodNamed B.named
  have hlocks := B.notSynchronized
  have htab := vx_table (x := yL_rock) B (hts _ List.mem_cons_self)
  subst hsz
  have hD := hD0.self (sz := s.heap.size)
  generalize hAe : va_A ((mg_cW g cI cZ σ) ++ (mg_oc q cL f)) s.heap.size = A at hD hO ⊢
  have hA : ∀ q : Nat, s.heap.size ≤ q → A q := fun q h => by rw [← hAe]; exact Or.inr h
  have hw : mg_Wo D A s.heap s.heap [] ((mg_cW g cI cZ σ) ++ (mg_oc q cL f)) := ⟨hP, hD, va_S.rf⟩
  have G9 : CallFix p m c cL_count 4 s ([.ref (g 0), .int x1, .ref q] : List Value).toArray wsL_count RL := ⟨hx, hb, hml, hown, hts⟩
  clear hP hD hD0 hAe
  have hl := lv_entry ([.ref (g 0), .int x1, .ref q]) (n := 4) (Nat.le_of_ble_eq_true rfl)
  rw [lg_entry_eq]
  generalize (lg_sl ([.ref (g 0), .int x1, .ref q]) ++ List.replicate (4 - (lg_sl ([.ref (g 0), .int x1, .ref q])).length) Slot.unset).toArray = ls at hl ⊢
  have hl : lv_has ls 4 [(0, .ref (g 0)), (1, .int x1), (2, .ref q)] := hl
  refine lv_aload_n hx hb dL_count_0 rfl (lv_at hl 2 rfl) ?_
  refine lv_iconst (v := 0) hx hb dL_count_1 (by decide) ?_
  refine lv_aload_n hx hb dL_count_2 rfl (lv_at hl 0 rfl) ?_
  refine lv_iload_n hx hb dL_count_3 rfl (lv_at hl 1 rfl) ?_
  refine mg_kxF (wl := []) (w0 := (mg_cW g cI cZ σ)) (wr := (mg_oc q cL f)) (w1 := (mg_cW g cI cZ σ9)) (out := Except.map (fun v : Int32 => some (.int v)) out) (vx_runV (As := [.int x1]) (rest := [.int 0, .ref q]) G9 (k_X6_count l hst D o cI cZ g s.heap.size σ x1 out σ9 h 1 6 (fun _ _ => ⟨Nat.le_refl _, Nat.le_refl _⟩)) (cwV 1 hts gL_count_X6_count rfl rfl rfl (by decide +kernel) ⟨Nat.le_of_ble_eq_true rfl, Nat.le_of_ble_eq_true rfl⟩) (mg_preV (hK.sub (tys' := [(cI, .int), (cZ, .boolean)]) [0, 1] rfl) hO hA (mg_sub (wl := []) (w0 := (mg_cW g cI cZ σ)) hw) (q0 := 0) rfl rfl) rfl rfl hl.1 rfl (lv_room (Nat.le_of_ble_eq_true rfl)) dL_count_4 ⟨Nat.le_of_ble_eq_true rfl, Nat.le_of_ble_eq_true rfl⟩) hw hA (fun k hk_ H locs q9 ce hw a1 a2 a3 => ?_) (fun rv hrv H locs hw => ?_)
  · cases out with
    | ok v => cases hk_
    | error k9 =>
      cases hk_
      rcases mg_fin3 k with rfl | rfl | rfl
      · refine vx_catch (own := RL) (name := "java/lang/IndexOutOfBoundsException") (E := mg_xn 0) hown [] ⟨0, 9, 12, 13⟩ [] (htab.trans rfl) (fun _ h_ => nomatch h_) rfl (by decide) (hts (.classLink RL 13 "java/lang/IndexOutOfBoundsException") (by decide +kernel)) (va_Nw.use rfl (hO.2.2.2.2.2.2.2.2.2.2.2.2.2.2.2.2.2.2.2.1)) a1 a2 a3 ?_
        refine lv_astore_n (lv' := [(3, .ref q9), (0, .ref (g 0)), (1, .int x1), (2, .ref q)]) hx hb dL_count_12 rfl hl (by decide) rfl (fun ls hl => ?_)
        refine lv_iconst (v := 1) hx hb dL_count_13 (by decide) ?_
        exact vx_ret (mg_eI (w1 := (mg_cW g cI cZ σ9) ++ (mg_oc q cL (mg_of (.error 0) f))) hx hb hr hlocks hw (Nat.le_of_ble_eq_true rfl) (Nat.le_of_ble_eq_true rfl) dL_count_14)
      · exact absurd rfl hk1
      · exact absurd rfl hk2
  · cases out with
    | error k9 => cases hrv
    | ok v =>
      cases hrv
      refine lv_i2l hx hb dL_count_7 rfl ?_
      refine va_last hx hb hK hw.1 hw.2.1 hw.2.2 25 2 rfl rfl (by unfold vp_in; decide) dL_count_8 (fun H locs hP hD hS => ?_)
      have hw : mg_Wo D A s.heap H locs ((mg_cW g cI cZ σ9) ++ (mg_oc q cL (mg_of (.ok v) f))) := ⟨hP, hD, hS⟩
      refine lv_goto (tgt := 15) hx hb dL_count_9 (by decide) ?_
      refine lv_iconst (v := 0) hx hb dL_count_15 (by decide) ?_
      exact vx_ret (mg_eI hx hb hr hlocks hw (Nat.le_of_ble_eq_true rfl) (Nat.le_of_ble_eq_true rfl) dL_count_16)
set_option maxHeartbeats 4000000 in
set_option maxRecDepth 100000 in
theorem k_L_pass (l : Launch) (hst : l.stackTraces = false) (D : va_G) (o : Nat → Nat) (cI cZ cL : ClassId) (g : Nat → Nat) (q : Nat) (sz : Nat) (σ : mg_St) (f : Nat → Int64) (x1 : Int32) (out : Except (Fin 3) Int32) (σ9 : mg_St) (h : f_X6_pass σ x1 = some (out, σ9)) (hk0 : out ≠ .error 0) (hk2 : out ≠ .error 2) : mg_CT l yL_pass wsL_pass ({ frames := 8, cells := 1, slots := 6, locals := 164 } : Room) D [(cI, .int), (cZ, .boolean), (cL, .long)] o ((mg_cW g cI cZ σ) ++ (mg_oc q cL f)) sz [.ref (g 0), .int x1, .ref q] (some (.int (mg_cd 9 1 9 out))) ((mg_cW g cI cZ σ9) ++ (mg_oc q cL (mg_of out f))) 1 6 := by
  unfold mg_CT
  refine mg_ofX (vx_ofWH (cc := cL_pass) (maxL := 4) (ret := some .int) (hh := [(0, 9, 12, 15)]) (by decide) rfl ?_)
  intro p e s m args below meth c s₁ B hml hv
  obtain ⟨rfl, hsz, hP, hK, hD0, hO⟩ := hv
  have hx := B.exec
  have hb := B.bytes
  have hr := B.returns
  have hts := atoms_spec (ws := wsL_pass) B.pre
  have hown : s.vm.findClass RL = some m.cls := findClass_of_methodNamed B.named
  have hlocks := B.notSynchronized
  have htab := vx_table (x := yL_rock) B (hts _ List.mem_cons_self)
  subst hsz
  have hD := hD0.self (sz := s.heap.size)
  generalize hAe : va_A ((mg_cW g cI cZ σ) ++ (mg_oc q cL f)) s.heap.size = A at hD hO ⊢
  have hA : ∀ q : Nat, s.heap.size ≤ q → A q := fun q h => by rw [← hAe]; exact Or.inr h
  have hw : mg_Wo D A s.heap s.heap [] ((mg_cW g cI cZ σ) ++ (mg_oc q cL f)) := ⟨hP, hD, va_S.rf⟩
  have G9 : CallFix p m c cL_pass 4 s ([.ref (g 0), .int x1, .ref q] : List Value).toArray wsL_pass RL := ⟨hx, hb, hml, hown, hts⟩
  clear hP hD hD0 hAe
  have hl := lv_entry ([.ref (g 0), .int x1, .ref q]) (n := 4) (Nat.le_of_ble_eq_true rfl)
  rw [lg_entry_eq]
  generalize (lg_sl ([.ref (g 0), .int x1, .ref q]) ++ List.replicate (4 - (lg_sl ([.ref (g 0), .int x1, .ref q])).length) Slot.unset).toArray = ls at hl ⊢
  have hl : lv_has ls 4 [(0, .ref (g 0)), (1, .int x1), (2, .ref q)] := hl
  refine lv_aload_n hx hb dL_pass_0 rfl (lv_at hl 2 rfl) ?_
  refine lv_iconst (v := 0) hx hb dL_pass_1 (by decide) ?_
  refine lv_aload_n hx hb dL_pass_2 rfl (lv_at hl 0 rfl) ?_
  refine lv_iload_n hx hb dL_pass_3 rfl (lv_at hl 1 rfl) ?_
  refine mg_kxF (wl := []) (w0 := (mg_cW g cI cZ σ)) (wr := (mg_oc q cL f)) (w1 := (mg_cW g cI cZ σ9)) (out := Except.map (fun v : Int32 => some (.int v)) out) (vx_runV (As := [.int x1]) (rest := [.int 0, .ref q]) G9 (k_X6_pass l hst D o cI cZ g s.heap.size σ x1 out σ9 h 1 6 (fun _ _ => ⟨Nat.le_refl _, Nat.le_refl _⟩)) (cwV 1 hts gL_pass_X6_pass rfl rfl rfl (by decide +kernel) ⟨Nat.le_of_ble_eq_true rfl, Nat.le_of_ble_eq_true rfl⟩) (mg_preV (hK.sub (tys' := [(cI, .int), (cZ, .boolean)]) [0, 1] rfl) hO hA (mg_sub (wl := []) (w0 := (mg_cW g cI cZ σ)) hw) (q0 := 0) rfl rfl) rfl rfl hl.1 rfl (lv_room (Nat.le_of_ble_eq_true rfl)) dL_pass_4 ⟨Nat.le_of_ble_eq_true rfl, Nat.le_of_ble_eq_true rfl⟩) hw hA (fun k hk_ H locs q9 ce hw a1 a2 a3 => ?_) (fun rv hrv H locs hw => ?_)
  · cases out with
    | ok v => cases hk_
    | error k9 =>
      cases hk_
      rcases mg_fin3 k with rfl | rfl | rfl
      · exact absurd rfl hk0
      · refine vx_catch (own := RL) (name := "java/lang/IllegalArgumentException") (E := mg_xn 1) hown [] ⟨0, 9, 12, 15⟩ [] (htab.trans rfl) (fun _ h_ => nomatch h_) rfl (by decide) (hts (.classLink RL 15 "java/lang/IllegalArgumentException") (by decide +kernel)) (va_Nw.use rfl (hO.2.2.2.2.2.2.2.2.2.2.2.2.2.2.2.2.2.2.2.2.1)) a1 a2 a3 ?_
        refine lv_astore_n (lv' := [(3, .ref q9), (0, .ref (g 0)), (1, .int x1), (2, .ref q)]) hx hb dL_pass_12 rfl hl (by decide) rfl (fun ls hl => ?_)
        refine lv_iconst (v := 1) hx hb dL_pass_13 (by decide) ?_
        exact vx_ret (mg_eI (w1 := (mg_cW g cI cZ σ9) ++ (mg_oc q cL (mg_of (.error 1) f))) hx hb hr hlocks hw (Nat.le_of_ble_eq_true rfl) (Nat.le_of_ble_eq_true rfl) dL_pass_14)
      · exact absurd rfl hk2
  · cases out with
    | error k9 => cases hrv
    | ok v =>
      cases hrv
      refine lv_i2l hx hb dL_pass_7 rfl ?_
      refine va_last hx hb hK hw.1 hw.2.1 hw.2.2 25 2 rfl rfl (by unfold vp_in; decide) dL_pass_8 (fun H locs hP hD hS => ?_)
      have hw : mg_Wo D A s.heap H locs ((mg_cW g cI cZ σ9) ++ (mg_oc q cL (mg_of (.ok v) f))) := ⟨hP, hD, hS⟩
      refine lv_goto (tgt := 15) hx hb dL_pass_9 (by decide) ?_
      refine lv_iconst (v := 0) hx hb dL_pass_15 (by decide) ?_
      exact vx_ret (mg_eI hx hb hr hlocks hw (Nat.le_of_ble_eq_true rfl) (Nat.le_of_ble_eq_true rfl) dL_pass_16)
set_option maxHeartbeats 4000000 in
set_option maxRecDepth 100000 in
theorem k_L_foresee (l : Launch) (hst : l.stackTraces = false) (D : va_G) (o : Nat → Nat) (cI cZ cL : ClassId) (g : Nat → Nat) (q : Nat) (sz : Nat) (σ : mg_St) (f : Nat → Int64) (x1 x2 : Int32) (out : Except (Fin 3) Int32) (σ9 : mg_St) (h : f_X6_foresee σ x1 x2 = some (out, σ9)) (hk2 : out ≠ .error 2) : mg_CT l yL_foresee wsL_foresee ({ frames := 8, cells := 1, slots := 6, locals := 165 } : Room) D [(cI, .int), (cZ, .boolean), (cL, .long)] o ((mg_cW g cI cZ σ) ++ (mg_oc q cL f)) sz [.ref (g 0), .int x1, .int x2, .ref q] (some (.int (mg_cd 2 1 9 out))) ((mg_cW g cI cZ σ9) ++ (mg_oc q cL (mg_of out f))) 1 6 := by
  unfold mg_CT
  refine mg_ofX (vx_ofWH (cc := cL_foresee) (maxL := 5) (ret := some .int) (hh := [(0, 10, 13, 15), (0, 10, 17, 13)]) (by decide) rfl ?_)
  intro p e s m args below meth c s₁ B hml hv
  obtain ⟨rfl, hsz, hP, hK, hD0, hO⟩ := hv
  have hx := B.exec
  have hb := B.bytes
  have hr := B.returns
  have hts := atoms_spec (ws := wsL_foresee) B.pre
  have hown : s.vm.findClass RL = some m.cls := findClass_of_methodNamed B.named
  have hlocks := B.notSynchronized
  have htab := vx_table (x := yL_rock) B (hts _ List.mem_cons_self)
  subst hsz
  have hD := hD0.self (sz := s.heap.size)
  generalize hAe : va_A ((mg_cW g cI cZ σ) ++ (mg_oc q cL f)) s.heap.size = A at hD hO ⊢
  have hA : ∀ q : Nat, s.heap.size ≤ q → A q := fun q h => by rw [← hAe]; exact Or.inr h
  have hw : mg_Wo D A s.heap s.heap [] ((mg_cW g cI cZ σ) ++ (mg_oc q cL f)) := ⟨hP, hD, va_S.rf⟩
  have G9 : CallFix p m c cL_foresee 5 s ([.ref (g 0), .int x1, .int x2, .ref q] : List Value).toArray wsL_foresee RL := ⟨hx, hb, hml, hown, hts⟩
  clear hP hD hD0 hAe
  have hl := lv_entry ([.ref (g 0), .int x1, .int x2, .ref q]) (n := 5) (Nat.le_of_ble_eq_true rfl)
  rw [lg_entry_eq]
  generalize (lg_sl ([.ref (g 0), .int x1, .int x2, .ref q]) ++ List.replicate (5 - (lg_sl ([.ref (g 0), .int x1, .int x2, .ref q])).length) Slot.unset).toArray = ls at hl ⊢
  have hl : lv_has ls 5 [(0, .ref (g 0)), (1, .int x1), (2, .int x2), (3, .ref q)] := hl
  refine lv_aload_n hx hb dL_foresee_0 rfl (lv_at hl 3 rfl) ?_
  refine lv_iconst (v := 0) hx hb dL_foresee_1 (by decide) ?_
  refine lv_aload_n hx hb dL_foresee_2 rfl (lv_at hl 0 rfl) ?_
  refine lv_iload_n hx hb dL_foresee_3 rfl (lv_at hl 1 rfl) ?_
  refine lv_iload_n hx hb dL_foresee_4 rfl (lv_at hl 2 rfl) ?_
  refine mg_kxF (wl := []) (w0 := (mg_cW g cI cZ σ)) (wr := (mg_oc q cL f)) (w1 := (mg_cW g cI cZ σ9)) (out := Except.map (fun v : Int32 => some (.int v)) out) (vx_runV (As := [.int x1, .int x2]) (rest := [.int 0, .ref q]) G9 (k_X6_foresee l hst D o cI cZ g s.heap.size σ x1 x2 out σ9 h 1 6 (fun _ _ => ⟨Nat.le_refl _, Nat.le_refl _⟩)) (cwV 2 hts gL_foresee_X6_foresee rfl rfl rfl (by decide +kernel) ⟨Nat.le_of_ble_eq_true rfl, Nat.le_of_ble_eq_true rfl⟩) (mg_preV (hK.sub (tys' := [(cI, .int), (cZ, .boolean)]) [0, 1] rfl) hO hA (mg_sub (wl := []) (w0 := (mg_cW g cI cZ σ)) hw) (q0 := 0) rfl rfl) rfl rfl hl.1 rfl (lv_room (Nat.le_of_ble_eq_true rfl)) dL_foresee_5 ⟨Nat.le_of_ble_eq_true rfl, Nat.le_of_ble_eq_true rfl⟩) hw hA (fun k hk_ H locs q9 ce hw a1 a2 a3 => ?_) (fun rv hrv H locs hw => ?_)
  · cases out with
    | ok v => cases hk_
    | error k9 =>
      cases hk_
      rcases mg_fin3 k with rfl | rfl | rfl
      · refine vx_catch (own := RL) (name := "java/lang/IndexOutOfBoundsException") (E := mg_xn 0) hown [⟨0, 10, 13, 15⟩] ⟨0, 10, 17, 13⟩ [] (htab.trans rfl) (List.forall_mem_cons.mpr ⟨Or.inr ⟨by decide, "java/lang/IllegalArgumentException", hts (.classLink RL 15 "java/lang/IllegalArgumentException") (by decide +kernel), hO.2.2.2.2.2.2.2.2.2.2.2.2.2.2.2.2.2.2.2.2.2.2.1⟩, (fun _ h_ => nomatch h_)⟩) rfl (by decide) (hts (.classLink RL 13 "java/lang/IndexOutOfBoundsException") (by decide +kernel)) (va_Nw.use rfl (hO.2.2.2.2.2.2.2.2.2.2.2.2.2.2.2.2.2.2.2.1)) a1 a2 a3 ?_
        refine lv_astore (lv' := [(4, .ref q9), (0, .ref (g 0)), (1, .int x1), (2, .int x2), (3, .ref q)]) hx hb dL_foresee_17 hl (by decide) rfl (fun ls hl => ?_)
        refine lv_iconst (v := 2) hx hb dL_foresee_19 (by decide) ?_
        exact vx_ret (mg_eI (w1 := (mg_cW g cI cZ σ9) ++ (mg_oc q cL (mg_of (.error 0) f))) hx hb hr hlocks hw (Nat.le_of_ble_eq_true rfl) (Nat.le_of_ble_eq_true rfl) dL_foresee_20)
      · refine vx_catch (own := RL) (name := "java/lang/IllegalArgumentException") (E := mg_xn 1) hown [] ⟨0, 10, 13, 15⟩ [⟨0, 10, 17, 13⟩] (htab.trans rfl) (fun _ h_ => nomatch h_) rfl (by decide) (hts (.classLink RL 15 "java/lang/IllegalArgumentException") (by decide +kernel)) (va_Nw.use rfl (hO.2.2.2.2.2.2.2.2.2.2.2.2.2.2.2.2.2.2.2.2.1)) a1 a2 a3 ?_
        refine lv_astore (lv' := [(4, .ref q9), (0, .ref (g 0)), (1, .int x1), (2, .int x2), (3, .ref q)]) hx hb dL_foresee_13 hl (by decide) rfl (fun ls hl => ?_)
        refine lv_iconst (v := 1) hx hb dL_foresee_15 (by decide) ?_
        exact vx_ret (mg_eI (w1 := (mg_cW g cI cZ σ9) ++ (mg_oc q cL (mg_of (.error 1) f))) hx hb hr hlocks hw (Nat.le_of_ble_eq_true rfl) (Nat.le_of_ble_eq_true rfl) dL_foresee_16)
      · exact absurd rfl hk2
  · cases out with
    | error k9 => cases hrv
    | ok v =>
      cases hrv
      refine lv_i2l hx hb dL_foresee_8 rfl ?_
      refine va_last hx hb hK hw.1 hw.2.1 hw.2.2 25 2 rfl rfl (by unfold vp_in; decide) dL_foresee_9 (fun H locs hP hD hS => ?_)
      have hw : mg_Wo D A s.heap H locs ((mg_cW g cI cZ σ9) ++ (mg_oc q cL (mg_of (.ok v) f))) := ⟨hP, hD, hS⟩
      refine lv_goto (tgt := 21) hx hb dL_foresee_10 (by decide) ?_
      refine lv_iconst (v := 0) hx hb dL_foresee_21 (by decide) ?_
      exact vx_ret (mg_eI hx hb hr hlocks hw (Nat.le_of_ble_eq_true rfl) (Nat.le_of_ble_eq_true rfl) dL_foresee_22)
set_option maxHeartbeats 4000000 in
set_option maxRecDepth 100000 in
theorem k_L_advise (l : Launch) (hst : l.stackTraces = false) (D : va_G) (o : Nat → Nat) (cI cZ cL : ClassId) (g : Nat → Nat) (q : Nat) (sz : Nat) (σ : mg_St) (f : Nat → Int64) (x1 x2 x3 : Int32) (out : Except (Fin 3) Int32) (σ9 : mg_St) (h : f_X6_advise σ x1 x2 x3 = some (out, σ9)) (hk2 : out ≠ .error 2) : mg_CT l yL_advise wsL_advise ({ frames := 8, cells := 1, slots := 6, locals := 145 } : Room) D [(cI, .int), (cZ, .boolean), (cL, .long)] o ((mg_cW g cI cZ σ) ++ (mg_oc q cL f)) sz [.ref (g 0), .int x1, .int x2, .int x3, .ref q] (some (.int (mg_cd 1 2 9 out))) ((mg_cW g cI cZ σ9) ++ (mg_oc q cL (mg_of out f))) 1 6 := by
  unfold mg_CT
  refine mg_ofX (vx_ofWH (cc := cL_advise) (maxL := 6) (ret := some .int) (hh := [(0, 12, 15, 13), (0, 12, 19, 15)]) (by decide) rfl ?_)
  intro p e s m args below meth c s₁ B hml hv
  obtain ⟨rfl, hsz, hP, hK, hD0, hO⟩ := hv
  have hx := B.exec
  have hb := B.bytes
  have hr := B.returns
  have hts := atoms_spec (ws := wsL_advise) B.pre
  have hown : s.vm.findClass RL = some m.cls := findClass_of_methodNamed B.named
  have hlocks := B.notSynchronized
  have htab := vx_table (x := yL_rock) B (hts _ List.mem_cons_self)
  subst hsz
  have hD := hD0.self (sz := s.heap.size)
  generalize hAe : va_A ((mg_cW g cI cZ σ) ++ (mg_oc q cL f)) s.heap.size = A at hD hO ⊢
  have hA : ∀ q : Nat, s.heap.size ≤ q → A q := fun q h => by rw [← hAe]; exact Or.inr h
  have hw : mg_Wo D A s.heap s.heap [] ((mg_cW g cI cZ σ) ++ (mg_oc q cL f)) := ⟨hP, hD, va_S.rf⟩
  have G9 : CallFix p m c cL_advise 6 s ([.ref (g 0), .int x1, .int x2, .int x3, .ref q] : List Value).toArray wsL_advise RL := ⟨hx, hb, hml, hown, hts⟩
  clear hP hD hD0 hAe
  have hl := lv_entry ([.ref (g 0), .int x1, .int x2, .int x3, .ref q]) (n := 6) (Nat.le_of_ble_eq_true rfl)
  rw [lg_entry_eq]
  generalize (lg_sl ([.ref (g 0), .int x1, .int x2, .int x3, .ref q]) ++ List.replicate (6 - (lg_sl ([.ref (g 0), .int x1, .int x2, .int x3, .ref q])).length) Slot.unset).toArray = ls at hl ⊢
  have hl : lv_has ls 6 [(0, .ref (g 0)), (1, .int x1), (2, .int x2), (3, .int x3), (4, .ref q)] := hl
  refine lv_aload hx hb dL_advise_0 (lv_at hl 4 rfl) ?_
  refine lv_iconst (v := 0) hx hb dL_advise_2 (by decide) ?_
  refine lv_aload_n hx hb dL_advise_3 rfl (lv_at hl 0 rfl) ?_
  refine lv_iload_n hx hb dL_advise_4 rfl (lv_at hl 1 rfl) ?_
  refine lv_iload_n hx hb dL_advise_5 rfl (lv_at hl 2 rfl) ?_
  refine lv_iload_n hx hb dL_advise_6 rfl (lv_at hl 3 rfl) ?_
  refine mg_kxF (wl := []) (w0 := (mg_cW g cI cZ σ)) (wr := (mg_oc q cL f)) (w1 := (mg_cW g cI cZ σ9)) (out := Except.map (fun v : Int32 => some (.int v)) out) (vx_runV (As := [.int x1, .int x2, .int x3]) (rest := [.int 0, .ref q]) G9 (k_X6_advise l hst D o cI cZ g s.heap.size σ x1 x2 x3 out σ9 h 1 6 (fun _ _ => ⟨Nat.le_refl _, Nat.le_refl _⟩)) (cwV 3 hts gL_advise_X6_advise rfl rfl rfl (by decide +kernel) ⟨Nat.le_of_ble_eq_true rfl, Nat.le_of_ble_eq_true rfl⟩) (mg_preV (hK.sub (tys' := [(cI, .int), (cZ, .boolean)]) [0, 1] rfl) hO hA (mg_sub (wl := []) (w0 := (mg_cW g cI cZ σ)) hw) (q0 := 0) rfl rfl) rfl rfl hl.1 rfl (lv_room (Nat.le_of_ble_eq_true rfl)) dL_advise_7 ⟨Nat.le_of_ble_eq_true rfl, Nat.le_of_ble_eq_true rfl⟩) hw hA (fun k hk_ H locs q9 ce hw a1 a2 a3 => ?_) (fun rv hrv H locs hw => ?_)
  · cases out with
    | ok v => cases hk_
    | error k9 =>
      cases hk_
      rcases mg_fin3 k with rfl | rfl | rfl
      · refine vx_catch (own := RL) (name := "java/lang/IndexOutOfBoundsException") (E := mg_xn 0) hown [] ⟨0, 12, 15, 13⟩ [⟨0, 12, 19, 15⟩] (htab.trans rfl) (fun _ h_ => nomatch h_) rfl (by decide) (hts (.classLink RL 13 "java/lang/IndexOutOfBoundsException") (by decide +kernel)) (va_Nw.use rfl (hO.2.2.2.2.2.2.2.2.2.2.2.2.2.2.2.2.2.2.2.1)) a1 a2 a3 ?_
        refine lv_astore (lv' := [(5, .ref q9), (0, .ref (g 0)), (1, .int x1), (2, .int x2), (3, .int x3), (4, .ref q)]) hx hb dL_advise_15 hl (by decide) rfl (fun ls hl => ?_)
        refine lv_iconst (v := 1) hx hb dL_advise_17 (by decide) ?_
        exact vx_ret (mg_eI (w1 := (mg_cW g cI cZ σ9) ++ (mg_oc q cL (mg_of (.error 0) f))) hx hb hr hlocks hw (Nat.le_of_ble_eq_true rfl) (Nat.le_of_ble_eq_true rfl) dL_advise_18)
      · refine vx_catch (own := RL) (name := "java/lang/IllegalArgumentException") (E := mg_xn 1) hown [⟨0, 12, 15, 13⟩] ⟨0, 12, 19, 15⟩ [] (htab.trans rfl) (List.forall_mem_cons.mpr ⟨Or.inr ⟨by decide, "java/lang/IndexOutOfBoundsException", hts (.classLink RL 13 "java/lang/IndexOutOfBoundsException") (by decide +kernel), hO.2.2.2.2.2.2.2.2.2.2.2.2.2.2.2.2.2.2.2.2.2.2.2.2.1⟩, (fun _ h_ => nomatch h_)⟩) rfl (by decide) (hts (.classLink RL 15 "java/lang/IllegalArgumentException") (by decide +kernel)) (va_Nw.use rfl (hO.2.2.2.2.2.2.2.2.2.2.2.2.2.2.2.2.2.2.2.2.1)) a1 a2 a3 ?_
        refine lv_astore (lv' := [(5, .ref q9), (0, .ref (g 0)), (1, .int x1), (2, .int x2), (3, .int x3), (4, .ref q)]) hx hb dL_advise_19 hl (by decide) rfl (fun ls hl => ?_)
        refine lv_iconst (v := 2) hx hb dL_advise_21 (by decide) ?_
        exact vx_ret (mg_eI (w1 := (mg_cW g cI cZ σ9) ++ (mg_oc q cL (mg_of (.error 1) f))) hx hb hr hlocks hw (Nat.le_of_ble_eq_true rfl) (Nat.le_of_ble_eq_true rfl) dL_advise_22)
      · exact absurd rfl hk2
  · cases out with
    | error k9 => cases hrv
    | ok v =>
      cases hrv
      refine lv_i2l hx hb dL_advise_10 rfl ?_
      refine va_last hx hb hK hw.1 hw.2.1 hw.2.2 25 2 rfl rfl (by unfold vp_in; decide) dL_advise_11 (fun H locs hP hD hS => ?_)
      have hw : mg_Wo D A s.heap H locs ((mg_cW g cI cZ σ9) ++ (mg_oc q cL (mg_of (.ok v) f))) := ⟨hP, hD, hS⟩
      refine lv_goto (tgt := 23) hx hb dL_advise_12 (by decide) ?_
      refine lv_iconst (v := 0) hx hb dL_advise_23 (by decide) ?_
      exact vx_ret (mg_eI hx hb hr hlocks hw (Nat.le_of_ble_eq_true rfl) (Nat.le_of_ble_eq_true rfl) dL_advise_24)
