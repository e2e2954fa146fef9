set_option maxHeartbeats 8000000 in
set_option maxRecDepth 100000 in
theorem k_L_law {p : Program} {l : Launch} {e : Env} {s : State} {m : MethodId} {below : List Frame} {meth : Method} {c : Code} (hst : l.stackTraces = false) (hds : mg_Hds) (D : va_G) (o : Nat → Nat) (g : Nat → Nat) {b Ln : Nat} {xs : Nat → Int32} (hx : p.tables.exec = Jvm.exec) (hb : c.code = cL_law) (hr : meth.sig.returnType = ret) (hlocks : meth.locks = false) (hml : c.maxLocals = 30) (hown : s.vm.findClass RL = some m.cls) (hts : ∀ w ∈ wsL_lawA, w.before #[Value.ref b] s = true) (hX : va_X b Ln xs s s.heap) (hbl : b < s.heap.size) (hK : va_K D vwCl (mg_Ty o) s) (hO : mg_Old o (fun q => s.heap.size ≤ q) s s.heap) (σ : mg_St) (y : Unit) (h : f_L_law xs Ln σ = some y) {H : Heap} {locs : List Loc} {ls : Array Slot} (hw : mg_Vo D (fun q => s.heap.size ≤ q) s.heap H locs [mg_fC g (o 53) (o 54) σ]) (hl : lv_has ls 30 [(1, .ref (g 0)), (0, .ref b)]) : W p l e room_1 s m #[Value.ref b] below meth c H locs 40 1000 (lw_Z below #[Value.ref b] s) (F0 m 8 ls []) := by
  obtain ⟨A, hAe⟩ : ∃ A : Nat → Prop, A = (fun q => s.heap.size ≤ q) := ⟨_, rfl⟩
  rw [← hAe] at hO hw
  have hA : ∀ q : Nat, s.heap.size ≤ q → A q := fun q h => by rw [hAe]; exact h
  have hbA : ¬ A b := by rw [hAe]; exact Nat.not_le.mpr hbl
  have G9 : CallFix p m c cL_law 30 s #[Value.ref b] wsL_lawA RL := ⟨hx, hb, hml, hown, hts⟩
  have w0_ := hts (.methodLink RL 105 Lib.Math.abs.name) (by decide +kernel)
  have w1_ := hts (.static Lib.Math.abs.name) (by decide +kernel)
  have w2_ := hts (.initialized "java/lang/Math") (by decide +kernel)
  have w3_ := hts (.code Lib.Math.abs.name Lib.Math.abs.code 1 (some .int)) (by decide +kernel)
  have w4_ := hts (.fieldLink RL 47 "MoonGateLaw$Sim" "carps" "[[I") (by decide +kernel)
  have iX7_ : ∀ w ∈ wsX70, w ∈ wsL_lawA := (fun w h => List.mem_append_left _ (inlX7 w h))
  have w6_ := hts (.arrayClass .int) (by decide +kernel)
  have w7_ := hts (.arrayClass .boolean) (by decide +kernel)
  have w8_ := hts (.methodLink RL 121 Lib.Math.max.name) (by decide +kernel)
  have w9_ := hts (.static Lib.Math.max.name) (by decide +kernel)
  have w10_ := hts (.code Lib.Math.max.name Lib.Math.max.code 2 (some .int)) (by decide +kernel)
  have w11_ := hts (.methodLink RL 137 Lib.Math.min.name) (by decide +kernel)
  have w12_ := hts (.static Lib.Math.min.name) (by decide +kernel)
  have w13_ := hts (.code Lib.Math.min.name Lib.Math.min.code 2 (some .int)) (by decide +kernel)
  have w14_ := hts (.fieldLink RL 72 "MoonGateLaw$Sim" "poets" "[[I") (by decide +kernel)
  have hd0 := Drawn.sameBut.refl s.drawn lw_cs
  have e9_ : ∀ q ∈ locs, A q.base := hw.2.2.2.2
  unfold f_L_law at h
  refine lv_aload_n hx hb dL_law_8 rfl (lv_at hl 0 rfl) ?_
  refine lv_aload_n hx hb dL_law_9 rfl (lv_at hl 1 rfl) ?_
  obtain ⟨y1, h9_, h⟩ := mg_bind h
  refine mg_callV (va_runS (As := [.ref (g 0), .ref b]) (rest := []) G9 (k_L_build l hst D o g b H.size xs Ln σ y1 h9_) (va_cwS 2 hts gA_law_build rfl rfl rfl (by decide +kernel) ⟨Nat.le_of_ble_eq_true rfl, Nat.le_of_ble_eq_true rfl⟩) (mg_preVX hK hO hA (mg_Vsub (L' := [mg_fC g (o 53) (o 54) σ]) hw [0] rfl rfl) hX hbl hbA) rfl rfl hl.1 rfl (lv_room (Nat.le_of_ble_eq_true rfl)) dL_law_10 ⟨(lw_rc (show 40 + 17858 ≤ 500000 by omega)), (lw_rs (show 1000 + 209465 ≤ 6000000 by omega))⟩) hw hA [0] [] rfl (Lr := []) rfl rfl (by decide) (fun β2 H locs hw => ?_)
  clear h9_
  have hw : mg_Vo D A s.heap H locs ([mg_fC g (o 53) (o 54) y1.1, mg_fS o (β2 9 0) β2 y1.2]) := hw
  refine lv_astore_n (lv' := [(2, .ref (β2 9 0)), (1, .ref (g 0)), (0, .ref b)]) hx hb dL_law_13 rfl hl (by decide) rfl (fun ls hl => ?_)
  refine lv_aload_n hx hb dL_law_14 rfl (lv_at hl 0 rfl) ?_
  refine lv_ifnonnull (tgt := 20) hx hb dL_law_15 (by decide) ?_
  refine lv_iconst (v := 0) hx hb dL_law_20 (by decide) ?_
  refine lv_istore_n (lv' := [(3, .int 0), (2, .ref (β2 9 0)), (1, .ref (g 0)), (0, .ref b)]) hx hb dL_law_21 rfl hl (by decide) rfl (fun ls hl => ?_)
  have L22_ : ∀ (n : Nat), ∀ (cl22_ sl22_ : Nat), cl22_ + n * 399 ≤ 34257 → sl22_ + n * 4744 ≤ 404969 → ∀ (x3_22 : Int32) (cC_22 : mg_St) (cS_22 : mg_Sz) (y22_ : Int32 × mg_St × mg_Sz), f_L_law_22 xs Ln n x3_22 cC_22 cS_22 = some y22_ → (∀ (α_ : Nat → Nat → Nat) (H : Heap) (locs : List Loc) (ls : Array Slot), mg_Vo D A s.heap H locs ([mg_fC g (o 53) (o 54) y22_.2.1, mg_fS o (β2 9 0) α_ y22_.2.2]) → lv_has ls 30 [(1, .ref (g 0)), (2, .ref (β2 9 0))] → W p l e room_1 s m #[Value.ref b] below meth c H locs 34257 404969 (lw_Z below #[Value.ref b] s) (F0 m 1399 ls [])) → ∀ (α22_ : Nat → Nat → Nat) (H : Heap) (locs : List Loc) (ls : Array Slot), mg_Vo D A s.heap H locs ([mg_fC g (o 53) (o 54) cC_22, mg_fS o (β2 9 0) α22_ cS_22]) → lv_has ls 30 [(0, .ref b), (1, .ref (g 0)), (2, .ref (β2 9 0)), (3, .int x3_22)] → W p l e room_1 s m #[Value.ref b] below meth c H locs cl22_ sl22_ (lw_Z below #[Value.ref b] s) (F0 m 22 ls []) := by
    intro n
    induction n with
    | zero => intro cl22_ sl22_ hcl22_ hsl22_ x3_22 cC_22 cS_22 y22_ h; rw [f_L_law_22] at h; cases h
    | succ n ih =>
      intro cl22_ sl22_ hcl22_ hsl22_ x3_22 cC_22 cS_22 y22_ h kc α22_ H locs ls hw hl
      rw [f_L_law_22] at h
      refine lv_iload_n hx hb dL_law_22 rfl (lv_at hl 3 rfl) ?_
      refine lv_bipush (v := 40) hx hb dL_law_23 (by decide) ?_
      refine mg_icmp_ge (tgt := 1399) hx hb h dL_law_25 (by decide) (fun h => ?_) (fun h => ?_)
      · cases h
        refine W.widen (k := 34257) (n := 404969) (by omega) (by omega) ?_
        exact kc _ H locs ls hw (lv_sub hl [1, 2] rfl)
      · refine lv_aload_n hx hb dL_law_28 rfl (lv_at hl 0 rfl) ?_
        refine lv_iload_n hx hb dL_law_29 rfl (lv_at hl 3 rfl) ?_
        refine lv_bipush (v := 16) hx hb dL_law_30 (by decide) ?_
        refine lv_irem hx hb dL_law_32 (by decide) ?_
        obtain ⟨y4, h9_, h⟩ := mg_bind h
        refine mg_callV (va_runS (As := [.ref b, .int (x3_22 - x3_22 / 16 * 16)]) (rest := []) G9 (k_L_cell l D o b H.size xs Ln (x3_22 - x3_22 / 16 * 16) y4 h9_) (va_cwS 2 hts (goodIn_up gL_law_L_cell) rfl rfl rfl (by decide +kernel) ⟨Nat.le_of_ble_eq_true rfl, Nat.le_of_ble_eq_true rfl⟩) (mg_preVX hK hO hA (mg_Vsub (L' := []) hw [] rfl rfl) hX hbl hbA) rfl rfl hl.1 rfl (lv_room (Nat.le_of_ble_eq_true rfl)) dL_law_33 ⟨(lw_rc (show cl22_ + 0 ≤ 500000 by omega)), (lw_rs (show sl22_ + 0 ≤ 6000000 by omega))⟩) hw hA [] [0, 1] rfl (Lr := [mg_fC g (o 53) (o 54) cC_22, mg_fS o (β2 9 0) α22_ cS_22]) rfl rfl (by decide) (fun β5 H locs hw => ?_)
        clear h9_
        have hw : mg_Vo D A s.heap H locs ([mg_fC g (o 53) (o 54) cC_22, mg_fS o (β2 9 0) α22_ cS_22]) := hw
        refine lv_iload_n hx hb dL_law_36 rfl (lv_at hl 3 rfl) ?_
        refine lv_bipush (v := 16) hx hb dL_law_37 (by decide) ?_
        refine lv_idiv hx hb dL_law_39 (by decide) ?_
        refine lv_iconst (v := 5) hx hb dL_law_40 (by decide) ?_
        refine lv_imul hx hb dL_law_41 ?_
        refine lv_ishr hx hb dL_law_42 ?_
        refine lv_bipush (v := 59) hx hb dL_law_43 (by decide) ?_
        refine lv_iload_n hx hb dL_law_45 rfl (lv_at hl 3 rfl) ?_
        refine lv_imul hx hb dL_law_46 ?_
        refine lv_iadd hx hb dL_law_47 ?_
        refine lv_istore (lv' := [(4, .int ((y4 >>> (((x3_22 / 16) * 5) &&& 31)) + (59 * x3_22))), (0, .ref b), (1, .ref (g 0)), (2, .ref (β2 9 0)), (3, .int x3_22)]) hx hb dL_law_48 hl (by decide) rfl (fun ls hl => ?_)
        refine lv_aload_n hx hb dL_law_50 rfl (lv_at hl 2 rfl) ?_
        refine lv_iconst (v := 2) hx hb dL_law_51 (by decide) ?_
        refine mg_vxq h (fun v : Int32 => some (.int v)) (fun mc9 ms9 o9 s9 hm9 h9 hc9 hs9 => vx_runV (As := [.int 2]) (rest := []) G9 (k_X6_count l hst D o (o 53) (o 54) g H.size cC_22 2 o9 s9 h9 mc9 ms9 hm9) (cwV 1 hts (goodIn_up gL_law_X6_count) rfl rfl rfl (by decide +kernel) ⟨Nat.le_of_ble_eq_true rfl, Nat.le_of_ble_eq_true rfl⟩) (mg_preV (hK.sub (tys' := [(o 53, .int), (o 54, .boolean)]) [0, 1] rfl) hO hA (mg_C_list hw 0 rfl) (q0 := 0) rfl rfl) rfl rfl hl.1 rfl (lv_room (Nat.le_of_ble_eq_true rfl)) dL_law_52 ⟨hc9, hs9⟩) hw hA 0 [1] rfl (Lr := [mg_fS o (β2 9 0) α22_ cS_22]) rfl rfl (by decide) (lw_rc (show cl22_ ≤ 500000 by omega)) (lw_rs (show sl22_ ≤ 6000000 by omega)) (fun v6 s7 h H locs hw => ?_)
        refine lv_istore (lv' := [(5, .int v6), (4, .int ((y4 >>> (((x3_22 / 16) * 5) &&& 31)) + (59 * x3_22))), (0, .ref b), (1, .ref (g 0)), (2, .ref (β2 9 0)), (3, .int x3_22)]) hx hb dL_law_55 hl (by decide) rfl (fun ls hl => ?_)
        refine lv_aload_n hx hb dL_law_57 rfl (lv_at hl 3 rfl) ?_
        refine lv_aload_n hx hb dL_law_58 rfl (lv_at hl 4 rfl) ?_
        refine lv_iload hx hb dL_law_59 (lv_at hl 1 rfl) ?_
        refine lv_iconst (v := 2) hx hb dL_law_61 (by decide) ?_
        refine lv_idiv hx hb dL_law_62 (by decide) ?_
        obtain ⟨y8, h9_, h⟩ := mg_bind h
        refine mg_callV (vx_runSW (As := [.ref (g 0), .ref (β2 9 0), .int (((y4 >>> (((x3_22 / 16) * 5) &&& 31)) + (59 * x3_22)) / 2)]) (rest := []) G9 (k_L_act l hst D o g (β2 9 0) α22_ H.size s7 cS_22 (((y4 >>> (((x3_22 / 16) * 5) &&& 31)) + (59 * x3_22)) / 2) y8 h9_) (vx_cwSW 3 hts (goodIn_up gL_law_L_act) rfl rfl rfl (by decide +kernel) ⟨Nat.le_of_ble_eq_true rfl, Nat.le_of_ble_eq_true rfl⟩) (mg_preVv hK hO hA (mg_Vsub (L' := [mg_fC g (o 53) (o 54) s7, mg_fS o (β2 9 0) α22_ cS_22]) hw [1, 0] rfl rfl)) rfl rfl hl.1 rfl (lv_room (Nat.le_of_ble_eq_true rfl)) dL_law_63 ⟨(lw_rc (show cl22_ + 9 ≤ 500000 by omega)), (lw_rs (show sl22_ + 83 ≤ 6000000 by omega))⟩) hw hA [1, 0] [] rfl (Lr := []) rfl rfl (by decide) (fun β9 H locs hw => ?_)
        clear h9_
        have hw : mg_Vo D A s.heap H locs ([mg_fC g (o 53) (o 54) y8.1, mg_fS o (β2 9 0) β9 y8.2]) := hw
        refine mg_if_ne (tgt := 71) hx hb h dL_law_66 (by decide) (fun h => ?_) (fun h => ?_)
        · refine lv_aload_n hx hb dL_law_71 rfl (lv_at hl 3 rfl) ?_
          refine lv_iconst (v := 2) hx hb dL_law_72 (by decide) ?_
          refine mg_vxq h (fun v : Int32 => some (.int v)) (fun mc9 ms9 o9 s9 hm9 h9 hc9 hs9 => vx_runV (As := [.int 2]) (rest := []) G9 (k_X6_count l hst D o (o 53) (o 54) g H.size y8.1 2 o9 s9 h9 mc9 ms9 hm9) (cwV 1 hts (goodIn_up gL_law_X6_count) rfl rfl rfl (by decide +kernel) ⟨Nat.le_of_ble_eq_true rfl, Nat.le_of_ble_eq_true rfl⟩) (mg_preV (hK.sub (tys' := [(o 53, .int), (o 54, .boolean)]) [0, 1] rfl) hO hA (mg_C_list hw 0 rfl) (q0 := 0) rfl rfl) rfl rfl hl.1 rfl (lv_room (Nat.le_of_ble_eq_true rfl)) dL_law_73 ⟨hc9, hs9⟩) hw hA 0 [1] rfl (Lr := [mg_fS o (β2 9 0) β9 y8.2]) rfl rfl (by decide) (lw_rc (show cl22_ + 9 ≤ 500000 by omega)) (lw_rs (show sl22_ + 83 ≤ 6000000 by omega)) (fun v10 s11 h H locs hw => ?_)
          refine mg_if_lt (tgt := 95) hx hb h dL_law_76 (by decide) (fun h => ?_) (fun h => ?_)
          · cases h
          · refine lv_aload_n hx hb dL_law_79 rfl (lv_at hl 3 rfl) ?_
            refine lv_iconst (v := 2) hx hb dL_law_80 (by decide) ?_
            refine mg_vxq h (fun v : Int32 => some (.int v)) (fun mc9 ms9 o9 s9 hm9 h9 hc9 hs9 => vx_runV (As := [.int 2]) (rest := []) G9 (k_X6_count l hst D o (o 53) (o 54) g H.size s11 2 o9 s9 h9 mc9 ms9 hm9) (cwV 1 hts (goodIn_up gL_law_X6_count) rfl rfl rfl (by decide +kernel) ⟨Nat.le_of_ble_eq_true rfl, Nat.le_of_ble_eq_true rfl⟩) (mg_preV (hK.sub (tys' := [(o 53, .int), (o 54, .boolean)]) [0, 1] rfl) hO hA (mg_C_list hw 1 rfl) (q0 := 0) rfl rfl) rfl rfl hl.1 rfl (lv_room (Nat.le_of_ble_eq_true rfl)) dL_law_81 ⟨hc9, hs9⟩) hw hA 1 [0] rfl (Lr := [mg_fS o (β2 9 0) β9 y8.2]) rfl rfl (by decide) (lw_rc (show cl22_ + 9 ≤ 500000 by omega)) (lw_rs (show sl22_ + 83 ≤ 6000000 by omega)) (fun v12 s13 h H locs hw => ?_)
            refine lv_iload hx hb dL_law_84 (lv_at hl 0 rfl) ?_
            refine lv_isub hx hb dL_law_86 ?_
            refine va_mabs hx hb (hml.trans hl.1.symm) hown w0_ w1_ w2_ w3_ (Nat.le_of_ble_eq_true rfl) (Nat.le_of_ble_eq_true rfl) (lw_rc (show cl22_ + 9 ≤ 500000 by omega)) (lw_rs (show sl22_ + 83 ≤ 6000000 by omega)) dL_law_87 ?_
            refine lv_bipush (v := 21) hx hb dL_law_90 (by decide) ?_
            refine mg_icmp_le (tgt := 97) hx hb h dL_law_92 (by decide) (fun h => ?_) (fun h => ?_)
            · refine lv_aload_n hx hb dL_law_97 rfl (lv_at hl 4 rfl) ?_
              refine va_get (D := D) (ci := 7) (v := .ref (β9 0 2)) (C := RX7) (T := TX7) (N := 6) hx hb hts iX7_ hown hK (mg_at1 hw.1 0 rfl mg_fS_00) 0 rfl rfl 3 (by decide) w4_ (fun _ h9 => h9) rfl dL_law_98 ?_
              refine mg_alenq hx hb hK hw 0 2 rfl mg_fS_02 rfl dL_law_101 ?_
              refine lv_istore (lv' := [(6, .int (nI (y8.2.2 0))), (5, .int v6), (4, .int ((y4 >>> (((x3_22 / 16) * 5) &&& 31)) + (59 * x3_22))), (0, .ref b), (1, .ref (g 0)), (2, .ref (β2 9 0)), (3, .int x3_22)]) hx hb dL_law_102 hl (by decide) rfl (fun ls hl => ?_)
              refine lv_aload_n hx hb dL_law_104 rfl (lv_at hl 4 rfl) ?_
              refine lv_bipush (v := 8) hx hb dL_law_105 (by decide) ?_
              refine mg_vxq h (fun v : Int32 => some (.int v)) (fun mc9 ms9 o9 s9 hm9 h9 hc9 hs9 => vx_runV (As := [.int 8]) (rest := []) G9 (k_X6_count l hst D o (o 53) (o 54) g H.size s13 8 o9 s9 h9 mc9 ms9 hm9) (cwV 1 hts (goodIn_up gL_law_X6_count) rfl rfl rfl (by decide +kernel) ⟨Nat.le_of_ble_eq_true rfl, Nat.le_of_ble_eq_true rfl⟩) (mg_preV (hK.sub (tys' := [(o 53, .int), (o 54, .boolean)]) [0, 1] rfl) hO hA (mg_C_list hw 1 rfl) (q0 := 0) rfl rfl) rfl rfl hl.1 rfl (lv_room (Nat.le_of_ble_eq_true rfl)) dL_law_107 ⟨hc9, hs9⟩) hw hA 1 [0] rfl (Lr := [mg_fS o (β2 9 0) β9 y8.2]) rfl rfl (by decide) (lw_rc (show cl22_ + 9 ≤ 500000 by omega)) (lw_rs (show sl22_ + 83 ≤ 6000000 by omega)) (fun v14 s15 h H locs hw => ?_)
              refine lv_istore (lv' := [(7, .int v14), (6, .int (nI (y8.2.2 0))), (5, .int v6), (4, .int ((y4 >>> (((x3_22 / 16) * 5) &&& 31)) + (59 * x3_22))), (0, .ref b), (1, .ref (g 0)), (2, .ref (β2 9 0)), (3, .int x3_22)]) hx hb dL_law_110 hl (by decide) rfl (fun ls hl => ?_)
              refine lv_aload_n hx hb dL_law_112 rfl (lv_at hl 5 rfl) ?_
              refine lv_bipush (v := 9) hx hb dL_law_113 (by decide) ?_
              refine mg_vxq h (fun v : Int32 => some (.int v)) (fun mc9 ms9 o9 s9 hm9 h9 hc9 hs9 => vx_runV (As := [.int 9]) (rest := []) G9 (k_X6_count l hst D o (o 53) (o 54) g H.size s15 9 o9 s9 h9 mc9 ms9 hm9) (cwV 1 hts (goodIn_up gL_law_X6_count) rfl rfl rfl (by decide +kernel) ⟨Nat.le_of_ble_eq_true rfl, Nat.le_of_ble_eq_true rfl⟩) (mg_preV (hK.sub (tys' := [(o 53, .int), (o 54, .boolean)]) [0, 1] rfl) hO hA (mg_C_list hw 1 rfl) (q0 := 0) rfl rfl) rfl rfl hl.1 rfl (lv_room (Nat.le_of_ble_eq_true rfl)) dL_law_115 ⟨hc9, hs9⟩) hw hA 1 [0] rfl (Lr := [mg_fS o (β2 9 0) β9 y8.2]) rfl rfl (by decide) (lw_rc (show cl22_ + 9 ≤ 500000 by omega)) (lw_rs (show sl22_ + 83 ≤ 6000000 by omega)) (fun v16 s17 h H locs hw => ?_)
              refine lv_istore (lv' := [(8, .int v16), (7, .int v14), (6, .int (nI (y8.2.2 0))), (5, .int v6), (4, .int ((y4 >>> (((x3_22 / 16) * 5) &&& 31)) + (59 * x3_22))), (0, .ref b), (1, .ref (g 0)), (2, .ref (β2 9 0)), (3, .int x3_22)]) hx hb dL_law_118 hl (by decide) rfl (fun ls hl => ?_)
              refine lv_iconst (v := 0) hx hb dL_law_120 (by decide) ?_
              refine lv_istore (lv' := [(9, .int 0), (8, .int v16), (7, .int v14), (6, .int (nI (y8.2.2 0))), (5, .int v6), (4, .int ((y4 >>> (((x3_22 / 16) * 5) &&& 31)) + (59 * x3_22))), (0, .ref b), (1, .ref (g 0)), (2, .ref (β2 9 0)), (3, .int x3_22)]) hx hb dL_law_121 hl (by decide) rfl (fun ls hl => ?_)
              refine lv_iconst (v := 0) hx hb dL_law_123 (by decide) ?_
              refine lv_istore (lv' := [(10, .int 0), (9, .int 0), (8, .int v16), (7, .int v14), (6, .int (nI (y8.2.2 0))), (5, .int v6), (4, .int ((y4 >>> (((x3_22 / 16) * 5) &&& 31)) + (59 * x3_22))), (0, .ref b), (1, .ref (g 0)), (2, .ref (β2 9 0)), (3, .int x3_22)]) hx hb dL_law_124 hl (by decide) rfl (fun ls hl => ?_)
              refine lv_iconst (v := 0) hx hb dL_law_126 (by decide) ?_
              refine lv_istore (lv' := [(11, .int 0), (10, .int 0), (9, .int 0), (8, .int v16), (7, .int v14), (6, .int (nI (y8.2.2 0))), (5, .int v6), (4, .int ((y4 >>> (((x3_22 / 16) * 5) &&& 31)) + (59 * x3_22))), (0, .ref b), (1, .ref (g 0)), (2, .ref (β2 9 0)), (3, .int x3_22)]) hx hb dL_law_127 hl (by decide) rfl (fun ls hl => ?_)
              refine lv_iconst (v := 0) hx hb dL_law_129 (by decide) ?_
              refine lv_istore (lv' := [(12, .int 0), (11, .int 0), (10, .int 0), (9, .int 0), (8, .int v16), (7, .int v14), (6, .int (nI (y8.2.2 0))), (5, .int v6), (4, .int ((y4 >>> (((x3_22 / 16) * 5) &&& 31)) + (59 * x3_22))), (0, .ref b), (1, .ref (g 0)), (2, .ref (β2 9 0)), (3, .int x3_22)]) hx hb dL_law_130 hl (by decide) rfl (fun ls hl => ?_)
              have L132_ : ∀ (n : Nat), ∀ (x9_132 : Int32) (x10_132 : Int32) (x12_132 : Int32) (cC_132 : mg_St) (y132_ : Int32 × Int32 × Int32 × mg_St), f_L_law_132 xs Ln x3_22 ((y4 >>> (((x3_22 / 16) * 5) &&& 31)) + (59 * x3_22)) (nI (y8.2.2 0)) v14 v16 0 y8.2 n x9_132 x10_132 x12_132 cC_132 = some y132_ → (∀ (H : Heap) (locs : List Loc) (ls : Array Slot), mg_Vo D A s.heap H locs ([mg_fS o (β2 9 0) β9 y8.2, mg_fC g (o 53) (o 54) y132_.2.2.2]) → lv_has ls 30 [(0, .ref b), (1, .ref (g 0)), (2, .ref (β2 9 0)), (3, .int x3_22), (4, .int ((y4 >>> (((x3_22 / 16) * 5) &&& 31)) + (59 * x3_22))), (6, .int (nI (y8.2.2 0))), (7, .int v14), (8, .int v16), (9, .int y132_.1), (10, .int y132_.2.1), (11, .int 0)] → W p l e room_1 s m #[Value.ref b] below meth c H locs (cl22_ + 9) (sl22_ + 83) (lw_Z below #[Value.ref b] s) (F0 m 457 ls [])) → ∀ (H : Heap) (locs : List Loc) (ls : Array Slot), mg_Vo D A s.heap H locs ([mg_fS o (β2 9 0) β9 y8.2, mg_fC g (o 53) (o 54) cC_132]) → lv_has ls 30 [(0, .ref b), (1, .ref (g 0)), (2, .ref (β2 9 0)), (3, .int x3_22), (4, .int ((y4 >>> (((x3_22 / 16) * 5) &&& 31)) + (59 * x3_22))), (6, .int (nI (y8.2.2 0))), (7, .int v14), (8, .int v16), (9, .int x9_132), (10, .int x10_132), (11, .int 0), (12, .int x12_132)] → W p l e room_1 s m #[Value.ref b] below meth c H locs (cl22_ + 9) (sl22_ + 83) (lw_Z below #[Value.ref b] s) (F0 m 132 ls []) := by
                intro n
                induction n with
                | zero => intro x9_132 x10_132 x12_132 cC_132 y132_ h; rw [f_L_law_132] at h; cases h
                | succ n ih =>
                  intro x9_132 x10_132 x12_132 cC_132 y132_ h kc H locs ls hw hl
                  rw [f_L_law_132] at h
                  refine lv_iload hx hb dL_law_132 (lv_at hl 11 rfl) ?_
                  refine lv_bipush (v := 7) hx hb dL_law_134 (by decide) ?_
                  refine mg_icmp_ge (tgt := 457) hx hb h dL_law_136 (by decide) (fun h => ?_) (fun h => ?_)
                  · cases h
                    exact kc H locs ls hw (lv_sub hl [0, 1, 2, 3, 4, 5, 6, 7, 8, 9, 10] rfl)
                  · refine lv_iconst (v := 0) hx hb dL_law_139 (by decide) ?_
                    refine lv_istore (lv' := [(13, .int 0), (0, .ref b), (1, .ref (g 0)), (2, .ref (β2 9 0)), (3, .int x3_22), (4, .int ((y4 >>> (((x3_22 / 16) * 5) &&& 31)) + (59 * x3_22))), (6, .int (nI (y8.2.2 0))), (7, .int v14), (8, .int v16), (9, .int x9_132), (10, .int x10_132), (11, .int 0), (12, .int x12_132)]) hx hb dL_law_140 hl (by decide) rfl (fun ls hl => ?_)
                    have L142_ : ∀ (n : Nat), ∀ (x9_142 : Int32) (x10_142 : Int32) (x13_142 : Int32) (cC_142 : mg_St) (y142_ : Int32 × Int32 × Int32 × mg_St), f_L_law_142 xs Ln x3_22 ((y4 >>> (((x3_22 / 16) * 5) &&& 31)) + (59 * x3_22)) (nI (y8.2.2 0)) v14 v16 0 x12_132 y8.2 n x9_142 x10_142 x13_142 cC_142 = some y142_ → (∀ (H : Heap) (locs : List Loc) (ls : Array Slot), mg_Vo D A s.heap H locs ([mg_fS o (β2 9 0) β9 y8.2, mg_fC g (o 53) (o 54) y142_.2.2.2]) → lv_has ls 30 [(0, .ref b), (1, .ref (g 0)), (2, .ref (β2 9 0)), (3, .int x3_22), (4, .int ((y4 >>> (((x3_22 / 16) * 5) &&& 31)) + (59 * x3_22))), (6, .int (nI (y8.2.2 0))), (7, .int v14), (8, .int v16), (9, .int y142_.1), (10, .int y142_.2.1), (11, .int 0), (12, .int x12_132)] → W p l e room_1 s m #[Value.ref b] below meth c H locs (cl22_ + 9) (sl22_ + 83) (lw_Z below #[Value.ref b] s) (F0 m 451 ls [])) → ∀ (H : Heap) (locs : List Loc) (ls : Array Slot), mg_Vo D A s.heap H locs ([mg_fS o (β2 9 0) β9 y8.2, mg_fC g (o 53) (o 54) cC_142]) → lv_has ls 30 [(0, .ref b), (1, .ref (g 0)), (2, .ref (β2 9 0)), (3, .int x3_22), (4, .int ((y4 >>> (((x3_22 / 16) * 5) &&& 31)) + (59 * x3_22))), (6, .int (nI (y8.2.2 0))), (7, .int v14), (8, .int v16), (9, .int x9_142), (10, .int x10_142), (11, .int 0), (12, .int x12_132), (13, .int x13_142)] → W p l e room_1 s m #[Value.ref b] below meth c H locs (cl22_ + 9) (sl22_ + 83) (lw_Z below #[Value.ref b] s) (F0 m 142 ls []) := by
                      intro n
                      induction n with
                      | zero => intro x9_142 x10_142 x13_142 cC_142 y142_ h; rw [f_L_law_142] at h; cases h
                      | succ n ih =>
                        intro x9_142 x10_142 x13_142 cC_142 y142_ h kc H locs ls hw hl
                        rw [f_L_law_142] at h
                        refine lv_iload hx hb dL_law_142 (lv_at hl 12 rfl) ?_
                        refine lv_bipush (v := 10) hx hb dL_law_144 (by decide) ?_
                        refine mg_icmp_ge (tgt := 451) hx hb h dL_law_146 (by decide) (fun h => ?_) (fun h => ?_)
                        · cases h
                          exact kc H locs ls hw (lv_sub hl [0, 1, 2, 3, 4, 5, 6, 7, 8, 9, 10, 11] rfl)
                        · refine lv_aload_n hx hb dL_law_149 rfl (lv_at hl 1 rfl) ?_
                          refine lv_iload hx hb dL_law_150 (lv_at hl 12 rfl) ?_
                          refine lv_iload hx hb dL_law_152 (lv_at hl 11 rfl) ?_
                          refine lv_iconst (v := 0) hx hb dL_law_154 (by decide) ?_
                          refine mg_vxq h (fun v : Int32 => some (.int v)) (fun mc9 ms9 o9 s9 hm9 h9 hc9 hs9 => vx_runV (As := [.int x13_142, .int x12_132, .int 0]) (rest := []) G9 (k_X6_cell l hst D o (o 53) (o 54) g H.size cC_142 x13_142 x12_132 0 o9 s9 h9 mc9 ms9 hm9) (cwV 3 hts (goodIn_up gL_law_X6_cell) rfl rfl rfl (by decide +kernel) ⟨Nat.le_of_ble_eq_true rfl, Nat.le_of_ble_eq_true rfl⟩) (mg_preV (hK.sub (tys' := [(o 53, .int), (o 54, .boolean)]) [0, 1] rfl) hO hA (mg_C_list hw 1 rfl) (q0 := 0) rfl rfl) rfl rfl hl.1 rfl (lv_room (Nat.le_of_ble_eq_true rfl)) dL_law_155 ⟨hc9, hs9⟩) hw hA 1 [0] rfl (Lr := [mg_fS o (β2 9 0) β9 y8.2]) rfl rfl (by decide) (lw_rc (show cl22_ + 9 ≤ 500000 by omega)) (lw_rs (show sl22_ + 83 ≤ 6000000 by omega)) (fun v20 s21 h H locs hw => ?_)
                          refine lv_istore (lv' := [(14, .int v20), (0, .ref b), (1, .ref (g 0)), (2, .ref (β2 9 0)), (3, .int x3_22), (4, .int ((y4 >>> (((x3_22 / 16) * 5) &&& 31)) + (59 * x3_22))), (6, .int (nI (y8.2.2 0))), (7, .int v14), (8, .int v16), (9, .int x9_142), (10, .int x10_142), (11, .int 0), (12, .int x12_132), (13, .int x13_142)]) hx hb dL_law_158 hl (by decide) rfl (fun ls hl => ?_)
                          refine lv_iload hx hb dL_law_160 (lv_at hl 9 rfl) ?_
                          refine lv_iload hx hb dL_law_162 (lv_at hl 0 rfl) ?_
                          refine lv_iconst (v := 2) hx hb dL_law_164 (by decide) ?_
                          obtain ⟨y22, h9_, h⟩ := mg_bind h
                          have J165_ : ∀ (H : Heap) (locs : List Loc) (ls : Array Slot), mg_Vo D A s.heap H locs ([mg_fS o (β2 9 0) β9 y8.2, mg_fC g (o 53) (o 54) s21]) → lv_has ls 30 [(0, .ref b), (1, .ref (g 0)), (2, .ref (β2 9 0)), (3, .int x3_22), (4, .int ((y4 >>> (((x3_22 / 16) * 5) &&& 31)) + (59 * x3_22))), (6, .int (nI (y8.2.2 0))), (7, .int v14), (8, .int v16), (10, .int x10_142), (11, .int 0), (12, .int x12_132), (13, .int x13_142), (14, .int v20)] → W p l e room_1 s m #[Value.ref b] below meth c H locs (cl22_ + 9) (sl22_ + 83) (lw_Z below #[Value.ref b] s) (F0 m 173 ls [.int y22, .int x9_142]) := by
                            intro H locs ls hw hl
                            clear h9_
                            refine lv_iadd hx hb dL_law_173 ?_
                            refine lv_istore (lv' := [(9, .int (x9_142 + y22)), (0, .ref b), (1, .ref (g 0)), (2, .ref (β2 9 0)), (3, .int x3_22), (4, .int ((y4 >>> (((x3_22 / 16) * 5) &&& 31)) + (59 * x3_22))), (6, .int (nI (y8.2.2 0))), (7, .int v14), (8, .int v16), (10, .int x10_142), (11, .int 0), (12, .int x12_132), (13, .int x13_142), (14, .int v20)]) hx hb dL_law_174 hl (by decide) rfl (fun ls hl => ?_)
                            refine lv_iload hx hb dL_law_176 (lv_at hl 9 rfl) ?_
                            refine lv_iload hx hb dL_law_178 (lv_at hl 13 rfl) ?_
                            refine lv_iconst (v := 1) hx hb dL_law_180 (by decide) ?_
                            obtain ⟨y23, h9_, h⟩ := mg_bind h
                            have J181_ : ∀ (H : Heap) (locs : List Loc) (ls : Array Slot), mg_Vo D A s.heap H locs ([mg_fS o (β2 9 0) β9 y8.2, mg_fC g (o 53) (o 54) s21]) → lv_has ls 30 [(0, .ref b), (1, .ref (g 0)), (2, .ref (β2 9 0)), (3, .int x3_22), (4, .int ((y4 >>> (((x3_22 / 16) * 5) &&& 31)) + (59 * x3_22))), (6, .int (nI (y8.2.2 0))), (7, .int v14), (8, .int v16), (9, .int (x9_142 + y22)), (11, .int 0), (12, .int x12_132), (13, .int x13_142), (14, .int v20)] → W p l e room_1 s m #[Value.ref b] below meth c H locs (cl22_ + 9) (sl22_ + 83) (lw_Z below #[Value.ref b] s) (F0 m 189 ls [.int y23, .int x10_142]) := by
                              intro H locs ls hw hl
                              clear h9_
                              refine lv_iadd hx hb dL_law_189 ?_
                              refine lv_istore (lv' := [(10, .int (x10_142 + y23)), (0, .ref b), (1, .ref (g 0)), (2, .ref (β2 9 0)), (3, .int x3_22), (4, .int ((y4 >>> (((x3_22 / 16) * 5) &&& 31)) + (59 * x3_22))), (6, .int (nI (y8.2.2 0))), (7, .int v14), (8, .int v16), (9, .int (x9_142 + y22)), (11, .int 0), (12, .int x12_132), (13, .int x13_142), (14, .int v20)]) hx hb dL_law_190 hl (by decide) rfl (fun ls hl => ?_)
                              refine lv_iload hx hb dL_law_192 (lv_at hl 13 rfl) ?_
                              refine mg_if_lt (tgt := 314) hx hb h dL_law_194 (by decide) (fun h => ?_) (fun h => ?_)
                              · cases h
                              · refine lv_iload hx hb dL_law_197 (lv_at hl 13 rfl) ?_
                                refine lv_iconst (v := 3) hx hb dL_law_199 (by decide) ?_
                                refine mg_icmp_gt (tgt := 314) hx hb h dL_law_200 (by decide) (fun h => ?_) (fun h => ?_)
                                · cases h
                                · refine lv_iload hx hb dL_law_203 (lv_at hl 13 rfl) ?_
                                  refine lv_iconst (v := 1) hx hb dL_law_205 (by decide) ?_
                                  obtain ⟨y24, h9_, h⟩ := mg_bind h
                                  have J206_ : ∀ (H : Heap) (locs : List Loc) (ls : Array Slot), mg_Vo D A s.heap H locs ([mg_fS o (β2 9 0) β9 y8.2, mg_fC g (o 53) (o 54) s21]) → lv_has ls 30 [(0, .ref b), (1, .ref (g 0)), (2, .ref (β2 9 0)), (3, .int x3_22), (4, .int ((y4 >>> (((x3_22 / 16) * 5) &&& 31)) + (59 * x3_22))), (6, .int (nI (y8.2.2 0))), (7, .int v14), (8, .int v16), (9, .int (x9_142 + y22)), (10, .int (x10_142 + y23)), (11, .int 0), (12, .int x12_132), (13, .int x13_142), (14, .int v20)] → W p l e room_1 s m #[Value.ref b] below meth c H locs (cl22_ + 9) (sl22_ + 83) (lw_Z below #[Value.ref b] s) (F0 m 214 ls [.int y24]) := by
                                    intro H locs ls hw hl
                                    clear h9_
                                    refine lv_aload_n hx hb dL_law_214 rfl (lv_at hl 1 rfl) ?_
                                    refine lv_iload hx hb dL_law_215 (lv_at hl 12 rfl) ?_
                                    refine lv_iload hx hb dL_law_217 (lv_at hl 11 rfl) ?_
                                    refine lv_iconst (v := 1) hx hb dL_law_219 (by decide) ?_
                                    refine mg_vxq h (fun v : Int32 => some (.int v)) (fun mc9 ms9 o9 s9 hm9 h9 hc9 hs9 => vx_runV (As := [.int x13_142, .int x12_132, .int 1]) (rest := [.int y24]) G9 (k_X6_cell l hst D o (o 53) (o 54) g H.size s21 x13_142 x12_132 1 o9 s9 h9 mc9 ms9 hm9) (cwV 3 hts (goodIn_up gL_law_X6_cell) rfl rfl rfl (by decide +kernel) ⟨Nat.le_of_ble_eq_true rfl, Nat.le_of_ble_eq_true rfl⟩) (mg_preV (hK.sub (tys' := [(o 53, .int), (o 54, .boolean)]) [0, 1] rfl) hO hA (mg_C_list hw 1 rfl) (q0 := 0) rfl rfl) rfl rfl hl.1 rfl (lv_room (Nat.le_of_ble_eq_true rfl)) dL_law_220 ⟨hc9, hs9⟩) hw hA 1 [0] rfl (Lr := [mg_fS o (β2 9 0) β9 y8.2]) rfl rfl (by decide) (lw_rc (show cl22_ + 9 ≤ 500000 by omega)) (lw_rs (show sl22_ + 83 ≤ 6000000 by omega)) (fun v25 s26 h H locs hw => ?_)
                                    obtain ⟨y27, h9_, h⟩ := mg_bind h
                                    have J223_ : ∀ (H : Heap) (locs : List Loc) (ls : Array Slot), mg_Vo D A s.heap H locs ([mg_fS o (β2 9 0) β9 y8.2, mg_fC g (o 53) (o 54) s26]) → lv_has ls 30 [(0, .ref b), (1, .ref (g 0)), (2, .ref (β2 9 0)), (3, .int x3_22), (4, .int ((y4 >>> (((x3_22 / 16) * 5) &&& 31)) + (59 * x3_22))), (6, .int (nI (y8.2.2 0))), (7, .int v14), (8, .int v16), (9, .int (x9_142 + y22)), (10, .int (x10_142 + y23)), (11, .int 0), (12, .int x12_132), (13, .int x13_142), (14, .int v20)] → W p l e room_1 s m #[Value.ref b] below meth c H locs (cl22_ + 9) (sl22_ + 83) (lw_Z below #[Value.ref b] s) (F0 m 231 ls [.int y27, .int y24]) := by
                                      intro H locs ls hw hl
                                      clear h9_
                                      refine mg_icmp_ne (tgt := 314) hx hb h dL_law_231 (by decide) (fun h => ?_) (fun h => ?_)
                                      · cases h
                                      · refine lv_iload hx hb dL_law_234 (lv_at hl 13 rfl) ?_
                                        refine lv_iconst (v := 1) hx hb dL_law_236 (by decide) ?_
                                        obtain ⟨y28, h9_, h⟩ := mg_bind h
                                        have J237_ : ∀ (H : Heap) (locs : List Loc) (ls : Array Slot), mg_Vo D A s.heap H locs ([mg_fS o (β2 9 0) β9 y8.2, mg_fC g (o 53) (o 54) s26]) → lv_has ls 30 [(0, .ref b), (1, .ref (g 0)), (2, .ref (β2 9 0)), (3, .int x3_22), (4, .int ((y4 >>> (((x3_22 / 16) * 5) &&& 31)) + (59 * x3_22))), (6, .int (nI (y8.2.2 0))), (7, .int v14), (8, .int v16), (9, .int (x9_142 + y22)), (10, .int (x10_142 + y23)), (11, .int 0), (12, .int x12_132), (13, .int x13_142), (14, .int v20)] → W p l e room_1 s m #[Value.ref b] below meth c H locs (cl22_ + 9) (sl22_ + 83) (lw_Z below #[Value.ref b] s) (F0 m 245 ls [.int y28]) := by
                                          intro H locs ls hw hl
                                          clear h9_
                                          refine lv_aload_n hx hb dL_law_245 rfl (lv_at hl 1 rfl) ?_
                                          refine lv_iload hx hb dL_law_246 (lv_at hl 12 rfl) ?_
                                          refine lv_iload hx hb dL_law_248 (lv_at hl 11 rfl) ?_
                                          refine lv_iconst (v := 2) hx hb dL_law_250 (by decide) ?_
                                          refine mg_vxq h (fun v : Int32 => some (.int v)) (fun mc9 ms9 o9 s9 hm9 h9 hc9 hs9 => vx_runV (As := [.int x13_142, .int x12_132, .int 2]) (rest := [.int y28]) G9 (k_X6_cell l hst D o (o 53) (o 54) g H.size s26 x13_142 x12_132 2 o9 s9 h9 mc9 ms9 hm9) (cwV 3 hts (goodIn_up gL_law_X6_cell) rfl rfl rfl (by decide +kernel) ⟨Nat.le_of_ble_eq_true rfl, Nat.le_of_ble_eq_true rfl⟩) (mg_preV (hK.sub (tys' := [(o 53, .int), (o 54, .boolean)]) [0, 1] rfl) hO hA (mg_C_list hw 1 rfl) (q0 := 0) rfl rfl) rfl rfl hl.1 rfl (lv_room (Nat.le_of_ble_eq_true rfl)) dL_law_251 ⟨hc9, hs9⟩) hw hA 1 [0] rfl (Lr := [mg_fS o (β2 9 0) β9 y8.2]) rfl rfl (by decide) (lw_rc (show cl22_ + 9 ≤ 500000 by omega)) (lw_rs (show sl22_ + 83 ≤ 6000000 by omega)) (fun v29 s30 h H locs hw => ?_)
                                          obtain ⟨y31, h9_, h⟩ := mg_bind h
                                          have J254_ : ∀ (H : Heap) (locs : List Loc) (ls : Array Slot), mg_Vo D A s.heap H locs ([mg_fS o (β2 9 0) β9 y8.2, mg_fC g (o 53) (o 54) s30]) → lv_has ls 30 [(0, .ref b), (1, .ref (g 0)), (2, .ref (β2 9 0)), (3, .int x3_22), (4, .int ((y4 >>> (((x3_22 / 16) * 5) &&& 31)) + (59 * x3_22))), (6, .int (nI (y8.2.2 0))), (7, .int v14), (8, .int v16), (9, .int (x9_142 + y22)), (10, .int (x10_142 + y23)), (11, .int 0), (12, .int x12_132), (13, .int x13_142), (14, .int v20)] → W p l e room_1 s m #[Value.ref b] below meth c H locs (cl22_ + 9) (sl22_ + 83) (lw_Z below #[Value.ref b] s) (F0 m 262 ls [.int y31, .int y28]) := by
                                            intro H locs ls hw hl
                                            clear h9_
                                            refine mg_icmp_ne (tgt := 314) hx hb h dL_law_262 (by decide) (fun h => ?_) (fun h => ?_)
                                            · cases h
                                            · refine lv_iload hx hb dL_law_265 (lv_at hl 13 rfl) ?_
                                              refine lv_iconst (v := 2) hx hb dL_law_267 (by decide) ?_
                                              obtain ⟨y32, h9_, h⟩ := mg_bind h
                                              have J268_ : ∀ (H : Heap) (locs : List Loc) (ls : Array Slot), mg_Vo D A s.heap H locs ([mg_fS o (β2 9 0) β9 y8.2, mg_fC g (o 53) (o 54) s30]) → lv_has ls 30 [(0, .ref b), (1, .ref (g 0)), (2, .ref (β2 9 0)), (3, .int x3_22), (4, .int ((y4 >>> (((x3_22 / 16) * 5) &&& 31)) + (59 * x3_22))), (6, .int (nI (y8.2.2 0))), (7, .int v14), (8, .int v16), (9, .int (x9_142 + y22)), (10, .int (x10_142 + y23)), (11, .int 0), (12, .int x12_132), (13, .int x13_142), (14, .int v20)] → W p l e room_1 s m #[Value.ref b] below meth c H locs (cl22_ + 9) (sl22_ + 83) (lw_Z below #[Value.ref b] s) (F0 m 276 ls [.int y32]) := by
                                                intro H locs ls hw hl
                                                clear h9_
                                                refine lv_aload_n hx hb dL_law_276 rfl (lv_at hl 1 rfl) ?_
                                                refine lv_iload hx hb dL_law_277 (lv_at hl 12 rfl) ?_
                                                refine lv_iload hx hb dL_law_279 (lv_at hl 11 rfl) ?_
                                                refine lv_iconst (v := 3) hx hb dL_law_281 (by decide) ?_
                                                refine mg_vxq h (fun v : Int32 => some (.int v)) (fun mc9 ms9 o9 s9 hm9 h9 hc9 hs9 => vx_runV (As := [.int x13_142, .int x12_132, .int 3]) (rest := [.int y32]) G9 (k_X6_cell l hst D o (o 53) (o 54) g H.size s30 x13_142 x12_132 3 o9 s9 h9 mc9 ms9 hm9) (cwV 3 hts (goodIn_up gL_law_X6_cell) rfl rfl rfl (by decide +kernel) ⟨Nat.le_of_ble_eq_true rfl, Nat.le_of_ble_eq_true rfl⟩) (mg_preV (hK.sub (tys' := [(o 53, .int), (o 54, .boolean)]) [0, 1] rfl) hO hA (mg_C_list hw 1 rfl) (q0 := 0) rfl rfl) rfl rfl hl.1 rfl (lv_room (Nat.le_of_ble_eq_true rfl)) dL_law_282 ⟨hc9, hs9⟩) hw hA 1 [0] rfl (Lr := [mg_fS o (β2 9 0) β9 y8.2]) rfl rfl (by decide) (lw_rc (show cl22_ + 9 ≤ 500000 by omega)) (lw_rs (show sl22_ + 83 ≤ 6000000 by omega)) (fun v33 s34 h H locs hw => ?_)
                                                obtain ⟨y35, h9_, h⟩ := mg_bind h
                                                have J285_ : ∀ (H : Heap) (locs : List Loc) (ls : Array Slot), mg_Vo D A s.heap H locs ([mg_fS o (β2 9 0) β9 y8.2, mg_fC g (o 53) (o 54) s34]) → lv_has ls 30 [(0, .ref b), (1, .ref (g 0)), (2, .ref (β2 9 0)), (3, .int x3_22), (4, .int ((y4 >>> (((x3_22 / 16) * 5) &&& 31)) + (59 * x3_22))), (6, .int (nI (y8.2.2 0))), (7, .int v14), (8, .int v16), (9, .int (x9_142 + y22)), (10, .int (x10_142 + y23)), (11, .int 0), (12, .int x12_132), (13, .int x13_142), (14, .int v20)] → W p l e room_1 s m #[Value.ref b] below meth c H locs (cl22_ + 9) (sl22_ + 83) (lw_Z below #[Value.ref b] s) (F0 m 293 ls [.int y35, .int y32]) := by
                                                  intro H locs ls hw hl
                                                  clear h9_
                                                  refine mg_icmp_ne (tgt := 314) hx hb h dL_law_293 (by decide) (fun h => ?_) (fun h => ?_)
                                                  · cases h
                                                  · refine lv_iload hx hb dL_law_296 (lv_at hl 13 rfl) ?_
                                                    refine lv_iconst (v := 2) hx hb dL_law_298 (by decide) ?_
                                                    obtain ⟨y36, h9_, h⟩ := mg_bind h
                                                    have J299_ : ∀ (H : Heap) (locs : List Loc) (ls : Array Slot), mg_Vo D A s.heap H locs ([mg_fS o (β2 9 0) β9 y8.2, mg_fC g (o 53) (o 54) y36]) → lv_has ls 30 [(0, .ref b), (1, .ref (g 0)), (2, .ref (β2 9 0)), (3, .int x3_22), (4, .int ((y4 >>> (((x3_22 / 16) * 5) &&& 31)) + (59 * x3_22))), (6, .int (nI (y8.2.2 0))), (7, .int v14), (8, .int v16), (9, .int (x9_142 + y22)), (10, .int (x10_142 + y23)), (11, .int 0), (12, .int x12_132), (13, .int x13_142), (14, .int v20)] → W p l e room_1 s m #[Value.ref b] below meth c H locs (cl22_ + 9) (sl22_ + 83) (lw_Z below #[Value.ref b] s) (F0 m 316 ls []) := by
                                                      intro H locs ls hw hl
                                                      clear h9_
                                                      refine lv_iload hx hb dL_law_316 (lv_at hl 13 rfl) ?_
                                                      refine lv_iconst (v := 2) hx hb dL_law_318 (by decide) ?_
                                                      obtain ⟨y39, h9_, h⟩ := mg_bind h
                                                      have J319_ : ∀ (H : Heap) (locs : List Loc) (ls : Array Slot), mg_Vo D A s.heap H locs ([mg_fS o (β2 9 0) β9 y8.2, mg_fC g (o 53) (o 54) y39]) → lv_has ls 30 [(0, .ref b), (1, .ref (g 0)), (2, .ref (β2 9 0)), (3, .int x3_22), (4, .int ((y4 >>> (((x3_22 / 16) * 5) &&& 31)) + (59 * x3_22))), (6, .int (nI (y8.2.2 0))), (7, .int v14), (8, .int v16), (9, .int (x9_142 + y22)), (10, .int (x10_142 + y23)), (11, .int 0), (12, .int x12_132), (13, .int x13_142), (14, .int v20)] → W p l e room_1 s m #[Value.ref b] below meth c H locs (cl22_ + 9) (sl22_ + 83) (lw_Z below #[Value.ref b] s) (F0 m 392 ls []) := by
                                                        intro H locs ls hw hl
                                                        clear h9_
                                                        refine lv_iload hx hb dL_law_392 (lv_at hl 13 rfl) ?_
                                                        refine lv_iconst (v := 2) hx hb dL_law_394 (by decide) ?_
                                                        refine mg_icmp_ne (tgt := 445) hx hb h dL_law_395 (by decide) (fun h => ?_) (fun h => ?_)
                                                        · refine lv_iinc (v := (x13_142 + 1)) (lv' := [(13, .int (x13_142 + 1)), (0, .ref b), (1, .ref (g 0)), (2, .ref (β2 9 0)), (3, .int x3_22), (4, .int ((y4 >>> (((x3_22 / 16) * 5) &&& 31)) + (59 * x3_22))), (6, .int (nI (y8.2.2 0))), (7, .int v14), (8, .int v16), (9, .int (x9_142 + y22)), (10, .int (x10_142 + y23)), (11, .int 0), (12, .int x12_132), (14, .int v20)]) hx hb dL_law_445 hl (k := 12) rfl rfl (by decide) rfl (fun ls hl => ?_)
                                                          refine lv_goto (tgt := 142) hx hb dL_law_448 (by decide) ?_
                                                          exact ih _ _ _ _ _ h kc H locs ls hw (lv_sub hl [1, 2, 3, 4, 5, 6, 7, 8, 9, 10, 11, 12, 0] rfl)
                                                        · refine lv_iload hx hb dL_law_398 (lv_at hl 11 rfl) ?_
                                                          refine lv_bipush (v := 6) hx hb dL_law_400 (by decide) ?_
                                                          refine mg_icmp_ge (tgt := 445) hx hb h dL_law_402 (by decide) (fun h => ?_) (fun h => ?_)
                                                          · refine lv_iinc (v := (x13_142 + 1)) (lv' := [(13, .int (x13_142 + 1)), (0, .ref b), (1, .ref (g 0)), (2, .ref (β2 9 0)), (3, .int x3_22), (4, .int ((y4 >>> (((x3_22 / 16) * 5) &&& 31)) + (59 * x3_22))), (6, .int (nI (y8.2.2 0))), (7, .int v14), (8, .int v16), (9, .int (x9_142 + y22)), (10, .int (x10_142 + y23)), (11, .int 0), (12, .int x12_132), (14, .int v20)]) hx hb dL_law_445 hl (k := 12) rfl rfl (by decide) rfl (fun ls hl => ?_)
                                                            refine lv_goto (tgt := 142) hx hb dL_law_448 (by decide) ?_
                                                            exact ih _ _ _ _ _ h kc H locs ls hw (lv_sub hl [1, 2, 3, 4, 5, 6, 7, 8, 9, 10, 11, 12, 0] rfl)
                                                          · refine lv_aload_n hx hb dL_law_405 rfl (lv_at hl 1 rfl) ?_
                                                            refine lv_iload hx hb dL_law_406 (lv_at hl 12 rfl) ?_
                                                            refine lv_iload hx hb dL_law_408 (lv_at hl 11 rfl) ?_
                                                            refine lv_iconst (v := 1) hx hb dL_law_410 (by decide) ?_
                                                            refine lv_iadd hx hb dL_law_411 ?_
                                                            refine lv_iconst (v := 0) hx hb dL_law_412 (by decide) ?_
                                                            refine mg_vxq h (fun v : Int32 => some (.int v)) (fun mc9 ms9 o9 s9 hm9 h9 hc9 hs9 => vx_runV (As := [.int x13_142, .int (x12_132 + 1), .int 0]) (rest := []) G9 (k_X6_cell l hst D o (o 53) (o 54) g H.size y39 x13_142 (x12_132 + 1) 0 o9 s9 h9 mc9 ms9 hm9) (cwV 3 hts (goodIn_up gL_law_X6_cell) rfl rfl rfl (by decide +kernel) ⟨Nat.le_of_ble_eq_true rfl, Nat.le_of_ble_eq_true rfl⟩) (mg_preV (hK.sub (tys' := [(o 53, .int), (o 54, .boolean)]) [0, 1] rfl) hO hA (mg_C_list hw 1 rfl) (q0 := 0) rfl rfl) rfl rfl hl.1 rfl (lv_room (Nat.le_of_ble_eq_true rfl)) dL_law_413 ⟨hc9, hs9⟩) hw hA 1 [0] rfl (Lr := [mg_fS o (β2 9 0) β9 y8.2]) rfl rfl (by decide) (lw_rc (show cl22_ + 9 ≤ 500000 by omega)) (lw_rs (show sl22_ + 83 ≤ 6000000 by omega)) (fun v50 s51 h H locs hw => ?_)
                                                            refine lv_iconst (v := 2) hx hb dL_law_416 (by decide) ?_
                                                            refine mg_icmp_ne (tgt := 445) hx hb h dL_law_417 (by decide) (fun h => ?_) (fun h => ?_)
                                                            · refine lv_iinc (v := (x13_142 + 1)) (lv' := [(13, .int (x13_142 + 1)), (0, .ref b), (1, .ref (g 0)), (2, .ref (β2 9 0)), (3, .int x3_22), (4, .int ((y4 >>> (((x3_22 / 16) * 5) &&& 31)) + (59 * x3_22))), (6, .int (nI (y8.2.2 0))), (7, .int v14), (8, .int v16), (9, .int (x9_142 + y22)), (10, .int (x10_142 + y23)), (11, .int 0), (12, .int x12_132), (14, .int v20)]) hx hb dL_law_445 hl (k := 12) rfl rfl (by decide) rfl (fun ls hl => ?_)
                                                              refine lv_goto (tgt := 142) hx hb dL_law_448 (by decide) ?_
                                                              exact ih _ _ _ _ _ h kc H locs ls hw (lv_sub hl [1, 2, 3, 4, 5, 6, 7, 8, 9, 10, 11, 12, 0] rfl)
                                                            · refine lv_aload_n hx hb dL_law_420 rfl (lv_at hl 1 rfl) ?_
                                                              refine lv_iload hx hb dL_law_421 (lv_at hl 12 rfl) ?_
                                                              refine lv_iload hx hb dL_law_423 (lv_at hl 11 rfl) ?_
                                                              refine lv_iconst (v := 1) hx hb dL_law_425 (by decide) ?_
                                                              refine lv_iadd hx hb dL_law_426 ?_
                                                              refine lv_iconst (v := 3) hx hb dL_law_427 (by decide) ?_
                                                              refine mg_vxq h (fun v : Int32 => some (.int v)) (fun mc9 ms9 o9 s9 hm9 h9 hc9 hs9 => vx_runV (As := [.int x13_142, .int (x12_132 + 1), .int 3]) (rest := []) G9 (k_X6_cell l hst D o (o 53) (o 54) g H.size s51 x13_142 (x12_132 + 1) 3 o9 s9 h9 mc9 ms9 hm9) (cwV 3 hts (goodIn_up gL_law_X6_cell) rfl rfl rfl (by decide +kernel) ⟨Nat.le_of_ble_eq_true rfl, Nat.le_of_ble_eq_true rfl⟩) (mg_preV (hK.sub (tys' := [(o 53, .int), (o 54, .boolean)]) [0, 1] rfl) hO hA (mg_C_list hw 1 rfl) (q0 := 0) rfl rfl) rfl rfl hl.1 rfl (lv_room (Nat.le_of_ble_eq_true rfl)) dL_law_428 ⟨hc9, hs9⟩) hw hA 1 [0] rfl (Lr := [mg_fS o (β2 9 0) β9 y8.2]) rfl rfl (by decide) (lw_rc (show cl22_ + 9 ≤ 500000 by omega)) (lw_rs (show sl22_ + 83 ≤ 6000000 by omega)) (fun v52 s53 h H locs hw => ?_)
                                                              refine lv_aload_n hx hb dL_law_431 rfl (lv_at hl 1 rfl) ?_
                                                              refine lv_iload hx hb dL_law_432 (lv_at hl 12 rfl) ?_
                                                              refine lv_iload hx hb dL_law_434 (lv_at hl 11 rfl) ?_
                                                              refine lv_iconst (v := 3) hx hb dL_law_436 (by decide) ?_
                                                              refine mg_vxq h (fun v : Int32 => some (.int v)) (fun mc9 ms9 o9 s9 hm9 h9 hc9 hs9 => vx_runV (As := [.int x13_142, .int x12_132, .int 3]) (rest := [.int v52]) G9 (k_X6_cell l hst D o (o 53) (o 54) g H.size s53 x13_142 x12_132 3 o9 s9 h9 mc9 ms9 hm9) (cwV 3 hts (goodIn_up gL_law_X6_cell) rfl rfl rfl (by decide +kernel) ⟨Nat.le_of_ble_eq_true rfl, Nat.le_of_ble_eq_true rfl⟩) (mg_preV (hK.sub (tys' := [(o 53, .int), (o 54, .boolean)]) [0, 1] rfl) hO hA (mg_C_list hw 1 rfl) (q0 := 0) rfl rfl) rfl rfl hl.1 rfl (lv_room (Nat.le_of_ble_eq_true rfl)) dL_law_437 ⟨hc9, hs9⟩) hw hA 1 [0] rfl (Lr := [mg_fS o (β2 9 0) β9 y8.2]) rfl rfl (by decide) (lw_rc (show cl22_ + 9 ≤ 500000 by omega)) (lw_rs (show sl22_ + 83 ≤ 6000000 by omega)) (fun v54 s55 h H locs hw => ?_)
                                                              refine mg_icmp_eq (tgt := 445) hx hb h dL_law_440 (by decide) (fun h => ?_) (fun h => ?_)
                                                              · refine lv_iinc (v := (x13_142 + 1)) (lv' := [(13, .int (x13_142 + 1)), (0, .ref b), (1, .ref (g 0)), (2, .ref (β2 9 0)), (3, .int x3_22), (4, .int ((y4 >>> (((x3_22 / 16) * 5) &&& 31)) + (59 * x3_22))), (6, .int (nI (y8.2.2 0))), (7, .int v14), (8, .int v16), (9, .int (x9_142 + y22)), (10, .int (x10_142 + y23)), (11, .int 0), (12, .int x12_132), (14, .int v20)]) hx hb dL_law_445 hl (k := 12) rfl rfl (by decide) rfl (fun ls hl => ?_)
                                                                refine lv_goto (tgt := 142) hx hb dL_law_448 (by decide) ?_
                                                                exact ih _ _ _ _ _ h kc H locs ls hw (lv_sub hl [1, 2, 3, 4, 5, 6, 7, 8, 9, 10, 11, 12, 0] rfl)
                                                              · cases h
                                                      clear h
                                                      have h := h9_
                                                      clear h9_
                                                      refine mg_icmp_ne (tgt := 392) hx hb h dL_law_319 (by decide) (fun h => ?_) (fun h => ?_)
                                                      · cases h
                                                        exact J319_ H locs ls hw (lv_sub hl [0, 1, 2, 3, 4, 5, 6, 7, 8, 9, 10, 11, 12, 13] rfl)
                                                      · refine lv_iload hx hb dL_law_322 (lv_at hl 12 rfl) ?_
                                                        refine lv_bipush (v := 9) hx hb dL_law_324 (by decide) ?_
                                                        refine mg_icmp_ge (tgt := 392) hx hb h dL_law_326 (by decide) (fun h => ?_) (fun h => ?_)
                                                        · cases h
                                                          exact J319_ H locs ls hw (lv_sub hl [0, 1, 2, 3, 4, 5, 6, 7, 8, 9, 10, 11, 12, 13] rfl)
                                                        · refine lv_aload_n hx hb dL_law_329 rfl (lv_at hl 1 rfl) ?_
                                                          refine lv_iload hx hb dL_law_330 (lv_at hl 12 rfl) ?_
                                                          refine lv_iconst (v := 1) hx hb dL_law_332 (by decide) ?_
                                                          refine lv_iadd hx hb dL_law_333 ?_
                                                          refine lv_iload hx hb dL_law_334 (lv_at hl 11 rfl) ?_
                                                          refine lv_iconst (v := 0) hx hb dL_law_336 (by decide) ?_
                                                          refine mg_vxq h (fun v : Int32 => some (.int v)) (fun mc9 ms9 o9 s9 hm9 h9 hc9 hs9 => vx_runV (As := [.int (x13_142 + 1), .int x12_132, .int 0]) (rest := []) G9 (k_X6_cell l hst D o (o 53) (o 54) g H.size y36 (x13_142 + 1) x12_132 0 o9 s9 h9 mc9 ms9 hm9) (cwV 3 hts (goodIn_up gL_law_X6_cell) rfl rfl rfl (by decide +kernel) ⟨Nat.le_of_ble_eq_true rfl, Nat.le_of_ble_eq_true rfl⟩) (mg_preV (hK.sub (tys' := [(o 53, .int), (o 54, .boolean)]) [0, 1] rfl) hO hA (mg_C_list hw 1 rfl) (q0 := 0) rfl rfl) rfl rfl hl.1 rfl (lv_room (Nat.le_of_ble_eq_true rfl)) dL_law_337 ⟨hc9, hs9⟩) hw hA 1 [0] rfl (Lr := [mg_fS o (β2 9 0) β9 y8.2]) rfl rfl (by decide) (lw_rc (show cl22_ + 9 ≤ 500000 by omega)) (lw_rs (show sl22_ + 83 ≤ 6000000 by omega)) (fun v40 s41 h H locs hw => ?_)
                                                          refine lv_iconst (v := 2) hx hb dL_law_340 (by decide) ?_
                                                          refine mg_icmp_ne (tgt := 392) hx hb h dL_law_341 (by decide) (fun h => ?_) (fun h => ?_)
                                                          · cases h
                                                            exact J319_ H locs ls hw (lv_sub hl [0, 1, 2, 3, 4, 5, 6, 7, 8, 9, 10, 11, 12, 13] rfl)
                                                          · refine lv_aload_n hx hb dL_law_344 rfl (lv_at hl 1 rfl) ?_
                                                            refine lv_iload hx hb dL_law_345 (lv_at hl 12 rfl) ?_
                                                            refine lv_iconst (v := 1) hx hb dL_law_347 (by decide) ?_
                                                            refine lv_iadd hx hb dL_law_348 ?_
                                                            refine lv_iload hx hb dL_law_349 (lv_at hl 11 rfl) ?_
                                                            refine lv_iconst (v := 3) hx hb dL_law_351 (by decide) ?_
                                                            refine mg_vxq h (fun v : Int32 => some (.int v)) (fun mc9 ms9 o9 s9 hm9 h9 hc9 hs9 => vx_runV (As := [.int (x13_142 + 1), .int x12_132, .int 3]) (rest := []) G9 (k_X6_cell l hst D o (o 53) (o 54) g H.size s41 (x13_142 + 1) x12_132 3 o9 s9 h9 mc9 ms9 hm9) (cwV 3 hts (goodIn_up gL_law_X6_cell) rfl rfl rfl (by decide +kernel) ⟨Nat.le_of_ble_eq_true rfl, Nat.le_of_ble_eq_true rfl⟩) (mg_preV (hK.sub (tys' := [(o 53, .int), (o 54, .boolean)]) [0, 1] rfl) hO hA (mg_C_list hw 1 rfl) (q0 := 0) rfl rfl) rfl rfl hl.1 rfl (lv_room (Nat.le_of_ble_eq_true rfl)) dL_law_352 ⟨hc9, hs9⟩) hw hA 1 [0] rfl (Lr := [mg_fS o (β2 9 0) β9 y8.2]) rfl rfl (by decide) (lw_rc (show cl22_ + 9 ≤ 500000 by omega)) (lw_rs (show sl22_ + 83 ≤ 6000000 by omega)) (fun v42 s43 h H locs hw => ?_)
                                                            refine lv_aload_n hx hb dL_law_355 rfl (lv_at hl 1 rfl) ?_
                                                            refine lv_iload hx hb dL_law_356 (lv_at hl 12 rfl) ?_
                                                            refine lv_iload hx hb dL_law_358 (lv_at hl 11 rfl) ?_
                                                            refine lv_iconst (v := 3) hx hb dL_law_360 (by decide) ?_
                                                            refine mg_vxq h (fun v : Int32 => some (.int v)) (fun mc9 ms9 o9 s9 hm9 h9 hc9 hs9 => vx_runV (As := [.int x13_142, .int x12_132, .int 3]) (rest := [.int v42]) G9 (k_X6_cell l hst D o (o 53) (o 54) g H.size s43 x13_142 x12_132 3 o9 s9 h9 mc9 ms9 hm9) (cwV 3 hts (goodIn_up gL_law_X6_cell) rfl rfl rfl (by decide +kernel) ⟨Nat.le_of_ble_eq_true rfl, Nat.le_of_ble_eq_true rfl⟩) (mg_preV (hK.sub (tys' := [(o 53, .int), (o 54, .boolean)]) [0, 1] rfl) hO hA (mg_C_list hw 1 rfl) (q0 := 0) rfl rfl) rfl rfl hl.1 rfl (lv_room (Nat.le_of_ble_eq_true rfl)) dL_law_361 ⟨hc9, hs9⟩) hw hA 1 [0] rfl (Lr := [mg_fS o (β2 9 0) β9 y8.2]) rfl rfl (by decide) (lw_rc (show cl22_ + 9 ≤ 500000 by omega)) (lw_rs (show sl22_ + 83 ≤ 6000000 by omega)) (fun v44 s45 h H locs hw => ?_)
                                                            refine mg_icmp_ne (tgt := 390) hx hb h dL_law_364 (by decide) (fun h => ?_) (fun h => ?_)
                                                            · cases h
                                                            · refine lv_aload_n hx hb dL_law_367 rfl (lv_at hl 1 rfl) ?_
                                                              refine lv_iload hx hb dL_law_368 (lv_at hl 12 rfl) ?_
                                                              refine lv_iconst (v := 1) hx hb dL_law_370 (by decide) ?_
                                                              refine lv_iadd hx hb dL_law_371 ?_
                                                              refine lv_iload hx hb dL_law_372 (lv_at hl 11 rfl) ?_
                                                              refine lv_iconst (v := 4) hx hb dL_law_374 (by decide) ?_
                                                              refine mg_vxq h (fun v : Int32 => some (.int v)) (fun mc9 ms9 o9 s9 hm9 h9 hc9 hs9 => vx_runV (As := [.int (x13_142 + 1), .int x12_132, .int 4]) (rest := []) G9 (k_X6_cell l hst D o (o 53) (o 54) g H.size s45 (x13_142 + 1) x12_132 4 o9 s9 h9 mc9 ms9 hm9) (cwV 3 hts (goodIn_up gL_law_X6_cell) rfl rfl rfl (by decide +kernel) ⟨Nat.le_of_ble_eq_true rfl, Nat.le_of_ble_eq_true rfl⟩) (mg_preV (hK.sub (tys' := [(o 53, .int), (o 54, .boolean)]) [0, 1] rfl) hO hA (mg_C_list hw 1 rfl) (q0 := 0) rfl rfl) rfl rfl hl.1 rfl (lv_room (Nat.le_of_ble_eq_true rfl)) dL_law_375 ⟨hc9, hs9⟩) hw hA 1 [0] rfl (Lr := [mg_fS o (β2 9 0) β9 y8.2]) rfl rfl (by decide) (lw_rc (show cl22_ + 9 ≤ 500000 by omega)) (lw_rs (show sl22_ + 83 ≤ 6000000 by omega)) (fun v46 s47 h H locs hw => ?_)
                                                              refine lv_aload_n hx hb dL_law_378 rfl (lv_at hl 1 rfl) ?_
                                                              refine lv_iload hx hb dL_law_379 (lv_at hl 12 rfl) ?_
                                                              refine lv_iload hx hb dL_law_381 (lv_at hl 11 rfl) ?_
                                                              refine lv_iconst (v := 4) hx hb dL_law_383 (by decide) ?_
                                                              refine mg_vxq h (fun v : Int32 => some (.int v)) (fun mc9 ms9 o9 s9 hm9 h9 hc9 hs9 => vx_runV (As := [.int x13_142, .int x12_132, .int 4]) (rest := [.int v46]) G9 (k_X6_cell l hst D o (o 53) (o 54) g H.size s47 x13_142 x12_132 4 o9 s9 h9 mc9 ms9 hm9) (cwV 3 hts (goodIn_up gL_law_X6_cell) rfl rfl rfl (by decide +kernel) ⟨Nat.le_of_ble_eq_true rfl, Nat.le_of_ble_eq_true rfl⟩) (mg_preV (hK.sub (tys' := [(o 53, .int), (o 54, .boolean)]) [0, 1] rfl) hO hA (mg_C_list hw 1 rfl) (q0 := 0) rfl rfl) rfl rfl hl.1 rfl (lv_room (Nat.le_of_ble_eq_true rfl)) dL_law_384 ⟨hc9, hs9⟩) hw hA 1 [0] rfl (Lr := [mg_fS o (β2 9 0) β9 y8.2]) rfl rfl (by decide) (lw_rc (show cl22_ + 9 ≤ 500000 by omega)) (lw_rs (show sl22_ + 83 ≤ 6000000 by omega)) (fun v48 s49 h H locs hw => ?_)
                                                              refine mg_icmp_eq (tgt := 392) hx hb h dL_law_387 (by decide) (fun h => ?_) (fun h => ?_)
                                                              · cases h
                                                                exact J319_ H locs ls hw (lv_sub hl [0, 1, 2, 3, 4, 5, 6, 7, 8, 9, 10, 11, 12, 13] rfl)
                                                              · cases h
                                                    clear h
                                                    have h := h9_
                                                    clear h9_
                                                    refine mg_icmp_eq (tgt := 316) hx hb h dL_law_299 (by decide) (fun h => ?_) (fun h => ?_)
                                                    · cases h
                                                      exact J299_ H locs ls hw (lv_sub hl [0, 1, 2, 3, 4, 5, 6, 7, 8, 9, 10, 11, 12, 13] rfl)
                                                    · refine lv_aload_n hx hb dL_law_302 rfl (lv_at hl 1 rfl) ?_
                                                      refine lv_iload hx hb dL_law_303 (lv_at hl 12 rfl) ?_
                                                      refine lv_iload hx hb dL_law_305 (lv_at hl 11 rfl) ?_
                                                      refine lv_iconst (v := 4) hx hb dL_law_307 (by decide) ?_
                                                      refine mg_vxq h (fun v : Int32 => some (.int v)) (fun mc9 ms9 o9 s9 hm9 h9 hc9 hs9 => vx_runV (As := [.int x13_142, .int x12_132, .int 4]) (rest := []) G9 (k_X6_cell l hst D o (o 53) (o 54) g H.size s34 x13_142 x12_132 4 o9 s9 h9 mc9 ms9 hm9) (cwV 3 hts (goodIn_up gL_law_X6_cell) rfl rfl rfl (by decide +kernel) ⟨Nat.le_of_ble_eq_true rfl, Nat.le_of_ble_eq_true rfl⟩) (mg_preV (hK.sub (tys' := [(o 53, .int), (o 54, .boolean)]) [0, 1] rfl) hO hA (mg_C_list hw 1 rfl) (q0 := 0) rfl rfl) rfl rfl hl.1 rfl (lv_room (Nat.le_of_ble_eq_true rfl)) dL_law_308 ⟨hc9, hs9⟩) hw hA 1 [0] rfl (Lr := [mg_fS o (β2 9 0) β9 y8.2]) rfl rfl (by decide) (lw_rc (show cl22_ + 9 ≤ 500000 by omega)) (lw_rs (show sl22_ + 83 ≤ 6000000 by omega)) (fun v37 s38 h H locs hw => ?_)
                                                      refine mg_if_eq (tgt := 316) hx hb h dL_law_311 (by decide) (fun h => ?_) (fun h => ?_)
                                                      · cases h
                                                        exact J299_ H locs ls hw (lv_sub hl [0, 1, 2, 3, 4, 5, 6, 7, 8, 9, 10, 11, 12, 13] rfl)
                                                      · cases h
                                                clear h
                                                have h := h9_
                                                clear h9_
                                                refine mg_if_le (tgt := 292) hx hb h dL_law_285 (by decide) (fun h => ?_) (fun h => ?_)
                                                · refine lv_iconst (v := 0) hx hb dL_law_292 (by decide) ?_
                                                  cases h
                                                  exact J285_ H locs ls hw (lv_sub hl [0, 1, 2, 3, 4, 5, 6, 7, 8, 9, 10, 11, 12, 13] rfl)
                                                · refine lv_iconst (v := 1) hx hb dL_law_288 (by decide) ?_
                                                  refine lv_goto (tgt := 293) hx hb dL_law_289 (by decide) ?_
                                                  cases h
                                                  exact J285_ H locs ls hw (lv_sub hl [0, 1, 2, 3, 4, 5, 6, 7, 8, 9, 10, 11, 12, 13] rfl)
                                              clear h
                                              have h := h9_
                                              clear h9_
                                              refine mg_icmp_ne (tgt := 275) hx hb h dL_law_268 (by decide) (fun h => ?_) (fun h => ?_)
                                              · refine lv_iconst (v := 0) hx hb dL_law_275 (by decide) ?_
                                                cases h
                                                exact J268_ H locs ls hw (lv_sub hl [0, 1, 2, 3, 4, 5, 6, 7, 8, 9, 10, 11, 12, 13] rfl)
                                              · refine lv_iconst (v := 1) hx hb dL_law_271 (by decide) ?_
                                                refine lv_goto (tgt := 276) hx hb dL_law_272 (by decide) ?_
                                                cases h
                                                exact J268_ H locs ls hw (lv_sub hl [0, 1, 2, 3, 4, 5, 6, 7, 8, 9, 10, 11, 12, 13] rfl)
                                          clear h
                                          have h := h9_
                                          clear h9_
                                          refine mg_if_le (tgt := 261) hx hb h dL_law_254 (by decide) (fun h => ?_) (fun h => ?_)
                                          · refine lv_iconst (v := 0) hx hb dL_law_261 (by decide) ?_
                                            cases h
                                            exact J254_ H locs ls hw (lv_sub hl [0, 1, 2, 3, 4, 5, 6, 7, 8, 9, 10, 11, 12, 13] rfl)
                                          · refine lv_iconst (v := 1) hx hb dL_law_257 (by decide) ?_
                                            refine lv_goto (tgt := 262) hx hb dL_law_258 (by decide) ?_
                                            cases h
                                            exact J254_ H locs ls hw (lv_sub hl [0, 1, 2, 3, 4, 5, 6, 7, 8, 9, 10, 11, 12, 13] rfl)
                                        clear h
                                        have h := h9_
                                        clear h9_
                                        refine mg_icmp_ne (tgt := 244) hx hb h dL_law_237 (by decide) (fun h => ?_) (fun h => ?_)
                                        · refine lv_iconst (v := 0) hx hb dL_law_244 (by decide) ?_
                                          cases h
                                          exact J237_ H locs ls hw (lv_sub hl [0, 1, 2, 3, 4, 5, 6, 7, 8, 9, 10, 11, 12, 13] rfl)
                                        · refine lv_iconst (v := 1) hx hb dL_law_240 (by decide) ?_
                                          refine lv_goto (tgt := 245) hx hb dL_law_241 (by decide) ?_
                                          cases h
                                          exact J237_ H locs ls hw (lv_sub hl [0, 1, 2, 3, 4, 5, 6, 7, 8, 9, 10, 11, 12, 13] rfl)
                                    clear h
                                    have h := h9_
                                    clear h9_
                                    refine mg_if_lt (tgt := 230) hx hb h dL_law_223 (by decide) (fun h => ?_) (fun h => ?_)
                                    · refine lv_iconst (v := 0) hx hb dL_law_230 (by decide) ?_
                                      cases h
                                      exact J223_ H locs ls hw (lv_sub hl [0, 1, 2, 3, 4, 5, 6, 7, 8, 9, 10, 11, 12, 13] rfl)
                                    · refine lv_iconst (v := 1) hx hb dL_law_226 (by decide) ?_
                                      refine lv_goto (tgt := 231) hx hb dL_law_227 (by decide) ?_
                                      cases h
                                      exact J223_ H locs ls hw (lv_sub hl [0, 1, 2, 3, 4, 5, 6, 7, 8, 9, 10, 11, 12, 13] rfl)
                                  clear h
                                  have h := h9_
                                  clear h9_
                                  refine mg_icmp_ne (tgt := 213) hx hb h dL_law_206 (by decide) (fun h => ?_) (fun h => ?_)
                                  · refine lv_iconst (v := 0) hx hb dL_law_213 (by decide) ?_
                                    cases h
                                    exact J206_ H locs ls hw (lv_sub hl [1, 2, 3, 4, 5, 6, 7, 8, 9, 0, 10, 11, 12, 13] rfl)
                                  · refine lv_iconst (v := 1) hx hb dL_law_209 (by decide) ?_
                                    refine lv_goto (tgt := 214) hx hb dL_law_210 (by decide) ?_
                                    cases h
                                    exact J206_ H locs ls hw (lv_sub hl [1, 2, 3, 4, 5, 6, 7, 8, 9, 0, 10, 11, 12, 13] rfl)
                            clear h
                            have h := h9_
                            clear h9_
                            refine mg_icmp_ne (tgt := 188) hx hb h dL_law_181 (by decide) (fun h => ?_) (fun h => ?_)
                            · refine lv_iconst (v := 0) hx hb dL_law_188 (by decide) ?_
                              cases h
                              exact J181_ H locs ls hw (lv_sub hl [1, 2, 3, 4, 5, 6, 7, 8, 0, 10, 11, 12, 13] rfl)
                            · refine lv_iconst (v := 1) hx hb dL_law_184 (by decide) ?_
                              refine lv_goto (tgt := 189) hx hb dL_law_185 (by decide) ?_
                              cases h
                              exact J181_ H locs ls hw (lv_sub hl [1, 2, 3, 4, 5, 6, 7, 8, 0, 10, 11, 12, 13] rfl)
                          clear h
                          have h := h9_
                          clear h9_
                          refine mg_icmp_ne (tgt := 172) hx hb h dL_law_165 (by decide) (fun h => ?_) (fun h => ?_)
                          · refine lv_iconst (v := 0) hx hb dL_law_172 (by decide) ?_
                            cases h
                            exact J165_ H locs ls hw (lv_sub hl [1, 2, 3, 4, 5, 6, 7, 8, 10, 11, 12, 13, 0] rfl)
                          · refine lv_iconst (v := 1) hx hb dL_law_168 (by decide) ?_
                            refine lv_goto (tgt := 173) hx hb dL_law_169 (by decide) ?_
                            cases h
                            exact J165_ H locs ls hw (lv_sub hl [1, 2, 3, 4, 5, 6, 7, 8, 10, 11, 12, 13, 0] rfl)
                    obtain ⟨y19, h9_, h⟩ := mg_bind h
                    refine L142_ 5000 _ _ _ _ _ h9_ (fun H locs ls hw hl => ?_) H locs ls hw (lv_sub hl [1, 2, 3, 4, 5, 6, 7, 8, 9, 10, 11, 12, 0] rfl)
                    clear L142_ h9_
                    refine lv_iinc (v := (x12_132 + 1)) (lv' := [(12, .int (x12_132 + 1)), (0, .ref b), (1, .ref (g 0)), (2, .ref (β2 9 0)), (3, .int x3_22), (4, .int ((y4 >>> (((x3_22 / 16) * 5) &&& 31)) + (59 * x3_22))), (6, .int (nI (y8.2.2 0))), (7, .int v14), (8, .int v16), (9, .int y19.1), (10, .int y19.2.1), (11, .int 0)]) hx hb dL_law_451 hl (k := 11) rfl rfl (by decide) rfl (fun ls hl => ?_)
                    refine lv_goto (tgt := 132) hx hb dL_law_454 (by decide) ?_
                    exact ih _ _ _ _ _ h kc H locs ls hw (lv_sub hl [1, 2, 3, 4, 5, 6, 7, 8, 9, 10, 11, 0] rfl)
              obtain ⟨y18, h9_, h⟩ := mg_bind h
              refine L132_ 5000 _ _ _ _ _ h9_ (fun H locs ls hw hl => ?_) H locs ls hw (lv_sub hl [9, 10, 11, 12, 8, 6, 5, 4, 3, 2, 1, 0] rfl)
              clear L132_ h9_
              refine lv_iload hx hb dL_law_457 (lv_at hl 8 rfl) ?_
              refine lv_aload_n hx hb dL_law_459 rfl (lv_at hl 1 rfl) ?_
              refine lv_iconst (v := 4) hx hb dL_law_460 (by decide) ?_
              refine mg_vxq h (fun v : Int32 => some (.int v)) (fun mc9 ms9 o9 s9 hm9 h9 hc9 hs9 => vx_runV (As := [.int 4]) (rest := [.int y18.1]) G9 (k_X6_count l hst D o (o 53) (o 54) g H.size y18.2.2.2 4 o9 s9 h9 mc9 ms9 hm9) (cwV 1 hts (goodIn_up gL_law_X6_count) rfl rfl rfl (by decide +kernel) ⟨Nat.le_of_ble_eq_true rfl, Nat.le_of_ble_eq_true rfl⟩) (mg_preV (hK.sub (tys' := [(o 53, .int), (o 54, .boolean)]) [0, 1] rfl) hO hA (mg_C_list hw 1 rfl) (q0 := 0) rfl rfl) rfl rfl hl.1 rfl (lv_room (Nat.le_of_ble_eq_true rfl)) dL_law_461 ⟨hc9, hs9⟩) hw hA 1 [0] rfl (Lr := [mg_fS o (β2 9 0) β9 y8.2]) rfl rfl (by decide) (lw_rc (show cl22_ + 9 ≤ 500000 by omega)) (lw_rs (show sl22_ + 83 ≤ 6000000 by omega)) (fun v56 s57 h H locs hw => ?_)
              refine mg_icmp_ne (tgt := 513) hx hb h dL_law_464 (by decide) (fun h => ?_) (fun h => ?_)
              · cases h
              · refine lv_iload hx hb dL_law_467 (lv_at hl 9 rfl) ?_
                refine lv_aload_n hx hb dL_law_469 rfl (lv_at hl 1 rfl) ?_
                refine lv_iconst (v := 3) hx hb dL_law_470 (by decide) ?_
                refine mg_vxq h (fun v : Int32 => some (.int v)) (fun mc9 ms9 o9 s9 hm9 h9 hc9 hs9 => vx_runV (As := [.int 3]) (rest := [.int y18.2.1]) G9 (k_X6_count l hst D o (o 53) (o 54) g H.size s57 3 o9 s9 h9 mc9 ms9 hm9) (cwV 1 hts (goodIn_up gL_law_X6_count) rfl rfl rfl (by decide +kernel) ⟨Nat.le_of_ble_eq_true rfl, Nat.le_of_ble_eq_true rfl⟩) (mg_preV (hK.sub (tys' := [(o 53, .int), (o 54, .boolean)]) [0, 1] rfl) hO hA (mg_C_list hw 1 rfl) (q0 := 0) rfl rfl) rfl rfl hl.1 rfl (lv_room (Nat.le_of_ble_eq_true rfl)) dL_law_471 ⟨hc9, hs9⟩) hw hA 1 [0] rfl (Lr := [mg_fS o (β2 9 0) β9 y8.2]) rfl rfl (by decide) (lw_rc (show cl22_ + 9 ≤ 500000 by omega)) (lw_rs (show sl22_ + 83 ≤ 6000000 by omega)) (fun v58 s59 h H locs hw => ?_)
                refine mg_icmp_ne (tgt := 513) hx hb h dL_law_474 (by decide) (fun h => ?_) (fun h => ?_)
                · cases h
                · refine lv_aload_n hx hb dL_law_477 rfl (lv_at hl 1 rfl) ?_
                  refine lv_iconst (v := 5) hx hb dL_law_478 (by decide) ?_
                  refine mg_vxq h (fun v : Int32 => some (.int v)) (fun mc9 ms9 o9 s9 hm9 h9 hc9 hs9 => vx_runV (As := [.int 5]) (rest := []) G9 (k_X6_count l hst D o (o 53) (o 54) g H.size s59 5 o9 s9 h9 mc9 ms9 hm9) (cwV 1 hts (goodIn_up gL_law_X6_count) rfl rfl rfl (by decide +kernel) ⟨Nat.le_of_ble_eq_true rfl, Nat.le_of_ble_eq_true rfl⟩) (mg_preV (hK.sub (tys' := [(o 53, .int), (o 54, .boolean)]) [0, 1] rfl) hO hA (mg_C_list hw 1 rfl) (q0 := 0) rfl rfl) rfl rfl hl.1 rfl (lv_room (Nat.le_of_ble_eq_true rfl)) dL_law_479 ⟨hc9, hs9⟩) hw hA 1 [0] rfl (Lr := [mg_fS o (β2 9 0) β9 y8.2]) rfl rfl (by decide) (lw_rc (show cl22_ + 9 ≤ 500000 by omega)) (lw_rs (show sl22_ + 83 ≤ 6000000 by omega)) (fun v60 s61 h H locs hw => ?_)
                  refine lv_iload hx hb dL_law_482 (lv_at hl 8 rfl) ?_
                  refine mg_icmp_gt (tgt := 513) hx hb h dL_law_484 (by decide) (fun h => ?_) (fun h => ?_)
                  · cases h
                  · refine lv_aload_n hx hb dL_law_487 rfl (lv_at hl 1 rfl) ?_
                    refine lv_iconst (v := 5) hx hb dL_law_488 (by decide) ?_
                    refine mg_vxq h (fun v : Int32 => some (.int v)) (fun mc9 ms9 o9 s9 hm9 h9 hc9 hs9 => vx_runV (As := [.int 5]) (rest := []) G9 (k_X6_count l hst D o (o 53) (o 54) g H.size s61 5 o9 s9 h9 mc9 ms9 hm9) (cwV 1 hts (goodIn_up gL_law_X6_count) rfl rfl rfl (by decide +kernel) ⟨Nat.le_of_ble_eq_true rfl, Nat.le_of_ble_eq_true rfl⟩) (mg_preV (hK.sub (tys' := [(o 53, .int), (o 54, .boolean)]) [0, 1] rfl) hO hA (mg_C_list hw 1 rfl) (q0 := 0) rfl rfl) rfl rfl hl.1 rfl (lv_room (Nat.le_of_ble_eq_true rfl)) dL_law_489 ⟨hc9, hs9⟩) hw hA 1 [0] rfl (Lr := [mg_fS o (β2 9 0) β9 y8.2]) rfl rfl (by decide) (lw_rc (show cl22_ + 9 ≤ 500000 by omega)) (lw_rs (show sl22_ + 83 ≤ 6000000 by omega)) (fun v62 s63 h H locs hw => ?_)
                    obtain ⟨y64, h9_, h⟩ := mg_bind h
                    have J492_ : ∀ (H : Heap) (locs : List Loc) (ls : Array Slot), mg_Vo D A s.heap H locs ([mg_fS o (β2 9 0) β9 y8.2, mg_fC g (o 53) (o 54) s63]) → lv_has ls 30 [(0, .ref b), (1, .ref (g 0)), (2, .ref (β2 9 0)), (3, .int x3_22), (4, .int ((y4 >>> (((x3_22 / 16) * 5) &&& 31)) + (59 * x3_22))), (6, .int (nI (y8.2.2 0))), (7, .int v14), (8, .int v16), (9, .int y18.1), (11, .int 0)] → W p l e room_1 s m #[Value.ref b] below meth c H locs (cl22_ + 9) (sl22_ + 83) (lw_Z below #[Value.ref b] s) (F0 m 500 ls [.int y64]) := by
                      intro H locs ls hw hl
                      clear h9_
                      refine lv_iload hx hb dL_law_500 (lv_at hl 8 rfl) ?_
                      obtain ⟨y65, h9_, h⟩ := mg_bind h
                      have J502_ : ∀ (H : Heap) (locs : List Loc) (ls : Array Slot), mg_Vo D A s.heap H locs ([mg_fS o (β2 9 0) β9 y8.2, mg_fC g (o 53) (o 54) s63]) → lv_has ls 30 [(0, .ref b), (1, .ref (g 0)), (2, .ref (β2 9 0)), (3, .int x3_22), (4, .int ((y4 >>> (((x3_22 / 16) * 5) &&& 31)) + (59 * x3_22))), (6, .int (nI (y8.2.2 0))), (7, .int v14), (8, .int v16), (11, .int 0)] → W p l e room_1 s m #[Value.ref b] below meth c H locs (cl22_ + 9) (sl22_ + 83) (lw_Z below #[Value.ref b] s) (F0 m 510 ls [.int y65, .int y64]) := by
                        intro H locs ls hw hl
                        clear h9_
                        refine mg_icmp_eq (tgt := 515) hx hb h dL_law_510 (by decide) (fun h => ?_) (fun h => ?_)
                        · refine lv_iload hx hb dL_law_515 (lv_at hl 5 rfl) ?_
                          obtain ⟨n67, h9_, h⟩ := mg_bind h
                          obtain ⟨h8_, h7_, h6_⟩ := mg_nn_of h9_
                          clear h9_
                          refine mg_vnewI (N := n67) (B := 31) hx hb w6_ hK hw hA h8_ h7_ h6_ (Nat.le_of_ble_eq_true rfl) (lw_rc (show cl22_ + 9 + 1 ≤ 500000 by omega)) (lw_rs (show sl22_ + 83 + 31 ≤ 6000000 by omega)) dL_law_517 (fun q66 H hw => ?_)
                          clear h8_ h7_ h6_
                          refine lv_astore (lv' := [(12, .ref q66), (0, .ref b), (1, .ref (g 0)), (2, .ref (β2 9 0)), (3, .int x3_22), (4, .int ((y4 >>> (((x3_22 / 16) * 5) &&& 31)) + (59 * x3_22))), (6, .int (nI (y8.2.2 0))), (7, .int v14), (8, .int v16), (11, .int 0)]) hx hb dL_law_519 hl (by decide) rfl (fun ls hl => ?_)
                          refine lv_iload hx hb dL_law_521 (lv_at hl 6 rfl) ?_
                          obtain ⟨n69, h9_, h⟩ := mg_bind h
                          obtain ⟨h8_, h7_, h6_⟩ := mg_nn_of h9_
                          clear h9_
                          refine mg_vnewZ (N := n69) (B := 31) hx hb w7_ hK hw hA h8_ h7_ h6_ (Nat.le_of_ble_eq_true rfl) (lw_rc (show cl22_ + 10 + 1 ≤ 500000 by omega)) (lw_rs (show sl22_ + 114 + 31 ≤ 6000000 by omega)) dL_law_523 (fun q68 H hw => ?_)
                          clear h8_ h7_ h6_
                          refine lv_astore (lv' := [(13, .ref q68), (12, .ref q66), (0, .ref b), (1, .ref (g 0)), (2, .ref (β2 9 0)), (3, .int x3_22), (4, .int ((y4 >>> (((x3_22 / 16) * 5) &&& 31)) + (59 * x3_22))), (6, .int (nI (y8.2.2 0))), (7, .int v14), (8, .int v16), (11, .int 0)]) hx hb dL_law_525 hl (by decide) rfl (fun ls hl => ?_)
                          refine lv_iconst (v := 0) hx hb dL_law_527 (by decide) ?_
                          refine lv_istore (lv' := [(14, .int 0), (13, .ref q68), (12, .ref q66), (0, .ref b), (1, .ref (g 0)), (2, .ref (β2 9 0)), (3, .int x3_22), (4, .int ((y4 >>> (((x3_22 / 16) * 5) &&& 31)) + (59 * x3_22))), (6, .int (nI (y8.2.2 0))), (7, .int v14), (8, .int v16), (11, .int 0)]) hx hb dL_law_528 hl (by decide) rfl (fun ls hl => ?_)
                          have L530_ : ∀ (n : Nat), ∀ (x11_530 : Int32) (x14_530 : Int32) (cC_530 : mg_St) (cI517_530 : Nat → Int32) (cZ523_530 : Nat → Int32) (y530_ : Int32 × Int32 × mg_St × (Nat → Int32) × (Nat → Int32)), f_L_law_530 xs Ln x3_22 ((y4 >>> (((x3_22 / 16) * 5) &&& 31)) + (59 * x3_22)) (nI (y8.2.2 0)) v14 v16 y8.2 n67 n69 n x11_530 x14_530 cC_530 cI517_530 cZ523_530 = some y530_ → (∀ (H : Heap) (locs : List Loc) (ls : Array Slot), mg_Vo D A s.heap H locs ([mg_fS o (β2 9 0) β9 y8.2, mg_fC g (o 53) (o 54) y530_.2.2.1, mg_fI o q66 n67 y530_.2.2.2.1, mg_fZ o q68 n69 y530_.2.2.2.2]) → lv_has ls 30 [(0, .ref b), (1, .ref (g 0)), (2, .ref (β2 9 0)), (3, .int x3_22), (4, .int ((y4 >>> (((x3_22 / 16) * 5) &&& 31)) + (59 * x3_22))), (6, .int (nI (y8.2.2 0))), (7, .int v14), (8, .int v16), (11, .int y530_.1), (12, .ref q66), (13, .ref q68)] → W p l e room_1 s m #[Value.ref b] below meth c H locs (cl22_ + 11) (sl22_ + 145) (lw_Z below #[Value.ref b] s) (F0 m 715 ls [])) → ∀ (H : Heap) (locs : List Loc) (ls : Array Slot), mg_Vo D A s.heap H locs ([mg_fS o (β2 9 0) β9 y8.2, mg_fC g (o 53) (o 54) cC_530, mg_fI o q66 n67 cI517_530, mg_fZ o q68 n69 cZ523_530]) → lv_has ls 30 [(0, .ref b), (1, .ref (g 0)), (2, .ref (β2 9 0)), (3, .int x3_22), (4, .int ((y4 >>> (((x3_22 / 16) * 5) &&& 31)) + (59 * x3_22))), (6, .int (nI (y8.2.2 0))), (7, .int v14), (8, .int v16), (11, .int x11_530), (12, .ref q66), (13, .ref q68), (14, .int x14_530)] → W p l e room_1 s m #[Value.ref b] below meth c H locs (cl22_ + 11) (sl22_ + 145) (lw_Z below #[Value.ref b] s) (F0 m 530 ls []) := by
                            intro n
                            induction n with
                            | zero => intro x11_530 x14_530 cC_530 cI517_530 cZ523_530 y530_ h; rw [f_L_law_530] at h; cases h
                            | succ n ih =>
                              intro x11_530 x14_530 cC_530 cI517_530 cZ523_530 y530_ h kc H locs ls hw hl
                              rw [f_L_law_530] at h
                              refine lv_iload hx hb dL_law_530 (lv_at hl 11 rfl) ?_
                              refine lv_iload hx hb dL_law_532 (lv_at hl 5 rfl) ?_
                              refine mg_icmp_ge (tgt := 715) hx hb h dL_law_534 (by decide) (fun h => ?_) (fun h => ?_)
                              · cases h
                                exact kc H locs ls hw (lv_sub hl [0, 1, 2, 3, 4, 5, 6, 7, 8, 9, 10] rfl)
                              · refine lv_aload hx hb dL_law_537 (lv_at hl 9 rfl) ?_
                                refine lv_iload hx hb dL_law_539 (lv_at hl 11 rfl) ?_
                                refine lv_aload_n hx hb dL_law_541 rfl (lv_at hl 1 rfl) ?_
                                refine lv_iload hx hb dL_law_542 (lv_at hl 11 rfl) ?_
                                refine lv_iconst (v := 2) hx hb dL_law_544 (by decide) ?_
                                refine mg_vxq h (fun v : Int32 => some (.int v)) (fun mc9 ms9 o9 s9 hm9 h9 hc9 hs9 => vx_runV (As := [.int x14_530, .int 2]) (rest := [.int x14_530, .ref q66]) G9 (k_X6_told l hst D o (o 53) (o 54) g H.size cC_530 x14_530 2 o9 s9 h9 mc9 ms9 hm9) (cwV 2 hts (goodIn_up gL_law_X6_told) rfl rfl rfl (by decide +kernel) ⟨Nat.le_of_ble_eq_true rfl, Nat.le_of_ble_eq_true rfl⟩) (mg_preV (hK.sub (tys' := [(o 53, .int), (o 54, .boolean)]) [0, 1] rfl) hO hA (mg_C_list hw 1 rfl) (q0 := 0) rfl rfl) rfl rfl hl.1 rfl (lv_room (Nat.le_of_ble_eq_true rfl)) dL_law_545 ⟨hc9, hs9⟩) hw hA 1 [0, 2, 3] rfl (Lr := [mg_fS o (β2 9 0) β9 y8.2, mg_fI o q66 n67 cI517_530, mg_fZ o q68 n69 cZ523_530]) rfl rfl (by decide) (lw_rc (show cl22_ + 11 ≤ 500000 by omega)) (lw_rs (show sl22_ + 145 ≤ 6000000 by omega)) (fun v71 s72 h H locs hw => ?_)
                                refine mg_iasd (F' := fun x9_ => mg_fI o q66 n67 (upd cI517_530 x9_ v71)) hx hb hK hw 1 rfl mg_fI_0 (fun _ => mg_sI) h dL_law_548 (fun j73 hj73_ h H locs hw => ?_)
                                refine lv_aload_n hx hb dL_law_549 rfl (lv_at hl 1 rfl) ?_
                                refine lv_iload hx hb dL_law_550 (lv_at hl 11 rfl) ?_
                                refine lv_iconst (v := 3) hx hb dL_law_552 (by decide) ?_
                                refine mg_vxq h (fun v : Int32 => some (.int v)) (fun mc9 ms9 o9 s9 hm9 h9 hc9 hs9 => vx_runV (As := [.int x14_530, .int 3]) (rest := []) G9 (k_X6_told l hst D o (o 53) (o 54) g H.size s72 x14_530 3 o9 s9 h9 mc9 ms9 hm9) (cwV 2 hts (goodIn_up gL_law_X6_told) rfl rfl rfl (by decide +kernel) ⟨Nat.le_of_ble_eq_true rfl, Nat.le_of_ble_eq_true rfl⟩) (mg_preV (hK.sub (tys' := [(o 53, .int), (o 54, .boolean)]) [0, 1] rfl) hO hA (mg_C_list hw 3 rfl) (q0 := 0) rfl rfl) rfl rfl hl.1 rfl (lv_room (Nat.le_of_ble_eq_true rfl)) dL_law_553 ⟨hc9, hs9⟩) hw hA 3 [0, 1, 2] rfl (Lr := [mg_fS o (β2 9 0) β9 y8.2, mg_fI o q66 n67 (upd cI517_530 j73 v71), mg_fZ o q68 n69 cZ523_530]) rfl rfl (by decide) (lw_rc (show cl22_ + 11 ≤ 500000 by omega)) (lw_rs (show sl22_ + 145 ≤ 6000000 by omega)) (fun v74 s75 h H locs hw => ?_)
                                refine lv_iconst (v := 1) hx hb dL_law_556 (by decide) ?_
                                obtain ⟨y76, h9_, h⟩ := mg_bind h
                                have J557_ : ∀ (H : Heap) (locs : List Loc) (ls : Array Slot), mg_Vo D A s.heap H locs ([mg_fS o (β2 9 0) β9 y8.2, mg_fI o q66 n67 (upd cI517_530 j73 v71), mg_fZ o q68 n69 cZ523_530, mg_fC g (o 53) (o 54) s75]) → lv_has ls 30 [(0, .ref b), (1, .ref (g 0)), (2, .ref (β2 9 0)), (3, .int x3_22), (4, .int ((y4 >>> (((x3_22 / 16) * 5) &&& 31)) + (59 * x3_22))), (6, .int (nI (y8.2.2 0))), (7, .int v14), (8, .int v16), (11, .int x11_530), (12, .ref q66), (13, .ref q68), (14, .int x14_530)] → W p l e room_1 s m #[Value.ref b] below meth c H locs (cl22_ + 11) (sl22_ + 145) (lw_Z below #[Value.ref b] s) (F0 m 565 ls [.int y76]) := by
                                  intro H locs ls hw hl
                                  clear h9_
                                  refine lv_istore (lv' := [(15, .int y76), (0, .ref b), (1, .ref (g 0)), (2, .ref (β2 9 0)), (3, .int x3_22), (4, .int ((y4 >>> (((x3_22 / 16) * 5) &&& 31)) + (59 * x3_22))), (6, .int (nI (y8.2.2 0))), (7, .int v14), (8, .int v16), (11, .int x11_530), (12, .ref q66), (13, .ref q68), (14, .int x14_530)]) hx hb dL_law_565 hl (by decide) rfl (fun ls hl => ?_)
                                  refine lv_iload hx hb dL_law_567 (lv_at hl 9 rfl) ?_
                                  refine lv_iload hx hb dL_law_569 (lv_at hl 0 rfl) ?_
                                  obtain ⟨y77, h9_, h⟩ := mg_bind h
                                  have J571_ : ∀ (H : Heap) (locs : List Loc) (ls : Array Slot), mg_Vo D A s.heap H locs ([mg_fS o (β2 9 0) β9 y8.2, mg_fI o q66 n67 (upd cI517_530 j73 v71), mg_fZ o q68 n69 cZ523_530, mg_fC g (o 53) (o 54) s75]) → lv_has ls 30 [(0, .ref b), (1, .ref (g 0)), (2, .ref (β2 9 0)), (3, .int x3_22), (4, .int ((y4 >>> (((x3_22 / 16) * 5) &&& 31)) + (59 * x3_22))), (6, .int (nI (y8.2.2 0))), (7, .int v14), (8, .int v16), (12, .ref q66), (13, .ref q68), (14, .int x14_530), (15, .int y76)] → W p l e room_1 s m #[Value.ref b] below meth c H locs (cl22_ + 11) (sl22_ + 145) (lw_Z below #[Value.ref b] s) (F0 m 579 ls [.int y77, .int x11_530]) := by
                                    intro H locs ls hw hl
                                    clear h9_
                                    refine lv_iadd hx hb dL_law_579 ?_
                                    refine lv_istore (lv' := [(11, .int (x11_530 + y77)), (0, .ref b), (1, .ref (g 0)), (2, .ref (β2 9 0)), (3, .int x3_22), (4, .int ((y4 >>> (((x3_22 / 16) * 5) &&& 31)) + (59 * x3_22))), (6, .int (nI (y8.2.2 0))), (7, .int v14), (8, .int v16), (12, .ref q66), (13, .ref q68), (14, .int x14_530), (15, .int y76)]) hx hb dL_law_580 hl (by decide) rfl (fun ls hl => ?_)
                                    refine lv_aload hx hb dL_law_582 (lv_at hl 9 rfl) ?_
                                    refine lv_iload hx hb dL_law_584 (lv_at hl 11 rfl) ?_
                                    refine mg_ialx hx hb hK hw 1 rfl mg_fI_0 h dL_law_586 (fun j78 hj78_ h => ?_)
                                    refine lv_iconst (v := 1) hx hb dL_law_587 (by decide) ?_
                                    refine mg_icmp_lt (tgt := 649) hx hb h dL_law_588 (by decide) (fun h => ?_) (fun h => ?_)
                                    · cases h
                                    · refine lv_aload hx hb dL_law_591 (lv_at hl 9 rfl) ?_
                                      refine lv_iload hx hb dL_law_593 (lv_at hl 11 rfl) ?_
                                      refine mg_ialx hx hb hK hw 1 rfl mg_fI_0 h dL_law_595 (fun j79 hj79_ h => ?_)
                                      refine lv_bipush (v := 40) hx hb dL_law_596 (by decide) ?_
                                      refine mg_icmp_gt (tgt := 649) hx hb h dL_law_598 (by decide) (fun h => ?_) (fun h => ?_)
                                      · cases h
                                      · refine lv_iload hx hb dL_law_601 (lv_at hl 12 rfl) ?_
                                        refine lv_aload_n hx hb dL_law_603 rfl (lv_at hl 2 rfl) ?_
                                        refine lv_iload hx hb dL_law_604 (lv_at hl 11 rfl) ?_
                                        refine lv_iconst (v := 4) hx hb dL_law_606 (by decide) ?_
                                        refine mg_vxq h (fun v : Int32 => some (.int v)) (fun mc9 ms9 o9 s9 hm9 h9 hc9 hs9 => vx_runV (As := [.int x14_530, .int 4]) (rest := [.int y76]) G9 (k_X6_told l hst D o (o 53) (o 54) g H.size s75 x14_530 4 o9 s9 h9 mc9 ms9 hm9) (cwV 2 hts (goodIn_up gL_law_X6_told) rfl rfl rfl (by decide +kernel) ⟨Nat.le_of_ble_eq_true rfl, Nat.le_of_ble_eq_true rfl⟩) (mg_preV (hK.sub (tys' := [(o 53, .int), (o 54, .boolean)]) [0, 1] rfl) hO hA (mg_C_list hw 3 rfl) (q0 := 0) rfl rfl) rfl rfl hl.1 rfl (lv_room (Nat.le_of_ble_eq_true rfl)) dL_law_607 ⟨hc9, hs9⟩) hw hA 3 [0, 1, 2] rfl (Lr := [mg_fS o (β2 9 0) β9 y8.2, mg_fI o q66 n67 (upd cI517_530 j73 v71), mg_fZ o q68 n69 cZ523_530]) rfl rfl (by decide) (lw_rc (show cl22_ + 11 ≤ 500000 by omega)) (lw_rs (show sl22_ + 145 ≤ 6000000 by omega)) (fun v80 s81 h H locs hw => ?_)
                                        obtain ⟨y82, h9_, h⟩ := mg_bind h
                                        have J610_ : ∀ (H : Heap) (locs : List Loc) (ls : Array Slot), mg_Vo D A s.heap H locs ([mg_fS o (β2 9 0) β9 y8.2, mg_fI o q66 n67 (upd cI517_530 j73 v71), mg_fZ o q68 n69 cZ523_530, mg_fC g (o 53) (o 54) s81]) → lv_has ls 30 [(0, .ref b), (1, .ref (g 0)), (2, .ref (β2 9 0)), (3, .int x3_22), (4, .int ((y4 >>> (((x3_22 / 16) * 5) &&& 31)) + (59 * x3_22))), (6, .int (nI (y8.2.2 0))), (7, .int v14), (8, .int v16), (11, .int (x11_530 + y77)), (12, .ref q66), (13, .ref q68), (14, .int x14_530), (15, .int y76)] → W p l e room_1 s m #[Value.ref b] below meth c H locs (cl22_ + 11) (sl22_ + 145) (lw_Z below #[Value.ref b] s) (F0 m 618 ls [.int y82, .int y76]) := by
                                          intro H locs ls hw hl
                                          clear h9_
                                          refine mg_icmp_ne (tgt := 649) hx hb h dL_law_618 (by decide) (fun h => ?_) (fun h => ?_)
                                          · cases h
                                          · refine lv_iload hx hb dL_law_621 (lv_at hl 12 rfl) ?_
                                            obtain ⟨y83, h9_, h⟩ := mg_bind h
                                            have J623_ : ∀ (H : Heap) (locs : List Loc) (ls : Array Slot), mg_Vo D A s.heap H locs ([mg_fS o (β2 9 0) β9 y8.2, mg_fI o q66 n67 (upd cI517_530 j73 v71), mg_fZ o q68 n69 cZ523_530, mg_fC g (o 53) (o 54) y83]) → lv_has ls 30 [(0, .ref b), (1, .ref (g 0)), (2, .ref (β2 9 0)), (3, .int x3_22), (4, .int ((y4 >>> (((x3_22 / 16) * 5) &&& 31)) + (59 * x3_22))), (6, .int (nI (y8.2.2 0))), (7, .int v14), (8, .int v16), (11, .int (x11_530 + y77)), (12, .ref q66), (13, .ref q68), (14, .int x14_530), (15, .int y76)] → W p l e room_1 s m #[Value.ref b] below meth c H locs (cl22_ + 11) (sl22_ + 145) (lw_Z below #[Value.ref b] s) (F0 m 651 ls []) := by
                                              intro H locs ls hw hl
                                              clear h9_
                                              refine lv_aload hx hb dL_law_651 (lv_at hl 10 rfl) ?_
                                              refine lv_iload hx hb dL_law_653 (lv_at hl 11 rfl) ?_
                                              refine lv_iload hx hb dL_law_655 (lv_at hl 12 rfl) ?_
                                              refine mg_if_ne (tgt := 707) hx hb h dL_law_657 (by decide) (fun h => ?_) (fun h => ?_)
                                              · refine lv_iconst (v := 0) hx hb dL_law_707 (by decide) ?_
                                                refine mg_zasd (F' := fun x9_ => mg_fZ o q68 n69 (upd cZ523_530 x9_ (vp_nar .boolean 0))) hx hb hK hw 2 rfl mg_fZ_0 (fun _ => mg_sZ) h dL_law_708 (fun j90 hj90_ h H locs hw => ?_)
                                                refine lv_iinc (v := (x14_530 + 1)) (lv' := [(14, .int (x14_530 + 1)), (0, .ref b), (1, .ref (g 0)), (2, .ref (β2 9 0)), (3, .int x3_22), (4, .int ((y4 >>> (((x3_22 / 16) * 5) &&& 31)) + (59 * x3_22))), (6, .int (nI (y8.2.2 0))), (7, .int v14), (8, .int v16), (11, .int (x11_530 + y77)), (12, .ref q66), (13, .ref q68), (15, .int y76)]) hx hb dL_law_709 hl (k := 11) rfl rfl (by decide) rfl (fun ls hl => ?_)
                                                refine lv_goto (tgt := 530) hx hb dL_law_712 (by decide) ?_
                                                exact ih _ _ _ _ _ _ h kc H locs ls (mg_Vsub hw [0, 3, 1, 2] rfl rfl) (lv_sub hl [1, 2, 3, 4, 5, 6, 7, 8, 9, 10, 11, 0] rfl)
                                              · refine lv_aload_n hx hb dL_law_660 rfl (lv_at hl 1 rfl) ?_
                                                refine lv_aload_n hx hb dL_law_661 rfl (lv_at hl 1 rfl) ?_
                                                refine lv_iload hx hb dL_law_662 (lv_at hl 11 rfl) ?_
                                                refine lv_iconst (v := 0) hx hb dL_law_664 (by decide) ?_
                                                refine mg_vxq h (fun v : Int32 => some (.int v)) (fun mc9 ms9 o9 s9 hm9 h9 hc9 hs9 => vx_runV (As := [.int x14_530, .int 0]) (rest := [.ref (g 0), .int x14_530, .ref q68]) G9 (k_X6_told l hst D o (o 53) (o 54) g H.size y83 x14_530 0 o9 s9 h9 mc9 ms9 hm9) (cwV 2 hts (goodIn_up gL_law_X6_told) rfl rfl rfl (by decide +kernel) ⟨Nat.le_of_ble_eq_true rfl, Nat.le_of_ble_eq_true rfl⟩) (mg_preV (hK.sub (tys' := [(o 53, .int), (o 54, .boolean)]) [0, 1] rfl) hO hA (mg_C_list hw 3 rfl) (q0 := 0) rfl rfl) rfl rfl hl.1 rfl (lv_room (Nat.le_of_ble_eq_true rfl)) dL_law_665 ⟨hc9, hs9⟩) hw hA 3 [0, 1, 2] rfl (Lr := [mg_fS o (β2 9 0) β9 y8.2, mg_fI o q66 n67 (upd cI517_530 j73 v71), mg_fZ o q68 n69 cZ523_530]) rfl rfl (by decide) (lw_rc (show cl22_ + 11 ≤ 500000 by omega)) (lw_rs (show sl22_ + 145 ≤ 6000000 by omega)) (fun v91 s92 h H locs hw => ?_)
                                                refine lv_aload_n hx hb dL_law_668 rfl (lv_at hl 1 rfl) ?_
                                                refine lv_iload hx hb dL_law_669 (lv_at hl 11 rfl) ?_
                                                refine lv_iconst (v := 1) hx hb dL_law_671 (by decide) ?_
                                                refine mg_vxq h (fun v : Int32 => some (.int v)) (fun mc9 ms9 o9 s9 hm9 h9 hc9 hs9 => vx_runV (As := [.int x14_530, .int 1]) (rest := [.int v91, .ref (g 0), .int x14_530, .ref q68]) G9 (k_X6_told l hst D o (o 53) (o 54) g H.size s92 x14_530 1 o9 s9 h9 mc9 ms9 hm9) (cwV 2 hts (goodIn_up gL_law_X6_told) rfl rfl rfl (by decide +kernel) ⟨Nat.le_of_ble_eq_true rfl, Nat.le_of_ble_eq_true rfl⟩) (mg_preV (hK.sub (tys' := [(o 53, .int), (o 54, .boolean)]) [0, 1] rfl) hO hA (mg_C_list hw 3 rfl) (q0 := 0) rfl rfl) rfl rfl hl.1 rfl (lv_room (Nat.le_of_ble_eq_true rfl)) dL_law_672 ⟨hc9, hs9⟩) hw hA 3 [0, 1, 2] rfl (Lr := [mg_fS o (β2 9 0) β9 y8.2, mg_fI o q66 n67 (upd cI517_530 j73 v71), mg_fZ o q68 n69 cZ523_530]) rfl rfl (by decide) (lw_rc (show cl22_ + 11 ≤ 500000 by omega)) (lw_rs (show sl22_ + 145 ≤ 6000000 by omega)) (fun v93 s94 h H locs hw => ?_)
                                                refine lv_iconst (v := 4) hx hb dL_law_675 (by decide) ?_
                                                refine mg_vxq h (fun v : Int32 => some (.int v)) (fun mc9 ms9 o9 s9 hm9 h9 hc9 hs9 => vx_runV (As := [.int v91, .int v93, .int 4]) (rest := [.int x14_530, .ref q68]) G9 (k_X6_cell l hst D o (o 53) (o 54) g H.size s94 v91 v93 4 o9 s9 h9 mc9 ms9 hm9) (cwV 3 hts (goodIn_up gL_law_X6_cell) rfl rfl rfl (by decide +kernel) ⟨Nat.le_of_ble_eq_true rfl, Nat.le_of_ble_eq_true rfl⟩) (mg_preV (hK.sub (tys' := [(o 53, .int), (o 54, .boolean)]) [0, 1] rfl) hO hA (mg_C_list hw 3 rfl) (q0 := 0) rfl rfl) rfl rfl hl.1 rfl (lv_room (Nat.le_of_ble_eq_true rfl)) dL_law_676 ⟨hc9, hs9⟩) hw hA 3 [0, 1, 2] rfl (Lr := [mg_fS o (β2 9 0) β9 y8.2, mg_fI o q66 n67 (upd cI517_530 j73 v71), mg_fZ o q68 n69 cZ523_530]) rfl rfl (by decide) (lw_rc (show cl22_ + 11 ≤ 500000 by omega)) (lw_rs (show sl22_ + 145 ≤ 6000000 by omega)) (fun v95 s96 h H locs hw => ?_)
                                                refine lv_iconst (v := 2) hx hb dL_law_679 (by decide) ?_
                                                refine lv_aload_n hx hb dL_law_680 rfl (lv_at hl 1 rfl) ?_
                                                refine lv_aload_n hx hb dL_law_681 rfl (lv_at hl 1 rfl) ?_
                                                refine lv_iload hx hb dL_law_682 (lv_at hl 11 rfl) ?_
                                                refine lv_iconst (v := 0) hx hb dL_law_684 (by decide) ?_
                                                refine mg_vxq h (fun v : Int32 => some (.int v)) (fun mc9 ms9 o9 s9 hm9 h9 hc9 hs9 => vx_runV (As := [.int x14_530, .int 0]) (rest := [.ref (g 0), .int 2, .int v95, .int x14_530, .ref q68]) G9 (k_X6_told l hst D o (o 53) (o 54) g H.size s96 x14_530 0 o9 s9 h9 mc9 ms9 hm9) (cwV 2 hts (goodIn_up gL_law_X6_told) rfl rfl rfl (by decide +kernel) ⟨Nat.le_of_ble_eq_true rfl, Nat.le_of_ble_eq_true rfl⟩) (mg_preV (hK.sub (tys' := [(o 53, .int), (o 54, .boolean)]) [0, 1] rfl) hO hA (mg_C_list hw 3 rfl) (q0 := 0) rfl rfl) rfl rfl hl.1 rfl (lv_room (Nat.le_of_ble_eq_true rfl)) dL_law_685 ⟨hc9, hs9⟩) hw hA 3 [0, 1, 2] rfl (Lr := [mg_fS o (β2 9 0) β9 y8.2, mg_fI o q66 n67 (upd cI517_530 j73 v71), mg_fZ o q68 n69 cZ523_530]) rfl rfl (by decide) (lw_rc (show cl22_ + 11 ≤ 500000 by omega)) (lw_rs (show sl22_ + 145 ≤ 6000000 by omega)) (fun v97 s98 h H locs hw => ?_)
                                                refine lv_aload_n hx hb dL_law_688 rfl (lv_at hl 1 rfl) ?_
                                                refine lv_iload hx hb dL_law_689 (lv_at hl 11 rfl) ?_
                                                refine lv_iconst (v := 1) hx hb dL_law_691 (by decide) ?_
                                                refine mg_vxq h (fun v : Int32 => some (.int v)) (fun mc9 ms9 o9 s9 hm9 h9 hc9 hs9 => vx_runV (As := [.int x14_530, .int 1]) (rest := [.int v97, .ref (g 0), .int 2, .int v95, .int x14_530, .ref q68]) G9 (k_X6_told l hst D o (o 53) (o 54) g H.size s98 x14_530 1 o9 s9 h9 mc9 ms9 hm9) (cwV 2 hts (goodIn_up gL_law_X6_told) rfl rfl rfl (by decide +kernel) ⟨Nat.le_of_ble_eq_true rfl, Nat.le_of_ble_eq_true rfl⟩) (mg_preV (hK.sub (tys' := [(o 53, .int), (o 54, .boolean)]) [0, 1] rfl) hO hA (mg_C_list hw 3 rfl) (q0 := 0) rfl rfl) rfl rfl hl.1 rfl (lv_room (Nat.le_of_ble_eq_true rfl)) dL_law_692 ⟨hc9, hs9⟩) hw hA 3 [0, 1, 2] rfl (Lr := [mg_fS o (β2 9 0) β9 y8.2, mg_fI o q66 n67 (upd cI517_530 j73 v71), mg_fZ o q68 n69 cZ523_530]) rfl rfl (by decide) (lw_rc (show cl22_ + 11 ≤ 500000 by omega)) (lw_rs (show sl22_ + 145 ≤ 6000000 by omega)) (fun v99 s100 h H locs hw => ?_)
                                                refine lv_iconst (v := 3) hx hb dL_law_695 (by decide) ?_
                                                refine mg_vxq h (fun v : Int32 => some (.int v)) (fun mc9 ms9 o9 s9 hm9 h9 hc9 hs9 => vx_runV (As := [.int v97, .int v99, .int 3]) (rest := [.int 2, .int v95, .int x14_530, .ref q68]) G9 (k_X6_cell l hst D o (o 53) (o 54) g H.size s100 v97 v99 3 o9 s9 h9 mc9 ms9 hm9) (cwV 3 hts (goodIn_up gL_law_X6_cell) rfl rfl rfl (by decide +kernel) ⟨Nat.le_of_ble_eq_true rfl, Nat.le_of_ble_eq_true rfl⟩) (mg_preV (hK.sub (tys' := [(o 53, .int), (o 54, .boolean)]) [0, 1] rfl) hO hA (mg_C_list hw 3 rfl) (q0 := 0) rfl rfl) rfl rfl hl.1 rfl (lv_room (Nat.le_of_ble_eq_true rfl)) dL_law_696 ⟨hc9, hs9⟩) hw hA 3 [0, 1, 2] rfl (Lr := [mg_fS o (β2 9 0) β9 y8.2, mg_fI o q66 n67 (upd cI517_530 j73 v71), mg_fZ o q68 n69 cZ523_530]) rfl rfl (by decide) (lw_rc (show cl22_ + 11 ≤ 500000 by omega)) (lw_rs (show sl22_ + 145 ≤ 6000000 by omega)) (fun v101 s102 h H locs hw => ?_)
                                                refine lv_imul hx hb dL_law_699 ?_
                                                refine mg_icmp_gt (tgt := 707) hx hb h dL_law_700 (by decide) (fun h => ?_) (fun h => ?_)
                                                · refine lv_iconst (v := 0) hx hb dL_law_707 (by decide) ?_
                                                  refine mg_zasd (F' := fun x9_ => mg_fZ o q68 n69 (upd cZ523_530 x9_ (vp_nar .boolean 0))) hx hb hK hw 2 rfl mg_fZ_0 (fun _ => mg_sZ) h dL_law_708 (fun j103 hj103_ h H locs hw => ?_)
                                                  refine lv_iinc (v := (x14_530 + 1)) (lv' := [(14, .int (x14_530 + 1)), (0, .ref b), (1, .ref (g 0)), (2, .ref (β2 9 0)), (3, .int x3_22), (4, .int ((y4 >>> (((x3_22 / 16) * 5) &&& 31)) + (59 * x3_22))), (6, .int (nI (y8.2.2 0))), (7, .int v14), (8, .int v16), (11, .int (x11_530 + y77)), (12, .ref q66), (13, .ref q68), (15, .int y76)]) hx hb dL_law_709 hl (k := 11) rfl rfl (by decide) rfl (fun ls hl => ?_)
                                                  refine lv_goto (tgt := 530) hx hb dL_law_712 (by decide) ?_
                                                  exact ih _ _ _ _ _ _ h kc H locs ls (mg_Vsub hw [0, 3, 1, 2] rfl rfl) (lv_sub hl [1, 2, 3, 4, 5, 6, 7, 8, 9, 10, 11, 0] rfl)
                                                · refine lv_iconst (v := 1) hx hb dL_law_703 (by decide) ?_
                                                  refine lv_goto (tgt := 708) hx hb dL_law_704 (by decide) ?_
                                                  refine mg_zasd (F' := fun x9_ => mg_fZ o q68 n69 (upd cZ523_530 x9_ (vp_nar .boolean 1))) hx hb hK hw 2 rfl mg_fZ_0 (fun _ => mg_sZ) h dL_law_708 (fun j104 hj104_ h H locs hw => ?_)
                                                  refine lv_iinc (v := (x14_530 + 1)) (lv' := [(14, .int (x14_530 + 1)), (0, .ref b), (1, .ref (g 0)), (2, .ref (β2 9 0)), (3, .int x3_22), (4, .int ((y4 >>> (((x3_22 / 16) * 5) &&& 31)) + (59 * x3_22))), (6, .int (nI (y8.2.2 0))), (7, .int v14), (8, .int v16), (11, .int (x11_530 + y77)), (12, .ref q66), (13, .ref q68), (15, .int y76)]) hx hb dL_law_709 hl (k := 11) rfl rfl (by decide) rfl (fun ls hl => ?_)
                                                  refine lv_goto (tgt := 530) hx hb dL_law_712 (by decide) ?_
                                                  exact ih _ _ _ _ _ _ h kc H locs ls (mg_Vsub hw [0, 3, 1, 2] rfl rfl) (lv_sub hl [1, 2, 3, 4, 5, 6, 7, 8, 9, 10, 11, 0] rfl)
                                            clear h
                                            have h := h9_
                                            clear h9_
                                            refine mg_if_ne (tgt := 651) hx hb h dL_law_623 (by decide) (fun h => ?_) (fun h => ?_)
                                            · cases h
                                              exact J623_ H locs ls hw (lv_sub hl [0, 1, 2, 3, 4, 5, 6, 7, 8, 9, 10, 11, 12] rfl)
                                            · refine lv_aload_n hx hb dL_law_626 rfl (lv_at hl 1 rfl) ?_
                                              refine lv_aload_n hx hb dL_law_627 rfl (lv_at hl 1 rfl) ?_
                                              refine lv_iload hx hb dL_law_628 (lv_at hl 11 rfl) ?_
                                              refine lv_iconst (v := 0) hx hb dL_law_630 (by decide) ?_
                                              refine mg_vxq h (fun v : Int32 => some (.int v)) (fun mc9 ms9 o9 s9 hm9 h9 hc9 hs9 => vx_runV (As := [.int x14_530, .int 0]) (rest := [.ref (g 0)]) G9 (k_X6_told l hst D o (o 53) (o 54) g H.size s81 x14_530 0 o9 s9 h9 mc9 ms9 hm9) (cwV 2 hts (goodIn_up gL_law_X6_told) rfl rfl rfl (by decide +kernel) ⟨Nat.le_of_ble_eq_true rfl, Nat.le_of_ble_eq_true rfl⟩) (mg_preV (hK.sub (tys' := [(o 53, .int), (o 54, .boolean)]) [0, 1] rfl) hO hA (mg_C_list hw 3 rfl) (q0 := 0) rfl rfl) rfl rfl hl.1 rfl (lv_room (Nat.le_of_ble_eq_true rfl)) dL_law_631 ⟨hc9, hs9⟩) hw hA 3 [0, 1, 2] rfl (Lr := [mg_fS o (β2 9 0) β9 y8.2, mg_fI o q66 n67 (upd cI517_530 j73 v71), mg_fZ o q68 n69 cZ523_530]) rfl rfl (by decide) (lw_rc (show cl22_ + 11 ≤ 500000 by omega)) (lw_rs (show sl22_ + 145 ≤ 6000000 by omega)) (fun v84 s85 h H locs hw => ?_)
                                              refine lv_aload_n hx hb dL_law_634 rfl (lv_at hl 1 rfl) ?_
                                              refine lv_iload hx hb dL_law_635 (lv_at hl 11 rfl) ?_
                                              refine lv_iconst (v := 1) hx hb dL_law_637 (by decide) ?_
                                              refine mg_vxq h (fun v : Int32 => some (.int v)) (fun mc9 ms9 o9 s9 hm9 h9 hc9 hs9 => vx_runV (As := [.int x14_530, .int 1]) (rest := [.int v84, .ref (g 0)]) G9 (k_X6_told l hst D o (o 53) (o 54) g H.size s85 x14_530 1 o9 s9 h9 mc9 ms9 hm9) (cwV 2 hts (goodIn_up gL_law_X6_told) rfl rfl rfl (by decide +kernel) ⟨Nat.le_of_ble_eq_true rfl, Nat.le_of_ble_eq_true rfl⟩) (mg_preV (hK.sub (tys' := [(o 53, .int), (o 54, .boolean)]) [0, 1] rfl) hO hA (mg_C_list hw 3 rfl) (q0 := 0) rfl rfl) rfl rfl hl.1 rfl (lv_room (Nat.le_of_ble_eq_true rfl)) dL_law_638 ⟨hc9, hs9⟩) hw hA 3 [0, 1, 2] rfl (Lr := [mg_fS o (β2 9 0) β9 y8.2, mg_fI o q66 n67 (upd cI517_530 j73 v71), mg_fZ o q68 n69 cZ523_530]) rfl rfl (by decide) (lw_rc (show cl22_ + 11 ≤ 500000 by omega)) (lw_rs (show sl22_ + 145 ≤ 6000000 by omega)) (fun v86 s87 h H locs hw => ?_)
                                              refine lv_iconst (v := 0) hx hb dL_law_641 (by decide) ?_
                                              refine mg_vxq h (fun v : Int32 => some (.int v)) (fun mc9 ms9 o9 s9 hm9 h9 hc9 hs9 => vx_runV (As := [.int v84, .int v86, .int 0]) (rest := []) G9 (k_X6_cell l hst D o (o 53) (o 54) g H.size s87 v84 v86 0 o9 s9 h9 mc9 ms9 hm9) (cwV 3 hts (goodIn_up gL_law_X6_cell) rfl rfl rfl (by decide +kernel) ⟨Nat.le_of_ble_eq_true rfl, Nat.le_of_ble_eq_true rfl⟩) (mg_preV (hK.sub (tys' := [(o 53, .int), (o 54, .boolean)]) [0, 1] rfl) hO hA (mg_C_list hw 3 rfl) (q0 := 0) rfl rfl) rfl rfl hl.1 rfl (lv_room (Nat.le_of_ble_eq_true rfl)) dL_law_642 ⟨hc9, hs9⟩) hw hA 3 [0, 1, 2] rfl (Lr := [mg_fS o (β2 9 0) β9 y8.2, mg_fI o q66 n67 (upd cI517_530 j73 v71), mg_fZ o q68 n69 cZ523_530]) rfl rfl (by decide) (lw_rc (show cl22_ + 11 ≤ 500000 by omega)) (lw_rs (show sl22_ + 145 ≤ 6000000 by omega)) (fun v88 s89 h H locs hw => ?_)
                                              refine lv_iconst (v := 2) hx hb dL_law_645 (by decide) ?_
                                              refine mg_icmp_eq (tgt := 651) hx hb h dL_law_646 (by decide) (fun h => ?_) (fun h => ?_)
                                              · cases h
                                                exact J623_ H locs ls hw (lv_sub hl [0, 1, 2, 3, 4, 5, 6, 7, 8, 9, 10, 11, 12] rfl)
                                              · cases h
                                        clear h
                                        have h := h9_
                                        clear h9_
                                        refine mg_if_ne (tgt := 617) hx hb h dL_law_610 (by decide) (fun h => ?_) (fun h => ?_)
                                        · refine lv_iconst (v := 0) hx hb dL_law_617 (by decide) ?_
                                          cases h
                                          exact J610_ H locs ls hw (lv_sub hl [1, 2, 3, 4, 5, 6, 7, 8, 0, 9, 10, 11, 12] rfl)
                                        · refine lv_iconst (v := 1) hx hb dL_law_613 (by decide) ?_
                                          refine lv_goto (tgt := 618) hx hb dL_law_614 (by decide) ?_
                                          cases h
                                          exact J610_ H locs ls hw (lv_sub hl [1, 2, 3, 4, 5, 6, 7, 8, 0, 9, 10, 11, 12] rfl)
                                  clear h
                                  have h := h9_
                                  clear h9_
                                  refine mg_if_eq (tgt := 578) hx hb h dL_law_571 (by decide) (fun h => ?_) (fun h => ?_)
                                  · refine lv_iconst (v := 1) hx hb dL_law_578 (by decide) ?_
                                    cases h
                                    exact J571_ H locs ls hw (lv_sub hl [1, 2, 3, 4, 5, 6, 7, 8, 10, 11, 12, 0] rfl)
                                  · refine lv_iconst (v := 0) hx hb dL_law_574 (by decide) ?_
                                    refine lv_goto (tgt := 579) hx hb dL_law_575 (by decide) ?_
                                    cases h
                                    exact J571_ H locs ls hw (lv_sub hl [1, 2, 3, 4, 5, 6, 7, 8, 10, 11, 12, 0] rfl)
                                clear h
                                have h := h9_
                                clear h9_
                                refine mg_icmp_ne (tgt := 564) hx hb h dL_law_557 (by decide) (fun h => ?_) (fun h => ?_)
                                · refine lv_iconst (v := 0) hx hb dL_law_564 (by decide) ?_
                                  cases h
                                  exact J557_ H locs ls hw (lv_sub hl [0, 1, 2, 3, 4, 5, 6, 7, 8, 9, 10, 11] rfl)
                                · refine lv_iconst (v := 1) hx hb dL_law_560 (by decide) ?_
                                  refine lv_goto (tgt := 565) hx hb dL_law_561 (by decide) ?_
                                  cases h
                                  exact J557_ H locs ls hw (lv_sub hl [0, 1, 2, 3, 4, 5, 6, 7, 8, 9, 10, 11] rfl)
                          obtain ⟨y70, h9_, h⟩ := mg_bind h
                          refine L530_ 5000 _ _ _ _ _ _ h9_ (fun H locs ls hw hl => ?_) H locs ls hw (lv_sub hl [3, 4, 5, 6, 7, 8, 9, 10, 11, 2, 1, 0] rfl)
                          clear L530_ h9_
                          refine lv_iload hx hb dL_law_715 (lv_at hl 8 rfl) ?_
                          refine lv_aload_n hx hb dL_law_717 rfl (lv_at hl 1 rfl) ?_
                          refine lv_bipush (v := 6) hx hb dL_law_718 (by decide) ?_
                          refine mg_vxq h (fun v : Int32 => some (.int v)) (fun mc9 ms9 o9 s9 hm9 h9 hc9 hs9 => vx_runV (As := [.int 6]) (rest := [.int y70.1]) G9 (k_X6_count l hst D o (o 53) (o 54) g H.size y70.2.2.1 6 o9 s9 h9 mc9 ms9 hm9) (cwV 1 hts (goodIn_up gL_law_X6_count) rfl rfl rfl (by decide +kernel) ⟨Nat.le_of_ble_eq_true rfl, Nat.le_of_ble_eq_true rfl⟩) (mg_preV (hK.sub (tys' := [(o 53, .int), (o 54, .boolean)]) [0, 1] rfl) hO hA (mg_C_list hw 1 rfl) (q0 := 0) rfl rfl) rfl rfl hl.1 rfl (lv_room (Nat.le_of_ble_eq_true rfl)) dL_law_720 ⟨hc9, hs9⟩) hw hA 1 [0, 2, 3] rfl (Lr := [mg_fS o (β2 9 0) β9 y8.2, mg_fI o q66 n67 y70.2.2.2.1, mg_fZ o q68 n69 y70.2.2.2.2]) rfl rfl (by decide) (lw_rc (show cl22_ + 11 ≤ 500000 by omega)) (lw_rs (show sl22_ + 145 ≤ 6000000 by omega)) (fun v105 s106 h H locs hw => ?_)
                          refine mg_icmp_eq (tgt := 728) hx hb h dL_law_723 (by decide) (fun h => ?_) (fun h => ?_)
                          · refine lv_iload hx hb dL_law_728 (lv_at hl 7 rfl) ?_
                            obtain ⟨n108, h9_, h⟩ := mg_bind h
                            obtain ⟨h8_, h7_, h6_⟩ := mg_nn_of h9_
                            clear h9_
                            refine mg_vnewI (N := n108) (B := 31) hx hb w6_ hK hw hA h8_ h7_ h6_ (Nat.le_of_ble_eq_true rfl) (lw_rc (show cl22_ + 11 + 1 ≤ 500000 by omega)) (lw_rs (show sl22_ + 145 + 31 ≤ 6000000 by omega)) dL_law_730 (fun q107 H hw => ?_)
                            clear h8_ h7_ h6_
                            refine lv_astore (lv' := [(14, .ref q107), (0, .ref b), (1, .ref (g 0)), (2, .ref (β2 9 0)), (3, .int x3_22), (4, .int ((y4 >>> (((x3_22 / 16) * 5) &&& 31)) + (59 * x3_22))), (6, .int (nI (y8.2.2 0))), (7, .int v14), (8, .int v16), (11, .int y70.1), (12, .ref q66), (13, .ref q68)]) hx hb dL_law_732 hl (by decide) rfl (fun ls hl => ?_)
                            refine lv_iconst (v := 0) hx hb dL_law_734 (by decide) ?_
                            refine lv_istore (lv' := [(15, .int 0), (14, .ref q107), (0, .ref b), (1, .ref (g 0)), (2, .ref (β2 9 0)), (3, .int x3_22), (4, .int ((y4 >>> (((x3_22 / 16) * 5) &&& 31)) + (59 * x3_22))), (6, .int (nI (y8.2.2 0))), (7, .int v14), (8, .int v16), (11, .int y70.1), (12, .ref q66), (13, .ref q68)]) hx hb dL_law_735 hl (by decide) rfl (fun ls hl => ?_)
                            have L737_ : ∀ (n : Nat), ∀ (x15_737 : Int32) (cC_737 : mg_St) (cI730_737 : Nat → Int32) (y737_ : Int32 × mg_St × (Nat → Int32)), f_L_law_737 xs Ln x3_22 ((y4 >>> (((x3_22 / 16) * 5) &&& 31)) + (59 * x3_22)) (nI (y8.2.2 0)) v14 v16 y8.2 n67 y70.2.2.2.1 n69 y70.2.2.2.2 n108 n x15_737 cC_737 cI730_737 = some y737_ → (∀ (H : Heap) (locs : List Loc) (ls : Array Slot), mg_Vo D A s.heap H locs ([mg_fS o (β2 9 0) β9 y8.2, mg_fI o q66 n67 y70.2.2.2.1, mg_fZ o q68 n69 y70.2.2.2.2, mg_fC g (o 53) (o 54) y737_.2.1, mg_fI o q107 n108 y737_.2.2]) → lv_has ls 30 [(0, .ref b), (1, .ref (g 0)), (2, .ref (β2 9 0)), (3, .int x3_22), (4, .int ((y4 >>> (((x3_22 / 16) * 5) &&& 31)) + (59 * x3_22))), (6, .int (nI (y8.2.2 0))), (7, .int v14), (8, .int v16), (12, .ref q66), (13, .ref q68), (14, .ref q107)] → W p l e room_1 s m #[Value.ref b] below meth c H locs (cl22_ + 12) (sl22_ + 176) (lw_Z below #[Value.ref b] s) (F0 m 761 ls [])) → ∀ (H : Heap) (locs : List Loc) (ls : Array Slot), mg_Vo D A s.heap H locs ([mg_fS o (β2 9 0) β9 y8.2, mg_fI o q66 n67 y70.2.2.2.1, mg_fZ o q68 n69 y70.2.2.2.2, mg_fC g (o 53) (o 54) cC_737, mg_fI o q107 n108 cI730_737]) → lv_has ls 30 [(0, .ref b), (1, .ref (g 0)), (2, .ref (β2 9 0)), (3, .int x3_22), (4, .int ((y4 >>> (((x3_22 / 16) * 5) &&& 31)) + (59 * x3_22))), (6, .int (nI (y8.2.2 0))), (7, .int v14), (8, .int v16), (12, .ref q66), (13, .ref q68), (14, .ref q107), (15, .int x15_737)] → W p l e room_1 s m #[Value.ref b] below meth c H locs (cl22_ + 12) (sl22_ + 176) (lw_Z below #[Value.ref b] s) (F0 m 737 ls []) := by
                              intro n
                              induction n with
                              | zero => intro x15_737 cC_737 cI730_737 y737_ h; rw [f_L_law_737] at h; cases h
                              | succ n ih =>
                                intro x15_737 cC_737 cI730_737 y737_ h kc H locs ls hw hl
                                rw [f_L_law_737] at h
                                refine lv_iload hx hb dL_law_737 (lv_at hl 11 rfl) ?_
                                refine lv_iload hx hb dL_law_739 (lv_at hl 7 rfl) ?_
                                refine mg_icmp_ge (tgt := 761) hx hb h dL_law_741 (by decide) (fun h => ?_) (fun h => ?_)
                                · cases h
                                  exact kc H locs ls hw (lv_sub hl [0, 1, 2, 3, 4, 5, 6, 7, 8, 9, 10] rfl)
                                · refine lv_aload hx hb dL_law_744 (lv_at hl 10 rfl) ?_
                                  refine lv_iload hx hb dL_law_746 (lv_at hl 11 rfl) ?_
                                  refine lv_aload_n hx hb dL_law_748 rfl (lv_at hl 1 rfl) ?_
                                  refine lv_iload hx hb dL_law_749 (lv_at hl 11 rfl) ?_
                                  refine mg_vxq h (fun v : Int32 => some (.int v)) (fun mc9 ms9 o9 s9 hm9 h9 hc9 hs9 => vx_runV (As := [.int x15_737]) (rest := [.int x15_737, .ref q107]) G9 (k_X6_lines l hst D o (o 53) (o 54) g H.size cC_737 x15_737 o9 s9 h9 mc9 ms9 hm9) (cwV 1 hts (goodIn_up gL_law_X6_lines) rfl rfl rfl (by decide +kernel) ⟨Nat.le_of_ble_eq_true rfl, Nat.le_of_ble_eq_true rfl⟩) (mg_preV (hK.sub (tys' := [(o 53, .int), (o 54, .boolean)]) [0, 1] rfl) hO hA (mg_C_list hw 3 rfl) (q0 := 0) rfl rfl) rfl rfl hl.1 rfl (lv_room (Nat.le_of_ble_eq_true rfl)) dL_law_751 ⟨hc9, hs9⟩) hw hA 3 [0, 1, 2, 4] rfl (Lr := [mg_fS o (β2 9 0) β9 y8.2, mg_fI o q66 n67 y70.2.2.2.1, mg_fZ o q68 n69 y70.2.2.2.2, mg_fI o q107 n108 cI730_737]) rfl rfl (by decide) (lw_rc (show cl22_ + 12 ≤ 500000 by omega)) (lw_rs (show sl22_ + 176 ≤ 6000000 by omega)) (fun v110 s111 h H locs hw => ?_)
                                  refine mg_iasd (F' := fun x9_ => mg_fI o q107 n108 (upd cI730_737 x9_ v110)) hx hb hK hw 3 rfl mg_fI_0 (fun _ => mg_sI) h dL_law_754 (fun j112 hj112_ h H locs hw => ?_)
                                  refine lv_iinc (v := (x15_737 + 1)) (lv' := [(15, .int (x15_737 + 1)), (0, .ref b), (1, .ref (g 0)), (2, .ref (β2 9 0)), (3, .int x3_22), (4, .int ((y4 >>> (((x3_22 / 16) * 5) &&& 31)) + (59 * x3_22))), (6, .int (nI (y8.2.2 0))), (7, .int v14), (8, .int v16), (12, .ref q66), (13, .ref q68), (14, .ref q107)]) hx hb dL_law_755 hl (k := 11) rfl rfl (by decide) rfl (fun ls hl => ?_)
                                  refine lv_goto (tgt := 737) hx hb dL_law_758 (by decide) ?_
                                  exact ih _ _ _ _ h kc H locs ls (mg_Vsub hw [0, 1, 2, 4, 3] rfl rfl) (lv_sub hl [1, 2, 3, 4, 5, 6, 7, 8, 9, 10, 11, 0] rfl)
                            obtain ⟨y109, h9_, h⟩ := mg_bind h
                            refine L737_ 5000 _ _ _ _ h9_ (fun H locs ls hw hl => ?_) H locs ls hw (lv_sub hl [2, 3, 4, 5, 6, 7, 8, 9, 11, 12, 1, 0] rfl)
                            clear L737_ h9_
                            refine lv_iconst (v := 0) hx hb dL_law_761 (by decide) ?_
                            refine lv_istore (lv' := [(15, .int 0), (0, .ref b), (1, .ref (g 0)), (2, .ref (β2 9 0)), (3, .int x3_22), (4, .int ((y4 >>> (((x3_22 / 16) * 5) &&& 31)) + (59 * x3_22))), (6, .int (nI (y8.2.2 0))), (7, .int v14), (8, .int v16), (12, .ref q66), (13, .ref q68), (14, .ref q107)]) hx hb dL_law_762 hl (by decide) rfl (fun ls hl => ?_)
                            refine lv_iconst (v := 0) hx hb dL_law_764 (by decide) ?_
                            refine lv_istore (lv' := [(16, .int 0), (15, .int 0), (0, .ref b), (1, .ref (g 0)), (2, .ref (β2 9 0)), (3, .int x3_22), (4, .int ((y4 >>> (((x3_22 / 16) * 5) &&& 31)) + (59 * x3_22))), (6, .int (nI (y8.2.2 0))), (7, .int v14), (8, .int v16), (12, .ref q66), (13, .ref q68), (14, .ref q107)]) hx hb dL_law_765 hl (by decide) rfl (fun ls hl => ?_)
                            have L767_ : ∀ (n : Nat), ∀ (x15_767 : Int32) (x16_767 : Int32) (cC_767 : mg_St) (y767_ : Int32 × Int32 × mg_St), f_L_law_767 xs Ln x3_22 ((y4 >>> (((x3_22 / 16) * 5) &&& 31)) + (59 * x3_22)) (nI (y8.2.2 0)) v14 v16 y8.2 n67 y70.2.2.2.1 n69 y70.2.2.2.2 n108 y109.2.2 n x15_767 x16_767 cC_767 = some y767_ → (∀ (H : Heap) (locs : List Loc) (ls : Array Slot), mg_Vo D A s.heap H locs ([mg_fS o (β2 9 0) β9 y8.2, mg_fI o q66 n67 y70.2.2.2.1, mg_fZ o q68 n69 y70.2.2.2.2, mg_fC g (o 53) (o 54) y767_.2.2, mg_fI o q107 n108 y109.2.2]) → lv_has ls 30 [(0, .ref b), (1, .ref (g 0)), (2, .ref (β2 9 0)), (3, .int x3_22), (4, .int ((y4 >>> (((x3_22 / 16) * 5) &&& 31)) + (59 * x3_22))), (6, .int (nI (y8.2.2 0))), (7, .int v14), (8, .int v16), (12, .ref q66), (13, .ref q68), (14, .ref q107), (15, .int y767_.1)] → W p l e room_1 s m #[Value.ref b] below meth c H locs (cl22_ + 12) (sl22_ + 176) (lw_Z below #[Value.ref b] s) (F0 m 894 ls [])) → ∀ (H : Heap) (locs : List Loc) (ls : Array Slot), mg_Vo D A s.heap H locs ([mg_fS o (β2 9 0) β9 y8.2, mg_fI o q66 n67 y70.2.2.2.1, mg_fZ o q68 n69 y70.2.2.2.2, mg_fC g (o 53) (o 54) cC_767, mg_fI o q107 n108 y109.2.2]) → lv_has ls 30 [(0, .ref b), (1, .ref (g 0)), (2, .ref (β2 9 0)), (3, .int x3_22), (4, .int ((y4 >>> (((x3_22 / 16) * 5) &&& 31)) + (59 * x3_22))), (6, .int (nI (y8.2.2 0))), (7, .int v14), (8, .int v16), (12, .ref q66), (13, .ref q68), (14, .ref q107), (15, .int x15_767), (16, .int x16_767)] → W p l e room_1 s m #[Value.ref b] below meth c H locs (cl22_ + 12) (sl22_ + 176) (lw_Z below #[Value.ref b] s) (F0 m 767 ls []) := by
                              intro n
                              induction n with
                              | zero => intro x15_767 x16_767 cC_767 y767_ h; rw [f_L_law_767] at h; cases h
                              | succ n ih =>
                                intro x15_767 x16_767 cC_767 y767_ h kc H locs ls hw hl
                                rw [f_L_law_767] at h
                                refine lv_iload hx hb dL_law_767 (lv_at hl 12 rfl) ?_
                                refine lv_iload hx hb dL_law_769 (lv_at hl 6 rfl) ?_
                                refine mg_icmp_ge (tgt := 894) hx hb h dL_law_771 (by decide) (fun h => ?_) (fun h => ?_)
                                · cases h
                                  exact kc H locs ls hw (lv_sub hl [0, 1, 2, 3, 4, 5, 6, 7, 8, 9, 10, 11] rfl)
                                · refine lv_aload_n hx hb dL_law_774 rfl (lv_at hl 1 rfl) ?_
                                  refine lv_iload hx hb dL_law_775 (lv_at hl 12 rfl) ?_
                                  refine lv_iconst (v := 3) hx hb dL_law_777 (by decide) ?_
                                  refine mg_vxq h (fun v : Int32 => some (.int v)) (fun mc9 ms9 o9 s9 hm9 h9 hc9 hs9 => vx_runV (As := [.int x16_767, .int 3]) (rest := []) G9 (k_X6_about l hst D o (o 53) (o 54) g H.size cC_767 x16_767 3 o9 s9 h9 mc9 ms9 hm9) (cwV 2 hts (goodIn_up gL_law_X6_about) rfl rfl rfl (by decide +kernel) ⟨Nat.le_of_ble_eq_true rfl, Nat.le_of_ble_eq_true rfl⟩) (mg_preV (hK.sub (tys' := [(o 53, .int), (o 54, .boolean)]) [0, 1] rfl) hO hA (mg_C_list hw 3 rfl) (q0 := 0) rfl rfl) rfl rfl hl.1 rfl (lv_room (Nat.le_of_ble_eq_true rfl)) dL_law_778 ⟨hc9, hs9⟩) hw hA 3 [0, 1, 2, 4] rfl (Lr := [mg_fS o (β2 9 0) β9 y8.2, mg_fI o q66 n67 y70.2.2.2.1, mg_fZ o q68 n69 y70.2.2.2.2, mg_fI o q107 n108 y109.2.2]) rfl rfl (by decide) (lw_rc (show cl22_ + 12 ≤ 500000 by omega)) (lw_rs (show sl22_ + 176 ≤ 6000000 by omega)) (fun v114 s115 h H locs hw => ?_)
                                  refine lv_istore (lv' := [(17, .int v114), (0, .ref b), (1, .ref (g 0)), (2, .ref (β2 9 0)), (3, .int x3_22), (4, .int ((y4 >>> (((x3_22 / 16) * 5) &&& 31)) + (59 * x3_22))), (6, .int (nI (y8.2.2 0))), (7, .int v14), (8, .int v16), (12, .ref q66), (13, .ref q68), (14, .ref q107), (15, .int x15_767), (16, .int x16_767)]) hx hb dL_law_781 hl (by decide) rfl (fun ls hl => ?_)
                                  refine lv_iload hx hb dL_law_783 (lv_at hl 12 rfl) ?_
                                  refine lv_iload hx hb dL_law_785 (lv_at hl 0 rfl) ?_
                                  refine va_mmax hx hb (hml.trans hl.1.symm) hown w8_ w9_ w2_ w10_ (Nat.le_of_ble_eq_true rfl) (Nat.le_of_ble_eq_true rfl) (lw_rc (show cl22_ + 12 ≤ 500000 by omega)) (lw_rs (show sl22_ + 176 ≤ 6000000 by omega)) dL_law_787 ?_
                                  refine lv_istore (lv' := [(15, .int (if x15_767 < v114 then v114 else x15_767)), (17, .int v114), (0, .ref b), (1, .ref (g 0)), (2, .ref (β2 9 0)), (3, .int x3_22), (4, .int ((y4 >>> (((x3_22 / 16) * 5) &&& 31)) + (59 * x3_22))), (6, .int (nI (y8.2.2 0))), (7, .int v14), (8, .int v16), (12, .ref q66), (13, .ref q68), (14, .ref q107), (16, .int x16_767)]) hx hb dL_law_790 hl (by decide) rfl (fun ls hl => ?_)
                                  refine lv_aload_n hx hb dL_law_792 rfl (lv_at hl 3 rfl) ?_
                                  refine lv_iload hx hb dL_law_793 (lv_at hl 13 rfl) ?_
                                  refine lv_iconst (v := 0) hx hb dL_law_795 (by decide) ?_
                                  refine mg_vxq h (fun v : Int32 => some (.int v)) (fun mc9 ms9 o9 s9 hm9 h9 hc9 hs9 => vx_runV (As := [.int x16_767, .int 0]) (rest := []) G9 (k_X6_about l hst D o (o 53) (o 54) g H.size s115 x16_767 0 o9 s9 h9 mc9 ms9 hm9) (cwV 2 hts (goodIn_up gL_law_X6_about) rfl rfl rfl (by decide +kernel) ⟨Nat.le_of_ble_eq_true rfl, Nat.le_of_ble_eq_true rfl⟩) (mg_preV (hK.sub (tys' := [(o 53, .int), (o 54, .boolean)]) [0, 1] rfl) hO hA (mg_C_list hw 4 rfl) (q0 := 0) rfl rfl) rfl rfl hl.1 rfl (lv_room (Nat.le_of_ble_eq_true rfl)) dL_law_796 ⟨hc9, hs9⟩) hw hA 4 [0, 1, 2, 3] rfl (Lr := [mg_fS o (β2 9 0) β9 y8.2, mg_fI o q66 n67 y70.2.2.2.1, mg_fZ o q68 n69 y70.2.2.2.2, mg_fI o q107 n108 y109.2.2]) rfl rfl (by decide) (lw_rc (show cl22_ + 12 ≤ 500000 by omega)) (lw_rs (show sl22_ + 176 ≤ 6000000 by omega)) (fun v116 s117 h H locs hw => ?_)
                                  refine lv_bipush (v := 9) hx hb dL_law_799 (by decide) ?_
                                  refine mg_icmp_gt (tgt := 886) hx hb h dL_law_801 (by decide) (fun h => ?_) (fun h => ?_)
                                  · cases h
                                  · refine lv_aload_n hx hb dL_law_804 rfl (lv_at hl 3 rfl) ?_
                                    refine lv_iload hx hb dL_law_805 (lv_at hl 13 rfl) ?_
                                    refine lv_iconst (v := 1) hx hb dL_law_807 (by decide) ?_
                                    refine mg_vxq h (fun v : Int32 => some (.int v)) (fun mc9 ms9 o9 s9 hm9 h9 hc9 hs9 => vx_runV (As := [.int x16_767, .int 1]) (rest := []) G9 (k_X6_about l hst D o (o 53) (o 54) g H.size s117 x16_767 1 o9 s9 h9 mc9 ms9 hm9) (cwV 2 hts (goodIn_up gL_law_X6_about) rfl rfl rfl (by decide +kernel) ⟨Nat.le_of_ble_eq_true rfl, Nat.le_of_ble_eq_true rfl⟩) (mg_preV (hK.sub (tys' := [(o 53, .int), (o 54, .boolean)]) [0, 1] rfl) hO hA (mg_C_list hw 4 rfl) (q0 := 0) rfl rfl) rfl rfl hl.1 rfl (lv_room (Nat.le_of_ble_eq_true rfl)) dL_law_808 ⟨hc9, hs9⟩) hw hA 4 [0, 1, 2, 3] rfl (Lr := [mg_fS o (β2 9 0) β9 y8.2, mg_fI o q66 n67 y70.2.2.2.1, mg_fZ o q68 n69 y70.2.2.2.2, mg_fI o q107 n108 y109.2.2]) rfl rfl (by decide) (lw_rc (show cl22_ + 12 ≤ 500000 by omega)) (lw_rs (show sl22_ + 176 ≤ 6000000 by omega)) (fun v118 s119 h H locs hw => ?_)
                                    refine lv_aload_n hx hb dL_law_811 rfl (lv_at hl 3 rfl) ?_
                                    refine lv_iload hx hb dL_law_812 (lv_at hl 13 rfl) ?_
                                    refine lv_iconst (v := 2) hx hb dL_law_814 (by decide) ?_
                                    refine mg_vxq h (fun v : Int32 => some (.int v)) (fun mc9 ms9 o9 s9 hm9 h9 hc9 hs9 => vx_runV (As := [.int x16_767, .int 2]) (rest := [.int v118]) G9 (k_X6_about l hst D o (o 53) (o 54) g H.size s119 x16_767 2 o9 s9 h9 mc9 ms9 hm9) (cwV 2 hts (goodIn_up gL_law_X6_about) rfl rfl rfl (by decide +kernel) ⟨Nat.le_of_ble_eq_true rfl, Nat.le_of_ble_eq_true rfl⟩) (mg_preV (hK.sub (tys' := [(o 53, .int), (o 54, .boolean)]) [0, 1] rfl) hO hA (mg_C_list hw 4 rfl) (q0 := 0) rfl rfl) rfl rfl hl.1 rfl (lv_room (Nat.le_of_ble_eq_true rfl)) dL_law_815 ⟨hc9, hs9⟩) hw hA 4 [0, 1, 2, 3] rfl (Lr := [mg_fS o (β2 9 0) β9 y8.2, mg_fI o q66 n67 y70.2.2.2.1, mg_fZ o q68 n69 y70.2.2.2.2, mg_fI o q107 n108 y109.2.2]) rfl rfl (by decide) (lw_rc (show cl22_ + 12 ≤ 500000 by omega)) (lw_rs (show sl22_ + 176 ≤ 6000000 by omega)) (fun v120 s121 h H locs hw => ?_)
                                    refine lv_iadd hx hb dL_law_818 ?_
                                    refine lv_aload_n hx hb dL_law_819 rfl (lv_at hl 3 rfl) ?_
                                    refine lv_iload hx hb dL_law_820 (lv_at hl 13 rfl) ?_
                                    refine lv_iconst (v := 0) hx hb dL_law_822 (by decide) ?_
                                    refine mg_vxq h (fun v : Int32 => some (.int v)) (fun mc9 ms9 o9 s9 hm9 h9 hc9 hs9 => vx_runV (As := [.int x16_767, .int 0]) (rest := [.int (v118 + v120)]) G9 (k_X6_about l hst D o (o 53) (o 54) g H.size s121 x16_767 0 o9 s9 h9 mc9 ms9 hm9) (cwV 2 hts (goodIn_up gL_law_X6_about) rfl rfl rfl (by decide +kernel) ⟨Nat.le_of_ble_eq_true rfl, Nat.le_of_ble_eq_true rfl⟩) (mg_preV (hK.sub (tys' := [(o 53, .int), (o 54, .boolean)]) [0, 1] rfl) hO hA (mg_C_list hw 4 rfl) (q0 := 0) rfl rfl) rfl rfl hl.1 rfl (lv_room (Nat.le_of_ble_eq_true rfl)) dL_law_823 ⟨hc9, hs9⟩) hw hA 4 [0, 1, 2, 3] rfl (Lr := [mg_fS o (β2 9 0) β9 y8.2, mg_fI o q66 n67 y70.2.2.2.1, mg_fZ o q68 n69 y70.2.2.2.2, mg_fI o q107 n108 y109.2.2]) rfl rfl (by decide) (lw_rc (show cl22_ + 12 ≤ 500000 by omega)) (lw_rs (show sl22_ + 176 ≤ 6000000 by omega)) (fun v122 s123 h H locs hw => ?_)
                                    refine mg_icmp_gt (tgt := 886) hx hb h dL_law_826 (by decide) (fun h => ?_) (fun h => ?_)
                                    · cases h
                                    · refine lv_iload hx hb dL_law_829 (lv_at hl 1 rfl) ?_
                                      refine lv_aload_n hx hb dL_law_831 rfl (lv_at hl 3 rfl) ?_
                                      refine lv_iload hx hb dL_law_832 (lv_at hl 13 rfl) ?_
                                      refine lv_iconst (v := 1) hx hb dL_law_834 (by decide) ?_
                                      refine mg_vxq h (fun v : Int32 => some (.int v)) (fun mc9 ms9 o9 s9 hm9 h9 hc9 hs9 => vx_runV (As := [.int x16_767, .int 1]) (rest := [.int v114]) G9 (k_X6_about l hst D o (o 53) (o 54) g H.size s123 x16_767 1 o9 s9 h9 mc9 ms9 hm9) (cwV 2 hts (goodIn_up gL_law_X6_about) rfl rfl rfl (by decide +kernel) ⟨Nat.le_of_ble_eq_true rfl, Nat.le_of_ble_eq_true rfl⟩) (mg_preV (hK.sub (tys' := [(o 53, .int), (o 54, .boolean)]) [0, 1] rfl) hO hA (mg_C_list hw 4 rfl) (q0 := 0) rfl rfl) rfl rfl hl.1 rfl (lv_room (Nat.le_of_ble_eq_true rfl)) dL_law_835 ⟨hc9, hs9⟩) hw hA 4 [0, 1, 2, 3] rfl (Lr := [mg_fS o (β2 9 0) β9 y8.2, mg_fI o q66 n67 y70.2.2.2.1, mg_fZ o q68 n69 y70.2.2.2.2, mg_fI o q107 n108 y109.2.2]) rfl rfl (by decide) (lw_rc (show cl22_ + 12 ≤ 500000 by omega)) (lw_rs (show sl22_ + 176 ≤ 6000000 by omega)) (fun v124 s125 h H locs hw => ?_)
                                      refine lv_iconst (v := 3) hx hb dL_law_838 (by decide) ?_
                                      refine lv_aload_n hx hb dL_law_839 rfl (lv_at hl 3 rfl) ?_
                                      refine lv_iload hx hb dL_law_840 (lv_at hl 13 rfl) ?_
                                      refine lv_iconst (v := 2) hx hb dL_law_842 (by decide) ?_
                                      refine mg_vxq h (fun v : Int32 => some (.int v)) (fun mc9 ms9 o9 s9 hm9 h9 hc9 hs9 => vx_runV (As := [.int x16_767, .int 2]) (rest := [.int 3, .int v124, .int v114]) G9 (k_X6_about l hst D o (o 53) (o 54) g H.size s125 x16_767 2 o9 s9 h9 mc9 ms9 hm9) (cwV 2 hts (goodIn_up gL_law_X6_about) rfl rfl rfl (by decide +kernel) ⟨Nat.le_of_ble_eq_true rfl, Nat.le_of_ble_eq_true rfl⟩) (mg_preV (hK.sub (tys' := [(o 53, .int), (o 54, .boolean)]) [0, 1] rfl) hO hA (mg_C_list hw 4 rfl) (q0 := 0) rfl rfl) rfl rfl hl.1 rfl (lv_room (Nat.le_of_ble_eq_true rfl)) dL_law_843 ⟨hc9, hs9⟩) hw hA 4 [0, 1, 2, 3] rfl (Lr := [mg_fS o (β2 9 0) β9 y8.2, mg_fI o q66 n67 y70.2.2.2.1, mg_fZ o q68 n69 y70.2.2.2.2, mg_fI o q107 n108 y109.2.2]) rfl rfl (by decide) (lw_rc (show cl22_ + 12 ≤ 500000 by omega)) (lw_rs (show sl22_ + 176 ≤ 6000000 by omega)) (fun v126 s127 h H locs hw => ?_)
                                      refine lv_imul hx hb dL_law_846 ?_
                                      refine lv_iadd hx hb dL_law_847 ?_
                                      refine mg_icmp_lt (tgt := 886) hx hb h dL_law_848 (by decide) (fun h => ?_) (fun h => ?_)
                                      · cases h
                                      · refine lv_iload hx hb dL_law_851 (lv_at hl 1 rfl) ?_
                                        refine lv_bipush (v := 13) hx hb dL_law_853 (by decide) ?_
                                        refine lv_aload_n hx hb dL_law_855 rfl (lv_at hl 3 rfl) ?_
                                        refine lv_iload hx hb dL_law_856 (lv_at hl 13 rfl) ?_
                                        refine lv_iconst (v := 1) hx hb dL_law_858 (by decide) ?_
                                        refine mg_vxq h (fun v : Int32 => some (.int v)) (fun mc9 ms9 o9 s9 hm9 h9 hc9 hs9 => vx_runV (As := [.int x16_767, .int 1]) (rest := [.int 13, .int v114]) G9 (k_X6_about l hst D o (o 53) (o 54) g H.size s127 x16_767 1 o9 s9 h9 mc9 ms9 hm9) (cwV 2 hts (goodIn_up gL_law_X6_about) rfl rfl rfl (by decide +kernel) ⟨Nat.le_of_ble_eq_true rfl, Nat.le_of_ble_eq_true rfl⟩) (mg_preV (hK.sub (tys' := [(o 53, .int), (o 54, .boolean)]) [0, 1] rfl) hO hA (mg_C_list hw 4 rfl) (q0 := 0) rfl rfl) rfl rfl hl.1 rfl (lv_room (Nat.le_of_ble_eq_true rfl)) dL_law_859 ⟨hc9, hs9⟩) hw hA 4 [0, 1, 2, 3] rfl (Lr := [mg_fS o (β2 9 0) β9 y8.2, mg_fI o q66 n67 y70.2.2.2.1, mg_fZ o q68 n69 y70.2.2.2.2, mg_fI o q107 n108 y109.2.2]) rfl rfl (by decide) (lw_rc (show cl22_ + 12 ≤ 500000 by omega)) (lw_rs (show sl22_ + 176 ≤ 6000000 by omega)) (fun v128 s129 h H locs hw => ?_)
                                        refine lv_imul hx hb dL_law_862 ?_
                                        refine lv_iconst (v := 3) hx hb dL_law_863 (by decide) ?_
                                        refine lv_aload_n hx hb dL_law_864 rfl (lv_at hl 3 rfl) ?_
                                        refine lv_iload hx hb dL_law_865 (lv_at hl 13 rfl) ?_
                                        refine lv_iconst (v := 2) hx hb dL_law_867 (by decide) ?_
                                        refine mg_vxq h (fun v : Int32 => some (.int v)) (fun mc9 ms9 o9 s9 hm9 h9 hc9 hs9 => vx_runV (As := [.int x16_767, .int 2]) (rest := [.int 3, .int (13 * v128), .int v114]) G9 (k_X6_about l hst D o (o 53) (o 54) g H.size s129 x16_767 2 o9 s9 h9 mc9 ms9 hm9) (cwV 2 hts (goodIn_up gL_law_X6_about) rfl rfl rfl (by decide +kernel) ⟨Nat.le_of_ble_eq_true rfl, Nat.le_of_ble_eq_true rfl⟩) (mg_preV (hK.sub (tys' := [(o 53, .int), (o 54, .boolean)]) [0, 1] rfl) hO hA (mg_C_list hw 4 rfl) (q0 := 0) rfl rfl) rfl rfl hl.1 rfl (lv_room (Nat.le_of_ble_eq_true rfl)) dL_law_868 ⟨hc9, hs9⟩) hw hA 4 [0, 1, 2, 3] rfl (Lr := [mg_fS o (β2 9 0) β9 y8.2, mg_fI o q66 n67 y70.2.2.2.1, mg_fZ o q68 n69 y70.2.2.2.2, mg_fI o q107 n108 y109.2.2]) rfl rfl (by decide) (lw_rc (show cl22_ + 12 ≤ 500000 by omega)) (lw_rs (show sl22_ + 176 ≤ 6000000 by omega)) (fun v130 s131 h H locs hw => ?_)
                                        refine lv_imul hx hb dL_law_871 ?_
                                        refine lv_iadd hx hb dL_law_872 ?_
                                        refine lv_aload_n hx hb dL_law_873 rfl (lv_at hl 3 rfl) ?_
                                        refine lv_bipush (v := 7) hx hb dL_law_874 (by decide) ?_
                                        refine mg_vxq h (fun v : Int32 => some (.int v)) (fun mc9 ms9 o9 s9 hm9 h9 hc9 hs9 => vx_runV (As := [.int 7]) (rest := [.int ((13 * v128) + (3 * v130)), .int v114]) G9 (k_X6_count l hst D o (o 53) (o 54) g H.size s131 7 o9 s9 h9 mc9 ms9 hm9) (cwV 1 hts (goodIn_up gL_law_X6_count) rfl rfl rfl (by decide +kernel) ⟨Nat.le_of_ble_eq_true rfl, Nat.le_of_ble_eq_true rfl⟩) (mg_preV (hK.sub (tys' := [(o 53, .int), (o 54, .boolean)]) [0, 1] rfl) hO hA (mg_C_list hw 4 rfl) (q0 := 0) rfl rfl) rfl rfl hl.1 rfl (lv_room (Nat.le_of_ble_eq_true rfl)) dL_law_876 ⟨hc9, hs9⟩) hw hA 4 [0, 1, 2, 3] rfl (Lr := [mg_fS o (β2 9 0) β9 y8.2, mg_fI o q66 n67 y70.2.2.2.1, mg_fZ o q68 n69 y70.2.2.2.2, mg_fI o q107 n108 y109.2.2]) rfl rfl (by decide) (lw_rc (show cl22_ + 12 ≤ 500000 by omega)) (lw_rs (show sl22_ + 176 ≤ 6000000 by omega)) (fun v132 s133 h H locs hw => ?_)
                                        refine lv_bipush (v := 10) hx hb dL_law_879 (by decide) ?_
                                        refine lv_idiv hx hb dL_law_881 (by decide) ?_
                                        refine lv_iadd hx hb dL_law_882 ?_
                                        refine mg_icmp_le (tgt := 888) hx hb h dL_law_883 (by decide) (fun h => ?_) (fun h => ?_)
                                        · refine lv_iinc (v := (x16_767 + 1)) (lv' := [(16, .int (x16_767 + 1)), (15, .int (if x15_767 < v114 then v114 else x15_767)), (17, .int v114), (0, .ref b), (1, .ref (g 0)), (2, .ref (β2 9 0)), (3, .int x3_22), (4, .int ((y4 >>> (((x3_22 / 16) * 5) &&& 31)) + (59 * x3_22))), (6, .int (nI (y8.2.2 0))), (7, .int v14), (8, .int v16), (12, .ref q66), (13, .ref q68), (14, .ref q107)]) hx hb dL_law_888 hl (k := 13) rfl rfl (by decide) rfl (fun ls hl => ?_)
                                          refine lv_goto (tgt := 767) hx hb dL_law_891 (by decide) ?_
                                          exact ih _ _ _ _ h kc H locs ls (mg_Vsub hw [0, 1, 2, 4, 3] rfl rfl) (lv_sub hl [3, 4, 5, 6, 7, 8, 9, 10, 11, 12, 13, 1, 0] rfl)
                                        · cases h
                            obtain ⟨y113, h9_, h⟩ := mg_bind h
                            refine L767_ 5000 _ _ _ _ h9_ (fun H locs ls hw hl => ?_) H locs ls hw (lv_sub hl [2, 3, 4, 5, 6, 7, 8, 9, 10, 11, 12, 1, 0] rfl)
                            clear L767_ h9_
                            refine lv_aload_n hx hb dL_law_894 rfl (lv_at hl 1 rfl) ?_
                            obtain ⟨y134, h9_, h⟩ := mg_bind h
                            refine mg_callC (rv := some (.int y134.1)) (va_runV (As := []) (rest := []) G9 (k_X6_finest l D o (o 53) (o 54) g H.size y113.2.2  y134 h9_) (cwV 0 hts (goodIn_up gL_law_X6_finest) rfl rfl rfl (by decide +kernel) ⟨Nat.le_of_ble_eq_true rfl, Nat.le_of_ble_eq_true rfl⟩) (mg_preV (hK.sub (tys' := [(o 53, .int), (o 54, .boolean)]) [0, 1] rfl) hO hA (mg_C_list hw 3 rfl) (q0 := 0) rfl rfl) rfl rfl hl.1 rfl (lv_room (Nat.le_of_ble_eq_true rfl)) dL_law_895 ⟨(lw_rc (show cl22_ + 12 + 0 ≤ 500000 by omega)), (lw_rs (show sl22_ + 176 + 0 ≤ 6000000 by omega))⟩) hw hA 3 [0, 1, 2, 4] rfl (Lr := [mg_fS o (β2 9 0) β9 y8.2, mg_fI o q66 n67 y70.2.2.2.1, mg_fZ o q68 n69 y70.2.2.2.2, mg_fI o q107 n108 y109.2.2]) rfl rfl (by decide) (fun H locs hw => ?_)
                            clear h9_
                            obtain ⟨y135, h9_, h⟩ := mg_bind h
                            have J898_ : ∀ (H : Heap) (locs : List Loc) (ls : Array Slot), mg_Vo D A s.heap H locs ([mg_fS o (β2 9 0) β9 y8.2, mg_fI o q66 n67 y70.2.2.2.1, mg_fZ o q68 n69 y70.2.2.2.2, mg_fI o q107 n108 y109.2.2, mg_fC g (o 53) (o 54) y134.2]) → lv_has ls 30 [(0, .ref b), (1, .ref (g 0)), (2, .ref (β2 9 0)), (3, .int x3_22), (4, .int ((y4 >>> (((x3_22 / 16) * 5) &&& 31)) + (59 * x3_22))), (6, .int (nI (y8.2.2 0))), (7, .int v14), (8, .int v16), (12, .ref q66), (13, .ref q68), (14, .ref q107), (15, .int y113.1)] → W p l e room_1 s m #[Value.ref b] below meth c H locs (cl22_ + 12) (sl22_ + 176) (lw_Z below #[Value.ref b] s) (F0 m 906 ls [.int y135]) := by
                              intro H locs ls hw hl
                              clear h9_
                              refine lv_iload hx hb dL_law_906 (lv_at hl 6 rfl) ?_
                              obtain ⟨y136, h9_, h⟩ := mg_bind h
                              have J908_ : ∀ (H : Heap) (locs : List Loc) (ls : Array Slot), mg_Vo D A s.heap H locs ([mg_fS o (β2 9 0) β9 y8.2, mg_fI o q66 n67 y70.2.2.2.1, mg_fZ o q68 n69 y70.2.2.2.2, mg_fI o q107 n108 y109.2.2, mg_fC g (o 53) (o 54) y134.2]) → lv_has ls 30 [(0, .ref b), (1, .ref (g 0)), (2, .ref (β2 9 0)), (3, .int x3_22), (4, .int ((y4 >>> (((x3_22 / 16) * 5) &&& 31)) + (59 * x3_22))), (6, .int (nI (y8.2.2 0))), (7, .int v14), (8, .int v16), (12, .ref q66), (13, .ref q68), (14, .ref q107), (15, .int y113.1)] → W p l e room_1 s m #[Value.ref b] below meth c H locs (cl22_ + 12) (sl22_ + 176) (lw_Z below #[Value.ref b] s) (F0 m 916 ls [.int y136, .int y135]) := by
                                intro H locs ls hw hl
                                clear h9_
                                refine mg_icmp_ne (tgt := 938) hx hb h dL_law_916 (by decide) (fun h => ?_) (fun h => ?_)
                                · cases h
                                · refine lv_iload hx hb dL_law_919 (lv_at hl 6 rfl) ?_
                                  obtain ⟨y137, h9_, h⟩ := mg_bind h
                                  have J921_ : ∀ (H : Heap) (locs : List Loc) (ls : Array Slot), mg_Vo D A s.heap H locs ([mg_fS o (β2 9 0) β9 y8.2, mg_fI o q66 n67 y70.2.2.2.1, mg_fZ o q68 n69 y70.2.2.2.2, mg_fI o q107 n108 y109.2.2, mg_fC g (o 53) (o 54) y137]) → lv_has ls 30 [(0, .ref b), (1, .ref (g 0)), (2, .ref (β2 9 0)), (3, .int x3_22), (4, .int ((y4 >>> (((x3_22 / 16) * 5) &&& 31)) + (59 * x3_22))), (6, .int (nI (y8.2.2 0))), (7, .int v14), (8, .int v16), (12, .ref q66), (13, .ref q68), (14, .ref q107)] → W p l e room_1 s m #[Value.ref b] below meth c H locs (cl22_ + 12) (sl22_ + 176) (lw_Z below #[Value.ref b] s) (F0 m 940 ls []) := by
                                    intro H locs ls hw hl
                                    clear h9_
                                    refine lv_aload_n hx hb dL_law_940 rfl (lv_at hl 1 rfl) ?_
                                    refine lv_iconst (v := 2) hx hb dL_law_941 (by decide) ?_
                                    refine mg_vxq h (fun v : Int32 => some (.int v)) (fun mc9 ms9 o9 s9 hm9 h9 hc9 hs9 => vx_runV (As := [.int 2]) (rest := []) G9 (k_X6_count l hst D o (o 53) (o 54) g H.size y137 2 o9 s9 h9 mc9 ms9 hm9) (cwV 1 hts (goodIn_up gL_law_X6_count) rfl rfl rfl (by decide +kernel) ⟨Nat.le_of_ble_eq_true rfl, Nat.le_of_ble_eq_true rfl⟩) (mg_preV (hK.sub (tys' := [(o 53, .int), (o 54, .boolean)]) [0, 1] rfl) hO hA (mg_C_list hw 4 rfl) (q0 := 0) rfl rfl) rfl rfl hl.1 rfl (lv_room (Nat.le_of_ble_eq_true rfl)) dL_law_942 ⟨hc9, hs9⟩) hw hA 4 [0, 1, 2, 3] rfl (Lr := [mg_fS o (β2 9 0) β9 y8.2, mg_fI o q66 n67 y70.2.2.2.1, mg_fZ o q68 n69 y70.2.2.2.2, mg_fI o q107 n108 y109.2.2]) rfl rfl (by decide) (lw_rc (show cl22_ + 12 ≤ 500000 by omega)) (lw_rs (show sl22_ + 176 ≤ 6000000 by omega)) (fun v141 s142 h H locs hw => ?_)
                                    refine lv_istore (lv' := [(5, .int v141), (0, .ref b), (1, .ref (g 0)), (2, .ref (β2 9 0)), (3, .int x3_22), (4, .int ((y4 >>> (((x3_22 / 16) * 5) &&& 31)) + (59 * x3_22))), (6, .int (nI (y8.2.2 0))), (7, .int v14), (8, .int v16), (12, .ref q66), (13, .ref q68), (14, .ref q107)]) hx hb dL_law_945 hl (by decide) rfl (fun ls hl => ?_)
                                    refine lv_aload_n hx hb dL_law_947 rfl (lv_at hl 2 rfl) ?_
                                    refine lv_iconst (v := 0) hx hb dL_law_948 (by decide) ?_
                                    refine mg_vxq h (fun v : Int32 => some (.int v)) (fun mc9 ms9 o9 s9 hm9 h9 hc9 hs9 => vx_runV (As := [.int 0]) (rest := []) G9 (k_X6_count l hst D o (o 53) (o 54) g H.size s142 0 o9 s9 h9 mc9 ms9 hm9) (cwV 1 hts (goodIn_up gL_law_X6_count) rfl rfl rfl (by decide +kernel) ⟨Nat.le_of_ble_eq_true rfl, Nat.le_of_ble_eq_true rfl⟩) (mg_preV (hK.sub (tys' := [(o 53, .int), (o 54, .boolean)]) [0, 1] rfl) hO hA (mg_C_list hw 4 rfl) (q0 := 0) rfl rfl) rfl rfl hl.1 rfl (lv_room (Nat.le_of_ble_eq_true rfl)) dL_law_949 ⟨hc9, hs9⟩) hw hA 4 [0, 1, 2, 3] rfl (Lr := [mg_fS o (β2 9 0) β9 y8.2, mg_fI o q66 n67 y70.2.2.2.1, mg_fZ o q68 n69 y70.2.2.2.2, mg_fI o q107 n108 y109.2.2]) rfl rfl (by decide) (lw_rc (show cl22_ + 12 ≤ 500000 by omega)) (lw_rs (show sl22_ + 176 ≤ 6000000 by omega)) (fun v143 s144 h H locs hw => ?_)
                                    refine lv_istore (lv' := [(16, .int v143), (5, .int v141), (0, .ref b), (1, .ref (g 0)), (2, .ref (β2 9 0)), (3, .int x3_22), (4, .int ((y4 >>> (((x3_22 / 16) * 5) &&& 31)) + (59 * x3_22))), (6, .int (nI (y8.2.2 0))), (7, .int v14), (8, .int v16), (12, .ref q66), (13, .ref q68), (14, .ref q107)]) hx hb dL_law_952 hl (by decide) rfl (fun ls hl => ?_)
                                    refine lv_aload_n hx hb dL_law_954 rfl (lv_at hl 3 rfl) ?_
                                    refine lv_bipush (v := 10) hx hb dL_law_955 (by decide) ?_
                                    refine mg_vxq h (fun v : Int32 => some (.int v)) (fun mc9 ms9 o9 s9 hm9 h9 hc9 hs9 => vx_runV (As := [.int 10]) (rest := []) G9 (k_X6_count l hst D o (o 53) (o 54) g H.size s144 10 o9 s9 h9 mc9 ms9 hm9) (cwV 1 hts (goodIn_up gL_law_X6_count) rfl rfl rfl (by decide +kernel) ⟨Nat.le_of_ble_eq_true rfl, Nat.le_of_ble_eq_true rfl⟩) (mg_preV (hK.sub (tys' := [(o 53, .int), (o 54, .boolean)]) [0, 1] rfl) hO hA (mg_C_list hw 4 rfl) (q0 := 0) rfl rfl) rfl rfl hl.1 rfl (lv_room (Nat.le_of_ble_eq_true rfl)) dL_law_957 ⟨hc9, hs9⟩) hw hA 4 [0, 1, 2, 3] rfl (Lr := [mg_fS o (β2 9 0) β9 y8.2, mg_fI o q66 n67 y70.2.2.2.1, mg_fZ o q68 n69 y70.2.2.2.2, mg_fI o q107 n108 y109.2.2]) rfl rfl (by decide) (lw_rc (show cl22_ + 12 ≤ 500000 by omega)) (lw_rs (show sl22_ + 176 ≤ 6000000 by omega)) (fun v145 s146 h H locs hw => ?_)
                                    refine lv_istore (lv' := [(17, .int v145), (16, .int v143), (5, .int v141), (0, .ref b), (1, .ref (g 0)), (2, .ref (β2 9 0)), (3, .int x3_22), (4, .int ((y4 >>> (((x3_22 / 16) * 5) &&& 31)) + (59 * x3_22))), (6, .int (nI (y8.2.2 0))), (7, .int v14), (8, .int v16), (12, .ref q66), (13, .ref q68), (14, .ref q107)]) hx hb dL_law_960 hl (by decide) rfl (fun ls hl => ?_)
                                    refine lv_aload_n hx hb dL_law_962 rfl (lv_at hl 4 rfl) ?_
                                    refine lv_iconst (v := 1) hx hb dL_law_963 (by decide) ?_
                                    refine mg_vxq h (fun v : Int32 => some (.int v)) (fun mc9 ms9 o9 s9 hm9 h9 hc9 hs9 => vx_runV (As := [.int 1]) (rest := []) G9 (k_X6_count l hst D o (o 53) (o 54) g H.size s146 1 o9 s9 h9 mc9 ms9 hm9) (cwV 1 hts (goodIn_up gL_law_X6_count) rfl rfl rfl (by decide +kernel) ⟨Nat.le_of_ble_eq_true rfl, Nat.le_of_ble_eq_true rfl⟩) (mg_preV (hK.sub (tys' := [(o 53, .int), (o 54, .boolean)]) [0, 1] rfl) hO hA (mg_C_list hw 4 rfl) (q0 := 0) rfl rfl) rfl rfl hl.1 rfl (lv_room (Nat.le_of_ble_eq_true rfl)) dL_law_964 ⟨hc9, hs9⟩) hw hA 4 [0, 1, 2, 3] rfl (Lr := [mg_fS o (β2 9 0) β9 y8.2, mg_fI o q66 n67 y70.2.2.2.1, mg_fZ o q68 n69 y70.2.2.2.2, mg_fI o q107 n108 y109.2.2]) rfl rfl (by decide) (lw_rc (show cl22_ + 12 ≤ 500000 by omega)) (lw_rs (show sl22_ + 176 ≤ 6000000 by omega)) (fun v147 s148 h H locs hw => ?_)
                                    refine lv_iconst (v := 1) hx hb dL_law_967 (by decide) ?_
                                    obtain ⟨y149, h9_, h⟩ := mg_bind h
                                    have J968_ : ∀ (H : Heap) (locs : List Loc) (ls : Array Slot), mg_Vo D A s.heap H locs ([mg_fS o (β2 9 0) β9 y8.2, mg_fI o q66 n67 y70.2.2.2.1, mg_fZ o q68 n69 y70.2.2.2.2, mg_fI o q107 n108 y109.2.2, mg_fC g (o 53) (o 54) s148]) → lv_has ls 30 [(0, .ref b), (1, .ref (g 0)), (2, .ref (β2 9 0)), (3, .int x3_22), (4, .int ((y4 >>> (((x3_22 / 16) * 5) &&& 31)) + (59 * x3_22))), (5, .int v141), (6, .int (nI (y8.2.2 0))), (7, .int v14), (8, .int v16), (12, .ref q66), (13, .ref q68), (14, .ref q107), (16, .int v143), (17, .int v145)] → W p l e room_1 s m #[Value.ref b] below meth c H locs (cl22_ + 12) (sl22_ + 176) (lw_Z below #[Value.ref b] s) (F0 m 976 ls [.int y149]) := by
                                      intro H locs ls hw hl
                                      clear h9_
                                      refine lv_istore (lv' := [(18, .int y149), (0, .ref b), (1, .ref (g 0)), (2, .ref (β2 9 0)), (3, .int x3_22), (4, .int ((y4 >>> (((x3_22 / 16) * 5) &&& 31)) + (59 * x3_22))), (5, .int v141), (6, .int (nI (y8.2.2 0))), (7, .int v14), (8, .int v16), (12, .ref q66), (13, .ref q68), (14, .ref q107), (16, .int v143), (17, .int v145)]) hx hb dL_law_976 hl (by decide) rfl (fun ls hl => ?_)
                                      refine lv_aload_n hx hb dL_law_978 rfl (lv_at hl 2 rfl) ?_
                                      obtain ⟨y150, h9_, h⟩ := mg_bind h
                                      refine mg_callC (rv := some (.long y150.1)) (va_runV (As := []) (rest := []) G9 (k_X6_digest l hst D o (o 53) (o 54) g H.size s148  y150 h9_) (cwV 0 hts (goodIn_up gL_law_X6_digest) rfl rfl rfl (by decide +kernel) ⟨Nat.le_of_ble_eq_true rfl, Nat.le_of_ble_eq_true rfl⟩) (mg_preV (hK.sub (tys' := [(o 53, .int), (o 54, .boolean)]) [0, 1] rfl) hO hA (mg_C_list hw 4 rfl) (q0 := 0) rfl rfl) rfl rfl hl.1 rfl (lv_room (Nat.le_of_ble_eq_true rfl)) dL_law_979 ⟨(lw_rc (show cl22_ + 12 + 0 ≤ 500000 by omega)), (lw_rs (show sl22_ + 176 + 0 ≤ 6000000 by omega))⟩) hw hA 4 [0, 1, 2, 3] rfl (Lr := [mg_fS o (β2 9 0) β9 y8.2, mg_fI o q66 n67 y70.2.2.2.1, mg_fZ o q68 n69 y70.2.2.2.2, mg_fI o q107 n108 y109.2.2]) rfl rfl (by decide) (fun H locs hw => ?_)
                                      clear h9_
                                      refine lv_lstore (lv' := [(19, .long y150.1), (18, .int y149), (0, .ref b), (1, .ref (g 0)), (2, .ref (β2 9 0)), (3, .int x3_22), (4, .int ((y4 >>> (((x3_22 / 16) * 5) &&& 31)) + (59 * x3_22))), (5, .int v141), (6, .int (nI (y8.2.2 0))), (7, .int v14), (8, .int v16), (12, .ref q66), (13, .ref q68), (14, .ref q107), (16, .int v143), (17, .int v145)]) hx hb dL_law_982 hl (by decide) rfl (fun ls hl => ?_)
                                      refine lv_iconst (v := 3) hx hb dL_law_984 (by decide) ?_
                                      refine mg_vnewI (n := 3) (N := 3) (B := 3) hx hb w6_ hK hw hA (by decide) rfl (Nat.le_refl _) (Nat.le_of_ble_eq_true rfl) (lw_rc (show cl22_ + 12 + 1 ≤ 500000 by omega)) (lw_rs (show sl22_ + 176 + 3 ≤ 6000000 by omega)) dL_law_985 (fun q151 H hw => ?_)
                                      refine lv_dup hx hb dL_law_987 rfl ?_
                                      refine lv_iconst (v := 0) hx hb dL_law_988 (by decide) ?_
                                      refine lv_aload_n hx hb dL_law_989 rfl (lv_at hl 3 rfl) ?_
                                      refine lv_iconst (v := 1) hx hb dL_law_990 (by decide) ?_
                                      refine lv_iconst (v := 2) hx hb dL_law_991 (by decide) ?_
                                      refine mg_vxq h (fun v : Int32 => some (.int v)) (fun mc9 ms9 o9 s9 hm9 h9 hc9 hs9 => vx_runV (As := [.int 1, .int 2]) (rest := [.int 0, .ref q151, .ref q151]) G9 (k_X6_foresee l hst D o (o 53) (o 54) g H.size y150.2 1 2 o9 s9 h9 mc9 ms9 hm9) (cwV 2 hts (goodIn_up gL_law_X6_foresee) rfl rfl rfl (by decide +kernel) ⟨Nat.le_of_ble_eq_true rfl, Nat.le_of_ble_eq_true rfl⟩) (mg_preV (hK.sub (tys' := [(o 53, .int), (o 54, .boolean)]) [0, 1] rfl) hO hA (mg_C_list hw 4 rfl) (q0 := 0) rfl rfl) rfl rfl hl.1 rfl (lv_room (Nat.le_of_ble_eq_true rfl)) dL_law_992 ⟨hc9, hs9⟩) hw hA 4 [0, 1, 2, 3, 5] rfl (Lr := [mg_fS o (β2 9 0) β9 y8.2, mg_fI o q66 n67 y70.2.2.2.1, mg_fZ o q68 n69 y70.2.2.2.2, mg_fI o q107 n108 y109.2.2, mg_fI o q151 3 (fun _ => 0)]) rfl rfl (by decide) (lw_rc (show cl22_ + 13 ≤ 500000 by omega)) (lw_rs (show sl22_ + 179 ≤ 6000000 by omega)) (fun v152 s153 h H locs hw => ?_)
                                      refine mg_iasx (x := 0) (F' := mg_fI o q151 3 (upd (fun _ => 0) 0 v152)) hx hb hK hw 4 rfl mg_fI_0 (by unfold vp_in; decide) (by decide) mg_sI dL_law_995 (fun H locs hw => ?_)
                                      refine lv_dup hx hb dL_law_996 rfl ?_
                                      refine lv_iconst (v := 1) hx hb dL_law_997 (by decide) ?_
                                      refine lv_aload_n hx hb dL_law_998 rfl (lv_at hl 3 rfl) ?_
                                      refine lv_iconst (v := 1) hx hb dL_law_999 (by decide) ?_
                                      refine lv_bipush (v := 7) hx hb dL_law_1000 (by decide) ?_
                                      refine mg_vxq h (fun v : Int32 => some (.int v)) (fun mc9 ms9 o9 s9 hm9 h9 hc9 hs9 => vx_runV (As := [.int 1, .int 7]) (rest := [.int 1, .ref q151, .ref q151]) G9 (k_X6_foresee l hst D o (o 53) (o 54) g H.size s153 1 7 o9 s9 h9 mc9 ms9 hm9) (cwV 2 hts (goodIn_up gL_law_X6_foresee) rfl rfl rfl (by decide +kernel) ⟨Nat.le_of_ble_eq_true rfl, Nat.le_of_ble_eq_true rfl⟩) (mg_preV (hK.sub (tys' := [(o 53, .int), (o 54, .boolean)]) [0, 1] rfl) hO hA (mg_C_list hw 5 rfl) (q0 := 0) rfl rfl) rfl rfl hl.1 rfl (lv_room (Nat.le_of_ble_eq_true rfl)) dL_law_1002 ⟨hc9, hs9⟩) hw hA 5 [0, 1, 2, 3, 4] rfl (Lr := [mg_fS o (β2 9 0) β9 y8.2, mg_fI o q66 n67 y70.2.2.2.1, mg_fZ o q68 n69 y70.2.2.2.2, mg_fI o q107 n108 y109.2.2, mg_fI o q151 3 (upd (fun _ => 0) 0 v152)]) rfl rfl (by decide) (lw_rc (show cl22_ + 13 ≤ 500000 by omega)) (lw_rs (show sl22_ + 179 ≤ 6000000 by omega)) (fun v154 s155 h H locs hw => ?_)
                                      refine mg_iasx (x := 1) (F' := mg_fI o q151 3 (upd (upd (fun _ => 0) 0 v152) 1 v154)) hx hb hK hw 4 rfl mg_fI_0 (by unfold vp_in; decide) (by decide) mg_sI dL_law_1005 (fun H locs hw => ?_)
                                      refine lv_dup hx hb dL_law_1006 rfl ?_
                                      refine lv_iconst (v := 2) hx hb dL_law_1007 (by decide) ?_
                                      refine lv_aload_n hx hb dL_law_1008 rfl (lv_at hl 3 rfl) ?_
                                      refine lv_iconst (v := 1) hx hb dL_law_1009 (by decide) ?_
                                      refine lv_bipush (v := 10) hx hb dL_law_1010 (by decide) ?_
                                      refine mg_vxq h (fun v : Int32 => some (.int v)) (fun mc9 ms9 o9 s9 hm9 h9 hc9 hs9 => vx_runV (As := [.int 1, .int 10]) (rest := [.int 2, .ref q151, .ref q151]) G9 (k_X6_foresee l hst D o (o 53) (o 54) g H.size s155 1 10 o9 s9 h9 mc9 ms9 hm9) (cwV 2 hts (goodIn_up gL_law_X6_foresee) rfl rfl rfl (by decide +kernel) ⟨Nat.le_of_ble_eq_true rfl, Nat.le_of_ble_eq_true rfl⟩) (mg_preV (hK.sub (tys' := [(o 53, .int), (o 54, .boolean)]) [0, 1] rfl) hO hA (mg_C_list hw 5 rfl) (q0 := 0) rfl rfl) rfl rfl hl.1 rfl (lv_room (Nat.le_of_ble_eq_true rfl)) dL_law_1012 ⟨hc9, hs9⟩) hw hA 5 [0, 1, 2, 3, 4] rfl (Lr := [mg_fS o (β2 9 0) β9 y8.2, mg_fI o q66 n67 y70.2.2.2.1, mg_fZ o q68 n69 y70.2.2.2.2, mg_fI o q107 n108 y109.2.2, mg_fI o q151 3 (upd (upd (fun _ => 0) 0 v152) 1 v154)]) rfl rfl (by decide) (lw_rc (show cl22_ + 13 ≤ 500000 by omega)) (lw_rs (show sl22_ + 179 ≤ 6000000 by omega)) (fun v156 s157 h H locs hw => ?_)
                                      refine mg_iasx (x := 2) (F' := mg_fI o q151 3 (upd (upd (upd (fun _ => 0) 0 v152) 1 v154) 2 v156)) hx hb hK hw 4 rfl mg_fI_0 (by unfold vp_in; decide) (by decide) mg_sI dL_law_1015 (fun H locs hw => ?_)
                                      refine lv_astore (lv' := [(21, .ref q151), (19, .long y150.1), (18, .int y149), (0, .ref b), (1, .ref (g 0)), (2, .ref (β2 9 0)), (3, .int x3_22), (4, .int ((y4 >>> (((x3_22 / 16) * 5) &&& 31)) + (59 * x3_22))), (5, .int v141), (6, .int (nI (y8.2.2 0))), (7, .int v14), (8, .int v16), (12, .ref q66), (13, .ref q68), (14, .ref q107), (16, .int v143), (17, .int v145)]) hx hb dL_law_1016 hl (by decide) rfl (fun ls hl => ?_)
                                      refine lv_iload hx hb dL_law_1018 (lv_at hl 10 rfl) ?_
                                      obtain ⟨y158, h9_, h⟩ := mg_bind h
                                      have J1020_ : ∀ (H : Heap) (locs : List Loc) (ls : Array Slot), mg_Vo D A s.heap H locs ([mg_fS o (β2 9 0) β9 y8.2, mg_fI o q66 n67 y70.2.2.2.1, mg_fZ o q68 n69 y70.2.2.2.2, mg_fI o q107 n108 y109.2.2, mg_fI o q151 3 (upd (upd (upd (fun _ => 0) 0 v152) 1 v154) 2 v156), mg_fC g (o 53) (o 54) s157]) → lv_has ls 30 [(0, .ref b), (1, .ref (g 0)), (2, .ref (β2 9 0)), (3, .int x3_22), (4, .int ((y4 >>> (((x3_22 / 16) * 5) &&& 31)) + (59 * x3_22))), (5, .int v141), (6, .int (nI (y8.2.2 0))), (8, .int v16), (12, .ref q66), (13, .ref q68), (14, .ref q107), (16, .int v143), (17, .int v145), (18, .int y149), (19, .long y150.1), (21, .ref q151)] → W p l e room_1 s m #[Value.ref b] below meth c H locs (cl22_ + 13) (sl22_ + 179) (lw_Z below #[Value.ref b] s) (F0 m 1036 ls [.int y158]) := by
                                        intro H locs ls hw hl
                                        clear h9_
                                        refine lv_istore (lv' := [(22, .int y158), (0, .ref b), (1, .ref (g 0)), (2, .ref (β2 9 0)), (3, .int x3_22), (4, .int ((y4 >>> (((x3_22 / 16) * 5) &&& 31)) + (59 * x3_22))), (5, .int v141), (6, .int (nI (y8.2.2 0))), (8, .int v16), (12, .ref q66), (13, .ref q68), (14, .ref q107), (16, .int v143), (17, .int v145), (18, .int y149), (19, .long y150.1), (21, .ref q151)]) hx hb dL_law_1036 hl (by decide) rfl (fun ls hl => ?_)
                                        refine lv_iload hx hb dL_law_1038 (lv_at hl 5 rfl) ?_
                                        refine lv_iconst (v := 5) hx hb dL_law_1040 (by decide) ?_
                                        refine lv_ishr hx hb dL_law_1041 ?_
                                        refine lv_bipush (v := 6) hx hb dL_law_1042 (by decide) ?_
                                        obtain ⟨y161, h9_, h⟩ := mg_bind h
                                        refine mg_callV (va_runS (As := [.int (((y4 >>> (((x3_22 / 16) * 5) &&& 31)) + (59 * x3_22)) >>> (5 &&& 31)), .int 6]) (rest := []) G9 (k_L_below l D o  H.size (((y4 >>> (((x3_22 / 16) * 5) &&& 31)) + (59 * x3_22)) >>> (5 &&& 31)) 6 y161 h9_) (va_cwS 2 hts (goodIn_up gL_law_L_below) rfl rfl rfl (by decide +kernel) ⟨Nat.le_of_ble_eq_true rfl, Nat.le_of_ble_eq_true rfl⟩) (mg_preVv hK hO hA (mg_Vsub (L' := []) hw [] rfl rfl)) rfl rfl hl.1 rfl (lv_room (Nat.le_of_ble_eq_true rfl)) dL_law_1044 ⟨(lw_rc (show cl22_ + 13 + 0 ≤ 500000 by omega)), (lw_rs (show sl22_ + 179 + 0 ≤ 6000000 by omega))⟩) hw hA [] [0, 1, 2, 3, 4, 5] rfl (Lr := [mg_fS o (β2 9 0) β9 y8.2, mg_fI o q66 n67 y70.2.2.2.1, mg_fZ o q68 n69 y70.2.2.2.2, mg_fI o q107 n108 y109.2.2, mg_fI o q151 3 (upd (upd (upd (fun _ => 0) 0 v152) 1 v154) 2 v156), mg_fC g (o 53) (o 54) s157]) rfl rfl (by decide) (fun β162 H locs hw => ?_)
                                        clear h9_
                                        have hw : mg_Vo D A s.heap H locs ([mg_fS o (β2 9 0) β9 y8.2, mg_fI o q66 n67 y70.2.2.2.1, mg_fZ o q68 n69 y70.2.2.2.2, mg_fI o q107 n108 y109.2.2, mg_fI o q151 3 (upd (upd (upd (fun _ => 0) 0 v152) 1 v154) 2 v156), mg_fC g (o 53) (o 54) s157]) := hw
                                        refine lv_istore (lv' := [(23, .int y161), (22, .int y158), (0, .ref b), (1, .ref (g 0)), (2, .ref (β2 9 0)), (3, .int x3_22), (4, .int ((y4 >>> (((x3_22 / 16) * 5) &&& 31)) + (59 * x3_22))), (5, .int v141), (6, .int (nI (y8.2.2 0))), (8, .int v16), (12, .ref q66), (13, .ref q68), (14, .ref q107), (16, .int v143), (17, .int v145), (18, .int y149), (19, .long y150.1), (21, .ref q151)]) hx hb dL_law_1047 hl (by decide) rfl (fun ls hl => ?_)
                                        refine lv_iconst (v := 1) hx hb dL_law_1049 (by decide) ?_
                                        refine lv_iload hx hb dL_law_1050 (lv_at hl 6 rfl) ?_
                                        refine lv_bipush (v := 6) hx hb dL_law_1052 (by decide) ?_
                                        refine lv_ishr hx hb dL_law_1054 ?_
                                        refine lv_bipush (v := 9) hx hb dL_law_1055 (by decide) ?_
                                        obtain ⟨y163, h9_, h⟩ := mg_bind h
                                        refine mg_callV (va_runS (As := [.int (((y4 >>> (((x3_22 / 16) * 5) &&& 31)) + (59 * x3_22)) >>> (6 &&& 31)), .int 9]) (rest := [.int 1]) G9 (k_L_below l D o  H.size (((y4 >>> (((x3_22 / 16) * 5) &&& 31)) + (59 * x3_22)) >>> (6 &&& 31)) 9 y163 h9_) (va_cwS 2 hts (goodIn_up gL_law_L_below) rfl rfl rfl (by decide +kernel) ⟨Nat.le_of_ble_eq_true rfl, Nat.le_of_ble_eq_true rfl⟩) (mg_preVv hK hO hA (mg_Vsub (L' := []) hw [] rfl rfl)) rfl rfl hl.1 rfl (lv_room (Nat.le_of_ble_eq_true rfl)) dL_law_1057 ⟨(lw_rc (show cl22_ + 13 + 0 ≤ 500000 by omega)), (lw_rs (show sl22_ + 179 + 0 ≤ 6000000 by omega))⟩) hw hA [] [0, 1, 2, 3, 4, 5] rfl (Lr := [mg_fS o (β2 9 0) β9 y8.2, mg_fI o q66 n67 y70.2.2.2.1, mg_fZ o q68 n69 y70.2.2.2.2, mg_fI o q107 n108 y109.2.2, mg_fI o q151 3 (upd (upd (upd (fun _ => 0) 0 v152) 1 v154) 2 v156), mg_fC g (o 53) (o 54) s157]) rfl rfl (by decide) (fun β164 H locs hw => ?_)
                                        clear h9_
                                        have hw : mg_Vo D A s.heap H locs ([mg_fS o (β2 9 0) β9 y8.2, mg_fI o q66 n67 y70.2.2.2.1, mg_fZ o q68 n69 y70.2.2.2.2, mg_fI o q107 n108 y109.2.2, mg_fI o q151 3 (upd (upd (upd (fun _ => 0) 0 v152) 1 v154) 2 v156), mg_fC g (o 53) (o 54) s157]) := hw
                                        refine lv_iadd hx hb dL_law_1060 ?_
                                        refine lv_istore (lv' := [(24, .int (1 + y163)), (23, .int y161), (22, .int y158), (0, .ref b), (1, .ref (g 0)), (2, .ref (β2 9 0)), (3, .int x3_22), (4, .int ((y4 >>> (((x3_22 / 16) * 5) &&& 31)) + (59 * x3_22))), (5, .int v141), (6, .int (nI (y8.2.2 0))), (8, .int v16), (12, .ref q66), (13, .ref q68), (14, .ref q107), (16, .int v143), (17, .int v145), (18, .int y149), (19, .long y150.1), (21, .ref q151)]) hx hb dL_law_1061 hl (by decide) rfl (fun ls hl => ?_)
                                        refine lv_iload hx hb dL_law_1063 (lv_at hl 2 rfl) ?_
                                        obtain ⟨y165, h9_, h⟩ := mg_bind h
                                        have J1065_ : ∀ (H : Heap) (locs : List Loc) (ls : Array Slot), mg_Vo D A s.heap H locs ([mg_fS o (β2 9 0) β9 y8.2, mg_fI o q66 n67 y70.2.2.2.1, mg_fZ o q68 n69 y70.2.2.2.2, mg_fI o q107 n108 y109.2.2, mg_fI o q151 3 (upd (upd (upd (fun _ => 0) 0 v152) 1 v154) 2 v156), mg_fC g (o 53) (o 54) y165.2]) → lv_has ls 30 [(0, .ref b), (1, .ref (g 0)), (2, .ref (β2 9 0)), (3, .int x3_22), (5, .int v141), (6, .int (nI (y8.2.2 0))), (8, .int v16), (12, .ref q66), (13, .ref q68), (14, .ref q107), (16, .int v143), (17, .int v145), (18, .int y149), (19, .long y150.1), (21, .ref q151)] → W p l e room_1 s m #[Value.ref b] below meth c H locs (cl22_ + 13) (sl22_ + 179) (lw_Z below #[Value.ref b] s) (F0 m 1082 ls [.int y165.1]) := by
                                          intro H locs ls hw hl
                                          clear h9_
                                          refine lv_istore (lv' := [(25, .int y165.1), (0, .ref b), (1, .ref (g 0)), (2, .ref (β2 9 0)), (3, .int x3_22), (5, .int v141), (6, .int (nI (y8.2.2 0))), (8, .int v16), (12, .ref q66), (13, .ref q68), (14, .ref q107), (16, .int v143), (17, .int v145), (18, .int y149), (19, .long y150.1), (21, .ref q151)]) hx hb dL_law_1082 hl (by decide) rfl (fun ls hl => ?_)
                                          refine lv_aload_n hx hb dL_law_1084 rfl (lv_at hl 2 rfl) ?_
                                          obtain ⟨y168, h9_, h⟩ := mg_bind h
                                          refine mg_callC (rv := some (.long y168.1)) (va_runV (As := []) (rest := []) G9 (k_X6_digest l hst D o (o 53) (o 54) g H.size y165.2  y168 h9_) (cwV 0 hts (goodIn_up gL_law_X6_digest) rfl rfl rfl (by decide +kernel) ⟨Nat.le_of_ble_eq_true rfl, Nat.le_of_ble_eq_true rfl⟩) (mg_preV (hK.sub (tys' := [(o 53, .int), (o 54, .boolean)]) [0, 1] rfl) hO hA (mg_C_list hw 5 rfl) (q0 := 0) rfl rfl) rfl rfl hl.1 rfl (lv_room (Nat.le_of_ble_eq_true rfl)) dL_law_1085 ⟨(lw_rc (show cl22_ + 13 + 0 ≤ 500000 by omega)), (lw_rs (show sl22_ + 179 + 0 ≤ 6000000 by omega))⟩) hw hA 5 [0, 1, 2, 3, 4] rfl (Lr := [mg_fS o (β2 9 0) β9 y8.2, mg_fI o q66 n67 y70.2.2.2.1, mg_fZ o q68 n69 y70.2.2.2.2, mg_fI o q107 n108 y109.2.2, mg_fI o q151 3 (upd (upd (upd (fun _ => 0) 0 v152) 1 v154) 2 v156)]) rfl rfl (by decide) (fun H locs hw => ?_)
                                          clear h9_
                                          refine lv_lload hx hb dL_law_1088 (lv_at hl 14 rfl) ?_
                                          refine W.lcmp hx hb dL_law_1090 ?_
                                          refine mg_if_ne (tgt := 1136) hx hb h dL_law_1091 (by decide) (fun h => ?_) (fun h => ?_)
                                          · cases h
                                          · refine lv_iload hx hb dL_law_1094 (lv_at hl 13 rfl) ?_
                                            refine lv_iload hx hb dL_law_1096 (lv_at hl 11 rfl) ?_
                                            refine lv_bipush (v := 8) hx hb dL_law_1098 (by decide) ?_
                                            refine lv_irem hx hb dL_law_1100 (by decide) ?_
                                            refine lv_iconst (v := 4) hx hb dL_law_1101 (by decide) ?_
                                            obtain ⟨y169, h9_, h⟩ := mg_bind h
                                            have J1102_ : ∀ (H : Heap) (locs : List Loc) (ls : Array Slot), mg_Vo D A s.heap H locs ([mg_fS o (β2 9 0) β9 y8.2, mg_fI o q66 n67 y70.2.2.2.1, mg_fZ o q68 n69 y70.2.2.2.2, mg_fI o q107 n108 y109.2.2, mg_fI o q151 3 (upd (upd (upd (fun _ => 0) 0 v152) 1 v154) 2 v156), mg_fC g (o 53) (o 54) y168.2]) → lv_has ls 30 [(0, .ref b), (1, .ref (g 0)), (2, .ref (β2 9 0)), (3, .int x3_22), (5, .int v141), (6, .int (nI (y8.2.2 0))), (8, .int v16), (12, .ref q66), (13, .ref q68), (14, .ref q107), (16, .int v143), (17, .int v145), (18, .int y149), (21, .ref q151), (25, .int y165.1)] → W p l e room_1 s m #[Value.ref b] below meth c H locs (cl22_ + 13) (sl22_ + 179) (lw_Z below #[Value.ref b] s) (F0 m 1110 ls [.int y169, .int y149]) := by
                                              intro H locs ls hw hl
                                              clear h9_
                                              refine mg_icmp_ne (tgt := 1136) hx hb h dL_law_1110 (by decide) (fun h => ?_) (fun h => ?_)
                                              · cases h
                                              · refine lv_iload hx hb dL_law_1113 (lv_at hl 14 rfl) ?_
                                                obtain ⟨y170, h9_, h⟩ := mg_bind h
                                                have J1115_ : ∀ (H : Heap) (locs : List Loc) (ls : Array Slot), mg_Vo D A s.heap H locs ([mg_fS o (β2 9 0) β9 y8.2, mg_fI o q66 n67 y70.2.2.2.1, mg_fZ o q68 n69 y70.2.2.2.2, mg_fI o q107 n108 y109.2.2, mg_fI o q151 3 (upd (upd (upd (fun _ => 0) 0 v152) 1 v154) 2 v156), mg_fC g (o 53) (o 54) y170]) → lv_has ls 30 [(0, .ref b), (1, .ref (g 0)), (2, .ref (β2 9 0)), (3, .int x3_22), (5, .int v141), (6, .int (nI (y8.2.2 0))), (8, .int v16), (12, .ref q66), (13, .ref q68), (14, .ref q107), (16, .int v143), (17, .int v145), (18, .int y149), (21, .ref q151)] → W p l e room_1 s m #[Value.ref b] below meth c H locs (cl22_ + 13) (sl22_ + 179) (lw_Z below #[Value.ref b] s) (F0 m 1138 ls []) := by
                                                  intro H locs ls hw hl
                                                  clear h9_
                                                  refine lv_aload_n hx hb dL_law_1138 rfl (lv_at hl 1 rfl) ?_
                                                  refine lv_iconst (v := 1) hx hb dL_law_1139 (by decide) ?_
                                                  refine mg_vxq h (fun v : Int32 => some (.int v)) (fun mc9 ms9 o9 s9 hm9 h9 hc9 hs9 => vx_runV (As := [.int 1]) (rest := []) G9 (k_X6_pass l hst D o (o 53) (o 54) g H.size y170 1 o9 s9 h9 mc9 ms9 hm9) (cwV 1 hts (goodIn_up gL_law_X6_pass) rfl rfl rfl (by decide +kernel) ⟨Nat.le_of_ble_eq_true rfl, Nat.le_of_ble_eq_true rfl⟩) (mg_preV (hK.sub (tys' := [(o 53, .int), (o 54, .boolean)]) [0, 1] rfl) hO hA (mg_C_list hw 5 rfl) (q0 := 0) rfl rfl) rfl rfl hl.1 rfl (lv_room (Nat.le_of_ble_eq_true rfl)) dL_law_1140 ⟨hc9, hs9⟩) hw hA 5 [0, 1, 2, 3, 4] rfl (Lr := [mg_fS o (β2 9 0) β9 y8.2, mg_fI o q66 n67 y70.2.2.2.1, mg_fZ o q68 n69 y70.2.2.2.2, mg_fI o q107 n108 y109.2.2, mg_fI o q151 3 (upd (upd (upd (fun _ => 0) 0 v152) 1 v154) 2 v156)]) rfl rfl (by decide) (lw_rc (show cl22_ + 13 ≤ 500000 by omega)) (lw_rs (show sl22_ + 179 ≤ 6000000 by omega)) (fun v173 s174 h H locs hw => ?_)
                                                  refine lv_istore (lv' := [(26, .int v173), (0, .ref b), (1, .ref (g 0)), (2, .ref (β2 9 0)), (3, .int x3_22), (5, .int v141), (6, .int (nI (y8.2.2 0))), (8, .int v16), (12, .ref q66), (13, .ref q68), (14, .ref q107), (16, .int v143), (17, .int v145), (18, .int y149), (21, .ref q151)]) hx hb dL_law_1143 hl (by decide) rfl (fun ls hl => ?_)
                                                  refine lv_iload hx hb dL_law_1145 (lv_at hl 0 rfl) ?_
                                                  refine lv_aload_n hx hb dL_law_1147 rfl (lv_at hl 3 rfl) ?_
                                                  obtain ⟨y175, h9_, h⟩ := mg_bind h
                                                  refine mg_callV (va_runV (As := []) (rest := [.int v173]) G9 (k_X7_pass l D o (β2 9 0) β9 H.size y8.2 y175 h9_) (cwV 0 hts (goodIn_up gL_law_X7_pass) rfl rfl rfl (by decide +kernel) ⟨Nat.le_of_ble_eq_true rfl, Nat.le_of_ble_eq_true rfl⟩) (mg_preVV hK hO hA (mg_Vsub (L' := [mg_fS o (β2 9 0) β9 y8.2]) hw [0] rfl rfl) 0 rfl mg_fS_00 rfl) rfl rfl hl.1 rfl (lv_room (Nat.le_of_ble_eq_true rfl)) dL_law_1148 ⟨(lw_rc (show cl22_ + 13 + 386 ≤ 500000 by omega)), (lw_rs (show sl22_ + 179 + 4565 ≤ 6000000 by omega))⟩) hw hA [0] [1, 2, 3, 4, 5] rfl (Lr := [mg_fI o q66 n67 y70.2.2.2.1, mg_fZ o q68 n69 y70.2.2.2.2, mg_fI o q107 n108 y109.2.2, mg_fI o q151 3 (upd (upd (upd (fun _ => 0) 0 v152) 1 v154) 2 v156), mg_fC g (o 53) (o 54) s174]) rfl rfl (by decide) (fun β176 H locs hw => ?_)
                                                  clear h9_
                                                  have hw : mg_Vo D A s.heap H locs ([mg_fI o q66 n67 y70.2.2.2.1, mg_fZ o q68 n69 y70.2.2.2.2, mg_fI o q107 n108 y109.2.2, mg_fI o q151 3 (upd (upd (upd (fun _ => 0) 0 v152) 1 v154) 2 v156), mg_fC g (o 53) (o 54) s174, mg_fS o (β2 9 0) β9 y175.2]) := hw
                                                  refine mg_icmp_ne (tgt := 1234) hx hb h dL_law_1151 (by decide) (fun h => ?_) (fun h => ?_)
                                                  · cases h
                                                  · refine lv_aload_n hx hb dL_law_1154 rfl (lv_at hl 2 rfl) ?_
                                                    refine lv_iconst (v := 2) hx hb dL_law_1155 (by decide) ?_
                                                    refine mg_vxq h (fun v : Int32 => some (.int v)) (fun mc9 ms9 o9 s9 hm9 h9 hc9 hs9 => vx_runV (As := [.int 2]) (rest := []) G9 (k_X6_count l hst D o (o 53) (o 54) g H.size s174 2 o9 s9 h9 mc9 ms9 hm9) (cwV 1 hts (goodIn_up gL_law_X6_count) rfl rfl rfl (by decide +kernel) ⟨Nat.le_of_ble_eq_true rfl, Nat.le_of_ble_eq_true rfl⟩) (mg_preV (hK.sub (tys' := [(o 53, .int), (o 54, .boolean)]) [0, 1] rfl) hO hA (mg_C_list hw 4 rfl) (q0 := 0) rfl rfl) rfl rfl hl.1 rfl (lv_room (Nat.le_of_ble_eq_true rfl)) dL_law_1156 ⟨hc9, hs9⟩) hw hA 4 [0, 1, 2, 3, 5] rfl (Lr := [mg_fI o q66 n67 y70.2.2.2.1, mg_fZ o q68 n69 y70.2.2.2.2, mg_fI o q107 n108 y109.2.2, mg_fI o q151 3 (upd (upd (upd (fun _ => 0) 0 v152) 1 v154) 2 v156), mg_fS o (β2 9 0) β9 y175.2]) rfl rfl (by decide) (lw_rc (show cl22_ + 399 ≤ 500000 by omega)) (lw_rs (show sl22_ + 4744 ≤ 6000000 by omega)) (fun v177 s178 h H locs hw => ?_)
                                                    refine lv_aload hx hb dL_law_1159 (lv_at hl 14 rfl) ?_
                                                    refine lv_iconst (v := 0) hx hb dL_law_1161 (by decide) ?_
                                                    refine mg_ial (x := 0) hx hb hK hw 3 rfl mg_fI_0 (by unfold vp_in; decide) (by decide) dL_law_1162 ?_
                                                    refine mg_icmp_ne (tgt := 1234) hx hb h dL_law_1163 (by decide) (fun h => ?_) (fun h => ?_)
                                                    · cases h
                                                    · refine lv_aload_n hx hb dL_law_1166 rfl (lv_at hl 2 rfl) ?_
                                                      refine lv_bipush (v := 7) hx hb dL_law_1167 (by decide) ?_
                                                      refine mg_vxq h (fun v : Int32 => some (.int v)) (fun mc9 ms9 o9 s9 hm9 h9 hc9 hs9 => vx_runV (As := [.int 7]) (rest := []) G9 (k_X6_count l hst D o (o 53) (o 54) g H.size s178 7 o9 s9 h9 mc9 ms9 hm9) (cwV 1 hts (goodIn_up gL_law_X6_count) rfl rfl rfl (by decide +kernel) ⟨Nat.le_of_ble_eq_true rfl, Nat.le_of_ble_eq_true rfl⟩) (mg_preV (hK.sub (tys' := [(o 53, .int), (o 54, .boolean)]) [0, 1] rfl) hO hA (mg_C_list hw 5 rfl) (q0 := 0) rfl rfl) rfl rfl hl.1 rfl (lv_room (Nat.le_of_ble_eq_true rfl)) dL_law_1169 ⟨hc9, hs9⟩) hw hA 5 [0, 1, 2, 3, 4] rfl (Lr := [mg_fI o q66 n67 y70.2.2.2.1, mg_fZ o q68 n69 y70.2.2.2.2, mg_fI o q107 n108 y109.2.2, mg_fI o q151 3 (upd (upd (upd (fun _ => 0) 0 v152) 1 v154) 2 v156), mg_fS o (β2 9 0) β9 y175.2]) rfl rfl (by decide) (lw_rc (show cl22_ + 399 ≤ 500000 by omega)) (lw_rs (show sl22_ + 4744 ≤ 6000000 by omega)) (fun v179 s180 h H locs hw => ?_)
                                                      refine lv_aload hx hb dL_law_1172 (lv_at hl 14 rfl) ?_
                                                      refine lv_iconst (v := 1) hx hb dL_law_1174 (by decide) ?_
                                                      refine mg_ial (x := 1) hx hb hK hw 3 rfl mg_fI_0 (by unfold vp_in; decide) (by decide) dL_law_1175 ?_
                                                      refine mg_icmp_ne (tgt := 1234) hx hb h dL_law_1176 (by decide) (fun h => ?_) (fun h => ?_)
                                                      · cases h
                                                      · refine lv_aload_n hx hb dL_law_1179 rfl (lv_at hl 2 rfl) ?_
                                                        refine lv_bipush (v := 10) hx hb dL_law_1180 (by decide) ?_
                                                        refine mg_vxq h (fun v : Int32 => some (.int v)) (fun mc9 ms9 o9 s9 hm9 h9 hc9 hs9 => vx_runV (As := [.int 10]) (rest := []) G9 (k_X6_count l hst D o (o 53) (o 54) g H.size s180 10 o9 s9 h9 mc9 ms9 hm9) (cwV 1 hts (goodIn_up gL_law_X6_count) rfl rfl rfl (by decide +kernel) ⟨Nat.le_of_ble_eq_true rfl, Nat.le_of_ble_eq_true rfl⟩) (mg_preV (hK.sub (tys' := [(o 53, .int), (o 54, .boolean)]) [0, 1] rfl) hO hA (mg_C_list hw 5 rfl) (q0 := 0) rfl rfl) rfl rfl hl.1 rfl (lv_room (Nat.le_of_ble_eq_true rfl)) dL_law_1182 ⟨hc9, hs9⟩) hw hA 5 [0, 1, 2, 3, 4] rfl (Lr := [mg_fI o q66 n67 y70.2.2.2.1, mg_fZ o q68 n69 y70.2.2.2.2, mg_fI o q107 n108 y109.2.2, mg_fI o q151 3 (upd (upd (upd (fun _ => 0) 0 v152) 1 v154) 2 v156), mg_fS o (β2 9 0) β9 y175.2]) rfl rfl (by decide) (lw_rc (show cl22_ + 399 ≤ 500000 by omega)) (lw_rs (show sl22_ + 4744 ≤ 6000000 by omega)) (fun v181 s182 h H locs hw => ?_)
                                                        refine lv_aload hx hb dL_law_1185 (lv_at hl 14 rfl) ?_
                                                        refine lv_iconst (v := 2) hx hb dL_law_1187 (by decide) ?_
                                                        refine mg_ial (x := 2) hx hb hK hw 3 rfl mg_fI_0 (by unfold vp_in; decide) (by decide) dL_law_1188 ?_
                                                        refine mg_icmp_ne (tgt := 1234) hx hb h dL_law_1189 (by decide) (fun h => ?_) (fun h => ?_)
                                                        · cases h
                                                        · refine lv_aload_n hx hb dL_law_1192 rfl (lv_at hl 2 rfl) ?_
                                                          refine lv_iconst (v := 2) hx hb dL_law_1193 (by decide) ?_
                                                          refine mg_vxq h (fun v : Int32 => some (.int v)) (fun mc9 ms9 o9 s9 hm9 h9 hc9 hs9 => vx_runV (As := [.int 2]) (rest := []) G9 (k_X6_count l hst D o (o 53) (o 54) g H.size s182 2 o9 s9 h9 mc9 ms9 hm9) (cwV 1 hts (goodIn_up gL_law_X6_count) rfl rfl rfl (by decide +kernel) ⟨Nat.le_of_ble_eq_true rfl, Nat.le_of_ble_eq_true rfl⟩) (mg_preV (hK.sub (tys' := [(o 53, .int), (o 54, .boolean)]) [0, 1] rfl) hO hA (mg_C_list hw 5 rfl) (q0 := 0) rfl rfl) rfl rfl hl.1 rfl (lv_room (Nat.le_of_ble_eq_true rfl)) dL_law_1194 ⟨hc9, hs9⟩) hw hA 5 [0, 1, 2, 3, 4] rfl (Lr := [mg_fI o q66 n67 y70.2.2.2.1, mg_fZ o q68 n69 y70.2.2.2.2, mg_fI o q107 n108 y109.2.2, mg_fI o q151 3 (upd (upd (upd (fun _ => 0) 0 v152) 1 v154) 2 v156), mg_fS o (β2 9 0) β9 y175.2]) rfl rfl (by decide) (lw_rc (show cl22_ + 399 ≤ 500000 by omega)) (lw_rs (show sl22_ + 4744 ≤ 6000000 by omega)) (fun v183 s184 h H locs hw => ?_)
                                                          refine lv_iload hx hb dL_law_1197 (lv_at hl 5 rfl) ?_
                                                          refine lv_iload hx hb dL_law_1199 (lv_at hl 0 rfl) ?_
                                                          refine lv_bipush (v := 10) hx hb dL_law_1201 (by decide) ?_
                                                          refine lv_idiv hx hb dL_law_1203 (by decide) ?_
                                                          refine lv_iadd hx hb dL_law_1204 ?_
                                                          refine mg_icmp_ne (tgt := 1234) hx hb h dL_law_1205 (by decide) (fun h => ?_) (fun h => ?_)
                                                          · cases h
                                                          · refine lv_aload_n hx hb dL_law_1208 rfl (lv_at hl 2 rfl) ?_
                                                            refine lv_bipush (v := 10) hx hb dL_law_1209 (by decide) ?_
                                                            refine mg_vxq h (fun v : Int32 => some (.int v)) (fun mc9 ms9 o9 s9 hm9 h9 hc9 hs9 => vx_runV (As := [.int 10]) (rest := []) G9 (k_X6_count l hst D o (o 53) (o 54) g H.size s184 10 o9 s9 h9 mc9 ms9 hm9) (cwV 1 hts (goodIn_up gL_law_X6_count) rfl rfl rfl (by decide +kernel) ⟨Nat.le_of_ble_eq_true rfl, Nat.le_of_ble_eq_true rfl⟩) (mg_preV (hK.sub (tys' := [(o 53, .int), (o 54, .boolean)]) [0, 1] rfl) hO hA (mg_C_list hw 5 rfl) (q0 := 0) rfl rfl) rfl rfl hl.1 rfl (lv_room (Nat.le_of_ble_eq_true rfl)) dL_law_1211 ⟨hc9, hs9⟩) hw hA 5 [0, 1, 2, 3, 4] rfl (Lr := [mg_fI o q66 n67 y70.2.2.2.1, mg_fZ o q68 n69 y70.2.2.2.2, mg_fI o q107 n108 y109.2.2, mg_fI o q151 3 (upd (upd (upd (fun _ => 0) 0 v152) 1 v154) 2 v156), mg_fS o (β2 9 0) β9 y175.2]) rfl rfl (by decide) (lw_rc (show cl22_ + 399 ≤ 500000 by omega)) (lw_rs (show sl22_ + 4744 ≤ 6000000 by omega)) (fun v185 s186 h H locs hw => ?_)
                                                            refine lv_iload hx hb dL_law_1214 (lv_at hl 12 rfl) ?_
                                                            refine lv_iload hx hb dL_law_1216 (lv_at hl 0 rfl) ?_
                                                            refine lv_iadd hx hb dL_law_1218 ?_
                                                            refine mg_icmp_ne (tgt := 1234) hx hb h dL_law_1219 (by decide) (fun h => ?_) (fun h => ?_)
                                                            · cases h
                                                            · refine lv_aload_n hx hb dL_law_1222 rfl (lv_at hl 2 rfl) ?_
                                                              refine lv_iconst (v := 0) hx hb dL_law_1223 (by decide) ?_
                                                              refine mg_vxq h (fun v : Int32 => some (.int v)) (fun mc9 ms9 o9 s9 hm9 h9 hc9 hs9 => vx_runV (As := [.int 0]) (rest := []) G9 (k_X6_count l hst D o (o 53) (o 54) g H.size s186 0 o9 s9 h9 mc9 ms9 hm9) (cwV 1 hts (goodIn_up gL_law_X6_count) rfl rfl rfl (by decide +kernel) ⟨Nat.le_of_ble_eq_true rfl, Nat.le_of_ble_eq_true rfl⟩) (mg_preV (hK.sub (tys' := [(o 53, .int), (o 54, .boolean)]) [0, 1] rfl) hO hA (mg_C_list hw 5 rfl) (q0 := 0) rfl rfl) rfl rfl hl.1 rfl (lv_room (Nat.le_of_ble_eq_true rfl)) dL_law_1224 ⟨hc9, hs9⟩) hw hA 5 [0, 1, 2, 3, 4] rfl (Lr := [mg_fI o q66 n67 y70.2.2.2.1, mg_fZ o q68 n69 y70.2.2.2.2, mg_fI o q107 n108 y109.2.2, mg_fI o q151 3 (upd (upd (upd (fun _ => 0) 0 v152) 1 v154) 2 v156), mg_fS o (β2 9 0) β9 y175.2]) rfl rfl (by decide) (lw_rc (show cl22_ + 399 ≤ 500000 by omega)) (lw_rs (show sl22_ + 4744 ≤ 6000000 by omega)) (fun v187 s188 h H locs hw => ?_)
                                                              refine lv_iload hx hb dL_law_1227 (lv_at hl 11 rfl) ?_
                                                              refine lv_iconst (v := 1) hx hb dL_law_1229 (by decide) ?_
                                                              refine lv_iadd hx hb dL_law_1230 ?_
                                                              refine mg_icmp_eq (tgt := 1236) hx hb h dL_law_1231 (by decide) (fun h => ?_) (fun h => ?_)
                                                              · refine lv_iconst (v := 0) hx hb dL_law_1236 (by decide) ?_
                                                                refine lv_istore (lv' := [(27, .int 0), (26, .int v173), (0, .ref b), (1, .ref (g 0)), (2, .ref (β2 9 0)), (3, .int x3_22), (5, .int v141), (6, .int (nI (y8.2.2 0))), (8, .int v16), (12, .ref q66), (13, .ref q68), (14, .ref q107), (16, .int v143), (17, .int v145), (18, .int y149), (21, .ref q151)]) hx hb dL_law_1237 hl (by decide) rfl (fun ls hl => ?_)
                                                                have L1239_ : ∀ (n : Nat), ∀ (x27_1239 : Int32) (cC_1239 : mg_St) (y1239_ : Int32 × mg_St), f_L_law_1239 xs Ln x3_22 (nI (y8.2.2 0)) v16 y149 n67 y70.2.2.2.1 n69 y70.2.2.2.2 n108 y109.2.2 y175.2 n x27_1239 cC_1239 = some y1239_ → (∀ (H : Heap) (locs : List Loc) (ls : Array Slot), mg_Vo D A s.heap H locs ([mg_fI o q66 n67 y70.2.2.2.1, mg_fZ o q68 n69 y70.2.2.2.2, mg_fI o q107 n108 y109.2.2, mg_fS o (β2 9 0) β9 y175.2, mg_fC g (o 53) (o 54) y1239_.2]) → lv_has ls 30 [(0, .ref b), (1, .ref (g 0)), (2, .ref (β2 9 0)), (3, .int x3_22), (8, .int v16), (14, .ref q107), (18, .int y149)] → W p l e room_1 s m #[Value.ref b] below meth c H locs (cl22_ + 399) (sl22_ + 4744) (lw_Z below #[Value.ref b] s) (F0 m 1333 ls [])) → ∀ (H : Heap) (locs : List Loc) (ls : Array Slot), mg_Vo D A s.heap H locs ([mg_fI o q66 n67 y70.2.2.2.1, mg_fZ o q68 n69 y70.2.2.2.2, mg_fI o q107 n108 y109.2.2, mg_fS o (β2 9 0) β9 y175.2, mg_fC g (o 53) (o 54) cC_1239]) → lv_has ls 30 [(0, .ref b), (1, .ref (g 0)), (2, .ref (β2 9 0)), (3, .int x3_22), (6, .int (nI (y8.2.2 0))), (8, .int v16), (12, .ref q66), (13, .ref q68), (14, .ref q107), (18, .int y149), (27, .int x27_1239)] → W p l e room_1 s m #[Value.ref b] below meth c H locs (cl22_ + 399) (sl22_ + 4744) (lw_Z below #[Value.ref b] s) (F0 m 1239 ls []) := by
                                                                  intro n
                                                                  induction n with
                                                                  | zero => intro x27_1239 cC_1239 y1239_ h; rw [f_L_law_1239] at h; cases h
                                                                  | succ n ih =>
                                                                    intro x27_1239 cC_1239 y1239_ h kc H locs ls hw hl
                                                                    rw [f_L_law_1239] at h
                                                                    refine lv_iload hx hb dL_law_1239 (lv_at hl 10 rfl) ?_
                                                                    refine lv_iload hx hb dL_law_1241 (lv_at hl 4 rfl) ?_
                                                                    refine mg_icmp_ge (tgt := 1333) hx hb h dL_law_1243 (by decide) (fun h => ?_) (fun h => ?_)
                                                                    · cases h
                                                                      exact kc H locs ls hw (lv_sub hl [0, 1, 2, 3, 5, 8, 9] rfl)
                                                                    · refine lv_aload_n hx hb dL_law_1246 rfl (lv_at hl 1 rfl) ?_
                                                                      refine lv_iload hx hb dL_law_1247 (lv_at hl 10 rfl) ?_
                                                                      refine lv_iconst (v := 3) hx hb dL_law_1249 (by decide) ?_
                                                                      refine mg_vxq h (fun v : Int32 => some (.int v)) (fun mc9 ms9 o9 s9 hm9 h9 hc9 hs9 => vx_runV (As := [.int x27_1239, .int 3]) (rest := []) G9 (k_X6_told l hst D o (o 53) (o 54) g H.size cC_1239 x27_1239 3 o9 s9 h9 mc9 ms9 hm9) (cwV 2 hts (goodIn_up gL_law_X6_told) rfl rfl rfl (by decide +kernel) ⟨Nat.le_of_ble_eq_true rfl, Nat.le_of_ble_eq_true rfl⟩) (mg_preV (hK.sub (tys' := [(o 53, .int), (o 54, .boolean)]) [0, 1] rfl) hO hA (mg_C_list hw 4 rfl) (q0 := 0) rfl rfl) rfl rfl hl.1 rfl (lv_room (Nat.le_of_ble_eq_true rfl)) dL_law_1250 ⟨hc9, hs9⟩) hw hA 4 [0, 1, 2, 3] rfl (Lr := [mg_fI o q66 n67 y70.2.2.2.1, mg_fZ o q68 n69 y70.2.2.2.2, mg_fI o q107 n108 y109.2.2, mg_fS o (β2 9 0) β9 y175.2]) rfl rfl (by decide) (lw_rc (show cl22_ + 399 ≤ 500000 by omega)) (lw_rs (show sl22_ + 4744 ≤ 6000000 by omega)) (fun v190 s191 h H locs hw => ?_)
                                                                      refine lv_iconst (v := 1) hx hb dL_law_1253 (by decide) ?_
                                                                      obtain ⟨y192, h9_, h⟩ := mg_bind h
                                                                      have J1254_ : ∀ (H : Heap) (locs : List Loc) (ls : Array Slot), mg_Vo D A s.heap H locs ([mg_fI o q66 n67 y70.2.2.2.1, mg_fZ o q68 n69 y70.2.2.2.2, mg_fI o q107 n108 y109.2.2, mg_fS o (β2 9 0) β9 y175.2, mg_fC g (o 53) (o 54) s191]) → lv_has ls 30 [(0, .ref b), (1, .ref (g 0)), (2, .ref (β2 9 0)), (3, .int x3_22), (6, .int (nI (y8.2.2 0))), (8, .int v16), (12, .ref q66), (13, .ref q68), (14, .ref q107), (18, .int y149), (27, .int x27_1239)] → W p l e room_1 s m #[Value.ref b] below meth c H locs (cl22_ + 399) (sl22_ + 4744) (lw_Z below #[Value.ref b] s) (F0 m 1262 ls [.int y192]) := by
                                                                        intro H locs ls hw hl
                                                                        clear h9_
                                                                        refine lv_istore (lv' := [(28, .int y192), (0, .ref b), (1, .ref (g 0)), (2, .ref (β2 9 0)), (3, .int x3_22), (6, .int (nI (y8.2.2 0))), (8, .int v16), (12, .ref q66), (13, .ref q68), (14, .ref q107), (18, .int y149), (27, .int x27_1239)]) hx hb dL_law_1262 hl (by decide) rfl (fun ls hl => ?_)
                                                                        refine lv_iload hx hb dL_law_1264 (lv_at hl 0 rfl) ?_
                                                                        obtain ⟨y193, h9_, h⟩ := mg_bind h
                                                                        have J1266_ : ∀ (H : Heap) (locs : List Loc) (ls : Array Slot), mg_Vo D A s.heap H locs ([mg_fI o q66 n67 y70.2.2.2.1, mg_fZ o q68 n69 y70.2.2.2.2, mg_fI o q107 n108 y109.2.2, mg_fS o (β2 9 0) β9 y175.2, mg_fC g (o 53) (o 54) s191]) → lv_has ls 30 [(0, .ref b), (1, .ref (g 0)), (2, .ref (β2 9 0)), (3, .int x3_22), (6, .int (nI (y8.2.2 0))), (8, .int v16), (12, .ref q66), (13, .ref q68), (14, .ref q107), (18, .int y149), (27, .int x27_1239)] → W p l e room_1 s m #[Value.ref b] below meth c H locs (cl22_ + 399) (sl22_ + 4744) (lw_Z below #[Value.ref b] s) (F0 m 1311 ls [.int y193]) := by
                                                                          intro H locs ls hw hl
                                                                          clear h9_
                                                                          refine lv_istore (lv' := [(29, .int y193), (0, .ref b), (1, .ref (g 0)), (2, .ref (β2 9 0)), (3, .int x3_22), (6, .int (nI (y8.2.2 0))), (8, .int v16), (12, .ref q66), (13, .ref q68), (14, .ref q107), (18, .int y149), (27, .int x27_1239)]) hx hb dL_law_1311 hl (by decide) rfl (fun ls hl => ?_)
                                                                          refine lv_aload_n hx hb dL_law_1313 rfl (lv_at hl 2 rfl) ?_
                                                                          refine lv_iload hx hb dL_law_1314 (lv_at hl 11 rfl) ?_
                                                                          refine lv_iconst (v := 2) hx hb dL_law_1316 (by decide) ?_
                                                                          refine mg_vxq h (fun v : Int32 => some (.int v)) (fun mc9 ms9 o9 s9 hm9 h9 hc9 hs9 => vx_runV (As := [.int x27_1239, .int 2]) (rest := []) G9 (k_X6_told l hst D o (o 53) (o 54) g H.size s191 x27_1239 2 o9 s9 h9 mc9 ms9 hm9) (cwV 2 hts (goodIn_up gL_law_X6_told) rfl rfl rfl (by decide +kernel) ⟨Nat.le_of_ble_eq_true rfl, Nat.le_of_ble_eq_true rfl⟩) (mg_preV (hK.sub (tys' := [(o 53, .int), (o 54, .boolean)]) [0, 1] rfl) hO hA (mg_C_list hw 4 rfl) (q0 := 0) rfl rfl) rfl rfl hl.1 rfl (lv_room (Nat.le_of_ble_eq_true rfl)) dL_law_1317 ⟨hc9, hs9⟩) hw hA 4 [0, 1, 2, 3] rfl (Lr := [mg_fI o q66 n67 y70.2.2.2.1, mg_fZ o q68 n69 y70.2.2.2.2, mg_fI o q107 n108 y109.2.2, mg_fS o (β2 9 0) β9 y175.2]) rfl rfl (by decide) (lw_rc (show cl22_ + 399 ≤ 500000 by omega)) (lw_rs (show sl22_ + 4744 ≤ 6000000 by omega)) (fun v198 s199 h H locs hw => ?_)
                                                                          refine lv_iload hx hb dL_law_1320 (lv_at hl 0 rfl) ?_
                                                                          refine mg_icmp_eq (tgt := 1327) hx hb h dL_law_1322 (by decide) (fun h => ?_) (fun h => ?_)
                                                                          · refine lv_iinc (v := (x27_1239 + 1)) (lv' := [(27, .int (x27_1239 + 1)), (29, .int y193), (0, .ref b), (1, .ref (g 0)), (2, .ref (β2 9 0)), (3, .int x3_22), (6, .int (nI (y8.2.2 0))), (8, .int v16), (12, .ref q66), (13, .ref q68), (14, .ref q107), (18, .int y149)]) hx hb dL_law_1327 hl (k := 11) rfl rfl (by decide) rfl (fun ls hl => ?_)
                                                                            refine lv_goto (tgt := 1239) hx hb dL_law_1330 (by decide) ?_
                                                                            exact ih _ _ _ h kc H locs ls hw (lv_sub hl [2, 3, 4, 5, 6, 7, 8, 9, 10, 11, 0] rfl)
                                                                          · cases h
                                                                        clear h
                                                                        have h := h9_
                                                                        clear h9_
                                                                        refine mg_if_eq (tgt := 1277) hx hb h dL_law_1266 (by decide) (fun h => ?_) (fun h => ?_)
                                                                        · refine lv_aload hx hb dL_law_1277 (lv_at hl 8 rfl) ?_
                                                                          refine lv_iload hx hb dL_law_1279 (lv_at hl 11 rfl) ?_
                                                                          refine mg_zalx hx hb hK hw 1 rfl mg_fZ_0 h dL_law_1281 (fun j194 hj194_ h => ?_)
                                                                          refine mg_if_eq (tgt := 1300) hx hb h dL_law_1282 (by decide) (fun h => ?_) (fun h => ?_)
                                                                          · refine lv_iconst (v := 1) hx hb dL_law_1300 (by decide) ?_
                                                                            refine lv_aload hx hb dL_law_1301 (lv_at hl 7 rfl) ?_
                                                                            refine lv_iload hx hb dL_law_1303 (lv_at hl 11 rfl) ?_
                                                                            refine mg_ialx hx hb hK hw 0 rfl mg_fI_0 h dL_law_1305 (fun j195 hj195_ h => ?_)
                                                                            refine lv_iconst (v := 1) hx hb dL_law_1306 (by decide) ?_
                                                                            refine lv_isub hx hb dL_law_1307 ?_
                                                                            refine va_mmax hx hb (hml.trans hl.1.symm) hown w8_ w9_ w2_ w10_ (Nat.le_of_ble_eq_true rfl) (Nat.le_of_ble_eq_true rfl) (lw_rc (show cl22_ + 399 ≤ 500000 by omega)) (lw_rs (show sl22_ + 4744 ≤ 6000000 by omega)) dL_law_1308 ?_
                                                                            cases h
                                                                            exact J1266_ H locs ls hw (lv_sub hl [1, 2, 3, 4, 5, 6, 7, 8, 9, 10, 11] rfl)
                                                                          · refine lv_bipush (v := 40) hx hb dL_law_1285 (by decide) ?_
                                                                            refine lv_aload hx hb dL_law_1287 (lv_at hl 7 rfl) ?_
                                                                            refine lv_iload hx hb dL_law_1289 (lv_at hl 11 rfl) ?_
                                                                            refine mg_ialx hx hb hK hw 0 rfl mg_fI_0 h dL_law_1291 (fun j196 hj196_ h => ?_)
                                                                            refine lv_iconst (v := 1) hx hb dL_law_1292 (by decide) ?_
                                                                            refine lv_iadd hx hb dL_law_1293 ?_
                                                                            refine va_mmin hx hb (hml.trans hl.1.symm) hown w11_ w12_ w2_ w13_ (Nat.le_of_ble_eq_true rfl) (Nat.le_of_ble_eq_true rfl) (lw_rc (show cl22_ + 399 ≤ 500000 by omega)) (lw_rs (show sl22_ + 4744 ≤ 6000000 by omega)) dL_law_1294 ?_
                                                                            refine lv_goto (tgt := 1311) hx hb dL_law_1297 (by decide) ?_
                                                                            cases h
                                                                            exact J1266_ H locs ls hw (lv_sub hl [1, 2, 3, 4, 5, 6, 7, 8, 9, 10, 11] rfl)
                                                                        · refine lv_aload hx hb dL_law_1269 (lv_at hl 7 rfl) ?_
                                                                          refine lv_iload hx hb dL_law_1271 (lv_at hl 11 rfl) ?_
                                                                          refine mg_ialx hx hb hK hw 0 rfl mg_fI_0 h dL_law_1273 (fun j197 hj197_ h => ?_)
                                                                          refine lv_goto (tgt := 1311) hx hb dL_law_1274 (by decide) ?_
                                                                          cases h
                                                                          exact J1266_ H locs ls hw (lv_sub hl [1, 2, 3, 4, 5, 6, 7, 8, 9, 10, 11] rfl)
                                                                      clear h
                                                                      have h := h9_
                                                                      clear h9_
                                                                      refine mg_icmp_ne (tgt := 1261) hx hb h dL_law_1254 (by decide) (fun h => ?_) (fun h => ?_)
                                                                      · refine lv_iconst (v := 0) hx hb dL_law_1261 (by decide) ?_
                                                                        cases h
                                                                        exact J1254_ H locs ls hw (lv_sub hl [0, 1, 2, 3, 4, 5, 6, 7, 8, 9, 10] rfl)
                                                                      · refine lv_iconst (v := 1) hx hb dL_law_1257 (by decide) ?_
                                                                        refine lv_goto (tgt := 1262) hx hb dL_law_1258 (by decide) ?_
                                                                        cases h
                                                                        exact J1254_ H locs ls hw (lv_sub hl [0, 1, 2, 3, 4, 5, 6, 7, 8, 9, 10] rfl)
                                                                obtain ⟨y189, h9_, h⟩ := mg_bind h
                                                                refine L1239_ 5000 _ _ _ h9_ (fun H locs ls hw hl => ?_) H locs ls (mg_Vsub hw [0, 1, 2, 4, 5] rfl rfl) (lv_sub hl [2, 3, 4, 5, 7, 8, 9, 10, 11, 14, 0] rfl)
                                                                clear L1239_ h9_
                                                                refine lv_iconst (v := 0) hx hb dL_law_1333 (by decide) ?_
                                                                refine lv_istore (lv' := [(27, .int 0), (0, .ref b), (1, .ref (g 0)), (2, .ref (β2 9 0)), (3, .int x3_22), (8, .int v16), (14, .ref q107), (18, .int y149)]) hx hb dL_law_1334 hl (by decide) rfl (fun ls hl => ?_)
                                                                have L1336_ : ∀ (n : Nat), ∀ (x27_1336 : Int32) (cC_1336 : mg_St) (y1336_ : Int32 × mg_St), f_L_law_1336 xs Ln x3_22 v16 y149 n108 y109.2.2 y175.2 n x27_1336 cC_1336 = some y1336_ → (∀ (H : Heap) (locs : List Loc) (ls : Array Slot), mg_Vo D A s.heap H locs ([mg_fI o q107 n108 y109.2.2, mg_fS o (β2 9 0) β9 y175.2, mg_fC g (o 53) (o 54) y1336_.2]) → lv_has ls 30 [(0, .ref b), (1, .ref (g 0)), (2, .ref (β2 9 0)), (3, .int x3_22)] → W p l e room_1 s m #[Value.ref b] below meth c H locs (cl22_ + 399) (sl22_ + 4744) (lw_Z below #[Value.ref b] s) (F0 m 1393 ls [])) → ∀ (H : Heap) (locs : List Loc) (ls : Array Slot), mg_Vo D A s.heap H locs ([mg_fI o q107 n108 y109.2.2, mg_fS o (β2 9 0) β9 y175.2, mg_fC g (o 53) (o 54) cC_1336]) → lv_has ls 30 [(0, .ref b), (1, .ref (g 0)), (2, .ref (β2 9 0)), (3, .int x3_22), (8, .int v16), (14, .ref q107), (18, .int y149), (27, .int x27_1336)] → W p l e room_1 s m #[Value.ref b] below meth c H locs (cl22_ + 399) (sl22_ + 4744) (lw_Z below #[Value.ref b] s) (F0 m 1336 ls []) := by
                                                                  intro n
                                                                  induction n with
                                                                  | zero => intro x27_1336 cC_1336 y1336_ h; rw [f_L_law_1336] at h; cases h
                                                                  | succ n ih =>
                                                                    intro x27_1336 cC_1336 y1336_ h kc H locs ls hw hl
                                                                    rw [f_L_law_1336] at h
                                                                    refine lv_iload hx hb dL_law_1336 (lv_at hl 7 rfl) ?_
                                                                    refine lv_iload hx hb dL_law_1338 (lv_at hl 4 rfl) ?_
                                                                    refine mg_icmp_ge (tgt := 1393) hx hb h dL_law_1340 (by decide) (fun h => ?_) (fun h => ?_)
                                                                    · cases h
                                                                      exact kc H locs ls hw (lv_sub hl [0, 1, 2, 3] rfl)
                                                                    · refine lv_aload_n hx hb dL_law_1343 rfl (lv_at hl 1 rfl) ?_
                                                                      refine lv_iload hx hb dL_law_1344 (lv_at hl 7 rfl) ?_
                                                                      refine mg_vxq h (fun v : Int32 => some (.int v)) (fun mc9 ms9 o9 s9 hm9 h9 hc9 hs9 => vx_runV (As := [.int x27_1336]) (rest := []) G9 (k_X6_lines l hst D o (o 53) (o 54) g H.size cC_1336 x27_1336 o9 s9 h9 mc9 ms9 hm9) (cwV 1 hts (goodIn_up gL_law_X6_lines) rfl rfl rfl (by decide +kernel) ⟨Nat.le_of_ble_eq_true rfl, Nat.le_of_ble_eq_true rfl⟩) (mg_preV (hK.sub (tys' := [(o 53, .int), (o 54, .boolean)]) [0, 1] rfl) hO hA (mg_C_list hw 2 rfl) (q0 := 0) rfl rfl) rfl rfl hl.1 rfl (lv_room (Nat.le_of_ble_eq_true rfl)) dL_law_1346 ⟨hc9, hs9⟩) hw hA 2 [0, 1] rfl (Lr := [mg_fI o q107 n108 y109.2.2, mg_fS o (β2 9 0) β9 y175.2]) rfl rfl (by decide) (lw_rc (show cl22_ + 399 ≤ 500000 by omega)) (lw_rs (show sl22_ + 4744 ≤ 6000000 by omega)) (fun v201 s202 h H locs hw => ?_)
                                                                      refine lv_aload hx hb dL_law_1349 (lv_at hl 5 rfl) ?_
                                                                      refine lv_iload hx hb dL_law_1351 (lv_at hl 7 rfl) ?_
                                                                      refine mg_ialx hx hb hK hw 0 rfl mg_fI_0 h dL_law_1353 (fun j203 hj203_ h => ?_)
                                                                      refine lv_isub hx hb dL_law_1354 ?_
                                                                      refine lv_aload_n hx hb dL_law_1355 rfl (lv_at hl 1 rfl) ?_
                                                                      refine lv_aload_n hx hb dL_law_1356 rfl (lv_at hl 2 rfl) ?_
                                                                      refine va_get (D := D) (ci := 7) (v := .ref (β9 0 4)) (C := RX7) (T := TX7) (N := 6) hx hb hts iX7_ hown hK (mg_at1 hw.1 1 rfl mg_fS_00) 0 rfl rfl 5 (by decide) w14_ (fun _ h9 => h9) rfl dL_law_1357 ?_
                                                                      refine lv_iload hx hb dL_law_1360 (lv_at hl 7 rfl) ?_
                                                                      refine mg_aal hx hb hK hw 1 2 rfl mg_fS_04 rfl rfl h dL_law_1362 (fun j204 hj204_ h => ?_)
                                                                      refine lv_iconst (v := 0) hx hb dL_law_1363 (by decide) ?_
                                                                      refine mg_ial (x := 0) hx hb hK hw 1 rfl (mg_fS_5 hj204_) (by unfold vp_in; decide) (by decide) dL_law_1364 ?_
                                                                      refine lv_iconst (v := 3) hx hb dL_law_1365 (by decide) ?_
                                                                      refine mg_vxq h (fun v : Int32 => some (.int v)) (fun mc9 ms9 o9 s9 hm9 h9 hc9 hs9 => vx_runV (As := [.int ((y175.2.1 5 j204) 0), .int 3]) (rest := [.int (v201 - (y109.2.2 j203))]) G9 (k_X6_about l hst D o (o 53) (o 54) g H.size s202 ((y175.2.1 5 j204) 0) 3 o9 s9 h9 mc9 ms9 hm9) (cwV 2 hts (goodIn_up gL_law_X6_about) rfl rfl rfl (by decide +kernel) ⟨Nat.le_of_ble_eq_true rfl, Nat.le_of_ble_eq_true rfl⟩) (mg_preV (hK.sub (tys' := [(o 53, .int), (o 54, .boolean)]) [0, 1] rfl) hO hA (mg_C_list hw 2 rfl) (q0 := 0) rfl rfl) rfl rfl hl.1 rfl (lv_room (Nat.le_of_ble_eq_true rfl)) dL_law_1366 ⟨hc9, hs9⟩) hw hA 2 [0, 1] rfl (Lr := [mg_fI o q107 n108 y109.2.2, mg_fS o (β2 9 0) β9 y175.2]) rfl rfl (by decide) (lw_rc (show cl22_ + 399 ≤ 500000 by omega)) (lw_rs (show sl22_ + 4744 ≤ 6000000 by omega)) (fun v205 s206 h H locs hw => ?_)
                                                                      refine lv_iconst (v := 5) hx hb dL_law_1369 (by decide) ?_
                                                                      refine lv_idiv hx hb dL_law_1370 (by decide) ?_
                                                                      refine lv_iload hx hb dL_law_1371 (lv_at hl 6 rfl) ?_
                                                                      obtain ⟨y207, h9_, h⟩ := mg_bind h
                                                                      have J1373_ : ∀ (H : Heap) (locs : List Loc) (ls : Array Slot), mg_Vo D A s.heap H locs ([mg_fI o q107 n108 y109.2.2, mg_fS o (β2 9 0) β9 y175.2, mg_fC g (o 53) (o 54) s206]) → lv_has ls 30 [(0, .ref b), (1, .ref (g 0)), (2, .ref (β2 9 0)), (3, .int x3_22), (8, .int v16), (14, .ref q107), (18, .int y149), (27, .int x27_1336)] → W p l e room_1 s m #[Value.ref b] below meth c H locs (cl22_ + 399) (sl22_ + 4744) (lw_Z below #[Value.ref b] s) (F0 m 1381 ls [.int y207, .int (v205 / 5), .int (v201 - (y109.2.2 j203))]) := by
                                                                        intro H locs ls hw hl
                                                                        clear h9_
                                                                        refine lv_imul hx hb dL_law_1381 ?_
                                                                        refine mg_icmp_eq (tgt := 1387) hx hb h dL_law_1382 (by decide) (fun h => ?_) (fun h => ?_)
                                                                        · refine lv_iinc (v := (x27_1336 + 1)) (lv' := [(27, .int (x27_1336 + 1)), (0, .ref b), (1, .ref (g 0)), (2, .ref (β2 9 0)), (3, .int x3_22), (8, .int v16), (14, .ref q107), (18, .int y149)]) hx hb dL_law_1387 hl (k := 7) rfl rfl (by decide) rfl (fun ls hl => ?_)
                                                                          refine lv_goto (tgt := 1336) hx hb dL_law_1390 (by decide) ?_
                                                                          exact ih _ _ _ h kc H locs ls hw (lv_sub hl [1, 2, 3, 4, 5, 6, 7, 0] rfl)
                                                                        · cases h
                                                                      clear h
                                                                      have h := h9_
                                                                      clear h9_
                                                                      refine mg_if_eq (tgt := 1380) hx hb h dL_law_1373 (by decide) (fun h => ?_) (fun h => ?_)
                                                                      · refine lv_iconst (v := 1) hx hb dL_law_1380 (by decide) ?_
                                                                        cases h
                                                                        exact J1373_ H locs ls hw (lv_sub hl [0, 1, 2, 3, 4, 5, 6, 7] rfl)
                                                                      · refine lv_iconst (v := 2) hx hb dL_law_1376 (by decide) ?_
                                                                        refine lv_goto (tgt := 1381) hx hb dL_law_1377 (by decide) ?_
                                                                        cases h
                                                                        exact J1373_ H locs ls hw (lv_sub hl [0, 1, 2, 3, 4, 5, 6, 7] rfl)
                                                                obtain ⟨y200, h9_, h⟩ := mg_bind h
                                                                refine L1336_ 5000 _ _ _ h9_ (fun H locs ls hw hl => ?_) H locs ls (mg_Vsub hw [2, 3, 4] rfl rfl) (lv_sub hl [1, 2, 3, 4, 5, 6, 7, 0] rfl)
                                                                clear L1336_ h9_
                                                                refine lv_iinc (v := (x3_22 + 1)) (lv' := [(3, .int (x3_22 + 1)), (0, .ref b), (1, .ref (g 0)), (2, .ref (β2 9 0))]) hx hb dL_law_1393 hl (k := 3) rfl rfl (by decide) rfl (fun ls hl => ?_)
                                                                refine lv_goto (tgt := 22) hx hb dL_law_1396 (by decide) ?_
                                                                exact ih _ _ (by omega) (by omega) _ _ _ _ h kc _ H locs ls (mg_Vsub hw [2, 1] rfl rfl) (lv_sub hl [1, 2, 3, 0] rfl)
                                                              · cases h
                                                clear h
                                                have h := h9_
                                                clear h9_
                                                refine mg_if_lt (tgt := 1138) hx hb h dL_law_1115 (by decide) (fun h => ?_) (fun h => ?_)
                                                · cases h
                                                  exact J1115_ H locs ls hw (lv_sub hl [0, 1, 2, 3, 4, 5, 6, 7, 8, 9, 10, 11, 12, 13] rfl)
                                                · refine lv_aload_n hx hb dL_law_1118 rfl (lv_at hl 1 rfl) ?_
                                                  refine lv_iload hx hb dL_law_1119 (lv_at hl 14 rfl) ?_
                                                  refine lv_bipush (v := 10) hx hb dL_law_1121 (by decide) ?_
                                                  refine lv_irem hx hb dL_law_1123 (by decide) ?_
                                                  refine lv_iload hx hb dL_law_1124 (lv_at hl 14 rfl) ?_
                                                  refine lv_bipush (v := 10) hx hb dL_law_1126 (by decide) ?_
                                                  refine lv_idiv hx hb dL_law_1128 (by decide) ?_
                                                  refine lv_iconst (v := 0) hx hb dL_law_1129 (by decide) ?_
                                                  refine mg_vxq h (fun v : Int32 => some (.int v)) (fun mc9 ms9 o9 s9 hm9 h9 hc9 hs9 => vx_runV (As := [.int (y165.1 - y165.1 / 10 * 10), .int (y165.1 / 10), .int 0]) (rest := []) G9 (k_X6_cell l hst D o (o 53) (o 54) g H.size y168.2 (y165.1 - y165.1 / 10 * 10) (y165.1 / 10) 0 o9 s9 h9 mc9 ms9 hm9) (cwV 3 hts (goodIn_up gL_law_X6_cell) rfl rfl rfl (by decide +kernel) ⟨Nat.le_of_ble_eq_true rfl, Nat.le_of_ble_eq_true rfl⟩) (mg_preV (hK.sub (tys' := [(o 53, .int), (o 54, .boolean)]) [0, 1] rfl) hO hA (mg_C_list hw 5 rfl) (q0 := 0) rfl rfl) rfl rfl hl.1 rfl (lv_room (Nat.le_of_ble_eq_true rfl)) dL_law_1130 ⟨hc9, hs9⟩) hw hA 5 [0, 1, 2, 3, 4] rfl (Lr := [mg_fS o (β2 9 0) β9 y8.2, mg_fI o q66 n67 y70.2.2.2.1, mg_fZ o q68 n69 y70.2.2.2.2, mg_fI o q107 n108 y109.2.2, mg_fI o q151 3 (upd (upd (upd (fun _ => 0) 0 v152) 1 v154) 2 v156)]) rfl rfl (by decide) (lw_rc (show cl22_ + 13 ≤ 500000 by omega)) (lw_rs (show sl22_ + 179 ≤ 6000000 by omega)) (fun v171 s172 h H locs hw => ?_)
                                                  refine mg_if_eq (tgt := 1138) hx hb h dL_law_1133 (by decide) (fun h => ?_) (fun h => ?_)
                                                  · cases h
                                                    exact J1115_ H locs ls hw (lv_sub hl [0, 1, 2, 3, 4, 5, 6, 7, 8, 9, 10, 11, 12, 13] rfl)
                                                  · cases h
                                            clear h
                                            have h := h9_
                                            clear h9_
                                            refine mg_icmp_ne (tgt := 1109) hx hb h dL_law_1102 (by decide) (fun h => ?_) (fun h => ?_)
                                            · refine lv_iconst (v := 0) hx hb dL_law_1109 (by decide) ?_
                                              cases h
                                              exact J1102_ H locs ls hw (lv_sub hl [1, 2, 3, 4, 5, 6, 7, 8, 9, 10, 11, 12, 13, 15, 0] rfl)
                                            · refine lv_iconst (v := 1) hx hb dL_law_1105 (by decide) ?_
                                              refine lv_goto (tgt := 1110) hx hb dL_law_1106 (by decide) ?_
                                              cases h
                                              exact J1102_ H locs ls hw (lv_sub hl [1, 2, 3, 4, 5, 6, 7, 8, 9, 10, 11, 12, 13, 15, 0] rfl)
                                        clear h
                                        have h := h9_
                                        clear h9_
                                        refine mg_if_ge (tgt := 1072) hx hb h dL_law_1065 (by decide) (fun h => ?_) (fun h => ?_)
                                        · refine lv_aload_n hx hb dL_law_1072 rfl (lv_at hl 4 rfl) ?_
                                          refine lv_iload hx hb dL_law_1073 (lv_at hl 2 rfl) ?_
                                          refine lv_iload hx hb dL_law_1075 (lv_at hl 1 rfl) ?_
                                          refine lv_iload hx hb dL_law_1077 (lv_at hl 0 rfl) ?_
                                          refine mg_vxq h (fun v : Int32 => some (.int v)) (fun mc9 ms9 o9 s9 hm9 h9 hc9 hs9 => vx_runV (As := [.int y158, .int y161, .int (1 + y163)]) (rest := []) G9 (k_X6_advise l hst D o (o 53) (o 54) g H.size s157 y158 y161 (1 + y163) o9 s9 h9 mc9 ms9 hm9) (cwV 3 hts (goodIn_up gL_law_X6_advise) rfl rfl rfl (by decide +kernel) ⟨Nat.le_of_ble_eq_true rfl, Nat.le_of_ble_eq_true rfl⟩) (mg_preV (hK.sub (tys' := [(o 53, .int), (o 54, .boolean)]) [0, 1] rfl) hO hA (mg_C_list hw 5 rfl) (q0 := 0) rfl rfl) rfl rfl hl.1 rfl (lv_room (Nat.le_of_ble_eq_true rfl)) dL_law_1079 ⟨hc9, hs9⟩) hw hA 5 [0, 1, 2, 3, 4] rfl (Lr := [mg_fS o (β2 9 0) β9 y8.2, mg_fI o q66 n67 y70.2.2.2.1, mg_fZ o q68 n69 y70.2.2.2.2, mg_fI o q107 n108 y109.2.2, mg_fI o q151 3 (upd (upd (upd (fun _ => 0) 0 v152) 1 v154) 2 v156)]) rfl rfl (by decide) (lw_rc (show cl22_ + 13 ≤ 500000 by omega)) (lw_rs (show sl22_ + 179 ≤ 6000000 by omega)) (fun v166 s167 h H locs hw => ?_)
                                          cases h
                                          exact J1065_ H locs ls hw (lv_sub hl [3, 4, 5, 6, 8, 9, 10, 11, 12, 13, 14, 15, 16, 17, 18] rfl)
                                        · refine lv_iconst (v := (-1)) hx hb dL_law_1068 (by decide) ?_
                                          refine lv_goto (tgt := 1082) hx hb dL_law_1069 (by decide) ?_
                                          cases h
                                          exact J1065_ H locs ls hw (lv_sub hl [3, 4, 5, 6, 8, 9, 10, 11, 12, 13, 14, 15, 16, 17, 18] rfl)
                                      clear h
                                      have h := h9_
                                      clear h9_
                                      refine mg_if_ne (tgt := 1027) hx hb h dL_law_1020 (by decide) (fun h => ?_) (fun h => ?_)
                                      · refine lv_iload hx hb dL_law_1027 (lv_at hl 7 rfl) ?_
                                        refine lv_iconst (v := 4) hx hb dL_law_1029 (by decide) ?_
                                        refine lv_ishr hx hb dL_law_1030 ?_
                                        refine lv_iload hx hb dL_law_1031 (lv_at hl 10 rfl) ?_
                                        obtain ⟨y159, h9_, h⟩ := mg_bind h
                                        refine mg_callV (va_runS (As := [.int (((y4 >>> (((x3_22 / 16) * 5) &&& 31)) + (59 * x3_22)) >>> (4 &&& 31)), .int v14]) (rest := []) G9 (k_L_below l D o  H.size (((y4 >>> (((x3_22 / 16) * 5) &&& 31)) + (59 * x3_22)) >>> (4 &&& 31)) v14 y159 h9_) (va_cwS 2 hts (goodIn_up gL_law_L_below) rfl rfl rfl (by decide +kernel) ⟨Nat.le_of_ble_eq_true rfl, Nat.le_of_ble_eq_true rfl⟩) (mg_preVv hK hO hA (mg_Vsub (L' := []) hw [] rfl rfl)) rfl rfl hl.1 rfl (lv_room (Nat.le_of_ble_eq_true rfl)) dL_law_1033 ⟨(lw_rc (show cl22_ + 13 + 0 ≤ 500000 by omega)), (lw_rs (show sl22_ + 179 + 0 ≤ 6000000 by omega))⟩) hw hA [] [0, 1, 2, 3, 4, 5] rfl (Lr := [mg_fS o (β2 9 0) β9 y8.2, mg_fI o q66 n67 y70.2.2.2.1, mg_fZ o q68 n69 y70.2.2.2.2, mg_fI o q107 n108 y109.2.2, mg_fI o q151 3 (upd (upd (upd (fun _ => 0) 0 v152) 1 v154) 2 v156), mg_fC g (o 53) (o 54) s157]) rfl rfl (by decide) (fun β160 H locs hw => ?_)
                                        clear h9_
                                        have hw : mg_Vo D A s.heap H locs ([mg_fS o (β2 9 0) β9 y8.2, mg_fI o q66 n67 y70.2.2.2.1, mg_fZ o q68 n69 y70.2.2.2.2, mg_fI o q107 n108 y109.2.2, mg_fI o q151 3 (upd (upd (upd (fun _ => 0) 0 v152) 1 v154) 2 v156), mg_fC g (o 53) (o 54) s157]) := hw
                                        cases h
                                        exact J1020_ H locs ls hw (lv_sub hl [3, 4, 5, 6, 7, 8, 9, 11, 12, 13, 14, 15, 16, 2, 1, 0] rfl)
                                      · refine lv_iconst (v := (-1)) hx hb dL_law_1023 (by decide) ?_
                                        refine lv_goto (tgt := 1036) hx hb dL_law_1024 (by decide) ?_
                                        cases h
                                        exact J1020_ H locs ls hw (lv_sub hl [3, 4, 5, 6, 7, 8, 9, 11, 12, 13, 14, 15, 16, 2, 1, 0] rfl)
                                    clear h
                                    have h := h9_
                                    clear h9_
                                    refine mg_icmp_ne (tgt := 975) hx hb h dL_law_968 (by decide) (fun h => ?_) (fun h => ?_)
                                    · refine lv_iconst (v := 0) hx hb dL_law_975 (by decide) ?_
                                      cases h
                                      exact J968_ H locs ls hw (lv_sub hl [3, 4, 5, 6, 7, 2, 8, 9, 10, 11, 12, 13, 1, 0] rfl)
                                    · refine lv_iconst (v := 1) hx hb dL_law_971 (by decide) ?_
                                      refine lv_goto (tgt := 976) hx hb dL_law_972 (by decide) ?_
                                      cases h
                                      exact J968_ H locs ls hw (lv_sub hl [3, 4, 5, 6, 7, 2, 8, 9, 10, 11, 12, 13, 1, 0] rfl)
                                  clear h
                                  have h := h9_
                                  clear h9_
                                  refine mg_if_le (tgt := 940) hx hb h dL_law_921 (by decide) (fun h => ?_) (fun h => ?_)
                                  · cases h
                                    exact J921_ H locs ls hw (lv_sub hl [0, 1, 2, 3, 4, 5, 6, 7, 8, 9, 10] rfl)
                                  · refine lv_aload_n hx hb dL_law_924 rfl (lv_at hl 1 rfl) ?_
                                    refine lv_aload_n hx hb dL_law_925 rfl (lv_at hl 1 rfl) ?_
                                    obtain ⟨y138, h9_, h⟩ := mg_bind h
                                    refine mg_callC (rv := some (.int y138.1)) (va_runV (As := []) (rest := [.ref (g 0)]) G9 (k_X6_finest l D o (o 53) (o 54) g H.size y134.2  y138 h9_) (cwV 0 hts (goodIn_up gL_law_X6_finest) rfl rfl rfl (by decide +kernel) ⟨Nat.le_of_ble_eq_true rfl, Nat.le_of_ble_eq_true rfl⟩) (mg_preV (hK.sub (tys' := [(o 53, .int), (o 54, .boolean)]) [0, 1] rfl) hO hA (mg_C_list hw 4 rfl) (q0 := 0) rfl rfl) rfl rfl hl.1 rfl (lv_room (Nat.le_of_ble_eq_true rfl)) dL_law_926 ⟨(lw_rc (show cl22_ + 12 + 0 ≤ 500000 by omega)), (lw_rs (show sl22_ + 176 + 0 ≤ 6000000 by omega))⟩) hw hA 4 [0, 1, 2, 3] rfl (Lr := [mg_fS o (β2 9 0) β9 y8.2, mg_fI o q66 n67 y70.2.2.2.1, mg_fZ o q68 n69 y70.2.2.2.2, mg_fI o q107 n108 y109.2.2]) rfl rfl (by decide) (fun H locs hw => ?_)
                                    clear h9_
                                    refine lv_iconst (v := 3) hx hb dL_law_929 (by decide) ?_
                                    refine mg_vxq h (fun v : Int32 => some (.int v)) (fun mc9 ms9 o9 s9 hm9 h9 hc9 hs9 => vx_runV (As := [.int y138.1, .int 3]) (rest := []) G9 (k_X6_about l hst D o (o 53) (o 54) g H.size y138.2 y138.1 3 o9 s9 h9 mc9 ms9 hm9) (cwV 2 hts (goodIn_up gL_law_X6_about) rfl rfl rfl (by decide +kernel) ⟨Nat.le_of_ble_eq_true rfl, Nat.le_of_ble_eq_true rfl⟩) (mg_preV (hK.sub (tys' := [(o 53, .int), (o 54, .boolean)]) [0, 1] rfl) hO hA (mg_C_list hw 4 rfl) (q0 := 0) rfl rfl) rfl rfl hl.1 rfl (lv_room (Nat.le_of_ble_eq_true rfl)) dL_law_930 ⟨hc9, hs9⟩) hw hA 4 [0, 1, 2, 3] rfl (Lr := [mg_fS o (β2 9 0) β9 y8.2, mg_fI o q66 n67 y70.2.2.2.1, mg_fZ o q68 n69 y70.2.2.2.2, mg_fI o q107 n108 y109.2.2]) rfl rfl (by decide) (lw_rc (show cl22_ + 12 ≤ 500000 by omega)) (lw_rs (show sl22_ + 176 ≤ 6000000 by omega)) (fun v139 s140 h H locs hw => ?_)
                                    refine lv_iload hx hb dL_law_933 (lv_at hl 11 rfl) ?_
                                    refine mg_icmp_eq (tgt := 940) hx hb h dL_law_935 (by decide) (fun h => ?_) (fun h => ?_)
                                    · cases h
                                      exact J921_ H locs ls hw (lv_sub hl [0, 1, 2, 3, 4, 5, 6, 7, 8, 9, 10] rfl)
                                    · cases h
                              clear h
                              have h := h9_
                              clear h9_
                              refine mg_if_ne (tgt := 915) hx hb h dL_law_908 (by decide) (fun h => ?_) (fun h => ?_)
                              · refine lv_iconst (v := 0) hx hb dL_law_915 (by decide) ?_
                                cases h
                                exact J908_ H locs ls hw (lv_sub hl [0, 1, 2, 3, 4, 5, 6, 7, 8, 9, 10, 11] rfl)
                              · refine lv_iconst (v := 1) hx hb dL_law_911 (by decide) ?_
                                refine lv_goto (tgt := 916) hx hb dL_law_912 (by decide) ?_
                                cases h
                                exact J908_ H locs ls hw (lv_sub hl [0, 1, 2, 3, 4, 5, 6, 7, 8, 9, 10, 11] rfl)
                            clear h
                            have h := h9_
                            clear h9_
                            refine mg_if_ge (tgt := 905) hx hb h dL_law_898 (by decide) (fun h => ?_) (fun h => ?_)
                            · refine lv_iconst (v := 0) hx hb dL_law_905 (by decide) ?_
                              cases h
                              exact J898_ H locs ls hw (lv_sub hl [0, 1, 2, 3, 4, 5, 6, 7, 8, 9, 10, 11] rfl)
                            · refine lv_iconst (v := 1) hx hb dL_law_901 (by decide) ?_
                              refine lv_goto (tgt := 906) hx hb dL_law_902 (by decide) ?_
                              cases h
                              exact J898_ H locs ls hw (lv_sub hl [0, 1, 2, 3, 4, 5, 6, 7, 8, 9, 10, 11] rfl)
                          · cases h
                        · cases h
                      clear h
                      have h := h9_
                      clear h9_
                      refine mg_if_ne (tgt := 509) hx hb h dL_law_502 (by decide) (fun h => ?_) (fun h => ?_)
                      · refine lv_iconst (v := 0) hx hb dL_law_509 (by decide) ?_
                        cases h
                        exact J502_ H locs ls hw (lv_sub hl [0, 1, 2, 3, 4, 5, 6, 7, 9] rfl)
                      · refine lv_iconst (v := 1) hx hb dL_law_505 (by decide) ?_
                        refine lv_goto (tgt := 510) hx hb dL_law_506 (by decide) ?_
                        cases h
                        exact J502_ H locs ls hw (lv_sub hl [0, 1, 2, 3, 4, 5, 6, 7, 9] rfl)
                    clear h
                    have h := h9_
                    clear h9_
                    refine mg_if_ne (tgt := 499) hx hb h dL_law_492 (by decide) (fun h => ?_) (fun h => ?_)
                    · refine lv_iconst (v := 0) hx hb dL_law_499 (by decide) ?_
                      cases h
                      exact J492_ H locs ls hw (lv_sub hl [0, 1, 2, 3, 4, 5, 6, 7, 8, 10] rfl)
                    · refine lv_iconst (v := 1) hx hb dL_law_495 (by decide) ?_
                      refine lv_goto (tgt := 500) hx hb dL_law_496 (by decide) ?_
                      cases h
                      exact J492_ H locs ls hw (lv_sub hl [0, 1, 2, 3, 4, 5, 6, 7, 8, 10] rfl)
            · cases h
        · cases h
  obtain ⟨y3, h9_, h⟩ := mg_bind h
  refine L22_ 41 17898 210465 (Nat.le_refl 34257) (Nat.le_refl 404969) _ _ _ _ h9_ (fun α_ H locs ls hw hl => ?_) _ H locs ls hw (lv_sub hl [3, 2, 1, 0] rfl)
  clear L22_ h9_
  refine lv_aload_n hx hb dL_law_1399 rfl (lv_at hl 1 rfl) ?_
  refine lv_aload_n hx hb dL_law_1400 rfl (lv_at hl 0 rfl) ?_
  obtain ⟨y9, h9_, h⟩ := mg_bind h
  refine W.base ?_
  refine mg_callVD hd0 (va_runV_D (As := [.ref (g 0)]) (rest := []) ⟨hx, hb, hml, hown, dr_words hts _⟩ (k_X7_isSame l hst hds D o g (β2 9 0) α_ H.size y3.2.1 y3.2.2 y9 h9_) (cwV 1 (dr_words hts _) (goodIn_up gL_law_X7_isSame) rfl rfl rfl (by decide +kernel) ⟨Nat.le_of_ble_eq_true rfl, Nat.le_of_ble_eq_true rfl⟩) (mg_preVV (s := s.setDrawn _) hK hO hA (mg_Vsub (L' := [mg_fC g (o 53) (o 54) y3.2.1, mg_fS o (β2 9 0) α_ y3.2.2]) hw [0, 1] rfl rfl) 1 rfl mg_fS_00 rfl) rfl rfl hl.1 rfl (lv_room (Nat.le_of_ble_eq_true rfl)) dL_law_1401 ⟨(lw_rc (show 34257 + 2026 ≤ 500000 by omega)), (lw_rs (show 404969 + 21893 ≤ 6000000 by omega))⟩) hw hA [0, 1] [] rfl (Lr := []) rfl rfl (by decide) (fun β9 d1 hd1 H locs hw => ?_)
  refine va_forget (s := s.setDrawn d1) (fun q hq => by have h9 := hw.2.2.2.2 q hq; rw [hAe] at h9; exact h9) ?_
  refine W.widen (k := room_1.cells) (n := room_1.slots) (lw_rc (show 34257 + 2026 ≤ 500000 by omega)) (lw_rs (show 404969 + 21893 ≤ 6000000 by omega)) ?_
  exact lw_ret hd1 hx hb hr hlocks dL_law_1404
