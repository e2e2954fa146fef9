set_option maxHeartbeats 8000000 in
set_option maxRecDepth 100000 in
theorem k_L_act (l : Launch) (hst : l.stackTraces = false) (D : va_G) (o : Nat → Nat) (g : Nat → Nat) (u : Nat) (α : Nat → Nat → Nat) (sz : Nat) (σ : mg_St) (ζ : mg_Sz) (x2 : Int32) (y : mg_St × mg_Sz) (h : f_L_act σ ζ x2 = some y) : mg_CV l yL_act wsL_act ({ frames := 8, cells := 9, slots := 83, locals := 162 } : Room) D o [mg_fC g (o 53) (o 54) σ, mg_fS o u α ζ] sz [.ref (g 0), .ref u, .int x2] (fun _ => some (.int 1)) (fun β => [mg_fC g (o 53) (o 54) y.1, mg_fS o u β y.2]) 9 83 := by
  unfold mg_CV
  refine mg_ofX (vx_ofWH (cc := cL_act) (maxL := 12) (ret := (some .boolean)) (hh := [(214, 227, 230, 31), (329, 338, 341, 31), (419, 428, 431, 31), (563, 572, 575, 31), (672, 681, 684, 31), (821, 829, 832, 31), (919, 932, 935, 31), (1020, 1030, 1033, 31)]) (by decide) rfl ?_)
  intro p e s m args below meth c s₁ B hml hv
  obtain ⟨rfl, hsz, hP, hK, hD0, hO⟩ := hv
  have hx := B.exec
  have hb := B.bytes
  have hr := B.returns
  have hts := atoms_spec (ws := wsL_act) B.pre
  have hown : s.vm.findClass RL = some m.cls := findClass_of_methodNamed B.named
  have hlocks := B.notSynchronized
  have htab := vx_table (x := yL_act) B (hts _ List.mem_cons_self)
  subst hsz
  have hD := hD0.self (sz := s.heap.size)
  generalize hAe : mg_VA [mg_fC g (o 53) (o 54) σ, mg_fS o u α ζ] s.heap.size = A at hD hO ⊢
  have hA : ∀ q : Nat, s.heap.size ≤ q → A q := fun q h => by rw [← hAe]; exact Or.inr h
  have hw : mg_Vo D A s.heap s.heap [] ([mg_fC g (o 53) (o 54) σ, mg_fS o u α ζ]) := ⟨hP, hD, va_S.rf⟩
  have G9 : CallFix p m c cL_act 12 s ([.ref (g 0), .ref u, .int x2] : List Value).toArray wsL_act RL := ⟨hx, hb, hml, hown, hts⟩
  clear hP hD hD0 hAe
  have w0_ := hts (.fieldLink RL 15 "MoonGateLaw$Sim" "cells" "[[[I") (by decide +kernel)
  have iX7_ : ∀ w ∈ wsX70, w ∈ wsL_act := (fun _ h => List.mem_cons_of_mem _ (List.mem_append_left _ (List.mem_append_left _ (List.mem_append_left _ (List.mem_append_left _ (List.mem_append_left _ (List.mem_append_left _ (List.mem_append_left _ (List.mem_append_left _ (List.mem_append_left _ (List.mem_append_right _ h)))))))))))
  have w2_ := hts (.fieldLink RL 21 "MoonGateLaw$Sim" "coins" "I") (by decide +kernel)
  have w3_ := hts (.arrayClass .int) (by decide +kernel)
  have w4_ := hts (.fieldLink RL 47 "MoonGateLaw$Sim" "carps" "[[I") (by decide +kernel)
  have w5_ := hts (.fieldLink RL 65 "MoonGateLaw$Sim" "gates" "[[I") (by decide +kernel)
  have w6_ := hts (.fieldLink RL 72 "MoonGateLaw$Sim" "poets" "[[I") (by decide +kernel)
  have hl := lv_entry ([.ref (g 0), .ref u, .int x2]) (n := 12) (Nat.le_of_ble_eq_true rfl)
  rw [lg_entry_eq]
  generalize (lg_sl ([.ref (g 0), .ref u, .int x2]) ++ List.replicate (12 - (lg_sl ([.ref (g 0), .ref u, .int x2])).length) Slot.unset).toArray = ls at hl ⊢
  have hl : lv_has ls 12 [(0, .ref (g 0)), (1, .ref u), (2, .int x2)] := hl
  unfold f_L_act at h
  suffices K_ : ∀ (H : Heap) (locs : List Loc), mg_Vo D A s.heap H locs ([mg_fC g (o 53) (o 54) σ, mg_fS o u α ζ]) → W p l e (headSpec wsL_act ({ frames := 8, cells := 9, slots := 83, locals := 162 } : Room)).room s m ([.ref (g 0), .ref u, .int x2] : List Value).toArray below meth c H locs 0 0 (vx_MQ below (mg_QV D (fun β => [mg_fC g (o 53) (o 54) y.1, mg_fS o u β y.2]) A (fun _ => some (.int 1))) (fun _ _ _ => False) ([.ref (g 0), .ref u, .int x2] : List Value).toArray s 9 83 A) (F0 m 0 ls []) from K_ _ _ hw
  clear hw
  intro H locs hw
  refine lv_iload_n hx hb dL_act_0 rfl (lv_at hl 2 rfl) ?_
  refine lv_bipush (v := 9) hx hb dL_act_1 (by decide) ?_
  refine lv_ishr hx hb dL_act_3 ?_
  refine lv_iconst (v := 2) hx hb dL_act_4 (by decide) ?_
  obtain ⟨y1, h9_, h⟩ := mg_bind h
  refine mg_callV (va_runS (As := [.int (x2 >>> (9 &&& 31)), .int 2]) (rest := []) G9 (k_L_below l D o  H.size (x2 >>> (9 &&& 31)) 2 y1 h9_) (va_cwS 2 hts gL_act_L_below rfl rfl rfl (by decide +kernel) ⟨Nat.le_of_ble_eq_true rfl, Nat.le_of_ble_eq_true rfl⟩) (mg_preVv hK hO hA (mg_Vsub (L' := []) hw [] rfl rfl)) rfl rfl hl.1 rfl (lv_room (Nat.le_of_ble_eq_true rfl)) dL_act_5 ⟨(show 0 + 0 ≤ 9 by omega), (show 0 + 0 ≤ 83 by omega)⟩) hw hA [] [0, 1] rfl (Lr := [mg_fC g (o 53) (o 54) σ, mg_fS o u α ζ]) rfl rfl (by decide) (fun β2 H locs hw => ?_)
  clear h9_
  have hw : mg_Vo D A s.heap H locs ([mg_fC g (o 53) (o 54) σ, mg_fS o u α ζ]) := hw
  obtain ⟨y3, h9_, h⟩ := mg_bind h
  have J8_ : ∀ (H : Heap) (locs : List Loc) (ls : Array Slot), mg_Vo D A s.heap H locs ([mg_fC g (o 53) (o 54) σ, mg_fS o u α ζ]) → lv_has ls 12 [(0, .ref (g 0)), (1, .ref u), (2, .int x2)] → W p l e (headSpec wsL_act ({ frames := 8, cells := 9, slots := 83, locals := 162 } : Room)).room s m ([.ref (g 0), .ref u, .int x2] : List Value).toArray below meth c H locs 0 0 (vx_MQ below (mg_QV D (fun β => [mg_fC g (o 53) (o 54) y.1, mg_fS o u β y.2]) A (fun _ => some (.int 1))) (fun _ _ _ => False) ([.ref (g 0), .ref u, .int x2] : List Value).toArray s 9 83 A) (F0 m 31 ls [.int y3]) := by
    intro H locs ls hw hl
    clear h9_
    refine lv_istore_n (lv' := [(3, .int y3), (0, .ref (g 0)), (1, .ref u), (2, .int x2)]) hx hb dL_act_31 rfl hl (by decide) rfl (fun ls hl => ?_)
    refine lv_iload_n hx hb dL_act_32 rfl (lv_at hl 3 rfl) ?_
    refine lv_bipush (v := 8) hx hb dL_act_33 (by decide) ?_
    refine lv_ishr hx hb dL_act_35 ?_
    refine lv_iconst (v := 2) hx hb dL_act_36 (by decide) ?_
    obtain ⟨y8, h9_, h⟩ := mg_bind h
    refine mg_callV (va_runS (As := [.int (x2 >>> (8 &&& 31)), .int 2]) (rest := []) G9 (k_L_below l D o  H.size (x2 >>> (8 &&& 31)) 2 y8 h9_) (va_cwS 2 hts gL_act_L_below rfl rfl rfl (by decide +kernel) ⟨Nat.le_of_ble_eq_true rfl, Nat.le_of_ble_eq_true rfl⟩) (mg_preVv hK hO hA (mg_Vsub (L' := []) hw [] rfl rfl)) rfl rfl hl.1 rfl (lv_room (Nat.le_of_ble_eq_true rfl)) dL_act_37 ⟨(show 0 + 0 ≤ 9 by omega), (show 0 + 0 ≤ 83 by omega)⟩) hw hA [] [0, 1] rfl (Lr := [mg_fC g (o 53) (o 54) σ, mg_fS o u α ζ]) rfl rfl (by decide) (fun β9 H locs hw => ?_)
    clear h9_
    have hw : mg_Vo D A s.heap H locs ([mg_fC g (o 53) (o 54) σ, mg_fS o u α ζ]) := hw
    obtain ⟨y10, h9_, h⟩ := mg_bind h
    have J40_ : ∀ (H : Heap) (locs : List Loc) (ls : Array Slot), mg_Vo D A s.heap H locs ([mg_fC g (o 53) (o 54) σ, mg_fS o u α ζ]) → lv_has ls 12 [(0, .ref (g 0)), (1, .ref u), (2, .int x2), (3, .int y3)] → W p l e (headSpec wsL_act ({ frames := 8, cells := 9, slots := 83, locals := 162 } : Room)).room s m ([.ref (g 0), .ref u, .int x2] : List Value).toArray below meth c H locs 0 0 (vx_MQ below (mg_QV D (fun β => [mg_fC g (o 53) (o 54) y.1, mg_fS o u β y.2]) A (fun _ => some (.int 1))) (fun _ _ _ => False) ([.ref (g 0), .ref u, .int x2] : List Value).toArray s 9 83 A) (F0 m 64 ls [.int y10]) := by
      intro H locs ls hw hl
      clear h9_
      refine lv_istore (lv' := [(4, .int y10), (0, .ref (g 0)), (1, .ref u), (2, .int x2), (3, .int y3)]) hx hb dL_act_64 hl (by decide) rfl (fun ls hl => ?_)
      refine lv_aload_n hx hb dL_act_66 rfl (lv_at hl 2 rfl) ?_
      refine va_get (D := D) (ci := 7) (v := .ref (α 0 1)) (C := RX7) (T := TX7) (N := 6) hx hb hts iX7_ hown hK (mg_at1 hw.1 1 rfl mg_fS_00) 0 rfl rfl 2 (by decide) w0_ (fun _ h9 => h9) rfl dL_act_67 ?_
      refine lv_iload hx hb dL_act_70 (lv_at hl 0 rfl) ?_
      refine mg_aal hx hb hK hw 1 3 rfl mg_fS_01 rfl rfl h dL_act_72 (fun j15 hj15_ h => ?_)
      refine lv_iload_n hx hb dL_act_73 rfl (lv_at hl 4 rfl) ?_
      refine mg_aal hx hb hK hw 1 2 rfl (mg_fS_1 hj15_) rfl rfl h dL_act_74 (fun j16 hj16_ h => ?_)
      refine lv_astore (lv' := [(5, .ref (α 2 (10 * j15 + j16))), (4, .int y10), (0, .ref (g 0)), (1, .ref u), (2, .int x2), (3, .int y3)]) hx hb dL_act_75 hl (by decide) rfl (fun ls hl => ?_)
      refine lv_iload_n hx hb dL_act_77 rfl (lv_at hl 4 rfl) ?_
      refine lv_bipush (v := 15) hx hb dL_act_78 (by decide) ?_
      obtain ⟨y17, h9_, h⟩ := mg_bind h
      refine mg_callV (va_runS (As := [.int x2, .int 15]) (rest := []) G9 (k_L_below l D o  H.size x2 15 y17 h9_) (va_cwS 2 hts gL_act_L_below rfl rfl rfl (by decide +kernel) ⟨Nat.le_of_ble_eq_true rfl, Nat.le_of_ble_eq_true rfl⟩) (mg_preVv hK hO hA (mg_Vsub (L' := []) hw [] rfl rfl)) rfl rfl hl.1 rfl (lv_room (Nat.le_of_ble_eq_true rfl)) dL_act_80 ⟨(show 0 + 0 ≤ 9 by omega), (show 0 + 0 ≤ 83 by omega)⟩) hw hA [] [0, 1] rfl (Lr := [mg_fC g (o 53) (o 54) σ, mg_fS o u α ζ]) rfl rfl (by decide) (fun β18 H locs hw => ?_)
      clear h9_
      have hw : mg_Vo D A s.heap H locs ([mg_fC g (o 53) (o 54) σ, mg_fS o u α ζ]) := hw
      have K152_ : f_L_act_152 j15 j16 σ ζ x2 y3 y10 = some y → W p l e (headSpec wsL_act ({ frames := 8, cells := 9, slots := 83, locals := 162 } : Room)).room s m ([.ref (g 0), .ref u, .int x2] : List Value).toArray below meth c H locs 0 0 (vx_MQ below (mg_QV D (fun β => [mg_fC g (o 53) (o 54) y.1, mg_fS o u β y.2]) A (fun _ => some (.int 1))) (fun _ _ _ => False) ([.ref (g 0), .ref u, .int x2] : List Value).toArray s 9 83 A) (F0 m 152 ls []) := by
        intro h
        unfold f_L_act_152 at h
        refine lv_iload_n hx hb dL_act_152 rfl (lv_at hl 4 rfl) ?_
        refine lv_iconst (v := 4) hx hb dL_act_153 (by decide) ?_
        refine lv_ishr hx hb dL_act_154 ?_
        refine lv_bipush (v := 6) hx hb dL_act_155 (by decide) ?_
        obtain ⟨y19, h9_, h⟩ := mg_bind h
        refine mg_callV (va_runS (As := [.int (x2 >>> (4 &&& 31)), .int 6]) (rest := []) G9 (k_L_below l D o  H.size (x2 >>> (4 &&& 31)) 6 y19 h9_) (va_cwS 2 hts gL_act_L_below rfl rfl rfl (by decide +kernel) ⟨Nat.le_of_ble_eq_true rfl, Nat.le_of_ble_eq_true rfl⟩) (mg_preVv hK hO hA (mg_Vsub (L' := []) hw [] rfl rfl)) rfl rfl hl.1 rfl (lv_room (Nat.le_of_ble_eq_true rfl)) dL_act_157 ⟨(show 0 + 0 ≤ 9 by omega), (show 0 + 0 ≤ 83 by omega)⟩) hw hA [] [0, 1] rfl (Lr := [mg_fC g (o 53) (o 54) σ, mg_fS o u α ζ]) rfl rfl (by decide) (fun β20 H locs hw => ?_)
        clear h9_
        have hw : mg_Vo D A s.heap H locs ([mg_fC g (o 53) (o 54) σ, mg_fS o u α ζ]) := hw
        refine lv_istore (lv' := [(7, .int y19), (5, .ref (α 2 (10 * j15 + j16))), (4, .int y10), (0, .ref (g 0)), (1, .ref u), (2, .int x2), (3, .int y3)]) hx hb dL_act_160 hl (by decide) rfl (fun ls hl => ?_)
        refine lv_iconst (v := 1) hx hb dL_act_162 (by decide) ?_
        refine lv_iload_n hx hb dL_act_163 rfl (lv_at hl 5 rfl) ?_
        refine lv_bipush (v := 7) hx hb dL_act_164 (by decide) ?_
        refine lv_ishr hx hb dL_act_166 ?_
        refine lv_iload_n hx hb dL_act_167 rfl (lv_at hl 5 rfl) ?_
        refine lv_iconst (v := 3) hx hb dL_act_168 (by decide) ?_
        refine lv_ishr hx hb dL_act_169 ?_
        refine lv_iconst (v := 2) hx hb dL_act_170 (by decide) ?_
        obtain ⟨y21, h9_, h⟩ := mg_bind h
        refine mg_callV (va_runS (As := [.int (x2 >>> (3 &&& 31)), .int 2]) (rest := [.int (x2 >>> (7 &&& 31)), .int 1]) G9 (k_L_below l D o  H.size (x2 >>> (3 &&& 31)) 2 y21 h9_) (va_cwS 2 hts gL_act_L_below rfl rfl rfl (by decide +kernel) ⟨Nat.le_of_ble_eq_true rfl, Nat.le_of_ble_eq_true rfl⟩) (mg_preVv hK hO hA (mg_Vsub (L' := []) hw [] rfl rfl)) rfl rfl hl.1 rfl (lv_room (Nat.le_of_ble_eq_true rfl)) dL_act_171 ⟨(show 0 + 0 ≤ 9 by omega), (show 0 + 0 ≤ 83 by omega)⟩) hw hA [] [0, 1] rfl (Lr := [mg_fC g (o 53) (o 54) σ, mg_fS o u α ζ]) rfl rfl (by decide) (fun β22 H locs hw => ?_)
        clear h9_
        have hw : mg_Vo D A s.heap H locs ([mg_fC g (o 53) (o 54) σ, mg_fS o u α ζ]) := hw
        obtain ⟨y23, h9_, h⟩ := mg_bind h
        have J174_ : ∀ (H : Heap) (locs : List Loc) (ls : Array Slot), mg_Vo D A s.heap H locs ([mg_fC g (o 53) (o 54) σ, mg_fS o u α ζ]) → lv_has ls 12 [(0, .ref (g 0)), (1, .ref u), (3, .int y3), (4, .int y10), (5, .ref (α 2 (10 * j15 + j16))), (7, .int y19)] → W p l e (headSpec wsL_act ({ frames := 8, cells := 9, slots := 83, locals := 162 } : Room)).room s m ([.ref (g 0), .ref u, .int x2] : List Value).toArray below meth c H locs 0 0 (vx_MQ below (mg_QV D (fun β => [mg_fC g (o 53) (o 54) y.1, mg_fS o u β y.2]) A (fun _ => some (.int 1))) (fun _ _ _ => False) ([.ref (g 0), .ref u, .int x2] : List Value).toArray s 9 83 A) (F0 m 183 ls [.int y23, .int (x2 >>> (7 &&& 31)), .int 1]) := by
          intro H locs ls hw hl
          clear h9_
          obtain ⟨y24, h9_, h⟩ := mg_bind h
          refine mg_callV (va_runS (As := [.int (x2 >>> (7 &&& 31)), .int y23]) (rest := [.int 1]) G9 (k_L_below l D o  H.size (x2 >>> (7 &&& 31)) y23 y24 h9_) (va_cwS 2 hts gL_act_L_below rfl rfl rfl (by decide +kernel) ⟨Nat.le_of_ble_eq_true rfl, Nat.le_of_ble_eq_true rfl⟩) (mg_preVv hK hO hA (mg_Vsub (L' := []) hw [] rfl rfl)) rfl rfl hl.1 rfl (lv_room (Nat.le_of_ble_eq_true rfl)) dL_act_183 ⟨(show 0 + 0 ≤ 9 by omega), (show 0 + 0 ≤ 83 by omega)⟩) hw hA [] [0, 1] rfl (Lr := [mg_fC g (o 53) (o 54) σ, mg_fS o u α ζ]) rfl rfl (by decide) (fun β25 H locs hw => ?_)
          clear h9_
          have hw : mg_Vo D A s.heap H locs ([mg_fC g (o 53) (o 54) σ, mg_fS o u α ζ]) := hw
          refine lv_iadd hx hb dL_act_186 ?_
          refine lv_istore (lv' := [(8, .int (1 + y24)), (0, .ref (g 0)), (1, .ref u), (3, .int y3), (4, .int y10), (5, .ref (α 2 (10 * j15 + j16))), (7, .int y19)]) hx hb dL_act_187 hl (by decide) rfl (fun ls hl => ?_)
          refine lv_aload hx hb dL_act_189 (lv_at hl 5 rfl) ?_
          refine lv_iconst (v := 0) hx hb dL_act_191 (by decide) ?_
          refine mg_ial (x := 0) hx hb hK hw 1 rfl (mg_fS_2 hj15_ hj16_) (by unfold vp_in; decide) (by decide) dL_act_192 ?_
          obtain ⟨y26, h9_, h⟩ := mg_bind h
          have J193_ : ∀ (H : Heap) (locs : List Loc) (ls : Array Slot), mg_Vo D A s.heap H locs ([mg_fC g (o 53) (o 54) σ, mg_fS o u α ζ]) → lv_has ls 12 [(0, .ref (g 0)), (1, .ref u), (3, .int y3), (4, .int y10), (7, .int y19), (8, .int (1 + y24))] → W p l e (headSpec wsL_act ({ frames := 8, cells := 9, slots := 83, locals := 162 } : Room)).room s m ([.ref (g 0), .ref u, .int x2] : List Value).toArray below meth c H locs 0 0 (vx_MQ below (mg_QV D (fun β => [mg_fC g (o 53) (o 54) y.1, mg_fS o u β y.2]) A (fun _ => some (.int 1))) (fun _ _ _ => False) ([.ref (g 0), .ref u, .int x2] : List Value).toArray s 9 83 A) (F0 m 212 ls [.int y26]) := by
            intro H locs ls hw hl
            clear h9_
            refine lv_istore (lv' := [(9, .int y26), (0, .ref (g 0)), (1, .ref u), (3, .int y3), (4, .int y10), (7, .int y19), (8, .int (1 + y24))]) hx hb dL_act_212 hl (by decide) rfl (fun ls hl => ?_)
            refine lv_aload_n hx hb dL_act_214 rfl (lv_at hl 1 rfl) ?_
            refine lv_iload_n hx hb dL_act_215 rfl (lv_at hl 3 rfl) ?_
            refine lv_iload hx hb dL_act_216 (lv_at hl 4 rfl) ?_
            refine lv_iload hx hb dL_act_218 (lv_at hl 5 rfl) ?_
            refine lv_iload hx hb dL_act_220 (lv_at hl 6 rfl) ?_
            have J222_ : ∀ (v27 : Int32) (s28 : mg_St), (fun (v27 : Int32) (s28 : mg_St) => ((Option.bind (if y26 = 0 then some ζ else (mg_ix 7 y10).bind fun j31 => (mg_ix 10 y3).bind fun j32 => some (mg_zu (mg_zr ζ (10 * j31 + j32) (upd (upd (upd (fun _ => 0) 0 1) 1 y19) 2 (1 + y24))) 0 0 1 (((mg_zr ζ (10 * j31 + j32) (upd (upd (upd (fun _ => 0) 0 1) 1 y19) 2 (1 + y24))).1 0 0 1) - (2 * (1 + y24))))) fun (y29 : mg_Sz) => (if y26 = 0 then (if v27 = (-1) then some (s28, y29) else none) else (if v27 = (y29.1 0 0 1) then some (s28, y29) else none))))) v27 s28 = some y → ∀ (H : Heap) (locs : List Loc) (ls : Array Slot), mg_Vo D A s.heap H locs ([mg_fS o u α ζ, mg_fC g (o 53) (o 54) s28]) → lv_has ls 12 [(1, .ref u), (3, .int y3), (4, .int y10), (6, .int v27), (7, .int y19), (8, .int (1 + y24)), (9, .int y26)] → W p l e (headSpec wsL_act ({ frames := 8, cells := 9, slots := 83, locals := 162 } : Room)).room s m ([.ref (g 0), .ref u, .int x2] : List Value).toArray below meth c H locs 1 6 (vx_MQ below (mg_QV D (fun β => [mg_fC g (o 53) (o 54) y.1, mg_fS o u β y.2]) A (fun _ => some (.int 1))) (fun _ _ _ => False) ([.ref (g 0), .ref u, .int x2] : List Value).toArray s 9 83 A) (F0 m 235 ls []) := by
              intro v27 s28 h H locs ls hw hl
              refine lv_iload hx hb dL_act_235 (lv_at hl 6 rfl) ?_
              obtain ⟨y29, h9_, h⟩ := mg_bind h
              have J237_ : ∀ (α_ : Nat → Nat → Nat) (H : Heap) (locs : List Loc) (ls : Array Slot), mg_Vo D A s.heap H locs ([mg_fS o u α_ y29, mg_fC g (o 53) (o 54) s28]) → lv_has ls 12 [(1, .ref u), (6, .int v27), (9, .int y26)] → W p l e (headSpec wsL_act ({ frames := 8, cells := 9, slots := 83, locals := 162 } : Room)).room s m ([.ref (g 0), .ref u, .int x2] : List Value).toArray below meth c H locs 2 9 (vx_MQ below (mg_QV D (fun β => [mg_fC g (o 53) (o 54) y.1, mg_fS o u β y.2]) A (fun _ => some (.int 1))) (fun _ _ _ => False) ([.ref (g 0), .ref u, .int x2] : List Value).toArray s 9 83 A) (F0 m 283 ls []) := by
                intro α_ H locs ls hw hl
                clear h9_
                refine lv_iload hx hb dL_act_283 (lv_at hl 1 rfl) ?_
                refine lv_iload hx hb dL_act_285 (lv_at hl 2 rfl) ?_
                refine mg_if_eq (tgt := 297) hx hb h dL_act_287 (by decide) (fun h => ?_) (fun h => ?_)
                · refine lv_iconst (v := (-1)) hx hb dL_act_297 (by decide) ?_
                  refine mg_icmp_ne (tgt := 305) hx hb h dL_act_298 (by decide) (fun h => ?_) (fun h => ?_)
                  · cases h
                  · refine lv_iconst (v := 1) hx hb dL_act_301 (by decide) ?_
                    refine lv_goto (tgt := 306) hx hb dL_act_302 (by decide) ?_
                    cases h
                    exact vx_ret (mg_eZV α_ rfl rfl hx hb hr hlocks (mg_Vsub hw [1, 0] rfl rfl) (show 2 ≤ 9 by omega) (show 9 ≤ 83 by omega) dL_act_306)
                · refine lv_aload_n hx hb dL_act_290 rfl (lv_at hl 0 rfl) ?_
                  refine va_get (D := D) (ci := 7) (v := .int (y29.1 0 0 1)) (C := RX7) (T := TX7) (N := 6) hx hb hts iX7_ hown hK (mg_at1 hw.1 0 rfl mg_fS_00) 0 rfl rfl 1 (by decide) w2_ (fun _ h9 => h9) rfl dL_act_291 ?_
                  refine lv_goto (tgt := 298) hx hb dL_act_294 (by decide) ?_
                  refine mg_icmp_ne (tgt := 305) hx hb h dL_act_298 (by decide) (fun h => ?_) (fun h => ?_)
                  · cases h
                  · refine lv_iconst (v := 1) hx hb dL_act_301 (by decide) ?_
                    refine lv_goto (tgt := 306) hx hb dL_act_302 (by decide) ?_
                    cases h
                    exact vx_ret (mg_eZV α_ rfl rfl hx hb hr hlocks (mg_Vsub hw [1, 0] rfl rfl) (show 2 ≤ 9 by omega) (show 9 ≤ 83 by omega) dL_act_306)
              clear h
              have h := h9_
              clear h9_
              refine mg_if_eq (tgt := 283) hx hb h dL_act_237 (by decide) (fun h => ?_) (fun h => ?_)
              · cases h
                refine W.widen (k := 2) (n := 9) (by omega) (by omega) ?_
                exact J237_ _ H locs ls hw (lv_sub hl [0, 3, 6] rfl)
              · refine lv_iconst (v := 3) hx hb dL_act_240 (by decide) ?_
                refine mg_vnewI (n := 3) (N := 3) (B := 3) hx hb w3_ hK hw hA (by decide) rfl (Nat.le_refl _) (Nat.le_of_ble_eq_true rfl) (show 1 + 1 ≤ 9 by omega) (show 6 + 3 ≤ 83 by omega) dL_act_241 (fun q30 H hw => ?_)
                refine lv_dup hx hb dL_act_243 rfl ?_
                refine lv_iconst (v := 0) hx hb dL_act_244 (by decide) ?_
                refine lv_iconst (v := 1) hx hb dL_act_245 (by decide) ?_
                refine mg_iasx (x := 0) (F' := mg_fI o q30 3 (upd (fun _ => 0) 0 1)) hx hb hK hw 2 rfl mg_fI_0 (by unfold vp_in; decide) (by decide) mg_sI dL_act_246 (fun H locs hw => ?_)
                refine lv_dup hx hb dL_act_247 rfl ?_
                refine lv_iconst (v := 1) hx hb dL_act_248 (by decide) ?_
                refine lv_iload hx hb dL_act_249 (lv_at hl 4 rfl) ?_
                refine mg_iasx (x := 1) (F' := mg_fI o q30 3 (upd (upd (fun _ => 0) 0 1) 1 y19)) hx hb hK hw 2 rfl mg_fI_0 (by unfold vp_in; decide) (by decide) mg_sI dL_act_251 (fun H locs hw => ?_)
                refine lv_dup hx hb dL_act_252 rfl ?_
                refine lv_iconst (v := 2) hx hb dL_act_253 (by decide) ?_
                refine lv_iload hx hb dL_act_254 (lv_at hl 5 rfl) ?_
                refine mg_iasx (x := 2) (F' := mg_fI o q30 3 (upd (upd (upd (fun _ => 0) 0 1) 1 y19) 2 (1 + y24))) hx hb hK hw 2 rfl mg_fI_0 (by unfold vp_in; decide) (by decide) mg_sI dL_act_256 (fun H locs hw => ?_)
                refine lv_astore (lv' := [(10, .ref q30), (1, .ref u), (3, .int y3), (4, .int y10), (6, .int v27), (7, .int y19), (8, .int (1 + y24)), (9, .int y26)]) hx hb dL_act_257 hl (by decide) rfl (fun ls hl => ?_)
                refine lv_aload_n hx hb dL_act_259 rfl (lv_at hl 1 rfl) ?_
                refine va_get (D := D) (ci := 7) (v := .ref (α 0 1)) (C := RX7) (T := TX7) (N := 6) hx hb hts iX7_ hown hK (mg_at1 hw.1 0 rfl mg_fS_00) 0 rfl rfl 2 (by decide) w0_ (fun _ h9 => h9) rfl dL_act_260 ?_
                refine lv_iload hx hb dL_act_263 (lv_at hl 3 rfl) ?_
                refine mg_aal hx hb hK hw 0 3 rfl mg_fS_01 rfl rfl h dL_act_265 (fun j31 hj31_ h => ?_)
                refine lv_iload_n hx hb dL_act_266 rfl (lv_at hl 2 rfl) ?_
                refine lv_aload hx hb dL_act_267 (lv_at hl 0 rfl) ?_
                obtain ⟨j32, h9_, h⟩ := mg_bind h
                obtain ⟨h8_, h7_, h6_⟩ := mg_ix_of h9_
                clear h9_
                refine mg_aas (x := j32) hx hb (hO.2.2.2.2.2.2.2.2.2.2.2.2.2.2.2.2.2.2.2.2.1) hw 0 2 rfl (mg_fS_1 hj31_) rfl mg_fI_0 h8_ h7_ dL_act_269 (fun H locs hw => ?_)
                have hw : mg_Vo D A s.heap H locs ([mg_fC g (o 53) (o 54) s28, mg_fS o u (mg_ar α (10 * j31 + j32) q30) (mg_zr ζ (10 * j31 + j32) (upd (upd (upd (fun _ => 0) 0 1) 1 y19) 2 (1 + y24)))]) := mg_mergeR hj31_ h6_ (L := [mg_fC g (o 53) (o 54) s28]) (mg_Vsub hw [1, 0, 2] rfl rfl)
                clear h8_ h7_ h6_
                refine lv_aload_n hx hb dL_act_270 rfl (lv_at hl 1 rfl) ?_
                refine lv_dup hx hb dL_act_271 rfl ?_
                refine va_get (D := D) (ci := 7) (v := .int ((mg_zr ζ (10 * j31 + j32) (upd (upd (upd (fun _ => 0) 0 1) 1 y19) 2 (1 + y24))).1 0 0 1)) (C := RX7) (T := TX7) (N := 6) hx hb hts iX7_ hown hK (mg_at1 hw.1 1 rfl mg_fS_00) 0 rfl rfl 1 (by decide) w2_ (fun _ h9 => h9) rfl dL_act_272 ?_
                refine lv_iconst (v := 2) hx hb dL_act_275 (by decide) ?_
                refine lv_iload hx hb dL_act_276 (lv_at hl 6 rfl) ?_
                refine lv_imul hx hb dL_act_278 ?_
                refine lv_isub hx hb dL_act_279 ?_
                refine mg_vput (ci := 7) (C := RX7) (T := TX7) (N := 6) (ty := .int) (v := .int (((mg_zr ζ (10 * j31 + j32) (upd (upd (upd (fun _ => 0) 0 1) 1 y19) 2 (1 + y24))).1 0 0 1) - (2 * (1 + y24)))) hx hb hts iX7_ tyX7 tyX7_ok nmX7 hown hK hw 1 rfl mg_fS_00 rfl 1 (by decide) w2_ (fun _ h9 => h9) rfl (by decide +kernel) rfl rfl (Nat.le_of_ble_eq_true rfl) dL_act_280 (fun H locs hw => ?_)
                have hw : mg_Vo D A s.heap H locs ([mg_fC g (o 53) (o 54) s28, mg_fS o u (mg_ar α (10 * j31 + j32) q30) (mg_zu (mg_zr ζ (10 * j31 + j32) (upd (upd (upd (fun _ => 0) 0 1) 1 y19) 2 (1 + y24))) 0 0 1 (((mg_zr ζ (10 * j31 + j32) (upd (upd (upd (fun _ => 0) 0 1) 1 y19) 2 (1 + y24))).1 0 0 1) - (2 * (1 + y24))))]) := by rw [← mg_sS_f1]; exact hw
                cases h
                exact J237_ _ H locs ls (mg_Vsub hw [1, 0] rfl rfl) (lv_sub hl [1, 4, 7] rfl)
            refine mg_vxc h (fun v : Int32 => some (.int v)) (fun mc9 ms9 o9 s9 hm9 h9 hc9 hs9 => vx_runV (As := [.int y3, .int y10, .int y19, .int (1 + y24)]) (rest := []) G9 (k_X6_rock l hst D o (o 53) (o 54) g H.size σ y3 y10 y19 (1 + y24) o9 s9 h9 mc9 ms9 hm9) (cwV 4 hts gL_act_X6_rock rfl rfl rfl (by decide +kernel) ⟨Nat.le_of_ble_eq_true rfl, Nat.le_of_ble_eq_true rfl⟩) (mg_preV (hK.sub (tys' := [(o 53, .int), (o 54, .boolean)]) [0, 1] rfl) hO hA (mg_C_list hw 0 rfl) (q0 := 0) rfl rfl) rfl rfl hl.1 rfl (lv_room (Nat.le_of_ble_eq_true rfl)) dL_act_222 ⟨hc9, hs9⟩) hw hA 0 [1] rfl (Lr := [mg_fS o u α ζ]) rfl rfl (by decide) (show 0 + 1 ≤ 9 by omega) (show 0 + 6 ≤ 83 by omega) (fun v27 s28 h H locs hw => ?_) (fun s28 h H locs q9 ce hw a1 a2 a3 => ?_)
            · refine lv_istore (lv' := [(6, .int v27), (9, .int y26), (0, .ref (g 0)), (1, .ref u), (3, .int y3), (4, .int y10), (7, .int y19), (8, .int (1 + y24))]) hx hb dL_act_225 hl (by decide) rfl (fun ls hl => ?_)
              refine lv_goto (tgt := 235) hx hb dL_act_227 (by decide) ?_
              exact J222_ _ _ h H locs ls hw (lv_sub hl [3, 4, 5, 0, 6, 7, 1] rfl)
            · refine vx_catch (own := RL) (name := "java/lang/IllegalStateException") (E := mg_xn 2) hown [] ⟨214, 227, 230, 31⟩ [⟨329, 338, 341, 31⟩, ⟨419, 428, 431, 31⟩, ⟨563, 572, 575, 31⟩, ⟨672, 681, 684, 31⟩, ⟨821, 829, 832, 31⟩, ⟨919, 932, 935, 31⟩, ⟨1020, 1030, 1033, 31⟩] (htab.trans rfl) (fun _ h_ => nomatch h_) rfl (by decide) (hts (.classLink RL 31 "java/lang/IllegalStateException") (by decide +kernel)) (va_Nw.use rfl (hO.2.2.2.2.2.2.2.2.2.2.2.2.2.1)) a1 a2 a3 ?_
              refine lv_astore (lv' := [(10, .ref q9), (9, .int y26), (0, .ref (g 0)), (1, .ref u), (3, .int y3), (4, .int y10), (7, .int y19), (8, .int (1 + y24))]) hx hb dL_act_230 hl (by decide) rfl (fun ls hl => ?_)
              refine lv_iconst (v := (-1)) hx hb dL_act_232 (by decide) ?_
              refine lv_istore (lv' := [(6, .int (-1)), (10, .ref q9), (9, .int y26), (0, .ref (g 0)), (1, .ref u), (3, .int y3), (4, .int y10), (7, .int y19), (8, .int (1 + y24))]) hx hb dL_act_233 hl (by decide) rfl (fun ls hl => ?_)
              exact J222_ _ _ h H locs ls hw (lv_sub hl [4, 5, 6, 0, 7, 8, 2] rfl)
          clear h
          have h := h9_
          clear h9_
          refine mg_if_ne (tgt := 211) hx hb h dL_act_193 (by decide) (fun h => ?_) (fun h => ?_)
          · refine lv_iconst (v := 0) hx hb dL_act_211 (by decide) ?_
            cases h
            exact J193_ H locs ls hw (lv_sub hl [1, 2, 3, 4, 6, 0] rfl)
          · refine lv_aload_n hx hb dL_act_196 rfl (lv_at hl 2 rfl) ?_
            refine va_get (D := D) (ci := 7) (v := .int (ζ.1 0 0 1)) (C := RX7) (T := TX7) (N := 6) hx hb hts iX7_ hown hK (mg_at1 hw.1 1 rfl mg_fS_00) 0 rfl rfl 1 (by decide) w2_ (fun _ h9 => h9) rfl dL_act_197 ?_
            refine lv_iconst (v := 2) hx hb dL_act_200 (by decide) ?_
            refine lv_iload hx hb dL_act_201 (lv_at hl 0 rfl) ?_
            refine lv_imul hx hb dL_act_203 ?_
            refine mg_icmp_lt (tgt := 211) hx hb h dL_act_204 (by decide) (fun h => ?_) (fun h => ?_)
            · refine lv_iconst (v := 0) hx hb dL_act_211 (by decide) ?_
              cases h
              exact J193_ H locs ls hw (lv_sub hl [1, 2, 3, 4, 6, 0] rfl)
            · refine lv_iconst (v := 1) hx hb dL_act_207 (by decide) ?_
              refine lv_goto (tgt := 212) hx hb dL_act_208 (by decide) ?_
              cases h
              exact J193_ H locs ls hw (lv_sub hl [1, 2, 3, 4, 6, 0] rfl)
        clear h
        have h := h9_
        clear h9_
        refine mg_if_ne (tgt := 182) hx hb h dL_act_174 (by decide) (fun h => ?_) (fun h => ?_)
        · refine lv_iconst (v := 4) hx hb dL_act_182 (by decide) ?_
          cases h
          exact J174_ H locs ls hw (lv_sub hl [3, 4, 6, 2, 1, 0] rfl)
        · refine lv_bipush (v := 9) hx hb dL_act_177 (by decide) ?_
          refine lv_goto (tgt := 183) hx hb dL_act_179 (by decide) ?_
          cases h
          exact J174_ H locs ls hw (lv_sub hl [3, 4, 6, 2, 1, 0] rfl)
      have K307_ : f_L_act_307 j15 j16 σ ζ y3 y10 = some y → W p l e (headSpec wsL_act ({ frames := 8, cells := 9, slots := 83, locals := 162 } : Room)).room s m ([.ref (g 0), .ref u, .int x2] : List Value).toArray below meth c H locs 0 0 (vx_MQ below (mg_QV D (fun β => [mg_fC g (o 53) (o 54) y.1, mg_fS o u β y.2]) A (fun _ => some (.int 1))) (fun _ _ _ => False) ([.ref (g 0), .ref u, .int x2] : List Value).toArray s 9 83 A) (F0 m 307 ls []) := by
        intro h
        unfold f_L_act_307 at h
        refine lv_aload hx hb dL_act_307 (lv_at hl 0 rfl) ?_
        refine lv_iconst (v := 0) hx hb dL_act_309 (by decide) ?_
        refine mg_ial (x := 0) hx hb hK hw 1 rfl (mg_fS_2 hj15_ hj16_) (by unfold vp_in; decide) (by decide) dL_act_310 ?_
        obtain ⟨y33, h9_, h⟩ := mg_bind h
        have J311_ : ∀ (H : Heap) (locs : List Loc) (ls : Array Slot), mg_Vo D A s.heap H locs ([mg_fC g (o 53) (o 54) σ, mg_fS o u α ζ]) → lv_has ls 12 [(0, .ref (g 0)), (1, .ref u), (3, .int y3), (4, .int y10), (5, .ref (α 2 (10 * j15 + j16)))] → W p l e (headSpec wsL_act ({ frames := 8, cells := 9, slots := 83, locals := 162 } : Room)).room s m ([.ref (g 0), .ref u, .int x2] : List Value).toArray below meth c H locs 0 0 (vx_MQ below (mg_QV D (fun β => [mg_fC g (o 53) (o 54) y.1, mg_fS o u β y.2]) A (fun _ => some (.int 1))) (fun _ _ _ => False) ([.ref (g 0), .ref u, .int x2] : List Value).toArray s 9 83 A) (F0 m 327 ls [.int y33]) := by
          intro H locs ls hw hl
          clear h9_
          refine lv_istore (lv' := [(7, .int y33), (0, .ref (g 0)), (1, .ref u), (3, .int y3), (4, .int y10), (5, .ref (α 2 (10 * j15 + j16)))]) hx hb dL_act_327 hl (by decide) rfl (fun ls hl => ?_)
          refine lv_aload_n hx hb dL_act_329 rfl (lv_at hl 1 rfl) ?_
          refine lv_iload_n hx hb dL_act_330 rfl (lv_at hl 3 rfl) ?_
          refine lv_iload hx hb dL_act_331 (lv_at hl 4 rfl) ?_
          have J333_ : ∀ (v34 : Int32) (s35 : mg_St), (fun (v34 : Int32) (s35 : mg_St) => ((Option.bind (if y33 = 0 then some ζ else some (mg_zu (mg_zu ζ 2 (10 * j15 + j16) 0 2) 0 0 1 (((mg_zu ζ 2 (10 * j15 + j16) 0 2).1 0 0 1) - 6))) fun (y36 : mg_Sz) => (if y33 = 0 then (if v34 = (-1) then some (s35, y36) else none) else (Option.bind (f_X7_pond y36 y3 y10) fun y37 => (Option.bind (f_X7_many y37) fun y39 => (if v34 = y39 then some (s35, y36) else none))))))) v34 s35 = some y → ∀ (H : Heap) (locs : List Loc) (ls : Array Slot), mg_Vo D A s.heap H locs ([mg_fS o u α ζ, mg_fC g (o 53) (o 54) s35]) → lv_has ls 12 [(1, .ref u), (3, .int y3), (4, .int y10), (5, .ref (α 2 (10 * j15 + j16))), (6, .int v34), (7, .int y33)] → W p l e (headSpec wsL_act ({ frames := 8, cells := 9, slots := 83, locals := 162 } : Room)).room s m ([.ref (g 0), .ref u, .int x2] : List Value).toArray below meth c H locs 1 6 (vx_MQ below (mg_QV D (fun β => [mg_fC g (o 53) (o 54) y.1, mg_fS o u β y.2]) A (fun _ => some (.int 1))) (fun _ _ _ => False) ([.ref (g 0), .ref u, .int x2] : List Value).toArray s 9 83 A) (F0 m 346 ls []) := by
            intro v34 s35 h H locs ls hw hl
            refine lv_iload hx hb dL_act_346 (lv_at hl 5 rfl) ?_
            obtain ⟨y36, h9_, h⟩ := mg_bind h
            have J348_ : ∀ (H : Heap) (locs : List Loc) (ls : Array Slot), mg_Vo D A s.heap H locs ([mg_fS o u α y36, mg_fC g (o 53) (o 54) s35]) → lv_has ls 12 [(1, .ref u), (3, .int y3), (4, .int y10), (6, .int v34), (7, .int y33)] → W p l e (headSpec wsL_act ({ frames := 8, cells := 9, slots := 83, locals := 162 } : Room)).room s m ([.ref (g 0), .ref u, .int x2] : List Value).toArray below meth c H locs 1 6 (vx_MQ below (mg_QV D (fun β => [mg_fC g (o 53) (o 54) y.1, mg_fS o u β y.2]) A (fun _ => some (.int 1))) (fun _ _ _ => False) ([.ref (g 0), .ref u, .int x2] : List Value).toArray s 9 83 A) (F0 m 367 ls []) := by
              intro H locs ls hw hl
              clear h9_
              refine lv_iload hx hb dL_act_367 (lv_at hl 3 rfl) ?_
              refine lv_iload hx hb dL_act_369 (lv_at hl 4 rfl) ?_
              refine mg_if_eq (tgt := 387) hx hb h dL_act_371 (by decide) (fun h => ?_) (fun h => ?_)
              · refine lv_iconst (v := (-1)) hx hb dL_act_387 (by decide) ?_
                refine mg_icmp_ne (tgt := 395) hx hb h dL_act_388 (by decide) (fun h => ?_) (fun h => ?_)
                · cases h
                · refine lv_iconst (v := 1) hx hb dL_act_391 (by decide) ?_
                  refine lv_goto (tgt := 396) hx hb dL_act_392 (by decide) ?_
                  cases h
                  exact vx_ret (mg_eZV α rfl rfl hx hb hr hlocks (mg_Vsub hw [1, 0] rfl rfl) (show 1 ≤ 9 by omega) (show 6 ≤ 83 by omega) dL_act_396)
              · refine lv_aload_n hx hb dL_act_374 rfl (lv_at hl 0 rfl) ?_
                refine lv_iload_n hx hb dL_act_375 rfl (lv_at hl 1 rfl) ?_
                refine lv_iload hx hb dL_act_376 (lv_at hl 2 rfl) ?_
                obtain ⟨y37, h9_, h⟩ := mg_bind h
                refine mg_callV (va_runV (As := [.int y3, .int y10]) (rest := [.int v34]) G9 (k_X7_pond l D o u α H.size y36 y3 y10 y37 h9_) (cwV 2 hts gL_act_X7_pond rfl rfl rfl (by decide +kernel) ⟨Nat.le_of_ble_eq_true rfl, Nat.le_of_ble_eq_true rfl⟩) (mg_preVV hK hO hA (mg_Vsub (L' := [mg_fS o u α y36]) hw [0] rfl rfl) 0 rfl mg_fS_00 rfl) rfl rfl hl.1 rfl (lv_room (Nat.le_of_ble_eq_true rfl)) dL_act_378 ⟨(show 1 + 8 ≤ 9 by omega), (show 6 + 77 ≤ 83 by omega)⟩) hw hA [0] [1] rfl (Lr := [mg_fC g (o 53) (o 54) s35]) rfl rfl (by decide) (fun β38 H locs hw => ?_)
                clear h9_
                have hw : mg_Vo D A s.heap H locs ([mg_fC g (o 53) (o 54) s35, mg_fS o u α y36, mg_fM o (β38 0 0) (β38 1) y37]) := hw
                obtain ⟨y39, h9_, h⟩ := mg_bind h
                refine mg_callV (va_runS (As := [.ref (β38 0 0)]) (rest := [.int v34]) G9 (k_X7_many l D o (β38 0 0) (β38 1) H.size y37 y39 h9_) (va_cwS 1 hts gL_act_X7_many rfl rfl rfl (by decide +kernel) ⟨Nat.le_of_ble_eq_true rfl, Nat.le_of_ble_eq_true rfl⟩) (mg_preVv hK hO hA (mg_Vsub (L' := [mg_fM o (β38 0 0) (β38 1) y37]) hw [2] rfl rfl)) rfl rfl hl.1 rfl (lv_room (Nat.le_of_ble_eq_true rfl)) dL_act_381 ⟨(show 9 + 0 ≤ 9 by omega), (show 83 + 0 ≤ 83 by omega)⟩) hw hA [2] [0, 1] rfl (Lr := [mg_fC g (o 53) (o 54) s35, mg_fS o u α y36]) rfl rfl (by decide) (fun β40 H locs hw => ?_)
                clear h9_
                have hw : mg_Vo D A s.heap H locs ([mg_fC g (o 53) (o 54) s35, mg_fS o u α y36, mg_fM o (β38 0 0) (β38 1) y37]) := hw
                refine lv_goto (tgt := 388) hx hb dL_act_384 (by decide) ?_
                refine mg_icmp_ne (tgt := 395) hx hb h dL_act_388 (by decide) (fun h => ?_) (fun h => ?_)
                · cases h
                · refine lv_iconst (v := 1) hx hb dL_act_391 (by decide) ?_
                  refine lv_goto (tgt := 396) hx hb dL_act_392 (by decide) ?_
                  cases h
                  exact vx_ret (mg_eZV α rfl rfl hx hb hr hlocks (mg_Vsub hw [0, 1] rfl rfl) (show 9 ≤ 9 by omega) (show 83 ≤ 83 by omega) dL_act_396)
            clear h
            have h := h9_
            clear h9_
            refine mg_if_eq (tgt := 367) hx hb h dL_act_348 (by decide) (fun h => ?_) (fun h => ?_)
            · cases h
              exact J348_ H locs ls hw (lv_sub hl [0, 1, 2, 4, 5] rfl)
            · refine lv_aload hx hb dL_act_351 (lv_at hl 3 rfl) ?_
              refine lv_iconst (v := 0) hx hb dL_act_353 (by decide) ?_
              refine lv_iconst (v := 2) hx hb dL_act_354 (by decide) ?_
              refine mg_iasx (x := 0) (F' := mg_fS o u α (mg_zu ζ 2 (10 * j15 + j16) 0 2)) hx hb hK hw 0 rfl (mg_fS_2 hj15_ hj16_) (by unfold vp_in; decide) (by decide) (mg_sS_2 hj15_ hj16_) dL_act_355 (fun H locs hw => ?_)
              refine lv_aload_n hx hb dL_act_356 rfl (lv_at hl 0 rfl) ?_
              refine lv_dup hx hb dL_act_357 rfl ?_
              refine va_get (D := D) (ci := 7) (v := .int ((mg_zu ζ 2 (10 * j15 + j16) 0 2).1 0 0 1)) (C := RX7) (T := TX7) (N := 6) hx hb hts iX7_ hown hK (mg_at1 hw.1 0 rfl mg_fS_00) 0 rfl rfl 1 (by decide) w2_ (fun _ h9 => h9) rfl dL_act_358 ?_
              refine lv_bipush (v := 6) hx hb dL_act_361 (by decide) ?_
              refine lv_isub hx hb dL_act_363 ?_
              refine mg_vput (ci := 7) (C := RX7) (T := TX7) (N := 6) (ty := .int) (v := .int (((mg_zu ζ 2 (10 * j15 + j16) 0 2).1 0 0 1) - 6)) hx hb hts iX7_ tyX7 tyX7_ok nmX7 hown hK hw 0 rfl mg_fS_00 rfl 1 (by decide) w2_ (fun _ h9 => h9) rfl (by decide +kernel) rfl rfl (Nat.le_of_ble_eq_true rfl) dL_act_364 (fun H locs hw => ?_)
              have hw : mg_Vo D A s.heap H locs ([mg_fS o u α (mg_zu (mg_zu ζ 2 (10 * j15 + j16) 0 2) 0 0 1 (((mg_zu ζ 2 (10 * j15 + j16) 0 2).1 0 0 1) - 6)), mg_fC g (o 53) (o 54) s35]) := by rw [← mg_sS_f1]; exact hw
              cases h
              exact J348_ H locs ls hw (lv_sub hl [0, 1, 2, 4, 5] rfl)
          refine mg_vxc h (fun v : Int32 => some (.int v)) (fun mc9 ms9 o9 s9 hm9 h9 hc9 hs9 => vx_runV (As := [.int y3, .int y10]) (rest := []) G9 (k_X6_dig l hst D o (o 53) (o 54) g H.size σ y3 y10 o9 s9 h9 mc9 ms9 hm9) (cwV 2 hts gL_act_X6_dig rfl rfl rfl (by decide +kernel) ⟨Nat.le_of_ble_eq_true rfl, Nat.le_of_ble_eq_true rfl⟩) (mg_preV (hK.sub (tys' := [(o 53, .int), (o 54, .boolean)]) [0, 1] rfl) hO hA (mg_C_list hw 0 rfl) (q0 := 0) rfl rfl) rfl rfl hl.1 rfl (lv_room (Nat.le_of_ble_eq_true rfl)) dL_act_333 ⟨hc9, hs9⟩) hw hA 0 [1] rfl (Lr := [mg_fS o u α ζ]) rfl rfl (by decide) (show 0 + 1 ≤ 9 by omega) (show 0 + 6 ≤ 83 by omega) (fun v34 s35 h H locs hw => ?_) (fun s35 h H locs q9 ce hw a1 a2 a3 => ?_)
          · refine lv_istore (lv' := [(6, .int v34), (7, .int y33), (0, .ref (g 0)), (1, .ref u), (3, .int y3), (4, .int y10), (5, .ref (α 2 (10 * j15 + j16)))]) hx hb dL_act_336 hl (by decide) rfl (fun ls hl => ?_)
            refine lv_goto (tgt := 346) hx hb dL_act_338 (by decide) ?_
            exact J333_ _ _ h H locs ls hw (lv_sub hl [3, 4, 5, 6, 0, 1] rfl)
          · refine vx_catch (own := RL) (name := "java/lang/IllegalStateException") (E := mg_xn 2) hown [⟨214, 227, 230, 31⟩] ⟨329, 338, 341, 31⟩ [⟨419, 428, 431, 31⟩, ⟨563, 572, 575, 31⟩, ⟨672, 681, 684, 31⟩, ⟨821, 829, 832, 31⟩, ⟨919, 932, 935, 31⟩, ⟨1020, 1030, 1033, 31⟩] (htab.trans rfl) (List.forall_mem_cons.mpr ⟨Or.inl (by decide), (fun _ h_ => nomatch h_)⟩) rfl (by decide) (hts (.classLink RL 31 "java/lang/IllegalStateException") (by decide +kernel)) (va_Nw.use rfl (hO.2.2.2.2.2.2.2.2.2.2.2.2.2.1)) a1 a2 a3 ?_
            refine lv_astore (lv' := [(8, .ref q9), (7, .int y33), (0, .ref (g 0)), (1, .ref u), (3, .int y3), (4, .int y10), (5, .ref (α 2 (10 * j15 + j16)))]) hx hb dL_act_341 hl (by decide) rfl (fun ls hl => ?_)
            refine lv_iconst (v := (-1)) hx hb dL_act_343 (by decide) ?_
            refine lv_istore (lv' := [(6, .int (-1)), (8, .ref q9), (7, .int y33), (0, .ref (g 0)), (1, .ref u), (3, .int y3), (4, .int y10), (5, .ref (α 2 (10 * j15 + j16)))]) hx hb dL_act_344 hl (by decide) rfl (fun ls hl => ?_)
            exact J333_ _ _ h H locs ls hw (lv_sub hl [4, 5, 6, 7, 0, 2] rfl)
        clear h
        have h := h9_
        clear h9_
        refine mg_if_ne (tgt := 326) hx hb h dL_act_311 (by decide) (fun h => ?_) (fun h => ?_)
        · refine lv_iconst (v := 0) hx hb dL_act_326 (by decide) ?_
          cases h
          exact J311_ H locs ls hw (lv_sub hl [2, 3, 5, 1, 0] rfl)
        · refine lv_aload_n hx hb dL_act_314 rfl (lv_at hl 3 rfl) ?_
          refine va_get (D := D) (ci := 7) (v := .int (ζ.1 0 0 1)) (C := RX7) (T := TX7) (N := 6) hx hb hts iX7_ hown hK (mg_at1 hw.1 1 rfl mg_fS_00) 0 rfl rfl 1 (by decide) w2_ (fun _ h9 => h9) rfl dL_act_315 ?_
          refine lv_iconst (v := 5) hx hb dL_act_318 (by decide) ?_
          refine mg_icmp_le (tgt := 326) hx hb h dL_act_319 (by decide) (fun h => ?_) (fun h => ?_)
          · refine lv_iconst (v := 0) hx hb dL_act_326 (by decide) ?_
            cases h
            exact J311_ H locs ls hw (lv_sub hl [2, 3, 5, 1, 0] rfl)
          · refine lv_iconst (v := 1) hx hb dL_act_322 (by decide) ?_
            refine lv_goto (tgt := 327) hx hb dL_act_323 (by decide) ?_
            cases h
            exact J311_ H locs ls hw (lv_sub hl [2, 3, 5, 1, 0] rfl)
      have K397_ : f_L_act_397 j15 j16 σ ζ y3 y10 = some y → W p l e (headSpec wsL_act ({ frames := 8, cells := 9, slots := 83, locals := 162 } : Room)).room s m ([.ref (g 0), .ref u, .int x2] : List Value).toArray below meth c H locs 0 0 (vx_MQ below (mg_QV D (fun β => [mg_fC g (o 53) (o 54) y.1, mg_fS o u β y.2]) A (fun _ => some (.int 1))) (fun _ _ _ => False) ([.ref (g 0), .ref u, .int x2] : List Value).toArray s 9 83 A) (F0 m 397 ls []) := by
        intro h
        unfold f_L_act_397 at h
        refine lv_aload hx hb dL_act_397 (lv_at hl 0 rfl) ?_
        refine lv_iconst (v := 0) hx hb dL_act_399 (by decide) ?_
        refine mg_ial (x := 0) hx hb hK hw 1 rfl (mg_fS_2 hj15_ hj16_) (by unfold vp_in; decide) (by decide) dL_act_400 ?_
        obtain ⟨y41, h9_, h⟩ := mg_bind h
        have J401_ : ∀ (H : Heap) (locs : List Loc) (ls : Array Slot), mg_Vo D A s.heap H locs ([mg_fC g (o 53) (o 54) σ, mg_fS o u α ζ]) → lv_has ls 12 [(0, .ref (g 0)), (1, .ref u), (3, .int y3), (4, .int y10), (5, .ref (α 2 (10 * j15 + j16)))] → W p l e (headSpec wsL_act ({ frames := 8, cells := 9, slots := 83, locals := 162 } : Room)).room s m ([.ref (g 0), .ref u, .int x2] : List Value).toArray below meth c H locs 0 0 (vx_MQ below (mg_QV D (fun β => [mg_fC g (o 53) (o 54) y.1, mg_fS o u β y.2]) A (fun _ => some (.int 1))) (fun _ _ _ => False) ([.ref (g 0), .ref u, .int x2] : List Value).toArray s 9 83 A) (F0 m 417 ls [.int y41]) := by
          intro H locs ls hw hl
          clear h9_
          refine lv_istore (lv' := [(7, .int y41), (0, .ref (g 0)), (1, .ref u), (3, .int y3), (4, .int y10), (5, .ref (α 2 (10 * j15 + j16)))]) hx hb dL_act_417 hl (by decide) rfl (fun ls hl => ?_)
          refine lv_aload_n hx hb dL_act_419 rfl (lv_at hl 1 rfl) ?_
          refine lv_iload_n hx hb dL_act_420 rfl (lv_at hl 3 rfl) ?_
          refine lv_iload hx hb dL_act_421 (lv_at hl 4 rfl) ?_
          have J423_ : ∀ (v42 : Int32) (s43 : mg_St), (fun (v42 : Int32) (s43 : mg_St) => ((Option.bind (if y41 = 0 then some ζ else some (mg_zu (mg_zu ζ 2 (10 * j15 + j16) 0 3) 0 0 1 (((mg_zu ζ 2 (10 * j15 + j16) 0 3).1 0 0 1) - 3))) fun (y44 : mg_Sz) => (if y41 = 0 then (if v42 = (-1) then some (s43, y44) else none) else (if v42 = (y44.1 0 0 1) then some (s43, y44) else none))))) v42 s43 = some y → ∀ (H : Heap) (locs : List Loc) (ls : Array Slot), mg_Vo D A s.heap H locs ([mg_fS o u α ζ, mg_fC g (o 53) (o 54) s43]) → lv_has ls 12 [(1, .ref u), (5, .ref (α 2 (10 * j15 + j16))), (6, .int v42), (7, .int y41)] → W p l e (headSpec wsL_act ({ frames := 8, cells := 9, slots := 83, locals := 162 } : Room)).room s m ([.ref (g 0), .ref u, .int x2] : List Value).toArray below meth c H locs 1 6 (vx_MQ below (mg_QV D (fun β => [mg_fC g (o 53) (o 54) y.1, mg_fS o u β y.2]) A (fun _ => some (.int 1))) (fun _ _ _ => False) ([.ref (g 0), .ref u, .int x2] : List Value).toArray s 9 83 A) (F0 m 436 ls []) := by
            intro v42 s43 h H locs ls hw hl
            refine lv_iload hx hb dL_act_436 (lv_at hl 3 rfl) ?_
            obtain ⟨y44, h9_, h⟩ := mg_bind h
            have J438_ : ∀ (H : Heap) (locs : List Loc) (ls : Array Slot), mg_Vo D A s.heap H locs ([mg_fS o u α y44, mg_fC g (o 53) (o 54) s43]) → lv_has ls 12 [(1, .ref u), (6, .int v42), (7, .int y41)] → W p l e (headSpec wsL_act ({ frames := 8, cells := 9, slots := 83, locals := 162 } : Room)).room s m ([.ref (g 0), .ref u, .int x2] : List Value).toArray below meth c H locs 1 6 (vx_MQ below (mg_QV D (fun β => [mg_fC g (o 53) (o 54) y.1, mg_fS o u β y.2]) A (fun _ => some (.int 1))) (fun _ _ _ => False) ([.ref (g 0), .ref u, .int x2] : List Value).toArray s 9 83 A) (F0 m 456 ls []) := by
              intro H locs ls hw hl
              clear h9_
              refine lv_iload hx hb dL_act_456 (lv_at hl 1 rfl) ?_
              refine lv_iload hx hb dL_act_458 (lv_at hl 2 rfl) ?_
              refine mg_if_eq (tgt := 470) hx hb h dL_act_460 (by decide) (fun h => ?_) (fun h => ?_)
              · refine lv_iconst (v := (-1)) hx hb dL_act_470 (by decide) ?_
                refine mg_icmp_ne (tgt := 478) hx hb h dL_act_471 (by decide) (fun h => ?_) (fun h => ?_)
                · cases h
                · refine lv_iconst (v := 1) hx hb dL_act_474 (by decide) ?_
                  refine lv_goto (tgt := 479) hx hb dL_act_475 (by decide) ?_
                  cases h
                  exact vx_ret (mg_eZV α rfl rfl hx hb hr hlocks (mg_Vsub hw [1, 0] rfl rfl) (show 1 ≤ 9 by omega) (show 6 ≤ 83 by omega) dL_act_479)
              · refine lv_aload_n hx hb dL_act_463 rfl (lv_at hl 0 rfl) ?_
                refine va_get (D := D) (ci := 7) (v := .int (y44.1 0 0 1)) (C := RX7) (T := TX7) (N := 6) hx hb hts iX7_ hown hK (mg_at1 hw.1 0 rfl mg_fS_00) 0 rfl rfl 1 (by decide) w2_ (fun _ h9 => h9) rfl dL_act_464 ?_
                refine lv_goto (tgt := 471) hx hb dL_act_467 (by decide) ?_
                refine mg_icmp_ne (tgt := 478) hx hb h dL_act_471 (by decide) (fun h => ?_) (fun h => ?_)
                · cases h
                · refine lv_iconst (v := 1) hx hb dL_act_474 (by decide) ?_
                  refine lv_goto (tgt := 479) hx hb dL_act_475 (by decide) ?_
                  cases h
                  exact vx_ret (mg_eZV α rfl rfl hx hb hr hlocks (mg_Vsub hw [1, 0] rfl rfl) (show 1 ≤ 9 by omega) (show 6 ≤ 83 by omega) dL_act_479)
            clear h
            have h := h9_
            clear h9_
            refine mg_if_eq (tgt := 456) hx hb h dL_act_438 (by decide) (fun h => ?_) (fun h => ?_)
            · cases h
              exact J438_ H locs ls hw (lv_sub hl [0, 2, 3] rfl)
            · refine lv_aload hx hb dL_act_441 (lv_at hl 1 rfl) ?_
              refine lv_iconst (v := 0) hx hb dL_act_443 (by decide) ?_
              refine lv_iconst (v := 3) hx hb dL_act_444 (by decide) ?_
              refine mg_iasx (x := 0) (F' := mg_fS o u α (mg_zu ζ 2 (10 * j15 + j16) 0 3)) hx hb hK hw 0 rfl (mg_fS_2 hj15_ hj16_) (by unfold vp_in; decide) (by decide) (mg_sS_2 hj15_ hj16_) dL_act_445 (fun H locs hw => ?_)
              refine lv_aload_n hx hb dL_act_446 rfl (lv_at hl 0 rfl) ?_
              refine lv_dup hx hb dL_act_447 rfl ?_
              refine va_get (D := D) (ci := 7) (v := .int ((mg_zu ζ 2 (10 * j15 + j16) 0 3).1 0 0 1)) (C := RX7) (T := TX7) (N := 6) hx hb hts iX7_ hown hK (mg_at1 hw.1 0 rfl mg_fS_00) 0 rfl rfl 1 (by decide) w2_ (fun _ h9 => h9) rfl dL_act_448 ?_
              refine lv_iconst (v := 3) hx hb dL_act_451 (by decide) ?_
              refine lv_isub hx hb dL_act_452 ?_
              refine mg_vput (ci := 7) (C := RX7) (T := TX7) (N := 6) (ty := .int) (v := .int (((mg_zu ζ 2 (10 * j15 + j16) 0 3).1 0 0 1) - 3)) hx hb hts iX7_ tyX7 tyX7_ok nmX7 hown hK hw 0 rfl mg_fS_00 rfl 1 (by decide) w2_ (fun _ h9 => h9) rfl (by decide +kernel) rfl rfl (Nat.le_of_ble_eq_true rfl) dL_act_453 (fun H locs hw => ?_)
              have hw : mg_Vo D A s.heap H locs ([mg_fS o u α (mg_zu (mg_zu ζ 2 (10 * j15 + j16) 0 3) 0 0 1 (((mg_zu ζ 2 (10 * j15 + j16) 0 3).1 0 0 1) - 3)), mg_fC g (o 53) (o 54) s43]) := by rw [← mg_sS_f1]; exact hw
              cases h
              exact J438_ H locs ls hw (lv_sub hl [0, 2, 3] rfl)
          refine mg_vxc h (fun v : Int32 => some (.int v)) (fun mc9 ms9 o9 s9 hm9 h9 hc9 hs9 => vx_runV (As := [.int y3, .int y10]) (rest := []) G9 (k_X6_wall l hst D o (o 53) (o 54) g H.size σ y3 y10 o9 s9 h9 mc9 ms9 hm9) (cwV 2 hts gL_act_X6_wall rfl rfl rfl (by decide +kernel) ⟨Nat.le_of_ble_eq_true rfl, Nat.le_of_ble_eq_true rfl⟩) (mg_preV (hK.sub (tys' := [(o 53, .int), (o 54, .boolean)]) [0, 1] rfl) hO hA (mg_C_list hw 0 rfl) (q0 := 0) rfl rfl) rfl rfl hl.1 rfl (lv_room (Nat.le_of_ble_eq_true rfl)) dL_act_423 ⟨hc9, hs9⟩) hw hA 0 [1] rfl (Lr := [mg_fS o u α ζ]) rfl rfl (by decide) (show 0 + 1 ≤ 9 by omega) (show 0 + 6 ≤ 83 by omega) (fun v42 s43 h H locs hw => ?_) (fun s43 h H locs q9 ce hw a1 a2 a3 => ?_)
          · refine lv_istore (lv' := [(6, .int v42), (7, .int y41), (0, .ref (g 0)), (1, .ref u), (3, .int y3), (4, .int y10), (5, .ref (α 2 (10 * j15 + j16)))]) hx hb dL_act_426 hl (by decide) rfl (fun ls hl => ?_)
            refine lv_goto (tgt := 436) hx hb dL_act_428 (by decide) ?_
            exact J423_ _ _ h H locs ls hw (lv_sub hl [3, 6, 0, 1] rfl)
          · refine vx_catch (own := RL) (name := "java/lang/IllegalStateException") (E := mg_xn 2) hown [⟨214, 227, 230, 31⟩, ⟨329, 338, 341, 31⟩] ⟨419, 428, 431, 31⟩ [⟨563, 572, 575, 31⟩, ⟨672, 681, 684, 31⟩, ⟨821, 829, 832, 31⟩, ⟨919, 932, 935, 31⟩, ⟨1020, 1030, 1033, 31⟩] (htab.trans rfl) (List.forall_mem_cons.mpr ⟨Or.inl (by decide), (List.forall_mem_cons.mpr ⟨Or.inl (by decide), (fun _ h_ => nomatch h_)⟩)⟩) rfl (by decide) (hts (.classLink RL 31 "java/lang/IllegalStateException") (by decide +kernel)) (va_Nw.use rfl (hO.2.2.2.2.2.2.2.2.2.2.2.2.2.1)) a1 a2 a3 ?_
            refine lv_astore (lv' := [(8, .ref q9), (7, .int y41), (0, .ref (g 0)), (1, .ref u), (3, .int y3), (4, .int y10), (5, .ref (α 2 (10 * j15 + j16)))]) hx hb dL_act_431 hl (by decide) rfl (fun ls hl => ?_)
            refine lv_iconst (v := (-1)) hx hb dL_act_433 (by decide) ?_
            refine lv_istore (lv' := [(6, .int (-1)), (8, .ref q9), (7, .int y41), (0, .ref (g 0)), (1, .ref u), (3, .int y3), (4, .int y10), (5, .ref (α 2 (10 * j15 + j16)))]) hx hb dL_act_434 hl (by decide) rfl (fun ls hl => ?_)
            exact J423_ _ _ h H locs ls hw (lv_sub hl [4, 7, 0, 2] rfl)
        clear h
        have h := h9_
        clear h9_
        refine mg_if_ne (tgt := 416) hx hb h dL_act_401 (by decide) (fun h => ?_) (fun h => ?_)
        · refine lv_iconst (v := 0) hx hb dL_act_416 (by decide) ?_
          cases h
          exact J401_ H locs ls hw (lv_sub hl [2, 3, 5, 1, 0] rfl)
        · refine lv_aload_n hx hb dL_act_404 rfl (lv_at hl 3 rfl) ?_
          refine va_get (D := D) (ci := 7) (v := .int (ζ.1 0 0 1)) (C := RX7) (T := TX7) (N := 6) hx hb hts iX7_ hown hK (mg_at1 hw.1 1 rfl mg_fS_00) 0 rfl rfl 1 (by decide) w2_ (fun _ h9 => h9) rfl dL_act_405 ?_
          refine lv_iconst (v := 2) hx hb dL_act_408 (by decide) ?_
          refine mg_icmp_le (tgt := 416) hx hb h dL_act_409 (by decide) (fun h => ?_) (fun h => ?_)
          · refine lv_iconst (v := 0) hx hb dL_act_416 (by decide) ?_
            cases h
            exact J401_ H locs ls hw (lv_sub hl [2, 3, 5, 1, 0] rfl)
          · refine lv_iconst (v := 1) hx hb dL_act_412 (by decide) ?_
            refine lv_goto (tgt := 417) hx hb dL_act_413 (by decide) ?_
            cases h
            exact J401_ H locs ls hw (lv_sub hl [2, 3, 5, 1, 0] rfl)
      have K480_ : f_L_act_480 j15 j16 σ ζ y3 y10 = some y → W p l e (headSpec wsL_act ({ frames := 8, cells := 9, slots := 83, locals := 162 } : Room)).room s m ([.ref (g 0), .ref u, .int x2] : List Value).toArray below meth c H locs 0 0 (vx_MQ below (mg_QV D (fun β => [mg_fC g (o 53) (o 54) y.1, mg_fS o u β y.2]) A (fun _ => some (.int 1))) (fun _ _ _ => False) ([.ref (g 0), .ref u, .int x2] : List Value).toArray s 9 83 A) (F0 m 480 ls []) := by
        intro h
        unfold f_L_act_480 at h
        refine lv_aload hx hb dL_act_480 (lv_at hl 0 rfl) ?_
        refine lv_iconst (v := 0) hx hb dL_act_482 (by decide) ?_
        refine mg_ial (x := 0) hx hb hK hw 1 rfl (mg_fS_2 hj15_ hj16_) (by unfold vp_in; decide) (by decide) dL_act_483 ?_
        obtain ⟨y45, h9_, h⟩ := mg_bind h
        have J484_ : ∀ (H : Heap) (locs : List Loc) (ls : Array Slot), mg_Vo D A s.heap H locs ([mg_fC g (o 53) (o 54) σ, mg_fS o u α ζ]) → lv_has ls 12 [(0, .ref (g 0)), (1, .ref u), (3, .int y3), (4, .int y10), (5, .ref (α 2 (10 * j15 + j16)))] → W p l e (headSpec wsL_act ({ frames := 8, cells := 9, slots := 83, locals := 162 } : Room)).room s m ([.ref (g 0), .ref u, .int x2] : List Value).toArray below meth c H locs 0 0 (vx_MQ below (mg_QV D (fun β => [mg_fC g (o 53) (o 54) y.1, mg_fS o u β y.2]) A (fun _ => some (.int 1))) (fun _ _ _ => False) ([.ref (g 0), .ref u, .int x2] : List Value).toArray s 9 83 A) (F0 m 492 ls [.int y45]) := by
          intro H locs ls hw hl
          clear h9_
          refine lv_istore (lv' := [(7, .int y45), (0, .ref (g 0)), (1, .ref u), (3, .int y3), (4, .int y10), (5, .ref (α 2 (10 * j15 + j16)))]) hx hb dL_act_492 hl (by decide) rfl (fun ls hl => ?_)
          refine lv_aload_n hx hb dL_act_494 rfl (lv_at hl 2 rfl) ?_
          refine va_get (D := D) (ci := 7) (v := .ref (α 0 2)) (C := RX7) (T := TX7) (N := 6) hx hb hts iX7_ hown hK (mg_at1 hw.1 1 rfl mg_fS_00) 0 rfl rfl 3 (by decide) w4_ (fun _ h9 => h9) rfl dL_act_495 ?_
          refine lv_astore (lv' := [(8, .ref (α 0 2)), (7, .int y45), (0, .ref (g 0)), (1, .ref u), (3, .int y3), (4, .int y10), (5, .ref (α 2 (10 * j15 + j16)))]) hx hb dL_act_498 hl (by decide) rfl (fun ls hl => ?_)
          refine lv_aload hx hb dL_act_500 (lv_at hl 0 rfl) ?_
          refine mg_alenq hx hb hK hw 1 2 rfl mg_fS_02 rfl dL_act_502 ?_
          refine lv_istore (lv' := [(9, .int (nI (ζ.2 0))), (8, .ref (α 0 2)), (7, .int y45), (0, .ref (g 0)), (1, .ref u), (3, .int y3), (4, .int y10), (5, .ref (α 2 (10 * j15 + j16)))]) hx hb dL_act_503 hl (by decide) rfl (fun ls hl => ?_)
          refine lv_iconst (v := 0) hx hb dL_act_505 (by decide) ?_
          refine lv_istore (lv' := [(10, .int 0), (9, .int (nI (ζ.2 0))), (8, .ref (α 0 2)), (7, .int y45), (0, .ref (g 0)), (1, .ref u), (3, .int y3), (4, .int y10), (5, .ref (α 2 (10 * j15 + j16)))]) hx hb dL_act_506 hl (by decide) rfl (fun ls hl => ?_)
          have L508_ : ∀ (n : Nat), ∀ (x7_508 : Int32) (x10_508 : Int32) (y508_ : Int32 × Int32), f_L_act_508 j15 j16 y3 y10 (nI (ζ.2 0)) σ ζ n x7_508 x10_508 = some y508_ → (∀ (H : Heap) (locs : List Loc) (ls : Array Slot), mg_Vo D A s.heap H locs ([mg_fC g (o 53) (o 54) σ, mg_fS o u α ζ]) → lv_has ls 12 [(0, .ref (g 0)), (1, .ref u), (3, .int y3), (4, .int y10), (5, .ref (α 2 (10 * j15 + j16))), (7, .int y508_.1)] → W p l e (headSpec wsL_act ({ frames := 8, cells := 9, slots := 83, locals := 162 } : Room)).room s m ([.ref (g 0), .ref u, .int x2] : List Value).toArray below meth c H locs 0 0 (vx_MQ below (mg_QV D (fun β => [mg_fC g (o 53) (o 54) y.1, mg_fS o u β y.2]) A (fun _ => some (.int 1))) (fun _ _ _ => False) ([.ref (g 0), .ref u, .int x2] : List Value).toArray s 9 83 A) (F0 m 563 ls [])) → ∀ (H : Heap) (locs : List Loc) (ls : Array Slot), mg_Vo D A s.heap H locs ([mg_fC g (o 53) (o 54) σ, mg_fS o u α ζ]) → lv_has ls 12 [(0, .ref (g 0)), (1, .ref u), (3, .int y3), (4, .int y10), (5, .ref (α 2 (10 * j15 + j16))), (7, .int x7_508), (8, .ref (α 0 2)), (9, .int (nI (ζ.2 0))), (10, .int x10_508)] → W p l e (headSpec wsL_act ({ frames := 8, cells := 9, slots := 83, locals := 162 } : Room)).room s m ([.ref (g 0), .ref u, .int x2] : List Value).toArray below meth c H locs 0 0 (vx_MQ below (mg_QV D (fun β => [mg_fC g (o 53) (o 54) y.1, mg_fS o u β y.2]) A (fun _ => some (.int 1))) (fun _ _ _ => False) ([.ref (g 0), .ref u, .int x2] : List Value).toArray s 9 83 A) (F0 m 508 ls []) := by
            intro n
            induction n with
            | zero => intro x7_508 x10_508 y508_ h; rw [f_L_act_508] at h; cases h
            | succ n ih =>
              intro x7_508 x10_508 y508_ h kc H locs ls hw hl
              rw [f_L_act_508] at h
              refine lv_iload hx hb dL_act_508 (lv_at hl 8 rfl) ?_
              refine lv_iload hx hb dL_act_510 (lv_at hl 7 rfl) ?_
              refine mg_icmp_ge (tgt := 563) hx hb h dL_act_512 (by decide) (fun h => ?_) (fun h => ?_)
              · cases h
                exact kc H locs ls hw (lv_sub hl [0, 1, 2, 3, 4, 5] rfl)
              · refine lv_aload hx hb dL_act_515 (lv_at hl 6 rfl) ?_
                refine lv_iload hx hb dL_act_517 (lv_at hl 8 rfl) ?_
                refine mg_aal hx hb hK hw 1 2 rfl mg_fS_02 rfl rfl h dL_act_519 (fun j47 hj47_ h => ?_)
                refine lv_astore (lv' := [(11, .ref (α 3 j47)), (0, .ref (g 0)), (1, .ref u), (3, .int y3), (4, .int y10), (5, .ref (α 2 (10 * j15 + j16))), (7, .int x7_508), (8, .ref (α 0 2)), (9, .int (nI (ζ.2 0))), (10, .int x10_508)]) hx hb dL_act_520 hl (by decide) rfl (fun ls hl => ?_)
                refine lv_iload hx hb dL_act_522 (lv_at hl 6 rfl) ?_
                refine lv_aload hx hb dL_act_524 (lv_at hl 0 rfl) ?_
                refine lv_iconst (v := 3) hx hb dL_act_526 (by decide) ?_
                refine mg_ial (x := 3) hx hb hK hw 1 rfl (mg_fS_3 hj47_) (by unfold vp_in; decide) (by decide) dL_act_527 ?_
                refine lv_iconst (v := 1) hx hb dL_act_528 (by decide) ?_
                refine mg_icmp_eq (tgt := 549) hx hb h dL_act_529 (by decide) (fun h => ?_) (fun h => ?_)
                · refine lv_iconst (v := 1) hx hb dL_act_549 (by decide) ?_
                  refine lv_goto (tgt := 554) hx hb dL_act_550 (by decide) ?_
                  refine lv_iand hx hb dL_act_554 ?_
                  refine lv_istore (lv' := [(7, .int (x7_508 &&& 1)), (11, .ref (α 3 j47)), (0, .ref (g 0)), (1, .ref u), (3, .int y3), (4, .int y10), (5, .ref (α 2 (10 * j15 + j16))), (8, .ref (α 0 2)), (9, .int (nI (ζ.2 0))), (10, .int x10_508)]) hx hb dL_act_555 hl (by decide) rfl (fun ls hl => ?_)
                  refine lv_iinc (v := (x10_508 + 1)) (lv' := [(10, .int (x10_508 + 1)), (7, .int (x7_508 &&& 1)), (11, .ref (α 3 j47)), (0, .ref (g 0)), (1, .ref u), (3, .int y3), (4, .int y10), (5, .ref (α 2 (10 * j15 + j16))), (8, .ref (α 0 2)), (9, .int (nI (ζ.2 0)))]) hx hb dL_act_557 hl (k := 9) rfl rfl (by decide) rfl (fun ls hl => ?_)
                  refine lv_goto (tgt := 508) hx hb dL_act_560 (by decide) ?_
                  exact ih _ _ _ h kc H locs ls hw (lv_sub hl [3, 4, 5, 6, 7, 1, 8, 9, 0] rfl)
                · refine lv_aload hx hb dL_act_532 (lv_at hl 0 rfl) ?_
                  refine lv_iconst (v := 0) hx hb dL_act_534 (by decide) ?_
                  refine mg_ial (x := 0) hx hb hK hw 1 rfl (mg_fS_3 hj47_) (by unfold vp_in; decide) (by decide) dL_act_535 ?_
                  refine lv_iload_n hx hb dL_act_536 rfl (lv_at hl 3 rfl) ?_
                  refine mg_icmp_ne (tgt := 549) hx hb h dL_act_537 (by decide) (fun h => ?_) (fun h => ?_)
                  · refine lv_iconst (v := 1) hx hb dL_act_549 (by decide) ?_
                    refine lv_goto (tgt := 554) hx hb dL_act_550 (by decide) ?_
                    refine lv_iand hx hb dL_act_554 ?_
                    refine lv_istore (lv' := [(7, .int (x7_508 &&& 1)), (11, .ref (α 3 j47)), (0, .ref (g 0)), (1, .ref u), (3, .int y3), (4, .int y10), (5, .ref (α 2 (10 * j15 + j16))), (8, .ref (α 0 2)), (9, .int (nI (ζ.2 0))), (10, .int x10_508)]) hx hb dL_act_555 hl (by decide) rfl (fun ls hl => ?_)
                    refine lv_iinc (v := (x10_508 + 1)) (lv' := [(10, .int (x10_508 + 1)), (7, .int (x7_508 &&& 1)), (11, .ref (α 3 j47)), (0, .ref (g 0)), (1, .ref u), (3, .int y3), (4, .int y10), (5, .ref (α 2 (10 * j15 + j16))), (8, .ref (α 0 2)), (9, .int (nI (ζ.2 0)))]) hx hb dL_act_557 hl (k := 9) rfl rfl (by decide) rfl (fun ls hl => ?_)
                    refine lv_goto (tgt := 508) hx hb dL_act_560 (by decide) ?_
                    exact ih _ _ _ h kc H locs ls hw (lv_sub hl [3, 4, 5, 6, 7, 1, 8, 9, 0] rfl)
                  · refine lv_aload hx hb dL_act_540 (lv_at hl 0 rfl) ?_
                    refine lv_iconst (v := 1) hx hb dL_act_542 (by decide) ?_
                    refine mg_ial (x := 1) hx hb hK hw 1 rfl (mg_fS_3 hj47_) (by unfold vp_in; decide) (by decide) dL_act_543 ?_
                    refine lv_iload hx hb dL_act_544 (lv_at hl 4 rfl) ?_
                    refine mg_icmp_eq (tgt := 553) hx hb h dL_act_546 (by decide) (fun h => ?_) (fun h => ?_)
                    · refine lv_iconst (v := 0) hx hb dL_act_553 (by decide) ?_
                      refine lv_iand hx hb dL_act_554 ?_
                      refine lv_istore (lv' := [(7, .int (x7_508 &&& 0)), (11, .ref (α 3 j47)), (0, .ref (g 0)), (1, .ref u), (3, .int y3), (4, .int y10), (5, .ref (α 2 (10 * j15 + j16))), (8, .ref (α 0 2)), (9, .int (nI (ζ.2 0))), (10, .int x10_508)]) hx hb dL_act_555 hl (by decide) rfl (fun ls hl => ?_)
                      refine lv_iinc (v := (x10_508 + 1)) (lv' := [(10, .int (x10_508 + 1)), (7, .int (x7_508 &&& 0)), (11, .ref (α 3 j47)), (0, .ref (g 0)), (1, .ref u), (3, .int y3), (4, .int y10), (5, .ref (α 2 (10 * j15 + j16))), (8, .ref (α 0 2)), (9, .int (nI (ζ.2 0)))]) hx hb dL_act_557 hl (k := 9) rfl rfl (by decide) rfl (fun ls hl => ?_)
                      refine lv_goto (tgt := 508) hx hb dL_act_560 (by decide) ?_
                      exact ih _ _ _ h kc H locs ls hw (lv_sub hl [3, 4, 5, 6, 7, 1, 8, 9, 0] rfl)
                    · refine lv_iconst (v := 1) hx hb dL_act_549 (by decide) ?_
                      refine lv_goto (tgt := 554) hx hb dL_act_550 (by decide) ?_
                      refine lv_iand hx hb dL_act_554 ?_
                      refine lv_istore (lv' := [(7, .int (x7_508 &&& 1)), (11, .ref (α 3 j47)), (0, .ref (g 0)), (1, .ref u), (3, .int y3), (4, .int y10), (5, .ref (α 2 (10 * j15 + j16))), (8, .ref (α 0 2)), (9, .int (nI (ζ.2 0))), (10, .int x10_508)]) hx hb dL_act_555 hl (by decide) rfl (fun ls hl => ?_)
                      refine lv_iinc (v := (x10_508 + 1)) (lv' := [(10, .int (x10_508 + 1)), (7, .int (x7_508 &&& 1)), (11, .ref (α 3 j47)), (0, .ref (g 0)), (1, .ref u), (3, .int y3), (4, .int y10), (5, .ref (α 2 (10 * j15 + j16))), (8, .ref (α 0 2)), (9, .int (nI (ζ.2 0)))]) hx hb dL_act_557 hl (k := 9) rfl rfl (by decide) rfl (fun ls hl => ?_)
                      refine lv_goto (tgt := 508) hx hb dL_act_560 (by decide) ?_
                      exact ih _ _ _ h kc H locs ls hw (lv_sub hl [3, 4, 5, 6, 7, 1, 8, 9, 0] rfl)
          obtain ⟨y46, h9_, h⟩ := mg_bind h
          refine L508_ 5000 _ _ _ h9_ (fun H locs ls hw hl => ?_) H locs ls hw (lv_sub hl [4, 5, 6, 7, 8, 3, 2, 1, 0] rfl)
          clear L508_ h9_
          refine lv_aload_n hx hb dL_act_563 rfl (lv_at hl 0 rfl) ?_
          refine lv_iload_n hx hb dL_act_564 rfl (lv_at hl 2 rfl) ?_
          refine lv_iload hx hb dL_act_565 (lv_at hl 3 rfl) ?_
          have J567_ : ∀ (v48 : Int32) (s49 : mg_St), (fun (v48 : Int32) (s49 : mg_St) => ((Option.bind (if y46.1 = 0 then some ζ else (Option.bind (if ((ζ.1 2 (10 * j15 + j16)) 0) = 1 then some ((ζ.1 2 (10 * j15 + j16)) 2) else some 0) fun (y51 : Int32) => some (mg_zu (mg_zu ζ 0 0 1 ((ζ.1 0 0 1) + y51)) 2 (10 * j15 + j16) 0 0))) fun (y50 : mg_Sz) => (if y46.1 = 0 then (if v48 = (-1) then some (s49, y50) else none) else (if v48 = (y50.1 0 0 1) then some (s49, y50) else none))))) v48 s49 = some y → ∀ (H : Heap) (locs : List Loc) (ls : Array Slot), mg_Vo D A s.heap H locs ([mg_fS o u α ζ, mg_fC g (o 53) (o 54) s49]) → lv_has ls 12 [(1, .ref u), (5, .ref (α 2 (10 * j15 + j16))), (6, .int v48), (7, .int y46.1)] → W p l e (headSpec wsL_act ({ frames := 8, cells := 9, slots := 83, locals := 162 } : Room)).room s m ([.ref (g 0), .ref u, .int x2] : List Value).toArray below meth c H locs 1 6 (vx_MQ below (mg_QV D (fun β => [mg_fC g (o 53) (o 54) y.1, mg_fS o u β y.2]) A (fun _ => some (.int 1))) (fun _ _ _ => False) ([.ref (g 0), .ref u, .int x2] : List Value).toArray s 9 83 A) (F0 m 580 ls []) := by
            intro v48 s49 h H locs ls hw hl
            refine lv_iload hx hb dL_act_580 (lv_at hl 3 rfl) ?_
            obtain ⟨y50, h9_, h⟩ := mg_bind h
            have J582_ : ∀ (H : Heap) (locs : List Loc) (ls : Array Slot), mg_Vo D A s.heap H locs ([mg_fS o u α y50, mg_fC g (o 53) (o 54) s49]) → lv_has ls 12 [(1, .ref u), (6, .int v48), (7, .int y46.1)] → W p l e (headSpec wsL_act ({ frames := 8, cells := 9, slots := 83, locals := 162 } : Room)).room s m ([.ref (g 0), .ref u, .int x2] : List Value).toArray below meth c H locs 1 6 (vx_MQ below (mg_QV D (fun β => [mg_fC g (o 53) (o 54) y.1, mg_fS o u β y.2]) A (fun _ => some (.int 1))) (fun _ _ _ => False) ([.ref (g 0), .ref u, .int x2] : List Value).toArray s 9 83 A) (F0 m 615 ls []) := by
              intro H locs ls hw hl
              clear h9_
              refine lv_iload hx hb dL_act_615 (lv_at hl 1 rfl) ?_
              refine lv_iload hx hb dL_act_617 (lv_at hl 2 rfl) ?_
              refine mg_if_eq (tgt := 629) hx hb h dL_act_619 (by decide) (fun h => ?_) (fun h => ?_)
              · refine lv_iconst (v := (-1)) hx hb dL_act_629 (by decide) ?_
                refine mg_icmp_ne (tgt := 637) hx hb h dL_act_630 (by decide) (fun h => ?_) (fun h => ?_)
                · cases h
                · refine lv_iconst (v := 1) hx hb dL_act_633 (by decide) ?_
                  refine lv_goto (tgt := 638) hx hb dL_act_634 (by decide) ?_
                  cases h
                  exact vx_ret (mg_eZV α rfl rfl hx hb hr hlocks (mg_Vsub hw [1, 0] rfl rfl) (show 1 ≤ 9 by omega) (show 6 ≤ 83 by omega) dL_act_638)
              · refine lv_aload_n hx hb dL_act_622 rfl (lv_at hl 0 rfl) ?_
                refine va_get (D := D) (ci := 7) (v := .int (y50.1 0 0 1)) (C := RX7) (T := TX7) (N := 6) hx hb hts iX7_ hown hK (mg_at1 hw.1 0 rfl mg_fS_00) 0 rfl rfl 1 (by decide) w2_ (fun _ h9 => h9) rfl dL_act_623 ?_
                refine lv_goto (tgt := 630) hx hb dL_act_626 (by decide) ?_
                refine mg_icmp_ne (tgt := 637) hx hb h dL_act_630 (by decide) (fun h => ?_) (fun h => ?_)
                · cases h
                · refine lv_iconst (v := 1) hx hb dL_act_633 (by decide) ?_
                  refine lv_goto (tgt := 638) hx hb dL_act_634 (by decide) ?_
                  cases h
                  exact vx_ret (mg_eZV α rfl rfl hx hb hr hlocks (mg_Vsub hw [1, 0] rfl rfl) (show 1 ≤ 9 by omega) (show 6 ≤ 83 by omega) dL_act_638)
            clear h
            have h := h9_
            clear h9_
            refine mg_if_eq (tgt := 615) hx hb h dL_act_582 (by decide) (fun h => ?_) (fun h => ?_)
            · cases h
              exact J582_ H locs ls hw (lv_sub hl [0, 2, 3] rfl)
            · refine lv_aload_n hx hb dL_act_585 rfl (lv_at hl 0 rfl) ?_
              refine lv_dup hx hb dL_act_586 rfl ?_
              refine va_get (D := D) (ci := 7) (v := .int (ζ.1 0 0 1)) (C := RX7) (T := TX7) (N := 6) hx hb hts iX7_ hown hK (mg_at1 hw.1 0 rfl mg_fS_00) 0 rfl rfl 1 (by decide) w2_ (fun _ h9 => h9) rfl dL_act_587 ?_
              refine lv_aload hx hb dL_act_590 (lv_at hl 1 rfl) ?_
              refine lv_iconst (v := 0) hx hb dL_act_592 (by decide) ?_
              refine mg_ial (x := 0) hx hb hK hw 0 rfl (mg_fS_2 hj15_ hj16_) (by unfold vp_in; decide) (by decide) dL_act_593 ?_
              refine lv_iconst (v := 1) hx hb dL_act_594 (by decide) ?_
              obtain ⟨y51, h9_, h⟩ := mg_bind h
              have J595_ : ∀ (H : Heap) (locs : List Loc) (ls : Array Slot), mg_Vo D A s.heap H locs ([mg_fS o u α ζ, mg_fC g (o 53) (o 54) s49]) → lv_has ls 12 [(1, .ref u), (5, .ref (α 2 (10 * j15 + j16))), (6, .int v48), (7, .int y46.1)] → W p l e (headSpec wsL_act ({ frames := 8, cells := 9, slots := 83, locals := 162 } : Room)).room s m ([.ref (g 0), .ref u, .int x2] : List Value).toArray below meth c H locs 1 6 (vx_MQ below (mg_QV D (fun β => [mg_fC g (o 53) (o 54) y.1, mg_fS o u β y.2]) A (fun _ => some (.int 1))) (fun _ _ _ => False) ([.ref (g 0), .ref u, .int x2] : List Value).toArray s 9 83 A) (F0 m 606 ls [.int y51, .int (ζ.1 0 0 1), .ref u]) := by
                intro H locs ls hw hl
                clear h9_
                refine lv_iadd hx hb dL_act_606 ?_
                refine mg_vput (ci := 7) (C := RX7) (T := TX7) (N := 6) (ty := .int) (v := .int ((ζ.1 0 0 1) + y51)) hx hb hts iX7_ tyX7 tyX7_ok nmX7 hown hK hw 0 rfl mg_fS_00 rfl 1 (by decide) w2_ (fun _ h9 => h9) rfl (by decide +kernel) rfl rfl (Nat.le_of_ble_eq_true rfl) dL_act_607 (fun H locs hw => ?_)
                have hw : mg_Vo D A s.heap H locs ([mg_fS o u α (mg_zu ζ 0 0 1 ((ζ.1 0 0 1) + y51)), mg_fC g (o 53) (o 54) s49]) := by rw [← mg_sS_f1]; exact hw
                refine lv_aload hx hb dL_act_610 (lv_at hl 1 rfl) ?_
                refine lv_iconst (v := 0) hx hb dL_act_612 (by decide) ?_
                refine lv_iconst (v := 0) hx hb dL_act_613 (by decide) ?_
                refine mg_iasx (x := 0) (F' := mg_fS o u α (mg_zu (mg_zu ζ 0 0 1 ((ζ.1 0 0 1) + y51)) 2 (10 * j15 + j16) 0 0)) hx hb hK hw 0 rfl (mg_fS_2 hj15_ hj16_) (by unfold vp_in; decide) (by decide) (mg_sS_2 hj15_ hj16_) dL_act_614 (fun H locs hw => ?_)
                cases h
                exact J582_ H locs ls hw (lv_sub hl [0, 2, 3] rfl)
              clear h
              have h := h9_
              clear h9_
              refine mg_icmp_ne (tgt := 605) hx hb h dL_act_595 (by decide) (fun h => ?_) (fun h => ?_)
              · refine lv_iconst (v := 0) hx hb dL_act_605 (by decide) ?_
                cases h
                exact J595_ H locs ls hw (lv_sub hl [0, 1, 2, 3] rfl)
              · refine lv_aload hx hb dL_act_598 (lv_at hl 1 rfl) ?_
                refine lv_iconst (v := 2) hx hb dL_act_600 (by decide) ?_
                refine mg_ial (x := 2) hx hb hK hw 0 rfl (mg_fS_2 hj15_ hj16_) (by unfold vp_in; decide) (by decide) dL_act_601 ?_
                refine lv_goto (tgt := 606) hx hb dL_act_602 (by decide) ?_
                cases h
                exact J595_ H locs ls hw (lv_sub hl [0, 1, 2, 3] rfl)
          refine mg_vxc h (fun v : Int32 => some (.int v)) (fun mc9 ms9 o9 s9 hm9 h9 hc9 hs9 => vx_runV (As := [.int y3, .int y10]) (rest := []) G9 (k_X6_clear l hst D o (o 53) (o 54) g H.size σ y3 y10 o9 s9 h9 mc9 ms9 hm9) (cwV 2 hts gL_act_X6_clear rfl rfl rfl (by decide +kernel) ⟨Nat.le_of_ble_eq_true rfl, Nat.le_of_ble_eq_true rfl⟩) (mg_preV (hK.sub (tys' := [(o 53, .int), (o 54, .boolean)]) [0, 1] rfl) hO hA (mg_C_list hw 0 rfl) (q0 := 0) rfl rfl) rfl rfl hl.1 rfl (lv_room (Nat.le_of_ble_eq_true rfl)) dL_act_567 ⟨hc9, hs9⟩) hw hA 0 [1] rfl (Lr := [mg_fS o u α ζ]) rfl rfl (by decide) (show 0 + 1 ≤ 9 by omega) (show 0 + 6 ≤ 83 by omega) (fun v48 s49 h H locs hw => ?_) (fun s49 h H locs q9 ce hw a1 a2 a3 => ?_)
          · refine lv_istore (lv' := [(6, .int v48), (0, .ref (g 0)), (1, .ref u), (3, .int y3), (4, .int y10), (5, .ref (α 2 (10 * j15 + j16))), (7, .int y46.1)]) hx hb dL_act_570 hl (by decide) rfl (fun ls hl => ?_)
            refine lv_goto (tgt := 580) hx hb dL_act_572 (by decide) ?_
            exact J567_ _ _ h H locs ls hw (lv_sub hl [2, 5, 0, 6] rfl)
          · refine vx_catch (own := RL) (name := "java/lang/IllegalStateException") (E := mg_xn 2) hown [⟨214, 227, 230, 31⟩, ⟨329, 338, 341, 31⟩, ⟨419, 428, 431, 31⟩] ⟨563, 572, 575, 31⟩ [⟨672, 681, 684, 31⟩, ⟨821, 829, 832, 31⟩, ⟨919, 932, 935, 31⟩, ⟨1020, 1030, 1033, 31⟩] (htab.trans rfl) (List.forall_mem_cons.mpr ⟨Or.inl (by decide), (List.forall_mem_cons.mpr ⟨Or.inl (by decide), (List.forall_mem_cons.mpr ⟨Or.inl (by decide), (fun _ h_ => nomatch h_)⟩)⟩)⟩) rfl (by decide) (hts (.classLink RL 31 "java/lang/IllegalStateException") (by decide +kernel)) (va_Nw.use rfl (hO.2.2.2.2.2.2.2.2.2.2.2.2.2.1)) a1 a2 a3 ?_
            refine lv_astore (lv' := [(8, .ref q9), (0, .ref (g 0)), (1, .ref u), (3, .int y3), (4, .int y10), (5, .ref (α 2 (10 * j15 + j16))), (7, .int y46.1)]) hx hb dL_act_575 hl (by decide) rfl (fun ls hl => ?_)
            refine lv_iconst (v := (-1)) hx hb dL_act_577 (by decide) ?_
            refine lv_istore (lv' := [(6, .int (-1)), (8, .ref q9), (0, .ref (g 0)), (1, .ref u), (3, .int y3), (4, .int y10), (5, .ref (α 2 (10 * j15 + j16))), (7, .int y46.1)]) hx hb dL_act_578 hl (by decide) rfl (fun ls hl => ?_)
            exact J567_ _ _ h H locs ls hw (lv_sub hl [3, 6, 0, 7] rfl)
        clear h
        have h := h9_
        clear h9_
        refine mg_if_eq (tgt := 491) hx hb h dL_act_484 (by decide) (fun h => ?_) (fun h => ?_)
        · refine lv_iconst (v := 0) hx hb dL_act_491 (by decide) ?_
          cases h
          exact J484_ H locs ls hw (lv_sub hl [2, 3, 5, 1, 0] rfl)
        · refine lv_iconst (v := 1) hx hb dL_act_487 (by decide) ?_
          refine lv_goto (tgt := 492) hx hb dL_act_488 (by decide) ?_
          cases h
          exact J484_ H locs ls hw (lv_sub hl [2, 3, 5, 1, 0] rfl)
      have K639_ : f_L_act_639 j15 j16 σ ζ y3 y10 = some y → W p l e (headSpec wsL_act ({ frames := 8, cells := 9, slots := 83, locals := 162 } : Room)).room s m ([.ref (g 0), .ref u, .int x2] : List Value).toArray below meth c H locs 0 0 (vx_MQ below (mg_QV D (fun β => [mg_fC g (o 53) (o 54) y.1, mg_fS o u β y.2]) A (fun _ => some (.int 1))) (fun _ _ _ => False) ([.ref (g 0), .ref u, .int x2] : List Value).toArray s 9 83 A) (F0 m 639 ls []) := by
        intro h
        unfold f_L_act_639 at h
        refine lv_aload hx hb dL_act_639 (lv_at hl 0 rfl) ?_
        refine lv_iconst (v := 0) hx hb dL_act_641 (by decide) ?_
        refine mg_ial (x := 0) hx hb hK hw 1 rfl (mg_fS_2 hj15_ hj16_) (by unfold vp_in; decide) (by decide) dL_act_642 ?_
        refine lv_iconst (v := 2) hx hb dL_act_643 (by decide) ?_
        obtain ⟨y52, h9_, h⟩ := mg_bind h
        have J644_ : ∀ (H : Heap) (locs : List Loc) (ls : Array Slot), mg_Vo D A s.heap H locs ([mg_fC g (o 53) (o 54) σ, mg_fS o u α ζ]) → lv_has ls 12 [(0, .ref (g 0)), (1, .ref u), (3, .int y3), (4, .int y10)] → W p l e (headSpec wsL_act ({ frames := 8, cells := 9, slots := 83, locals := 162 } : Room)).room s m ([.ref (g 0), .ref u, .int x2] : List Value).toArray below meth c H locs 0 0 (vx_MQ below (mg_QV D (fun β => [mg_fC g (o 53) (o 54) y.1, mg_fS o u β y.2]) A (fun _ => some (.int 1))) (fun _ _ _ => False) ([.ref (g 0), .ref u, .int x2] : List Value).toArray s 9 83 A) (F0 m 670 ls [.int y52]) := by
          intro H locs ls hw hl
          clear h9_
          refine lv_istore (lv' := [(7, .int y52), (0, .ref (g 0)), (1, .ref u), (3, .int y3), (4, .int y10)]) hx hb dL_act_670 hl (by decide) rfl (fun ls hl => ?_)
          refine lv_aload_n hx hb dL_act_672 rfl (lv_at hl 1 rfl) ?_
          refine lv_iload_n hx hb dL_act_673 rfl (lv_at hl 3 rfl) ?_
          refine lv_iload hx hb dL_act_674 (lv_at hl 4 rfl) ?_
          have J676_ : ∀ (v53 : Int32) (s54 : mg_St), (fun (v53 : Int32) (s54 : mg_St) => ((Option.bind (if y52 = 0 then some (-1) else some (nI (ζ.2 0))) fun (y55 : Int32) => (if v53 = y55 then (if y52 = 0 then some (s54, ζ) else (mg_gd ((ζ.2 0) ≤ 30)).bind fun _ => some (s54, (mg_zu (mg_zm ζ 0 (upd (upd (upd (upd (fun _ => 0) 0 y3) 1 y10) 2 1) 3 0)) 0 0 1 (((mg_zm ζ 0 (upd (upd (upd (upd (fun _ => 0) 0 y3) 1 y10) 2 1) 3 0)).1 0 0 1) - 4)))) else none)))) v53 s54 = some y → ∀ (H : Heap) (locs : List Loc) (ls : Array Slot), mg_Vo D A s.heap H locs ([mg_fS o u α ζ, mg_fC g (o 53) (o 54) s54]) → lv_has ls 12 [(1, .ref u), (3, .int y3), (4, .int y10), (6, .int v53), (7, .int y52)] → W p l e (headSpec wsL_act ({ frames := 8, cells := 9, slots := 83, locals := 162 } : Room)).room s m ([.ref (g 0), .ref u, .int x2] : List Value).toArray below meth c H locs 1 6 (vx_MQ below (mg_QV D (fun β => [mg_fC g (o 53) (o 54) y.1, mg_fS o u β y.2]) A (fun _ => some (.int 1))) (fun _ _ _ => False) ([.ref (g 0), .ref u, .int x2] : List Value).toArray s 9 83 A) (F0 m 689 ls []) := by
            intro v53 s54 h H locs ls hw hl
            refine lv_iload hx hb dL_act_689 (lv_at hl 3 rfl) ?_
            refine lv_iload hx hb dL_act_691 (lv_at hl 4 rfl) ?_
            obtain ⟨y55, h9_, h⟩ := mg_bind h
            have J693_ : ∀ (H : Heap) (locs : List Loc) (ls : Array Slot), mg_Vo D A s.heap H locs ([mg_fS o u α ζ, mg_fC g (o 53) (o 54) s54]) → lv_has ls 12 [(1, .ref u), (3, .int y3), (4, .int y10), (7, .int y52)] → W p l e (headSpec wsL_act ({ frames := 8, cells := 9, slots := 83, locals := 162 } : Room)).room s m ([.ref (g 0), .ref u, .int x2] : List Value).toArray below meth c H locs 1 6 (vx_MQ below (mg_QV D (fun β => [mg_fC g (o 53) (o 54) y.1, mg_fS o u β y.2]) A (fun _ => some (.int 1))) (fun _ _ _ => False) ([.ref (g 0), .ref u, .int x2] : List Value).toArray s 9 83 A) (F0 m 705 ls [.int y55, .int v53]) := by
              intro H locs ls hw hl
              clear h9_
              refine mg_icmp_eq (tgt := 710) hx hb h dL_act_705 (by decide) (fun h => ?_) (fun h => ?_)
              · refine lv_iload hx hb dL_act_710 (lv_at hl 3 rfl) ?_
                refine mg_if_ne (tgt := 717) hx hb h dL_act_712 (by decide) (fun h => ?_) (fun h => ?_)
                · refine lv_iconst (v := 4) hx hb dL_act_717 (by decide) ?_
                  refine mg_vnewI (n := 4) (N := 4) (B := 4) hx hb w3_ hK hw hA (by decide) rfl (Nat.le_refl _) (Nat.le_of_ble_eq_true rfl) (show 1 + 1 ≤ 9 by omega) (show 6 + 4 ≤ 83 by omega) dL_act_718 (fun q56 H hw => ?_)
                  refine lv_dup hx hb dL_act_720 rfl ?_
                  refine lv_iconst (v := 0) hx hb dL_act_721 (by decide) ?_
                  refine lv_iload_n hx hb dL_act_722 rfl (lv_at hl 1 rfl) ?_
                  refine mg_iasx (x := 0) (F' := mg_fI o q56 4 (upd (fun _ => 0) 0 y3)) hx hb hK hw 2 rfl mg_fI_0 (by unfold vp_in; decide) (by decide) mg_sI dL_act_723 (fun H locs hw => ?_)
                  refine lv_dup hx hb dL_act_724 rfl ?_
                  refine lv_iconst (v := 1) hx hb dL_act_725 (by decide) ?_
                  refine lv_iload hx hb dL_act_726 (lv_at hl 2 rfl) ?_
                  refine mg_iasx (x := 1) (F' := mg_fI o q56 4 (upd (upd (fun _ => 0) 0 y3) 1 y10)) hx hb hK hw 2 rfl mg_fI_0 (by unfold vp_in; decide) (by decide) mg_sI dL_act_728 (fun H locs hw => ?_)
                  refine lv_dup hx hb dL_act_729 rfl ?_
                  refine lv_iconst (v := 2) hx hb dL_act_730 (by decide) ?_
                  refine lv_iconst (v := 1) hx hb dL_act_731 (by decide) ?_
                  refine mg_iasx (x := 2) (F' := mg_fI o q56 4 (upd (upd (upd (fun _ => 0) 0 y3) 1 y10) 2 1)) hx hb hK hw 2 rfl mg_fI_0 (by unfold vp_in; decide) (by decide) mg_sI dL_act_732 (fun H locs hw => ?_)
                  refine lv_dup hx hb dL_act_733 rfl ?_
                  refine lv_iconst (v := 3) hx hb dL_act_734 (by decide) ?_
                  refine lv_iconst (v := 0) hx hb dL_act_735 (by decide) ?_
                  refine mg_iasx (x := 3) (F' := mg_fI o q56 4 (upd (upd (upd (upd (fun _ => 0) 0 y3) 1 y10) 2 1) 3 0)) hx hb hK hw 2 rfl mg_fI_0 (by unfold vp_in; decide) (by decide) mg_sI dL_act_736 (fun H locs hw => ?_)
                  refine lv_astore (lv' := [(8, .ref q56), (1, .ref u), (3, .int y3), (4, .int y10), (7, .int y52)]) hx hb dL_act_737 hl (by decide) rfl (fun ls hl => ?_)
                  refine lv_aload_n hx hb dL_act_739 rfl (lv_at hl 1 rfl) ?_
                  refine lv_aload_n hx hb dL_act_740 rfl (lv_at hl 1 rfl) ?_
                  refine va_get (D := D) (ci := 7) (v := .ref (α 0 2)) (C := RX7) (T := TX7) (N := 6) hx hb hts iX7_ hown hK (mg_at1 hw.1 0 rfl mg_fS_00) 0 rfl rfl 3 (by decide) w4_ (fun _ h9 => h9) rfl dL_act_741 ?_
                  refine lv_aload hx hb dL_act_744 (lv_at hl 0 rfl) ?_
                  obtain ⟨y9_, h9_, h⟩ := mg_bind h
                  have hn58 := mg_gd_of h9_
                  clear h9_ y9_
                  refine mg_callV (va_runS (As := [.ref (α 0 2), .ref q56]) (rest := [.ref u]) G9 (k_X7_more l D o [mg_fS o u α ζ, mg_fC g (o 53) (o 54) s54, mg_fI o q56 4 (upd (upd (upd (upd (fun _ => 0) 0 y3) 1 y10) 2 1) 3 0)] H.size 0 2 rfl mg_fS_02 (fun y hy => ⟨0, _, 3, y, _, _, rfl, mg_fS_3 hy⟩) rfl mg_fI_0 hn58) (va_cwS 2 hts gL_act_X7_more rfl rfl rfl (by decide +kernel) ⟨Nat.le_of_ble_eq_true rfl, Nat.le_of_ble_eq_true rfl⟩) (mg_preVv hK hO hA hw) rfl rfl hl.1 rfl (lv_room (Nat.le_of_ble_eq_true rfl)) dL_act_746 ⟨(show 2 + 1 ≤ 9 by omega), (show 10 + 31 ≤ 83 by omega)⟩) hw hA [0, 1, 2] [] rfl (Lr := []) rfl rfl (by decide) (fun β57 H locs hw => ?_)
                  have hw : mg_Vo D A s.heap H locs ([mg_fS o u α ζ, mg_fC g (o 53) (o 54) s54, mg_fI o q56 4 (upd (upd (upd (upd (fun _ => 0) 0 y3) 1 y10) 2 1) 3 0), mg_fQ o (β57 0 0) ((ζ.2 0) + 1) (fun y => some (if y = (ζ.2 0) then q56 else (α 3) y))]) := hw
                  refine mg_vput (ci := 7) (C := RX7) (T := TX7) (N := 6) (ty := (.array (.array .int))) (v := .ref (β57 0 0)) hx hb hts iX7_ tyX7 tyX7_ok nmX7 hown hK hw 0 rfl mg_fS_00 rfl 3 (by decide) w4_ (fun _ h9 => h9) rfl (by decide +kernel) rfl rfl (Nat.le_of_ble_eq_true rfl) dL_act_749 (fun H locs hw => ?_)
                  have hw : mg_Vo D A s.heap H locs ([mg_fC g (o 53) (o 54) s54, mg_fS o u (mg_am α 0 (ζ.2 0) (β57 0 0) q56) (mg_zm ζ 0 (upd (upd (upd (upd (fun _ => 0) 0 y3) 1 y10) 2 1) 3 0))]) := mg_merge0 (L := [mg_fC g (o 53) (o 54) s54]) (mg_Vsub hw [1, 0, 2, 3] rfl rfl)
                  refine lv_aload_n hx hb dL_act_752 rfl (lv_at hl 1 rfl) ?_
                  refine lv_dup hx hb dL_act_753 rfl ?_
                  refine va_get (D := D) (ci := 7) (v := .int ((mg_zm ζ 0 (upd (upd (upd (upd (fun _ => 0) 0 y3) 1 y10) 2 1) 3 0)).1 0 0 1)) (C := RX7) (T := TX7) (N := 6) hx hb hts iX7_ hown hK (mg_at1 hw.1 1 rfl mg_fS_00) 0 rfl rfl 1 (by decide) w2_ (fun _ h9 => h9) rfl dL_act_754 ?_
                  refine lv_iconst (v := 4) hx hb dL_act_757 (by decide) ?_
                  refine lv_isub hx hb dL_act_758 ?_
                  refine mg_vput (ci := 7) (C := RX7) (T := TX7) (N := 6) (ty := .int) (v := .int (((mg_zm ζ 0 (upd (upd (upd (upd (fun _ => 0) 0 y3) 1 y10) 2 1) 3 0)).1 0 0 1) - 4)) hx hb hts iX7_ tyX7 tyX7_ok nmX7 hown hK hw 1 rfl mg_fS_00 rfl 1 (by decide) w2_ (fun _ h9 => h9) rfl (by decide +kernel) rfl rfl (Nat.le_of_ble_eq_true rfl) dL_act_759 (fun H locs hw => ?_)
                  have hw : mg_Vo D A s.heap H locs ([mg_fC g (o 53) (o 54) s54, mg_fS o u (mg_am α 0 (ζ.2 0) (β57 0 0) q56) (mg_zu (mg_zm ζ 0 (upd (upd (upd (upd (fun _ => 0) 0 y3) 1 y10) 2 1) 3 0)) 0 0 1 (((mg_zm ζ 0 (upd (upd (upd (upd (fun _ => 0) 0 y3) 1 y10) 2 1) 3 0)).1 0 0 1) - 4))]) := by rw [← mg_sS_f1]; exact hw
                  refine lv_iconst (v := 1) hx hb dL_act_762 (by decide) ?_
                  cases h
                  exact vx_ret (mg_eZV (mg_am α 0 (ζ.2 0) (β57 0 0) q56) rfl rfl hx hb hr hlocks hw (show 3 ≤ 9 by omega) (show 41 ≤ 83 by omega) dL_act_763)
                · refine lv_iconst (v := 1) hx hb dL_act_715 (by decide) ?_
                  cases h
                  exact vx_ret (mg_eZV α rfl rfl hx hb hr hlocks (mg_Vsub hw [1, 0] rfl rfl) (show 1 ≤ 9 by omega) (show 6 ≤ 83 by omega) dL_act_716)
              · cases h
            clear h
            have h := h9_
            clear h9_
            refine mg_if_eq (tgt := 704) hx hb h dL_act_693 (by decide) (fun h => ?_) (fun h => ?_)
            · refine lv_iconst (v := (-1)) hx hb dL_act_704 (by decide) ?_
              cases h
              exact J693_ H locs ls hw (lv_sub hl [0, 1, 2, 4] rfl)
            · refine lv_aload_n hx hb dL_act_696 rfl (lv_at hl 0 rfl) ?_
              refine va_get (D := D) (ci := 7) (v := .ref (α 0 2)) (C := RX7) (T := TX7) (N := 6) hx hb hts iX7_ hown hK (mg_at1 hw.1 0 rfl mg_fS_00) 0 rfl rfl 3 (by decide) w4_ (fun _ h9 => h9) rfl dL_act_697 ?_
              refine mg_alenq hx hb hK hw 0 2 rfl mg_fS_02 rfl dL_act_700 ?_
              refine lv_goto (tgt := 705) hx hb dL_act_701 (by decide) ?_
              cases h
              exact J693_ H locs ls hw (lv_sub hl [0, 1, 2, 4] rfl)
          refine mg_vxc h (fun v : Int32 => some (.int v)) (fun mc9 ms9 o9 s9 hm9 h9 hc9 hs9 => vx_runV (As := [.int y3, .int y10]) (rest := []) G9 (k_X6_carp l hst D o (o 53) (o 54) g H.size σ y3 y10 o9 s9 h9 mc9 ms9 hm9) (cwV 2 hts gL_act_X6_carp rfl rfl rfl (by decide +kernel) ⟨Nat.le_of_ble_eq_true rfl, Nat.le_of_ble_eq_true rfl⟩) (mg_preV (hK.sub (tys' := [(o 53, .int), (o 54, .boolean)]) [0, 1] rfl) hO hA (mg_C_list hw 0 rfl) (q0 := 0) rfl rfl) rfl rfl hl.1 rfl (lv_room (Nat.le_of_ble_eq_true rfl)) dL_act_676 ⟨hc9, hs9⟩) hw hA 0 [1] rfl (Lr := [mg_fS o u α ζ]) rfl rfl (by decide) (show 0 + 1 ≤ 9 by omega) (show 0 + 6 ≤ 83 by omega) (fun v53 s54 h H locs hw => ?_) (fun s54 h H locs q9 ce hw a1 a2 a3 => ?_)
          · refine lv_istore (lv' := [(6, .int v53), (7, .int y52), (0, .ref (g 0)), (1, .ref u), (3, .int y3), (4, .int y10)]) hx hb dL_act_679 hl (by decide) rfl (fun ls hl => ?_)
            refine lv_goto (tgt := 689) hx hb dL_act_681 (by decide) ?_
            exact J676_ _ _ h H locs ls hw (lv_sub hl [3, 4, 5, 0, 1] rfl)
          · refine vx_catch (own := RL) (name := "java/lang/IllegalStateException") (E := mg_xn 2) hown [⟨214, 227, 230, 31⟩, ⟨329, 338, 341, 31⟩, ⟨419, 428, 431, 31⟩, ⟨563, 572, 575, 31⟩] ⟨672, 681, 684, 31⟩ [⟨821, 829, 832, 31⟩, ⟨919, 932, 935, 31⟩, ⟨1020, 1030, 1033, 31⟩] (htab.trans rfl) (List.forall_mem_cons.mpr ⟨Or.inl (by decide), (List.forall_mem_cons.mpr ⟨Or.inl (by decide), (List.forall_mem_cons.mpr ⟨Or.inl (by decide), (List.forall_mem_cons.mpr ⟨Or.inl (by decide), (fun _ h_ => nomatch h_)⟩)⟩)⟩)⟩) rfl (by decide) (hts (.classLink RL 31 "java/lang/IllegalStateException") (by decide +kernel)) (va_Nw.use rfl (hO.2.2.2.2.2.2.2.2.2.2.2.2.2.1)) a1 a2 a3 ?_
            refine lv_astore (lv' := [(8, .ref q9), (7, .int y52), (0, .ref (g 0)), (1, .ref u), (3, .int y3), (4, .int y10)]) hx hb dL_act_684 hl (by decide) rfl (fun ls hl => ?_)
            refine lv_iconst (v := (-1)) hx hb dL_act_686 (by decide) ?_
            refine lv_istore (lv' := [(6, .int (-1)), (8, .ref q9), (7, .int y52), (0, .ref (g 0)), (1, .ref u), (3, .int y3), (4, .int y10)]) hx hb dL_act_687 hl (by decide) rfl (fun ls hl => ?_)
            exact J676_ _ _ h H locs ls hw (lv_sub hl [4, 5, 6, 0, 2] rfl)
        clear h
        have h := h9_
        clear h9_
        refine mg_icmp_ne (tgt := 669) hx hb h dL_act_644 (by decide) (fun h => ?_) (fun h => ?_)
        · refine lv_iconst (v := 0) hx hb dL_act_669 (by decide) ?_
          cases h
          exact J644_ H locs ls hw (lv_sub hl [2, 3, 5, 1] rfl)
        · refine lv_aload_n hx hb dL_act_647 rfl (lv_at hl 3 rfl) ?_
          refine va_get (D := D) (ci := 7) (v := .int (ζ.1 0 0 1)) (C := RX7) (T := TX7) (N := 6) hx hb hts iX7_ hown hK (mg_at1 hw.1 1 rfl mg_fS_00) 0 rfl rfl 1 (by decide) w2_ (fun _ h9 => h9) rfl dL_act_648 ?_
          refine lv_iconst (v := 3) hx hb dL_act_651 (by decide) ?_
          refine mg_icmp_le (tgt := 669) hx hb h dL_act_652 (by decide) (fun h => ?_) (fun h => ?_)
          · refine lv_iconst (v := 0) hx hb dL_act_669 (by decide) ?_
            cases h
            exact J644_ H locs ls hw (lv_sub hl [2, 3, 5, 1] rfl)
          · refine lv_aload_n hx hb dL_act_655 rfl (lv_at hl 3 rfl) ?_
            refine va_get (D := D) (ci := 7) (v := .ref (α 0 2)) (C := RX7) (T := TX7) (N := 6) hx hb hts iX7_ hown hK (mg_at1 hw.1 1 rfl mg_fS_00) 0 rfl rfl 3 (by decide) w4_ (fun _ h9 => h9) rfl dL_act_656 ?_
            refine mg_alenq hx hb hK hw 1 2 rfl mg_fS_02 rfl dL_act_659 ?_
            refine lv_bipush (v := 30) hx hb dL_act_660 (by decide) ?_
            refine mg_icmp_ge (tgt := 669) hx hb h dL_act_662 (by decide) (fun h => ?_) (fun h => ?_)
            · refine lv_iconst (v := 0) hx hb dL_act_669 (by decide) ?_
              cases h
              exact J644_ H locs ls hw (lv_sub hl [2, 3, 5, 1] rfl)
            · refine lv_iconst (v := 1) hx hb dL_act_665 (by decide) ?_
              refine lv_goto (tgt := 670) hx hb dL_act_666 (by decide) ?_
              cases h
              exact J644_ H locs ls hw (lv_sub hl [2, 3, 5, 1] rfl)
      have K764_ : f_L_act_764 σ ζ x2 = some y → W p l e (headSpec wsL_act ({ frames := 8, cells := 9, slots := 83, locals := 162 } : Room)).room s m ([.ref (g 0), .ref u, .int x2] : List Value).toArray below meth c H locs 0 0 (vx_MQ below (mg_QV D (fun β => [mg_fC g (o 53) (o 54) y.1, mg_fS o u β y.2]) A (fun _ => some (.int 1))) (fun _ _ _ => False) ([.ref (g 0), .ref u, .int x2] : List Value).toArray s 9 83 A) (F0 m 764 ls []) := by
        intro h
        unfold f_L_act_764 at h
        refine lv_aload_n hx hb dL_act_764 rfl (lv_at hl 3 rfl) ?_
        refine va_get (D := D) (ci := 7) (v := .ref (α 0 2)) (C := RX7) (T := TX7) (N := 6) hx hb hts iX7_ hown hK (mg_at1 hw.1 1 rfl mg_fS_00) 0 rfl rfl 3 (by decide) w4_ (fun _ h9 => h9) rfl dL_act_765 ?_
        refine mg_alenq hx hb hK hw 1 2 rfl mg_fS_02 rfl dL_act_768 ?_
        refine mg_if_eq (tgt := 783) hx hb h dL_act_769 (by decide) (fun h => ?_) (fun h => ?_)
        · refine lv_iconst (v := 1) hx hb dL_act_783 (by decide) ?_
          cases h
          exact vx_ret (mg_eZV α rfl rfl hx hb hr hlocks hw (show 0 ≤ 9 by omega) (show 0 ≤ 83 by omega) dL_act_784)
        · refine lv_iload_n hx hb dL_act_772 rfl (lv_at hl 4 rfl) ?_
          refine lv_bipush (v := 7) hx hb dL_act_773 (by decide) ?_
          refine lv_ishr hx hb dL_act_775 ?_
          refine lv_iconst (v := 3) hx hb dL_act_776 (by decide) ?_
          obtain ⟨y59, h9_, h⟩ := mg_bind h
          refine mg_callV (va_runS (As := [.int (x2 >>> (7 &&& 31)), .int 3]) (rest := []) G9 (k_L_below l D o  H.size (x2 >>> (7 &&& 31)) 3 y59 h9_) (va_cwS 2 hts gL_act_L_below rfl rfl rfl (by decide +kernel) ⟨Nat.le_of_ble_eq_true rfl, Nat.le_of_ble_eq_true rfl⟩) (mg_preVv hK hO hA (mg_Vsub (L' := []) hw [] rfl rfl)) rfl rfl hl.1 rfl (lv_room (Nat.le_of_ble_eq_true rfl)) dL_act_777 ⟨(show 0 + 0 ≤ 9 by omega), (show 0 + 0 ≤ 83 by omega)⟩) hw hA [] [0, 1] rfl (Lr := [mg_fC g (o 53) (o 54) σ, mg_fS o u α ζ]) rfl rfl (by decide) (fun β60 H locs hw => ?_)
          clear h9_
          have hw : mg_Vo D A s.heap H locs ([mg_fC g (o 53) (o 54) σ, mg_fS o u α ζ]) := hw
          refine mg_if_le (tgt := 785) hx hb h dL_act_780 (by decide) (fun h => ?_) (fun h => ?_)
          · refine lv_iload_n hx hb dL_act_785 rfl (lv_at hl 4 rfl) ?_
            refine lv_iconst (v := 4) hx hb dL_act_786 (by decide) ?_
            refine lv_ishr hx hb dL_act_787 ?_
            refine lv_aload_n hx hb dL_act_788 rfl (lv_at hl 3 rfl) ?_
            refine va_get (D := D) (ci := 7) (v := .ref (α 0 2)) (C := RX7) (T := TX7) (N := 6) hx hb hts iX7_ hown hK (mg_at1 hw.1 1 rfl mg_fS_00) 0 rfl rfl 3 (by decide) w4_ (fun _ h9 => h9) rfl dL_act_789 ?_
            refine mg_alenq hx hb hK hw 1 2 rfl mg_fS_02 rfl dL_act_792 ?_
            obtain ⟨y61, h9_, h⟩ := mg_bind h
            refine mg_callV (va_runS (As := [.int (x2 >>> (4 &&& 31)), .int (nI (ζ.2 0))]) (rest := []) G9 (k_L_below l D o  H.size (x2 >>> (4 &&& 31)) (nI (ζ.2 0)) y61 h9_) (va_cwS 2 hts gL_act_L_below rfl rfl rfl (by decide +kernel) ⟨Nat.le_of_ble_eq_true rfl, Nat.le_of_ble_eq_true rfl⟩) (mg_preVv hK hO hA (mg_Vsub (L' := []) hw [] rfl rfl)) rfl rfl hl.1 rfl (lv_room (Nat.le_of_ble_eq_true rfl)) dL_act_793 ⟨(show 0 + 0 ≤ 9 by omega), (show 0 + 0 ≤ 83 by omega)⟩) hw hA [] [0, 1] rfl (Lr := [mg_fC g (o 53) (o 54) σ, mg_fS o u α ζ]) rfl rfl (by decide) (fun β62 H locs hw => ?_)
            clear h9_
            have hw : mg_Vo D A s.heap H locs ([mg_fC g (o 53) (o 54) σ, mg_fS o u α ζ]) := hw
            refine lv_istore (lv' := [(7, .int y61), (5, .ref (α 2 (10 * j15 + j16))), (4, .int y10), (0, .ref (g 0)), (1, .ref u), (2, .int x2), (3, .int y3)]) hx hb dL_act_796 hl (by decide) rfl (fun ls hl => ?_)
            refine lv_aload_n hx hb dL_act_798 rfl (lv_at hl 4 rfl) ?_
            refine va_get (D := D) (ci := 7) (v := .ref (α 0 2)) (C := RX7) (T := TX7) (N := 6) hx hb hts iX7_ hown hK (mg_at1 hw.1 1 rfl mg_fS_00) 0 rfl rfl 3 (by decide) w4_ (fun _ h9 => h9) rfl dL_act_799 ?_
            refine lv_iload hx hb dL_act_802 (lv_at hl 0 rfl) ?_
            refine mg_aal hx hb hK hw 1 2 rfl mg_fS_02 rfl rfl h dL_act_804 (fun j63 hj63_ h => ?_)
            refine lv_astore (lv' := [(8, .ref (α 3 j63)), (7, .int y61), (5, .ref (α 2 (10 * j15 + j16))), (4, .int y10), (0, .ref (g 0)), (1, .ref u), (2, .int x2), (3, .int y3)]) hx hb dL_act_805 hl (by decide) rfl (fun ls hl => ?_)
            refine lv_aload hx hb dL_act_807 (lv_at hl 0 rfl) ?_
            refine lv_iconst (v := 3) hx hb dL_act_809 (by decide) ?_
            refine mg_ial (x := 3) hx hb hK hw 1 rfl (mg_fS_3 hj63_) (by unfold vp_in; decide) (by decide) dL_act_810 ?_
            obtain ⟨y64, h9_, h⟩ := mg_bind h
            have J811_ : ∀ (H : Heap) (locs : List Loc) (ls : Array Slot), mg_Vo D A s.heap H locs ([mg_fC g (o 53) (o 54) σ, mg_fS o u α ζ]) → lv_has ls 12 [(0, .ref (g 0)), (1, .ref u), (7, .int y61), (8, .ref (α 3 j63))] → W p l e (headSpec wsL_act ({ frames := 8, cells := 9, slots := 83, locals := 162 } : Room)).room s m ([.ref (g 0), .ref u, .int x2] : List Value).toArray below meth c H locs 0 0 (vx_MQ below (mg_QV D (fun β => [mg_fC g (o 53) (o 54) y.1, mg_fS o u β y.2]) A (fun _ => some (.int 1))) (fun _ _ _ => False) ([.ref (g 0), .ref u, .int x2] : List Value).toArray s 9 83 A) (F0 m 819 ls [.int y64]) := by
              intro H locs ls hw hl
              clear h9_
              refine lv_istore (lv' := [(9, .int y64), (0, .ref (g 0)), (1, .ref u), (7, .int y61), (8, .ref (α 3 j63))]) hx hb dL_act_819 hl (by decide) rfl (fun ls hl => ?_)
              refine lv_aload_n hx hb dL_act_821 rfl (lv_at hl 1 rfl) ?_
              refine lv_iload hx hb dL_act_822 (lv_at hl 3 rfl) ?_
              have J824_ : ∀ (v65 : Int32) (s66 : mg_St), (fun (v65 : Int32) (s66 : mg_St) => ((Option.bind (if y64 = 0 then some ζ else some (mg_zu (mg_zu ζ 3 j63 3 1) 0 0 1 (((mg_zu ζ 3 j63 3 1).1 0 0 1) + (((((mg_zu ζ 3 j63 3 1).1 3 j63) 2) / 2) + 1)))) fun (y67 : mg_Sz) => (if y64 = 0 then (if v65 = (-1) then some (s66, y67) else none) else (if v65 = (y67.1 0 0 1) then some (s66, y67) else none))))) v65 s66 = some y → ∀ (H : Heap) (locs : List Loc) (ls : Array Slot), mg_Vo D A s.heap H locs ([mg_fS o u α ζ, mg_fC g (o 53) (o 54) s66]) → lv_has ls 12 [(1, .ref u), (6, .int v65), (8, .ref (α 3 j63)), (9, .int y64)] → W p l e (headSpec wsL_act ({ frames := 8, cells := 9, slots := 83, locals := 162 } : Room)).room s m ([.ref (g 0), .ref u, .int x2] : List Value).toArray below meth c H locs 1 6 (vx_MQ below (mg_QV D (fun β => [mg_fC g (o 53) (o 54) y.1, mg_fS o u β y.2]) A (fun _ => some (.int 1))) (fun _ _ _ => False) ([.ref (g 0), .ref u, .int x2] : List Value).toArray s 9 83 A) (F0 m 837 ls []) := by
                intro v65 s66 h H locs ls hw hl
                refine lv_iload hx hb dL_act_837 (lv_at hl 3 rfl) ?_
                obtain ⟨y67, h9_, h⟩ := mg_bind h
                have J839_ : ∀ (H : Heap) (locs : List Loc) (ls : Array Slot), mg_Vo D A s.heap H locs ([mg_fS o u α y67, mg_fC g (o 53) (o 54) s66]) → lv_has ls 12 [(1, .ref u), (6, .int v65), (9, .int y64)] → W p l e (headSpec wsL_act ({ frames := 8, cells := 9, slots := 83, locals := 162 } : Room)).room s m ([.ref (g 0), .ref u, .int x2] : List Value).toArray below meth c H locs 1 6 (vx_MQ below (mg_QV D (fun β => [mg_fC g (o 53) (o 54) y.1, mg_fS o u β y.2]) A (fun _ => some (.int 1))) (fun _ _ _ => False) ([.ref (g 0), .ref u, .int x2] : List Value).toArray s 9 83 A) (F0 m 864 ls []) := by
                  intro H locs ls hw hl
                  clear h9_
                  refine lv_iload hx hb dL_act_864 (lv_at hl 1 rfl) ?_
                  refine lv_iload hx hb dL_act_866 (lv_at hl 2 rfl) ?_
                  refine mg_if_eq (tgt := 878) hx hb h dL_act_868 (by decide) (fun h => ?_) (fun h => ?_)
                  · refine lv_iconst (v := (-1)) hx hb dL_act_878 (by decide) ?_
                    refine mg_icmp_ne (tgt := 886) hx hb h dL_act_879 (by decide) (fun h => ?_) (fun h => ?_)
                    · cases h
                    · refine lv_iconst (v := 1) hx hb dL_act_882 (by decide) ?_
                      refine lv_goto (tgt := 887) hx hb dL_act_883 (by decide) ?_
                      cases h
                      exact vx_ret (mg_eZV α rfl rfl hx hb hr hlocks (mg_Vsub hw [1, 0] rfl rfl) (show 1 ≤ 9 by omega) (show 6 ≤ 83 by omega) dL_act_887)
                  · refine lv_aload_n hx hb dL_act_871 rfl (lv_at hl 0 rfl) ?_
                    refine va_get (D := D) (ci := 7) (v := .int (y67.1 0 0 1)) (C := RX7) (T := TX7) (N := 6) hx hb hts iX7_ hown hK (mg_at1 hw.1 0 rfl mg_fS_00) 0 rfl rfl 1 (by decide) w2_ (fun _ h9 => h9) rfl dL_act_872 ?_
                    refine lv_goto (tgt := 879) hx hb dL_act_875 (by decide) ?_
                    refine mg_icmp_ne (tgt := 886) hx hb h dL_act_879 (by decide) (fun h => ?_) (fun h => ?_)
                    · cases h
                    · refine lv_iconst (v := 1) hx hb dL_act_882 (by decide) ?_
                      refine lv_goto (tgt := 887) hx hb dL_act_883 (by decide) ?_
                      cases h
                      exact vx_ret (mg_eZV α rfl rfl hx hb hr hlocks (mg_Vsub hw [1, 0] rfl rfl) (show 1 ≤ 9 by omega) (show 6 ≤ 83 by omega) dL_act_887)
                clear h
                have h := h9_
                clear h9_
                refine mg_if_eq (tgt := 864) hx hb h dL_act_839 (by decide) (fun h => ?_) (fun h => ?_)
                · cases h
                  exact J839_ H locs ls hw (lv_sub hl [0, 1, 3] rfl)
                · refine lv_aload hx hb dL_act_842 (lv_at hl 2 rfl) ?_
                  refine lv_iconst (v := 3) hx hb dL_act_844 (by decide) ?_
                  refine lv_iconst (v := 1) hx hb dL_act_845 (by decide) ?_
                  refine mg_iasx (x := 3) (F' := mg_fS o u α (mg_zu ζ 3 j63 3 1)) hx hb hK hw 0 rfl (mg_fS_3 hj63_) (by unfold vp_in; decide) (by decide) (mg_sS_3 hj63_) dL_act_846 (fun H locs hw => ?_)
                  refine lv_aload_n hx hb dL_act_847 rfl (lv_at hl 0 rfl) ?_
                  refine lv_dup hx hb dL_act_848 rfl ?_
                  refine va_get (D := D) (ci := 7) (v := .int ((mg_zu ζ 3 j63 3 1).1 0 0 1)) (C := RX7) (T := TX7) (N := 6) hx hb hts iX7_ hown hK (mg_at1 hw.1 0 rfl mg_fS_00) 0 rfl rfl 1 (by decide) w2_ (fun _ h9 => h9) rfl dL_act_849 ?_
                  refine lv_aload hx hb dL_act_852 (lv_at hl 2 rfl) ?_
                  refine lv_iconst (v := 2) hx hb dL_act_854 (by decide) ?_
                  refine mg_ial (x := 2) hx hb hK hw 0 rfl (mg_fS_3 hj63_) (by unfold vp_in; decide) (by decide) dL_act_855 ?_
                  refine lv_iconst (v := 2) hx hb dL_act_856 (by decide) ?_
                  refine lv_idiv hx hb dL_act_857 (by decide) ?_
                  refine lv_iconst (v := 1) hx hb dL_act_858 (by decide) ?_
                  refine lv_iadd hx hb dL_act_859 ?_
                  refine lv_iadd hx hb dL_act_860 ?_
                  refine mg_vput (ci := 7) (C := RX7) (T := TX7) (N := 6) (ty := .int) (v := .int (((mg_zu ζ 3 j63 3 1).1 0 0 1) + (((((mg_zu ζ 3 j63 3 1).1 3 j63) 2) / 2) + 1))) hx hb hts iX7_ tyX7 tyX7_ok nmX7 hown hK hw 0 rfl mg_fS_00 rfl 1 (by decide) w2_ (fun _ h9 => h9) rfl (by decide +kernel) rfl rfl (Nat.le_of_ble_eq_true rfl) dL_act_861 (fun H locs hw => ?_)
                  have hw : mg_Vo D A s.heap H locs ([mg_fS o u α (mg_zu (mg_zu ζ 3 j63 3 1) 0 0 1 (((mg_zu ζ 3 j63 3 1).1 0 0 1) + (((((mg_zu ζ 3 j63 3 1).1 3 j63) 2) / 2) + 1))), mg_fC g (o 53) (o 54) s66]) := by rw [← mg_sS_f1]; exact hw
                  cases h
                  exact J839_ H locs ls hw (lv_sub hl [0, 1, 3] rfl)
              refine mg_vxc h (fun v : Int32 => some (.int v)) (fun mc9 ms9 o9 s9 hm9 h9 hc9 hs9 => vx_runV (As := [.int y61]) (rest := []) G9 (k_X6_sell l hst D o (o 53) (o 54) g H.size σ y61 o9 s9 h9 mc9 ms9 hm9) (cwV 1 hts gL_act_X6_sell rfl rfl rfl (by decide +kernel) ⟨Nat.le_of_ble_eq_true rfl, Nat.le_of_ble_eq_true rfl⟩) (mg_preV (hK.sub (tys' := [(o 53, .int), (o 54, .boolean)]) [0, 1] rfl) hO hA (mg_C_list hw 0 rfl) (q0 := 0) rfl rfl) rfl rfl hl.1 rfl (lv_room (Nat.le_of_ble_eq_true rfl)) dL_act_824 ⟨hc9, hs9⟩) hw hA 0 [1] rfl (Lr := [mg_fS o u α ζ]) rfl rfl (by decide) (show 0 + 1 ≤ 9 by omega) (show 0 + 6 ≤ 83 by omega) (fun v65 s66 h H locs hw => ?_) (fun s66 h H locs q9 ce hw a1 a2 a3 => ?_)
              · refine lv_istore (lv' := [(6, .int v65), (9, .int y64), (0, .ref (g 0)), (1, .ref u), (7, .int y61), (8, .ref (α 3 j63))]) hx hb dL_act_827 hl (by decide) rfl (fun ls hl => ?_)
                refine lv_goto (tgt := 837) hx hb dL_act_829 (by decide) ?_
                exact J824_ _ _ h H locs ls hw (lv_sub hl [3, 0, 5, 1] rfl)
              · refine vx_catch (own := RL) (name := "java/lang/IllegalStateException") (E := mg_xn 2) hown [⟨214, 227, 230, 31⟩, ⟨329, 338, 341, 31⟩, ⟨419, 428, 431, 31⟩, ⟨563, 572, 575, 31⟩, ⟨672, 681, 684, 31⟩] ⟨821, 829, 832, 31⟩ [⟨919, 932, 935, 31⟩, ⟨1020, 1030, 1033, 31⟩] (htab.trans rfl) (List.forall_mem_cons.mpr ⟨Or.inl (by decide), (List.forall_mem_cons.mpr ⟨Or.inl (by decide), (List.forall_mem_cons.mpr ⟨Or.inl (by decide), (List.forall_mem_cons.mpr ⟨Or.inl (by decide), (List.forall_mem_cons.mpr ⟨Or.inl (by decide), (fun _ h_ => nomatch h_)⟩)⟩)⟩)⟩)⟩) rfl (by decide) (hts (.classLink RL 31 "java/lang/IllegalStateException") (by decide +kernel)) (va_Nw.use rfl (hO.2.2.2.2.2.2.2.2.2.2.2.2.2.1)) a1 a2 a3 ?_
                refine lv_astore (lv' := [(10, .ref q9), (9, .int y64), (0, .ref (g 0)), (1, .ref u), (7, .int y61), (8, .ref (α 3 j63))]) hx hb dL_act_832 hl (by decide) rfl (fun ls hl => ?_)
                refine lv_iconst (v := (-1)) hx hb dL_act_834 (by decide) ?_
                refine lv_istore (lv' := [(6, .int (-1)), (10, .ref q9), (9, .int y64), (0, .ref (g 0)), (1, .ref u), (7, .int y61), (8, .ref (α 3 j63))]) hx hb dL_act_835 hl (by decide) rfl (fun ls hl => ?_)
                exact J824_ _ _ h H locs ls hw (lv_sub hl [4, 0, 6, 2] rfl)
            clear h
            have h := h9_
            clear h9_
            refine mg_if_ne (tgt := 818) hx hb h dL_act_811 (by decide) (fun h => ?_) (fun h => ?_)
            · refine lv_iconst (v := 0) hx hb dL_act_818 (by decide) ?_
              cases h
              exact J811_ H locs ls hw (lv_sub hl [4, 5, 1, 0] rfl)
            · refine lv_iconst (v := 1) hx hb dL_act_814 (by decide) ?_
              refine lv_goto (tgt := 819) hx hb dL_act_815 (by decide) ?_
              cases h
              exact J811_ H locs ls hw (lv_sub hl [4, 5, 1, 0] rfl)
          · refine lv_iconst (v := 1) hx hb dL_act_783 (by decide) ?_
            cases h
            exact vx_ret (mg_eZV α rfl rfl hx hb hr hlocks hw (show 0 ≤ 9 by omega) (show 0 ≤ 83 by omega) dL_act_784)
      have K888_ : f_L_act_888 σ ζ x2 y3 y10 = some y → W p l e (headSpec wsL_act ({ frames := 8, cells := 9, slots := 83, locals := 162 } : Room)).room s m ([.ref (g 0), .ref u, .int x2] : List Value).toArray below meth c H locs 0 0 (vx_MQ below (mg_QV D (fun β => [mg_fC g (o 53) (o 54) y.1, mg_fS o u β y.2]) A (fun _ => some (.int 1))) (fun _ _ _ => False) ([.ref (g 0), .ref u, .int x2] : List Value).toArray s 9 83 A) (F0 m 888 ls []) := by
        intro h
        unfold f_L_act_888 at h
        refine lv_iconst (v := 3) hx hb dL_act_888 (by decide) ?_
        refine mg_vnewI (n := 3) (N := 3) (B := 3) hx hb w3_ hK hw hA (by decide) rfl (Nat.le_refl _) (Nat.le_of_ble_eq_true rfl) (show 0 + 1 ≤ 9 by omega) (show 0 + 3 ≤ 83 by omega) dL_act_889 (fun q68 H hw => ?_)
        refine lv_dup hx hb dL_act_891 rfl ?_
        refine lv_iconst (v := 0) hx hb dL_act_892 (by decide) ?_
        refine lv_iload_n hx hb dL_act_893 rfl (lv_at hl 5 rfl) ?_
        refine mg_iasx (x := 0) (F' := mg_fI o q68 3 (upd (fun _ => 0) 0 y3)) hx hb hK hw 2 rfl mg_fI_0 (by unfold vp_in; decide) (by decide) mg_sI dL_act_894 (fun H locs hw => ?_)
        refine lv_dup hx hb dL_act_895 rfl ?_
        refine lv_iconst (v := 1) hx hb dL_act_896 (by decide) ?_
        refine lv_iload hx hb dL_act_897 (lv_at hl 1 rfl) ?_
        refine mg_iasx (x := 1) (F' := mg_fI o q68 3 (upd (upd (fun _ => 0) 0 y3) 1 y10)) hx hb hK hw 2 rfl mg_fI_0 (by unfold vp_in; decide) (by decide) mg_sI dL_act_899 (fun H locs hw => ?_)
        refine lv_dup hx hb dL_act_900 rfl ?_
        refine lv_iconst (v := 2) hx hb dL_act_901 (by decide) ?_
        refine lv_iload_n hx hb dL_act_902 rfl (lv_at hl 4 rfl) ?_
        refine lv_iconst (v := 5) hx hb dL_act_903 (by decide) ?_
        refine lv_ishr hx hb dL_act_904 ?_
        refine lv_iconst (v := 4) hx hb dL_act_905 (by decide) ?_
        obtain ⟨y69, h9_, h⟩ := mg_bind h
        refine mg_callV (va_runS (As := [.int (x2 >>> (5 &&& 31)), .int 4]) (rest := [.int 2, .ref q68, .ref q68]) G9 (k_L_below l D o  H.size (x2 >>> (5 &&& 31)) 4 y69 h9_) (va_cwS 2 hts gL_act_L_below rfl rfl rfl (by decide +kernel) ⟨Nat.le_of_ble_eq_true rfl, Nat.le_of_ble_eq_true rfl⟩) (mg_preVv hK hO hA (mg_Vsub (L' := []) hw [] rfl rfl)) rfl rfl hl.1 rfl (lv_room (Nat.le_of_ble_eq_true rfl)) dL_act_906 ⟨(show 1 + 0 ≤ 9 by omega), (show 3 + 0 ≤ 83 by omega)⟩) hw hA [] [0, 1, 2] rfl (Lr := [mg_fC g (o 53) (o 54) σ, mg_fS o u α ζ, mg_fI o q68 3 (upd (upd (fun _ => 0) 0 y3) 1 y10)]) rfl rfl (by decide) (fun β70 H locs hw => ?_)
        clear h9_
        have hw : mg_Vo D A s.heap H locs ([mg_fC g (o 53) (o 54) σ, mg_fS o u α ζ, mg_fI o q68 3 (upd (upd (fun _ => 0) 0 y3) 1 y10)]) := hw
        refine mg_iasx (x := 2) (F' := mg_fI o q68 3 (upd (upd (upd (fun _ => 0) 0 y3) 1 y10) 2 y69)) hx hb hK hw 2 rfl mg_fI_0 (by unfold vp_in; decide) (by decide) mg_sI dL_act_909 (fun H locs hw => ?_)
        refine lv_astore (lv' := [(7, .ref q68), (5, .ref (α 2 (10 * j15 + j16))), (4, .int y10), (0, .ref (g 0)), (1, .ref u), (2, .int x2), (3, .int y3)]) hx hb dL_act_910 hl (by decide) rfl (fun ls hl => ?_)
        refine lv_aload_n hx hb dL_act_912 rfl (lv_at hl 4 rfl) ?_
        refine va_get (D := D) (ci := 7) (v := .ref (α 0 3)) (C := RX7) (T := TX7) (N := 6) hx hb hts iX7_ hown hK (mg_at1 hw.1 1 rfl mg_fS_00) 0 rfl rfl 4 (by decide) w5_ (fun _ h9 => h9) rfl dL_act_913 ?_
        refine mg_alenq hx hb hK hw 1 2 rfl mg_fS_03 rfl dL_act_916 ?_
        refine lv_istore (lv' := [(8, .int (nI (ζ.2 1))), (7, .ref q68), (5, .ref (α 2 (10 * j15 + j16))), (4, .int y10), (0, .ref (g 0)), (1, .ref u), (2, .int x2), (3, .int y3)]) hx hb dL_act_917 hl (by decide) rfl (fun ls hl => ?_)
        refine lv_aload_n hx hb dL_act_919 rfl (lv_at hl 4 rfl) ?_
        refine lv_iload_n hx hb dL_act_920 rfl (lv_at hl 7 rfl) ?_
        refine lv_iload hx hb dL_act_921 (lv_at hl 3 rfl) ?_
        refine lv_aload hx hb dL_act_923 (lv_at hl 1 rfl) ?_
        refine lv_iconst (v := 2) hx hb dL_act_925 (by decide) ?_
        refine mg_ial (x := 2) hx hb hK hw 2 rfl mg_fI_0 (by unfold vp_in; decide) (by decide) dL_act_926 ?_
        have J927_ : ∀ (v71 : Int32) (s72 : mg_St), (fun (v71 : Int32) (s72 : mg_St) => ((Option.bind (if 6 ≤ (nI (ζ.2 1)) then some (-1) else some (nI (ζ.2 1))) fun (y73 : Int32) => (if v71 = y73 then (if v71 < 0 then some (s72, ζ) else (mg_gd ((ζ.2 1) ≤ 30)).bind fun _ => some (s72, (mg_zm ζ 1 (upd (upd (upd (fun _ => 0) 0 y3) 1 y10) 2 y69)))) else none)))) v71 s72 = some y → ∀ (H : Heap) (locs : List Loc) (ls : Array Slot), mg_Vo D A s.heap H locs ([mg_fS o u α ζ, mg_fI o q68 3 (upd (upd (upd (fun _ => 0) 0 y3) 1 y10) 2 y69), mg_fC g (o 53) (o 54) s72]) → lv_has ls 12 [(1, .ref u), (6, .int v71), (7, .ref q68), (8, .int (nI (ζ.2 1)))] → W p l e (headSpec wsL_act ({ frames := 8, cells := 9, slots := 83, locals := 162 } : Room)).room s m ([.ref (g 0), .ref u, .int x2] : List Value).toArray below meth c H locs 2 9 (vx_MQ below (mg_QV D (fun β => [mg_fC g (o 53) (o 54) y.1, mg_fS o u β y.2]) A (fun _ => some (.int 1))) (fun _ _ _ => False) ([.ref (g 0), .ref u, .int x2] : List Value).toArray s 9 83 A) (F0 m 940 ls []) := by
          intro v71 s72 h H locs ls hw hl
          refine lv_iload hx hb dL_act_940 (lv_at hl 1 rfl) ?_
          refine lv_iload hx hb dL_act_942 (lv_at hl 3 rfl) ?_
          refine lv_bipush (v := 6) hx hb dL_act_944 (by decide) ?_
          obtain ⟨y73, h9_, h⟩ := mg_bind h
          have J946_ : ∀ (H : Heap) (locs : List Loc) (ls : Array Slot), mg_Vo D A s.heap H locs ([mg_fS o u α ζ, mg_fI o q68 3 (upd (upd (upd (fun _ => 0) 0 y3) 1 y10) 2 y69), mg_fC g (o 53) (o 54) s72]) → lv_has ls 12 [(1, .ref u), (6, .int v71), (7, .ref q68)] → W p l e (headSpec wsL_act ({ frames := 8, cells := 9, slots := 83, locals := 162 } : Room)).room s m ([.ref (g 0), .ref u, .int x2] : List Value).toArray below meth c H locs 2 9 (vx_MQ below (mg_QV D (fun β => [mg_fC g (o 53) (o 54) y.1, mg_fS o u β y.2]) A (fun _ => some (.int 1))) (fun _ _ _ => False) ([.ref (g 0), .ref u, .int x2] : List Value).toArray s 9 83 A) (F0 m 955 ls [.int y73, .int v71]) := by
            intro H locs ls hw hl
            clear h9_
            refine mg_icmp_eq (tgt := 960) hx hb h dL_act_955 (by decide) (fun h => ?_) (fun h => ?_)
            · refine lv_iload hx hb dL_act_960 (lv_at hl 1 rfl) ?_
              refine mg_if_lt (tgt := 978) hx hb h dL_act_962 (by decide) (fun h => ?_) (fun h => ?_)
              · refine lv_iconst (v := 1) hx hb dL_act_978 (by decide) ?_
                cases h
                exact vx_ret (mg_eZV α rfl rfl hx hb hr hlocks (mg_Vsub hw [2, 0] rfl rfl) (show 2 ≤ 9 by omega) (show 9 ≤ 83 by omega) dL_act_979)
              · refine lv_aload_n hx hb dL_act_965 rfl (lv_at hl 0 rfl) ?_
                refine lv_aload_n hx hb dL_act_966 rfl (lv_at hl 0 rfl) ?_
                refine va_get (D := D) (ci := 7) (v := .ref (α 0 3)) (C := RX7) (T := TX7) (N := 6) hx hb hts iX7_ hown hK (mg_at1 hw.1 0 rfl mg_fS_00) 0 rfl rfl 4 (by decide) w5_ (fun _ h9 => h9) rfl dL_act_967 ?_
                refine lv_aload hx hb dL_act_970 (lv_at hl 2 rfl) ?_
                obtain ⟨y9_, h9_, h⟩ := mg_bind h
                have hn75 := mg_gd_of h9_
                clear h9_ y9_
                refine mg_callV (va_runS (As := [.ref (α 0 3), .ref q68]) (rest := [.ref u]) G9 (k_X7_more l D o [mg_fS o u α ζ, mg_fI o q68 3 (upd (upd (upd (fun _ => 0) 0 y3) 1 y10) 2 y69), mg_fC g (o 53) (o 54) s72] H.size 0 1 rfl mg_fS_03 (fun y hy => ⟨0, _, 4, y, _, _, rfl, mg_fS_4 hy⟩) rfl mg_fI_0 hn75) (va_cwS 2 hts gL_act_X7_more rfl rfl rfl (by decide +kernel) ⟨Nat.le_of_ble_eq_true rfl, Nat.le_of_ble_eq_true rfl⟩) (mg_preVv hK hO hA hw) rfl rfl hl.1 rfl (lv_room (Nat.le_of_ble_eq_true rfl)) dL_act_972 ⟨(show 2 + 1 ≤ 9 by omega), (show 9 + 31 ≤ 83 by omega)⟩) hw hA [0, 1, 2] [] rfl (Lr := []) rfl rfl (by decide) (fun β74 H locs hw => ?_)
                have hw : mg_Vo D A s.heap H locs ([mg_fS o u α ζ, mg_fI o q68 3 (upd (upd (upd (fun _ => 0) 0 y3) 1 y10) 2 y69), mg_fC g (o 53) (o 54) s72, mg_fQ o (β74 0 0) ((ζ.2 1) + 1) (fun y => some (if y = (ζ.2 1) then q68 else (α 4) y))]) := hw
                refine mg_vput (ci := 7) (C := RX7) (T := TX7) (N := 6) (ty := (.array (.array .int))) (v := .ref (β74 0 0)) hx hb hts iX7_ tyX7 tyX7_ok nmX7 hown hK hw 0 rfl mg_fS_00 rfl 4 (by decide) w5_ (fun _ h9 => h9) rfl (by decide +kernel) rfl rfl (Nat.le_of_ble_eq_true rfl) dL_act_975 (fun H locs hw => ?_)
                have hw : mg_Vo D A s.heap H locs ([mg_fC g (o 53) (o 54) s72, mg_fS o u (mg_am α 1 (ζ.2 1) (β74 0 0) q68) (mg_zm ζ 1 (upd (upd (upd (fun _ => 0) 0 y3) 1 y10) 2 y69))]) := mg_merge1 (L := [mg_fC g (o 53) (o 54) s72]) (mg_Vsub hw [2, 0, 1, 3] rfl rfl)
                refine lv_iconst (v := 1) hx hb dL_act_978 (by decide) ?_
                cases h
                exact vx_ret (mg_eZV (mg_am α 1 (ζ.2 1) (β74 0 0) q68) rfl rfl hx hb hr hlocks hw (show 3 ≤ 9 by omega) (show 40 ≤ 83 by omega) dL_act_979)
            · cases h
          clear h
          have h := h9_
          clear h9_
          refine mg_icmp_ge (tgt := 954) hx hb h dL_act_946 (by decide) (fun h => ?_) (fun h => ?_)
          · refine lv_iconst (v := (-1)) hx hb dL_act_954 (by decide) ?_
            cases h
            exact J946_ H locs ls hw (lv_sub hl [0, 1, 2] rfl)
          · refine lv_iload hx hb dL_act_949 (lv_at hl 3 rfl) ?_
            refine lv_goto (tgt := 955) hx hb dL_act_951 (by decide) ?_
            cases h
            exact J946_ H locs ls hw (lv_sub hl [0, 1, 2] rfl)
        refine mg_vxc h (fun v : Int32 => some (.int v)) (fun mc9 ms9 o9 s9 hm9 h9 hc9 hs9 => vx_runV (As := [.int y3, .int y10, .int ((upd (upd (upd (fun _ => 0) 0 y3) 1 y10) 2 y69) 2)]) (rest := []) G9 (k_X6_gate l hst D o (o 53) (o 54) g H.size σ y3 y10 ((upd (upd (upd (fun _ => 0) 0 y3) 1 y10) 2 y69) 2) o9 s9 h9 mc9 ms9 hm9) (cwV 3 hts gL_act_X6_gate rfl rfl rfl (by decide +kernel) ⟨Nat.le_of_ble_eq_true rfl, Nat.le_of_ble_eq_true rfl⟩) (mg_preV (hK.sub (tys' := [(o 53, .int), (o 54, .boolean)]) [0, 1] rfl) hO hA (mg_C_list hw 0 rfl) (q0 := 0) rfl rfl) rfl rfl hl.1 rfl (lv_room (Nat.le_of_ble_eq_true rfl)) dL_act_927 ⟨hc9, hs9⟩) hw hA 0 [1, 2] rfl (Lr := [mg_fS o u α ζ, mg_fI o q68 3 (upd (upd (upd (fun _ => 0) 0 y3) 1 y10) 2 y69)]) rfl rfl (by decide) (show 1 + 1 ≤ 9 by omega) (show 3 + 6 ≤ 83 by omega) (fun v71 s72 h H locs hw => ?_) (fun s72 h H locs q9 ce hw a1 a2 a3 => ?_)
        · refine lv_istore (lv' := [(6, .int v71), (8, .int (nI (ζ.2 1))), (7, .ref q68), (5, .ref (α 2 (10 * j15 + j16))), (4, .int y10), (0, .ref (g 0)), (1, .ref u), (2, .int x2), (3, .int y3)]) hx hb dL_act_930 hl (by decide) rfl (fun ls hl => ?_)
          refine lv_goto (tgt := 940) hx hb dL_act_932 (by decide) ?_
          exact J927_ _ _ h H locs ls hw (lv_sub hl [6, 0, 2, 1] rfl)
        · refine vx_catch (own := RL) (name := "java/lang/IllegalStateException") (E := mg_xn 2) hown [⟨214, 227, 230, 31⟩, ⟨329, 338, 341, 31⟩, ⟨419, 428, 431, 31⟩, ⟨563, 572, 575, 31⟩, ⟨672, 681, 684, 31⟩, ⟨821, 829, 832, 31⟩] ⟨919, 932, 935, 31⟩ [⟨1020, 1030, 1033, 31⟩] (htab.trans rfl) (List.forall_mem_cons.mpr ⟨Or.inl (by decide), (List.forall_mem_cons.mpr ⟨Or.inl (by decide), (List.forall_mem_cons.mpr ⟨Or.inl (by decide), (List.forall_mem_cons.mpr ⟨Or.inl (by decide), (List.forall_mem_cons.mpr ⟨Or.inl (by decide), (List.forall_mem_cons.mpr ⟨Or.inl (by decide), (fun _ h_ => nomatch h_)⟩)⟩)⟩)⟩)⟩)⟩) rfl (by decide) (hts (.classLink RL 31 "java/lang/IllegalStateException") (by decide +kernel)) (va_Nw.use rfl (hO.2.2.2.2.2.2.2.2.2.2.2.2.2.1)) a1 a2 a3 ?_
          refine lv_astore (lv' := [(9, .ref q9), (8, .int (nI (ζ.2 1))), (7, .ref q68), (5, .ref (α 2 (10 * j15 + j16))), (4, .int y10), (0, .ref (g 0)), (1, .ref u), (2, .int x2), (3, .int y3)]) hx hb dL_act_935 hl (by decide) rfl (fun ls hl => ?_)
          refine lv_iconst (v := (-1)) hx hb dL_act_937 (by decide) ?_
          refine lv_istore (lv' := [(6, .int (-1)), (9, .ref q9), (8, .int (nI (ζ.2 1))), (7, .ref q68), (5, .ref (α 2 (10 * j15 + j16))), (4, .int y10), (0, .ref (g 0)), (1, .ref u), (2, .int x2), (3, .int y3)]) hx hb dL_act_938 hl (by decide) rfl (fun ls hl => ?_)
          exact J927_ _ _ h H locs ls hw (lv_sub hl [7, 0, 3, 2] rfl)
      have K980_ : f_L_act_980 σ ζ x2 = some y → W p l e (headSpec wsL_act ({ frames := 8, cells := 9, slots := 83, locals := 162 } : Room)).room s m ([.ref (g 0), .ref u, .int x2] : List Value).toArray below meth c H locs 0 0 (vx_MQ below (mg_QV D (fun β => [mg_fC g (o 53) (o 54) y.1, mg_fS o u β y.2]) A (fun _ => some (.int 1))) (fun _ _ _ => False) ([.ref (g 0), .ref u, .int x2] : List Value).toArray s 9 83 A) (F0 m 980 ls []) := by
        intro h
        unfold f_L_act_980 at h
        refine lv_aload_n hx hb dL_act_980 rfl (lv_at hl 3 rfl) ?_
        refine va_get (D := D) (ci := 7) (v := .ref (α 0 3)) (C := RX7) (T := TX7) (N := 6) hx hb hts iX7_ hown hK (mg_at1 hw.1 1 rfl mg_fS_00) 0 rfl rfl 4 (by decide) w5_ (fun _ h9 => h9) rfl dL_act_981 ?_
        refine mg_alenq hx hb hK hw 1 2 rfl mg_fS_03 rfl dL_act_984 ?_
        refine mg_if_ne (tgt := 990) hx hb h dL_act_985 (by decide) (fun h => ?_) (fun h => ?_)
        · refine lv_iconst (v := 2) hx hb dL_act_990 (by decide) ?_
          refine mg_vnewI (n := 2) (N := 2) (B := 2) hx hb w3_ hK hw hA (by decide) rfl (Nat.le_refl _) (Nat.le_of_ble_eq_true rfl) (show 0 + 1 ≤ 9 by omega) (show 0 + 2 ≤ 83 by omega) dL_act_991 (fun q76 H hw => ?_)
          refine lv_dup hx hb dL_act_993 rfl ?_
          refine lv_iconst (v := 0) hx hb dL_act_994 (by decide) ?_
          refine lv_iload_n hx hb dL_act_995 rfl (lv_at hl 4 rfl) ?_
          refine lv_iconst (v := 4) hx hb dL_act_996 (by decide) ?_
          refine lv_ishr hx hb dL_act_997 ?_
          refine lv_aload_n hx hb dL_act_998 rfl (lv_at hl 3 rfl) ?_
          refine va_get (D := D) (ci := 7) (v := .ref (α 0 3)) (C := RX7) (T := TX7) (N := 6) hx hb hts iX7_ hown hK (mg_at1 hw.1 1 rfl mg_fS_00) 0 rfl rfl 4 (by decide) w5_ (fun _ h9 => h9) rfl dL_act_999 ?_
          refine mg_alenq hx hb hK hw 1 2 rfl mg_fS_03 rfl dL_act_1002 ?_
          obtain ⟨y77, h9_, h⟩ := mg_bind h
          refine mg_callV (va_runS (As := [.int (x2 >>> (4 &&& 31)), .int (nI (ζ.2 1))]) (rest := [.int 0, .ref q76, .ref q76]) G9 (k_L_below l D o  H.size (x2 >>> (4 &&& 31)) (nI (ζ.2 1)) y77 h9_) (va_cwS 2 hts gL_act_L_below rfl rfl rfl (by decide +kernel) ⟨Nat.le_of_ble_eq_true rfl, Nat.le_of_ble_eq_true rfl⟩) (mg_preVv hK hO hA (mg_Vsub (L' := []) hw [] rfl rfl)) rfl rfl hl.1 rfl (lv_room (Nat.le_of_ble_eq_true rfl)) dL_act_1003 ⟨(show 1 + 0 ≤ 9 by omega), (show 2 + 0 ≤ 83 by omega)⟩) hw hA [] [0, 1, 2] rfl (Lr := [mg_fC g (o 53) (o 54) σ, mg_fS o u α ζ, mg_fI o q76 2 (fun _ => 0)]) rfl rfl (by decide) (fun β78 H locs hw => ?_)
          clear h9_
          have hw : mg_Vo D A s.heap H locs ([mg_fC g (o 53) (o 54) σ, mg_fS o u α ζ, mg_fI o q76 2 (fun _ => 0)]) := hw
          refine mg_iasx (x := 0) (F' := mg_fI o q76 2 (upd (fun _ => 0) 0 y77)) hx hb hK hw 2 rfl mg_fI_0 (by unfold vp_in; decide) (by decide) mg_sI dL_act_1006 (fun H locs hw => ?_)
          refine lv_dup hx hb dL_act_1007 rfl ?_
          refine lv_iconst (v := 1) hx hb dL_act_1008 (by decide) ?_
          refine lv_iconst (v := 0) hx hb dL_act_1009 (by decide) ?_
          refine mg_iasx (x := 1) (F' := mg_fI o q76 2 (upd (upd (fun _ => 0) 0 y77) 1 0)) hx hb hK hw 2 rfl mg_fI_0 (by unfold vp_in; decide) (by decide) mg_sI dL_act_1010 (fun H locs hw => ?_)
          refine lv_astore (lv' := [(7, .ref q76), (5, .ref (α 2 (10 * j15 + j16))), (4, .int y10), (0, .ref (g 0)), (1, .ref u), (2, .int x2), (3, .int y3)]) hx hb dL_act_1011 hl (by decide) rfl (fun ls hl => ?_)
          refine lv_aload_n hx hb dL_act_1013 rfl (lv_at hl 4 rfl) ?_
          refine va_get (D := D) (ci := 7) (v := .ref (α 0 4)) (C := RX7) (T := TX7) (N := 6) hx hb hts iX7_ hown hK (mg_at1 hw.1 1 rfl mg_fS_00) 0 rfl rfl 5 (by decide) w6_ (fun _ h9 => h9) rfl dL_act_1014 ?_
          refine mg_alenq hx hb hK hw 1 2 rfl mg_fS_04 rfl dL_act_1017 ?_
          refine lv_istore (lv' := [(8, .int (nI (ζ.2 2))), (7, .ref q76), (5, .ref (α 2 (10 * j15 + j16))), (4, .int y10), (0, .ref (g 0)), (1, .ref u), (2, .int x2), (3, .int y3)]) hx hb dL_act_1018 hl (by decide) rfl (fun ls hl => ?_)
          refine lv_aload_n hx hb dL_act_1020 rfl (lv_at hl 4 rfl) ?_
          refine lv_aload hx hb dL_act_1021 (lv_at hl 1 rfl) ?_
          refine lv_iconst (v := 0) hx hb dL_act_1023 (by decide) ?_
          refine mg_ial (x := 0) hx hb hK hw 2 rfl mg_fI_0 (by unfold vp_in; decide) (by decide) dL_act_1024 ?_
          have J1025_ : ∀ (v79 : Int32) (s80 : mg_St), (fun (v79 : Int32) (s80 : mg_St) => ((Option.bind (if 5 ≤ (nI (ζ.2 2)) then some (-1) else some (nI (ζ.2 2))) fun (y81 : Int32) => (if v79 = y81 then (if v79 < 0 then some (s80, ζ) else (mg_gd ((ζ.2 2) ≤ 30)).bind fun _ => some (s80, (mg_zm ζ 2 (upd (upd (fun _ => 0) 0 y77) 1 0)))) else none)))) v79 s80 = some y → ∀ (H : Heap) (locs : List Loc) (ls : Array Slot), mg_Vo D A s.heap H locs ([mg_fS o u α ζ, mg_fI o q76 2 (upd (upd (fun _ => 0) 0 y77) 1 0), mg_fC g (o 53) (o 54) s80]) → lv_has ls 12 [(1, .ref u), (6, .int v79), (7, .ref q76), (8, .int (nI (ζ.2 2)))] → W p l e (headSpec wsL_act ({ frames := 8, cells := 9, slots := 83, locals := 162 } : Room)).room s m ([.ref (g 0), .ref u, .int x2] : List Value).toArray below meth c H locs 2 8 (vx_MQ below (mg_QV D (fun β => [mg_fC g (o 53) (o 54) y.1, mg_fS o u β y.2]) A (fun _ => some (.int 1))) (fun _ _ _ => False) ([.ref (g 0), .ref u, .int x2] : List Value).toArray s 9 83 A) (F0 m 1038 ls []) := by
            intro v79 s80 h H locs ls hw hl
            refine lv_iload hx hb dL_act_1038 (lv_at hl 1 rfl) ?_
            refine lv_iload hx hb dL_act_1040 (lv_at hl 3 rfl) ?_
            refine lv_iconst (v := 5) hx hb dL_act_1042 (by decide) ?_
            obtain ⟨y81, h9_, h⟩ := mg_bind h
            have J1043_ : ∀ (H : Heap) (locs : List Loc) (ls : Array Slot), mg_Vo D A s.heap H locs ([mg_fS o u α ζ, mg_fI o q76 2 (upd (upd (fun _ => 0) 0 y77) 1 0), mg_fC g (o 53) (o 54) s80]) → lv_has ls 12 [(1, .ref u), (6, .int v79), (7, .ref q76)] → W p l e (headSpec wsL_act ({ frames := 8, cells := 9, slots := 83, locals := 162 } : Room)).room s m ([.ref (g 0), .ref u, .int x2] : List Value).toArray below meth c H locs 2 8 (vx_MQ below (mg_QV D (fun β => [mg_fC g (o 53) (o 54) y.1, mg_fS o u β y.2]) A (fun _ => some (.int 1))) (fun _ _ _ => False) ([.ref (g 0), .ref u, .int x2] : List Value).toArray s 9 83 A) (F0 m 1052 ls [.int y81, .int v79]) := by
              intro H locs ls hw hl
              clear h9_
              refine mg_icmp_eq (tgt := 1057) hx hb h dL_act_1052 (by decide) (fun h => ?_) (fun h => ?_)
              · refine lv_iload hx hb dL_act_1057 (lv_at hl 1 rfl) ?_
                refine mg_if_lt (tgt := 1075) hx hb h dL_act_1059 (by decide) (fun h => ?_) (fun h => ?_)
                · refine lv_iconst (v := 1) hx hb dL_act_1075 (by decide) ?_
                  cases h
                  exact vx_ret (mg_eZV α rfl rfl hx hb hr hlocks (mg_Vsub hw [2, 0] rfl rfl) (show 2 ≤ 9 by omega) (show 8 ≤ 83 by omega) dL_act_1076)
                · refine lv_aload_n hx hb dL_act_1062 rfl (lv_at hl 0 rfl) ?_
                  refine lv_aload_n hx hb dL_act_1063 rfl (lv_at hl 0 rfl) ?_
                  refine va_get (D := D) (ci := 7) (v := .ref (α 0 4)) (C := RX7) (T := TX7) (N := 6) hx hb hts iX7_ hown hK (mg_at1 hw.1 0 rfl mg_fS_00) 0 rfl rfl 5 (by decide) w6_ (fun _ h9 => h9) rfl dL_act_1064 ?_
                  refine lv_aload hx hb dL_act_1067 (lv_at hl 2 rfl) ?_
                  obtain ⟨y9_, h9_, h⟩ := mg_bind h
                  have hn83 := mg_gd_of h9_
                  clear h9_ y9_
                  refine mg_callV (va_runS (As := [.ref (α 0 4), .ref q76]) (rest := [.ref u]) G9 (k_X7_more l D o [mg_fS o u α ζ, mg_fI o q76 2 (upd (upd (fun _ => 0) 0 y77) 1 0), mg_fC g (o 53) (o 54) s80] H.size 0 1 rfl mg_fS_04 (fun y hy => ⟨0, _, 5, y, _, _, rfl, mg_fS_5 hy⟩) rfl mg_fI_0 hn83) (va_cwS 2 hts gL_act_X7_more rfl rfl rfl (by decide +kernel) ⟨Nat.le_of_ble_eq_true rfl, Nat.le_of_ble_eq_true rfl⟩) (mg_preVv hK hO hA hw) rfl rfl hl.1 rfl (lv_room (Nat.le_of_ble_eq_true rfl)) dL_act_1069 ⟨(show 2 + 1 ≤ 9 by omega), (show 8 + 31 ≤ 83 by omega)⟩) hw hA [0, 1, 2] [] rfl (Lr := []) rfl rfl (by decide) (fun β82 H locs hw => ?_)
                  have hw : mg_Vo D A s.heap H locs ([mg_fS o u α ζ, mg_fI o q76 2 (upd (upd (fun _ => 0) 0 y77) 1 0), mg_fC g (o 53) (o 54) s80, mg_fQ o (β82 0 0) ((ζ.2 2) + 1) (fun y => some (if y = (ζ.2 2) then q76 else (α 5) y))]) := hw
                  refine mg_vput (ci := 7) (C := RX7) (T := TX7) (N := 6) (ty := (.array (.array .int))) (v := .ref (β82 0 0)) hx hb hts iX7_ tyX7 tyX7_ok nmX7 hown hK hw 0 rfl mg_fS_00 rfl 5 (by decide) w6_ (fun _ h9 => h9) rfl (by decide +kernel) rfl rfl (Nat.le_of_ble_eq_true rfl) dL_act_1072 (fun H locs hw => ?_)
                  have hw : mg_Vo D A s.heap H locs ([mg_fC g (o 53) (o 54) s80, mg_fS o u (mg_am α 2 (ζ.2 2) (β82 0 0) q76) (mg_zm ζ 2 (upd (upd (fun _ => 0) 0 y77) 1 0))]) := mg_merge2 (L := [mg_fC g (o 53) (o 54) s80]) (mg_Vsub hw [2, 0, 1, 3] rfl rfl)
                  refine lv_iconst (v := 1) hx hb dL_act_1075 (by decide) ?_
                  cases h
                  exact vx_ret (mg_eZV (mg_am α 2 (ζ.2 2) (β82 0 0) q76) rfl rfl hx hb hr hlocks hw (show 3 ≤ 9 by omega) (show 39 ≤ 83 by omega) dL_act_1076)
              · cases h
            clear h
            have h := h9_
            clear h9_
            refine mg_icmp_ge (tgt := 1051) hx hb h dL_act_1043 (by decide) (fun h => ?_) (fun h => ?_)
            · refine lv_iconst (v := (-1)) hx hb dL_act_1051 (by decide) ?_
              cases h
              exact J1043_ H locs ls hw (lv_sub hl [0, 1, 2] rfl)
            · refine lv_iload hx hb dL_act_1046 (lv_at hl 3 rfl) ?_
              refine lv_goto (tgt := 1052) hx hb dL_act_1048 (by decide) ?_
              cases h
              exact J1043_ H locs ls hw (lv_sub hl [0, 1, 2] rfl)
          refine mg_vxc h (fun v : Int32 => some (.int v)) (fun mc9 ms9 o9 s9 hm9 h9 hc9 hs9 => vx_runV (As := [.int ((upd (upd (fun _ => 0) 0 y77) 1 0) 0)]) (rest := []) G9 (k_X6_invite l hst D o (o 53) (o 54) g H.size σ ((upd (upd (fun _ => 0) 0 y77) 1 0) 0) o9 s9 h9 mc9 ms9 hm9) (cwV 1 hts gL_act_X6_invite rfl rfl rfl (by decide +kernel) ⟨Nat.le_of_ble_eq_true rfl, Nat.le_of_ble_eq_true rfl⟩) (mg_preV (hK.sub (tys' := [(o 53, .int), (o 54, .boolean)]) [0, 1] rfl) hO hA (mg_C_list hw 0 rfl) (q0 := 0) rfl rfl) rfl rfl hl.1 rfl (lv_room (Nat.le_of_ble_eq_true rfl)) dL_act_1025 ⟨hc9, hs9⟩) hw hA 0 [1, 2] rfl (Lr := [mg_fS o u α ζ, mg_fI o q76 2 (upd (upd (fun _ => 0) 0 y77) 1 0)]) rfl rfl (by decide) (show 1 + 1 ≤ 9 by omega) (show 2 + 6 ≤ 83 by omega) (fun v79 s80 h H locs hw => ?_) (fun s80 h H locs q9 ce hw a1 a2 a3 => ?_)
          · refine lv_istore (lv' := [(6, .int v79), (8, .int (nI (ζ.2 2))), (7, .ref q76), (5, .ref (α 2 (10 * j15 + j16))), (4, .int y10), (0, .ref (g 0)), (1, .ref u), (2, .int x2), (3, .int y3)]) hx hb dL_act_1028 hl (by decide) rfl (fun ls hl => ?_)
            refine lv_goto (tgt := 1038) hx hb dL_act_1030 (by decide) ?_
            exact J1025_ _ _ h H locs ls hw (lv_sub hl [6, 0, 2, 1] rfl)
          · refine vx_catch (own := RL) (name := "java/lang/IllegalStateException") (E := mg_xn 2) hown [⟨214, 227, 230, 31⟩, ⟨329, 338, 341, 31⟩, ⟨419, 428, 431, 31⟩, ⟨563, 572, 575, 31⟩, ⟨672, 681, 684, 31⟩, ⟨821, 829, 832, 31⟩, ⟨919, 932, 935, 31⟩] ⟨1020, 1030, 1033, 31⟩ [] (htab.trans rfl) (List.forall_mem_cons.mpr ⟨Or.inl (by decide), (List.forall_mem_cons.mpr ⟨Or.inl (by decide), (List.forall_mem_cons.mpr ⟨Or.inl (by decide), (List.forall_mem_cons.mpr ⟨Or.inl (by decide), (List.forall_mem_cons.mpr ⟨Or.inl (by decide), (List.forall_mem_cons.mpr ⟨Or.inl (by decide), (List.forall_mem_cons.mpr ⟨Or.inl (by decide), (fun _ h_ => nomatch h_)⟩)⟩)⟩)⟩)⟩)⟩)⟩) rfl (by decide) (hts (.classLink RL 31 "java/lang/IllegalStateException") (by decide +kernel)) (va_Nw.use rfl (hO.2.2.2.2.2.2.2.2.2.2.2.2.2.1)) a1 a2 a3 ?_
            refine lv_astore (lv' := [(9, .ref q9), (8, .int (nI (ζ.2 2))), (7, .ref q76), (5, .ref (α 2 (10 * j15 + j16))), (4, .int y10), (0, .ref (g 0)), (1, .ref u), (2, .int x2), (3, .int y3)]) hx hb dL_act_1033 hl (by decide) rfl (fun ls hl => ?_)
            refine lv_iconst (v := (-1)) hx hb dL_act_1035 (by decide) ?_
            refine lv_istore (lv' := [(6, .int (-1)), (9, .ref q9), (8, .int (nI (ζ.2 2))), (7, .ref q76), (5, .ref (α 2 (10 * j15 + j16))), (4, .int y10), (0, .ref (g 0)), (1, .ref u), (2, .int x2), (3, .int y3)]) hx hb dL_act_1036 hl (by decide) rfl (fun ls hl => ?_)
            exact J1025_ _ _ h H locs ls hw (lv_sub hl [7, 0, 3, 2] rfl)
        · refine lv_iconst (v := 1) hx hb dL_act_988 (by decide) ?_
          cases h
          exact vx_ret (mg_eZV α rfl rfl hx hb hr hlocks hw (show 0 ≤ 9 by omega) (show 0 ≤ 83 by omega) dL_act_989)
      have K1077_ : f_L_act_1077 σ ζ x2 = some y → W p l e (headSpec wsL_act ({ frames := 8, cells := 9, slots := 83, locals := 162 } : Room)).room s m ([.ref (g 0), .ref u, .int x2] : List Value).toArray below meth c H locs 0 0 (vx_MQ below (mg_QV D (fun β => [mg_fC g (o 53) (o 54) y.1, mg_fS o u β y.2]) A (fun _ => some (.int 1))) (fun _ _ _ => False) ([.ref (g 0), .ref u, .int x2] : List Value).toArray s 9 83 A) (F0 m 1077 ls []) := by
        intro h
        unfold f_L_act_1077 at h
        refine lv_aload_n hx hb dL_act_1077 rfl (lv_at hl 3 rfl) ?_
        refine va_get (D := D) (ci := 7) (v := .ref (α 0 4)) (C := RX7) (T := TX7) (N := 6) hx hb hts iX7_ hown hK (mg_at1 hw.1 1 rfl mg_fS_00) 0 rfl rfl 5 (by decide) w6_ (fun _ h9 => h9) rfl dL_act_1078 ?_
        refine mg_alenq hx hb hK hw 1 2 rfl mg_fS_04 rfl dL_act_1081 ?_
        refine mg_if_ne (tgt := 1087) hx hb h dL_act_1082 (by decide) (fun h => ?_) (fun h => ?_)
        · refine lv_iload_n hx hb dL_act_1087 rfl (lv_at hl 4 rfl) ?_
          refine lv_iconst (v := 4) hx hb dL_act_1088 (by decide) ?_
          refine lv_ishr hx hb dL_act_1089 ?_
          refine lv_aload_n hx hb dL_act_1090 rfl (lv_at hl 3 rfl) ?_
          refine va_get (D := D) (ci := 7) (v := .ref (α 0 4)) (C := RX7) (T := TX7) (N := 6) hx hb hts iX7_ hown hK (mg_at1 hw.1 1 rfl mg_fS_00) 0 rfl rfl 5 (by decide) w6_ (fun _ h9 => h9) rfl dL_act_1091 ?_
          refine mg_alenq hx hb hK hw 1 2 rfl mg_fS_04 rfl dL_act_1094 ?_
          obtain ⟨y84, h9_, h⟩ := mg_bind h
          refine mg_callV (va_runS (As := [.int (x2 >>> (4 &&& 31)), .int (nI (ζ.2 2))]) (rest := []) G9 (k_L_below l D o  H.size (x2 >>> (4 &&& 31)) (nI (ζ.2 2)) y84 h9_) (va_cwS 2 hts gL_act_L_below rfl rfl rfl (by decide +kernel) ⟨Nat.le_of_ble_eq_true rfl, Nat.le_of_ble_eq_true rfl⟩) (mg_preVv hK hO hA (mg_Vsub (L' := []) hw [] rfl rfl)) rfl rfl hl.1 rfl (lv_room (Nat.le_of_ble_eq_true rfl)) dL_act_1095 ⟨(show 0 + 0 ≤ 9 by omega), (show 0 + 0 ≤ 83 by omega)⟩) hw hA [] [0, 1] rfl (Lr := [mg_fC g (o 53) (o 54) σ, mg_fS o u α ζ]) rfl rfl (by decide) (fun β85 H locs hw => ?_)
          clear h9_
          have hw : mg_Vo D A s.heap H locs ([mg_fC g (o 53) (o 54) σ, mg_fS o u α ζ]) := hw
          refine lv_istore (lv' := [(7, .int y84), (5, .ref (α 2 (10 * j15 + j16))), (4, .int y10), (0, .ref (g 0)), (1, .ref u), (2, .int x2), (3, .int y3)]) hx hb dL_act_1098 hl (by decide) rfl (fun ls hl => ?_)
          refine lv_aload_n hx hb dL_act_1100 rfl (lv_at hl 4 rfl) ?_
          refine va_get (D := D) (ci := 7) (v := .ref (α 0 4)) (C := RX7) (T := TX7) (N := 6) hx hb hts iX7_ hown hK (mg_at1 hw.1 1 rfl mg_fS_00) 0 rfl rfl 5 (by decide) w6_ (fun _ h9 => h9) rfl dL_act_1101 ?_
          refine lv_iload hx hb dL_act_1104 (lv_at hl 0 rfl) ?_
          refine mg_aal hx hb hK hw 1 2 rfl mg_fS_04 rfl rfl h dL_act_1106 (fun j86 hj86_ h => ?_)
          refine lv_iconst (v := 0) hx hb dL_act_1107 (by decide) ?_
          refine mg_ial (x := 0) hx hb hK hw 1 rfl (mg_fS_5 hj86_) (by unfold vp_in; decide) (by decide) dL_act_1108 ?_
          refine lv_istore (lv' := [(8, .int ((ζ.1 5 j86) 0)), (7, .int y84), (5, .ref (α 2 (10 * j15 + j16))), (4, .int y10), (0, .ref (g 0)), (1, .ref u), (2, .int x2), (3, .int y3)]) hx hb dL_act_1109 hl (by decide) rfl (fun ls hl => ?_)
          refine lv_aload_n hx hb dL_act_1111 rfl (lv_at hl 5 rfl) ?_
          refine va_get (D := D) (ci := 7) (v := .ref (α 0 4)) (C := RX7) (T := TX7) (N := 6) hx hb hts iX7_ hown hK (mg_at1 hw.1 1 rfl mg_fS_00) 0 rfl rfl 5 (by decide) w6_ (fun _ h9 => h9) rfl dL_act_1112 ?_
          refine lv_iload hx hb dL_act_1115 (lv_at hl 1 rfl) ?_
          refine mg_aal hx hb hK hw 1 2 rfl mg_fS_04 rfl rfl h dL_act_1117 (fun j87 hj87_ h => ?_)
          refine lv_iconst (v := 0) hx hb dL_act_1118 (by decide) ?_
          refine lv_iload_n hx hb dL_act_1119 rfl (lv_at hl 6 rfl) ?_
          refine lv_bipush (v := 6) hx hb dL_act_1120 (by decide) ?_
          refine lv_ishr hx hb dL_act_1122 ?_
          refine lv_aload_n hx hb dL_act_1123 rfl (lv_at hl 5 rfl) ?_
          refine va_get (D := D) (ci := 7) (v := .ref (α 0 3)) (C := RX7) (T := TX7) (N := 6) hx hb hts iX7_ hown hK (mg_at1 hw.1 1 rfl mg_fS_00) 0 rfl rfl 4 (by decide) w5_ (fun _ h9 => h9) rfl dL_act_1124 ?_
          refine mg_alenq hx hb hK hw 1 2 rfl mg_fS_03 rfl dL_act_1127 ?_
          obtain ⟨y88, h9_, h⟩ := mg_bind h
          refine mg_callV (va_runS (As := [.int (x2 >>> (6 &&& 31)), .int (nI (ζ.2 1))]) (rest := [.int 0, .ref (α 5 j87)]) G9 (k_L_below l D o  H.size (x2 >>> (6 &&& 31)) (nI (ζ.2 1)) y88 h9_) (va_cwS 2 hts gL_act_L_below rfl rfl rfl (by decide +kernel) ⟨Nat.le_of_ble_eq_true rfl, Nat.le_of_ble_eq_true rfl⟩) (mg_preVv hK hO hA (mg_Vsub (L' := []) hw [] rfl rfl)) rfl rfl hl.1 rfl (lv_room (Nat.le_of_ble_eq_true rfl)) dL_act_1128 ⟨(show 0 + 0 ≤ 9 by omega), (show 0 + 0 ≤ 83 by omega)⟩) hw hA [] [0, 1] rfl (Lr := [mg_fC g (o 53) (o 54) σ, mg_fS o u α ζ]) rfl rfl (by decide) (fun β89 H locs hw => ?_)
          clear h9_
          have hw : mg_Vo D A s.heap H locs ([mg_fC g (o 53) (o 54) σ, mg_fS o u α ζ]) := hw
          refine mg_iasx (x := 0) (F' := mg_fS o u α (mg_zu ζ 5 j87 0 y88)) hx hb hK hw 1 rfl (mg_fS_5 hj87_) (by unfold vp_in; decide) (by decide) (mg_sS_5 hj87_) dL_act_1131 (fun H locs hw => ?_)
          refine lv_aload_n hx hb dL_act_1132 rfl (lv_at hl 4 rfl) ?_
          refine lv_iload hx hb dL_act_1133 (lv_at hl 1 rfl) ?_
          refine lv_aload_n hx hb dL_act_1135 rfl (lv_at hl 5 rfl) ?_
          refine va_get (D := D) (ci := 7) (v := .ref (α 0 4)) (C := RX7) (T := TX7) (N := 6) hx hb hts iX7_ hown hK (mg_at1 hw.1 1 rfl mg_fS_00) 0 rfl rfl 5 (by decide) w6_ (fun _ h9 => h9) rfl dL_act_1136 ?_
          refine lv_iload hx hb dL_act_1139 (lv_at hl 1 rfl) ?_
          refine mg_aal hx hb hK hw 1 2 rfl mg_fS_04 rfl rfl h dL_act_1141 (fun j90 hj90_ h => ?_)
          refine lv_iconst (v := 0) hx hb dL_act_1142 (by decide) ?_
          refine mg_ial (x := 0) hx hb hK hw 1 rfl (mg_fS_5 hj90_) (by unfold vp_in; decide) (by decide) dL_act_1143 ?_
          refine mg_vxq h (fun v : Int32 => some (.int v)) (fun mc9 ms9 o9 s9 hm9 h9 hc9 hs9 => vx_runV (As := [.int y84, .int (((mg_zu ζ 5 j87 0 y88).1 5 j90) 0)]) (rest := []) G9 (k_X6_lead l hst D o (o 53) (o 54) g H.size σ y84 (((mg_zu ζ 5 j87 0 y88).1 5 j90) 0) o9 s9 h9 mc9 ms9 hm9) (cwV 2 hts gL_act_X6_lead rfl rfl rfl (by decide +kernel) ⟨Nat.le_of_ble_eq_true rfl, Nat.le_of_ble_eq_true rfl⟩) (mg_preV (hK.sub (tys' := [(o 53, .int), (o 54, .boolean)]) [0, 1] rfl) hO hA (mg_C_list hw 0 rfl) (q0 := 0) rfl rfl) rfl rfl hl.1 rfl (lv_room (Nat.le_of_ble_eq_true rfl)) dL_act_1144 ⟨hc9, hs9⟩) hw hA 0 [1] rfl (Lr := [mg_fS o u α (mg_zu ζ 5 j87 0 y88)]) rfl rfl (by decide) (show 0 ≤ 9 by omega) (show 0 ≤ 83 by omega) (fun v91 s92 h H locs hw => ?_)
          refine lv_iload hx hb dL_act_1147 (lv_at hl 0 rfl) ?_
          refine mg_icmp_ne (tgt := 1156) hx hb h dL_act_1149 (by decide) (fun h => ?_) (fun h => ?_)
          · cases h
          · refine lv_iconst (v := 1) hx hb dL_act_1152 (by decide) ?_
            refine lv_goto (tgt := 1157) hx hb dL_act_1153 (by decide) ?_
            cases h
            exact vx_ret (mg_eZV α rfl rfl hx hb hr hlocks (mg_Vsub hw [1, 0] rfl rfl) (show 0 ≤ 9 by omega) (show 0 ≤ 83 by omega) dL_act_1157)
        · refine lv_iconst (v := 1) hx hb dL_act_1085 (by decide) ?_
          cases h
          exact vx_ret (mg_eZV α rfl rfl hx hb hr hlocks hw (show 0 ≤ 9 by omega) (show 0 ≤ 83 by omega) dL_act_1086)
      by_cases g0_ : y17 = 0
      · rw [if_pos g0_] at h
        exact lv_tableIn (off := 69) (tgt := 152) hx hb dL_act_83 (by rw [g0_]; decide) (by rw [g0_]; decide) (by rw [g0_]; rfl) (by decide) (K152_ h)
      · rw [if_neg g0_] at h
        by_cases g1_ : y17 = 1
        · rw [if_pos g1_] at h
          exact lv_tableIn (off := 69) (tgt := 152) hx hb dL_act_83 (by rw [g1_]; decide) (by rw [g1_]; decide) (by rw [g1_]; rfl) (by decide) (K152_ h)
        · rw [if_neg g1_] at h
          by_cases g2_ : y17 = 2
          · rw [if_pos g2_] at h
            exact lv_tableIn (off := 224) (tgt := 307) hx hb dL_act_83 (by rw [g2_]; decide) (by rw [g2_]; decide) (by rw [g2_]; rfl) (by decide) (K307_ h)
          · rw [if_neg g2_] at h
            by_cases g3_ : y17 = 3
            · rw [if_pos g3_] at h
              exact lv_tableIn (off := 224) (tgt := 307) hx hb dL_act_83 (by rw [g3_]; decide) (by rw [g3_]; decide) (by rw [g3_]; rfl) (by decide) (K307_ h)
            · rw [if_neg g3_] at h
              by_cases g4_ : y17 = 4
              · rw [if_pos g4_] at h
                exact lv_tableIn (off := 224) (tgt := 307) hx hb dL_act_83 (by rw [g4_]; decide) (by rw [g4_]; decide) (by rw [g4_]; rfl) (by decide) (K307_ h)
              · rw [if_neg g4_] at h
                by_cases g5_ : y17 = 5
                · rw [if_pos g5_] at h
                  exact lv_tableIn (off := 314) (tgt := 397) hx hb dL_act_83 (by rw [g5_]; decide) (by rw [g5_]; decide) (by rw [g5_]; rfl) (by decide) (K397_ h)
                · rw [if_neg g5_] at h
                  by_cases g6_ : y17 = 6
                  · rw [if_pos g6_] at h
                    exact lv_tableIn (off := 397) (tgt := 480) hx hb dL_act_83 (by rw [g6_]; decide) (by rw [g6_]; decide) (by rw [g6_]; rfl) (by decide) (K480_ h)
                  · rw [if_neg g6_] at h
                    by_cases g7_ : y17 = 7
                    · rw [if_pos g7_] at h
                      exact lv_tableIn (off := 556) (tgt := 639) hx hb dL_act_83 (by rw [g7_]; decide) (by rw [g7_]; decide) (by rw [g7_]; rfl) (by decide) (K639_ h)
                    · rw [if_neg g7_] at h
                      by_cases g8_ : y17 = 8
                      · rw [if_pos g8_] at h
                        exact lv_tableIn (off := 556) (tgt := 639) hx hb dL_act_83 (by rw [g8_]; decide) (by rw [g8_]; decide) (by rw [g8_]; rfl) (by decide) (K639_ h)
                      · rw [if_neg g8_] at h
                        by_cases g9_ : y17 = 9
                        · rw [if_pos g9_] at h
                          exact lv_tableIn (off := 556) (tgt := 639) hx hb dL_act_83 (by rw [g9_]; decide) (by rw [g9_]; decide) (by rw [g9_]; rfl) (by decide) (K639_ h)
                        · rw [if_neg g9_] at h
                          by_cases g10_ : y17 = 10
                          · rw [if_pos g10_] at h
                            exact lv_tableIn (off := 681) (tgt := 764) hx hb dL_act_83 (by rw [g10_]; decide) (by rw [g10_]; decide) (by rw [g10_]; rfl) (by decide) (K764_ h)
                          · rw [if_neg g10_] at h
                            by_cases g11_ : y17 = 11
                            · rw [if_pos g11_] at h
                              exact lv_tableIn (off := 805) (tgt := 888) hx hb dL_act_83 (by rw [g11_]; decide) (by rw [g11_]; decide) (by rw [g11_]; rfl) (by decide) (K888_ h)
                            · rw [if_neg g11_] at h
                              by_cases g12_ : y17 = 12
                              · rw [if_pos g12_] at h
                                exact lv_tableIn (off := 805) (tgt := 888) hx hb dL_act_83 (by rw [g12_]; decide) (by rw [g12_]; decide) (by rw [g12_]; rfl) (by decide) (K888_ h)
                              · rw [if_neg g12_] at h
                                by_cases g13_ : y17 = 13
                                · rw [if_pos g13_] at h
                                  exact lv_tableIn (off := 897) (tgt := 980) hx hb dL_act_83 (by rw [g13_]; decide) (by rw [g13_]; decide) (by rw [g13_]; rfl) (by decide) (K980_ h)
                                · rw [if_neg g13_] at h
                                  have e0_ := lv_neT (a := 0) g0_ rfl
                                  have e1_ := lv_neT (a := 1) g1_ rfl
                                  have e2_ := lv_neT (a := 2) g2_ rfl
                                  have e3_ := lv_neT (a := 3) g3_ rfl
                                  have e4_ := lv_neT (a := 4) g4_ rfl
                                  have e5_ := lv_neT (a := 5) g5_ rfl
                                  have e6_ := lv_neT (a := 6) g6_ rfl
                                  have e7_ := lv_neT (a := 7) g7_ rfl
                                  have e8_ := lv_neT (a := 8) g8_ rfl
                                  have e9_ := lv_neT (a := 9) g9_ rfl
                                  have e10_ := lv_neT (a := 10) g10_ rfl
                                  have e11_ := lv_neT (a := 11) g11_ rfl
                                  have e12_ := lv_neT (a := 12) g12_ rfl
                                  have e13_ := lv_neT (a := 13) g13_ rfl
                                  exact lv_tableOut (tgt := 1077) hx hb dL_act_83 (by omega) (by decide) (K1077_ h)
    clear h
    have h := h9_
    clear h9_
    refine mg_if_ne (tgt := 55) hx hb h dL_act_40 (by decide) (fun h => ?_) (fun h => ?_)
    · refine lv_iconst (v := 2) hx hb dL_act_55 (by decide) ?_
      refine lv_iload_n hx hb dL_act_56 rfl (lv_at hl 3 rfl) ?_
      refine lv_iconst (v := 5) hx hb dL_act_57 (by decide) ?_
      refine lv_ishr hx hb dL_act_58 ?_
      refine lv_iconst (v := 3) hx hb dL_act_59 (by decide) ?_
      obtain ⟨y11, h9_, h⟩ := mg_bind h
      refine mg_callV (va_runS (As := [.int (x2 >>> (5 &&& 31)), .int 3]) (rest := [.int 2]) G9 (k_L_below l D o  H.size (x2 >>> (5 &&& 31)) 3 y11 h9_) (va_cwS 2 hts gL_act_L_below rfl rfl rfl (by decide +kernel) ⟨Nat.le_of_ble_eq_true rfl, Nat.le_of_ble_eq_true rfl⟩) (mg_preVv hK hO hA (mg_Vsub (L' := []) hw [] rfl rfl)) rfl rfl hl.1 rfl (lv_room (Nat.le_of_ble_eq_true rfl)) dL_act_60 ⟨(show 0 + 0 ≤ 9 by omega), (show 0 + 0 ≤ 83 by omega)⟩) hw hA [] [0, 1] rfl (Lr := [mg_fC g (o 53) (o 54) σ, mg_fS o u α ζ]) rfl rfl (by decide) (fun β12 H locs hw => ?_)
      clear h9_
      have hw : mg_Vo D A s.heap H locs ([mg_fC g (o 53) (o 54) σ, mg_fS o u α ζ]) := hw
      refine lv_iadd hx hb dL_act_63 ?_
      cases h
      exact J40_ H locs ls hw (lv_sub hl [1, 2, 3, 0] rfl)
    · refine lv_iload_n hx hb dL_act_43 rfl (lv_at hl 3 rfl) ?_
      refine lv_bipush (v := 6) hx hb dL_act_44 (by decide) ?_
      refine lv_ishr hx hb dL_act_46 ?_
      refine lv_bipush (v := 7) hx hb dL_act_47 (by decide) ?_
      obtain ⟨y13, h9_, h⟩ := mg_bind h
      refine mg_callV (va_runS (As := [.int (x2 >>> (6 &&& 31)), .int 7]) (rest := []) G9 (k_L_below l D o  H.size (x2 >>> (6 &&& 31)) 7 y13 h9_) (va_cwS 2 hts gL_act_L_below rfl rfl rfl (by decide +kernel) ⟨Nat.le_of_ble_eq_true rfl, Nat.le_of_ble_eq_true rfl⟩) (mg_preVv hK hO hA (mg_Vsub (L' := []) hw [] rfl rfl)) rfl rfl hl.1 rfl (lv_room (Nat.le_of_ble_eq_true rfl)) dL_act_49 ⟨(show 0 + 0 ≤ 9 by omega), (show 0 + 0 ≤ 83 by omega)⟩) hw hA [] [0, 1] rfl (Lr := [mg_fC g (o 53) (o 54) σ, mg_fS o u α ζ]) rfl rfl (by decide) (fun β14 H locs hw => ?_)
      clear h9_
      have hw : mg_Vo D A s.heap H locs ([mg_fC g (o 53) (o 54) σ, mg_fS o u α ζ]) := hw
      refine lv_goto (tgt := 64) hx hb dL_act_52 (by decide) ?_
      cases h
      exact J40_ H locs ls hw (lv_sub hl [1, 2, 3, 0] rfl)
  clear h
  have h := h9_
  clear h9_
  refine mg_if_ne (tgt := 22) hx hb h dL_act_8 (by decide) (fun h => ?_) (fun h => ?_)
  · refine lv_iconst (v := 3) hx hb dL_act_22 (by decide) ?_
    refine lv_iload_n hx hb dL_act_23 rfl (lv_at hl 2 rfl) ?_
    refine lv_iconst (v := 4) hx hb dL_act_24 (by decide) ?_
    refine lv_ishr hx hb dL_act_25 ?_
    refine lv_iconst (v := 4) hx hb dL_act_26 (by decide) ?_
    obtain ⟨y4, h9_, h⟩ := mg_bind h
    refine mg_callV (va_runS (As := [.int (x2 >>> (4 &&& 31)), .int 4]) (rest := [.int 3]) G9 (k_L_below l D o  H.size (x2 >>> (4 &&& 31)) 4 y4 h9_) (va_cwS 2 hts gL_act_L_below rfl rfl rfl (by decide +kernel) ⟨Nat.le_of_ble_eq_true rfl, Nat.le_of_ble_eq_true rfl⟩) (mg_preVv hK hO hA (mg_Vsub (L' := []) hw [] rfl rfl)) rfl rfl hl.1 rfl (lv_room (Nat.le_of_ble_eq_true rfl)) dL_act_27 ⟨(show 0 + 0 ≤ 9 by omega), (show 0 + 0 ≤ 83 by omega)⟩) hw hA [] [0, 1] rfl (Lr := [mg_fC g (o 53) (o 54) σ, mg_fS o u α ζ]) rfl rfl (by decide) (fun β5 H locs hw => ?_)
    clear h9_
    have hw : mg_Vo D A s.heap H locs ([mg_fC g (o 53) (o 54) σ, mg_fS o u α ζ]) := hw
    refine lv_iadd hx hb dL_act_30 ?_
    cases h
    exact J8_ H locs ls hw (lv_sub hl [0, 1, 2] rfl)
  · refine lv_iload_n hx hb dL_act_11 rfl (lv_at hl 2 rfl) ?_
    refine lv_iconst (v := 3) hx hb dL_act_12 (by decide) ?_
    refine lv_ishr hx hb dL_act_13 ?_
    refine lv_bipush (v := 10) hx hb dL_act_14 (by decide) ?_
    obtain ⟨y6, h9_, h⟩ := mg_bind h
    refine mg_callV (va_runS (As := [.int (x2 >>> (3 &&& 31)), .int 10]) (rest := []) G9 (k_L_below l D o  H.size (x2 >>> (3 &&& 31)) 10 y6 h9_) (va_cwS 2 hts gL_act_L_below rfl rfl rfl (by decide +kernel) ⟨Nat.le_of_ble_eq_true rfl, Nat.le_of_ble_eq_true rfl⟩) (mg_preVv hK hO hA (mg_Vsub (L' := []) hw [] rfl rfl)) rfl rfl hl.1 rfl (lv_room (Nat.le_of_ble_eq_true rfl)) dL_act_16 ⟨(show 0 + 0 ≤ 9 by omega), (show 0 + 0 ≤ 83 by omega)⟩) hw hA [] [0, 1] rfl (Lr := [mg_fC g (o 53) (o 54) σ, mg_fS o u α ζ]) rfl rfl (by decide) (fun β7 H locs hw => ?_)
    clear h9_
    have hw : mg_Vo D A s.heap H locs ([mg_fC g (o 53) (o 54) σ, mg_fS o u α ζ]) := hw
    refine lv_goto (tgt := 31) hx hb dL_act_19 (by decide) ?_
    cases h
    exact J8_ H locs ls hw (lv_sub hl [0, 1, 2] rfl)
