set_option maxHeartbeats 8000000 in
set_option maxRecDepth 100000 in
theorem k_X7_isSame (l : Launch) (hst : l.stackTraces = false) (hds : mg_Hds) (D : va_G) (o : Nat → Nat) (g : Nat → Nat) (u : Nat) (α : Nat → Nat → Nat) (sz : Nat) (σ : mg_St) (ζ : mg_Sz) (y : Unit) (h : f_X7_isSame σ ζ = some y) : mg_CVD l yX7_isSame wsX7_isSame ({ frames := 8, cells := 2026, slots := 21893, locals := 136 } : Room) D o [mg_fC g (o 53) (o 54) σ, mg_fS o u α ζ] sz [.ref u, .ref (g 0)] (fun _ => some (.int 1)) (fun _ => []) 2026 21893 := by
  unfold mg_CVD
  refine MetD.ofW (cc := cX7_isSame) (maxL := 13) (ret := (some .boolean)) (by decide) rfl ?_
  intro p e s m args below meth c s₁ B hml hv hd0
  obtain ⟨rfl, hsz, hP, hK, hD0, hO⟩ := hv
  have hx := B.exec
  have hb := B.bytes
  have hr := B.returns
  have hts := atoms_spec (ws := wsX7_isSame) B.pre
  have hown : s.vm.findClass RX7 = some m.cls := findClass_of_methodNamed B.named
  have hlocks := B.notSynchronized
  subst hsz
  have hD := hD0.self (sz := s.heap.size)
  generalize hAe : mg_VA [mg_fC g (o 53) (o 54) σ, mg_fS o u α ζ] s.heap.size = A at hD hO ⊢
  have hA : ∀ q : Nat, s.heap.size ≤ q → A q := fun q h => by rw [← hAe]; exact Or.inr h
  have hw : mg_Vo D A s.heap s.heap [] ([mg_fC g (o 53) (o 54) σ, mg_fS o u α ζ]) := ⟨hP, hD, va_S.rf⟩
  have G9 : CallFix p m c cX7_isSame 13 s ([.ref u, .ref (g 0)] : List Value).toArray wsX7_isSame RX7 := ⟨hx, hb, hml, hown, hts⟩
  clear hP hD hD0 hAe
  have w0_ := hts (.fieldLink RX7 15 "MoonGateLaw$Sim" "cells" "[[[I") (by decide +kernel)
  have iX7_ : ∀ w ∈ wsX70, w ∈ wsX7_isSame := (fun _ h => List.mem_cons_of_mem _ (List.mem_append_left _ (List.mem_append_left _ (List.mem_append_left _ (List.mem_append_left _ (List.mem_append_left _ (List.mem_append_left _ (List.mem_append_left _ (List.mem_append_left _ (List.mem_append_right _ h))))))))))
  have w2_ := hts (.arrayClass .int) (by decide +kernel)
  have w3_ := hts (.fieldLink RX7 20 "MoonGateLaw$Sim" "carps" "[[I") (by decide +kernel)
  have w4_ := hts (.fieldLink RX7 24 "MoonGateLaw$Sim" "gates" "[[I") (by decide +kernel)
  have w5_ := hts (.fieldLink RX7 27 "MoonGateLaw$Sim" "poets" "[[I") (by decide +kernel)
  have hl := lv_entry ([.ref u, .ref (g 0)]) (n := 13) (Nat.le_of_ble_eq_true rfl)
  rw [lg_entry_eq]
  generalize (lg_sl ([.ref u, .ref (g 0)]) ++ List.replicate (13 - (lg_sl ([.ref u, .ref (g 0)])).length) Slot.unset).toArray = ls at hl ⊢
  have hl : lv_has ls 13 [(0, .ref u), (1, .ref (g 0))] := hl
  unfold f_X7_isSame at h
  suffices K_ : ∀ (H : Heap) (locs : List Loc), mg_Vo D A s.heap H locs ([mg_fC g (o 53) (o 54) σ, mg_fS o u α ζ]) → W p l e (headSpec wsX7_isSame ({ frames := 8, cells := 2026, slots := 21893, locals := 136 } : Room)).room s m ([.ref u, .ref (g 0)] : List Value).toArray below meth c H locs 0 0 (MQD lw_cs below (mg_QV D (fun _ => []) A (fun _ => some (.int 1))) ([.ref u, .ref (g 0)] : List Value).toArray s 2026 21893 A) (F0 m 0 ls []) from K_ _ _ hw
  clear hw
  intro H locs hw
  refine lv_iconst (v := 0) hx hb dX7_isSame_0 (by decide) ?_
  refine lv_istore_n (lv' := [(2, .int 0), (0, .ref u), (1, .ref (g 0))]) hx hb dX7_isSame_1 rfl hl (by decide) rfl (fun ls hl => ?_)
  have L2_ : ∀ (n : Nat), ∀ (cl2_ sl2_ : Nat), cl2_ + n * 99 ≤ 792 → sl2_ + n * 902 ≤ 7216 → ∀ (x2_2 : Int32) (cC_2 : mg_St) (y2_ : Int32 × mg_St), f_X7_isSame_2 ζ n x2_2 cC_2 = some y2_ → (∀ (H : Heap) (locs : List Loc) (ls : Array Slot), mg_Vo D A s.heap H locs ([mg_fC g (o 53) (o 54) y2_.2, mg_fS o u α ζ]) → lv_has ls 13 [(0, .ref u), (1, .ref (g 0))] → W p l e (headSpec wsX7_isSame ({ frames := 8, cells := 2026, slots := 21893, locals := 136 } : Room)).room s m ([.ref u, .ref (g 0)] : List Value).toArray below meth c H locs 792 7216 (MQD lw_cs below (mg_QV D (fun _ => []) A (fun _ => some (.int 1))) ([.ref u, .ref (g 0)] : List Value).toArray s 2026 21893 A) (F0 m 146 ls [])) → ∀ (H : Heap) (locs : List Loc) (ls : Array Slot), mg_Vo D A s.heap H locs ([mg_fC g (o 53) (o 54) cC_2, mg_fS o u α ζ]) → lv_has ls 13 [(0, .ref u), (1, .ref (g 0)), (2, .int x2_2)] → W p l e (headSpec wsX7_isSame ({ frames := 8, cells := 2026, slots := 21893, locals := 136 } : Room)).room s m ([.ref u, .ref (g 0)] : List Value).toArray below meth c H locs cl2_ sl2_ (MQD lw_cs below (mg_QV D (fun _ => []) A (fun _ => some (.int 1))) ([.ref u, .ref (g 0)] : List Value).toArray s 2026 21893 A) (F0 m 2 ls []) := by
    intro n
    induction n with
    | zero => intro cl2_ sl2_ hcl2_ hsl2_ x2_2 cC_2 y2_ h; rw [f_X7_isSame_2] at h; cases h
    | succ n ih =>
      intro cl2_ sl2_ hcl2_ hsl2_ x2_2 cC_2 y2_ h kc H locs ls hw hl
      rw [f_X7_isSame_2] at h
      refine lv_iload_n hx hb dX7_isSame_2 rfl (lv_at hl 2 rfl) ?_
      refine lv_bipush (v := 7) hx hb dX7_isSame_3 (by decide) ?_
      refine mg_icmp_ge (tgt := 146) hx hb h dX7_isSame_5 (by decide) (fun h => ?_) (fun h => ?_)
      · cases h
        refine W.widen (k := 792) (n := 7216) (by omega) (by omega) ?_
        exact kc H locs ls hw (lv_sub hl [0, 1] rfl)
      · refine lv_iconst (v := 0) hx hb dX7_isSame_8 (by decide) ?_
        refine lv_istore_n (lv' := [(3, .int 0), (0, .ref u), (1, .ref (g 0)), (2, .int x2_2)]) hx hb dX7_isSame_9 rfl hl (by decide) rfl (fun ls hl => ?_)
        have L10_ : ∀ (n : Nat), ∀ (cl10_ sl10_ : Nat), cl10_ + n * 9 ≤ cl2_ + 99 → sl10_ + n * 82 ≤ sl2_ + 902 → ∀ (x3_10 : Int32) (cC_10 : mg_St) (y10_ : Int32 × mg_St), f_X7_isSame_10 x2_2 ζ n x3_10 cC_10 = some y10_ → (∀ (H : Heap) (locs : List Loc) (ls : Array Slot), mg_Vo D A s.heap H locs ([mg_fC g (o 53) (o 54) y10_.2, mg_fS o u α ζ]) → lv_has ls 13 [(0, .ref u), (1, .ref (g 0)), (2, .int x2_2)] → W p l e (headSpec wsX7_isSame ({ frames := 8, cells := 2026, slots := 21893, locals := 136 } : Room)).room s m ([.ref u, .ref (g 0)] : List Value).toArray below meth c H locs (cl2_ + 99) (sl2_ + 902) (MQD lw_cs below (mg_QV D (fun _ => []) A (fun _ => some (.int 1))) ([.ref u, .ref (g 0)] : List Value).toArray s 2026 21893 A) (F0 m 140 ls [])) → ∀ (H : Heap) (locs : List Loc) (ls : Array Slot), mg_Vo D A s.heap H locs ([mg_fC g (o 53) (o 54) cC_10, mg_fS o u α ζ]) → lv_has ls 13 [(0, .ref u), (1, .ref (g 0)), (2, .int x2_2), (3, .int x3_10)] → W p l e (headSpec wsX7_isSame ({ frames := 8, cells := 2026, slots := 21893, locals := 136 } : Room)).room s m ([.ref u, .ref (g 0)] : List Value).toArray below meth c H locs cl10_ sl10_ (MQD lw_cs below (mg_QV D (fun _ => []) A (fun _ => some (.int 1))) ([.ref u, .ref (g 0)] : List Value).toArray s 2026 21893 A) (F0 m 10 ls []) := by
          intro n
          induction n with
          | zero => intro cl10_ sl10_ hcl10_ hsl10_ x3_10 cC_10 y10_ h; rw [f_X7_isSame_10] at h; cases h
          | succ n ih =>
            intro cl10_ sl10_ hcl10_ hsl10_ x3_10 cC_10 y10_ h kc H locs ls hw hl
            rw [f_X7_isSame_10] at h
            refine lv_iload_n hx hb dX7_isSame_10 rfl (lv_at hl 3 rfl) ?_
            refine lv_bipush (v := 10) hx hb dX7_isSame_11 (by decide) ?_
            refine mg_icmp_ge (tgt := 140) hx hb h dX7_isSame_13 (by decide) (fun h => ?_) (fun h => ?_)
            · cases h
              refine W.widen (k := cl2_ + 99) (n := sl2_ + 902) (by omega) (by omega) ?_
              exact kc H locs ls hw (lv_sub hl [0, 1, 2] rfl)
            · refine lv_aload_n hx hb dX7_isSame_16 rfl (lv_at hl 0 rfl) ?_
              refine va_get (D := D) (ci := 7) (v := .ref (α 0 1)) (C := RX7) (T := TX7) (N := 6) hx hb hts iX7_ hown hK (mg_at1 hw.1 1 rfl mg_fS_00) 0 rfl rfl 2 (by decide) w0_ (fun _ h9 => h9) rfl dX7_isSame_17 ?_
              refine lv_iload_n hx hb dX7_isSame_20 rfl (lv_at hl 2 rfl) ?_
              refine mg_aal hx hb hK hw 1 3 rfl mg_fS_01 rfl rfl h dX7_isSame_21 (fun j3 hj3_ h => ?_)
              refine lv_iload_n hx hb dX7_isSame_22 rfl (lv_at hl 3 rfl) ?_
              refine mg_aal hx hb hK hw 1 2 rfl (mg_fS_1 hj3_) rfl rfl h dX7_isSame_23 (fun j4 hj4_ h => ?_)
              refine lv_astore (lv' := [(4, .ref (α 2 (10 * j3 + j4))), (0, .ref u), (1, .ref (g 0)), (2, .int x2_2), (3, .int x3_10)]) hx hb dX7_isSame_24 hl (by decide) rfl (fun ls hl => ?_)
              refine lv_aload_n hx hb dX7_isSame_26 rfl (lv_at hl 1 rfl) ?_
              refine lv_iload_n hx hb dX7_isSame_27 rfl (lv_at hl 4 rfl) ?_
              refine lv_iload_n hx hb dX7_isSame_28 rfl (lv_at hl 3 rfl) ?_
              obtain ⟨y5, h9_, h⟩ := mg_bind h
              refine mg_callV (va_runV (As := [.int x3_10, .int x2_2]) (rest := []) G9 (k_X7_pond l D o u α H.size ζ x3_10 x2_2 y5 h9_) (cwV 2 hts gX7_isSame_X7_pond rfl rfl rfl (by decide +kernel) ⟨Nat.le_of_ble_eq_true rfl, Nat.le_of_ble_eq_true rfl⟩) (mg_preVV hK hO hA (mg_Vsub (L' := [mg_fS o u α ζ]) hw [1] rfl rfl) 0 rfl mg_fS_00 rfl) rfl rfl hl.1 rfl (lv_room (Nat.le_of_ble_eq_true rfl)) dX7_isSame_29 ⟨(show cl10_ + 8 ≤ 2026 by omega), (show sl10_ + 77 ≤ 21893 by omega)⟩) hw hA [1] [0] rfl (Lr := [mg_fC g (o 53) (o 54) cC_10]) rfl rfl (by decide) (fun β6 H locs hw => ?_)
              clear h9_
              have hw : mg_Vo D A s.heap H locs ([mg_fC g (o 53) (o 54) cC_10, mg_fS o u α ζ, mg_fM o (β6 0 0) (β6 1) y5]) := hw
              refine lv_astore (lv' := [(5, .ref (β6 0 0)), (4, .ref (α 2 (10 * j3 + j4))), (0, .ref u), (1, .ref (g 0)), (2, .int x2_2), (3, .int x3_10)]) hx hb dX7_isSame_32 hl (by decide) rfl (fun ls hl => ?_)
              refine lv_iconst (v := 5) hx hb dX7_isSame_34 (by decide) ?_
              refine mg_vnewI (n := 5) (N := 5) (B := 5) hx hb w2_ hK hw hA (by decide) rfl (Nat.le_refl _) (Nat.le_of_ble_eq_true rfl) (show cl10_ + 8 + 1 ≤ 2026 by omega) (show sl10_ + 77 + 5 ≤ 21893 by omega) dX7_isSame_35 (fun q7 H hw => ?_)
              refine lv_dup hx hb dX7_isSame_37 rfl ?_
              refine lv_iconst (v := 0) hx hb dX7_isSame_38 (by decide) ?_
              refine lv_aload hx hb dX7_isSame_39 (lv_at hl 1 rfl) ?_
              refine lv_iconst (v := 0) hx hb dX7_isSame_41 (by decide) ?_
              refine mg_ial (x := 0) hx hb hK hw 1 rfl (mg_fS_2 hj3_ hj4_) (by unfold vp_in; decide) (by decide) dX7_isSame_42 ?_
              refine mg_iasx (x := 0) (F' := mg_fI o q7 5 (upd (fun _ => 0) 0 ((ζ.1 2 (10 * j3 + j4)) 0))) hx hb hK hw 3 rfl mg_fI_0 (by unfold vp_in; decide) (by decide) mg_sI dX7_isSame_43 (fun H locs hw => ?_)
              refine lv_dup hx hb dX7_isSame_44 rfl ?_
              refine lv_iconst (v := 1) hx hb dX7_isSame_45 (by decide) ?_
              refine lv_aload hx hb dX7_isSame_46 (lv_at hl 1 rfl) ?_
              refine lv_iconst (v := 0) hx hb dX7_isSame_48 (by decide) ?_
              refine mg_ial (x := 0) hx hb hK hw 1 rfl (mg_fS_2 hj3_ hj4_) (by unfold vp_in; decide) (by decide) dX7_isSame_49 ?_
              refine lv_iconst (v := 1) hx hb dX7_isSame_50 (by decide) ?_
              obtain ⟨y8, h9_, h⟩ := mg_bind h
              have J51_ : ∀ (H : Heap) (locs : List Loc) (ls : Array Slot), mg_Vo D A s.heap H locs ([mg_fC g (o 53) (o 54) cC_10, mg_fS o u α ζ, mg_fM o (β6 0 0) (β6 1) y5, mg_fI o q7 5 (upd (fun _ => 0) 0 ((ζ.1 2 (10 * j3 + j4)) 0))]) → lv_has ls 13 [(0, .ref u), (1, .ref (g 0)), (2, .int x2_2), (3, .int x3_10), (4, .ref (α 2 (10 * j3 + j4))), (5, .ref (β6 0 0))] → W p l e (headSpec wsX7_isSame ({ frames := 8, cells := 2026, slots := 21893, locals := 136 } : Room)).room s m ([.ref u, .ref (g 0)] : List Value).toArray below meth c H locs (cl10_ + 9) (sl10_ + 82) (MQD lw_cs below (mg_QV D (fun _ => []) A (fun _ => some (.int 1))) ([.ref u, .ref (g 0)] : List Value).toArray s 2026 21893 A) (F0 m 62 ls [.int y8, .int 1, .ref q7, .ref q7]) := by
                intro H locs ls hw hl
                clear h9_
                refine mg_iasx (x := 1) (F' := mg_fI o q7 5 (upd (upd (fun _ => 0) 0 ((ζ.1 2 (10 * j3 + j4)) 0)) 1 y8)) hx hb hK hw 3 rfl mg_fI_0 (by unfold vp_in; decide) (by decide) mg_sI dX7_isSame_62 (fun H locs hw => ?_)
                refine lv_dup hx hb dX7_isSame_63 rfl ?_
                refine lv_iconst (v := 2) hx hb dX7_isSame_64 (by decide) ?_
                refine lv_aload hx hb dX7_isSame_65 (lv_at hl 4 rfl) ?_
                refine lv_iconst (v := 0) hx hb dX7_isSame_67 (by decide) ?_
                refine mg_ial (x := 0) hx hb hK hw 1 rfl (mg_fS_2 hj3_ hj4_) (by unfold vp_in; decide) (by decide) dX7_isSame_68 ?_
                refine lv_iconst (v := 1) hx hb dX7_isSame_69 (by decide) ?_
                obtain ⟨y9, h9_, h⟩ := mg_bind h
                have J70_ : ∀ (H : Heap) (locs : List Loc) (ls : Array Slot), mg_Vo D A s.heap H locs ([mg_fC g (o 53) (o 54) cC_10, mg_fS o u α ζ, mg_fM o (β6 0 0) (β6 1) y5, mg_fI o q7 5 (upd (upd (fun _ => 0) 0 ((ζ.1 2 (10 * j3 + j4)) 0)) 1 y8)]) → lv_has ls 13 [(0, .ref u), (1, .ref (g 0)), (2, .int x2_2), (3, .int x3_10), (5, .ref (β6 0 0))] → W p l e (headSpec wsX7_isSame ({ frames := 8, cells := 2026, slots := 21893, locals := 136 } : Room)).room s m ([.ref u, .ref (g 0)] : List Value).toArray below meth c H locs (cl10_ + 9) (sl10_ + 82) (MQD lw_cs below (mg_QV D (fun _ => []) A (fun _ => some (.int 1))) ([.ref u, .ref (g 0)] : List Value).toArray s 2026 21893 A) (F0 m 81 ls [.int y9, .int 2, .ref q7, .ref q7]) := by
                  intro H locs ls hw hl
                  clear h9_
                  refine mg_iasx (x := 2) (F' := mg_fI o q7 5 (upd (upd (upd (fun _ => 0) 0 ((ζ.1 2 (10 * j3 + j4)) 0)) 1 y8) 2 y9)) hx hb hK hw 3 rfl mg_fI_0 (by unfold vp_in; decide) (by decide) mg_sI dX7_isSame_81 (fun H locs hw => ?_)
                  refine lv_dup hx hb dX7_isSame_82 rfl ?_
                  refine lv_iconst (v := 3) hx hb dX7_isSame_83 (by decide) ?_
                  refine lv_aload hx hb dX7_isSame_84 (lv_at hl 4 rfl) ?_
                  obtain ⟨y10, h9_, h⟩ := mg_bind h
                  refine mg_callV (va_runS (As := [.ref (β6 0 0)]) (rest := [.int 3, .ref q7, .ref q7]) G9 (k_X7_many l D o (β6 0 0) (β6 1) H.size y5 y10 h9_) (va_cwS 1 hts gX7_isSame_X7_many rfl rfl rfl (by decide +kernel) ⟨Nat.le_of_ble_eq_true rfl, Nat.le_of_ble_eq_true rfl⟩) (mg_preVv hK hO hA (mg_Vsub (L' := [mg_fM o (β6 0 0) (β6 1) y5]) hw [2] rfl rfl)) rfl rfl hl.1 rfl (lv_room (Nat.le_of_ble_eq_true rfl)) dX7_isSame_86 ⟨(show cl10_ + 9 + 0 ≤ 2026 by omega), (show sl10_ + 82 + 0 ≤ 21893 by omega)⟩) hw hA [2] [0, 1, 3] rfl (Lr := [mg_fC g (o 53) (o 54) cC_10, mg_fS o u α ζ, mg_fI o q7 5 (upd (upd (upd (fun _ => 0) 0 ((ζ.1 2 (10 * j3 + j4)) 0)) 1 y8) 2 y9)]) rfl rfl (by decide) (fun β11 H locs hw => ?_)
                  clear h9_
                  have hw : mg_Vo D A s.heap H locs ([mg_fC g (o 53) (o 54) cC_10, mg_fS o u α ζ, mg_fI o q7 5 (upd (upd (upd (fun _ => 0) 0 ((ζ.1 2 (10 * j3 + j4)) 0)) 1 y8) 2 y9), mg_fM o (β6 0 0) (β6 1) y5]) := hw
                  refine mg_iasx (x := 3) (F' := mg_fI o q7 5 (upd (upd (upd (upd (fun _ => 0) 0 ((ζ.1 2 (10 * j3 + j4)) 0)) 1 y8) 2 y9) 3 y10)) hx hb hK hw 2 rfl mg_fI_0 (by unfold vp_in; decide) (by decide) mg_sI dX7_isSame_89 (fun H locs hw => ?_)
                  refine lv_dup hx hb dX7_isSame_90 rfl ?_
                  refine lv_iconst (v := 4) hx hb dX7_isSame_91 (by decide) ?_
                  refine lv_aload_n hx hb dX7_isSame_92 rfl (lv_at hl 0 rfl) ?_
                  refine lv_aload hx hb dX7_isSame_93 (lv_at hl 4 rfl) ?_
                  obtain ⟨y12, h9_, h⟩ := mg_bind h
                  refine mg_callV (va_runV (As := [.ref (β6 0 0)]) (rest := [.int 4, .ref q7, .ref q7]) G9 (k_X7_carpsIn l D o u α (β6 0 0) (β6 1) H.size ζ y5 y12 h9_) (cwV 1 hts gX7_isSame_X7_carpsIn rfl rfl rfl (by decide +kernel) ⟨Nat.le_of_ble_eq_true rfl, Nat.le_of_ble_eq_true rfl⟩) (mg_preVV hK hO hA (mg_Vsub (L' := [mg_fS o u α ζ, mg_fM o (β6 0 0) (β6 1) y5]) hw [1, 3] rfl rfl) 0 rfl mg_fS_00 rfl) rfl rfl hl.1 rfl (lv_room (Nat.le_of_ble_eq_true rfl)) dX7_isSame_95 ⟨(show cl10_ + 9 + 0 ≤ 2026 by omega), (show sl10_ + 82 + 0 ≤ 21893 by omega)⟩) hw hA [1, 3] [0, 2] rfl (Lr := [mg_fC g (o 53) (o 54) cC_10, mg_fI o q7 5 (upd (upd (upd (upd (fun _ => 0) 0 ((ζ.1 2 (10 * j3 + j4)) 0)) 1 y8) 2 y9) 3 y10)]) rfl rfl (by decide) (fun β13 H locs hw => ?_)
                  clear h9_
                  have hw : mg_Vo D A s.heap H locs ([mg_fC g (o 53) (o 54) cC_10, mg_fI o q7 5 (upd (upd (upd (upd (fun _ => 0) 0 ((ζ.1 2 (10 * j3 + j4)) 0)) 1 y8) 2 y9) 3 y10), mg_fS o u α ζ, mg_fM o (β6 0 0) (β6 1) y5]) := hw
                  refine mg_iasx (x := 4) (F' := mg_fI o q7 5 (upd (upd (upd (upd (upd (fun _ => 0) 0 ((ζ.1 2 (10 * j3 + j4)) 0)) 1 y8) 2 y9) 3 y10) 4 y12)) hx hb hK hw 1 rfl mg_fI_0 (by unfold vp_in; decide) (by decide) mg_sI dX7_isSame_98 (fun H locs hw => ?_)
                  refine lv_astore (lv' := [(6, .ref q7), (0, .ref u), (1, .ref (g 0)), (2, .int x2_2), (3, .int x3_10), (5, .ref (β6 0 0))]) hx hb dX7_isSame_99 hl (by decide) rfl (fun ls hl => ?_)
                  refine lv_iconst (v := 0) hx hb dX7_isSame_101 (by decide) ?_
                  refine lv_istore (lv' := [(7, .int 0), (6, .ref q7), (0, .ref u), (1, .ref (g 0)), (2, .int x2_2), (3, .int x3_10), (5, .ref (β6 0 0))]) hx hb dX7_isSame_102 hl (by decide) rfl (fun ls hl => ?_)
                  have L104_ : ∀ (n : Nat), ∀ (x7_104 : Int32) (cC_104 : mg_St) (y104_ : Int32 × mg_St), f_X7_isSame_104 x2_2 x3_10 (upd (upd (upd (upd (upd (fun _ => 0) 0 ((ζ.1 2 (10 * j3 + j4)) 0)) 1 y8) 2 y9) 3 y10) 4 y12) ζ n x7_104 cC_104 = some y104_ → (∀ (H : Heap) (locs : List Loc) (ls : Array Slot), mg_Vo D A s.heap H locs ([mg_fC g (o 53) (o 54) y104_.2, mg_fI o q7 5 (upd (upd (upd (upd (upd (fun _ => 0) 0 ((ζ.1 2 (10 * j3 + j4)) 0)) 1 y8) 2 y9) 3 y10) 4 y12), mg_fS o u α ζ]) → lv_has ls 13 [(0, .ref u), (1, .ref (g 0)), (2, .int x2_2), (3, .int x3_10)] → W p l e (headSpec wsX7_isSame ({ frames := 8, cells := 2026, slots := 21893, locals := 136 } : Room)).room s m ([.ref u, .ref (g 0)] : List Value).toArray below meth c H locs (cl10_ + 9) (sl10_ + 82) (MQD lw_cs below (mg_QV D (fun _ => []) A (fun _ => some (.int 1))) ([.ref u, .ref (g 0)] : List Value).toArray s 2026 21893 A) (F0 m 134 ls [])) → ∀ (H : Heap) (locs : List Loc) (ls : Array Slot), mg_Vo D A s.heap H locs ([mg_fC g (o 53) (o 54) cC_104, mg_fI o q7 5 (upd (upd (upd (upd (upd (fun _ => 0) 0 ((ζ.1 2 (10 * j3 + j4)) 0)) 1 y8) 2 y9) 3 y10) 4 y12), mg_fS o u α ζ]) → lv_has ls 13 [(0, .ref u), (1, .ref (g 0)), (2, .int x2_2), (3, .int x3_10), (6, .ref q7), (7, .int x7_104)] → W p l e (headSpec wsX7_isSame ({ frames := 8, cells := 2026, slots := 21893, locals := 136 } : Room)).room s m ([.ref u, .ref (g 0)] : List Value).toArray below meth c H locs (cl10_ + 9) (sl10_ + 82) (MQD lw_cs below (mg_QV D (fun _ => []) A (fun _ => some (.int 1))) ([.ref u, .ref (g 0)] : List Value).toArray s 2026 21893 A) (F0 m 104 ls []) := by
                    intro n
                    induction n with
                    | zero => intro x7_104 cC_104 y104_ h; rw [f_X7_isSame_104] at h; cases h
                    | succ n ih =>
                      intro x7_104 cC_104 y104_ h kc H locs ls hw hl
                      rw [f_X7_isSame_104] at h
                      refine lv_iload hx hb dX7_isSame_104 (lv_at hl 5 rfl) ?_
                      refine lv_iconst (v := 5) hx hb dX7_isSame_106 (by decide) ?_
                      refine mg_icmp_ge (tgt := 134) hx hb h dX7_isSame_107 (by decide) (fun h => ?_) (fun h => ?_)
                      · cases h
                        exact kc H locs ls hw (lv_sub hl [0, 1, 2, 3] rfl)
                      · refine lv_aload_n hx hb dX7_isSame_110 rfl (lv_at hl 1 rfl) ?_
                        refine lv_iload_n hx hb dX7_isSame_111 rfl (lv_at hl 3 rfl) ?_
                        refine lv_iload_n hx hb dX7_isSame_112 rfl (lv_at hl 2 rfl) ?_
                        refine lv_iload hx hb dX7_isSame_113 (lv_at hl 5 rfl) ?_
                        refine mg_vxq h (fun v : Int32 => some (.int v)) (fun mc9 ms9 o9 s9 hm9 h9 hc9 hs9 => vx_runV (As := [.int x3_10, .int x2_2, .int x7_104]) (rest := []) G9 (k_X6_cell l hst D o (o 53) (o 54) g H.size cC_104 x3_10 x2_2 x7_104 o9 s9 h9 mc9 ms9 hm9) (cwV 3 hts gX7_isSame_X6_cell rfl rfl rfl (by decide +kernel) ⟨Nat.le_of_ble_eq_true rfl, Nat.le_of_ble_eq_true rfl⟩) (mg_preV (hK.sub (tys' := [(o 53, .int), (o 54, .boolean)]) [0, 1] rfl) hO hA (mg_C_list hw 0 rfl) (q0 := 0) rfl rfl) rfl rfl hl.1 rfl (lv_room (Nat.le_of_ble_eq_true rfl)) dX7_isSame_115 ⟨hc9, hs9⟩) hw hA 0 [1, 2] rfl (Lr := [mg_fI o q7 5 (upd (upd (upd (upd (upd (fun _ => 0) 0 ((ζ.1 2 (10 * j3 + j4)) 0)) 1 y8) 2 y9) 3 y10) 4 y12), mg_fS o u α ζ]) rfl rfl (by decide) (show cl10_ + 9 ≤ 2026 by omega) (show sl10_ + 82 ≤ 21893 by omega) (fun v15 s16 h H locs hw => ?_)
                        refine lv_aload hx hb dX7_isSame_118 (lv_at hl 4 rfl) ?_
                        refine lv_iload hx hb dX7_isSame_120 (lv_at hl 5 rfl) ?_
                        refine mg_ialx hx hb hK hw 0 rfl mg_fI_0 h dX7_isSame_122 (fun j17 hj17_ h => ?_)
                        refine mg_icmp_eq (tgt := 128) hx hb h dX7_isSame_123 (by decide) (fun h => ?_) (fun h => ?_)
                        · refine lv_iinc (v := (x7_104 + 1)) (lv' := [(7, .int (x7_104 + 1)), (0, .ref u), (1, .ref (g 0)), (2, .int x2_2), (3, .int x3_10), (6, .ref q7)]) hx hb dX7_isSame_128 hl (k := 5) rfl rfl (by decide) rfl (fun ls hl => ?_)
                          refine lv_goto (tgt := 104) hx hb dX7_isSame_131 (by decide) ?_
                          exact ih _ _ _ h kc H locs ls (mg_Vsub hw [2, 0, 1] rfl rfl) (lv_sub hl [1, 2, 3, 4, 5, 0] rfl)
                        · cases h
                  obtain ⟨y14, h9_, h⟩ := mg_bind h
                  refine L104_ 5000 _ _ _ h9_ (fun H locs ls hw hl => ?_) H locs ls (mg_Vsub hw [0, 1, 2] rfl rfl) (lv_sub hl [2, 3, 4, 5, 1, 0] rfl)
                  clear L104_ h9_
                  refine lv_iinc (v := (x3_10 + 1)) (lv' := [(3, .int (x3_10 + 1)), (0, .ref u), (1, .ref (g 0)), (2, .int x2_2)]) hx hb dX7_isSame_134 hl (k := 3) rfl rfl (by decide) rfl (fun ls hl => ?_)
                  refine lv_goto (tgt := 10) hx hb dX7_isSame_137 (by decide) ?_
                  exact ih _ _ (by omega) (by omega) _ _ _ h kc H locs ls (mg_Vsub hw [0, 2] rfl rfl) (lv_sub hl [1, 2, 3, 0] rfl)
                clear h
                have h := h9_
                clear h9_
                refine mg_icmp_ne (tgt := 80) hx hb h dX7_isSame_70 (by decide) (fun h => ?_) (fun h => ?_)
                · refine lv_iconst (v := 0) hx hb dX7_isSame_80 (by decide) ?_
                  cases h
                  exact J70_ H locs ls hw (lv_sub hl [0, 1, 2, 3, 5] rfl)
                · refine lv_aload hx hb dX7_isSame_73 (lv_at hl 4 rfl) ?_
                  refine lv_iconst (v := 2) hx hb dX7_isSame_75 (by decide) ?_
                  refine mg_ial (x := 2) hx hb hK hw 1 rfl (mg_fS_2 hj3_ hj4_) (by unfold vp_in; decide) (by decide) dX7_isSame_76 ?_
                  refine lv_goto (tgt := 81) hx hb dX7_isSame_77 (by decide) ?_
                  cases h
                  exact J70_ H locs ls hw (lv_sub hl [0, 1, 2, 3, 5] rfl)
              clear h
              have h := h9_
              clear h9_
              refine mg_icmp_ne (tgt := 61) hx hb h dX7_isSame_51 (by decide) (fun h => ?_) (fun h => ?_)
              · refine lv_iconst (v := (-1)) hx hb dX7_isSame_61 (by decide) ?_
                cases h
                exact J51_ H locs ls hw (lv_sub hl [2, 3, 4, 5, 1, 0] rfl)
              · refine lv_aload hx hb dX7_isSame_54 (lv_at hl 1 rfl) ?_
                refine lv_iconst (v := 1) hx hb dX7_isSame_56 (by decide) ?_
                refine mg_ial (x := 1) hx hb hK hw 1 rfl (mg_fS_2 hj3_ hj4_) (by unfold vp_in; decide) (by decide) dX7_isSame_57 ?_
                refine lv_goto (tgt := 62) hx hb dX7_isSame_58 (by decide) ?_
                cases h
                exact J51_ H locs ls hw (lv_sub hl [2, 3, 4, 5, 1, 0] rfl)
        obtain ⟨y2, h9_, h⟩ := mg_bind h
        refine L10_ 11 cl2_ sl2_ (Nat.le_refl (cl2_ + 99)) (Nat.le_refl (sl2_ + 902)) _ _ _ h9_ (fun H locs ls hw hl => ?_) H locs ls hw (lv_sub hl [1, 2, 3, 0] rfl)
        clear L10_ h9_
        refine lv_iinc (v := (x2_2 + 1)) (lv' := [(2, .int (x2_2 + 1)), (0, .ref u), (1, .ref (g 0))]) hx hb dX7_isSame_140 hl (k := 2) rfl rfl (by decide) rfl (fun ls hl => ?_)
        refine lv_goto (tgt := 2) hx hb dX7_isSame_143 (by decide) ?_
        exact ih _ _ (by omega) (by omega) _ _ _ h kc H locs ls hw (lv_sub hl [1, 2, 0] rfl)
  obtain ⟨y1, h9_, h⟩ := mg_bind h
  refine L2_ 8 0 0 (Nat.le_refl 792) (Nat.le_refl 7216) _ _ _ h9_ (fun H locs ls hw hl => ?_) H locs ls hw (lv_sub hl [1, 2, 0] rfl)
  clear L2_ h9_
  refine lv_iconst (v := 0) hx hb dX7_isSame_146 (by decide) ?_
  refine lv_istore_n (lv' := [(2, .int 0), (0, .ref u), (1, .ref (g 0))]) hx hb dX7_isSame_147 rfl hl (by decide) rfl (fun ls hl => ?_)
  have L148_ : ∀ (n : Nat), ∀ (cl148_ sl148_ : Nat), cl148_ + n * 1 ≤ 823 → sl148_ + n * 5 ≤ 7371 → ∀ (x2_148 : Int32) (cC_148 : mg_St) (y148_ : Int32 × mg_St), f_X7_isSame_148 ζ n x2_148 cC_148 = some y148_ → (∀ (H : Heap) (locs : List Loc) (ls : Array Slot), mg_Vo D A s.heap H locs ([mg_fC g (o 53) (o 54) y148_.2, mg_fS o u α ζ]) → lv_has ls 13 [(0, .ref u), (1, .ref (g 0))] → W p l e (headSpec wsX7_isSame ({ frames := 8, cells := 2026, slots := 21893, locals := 136 } : Room)).room s m ([.ref u, .ref (g 0)] : List Value).toArray below meth c H locs 823 7371 (MQD lw_cs below (mg_QV D (fun _ => []) A (fun _ => some (.int 1))) ([.ref u, .ref (g 0)] : List Value).toArray s 2026 21893 A) (F0 m 311 ls [])) → ∀ (H : Heap) (locs : List Loc) (ls : Array Slot), mg_Vo D A s.heap H locs ([mg_fC g (o 53) (o 54) cC_148, mg_fS o u α ζ]) → lv_has ls 13 [(0, .ref u), (1, .ref (g 0)), (2, .int x2_148)] → W p l e (headSpec wsX7_isSame ({ frames := 8, cells := 2026, slots := 21893, locals := 136 } : Room)).room s m ([.ref u, .ref (g 0)] : List Value).toArray below meth c H locs cl148_ sl148_ (MQD lw_cs below (mg_QV D (fun _ => []) A (fun _ => some (.int 1))) ([.ref u, .ref (g 0)] : List Value).toArray s 2026 21893 A) (F0 m 148 ls []) := by
    intro n
    induction n with
    | zero => intro cl148_ sl148_ hcl148_ hsl148_ x2_148 cC_148 y148_ h; rw [f_X7_isSame_148] at h; cases h
    | succ n ih =>
      intro cl148_ sl148_ hcl148_ hsl148_ x2_148 cC_148 y148_ h kc H locs ls hw hl
      rw [f_X7_isSame_148] at h
      refine lv_iload_n hx hb dX7_isSame_148 rfl (lv_at hl 2 rfl) ?_
      refine lv_aload_n hx hb dX7_isSame_149 rfl (lv_at hl 0 rfl) ?_
      refine va_get (D := D) (ci := 7) (v := .ref (α 0 2)) (C := RX7) (T := TX7) (N := 6) hx hb hts iX7_ hown hK (mg_at1 hw.1 1 rfl mg_fS_00) 0 rfl rfl 3 (by decide) w3_ (fun _ h9 => h9) rfl dX7_isSame_150 ?_
      refine mg_alenq hx hb hK hw 1 2 rfl mg_fS_02 rfl dX7_isSame_153 ?_
      refine mg_icmp_ge (tgt := 311) hx hb h dX7_isSame_154 (by decide) (fun h => ?_) (fun h => ?_)
      · cases h
        refine W.widen (k := 823) (n := 7371) (by omega) (by omega) ?_
        exact kc H locs ls hw (lv_sub hl [0, 1] rfl)
      · refine lv_aload_n hx hb dX7_isSame_157 rfl (lv_at hl 0 rfl) ?_
        refine va_get (D := D) (ci := 7) (v := .ref (α 0 2)) (C := RX7) (T := TX7) (N := 6) hx hb hts iX7_ hown hK (mg_at1 hw.1 1 rfl mg_fS_00) 0 rfl rfl 3 (by decide) w3_ (fun _ h9 => h9) rfl dX7_isSame_158 ?_
        refine lv_iload_n hx hb dX7_isSame_161 rfl (lv_at hl 2 rfl) ?_
        refine mg_aal hx hb hK hw 1 2 rfl mg_fS_02 rfl rfl h dX7_isSame_162 (fun j19 hj19_ h => ?_)
        refine lv_astore_n (lv' := [(3, .ref (α 3 j19)), (0, .ref u), (1, .ref (g 0)), (2, .int x2_148)]) hx hb dX7_isSame_163 rfl hl (by decide) rfl (fun ls hl => ?_)
        refine lv_iconst (v := 1) hx hb dX7_isSame_164 (by decide) ?_
        refine lv_istore (lv' := [(4, .int 1), (3, .ref (α 3 j19)), (0, .ref u), (1, .ref (g 0)), (2, .int x2_148)]) hx hb dX7_isSame_165 hl (by decide) rfl (fun ls hl => ?_)
        refine lv_aload_n hx hb dX7_isSame_167 rfl (lv_at hl 2 rfl) ?_
        refine va_get (D := D) (ci := 7) (v := .ref (α 0 2)) (C := RX7) (T := TX7) (N := 6) hx hb hts iX7_ hown hK (mg_at1 hw.1 1 rfl mg_fS_00) 0 rfl rfl 3 (by decide) w3_ (fun _ h9 => h9) rfl dX7_isSame_168 ?_
        refine lv_astore (lv' := [(5, .ref (α 0 2)), (4, .int 1), (3, .ref (α 3 j19)), (0, .ref u), (1, .ref (g 0)), (2, .int x2_148)]) hx hb dX7_isSame_171 hl (by decide) rfl (fun ls hl => ?_)
        refine lv_aload hx hb dX7_isSame_173 (lv_at hl 0 rfl) ?_
        refine mg_alenq hx hb hK hw 1 2 rfl mg_fS_02 rfl dX7_isSame_175 ?_
        refine lv_istore (lv' := [(6, .int (nI (ζ.2 0))), (5, .ref (α 0 2)), (4, .int 1), (3, .ref (α 3 j19)), (0, .ref u), (1, .ref (g 0)), (2, .int x2_148)]) hx hb dX7_isSame_176 hl (by decide) rfl (fun ls hl => ?_)
        refine lv_iconst (v := 0) hx hb dX7_isSame_178 (by decide) ?_
        refine lv_istore (lv' := [(7, .int 0), (6, .int (nI (ζ.2 0))), (5, .ref (α 0 2)), (4, .int 1), (3, .ref (α 3 j19)), (0, .ref u), (1, .ref (g 0)), (2, .int x2_148)]) hx hb dX7_isSame_179 hl (by decide) rfl (fun ls hl => ?_)
        have L181_ : ∀ (n : Nat), ∀ (x4_181 : Int32) (x7_181 : Int32) (y181_ : Int32 × Int32), f_X7_isSame_181 j19 x2_148 (nI (ζ.2 0)) cC_148 ζ n x4_181 x7_181 = some y181_ → (∀ (H : Heap) (locs : List Loc) (ls : Array Slot), mg_Vo D A s.heap H locs ([mg_fC g (o 53) (o 54) cC_148, mg_fS o u α ζ]) → lv_has ls 13 [(0, .ref u), (1, .ref (g 0)), (2, .int x2_148), (3, .ref (α 3 j19)), (4, .int y181_.1)] → W p l e (headSpec wsX7_isSame ({ frames := 8, cells := 2026, slots := 21893, locals := 136 } : Room)).room s m ([.ref u, .ref (g 0)] : List Value).toArray below meth c H locs cl148_ sl148_ (MQD lw_cs below (mg_QV D (fun _ => []) A (fun _ => some (.int 1))) ([.ref u, .ref (g 0)] : List Value).toArray s 2026 21893 A) (F0 m 228 ls [])) → ∀ (H : Heap) (locs : List Loc) (ls : Array Slot), mg_Vo D A s.heap H locs ([mg_fC g (o 53) (o 54) cC_148, mg_fS o u α ζ]) → lv_has ls 13 [(0, .ref u), (1, .ref (g 0)), (2, .int x2_148), (3, .ref (α 3 j19)), (4, .int x4_181), (5, .ref (α 0 2)), (6, .int (nI (ζ.2 0))), (7, .int x7_181)] → W p l e (headSpec wsX7_isSame ({ frames := 8, cells := 2026, slots := 21893, locals := 136 } : Room)).room s m ([.ref u, .ref (g 0)] : List Value).toArray below meth c H locs cl148_ sl148_ (MQD lw_cs below (mg_QV D (fun _ => []) A (fun _ => some (.int 1))) ([.ref u, .ref (g 0)] : List Value).toArray s 2026 21893 A) (F0 m 181 ls []) := by
          intro n
          induction n with
          | zero => intro x4_181 x7_181 y181_ h; rw [f_X7_isSame_181] at h; cases h
          | succ n ih =>
            intro x4_181 x7_181 y181_ h kc H locs ls hw hl
            rw [f_X7_isSame_181] at h
            refine lv_iload hx hb dX7_isSame_181 (lv_at hl 7 rfl) ?_
            refine lv_iload hx hb dX7_isSame_183 (lv_at hl 6 rfl) ?_
            refine mg_icmp_ge (tgt := 228) hx hb h dX7_isSame_185 (by decide) (fun h => ?_) (fun h => ?_)
            · cases h
              exact kc H locs ls hw (lv_sub hl [0, 1, 2, 3, 4] rfl)
            · refine lv_aload hx hb dX7_isSame_188 (lv_at hl 5 rfl) ?_
              refine lv_iload hx hb dX7_isSame_190 (lv_at hl 7 rfl) ?_
              refine mg_aal hx hb hK hw 1 2 rfl mg_fS_02 rfl rfl h dX7_isSame_192 (fun j21 hj21_ h => ?_)
              refine lv_astore (lv' := [(8, .ref (α 3 j21)), (0, .ref u), (1, .ref (g 0)), (2, .int x2_148), (3, .ref (α 3 j19)), (4, .int x4_181), (5, .ref (α 0 2)), (6, .int (nI (ζ.2 0))), (7, .int x7_181)]) hx hb dX7_isSame_193 hl (by decide) rfl (fun ls hl => ?_)
              refine lv_iload hx hb dX7_isSame_195 (lv_at hl 5 rfl) ?_
              refine lv_aload hx hb dX7_isSame_197 (lv_at hl 0 rfl) ?_
              refine lv_iconst (v := 3) hx hb dX7_isSame_199 (by decide) ?_
              refine mg_ial (x := 3) hx hb hK hw 1 rfl (mg_fS_3 hj21_) (by unfold vp_in; decide) (by decide) dX7_isSame_200 ?_
              refine mg_if_ne (tgt := 218) hx hb h dX7_isSame_201 (by decide) (fun h => ?_) (fun h => ?_)
              · refine lv_iconst (v := 0) hx hb dX7_isSame_218 (by decide) ?_
                refine lv_iadd hx hb dX7_isSame_219 ?_
                refine lv_istore (lv' := [(4, .int (x4_181 + 0)), (8, .ref (α 3 j21)), (0, .ref u), (1, .ref (g 0)), (2, .int x2_148), (3, .ref (α 3 j19)), (5, .ref (α 0 2)), (6, .int (nI (ζ.2 0))), (7, .int x7_181)]) hx hb dX7_isSame_220 hl (by decide) rfl (fun ls hl => ?_)
                refine lv_iinc (v := (x7_181 + 1)) (lv' := [(7, .int (x7_181 + 1)), (4, .int (x4_181 + 0)), (8, .ref (α 3 j21)), (0, .ref u), (1, .ref (g 0)), (2, .int x2_148), (3, .ref (α 3 j19)), (5, .ref (α 0 2)), (6, .int (nI (ζ.2 0)))]) hx hb dX7_isSame_222 hl (k := 8) rfl rfl (by decide) rfl (fun ls hl => ?_)
                refine lv_goto (tgt := 181) hx hb dX7_isSame_225 (by decide) ?_
                exact ih _ _ _ h kc H locs ls hw (lv_sub hl [3, 4, 5, 6, 1, 7, 8, 0] rfl)
              · refine lv_aload hx hb dX7_isSame_204 (lv_at hl 0 rfl) ?_
                refine lv_iconst (v := 2) hx hb dX7_isSame_206 (by decide) ?_
                refine mg_ial (x := 2) hx hb hK hw 1 rfl (mg_fS_3 hj21_) (by unfold vp_in; decide) (by decide) dX7_isSame_207 ?_
                refine lv_aload_n hx hb dX7_isSame_208 rfl (lv_at hl 4 rfl) ?_
                refine lv_iconst (v := 2) hx hb dX7_isSame_209 (by decide) ?_
                refine mg_ial (x := 2) hx hb hK hw 1 rfl (mg_fS_3 hj19_) (by unfold vp_in; decide) (by decide) dX7_isSame_210 ?_
                refine mg_icmp_le (tgt := 218) hx hb h dX7_isSame_211 (by decide) (fun h => ?_) (fun h => ?_)
                · refine lv_iconst (v := 0) hx hb dX7_isSame_218 (by decide) ?_
                  refine lv_iadd hx hb dX7_isSame_219 ?_
                  refine lv_istore (lv' := [(4, .int (x4_181 + 0)), (8, .ref (α 3 j21)), (0, .ref u), (1, .ref (g 0)), (2, .int x2_148), (3, .ref (α 3 j19)), (5, .ref (α 0 2)), (6, .int (nI (ζ.2 0))), (7, .int x7_181)]) hx hb dX7_isSame_220 hl (by decide) rfl (fun ls hl => ?_)
                  refine lv_iinc (v := (x7_181 + 1)) (lv' := [(7, .int (x7_181 + 1)), (4, .int (x4_181 + 0)), (8, .ref (α 3 j21)), (0, .ref u), (1, .ref (g 0)), (2, .int x2_148), (3, .ref (α 3 j19)), (5, .ref (α 0 2)), (6, .int (nI (ζ.2 0)))]) hx hb dX7_isSame_222 hl (k := 8) rfl rfl (by decide) rfl (fun ls hl => ?_)
                  refine lv_goto (tgt := 181) hx hb dX7_isSame_225 (by decide) ?_
                  exact ih _ _ _ h kc H locs ls hw (lv_sub hl [3, 4, 5, 6, 1, 7, 8, 0] rfl)
                · refine lv_iconst (v := 1) hx hb dX7_isSame_214 (by decide) ?_
                  refine lv_goto (tgt := 219) hx hb dX7_isSame_215 (by decide) ?_
                  refine lv_iadd hx hb dX7_isSame_219 ?_
                  refine lv_istore (lv' := [(4, .int (x4_181 + 1)), (8, .ref (α 3 j21)), (0, .ref u), (1, .ref (g 0)), (2, .int x2_148), (3, .ref (α 3 j19)), (5, .ref (α 0 2)), (6, .int (nI (ζ.2 0))), (7, .int x7_181)]) hx hb dX7_isSame_220 hl (by decide) rfl (fun ls hl => ?_)
                  refine lv_iinc (v := (x7_181 + 1)) (lv' := [(7, .int (x7_181 + 1)), (4, .int (x4_181 + 1)), (8, .ref (α 3 j21)), (0, .ref u), (1, .ref (g 0)), (2, .int x2_148), (3, .ref (α 3 j19)), (5, .ref (α 0 2)), (6, .int (nI (ζ.2 0)))]) hx hb dX7_isSame_222 hl (k := 8) rfl rfl (by decide) rfl (fun ls hl => ?_)
                  refine lv_goto (tgt := 181) hx hb dX7_isSame_225 (by decide) ?_
                  exact ih _ _ _ h kc H locs ls hw (lv_sub hl [3, 4, 5, 6, 1, 7, 8, 0] rfl)
        obtain ⟨y20, h9_, h⟩ := mg_bind h
        refine L181_ 5000 _ _ _ h9_ (fun H locs ls hw hl => ?_) H locs ls hw (lv_sub hl [5, 6, 7, 4, 3, 2, 1, 0] rfl)
        clear L181_ h9_
        refine lv_iconst (v := 5) hx hb dX7_isSame_228 (by decide) ?_
        refine mg_vnewI (n := 5) (N := 5) (B := 5) hx hb w2_ hK hw hA (by decide) rfl (Nat.le_refl _) (Nat.le_of_ble_eq_true rfl) (show cl148_ + 1 ≤ 2026 by omega) (show sl148_ + 5 ≤ 21893 by omega) dX7_isSame_229 (fun q22 H hw => ?_)
        refine lv_dup hx hb dX7_isSame_231 rfl ?_
        refine lv_iconst (v := 0) hx hb dX7_isSame_232 (by decide) ?_
        refine lv_aload_n hx hb dX7_isSame_233 rfl (lv_at hl 3 rfl) ?_
        refine lv_iconst (v := 0) hx hb dX7_isSame_234 (by decide) ?_
        refine mg_ial (x := 0) hx hb hK hw 1 rfl (mg_fS_3 hj19_) (by unfold vp_in; decide) (by decide) dX7_isSame_235 ?_
        refine mg_iasx (x := 0) (F' := mg_fI o q22 5 (upd (fun _ => 0) 0 ((ζ.1 3 j19) 0))) hx hb hK hw 2 rfl mg_fI_0 (by unfold vp_in; decide) (by decide) mg_sI dX7_isSame_236 (fun H locs hw => ?_)
        refine lv_dup hx hb dX7_isSame_237 rfl ?_
        refine lv_iconst (v := 1) hx hb dX7_isSame_238 (by decide) ?_
        refine lv_aload_n hx hb dX7_isSame_239 rfl (lv_at hl 3 rfl) ?_
        refine lv_iconst (v := 1) hx hb dX7_isSame_240 (by decide) ?_
        refine mg_ial (x := 1) hx hb hK hw 1 rfl (mg_fS_3 hj19_) (by unfold vp_in; decide) (by decide) dX7_isSame_241 ?_
        refine mg_iasx (x := 1) (F' := mg_fI o q22 5 (upd (upd (fun _ => 0) 0 ((ζ.1 3 j19) 0)) 1 ((ζ.1 3 j19) 1))) hx hb hK hw 2 rfl mg_fI_0 (by unfold vp_in; decide) (by decide) mg_sI dX7_isSame_242 (fun H locs hw => ?_)
        refine lv_dup hx hb dX7_isSame_243 rfl ?_
        refine lv_iconst (v := 2) hx hb dX7_isSame_244 (by decide) ?_
        refine lv_aload_n hx hb dX7_isSame_245 rfl (lv_at hl 3 rfl) ?_
        refine lv_iconst (v := 2) hx hb dX7_isSame_246 (by decide) ?_
        refine mg_ial (x := 2) hx hb hK hw 1 rfl (mg_fS_3 hj19_) (by unfold vp_in; decide) (by decide) dX7_isSame_247 ?_
        refine mg_iasx (x := 2) (F' := mg_fI o q22 5 (upd (upd (upd (fun _ => 0) 0 ((ζ.1 3 j19) 0)) 1 ((ζ.1 3 j19) 1)) 2 ((ζ.1 3 j19) 2))) hx hb hK hw 2 rfl mg_fI_0 (by unfold vp_in; decide) (by decide) mg_sI dX7_isSame_248 (fun H locs hw => ?_)
        refine lv_dup hx hb dX7_isSame_249 rfl ?_
        refine lv_iconst (v := 3) hx hb dX7_isSame_250 (by decide) ?_
        refine lv_aload_n hx hb dX7_isSame_251 rfl (lv_at hl 3 rfl) ?_
        refine lv_iconst (v := 3) hx hb dX7_isSame_252 (by decide) ?_
        refine mg_ial (x := 3) hx hb hK hw 1 rfl (mg_fS_3 hj19_) (by unfold vp_in; decide) (by decide) dX7_isSame_253 ?_
        refine mg_iasx (x := 3) (F' := mg_fI o q22 5 (upd (upd (upd (upd (fun _ => 0) 0 ((ζ.1 3 j19) 0)) 1 ((ζ.1 3 j19) 1)) 2 ((ζ.1 3 j19) 2)) 3 ((ζ.1 3 j19) 3))) hx hb hK hw 2 rfl mg_fI_0 (by unfold vp_in; decide) (by decide) mg_sI dX7_isSame_254 (fun H locs hw => ?_)
        refine lv_dup hx hb dX7_isSame_255 rfl ?_
        refine lv_iconst (v := 4) hx hb dX7_isSame_256 (by decide) ?_
        refine lv_aload_n hx hb dX7_isSame_257 rfl (lv_at hl 3 rfl) ?_
        refine lv_iconst (v := 3) hx hb dX7_isSame_258 (by decide) ?_
        refine mg_ial (x := 3) hx hb hK hw 1 rfl (mg_fS_3 hj19_) (by unfold vp_in; decide) (by decide) dX7_isSame_259 ?_
        refine lv_iconst (v := 1) hx hb dX7_isSame_260 (by decide) ?_
        obtain ⟨y23, h9_, h⟩ := mg_bind h
        have J261_ : ∀ (H : Heap) (locs : List Loc) (ls : Array Slot), mg_Vo D A s.heap H locs ([mg_fC g (o 53) (o 54) cC_148, mg_fS o u α ζ, mg_fI o q22 5 (upd (upd (upd (upd (fun _ => 0) 0 ((ζ.1 3 j19) 0)) 1 ((ζ.1 3 j19) 1)) 2 ((ζ.1 3 j19) 2)) 3 ((ζ.1 3 j19) 3))]) → lv_has ls 13 [(0, .ref u), (1, .ref (g 0)), (2, .int x2_148)] → W p l e (headSpec wsX7_isSame ({ frames := 8, cells := 2026, slots := 21893, locals := 136 } : Room)).room s m ([.ref u, .ref (g 0)] : List Value).toArray below meth c H locs (cl148_ + 1) (sl148_ + 5) (MQD lw_cs below (mg_QV D (fun _ => []) A (fun _ => some (.int 1))) ([.ref u, .ref (g 0)] : List Value).toArray s 2026 21893 A) (F0 m 270 ls [.int y23, .int 4, .ref q22, .ref q22]) := by
          intro H locs ls hw hl
          clear h9_
          refine mg_iasx (x := 4) (F' := mg_fI o q22 5 (upd (upd (upd (upd (upd (fun _ => 0) 0 ((ζ.1 3 j19) 0)) 1 ((ζ.1 3 j19) 1)) 2 ((ζ.1 3 j19) 2)) 3 ((ζ.1 3 j19) 3)) 4 y23)) hx hb hK hw 2 rfl mg_fI_0 (by unfold vp_in; decide) (by decide) mg_sI dX7_isSame_270 (fun H locs hw => ?_)
          refine lv_astore (lv' := [(5, .ref q22), (0, .ref u), (1, .ref (g 0)), (2, .int x2_148)]) hx hb dX7_isSame_271 hl (by decide) rfl (fun ls hl => ?_)
          refine lv_iconst (v := 0) hx hb dX7_isSame_273 (by decide) ?_
          refine lv_istore (lv' := [(6, .int 0), (5, .ref q22), (0, .ref u), (1, .ref (g 0)), (2, .int x2_148)]) hx hb dX7_isSame_274 hl (by decide) rfl (fun ls hl => ?_)
          have L276_ : ∀ (n : Nat), ∀ (x6_276 : Int32) (cC_276 : mg_St) (y276_ : Int32 × mg_St), f_X7_isSame_276 x2_148 ζ (upd (upd (upd (upd (upd (fun _ => 0) 0 ((ζ.1 3 j19) 0)) 1 ((ζ.1 3 j19) 1)) 2 ((ζ.1 3 j19) 2)) 3 ((ζ.1 3 j19) 3)) 4 y23) n x6_276 cC_276 = some y276_ → (∀ (H : Heap) (locs : List Loc) (ls : Array Slot), mg_Vo D A s.heap H locs ([mg_fC g (o 53) (o 54) y276_.2, mg_fS o u α ζ, mg_fI o q22 5 (upd (upd (upd (upd (upd (fun _ => 0) 0 ((ζ.1 3 j19) 0)) 1 ((ζ.1 3 j19) 1)) 2 ((ζ.1 3 j19) 2)) 3 ((ζ.1 3 j19) 3)) 4 y23)]) → lv_has ls 13 [(0, .ref u), (1, .ref (g 0)), (2, .int x2_148)] → W p l e (headSpec wsX7_isSame ({ frames := 8, cells := 2026, slots := 21893, locals := 136 } : Room)).room s m ([.ref u, .ref (g 0)] : List Value).toArray below meth c H locs (cl148_ + 1) (sl148_ + 5) (MQD lw_cs below (mg_QV D (fun _ => []) A (fun _ => some (.int 1))) ([.ref u, .ref (g 0)] : List Value).toArray s 2026 21893 A) (F0 m 305 ls [])) → ∀ (H : Heap) (locs : List Loc) (ls : Array Slot), mg_Vo D A s.heap H locs ([mg_fC g (o 53) (o 54) cC_276, mg_fS o u α ζ, mg_fI o q22 5 (upd (upd (upd (upd (upd (fun _ => 0) 0 ((ζ.1 3 j19) 0)) 1 ((ζ.1 3 j19) 1)) 2 ((ζ.1 3 j19) 2)) 3 ((ζ.1 3 j19) 3)) 4 y23)]) → lv_has ls 13 [(0, .ref u), (1, .ref (g 0)), (2, .int x2_148), (5, .ref q22), (6, .int x6_276)] → W p l e (headSpec wsX7_isSame ({ frames := 8, cells := 2026, slots := 21893, locals := 136 } : Room)).room s m ([.ref u, .ref (g 0)] : List Value).toArray below meth c H locs (cl148_ + 1) (sl148_ + 5) (MQD lw_cs below (mg_QV D (fun _ => []) A (fun _ => some (.int 1))) ([.ref u, .ref (g 0)] : List Value).toArray s 2026 21893 A) (F0 m 276 ls []) := by
            intro n
            induction n with
            | zero => intro x6_276 cC_276 y276_ h; rw [f_X7_isSame_276] at h; cases h
            | succ n ih =>
              intro x6_276 cC_276 y276_ h kc H locs ls hw hl
              rw [f_X7_isSame_276] at h
              refine lv_iload hx hb dX7_isSame_276 (lv_at hl 4 rfl) ?_
              refine lv_iconst (v := 5) hx hb dX7_isSame_278 (by decide) ?_
              refine mg_icmp_ge (tgt := 305) hx hb h dX7_isSame_279 (by decide) (fun h => ?_) (fun h => ?_)
              · cases h
                exact kc H locs ls hw (lv_sub hl [0, 1, 2] rfl)
              · refine lv_aload_n hx hb dX7_isSame_282 rfl (lv_at hl 1 rfl) ?_
                refine lv_iload_n hx hb dX7_isSame_283 rfl (lv_at hl 2 rfl) ?_
                refine lv_iload hx hb dX7_isSame_284 (lv_at hl 4 rfl) ?_
                refine mg_vxq h (fun v : Int32 => some (.int v)) (fun mc9 ms9 o9 s9 hm9 h9 hc9 hs9 => vx_runV (As := [.int x2_148, .int x6_276]) (rest := []) G9 (k_X6_told l hst D o (o 53) (o 54) g H.size cC_276 x2_148 x6_276 o9 s9 h9 mc9 ms9 hm9) (cwV 2 hts gX7_isSame_X6_told rfl rfl rfl (by decide +kernel) ⟨Nat.le_of_ble_eq_true rfl, Nat.le_of_ble_eq_true rfl⟩) (mg_preV (hK.sub (tys' := [(o 53, .int), (o 54, .boolean)]) [0, 1] rfl) hO hA (mg_C_list hw 0 rfl) (q0 := 0) rfl rfl) rfl rfl hl.1 rfl (lv_room (Nat.le_of_ble_eq_true rfl)) dX7_isSame_286 ⟨hc9, hs9⟩) hw hA 0 [1, 2] rfl (Lr := [mg_fS o u α ζ, mg_fI o q22 5 (upd (upd (upd (upd (upd (fun _ => 0) 0 ((ζ.1 3 j19) 0)) 1 ((ζ.1 3 j19) 1)) 2 ((ζ.1 3 j19) 2)) 3 ((ζ.1 3 j19) 3)) 4 y23)]) rfl rfl (by decide) (show cl148_ + 1 ≤ 2026 by omega) (show sl148_ + 5 ≤ 21893 by omega) (fun v25 s26 h H locs hw => ?_)
                refine lv_aload hx hb dX7_isSame_289 (lv_at hl 3 rfl) ?_
                refine lv_iload hx hb dX7_isSame_291 (lv_at hl 4 rfl) ?_
                refine mg_ialx hx hb hK hw 1 rfl mg_fI_0 h dX7_isSame_293 (fun j27 hj27_ h => ?_)
                refine mg_icmp_eq (tgt := 299) hx hb h dX7_isSame_294 (by decide) (fun h => ?_) (fun h => ?_)
                · refine lv_iinc (v := (x6_276 + 1)) (lv' := [(6, .int (x6_276 + 1)), (0, .ref u), (1, .ref (g 0)), (2, .int x2_148), (5, .ref q22)]) hx hb dX7_isSame_299 hl (k := 4) rfl rfl (by decide) rfl (fun ls hl => ?_)
                  refine lv_goto (tgt := 276) hx hb dX7_isSame_302 (by decide) ?_
                  exact ih _ _ _ h kc H locs ls (mg_Vsub hw [2, 0, 1] rfl rfl) (lv_sub hl [1, 2, 3, 4, 0] rfl)
                · cases h
          obtain ⟨y24, h9_, h⟩ := mg_bind h
          refine L276_ 5000 _ _ _ h9_ (fun H locs ls hw hl => ?_) H locs ls hw (lv_sub hl [2, 3, 4, 1, 0] rfl)
          clear L276_ h9_
          refine lv_iinc (v := (x2_148 + 1)) (lv' := [(2, .int (x2_148 + 1)), (0, .ref u), (1, .ref (g 0))]) hx hb dX7_isSame_305 hl (k := 2) rfl rfl (by decide) rfl (fun ls hl => ?_)
          refine lv_goto (tgt := 148) hx hb dX7_isSame_308 (by decide) ?_
          exact ih _ _ (by omega) (by omega) _ _ _ h kc H locs ls (mg_Vsub hw [0, 1] rfl rfl) (lv_sub hl [1, 2, 0] rfl)
        clear h
        have h := h9_
        clear h9_
        refine mg_icmp_ne (tgt := 268) hx hb h dX7_isSame_261 (by decide) (fun h => ?_) (fun h => ?_)
        · refine lv_iload hx hb dX7_isSame_268 (lv_at hl 4 rfl) ?_
          cases h
          exact J261_ H locs ls hw (lv_sub hl [0, 1, 2] rfl)
        · refine lv_iconst (v := 0) hx hb dX7_isSame_264 (by decide) ?_
          refine lv_goto (tgt := 270) hx hb dX7_isSame_265 (by decide) ?_
          cases h
          exact J261_ H locs ls hw (lv_sub hl [0, 1, 2] rfl)
  obtain ⟨y18, h9_, h⟩ := mg_bind h
  refine L148_ 31 792 7216 (Nat.le_refl 823) (Nat.le_refl 7371) _ _ _ h9_ (fun H locs ls hw hl => ?_) H locs ls hw (lv_sub hl [1, 2, 0] rfl)
  clear L148_ h9_
  refine lv_iconst (v := 0) hx hb dX7_isSame_311 (by decide) ?_
  refine lv_istore_n (lv' := [(2, .int 0), (0, .ref u), (1, .ref (g 0))]) hx hb dX7_isSame_312 rfl hl (by decide) rfl (fun ls hl => ?_)
  refine lv_iconst (v := (-1)) hx hb dX7_isSame_313 (by decide) ?_
  refine lv_istore_n (lv' := [(3, .int (-1)), (2, .int 0), (0, .ref u), (1, .ref (g 0))]) hx hb dX7_isSame_314 rfl hl (by decide) rfl (fun ls hl => ?_)
  refine lv_aload_n hx hb dX7_isSame_315 rfl (lv_at hl 2 rfl) ?_
  refine va_get (D := D) (ci := 7) (v := .ref (α 0 3)) (C := RX7) (T := TX7) (N := 6) hx hb hts iX7_ hown hK (mg_at1 hw.1 1 rfl mg_fS_00) 0 rfl rfl 4 (by decide) w4_ (fun _ h9 => h9) rfl dX7_isSame_316 ?_
  refine mg_alenq hx hb hK hw 1 2 rfl mg_fS_03 rfl dX7_isSame_319 ?_
  refine lv_iconst (v := 1) hx hb dX7_isSame_320 (by decide) ?_
  refine lv_isub hx hb dX7_isSame_321 ?_
  refine lv_istore (lv' := [(4, .int ((nI (ζ.2 1)) - 1)), (3, .int (-1)), (2, .int 0), (0, .ref u), (1, .ref (g 0))]) hx hb dX7_isSame_322 hl (by decide) rfl (fun ls hl => ?_)
  have L324_ : ∀ (n : Nat), ∀ (cl324_ sl324_ : Nat), cl324_ + n * 70 ≤ 1313 → sl324_ + n * 1094 ≤ 15029 → ∀ (x2_324 : Int32) (x3_324 : Int32) (x4_324 : Int32) (cC_324 : mg_St) (y324_ : Int32 × Int32 × Int32 × mg_St), f_X7_isSame_324 ζ n x2_324 x3_324 x4_324 cC_324 = some y324_ → (∀ (H : Heap) (locs : List Loc) (ls : Array Slot), mg_Vo D A s.heap H locs ([mg_fC g (o 53) (o 54) y324_.2.2.2, mg_fS o u α ζ]) → lv_has ls 13 [(0, .ref u), (1, .ref (g 0)), (2, .int y324_.1), (3, .int y324_.2.1)] → W p l e (headSpec wsX7_isSame ({ frames := 8, cells := 2026, slots := 21893, locals := 136 } : Room)).room s m ([.ref u, .ref (g 0)] : List Value).toArray below meth c H locs 1313 15029 (MQD lw_cs below (mg_QV D (fun _ => []) A (fun _ => some (.int 1))) ([.ref u, .ref (g 0)] : List Value).toArray s 2026 21893 A) (F0 m 606 ls [])) → ∀ (H : Heap) (locs : List Loc) (ls : Array Slot), mg_Vo D A s.heap H locs ([mg_fC g (o 53) (o 54) cC_324, mg_fS o u α ζ]) → lv_has ls 13 [(0, .ref u), (1, .ref (g 0)), (2, .int x2_324), (3, .int x3_324), (4, .int x4_324)] → W p l e (headSpec wsX7_isSame ({ frames := 8, cells := 2026, slots := 21893, locals := 136 } : Room)).room s m ([.ref u, .ref (g 0)] : List Value).toArray below meth c H locs cl324_ sl324_ (MQD lw_cs below (mg_QV D (fun _ => []) A (fun _ => some (.int 1))) ([.ref u, .ref (g 0)] : List Value).toArray s 2026 21893 A) (F0 m 324 ls []) := by
    intro n
    induction n with
    | zero => intro cl324_ sl324_ hcl324_ hsl324_ x2_324 x3_324 x4_324 cC_324 y324_ h; rw [f_X7_isSame_324] at h; cases h
    | succ n ih =>
      intro cl324_ sl324_ hcl324_ hsl324_ x2_324 x3_324 x4_324 cC_324 y324_ h kc H locs ls hw hl
      rw [f_X7_isSame_324] at h
      refine lv_iload hx hb dX7_isSame_324 (lv_at hl 4 rfl) ?_
      refine mg_if_lt (tgt := 606) hx hb h dX7_isSame_326 (by decide) (fun h => ?_) (fun h => ?_)
      · cases h
        refine W.widen (k := 1313) (n := 15029) (by omega) (by omega) ?_
        exact kc H locs ls hw (lv_sub hl [0, 1, 2, 3] rfl)
      · refine lv_aload_n hx hb dX7_isSame_329 rfl (lv_at hl 0 rfl) ?_
        refine lv_aload_n hx hb dX7_isSame_330 rfl (lv_at hl 0 rfl) ?_
        refine va_get (D := D) (ci := 7) (v := .ref (α 0 3)) (C := RX7) (T := TX7) (N := 6) hx hb hts iX7_ hown hK (mg_at1 hw.1 1 rfl mg_fS_00) 0 rfl rfl 4 (by decide) w4_ (fun _ h9 => h9) rfl dX7_isSame_331 ?_
        refine lv_iload hx hb dX7_isSame_334 (lv_at hl 4 rfl) ?_
        refine mg_aal hx hb hK hw 1 2 rfl mg_fS_03 rfl rfl h dX7_isSame_336 (fun j29 hj29_ h => ?_)
        obtain ⟨y30, h9_, h⟩ := mg_bind h
        refine mg_callV (va_runV (As := [.ref (α 4 j29)]) (rest := []) G9 (k_X7_shows l D o u α H.size j29 ζ hj29_ y30 h9_) (cwV 1 hts gX7_isSame_X7_shows rfl rfl rfl (by decide +kernel) ⟨Nat.le_of_ble_eq_true rfl, Nat.le_of_ble_eq_true rfl⟩) (mg_preVV hK hO hA (mg_Vsub (L' := [mg_fS o u α ζ]) hw [1] rfl rfl) 0 rfl mg_fS_00 rfl) rfl rfl hl.1 rfl (lv_room (Nat.le_of_ble_eq_true rfl)) dX7_isSame_337 ⟨(show cl324_ + 23 ≤ 2026 by omega), (show sl324_ + 363 ≤ 21893 by omega)⟩) hw hA [1] [0] rfl (Lr := [mg_fC g (o 53) (o 54) cC_324]) rfl rfl (by decide) (fun β31 H locs hw => ?_)
        clear h9_
        have hw : mg_Vo D A s.heap H locs ([mg_fC g (o 53) (o 54) cC_324, mg_fS o u α ζ, mg_fP o (β31 0 0) (β31 1) y30.1 y30.2]) := hw
        refine lv_astore (lv' := [(5, .ref (β31 0 0)), (0, .ref u), (1, .ref (g 0)), (2, .int x2_324), (3, .int x3_324), (4, .int x4_324)]) hx hb dX7_isSame_340 hl (by decide) rfl (fun ls hl => ?_)
        refine lv_iconst (v := 0) hx hb dX7_isSame_342 (by decide) ?_
        refine lv_istore (lv' := [(6, .int 0), (5, .ref (β31 0 0)), (0, .ref u), (1, .ref (g 0)), (2, .int x2_324), (3, .int x3_324), (4, .int x4_324)]) hx hb dX7_isSame_343 hl (by decide) rfl (fun ls hl => ?_)
        refine lv_iconst (v := 0) hx hb dX7_isSame_345 (by decide) ?_
        refine lv_istore (lv' := [(7, .int 0), (6, .int 0), (5, .ref (β31 0 0)), (0, .ref u), (1, .ref (g 0)), (2, .int x2_324), (3, .int x3_324), (4, .int x4_324)]) hx hb dX7_isSame_346 hl (by decide) rfl (fun ls hl => ?_)
        refine lv_aload hx hb dX7_isSame_348 (lv_at hl 2 rfl) ?_
        refine lv_astore (lv' := [(8, .ref (β31 0 0)), (7, .int 0), (6, .int 0), (5, .ref (β31 0 0)), (0, .ref u), (1, .ref (g 0)), (2, .int x2_324), (3, .int x3_324), (4, .int x4_324)]) hx hb dX7_isSame_350 hl (by decide) rfl (fun ls hl => ?_)
        refine lv_aload hx hb dX7_isSame_352 (lv_at hl 0 rfl) ?_
        refine mg_alenq hx hb hK hw 2 2 rfl mg_fP_0 rfl dX7_isSame_354 ?_
        refine lv_istore (lv' := [(9, .int (nI y30.1)), (8, .ref (β31 0 0)), (7, .int 0), (6, .int 0), (5, .ref (β31 0 0)), (0, .ref u), (1, .ref (g 0)), (2, .int x2_324), (3, .int x3_324), (4, .int x4_324)]) hx hb dX7_isSame_355 hl (by decide) rfl (fun ls hl => ?_)
        refine lv_iconst (v := 0) hx hb dX7_isSame_357 (by decide) ?_
        refine lv_istore (lv' := [(10, .int 0), (9, .int (nI y30.1)), (8, .ref (β31 0 0)), (7, .int 0), (6, .int 0), (5, .ref (β31 0 0)), (0, .ref u), (1, .ref (g 0)), (2, .int x2_324), (3, .int x3_324), (4, .int x4_324)]) hx hb dX7_isSame_358 hl (by decide) rfl (fun ls hl => ?_)
        have L360_ : ∀ (n : Nat), ∀ (x6_360 : Int32) (x7_360 : Int32) (x10_360 : Int32) (y360_ : Int32 × Int32 × Int32), f_X7_isSame_360 x2_324 x3_324 x4_324 (nI y30.1) cC_324 ζ y30.1 y30.2 n x6_360 x7_360 x10_360 = some y360_ → (∀ (H : Heap) (locs : List Loc) (ls : Array Slot), mg_Vo D A s.heap H locs ([mg_fC g (o 53) (o 54) cC_324, mg_fS o u α ζ, mg_fP o (β31 0 0) (β31 1) y30.1 y30.2]) → lv_has ls 13 [(0, .ref u), (1, .ref (g 0)), (2, .int x2_324), (3, .int x3_324), (4, .int x4_324), (5, .ref (β31 0 0)), (6, .int y360_.1), (7, .int y360_.2.1)] → W p l e (headSpec wsX7_isSame ({ frames := 8, cells := 2026, slots := 21893, locals := 136 } : Room)).room s m ([.ref u, .ref (g 0)] : List Value).toArray below meth c H locs (cl324_ + 23) (sl324_ + 363) (MQD lw_cs below (mg_QV D (fun _ => []) A (fun _ => some (.int 1))) ([.ref u, .ref (g 0)] : List Value).toArray s 2026 21893 A) (F0 m 440 ls [])) → ∀ (H : Heap) (locs : List Loc) (ls : Array Slot), mg_Vo D A s.heap H locs ([mg_fC g (o 53) (o 54) cC_324, mg_fS o u α ζ, mg_fP o (β31 0 0) (β31 1) y30.1 y30.2]) → lv_has ls 13 [(0, .ref u), (1, .ref (g 0)), (2, .int x2_324), (3, .int x3_324), (4, .int x4_324), (5, .ref (β31 0 0)), (6, .int x6_360), (7, .int x7_360), (8, .ref (β31 0 0)), (9, .int (nI y30.1)), (10, .int x10_360)] → W p l e (headSpec wsX7_isSame ({ frames := 8, cells := 2026, slots := 21893, locals := 136 } : Room)).room s m ([.ref u, .ref (g 0)] : List Value).toArray below meth c H locs (cl324_ + 23) (sl324_ + 363) (MQD lw_cs below (mg_QV D (fun _ => []) A (fun _ => some (.int 1))) ([.ref u, .ref (g 0)] : List Value).toArray s 2026 21893 A) (F0 m 360 ls []) := by
          intro n
          induction n with
          | zero => intro x6_360 x7_360 x10_360 y360_ h; rw [f_X7_isSame_360] at h; cases h
          | succ n ih =>
            intro x6_360 x7_360 x10_360 y360_ h kc H locs ls hw hl
            rw [f_X7_isSame_360] at h
            refine lv_iload hx hb dX7_isSame_360 (lv_at hl 10 rfl) ?_
            refine lv_iload hx hb dX7_isSame_362 (lv_at hl 9 rfl) ?_
            refine mg_icmp_ge (tgt := 440) hx hb h dX7_isSame_364 (by decide) (fun h => ?_) (fun h => ?_)
            · cases h
              exact kc H locs ls hw (lv_sub hl [0, 1, 2, 3, 4, 5, 6, 7] rfl)
            · refine lv_aload hx hb dX7_isSame_367 (lv_at hl 8 rfl) ?_
              refine lv_iload hx hb dX7_isSame_369 (lv_at hl 10 rfl) ?_
              refine mg_aal hx hb hK hw 2 2 rfl mg_fP_0 rfl rfl h dX7_isSame_371 (fun j33 hj33_ h => ?_)
              refine lv_astore (lv' := [(11, .ref ((β31 1) j33)), (0, .ref u), (1, .ref (g 0)), (2, .int x2_324), (3, .int x3_324), (4, .int x4_324), (5, .ref (β31 0 0)), (6, .int x6_360), (7, .int x7_360), (8, .ref (β31 0 0)), (9, .int (nI y30.1)), (10, .int x10_360)]) hx hb dX7_isSame_372 hl (by decide) rfl (fun ls hl => ?_)
              refine lv_iload hx hb dX7_isSame_374 (lv_at hl 7 rfl) ?_
              refine lv_aload_n hx hb dX7_isSame_376 rfl (lv_at hl 1 rfl) ?_
              refine va_get (D := D) (ci := 7) (v := .ref (α 0 1)) (C := RX7) (T := TX7) (N := 6) hx hb hts iX7_ hown hK (mg_at1 hw.1 1 rfl mg_fS_00) 0 rfl rfl 2 (by decide) w0_ (fun _ h9 => h9) rfl dX7_isSame_377 ?_
              refine lv_aload hx hb dX7_isSame_380 (lv_at hl 0 rfl) ?_
              refine lv_iconst (v := 1) hx hb dX7_isSame_382 (by decide) ?_
              refine mg_ial (x := 1) hx hb hK hw 2 rfl (mg_fP_1 hj33_) (by unfold vp_in; decide) (by decide) dX7_isSame_383 ?_
              refine mg_aal hx hb hK hw 1 3 rfl mg_fS_01 rfl rfl h dX7_isSame_384 (fun j34 hj34_ h => ?_)
              refine lv_aload hx hb dX7_isSame_385 (lv_at hl 0 rfl) ?_
              refine lv_iconst (v := 0) hx hb dX7_isSame_387 (by decide) ?_
              refine mg_ial (x := 0) hx hb hK hw 2 rfl (mg_fP_1 hj33_) (by unfold vp_in; decide) (by decide) dX7_isSame_388 ?_
              refine mg_aal hx hb hK hw 1 2 rfl (mg_fS_1 hj34_) rfl rfl h dX7_isSame_389 (fun j35 hj35_ h => ?_)
              refine lv_iconst (v := 0) hx hb dX7_isSame_390 (by decide) ?_
              refine mg_ial (x := 0) hx hb hK hw 1 rfl (mg_fS_2 hj34_ hj35_) (by unfold vp_in; decide) (by decide) dX7_isSame_391 ?_
              refine lv_iconst (v := 1) hx hb dX7_isSame_392 (by decide) ?_
              obtain ⟨y36, h9_, h⟩ := mg_bind h
              have J393_ : ∀ (H : Heap) (locs : List Loc) (ls : Array Slot), mg_Vo D A s.heap H locs ([mg_fC g (o 53) (o 54) cC_324, mg_fS o u α ζ, mg_fP o (β31 0 0) (β31 1) y30.1 y30.2]) → lv_has ls 13 [(0, .ref u), (1, .ref (g 0)), (2, .int x2_324), (3, .int x3_324), (4, .int x4_324), (5, .ref (β31 0 0)), (7, .int x7_360), (8, .ref (β31 0 0)), (9, .int (nI y30.1)), (10, .int x10_360), (11, .ref ((β31 1) j33))] → W p l e (headSpec wsX7_isSame ({ frames := 8, cells := 2026, slots := 21893, locals := 136 } : Room)).room s m ([.ref u, .ref (g 0)] : List Value).toArray below meth c H locs (cl324_ + 23) (sl324_ + 363) (MQD lw_cs below (mg_QV D (fun _ => []) A (fun _ => some (.int 1))) ([.ref u, .ref (g 0)] : List Value).toArray s 2026 21893 A) (F0 m 401 ls [.int y36, .int x6_360]) := by
                intro H locs ls hw hl
                clear h9_
                refine lv_iadd hx hb dX7_isSame_401 ?_
                refine lv_istore (lv' := [(6, .int (x6_360 + y36)), (0, .ref u), (1, .ref (g 0)), (2, .int x2_324), (3, .int x3_324), (4, .int x4_324), (5, .ref (β31 0 0)), (7, .int x7_360), (8, .ref (β31 0 0)), (9, .int (nI y30.1)), (10, .int x10_360), (11, .ref ((β31 1) j33))]) hx hb dX7_isSame_402 hl (by decide) rfl (fun ls hl => ?_)
                refine lv_iload hx hb dX7_isSame_404 (lv_at hl 7 rfl) ?_
                refine lv_aload_n hx hb dX7_isSame_406 rfl (lv_at hl 1 rfl) ?_
                refine va_get (D := D) (ci := 7) (v := .ref (α 0 1)) (C := RX7) (T := TX7) (N := 6) hx hb hts iX7_ hown hK (mg_at1 hw.1 1 rfl mg_fS_00) 0 rfl rfl 2 (by decide) w0_ (fun _ h9 => h9) rfl dX7_isSame_407 ?_
                refine lv_aload hx hb dX7_isSame_410 (lv_at hl 11 rfl) ?_
                refine lv_iconst (v := 1) hx hb dX7_isSame_412 (by decide) ?_
                refine mg_ial (x := 1) hx hb hK hw 2 rfl (mg_fP_1 hj33_) (by unfold vp_in; decide) (by decide) dX7_isSame_413 ?_
                refine mg_aal hx hb hK hw 1 3 rfl mg_fS_01 rfl rfl h dX7_isSame_414 (fun j37 hj37_ h => ?_)
                refine lv_aload hx hb dX7_isSame_415 (lv_at hl 11 rfl) ?_
                refine lv_iconst (v := 0) hx hb dX7_isSame_417 (by decide) ?_
                refine mg_ial (x := 0) hx hb hK hw 2 rfl (mg_fP_1 hj33_) (by unfold vp_in; decide) (by decide) dX7_isSame_418 ?_
                refine mg_aal hx hb hK hw 1 2 rfl (mg_fS_1 hj37_) rfl rfl h dX7_isSame_419 (fun j38 hj38_ h => ?_)
                refine lv_iconst (v := 0) hx hb dX7_isSame_420 (by decide) ?_
                refine mg_ial (x := 0) hx hb hK hw 1 rfl (mg_fS_2 hj37_ hj38_) (by unfold vp_in; decide) (by decide) dX7_isSame_421 ?_
                refine lv_iconst (v := 2) hx hb dX7_isSame_422 (by decide) ?_
                refine mg_icmp_ne (tgt := 430) hx hb h dX7_isSame_423 (by decide) (fun h => ?_) (fun h => ?_)
                · refine lv_iconst (v := 0) hx hb dX7_isSame_430 (by decide) ?_
                  refine lv_iadd hx hb dX7_isSame_431 ?_
                  refine lv_istore (lv' := [(7, .int (x7_360 + 0)), (6, .int (x6_360 + y36)), (0, .ref u), (1, .ref (g 0)), (2, .int x2_324), (3, .int x3_324), (4, .int x4_324), (5, .ref (β31 0 0)), (8, .ref (β31 0 0)), (9, .int (nI y30.1)), (10, .int x10_360), (11, .ref ((β31 1) j33))]) hx hb dX7_isSame_432 hl (by decide) rfl (fun ls hl => ?_)
                  refine lv_iinc (v := (x10_360 + 1)) (lv' := [(10, .int (x10_360 + 1)), (7, .int (x7_360 + 0)), (6, .int (x6_360 + y36)), (0, .ref u), (1, .ref (g 0)), (2, .int x2_324), (3, .int x3_324), (4, .int x4_324), (5, .ref (β31 0 0)), (8, .ref (β31 0 0)), (9, .int (nI y30.1)), (11, .ref ((β31 1) j33))]) hx hb dX7_isSame_434 hl (k := 10) rfl rfl (by decide) rfl (fun ls hl => ?_)
                  refine lv_goto (tgt := 360) hx hb dX7_isSame_437 (by decide) ?_
                  exact ih _ _ _ _ h kc H locs ls hw (lv_sub hl [3, 4, 5, 6, 7, 8, 2, 1, 9, 10, 0] rfl)
                · refine lv_iconst (v := 1) hx hb dX7_isSame_426 (by decide) ?_
                  refine lv_goto (tgt := 431) hx hb dX7_isSame_427 (by decide) ?_
                  refine lv_iadd hx hb dX7_isSame_431 ?_
                  refine lv_istore (lv' := [(7, .int (x7_360 + 1)), (6, .int (x6_360 + y36)), (0, .ref u), (1, .ref (g 0)), (2, .int x2_324), (3, .int x3_324), (4, .int x4_324), (5, .ref (β31 0 0)), (8, .ref (β31 0 0)), (9, .int (nI y30.1)), (10, .int x10_360), (11, .ref ((β31 1) j33))]) hx hb dX7_isSame_432 hl (by decide) rfl (fun ls hl => ?_)
                  refine lv_iinc (v := (x10_360 + 1)) (lv' := [(10, .int (x10_360 + 1)), (7, .int (x7_360 + 1)), (6, .int (x6_360 + y36)), (0, .ref u), (1, .ref (g 0)), (2, .int x2_324), (3, .int x3_324), (4, .int x4_324), (5, .ref (β31 0 0)), (8, .ref (β31 0 0)), (9, .int (nI y30.1)), (11, .ref ((β31 1) j33))]) hx hb dX7_isSame_434 hl (k := 10) rfl rfl (by decide) rfl (fun ls hl => ?_)
                  refine lv_goto (tgt := 360) hx hb dX7_isSame_437 (by decide) ?_
                  exact ih _ _ _ _ h kc H locs ls hw (lv_sub hl [3, 4, 5, 6, 7, 8, 2, 1, 9, 10, 0] rfl)
              clear h
              have h := h9_
              clear h9_
              refine mg_icmp_ne (tgt := 400) hx hb h dX7_isSame_393 (by decide) (fun h => ?_) (fun h => ?_)
              · refine lv_iconst (v := 0) hx hb dX7_isSame_400 (by decide) ?_
                cases h
                exact J393_ H locs ls hw (lv_sub hl [1, 2, 3, 4, 5, 6, 8, 9, 10, 11, 0] rfl)
              · refine lv_iconst (v := 1) hx hb dX7_isSame_396 (by decide) ?_
                refine lv_goto (tgt := 401) hx hb dX7_isSame_397 (by decide) ?_
                cases h
                exact J393_ H locs ls hw (lv_sub hl [1, 2, 3, 4, 5, 6, 8, 9, 10, 11, 0] rfl)
        obtain ⟨y32, h9_, h⟩ := mg_bind h
        refine L360_ 5000 _ _ _ _ h9_ (fun H locs ls hw hl => ?_) H locs ls hw (lv_sub hl [6, 7, 8, 9, 10, 5, 4, 3, 2, 1, 0] rfl)
        clear L360_ h9_
        refine lv_iconst (v := 0) hx hb dX7_isSame_440 (by decide) ?_
        refine lv_istore (lv' := [(8, .int 0), (0, .ref u), (1, .ref (g 0)), (2, .int x2_324), (3, .int x3_324), (4, .int x4_324), (5, .ref (β31 0 0)), (6, .int y32.1), (7, .int y32.2.1)]) hx hb dX7_isSame_441 hl (by decide) rfl (fun ls hl => ?_)
        refine lv_aload_n hx hb dX7_isSame_443 rfl (lv_at hl 1 rfl) ?_
        refine va_get (D := D) (ci := 7) (v := .ref (α 0 4)) (C := RX7) (T := TX7) (N := 6) hx hb hts iX7_ hown hK (mg_at1 hw.1 1 rfl mg_fS_00) 0 rfl rfl 5 (by decide) w5_ (fun _ h9 => h9) rfl dX7_isSame_444 ?_
        refine lv_astore (lv' := [(9, .ref (α 0 4)), (8, .int 0), (0, .ref u), (1, .ref (g 0)), (2, .int x2_324), (3, .int x3_324), (4, .int x4_324), (5, .ref (β31 0 0)), (6, .int y32.1), (7, .int y32.2.1)]) hx hb dX7_isSame_447 hl (by decide) rfl (fun ls hl => ?_)
        refine lv_aload hx hb dX7_isSame_449 (lv_at hl 0 rfl) ?_
        refine mg_alenq hx hb hK hw 1 2 rfl mg_fS_04 rfl dX7_isSame_451 ?_
        refine lv_istore (lv' := [(10, .int (nI (ζ.2 2))), (9, .ref (α 0 4)), (8, .int 0), (0, .ref u), (1, .ref (g 0)), (2, .int x2_324), (3, .int x3_324), (4, .int x4_324), (5, .ref (β31 0 0)), (6, .int y32.1), (7, .int y32.2.1)]) hx hb dX7_isSame_452 hl (by decide) rfl (fun ls hl => ?_)
        refine lv_iconst (v := 0) hx hb dX7_isSame_454 (by decide) ?_
        refine lv_istore (lv' := [(11, .int 0), (10, .int (nI (ζ.2 2))), (9, .ref (α 0 4)), (8, .int 0), (0, .ref u), (1, .ref (g 0)), (2, .int x2_324), (3, .int x3_324), (4, .int x4_324), (5, .ref (β31 0 0)), (6, .int y32.1), (7, .int y32.2.1)]) hx hb dX7_isSame_455 hl (by decide) rfl (fun ls hl => ?_)
        have L457_ : ∀ (n : Nat), ∀ (x8_457 : Int32) (x11_457 : Int32) (y457_ : Int32 × Int32), f_X7_isSame_457 x2_324 x3_324 x4_324 y32.1 y32.2.1 (nI (ζ.2 2)) cC_324 ζ y30.1 y30.2 n x8_457 x11_457 = some y457_ → (∀ (H : Heap) (locs : List Loc) (ls : Array Slot), mg_Vo D A s.heap H locs ([mg_fC g (o 53) (o 54) cC_324, mg_fS o u α ζ, mg_fP o (β31 0 0) (β31 1) y30.1 y30.2]) → lv_has ls 13 [(0, .ref u), (1, .ref (g 0)), (2, .int x2_324), (3, .int x3_324), (4, .int x4_324), (5, .ref (β31 0 0)), (6, .int y32.1), (7, .int y32.2.1), (8, .int y457_.1)] → W p l e (headSpec wsX7_isSame ({ frames := 8, cells := 2026, slots := 21893, locals := 136 } : Room)).room s m ([.ref u, .ref (g 0)] : List Value).toArray below meth c H locs (cl324_ + 23) (sl324_ + 363) (MQD lw_cs below (mg_QV D (fun _ => []) A (fun _ => some (.int 1))) ([.ref u, .ref (g 0)] : List Value).toArray s 2026 21893 A) (F0 m 496 ls [])) → ∀ (H : Heap) (locs : List Loc) (ls : Array Slot), mg_Vo D A s.heap H locs ([mg_fC g (o 53) (o 54) cC_324, mg_fS o u α ζ, mg_fP o (β31 0 0) (β31 1) y30.1 y30.2]) → lv_has ls 13 [(0, .ref u), (1, .ref (g 0)), (2, .int x2_324), (3, .int x3_324), (4, .int x4_324), (5, .ref (β31 0 0)), (6, .int y32.1), (7, .int y32.2.1), (8, .int x8_457), (9, .ref (α 0 4)), (10, .int (nI (ζ.2 2))), (11, .int x11_457)] → W p l e (headSpec wsX7_isSame ({ frames := 8, cells := 2026, slots := 21893, locals := 136 } : Room)).room s m ([.ref u, .ref (g 0)] : List Value).toArray below meth c H locs (cl324_ + 23) (sl324_ + 363) (MQD lw_cs below (mg_QV D (fun _ => []) A (fun _ => some (.int 1))) ([.ref u, .ref (g 0)] : List Value).toArray s 2026 21893 A) (F0 m 457 ls []) := by
          intro n
          induction n with
          | zero => intro x8_457 x11_457 y457_ h; rw [f_X7_isSame_457] at h; cases h
          | succ n ih =>
            intro x8_457 x11_457 y457_ h kc H locs ls hw hl
            rw [f_X7_isSame_457] at h
            refine lv_iload hx hb dX7_isSame_457 (lv_at hl 11 rfl) ?_
            refine lv_iload hx hb dX7_isSame_459 (lv_at hl 10 rfl) ?_
            refine mg_icmp_ge (tgt := 496) hx hb h dX7_isSame_461 (by decide) (fun h => ?_) (fun h => ?_)
            · cases h
              exact kc H locs ls hw (lv_sub hl [0, 1, 2, 3, 4, 5, 6, 7, 8] rfl)
            · refine lv_aload hx hb dX7_isSame_464 (lv_at hl 9 rfl) ?_
              refine lv_iload hx hb dX7_isSame_466 (lv_at hl 11 rfl) ?_
              refine mg_aal hx hb hK hw 1 2 rfl mg_fS_04 rfl rfl h dX7_isSame_468 (fun j40 hj40_ h => ?_)
              refine lv_astore (lv' := [(12, .ref (α 5 j40)), (0, .ref u), (1, .ref (g 0)), (2, .int x2_324), (3, .int x3_324), (4, .int x4_324), (5, .ref (β31 0 0)), (6, .int y32.1), (7, .int y32.2.1), (8, .int x8_457), (9, .ref (α 0 4)), (10, .int (nI (ζ.2 2))), (11, .int x11_457)]) hx hb dX7_isSame_469 hl (by decide) rfl (fun ls hl => ?_)
              refine lv_iload hx hb dX7_isSame_471 (lv_at hl 9 rfl) ?_
              refine lv_aload hx hb dX7_isSame_473 (lv_at hl 0 rfl) ?_
              refine lv_iconst (v := 0) hx hb dX7_isSame_475 (by decide) ?_
              refine mg_ial (x := 0) hx hb hK hw 1 rfl (mg_fS_5 hj40_) (by unfold vp_in; decide) (by decide) dX7_isSame_476 ?_
              refine lv_iload hx hb dX7_isSame_477 (lv_at hl 5 rfl) ?_
              refine mg_icmp_ne (tgt := 486) hx hb h dX7_isSame_479 (by decide) (fun h => ?_) (fun h => ?_)
              · refine lv_iconst (v := 0) hx hb dX7_isSame_486 (by decide) ?_
                refine lv_iadd hx hb dX7_isSame_487 ?_
                refine lv_istore (lv' := [(8, .int (x8_457 + 0)), (12, .ref (α 5 j40)), (0, .ref u), (1, .ref (g 0)), (2, .int x2_324), (3, .int x3_324), (4, .int x4_324), (5, .ref (β31 0 0)), (6, .int y32.1), (7, .int y32.2.1), (9, .ref (α 0 4)), (10, .int (nI (ζ.2 2))), (11, .int x11_457)]) hx hb dX7_isSame_488 hl (by decide) rfl (fun ls hl => ?_)
                refine lv_iinc (v := (x11_457 + 1)) (lv' := [(11, .int (x11_457 + 1)), (8, .int (x8_457 + 0)), (12, .ref (α 5 j40)), (0, .ref u), (1, .ref (g 0)), (2, .int x2_324), (3, .int x3_324), (4, .int x4_324), (5, .ref (β31 0 0)), (6, .int y32.1), (7, .int y32.2.1), (9, .ref (α 0 4)), (10, .int (nI (ζ.2 2)))]) hx hb dX7_isSame_490 hl (k := 12) rfl rfl (by decide) rfl (fun ls hl => ?_)
                refine lv_goto (tgt := 457) hx hb dX7_isSame_493 (by decide) ?_
                exact ih _ _ _ h kc H locs ls hw (lv_sub hl [3, 4, 5, 6, 7, 8, 9, 10, 1, 11, 12, 0] rfl)
              · refine lv_iconst (v := 1) hx hb dX7_isSame_482 (by decide) ?_
                refine lv_goto (tgt := 487) hx hb dX7_isSame_483 (by decide) ?_
                refine lv_iadd hx hb dX7_isSame_487 ?_
                refine lv_istore (lv' := [(8, .int (x8_457 + 1)), (12, .ref (α 5 j40)), (0, .ref u), (1, .ref (g 0)), (2, .int x2_324), (3, .int x3_324), (4, .int x4_324), (5, .ref (β31 0 0)), (6, .int y32.1), (7, .int y32.2.1), (9, .ref (α 0 4)), (10, .int (nI (ζ.2 2))), (11, .int x11_457)]) hx hb dX7_isSame_488 hl (by decide) rfl (fun ls hl => ?_)
                refine lv_iinc (v := (x11_457 + 1)) (lv' := [(11, .int (x11_457 + 1)), (8, .int (x8_457 + 1)), (12, .ref (α 5 j40)), (0, .ref u), (1, .ref (g 0)), (2, .int x2_324), (3, .int x3_324), (4, .int x4_324), (5, .ref (β31 0 0)), (6, .int y32.1), (7, .int y32.2.1), (9, .ref (α 0 4)), (10, .int (nI (ζ.2 2)))]) hx hb dX7_isSame_490 hl (k := 12) rfl rfl (by decide) rfl (fun ls hl => ?_)
                refine lv_goto (tgt := 457) hx hb dX7_isSame_493 (by decide) ?_
                exact ih _ _ _ h kc H locs ls hw (lv_sub hl [3, 4, 5, 6, 7, 8, 9, 10, 1, 11, 12, 0] rfl)
        obtain ⟨y39, h9_, h⟩ := mg_bind h
        refine L457_ 5000 _ _ _ h9_ (fun H locs ls hw hl => ?_) H locs ls hw (lv_sub hl [4, 5, 6, 7, 8, 9, 10, 11, 3, 2, 1, 0] rfl)
        clear L457_ h9_
        refine lv_iconst (v := 5) hx hb dX7_isSame_496 (by decide) ?_
        refine mg_vnewI (n := 5) (N := 5) (B := 5) hx hb w2_ hK hw hA (by decide) rfl (Nat.le_refl _) (Nat.le_of_ble_eq_true rfl) (show cl324_ + 23 + 1 ≤ 2026 by omega) (show sl324_ + 363 + 5 ≤ 21893 by omega) dX7_isSame_497 (fun q41 H hw => ?_)
        refine lv_dup hx hb dX7_isSame_499 rfl ?_
        refine lv_iconst (v := 0) hx hb dX7_isSame_500 (by decide) ?_
        refine lv_aload hx hb dX7_isSame_501 (lv_at hl 5 rfl) ?_
        refine mg_alenq hx hb hK hw 2 2 rfl mg_fP_0 rfl dX7_isSame_503 ?_
        refine mg_iasx (x := 0) (F' := mg_fI o q41 5 (upd (fun _ => 0) 0 (nI y30.1))) hx hb hK hw 3 rfl mg_fI_0 (by unfold vp_in; decide) (by decide) mg_sI dX7_isSame_504 (fun H locs hw => ?_)
        refine lv_dup hx hb dX7_isSame_505 rfl ?_
        refine lv_iconst (v := 1) hx hb dX7_isSame_506 (by decide) ?_
        refine lv_iload hx hb dX7_isSame_507 (lv_at hl 6 rfl) ?_
        refine mg_iasx (x := 1) (F' := mg_fI o q41 5 (upd (upd (fun _ => 0) 0 (nI y30.1)) 1 y32.1)) hx hb hK hw 3 rfl mg_fI_0 (by unfold vp_in; decide) (by decide) mg_sI dX7_isSame_509 (fun H locs hw => ?_)
        refine lv_dup hx hb dX7_isSame_510 rfl ?_
        refine lv_iconst (v := 2) hx hb dX7_isSame_511 (by decide) ?_
        refine lv_iload hx hb dX7_isSame_512 (lv_at hl 7 rfl) ?_
        refine mg_iasx (x := 2) (F' := mg_fI o q41 5 (upd (upd (upd (fun _ => 0) 0 (nI y30.1)) 1 y32.1) 2 y32.2.1)) hx hb hK hw 3 rfl mg_fI_0 (by unfold vp_in; decide) (by decide) mg_sI dX7_isSame_514 (fun H locs hw => ?_)
        refine lv_dup hx hb dX7_isSame_515 rfl ?_
        refine lv_iconst (v := 3) hx hb dX7_isSame_516 (by decide) ?_
        refine lv_aload_n hx hb dX7_isSame_517 rfl (lv_at hl 0 rfl) ?_
        refine lv_aload_n hx hb dX7_isSame_518 rfl (lv_at hl 0 rfl) ?_
        refine va_get (D := D) (ci := 7) (v := .ref (α 0 3)) (C := RX7) (T := TX7) (N := 6) hx hb hts iX7_ hown hK (mg_at1 hw.1 1 rfl mg_fS_00) 0 rfl rfl 4 (by decide) w4_ (fun _ h9 => h9) rfl dX7_isSame_519 ?_
        refine lv_iload hx hb dX7_isSame_522 (lv_at hl 4 rfl) ?_
        refine mg_aal hx hb hK hw 1 2 rfl mg_fS_03 rfl rfl h dX7_isSame_524 (fun j42 hj42_ h => ?_)
        obtain ⟨y43, h9_, h⟩ := mg_bind h
        refine mg_callV (va_runV (As := [.ref (α 4 j42)]) (rest := [.int 3, .ref q41, .ref q41]) G9 (k_X7_beauty l D o u α H.size j42 ζ hj42_ y43 h9_) (cwV 1 hts gX7_isSame_X7_beauty rfl rfl rfl (by decide +kernel) ⟨Nat.le_of_ble_eq_true rfl, Nat.le_of_ble_eq_true rfl⟩) (mg_preVV hK hO hA (mg_Vsub (L' := [mg_fS o u α ζ]) hw [1] rfl rfl) 0 rfl mg_fS_00 rfl) rfl rfl hl.1 rfl (lv_room (Nat.le_of_ble_eq_true rfl)) dX7_isSame_525 ⟨(show cl324_ + 24 + 23 ≤ 2026 by omega), (show sl324_ + 368 + 363 ≤ 21893 by omega)⟩) hw hA [1] [0, 2, 3] rfl (Lr := [mg_fC g (o 53) (o 54) cC_324, mg_fP o (β31 0 0) (β31 1) y30.1 y30.2, mg_fI o q41 5 (upd (upd (upd (fun _ => 0) 0 (nI y30.1)) 1 y32.1) 2 y32.2.1)]) rfl rfl (by decide) (fun β44 H locs hw => ?_)
        clear h9_
        have hw : mg_Vo D A s.heap H locs ([mg_fC g (o 53) (o 54) cC_324, mg_fP o (β31 0 0) (β31 1) y30.1 y30.2, mg_fI o q41 5 (upd (upd (upd (fun _ => 0) 0 (nI y30.1)) 1 y32.1) 2 y32.2.1), mg_fS o u α ζ]) := hw
        refine mg_iasx (x := 3) (F' := mg_fI o q41 5 (upd (upd (upd (upd (fun _ => 0) 0 (nI y30.1)) 1 y32.1) 2 y32.2.1) 3 y43)) hx hb hK hw 2 rfl mg_fI_0 (by unfold vp_in; decide) (by decide) mg_sI dX7_isSame_528 (fun H locs hw => ?_)
        refine lv_dup hx hb dX7_isSame_529 rfl ?_
        refine lv_iconst (v := 4) hx hb dX7_isSame_530 (by decide) ?_
        refine lv_iload hx hb dX7_isSame_531 (lv_at hl 8 rfl) ?_
        refine mg_iasx (x := 4) (F' := mg_fI o q41 5 (upd (upd (upd (upd (upd (fun _ => 0) 0 (nI y30.1)) 1 y32.1) 2 y32.2.1) 3 y43) 4 y39.1)) hx hb hK hw 2 rfl mg_fI_0 (by unfold vp_in; decide) (by decide) mg_sI dX7_isSame_533 (fun H locs hw => ?_)
        refine lv_astore (lv' := [(9, .ref q41), (0, .ref u), (1, .ref (g 0)), (2, .int x2_324), (3, .int x3_324), (4, .int x4_324), (5, .ref (β31 0 0)), (6, .int y32.1), (7, .int y32.2.1), (8, .int y39.1)]) hx hb dX7_isSame_534 hl (by decide) rfl (fun ls hl => ?_)
        refine lv_iconst (v := 0) hx hb dX7_isSame_536 (by decide) ?_
        refine lv_istore (lv' := [(10, .int 0), (9, .ref q41), (0, .ref u), (1, .ref (g 0)), (2, .int x2_324), (3, .int x3_324), (4, .int x4_324), (5, .ref (β31 0 0)), (6, .int y32.1), (7, .int y32.2.1), (8, .int y39.1)]) hx hb dX7_isSame_537 hl (by decide) rfl (fun ls hl => ?_)
        have L539_ : ∀ (n : Nat), ∀ (x10_539 : Int32) (cC_539 : mg_St) (y539_ : Int32 × mg_St), f_X7_isSame_539 x2_324 x3_324 x4_324 (upd (upd (upd (upd (upd (fun _ => 0) 0 (nI y30.1)) 1 y32.1) 2 y32.2.1) 3 y43) 4 y39.1) ζ n x10_539 cC_539 = some y539_ → (∀ (H : Heap) (locs : List Loc) (ls : Array Slot), mg_Vo D A s.heap H locs ([mg_fC g (o 53) (o 54) y539_.2, mg_fI o q41 5 (upd (upd (upd (upd (upd (fun _ => 0) 0 (nI y30.1)) 1 y32.1) 2 y32.2.1) 3 y43) 4 y39.1), mg_fS o u α ζ]) → lv_has ls 13 [(0, .ref u), (1, .ref (g 0)), (2, .int x2_324), (3, .int x3_324), (4, .int x4_324), (9, .ref q41)] → W p l e (headSpec wsX7_isSame ({ frames := 8, cells := 2026, slots := 21893, locals := 136 } : Room)).room s m ([.ref u, .ref (g 0)] : List Value).toArray below meth c H locs (cl324_ + 47) (sl324_ + 731) (MQD lw_cs below (mg_QV D (fun _ => []) A (fun _ => some (.int 1))) ([.ref u, .ref (g 0)] : List Value).toArray s 2026 21893 A) (F0 m 569 ls [])) → ∀ (H : Heap) (locs : List Loc) (ls : Array Slot), mg_Vo D A s.heap H locs ([mg_fC g (o 53) (o 54) cC_539, mg_fI o q41 5 (upd (upd (upd (upd (upd (fun _ => 0) 0 (nI y30.1)) 1 y32.1) 2 y32.2.1) 3 y43) 4 y39.1), mg_fS o u α ζ]) → lv_has ls 13 [(0, .ref u), (1, .ref (g 0)), (2, .int x2_324), (3, .int x3_324), (4, .int x4_324), (9, .ref q41), (10, .int x10_539)] → W p l e (headSpec wsX7_isSame ({ frames := 8, cells := 2026, slots := 21893, locals := 136 } : Room)).room s m ([.ref u, .ref (g 0)] : List Value).toArray below meth c H locs (cl324_ + 47) (sl324_ + 731) (MQD lw_cs below (mg_QV D (fun _ => []) A (fun _ => some (.int 1))) ([.ref u, .ref (g 0)] : List Value).toArray s 2026 21893 A) (F0 m 539 ls []) := by
          intro n
          induction n with
          | zero => intro x10_539 cC_539 y539_ h; rw [f_X7_isSame_539] at h; cases h
          | succ n ih =>
            intro x10_539 cC_539 y539_ h kc H locs ls hw hl
            rw [f_X7_isSame_539] at h
            refine lv_iload hx hb dX7_isSame_539 (lv_at hl 6 rfl) ?_
            refine lv_iconst (v := 5) hx hb dX7_isSame_541 (by decide) ?_
            refine mg_icmp_ge (tgt := 569) hx hb h dX7_isSame_542 (by decide) (fun h => ?_) (fun h => ?_)
            · cases h
              exact kc H locs ls hw (lv_sub hl [0, 1, 2, 3, 4, 5] rfl)
            · refine lv_aload_n hx hb dX7_isSame_545 rfl (lv_at hl 1 rfl) ?_
              refine lv_iload hx hb dX7_isSame_546 (lv_at hl 4 rfl) ?_
              refine lv_iload hx hb dX7_isSame_548 (lv_at hl 6 rfl) ?_
              refine mg_vxq h (fun v : Int32 => some (.int v)) (fun mc9 ms9 o9 s9 hm9 h9 hc9 hs9 => vx_runV (As := [.int x4_324, .int x10_539]) (rest := []) G9 (k_X6_about l hst D o (o 53) (o 54) g H.size cC_539 x4_324 x10_539 o9 s9 h9 mc9 ms9 hm9) (cwV 2 hts gX7_isSame_X6_about rfl rfl rfl (by decide +kernel) ⟨Nat.le_of_ble_eq_true rfl, Nat.le_of_ble_eq_true rfl⟩) (mg_preV (hK.sub (tys' := [(o 53, .int), (o 54, .boolean)]) [0, 1] rfl) hO hA (mg_C_list hw 0 rfl) (q0 := 0) rfl rfl) rfl rfl hl.1 rfl (lv_room (Nat.le_of_ble_eq_true rfl)) dX7_isSame_550 ⟨hc9, hs9⟩) hw hA 0 [1, 2] rfl (Lr := [mg_fI o q41 5 (upd (upd (upd (upd (upd (fun _ => 0) 0 (nI y30.1)) 1 y32.1) 2 y32.2.1) 3 y43) 4 y39.1), mg_fS o u α ζ]) rfl rfl (by decide) (show cl324_ + 47 ≤ 2026 by omega) (show sl324_ + 731 ≤ 21893 by omega) (fun v46 s47 h H locs hw => ?_)
              refine lv_aload hx hb dX7_isSame_553 (lv_at hl 5 rfl) ?_
              refine lv_iload hx hb dX7_isSame_555 (lv_at hl 6 rfl) ?_
              refine mg_ialx hx hb hK hw 0 rfl mg_fI_0 h dX7_isSame_557 (fun j48 hj48_ h => ?_)
              refine mg_icmp_eq (tgt := 563) hx hb h dX7_isSame_558 (by decide) (fun h => ?_) (fun h => ?_)
              · refine lv_iinc (v := (x10_539 + 1)) (lv' := [(10, .int (x10_539 + 1)), (0, .ref u), (1, .ref (g 0)), (2, .int x2_324), (3, .int x3_324), (4, .int x4_324), (9, .ref q41)]) hx hb dX7_isSame_563 hl (k := 6) rfl rfl (by decide) rfl (fun ls hl => ?_)
                refine lv_goto (tgt := 539) hx hb dX7_isSame_566 (by decide) ?_
                exact ih _ _ _ h kc H locs ls (mg_Vsub hw [2, 0, 1] rfl rfl) (lv_sub hl [1, 2, 3, 4, 5, 6, 0] rfl)
              · cases h
        obtain ⟨y45, h9_, h⟩ := mg_bind h
        refine L539_ 5000 _ _ _ h9_ (fun H locs ls hw hl => ?_) H locs ls (mg_Vsub hw [0, 2, 3] rfl rfl) (lv_sub hl [2, 3, 4, 5, 6, 1, 0] rfl)
        clear L539_ h9_
        refine lv_iload_n hx hb dX7_isSame_569 rfl (lv_at hl 2 rfl) ?_
        refine lv_aload hx hb dX7_isSame_570 (lv_at hl 5 rfl) ?_
        refine lv_iconst (v := 3) hx hb dX7_isSame_572 (by decide) ?_
        refine mg_ial (x := 3) hx hb hK hw 1 rfl mg_fI_0 (by unfold vp_in; decide) (by decide) dX7_isSame_573 ?_
        refine lv_iadd hx hb dX7_isSame_574 ?_
        refine lv_istore_n (lv' := [(2, .int (x2_324 + ((upd (upd (upd (upd (upd (fun _ => 0) 0 (nI y30.1)) 1 y32.1) 2 y32.2.1) 3 y43) 4 y39.1) 3))), (0, .ref u), (1, .ref (g 0)), (3, .int x3_324), (4, .int x4_324), (9, .ref q41)]) hx hb dX7_isSame_575 rfl hl (by decide) rfl (fun ls hl => ?_)
        refine lv_iload_n hx hb dX7_isSame_576 rfl (lv_at hl 3 rfl) ?_
        refine mg_if_lt (tgt := 597) hx hb h dX7_isSame_577 (by decide) (fun h => ?_) (fun h => ?_)
        · refine lv_iload hx hb dX7_isSame_597 (lv_at hl 4 rfl) ?_
          refine lv_istore_n (lv' := [(3, .int x4_324), (2, .int (x2_324 + ((upd (upd (upd (upd (upd (fun _ => 0) 0 (nI y30.1)) 1 y32.1) 2 y32.2.1) 3 y43) 4 y39.1) 3))), (0, .ref u), (1, .ref (g 0)), (4, .int x4_324), (9, .ref q41)]) hx hb dX7_isSame_599 rfl hl (by decide) rfl (fun ls hl => ?_)
          refine lv_iinc (v := (x4_324 + (-1))) (lv' := [(4, .int (x4_324 + (-1))), (3, .int x4_324), (2, .int (x2_324 + ((upd (upd (upd (upd (upd (fun _ => 0) 0 (nI y30.1)) 1 y32.1) 2 y32.2.1) 3 y43) 4 y39.1) 3))), (0, .ref u), (1, .ref (g 0)), (9, .ref q41)]) hx hb dX7_isSame_600 hl (k := 4) rfl rfl (by decide) rfl (fun ls hl => ?_)
          refine lv_goto (tgt := 324) hx hb dX7_isSame_603 (by decide) ?_
          exact ih _ _ (by omega) (by omega) _ _ _ _ _ h kc H locs ls (mg_Vsub hw [0, 2] rfl rfl) (lv_sub hl [3, 4, 2, 1, 0] rfl)
        · refine lv_aload hx hb dX7_isSame_580 (lv_at hl 5 rfl) ?_
          refine lv_iconst (v := 3) hx hb dX7_isSame_582 (by decide) ?_
          refine mg_ial (x := 3) hx hb hK hw 1 rfl mg_fI_0 (by unfold vp_in; decide) (by decide) dX7_isSame_583 ?_
          refine lv_aload_n hx hb dX7_isSame_584 rfl (lv_at hl 1 rfl) ?_
          refine lv_aload_n hx hb dX7_isSame_585 rfl (lv_at hl 1 rfl) ?_
          refine va_get (D := D) (ci := 7) (v := .ref (α 0 3)) (C := RX7) (T := TX7) (N := 6) hx hb hts iX7_ hown hK (mg_at1 hw.1 2 rfl mg_fS_00) 0 rfl rfl 4 (by decide) w4_ (fun _ h9 => h9) rfl dX7_isSame_586 ?_
          refine lv_iload_n hx hb dX7_isSame_589 rfl (lv_at hl 3 rfl) ?_
          refine mg_aal hx hb hK hw 2 2 rfl mg_fS_03 rfl rfl h dX7_isSame_590 (fun j49 hj49_ h => ?_)
          obtain ⟨y50, h9_, h⟩ := mg_bind h
          refine mg_callV (va_runV (As := [.ref (α 4 j49)]) (rest := [.int ((upd (upd (upd (upd (upd (fun _ => 0) 0 (nI y30.1)) 1 y32.1) 2 y32.2.1) 3 y43) 4 y39.1) 3)]) G9 (k_X7_beauty l D o u α H.size j49 ζ hj49_ y50 h9_) (cwV 1 hts gX7_isSame_X7_beauty rfl rfl rfl (by decide +kernel) ⟨Nat.le_of_ble_eq_true rfl, Nat.le_of_ble_eq_true rfl⟩) (mg_preVV hK hO hA (mg_Vsub (L' := [mg_fS o u α ζ]) hw [2] rfl rfl) 0 rfl mg_fS_00 rfl) rfl rfl hl.1 rfl (lv_room (Nat.le_of_ble_eq_true rfl)) dX7_isSame_591 ⟨(show cl324_ + 47 + 23 ≤ 2026 by omega), (show sl324_ + 731 + 363 ≤ 21893 by omega)⟩) hw hA [2] [0, 1] rfl (Lr := [mg_fC g (o 53) (o 54) y45.2, mg_fI o q41 5 (upd (upd (upd (upd (upd (fun _ => 0) 0 (nI y30.1)) 1 y32.1) 2 y32.2.1) 3 y43) 4 y39.1)]) rfl rfl (by decide) (fun β51 H locs hw => ?_)
          clear h9_
          have hw : mg_Vo D A s.heap H locs ([mg_fC g (o 53) (o 54) y45.2, mg_fI o q41 5 (upd (upd (upd (upd (upd (fun _ => 0) 0 (nI y30.1)) 1 y32.1) 2 y32.2.1) 3 y43) 4 y39.1), mg_fS o u α ζ]) := hw
          refine mg_icmp_lt (tgt := 600) hx hb h dX7_isSame_594 (by decide) (fun h => ?_) (fun h => ?_)
          · refine lv_iinc (v := (x4_324 + (-1))) (lv' := [(4, .int (x4_324 + (-1))), (2, .int (x2_324 + ((upd (upd (upd (upd (upd (fun _ => 0) 0 (nI y30.1)) 1 y32.1) 2 y32.2.1) 3 y43) 4 y39.1) 3))), (0, .ref u), (1, .ref (g 0)), (3, .int x3_324), (9, .ref q41)]) hx hb dX7_isSame_600 hl (k := 4) rfl rfl (by decide) rfl (fun ls hl => ?_)
            refine lv_goto (tgt := 324) hx hb dX7_isSame_603 (by decide) ?_
            exact ih _ _ (by omega) (by omega) _ _ _ _ _ h kc H locs ls (mg_Vsub hw [0, 2] rfl rfl) (lv_sub hl [2, 3, 1, 4, 0] rfl)
          · refine lv_iload hx hb dX7_isSame_597 (lv_at hl 4 rfl) ?_
            refine lv_istore_n (lv' := [(3, .int x4_324), (2, .int (x2_324 + ((upd (upd (upd (upd (upd (fun _ => 0) 0 (nI y30.1)) 1 y32.1) 2 y32.2.1) 3 y43) 4 y39.1) 3))), (0, .ref u), (1, .ref (g 0)), (4, .int x4_324), (9, .ref q41)]) hx hb dX7_isSame_599 rfl hl (by decide) rfl (fun ls hl => ?_)
            refine lv_iinc (v := (x4_324 + (-1))) (lv' := [(4, .int (x4_324 + (-1))), (3, .int x4_324), (2, .int (x2_324 + ((upd (upd (upd (upd (upd (fun _ => 0) 0 (nI y30.1)) 1 y32.1) 2 y32.2.1) 3 y43) 4 y39.1) 3))), (0, .ref u), (1, .ref (g 0)), (9, .ref q41)]) hx hb dX7_isSame_600 hl (k := 4) rfl rfl (by decide) rfl (fun ls hl => ?_)
            refine lv_goto (tgt := 324) hx hb dX7_isSame_603 (by decide) ?_
            exact ih _ _ (by omega) (by omega) _ _ _ _ _ h kc H locs ls (mg_Vsub hw [0, 2] rfl rfl) (lv_sub hl [3, 4, 2, 1, 0] rfl)
  obtain ⟨y28, h9_, h⟩ := mg_bind h
  refine L324_ 7 823 7371 (Nat.le_refl 1313) (Nat.le_refl 15029) _ _ _ _ _ h9_ (fun H locs ls hw hl => ?_) H locs ls hw (lv_sub hl [3, 4, 2, 1, 0] rfl)
  clear L324_ h9_
  refine lv_iconst (v := 0) hx hb dX7_isSame_606 (by decide) ?_
  refine lv_istore (lv' := [(4, .int 0), (0, .ref u), (1, .ref (g 0)), (2, .int y28.1), (3, .int y28.2.1)]) hx hb dX7_isSame_607 hl (by decide) rfl (fun ls hl => ?_)
  have L609_ : ∀ (n : Nat), ∀ (x4_609 : Int32) (cC_609 : mg_St) (y609_ : Int32 × mg_St), f_X7_isSame_609 y28.1 y28.2.1 ζ n x4_609 cC_609 = some y609_ → (∀ (H : Heap) (locs : List Loc) (ls : Array Slot), mg_Vo D A s.heap H locs ([mg_fC g (o 53) (o 54) y609_.2, mg_fS o u α ζ]) → lv_has ls 13 [(0, .ref u), (1, .ref (g 0)), (2, .int y28.1), (3, .int y28.2.1)] → W p l e (headSpec wsX7_isSame ({ frames := 8, cells := 2026, slots := 21893, locals := 136 } : Room)).room s m ([.ref u, .ref (g 0)] : List Value).toArray below meth c H locs 1313 15029 (MQD lw_cs below (mg_QV D (fun _ => []) A (fun _ => some (.int 1))) ([.ref u, .ref (g 0)] : List Value).toArray s 2026 21893 A) (F0 m 645 ls [])) → ∀ (H : Heap) (locs : List Loc) (ls : Array Slot), mg_Vo D A s.heap H locs ([mg_fC g (o 53) (o 54) cC_609, mg_fS o u α ζ]) → lv_has ls 13 [(0, .ref u), (1, .ref (g 0)), (2, .int y28.1), (3, .int y28.2.1), (4, .int x4_609)] → W p l e (headSpec wsX7_isSame ({ frames := 8, cells := 2026, slots := 21893, locals := 136 } : Room)).room s m ([.ref u, .ref (g 0)] : List Value).toArray below meth c H locs 1313 15029 (MQD lw_cs below (mg_QV D (fun _ => []) A (fun _ => some (.int 1))) ([.ref u, .ref (g 0)] : List Value).toArray s 2026 21893 A) (F0 m 609 ls []) := by
    intro n
    induction n with
    | zero => intro x4_609 cC_609 y609_ h; rw [f_X7_isSame_609] at h; cases h
    | succ n ih =>
      intro x4_609 cC_609 y609_ h kc H locs ls hw hl
      rw [f_X7_isSame_609] at h
      refine lv_iload hx hb dX7_isSame_609 (lv_at hl 4 rfl) ?_
      refine lv_aload_n hx hb dX7_isSame_611 rfl (lv_at hl 0 rfl) ?_
      refine va_get (D := D) (ci := 7) (v := .ref (α 0 4)) (C := RX7) (T := TX7) (N := 6) hx hb hts iX7_ hown hK (mg_at1 hw.1 1 rfl mg_fS_00) 0 rfl rfl 5 (by decide) w5_ (fun _ h9 => h9) rfl dX7_isSame_612 ?_
      refine mg_alenq hx hb hK hw 1 2 rfl mg_fS_04 rfl dX7_isSame_615 ?_
      refine mg_icmp_ge (tgt := 645) hx hb h dX7_isSame_616 (by decide) (fun h => ?_) (fun h => ?_)
      · cases h
        exact kc H locs ls hw (lv_sub hl [0, 1, 2, 3] rfl)
      · refine lv_aload_n hx hb dX7_isSame_619 rfl (lv_at hl 1 rfl) ?_
        refine lv_iload hx hb dX7_isSame_620 (lv_at hl 4 rfl) ?_
        refine mg_vxq h (fun v : Int32 => some (.int v)) (fun mc9 ms9 o9 s9 hm9 h9 hc9 hs9 => vx_runV (As := [.int x4_609]) (rest := []) G9 (k_X6_lines l hst D o (o 53) (o 54) g H.size cC_609 x4_609 o9 s9 h9 mc9 ms9 hm9) (cwV 1 hts gX7_isSame_X6_lines rfl rfl rfl (by decide +kernel) ⟨Nat.le_of_ble_eq_true rfl, Nat.le_of_ble_eq_true rfl⟩) (mg_preV (hK.sub (tys' := [(o 53, .int), (o 54, .boolean)]) [0, 1] rfl) hO hA (mg_C_list hw 0 rfl) (q0 := 0) rfl rfl) rfl rfl hl.1 rfl (lv_room (Nat.le_of_ble_eq_true rfl)) dX7_isSame_622 ⟨hc9, hs9⟩) hw hA 0 [1] rfl (Lr := [mg_fS o u α ζ]) rfl rfl (by decide) (show 1313 ≤ 2026 by omega) (show 15029 ≤ 21893 by omega) (fun v53 s54 h H locs hw => ?_)
        refine lv_aload_n hx hb dX7_isSame_625 rfl (lv_at hl 0 rfl) ?_
        refine va_get (D := D) (ci := 7) (v := .ref (α 0 4)) (C := RX7) (T := TX7) (N := 6) hx hb hts iX7_ hown hK (mg_at1 hw.1 0 rfl mg_fS_00) 0 rfl rfl 5 (by decide) w5_ (fun _ h9 => h9) rfl dX7_isSame_626 ?_
        refine lv_iload hx hb dX7_isSame_629 (lv_at hl 4 rfl) ?_
        refine mg_aal hx hb hK hw 0 2 rfl mg_fS_04 rfl rfl h dX7_isSame_631 (fun j55 hj55_ h => ?_)
        refine lv_iconst (v := 1) hx hb dX7_isSame_632 (by decide) ?_
        refine mg_ial (x := 1) hx hb hK hw 0 rfl (mg_fS_5 hj55_) (by unfold vp_in; decide) (by decide) dX7_isSame_633 ?_
        refine mg_icmp_eq (tgt := 639) hx hb h dX7_isSame_634 (by decide) (fun h => ?_) (fun h => ?_)
        · refine lv_iinc (v := (x4_609 + 1)) (lv' := [(4, .int (x4_609 + 1)), (0, .ref u), (1, .ref (g 0)), (2, .int y28.1), (3, .int y28.2.1)]) hx hb dX7_isSame_639 hl (k := 4) rfl rfl (by decide) rfl (fun ls hl => ?_)
          refine lv_goto (tgt := 609) hx hb dX7_isSame_642 (by decide) ?_
          exact ih _ _ _ h kc H locs ls (mg_Vsub hw [1, 0] rfl rfl) (lv_sub hl [1, 2, 3, 4, 0] rfl)
        · cases h
  obtain ⟨y52, h9_, h⟩ := mg_bind h
  refine L609_ 5000 _ _ _ h9_ (fun H locs ls hw hl => ?_) H locs ls hw (lv_sub hl [1, 2, 3, 4, 0] rfl)
  clear L609_ h9_
  refine lv_aload_n hx hb dX7_isSame_645 rfl (lv_at hl 0 rfl) ?_
  obtain ⟨y56, h9_, h⟩ := mg_bind h
  refine mg_callV (va_runV (As := []) (rest := []) G9 (k_X7_counts l D o u α H.size ζ y56 h9_) (cwV 0 hts gX7_isSame_X7_counts rfl rfl rfl (by decide +kernel) ⟨Nat.le_of_ble_eq_true rfl, Nat.le_of_ble_eq_true rfl⟩) (mg_preVV hK hO hA (mg_Vsub (L' := [mg_fS o u α ζ]) hw [1] rfl rfl) 0 rfl mg_fS_00 rfl) rfl rfl hl.1 rfl (lv_room (Nat.le_of_ble_eq_true rfl)) dX7_isSame_646 ⟨(show 1313 + 713 ≤ 2026 by omega), (show 15029 + 6864 ≤ 21893 by omega)⟩) hw hA [1] [0] rfl (Lr := [mg_fC g (o 53) (o 54) y52.2]) rfl rfl (by decide) (fun β57 H locs hw => ?_)
  clear h9_
  have hw : mg_Vo D A s.heap H locs ([mg_fC g (o 53) (o 54) y52.2, mg_fS o u α ζ, mg_fI o (β57 0 0) 11 y56]) := hw
  refine lv_astore (lv' := [(4, .ref (β57 0 0)), (0, .ref u), (1, .ref (g 0)), (2, .int y28.1), (3, .int y28.2.1)]) hx hb dX7_isSame_649 hl (by decide) rfl (fun ls hl => ?_)
  refine lv_iconst (v := 0) hx hb dX7_isSame_651 (by decide) ?_
  refine lv_istore (lv' := [(5, .int 0), (4, .ref (β57 0 0)), (0, .ref u), (1, .ref (g 0)), (2, .int y28.1), (3, .int y28.2.1)]) hx hb dX7_isSame_652 hl (by decide) rfl (fun ls hl => ?_)
  have L654_ : ∀ (n : Nat), ∀ (x5_654 : Int32) (cC_654 : mg_St) (y654_ : Int32 × mg_St), f_X7_isSame_654 y28.1 y28.2.1 ζ y56 n x5_654 cC_654 = some y654_ → (∀ (H : Heap) (locs : List Loc) (ls : Array Slot), mg_Vo D A s.heap H locs ([mg_fC g (o 53) (o 54) y654_.2, mg_fS o u α ζ, mg_fI o (β57 0 0) 11 y56]) → lv_has ls 13 [(0, .ref u), (1, .ref (g 0)), (2, .int y28.1), (3, .int y28.2.1)] → W p l e (headSpec wsX7_isSame ({ frames := 8, cells := 2026, slots := 21893, locals := 136 } : Room)).room s m ([.ref u, .ref (g 0)] : List Value).toArray below meth c H locs 2026 21893 (MQD lw_cs below (mg_QV D (fun _ => []) A (fun _ => some (.int 1))) ([.ref u, .ref (g 0)] : List Value).toArray s 2026 21893 A) (F0 m 683 ls [])) → ∀ (H : Heap) (locs : List Loc) (ls : Array Slot), mg_Vo D A s.heap H locs ([mg_fC g (o 53) (o 54) cC_654, mg_fS o u α ζ, mg_fI o (β57 0 0) 11 y56]) → lv_has ls 13 [(0, .ref u), (1, .ref (g 0)), (2, .int y28.1), (3, .int y28.2.1), (4, .ref (β57 0 0)), (5, .int x5_654)] → W p l e (headSpec wsX7_isSame ({ frames := 8, cells := 2026, slots := 21893, locals := 136 } : Room)).room s m ([.ref u, .ref (g 0)] : List Value).toArray below meth c H locs 2026 21893 (MQD lw_cs below (mg_QV D (fun _ => []) A (fun _ => some (.int 1))) ([.ref u, .ref (g 0)] : List Value).toArray s 2026 21893 A) (F0 m 654 ls []) := by
    intro n
    induction n with
    | zero => intro x5_654 cC_654 y654_ h; rw [f_X7_isSame_654] at h; cases h
    | succ n ih =>
      intro x5_654 cC_654 y654_ h kc H locs ls hw hl
      rw [f_X7_isSame_654] at h
      refine lv_iload hx hb dX7_isSame_654 (lv_at hl 5 rfl) ?_
      refine lv_bipush (v := 11) hx hb dX7_isSame_656 (by decide) ?_
      refine mg_icmp_ge (tgt := 683) hx hb h dX7_isSame_658 (by decide) (fun h => ?_) (fun h => ?_)
      · cases h
        exact kc H locs ls hw (lv_sub hl [0, 1, 2, 3] rfl)
      · refine lv_aload_n hx hb dX7_isSame_661 rfl (lv_at hl 1 rfl) ?_
        refine lv_iload hx hb dX7_isSame_662 (lv_at hl 5 rfl) ?_
        refine mg_vxq h (fun v : Int32 => some (.int v)) (fun mc9 ms9 o9 s9 hm9 h9 hc9 hs9 => vx_runV (As := [.int x5_654]) (rest := []) G9 (k_X6_count l hst D o (o 53) (o 54) g H.size cC_654 x5_654 o9 s9 h9 mc9 ms9 hm9) (cwV 1 hts gX7_isSame_X6_count rfl rfl rfl (by decide +kernel) ⟨Nat.le_of_ble_eq_true rfl, Nat.le_of_ble_eq_true rfl⟩) (mg_preV (hK.sub (tys' := [(o 53, .int), (o 54, .boolean)]) [0, 1] rfl) hO hA (mg_C_list hw 0 rfl) (q0 := 0) rfl rfl) rfl rfl hl.1 rfl (lv_room (Nat.le_of_ble_eq_true rfl)) dX7_isSame_664 ⟨hc9, hs9⟩) hw hA 0 [1, 2] rfl (Lr := [mg_fS o u α ζ, mg_fI o (β57 0 0) 11 y56]) rfl rfl (by decide) (show 2026 ≤ 2026 by omega) (show 21893 ≤ 21893 by omega) (fun v59 s60 h H locs hw => ?_)
        refine lv_aload hx hb dX7_isSame_667 (lv_at hl 4 rfl) ?_
        refine lv_iload hx hb dX7_isSame_669 (lv_at hl 5 rfl) ?_
        refine mg_ialx hx hb hK hw 1 rfl mg_fI_0 h dX7_isSame_671 (fun j61 hj61_ h => ?_)
        refine mg_icmp_eq (tgt := 677) hx hb h dX7_isSame_672 (by decide) (fun h => ?_) (fun h => ?_)
        · refine lv_iinc (v := (x5_654 + 1)) (lv' := [(5, .int (x5_654 + 1)), (0, .ref u), (1, .ref (g 0)), (2, .int y28.1), (3, .int y28.2.1), (4, .ref (β57 0 0))]) hx hb dX7_isSame_677 hl (k := 5) rfl rfl (by decide) rfl (fun ls hl => ?_)
          refine lv_goto (tgt := 654) hx hb dX7_isSame_680 (by decide) ?_
          exact ih _ _ _ h kc H locs ls (mg_Vsub hw [2, 0, 1] rfl rfl) (lv_sub hl [1, 2, 3, 4, 5, 0] rfl)
        · cases h
  obtain ⟨y58, h9_, h⟩ := mg_bind h
  refine L654_ 5000 _ _ _ h9_ (fun H locs ls hw hl => ?_) H locs ls hw (lv_sub hl [2, 3, 4, 5, 1, 0] rfl)
  clear L654_ h9_
  refine lv_aload_n hx hb dX7_isSame_683 rfl (lv_at hl 1 rfl) ?_
  obtain ⟨y62, h9_, h⟩ := mg_bind h
  refine mg_callC (rv := some (.int y62.1)) (va_runV (As := []) (rest := []) G9 (k_X6_finest l D o (o 53) (o 54) g H.size y58.2  y62 h9_) (cwV 0 hts gX7_isSame_X6_finest rfl rfl rfl (by decide +kernel) ⟨Nat.le_of_ble_eq_true rfl, Nat.le_of_ble_eq_true rfl⟩) (mg_preV (hK.sub (tys' := [(o 53, .int), (o 54, .boolean)]) [0, 1] rfl) hO hA (mg_C_list hw 0 rfl) (q0 := 0) rfl rfl) rfl rfl hl.1 rfl (lv_room (Nat.le_of_ble_eq_true rfl)) dX7_isSame_684 ⟨(show 2026 + 0 ≤ 2026 by omega), (show 21893 + 0 ≤ 21893 by omega)⟩) hw hA 0 [1, 2] rfl (Lr := [mg_fS o u α ζ, mg_fI o (β57 0 0) 11 y56]) rfl rfl (by decide) (fun H locs hw => ?_)
  clear h9_
  refine lv_iload_n hx hb dX7_isSame_687 rfl (lv_at hl 3 rfl) ?_
  refine mg_icmp_ne (tgt := 724) hx hb h dX7_isSame_688 (by decide) (fun h => ?_) (fun h => ?_)
  · cases h
  · refine lv_aload_n hx hb dX7_isSame_691 rfl (lv_at hl 1 rfl) ?_
    obtain ⟨y63, h9_, h⟩ := mg_bind h
    obtain ⟨y8_, h8_, h⟩ := mg_bind h
    obtain ⟨hg9, hv9, hn9⟩ := mg_gd_of h8_
    refine W.base ?_
    refine mg_callCD hd0 (va_runV_D (As := []) (rest := []) ⟨hx, hb, hml, hown, dr_words hts _⟩ (k_X6_mean l D o (o 53) (o 54) g H.size y62.2 y63 h9_) (cwV 0 (dr_words hts _) gX7_isSame_X6_mean rfl rfl rfl (by decide +kernel) ⟨Nat.le_of_ble_eq_true rfl, Nat.le_of_ble_eq_true rfl⟩) (mg_preV (s := s.setDrawn _) (hK.sub (tys' := [(o 53, .int), (o 54, .boolean)]) [0, 1] rfl) hO hA (mg_C_list hw 2 rfl) (q0 := 0) rfl rfl) rfl rfl hl.1 rfl (lv_room (Nat.le_of_ble_eq_true rfl)) dX7_isSame_692 ⟨(show 2026 + 0 ≤ 2026 by omega), (show 21893 + 0 ≤ 21893 by omega)⟩) hw hA 2 [0, 1] rfl (Lr := [mg_fS o u α ζ, mg_fI o (β57 0 0) 11 y56]) rfl rfl (by decide) (fun r1 d1 hal1 hd1 H locs hw => ?_)
    have hw : mg_Vo D A s.heap H locs ([mg_fS o u α ζ, mg_fI o (β57 0 0) 11 y56, mg_fC g (o 53) (o 54) y63.2]) := hw
    by_cases hz : ζ.2 1 = 0
    · rw [if_pos hz] at hv9
      refine lv_aload_n hx hb dX7_isSame_695 rfl (lv_at hl 0 rfl) ?_
      refine va_get (s := s.setDrawn d1) (D := D) (ci := 7) (v := .ref (α 0 3)) (C := RX7) (T := TX7) (N := 6) hx hb (dr_words hts d1) iX7_ hown hK (mg_at1 hw.1 0 rfl mg_fS_00) 0 rfl rfl 4 (by decide) (dr_words hts d1 (.fieldLink RX7 24 "MoonGateLaw$Sim" "gates" "[[I") (by decide +kernel)) (fun _ h9 => h9) rfl dX7_isSame_696 ?_
      refine mg_alenq (s := s.setDrawn d1) hx hb hK hw 0 2 rfl mg_fS_03 rfl dX7_isSame_699 ?_
      refine lv_if_ne (tgt := 707) hx hb dX7_isSame_700 (by decide) (fun h => absurd (by show nI (ζ.2 1) = 0; rw [hz]; exact nI_0) h) (fun _ => ?_)
      refine lv_dconst0 hx hb dX7_isSame_703 ?_
      refine lv_goto (tgt := 716) hx hb dX7_isSame_704 (by decide) ?_
      refine lv_dcmp hx hb dX7_isSame_716 ?_
      have hz9 := hds _ _ _ hn9 hal1 (show alike64 FP.dconst0 _ = true by rw [hv9]; exact alike64_refl _)
      rw [hz9]
      refine lv_if_ne (tgt := 724) hx hb dX7_isSame_717 (by decide) (fun h => absurd rfl h) (fun _ => ?_)
      refine lv_iconst (v := 1) hx hb dX7_isSame_720 (by decide) ?_
      refine lv_goto (tgt := 725) hx hb dX7_isSame_721 (by decide) ?_
      exact mg_eZD hd1 rfl hx hb hr hlocks hw (show 2026 + 0 ≤ 2026 by omega) (show 21893 + 0 ≤ 21893 by omega) dX7_isSame_725
    · rw [if_neg hz] at hv9
      refine lv_aload_n hx hb dX7_isSame_695 rfl (lv_at hl 0 rfl) ?_
      refine va_get (s := s.setDrawn d1) (D := D) (ci := 7) (v := .ref (α 0 3)) (C := RX7) (T := TX7) (N := 6) hx hb (dr_words hts d1) iX7_ hown hK (mg_at1 hw.1 0 rfl mg_fS_00) 0 rfl rfl 4 (by decide) (dr_words hts d1 (.fieldLink RX7 24 "MoonGateLaw$Sim" "gates" "[[I") (by decide +kernel)) (fun _ h9 => h9) rfl dX7_isSame_696 ?_
      refine mg_alenq (s := s.setDrawn d1) hx hb hK hw 0 2 rfl mg_fS_03 rfl dX7_isSame_699 ?_
      refine lv_if_ne (tgt := 707) hx hb dX7_isSame_700 (by decide) (fun _ => ?_) (fun h => ?_)
      · refine lv_iload_n hx hb dX7_isSame_707 rfl (lv_at hl 2 rfl) ?_
        refine lv_i2d hx hb dX7_isSame_708 ?_
        refine lv_aload_n hx hb dX7_isSame_709 rfl (lv_at hl 0 rfl) ?_
        refine va_get (s := s.setDrawn d1) (D := D) (ci := 7) (v := .ref (α 0 3)) (C := RX7) (T := TX7) (N := 6) hx hb (dr_words hts d1) iX7_ hown hK (mg_at1 hw.1 0 rfl mg_fS_00) 0 rfl rfl 4 (by decide) (dr_words hts d1 (.fieldLink RX7 24 "MoonGateLaw$Sim" "gates" "[[I") (by decide +kernel)) (fun _ h9 => h9) rfl dX7_isSame_710 ?_
        refine mg_alenq (s := s.setDrawn d1) hx hb hK hw 0 2 rfl mg_fS_03 rfl dX7_isSame_713 ?_
        refine lv_i2d hx hb dX7_isSame_714 ?_
        refine lv_ddiv_any (d0 := d1) hd1 lw_bits hx hb dX7_isSame_715 (fun r2 d2 hal2 hd2 => ?_)
        refine lv_dcmp hx hb dX7_isSame_716 ?_
        have hz9 := hds _ _ _ hn9 hal1 (show alike64 r2 _ = true by rw [hv9]; exact hal2)
        rw [hz9]
        refine lv_if_ne (tgt := 724) hx hb dX7_isSame_717 (by decide) (fun h => absurd rfl h) (fun _ => ?_)
        refine lv_iconst (v := 1) hx hb dX7_isSame_720 (by decide) ?_
        refine lv_goto (tgt := 725) hx hb dX7_isSame_721 (by decide) ?_
        exact mg_eZD hd2 rfl hx hb hr hlocks hw (show 2026 + 0 ≤ 2026 by omega) (show 21893 + 0 ≤ 21893 by omega) dX7_isSame_725
      · exact absurd h (mg_nI_ne hz hg9)
