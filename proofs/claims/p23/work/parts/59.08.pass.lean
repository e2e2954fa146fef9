set_option maxHeartbeats 8000000 in
set_option maxRecDepth 100000 in
theorem k_X7_pass (l : Launch) (D : va_G) (o : Nat → Nat) (u : Nat) (α : Nat → Nat → Nat) (sz : Nat) (ζ : mg_Sz) (y : Int32 × mg_Sz) (h : f_X7_pass ζ = some y) : mg_CV l yX7_pass wsX7_pass ({ frames := 3, cells := 386, slots := 4565, locals := 78 } : Room) D o [mg_fS o u α ζ] sz [.ref u] (fun _ => some (.int y.1)) (fun _ => [mg_fS o u α y.2]) 386 4565 := by
  unfold mg_CV
  refine Met.ofW (cc := cX7_pass) (maxL := 7) (ret := (some .int)) (by decide) rfl ?_
  intro p e s m args below meth c s₁ B hml hv
  obtain ⟨rfl, hsz, hP, hK, hD0, hO⟩ := hv
  have hx := B.exec
  have hb := B.bytes
  have hr := B.returns
  have hts := atoms_spec (ws := wsX7_pass) B.pre
  have hown : s.vm.findClass RX7 = some m.cls := findClass_of_methodNamed B.named
  have hlocks := B.notSynchronized
  subst hsz
  have hD := hD0.self (sz := s.heap.size)
  generalize hAe : mg_VA [mg_fS o u α ζ] s.heap.size = A at hD hO ⊢
  have hA : ∀ q : Nat, s.heap.size ≤ q → A q := fun q h => by rw [← hAe]; exact Or.inr h
  have hw : mg_Vo D A s.heap s.heap [] ([mg_fS o u α ζ]) := ⟨hP, hD, va_S.rf⟩
  have G9 : CallFix p m c cX7_pass 7 s ([.ref u] : List Value).toArray wsX7_pass RX7 := ⟨hx, hb, hml, hown, hts⟩
  clear hP hD hD0 hAe
  have w0_ := hts (.fieldLink RX7 20 "MoonGateLaw$Sim" "carps" "[[I") (by decide +kernel)
  have iX7_ : ∀ w ∈ wsX70, w ∈ wsX7_pass := (fun _ h => List.mem_cons_of_mem _ (List.mem_append_right _ h))
  have w2_ := hts (.fieldLink RX7 27 "MoonGateLaw$Sim" "poets" "[[I") (by decide +kernel)
  have w3_ := hts (.fieldLink RX7 24 "MoonGateLaw$Sim" "gates" "[[I") (by decide +kernel)
  have w4_ := hts (.fieldLink RX7 59 "MoonGateLaw$Sim" "day" "I") (by decide +kernel)
  have w5_ := hts (.fieldLink RX7 7 "MoonGateLaw$Sim" "coins" "I") (by decide +kernel)
  have hl := lv_entry ([.ref u]) (n := 7) (Nat.le_of_ble_eq_true rfl)
  rw [lg_entry_eq]
  generalize (lg_sl ([.ref u]) ++ List.replicate (7 - (lg_sl ([.ref u])).length) Slot.unset).toArray = ls at hl ⊢
  have hl : lv_has ls 7 [(0, .ref u)] := hl
  unfold f_X7_pass at h
  suffices K_ : ∀ (H : Heap) (locs : List Loc), mg_Vo D A s.heap H locs ([mg_fS o u α ζ]) → W p l e (headSpec wsX7_pass ({ frames := 3, cells := 386, slots := 4565, locals := 78 } : Room)).room s m ([.ref u] : List Value).toArray below meth c H locs 0 0 (MQ below (mg_QV D (fun _ => [mg_fS o u α y.2]) A (fun _ => some (.int y.1))) ([.ref u] : List Value).toArray s 386 4565 A) (F0 m 0 ls []) from K_ _ _ hw
  clear hw
  intro H locs hw
  refine lv_aload_n hx hb dX7_pass_0 rfl (lv_at hl 0 rfl) ?_
  refine va_get (D := D) (ci := 7) (v := .ref (α 0 2)) (C := RX7) (T := TX7) (N := 6) hx hb hts iX7_ hown hK (mg_at1 hw.1 0 rfl mg_fS_00) 0 rfl rfl 3 (by decide) w0_ (fun _ h9 => h9) rfl dX7_pass_1 ?_
  refine lv_astore_n (lv' := [(1, .ref (α 0 2)), (0, .ref u)]) hx hb dX7_pass_4 rfl hl (by decide) rfl (fun ls hl => ?_)
  refine lv_aload_n hx hb dX7_pass_5 rfl (lv_at hl 0 rfl) ?_
  refine mg_alenq hx hb hK hw 0 2 rfl mg_fS_02 rfl dX7_pass_6 ?_
  refine lv_istore_n (lv' := [(2, .int (nI (ζ.2 0))), (1, .ref (α 0 2)), (0, .ref u)]) hx hb dX7_pass_7 rfl hl (by decide) rfl (fun ls hl => ?_)
  refine lv_iconst (v := 0) hx hb dX7_pass_8 (by decide) ?_
  refine lv_istore_n (lv' := [(3, .int 0), (2, .int (nI (ζ.2 0))), (1, .ref (α 0 2)), (0, .ref u)]) hx hb dX7_pass_9 rfl hl (by decide) rfl (fun ls hl => ?_)
  have L10_ : ∀ (n : Nat), ∀ (cl10_ sl10_ : Nat), cl10_ + n * 8 ≤ 248 → sl10_ + n * 77 ≤ 2387 → ∀ (x3_10 : Int32) (cS_10 : mg_Sz) (y10_ : Int32 × mg_Sz), f_X7_pass_10 (nI (ζ.2 0)) n x3_10 cS_10 = some y10_ → (∀ (H : Heap) (locs : List Loc) (ls : Array Slot), mg_Vo D A s.heap H locs ([mg_fS o u α y10_.2]) → lv_has ls 7 [(0, .ref u)] → W p l e (headSpec wsX7_pass ({ frames := 3, cells := 386, slots := 4565, locals := 78 } : Room)).room s m ([.ref u] : List Value).toArray below meth c H locs 248 2387 (MQ below (mg_QV D (fun _ => [mg_fS o u α y.2]) A (fun _ => some (.int y.1))) ([.ref u] : List Value).toArray s 386 4565 A) (F0 m 116 ls [])) → ∀ (H : Heap) (locs : List Loc) (ls : Array Slot), mg_Vo D A s.heap H locs ([mg_fS o u α cS_10]) → lv_has ls 7 [(0, .ref u), (1, .ref (α 0 2)), (2, .int (nI (ζ.2 0))), (3, .int x3_10)] → W p l e (headSpec wsX7_pass ({ frames := 3, cells := 386, slots := 4565, locals := 78 } : Room)).room s m ([.ref u] : List Value).toArray below meth c H locs cl10_ sl10_ (MQ below (mg_QV D (fun _ => [mg_fS o u α y.2]) A (fun _ => some (.int y.1))) ([.ref u] : List Value).toArray s 386 4565 A) (F0 m 10 ls []) := by
    intro n
    induction n with
    | zero => intro cl10_ sl10_ hcl10_ hsl10_ x3_10 cS_10 y10_ h; rw [f_X7_pass_10] at h; cases h
    | succ n ih =>
      intro cl10_ sl10_ hcl10_ hsl10_ x3_10 cS_10 y10_ h kc H locs ls hw hl
      rw [f_X7_pass_10] at h
      refine lv_iload_n hx hb dX7_pass_10 rfl (lv_at hl 3 rfl) ?_
      refine lv_iload_n hx hb dX7_pass_11 rfl (lv_at hl 2 rfl) ?_
      refine mg_icmp_ge (tgt := 116) hx hb h dX7_pass_12 (by decide) (fun h => ?_) (fun h => ?_)
      · cases h
        refine W.widen (k := 248) (n := 2387) (by omega) (by omega) ?_
        exact kc H locs ls hw (lv_sub hl [0] rfl)
      · refine lv_aload_n hx hb dX7_pass_15 rfl (lv_at hl 1 rfl) ?_
        refine lv_iload_n hx hb dX7_pass_16 rfl (lv_at hl 3 rfl) ?_
        refine mg_aal hx hb hK hw 0 2 rfl mg_fS_02 rfl rfl h dX7_pass_17 (fun j2 hj2_ h => ?_)
        refine lv_astore (lv' := [(4, .ref (α 3 j2)), (0, .ref u), (1, .ref (α 0 2)), (2, .int (nI (ζ.2 0))), (3, .int x3_10)]) hx hb dX7_pass_18 hl (by decide) rfl (fun ls hl => ?_)
        refine lv_aload hx hb dX7_pass_20 (lv_at hl 0 rfl) ?_
        refine lv_iconst (v := 3) hx hb dX7_pass_22 (by decide) ?_
        refine mg_ial (x := 3) hx hb hK hw 0 rfl (mg_fS_3 hj2_) (by unfold vp_in; decide) (by decide) dX7_pass_23 ?_
        refine lv_iconst (v := 1) hx hb dX7_pass_24 (by decide) ?_
        refine mg_icmp_ne (tgt := 31) hx hb h dX7_pass_25 (by decide) (fun h => ?_) (fun h => ?_)
        · refine lv_aload_n hx hb dX7_pass_31 rfl (lv_at hl 1 rfl) ?_
          refine lv_aload hx hb dX7_pass_32 (lv_at hl 0 rfl) ?_
          refine lv_iconst (v := 0) hx hb dX7_pass_34 (by decide) ?_
          refine mg_ial (x := 0) hx hb hK hw 0 rfl (mg_fS_3 hj2_) (by unfold vp_in; decide) (by decide) dX7_pass_35 ?_
          refine lv_aload hx hb dX7_pass_36 (lv_at hl 0 rfl) ?_
          refine lv_iconst (v := 1) hx hb dX7_pass_38 (by decide) ?_
          refine mg_ial (x := 1) hx hb hK hw 0 rfl (mg_fS_3 hj2_) (by unfold vp_in; decide) (by decide) dX7_pass_39 ?_
          obtain ⟨y3, h9_, h⟩ := mg_bind h
          refine mg_callV (va_runV (As := [.int ((cS_10.1 3 j2) 0), .int ((cS_10.1 3 j2) 1)]) (rest := []) G9 (k_X7_pond l D o u α H.size cS_10 ((cS_10.1 3 j2) 0) ((cS_10.1 3 j2) 1) y3 h9_) (cwV 2 hts gX7_pass_X7_pond rfl rfl rfl (by decide +kernel) ⟨Nat.le_of_ble_eq_true rfl, Nat.le_of_ble_eq_true rfl⟩) (mg_preVV hK hO hA (mg_Vsub (L' := [mg_fS o u α cS_10]) hw [0] rfl rfl) 0 rfl mg_fS_00 rfl) rfl rfl hl.1 rfl (lv_room (Nat.le_of_ble_eq_true rfl)) dX7_pass_40 ⟨(show cl10_ + 8 ≤ 386 by omega), (show sl10_ + 77 ≤ 4565 by omega)⟩) hw hA [0] [] rfl (Lr := []) rfl rfl (by decide) (fun β4 H locs hw => ?_)
          clear h9_
          have hw : mg_Vo D A s.heap H locs ([mg_fS o u α cS_10, mg_fM o (β4 0 0) (β4 1) y3]) := hw
          refine lv_astore (lv' := [(5, .ref (β4 0 0)), (4, .ref (α 3 j2)), (0, .ref u), (1, .ref (α 0 2)), (2, .int (nI (ζ.2 0))), (3, .int x3_10)]) hx hb dX7_pass_43 hl (by decide) rfl (fun ls hl => ?_)
          refine lv_aload_n hx hb dX7_pass_45 rfl (lv_at hl 2 rfl) ?_
          refine lv_aload hx hb dX7_pass_46 (lv_at hl 0 rfl) ?_
          obtain ⟨y5, h9_, h⟩ := mg_bind h
          refine mg_callV (va_runV (As := [.ref (β4 0 0)]) (rest := []) G9 (k_X7_carpsIn l D o u α (β4 0 0) (β4 1) H.size cS_10 y3 y5 h9_) (cwV 1 hts gX7_pass_X7_carpsIn rfl rfl rfl (by decide +kernel) ⟨Nat.le_of_ble_eq_true rfl, Nat.le_of_ble_eq_true rfl⟩) (mg_preVV hK hO hA (mg_Vsub (L' := [mg_fS o u α cS_10, mg_fM o (β4 0 0) (β4 1) y3]) hw [0, 1] rfl rfl) 0 rfl mg_fS_00 rfl) rfl rfl hl.1 rfl (lv_room (Nat.le_of_ble_eq_true rfl)) dX7_pass_48 ⟨(show cl10_ + 8 + 0 ≤ 386 by omega), (show sl10_ + 77 + 0 ≤ 4565 by omega)⟩) hw hA [0, 1] [] rfl (Lr := []) rfl rfl (by decide) (fun β6 H locs hw => ?_)
          clear h9_
          have hw : mg_Vo D A s.heap H locs ([mg_fS o u α cS_10, mg_fM o (β4 0 0) (β4 1) y3]) := hw
          refine lv_iconst (v := 2) hx hb dX7_pass_51 (by decide) ?_
          refine lv_aload hx hb dX7_pass_52 (lv_at hl 0 rfl) ?_
          obtain ⟨y7, h9_, h⟩ := mg_bind h
          refine mg_callV (va_runS (As := [.ref (β4 0 0)]) (rest := [.int 2, .int y5]) G9 (k_X7_many l D o (β4 0 0) (β4 1) H.size y3 y7 h9_) (va_cwS 1 hts gX7_pass_X7_many rfl rfl rfl (by decide +kernel) ⟨Nat.le_of_ble_eq_true rfl, Nat.le_of_ble_eq_true rfl⟩) (mg_preVv hK hO hA (mg_Vsub (L' := [mg_fM o (β4 0 0) (β4 1) y3]) hw [1] rfl rfl)) rfl rfl hl.1 rfl (lv_room (Nat.le_of_ble_eq_true rfl)) dX7_pass_54 ⟨(show cl10_ + 8 + 0 ≤ 386 by omega), (show sl10_ + 77 + 0 ≤ 4565 by omega)⟩) hw hA [1] [0] rfl (Lr := [mg_fS o u α cS_10]) rfl rfl (by decide) (fun β8 H locs hw => ?_)
          clear h9_
          have hw : mg_Vo D A s.heap H locs ([mg_fS o u α cS_10, mg_fM o (β4 0 0) (β4 1) y3]) := hw
          refine lv_imul hx hb dX7_pass_57 ?_
          refine mg_icmp_le (tgt := 86) hx hb h dX7_pass_58 (by decide) (fun h => ?_) (fun h => ?_)
          · refine lv_aload hx hb dX7_pass_86 (lv_at hl 1 rfl) ?_
            refine lv_iconst (v := 2) hx hb dX7_pass_88 (by decide) ?_
            refine lv_aload hx hb dX7_pass_89 (lv_at hl 1 rfl) ?_
            refine lv_iconst (v := 2) hx hb dX7_pass_91 (by decide) ?_
            refine mg_ial (x := 2) hx hb hK hw 0 rfl (mg_fS_3 hj2_) (by unfold vp_in; decide) (by decide) dX7_pass_92 ?_
            refine lv_bipush (v := 40) hx hb dX7_pass_93 (by decide) ?_
            refine mg_icmp_ge (tgt := 107) hx hb h dX7_pass_95 (by decide) (fun h => ?_) (fun h => ?_)
            · refine lv_bipush (v := 40) hx hb dX7_pass_107 (by decide) ?_
              refine mg_iasx (x := 2) (F' := mg_fS o u α (mg_zu cS_10 3 j2 2 40)) hx hb hK hw 0 rfl (mg_fS_3 hj2_) (by unfold vp_in; decide) (by decide) (mg_sS_3 hj2_) dX7_pass_109 (fun H locs hw => ?_)
              refine lv_iinc (v := (x3_10 + 1)) (lv' := [(3, .int (x3_10 + 1)), (5, .ref (β4 0 0)), (4, .ref (α 3 j2)), (0, .ref u), (1, .ref (α 0 2)), (2, .int (nI (ζ.2 0)))]) hx hb dX7_pass_110 hl (k := 5) rfl rfl (by decide) rfl (fun ls hl => ?_)
              refine lv_goto (tgt := 10) hx hb dX7_pass_113 (by decide) ?_
              exact ih _ _ (by omega) (by omega) _ _ _ h kc H locs ls (mg_Vsub hw [0] rfl rfl) (lv_sub hl [3, 4, 5, 0] rfl)
            · refine lv_aload hx hb dX7_pass_98 (lv_at hl 1 rfl) ?_
              refine lv_iconst (v := 2) hx hb dX7_pass_100 (by decide) ?_
              refine mg_ial (x := 2) hx hb hK hw 0 rfl (mg_fS_3 hj2_) (by unfold vp_in; decide) (by decide) dX7_pass_101 ?_
              refine lv_iconst (v := 1) hx hb dX7_pass_102 (by decide) ?_
              refine lv_iadd hx hb dX7_pass_103 ?_
              refine lv_goto (tgt := 109) hx hb dX7_pass_104 (by decide) ?_
              refine mg_iasx (x := 2) (F' := mg_fS o u α (mg_zu cS_10 3 j2 2 (((cS_10.1 3 j2) 2) + 1))) hx hb hK hw 0 rfl (mg_fS_3 hj2_) (by unfold vp_in; decide) (by decide) (mg_sS_3 hj2_) dX7_pass_109 (fun H locs hw => ?_)
              refine lv_iinc (v := (x3_10 + 1)) (lv' := [(3, .int (x3_10 + 1)), (5, .ref (β4 0 0)), (4, .ref (α 3 j2)), (0, .ref u), (1, .ref (α 0 2)), (2, .int (nI (ζ.2 0)))]) hx hb dX7_pass_110 hl (k := 5) rfl rfl (by decide) rfl (fun ls hl => ?_)
              refine lv_goto (tgt := 10) hx hb dX7_pass_113 (by decide) ?_
              exact ih _ _ (by omega) (by omega) _ _ _ h kc H locs ls (mg_Vsub hw [0] rfl rfl) (lv_sub hl [3, 4, 5, 0] rfl)
          · refine lv_aload hx hb dX7_pass_61 (lv_at hl 1 rfl) ?_
            refine lv_iconst (v := 2) hx hb dX7_pass_63 (by decide) ?_
            refine lv_aload hx hb dX7_pass_64 (lv_at hl 1 rfl) ?_
            refine lv_iconst (v := 2) hx hb dX7_pass_66 (by decide) ?_
            refine mg_ial (x := 2) hx hb hK hw 0 rfl (mg_fS_3 hj2_) (by unfold vp_in; decide) (by decide) dX7_pass_67 ?_
            refine lv_iconst (v := 1) hx hb dX7_pass_68 (by decide) ?_
            refine mg_icmp_le (tgt := 81) hx hb h dX7_pass_69 (by decide) (fun h => ?_) (fun h => ?_)
            · refine lv_iconst (v := 1) hx hb dX7_pass_81 (by decide) ?_
              refine mg_iasx (x := 2) (F' := mg_fS o u α (mg_zu cS_10 3 j2 2 1)) hx hb hK hw 0 rfl (mg_fS_3 hj2_) (by unfold vp_in; decide) (by decide) (mg_sS_3 hj2_) dX7_pass_82 (fun H locs hw => ?_)
              refine lv_goto (tgt := 110) hx hb dX7_pass_83 (by decide) ?_
              refine lv_iinc (v := (x3_10 + 1)) (lv' := [(3, .int (x3_10 + 1)), (5, .ref (β4 0 0)), (4, .ref (α 3 j2)), (0, .ref u), (1, .ref (α 0 2)), (2, .int (nI (ζ.2 0)))]) hx hb dX7_pass_110 hl (k := 5) rfl rfl (by decide) rfl (fun ls hl => ?_)
              refine lv_goto (tgt := 10) hx hb dX7_pass_113 (by decide) ?_
              exact ih _ _ (by omega) (by omega) _ _ _ h kc H locs ls (mg_Vsub hw [0] rfl rfl) (lv_sub hl [3, 4, 5, 0] rfl)
            · refine lv_aload hx hb dX7_pass_72 (lv_at hl 1 rfl) ?_
              refine lv_iconst (v := 2) hx hb dX7_pass_74 (by decide) ?_
              refine mg_ial (x := 2) hx hb hK hw 0 rfl (mg_fS_3 hj2_) (by unfold vp_in; decide) (by decide) dX7_pass_75 ?_
              refine lv_iconst (v := 1) hx hb dX7_pass_76 (by decide) ?_
              refine lv_isub hx hb dX7_pass_77 ?_
              refine lv_goto (tgt := 82) hx hb dX7_pass_78 (by decide) ?_
              refine mg_iasx (x := 2) (F' := mg_fS o u α (mg_zu cS_10 3 j2 2 (((cS_10.1 3 j2) 2) - 1))) hx hb hK hw 0 rfl (mg_fS_3 hj2_) (by unfold vp_in; decide) (by decide) (mg_sS_3 hj2_) dX7_pass_82 (fun H locs hw => ?_)
              refine lv_goto (tgt := 110) hx hb dX7_pass_83 (by decide) ?_
              refine lv_iinc (v := (x3_10 + 1)) (lv' := [(3, .int (x3_10 + 1)), (5, .ref (β4 0 0)), (4, .ref (α 3 j2)), (0, .ref u), (1, .ref (α 0 2)), (2, .int (nI (ζ.2 0)))]) hx hb dX7_pass_110 hl (k := 5) rfl rfl (by decide) rfl (fun ls hl => ?_)
              refine lv_goto (tgt := 10) hx hb dX7_pass_113 (by decide) ?_
              exact ih _ _ (by omega) (by omega) _ _ _ h kc H locs ls (mg_Vsub hw [0] rfl rfl) (lv_sub hl [3, 4, 5, 0] rfl)
        · refine lv_goto (tgt := 110) hx hb dX7_pass_28 (by decide) ?_
          refine lv_iinc (v := (x3_10 + 1)) (lv' := [(3, .int (x3_10 + 1)), (4, .ref (α 3 j2)), (0, .ref u), (1, .ref (α 0 2)), (2, .int (nI (ζ.2 0)))]) hx hb dX7_pass_110 hl (k := 4) rfl rfl (by decide) rfl (fun ls hl => ?_)
          refine lv_goto (tgt := 10) hx hb dX7_pass_113 (by decide) ?_
          exact ih _ _ (by omega) (by omega) _ _ _ h kc H locs ls hw (lv_sub hl [2, 3, 4, 0] rfl)
  obtain ⟨y1, h9_, h⟩ := mg_bind h
  refine L10_ _ 0 0 (by omega) (by omega) _ _ _ h9_ (fun H locs ls hw hl => ?_) H locs ls hw (lv_sub hl [3, 2, 1, 0] rfl)
  clear L10_ h9_
  refine lv_iconst (v := 0) hx hb dX7_pass_116 (by decide) ?_
  refine lv_istore_n (lv' := [(1, .int 0), (0, .ref u)]) hx hb dX7_pass_117 rfl hl (by decide) rfl (fun ls hl => ?_)
  refine lv_aload_n hx hb dX7_pass_118 rfl (lv_at hl 1 rfl) ?_
  refine va_get (D := D) (ci := 7) (v := .ref (α 0 4)) (C := RX7) (T := TX7) (N := 6) hx hb hts iX7_ hown hK (mg_at1 hw.1 0 rfl mg_fS_00) 0 rfl rfl 5 (by decide) w2_ (fun _ h9 => h9) rfl dX7_pass_119 ?_
  refine lv_astore_n (lv' := [(2, .ref (α 0 4)), (1, .int 0), (0, .ref u)]) hx hb dX7_pass_122 rfl hl (by decide) rfl (fun ls hl => ?_)
  refine lv_aload_n hx hb dX7_pass_123 rfl (lv_at hl 0 rfl) ?_
  refine mg_alenq hx hb hK hw 0 2 rfl mg_fS_04 rfl dX7_pass_124 ?_
  refine lv_istore_n (lv' := [(3, .int (nI (y1.2.2 2))), (2, .ref (α 0 4)), (1, .int 0), (0, .ref u)]) hx hb dX7_pass_125 rfl hl (by decide) rfl (fun ls hl => ?_)
  refine lv_iconst (v := 0) hx hb dX7_pass_126 (by decide) ?_
  refine lv_istore (lv' := [(4, .int 0), (3, .int (nI (y1.2.2 2))), (2, .ref (α 0 4)), (1, .int 0), (0, .ref u)]) hx hb dX7_pass_127 hl (by decide) rfl (fun ls hl => ?_)
  have L129_ : ∀ (n : Nat), ∀ (cl129_ sl129_ : Nat), cl129_ + n * 23 ≤ 386 → sl129_ + n * 363 ≤ 4565 → ∀ (x1_129 : Int32) (x4_129 : Int32) (cS_129 : mg_Sz) (y129_ : Int32 × Int32 × mg_Sz), f_X7_pass_129 (nI (y1.2.2 2)) n x1_129 x4_129 cS_129 = some y129_ → (∀ (H : Heap) (locs : List Loc) (ls : Array Slot), mg_Vo D A s.heap H locs ([mg_fS o u α y129_.2.2]) → lv_has ls 7 [(0, .ref u), (1, .int y129_.1)] → W p l e (headSpec wsX7_pass ({ frames := 3, cells := 386, slots := 4565, locals := 78 } : Room)).room s m ([.ref u] : List Value).toArray below meth c H locs 386 4565 (MQ below (mg_QV D (fun _ => [mg_fS o u α y.2]) A (fun _ => some (.int y.1))) ([.ref u] : List Value).toArray s 386 4565 A) (F0 m 196 ls [])) → ∀ (H : Heap) (locs : List Loc) (ls : Array Slot), mg_Vo D A s.heap H locs ([mg_fS o u α cS_129]) → lv_has ls 7 [(0, .ref u), (1, .int x1_129), (2, .ref (α 0 4)), (3, .int (nI (y1.2.2 2))), (4, .int x4_129)] → W p l e (headSpec wsX7_pass ({ frames := 3, cells := 386, slots := 4565, locals := 78 } : Room)).room s m ([.ref u] : List Value).toArray below meth c H locs cl129_ sl129_ (MQ below (mg_QV D (fun _ => [mg_fS o u α y.2]) A (fun _ => some (.int y.1))) ([.ref u] : List Value).toArray s 386 4565 A) (F0 m 129 ls []) := by
    intro n
    induction n with
    | zero => intro cl129_ sl129_ hcl129_ hsl129_ x1_129 x4_129 cS_129 y129_ h; rw [f_X7_pass_129] at h; cases h
    | succ n ih =>
      intro cl129_ sl129_ hcl129_ hsl129_ x1_129 x4_129 cS_129 y129_ h kc H locs ls hw hl
      rw [f_X7_pass_129] at h
      refine lv_iload hx hb dX7_pass_129 (lv_at hl 4 rfl) ?_
      refine lv_iload_n hx hb dX7_pass_131 rfl (lv_at hl 3 rfl) ?_
      refine mg_icmp_ge (tgt := 196) hx hb h dX7_pass_132 (by decide) (fun h => ?_) (fun h => ?_)
      · cases h
        refine W.widen (k := 386) (n := 4565) (by omega) (by omega) ?_
        exact kc H locs ls hw (lv_sub hl [0, 1] rfl)
      · refine lv_aload_n hx hb dX7_pass_135 rfl (lv_at hl 2 rfl) ?_
        refine lv_iload hx hb dX7_pass_136 (lv_at hl 4 rfl) ?_
        refine mg_aal hx hb hK hw 0 2 rfl mg_fS_04 rfl rfl h dX7_pass_138 (fun j10 hj10_ h => ?_)
        refine lv_astore (lv' := [(5, .ref (α 5 j10)), (0, .ref u), (1, .int x1_129), (2, .ref (α 0 4)), (3, .int (nI (y1.2.2 2))), (4, .int x4_129)]) hx hb dX7_pass_139 hl (by decide) rfl (fun ls hl => ?_)
        refine lv_aload_n hx hb dX7_pass_141 rfl (lv_at hl 1 rfl) ?_
        refine lv_aload_n hx hb dX7_pass_142 rfl (lv_at hl 1 rfl) ?_
        refine va_get (D := D) (ci := 7) (v := .ref (α 0 3)) (C := RX7) (T := TX7) (N := 6) hx hb hts iX7_ hown hK (mg_at1 hw.1 0 rfl mg_fS_00) 0 rfl rfl 4 (by decide) w3_ (fun _ h9 => h9) rfl dX7_pass_143 ?_
        refine lv_aload hx hb dX7_pass_146 (lv_at hl 0 rfl) ?_
        refine lv_iconst (v := 0) hx hb dX7_pass_148 (by decide) ?_
        refine mg_ial (x := 0) hx hb hK hw 0 rfl (mg_fS_5 hj10_) (by unfold vp_in; decide) (by decide) dX7_pass_149 ?_
        refine mg_aal hx hb hK hw 0 2 rfl mg_fS_03 rfl rfl h dX7_pass_150 (fun j11 hj11_ h => ?_)
        obtain ⟨y12, h9_, h⟩ := mg_bind h
        refine mg_callV (va_runV (As := [.ref (α 4 j11)]) (rest := []) G9 (k_X7_beauty l D o u α H.size j11 cS_129 hj11_ y12 h9_) (cwV 1 hts gX7_pass_X7_beauty rfl rfl rfl (by decide +kernel) ⟨Nat.le_of_ble_eq_true rfl, Nat.le_of_ble_eq_true rfl⟩) (mg_preVV hK hO hA (mg_Vsub (L' := [mg_fS o u α cS_129]) hw [0] rfl rfl) 0 rfl mg_fS_00 rfl) rfl rfl hl.1 rfl (lv_room (Nat.le_of_ble_eq_true rfl)) dX7_pass_151 ⟨(show cl129_ + 23 ≤ 386 by omega), (show sl129_ + 363 ≤ 4565 by omega)⟩) hw hA [0] [] rfl (Lr := []) rfl rfl (by decide) (fun β13 H locs hw => ?_)
        clear h9_
        have hw : mg_Vo D A s.heap H locs ([mg_fS o u α cS_129]) := hw
        refine lv_iconst (v := 5) hx hb dX7_pass_154 (by decide) ?_
        refine lv_idiv hx hb dX7_pass_155 (by decide) ?_
        refine lv_istore (lv' := [(6, .int (y12 / 5)), (5, .ref (α 5 j10)), (0, .ref u), (1, .int x1_129), (2, .ref (α 0 4)), (3, .int (nI (y1.2.2 2))), (4, .int x4_129)]) hx hb dX7_pass_156 hl (by decide) rfl (fun ls hl => ?_)
        refine lv_aload_n hx hb dX7_pass_158 rfl (lv_at hl 2 rfl) ?_
        refine va_get (D := D) (ci := 7) (v := .int (cS_129.1 0 0 0)) (C := RX7) (T := TX7) (N := 6) hx hb hts iX7_ hown hK (mg_at1 hw.1 0 rfl mg_fS_00) 0 rfl rfl 0 (by decide) w4_ (fun _ h9 => h9) rfl dX7_pass_159 ?_
        refine lv_bipush (v := 8) hx hb dX7_pass_162 (by decide) ?_
        refine lv_irem hx hb dX7_pass_164 (by decide) ?_
        refine lv_iconst (v := 4) hx hb dX7_pass_165 (by decide) ?_
        obtain ⟨y14, h9_, h⟩ := mg_bind h
        have J166_ : ∀ (H : Heap) (locs : List Loc) (ls : Array Slot), mg_Vo D A s.heap H locs ([mg_fS o u α cS_129]) → lv_has ls 7 [(0, .ref u), (1, .int x1_129), (2, .ref (α 0 4)), (3, .int (nI (y1.2.2 2))), (4, .int x4_129), (5, .ref (α 5 j10)), (6, .int y14)] → W p l e (headSpec wsX7_pass ({ frames := 3, cells := 386, slots := 4565, locals := 78 } : Room)).room s m ([.ref u] : List Value).toArray below meth c H locs (cl129_ + 23) (sl129_ + 363) (MQ below (mg_QV D (fun _ => [mg_fS o u α y.2]) A (fun _ => some (.int y.1))) ([.ref u] : List Value).toArray s 386 4565 A) (F0 m 176 ls []) := by
          intro H locs ls hw hl
          clear h9_
          refine lv_aload hx hb dX7_pass_176 (lv_at hl 5 rfl) ?_
          refine lv_iconst (v := 1) hx hb dX7_pass_178 (by decide) ?_
          refine lv_dup2_11 hx hb dX7_pass_179 rfl rfl ?_
          refine mg_ial (x := 1) hx hb hK hw 0 rfl (mg_fS_5 hj10_) (by unfold vp_in; decide) (by decide) dX7_pass_180 ?_
          refine lv_iload hx hb dX7_pass_181 (lv_at hl 6 rfl) ?_
          refine lv_iadd hx hb dX7_pass_183 ?_
          refine mg_iasx (x := 1) (F' := mg_fS o u α (mg_zu cS_129 5 j10 1 (((cS_129.1 5 j10) 1) + y14))) hx hb hK hw 0 rfl (mg_fS_5 hj10_) (by unfold vp_in; decide) (by decide) (mg_sS_5 hj10_) dX7_pass_184 (fun H locs hw => ?_)
          refine lv_iload_n hx hb dX7_pass_185 rfl (lv_at hl 1 rfl) ?_
          refine lv_iload hx hb dX7_pass_186 (lv_at hl 6 rfl) ?_
          refine lv_iadd hx hb dX7_pass_188 ?_
          refine lv_istore_n (lv' := [(1, .int (x1_129 + y14)), (0, .ref u), (2, .ref (α 0 4)), (3, .int (nI (y1.2.2 2))), (4, .int x4_129), (5, .ref (α 5 j10)), (6, .int y14)]) hx hb dX7_pass_189 rfl hl (by decide) rfl (fun ls hl => ?_)
          refine lv_iinc (v := (x4_129 + 1)) (lv' := [(4, .int (x4_129 + 1)), (1, .int (x1_129 + y14)), (0, .ref u), (2, .ref (α 0 4)), (3, .int (nI (y1.2.2 2))), (5, .ref (α 5 j10)), (6, .int y14)]) hx hb dX7_pass_190 hl (k := 4) rfl rfl (by decide) rfl (fun ls hl => ?_)
          refine lv_goto (tgt := 129) hx hb dX7_pass_193 (by decide) ?_
          exact ih _ _ (by omega) (by omega) _ _ _ _ h kc H locs ls hw (lv_sub hl [2, 1, 3, 4, 0] rfl)
        clear h
        have h := h9_
        clear h9_
        refine mg_icmp_ne (tgt := 176) hx hb h dX7_pass_166 (by decide) (fun h => ?_) (fun h => ?_)
        · cases h
          exact J166_ H locs ls hw (lv_sub hl [2, 3, 4, 5, 6, 1, 0] rfl)
        · refine lv_iload hx hb dX7_pass_169 (lv_at hl 0 rfl) ?_
          refine lv_iload hx hb dX7_pass_171 (lv_at hl 0 rfl) ?_
          refine lv_iadd hx hb dX7_pass_173 ?_
          refine lv_istore (lv' := [(6, .int ((y12 / 5) + (y12 / 5))), (5, .ref (α 5 j10)), (0, .ref u), (1, .int x1_129), (2, .ref (α 0 4)), (3, .int (nI (y1.2.2 2))), (4, .int x4_129)]) hx hb dX7_pass_174 hl (by decide) rfl (fun ls hl => ?_)
          cases h
          exact J166_ H locs ls hw (lv_sub hl [2, 3, 4, 5, 6, 1, 0] rfl)
  obtain ⟨y9, h9_, h⟩ := mg_bind h
  refine L129_ _ 248 2387 (by omega) (by omega) _ _ _ _ h9_ (fun H locs ls hw hl => ?_) H locs ls hw (lv_sub hl [4, 3, 2, 1, 0] rfl)
  clear L129_ h9_
  refine lv_aload_n hx hb dX7_pass_196 rfl (lv_at hl 0 rfl) ?_
  refine lv_dup hx hb dX7_pass_197 rfl ?_
  refine va_get (D := D) (ci := 7) (v := .int (y9.2.2.1 0 0 1)) (C := RX7) (T := TX7) (N := 6) hx hb hts iX7_ hown hK (mg_at1 hw.1 0 rfl mg_fS_00) 0 rfl rfl 1 (by decide) w5_ (fun _ h9 => h9) rfl dX7_pass_198 ?_
  refine lv_iload_n hx hb dX7_pass_201 rfl (lv_at hl 1 rfl) ?_
  refine lv_bipush (v := 10) hx hb dX7_pass_202 (by decide) ?_
  refine lv_idiv hx hb dX7_pass_204 (by decide) ?_
  refine lv_iadd hx hb dX7_pass_205 ?_
  refine mg_vput (ci := 7) (C := RX7) (T := TX7) (N := 6) (ty := .int) (v := .int ((y9.2.2.1 0 0 1) + (y9.1 / 10))) hx hb hts iX7_ tyX7 tyX7_ok nmX7 hown hK hw 0 rfl mg_fS_00 rfl 1 (by decide) w5_ (fun _ h9 => h9) rfl (by decide +kernel) rfl rfl (Nat.le_of_ble_eq_true rfl) dX7_pass_206 (fun H locs hw => ?_)
  have hw : mg_Vo D A s.heap H locs ([mg_fS o u α (mg_zu y9.2.2 0 0 1 ((y9.2.2.1 0 0 1) + (y9.1 / 10)))]) := by rw [← mg_sS_f1]; exact hw
  refine lv_aload_n hx hb dX7_pass_209 rfl (lv_at hl 0 rfl) ?_
  refine lv_dup hx hb dX7_pass_210 rfl ?_
  refine va_get (D := D) (ci := 7) (v := .int ((mg_zu y9.2.2 0 0 1 ((y9.2.2.1 0 0 1) + (y9.1 / 10))).1 0 0 0)) (C := RX7) (T := TX7) (N := 6) hx hb hts iX7_ hown hK (mg_at1 hw.1 0 rfl mg_fS_00) 0 rfl rfl 0 (by decide) w4_ (fun _ h9 => h9) rfl dX7_pass_211 ?_
  refine lv_iconst (v := 1) hx hb dX7_pass_214 (by decide) ?_
  refine lv_iadd hx hb dX7_pass_215 ?_
  refine mg_vput (ci := 7) (C := RX7) (T := TX7) (N := 6) (ty := .int) (v := .int (((mg_zu y9.2.2 0 0 1 ((y9.2.2.1 0 0 1) + (y9.1 / 10))).1 0 0 0) + 1)) hx hb hts iX7_ tyX7 tyX7_ok nmX7 hown hK hw 0 rfl mg_fS_00 rfl 0 (by decide) w4_ (fun _ h9 => h9) rfl (by decide +kernel) rfl rfl (Nat.le_of_ble_eq_true rfl) dX7_pass_216 (fun H locs hw => ?_)
  have hw : mg_Vo D A s.heap H locs ([mg_fS o u α (mg_zu (mg_zu y9.2.2 0 0 1 ((y9.2.2.1 0 0 1) + (y9.1 / 10))) 0 0 0 (((mg_zu y9.2.2 0 0 1 ((y9.2.2.1 0 0 1) + (y9.1 / 10))).1 0 0 0) + 1))]) := by rw [← mg_sS_f0]; exact hw
  refine lv_iload_n hx hb dX7_pass_219 rfl (lv_at hl 1 rfl) ?_
  cases h
  exact mg_eIV (fun _ _ => 0) rfl hx hb hr hlocks hw (show 386 ≤ 386 by omega) (show 4565 ≤ 4565 by omega) dX7_pass_220
