set_option maxHeartbeats 8000000 in
set_option maxRecDepth 100000 in
theorem k_X7_counts (l : Launch) (D : va_G) (o : Nat → Nat) (u : Nat) (α : Nat → Nat → Nat) (sz : Nat) (ζ : mg_Sz) (y : Nat → Int32) (h : f_X7_counts ζ = some y) : mg_CV l yX7_counts wsX7_counts ({ frames := 1, cells := 713, slots := 6864, locals := 27 } : Room) D o [mg_fS o u α ζ] sz [.ref u] (fun β => some (.ref (β 0 0))) (fun β => [mg_fS o u α ζ, mg_fI o (β 0 0) 11 y]) 713 6864 := by
  unfold mg_CV
  refine Met.ofW (cc := cX7_counts) (maxL := 12) (ret := (some (.array .int))) (by decide) rfl ?_
  intro p e s m args below meth c s₁ B hml hv
  obtain ⟨rfl, hsz, hP, hK, hD0, hO⟩ := hv
  have hx := B.exec
  have hb := B.bytes
  have hr := B.returns
  have hts := atoms_spec (ws := wsX7_counts) B.pre
  have hown : s.vm.findClass RX7 = some m.cls := findClass_of_methodNamed B.named
  have hlocks := B.notSynchronized
  subst hsz
  have hD := hD0.self (sz := s.heap.size)
  generalize hAe : mg_VA [mg_fS o u α ζ] s.heap.size = A at hD hO ⊢
  have hA : ∀ q : Nat, s.heap.size ≤ q → A q := fun q h => by rw [← hAe]; exact Or.inr h
  have hw : mg_Vo D A s.heap s.heap [] ([mg_fS o u α ζ]) := ⟨hP, hD, va_S.rf⟩
  have G9 : CallFix p m c cX7_counts 12 s ([.ref u] : List Value).toArray wsX7_counts RX7 := ⟨hx, hb, hml, hown, hts⟩
  clear hP hD hD0 hAe
  have w0_ := hts (.fieldLink RX7 15 "MoonGateLaw$Sim" "cells" "[[[I") (by decide +kernel)
  have iX7_ : ∀ w ∈ wsX70, w ∈ wsX7_counts := (fun _ h => List.mem_cons_of_mem _ (List.mem_append_right _ h))
  have w2_ := hts (.fieldLink RX7 20 "MoonGateLaw$Sim" "carps" "[[I") (by decide +kernel)
  have w3_ := hts (.fieldLink RX7 27 "MoonGateLaw$Sim" "poets" "[[I") (by decide +kernel)
  have w4_ := hts (.arrayClass .int) (by decide +kernel)
  have w5_ := hts (.fieldLink RX7 59 "MoonGateLaw$Sim" "day" "I") (by decide +kernel)
  have w6_ := hts (.fieldLink RX7 7 "MoonGateLaw$Sim" "coins" "I") (by decide +kernel)
  have w7_ := hts (.fieldLink RX7 24 "MoonGateLaw$Sim" "gates" "[[I") (by decide +kernel)
  have w8_ := hts (.classLink RX7 34 "[[Z") (by decide +kernel)
  have hl := lv_entry ([.ref u]) (n := 12) (Nat.le_of_ble_eq_true rfl)
  rw [lg_entry_eq]
  generalize (lg_sl ([.ref u]) ++ List.replicate (12 - (lg_sl ([.ref u])).length) Slot.unset).toArray = ls at hl ⊢
  have hl : lv_has ls 12 [(0, .ref u)] := hl
  unfold f_X7_counts at h
  suffices K_ : ∀ (H : Heap) (locs : List Loc), mg_Vo D A s.heap H locs ([mg_fS o u α ζ]) → W p l e (headSpec wsX7_counts ({ frames := 1, cells := 713, slots := 6864, locals := 27 } : Room)).room s m ([.ref u] : List Value).toArray below meth c H locs 0 0 (MQ below (mg_QV D (fun β => [mg_fS o u α ζ, mg_fI o (β 0 0) 11 y]) A (fun β => some (.ref (β 0 0)))) ([.ref u] : List Value).toArray s 713 6864 A) (F0 m 0 ls []) from K_ _ _ hw
  clear hw
  intro H locs hw
  refine lv_iconst (v := 0) hx hb dX7_counts_0 (by decide) ?_
  refine lv_istore_n (lv' := [(1, .int 0), (0, .ref u)]) hx hb dX7_counts_1 rfl hl (by decide) rfl (fun ls hl => ?_)
  refine lv_iconst (v := 0) hx hb dX7_counts_2 (by decide) ?_
  refine lv_istore_n (lv' := [(2, .int 0), (1, .int 0), (0, .ref u)]) hx hb dX7_counts_3 rfl hl (by decide) rfl (fun ls hl => ?_)
  refine lv_iconst (v := 0) hx hb dX7_counts_4 (by decide) ?_
  refine lv_istore_n (lv' := [(3, .int 0), (2, .int 0), (1, .int 0), (0, .ref u)]) hx hb dX7_counts_5 rfl hl (by decide) rfl (fun ls hl => ?_)
  refine lv_bipush (v := 7) hx hb dX7_counts_6 (by decide) ?_
  refine lv_bipush (v := 10) hx hb dX7_counts_8 (by decide) ?_
  refine mg_mna2 hx hb hown w8_ (hO.2.2.2.2.2.2.2.2.2.2.2.2.2.2.2.2.2.2.2.2.1) hw hA (show 0 + 8 ≤ 713 by omega) (show 0 + 77 ≤ 6864 by omega) dX7_counts_10 (fun q1 r2 H hw => ?_)
  refine lv_astore (lv' := [(4, .ref q1), (3, .int 0), (2, .int 0), (1, .int 0), (0, .ref u)]) hx hb dX7_counts_14 hl (by decide) rfl (fun ls hl => ?_)
  refine lv_iconst (v := 0) hx hb dX7_counts_16 (by decide) ?_
  refine lv_istore (lv' := [(5, .int 0), (4, .ref q1), (3, .int 0), (2, .int 0), (1, .int 0), (0, .ref u)]) hx hb dX7_counts_17 hl (by decide) rfl (fun ls hl => ?_)
  have L19_ : ∀ (n : Nat), ∀ (cl19_ sl19_ : Nat), cl19_ + n * 88 ≤ 712 → sl19_ + n * 847 ≤ 6853 → ∀ (x1_19 : Int32) (x2_19 : Int32) (x3_19 : Int32) (x5_19 : Int32) (cM10_19 : Nat → Nat → Int32) (y19_ : Int32 × Int32 × Int32 × Int32 × (Nat → Nat → Int32)), f_X7_counts_19 ζ n x1_19 x2_19 x3_19 x5_19 cM10_19 = some y19_ → (∀ (H : Heap) (locs : List Loc) (ls : Array Slot), mg_Vo D A s.heap H locs ([mg_fS o u α ζ, mg_fM o q1 r2 y19_.2.2.2.2]) → lv_has ls 12 [(0, .ref u), (1, .int y19_.1), (2, .int y19_.2.1), (3, .int y19_.2.2.1)] → W p l e (headSpec wsX7_counts ({ frames := 1, cells := 713, slots := 6864, locals := 27 } : Room)).room s m ([.ref u] : List Value).toArray below meth c H locs 712 6853 (MQ below (mg_QV D (fun β => [mg_fS o u α ζ, mg_fI o (β 0 0) 11 y]) A (fun β => some (.ref (β 0 0)))) ([.ref u] : List Value).toArray s 713 6864 A) (F0 m 172 ls [])) → ∀ (H : Heap) (locs : List Loc) (ls : Array Slot), mg_Vo D A s.heap H locs ([mg_fS o u α ζ, mg_fM o q1 r2 cM10_19]) → lv_has ls 12 [(0, .ref u), (1, .int x1_19), (2, .int x2_19), (3, .int x3_19), (4, .ref q1), (5, .int x5_19)] → W p l e (headSpec wsX7_counts ({ frames := 1, cells := 713, slots := 6864, locals := 27 } : Room)).room s m ([.ref u] : List Value).toArray below meth c H locs cl19_ sl19_ (MQ below (mg_QV D (fun β => [mg_fS o u α ζ, mg_fI o (β 0 0) 11 y]) A (fun β => some (.ref (β 0 0)))) ([.ref u] : List Value).toArray s 713 6864 A) (F0 m 19 ls []) := by
    intro n
    induction n with
    | zero => intro cl19_ sl19_ hcl19_ hsl19_ x1_19 x2_19 x3_19 x5_19 cM10_19 y19_ h; rw [f_X7_counts_19] at h; cases h
    | succ n ih =>
      intro cl19_ sl19_ hcl19_ hsl19_ x1_19 x2_19 x3_19 x5_19 cM10_19 y19_ h kc H locs ls hw hl
      rw [f_X7_counts_19] at h
      refine lv_iload hx hb dX7_counts_19 (lv_at hl 5 rfl) ?_
      refine lv_bipush (v := 7) hx hb dX7_counts_21 (by decide) ?_
      refine mg_icmp_ge (tgt := 172) hx hb h dX7_counts_23 (by decide) (fun h => ?_) (fun h => ?_)
      · cases h
        refine W.widen (k := 712) (n := 6853) (by omega) (by omega) ?_
        exact kc H locs ls hw (lv_sub hl [0, 1, 2, 3] rfl)
      · refine lv_iconst (v := 0) hx hb dX7_counts_26 (by decide) ?_
        refine lv_istore (lv' := [(6, .int 0), (0, .ref u), (1, .int x1_19), (2, .int x2_19), (3, .int x3_19), (4, .ref q1), (5, .int x5_19)]) hx hb dX7_counts_27 hl (by decide) rfl (fun ls hl => ?_)
        have L29_ : ∀ (n : Nat), ∀ (cl29_ sl29_ : Nat), cl29_ + n * 8 ≤ cl19_ + 88 → sl29_ + n * 77 ≤ sl19_ + 847 → ∀ (x1_29 : Int32) (x2_29 : Int32) (x3_29 : Int32) (x6_29 : Int32) (cM10_29 : Nat → Nat → Int32) (y29_ : Int32 × Int32 × Int32 × Int32 × (Nat → Nat → Int32)), f_X7_counts_29 x5_19 ζ n x1_29 x2_29 x3_29 x6_29 cM10_29 = some y29_ → (∀ (H : Heap) (locs : List Loc) (ls : Array Slot), mg_Vo D A s.heap H locs ([mg_fS o u α ζ, mg_fM o q1 r2 y29_.2.2.2.2]) → lv_has ls 12 [(0, .ref u), (1, .int y29_.1), (2, .int y29_.2.1), (3, .int y29_.2.2.1), (4, .ref q1), (5, .int x5_19)] → W p l e (headSpec wsX7_counts ({ frames := 1, cells := 713, slots := 6864, locals := 27 } : Room)).room s m ([.ref u] : List Value).toArray below meth c H locs (cl19_ + 88) (sl19_ + 847) (MQ below (mg_QV D (fun β => [mg_fS o u α ζ, mg_fI o (β 0 0) 11 y]) A (fun β => some (.ref (β 0 0)))) ([.ref u] : List Value).toArray s 713 6864 A) (F0 m 166 ls [])) → ∀ (H : Heap) (locs : List Loc) (ls : Array Slot), mg_Vo D A s.heap H locs ([mg_fS o u α ζ, mg_fM o q1 r2 cM10_29]) → lv_has ls 12 [(0, .ref u), (1, .int x1_29), (2, .int x2_29), (3, .int x3_29), (4, .ref q1), (5, .int x5_19), (6, .int x6_29)] → W p l e (headSpec wsX7_counts ({ frames := 1, cells := 713, slots := 6864, locals := 27 } : Room)).room s m ([.ref u] : List Value).toArray below meth c H locs cl29_ sl29_ (MQ below (mg_QV D (fun β => [mg_fS o u α ζ, mg_fI o (β 0 0) 11 y]) A (fun β => some (.ref (β 0 0)))) ([.ref u] : List Value).toArray s 713 6864 A) (F0 m 29 ls []) := by
          intro n
          induction n with
          | zero => intro cl29_ sl29_ hcl29_ hsl29_ x1_29 x2_29 x3_29 x6_29 cM10_29 y29_ h; rw [f_X7_counts_29] at h; cases h
          | succ n ih =>
            intro cl29_ sl29_ hcl29_ hsl29_ x1_29 x2_29 x3_29 x6_29 cM10_29 y29_ h kc H locs ls hw hl
            rw [f_X7_counts_29] at h
            refine lv_iload hx hb dX7_counts_29 (lv_at hl 6 rfl) ?_
            refine lv_bipush (v := 10) hx hb dX7_counts_31 (by decide) ?_
            refine mg_icmp_ge (tgt := 166) hx hb h dX7_counts_33 (by decide) (fun h => ?_) (fun h => ?_)
            · cases h
              refine W.widen (k := cl19_ + 88) (n := sl19_ + 847) (by omega) (by omega) ?_
              exact kc H locs ls hw (lv_sub hl [0, 1, 2, 3, 4, 5] rfl)
            · refine lv_iload_n hx hb dX7_counts_36 rfl (lv_at hl 1 rfl) ?_
              refine lv_aload_n hx hb dX7_counts_37 rfl (lv_at hl 0 rfl) ?_
              refine va_get (D := D) (ci := 7) (v := .ref (α 0 1)) (C := RX7) (T := TX7) (N := 6) hx hb hts iX7_ hown hK (mg_at1 hw.1 0 rfl mg_fS_00) 0 rfl rfl 2 (by decide) w0_ (fun _ h9 => h9) rfl dX7_counts_38 ?_
              refine lv_iload hx hb dX7_counts_41 (lv_at hl 5 rfl) ?_
              refine mg_aal hx hb hK hw 0 3 rfl mg_fS_01 rfl rfl h dX7_counts_43 (fun j5 hj5_ h => ?_)
              refine lv_iload hx hb dX7_counts_44 (lv_at hl 6 rfl) ?_
              refine mg_aal hx hb hK hw 0 2 rfl (mg_fS_1 hj5_) rfl rfl h dX7_counts_46 (fun j6 hj6_ h => ?_)
              refine lv_iconst (v := 0) hx hb dX7_counts_47 (by decide) ?_
              refine mg_ial (x := 0) hx hb hK hw 0 rfl (mg_fS_2 hj5_ hj6_) (by unfold vp_in; decide) (by decide) dX7_counts_48 ?_
              refine lv_iconst (v := 1) hx hb dX7_counts_49 (by decide) ?_
              obtain ⟨y7, h9_, h⟩ := mg_bind h
              have J50_ : ∀ (H : Heap) (locs : List Loc) (ls : Array Slot), mg_Vo D A s.heap H locs ([mg_fS o u α ζ, mg_fM o q1 r2 cM10_29]) → lv_has ls 12 [(0, .ref u), (2, .int x2_29), (3, .int x3_29), (4, .ref q1), (5, .int x5_19), (6, .int x6_29)] → W p l e (headSpec wsX7_counts ({ frames := 1, cells := 713, slots := 6864, locals := 27 } : Room)).room s m ([.ref u] : List Value).toArray below meth c H locs cl29_ sl29_ (MQ below (mg_QV D (fun β => [mg_fS o u α ζ, mg_fI o (β 0 0) 11 y]) A (fun β => some (.ref (β 0 0)))) ([.ref u] : List Value).toArray s 713 6864 A) (F0 m 58 ls [.int y7, .int x1_29]) := by
                intro H locs ls hw hl
                clear h9_
                refine lv_iadd hx hb dX7_counts_58 ?_
                refine lv_istore_n (lv' := [(1, .int (x1_29 + y7)), (0, .ref u), (2, .int x2_29), (3, .int x3_29), (4, .ref q1), (5, .int x5_19), (6, .int x6_29)]) hx hb dX7_counts_59 rfl hl (by decide) rfl (fun ls hl => ?_)
                refine lv_aload_n hx hb dX7_counts_60 rfl (lv_at hl 1 rfl) ?_
                refine va_get (D := D) (ci := 7) (v := .ref (α 0 1)) (C := RX7) (T := TX7) (N := 6) hx hb hts iX7_ hown hK (mg_at1 hw.1 0 rfl mg_fS_00) 0 rfl rfl 2 (by decide) w0_ (fun _ h9 => h9) rfl dX7_counts_61 ?_
                refine lv_iload hx hb dX7_counts_64 (lv_at hl 5 rfl) ?_
                refine mg_aal hx hb hK hw 0 3 rfl mg_fS_01 rfl rfl h dX7_counts_66 (fun j8 hj8_ h => ?_)
                refine lv_iload hx hb dX7_counts_67 (lv_at hl 6 rfl) ?_
                refine mg_aal hx hb hK hw 0 2 rfl (mg_fS_1 hj8_) rfl rfl h dX7_counts_69 (fun j9 hj9_ h => ?_)
                refine lv_iconst (v := 0) hx hb dX7_counts_70 (by decide) ?_
                refine mg_ial (x := 0) hx hb hK hw 0 rfl (mg_fS_2 hj8_ hj9_) (by unfold vp_in; decide) (by decide) dX7_counts_71 ?_
                refine lv_iconst (v := 2) hx hb dX7_counts_72 (by decide) ?_
                refine mg_icmp_eq (tgt := 79) hx hb h dX7_counts_73 (by decide) (fun h => ?_) (fun h => ?_)
                · refine lv_iinc (v := (x2_29 + 1)) (lv' := [(2, .int (x2_29 + 1)), (1, .int (x1_29 + y7)), (0, .ref u), (3, .int x3_29), (4, .ref q1), (5, .int x5_19), (6, .int x6_29)]) hx hb dX7_counts_79 hl (k := 2) rfl rfl (by decide) rfl (fun ls hl => ?_)
                  refine lv_aload hx hb dX7_counts_82 (lv_at hl 4 rfl) ?_
                  refine lv_iload hx hb dX7_counts_84 (lv_at hl 5 rfl) ?_
                  refine mg_aal hx hb hK hw 1 4 rfl mg_fM_0 rfl rfl h dX7_counts_86 (fun j10 hj10_ h => ?_)
                  refine lv_iload hx hb dX7_counts_87 (lv_at hl 6 rfl) ?_
                  refine mg_zalx hx hb hK hw 1 rfl (mg_fM_1 hj10_) h dX7_counts_89 (fun j11 hj11_ h => ?_)
                  refine mg_if_eq (tgt := 96) hx hb h dX7_counts_90 (by decide) (fun h => ?_) (fun h => ?_)
                  · refine lv_iinc (v := (x3_29 + 1)) (lv' := [(3, .int (x3_29 + 1)), (2, .int (x2_29 + 1)), (1, .int (x1_29 + y7)), (0, .ref u), (4, .ref q1), (5, .int x5_19), (6, .int x6_29)]) hx hb dX7_counts_96 hl (k := 3) rfl rfl (by decide) rfl (fun ls hl => ?_)
                    refine lv_aload_n hx hb dX7_counts_99 rfl (lv_at hl 3 rfl) ?_
                    refine lv_iload hx hb dX7_counts_100 (lv_at hl 6 rfl) ?_
                    refine lv_iload hx hb dX7_counts_102 (lv_at hl 5 rfl) ?_
                    obtain ⟨y12, h9_, h⟩ := mg_bind h
                    refine mg_callV (va_runV (As := [.int x6_29, .int x5_19]) (rest := []) G9 (k_X7_pond l D o u α H.size ζ x6_29 x5_19 y12 h9_) (cwV 2 hts gX7_counts_X7_pond rfl rfl rfl (by decide +kernel) ⟨Nat.le_of_ble_eq_true rfl, Nat.le_of_ble_eq_true rfl⟩) (mg_preVV hK hO hA (mg_Vsub (L' := [mg_fS o u α ζ]) hw [0] rfl rfl) 0 rfl mg_fS_00 rfl) rfl rfl hl.1 rfl (lv_room (Nat.le_of_ble_eq_true rfl)) dX7_counts_104 ⟨(show cl29_ + 8 ≤ 713 by omega), (show sl29_ + 77 ≤ 6864 by omega)⟩) hw hA [0] [1] rfl (Lr := [mg_fM o q1 r2 cM10_29]) rfl rfl (by decide) (fun β13 H locs hw => ?_)
                    clear h9_
                    have hw : mg_Vo D A s.heap H locs ([mg_fM o q1 r2 cM10_29, mg_fS o u α ζ, mg_fM o (β13 0 0) (β13 1) y12]) := hw
                    refine lv_astore (lv' := [(7, .ref (β13 0 0)), (3, .int (x3_29 + 1)), (2, .int (x2_29 + 1)), (1, .int (x1_29 + y7)), (0, .ref u), (4, .ref q1), (5, .int x5_19), (6, .int x6_29)]) hx hb dX7_counts_107 hl (by decide) rfl (fun ls hl => ?_)
                    refine lv_iconst (v := 0) hx hb dX7_counts_109 (by decide) ?_
                    refine lv_istore (lv' := [(8, .int 0), (7, .ref (β13 0 0)), (3, .int (x3_29 + 1)), (2, .int (x2_29 + 1)), (1, .int (x1_29 + y7)), (0, .ref u), (4, .ref q1), (5, .int x5_19), (6, .int x6_29)]) hx hb dX7_counts_110 hl (by decide) rfl (fun ls hl => ?_)
                    have L112_ : ∀ (n : Nat), ∀ (x8_112 : Int32) (cM10_112 : Nat → Nat → Int32) (y112_ : Int32 × (Nat → Nat → Int32)), f_X7_counts_112 (x1_29 + y7) (x2_29 + 1) (x3_29 + 1) x5_19 x6_29 ζ y12 n x8_112 cM10_112 = some y112_ → (∀ (H : Heap) (locs : List Loc) (ls : Array Slot), mg_Vo D A s.heap H locs ([mg_fM o q1 r2 y112_.2, mg_fS o u α ζ, mg_fM o (β13 0 0) (β13 1) y12]) → lv_has ls 12 [(0, .ref u), (1, .int (x1_29 + y7)), (2, .int (x2_29 + 1)), (3, .int (x3_29 + 1)), (4, .ref q1), (5, .int x5_19), (6, .int x6_29)] → W p l e (headSpec wsX7_counts ({ frames := 1, cells := 713, slots := 6864, locals := 27 } : Room)).room s m ([.ref u] : List Value).toArray below meth c H locs (cl29_ + 8) (sl29_ + 77) (MQ below (mg_QV D (fun β => [mg_fS o u α ζ, mg_fI o (β 0 0) 11 y]) A (fun β => some (.ref (β 0 0)))) ([.ref u] : List Value).toArray s 713 6864 A) (F0 m 160 ls [])) → ∀ (H : Heap) (locs : List Loc) (ls : Array Slot), mg_Vo D A s.heap H locs ([mg_fM o q1 r2 cM10_112, mg_fS o u α ζ, mg_fM o (β13 0 0) (β13 1) y12]) → lv_has ls 12 [(0, .ref u), (1, .int (x1_29 + y7)), (2, .int (x2_29 + 1)), (3, .int (x3_29 + 1)), (4, .ref q1), (5, .int x5_19), (6, .int x6_29), (7, .ref (β13 0 0)), (8, .int x8_112)] → W p l e (headSpec wsX7_counts ({ frames := 1, cells := 713, slots := 6864, locals := 27 } : Room)).room s m ([.ref u] : List Value).toArray below meth c H locs (cl29_ + 8) (sl29_ + 77) (MQ below (mg_QV D (fun β => [mg_fS o u α ζ, mg_fI o (β 0 0) 11 y]) A (fun β => some (.ref (β 0 0)))) ([.ref u] : List Value).toArray s 713 6864 A) (F0 m 112 ls []) := by
                      intro n
                      induction n with
                      | zero => intro x8_112 cM10_112 y112_ h; rw [f_X7_counts_112] at h; cases h
                      | succ n ih =>
                        intro x8_112 cM10_112 y112_ h kc H locs ls hw hl
                        rw [f_X7_counts_112] at h
                        refine lv_iload hx hb dX7_counts_112 (lv_at hl 8 rfl) ?_
                        refine lv_bipush (v := 7) hx hb dX7_counts_114 (by decide) ?_
                        refine mg_icmp_ge (tgt := 160) hx hb h dX7_counts_116 (by decide) (fun h => ?_) (fun h => ?_)
                        · cases h
                          exact kc H locs ls hw (lv_sub hl [0, 1, 2, 3, 4, 5, 6] rfl)
                        · refine lv_iconst (v := 0) hx hb dX7_counts_119 (by decide) ?_
                          refine lv_istore (lv' := [(9, .int 0), (0, .ref u), (1, .int (x1_29 + y7)), (2, .int (x2_29 + 1)), (3, .int (x3_29 + 1)), (4, .ref q1), (5, .int x5_19), (6, .int x6_29), (7, .ref (β13 0 0)), (8, .int x8_112)]) hx hb dX7_counts_120 hl (by decide) rfl (fun ls hl => ?_)
                          have L122_ : ∀ (n : Nat), ∀ (x9_122 : Int32) (cM10_122 : Nat → Nat → Int32) (y122_ : Int32 × (Nat → Nat → Int32)), f_X7_counts_122 (x1_29 + y7) (x2_29 + 1) (x3_29 + 1) x5_19 x6_29 x8_112 ζ y12 n x9_122 cM10_122 = some y122_ → (∀ (H : Heap) (locs : List Loc) (ls : Array Slot), mg_Vo D A s.heap H locs ([mg_fM o q1 r2 y122_.2, mg_fS o u α ζ, mg_fM o (β13 0 0) (β13 1) y12]) → lv_has ls 12 [(0, .ref u), (1, .int (x1_29 + y7)), (2, .int (x2_29 + 1)), (3, .int (x3_29 + 1)), (4, .ref q1), (5, .int x5_19), (6, .int x6_29), (7, .ref (β13 0 0)), (8, .int x8_112)] → W p l e (headSpec wsX7_counts ({ frames := 1, cells := 713, slots := 6864, locals := 27 } : Room)).room s m ([.ref u] : List Value).toArray below meth c H locs (cl29_ + 8) (sl29_ + 77) (MQ below (mg_QV D (fun β => [mg_fS o u α ζ, mg_fI o (β 0 0) 11 y]) A (fun β => some (.ref (β 0 0)))) ([.ref u] : List Value).toArray s 713 6864 A) (F0 m 154 ls [])) → ∀ (H : Heap) (locs : List Loc) (ls : Array Slot), mg_Vo D A s.heap H locs ([mg_fM o q1 r2 cM10_122, mg_fS o u α ζ, mg_fM o (β13 0 0) (β13 1) y12]) → lv_has ls 12 [(0, .ref u), (1, .int (x1_29 + y7)), (2, .int (x2_29 + 1)), (3, .int (x3_29 + 1)), (4, .ref q1), (5, .int x5_19), (6, .int x6_29), (7, .ref (β13 0 0)), (8, .int x8_112), (9, .int x9_122)] → W p l e (headSpec wsX7_counts ({ frames := 1, cells := 713, slots := 6864, locals := 27 } : Room)).room s m ([.ref u] : List Value).toArray below meth c H locs (cl29_ + 8) (sl29_ + 77) (MQ below (mg_QV D (fun β => [mg_fS o u α ζ, mg_fI o (β 0 0) 11 y]) A (fun β => some (.ref (β 0 0)))) ([.ref u] : List Value).toArray s 713 6864 A) (F0 m 122 ls []) := by
                            intro n
                            induction n with
                            | zero => intro x9_122 cM10_122 y122_ h; rw [f_X7_counts_122] at h; cases h
                            | succ n ih =>
                              intro x9_122 cM10_122 y122_ h kc H locs ls hw hl
                              rw [f_X7_counts_122] at h
                              refine lv_iload hx hb dX7_counts_122 (lv_at hl 9 rfl) ?_
                              refine lv_bipush (v := 10) hx hb dX7_counts_124 (by decide) ?_
                              refine mg_icmp_ge (tgt := 154) hx hb h dX7_counts_126 (by decide) (fun h => ?_) (fun h => ?_)
                              · cases h
                                exact kc H locs ls hw (lv_sub hl [0, 1, 2, 3, 4, 5, 6, 7, 8] rfl)
                              · refine lv_aload hx hb dX7_counts_129 (lv_at hl 4 rfl) ?_
                                refine lv_iload hx hb dX7_counts_131 (lv_at hl 8 rfl) ?_
                                refine mg_aal hx hb hK hw 0 4 rfl mg_fM_0 rfl rfl h dX7_counts_133 (fun j16 hj16_ h => ?_)
                                refine lv_iload hx hb dX7_counts_134 (lv_at hl 9 rfl) ?_
                                refine lv_dup2_11 hx hb dX7_counts_136 rfl rfl ?_
                                refine mg_zalx hx hb hK hw 0 rfl (mg_fM_1 hj16_) h dX7_counts_137 (fun j17 hj17_ h => ?_)
                                refine lv_aload hx hb dX7_counts_138 (lv_at hl 7 rfl) ?_
                                refine lv_iload hx hb dX7_counts_140 (lv_at hl 8 rfl) ?_
                                refine mg_aal hx hb hK hw 2 4 rfl mg_fM_0 rfl rfl h dX7_counts_142 (fun j18 hj18_ h => ?_)
                                refine lv_iload hx hb dX7_counts_143 (lv_at hl 9 rfl) ?_
                                refine mg_zalx hx hb hK hw 2 rfl (mg_fM_1 hj18_) h dX7_counts_145 (fun j19 hj19_ h => ?_)
                                refine lv_ior hx hb dX7_counts_146 ?_
                                refine mg_zasd (F' := fun x9_ => mg_fM o q1 r2 (mg_mu cM10_122 j16 x9_ (vp_nar .boolean (((cM10_122 j16) j17) ||| ((y12 j18) j19))))) hx hb hK hw 0 rfl (mg_fM_1 hj16_) (fun _ => (mg_sM hj16_)) h dX7_counts_147 (fun j20 hj20_ h H locs hw => ?_)
                                refine lv_iinc (v := (x9_122 + 1)) (lv' := [(9, .int (x9_122 + 1)), (0, .ref u), (1, .int (x1_29 + y7)), (2, .int (x2_29 + 1)), (3, .int (x3_29 + 1)), (4, .ref q1), (5, .int x5_19), (6, .int x6_29), (7, .ref (β13 0 0)), (8, .int x8_112)]) hx hb dX7_counts_148 hl (k := 9) rfl rfl (by decide) rfl (fun ls hl => ?_)
                                refine lv_goto (tgt := 122) hx hb dX7_counts_151 (by decide) ?_
                                exact ih _ _ _ h kc H locs ls hw (lv_sub hl [1, 2, 3, 4, 5, 6, 7, 8, 9, 0] rfl)
                          obtain ⟨y15, h9_, h⟩ := mg_bind h
                          refine L122_ 5000 _ _ _ h9_ (fun H locs ls hw hl => ?_) H locs ls hw (lv_sub hl [1, 2, 3, 4, 5, 6, 7, 8, 9, 0] rfl)
                          clear L122_ h9_
                          refine lv_iinc (v := (x8_112 + 1)) (lv' := [(8, .int (x8_112 + 1)), (0, .ref u), (1, .int (x1_29 + y7)), (2, .int (x2_29 + 1)), (3, .int (x3_29 + 1)), (4, .ref q1), (5, .int x5_19), (6, .int x6_29), (7, .ref (β13 0 0))]) hx hb dX7_counts_154 hl (k := 8) rfl rfl (by decide) rfl (fun ls hl => ?_)
                          refine lv_goto (tgt := 112) hx hb dX7_counts_157 (by decide) ?_
                          exact ih _ _ _ h kc H locs ls hw (lv_sub hl [1, 2, 3, 4, 5, 6, 7, 8, 0] rfl)
                    obtain ⟨y14, h9_, h⟩ := mg_bind h
                    refine L112_ 5000 _ _ _ h9_ (fun H locs ls hw hl => ?_) H locs ls hw (lv_sub hl [5, 4, 3, 2, 6, 7, 8, 1, 0] rfl)
                    clear L112_ h9_
                    refine lv_iinc (v := (x6_29 + 1)) (lv' := [(6, .int (x6_29 + 1)), (0, .ref u), (1, .int (x1_29 + y7)), (2, .int (x2_29 + 1)), (3, .int (x3_29 + 1)), (4, .ref q1), (5, .int x5_19)]) hx hb dX7_counts_160 hl (k := 6) rfl rfl (by decide) rfl (fun ls hl => ?_)
                    refine lv_goto (tgt := 29) hx hb dX7_counts_163 (by decide) ?_
                    exact ih _ _ (by omega) (by omega) _ _ _ _ _ _ h kc H locs ls (mg_Vsub hw [1, 0] rfl rfl) (lv_sub hl [1, 2, 3, 4, 5, 6, 0] rfl)
                  · refine lv_goto (tgt := 160) hx hb dX7_counts_93 (by decide) ?_
                    refine lv_iinc (v := (x6_29 + 1)) (lv' := [(6, .int (x6_29 + 1)), (2, .int (x2_29 + 1)), (1, .int (x1_29 + y7)), (0, .ref u), (3, .int x3_29), (4, .ref q1), (5, .int x5_19)]) hx hb dX7_counts_160 hl (k := 6) rfl rfl (by decide) rfl (fun ls hl => ?_)
                    refine lv_goto (tgt := 29) hx hb dX7_counts_163 (by decide) ?_
                    exact ih _ _ (by omega) (by omega) _ _ _ _ _ _ h kc H locs ls hw (lv_sub hl [3, 2, 1, 4, 5, 6, 0] rfl)
                · refine lv_goto (tgt := 160) hx hb dX7_counts_76 (by decide) ?_
                  refine lv_iinc (v := (x6_29 + 1)) (lv' := [(6, .int (x6_29 + 1)), (1, .int (x1_29 + y7)), (0, .ref u), (2, .int x2_29), (3, .int x3_29), (4, .ref q1), (5, .int x5_19)]) hx hb dX7_counts_160 hl (k := 6) rfl rfl (by decide) rfl (fun ls hl => ?_)
                  refine lv_goto (tgt := 29) hx hb dX7_counts_163 (by decide) ?_
                  exact ih _ _ (by omega) (by omega) _ _ _ _ _ _ h kc H locs ls hw (lv_sub hl [2, 1, 3, 4, 5, 6, 0] rfl)
              clear h
              have h := h9_
              clear h9_
              refine mg_icmp_ne (tgt := 57) hx hb h dX7_counts_50 (by decide) (fun h => ?_) (fun h => ?_)
              · refine lv_iconst (v := 0) hx hb dX7_counts_57 (by decide) ?_
                cases h
                exact J50_ H locs ls hw (lv_sub hl [0, 2, 3, 4, 5, 6] rfl)
              · refine lv_iconst (v := 1) hx hb dX7_counts_53 (by decide) ?_
                refine lv_goto (tgt := 58) hx hb dX7_counts_54 (by decide) ?_
                cases h
                exact J50_ H locs ls hw (lv_sub hl [0, 2, 3, 4, 5, 6] rfl)
        obtain ⟨y4, h9_, h⟩ := mg_bind h
        refine L29_ 11 cl19_ sl19_ (Nat.le_refl (cl19_ + 88)) (Nat.le_refl (sl19_ + 847)) _ _ _ _ _ _ h9_ (fun H locs ls hw hl => ?_) H locs ls hw (lv_sub hl [1, 2, 3, 4, 5, 6, 0] rfl)
        clear L29_ h9_
        refine lv_iinc (v := (x5_19 + 1)) (lv' := [(5, .int (x5_19 + 1)), (0, .ref u), (1, .int y4.1), (2, .int y4.2.1), (3, .int y4.2.2.1), (4, .ref q1)]) hx hb dX7_counts_166 hl (k := 5) rfl rfl (by decide) rfl (fun ls hl => ?_)
        refine lv_goto (tgt := 19) hx hb dX7_counts_169 (by decide) ?_
        exact ih _ _ (by omega) (by omega) _ _ _ _ _ _ h kc H locs ls hw (lv_sub hl [1, 2, 3, 4, 5, 0] rfl)
  obtain ⟨y3, h9_, h⟩ := mg_bind h
  refine L19_ 8 8 77 (Nat.le_refl 712) (Nat.le_refl 6853) _ _ _ _ _ _ h9_ (fun H locs ls hw hl => ?_) H locs ls hw (lv_sub hl [5, 4, 3, 2, 1, 0] rfl)
  clear L19_ h9_
  refine lv_iconst (v := 0) hx hb dX7_counts_172 (by decide) ?_
  refine lv_istore (lv' := [(5, .int 0), (0, .ref u), (1, .int y3.1), (2, .int y3.2.1), (3, .int y3.2.2.1)]) hx hb dX7_counts_173 hl (by decide) rfl (fun ls hl => ?_)
  refine lv_iconst (v := 0) hx hb dX7_counts_175 (by decide) ?_
  refine lv_istore (lv' := [(6, .int 0), (5, .int 0), (0, .ref u), (1, .int y3.1), (2, .int y3.2.1), (3, .int y3.2.2.1)]) hx hb dX7_counts_176 hl (by decide) rfl (fun ls hl => ?_)
  refine lv_aload_n hx hb dX7_counts_178 rfl (lv_at hl 2 rfl) ?_
  refine va_get (D := D) (ci := 7) (v := .ref (α 0 2)) (C := RX7) (T := TX7) (N := 6) hx hb hts iX7_ hown hK (mg_at1 hw.1 0 rfl mg_fS_00) 0 rfl rfl 3 (by decide) w2_ (fun _ h9 => h9) rfl dX7_counts_179 ?_
  refine lv_astore (lv' := [(7, .ref (α 0 2)), (6, .int 0), (5, .int 0), (0, .ref u), (1, .int y3.1), (2, .int y3.2.1), (3, .int y3.2.2.1)]) hx hb dX7_counts_182 hl (by decide) rfl (fun ls hl => ?_)
  refine lv_aload hx hb dX7_counts_184 (lv_at hl 0 rfl) ?_
  refine mg_alenq hx hb hK hw 0 2 rfl mg_fS_02 rfl dX7_counts_186 ?_
  refine lv_istore (lv' := [(8, .int (nI (ζ.2 0))), (7, .ref (α 0 2)), (6, .int 0), (5, .int 0), (0, .ref u), (1, .int y3.1), (2, .int y3.2.1), (3, .int y3.2.2.1)]) hx hb dX7_counts_187 hl (by decide) rfl (fun ls hl => ?_)
  refine lv_iconst (v := 0) hx hb dX7_counts_189 (by decide) ?_
  refine lv_istore (lv' := [(9, .int 0), (8, .int (nI (ζ.2 0))), (7, .ref (α 0 2)), (6, .int 0), (5, .int 0), (0, .ref u), (1, .int y3.1), (2, .int y3.2.1), (3, .int y3.2.2.1)]) hx hb dX7_counts_190 hl (by decide) rfl (fun ls hl => ?_)
  have L192_ : ∀ (n : Nat), ∀ (x5_192 : Int32) (x6_192 : Int32) (x9_192 : Int32) (y192_ : Int32 × Int32 × Int32), f_X7_counts_192 y3.1 y3.2.1 y3.2.2.1 (nI (ζ.2 0)) ζ n x5_192 x6_192 x9_192 = some y192_ → (∀ (H : Heap) (locs : List Loc) (ls : Array Slot), mg_Vo D A s.heap H locs ([mg_fS o u α ζ]) → lv_has ls 12 [(0, .ref u), (1, .int y3.1), (2, .int y3.2.1), (3, .int y3.2.2.1), (5, .int y192_.1), (6, .int y192_.2.1)] → W p l e (headSpec wsX7_counts ({ frames := 1, cells := 713, slots := 6864, locals := 27 } : Room)).room s m ([.ref u] : List Value).toArray below meth c H locs 712 6853 (MQ below (mg_QV D (fun β => [mg_fS o u α ζ, mg_fI o (β 0 0) 11 y]) A (fun β => some (.ref (β 0 0)))) ([.ref u] : List Value).toArray s 713 6864 A) (F0 m 243 ls [])) → ∀ (H : Heap) (locs : List Loc) (ls : Array Slot), mg_Vo D A s.heap H locs ([mg_fS o u α ζ]) → lv_has ls 12 [(0, .ref u), (1, .int y3.1), (2, .int y3.2.1), (3, .int y3.2.2.1), (5, .int x5_192), (6, .int x6_192), (7, .ref (α 0 2)), (8, .int (nI (ζ.2 0))), (9, .int x9_192)] → W p l e (headSpec wsX7_counts ({ frames := 1, cells := 713, slots := 6864, locals := 27 } : Room)).room s m ([.ref u] : List Value).toArray below meth c H locs 712 6853 (MQ below (mg_QV D (fun β => [mg_fS o u α ζ, mg_fI o (β 0 0) 11 y]) A (fun β => some (.ref (β 0 0)))) ([.ref u] : List Value).toArray s 713 6864 A) (F0 m 192 ls []) := by
    intro n
    induction n with
    | zero => intro x5_192 x6_192 x9_192 y192_ h; rw [f_X7_counts_192] at h; cases h
    | succ n ih =>
      intro x5_192 x6_192 x9_192 y192_ h kc H locs ls hw hl
      rw [f_X7_counts_192] at h
      refine lv_iload hx hb dX7_counts_192 (lv_at hl 8 rfl) ?_
      refine lv_iload hx hb dX7_counts_194 (lv_at hl 7 rfl) ?_
      refine mg_icmp_ge (tgt := 243) hx hb h dX7_counts_196 (by decide) (fun h => ?_) (fun h => ?_)
      · cases h
        exact kc H locs ls hw (lv_sub hl [0, 1, 2, 3, 4, 5] rfl)
      · refine lv_aload hx hb dX7_counts_199 (lv_at hl 6 rfl) ?_
        refine lv_iload hx hb dX7_counts_201 (lv_at hl 8 rfl) ?_
        refine mg_aal hx hb hK hw 0 2 rfl mg_fS_02 rfl rfl h dX7_counts_203 (fun j22 hj22_ h => ?_)
        refine lv_astore (lv' := [(10, .ref (α 3 j22)), (0, .ref u), (1, .int y3.1), (2, .int y3.2.1), (3, .int y3.2.2.1), (5, .int x5_192), (6, .int x6_192), (7, .ref (α 0 2)), (8, .int (nI (ζ.2 0))), (9, .int x9_192)]) hx hb dX7_counts_204 hl (by decide) rfl (fun ls hl => ?_)
        refine lv_iload hx hb dX7_counts_206 (lv_at hl 5 rfl) ?_
        refine lv_iconst (v := 1) hx hb dX7_counts_208 (by decide) ?_
        refine lv_aload hx hb dX7_counts_209 (lv_at hl 0 rfl) ?_
        refine lv_iconst (v := 3) hx hb dX7_counts_211 (by decide) ?_
        refine mg_ial (x := 3) hx hb hK hw 0 rfl (mg_fS_3 hj22_) (by unfold vp_in; decide) (by decide) dX7_counts_212 ?_
        refine lv_isub hx hb dX7_counts_213 ?_
        refine lv_iadd hx hb dX7_counts_214 ?_
        refine lv_istore (lv' := [(5, .int (x5_192 + (1 - ((ζ.1 3 j22) 3)))), (10, .ref (α 3 j22)), (0, .ref u), (1, .int y3.1), (2, .int y3.2.1), (3, .int y3.2.2.1), (6, .int x6_192), (7, .ref (α 0 2)), (8, .int (nI (ζ.2 0))), (9, .int x9_192)]) hx hb dX7_counts_215 hl (by decide) rfl (fun ls hl => ?_)
        refine lv_iload hx hb dX7_counts_217 (lv_at hl 6 rfl) ?_
        refine lv_aload hx hb dX7_counts_219 (lv_at hl 1 rfl) ?_
        refine lv_iconst (v := 3) hx hb dX7_counts_221 (by decide) ?_
        refine mg_ial (x := 3) hx hb hK hw 0 rfl (mg_fS_3 hj22_) (by unfold vp_in; decide) (by decide) dX7_counts_222 ?_
        refine mg_if_ne (tgt := 233) hx hb h dX7_counts_223 (by decide) (fun h => ?_) (fun h => ?_)
        · refine lv_iconst (v := 0) hx hb dX7_counts_233 (by decide) ?_
          refine lv_iadd hx hb dX7_counts_234 ?_
          refine lv_istore (lv' := [(6, .int (x6_192 + 0)), (5, .int (x5_192 + (1 - ((ζ.1 3 j22) 3)))), (10, .ref (α 3 j22)), (0, .ref u), (1, .int y3.1), (2, .int y3.2.1), (3, .int y3.2.2.1), (7, .ref (α 0 2)), (8, .int (nI (ζ.2 0))), (9, .int x9_192)]) hx hb dX7_counts_235 hl (by decide) rfl (fun ls hl => ?_)
          refine lv_iinc (v := (x9_192 + 1)) (lv' := [(9, .int (x9_192 + 1)), (6, .int (x6_192 + 0)), (5, .int (x5_192 + (1 - ((ζ.1 3 j22) 3)))), (10, .ref (α 3 j22)), (0, .ref u), (1, .int y3.1), (2, .int y3.2.1), (3, .int y3.2.2.1), (7, .ref (α 0 2)), (8, .int (nI (ζ.2 0)))]) hx hb dX7_counts_237 hl (k := 9) rfl rfl (by decide) rfl (fun ls hl => ?_)
          refine lv_goto (tgt := 192) hx hb dX7_counts_240 (by decide) ?_
          exact ih _ _ _ _ h kc H locs ls hw (lv_sub hl [4, 5, 6, 7, 2, 1, 8, 9, 0] rfl)
        · refine lv_aload hx hb dX7_counts_226 (lv_at hl 1 rfl) ?_
          refine lv_iconst (v := 2) hx hb dX7_counts_228 (by decide) ?_
          refine mg_ial (x := 2) hx hb hK hw 0 rfl (mg_fS_3 hj22_) (by unfold vp_in; decide) (by decide) dX7_counts_229 ?_
          refine lv_goto (tgt := 234) hx hb dX7_counts_230 (by decide) ?_
          refine lv_iadd hx hb dX7_counts_234 ?_
          refine lv_istore (lv' := [(6, .int (x6_192 + ((ζ.1 3 j22) 2))), (5, .int (x5_192 + (1 - ((ζ.1 3 j22) 3)))), (10, .ref (α 3 j22)), (0, .ref u), (1, .int y3.1), (2, .int y3.2.1), (3, .int y3.2.2.1), (7, .ref (α 0 2)), (8, .int (nI (ζ.2 0))), (9, .int x9_192)]) hx hb dX7_counts_235 hl (by decide) rfl (fun ls hl => ?_)
          refine lv_iinc (v := (x9_192 + 1)) (lv' := [(9, .int (x9_192 + 1)), (6, .int (x6_192 + ((ζ.1 3 j22) 2))), (5, .int (x5_192 + (1 - ((ζ.1 3 j22) 3)))), (10, .ref (α 3 j22)), (0, .ref u), (1, .int y3.1), (2, .int y3.2.1), (3, .int y3.2.2.1), (7, .ref (α 0 2)), (8, .int (nI (ζ.2 0)))]) hx hb dX7_counts_237 hl (k := 9) rfl rfl (by decide) rfl (fun ls hl => ?_)
          refine lv_goto (tgt := 192) hx hb dX7_counts_240 (by decide) ?_
          exact ih _ _ _ _ h kc H locs ls hw (lv_sub hl [4, 5, 6, 7, 2, 1, 8, 9, 0] rfl)
  obtain ⟨y21, h9_, h⟩ := mg_bind h
  refine L192_ 5000 _ _ _ _ h9_ (fun H locs ls hw hl => ?_) H locs ls (mg_Vsub hw [0] rfl rfl) (lv_sub hl [5, 6, 7, 8, 4, 3, 2, 1, 0] rfl)
  clear L192_ h9_
  refine lv_iconst (v := 0) hx hb dX7_counts_243 (by decide) ?_
  refine lv_istore (lv' := [(7, .int 0), (0, .ref u), (1, .int y3.1), (2, .int y3.2.1), (3, .int y3.2.2.1), (5, .int y21.1), (6, .int y21.2.1)]) hx hb dX7_counts_244 hl (by decide) rfl (fun ls hl => ?_)
  refine lv_aload_n hx hb dX7_counts_246 rfl (lv_at hl 1 rfl) ?_
  refine va_get (D := D) (ci := 7) (v := .ref (α 0 4)) (C := RX7) (T := TX7) (N := 6) hx hb hts iX7_ hown hK (mg_at1 hw.1 0 rfl mg_fS_00) 0 rfl rfl 5 (by decide) w3_ (fun _ h9 => h9) rfl dX7_counts_247 ?_
  refine lv_astore (lv' := [(8, .ref (α 0 4)), (7, .int 0), (0, .ref u), (1, .int y3.1), (2, .int y3.2.1), (3, .int y3.2.2.1), (5, .int y21.1), (6, .int y21.2.1)]) hx hb dX7_counts_250 hl (by decide) rfl (fun ls hl => ?_)
  refine lv_aload hx hb dX7_counts_252 (lv_at hl 0 rfl) ?_
  refine mg_alenq hx hb hK hw 0 2 rfl mg_fS_04 rfl dX7_counts_254 ?_
  refine lv_istore (lv' := [(9, .int (nI (ζ.2 2))), (8, .ref (α 0 4)), (7, .int 0), (0, .ref u), (1, .int y3.1), (2, .int y3.2.1), (3, .int y3.2.2.1), (5, .int y21.1), (6, .int y21.2.1)]) hx hb dX7_counts_255 hl (by decide) rfl (fun ls hl => ?_)
  refine lv_iconst (v := 0) hx hb dX7_counts_257 (by decide) ?_
  refine lv_istore (lv' := [(10, .int 0), (9, .int (nI (ζ.2 2))), (8, .ref (α 0 4)), (7, .int 0), (0, .ref u), (1, .int y3.1), (2, .int y3.2.1), (3, .int y3.2.2.1), (5, .int y21.1), (6, .int y21.2.1)]) hx hb dX7_counts_258 hl (by decide) rfl (fun ls hl => ?_)
  have L260_ : ∀ (n : Nat), ∀ (x7_260 : Int32) (x10_260 : Int32) (y260_ : Int32 × Int32), f_X7_counts_260 y3.1 y3.2.1 y3.2.2.1 y21.1 y21.2.1 (nI (ζ.2 2)) ζ n x7_260 x10_260 = some y260_ → (∀ (H : Heap) (locs : List Loc) (ls : Array Slot), mg_Vo D A s.heap H locs ([mg_fS o u α ζ]) → lv_has ls 12 [(0, .ref u), (1, .int y3.1), (2, .int y3.2.1), (3, .int y3.2.2.1), (5, .int y21.1), (6, .int y21.2.1), (7, .int y260_.1)] → W p l e (headSpec wsX7_counts ({ frames := 1, cells := 713, slots := 6864, locals := 27 } : Room)).room s m ([.ref u] : List Value).toArray below meth c H locs 712 6853 (MQ below (mg_QV D (fun β => [mg_fS o u α ζ, mg_fI o (β 0 0) 11 y]) A (fun β => some (.ref (β 0 0)))) ([.ref u] : List Value).toArray s 713 6864 A) (F0 m 289 ls [])) → ∀ (H : Heap) (locs : List Loc) (ls : Array Slot), mg_Vo D A s.heap H locs ([mg_fS o u α ζ]) → lv_has ls 12 [(0, .ref u), (1, .int y3.1), (2, .int y3.2.1), (3, .int y3.2.2.1), (5, .int y21.1), (6, .int y21.2.1), (7, .int x7_260), (8, .ref (α 0 4)), (9, .int (nI (ζ.2 2))), (10, .int x10_260)] → W p l e (headSpec wsX7_counts ({ frames := 1, cells := 713, slots := 6864, locals := 27 } : Room)).room s m ([.ref u] : List Value).toArray below meth c H locs 712 6853 (MQ below (mg_QV D (fun β => [mg_fS o u α ζ, mg_fI o (β 0 0) 11 y]) A (fun β => some (.ref (β 0 0)))) ([.ref u] : List Value).toArray s 713 6864 A) (F0 m 260 ls []) := by
    intro n
    induction n with
    | zero => intro x7_260 x10_260 y260_ h; rw [f_X7_counts_260] at h; cases h
    | succ n ih =>
      intro x7_260 x10_260 y260_ h kc H locs ls hw hl
      rw [f_X7_counts_260] at h
      refine lv_iload hx hb dX7_counts_260 (lv_at hl 9 rfl) ?_
      refine lv_iload hx hb dX7_counts_262 (lv_at hl 8 rfl) ?_
      refine mg_icmp_ge (tgt := 289) hx hb h dX7_counts_264 (by decide) (fun h => ?_) (fun h => ?_)
      · cases h
        exact kc H locs ls hw (lv_sub hl [0, 1, 2, 3, 4, 5, 6] rfl)
      · refine lv_aload hx hb dX7_counts_267 (lv_at hl 7 rfl) ?_
        refine lv_iload hx hb dX7_counts_269 (lv_at hl 9 rfl) ?_
        refine mg_aal hx hb hK hw 0 2 rfl mg_fS_04 rfl rfl h dX7_counts_271 (fun j24 hj24_ h => ?_)
        refine lv_astore (lv' := [(11, .ref (α 5 j24)), (0, .ref u), (1, .int y3.1), (2, .int y3.2.1), (3, .int y3.2.2.1), (5, .int y21.1), (6, .int y21.2.1), (7, .int x7_260), (8, .ref (α 0 4)), (9, .int (nI (ζ.2 2))), (10, .int x10_260)]) hx hb dX7_counts_272 hl (by decide) rfl (fun ls hl => ?_)
        refine lv_iload hx hb dX7_counts_274 (lv_at hl 7 rfl) ?_
        refine lv_aload hx hb dX7_counts_276 (lv_at hl 0 rfl) ?_
        refine lv_iconst (v := 1) hx hb dX7_counts_278 (by decide) ?_
        refine mg_ial (x := 1) hx hb hK hw 0 rfl (mg_fS_5 hj24_) (by unfold vp_in; decide) (by decide) dX7_counts_279 ?_
        refine lv_iadd hx hb dX7_counts_280 ?_
        refine lv_istore (lv' := [(7, .int (x7_260 + ((ζ.1 5 j24) 1))), (11, .ref (α 5 j24)), (0, .ref u), (1, .int y3.1), (2, .int y3.2.1), (3, .int y3.2.2.1), (5, .int y21.1), (6, .int y21.2.1), (8, .ref (α 0 4)), (9, .int (nI (ζ.2 2))), (10, .int x10_260)]) hx hb dX7_counts_281 hl (by decide) rfl (fun ls hl => ?_)
        refine lv_iinc (v := (x10_260 + 1)) (lv' := [(10, .int (x10_260 + 1)), (7, .int (x7_260 + ((ζ.1 5 j24) 1))), (11, .ref (α 5 j24)), (0, .ref u), (1, .int y3.1), (2, .int y3.2.1), (3, .int y3.2.2.1), (5, .int y21.1), (6, .int y21.2.1), (8, .ref (α 0 4)), (9, .int (nI (ζ.2 2)))]) hx hb dX7_counts_283 hl (k := 10) rfl rfl (by decide) rfl (fun ls hl => ?_)
        refine lv_goto (tgt := 260) hx hb dX7_counts_286 (by decide) ?_
        exact ih _ _ _ h kc H locs ls hw (lv_sub hl [3, 4, 5, 6, 7, 8, 1, 9, 10, 0] rfl)
  obtain ⟨y23, h9_, h⟩ := mg_bind h
  refine L260_ 5000 _ _ _ h9_ (fun H locs ls hw hl => ?_) H locs ls hw (lv_sub hl [4, 5, 6, 7, 8, 9, 3, 2, 1, 0] rfl)
  clear L260_ h9_
  refine lv_bipush (v := 11) hx hb dX7_counts_289 (by decide) ?_
  refine mg_vnewI (n := 11) (N := 11) (B := 11) hx hb w4_ hK hw hA (by decide) rfl (Nat.le_refl _) (Nat.le_of_ble_eq_true rfl) (show 712 + 1 ≤ 713 by omega) (show 6853 + 11 ≤ 6864 by omega) dX7_counts_291 (fun q25 H hw => ?_)
  refine lv_dup hx hb dX7_counts_293 rfl ?_
  refine lv_iconst (v := 0) hx hb dX7_counts_294 (by decide) ?_
  refine lv_aload_n hx hb dX7_counts_295 rfl (lv_at hl 0 rfl) ?_
  refine va_get (D := D) (ci := 7) (v := .int (ζ.1 0 0 0)) (C := RX7) (T := TX7) (N := 6) hx hb hts iX7_ hown hK (mg_at1 hw.1 0 rfl mg_fS_00) 0 rfl rfl 0 (by decide) w5_ (fun _ h9 => h9) rfl dX7_counts_296 ?_
  refine mg_iasx (x := 0) (F' := mg_fI o q25 11 (upd (fun _ => 0) 0 (ζ.1 0 0 0))) hx hb hK hw 1 rfl mg_fI_0 (by unfold vp_in; decide) (by decide) mg_sI dX7_counts_299 (fun H locs hw => ?_)
  refine lv_dup hx hb dX7_counts_300 rfl ?_
  refine lv_iconst (v := 1) hx hb dX7_counts_301 (by decide) ?_
  refine lv_aload_n hx hb dX7_counts_302 rfl (lv_at hl 0 rfl) ?_
  refine va_get (D := D) (ci := 7) (v := .int (ζ.1 0 0 0)) (C := RX7) (T := TX7) (N := 6) hx hb hts iX7_ hown hK (mg_at1 hw.1 0 rfl mg_fS_00) 0 rfl rfl 0 (by decide) w5_ (fun _ h9 => h9) rfl dX7_counts_303 ?_
  refine lv_bipush (v := 8) hx hb dX7_counts_306 (by decide) ?_
  refine lv_irem hx hb dX7_counts_308 (by decide) ?_
  refine lv_iconst (v := 4) hx hb dX7_counts_309 (by decide) ?_
  obtain ⟨y26, h9_, h⟩ := mg_bind h
  have J310_ : ∀ (H : Heap) (locs : List Loc) (ls : Array Slot), mg_Vo D A s.heap H locs ([mg_fS o u α ζ, mg_fI o q25 11 (upd (fun _ => 0) 0 (ζ.1 0 0 0))]) → lv_has ls 12 [(0, .ref u), (1, .int y3.1), (2, .int y3.2.1), (3, .int y3.2.2.1), (5, .int y21.1), (6, .int y21.2.1), (7, .int y23.1)] → W p l e (headSpec wsX7_counts ({ frames := 1, cells := 713, slots := 6864, locals := 27 } : Room)).room s m ([.ref u] : List Value).toArray below meth c H locs 713 6864 (MQ below (mg_QV D (fun β => [mg_fS o u α ζ, mg_fI o (β 0 0) 11 y]) A (fun β => some (.ref (β 0 0)))) ([.ref u] : List Value).toArray s 713 6864 A) (F0 m 318 ls [.int y26, .int 1, .ref q25, .ref q25]) := by
    intro H locs ls hw hl
    clear h9_
    refine mg_iasx (x := 1) (F' := mg_fI o q25 11 (upd (upd (fun _ => 0) 0 (ζ.1 0 0 0)) 1 y26)) hx hb hK hw 1 rfl mg_fI_0 (by unfold vp_in; decide) (by decide) mg_sI dX7_counts_318 (fun H locs hw => ?_)
    refine lv_dup hx hb dX7_counts_319 rfl ?_
    refine lv_iconst (v := 2) hx hb dX7_counts_320 (by decide) ?_
    refine lv_aload_n hx hb dX7_counts_321 rfl (lv_at hl 0 rfl) ?_
    refine va_get (D := D) (ci := 7) (v := .int (ζ.1 0 0 1)) (C := RX7) (T := TX7) (N := 6) hx hb hts iX7_ hown hK (mg_at1 hw.1 0 rfl mg_fS_00) 0 rfl rfl 1 (by decide) w6_ (fun _ h9 => h9) rfl dX7_counts_322 ?_
    refine mg_iasx (x := 2) (F' := mg_fI o q25 11 (upd (upd (upd (fun _ => 0) 0 (ζ.1 0 0 0)) 1 y26) 2 (ζ.1 0 0 1))) hx hb hK hw 1 rfl mg_fI_0 (by unfold vp_in; decide) (by decide) mg_sI dX7_counts_325 (fun H locs hw => ?_)
    refine lv_dup hx hb dX7_counts_326 rfl ?_
    refine lv_iconst (v := 3) hx hb dX7_counts_327 (by decide) ?_
    refine lv_iload_n hx hb dX7_counts_328 rfl (lv_at hl 1 rfl) ?_
    refine mg_iasx (x := 3) (F' := mg_fI o q25 11 (upd (upd (upd (upd (fun _ => 0) 0 (ζ.1 0 0 0)) 1 y26) 2 (ζ.1 0 0 1)) 3 y3.1)) hx hb hK hw 1 rfl mg_fI_0 (by unfold vp_in; decide) (by decide) mg_sI dX7_counts_329 (fun H locs hw => ?_)
    refine lv_dup hx hb dX7_counts_330 rfl ?_
    refine lv_iconst (v := 4) hx hb dX7_counts_331 (by decide) ?_
    refine lv_iload_n hx hb dX7_counts_332 rfl (lv_at hl 2 rfl) ?_
    refine mg_iasx (x := 4) (F' := mg_fI o q25 11 (upd (upd (upd (upd (upd (fun _ => 0) 0 (ζ.1 0 0 0)) 1 y26) 2 (ζ.1 0 0 1)) 3 y3.1) 4 y3.2.1)) hx hb hK hw 1 rfl mg_fI_0 (by unfold vp_in; decide) (by decide) mg_sI dX7_counts_333 (fun H locs hw => ?_)
    refine lv_dup hx hb dX7_counts_334 rfl ?_
    refine lv_iconst (v := 5) hx hb dX7_counts_335 (by decide) ?_
    refine lv_iload_n hx hb dX7_counts_336 rfl (lv_at hl 3 rfl) ?_
    refine mg_iasx (x := 5) (F' := mg_fI o q25 11 (upd (upd (upd (upd (upd (upd (fun _ => 0) 0 (ζ.1 0 0 0)) 1 y26) 2 (ζ.1 0 0 1)) 3 y3.1) 4 y3.2.1) 5 y3.2.2.1)) hx hb hK hw 1 rfl mg_fI_0 (by unfold vp_in; decide) (by decide) mg_sI dX7_counts_337 (fun H locs hw => ?_)
    refine lv_dup hx hb dX7_counts_338 rfl ?_
    refine lv_bipush (v := 6) hx hb dX7_counts_339 (by decide) ?_
    refine lv_iload hx hb dX7_counts_341 (lv_at hl 4 rfl) ?_
    refine mg_iasx (x := 6) (F' := mg_fI o q25 11 (upd (upd (upd (upd (upd (upd (upd (fun _ => 0) 0 (ζ.1 0 0 0)) 1 y26) 2 (ζ.1 0 0 1)) 3 y3.1) 4 y3.2.1) 5 y3.2.2.1) 6 y21.1)) hx hb hK hw 1 rfl mg_fI_0 (by unfold vp_in; decide) (by decide) mg_sI dX7_counts_343 (fun H locs hw => ?_)
    refine lv_dup hx hb dX7_counts_344 rfl ?_
    refine lv_bipush (v := 7) hx hb dX7_counts_345 (by decide) ?_
    refine lv_iload hx hb dX7_counts_347 (lv_at hl 5 rfl) ?_
    refine mg_iasx (x := 7) (F' := mg_fI o q25 11 (upd (upd (upd (upd (upd (upd (upd (upd (fun _ => 0) 0 (ζ.1 0 0 0)) 1 y26) 2 (ζ.1 0 0 1)) 3 y3.1) 4 y3.2.1) 5 y3.2.2.1) 6 y21.1) 7 y21.2.1)) hx hb hK hw 1 rfl mg_fI_0 (by unfold vp_in; decide) (by decide) mg_sI dX7_counts_349 (fun H locs hw => ?_)
    refine lv_dup hx hb dX7_counts_350 rfl ?_
    refine lv_bipush (v := 8) hx hb dX7_counts_351 (by decide) ?_
    refine lv_aload_n hx hb dX7_counts_353 rfl (lv_at hl 0 rfl) ?_
    refine va_get (D := D) (ci := 7) (v := .ref (α 0 3)) (C := RX7) (T := TX7) (N := 6) hx hb hts iX7_ hown hK (mg_at1 hw.1 0 rfl mg_fS_00) 0 rfl rfl 4 (by decide) w7_ (fun _ h9 => h9) rfl dX7_counts_354 ?_
    refine mg_alenq hx hb hK hw 0 2 rfl mg_fS_03 rfl dX7_counts_357 ?_
    refine mg_iasx (x := 8) (F' := mg_fI o q25 11 (upd (upd (upd (upd (upd (upd (upd (upd (upd (fun _ => 0) 0 (ζ.1 0 0 0)) 1 y26) 2 (ζ.1 0 0 1)) 3 y3.1) 4 y3.2.1) 5 y3.2.2.1) 6 y21.1) 7 y21.2.1) 8 (nI (ζ.2 1)))) hx hb hK hw 1 rfl mg_fI_0 (by unfold vp_in; decide) (by decide) mg_sI dX7_counts_358 (fun H locs hw => ?_)
    refine lv_dup hx hb dX7_counts_359 rfl ?_
    refine lv_bipush (v := 9) hx hb dX7_counts_360 (by decide) ?_
    refine lv_aload_n hx hb dX7_counts_362 rfl (lv_at hl 0 rfl) ?_
    refine va_get (D := D) (ci := 7) (v := .ref (α 0 4)) (C := RX7) (T := TX7) (N := 6) hx hb hts iX7_ hown hK (mg_at1 hw.1 0 rfl mg_fS_00) 0 rfl rfl 5 (by decide) w3_ (fun _ h9 => h9) rfl dX7_counts_363 ?_
    refine mg_alenq hx hb hK hw 0 2 rfl mg_fS_04 rfl dX7_counts_366 ?_
    refine mg_iasx (x := 9) (F' := mg_fI o q25 11 (upd (upd (upd (upd (upd (upd (upd (upd (upd (upd (fun _ => 0) 0 (ζ.1 0 0 0)) 1 y26) 2 (ζ.1 0 0 1)) 3 y3.1) 4 y3.2.1) 5 y3.2.2.1) 6 y21.1) 7 y21.2.1) 8 (nI (ζ.2 1))) 9 (nI (ζ.2 2)))) hx hb hK hw 1 rfl mg_fI_0 (by unfold vp_in; decide) (by decide) mg_sI dX7_counts_367 (fun H locs hw => ?_)
    refine lv_dup hx hb dX7_counts_368 rfl ?_
    refine lv_bipush (v := 10) hx hb dX7_counts_369 (by decide) ?_
    refine lv_iload hx hb dX7_counts_371 (lv_at hl 6 rfl) ?_
    refine mg_iasx (x := 10) (F' := mg_fI o q25 11 (upd (upd (upd (upd (upd (upd (upd (upd (upd (upd (upd (fun _ => 0) 0 (ζ.1 0 0 0)) 1 y26) 2 (ζ.1 0 0 1)) 3 y3.1) 4 y3.2.1) 5 y3.2.2.1) 6 y21.1) 7 y21.2.1) 8 (nI (ζ.2 1))) 9 (nI (ζ.2 2))) 10 y23.1)) hx hb hK hw 1 rfl mg_fI_0 (by unfold vp_in; decide) (by decide) mg_sI dX7_counts_373 (fun H locs hw => ?_)
    refine lv_astore (lv' := [(8, .ref q25), (0, .ref u), (1, .int y3.1), (2, .int y3.2.1), (3, .int y3.2.2.1), (5, .int y21.1), (6, .int y21.2.1), (7, .int y23.1)]) hx hb dX7_counts_374 hl (by decide) rfl (fun ls hl => ?_)
    refine lv_aload hx hb dX7_counts_376 (lv_at hl 0 rfl) ?_
    cases h
    exact mg_eR (fun _ _ => q25) rfl hx hb hr (Or.inr ⟨_, rfl⟩) hlocks hw (show 713 ≤ 713 by omega) (show 6864 ≤ 6864 by omega) dX7_counts_378
  clear h
  have h := h9_
  clear h9_
  refine mg_icmp_ne (tgt := 317) hx hb h dX7_counts_310 (by decide) (fun h => ?_) (fun h => ?_)
  · refine lv_iconst (v := 0) hx hb dX7_counts_317 (by decide) ?_
    cases h
    exact J310_ H locs ls hw (lv_sub hl [0, 1, 2, 3, 4, 5, 6] rfl)
  · refine lv_iconst (v := 1) hx hb dX7_counts_313 (by decide) ?_
    refine lv_goto (tgt := 318) hx hb dX7_counts_314 (by decide) ?_
    cases h
    exact J310_ H locs ls hw (lv_sub hl [0, 1, 2, 3, 4, 5, 6] rfl)
