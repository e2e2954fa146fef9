set_option maxHeartbeats 8000000 in
set_option maxRecDepth 100000 in
theorem k_X7_shows (l : Launch) (D : va_G) (o : Nat → Nat) (u : Nat) (α : Nat → Nat → Nat) (sz : Nat) (k0 : Nat) (ζ : mg_Sz) (hk0 : k0 < ζ.2 1) (y : Nat × (Nat → Nat → Int32)) (h : f_X7_shows k0 ζ = some y) : mg_CV l yX7_shows wsX7_shows ({ frames := 1, cells := 23, slots := 363, locals := 23 } : Room) D o [mg_fS o u α ζ] sz [.ref u, .ref (α 4 k0)] (fun β => some (.ref (β 0 0))) (fun β => [mg_fS o u α ζ, mg_fP o (β 0 0) (β 1) y.1 y.2]) 23 363 := by
  unfold mg_CV
  refine Met.ofW (cc := cX7_shows) (maxL := 6) (ret := (some (.array (.array .int)))) (by decide) rfl ?_
  intro p e s m args below meth c s₁ B hml hv
  obtain ⟨rfl, hsz, hP, hK, hD0, hO⟩ := hv
  have hx := B.exec
  have hb := B.bytes
  have hr := B.returns
  have hts := atoms_spec (ws := wsX7_shows) B.pre
  have hown : s.vm.findClass RX7 = some m.cls := findClass_of_methodNamed B.named
  have hlocks := B.notSynchronized
  subst hsz
  have hD := hD0.self (sz := s.heap.size)
  generalize hAe : mg_VA [mg_fS o u α ζ] s.heap.size = A at hD hO ⊢
  have hA : ∀ q : Nat, s.heap.size ≤ q → A q := fun q h => by rw [← hAe]; exact Or.inr h
  have hw : mg_Vo D A s.heap s.heap [] ([mg_fS o u α ζ]) := ⟨hP, hD, va_S.rf⟩
  have G9 : CallFix p m c cX7_shows 6 s ([.ref u, .ref (α 4 k0)] : List Value).toArray wsX7_shows RX7 := ⟨hx, hb, hml, hown, hts⟩
  clear hP hD hD0 hAe
  have w0_ := hts (.classLink RX7 18 "[I") (by decide +kernel)
  have w1_ := hts (.fieldLink RX7 15 "MoonGateLaw$Sim" "cells" "[[[I") (by decide +kernel)
  have iX7_ : ∀ w ∈ wsX70, w ∈ wsX7_shows := (fun _ h => List.mem_cons_of_mem _ (List.mem_append_right _ h))
  have w3_ := hts (.arrayClass .int) (by decide +kernel)
  have hl := lv_entry ([.ref u, .ref (α 4 k0)]) (n := 6) (Nat.le_of_ble_eq_true rfl)
  rw [lg_entry_eq]
  generalize (lg_sl ([.ref u, .ref (α 4 k0)]) ++ List.replicate (6 - (lg_sl ([.ref u, .ref (α 4 k0)])).length) Slot.unset).toArray = ls at hl ⊢
  have hl : lv_has ls 6 [(0, .ref u), (1, .ref (α 4 k0))] := hl
  unfold f_X7_shows at h
  suffices K_ : ∀ (H : Heap) (locs : List Loc), mg_Vo D A s.heap H locs ([mg_fS o u α ζ]) → W p l e (headSpec wsX7_shows ({ frames := 1, cells := 23, slots := 363, locals := 23 } : Room)).room s m ([.ref u, .ref (α 4 k0)] : List Value).toArray below meth c H locs 0 0 (MQ below (mg_QV D (fun β => [mg_fS o u α ζ, mg_fP o (β 0 0) (β 1) y.1 y.2]) A (fun β => some (.ref (β 0 0)))) ([.ref u, .ref (α 4 k0)] : List Value).toArray s 23 363 A) (F0 m 0 ls []) from K_ _ _ hw
  clear hw
  intro H locs hw
  refine lv_iconst (v := 0) hx hb dX7_shows_0 (by decide) ?_
  refine mg_vnewq (n := 0) (N := 0) (B := 0) hx hb hown w0_ (hO.2.2.2.2.2.2.2.2.2.2.2.2.2.2.2.2.2.2.2.2.1) hw hA (by decide) rfl (Nat.le_refl _) (Nat.le_of_ble_eq_true rfl) (show 0 + 1 ≤ 23 by omega) (show 0 + 0 ≤ 363 by omega) dX7_shows_1 (fun q1 H hw => ?_)
  have hw : mg_Vo D A s.heap H _ ([mg_fS o u α ζ, mg_fP o q1 (fun _ => 0) 0 (fun _ _ => 0)]) := mg_newP (L := [mg_fS o u α ζ]) hw
  refine lv_astore_n (lv' := [(2, .ref q1), (0, .ref u), (1, .ref (α 4 k0))]) hx hb dX7_shows_4 rfl hl (by decide) rfl (fun ls hl => ?_)
  refine lv_aload_n hx hb dX7_shows_5 rfl (lv_at hl 2 rfl) ?_
  refine lv_iconst (v := 0) hx hb dX7_shows_6 (by decide) ?_
  refine mg_ial (x := 0) hx hb hK hw 0 rfl (mg_fS_4 hk0) (by unfold vp_in; decide) (by decide) dX7_shows_7 ?_
  refine lv_istore_n (lv' := [(3, .int ((ζ.1 4 k0) 0)), (2, .ref q1), (0, .ref u), (1, .ref (α 4 k0))]) hx hb dX7_shows_8 rfl hl (by decide) rfl (fun ls hl => ?_)
  refine lv_aload_n hx hb dX7_shows_9 rfl (lv_at hl 3 rfl) ?_
  refine lv_iconst (v := 1) hx hb dX7_shows_10 (by decide) ?_
  refine mg_ial (x := 1) hx hb hK hw 0 rfl (mg_fS_4 hk0) (by unfold vp_in; decide) (by decide) dX7_shows_11 ?_
  refine lv_istore (lv' := [(4, .int ((ζ.1 4 k0) 1)), (3, .int ((ζ.1 4 k0) 0)), (2, .ref q1), (0, .ref u), (1, .ref (α 4 k0))]) hx hb dX7_shows_12 hl (by decide) rfl (fun ls hl => ?_)
  have L14_ : ∀ (n : Nat), ∀ (cl14_ sl14_ : Nat), cl14_ + n * 2 ≤ 23 → sl14_ + n * 33 ≤ 363 → ∀ (x3_14 : Int32) (x4_14 : Int32) (nP_14 : Nat) (cP_14 : Nat → Nat → Int32), f_X7_shows_14 k0 ζ n x3_14 x4_14 nP_14 cP_14 = some y → ∀ (qP_14 : Nat) (rP_14 : Nat → Nat) (H : Heap) (locs : List Loc) (ls : Array Slot), mg_Vo D A s.heap H locs ([mg_fS o u α ζ, mg_fP o qP_14 rP_14 nP_14 cP_14]) → lv_has ls 6 [(0, .ref u), (1, .ref (α 4 k0)), (2, .ref qP_14), (3, .int x3_14), (4, .int x4_14)] → W p l e (headSpec wsX7_shows ({ frames := 1, cells := 23, slots := 363, locals := 23 } : Room)).room s m ([.ref u, .ref (α 4 k0)] : List Value).toArray below meth c H locs cl14_ sl14_ (MQ below (mg_QV D (fun β => [mg_fS o u α ζ, mg_fP o (β 0 0) (β 1) y.1 y.2]) A (fun β => some (.ref (β 0 0)))) ([.ref u, .ref (α 4 k0)] : List Value).toArray s 23 363 A) (F0 m 14 ls []) := by
    intro n
    induction n with
    | zero => intro cl14_ sl14_ hcl14_ hsl14_ x3_14 x4_14 nP_14 cP_14 h; rw [f_X7_shows_14] at h; cases h
    | succ n ih =>
      intro cl14_ sl14_ hcl14_ hsl14_ x3_14 x4_14 nP_14 cP_14 h qP_14 rP_14 H locs ls hw hl
      rw [f_X7_shows_14] at h
      refine lv_iload_n hx hb dX7_shows_14 rfl (lv_at hl 3 rfl) ?_
      refine lv_aload_n hx hb dX7_shows_15 rfl (lv_at hl 1 rfl) ?_
      refine lv_iconst (v := 2) hx hb dX7_shows_16 (by decide) ?_
      refine mg_ial (x := 2) hx hb hK hw 0 rfl (mg_fS_4 hk0) (by unfold vp_in; decide) (by decide) dX7_shows_17 ?_
      refine lv_iconst (v := 1) hx hb dX7_shows_18 (by decide) ?_
      obtain ⟨y3, h9_, h⟩ := mg_bind h
      have J19_ : ∀ (H : Heap) (locs : List Loc) (ls : Array Slot), mg_Vo D A s.heap H locs ([mg_fS o u α ζ, mg_fP o qP_14 rP_14 nP_14 cP_14]) → lv_has ls 6 [(0, .ref u), (1, .ref (α 4 k0)), (2, .ref qP_14), (4, .int x4_14)] → W p l e (headSpec wsX7_shows ({ frames := 1, cells := 23, slots := 363, locals := 23 } : Room)).room s m ([.ref u, .ref (α 4 k0)] : List Value).toArray below meth c H locs cl14_ sl14_ (MQ below (mg_QV D (fun β => [mg_fS o u α ζ, mg_fP o (β 0 0) (β 1) y.1 y.2]) A (fun β => some (.ref (β 0 0)))) ([.ref u, .ref (α 4 k0)] : List Value).toArray s 23 363 A) (F0 m 38 ls [.int y3, .int x3_14]) := by
        intro H locs ls hw hl
        clear h9_
        refine lv_iadd hx hb dX7_shows_38 ?_
        refine lv_istore_n (lv' := [(3, .int (x3_14 + y3)), (0, .ref u), (1, .ref (α 4 k0)), (2, .ref qP_14), (4, .int x4_14)]) hx hb dX7_shows_39 rfl hl (by decide) rfl (fun ls hl => ?_)
        refine lv_iload hx hb dX7_shows_40 (lv_at hl 4 rfl) ?_
        refine lv_aload_n hx hb dX7_shows_42 rfl (lv_at hl 2 rfl) ?_
        refine lv_iconst (v := 2) hx hb dX7_shows_43 (by decide) ?_
        refine mg_ial (x := 2) hx hb hK hw 0 rfl (mg_fS_4 hk0) (by unfold vp_in; decide) (by decide) dX7_shows_44 ?_
        refine lv_iconst (v := 2) hx hb dX7_shows_45 (by decide) ?_
        obtain ⟨y4, h9_, h⟩ := mg_bind h
        have J46_ : ∀ (H : Heap) (locs : List Loc) (ls : Array Slot), mg_Vo D A s.heap H locs ([mg_fS o u α ζ, mg_fP o qP_14 rP_14 nP_14 cP_14]) → lv_has ls 6 [(0, .ref u), (1, .ref (α 4 k0)), (2, .ref qP_14), (3, .int (x3_14 + y3))] → W p l e (headSpec wsX7_shows ({ frames := 1, cells := 23, slots := 363, locals := 23 } : Room)).room s m ([.ref u, .ref (α 4 k0)] : List Value).toArray below meth c H locs cl14_ sl14_ (MQ below (mg_QV D (fun β => [mg_fS o u α ζ, mg_fP o (β 0 0) (β 1) y.1 y.2]) A (fun β => some (.ref (β 0 0)))) ([.ref u, .ref (α 4 k0)] : List Value).toArray s 23 363 A) (F0 m 64 ls [.int y4, .int x4_14]) := by
          intro H locs ls hw hl
          clear h9_
          refine lv_iadd hx hb dX7_shows_64 ?_
          refine lv_istore (lv' := [(4, .int (x4_14 + y4)), (0, .ref u), (1, .ref (α 4 k0)), (2, .ref qP_14), (3, .int (x3_14 + y3))]) hx hb dX7_shows_65 hl (by decide) rfl (fun ls hl => ?_)
          refine lv_iload_n hx hb dX7_shows_67 rfl (lv_at hl 4 rfl) ?_
          refine mg_if_lt (tgt := 104) hx hb h dX7_shows_68 (by decide) (fun h => ?_) (fun h => ?_)
          · refine lv_aload_n hx hb dX7_shows_104 rfl (lv_at hl 3 rfl) ?_
            cases h
            exact mg_eR (fun a => if a = 0 then (fun _ => qP_14) else rP_14) rfl hx hb hr (Or.inr ⟨_, rfl⟩) hlocks hw (show cl14_ ≤ 23 by omega) (show sl14_ ≤ 363 by omega) dX7_shows_105
          · refine lv_iload_n hx hb dX7_shows_71 rfl (lv_at hl 4 rfl) ?_
            refine lv_bipush (v := 9) hx hb dX7_shows_72 (by decide) ?_
            refine mg_icmp_gt (tgt := 104) hx hb h dX7_shows_74 (by decide) (fun h => ?_) (fun h => ?_)
            · refine lv_aload_n hx hb dX7_shows_104 rfl (lv_at hl 3 rfl) ?_
              cases h
              exact mg_eR (fun a => if a = 0 then (fun _ => qP_14) else rP_14) rfl hx hb hr (Or.inr ⟨_, rfl⟩) hlocks hw (show cl14_ ≤ 23 by omega) (show sl14_ ≤ 363 by omega) dX7_shows_105
            · refine lv_iload hx hb dX7_shows_77 (lv_at hl 0 rfl) ?_
              refine mg_if_lt (tgt := 104) hx hb h dX7_shows_79 (by decide) (fun h => ?_) (fun h => ?_)
              · refine lv_aload_n hx hb dX7_shows_104 rfl (lv_at hl 3 rfl) ?_
                cases h
                exact mg_eR (fun a => if a = 0 then (fun _ => qP_14) else rP_14) rfl hx hb hr (Or.inr ⟨_, rfl⟩) hlocks hw (show cl14_ ≤ 23 by omega) (show sl14_ ≤ 363 by omega) dX7_shows_105
              · refine lv_iload hx hb dX7_shows_82 (lv_at hl 0 rfl) ?_
                refine lv_bipush (v := 6) hx hb dX7_shows_84 (by decide) ?_
                refine mg_icmp_gt (tgt := 104) hx hb h dX7_shows_86 (by decide) (fun h => ?_) (fun h => ?_)
                · refine lv_aload_n hx hb dX7_shows_104 rfl (lv_at hl 3 rfl) ?_
                  cases h
                  exact mg_eR (fun a => if a = 0 then (fun _ => qP_14) else rP_14) rfl hx hb hr (Or.inr ⟨_, rfl⟩) hlocks hw (show cl14_ ≤ 23 by omega) (show sl14_ ≤ 363 by omega) dX7_shows_105
                · refine lv_aload_n hx hb dX7_shows_89 rfl (lv_at hl 1 rfl) ?_
                  refine va_get (D := D) (ci := 7) (v := .ref (α 0 1)) (C := RX7) (T := TX7) (N := 6) hx hb hts iX7_ hown hK (mg_at1 hw.1 0 rfl mg_fS_00) 0 rfl rfl 2 (by decide) w1_ (fun _ h9 => h9) rfl dX7_shows_90 ?_
                  refine lv_iload hx hb dX7_shows_93 (lv_at hl 0 rfl) ?_
                  refine mg_aal hx hb hK hw 0 3 rfl mg_fS_01 rfl rfl h dX7_shows_95 (fun j5 hj5_ h => ?_)
                  refine lv_iload_n hx hb dX7_shows_96 rfl (lv_at hl 4 rfl) ?_
                  refine mg_aal hx hb hK hw 0 2 rfl (mg_fS_1 hj5_) rfl rfl h dX7_shows_97 (fun j6 hj6_ h => ?_)
                  refine lv_iconst (v := 0) hx hb dX7_shows_98 (by decide) ?_
                  refine mg_ial (x := 0) hx hb hK hw 0 rfl (mg_fS_2 hj5_ hj6_) (by unfold vp_in; decide) (by decide) dX7_shows_99 ?_
                  refine lv_iconst (v := 3) hx hb dX7_shows_100 (by decide) ?_
                  refine mg_icmp_ne (tgt := 106) hx hb h dX7_shows_101 (by decide) (fun h => ?_) (fun h => ?_)
                  · refine lv_iconst (v := 2) hx hb dX7_shows_106 (by decide) ?_
                    refine mg_vnewI (n := 2) (N := 2) (B := 2) hx hb w3_ hK hw hA (by decide) rfl (Nat.le_refl _) (Nat.le_of_ble_eq_true rfl) (show cl14_ + 1 ≤ 23 by omega) (show sl14_ + 2 ≤ 363 by omega) dX7_shows_107 (fun q7 H hw => ?_)
                    refine lv_dup hx hb dX7_shows_109 rfl ?_
                    refine lv_iconst (v := 0) hx hb dX7_shows_110 (by decide) ?_
                    refine lv_iload_n hx hb dX7_shows_111 rfl (lv_at hl 4 rfl) ?_
                    refine mg_iasx (x := 0) (F' := mg_fI o q7 2 (upd (fun _ => 0) 0 (x3_14 + y3))) hx hb hK hw 2 rfl mg_fI_0 (by unfold vp_in; decide) (by decide) mg_sI dX7_shows_112 (fun H locs hw => ?_)
                    refine lv_dup hx hb dX7_shows_113 rfl ?_
                    refine lv_iconst (v := 1) hx hb dX7_shows_114 (by decide) ?_
                    refine lv_iload hx hb dX7_shows_115 (lv_at hl 0 rfl) ?_
                    refine mg_iasx (x := 1) (F' := mg_fI o q7 2 (upd (upd (fun _ => 0) 0 (x3_14 + y3)) 1 (x4_14 + y4))) hx hb hK hw 2 rfl mg_fI_0 (by unfold vp_in; decide) (by decide) mg_sI dX7_shows_117 (fun H locs hw => ?_)
                    refine lv_astore (lv' := [(5, .ref q7), (4, .int (x4_14 + y4)), (0, .ref u), (1, .ref (α 4 k0)), (2, .ref qP_14), (3, .int (x3_14 + y3))]) hx hb dX7_shows_118 hl (by decide) rfl (fun ls hl => ?_)
                    refine lv_aload_n hx hb dX7_shows_120 rfl (lv_at hl 4 rfl) ?_
                    refine lv_aload hx hb dX7_shows_121 (lv_at hl 0 rfl) ?_
                    obtain ⟨y9_, h9_, h⟩ := mg_bind h
                    have hn9 := mg_gd_of h9_
                    clear h9_ y9_
                    refine mg_callV (va_runS (As := [.ref qP_14, .ref q7]) (rest := []) G9 (k_X7_more l D o [mg_fS o u α ζ, mg_fP o qP_14 rP_14 nP_14 cP_14, mg_fI o q7 2 (upd (upd (fun _ => 0) 0 (x3_14 + y3)) 1 (x4_14 + y4))] H.size 1 2 rfl mg_fP_0 (fun y hy => ⟨1, _, 1, y, _, _, rfl, mg_fP_1 hy⟩) rfl mg_fI_0 hn9) (va_cwS 2 hts gX7_shows_X7_more rfl rfl rfl (by decide +kernel) ⟨Nat.le_of_ble_eq_true rfl, Nat.le_of_ble_eq_true rfl⟩) (mg_preVv hK hO hA hw) rfl rfl hl.1 rfl (lv_room (Nat.le_of_ble_eq_true rfl)) dX7_shows_123 ⟨(show cl14_ + 1 + 1 ≤ 23 by omega), (show sl14_ + 2 + 31 ≤ 363 by omega)⟩) hw hA [0, 1, 2] [] rfl (Lr := []) rfl rfl (by decide) (fun β8 H locs hw => ?_)
                    have hw : mg_Vo D A s.heap H locs ([mg_fS o u α ζ, mg_fP o qP_14 rP_14 nP_14 cP_14, mg_fI o q7 2 (upd (upd (fun _ => 0) 0 (x3_14 + y3)) 1 (x4_14 + y4)), mg_fQ o (β8 0 0) (nP_14 + 1) (fun y => some (if y = nP_14 then q7 else rP_14 y))]) := hw
                    have hw : mg_Vo D A s.heap H locs ([mg_fS o u α ζ, mg_fP o (β8 0 0) (fun y => if y = nP_14 then q7 else rP_14 y) (nP_14 + 1) (mg_pu cP_14 nP_14 (upd (upd (fun _ => 0) 0 (x3_14 + y3)) 1 (x4_14 + y4)))]) := mg_mergeP (L := [mg_fS o u α ζ]) (mg_Vsub hw [0, 1, 2, 3] rfl rfl)
                    refine lv_astore_n (lv' := [(2, .ref (β8 0 0)), (5, .ref q7), (4, .int (x4_14 + y4)), (0, .ref u), (1, .ref (α 4 k0)), (3, .int (x3_14 + y3))]) hx hb dX7_shows_126 rfl hl (by decide) rfl (fun ls hl => ?_)
                    refine lv_aload_n hx hb dX7_shows_127 rfl (lv_at hl 3 rfl) ?_
                    refine va_get (D := D) (ci := 7) (v := .ref (α 0 1)) (C := RX7) (T := TX7) (N := 6) hx hb hts iX7_ hown hK (mg_at1 hw.1 0 rfl mg_fS_00) 0 rfl rfl 2 (by decide) w1_ (fun _ h9 => h9) rfl dX7_shows_128 ?_
                    refine lv_iload hx hb dX7_shows_131 (lv_at hl 2 rfl) ?_
                    refine mg_aal hx hb hK hw 0 3 rfl mg_fS_01 rfl rfl h dX7_shows_133 (fun j10 hj10_ h => ?_)
                    refine lv_iload_n hx hb dX7_shows_134 rfl (lv_at hl 5 rfl) ?_
                    refine mg_aal hx hb hK hw 0 2 rfl (mg_fS_1 hj10_) rfl rfl h dX7_shows_135 (fun j11 hj11_ h => ?_)
                    refine lv_iconst (v := 0) hx hb dX7_shows_136 (by decide) ?_
                    refine mg_ial (x := 0) hx hb hK hw 0 rfl (mg_fS_2 hj10_ hj11_) (by unfold vp_in; decide) (by decide) dX7_shows_137 ?_
                    refine lv_iconst (v := 1) hx hb dX7_shows_138 (by decide) ?_
                    refine mg_icmp_ne (tgt := 160) hx hb h dX7_shows_139 (by decide) (fun h => ?_) (fun h => ?_)
                    · refine lv_goto (tgt := 14) hx hb dX7_shows_160 (by decide) ?_
                      exact ih _ _ (by omega) (by omega) _ _ _ _ h _ _ H locs ls hw (lv_sub hl [3, 4, 0, 5, 2] rfl)
                    · refine lv_aload_n hx hb dX7_shows_142 rfl (lv_at hl 3 rfl) ?_
                      refine va_get (D := D) (ci := 7) (v := .ref (α 0 1)) (C := RX7) (T := TX7) (N := 6) hx hb hts iX7_ hown hK (mg_at1 hw.1 0 rfl mg_fS_00) 0 rfl rfl 2 (by decide) w1_ (fun _ h9 => h9) rfl dX7_shows_143 ?_
                      refine lv_iload hx hb dX7_shows_146 (lv_at hl 2 rfl) ?_
                      refine mg_aal hx hb hK hw 0 3 rfl mg_fS_01 rfl rfl h dX7_shows_148 (fun j12 hj12_ h => ?_)
                      refine lv_iload_n hx hb dX7_shows_149 rfl (lv_at hl 5 rfl) ?_
                      refine mg_aal hx hb hK hw 0 2 rfl (mg_fS_1 hj12_) rfl rfl h dX7_shows_150 (fun j13 hj13_ h => ?_)
                      refine lv_iconst (v := 2) hx hb dX7_shows_151 (by decide) ?_
                      refine mg_ial (x := 2) hx hb hK hw 0 rfl (mg_fS_2 hj12_ hj13_) (by unfold vp_in; decide) (by decide) dX7_shows_152 ?_
                      refine lv_bipush (v := 6) hx hb dX7_shows_153 (by decide) ?_
                      refine mg_icmp_le (tgt := 160) hx hb h dX7_shows_155 (by decide) (fun h => ?_) (fun h => ?_)
                      · refine lv_goto (tgt := 14) hx hb dX7_shows_160 (by decide) ?_
                        exact ih _ _ (by omega) (by omega) _ _ _ _ h _ _ H locs ls hw (lv_sub hl [3, 4, 0, 5, 2] rfl)
                      · refine lv_aload_n hx hb dX7_shows_158 rfl (lv_at hl 0 rfl) ?_
                        cases h
                        exact mg_eR (fun a => if a = 0 then (fun _ => (β8 0 0)) else (fun y => if y = nP_14 then q7 else rP_14 y)) rfl hx hb hr (Or.inr ⟨_, rfl⟩) hlocks hw (show cl14_ + 2 ≤ 23 by omega) (show sl14_ + 33 ≤ 363 by omega) dX7_shows_159
                  · refine lv_aload_n hx hb dX7_shows_104 rfl (lv_at hl 3 rfl) ?_
                    cases h
                    exact mg_eR (fun a => if a = 0 then (fun _ => qP_14) else rP_14) rfl hx hb hr (Or.inr ⟨_, rfl⟩) hlocks hw (show cl14_ ≤ 23 by omega) (show sl14_ ≤ 363 by omega) dX7_shows_105
        clear h
        have h := h9_
        clear h9_
        refine mg_icmp_ne (tgt := 53) hx hb h dX7_shows_46 (by decide) (fun h => ?_) (fun h => ?_)
        · refine lv_aload_n hx hb dX7_shows_53 rfl (lv_at hl 2 rfl) ?_
          refine lv_iconst (v := 2) hx hb dX7_shows_54 (by decide) ?_
          refine mg_ial (x := 2) hx hb hK hw 0 rfl (mg_fS_4 hk0) (by unfold vp_in; decide) (by decide) dX7_shows_55 ?_
          refine mg_if_ne (tgt := 63) hx hb h dX7_shows_56 (by decide) (fun h => ?_) (fun h => ?_)
          · refine lv_iconst (v := 0) hx hb dX7_shows_63 (by decide) ?_
            cases h
            exact J46_ H locs ls hw (lv_sub hl [1, 2, 3, 0] rfl)
          · refine lv_iconst (v := (-1)) hx hb dX7_shows_59 (by decide) ?_
            refine lv_goto (tgt := 64) hx hb dX7_shows_60 (by decide) ?_
            cases h
            exact J46_ H locs ls hw (lv_sub hl [1, 2, 3, 0] rfl)
        · refine lv_iconst (v := 1) hx hb dX7_shows_49 (by decide) ?_
          refine lv_goto (tgt := 64) hx hb dX7_shows_50 (by decide) ?_
          cases h
          exact J46_ H locs ls hw (lv_sub hl [1, 2, 3, 0] rfl)
      clear h
      have h := h9_
      clear h9_
      refine mg_icmp_ne (tgt := 26) hx hb h dX7_shows_19 (by decide) (fun h => ?_) (fun h => ?_)
      · refine lv_aload_n hx hb dX7_shows_26 rfl (lv_at hl 1 rfl) ?_
        refine lv_iconst (v := 2) hx hb dX7_shows_27 (by decide) ?_
        refine mg_ial (x := 2) hx hb hK hw 0 rfl (mg_fS_4 hk0) (by unfold vp_in; decide) (by decide) dX7_shows_28 ?_
        refine lv_iconst (v := 3) hx hb dX7_shows_29 (by decide) ?_
        refine mg_icmp_ne (tgt := 37) hx hb h dX7_shows_30 (by decide) (fun h => ?_) (fun h => ?_)
        · refine lv_iconst (v := 0) hx hb dX7_shows_37 (by decide) ?_
          cases h
          exact J19_ H locs ls hw (lv_sub hl [0, 1, 2, 4] rfl)
        · refine lv_iconst (v := (-1)) hx hb dX7_shows_33 (by decide) ?_
          refine lv_goto (tgt := 38) hx hb dX7_shows_34 (by decide) ?_
          cases h
          exact J19_ H locs ls hw (lv_sub hl [0, 1, 2, 4] rfl)
      · refine lv_iconst (v := 1) hx hb dX7_shows_22 (by decide) ?_
        refine lv_goto (tgt := 38) hx hb dX7_shows_23 (by decide) ?_
        cases h
        exact J19_ H locs ls hw (lv_sub hl [0, 1, 2, 4] rfl)
  exact L14_ _ 1 0 (by omega) (by omega) _ _ _ _ h _ _ H locs ls hw (lv_sub hl [3, 4, 2, 1, 0] rfl)
