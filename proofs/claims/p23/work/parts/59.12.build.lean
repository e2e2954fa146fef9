set_option maxHeartbeats 8000000 in
set_option maxRecDepth 100000 in
theorem k_L_build (l : Launch) (hst : l.stackTraces = false) (D : va_G) (o : Nat → Nat) (g : Nat → Nat) (b : Nat) (sz : Nat) (xs : Nat → Int32) (Ln : Nat) (σ : mg_St) (y : mg_St × mg_Sz) (h : f_L_build xs Ln σ = some y) : mg_CVX l yL_build wsL_buildA ({ frames := 9, cells := 17858, slots := 209465, locals := 193 } : Room) D o [mg_fC g (o 53) (o 54) σ] sz b Ln xs [.ref (g 0), .ref b] (fun β => some (.ref (β 9 0))) (fun β => [mg_fC g (o 53) (o 54) y.1, mg_fS o (β 9 0) β y.2]) 17858 209465 := by
  unfold mg_CVX
  refine Met.ofW (cc := cL_build) (maxL := 6) (ret := (some (.object "MoonGateLaw$Sim"))) (by decide) rfl ?_
  intro p e s m args below meth c s₁ B hml hv
  obtain ⟨rfl, ⟨hsz, hP, hK, hD0, hO⟩, hX, hbl0, hbA⟩ := hv
  have hx := B.exec
  have hb := B.bytes
  have hr := B.returns
  have hts := atoms_spec (ws := wsL_buildA) B.pre
  have hown : s.vm.findClass RL = some m.cls := findClass_of_methodNamed B.named
  have hlocks := B.notSynchronized
  subst hsz
  have hD := hD0.self (sz := s.heap.size)
  have hbl : b < s.heap.size := hbl0
  generalize hAe : mg_VA [mg_fC g (o 53) (o 54) σ] s.heap.size = A at hD hO hbA ⊢
  have hA : ∀ q : Nat, s.heap.size ≤ q → A q := fun q h => by rw [← hAe]; exact Or.inr h
  have hw : mg_Vo D A s.heap s.heap [] ([mg_fC g (o 53) (o 54) σ]) := ⟨hP, hD, va_S.rf⟩
  have G9 : CallFix p m c cL_build 6 s ([.ref (g 0), .ref b] : List Value).toArray wsL_buildA RL := ⟨hx, hb, hml, hown, hts⟩
  clear hP hD hD0 hAe
  have w0_ := hts (.arrayClass .int) (by decide +kernel)
  have w1_ := hts (.constant RL 86 (100000)) (by decide +kernel)
  have hl := lv_entry ([.ref (g 0), .ref b]) (n := 6) (Nat.le_of_ble_eq_true rfl)
  rw [lg_entry_eq]
  generalize (lg_sl ([.ref (g 0), .ref b]) ++ List.replicate (6 - (lg_sl ([.ref (g 0), .ref b])).length) Slot.unset).toArray = ls at hl ⊢
  have hl : lv_has ls 6 [(0, .ref (g 0)), (1, .ref b)] := hl
  unfold f_L_build at h
  suffices K_ : ∀ (H : Heap) (locs : List Loc), mg_Vo D A s.heap H locs ([mg_fC g (o 53) (o 54) σ]) → W p l e (headSpec wsL_buildA ({ frames := 9, cells := 17858, slots := 209465, locals := 193 } : Room)).room s m ([.ref (g 0), .ref b] : List Value).toArray below meth c H locs 0 0 (MQ below (mg_QV D (fun β => [mg_fC g (o 53) (o 54) y.1, mg_fS o (β 9 0) β y.2]) A (fun β => some (.ref (β 9 0)))) ([.ref (g 0), .ref b] : List Value).toArray s 17858 209465 A) (F0 m 0 ls []) from K_ _ _ hw
  clear hw
  intro H locs hw
  refine mg_newSim (L := [mg_fC g (o 53) (o 54) σ]) hx hb hml hown hts hK hO hA hw hl.1 G9 (show 0 + 82 ≤ 17858 by omega) (show 0 + 293 ≤ 209465 by omega) (Nat.le_of_ble_eq_true rfl) (Nat.le_of_ble_eq_true rfl) (fun u1 α1 H locs hw => ?_)
  have hw : mg_Vo D A s.heap H locs ([mg_fC g (o 53) (o 54) σ, mg_fS o u1 α1 mg_z0]) := hw
  refine lv_astore_n (lv' := [(2, .ref u1), (0, .ref (g 0)), (1, .ref b)]) hx hb dL_build_7 rfl hl (by decide) rfl (fun ls hl => ?_)
  refine lv_bipush (v := 12) hx hb dL_build_8 (by decide) ?_
  refine mg_vnewI (n := 12) (N := 12) (B := 12) hx hb w0_ hK hw hA (by decide) rfl (Nat.le_refl _) (Nat.le_of_ble_eq_true rfl) (show 82 + 1 ≤ 17858 by omega) (show 293 + 12 ≤ 209465 by omega) dL_build_10 (fun q1 H hw => ?_)
  refine lv_dup hx hb dL_build_12 rfl ?_
  refine lv_iconst (v := 0) hx hb dL_build_13 (by decide) ?_
  refine lv_iconst (v := 2) hx hb dL_build_14 (by decide) ?_
  refine mg_iasx (x := 0) (F' := mg_fI o q1 12 (upd (fun _ => 0) 0 2)) hx hb hK hw 2 rfl mg_fI_0 (by unfold vp_in; decide) (by decide) mg_sI dL_build_15 (fun H locs hw => ?_)
  refine lv_dup hx hb dL_build_16 rfl ?_
  refine lv_iconst (v := 1) hx hb dL_build_17 (by decide) ?_
  refine lv_iconst (v := 3) hx hb dL_build_18 (by decide) ?_
  refine mg_iasx (x := 1) (F' := mg_fI o q1 12 (upd (upd (fun _ => 0) 0 2) 1 3)) hx hb hK hw 2 rfl mg_fI_0 (by unfold vp_in; decide) (by decide) mg_sI dL_build_19 (fun H locs hw => ?_)
  refine lv_dup hx hb dL_build_20 rfl ?_
  refine lv_iconst (v := 2) hx hb dL_build_21 (by decide) ?_
  refine lv_iconst (v := 0) hx hb dL_build_22 (by decide) ?_
  refine mg_iasx (x := 2) (F' := mg_fI o q1 12 (upd (upd (upd (fun _ => 0) 0 2) 1 3) 2 0)) hx hb hK hw 2 rfl mg_fI_0 (by unfold vp_in; decide) (by decide) mg_sI dL_build_23 (fun H locs hw => ?_)
  refine lv_dup hx hb dL_build_24 rfl ?_
  refine lv_iconst (v := 3) hx hb dL_build_25 (by decide) ?_
  refine lv_bipush (v := 11) hx hb dL_build_26 (by decide) ?_
  refine mg_iasx (x := 3) (F' := mg_fI o q1 12 (upd (upd (upd (upd (fun _ => 0) 0 2) 1 3) 2 0) 3 11)) hx hb hK hw 2 rfl mg_fI_0 (by unfold vp_in; decide) (by decide) mg_sI dL_build_28 (fun H locs hw => ?_)
  refine lv_dup hx hb dL_build_29 rfl ?_
  refine lv_iconst (v := 4) hx hb dL_build_30 (by decide) ?_
  refine lv_bipush (v := 13) hx hb dL_build_31 (by decide) ?_
  refine mg_iasx (x := 4) (F' := mg_fI o q1 12 (upd (upd (upd (upd (upd (fun _ => 0) 0 2) 1 3) 2 0) 3 11) 4 13)) hx hb hK hw 2 rfl mg_fI_0 (by unfold vp_in; decide) (by decide) mg_sI dL_build_33 (fun H locs hw => ?_)
  refine lv_dup hx hb dL_build_34 rfl ?_
  refine lv_iconst (v := 5) hx hb dL_build_35 (by decide) ?_
  refine lv_bipush (v := 7) hx hb dL_build_36 (by decide) ?_
  refine mg_iasx (x := 5) (F' := mg_fI o q1 12 (upd (upd (upd (upd (upd (upd (fun _ => 0) 0 2) 1 3) 2 0) 3 11) 4 13) 5 7)) hx hb hK hw 2 rfl mg_fI_0 (by unfold vp_in; decide) (by decide) mg_sI dL_build_38 (fun H locs hw => ?_)
  refine lv_dup hx hb dL_build_39 rfl ?_
  refine lv_bipush (v := 6) hx hb dL_build_40 (by decide) ?_
  refine lv_iconst (v := 1) hx hb dL_build_42 (by decide) ?_
  refine mg_iasx (x := 6) (F' := mg_fI o q1 12 (upd (upd (upd (upd (upd (upd (upd (fun _ => 0) 0 2) 1 3) 2 0) 3 11) 4 13) 5 7) 6 1)) hx hb hK hw 2 rfl mg_fI_0 (by unfold vp_in; decide) (by decide) mg_sI dL_build_43 (fun H locs hw => ?_)
  refine lv_dup hx hb dL_build_44 rfl ?_
  refine lv_bipush (v := 7) hx hb dL_build_45 (by decide) ?_
  refine lv_bipush (v := 8) hx hb dL_build_47 (by decide) ?_
  refine mg_iasx (x := 7) (F' := mg_fI o q1 12 (upd (upd (upd (upd (upd (upd (upd (upd (fun _ => 0) 0 2) 1 3) 2 0) 3 11) 4 13) 5 7) 6 1) 7 8)) hx hb hK hw 2 rfl mg_fI_0 (by unfold vp_in; decide) (by decide) mg_sI dL_build_49 (fun H locs hw => ?_)
  refine lv_dup hx hb dL_build_50 rfl ?_
  refine lv_bipush (v := 8) hx hb dL_build_51 (by decide) ?_
  refine lv_bipush (v := 12) hx hb dL_build_53 (by decide) ?_
  refine mg_iasx (x := 8) (F' := mg_fI o q1 12 (upd (upd (upd (upd (upd (upd (upd (upd (upd (fun _ => 0) 0 2) 1 3) 2 0) 3 11) 4 13) 5 7) 6 1) 7 8) 8 12)) hx hb hK hw 2 rfl mg_fI_0 (by unfold vp_in; decide) (by decide) mg_sI dL_build_55 (fun H locs hw => ?_)
  refine lv_dup hx hb dL_build_56 rfl ?_
  refine lv_bipush (v := 9) hx hb dL_build_57 (by decide) ?_
  refine lv_bipush (v := 13) hx hb dL_build_59 (by decide) ?_
  refine mg_iasx (x := 9) (F' := mg_fI o q1 12 (upd (upd (upd (upd (upd (upd (upd (upd (upd (upd (fun _ => 0) 0 2) 1 3) 2 0) 3 11) 4 13) 5 7) 6 1) 7 8) 8 12) 9 13)) hx hb hK hw 2 rfl mg_fI_0 (by unfold vp_in; decide) (by decide) mg_sI dL_build_61 (fun H locs hw => ?_)
  refine lv_dup hx hb dL_build_62 rfl ?_
  refine lv_bipush (v := 10) hx hb dL_build_63 (by decide) ?_
  refine lv_iconst (v := 2) hx hb dL_build_65 (by decide) ?_
  refine mg_iasx (x := 10) (F' := mg_fI o q1 12 (upd (upd (upd (upd (upd (upd (upd (upd (upd (upd (upd (fun _ => 0) 0 2) 1 3) 2 0) 3 11) 4 13) 5 7) 6 1) 7 8) 8 12) 9 13) 10 2)) hx hb hK hw 2 rfl mg_fI_0 (by unfold vp_in; decide) (by decide) mg_sI dL_build_66 (fun H locs hw => ?_)
  refine lv_dup hx hb dL_build_67 rfl ?_
  refine lv_bipush (v := 11) hx hb dL_build_68 (by decide) ?_
  refine lv_bipush (v := 9) hx hb dL_build_70 (by decide) ?_
  refine mg_iasx (x := 11) (F' := mg_fI o q1 12 (upd (upd (upd (upd (upd (upd (upd (upd (upd (upd (upd (upd (fun _ => 0) 0 2) 1 3) 2 0) 3 11) 4 13) 5 7) 6 1) 7 8) 8 12) 9 13) 10 2) 11 9)) hx hb hK hw 2 rfl mg_fI_0 (by unfold vp_in; decide) (by decide) mg_sI dL_build_72 (fun H locs hw => ?_)
  refine lv_astore_n (lv' := [(3, .ref q1), (2, .ref u1), (0, .ref (g 0)), (1, .ref b)]) hx hb dL_build_73 rfl hl (by decide) rfl (fun ls hl => ?_)
  refine lv_iconst (v := 0) hx hb dL_build_74 (by decide) ?_
  refine lv_istore (lv' := [(4, .int 0), (3, .ref q1), (2, .ref u1), (0, .ref (g 0)), (1, .ref b)]) hx hb dL_build_75 hl (by decide) rfl (fun ls hl => ?_)
  have L77_ : ∀ (n : Nat), ∀ (cl77_ sl77_ : Nat), cl77_ + n * 395 ≤ 17858 → sl77_ + n * 4648 ≤ 209465 → ∀ (x4_77 : Int32) (cC_77 : mg_St) (cS_77 : mg_Sz) (y77_ : Int32 × mg_St × mg_Sz), f_L_build_77 xs Ln (upd (upd (upd (upd (upd (upd (upd (upd (upd (upd (upd (upd (fun _ => 0) 0 2) 1 3) 2 0) 3 11) 4 13) 5 7) 6 1) 7 8) 8 12) 9 13) 10 2) 11 9) n x4_77 cC_77 cS_77 = some y77_ → (∀ (α_ : Nat → Nat → Nat) (H : Heap) (locs : List Loc) (ls : Array Slot), mg_Vo D A s.heap H locs ([mg_fC g (o 53) (o 54) y77_.2.1, mg_fS o u1 α_ y77_.2.2, mg_fI o q1 12 (upd (upd (upd (upd (upd (upd (upd (upd (upd (upd (upd (upd (fun _ => 0) 0 2) 1 3) 2 0) 3 11) 4 13) 5 7) 6 1) 7 8) 8 12) 9 13) 10 2) 11 9)]) → lv_has ls 6 [(2, .ref u1)] → W p l e (headSpec wsL_buildA ({ frames := 9, cells := 17858, slots := 209465, locals := 193 } : Room)).room s m ([.ref (g 0), .ref b] : List Value).toArray below meth c H locs 17858 209465 (MQ below (mg_QV D (fun β => [mg_fC g (o 53) (o 54) y.1, mg_fS o (β 9 0) β y.2]) A (fun β => some (.ref (β 9 0)))) ([.ref (g 0), .ref b] : List Value).toArray s 17858 209465 A) (F0 m 183 ls [])) → ∀ (α77_ : Nat → Nat → Nat) (H : Heap) (locs : List Loc) (ls : Array Slot), mg_Vo D A s.heap H locs ([mg_fC g (o 53) (o 54) cC_77, mg_fS o u1 α77_ cS_77, mg_fI o q1 12 (upd (upd (upd (upd (upd (upd (upd (upd (upd (upd (upd (upd (fun _ => 0) 0 2) 1 3) 2 0) 3 11) 4 13) 5 7) 6 1) 7 8) 8 12) 9 13) 10 2) 11 9)]) → lv_has ls 6 [(0, .ref (g 0)), (1, .ref b), (2, .ref u1), (3, .ref q1), (4, .int x4_77)] → W p l e (headSpec wsL_buildA ({ frames := 9, cells := 17858, slots := 209465, locals := 193 } : Room)).room s m ([.ref (g 0), .ref b] : List Value).toArray below meth c H locs cl77_ sl77_ (MQ below (mg_QV D (fun β => [mg_fC g (o 53) (o 54) y.1, mg_fS o (β 9 0) β y.2]) A (fun β => some (.ref (β 9 0)))) ([.ref (g 0), .ref b] : List Value).toArray s 17858 209465 A) (F0 m 77 ls []) := by
    intro n
    induction n with
    | zero => intro cl77_ sl77_ hcl77_ hsl77_ x4_77 cC_77 cS_77 y77_ h; rw [f_L_build_77] at h; cases h
    | succ n ih =>
      intro cl77_ sl77_ hcl77_ hsl77_ x4_77 cC_77 cS_77 y77_ h kc α77_ H locs ls hw hl
      rw [f_L_build_77] at h
      refine lv_iload hx hb dL_build_77 (lv_at hl 4 rfl) ?_
      refine lv_bipush (v := 44) hx hb dL_build_79 (by decide) ?_
      refine mg_icmp_ge (tgt := 183) hx hb h dL_build_81 (by decide) (fun h => ?_) (fun h => ?_)
      · cases h
        refine W.widen (k := 17858) (n := 209465) (by omega) (by omega) ?_
        exact kc _ H locs ls hw (lv_sub hl [2] rfl)
      · refine lv_aload_n hx hb dL_build_84 rfl (lv_at hl 1 rfl) ?_
        refine lv_iload hx hb dL_build_85 (lv_at hl 4 rfl) ?_
        refine lv_bipush (v := 16) hx hb dL_build_87 (by decide) ?_
        refine lv_irem hx hb dL_build_89 (by decide) ?_
        obtain ⟨y3, h9_, h⟩ := mg_bind h
        refine mg_callV (va_runS (As := [.ref b, .int (x4_77 - x4_77 / 16 * 16)]) (rest := []) G9 (k_L_cell l D o b H.size xs Ln (x4_77 - x4_77 / 16 * 16) y3 h9_) (va_cwS 2 hts (goodIn_up gL_build_L_cell) rfl rfl rfl (by decide +kernel) ⟨Nat.le_of_ble_eq_true rfl, Nat.le_of_ble_eq_true rfl⟩) (mg_preVX hK hO hA (mg_Vsub (L' := []) hw [] rfl rfl) hX hbl hbA) rfl rfl hl.1 rfl (lv_room (Nat.le_of_ble_eq_true rfl)) dL_build_90 ⟨(show cl77_ + 0 ≤ 17858 by omega), (show sl77_ + 0 ≤ 209465 by omega)⟩) hw hA [] [0, 1, 2] rfl (Lr := [mg_fC g (o 53) (o 54) cC_77, mg_fS o u1 α77_ cS_77, mg_fI o q1 12 (upd (upd (upd (upd (upd (upd (upd (upd (upd (upd (upd (upd (fun _ => 0) 0 2) 1 3) 2 0) 3 11) 4 13) 5 7) 6 1) 7 8) 8 12) 9 13) 10 2) 11 9)]) rfl rfl (by decide) (fun β4 H locs hw => ?_)
        clear h9_
        have hw : mg_Vo D A s.heap H locs ([mg_fC g (o 53) (o 54) cC_77, mg_fS o u1 α77_ cS_77, mg_fI o q1 12 (upd (upd (upd (upd (upd (upd (upd (upd (upd (upd (upd (upd (fun _ => 0) 0 2) 1 3) 2 0) 3 11) 4 13) 5 7) 6 1) 7 8) 8 12) 9 13) 10 2) 11 9)]) := hw
        refine lv_iload hx hb dL_build_93 (lv_at hl 4 rfl) ?_
        refine lv_bipush (v := 16) hx hb dL_build_95 (by decide) ?_
        refine lv_idiv hx hb dL_build_97 (by decide) ?_
        refine lv_iconst (v := 5) hx hb dL_build_98 (by decide) ?_
        refine lv_imul hx hb dL_build_99 ?_
        refine lv_ishr hx hb dL_build_100 ?_
        refine lv_bipush (v := 61) hx hb dL_build_101 (by decide) ?_
        refine lv_iload hx hb dL_build_103 (lv_at hl 4 rfl) ?_
        refine lv_imul hx hb dL_build_105 ?_
        refine lv_iadd hx hb dL_build_106 ?_
        refine lv_istore (lv' := [(5, .int ((y3 >>> (((x4_77 / 16) * 5) &&& 31)) + (61 * x4_77))), (0, .ref (g 0)), (1, .ref b), (2, .ref u1), (3, .ref q1), (4, .int x4_77)]) hx hb dL_build_107 hl (by decide) rfl (fun ls hl => ?_)
        refine lv_iload hx hb dL_build_109 (lv_at hl 5 rfl) ?_
        refine lv_bipush (v := 12) hx hb dL_build_111 (by decide) ?_
        obtain ⟨y5, h9_, h⟩ := mg_bind h
        have J113_ : ∀ (H : Heap) (locs : List Loc) (ls : Array Slot), mg_Vo D A s.heap H locs ([mg_fC g (o 53) (o 54) cC_77, mg_fS o u1 α77_ cS_77, mg_fI o q1 12 (upd (upd (upd (upd (upd (upd (upd (upd (upd (upd (upd (upd (fun _ => 0) 0 2) 1 3) 2 0) 3 11) 4 13) 5 7) 6 1) 7 8) 8 12) 9 13) 10 2) 11 9)]) → lv_has ls 6 [(0, .ref (g 0)), (1, .ref b), (2, .ref u1), (3, .ref q1), (4, .int x4_77), (5, .int y5)] → W p l e (headSpec wsL_buildA ({ frames := 9, cells := 17858, slots := 209465, locals := 193 } : Room)).room s m ([.ref (g 0), .ref b] : List Value).toArray below meth c H locs cl77_ sl77_ (MQ below (mg_QV D (fun β => [mg_fC g (o 53) (o 54) y.1, mg_fS o (β 9 0) β y.2]) A (fun β => some (.ref (β 9 0)))) ([.ref (g 0), .ref b] : List Value).toArray s 17858 209465 A) (F0 m 133 ls []) := by
          intro H locs ls hw hl
          clear h9_
          refine lv_aload_n hx hb dL_build_133 rfl (lv_at hl 0 rfl) ?_
          refine lv_aload_n hx hb dL_build_134 rfl (lv_at hl 2 rfl) ?_
          refine lv_iload hx hb dL_build_135 (lv_at hl 5 rfl) ?_
          obtain ⟨y9, h9_, h⟩ := mg_bind h
          refine mg_callV (vx_runSW (As := [.ref (g 0), .ref u1, .int y5]) (rest := []) G9 (k_L_act l hst D o g u1 α77_ H.size cC_77 cS_77 y5 y9 h9_) (vx_cwSW 3 hts (goodIn_up gL_build_L_act) rfl rfl rfl (by decide +kernel) ⟨Nat.le_of_ble_eq_true rfl, Nat.le_of_ble_eq_true rfl⟩) (mg_preVv hK hO hA (mg_Vsub (L' := [mg_fC g (o 53) (o 54) cC_77, mg_fS o u1 α77_ cS_77]) hw [0, 1] rfl rfl)) rfl rfl hl.1 rfl (lv_room (Nat.le_of_ble_eq_true rfl)) dL_build_137 ⟨(show cl77_ + 9 ≤ 17858 by omega), (show sl77_ + 83 ≤ 209465 by omega)⟩) hw hA [0, 1] [2] rfl (Lr := [mg_fI o q1 12 (upd (upd (upd (upd (upd (upd (upd (upd (upd (upd (upd (upd (fun _ => 0) 0 2) 1 3) 2 0) 3 11) 4 13) 5 7) 6 1) 7 8) 8 12) 9 13) 10 2) 11 9)]) rfl rfl (by decide) (fun β10 H locs hw => ?_)
          clear h9_
          have hw : mg_Vo D A s.heap H locs ([mg_fI o q1 12 (upd (upd (upd (upd (upd (upd (upd (upd (upd (upd (upd (upd (fun _ => 0) 0 2) 1 3) 2 0) 3 11) 4 13) 5 7) 6 1) 7 8) 8 12) 9 13) 10 2) 11 9), mg_fC g (o 53) (o 54) y9.1, mg_fS o u1 β10 y9.2]) := hw
          refine mg_if_ne (tgt := 145) hx hb h dL_build_140 (by decide) (fun h => ?_) (fun h => ?_)
          · refine lv_iload hx hb dL_build_145 (lv_at hl 4 rfl) ?_
            refine lv_bipush (v := 9) hx hb dL_build_147 (by decide) ?_
            refine mg_icmp_le (tgt := 177) hx hb h dL_build_149 (by decide) (fun h => ?_) (fun h => ?_)
            · refine lv_iinc (v := (x4_77 + 1)) (lv' := [(4, .int (x4_77 + 1)), (0, .ref (g 0)), (1, .ref b), (2, .ref u1), (3, .ref q1), (5, .int y5)]) hx hb dL_build_177 hl (k := 4) rfl rfl (by decide) rfl (fun ls hl => ?_)
              refine lv_goto (tgt := 77) hx hb dL_build_180 (by decide) ?_
              exact ih _ _ (by omega) (by omega) _ _ _ _ h kc _ H locs ls (mg_Vsub hw [1, 2, 0] rfl rfl) (lv_sub hl [1, 2, 3, 4, 0] rfl)
            · refine lv_iload hx hb dL_build_152 (lv_at hl 5 rfl) ?_
              refine lv_iconst (v := 5) hx hb dL_build_154 (by decide) ?_
              refine lv_ishr hx hb dL_build_155 ?_
              refine lv_iconst (v := 2) hx hb dL_build_156 (by decide) ?_
              obtain ⟨y11, h9_, h⟩ := mg_bind h
              refine mg_callV (va_runS (As := [.int (y5 >>> (5 &&& 31)), .int 2]) (rest := []) G9 (k_L_below l D o  H.size (y5 >>> (5 &&& 31)) 2 y11 h9_) (va_cwS 2 hts (goodIn_up gL_build_L_below) rfl rfl rfl (by decide +kernel) ⟨Nat.le_of_ble_eq_true rfl, Nat.le_of_ble_eq_true rfl⟩) (mg_preVv hK hO hA (mg_Vsub (L' := []) hw [] rfl rfl)) rfl rfl hl.1 rfl (lv_room (Nat.le_of_ble_eq_true rfl)) dL_build_157 ⟨(show cl77_ + 9 + 0 ≤ 17858 by omega), (show sl77_ + 83 + 0 ≤ 209465 by omega)⟩) hw hA [] [0, 1, 2] rfl (Lr := [mg_fI o q1 12 (upd (upd (upd (upd (upd (upd (upd (upd (upd (upd (upd (upd (fun _ => 0) 0 2) 1 3) 2 0) 3 11) 4 13) 5 7) 6 1) 7 8) 8 12) 9 13) 10 2) 11 9), mg_fC g (o 53) (o 54) y9.1, mg_fS o u1 β10 y9.2]) rfl rfl (by decide) (fun β12 H locs hw => ?_)
              clear h9_
              have hw : mg_Vo D A s.heap H locs ([mg_fI o q1 12 (upd (upd (upd (upd (upd (upd (upd (upd (upd (upd (upd (upd (fun _ => 0) 0 2) 1 3) 2 0) 3 11) 4 13) 5 7) 6 1) 7 8) 8 12) 9 13) 10 2) 11 9), mg_fC g (o 53) (o 54) y9.1, mg_fS o u1 β10 y9.2]) := hw
              refine mg_if_ne (tgt := 177) hx hb h dL_build_160 (by decide) (fun h => ?_) (fun h => ?_)
              · refine lv_iinc (v := (x4_77 + 1)) (lv' := [(4, .int (x4_77 + 1)), (0, .ref (g 0)), (1, .ref b), (2, .ref u1), (3, .ref q1), (5, .int y5)]) hx hb dL_build_177 hl (k := 4) rfl rfl (by decide) rfl (fun ls hl => ?_)
                refine lv_goto (tgt := 77) hx hb dL_build_180 (by decide) ?_
                exact ih _ _ (by omega) (by omega) _ _ _ _ h kc _ H locs ls (mg_Vsub hw [1, 2, 0] rfl rfl) (lv_sub hl [1, 2, 3, 4, 0] rfl)
              · refine lv_aload_n hx hb dL_build_163 rfl (lv_at hl 0 rfl) ?_
                refine lv_iconst (v := 1) hx hb dL_build_164 (by decide) ?_
                refine mg_vxq h (fun v : Int32 => some (.int v)) (fun mc9 ms9 o9 s9 hm9 h9 hc9 hs9 => vx_runV (As := [.int 1]) (rest := []) G9 (k_X6_pass l hst D o (o 53) (o 54) g H.size y9.1 1 o9 s9 h9 mc9 ms9 hm9) (cwV 1 hts (goodIn_up gL_build_X6_pass) rfl rfl rfl (by decide +kernel) ⟨Nat.le_of_ble_eq_true rfl, Nat.le_of_ble_eq_true rfl⟩) (mg_preV (hK.sub (tys' := [(o 53, .int), (o 54, .boolean)]) [0, 1] rfl) hO hA (mg_C_list hw 1 rfl) (q0 := 0) rfl rfl) rfl rfl hl.1 rfl (lv_room (Nat.le_of_ble_eq_true rfl)) dL_build_165 ⟨hc9, hs9⟩) hw hA 1 [0, 2] rfl (Lr := [mg_fI o q1 12 (upd (upd (upd (upd (upd (upd (upd (upd (upd (upd (upd (upd (fun _ => 0) 0 2) 1 3) 2 0) 3 11) 4 13) 5 7) 6 1) 7 8) 8 12) 9 13) 10 2) 11 9), mg_fS o u1 β10 y9.2]) rfl rfl (by decide) (show cl77_ + 9 ≤ 17858 by omega) (show sl77_ + 83 ≤ 209465 by omega) (fun v13 s14 h H locs hw => ?_)
                refine lv_aload_n hx hb dL_build_168 rfl (lv_at hl 2 rfl) ?_
                obtain ⟨y15, h9_, h⟩ := mg_bind h
                refine mg_callV (va_runV (As := []) (rest := [.int v13]) G9 (k_X7_pass l D o u1 β10 H.size y9.2 y15 h9_) (cwV 0 hts (goodIn_up gL_build_X7_pass) rfl rfl rfl (by decide +kernel) ⟨Nat.le_of_ble_eq_true rfl, Nat.le_of_ble_eq_true rfl⟩) (mg_preVV hK hO hA (mg_Vsub (L' := [mg_fS o u1 β10 y9.2]) hw [1] rfl rfl) 0 rfl mg_fS_00 rfl) rfl rfl hl.1 rfl (lv_room (Nat.le_of_ble_eq_true rfl)) dL_build_169 ⟨(show cl77_ + 9 + 386 ≤ 17858 by omega), (show sl77_ + 83 + 4565 ≤ 209465 by omega)⟩) hw hA [1] [0, 2] rfl (Lr := [mg_fI o q1 12 (upd (upd (upd (upd (upd (upd (upd (upd (upd (upd (upd (upd (fun _ => 0) 0 2) 1 3) 2 0) 3 11) 4 13) 5 7) 6 1) 7 8) 8 12) 9 13) 10 2) 11 9), mg_fC g (o 53) (o 54) s14]) rfl rfl (by decide) (fun β16 H locs hw => ?_)
                clear h9_
                have hw : mg_Vo D A s.heap H locs ([mg_fI o q1 12 (upd (upd (upd (upd (upd (upd (upd (upd (upd (upd (upd (upd (fun _ => 0) 0 2) 1 3) 2 0) 3 11) 4 13) 5 7) 6 1) 7 8) 8 12) 9 13) 10 2) 11 9), mg_fC g (o 53) (o 54) s14, mg_fS o u1 β10 y15.2]) := hw
                refine mg_icmp_eq (tgt := 177) hx hb h dL_build_172 (by decide) (fun h => ?_) (fun h => ?_)
                · refine lv_iinc (v := (x4_77 + 1)) (lv' := [(4, .int (x4_77 + 1)), (0, .ref (g 0)), (1, .ref b), (2, .ref u1), (3, .ref q1), (5, .int y5)]) hx hb dL_build_177 hl (k := 4) rfl rfl (by decide) rfl (fun ls hl => ?_)
                  refine lv_goto (tgt := 77) hx hb dL_build_180 (by decide) ?_
                  exact ih _ _ (by omega) (by omega) _ _ _ _ h kc _ H locs ls (mg_Vsub hw [1, 2, 0] rfl rfl) (lv_sub hl [1, 2, 3, 4, 0] rfl)
                · cases h
          · cases h
        clear h
        have h := h9_
        clear h9_
        refine mg_icmp_ge (tgt := 133) hx hb h dL_build_113 (by decide) (fun h => ?_) (fun h => ?_)
        · cases h
          exact J113_ H locs ls hw (lv_sub hl [1, 2, 3, 4, 5, 0] rfl)
        · refine lv_iload hx hb dL_build_116 (lv_at hl 0 rfl) ?_
          refine lv_ldc (v := 100000) hx hb hown w1_ dL_build_118 ?_
          obtain ⟨y6, h9_, h⟩ := mg_bind h
          refine mg_callV (va_runS (As := [.int ((y3 >>> (((x4_77 / 16) * 5) &&& 31)) + (61 * x4_77)), .int 100000]) (rest := []) G9 (k_L_below l D o  H.size ((y3 >>> (((x4_77 / 16) * 5) &&& 31)) + (61 * x4_77)) 100000 y6 h9_) (va_cwS 2 hts (goodIn_up gL_build_L_below) rfl rfl rfl (by decide +kernel) ⟨Nat.le_of_ble_eq_true rfl, Nat.le_of_ble_eq_true rfl⟩) (mg_preVv hK hO hA (mg_Vsub (L' := []) hw [] rfl rfl)) rfl rfl hl.1 rfl (lv_room (Nat.le_of_ble_eq_true rfl)) dL_build_120 ⟨(show cl77_ + 0 ≤ 17858 by omega), (show sl77_ + 0 ≤ 209465 by omega)⟩) hw hA [] [0, 1, 2] rfl (Lr := [mg_fC g (o 53) (o 54) cC_77, mg_fS o u1 α77_ cS_77, mg_fI o q1 12 (upd (upd (upd (upd (upd (upd (upd (upd (upd (upd (upd (upd (fun _ => 0) 0 2) 1 3) 2 0) 3 11) 4 13) 5 7) 6 1) 7 8) 8 12) 9 13) 10 2) 11 9)]) rfl rfl (by decide) (fun β7 H locs hw => ?_)
          clear h9_
          have hw : mg_Vo D A s.heap H locs ([mg_fC g (o 53) (o 54) cC_77, mg_fS o u1 α77_ cS_77, mg_fI o q1 12 (upd (upd (upd (upd (upd (upd (upd (upd (upd (upd (upd (upd (fun _ => 0) 0 2) 1 3) 2 0) 3 11) 4 13) 5 7) 6 1) 7 8) 8 12) 9 13) 10 2) 11 9)]) := hw
          refine lv_bipush (v := 15) hx hb dL_build_123 (by decide) ?_
          refine lv_imul hx hb dL_build_125 ?_
          refine lv_aload_n hx hb dL_build_126 rfl (lv_at hl 4 rfl) ?_
          refine lv_iload hx hb dL_build_127 (lv_at hl 5 rfl) ?_
          refine mg_ialx hx hb hK hw 2 rfl mg_fI_0 h dL_build_129 (fun j8 hj8_ h => ?_)
          refine lv_iadd hx hb dL_build_130 ?_
          refine lv_istore (lv' := [(5, .int ((y6 * 15) + ((upd (upd (upd (upd (upd (upd (upd (upd (upd (upd (upd (upd (fun _ => 0) 0 2) 1 3) 2 0) 3 11) 4 13) 5 7) 6 1) 7 8) 8 12) 9 13) 10 2) 11 9) j8))), (0, .ref (g 0)), (1, .ref b), (2, .ref u1), (3, .ref q1), (4, .int x4_77)]) hx hb dL_build_131 hl (by decide) rfl (fun ls hl => ?_)
          cases h
          exact J113_ H locs ls hw (lv_sub hl [1, 2, 3, 4, 5, 0] rfl)
  obtain ⟨y2, h9_, h⟩ := mg_bind h
  refine L77_ 45 83 305 (Nat.le_refl 17858) (Nat.le_refl 209465) _ _ _ _ h9_ (fun α_ H locs ls hw hl => ?_) _ H locs ls hw (lv_sub hl [3, 4, 2, 1, 0] rfl)
  clear L77_ h9_
  refine lv_aload_n hx hb dL_build_183 rfl (lv_at hl 0 rfl) ?_
  cases h
  exact mg_eR (L1 := (fun β => [mg_fC g (o 53) (o 54) y2.2.1, mg_fS o (β 9 0) β y2.2.2])) (mg_b9 u1 α_) rfl hx hb hr (Or.inl ⟨_, rfl⟩) hlocks (by have e := mg_fS_b9 (o := o) (u := u1) (α := α_) (ζ := y2.2.2); exact mg_Vtail (L := [mg_fC g (o 53) (o 54) y2.2.1]) e (mg_Vsub hw [0, 1] rfl rfl)) (show 17858 ≤ 17858 by omega) (show 209465 ≤ 209465 by omega) dL_build_184
