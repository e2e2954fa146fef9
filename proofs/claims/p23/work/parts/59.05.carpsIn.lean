set_option maxHeartbeats 8000000 in
set_option maxRecDepth 100000 in
theorem k_X7_carpsIn (l : Launch) (D : va_G) (o : Nat → Nat) (u : Nat) (α : Nat → Nat → Nat) (q0 : Nat) (r0 : Nat → Nat) (sz : Nat) (ζ : mg_Sz) (μ : Nat → Nat → Int32) (y : Int32) (h : f_X7_carpsIn ζ μ = some y) : mg_CV l yX7_carpsIn wsX7_carpsIn ({ frames := 0, cells := 0, slots := 0, locals := 0 } : Room) D o [mg_fS o u α ζ, mg_fM o q0 r0 μ] sz [.ref u, .ref q0] (fun _ => some (.int y)) (fun _ => [mg_fS o u α ζ, mg_fM o q0 r0 μ]) 0 0 := by
  unfold mg_CV
  refine Met.ofW (cc := cX7_carpsIn) (maxL := 7) (ret := (some .int)) (by decide) rfl ?_
  intro p e s m args below meth c s₁ B hml hv
  obtain ⟨rfl, hsz, hP, hK, hD0, hO⟩ := hv
  have hx := B.exec
  have hb := B.bytes
  have hr := B.returns
  have hts := atoms_spec (ws := wsX7_carpsIn) B.pre
  have hown : s.vm.findClass RX7 = some m.cls := findClass_of_methodNamed B.named
  have hlocks := B.notSynchronized
  subst hsz
  have hD := hD0.self (sz := s.heap.size)
  generalize hAe : mg_VA [mg_fS o u α ζ, mg_fM o q0 r0 μ] s.heap.size = A at hD hO ⊢
  have hA : ∀ q : Nat, s.heap.size ≤ q → A q := fun q h => by rw [← hAe]; exact Or.inr h
  have hw : mg_Vo D A s.heap s.heap [] ([mg_fS o u α ζ, mg_fM o q0 r0 μ]) := ⟨hP, hD, va_S.rf⟩
  have G9 : CallFix p m c cX7_carpsIn 7 s ([.ref u, .ref q0] : List Value).toArray wsX7_carpsIn RX7 := ⟨hx, hb, hml, hown, hts⟩
  clear hP hD hD0 hAe
  have w0_ := hts (.fieldLink RX7 20 "MoonGateLaw$Sim" "carps" "[[I") (by decide +kernel)
  have iX7_ : ∀ w ∈ wsX70, w ∈ wsX7_carpsIn := (fun _ h => List.mem_cons_of_mem _ (List.mem_append_right _ h))
  have hl := lv_entry ([.ref u, .ref q0]) (n := 7) (Nat.le_of_ble_eq_true rfl)
  rw [lg_entry_eq]
  generalize (lg_sl ([.ref u, .ref q0]) ++ List.replicate (7 - (lg_sl ([.ref u, .ref q0])).length) Slot.unset).toArray = ls at hl ⊢
  have hl : lv_has ls 7 [(0, .ref u), (1, .ref q0)] := hl
  unfold f_X7_carpsIn at h
  suffices K_ : ∀ (H : Heap) (locs : List Loc), mg_Vo D A s.heap H locs ([mg_fS o u α ζ, mg_fM o q0 r0 μ]) → W p l e (headSpec wsX7_carpsIn ({ frames := 0, cells := 0, slots := 0, locals := 0 } : Room)).room s m ([.ref u, .ref q0] : List Value).toArray below meth c H locs 0 0 (MQ below (mg_QV D (fun _ => [mg_fS o u α ζ, mg_fM o q0 r0 μ]) A (fun _ => some (.int y))) ([.ref u, .ref q0] : List Value).toArray s 0 0 A) (F0 m 0 ls []) from K_ _ _ hw
  clear hw
  intro H locs hw
  refine lv_iconst (v := 0) hx hb dX7_carpsIn_0 (by decide) ?_
  refine lv_istore_n (lv' := [(2, .int 0), (0, .ref u), (1, .ref q0)]) hx hb dX7_carpsIn_1 rfl hl (by decide) rfl (fun ls hl => ?_)
  refine lv_aload_n hx hb dX7_carpsIn_2 rfl (lv_at hl 1 rfl) ?_
  refine va_get (D := D) (ci := 7) (v := .ref (α 0 2)) (C := RX7) (T := TX7) (N := 6) hx hb hts iX7_ hown hK (mg_at1 hw.1 0 rfl mg_fS_00) 0 rfl rfl 3 (by decide) w0_ (fun _ h9 => h9) rfl dX7_carpsIn_3 ?_
  refine lv_astore_n (lv' := [(3, .ref (α 0 2)), (2, .int 0), (0, .ref u), (1, .ref q0)]) hx hb dX7_carpsIn_6 rfl hl (by decide) rfl (fun ls hl => ?_)
  refine lv_aload_n hx hb dX7_carpsIn_7 rfl (lv_at hl 0 rfl) ?_
  refine mg_alenq hx hb hK hw 0 2 rfl mg_fS_02 rfl dX7_carpsIn_8 ?_
  refine lv_istore (lv' := [(4, .int (nI (ζ.2 0))), (3, .ref (α 0 2)), (2, .int 0), (0, .ref u), (1, .ref q0)]) hx hb dX7_carpsIn_9 hl (by decide) rfl (fun ls hl => ?_)
  refine lv_iconst (v := 0) hx hb dX7_carpsIn_11 (by decide) ?_
  refine lv_istore (lv' := [(5, .int 0), (4, .int (nI (ζ.2 0))), (3, .ref (α 0 2)), (2, .int 0), (0, .ref u), (1, .ref q0)]) hx hb dX7_carpsIn_12 hl (by decide) rfl (fun ls hl => ?_)
  have L14_ : ∀ (n : Nat), ∀ (x2_14 : Int32) (x5_14 : Int32) (y14_ : Int32 × Int32), f_X7_carpsIn_14 (nI (ζ.2 0)) ζ μ n x2_14 x5_14 = some y14_ → (∀ (H : Heap) (locs : List Loc) (ls : Array Slot), mg_Vo D A s.heap H locs ([mg_fS o u α ζ, mg_fM o q0 r0 μ]) → lv_has ls 7 [(2, .int y14_.1)] → W p l e (headSpec wsX7_carpsIn ({ frames := 0, cells := 0, slots := 0, locals := 0 } : Room)).room s m ([.ref u, .ref q0] : List Value).toArray below meth c H locs 0 0 (MQ below (mg_QV D (fun _ => [mg_fS o u α ζ, mg_fM o q0 r0 μ]) A (fun _ => some (.int y))) ([.ref u, .ref q0] : List Value).toArray s 0 0 A) (F0 m 62 ls [])) → ∀ (H : Heap) (locs : List Loc) (ls : Array Slot), mg_Vo D A s.heap H locs ([mg_fS o u α ζ, mg_fM o q0 r0 μ]) → lv_has ls 7 [(1, .ref q0), (2, .int x2_14), (3, .ref (α 0 2)), (4, .int (nI (ζ.2 0))), (5, .int x5_14)] → W p l e (headSpec wsX7_carpsIn ({ frames := 0, cells := 0, slots := 0, locals := 0 } : Room)).room s m ([.ref u, .ref q0] : List Value).toArray below meth c H locs 0 0 (MQ below (mg_QV D (fun _ => [mg_fS o u α ζ, mg_fM o q0 r0 μ]) A (fun _ => some (.int y))) ([.ref u, .ref q0] : List Value).toArray s 0 0 A) (F0 m 14 ls []) := by
    intro n
    induction n with
    | zero => intro x2_14 x5_14 y14_ h; rw [f_X7_carpsIn_14] at h; cases h
    | succ n ih =>
      intro x2_14 x5_14 y14_ h kc H locs ls hw hl
      rw [f_X7_carpsIn_14] at h
      refine lv_iload hx hb dX7_carpsIn_14 (lv_at hl 4 rfl) ?_
      refine lv_iload hx hb dX7_carpsIn_16 (lv_at hl 3 rfl) ?_
      refine mg_icmp_ge (tgt := 62) hx hb h dX7_carpsIn_18 (by decide) (fun h => ?_) (fun h => ?_)
      · cases h
        exact kc H locs ls hw (lv_sub hl [1] rfl)
      · refine lv_aload_n hx hb dX7_carpsIn_21 rfl (lv_at hl 2 rfl) ?_
        refine lv_iload hx hb dX7_carpsIn_22 (lv_at hl 4 rfl) ?_
        refine mg_aal hx hb hK hw 0 2 rfl mg_fS_02 rfl rfl h dX7_carpsIn_24 (fun j2 hj2_ h => ?_)
        refine lv_astore (lv' := [(6, .ref (α 3 j2)), (1, .ref q0), (2, .int x2_14), (3, .ref (α 0 2)), (4, .int (nI (ζ.2 0))), (5, .int x5_14)]) hx hb dX7_carpsIn_25 hl (by decide) rfl (fun ls hl => ?_)
        refine lv_iload_n hx hb dX7_carpsIn_27 rfl (lv_at hl 2 rfl) ?_
        refine lv_aload hx hb dX7_carpsIn_28 (lv_at hl 0 rfl) ?_
        refine lv_iconst (v := 3) hx hb dX7_carpsIn_30 (by decide) ?_
        refine mg_ial (x := 3) hx hb hK hw 0 rfl (mg_fS_3 hj2_) (by unfold vp_in; decide) (by decide) dX7_carpsIn_31 ?_
        refine mg_if_ne (tgt := 53) hx hb h dX7_carpsIn_32 (by decide) (fun h => ?_) (fun h => ?_)
        · refine lv_iconst (v := 0) hx hb dX7_carpsIn_53 (by decide) ?_
          refine lv_iadd hx hb dX7_carpsIn_54 ?_
          refine lv_istore_n (lv' := [(2, .int (x2_14 + 0)), (6, .ref (α 3 j2)), (1, .ref q0), (3, .ref (α 0 2)), (4, .int (nI (ζ.2 0))), (5, .int x5_14)]) hx hb dX7_carpsIn_55 rfl hl (by decide) rfl (fun ls hl => ?_)
          refine lv_iinc (v := (x5_14 + 1)) (lv' := [(5, .int (x5_14 + 1)), (2, .int (x2_14 + 0)), (6, .ref (α 3 j2)), (1, .ref q0), (3, .ref (α 0 2)), (4, .int (nI (ζ.2 0)))]) hx hb dX7_carpsIn_56 hl (k := 5) rfl rfl (by decide) rfl (fun ls hl => ?_)
          refine lv_goto (tgt := 14) hx hb dX7_carpsIn_59 (by decide) ?_
          exact ih _ _ _ h kc H locs ls hw (lv_sub hl [3, 1, 4, 5, 0] rfl)
        · refine lv_aload_n hx hb dX7_carpsIn_35 rfl (lv_at hl 1 rfl) ?_
          refine lv_aload hx hb dX7_carpsIn_36 (lv_at hl 0 rfl) ?_
          refine lv_iconst (v := 1) hx hb dX7_carpsIn_38 (by decide) ?_
          refine mg_ial (x := 1) hx hb hK hw 0 rfl (mg_fS_3 hj2_) (by unfold vp_in; decide) (by decide) dX7_carpsIn_39 ?_
          refine mg_aal hx hb hK hw 1 4 rfl mg_fM_0 rfl rfl h dX7_carpsIn_40 (fun j3 hj3_ h => ?_)
          refine lv_aload hx hb dX7_carpsIn_41 (lv_at hl 0 rfl) ?_
          refine lv_iconst (v := 0) hx hb dX7_carpsIn_43 (by decide) ?_
          refine mg_ial (x := 0) hx hb hK hw 0 rfl (mg_fS_3 hj2_) (by unfold vp_in; decide) (by decide) dX7_carpsIn_44 ?_
          refine mg_zalx hx hb hK hw 1 rfl (mg_fM_1 hj3_) h dX7_carpsIn_45 (fun j4 hj4_ h => ?_)
          refine mg_if_eq (tgt := 53) hx hb h dX7_carpsIn_46 (by decide) (fun h => ?_) (fun h => ?_)
          · refine lv_iconst (v := 0) hx hb dX7_carpsIn_53 (by decide) ?_
            refine lv_iadd hx hb dX7_carpsIn_54 ?_
            refine lv_istore_n (lv' := [(2, .int (x2_14 + 0)), (6, .ref (α 3 j2)), (1, .ref q0), (3, .ref (α 0 2)), (4, .int (nI (ζ.2 0))), (5, .int x5_14)]) hx hb dX7_carpsIn_55 rfl hl (by decide) rfl (fun ls hl => ?_)
            refine lv_iinc (v := (x5_14 + 1)) (lv' := [(5, .int (x5_14 + 1)), (2, .int (x2_14 + 0)), (6, .ref (α 3 j2)), (1, .ref q0), (3, .ref (α 0 2)), (4, .int (nI (ζ.2 0)))]) hx hb dX7_carpsIn_56 hl (k := 5) rfl rfl (by decide) rfl (fun ls hl => ?_)
            refine lv_goto (tgt := 14) hx hb dX7_carpsIn_59 (by decide) ?_
            exact ih _ _ _ h kc H locs ls hw (lv_sub hl [3, 1, 4, 5, 0] rfl)
          · refine lv_iconst (v := 1) hx hb dX7_carpsIn_49 (by decide) ?_
            refine lv_goto (tgt := 54) hx hb dX7_carpsIn_50 (by decide) ?_
            refine lv_iadd hx hb dX7_carpsIn_54 ?_
            refine lv_istore_n (lv' := [(2, .int (x2_14 + 1)), (6, .ref (α 3 j2)), (1, .ref q0), (3, .ref (α 0 2)), (4, .int (nI (ζ.2 0))), (5, .int x5_14)]) hx hb dX7_carpsIn_55 rfl hl (by decide) rfl (fun ls hl => ?_)
            refine lv_iinc (v := (x5_14 + 1)) (lv' := [(5, .int (x5_14 + 1)), (2, .int (x2_14 + 1)), (6, .ref (α 3 j2)), (1, .ref q0), (3, .ref (α 0 2)), (4, .int (nI (ζ.2 0)))]) hx hb dX7_carpsIn_56 hl (k := 5) rfl rfl (by decide) rfl (fun ls hl => ?_)
            refine lv_goto (tgt := 14) hx hb dX7_carpsIn_59 (by decide) ?_
            exact ih _ _ _ h kc H locs ls hw (lv_sub hl [3, 1, 4, 5, 0] rfl)
  obtain ⟨y1, h9_, h⟩ := mg_bind h
  refine L14_ _ _ _ _ h9_ (fun H locs ls hw hl => ?_) H locs ls hw (lv_sub hl [5, 3, 2, 1, 0] rfl)
  clear L14_ h9_
  refine lv_iload_n hx hb dX7_carpsIn_62 rfl (lv_at hl 0 rfl) ?_
  cases h
  exact mg_eIV (fun _ _ => 0) rfl hx hb hr hlocks hw (show 0 ≤ 0 by omega) (show 0 ≤ 0 by omega) dX7_carpsIn_63
