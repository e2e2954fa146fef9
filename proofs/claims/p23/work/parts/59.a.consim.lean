set_option maxHeartbeats 8000000 in
set_option maxRecDepth 100000 in
theorem k_L_below (l : Launch) (D : va_G) (o : Nat → Nat)  (sz : Nat) (x0 : Int32) (x1 : Int32) (y : Int32) (h : f_L_below x0 x1 = some y) : mg_CV l yL_below wsL_below ({ frames := 0, cells := 0, slots := 0, locals := 0 } : Room) D o [] sz [.int x0, .int x1] (fun _ => some (.int y)) (fun _ => []) 0 0 := by
  unfold mg_CV
  refine Met.ofW (cc := cL_below) (maxL := 2) (ret := (some .int)) (by decide) rfl ?_
  intro p e s m args below meth c s₁ B hml hv
  obtain ⟨rfl, hsz, hP, hK, hD0, hO⟩ := hv
  have hx := B.exec
  have hb := B.bytes
  have hr := B.returns
  have hts := atoms_spec (ws := wsL_below) B.pre
  have hown : s.vm.findClass RL = some m.cls := findClass_of_methodNamed B.named
  have hlocks := B.notSynchronized
  subst hsz
  have hD := hD0.self (sz := s.heap.size)
  generalize hAe : mg_VA [] s.heap.size = A at hD hO ⊢
  have hA : ∀ q : Nat, s.heap.size ≤ q → A q := fun q h => by rw [← hAe]; exact Or.inr h
  have hw : mg_Vo D A s.heap s.heap [] ([]) := ⟨hP, hD, va_S.rf⟩
  have G9 : CallFix p m c cL_below 2 s ([.int x0, .int x1] : List Value).toArray wsL_below RL := ⟨hx, hb, hml, hown, hts⟩
  clear hP hD hD0 hAe
  have w0_ := hts (.constant RL 7 (2147483647)) (by decide +kernel)
  have hl := lv_entry ([.int x0, .int x1]) (n := 2) (Nat.le_of_ble_eq_true rfl)
  rw [lg_entry_eq]
  generalize (lg_sl ([.int x0, .int x1]) ++ List.replicate (2 - (lg_sl ([.int x0, .int x1])).length) Slot.unset).toArray = ls at hl ⊢
  have hl : lv_has ls 2 [(0, .int x0), (1, .int x1)] := hl
  unfold f_L_below at h
  suffices K_ : ∀ (H : Heap) (locs : List Loc), mg_Vo D A s.heap H locs ([]) → W p l e (headSpec wsL_below ({ frames := 0, cells := 0, slots := 0, locals := 0 } : Room)).room s m ([.int x0, .int x1] : List Value).toArray below meth c H locs 0 0 (MQ below (mg_QV D (fun _ => []) A (fun _ => some (.int y))) ([.int x0, .int x1] : List Value).toArray s 0 0 A) (F0 m 0 ls []) from K_ _ _ hw
  clear hw
  intro H locs hw
  refine lv_iload_n hx hb dL_below_0 rfl (lv_at hl 0 rfl) ?_
  refine lv_ldc (v := 2147483647) hx hb hown w0_ dL_below_1 ?_
  refine lv_iand hx hb dL_below_3 ?_
  refine lv_iload_n hx hb dL_below_4 rfl (lv_at hl 1 rfl) ?_
  obtain ⟨y9_, h9_, h⟩ := mg_bind h
  have h9_ := mg_gd_of h9_
  clear y9_
  refine lv_irem hx hb dL_below_5 h9_ ?_
  clear h9_
  cases h
  exact mg_eIV (fun _ _ => 0) rfl hx hb hr hlocks hw (show 0 ≤ 0 by omega) (show 0 ≤ 0 by omega) dL_below_6
set_option maxHeartbeats 8000000 in
set_option maxRecDepth 100000 in
theorem k_L_cell (l : Launch) (D : va_G) (o : Nat → Nat)  (b : Nat) (sz : Nat) (xs : Nat → Int32) (Ln : Nat) (x1 : Int32) (y : Int32) (h : f_L_cell xs Ln x1 = some y) : mg_CVX l yL_cell wsL_cell ({ frames := 0, cells := 0, slots := 0, locals := 0 } : Room) D o [] sz b Ln xs [.ref b, .int x1] (fun _ => some (.int y)) (fun _ => []) 0 0 := by
  unfold mg_CVX
  refine Met.ofW (cc := cL_cell) (maxL := 2) (ret := (some .int)) (by decide) rfl ?_
  intro p e s m args below meth c s₁ B hml hv
  obtain ⟨rfl, ⟨hsz, hP, hK, hD0, hO⟩, hX, hbl0, hbA⟩ := hv
  have hx := B.exec
  have hb := B.bytes
  have hr := B.returns
  have hts := atoms_spec (ws := wsL_cell) B.pre
  have hown : s.vm.findClass RL = some m.cls := findClass_of_methodNamed B.named
  have hlocks := B.notSynchronized
  subst hsz
  have hD := hD0.self (sz := s.heap.size)
  have hbl : b < s.heap.size := hbl0
  generalize hAe : mg_VA [] s.heap.size = A at hD hO hbA ⊢
  have hA : ∀ q : Nat, s.heap.size ≤ q → A q := fun q h => by rw [← hAe]; exact Or.inr h
  have hw : mg_Vo D A s.heap s.heap [] ([]) := ⟨hP, hD, va_S.rf⟩
  have G9 : CallFix p m c cL_cell 2 s ([.ref b, .int x1] : List Value).toArray wsL_cell RL := ⟨hx, hb, hml, hown, hts⟩
  clear hP hD hD0 hAe
  have w0_ := hts (.constant RL 8 (790386105)) (by decide +kernel)
  have hl := lv_entry ([.ref b, .int x1]) (n := 2) (Nat.le_of_ble_eq_true rfl)
  rw [lg_entry_eq]
  generalize (lg_sl ([.ref b, .int x1]) ++ List.replicate (2 - (lg_sl ([.ref b, .int x1])).length) Slot.unset).toArray = ls at hl ⊢
  have hl : lv_has ls 2 [(0, .ref b), (1, .int x1)] := hl
  unfold f_L_cell at h
  suffices K_ : ∀ (H : Heap) (locs : List Loc), mg_Vo D A s.heap H locs ([]) → W p l e (headSpec wsL_cell ({ frames := 0, cells := 0, slots := 0, locals := 0 } : Room)).room s m ([.ref b, .int x1] : List Value).toArray below meth c H locs 0 0 (MQ below (mg_QV D (fun _ => []) A (fun _ => some (.int y))) ([.ref b, .int x1] : List Value).toArray s 0 0 A) (F0 m 0 ls []) from K_ _ _ hw
  clear hw
  intro H locs hw
  refine lv_iload_n hx hb dL_cell_0 rfl (lv_at hl 1 rfl) ?_
  refine lv_aload_n hx hb dL_cell_1 rfl (lv_at hl 0 rfl) ?_
  refine va_slen hx hb hX hbl hbA hw.2.2 dL_cell_2 ?_
  refine mg_icmp_ge (tgt := 12) hx hb h dL_cell_3 (by decide) (fun h => ?_) (fun h => ?_)
  · refine lv_ldc (v := 790386105) hx hb hown w0_ dL_cell_12 ?_
    refine lv_iload_n hx hb dL_cell_14 rfl (lv_at hl 1 rfl) ?_
    refine lv_iconst (v := 3) hx hb dL_cell_15 (by decide) ?_
    refine lv_iadd hx hb dL_cell_16 ?_
    refine lv_imul hx hb dL_cell_17 ?_
    cases h
    exact mg_eIV (fun _ _ => 0) rfl hx hb hr hlocks hw (show 0 ≤ 0 by omega) (show 0 ≤ 0 by omega) dL_cell_18
  · refine lv_aload_n hx hb dL_cell_6 rfl (lv_at hl 0 rfl) ?_
    refine lv_iload_n hx hb dL_cell_7 rfl (lv_at hl 1 rfl) ?_
    refine mg_sldx hx hb hX hbl hbA hw.2.2 h dL_cell_8 (fun v1 h => ?_)
    refine lv_goto (tgt := 18) hx hb dL_cell_9 (by decide) ?_
    cases h
    exact mg_eIV (fun _ _ => 0) rfl hx hb hr hlocks hw (show 0 ≤ 0 by omega) (show 0 ≤ 0 by omega) dL_cell_18
set_option maxHeartbeats 8000000 in
set_option maxRecDepth 100000 in
theorem k_X7_pond (l : Launch) (D : va_G) (o : Nat → Nat) (u : Nat) (α : Nat → Nat → Nat) (sz : Nat) (ζ : mg_Sz) (x1 : Int32) (x2 : Int32) (y : Nat → Nat → Int32) (h : f_X7_pond ζ x1 x2 = some y) : mg_CV l yX7_pond wsX7_pond ({ frames := 0, cells := 8, slots := 77, locals := 0 } : Room) D o [mg_fS o u α ζ] sz [.ref u, .int x1, .int x2] (fun β => some (.ref (β 0 0))) (fun β => [mg_fS o u α ζ, mg_fM o (β 0 0) (β 1) y]) 8 77 := by
  unfold mg_CV
  refine Met.ofW (cc := cX7_pond) (maxL := 8) (ret := (some (.array (.array .boolean)))) (by decide) rfl ?_
  intro p e s m args below meth c s₁ B hml hv
  obtain ⟨rfl, hsz, hP, hK, hD0, hO⟩ := hv
  have hx := B.exec
  have hb := B.bytes
  have hr := B.returns
  have hts := atoms_spec (ws := wsX7_pond) B.pre
  have hown : s.vm.findClass RX7 = some m.cls := findClass_of_methodNamed B.named
  have hlocks := B.notSynchronized
  subst hsz
  have hD := hD0.self (sz := s.heap.size)
  generalize hAe : mg_VA [mg_fS o u α ζ] s.heap.size = A at hD hO ⊢
  have hA : ∀ q : Nat, s.heap.size ≤ q → A q := fun q h => by rw [← hAe]; exact Or.inr h
  have hw : mg_Vo D A s.heap s.heap [] ([mg_fS o u α ζ]) := ⟨hP, hD, va_S.rf⟩
  have G9 : CallFix p m c cX7_pond 8 s ([.ref u, .int x1, .int x2] : List Value).toArray wsX7_pond RX7 := ⟨hx, hb, hml, hown, hts⟩
  clear hP hD hD0 hAe
  have w0_ := hts (.fieldLink RX7 15 "MoonGateLaw$Sim" "cells" "[[[I") (by decide +kernel)
  have iX7_ : ∀ w ∈ wsX70, w ∈ wsX7_pond := (fun _ h => List.mem_cons_of_mem _ (List.mem_append_right _ h))
  have w2_ := hts (.classLink RX7 34 "[[Z") (by decide +kernel)
  have hl := lv_entry ([.ref u, .int x1, .int x2]) (n := 8) (Nat.le_of_ble_eq_true rfl)
  rw [lg_entry_eq]
  generalize (lg_sl ([.ref u, .int x1, .int x2]) ++ List.replicate (8 - (lg_sl ([.ref u, .int x1, .int x2])).length) Slot.unset).toArray = ls at hl ⊢
  have hl : lv_has ls 8 [(0, .ref u), (1, .int x1), (2, .int x2)] := hl
  unfold f_X7_pond at h
  suffices K_ : ∀ (H : Heap) (locs : List Loc), mg_Vo D A s.heap H locs ([mg_fS o u α ζ]) → W p l e (headSpec wsX7_pond ({ frames := 0, cells := 8, slots := 77, locals := 0 } : Room)).room s m ([.ref u, .int x1, .int x2] : List Value).toArray below meth c H locs 0 0 (MQ below (mg_QV D (fun β => [mg_fS o u α ζ, mg_fM o (β 0 0) (β 1) y]) A (fun β => some (.ref (β 0 0)))) ([.ref u, .int x1, .int x2] : List Value).toArray s 8 77 A) (F0 m 0 ls []) from K_ _ _ hw
  clear hw
  intro H locs hw
  refine lv_bipush (v := 7) hx hb dX7_pond_0 (by decide) ?_
  refine lv_bipush (v := 10) hx hb dX7_pond_2 (by decide) ?_
  refine mg_mna2 hx hb hown w2_ (hO.2.2.2.2.2.2.2.2.2.2.2.2.2.2.2.2.2.2.2.2.1) hw hA (show 0 + 8 ≤ 8 by omega) (show 0 + 77 ≤ 77 by omega) dX7_pond_4 (fun q1 r2 H hw => ?_)
  refine lv_astore_n (lv' := [(3, .ref q1), (0, .ref u), (1, .int x1), (2, .int x2)]) hx hb dX7_pond_8 rfl hl (by decide) rfl (fun ls hl => ?_)
  refine lv_aload_n hx hb dX7_pond_9 rfl (lv_at hl 0 rfl) ?_
  refine lv_iload_n hx hb dX7_pond_10 rfl (lv_at hl 3 rfl) ?_
  refine mg_aal hx hb hK hw 1 4 rfl mg_fM_0 rfl rfl h dX7_pond_11 (fun j3 hj3_ h => ?_)
  refine lv_iload_n hx hb dX7_pond_12 rfl (lv_at hl 2 rfl) ?_
  refine lv_aload_n hx hb dX7_pond_13 rfl (lv_at hl 1 rfl) ?_
  refine va_get (D := D) (ci := 7) (v := .ref (α 0 1)) (C := RX7) (T := TX7) (N := 6) hx hb hts iX7_ hown hK (mg_at1 hw.1 0 rfl mg_fS_00) 0 rfl rfl 2 (by decide) w0_ (fun _ h9 => h9) rfl dX7_pond_14 ?_
  refine lv_iload_n hx hb dX7_pond_17 rfl (lv_at hl 3 rfl) ?_
  refine mg_aal hx hb hK hw 0 3 rfl mg_fS_01 rfl rfl h dX7_pond_18 (fun j4 hj4_ h => ?_)
  refine lv_iload_n hx hb dX7_pond_19 rfl (lv_at hl 2 rfl) ?_
  refine mg_aal hx hb hK hw 0 2 rfl (mg_fS_1 hj4_) rfl rfl h dX7_pond_20 (fun j5 hj5_ h => ?_)
  refine lv_iconst (v := 0) hx hb dX7_pond_21 (by decide) ?_
  refine mg_ial (x := 0) hx hb hK hw 0 rfl (mg_fS_2 hj4_ hj5_) (by unfold vp_in; decide) (by decide) dX7_pond_22 ?_
  refine lv_iconst (v := 2) hx hb dX7_pond_23 (by decide) ?_
  obtain ⟨y6, h9_, h⟩ := mg_bind h
  have J24_ : ∀ (H : Heap) (locs : List Loc) (ls : Array Slot), mg_Vo D A s.heap H locs ([mg_fS o u α ζ, mg_fM o q1 r2 (fun _ _ => 0)]) → lv_has ls 8 [(0, .ref u), (1, .int x1), (2, .int x2), (3, .ref q1)] → W p l e (headSpec wsX7_pond ({ frames := 0, cells := 8, slots := 77, locals := 0 } : Room)).room s m ([.ref u, .int x1, .int x2] : List Value).toArray below meth c H locs 8 77 (MQ below (mg_QV D (fun β => [mg_fS o u α ζ, mg_fM o (β 0 0) (β 1) y]) A (fun β => some (.ref (β 0 0)))) ([.ref u, .int x1, .int x2] : List Value).toArray s 8 77 A) (F0 m 32 ls [.int y6, .int x1, .ref (r2 j3)]) := by
    intro H locs ls hw hl
    clear h9_
    refine mg_zasd (F' := fun x9_ => mg_fM o q1 r2 (mg_mu (fun _ _ => 0) j3 x9_ (vp_nar .boolean y6))) hx hb hK hw 1 rfl (mg_fM_1 hj3_) (fun _ => (mg_sM hj3_)) h dX7_pond_32 (fun j7 hj7_ h H locs hw => ?_)
    refine lv_aload_n hx hb dX7_pond_33 rfl (lv_at hl 3 rfl) ?_
    refine lv_iload_n hx hb dX7_pond_34 rfl (lv_at hl 2 rfl) ?_
    refine mg_aal hx hb hK hw 1 4 rfl mg_fM_0 rfl rfl h dX7_pond_35 (fun j8 hj8_ h => ?_)
    refine lv_iload_n hx hb dX7_pond_36 rfl (lv_at hl 1 rfl) ?_
    refine mg_zalx hx hb hK hw 1 rfl (mg_fM_1 hj8_) h dX7_pond_37 (fun j9 hj9_ h => ?_)
    refine lv_istore (lv' := [(4, .int (((mg_mu (fun _ _ => 0) j3 j7 (vp_nar .boolean y6)) j8) j9)), (0, .ref u), (1, .int x1), (2, .int x2), (3, .ref q1)]) hx hb dX7_pond_38 hl (by decide) rfl (fun ls hl => ?_)
    have L40_ : ∀ (n : Nat), ∀ (x4_40 : Int32) (cM4_40 : Nat → Nat → Int32) (y40_ : Int32 × (Nat → Nat → Int32)), f_X7_pond_40 ζ n x4_40 cM4_40 = some y40_ → (∀ (H : Heap) (locs : List Loc) (ls : Array Slot), mg_Vo D A s.heap H locs ([mg_fS o u α ζ, mg_fM o q1 r2 y40_.2]) → lv_has ls 8 [(3, .ref q1)] → W p l e (headSpec wsX7_pond ({ frames := 0, cells := 8, slots := 77, locals := 0 } : Room)).room s m ([.ref u, .int x1, .int x2] : List Value).toArray below meth c H locs 8 77 (MQ below (mg_QV D (fun β => [mg_fS o u α ζ, mg_fM o (β 0 0) (β 1) y]) A (fun β => some (.ref (β 0 0)))) ([.ref u, .int x1, .int x2] : List Value).toArray s 8 77 A) (F0 m 207 ls [])) → ∀ (H : Heap) (locs : List Loc) (ls : Array Slot), mg_Vo D A s.heap H locs ([mg_fS o u α ζ, mg_fM o q1 r2 cM4_40]) → lv_has ls 8 [(0, .ref u), (3, .ref q1), (4, .int x4_40)] → W p l e (headSpec wsX7_pond ({ frames := 0, cells := 8, slots := 77, locals := 0 } : Room)).room s m ([.ref u, .int x1, .int x2] : List Value).toArray below meth c H locs 8 77 (MQ below (mg_QV D (fun β => [mg_fS o u α ζ, mg_fM o (β 0 0) (β 1) y]) A (fun β => some (.ref (β 0 0)))) ([.ref u, .int x1, .int x2] : List Value).toArray s 8 77 A) (F0 m 40 ls []) := by
      intro n
      induction n with
      | zero => intro x4_40 cM4_40 y40_ h; rw [f_X7_pond_40] at h; cases h
      | succ n ih =>
        intro x4_40 cM4_40 y40_ h kc H locs ls hw hl
        rw [f_X7_pond_40] at h
        refine lv_iload hx hb dX7_pond_40 (lv_at hl 2 rfl) ?_
        refine mg_if_eq (tgt := 207) hx hb h dX7_pond_42 (by decide) (fun h => ?_) (fun h => ?_)
        · cases h
          exact kc H locs ls hw (lv_sub hl [1] rfl)
        · refine lv_iconst (v := 0) hx hb dX7_pond_45 (by decide) ?_
          refine lv_istore (lv' := [(4, .int 0), (0, .ref u), (3, .ref q1)]) hx hb dX7_pond_46 hl (by decide) rfl (fun ls hl => ?_)
          refine lv_iconst (v := 0) hx hb dX7_pond_48 (by decide) ?_
          refine lv_istore (lv' := [(5, .int 0), (4, .int 0), (0, .ref u), (3, .ref q1)]) hx hb dX7_pond_49 hl (by decide) rfl (fun ls hl => ?_)
          have L51_ : ∀ (n : Nat), ∀ (x4_51 : Int32) (x5_51 : Int32) (cM4_51 : Nat → Nat → Int32) (y51_ : Int32 × Int32 × (Nat → Nat → Int32)), f_X7_pond_51 ζ n x4_51 x5_51 cM4_51 = some y51_ → (∀ (H : Heap) (locs : List Loc) (ls : Array Slot), mg_Vo D A s.heap H locs ([mg_fS o u α ζ, mg_fM o q1 r2 y51_.2.2]) → lv_has ls 8 [(0, .ref u), (3, .ref q1), (4, .int y51_.1)] → W p l e (headSpec wsX7_pond ({ frames := 0, cells := 8, slots := 77, locals := 0 } : Room)).room s m ([.ref u, .int x1, .int x2] : List Value).toArray below meth c H locs 8 77 (MQ below (mg_QV D (fun β => [mg_fS o u α ζ, mg_fM o (β 0 0) (β 1) y]) A (fun β => some (.ref (β 0 0)))) ([.ref u, .int x1, .int x2] : List Value).toArray s 8 77 A) (F0 m 204 ls [])) → ∀ (H : Heap) (locs : List Loc) (ls : Array Slot), mg_Vo D A s.heap H locs ([mg_fS o u α ζ, mg_fM o q1 r2 cM4_51]) → lv_has ls 8 [(0, .ref u), (3, .ref q1), (4, .int x4_51), (5, .int x5_51)] → W p l e (headSpec wsX7_pond ({ frames := 0, cells := 8, slots := 77, locals := 0 } : Room)).room s m ([.ref u, .int x1, .int x2] : List Value).toArray below meth c H locs 8 77 (MQ below (mg_QV D (fun β => [mg_fS o u α ζ, mg_fM o (β 0 0) (β 1) y]) A (fun β => some (.ref (β 0 0)))) ([.ref u, .int x1, .int x2] : List Value).toArray s 8 77 A) (F0 m 51 ls []) := by
            intro n
            induction n with
            | zero => intro x4_51 x5_51 cM4_51 y51_ h; rw [f_X7_pond_51] at h; cases h
            | succ n ih =>
              intro x4_51 x5_51 cM4_51 y51_ h kc H locs ls hw hl
              rw [f_X7_pond_51] at h
              refine lv_iload hx hb dX7_pond_51 (lv_at hl 3 rfl) ?_
              refine lv_bipush (v := 7) hx hb dX7_pond_53 (by decide) ?_
              refine mg_icmp_ge (tgt := 204) hx hb h dX7_pond_55 (by decide) (fun h => ?_) (fun h => ?_)
              · cases h
                exact kc H locs ls hw (lv_sub hl [0, 1, 2] rfl)
              · refine lv_iconst (v := 0) hx hb dX7_pond_58 (by decide) ?_
                refine lv_istore (lv' := [(6, .int 0), (0, .ref u), (3, .ref q1), (4, .int x4_51), (5, .int x5_51)]) hx hb dX7_pond_59 hl (by decide) rfl (fun ls hl => ?_)
                have L61_ : ∀ (n : Nat), ∀ (x4_61 : Int32) (x6_61 : Int32) (cM4_61 : Nat → Nat → Int32) (y61_ : Int32 × Int32 × (Nat → Nat → Int32)), f_X7_pond_61 x5_51 ζ n x4_61 x6_61 cM4_61 = some y61_ → (∀ (H : Heap) (locs : List Loc) (ls : Array Slot), mg_Vo D A s.heap H locs ([mg_fS o u α ζ, mg_fM o q1 r2 y61_.2.2]) → lv_has ls 8 [(0, .ref u), (3, .ref q1), (4, .int y61_.1), (5, .int x5_51)] → W p l e (headSpec wsX7_pond ({ frames := 0, cells := 8, slots := 77, locals := 0 } : Room)).room s m ([.ref u, .int x1, .int x2] : List Value).toArray below meth c H locs 8 77 (MQ below (mg_QV D (fun β => [mg_fS o u α ζ, mg_fM o (β 0 0) (β 1) y]) A (fun β => some (.ref (β 0 0)))) ([.ref u, .int x1, .int x2] : List Value).toArray s 8 77 A) (F0 m 198 ls [])) → ∀ (H : Heap) (locs : List Loc) (ls : Array Slot), mg_Vo D A s.heap H locs ([mg_fS o u α ζ, mg_fM o q1 r2 cM4_61]) → lv_has ls 8 [(0, .ref u), (3, .ref q1), (4, .int x4_61), (5, .int x5_51), (6, .int x6_61)] → W p l e (headSpec wsX7_pond ({ frames := 0, cells := 8, slots := 77, locals := 0 } : Room)).room s m ([.ref u, .int x1, .int x2] : List Value).toArray below meth c H locs 8 77 (MQ below (mg_QV D (fun β => [mg_fS o u α ζ, mg_fM o (β 0 0) (β 1) y]) A (fun β => some (.ref (β 0 0)))) ([.ref u, .int x1, .int x2] : List Value).toArray s 8 77 A) (F0 m 61 ls []) := by
                  intro n
                  induction n with
                  | zero => intro x4_61 x6_61 cM4_61 y61_ h; rw [f_X7_pond_61] at h; cases h
                  | succ n ih =>
                    intro x4_61 x6_61 cM4_61 y61_ h kc H locs ls hw hl
                    rw [f_X7_pond_61] at h
                    refine lv_iload hx hb dX7_pond_61 (lv_at hl 4 rfl) ?_
                    refine lv_bipush (v := 10) hx hb dX7_pond_63 (by decide) ?_
                    refine mg_icmp_ge (tgt := 198) hx hb h dX7_pond_65 (by decide) (fun h => ?_) (fun h => ?_)
                    · cases h
                      exact kc H locs ls hw (lv_sub hl [0, 1, 2, 3] rfl)
                    · refine lv_iload hx hb dX7_pond_68 (lv_at hl 4 rfl) ?_
                      obtain ⟨y13, h9_, h⟩ := mg_bind h
                      have J70_ : ∀ (H : Heap) (locs : List Loc) (ls : Array Slot), mg_Vo D A s.heap H locs ([mg_fS o u α ζ, mg_fM o q1 r2 cM4_61]) → lv_has ls 8 [(0, .ref u), (3, .ref q1), (4, .int x4_61), (5, .int x5_51), (6, .int x6_61)] → W p l e (headSpec wsX7_pond ({ frames := 0, cells := 8, slots := 77, locals := 0 } : Room)).room s m ([.ref u, .int x1, .int x2] : List Value).toArray below meth c H locs 8 77 (MQ below (mg_QV D (fun β => [mg_fS o u α ζ, mg_fM o (β 0 0) (β 1) y]) A (fun β => some (.ref (β 0 0)))) ([.ref u, .int x1, .int x2] : List Value).toArray s 8 77 A) (F0 m 145 ls [.int y13]) := by
                        intro H locs ls hw hl
                        clear h9_
                        refine lv_istore (lv' := [(7, .int y13), (0, .ref u), (3, .ref q1), (4, .int x4_61), (5, .int x5_51), (6, .int x6_61)]) hx hb dX7_pond_145 hl (by decide) rfl (fun ls hl => ?_)
                        refine lv_aload_n hx hb dX7_pond_147 rfl (lv_at hl 2 rfl) ?_
                        refine lv_iload hx hb dX7_pond_148 (lv_at hl 4 rfl) ?_
                        refine mg_aal hx hb hK hw 1 4 rfl mg_fM_0 rfl rfl h dX7_pond_150 (fun j44 hj44_ h => ?_)
                        refine lv_iload hx hb dX7_pond_151 (lv_at hl 5 rfl) ?_
                        refine mg_zalx hx hb hK hw 1 rfl (mg_fM_1 hj44_) h dX7_pond_153 (fun j45 hj45_ h => ?_)
                        refine mg_if_ne (tgt := 192) hx hb h dX7_pond_154 (by decide) (fun h => ?_) (fun h => ?_)
                        · refine lv_iinc (v := (x6_61 + 1)) (lv' := [(6, .int (x6_61 + 1)), (7, .int y13), (0, .ref u), (3, .ref q1), (4, .int x4_61), (5, .int x5_51)]) hx hb dX7_pond_192 hl (k := 5) rfl rfl (by decide) rfl (fun ls hl => ?_)
                          refine lv_goto (tgt := 61) hx hb dX7_pond_195 (by decide) ?_
                          exact ih _ _ _ _ h kc H locs ls hw (lv_sub hl [2, 3, 4, 5, 0] rfl)
                        · refine lv_aload_n hx hb dX7_pond_157 rfl (lv_at hl 1 rfl) ?_
                          refine va_get (D := D) (ci := 7) (v := .ref (α 0 1)) (C := RX7) (T := TX7) (N := 6) hx hb hts iX7_ hown hK (mg_at1 hw.1 0 rfl mg_fS_00) 0 rfl rfl 2 (by decide) w0_ (fun _ h9 => h9) rfl dX7_pond_158 ?_
                          refine lv_iload hx hb dX7_pond_161 (lv_at hl 4 rfl) ?_
                          refine mg_aal hx hb hK hw 0 3 rfl mg_fS_01 rfl rfl h dX7_pond_163 (fun j46 hj46_ h => ?_)
                          refine lv_iload hx hb dX7_pond_164 (lv_at hl 5 rfl) ?_
                          refine mg_aal hx hb hK hw 0 2 rfl (mg_fS_1 hj46_) rfl rfl h dX7_pond_166 (fun j47 hj47_ h => ?_)
                          refine lv_iconst (v := 0) hx hb dX7_pond_167 (by decide) ?_
                          refine mg_ial (x := 0) hx hb hK hw 0 rfl (mg_fS_2 hj46_ hj47_) (by unfold vp_in; decide) (by decide) dX7_pond_168 ?_
                          refine lv_iconst (v := 2) hx hb dX7_pond_169 (by decide) ?_
                          refine mg_icmp_ne (tgt := 192) hx hb h dX7_pond_170 (by decide) (fun h => ?_) (fun h => ?_)
                          · refine lv_iinc (v := (x6_61 + 1)) (lv' := [(6, .int (x6_61 + 1)), (7, .int y13), (0, .ref u), (3, .ref q1), (4, .int x4_61), (5, .int x5_51)]) hx hb dX7_pond_192 hl (k := 5) rfl rfl (by decide) rfl (fun ls hl => ?_)
                            refine lv_goto (tgt := 61) hx hb dX7_pond_195 (by decide) ?_
                            exact ih _ _ _ _ h kc H locs ls hw (lv_sub hl [2, 3, 4, 5, 0] rfl)
                          · refine lv_iload hx hb dX7_pond_173 (lv_at hl 0 rfl) ?_
                            refine mg_if_ne (tgt := 181) hx hb h dX7_pond_175 (by decide) (fun h => ?_) (fun h => ?_)
                            · refine lv_aload_n hx hb dX7_pond_181 rfl (lv_at hl 2 rfl) ?_
                              refine lv_iload hx hb dX7_pond_182 (lv_at hl 4 rfl) ?_
                              refine mg_aal hx hb hK hw 1 4 rfl mg_fM_0 rfl rfl h dX7_pond_184 (fun j48 hj48_ h => ?_)
                              refine lv_iload hx hb dX7_pond_185 (lv_at hl 5 rfl) ?_
                              refine lv_iconst (v := 1) hx hb dX7_pond_187 (by decide) ?_
                              refine mg_zasd (F' := fun x9_ => mg_fM o q1 r2 (mg_mu cM4_61 j48 x9_ (vp_nar .boolean 1))) hx hb hK hw 1 rfl (mg_fM_1 hj48_) (fun _ => (mg_sM hj48_)) h dX7_pond_188 (fun j49 hj49_ h H locs hw => ?_)
                              refine lv_iconst (v := 1) hx hb dX7_pond_189 (by decide) ?_
                              refine lv_istore (lv' := [(4, .int 1), (7, .int y13), (0, .ref u), (3, .ref q1), (5, .int x5_51), (6, .int x6_61)]) hx hb dX7_pond_190 hl (by decide) rfl (fun ls hl => ?_)
                              refine lv_iinc (v := (x6_61 + 1)) (lv' := [(6, .int (x6_61 + 1)), (4, .int 1), (7, .int y13), (0, .ref u), (3, .ref q1), (5, .int x5_51)]) hx hb dX7_pond_192 hl (k := 5) rfl rfl (by decide) rfl (fun ls hl => ?_)
                              refine lv_goto (tgt := 61) hx hb dX7_pond_195 (by decide) ?_
                              exact ih _ _ _ _ h kc H locs ls hw (lv_sub hl [3, 4, 1, 5, 0] rfl)
                            · refine lv_goto (tgt := 192) hx hb dX7_pond_178 (by decide) ?_
                              refine lv_iinc (v := (x6_61 + 1)) (lv' := [(6, .int (x6_61 + 1)), (7, .int y13), (0, .ref u), (3, .ref q1), (4, .int x4_61), (5, .int x5_51)]) hx hb dX7_pond_192 hl (k := 5) rfl rfl (by decide) rfl (fun ls hl => ?_)
                              refine lv_goto (tgt := 61) hx hb dX7_pond_195 (by decide) ?_
                              exact ih _ _ _ _ h kc H locs ls hw (lv_sub hl [2, 3, 4, 5, 0] rfl)
                      clear h
                      have h := h9_
                      clear h9_
                      refine mg_if_le (tgt := 85) hx hb h dX7_pond_70 (by decide) (fun h => ?_) (fun h => ?_)
                      · refine lv_iload hx hb dX7_pond_85 (lv_at hl 4 rfl) ?_
                        refine lv_bipush (v := 9) hx hb dX7_pond_87 (by decide) ?_
                        refine mg_icmp_ge (tgt := 104) hx hb h dX7_pond_89 (by decide) (fun h => ?_) (fun h => ?_)
                        · refine lv_iload hx hb dX7_pond_104 (lv_at hl 3 rfl) ?_
                          refine mg_if_le (tgt := 121) hx hb h dX7_pond_106 (by decide) (fun h => ?_) (fun h => ?_)
                          · refine lv_iload hx hb dX7_pond_121 (lv_at hl 3 rfl) ?_
                            refine lv_bipush (v := 6) hx hb dX7_pond_123 (by decide) ?_
                            refine mg_icmp_ge (tgt := 144) hx hb h dX7_pond_125 (by decide) (fun h => ?_) (fun h => ?_)
                            · refine lv_iconst (v := 0) hx hb dX7_pond_144 (by decide) ?_
                              cases h
                              exact J70_ H locs ls hw (lv_sub hl [0, 1, 2, 3, 4] rfl)
                            · refine lv_aload_n hx hb dX7_pond_128 rfl (lv_at hl 1 rfl) ?_
                              refine lv_iload hx hb dX7_pond_129 (lv_at hl 3 rfl) ?_
                              refine lv_iconst (v := 1) hx hb dX7_pond_131 (by decide) ?_
                              refine lv_iadd hx hb dX7_pond_132 ?_
                              refine mg_aal hx hb hK hw 1 4 rfl mg_fM_0 rfl rfl h dX7_pond_133 (fun j14 hj14_ h => ?_)
                              refine lv_iload hx hb dX7_pond_134 (lv_at hl 4 rfl) ?_
                              refine mg_zalx hx hb hK hw 1 rfl (mg_fM_1 hj14_) h dX7_pond_136 (fun j15 hj15_ h => ?_)
                              refine mg_if_eq (tgt := 144) hx hb h dX7_pond_137 (by decide) (fun h => ?_) (fun h => ?_)
                              · refine lv_iconst (v := 0) hx hb dX7_pond_144 (by decide) ?_
                                cases h
                                exact J70_ H locs ls hw (lv_sub hl [0, 1, 2, 3, 4] rfl)
                              · refine lv_iconst (v := 1) hx hb dX7_pond_140 (by decide) ?_
                                refine lv_goto (tgt := 145) hx hb dX7_pond_141 (by decide) ?_
                                cases h
                                exact J70_ H locs ls hw (lv_sub hl [0, 1, 2, 3, 4] rfl)
                          · refine lv_aload_n hx hb dX7_pond_109 rfl (lv_at hl 1 rfl) ?_
                            refine lv_iload hx hb dX7_pond_110 (lv_at hl 3 rfl) ?_
                            refine lv_iconst (v := 1) hx hb dX7_pond_112 (by decide) ?_
                            refine lv_isub hx hb dX7_pond_113 ?_
                            refine mg_aal hx hb hK hw 1 4 rfl mg_fM_0 rfl rfl h dX7_pond_114 (fun j16 hj16_ h => ?_)
                            refine lv_iload hx hb dX7_pond_115 (lv_at hl 4 rfl) ?_
                            refine mg_zalx hx hb hK hw 1 rfl (mg_fM_1 hj16_) h dX7_pond_117 (fun j17 hj17_ h => ?_)
                            refine mg_if_ne (tgt := 140) hx hb h dX7_pond_118 (by decide) (fun h => ?_) (fun h => ?_)
                            · refine lv_iconst (v := 1) hx hb dX7_pond_140 (by decide) ?_
                              refine lv_goto (tgt := 145) hx hb dX7_pond_141 (by decide) ?_
                              cases h
                              exact J70_ H locs ls hw (lv_sub hl [0, 1, 2, 3, 4] rfl)
                            · refine lv_iload hx hb dX7_pond_121 (lv_at hl 3 rfl) ?_
                              refine lv_bipush (v := 6) hx hb dX7_pond_123 (by decide) ?_
                              refine mg_icmp_ge (tgt := 144) hx hb h dX7_pond_125 (by decide) (fun h => ?_) (fun h => ?_)
                              · refine lv_iconst (v := 0) hx hb dX7_pond_144 (by decide) ?_
                                cases h
                                exact J70_ H locs ls hw (lv_sub hl [0, 1, 2, 3, 4] rfl)
                              · refine lv_aload_n hx hb dX7_pond_128 rfl (lv_at hl 1 rfl) ?_
                                refine lv_iload hx hb dX7_pond_129 (lv_at hl 3 rfl) ?_
                                refine lv_iconst (v := 1) hx hb dX7_pond_131 (by decide) ?_
                                refine lv_iadd hx hb dX7_pond_132 ?_
                                refine mg_aal hx hb hK hw 1 4 rfl mg_fM_0 rfl rfl h dX7_pond_133 (fun j18 hj18_ h => ?_)
                                refine lv_iload hx hb dX7_pond_134 (lv_at hl 4 rfl) ?_
                                refine mg_zalx hx hb hK hw 1 rfl (mg_fM_1 hj18_) h dX7_pond_136 (fun j19 hj19_ h => ?_)
                                refine mg_if_eq (tgt := 144) hx hb h dX7_pond_137 (by decide) (fun h => ?_) (fun h => ?_)
                                · refine lv_iconst (v := 0) hx hb dX7_pond_144 (by decide) ?_
                                  cases h
                                  exact J70_ H locs ls hw (lv_sub hl [0, 1, 2, 3, 4] rfl)
                                · refine lv_iconst (v := 1) hx hb dX7_pond_140 (by decide) ?_
                                  refine lv_goto (tgt := 145) hx hb dX7_pond_141 (by decide) ?_
                                  cases h
                                  exact J70_ H locs ls hw (lv_sub hl [0, 1, 2, 3, 4] rfl)
                        · refine lv_aload_n hx hb dX7_pond_92 rfl (lv_at hl 1 rfl) ?_
                          refine lv_iload hx hb dX7_pond_93 (lv_at hl 3 rfl) ?_
                          refine mg_aal hx hb hK hw 1 4 rfl mg_fM_0 rfl rfl h dX7_pond_95 (fun j20 hj20_ h => ?_)
                          refine lv_iload hx hb dX7_pond_96 (lv_at hl 4 rfl) ?_
                          refine lv_iconst (v := 1) hx hb dX7_pond_98 (by decide) ?_
                          refine lv_iadd hx hb dX7_pond_99 ?_
                          refine mg_zalx hx hb hK hw 1 rfl (mg_fM_1 hj20_) h dX7_pond_100 (fun j21 hj21_ h => ?_)
                          refine mg_if_ne (tgt := 140) hx hb h dX7_pond_101 (by decide) (fun h => ?_) (fun h => ?_)
                          · refine lv_iconst (v := 1) hx hb dX7_pond_140 (by decide) ?_
                            refine lv_goto (tgt := 145) hx hb dX7_pond_141 (by decide) ?_
                            cases h
                            exact J70_ H locs ls hw (lv_sub hl [0, 1, 2, 3, 4] rfl)
                          · refine lv_iload hx hb dX7_pond_104 (lv_at hl 3 rfl) ?_
                            refine mg_if_le (tgt := 121) hx hb h dX7_pond_106 (by decide) (fun h => ?_) (fun h => ?_)
                            · refine lv_iload hx hb dX7_pond_121 (lv_at hl 3 rfl) ?_
                              refine lv_bipush (v := 6) hx hb dX7_pond_123 (by decide) ?_
                              refine mg_icmp_ge (tgt := 144) hx hb h dX7_pond_125 (by decide) (fun h => ?_) (fun h => ?_)
                              · refine lv_iconst (v := 0) hx hb dX7_pond_144 (by decide) ?_
                                cases h
                                exact J70_ H locs ls hw (lv_sub hl [0, 1, 2, 3, 4] rfl)
                              · refine lv_aload_n hx hb dX7_pond_128 rfl (lv_at hl 1 rfl) ?_
                                refine lv_iload hx hb dX7_pond_129 (lv_at hl 3 rfl) ?_
                                refine lv_iconst (v := 1) hx hb dX7_pond_131 (by decide) ?_
                                refine lv_iadd hx hb dX7_pond_132 ?_
                                refine mg_aal hx hb hK hw 1 4 rfl mg_fM_0 rfl rfl h dX7_pond_133 (fun j22 hj22_ h => ?_)
                                refine lv_iload hx hb dX7_pond_134 (lv_at hl 4 rfl) ?_
                                refine mg_zalx hx hb hK hw 1 rfl (mg_fM_1 hj22_) h dX7_pond_136 (fun j23 hj23_ h => ?_)
                                refine mg_if_eq (tgt := 144) hx hb h dX7_pond_137 (by decide) (fun h => ?_) (fun h => ?_)
                                · refine lv_iconst (v := 0) hx hb dX7_pond_144 (by decide) ?_
                                  cases h
                                  exact J70_ H locs ls hw (lv_sub hl [0, 1, 2, 3, 4] rfl)
                                · refine lv_iconst (v := 1) hx hb dX7_pond_140 (by decide) ?_
                                  refine lv_goto (tgt := 145) hx hb dX7_pond_141 (by decide) ?_
                                  cases h
                                  exact J70_ H locs ls hw (lv_sub hl [0, 1, 2, 3, 4] rfl)
                            · refine lv_aload_n hx hb dX7_pond_109 rfl (lv_at hl 1 rfl) ?_
                              refine lv_iload hx hb dX7_pond_110 (lv_at hl 3 rfl) ?_
                              refine lv_iconst (v := 1) hx hb dX7_pond_112 (by decide) ?_
                              refine lv_isub hx hb dX7_pond_113 ?_
                              refine mg_aal hx hb hK hw 1 4 rfl mg_fM_0 rfl rfl h dX7_pond_114 (fun j24 hj24_ h => ?_)
                              refine lv_iload hx hb dX7_pond_115 (lv_at hl 4 rfl) ?_
                              refine mg_zalx hx hb hK hw 1 rfl (mg_fM_1 hj24_) h dX7_pond_117 (fun j25 hj25_ h => ?_)
                              refine mg_if_ne (tgt := 140) hx hb h dX7_pond_118 (by decide) (fun h => ?_) (fun h => ?_)
                              · refine lv_iconst (v := 1) hx hb dX7_pond_140 (by decide) ?_
                                refine lv_goto (tgt := 145) hx hb dX7_pond_141 (by decide) ?_
                                cases h
                                exact J70_ H locs ls hw (lv_sub hl [0, 1, 2, 3, 4] rfl)
                              · refine lv_iload hx hb dX7_pond_121 (lv_at hl 3 rfl) ?_
                                refine lv_bipush (v := 6) hx hb dX7_pond_123 (by decide) ?_
                                refine mg_icmp_ge (tgt := 144) hx hb h dX7_pond_125 (by decide) (fun h => ?_) (fun h => ?_)
                                · refine lv_iconst (v := 0) hx hb dX7_pond_144 (by decide) ?_
                                  cases h
                                  exact J70_ H locs ls hw (lv_sub hl [0, 1, 2, 3, 4] rfl)
                                · refine lv_aload_n hx hb dX7_pond_128 rfl (lv_at hl 1 rfl) ?_
                                  refine lv_iload hx hb dX7_pond_129 (lv_at hl 3 rfl) ?_
                                  refine lv_iconst (v := 1) hx hb dX7_pond_131 (by decide) ?_
                                  refine lv_iadd hx hb dX7_pond_132 ?_
                                  refine mg_aal hx hb hK hw 1 4 rfl mg_fM_0 rfl rfl h dX7_pond_133 (fun j26 hj26_ h => ?_)
                                  refine lv_iload hx hb dX7_pond_134 (lv_at hl 4 rfl) ?_
                                  refine mg_zalx hx hb hK hw 1 rfl (mg_fM_1 hj26_) h dX7_pond_136 (fun j27 hj27_ h => ?_)
                                  refine mg_if_eq (tgt := 144) hx hb h dX7_pond_137 (by decide) (fun h => ?_) (fun h => ?_)
                                  · refine lv_iconst (v := 0) hx hb dX7_pond_144 (by decide) ?_
                                    cases h
                                    exact J70_ H locs ls hw (lv_sub hl [0, 1, 2, 3, 4] rfl)
                                  · refine lv_iconst (v := 1) hx hb dX7_pond_140 (by decide) ?_
                                    refine lv_goto (tgt := 145) hx hb dX7_pond_141 (by decide) ?_
                                    cases h
                                    exact J70_ H locs ls hw (lv_sub hl [0, 1, 2, 3, 4] rfl)
                      · refine lv_aload_n hx hb dX7_pond_73 rfl (lv_at hl 1 rfl) ?_
                        refine lv_iload hx hb dX7_pond_74 (lv_at hl 3 rfl) ?_
                        refine mg_aal hx hb hK hw 1 4 rfl mg_fM_0 rfl rfl h dX7_pond_76 (fun j28 hj28_ h => ?_)
                        refine lv_iload hx hb dX7_pond_77 (lv_at hl 4 rfl) ?_
                        refine lv_iconst (v := 1) hx hb dX7_pond_79 (by decide) ?_
                        refine lv_isub hx hb dX7_pond_80 ?_
                        refine mg_zalx hx hb hK hw 1 rfl (mg_fM_1 hj28_) h dX7_pond_81 (fun j29 hj29_ h => ?_)
                        refine mg_if_ne (tgt := 140) hx hb h dX7_pond_82 (by decide) (fun h => ?_) (fun h => ?_)
                        · refine lv_iconst (v := 1) hx hb dX7_pond_140 (by decide) ?_
                          refine lv_goto (tgt := 145) hx hb dX7_pond_141 (by decide) ?_
                          cases h
                          exact J70_ H locs ls hw (lv_sub hl [0, 1, 2, 3, 4] rfl)
                        · refine lv_iload hx hb dX7_pond_85 (lv_at hl 4 rfl) ?_
                          refine lv_bipush (v := 9) hx hb dX7_pond_87 (by decide) ?_
                          refine mg_icmp_ge (tgt := 104) hx hb h dX7_pond_89 (by decide) (fun h => ?_) (fun h => ?_)
                          · refine lv_iload hx hb dX7_pond_104 (lv_at hl 3 rfl) ?_
                            refine mg_if_le (tgt := 121) hx hb h dX7_pond_106 (by decide) (fun h => ?_) (fun h => ?_)
                            · refine lv_iload hx hb dX7_pond_121 (lv_at hl 3 rfl) ?_
                              refine lv_bipush (v := 6) hx hb dX7_pond_123 (by decide) ?_
                              refine mg_icmp_ge (tgt := 144) hx hb h dX7_pond_125 (by decide) (fun h => ?_) (fun h => ?_)
                              · refine lv_iconst (v := 0) hx hb dX7_pond_144 (by decide) ?_
                                cases h
                                exact J70_ H locs ls hw (lv_sub hl [0, 1, 2, 3, 4] rfl)
                              · refine lv_aload_n hx hb dX7_pond_128 rfl (lv_at hl 1 rfl) ?_
                                refine lv_iload hx hb dX7_pond_129 (lv_at hl 3 rfl) ?_
                                refine lv_iconst (v := 1) hx hb dX7_pond_131 (by decide) ?_
                                refine lv_iadd hx hb dX7_pond_132 ?_
                                refine mg_aal hx hb hK hw 1 4 rfl mg_fM_0 rfl rfl h dX7_pond_133 (fun j30 hj30_ h => ?_)
                                refine lv_iload hx hb dX7_pond_134 (lv_at hl 4 rfl) ?_
                                refine mg_zalx hx hb hK hw 1 rfl (mg_fM_1 hj30_) h dX7_pond_136 (fun j31 hj31_ h => ?_)
                                refine mg_if_eq (tgt := 144) hx hb h dX7_pond_137 (by decide) (fun h => ?_) (fun h => ?_)
                                · refine lv_iconst (v := 0) hx hb dX7_pond_144 (by decide) ?_
                                  cases h
                                  exact J70_ H locs ls hw (lv_sub hl [0, 1, 2, 3, 4] rfl)
                                · refine lv_iconst (v := 1) hx hb dX7_pond_140 (by decide) ?_
                                  refine lv_goto (tgt := 145) hx hb dX7_pond_141 (by decide) ?_
                                  cases h
                                  exact J70_ H locs ls hw (lv_sub hl [0, 1, 2, 3, 4] rfl)
                            · refine lv_aload_n hx hb dX7_pond_109 rfl (lv_at hl 1 rfl) ?_
                              refine lv_iload hx hb dX7_pond_110 (lv_at hl 3 rfl) ?_
                              refine lv_iconst (v := 1) hx hb dX7_pond_112 (by decide) ?_
                              refine lv_isub hx hb dX7_pond_113 ?_
                              refine mg_aal hx hb hK hw 1 4 rfl mg_fM_0 rfl rfl h dX7_pond_114 (fun j32 hj32_ h => ?_)
                              refine lv_iload hx hb dX7_pond_115 (lv_at hl 4 rfl) ?_
                              refine mg_zalx hx hb hK hw 1 rfl (mg_fM_1 hj32_) h dX7_pond_117 (fun j33 hj33_ h => ?_)
                              refine mg_if_ne (tgt := 140) hx hb h dX7_pond_118 (by decide) (fun h => ?_) (fun h => ?_)
                              · refine lv_iconst (v := 1) hx hb dX7_pond_140 (by decide) ?_
                                refine lv_goto (tgt := 145) hx hb dX7_pond_141 (by decide) ?_
                                cases h
                                exact J70_ H locs ls hw (lv_sub hl [0, 1, 2, 3, 4] rfl)
                              · refine lv_iload hx hb dX7_pond_121 (lv_at hl 3 rfl) ?_
                                refine lv_bipush (v := 6) hx hb dX7_pond_123 (by decide) ?_
                                refine mg_icmp_ge (tgt := 144) hx hb h dX7_pond_125 (by decide) (fun h => ?_) (fun h => ?_)
                                · refine lv_iconst (v := 0) hx hb dX7_pond_144 (by decide) ?_
                                  cases h
                                  exact J70_ H locs ls hw (lv_sub hl [0, 1, 2, 3, 4] rfl)
                                · refine lv_aload_n hx hb dX7_pond_128 rfl (lv_at hl 1 rfl) ?_
                                  refine lv_iload hx hb dX7_pond_129 (lv_at hl 3 rfl) ?_
                                  refine lv_iconst (v := 1) hx hb dX7_pond_131 (by decide) ?_
                                  refine lv_iadd hx hb dX7_pond_132 ?_
                                  refine mg_aal hx hb hK hw 1 4 rfl mg_fM_0 rfl rfl h dX7_pond_133 (fun j34 hj34_ h => ?_)
                                  refine lv_iload hx hb dX7_pond_134 (lv_at hl 4 rfl) ?_
                                  refine mg_zalx hx hb hK hw 1 rfl (mg_fM_1 hj34_) h dX7_pond_136 (fun j35 hj35_ h => ?_)
                                  refine mg_if_eq (tgt := 144) hx hb h dX7_pond_137 (by decide) (fun h => ?_) (fun h => ?_)
                                  · refine lv_iconst (v := 0) hx hb dX7_pond_144 (by decide) ?_
                                    cases h
                                    exact J70_ H locs ls hw (lv_sub hl [0, 1, 2, 3, 4] rfl)
                                  · refine lv_iconst (v := 1) hx hb dX7_pond_140 (by decide) ?_
                                    refine lv_goto (tgt := 145) hx hb dX7_pond_141 (by decide) ?_
                                    cases h
                                    exact J70_ H locs ls hw (lv_sub hl [0, 1, 2, 3, 4] rfl)
                          · refine lv_aload_n hx hb dX7_pond_92 rfl (lv_at hl 1 rfl) ?_
                            refine lv_iload hx hb dX7_pond_93 (lv_at hl 3 rfl) ?_
                            refine mg_aal hx hb hK hw 1 4 rfl mg_fM_0 rfl rfl h dX7_pond_95 (fun j36 hj36_ h => ?_)
                            refine lv_iload hx hb dX7_pond_96 (lv_at hl 4 rfl) ?_
                            refine lv_iconst (v := 1) hx hb dX7_pond_98 (by decide) ?_
                            refine lv_iadd hx hb dX7_pond_99 ?_
                            refine mg_zalx hx hb hK hw 1 rfl (mg_fM_1 hj36_) h dX7_pond_100 (fun j37 hj37_ h => ?_)
                            refine mg_if_ne (tgt := 140) hx hb h dX7_pond_101 (by decide) (fun h => ?_) (fun h => ?_)
                            · refine lv_iconst (v := 1) hx hb dX7_pond_140 (by decide) ?_
                              refine lv_goto (tgt := 145) hx hb dX7_pond_141 (by decide) ?_
                              cases h
                              exact J70_ H locs ls hw (lv_sub hl [0, 1, 2, 3, 4] rfl)
                            · refine lv_iload hx hb dX7_pond_104 (lv_at hl 3 rfl) ?_
                              refine mg_if_le (tgt := 121) hx hb h dX7_pond_106 (by decide) (fun h => ?_) (fun h => ?_)
                              · refine lv_iload hx hb dX7_pond_121 (lv_at hl 3 rfl) ?_
                                refine lv_bipush (v := 6) hx hb dX7_pond_123 (by decide) ?_
                                refine mg_icmp_ge (tgt := 144) hx hb h dX7_pond_125 (by decide) (fun h => ?_) (fun h => ?_)
                                · refine lv_iconst (v := 0) hx hb dX7_pond_144 (by decide) ?_
                                  cases h
                                  exact J70_ H locs ls hw (lv_sub hl [0, 1, 2, 3, 4] rfl)
                                · refine lv_aload_n hx hb dX7_pond_128 rfl (lv_at hl 1 rfl) ?_
                                  refine lv_iload hx hb dX7_pond_129 (lv_at hl 3 rfl) ?_
                                  refine lv_iconst (v := 1) hx hb dX7_pond_131 (by decide) ?_
                                  refine lv_iadd hx hb dX7_pond_132 ?_
                                  refine mg_aal hx hb hK hw 1 4 rfl mg_fM_0 rfl rfl h dX7_pond_133 (fun j38 hj38_ h => ?_)
                                  refine lv_iload hx hb dX7_pond_134 (lv_at hl 4 rfl) ?_
                                  refine mg_zalx hx hb hK hw 1 rfl (mg_fM_1 hj38_) h dX7_pond_136 (fun j39 hj39_ h => ?_)
                                  refine mg_if_eq (tgt := 144) hx hb h dX7_pond_137 (by decide) (fun h => ?_) (fun h => ?_)
                                  · refine lv_iconst (v := 0) hx hb dX7_pond_144 (by decide) ?_
                                    cases h
                                    exact J70_ H locs ls hw (lv_sub hl [0, 1, 2, 3, 4] rfl)
                                  · refine lv_iconst (v := 1) hx hb dX7_pond_140 (by decide) ?_
                                    refine lv_goto (tgt := 145) hx hb dX7_pond_141 (by decide) ?_
                                    cases h
                                    exact J70_ H locs ls hw (lv_sub hl [0, 1, 2, 3, 4] rfl)
                              · refine lv_aload_n hx hb dX7_pond_109 rfl (lv_at hl 1 rfl) ?_
                                refine lv_iload hx hb dX7_pond_110 (lv_at hl 3 rfl) ?_
                                refine lv_iconst (v := 1) hx hb dX7_pond_112 (by decide) ?_
                                refine lv_isub hx hb dX7_pond_113 ?_
                                refine mg_aal hx hb hK hw 1 4 rfl mg_fM_0 rfl rfl h dX7_pond_114 (fun j40 hj40_ h => ?_)
                                refine lv_iload hx hb dX7_pond_115 (lv_at hl 4 rfl) ?_
                                refine mg_zalx hx hb hK hw 1 rfl (mg_fM_1 hj40_) h dX7_pond_117 (fun j41 hj41_ h => ?_)
                                refine mg_if_ne (tgt := 140) hx hb h dX7_pond_118 (by decide) (fun h => ?_) (fun h => ?_)
                                · refine lv_iconst (v := 1) hx hb dX7_pond_140 (by decide) ?_
                                  refine lv_goto (tgt := 145) hx hb dX7_pond_141 (by decide) ?_
                                  cases h
                                  exact J70_ H locs ls hw (lv_sub hl [0, 1, 2, 3, 4] rfl)
                                · refine lv_iload hx hb dX7_pond_121 (lv_at hl 3 rfl) ?_
                                  refine lv_bipush (v := 6) hx hb dX7_pond_123 (by decide) ?_
                                  refine mg_icmp_ge (tgt := 144) hx hb h dX7_pond_125 (by decide) (fun h => ?_) (fun h => ?_)
                                  · refine lv_iconst (v := 0) hx hb dX7_pond_144 (by decide) ?_
                                    cases h
                                    exact J70_ H locs ls hw (lv_sub hl [0, 1, 2, 3, 4] rfl)
                                  · refine lv_aload_n hx hb dX7_pond_128 rfl (lv_at hl 1 rfl) ?_
                                    refine lv_iload hx hb dX7_pond_129 (lv_at hl 3 rfl) ?_
                                    refine lv_iconst (v := 1) hx hb dX7_pond_131 (by decide) ?_
                                    refine lv_iadd hx hb dX7_pond_132 ?_
                                    refine mg_aal hx hb hK hw 1 4 rfl mg_fM_0 rfl rfl h dX7_pond_133 (fun j42 hj42_ h => ?_)
                                    refine lv_iload hx hb dX7_pond_134 (lv_at hl 4 rfl) ?_
                                    refine mg_zalx hx hb hK hw 1 rfl (mg_fM_1 hj42_) h dX7_pond_136 (fun j43 hj43_ h => ?_)
                                    refine mg_if_eq (tgt := 144) hx hb h dX7_pond_137 (by decide) (fun h => ?_) (fun h => ?_)
                                    · refine lv_iconst (v := 0) hx hb dX7_pond_144 (by decide) ?_
                                      cases h
                                      exact J70_ H locs ls hw (lv_sub hl [0, 1, 2, 3, 4] rfl)
                                    · refine lv_iconst (v := 1) hx hb dX7_pond_140 (by decide) ?_
                                      refine lv_goto (tgt := 145) hx hb dX7_pond_141 (by decide) ?_
                                      cases h
                                      exact J70_ H locs ls hw (lv_sub hl [0, 1, 2, 3, 4] rfl)
                obtain ⟨y12, h9_, h⟩ := mg_bind h
                refine L61_ _ _ _ _ _ h9_ (fun H locs ls hw hl => ?_) H locs ls hw (lv_sub hl [1, 2, 3, 4, 0] rfl)
                clear L61_ h9_
                refine lv_iinc (v := (x5_51 + 1)) (lv' := [(5, .int (x5_51 + 1)), (0, .ref u), (3, .ref q1), (4, .int y12.1)]) hx hb dX7_pond_198 hl (k := 3) rfl rfl (by decide) rfl (fun ls hl => ?_)
                refine lv_goto (tgt := 51) hx hb dX7_pond_201 (by decide) ?_
                exact ih _ _ _ _ h kc H locs ls hw (lv_sub hl [1, 2, 3, 0] rfl)
          obtain ⟨y11, h9_, h⟩ := mg_bind h
          refine L51_ _ _ _ _ _ h9_ (fun H locs ls hw hl => ?_) H locs ls hw (lv_sub hl [2, 3, 1, 0] rfl)
          clear L51_ h9_
          refine lv_goto (tgt := 40) hx hb dX7_pond_204 (by decide) ?_
          exact ih _ _ _ h kc H locs ls hw (lv_sub hl [0, 1, 2] rfl)
    obtain ⟨y10, h9_, h⟩ := mg_bind h
    refine L40_ _ _ _ _ h9_ (fun H locs ls hw hl => ?_) H locs ls hw (lv_sub hl [1, 2, 0] rfl)
    clear L40_ h9_
    refine lv_aload_n hx hb dX7_pond_207 rfl (lv_at hl 0 rfl) ?_
    cases h
    exact mg_eR (fun a => if a = 0 then (fun _ => q1) else r2) rfl hx hb hr (Or.inr ⟨_, rfl⟩) hlocks hw (show 8 ≤ 8 by omega) (show 77 ≤ 77 by omega) dX7_pond_208
  clear h
  have h := h9_
  clear h9_
  refine mg_icmp_ne (tgt := 31) hx hb h dX7_pond_24 (by decide) (fun h => ?_) (fun h => ?_)
  · refine lv_iconst (v := 0) hx hb dX7_pond_31 (by decide) ?_
    cases h
    exact J24_ H locs ls hw (lv_sub hl [1, 2, 3, 0] rfl)
  · refine lv_iconst (v := 1) hx hb dX7_pond_27 (by decide) ?_
    refine lv_goto (tgt := 32) hx hb dX7_pond_28 (by decide) ?_
    cases h
    exact J24_ H locs ls hw (lv_sub hl [1, 2, 3, 0] rfl)
set_option maxHeartbeats 8000000 in
set_option maxRecDepth 100000 in
theorem k_X7_many (l : Launch) (D : va_G) (o : Nat → Nat) (q0 : Nat) (r0 : Nat → Nat) (sz : Nat) (μ : Nat → Nat → Int32) (y : Int32) (h : f_X7_many μ = some y) : mg_CV l yX7_many wsX7_many ({ frames := 0, cells := 0, slots := 0, locals := 0 } : Room) D o [mg_fM o q0 r0 μ] sz [.ref q0] (fun _ => some (.int y)) (fun _ => [mg_fM o q0 r0 μ]) 0 0 := by
  unfold mg_CV
  refine Met.ofW (cc := cX7_many) (maxL := 10) (ret := (some .int)) (by decide) rfl ?_
  intro p e s m args below meth c s₁ B hml hv
  obtain ⟨rfl, hsz, hP, hK, hD0, hO⟩ := hv
  have hx := B.exec
  have hb := B.bytes
  have hr := B.returns
  have hts := atoms_spec (ws := wsX7_many) B.pre
  have hown : s.vm.findClass RX7 = some m.cls := findClass_of_methodNamed B.named
  have hlocks := B.notSynchronized
  subst hsz
  have hD := hD0.self (sz := s.heap.size)
  generalize hAe : mg_VA [mg_fM o q0 r0 μ] s.heap.size = A at hD hO ⊢
  have hA : ∀ q : Nat, s.heap.size ≤ q → A q := fun q h => by rw [← hAe]; exact Or.inr h
  have hw : mg_Vo D A s.heap s.heap [] ([mg_fM o q0 r0 μ]) := ⟨hP, hD, va_S.rf⟩
  have G9 : CallFix p m c cX7_many 10 s ([.ref q0] : List Value).toArray wsX7_many RX7 := ⟨hx, hb, hml, hown, hts⟩
  clear hP hD hD0 hAe
  have hl := lv_entry ([.ref q0]) (n := 10) (Nat.le_of_ble_eq_true rfl)
  rw [lg_entry_eq]
  generalize (lg_sl ([.ref q0]) ++ List.replicate (10 - (lg_sl ([.ref q0])).length) Slot.unset).toArray = ls at hl ⊢
  have hl : lv_has ls 10 [(0, .ref q0)] := hl
  unfold f_X7_many at h
  suffices K_ : ∀ (H : Heap) (locs : List Loc), mg_Vo D A s.heap H locs ([mg_fM o q0 r0 μ]) → W p l e (headSpec wsX7_many ({ frames := 0, cells := 0, slots := 0, locals := 0 } : Room)).room s m ([.ref q0] : List Value).toArray below meth c H locs 0 0 (MQ below (mg_QV D (fun _ => [mg_fM o q0 r0 μ]) A (fun _ => some (.int y))) ([.ref q0] : List Value).toArray s 0 0 A) (F0 m 0 ls []) from K_ _ _ hw
  clear hw
  intro H locs hw
  refine lv_iconst (v := 0) hx hb dX7_many_0 (by decide) ?_
  refine lv_istore_n (lv' := [(1, .int 0), (0, .ref q0)]) hx hb dX7_many_1 rfl hl (by decide) rfl (fun ls hl => ?_)
  refine lv_aload_n hx hb dX7_many_2 rfl (lv_at hl 1 rfl) ?_
  refine lv_astore_n (lv' := [(2, .ref q0), (1, .int 0), (0, .ref q0)]) hx hb dX7_many_3 rfl hl (by decide) rfl (fun ls hl => ?_)
  refine lv_aload_n hx hb dX7_many_4 rfl (lv_at hl 0 rfl) ?_
  refine mg_alenq hx hb hK hw 0 4 rfl mg_fM_0 rfl dX7_many_5 ?_
  refine lv_istore_n (lv' := [(3, .int (nI 7)), (2, .ref q0), (1, .int 0), (0, .ref q0)]) hx hb dX7_many_6 rfl hl (by decide) rfl (fun ls hl => ?_)
  refine lv_iconst (v := 0) hx hb dX7_many_7 (by decide) ?_
  refine lv_istore (lv' := [(4, .int 0), (3, .int (nI 7)), (2, .ref q0), (1, .int 0), (0, .ref q0)]) hx hb dX7_many_8 hl (by decide) rfl (fun ls hl => ?_)
  have L10_ : ∀ (n : Nat), ∀ (x1_10 : Int32) (x4_10 : Int32) (y10_ : Int32 × Int32), f_X7_many_10 (nI 7) μ n x1_10 x4_10 = some y10_ → (∀ (H : Heap) (locs : List Loc) (ls : Array Slot), mg_Vo D A s.heap H locs ([mg_fM o q0 r0 μ]) → lv_has ls 10 [(1, .int y10_.1)] → W p l e (headSpec wsX7_many ({ frames := 0, cells := 0, slots := 0, locals := 0 } : Room)).room s m ([.ref q0] : List Value).toArray below meth c H locs 0 0 (MQ below (mg_QV D (fun _ => [mg_fM o q0 r0 μ]) A (fun _ => some (.int y))) ([.ref q0] : List Value).toArray s 0 0 A) (F0 m 73 ls [])) → ∀ (H : Heap) (locs : List Loc) (ls : Array Slot), mg_Vo D A s.heap H locs ([mg_fM o q0 r0 μ]) → lv_has ls 10 [(1, .int x1_10), (2, .ref q0), (3, .int (nI 7)), (4, .int x4_10)] → W p l e (headSpec wsX7_many ({ frames := 0, cells := 0, slots := 0, locals := 0 } : Room)).room s m ([.ref q0] : List Value).toArray below meth c H locs 0 0 (MQ below (mg_QV D (fun _ => [mg_fM o q0 r0 μ]) A (fun _ => some (.int y))) ([.ref q0] : List Value).toArray s 0 0 A) (F0 m 10 ls []) := by
    intro n
    induction n with
    | zero => intro x1_10 x4_10 y10_ h; rw [f_X7_many_10] at h; cases h
    | succ n ih =>
      intro x1_10 x4_10 y10_ h kc H locs ls hw hl
      rw [f_X7_many_10] at h
      refine lv_iload hx hb dX7_many_10 (lv_at hl 3 rfl) ?_
      refine lv_iload_n hx hb dX7_many_12 rfl (lv_at hl 2 rfl) ?_
      refine mg_icmp_ge (tgt := 73) hx hb h dX7_many_13 (by decide) (fun h => ?_) (fun h => ?_)
      · cases h
        exact kc H locs ls hw (lv_sub hl [0] rfl)
      · refine lv_aload_n hx hb dX7_many_16 rfl (lv_at hl 1 rfl) ?_
        refine lv_iload hx hb dX7_many_17 (lv_at hl 3 rfl) ?_
        refine mg_aal hx hb hK hw 0 4 rfl mg_fM_0 rfl rfl h dX7_many_19 (fun j2 hj2_ h => ?_)
        refine lv_astore (lv' := [(5, .ref (r0 j2)), (1, .int x1_10), (2, .ref q0), (3, .int (nI 7)), (4, .int x4_10)]) hx hb dX7_many_20 hl (by decide) rfl (fun ls hl => ?_)
        refine lv_aload hx hb dX7_many_22 (lv_at hl 0 rfl) ?_
        refine lv_astore (lv' := [(6, .ref (r0 j2)), (5, .ref (r0 j2)), (1, .int x1_10), (2, .ref q0), (3, .int (nI 7)), (4, .int x4_10)]) hx hb dX7_many_24 hl (by decide) rfl (fun ls hl => ?_)
        refine lv_aload hx hb dX7_many_26 (lv_at hl 0 rfl) ?_
        refine mg_alenq hx hb hK hw 0 1 rfl (mg_fM_1 hj2_) rfl dX7_many_28 ?_
        refine lv_istore (lv' := [(7, .int (nI 10)), (6, .ref (r0 j2)), (5, .ref (r0 j2)), (1, .int x1_10), (2, .ref q0), (3, .int (nI 7)), (4, .int x4_10)]) hx hb dX7_many_29 hl (by decide) rfl (fun ls hl => ?_)
        refine lv_iconst (v := 0) hx hb dX7_many_31 (by decide) ?_
        refine lv_istore (lv' := [(8, .int 0), (7, .int (nI 10)), (6, .ref (r0 j2)), (5, .ref (r0 j2)), (1, .int x1_10), (2, .ref q0), (3, .int (nI 7)), (4, .int x4_10)]) hx hb dX7_many_32 hl (by decide) rfl (fun ls hl => ?_)
        have L34_ : ∀ (n : Nat), ∀ (x1_34 : Int32) (x8_34 : Int32) (y34_ : Int32 × Int32), f_X7_many_34 j2 (nI 7) x4_10 (nI 10) μ n x1_34 x8_34 = some y34_ → (∀ (H : Heap) (locs : List Loc) (ls : Array Slot), mg_Vo D A s.heap H locs ([mg_fM o q0 r0 μ]) → lv_has ls 10 [(1, .int y34_.1), (2, .ref q0), (3, .int (nI 7)), (4, .int x4_10)] → W p l e (headSpec wsX7_many ({ frames := 0, cells := 0, slots := 0, locals := 0 } : Room)).room s m ([.ref q0] : List Value).toArray below meth c H locs 0 0 (MQ below (mg_QV D (fun _ => [mg_fM o q0 r0 μ]) A (fun _ => some (.int y))) ([.ref q0] : List Value).toArray s 0 0 A) (F0 m 67 ls [])) → ∀ (H : Heap) (locs : List Loc) (ls : Array Slot), mg_Vo D A s.heap H locs ([mg_fM o q0 r0 μ]) → lv_has ls 10 [(1, .int x1_34), (2, .ref q0), (3, .int (nI 7)), (4, .int x4_10), (6, .ref (r0 j2)), (7, .int (nI 10)), (8, .int x8_34)] → W p l e (headSpec wsX7_many ({ frames := 0, cells := 0, slots := 0, locals := 0 } : Room)).room s m ([.ref q0] : List Value).toArray below meth c H locs 0 0 (MQ below (mg_QV D (fun _ => [mg_fM o q0 r0 μ]) A (fun _ => some (.int y))) ([.ref q0] : List Value).toArray s 0 0 A) (F0 m 34 ls []) := by
          intro n
          induction n with
          | zero => intro x1_34 x8_34 y34_ h; rw [f_X7_many_34] at h; cases h
          | succ n ih =>
            intro x1_34 x8_34 y34_ h kc H locs ls hw hl
            rw [f_X7_many_34] at h
            refine lv_iload hx hb dX7_many_34 (lv_at hl 6 rfl) ?_
            refine lv_iload hx hb dX7_many_36 (lv_at hl 5 rfl) ?_
            refine mg_icmp_ge (tgt := 67) hx hb h dX7_many_38 (by decide) (fun h => ?_) (fun h => ?_)
            · cases h
              exact kc H locs ls hw (lv_sub hl [0, 1, 2, 3] rfl)
            · refine lv_aload hx hb dX7_many_41 (lv_at hl 4 rfl) ?_
              refine lv_iload hx hb dX7_many_43 (lv_at hl 6 rfl) ?_
              refine mg_zalx hx hb hK hw 0 rfl (mg_fM_1 hj2_) h dX7_many_45 (fun j4 hj4_ h => ?_)
              refine lv_istore (lv' := [(9, .int ((μ j2) j4)), (1, .int x1_34), (2, .ref q0), (3, .int (nI 7)), (4, .int x4_10), (6, .ref (r0 j2)), (7, .int (nI 10)), (8, .int x8_34)]) hx hb dX7_many_46 hl (by decide) rfl (fun ls hl => ?_)
              refine lv_iload_n hx hb dX7_many_48 rfl (lv_at hl 1 rfl) ?_
              refine lv_iload hx hb dX7_many_49 (lv_at hl 0 rfl) ?_
              refine mg_if_eq (tgt := 58) hx hb h dX7_many_51 (by decide) (fun h => ?_) (fun h => ?_)
              · refine lv_iconst (v := 0) hx hb dX7_many_58 (by decide) ?_
                refine lv_iadd hx hb dX7_many_59 ?_
                refine lv_istore_n (lv' := [(1, .int (x1_34 + 0)), (9, .int ((μ j2) j4)), (2, .ref q0), (3, .int (nI 7)), (4, .int x4_10), (6, .ref (r0 j2)), (7, .int (nI 10)), (8, .int x8_34)]) hx hb dX7_many_60 rfl hl (by decide) rfl (fun ls hl => ?_)
                refine lv_iinc (v := (x8_34 + 1)) (lv' := [(8, .int (x8_34 + 1)), (1, .int (x1_34 + 0)), (9, .int ((μ j2) j4)), (2, .ref q0), (3, .int (nI 7)), (4, .int x4_10), (6, .ref (r0 j2)), (7, .int (nI 10))]) hx hb dX7_many_61 hl (k := 7) rfl rfl (by decide) rfl (fun ls hl => ?_)
                refine lv_goto (tgt := 34) hx hb dX7_many_64 (by decide) ?_
                exact ih _ _ _ h kc H locs ls hw (lv_sub hl [1, 3, 4, 5, 6, 7, 0] rfl)
              · refine lv_iconst (v := 1) hx hb dX7_many_54 (by decide) ?_
                refine lv_goto (tgt := 59) hx hb dX7_many_55 (by decide) ?_
                refine lv_iadd hx hb dX7_many_59 ?_
                refine lv_istore_n (lv' := [(1, .int (x1_34 + 1)), (9, .int ((μ j2) j4)), (2, .ref q0), (3, .int (nI 7)), (4, .int x4_10), (6, .ref (r0 j2)), (7, .int (nI 10)), (8, .int x8_34)]) hx hb dX7_many_60 rfl hl (by decide) rfl (fun ls hl => ?_)
                refine lv_iinc (v := (x8_34 + 1)) (lv' := [(8, .int (x8_34 + 1)), (1, .int (x1_34 + 1)), (9, .int ((μ j2) j4)), (2, .ref q0), (3, .int (nI 7)), (4, .int x4_10), (6, .ref (r0 j2)), (7, .int (nI 10))]) hx hb dX7_many_61 hl (k := 7) rfl rfl (by decide) rfl (fun ls hl => ?_)
                refine lv_goto (tgt := 34) hx hb dX7_many_64 (by decide) ?_
                exact ih _ _ _ h kc H locs ls hw (lv_sub hl [1, 3, 4, 5, 6, 7, 0] rfl)
        obtain ⟨y3, h9_, h⟩ := mg_bind h
        refine L34_ _ _ _ _ h9_ (fun H locs ls hw hl => ?_) H locs ls hw (lv_sub hl [3, 4, 5, 6, 2, 1, 0] rfl)
        clear L34_ h9_
        refine lv_iinc (v := (x4_10 + 1)) (lv' := [(4, .int (x4_10 + 1)), (1, .int y3.1), (2, .ref q0), (3, .int (nI 7))]) hx hb dX7_many_67 hl (k := 3) rfl rfl (by decide) rfl (fun ls hl => ?_)
        refine lv_goto (tgt := 10) hx hb dX7_many_70 (by decide) ?_
        exact ih _ _ _ h kc H locs ls hw (lv_sub hl [1, 2, 3, 0] rfl)
  obtain ⟨y1, h9_, h⟩ := mg_bind h
  refine L10_ _ _ _ _ h9_ (fun H locs ls hw hl => ?_) H locs ls hw (lv_sub hl [3, 2, 1, 0] rfl)
  clear L10_ h9_
  refine lv_iload_n hx hb dX7_many_73 rfl (lv_at hl 0 rfl) ?_
  cases h
  exact mg_eIV (fun _ _ => 0) rfl hx hb hr hlocks hw (show 0 ≤ 0 by omega) (show 0 ≤ 0 by omega) dX7_many_74
set_option maxHeartbeats 8000000 in
set_option maxRecDepth 100000 in
theorem k_X7_carpsIn (l : Launch) (D : va_G) (o : Nat → Nat) (u : Nat) (α : Nat → Nat → Nat) (q0 : Nat) (r0 : Nat → Nat) (sz : Nat) (ζ : mg_Sz) (μ : Nat → Nat → Int32) (y : Int32) (h : f_X7_carpsIn ζ μ = some y) : mg_CV l yX7_carpsIn wsX7_carpsIn ({ frames := 0, cells := 0, slots := 0, locals := 0 } : Room) D o [mg_fS o u α ζ, mg_fM o q0 r0 μ] sz [.ref u, .ref q0] (fun _ => some (.int y)) (fun _ => [mg_fS o u α ζ, mg_fM o q0 r0 μ]) 0 0 := by
  unfold mg_CV
  refine Met.ofW (cc := cX7_carpsIn) (maxL := 7) (ret := (some .int)) (by decide) rfl ?_
  intro p e s m args below meth c s₁ B hml hv
  obtain ⟨rfl, hsz, hP, hK, hD0, hO⟩ := hv
  have hx := B.exec
  have hb := B.bytes
  have hr := B.returns
  have hts := atoms_spec (ws := wsX7_carpsIn) B.pre
  have hown : s.vm.findClass RX7 = some m.cls := findClass_of_methodNamed B.named
  have hlocks := B.notSynchronized
  subst hsz
  have hD := hD0.self (sz := s.heap.size)
  generalize hAe : mg_VA [mg_fS o u α ζ, mg_fM o q0 r0 μ] s.heap.size = A at hD hO ⊢
  have hA : ∀ q : Nat, s.heap.size ≤ q → A q := fun q h => by rw [← hAe]; exact Or.inr h
  have hw : mg_Vo D A s.heap s.heap [] ([mg_fS o u α ζ, mg_fM o q0 r0 μ]) := ⟨hP, hD, va_S.rf⟩
  have G9 : CallFix p m c cX7_carpsIn 7 s ([.ref u, .ref q0] : List Value).toArray wsX7_carpsIn RX7 := ⟨hx, hb, hml, hown, hts⟩
  clear hP hD hD0 hAe
  have w0_ := hts (.fieldLink RX7 20 "MoonGateLaw$Sim" "carps" "[[I") (by decide +kernel)
  have iX7_ : ∀ w ∈ wsX70, w ∈ wsX7_carpsIn := (fun _ h => List.mem_cons_of_mem _ (List.mem_append_right _ h))
  have hl := lv_entry ([.ref u, .ref q0]) (n := 7) (Nat.le_of_ble_eq_true rfl)
  rw [lg_entry_eq]
  generalize (lg_sl ([.ref u, .ref q0]) ++ List.replicate (7 - (lg_sl ([.ref u, .ref q0])).length) Slot.unset).toArray = ls at hl ⊢
  have hl : lv_has ls 7 [(0, .ref u), (1, .ref q0)] := hl
  unfold f_X7_carpsIn at h
  suffices K_ : ∀ (H : Heap) (locs : List Loc), mg_Vo D A s.heap H locs ([mg_fS o u α ζ, mg_fM o q0 r0 μ]) → W p l e (headSpec wsX7_carpsIn ({ frames := 0, cells := 0, slots := 0, locals := 0 } : Room)).room s m ([.ref u, .ref q0] : List Value).toArray below meth c H locs 0 0 (MQ below (mg_QV D (fun _ => [mg_fS o u α ζ, mg_fM o q0 r0 μ]) A (fun _ => some (.int y))) ([.ref u, .ref q0] : List Value).toArray s 0 0 A) (F0 m 0 ls []) from K_ _ _ hw
  clear hw
  intro H locs hw
  refine lv_iconst (v := 0) hx hb dX7_carpsIn_0 (by decide) ?_
  refine lv_istore_n (lv' := [(2, .int 0), (0, .ref u), (1, .ref q0)]) hx hb dX7_carpsIn_1 rfl hl (by decide) rfl (fun ls hl => ?_)
  refine lv_aload_n hx hb dX7_carpsIn_2 rfl (lv_at hl 1 rfl) ?_
  refine va_get (D := D) (ci := 7) (v := .ref (α 0 2)) (C := RX7) (T := TX7) (N := 6) hx hb hts iX7_ hown hK (mg_at1 hw.1 0 rfl mg_fS_00) 0 rfl rfl 3 (by decide) w0_ (fun _ h9 => h9) rfl dX7_carpsIn_3 ?_
  refine lv_astore_n (lv' := [(3, .ref (α 0 2)), (2, .int 0), (0, .ref u), (1, .ref q0)]) hx hb dX7_carpsIn_6 rfl hl (by decide) rfl (fun ls hl => ?_)
  refine lv_aload_n hx hb dX7_carpsIn_7 rfl (lv_at hl 0 rfl) ?_
  refine mg_alenq hx hb hK hw 0 2 rfl mg_fS_02 rfl dX7_carpsIn_8 ?_
  refine lv_istore (lv' := [(4, .int (nI (ζ.2 0))), (3, .ref (α 0 2)), (2, .int 0), (0, .ref u), (1, .ref q0)]) hx hb dX7_carpsIn_9 hl (by decide) rfl (fun ls hl => ?_)
  refine lv_iconst (v := 0) hx hb dX7_carpsIn_11 (by decide) ?_
  refine lv_istore (lv' := [(5, .int 0), (4, .int (nI (ζ.2 0))), (3, .ref (α 0 2)), (2, .int 0), (0, .ref u), (1, .ref q0)]) hx hb dX7_carpsIn_12 hl (by decide) rfl (fun ls hl => ?_)
  have L14_ : ∀ (n : Nat), ∀ (x2_14 : Int32) (x5_14 : Int32) (y14_ : Int32 × Int32), f_X7_carpsIn_14 (nI (ζ.2 0)) ζ μ n x2_14 x5_14 = some y14_ → (∀ (H : Heap) (locs : List Loc) (ls : Array Slot), mg_Vo D A s.heap H locs ([mg_fS o u α ζ, mg_fM o q0 r0 μ]) → lv_has ls 7 [(2, .int y14_.1)] → W p l e (headSpec wsX7_carpsIn ({ frames := 0, cells := 0, slots := 0, locals := 0 } : Room)).room s m ([.ref u, .ref q0] : List Value).toArray below meth c H locs 0 0 (MQ below (mg_QV D (fun _ => [mg_fS o u α ζ, mg_fM o q0 r0 μ]) A (fun _ => some (.int y))) ([.ref u, .ref q0] : List Value).toArray s 0 0 A) (F0 m 62 ls [])) → ∀ (H : Heap) (locs : List Loc) (ls : Array Slot), mg_Vo D A s.heap H locs ([mg_fS o u α ζ, mg_fM o q0 r0 μ]) → lv_has ls 7 [(1, .ref q0), (2, .int x2_14), (3, .ref (α 0 2)), (4, .int (nI (ζ.2 0))), (5, .int x5_14)] → W p l e (headSpec wsX7_carpsIn ({ frames := 0, cells := 0, slots := 0, locals := 0 } : Room)).room s m ([.ref u, .ref q0] : List Value).toArray below meth c H locs 0 0 (MQ below (mg_QV D (fun _ => [mg_fS o u α ζ, mg_fM o q0 r0 μ]) A (fun _ => some (.int y))) ([.ref u, .ref q0] : List Value).toArray s 0 0 A) (F0 m 14 ls []) := by
    intro n
    induction n with
    | zero => intro x2_14 x5_14 y14_ h; rw [f_X7_carpsIn_14] at h; cases h
    | succ n ih =>
      intro x2_14 x5_14 y14_ h kc H locs ls hw hl
      rw [f_X7_carpsIn_14] at h
      refine lv_iload hx hb dX7_carpsIn_14 (lv_at hl 4 rfl) ?_
      refine lv_iload hx hb dX7_carpsIn_16 (lv_at hl 3 rfl) ?_
      refine mg_icmp_ge (tgt := 62) hx hb h dX7_carpsIn_18 (by decide) (fun h => ?_) (fun h => ?_)
      · cases h
        exact kc H locs ls hw (lv_sub hl [1] rfl)
      · refine lv_aload_n hx hb dX7_carpsIn_21 rfl (lv_at hl 2 rfl) ?_
        refine lv_iload hx hb dX7_carpsIn_22 (lv_at hl 4 rfl) ?_
        refine mg_aal hx hb hK hw 0 2 rfl mg_fS_02 rfl rfl h dX7_carpsIn_24 (fun j2 hj2_ h => ?_)
        refine lv_astore (lv' := [(6, .ref (α 3 j2)), (1, .ref q0), (2, .int x2_14), (3, .ref (α 0 2)), (4, .int (nI (ζ.2 0))), (5, .int x5_14)]) hx hb dX7_carpsIn_25 hl (by decide) rfl (fun ls hl => ?_)
        refine lv_iload_n hx hb dX7_carpsIn_27 rfl (lv_at hl 2 rfl) ?_
        refine lv_aload hx hb dX7_carpsIn_28 (lv_at hl 0 rfl) ?_
        refine lv_iconst (v := 3) hx hb dX7_carpsIn_30 (by decide) ?_
        refine mg_ial (x := 3) hx hb hK hw 0 rfl (mg_fS_3 hj2_) (by unfold vp_in; decide) (by decide) dX7_carpsIn_31 ?_
        refine mg_if_ne (tgt := 53) hx hb h dX7_carpsIn_32 (by decide) (fun h => ?_) (fun h => ?_)
        · refine lv_iconst (v := 0) hx hb dX7_carpsIn_53 (by decide) ?_
          refine lv_iadd hx hb dX7_carpsIn_54 ?_
          refine lv_istore_n (lv' := [(2, .int (x2_14 + 0)), (6, .ref (α 3 j2)), (1, .ref q0), (3, .ref (α 0 2)), (4, .int (nI (ζ.2 0))), (5, .int x5_14)]) hx hb dX7_carpsIn_55 rfl hl (by decide) rfl (fun ls hl => ?_)
          refine lv_iinc (v := (x5_14 + 1)) (lv' := [(5, .int (x5_14 + 1)), (2, .int (x2_14 + 0)), (6, .ref (α 3 j2)), (1, .ref q0), (3, .ref (α 0 2)), (4, .int (nI (ζ.2 0)))]) hx hb dX7_carpsIn_56 hl (k := 5) rfl rfl (by decide) rfl (fun ls hl => ?_)
          refine lv_goto (tgt := 14) hx hb dX7_carpsIn_59 (by decide) ?_
          exact ih _ _ _ h kc H locs ls hw (lv_sub hl [3, 1, 4, 5, 0] rfl)
        · refine lv_aload_n hx hb dX7_carpsIn_35 rfl (lv_at hl 1 rfl) ?_
          refine lv_aload hx hb dX7_carpsIn_36 (lv_at hl 0 rfl) ?_
          refine lv_iconst (v := 1) hx hb dX7_carpsIn_38 (by decide) ?_
          refine mg_ial (x := 1) hx hb hK hw 0 rfl (mg_fS_3 hj2_) (by unfold vp_in; decide) (by decide) dX7_carpsIn_39 ?_
          refine mg_aal hx hb hK hw 1 4 rfl mg_fM_0 rfl rfl h dX7_carpsIn_40 (fun j3 hj3_ h => ?_)
          refine lv_aload hx hb dX7_carpsIn_41 (lv_at hl 0 rfl) ?_
          refine lv_iconst (v := 0) hx hb dX7_carpsIn_43 (by decide) ?_
          refine mg_ial (x := 0) hx hb hK hw 0 rfl (mg_fS_3 hj2_) (by unfold vp_in; decide) (by decide) dX7_carpsIn_44 ?_
          refine mg_zalx hx hb hK hw 1 rfl (mg_fM_1 hj3_) h dX7_carpsIn_45 (fun j4 hj4_ h => ?_)
          refine mg_if_eq (tgt := 53) hx hb h dX7_carpsIn_46 (by decide) (fun h => ?_) (fun h => ?_)
          · refine lv_iconst (v := 0) hx hb dX7_carpsIn_53 (by decide) ?_
            refine lv_iadd hx hb dX7_carpsIn_54 ?_
            refine lv_istore_n (lv' := [(2, .int (x2_14 + 0)), (6, .ref (α 3 j2)), (1, .ref q0), (3, .ref (α 0 2)), (4, .int (nI (ζ.2 0))), (5, .int x5_14)]) hx hb dX7_carpsIn_55 rfl hl (by decide) rfl (fun ls hl => ?_)
            refine lv_iinc (v := (x5_14 + 1)) (lv' := [(5, .int (x5_14 + 1)), (2, .int (x2_14 + 0)), (6, .ref (α 3 j2)), (1, .ref q0), (3, .ref (α 0 2)), (4, .int (nI (ζ.2 0)))]) hx hb dX7_carpsIn_56 hl (k := 5) rfl rfl (by decide) rfl (fun ls hl => ?_)
            refine lv_goto (tgt := 14) hx hb dX7_carpsIn_59 (by decide) ?_
            exact ih _ _ _ h kc H locs ls hw (lv_sub hl [3, 1, 4, 5, 0] rfl)
          · refine lv_iconst (v := 1) hx hb dX7_carpsIn_49 (by decide) ?_
            refine lv_goto (tgt := 54) hx hb dX7_carpsIn_50 (by decide) ?_
            refine lv_iadd hx hb dX7_carpsIn_54 ?_
            refine lv_istore_n (lv' := [(2, .int (x2_14 + 1)), (6, .ref (α 3 j2)), (1, .ref q0), (3, .ref (α 0 2)), (4, .int (nI (ζ.2 0))), (5, .int x5_14)]) hx hb dX7_carpsIn_55 rfl hl (by decide) rfl (fun ls hl => ?_)
            refine lv_iinc (v := (x5_14 + 1)) (lv' := [(5, .int (x5_14 + 1)), (2, .int (x2_14 + 1)), (6, .ref (α 3 j2)), (1, .ref q0), (3, .ref (α 0 2)), (4, .int (nI (ζ.2 0)))]) hx hb dX7_carpsIn_56 hl (k := 5) rfl rfl (by decide) rfl (fun ls hl => ?_)
            refine lv_goto (tgt := 14) hx hb dX7_carpsIn_59 (by decide) ?_
            exact ih _ _ _ h kc H locs ls hw (lv_sub hl [3, 1, 4, 5, 0] rfl)
  obtain ⟨y1, h9_, h⟩ := mg_bind h
  refine L14_ _ _ _ _ h9_ (fun H locs ls hw hl => ?_) H locs ls hw (lv_sub hl [4, 3, 2, 1, 0] rfl)
  clear L14_ h9_
  refine lv_iload_n hx hb dX7_carpsIn_62 rfl (lv_at hl 0 rfl) ?_
  cases h
  exact mg_eIV (fun _ _ => 0) rfl hx hb hr hlocks hw (show 0 ≤ 0 by omega) (show 0 ≤ 0 by omega) dX7_carpsIn_63
set_option maxHeartbeats 8000000 in
set_option maxRecDepth 100000 in
theorem k_X7_shows (l : Launch) (D : va_G) (o : Nat → Nat) (u : Nat) (α : Nat → Nat → Nat) (sz : Nat) (k0 : Nat) (ζ : mg_Sz) (hk0 : k0 < ζ.2 1) (y : Nat × (Nat → Nat → Int32)) (h : f_X7_shows k0 ζ = some y) : mg_CV l yX7_shows wsX7_shows ({ frames := 1, cells := 23, slots := 363, locals := 23 } : Room) D o [mg_fS o u α ζ] sz [.ref u, .ref (α 4 k0)] (fun β => some (.ref (β 0 0))) (fun β => [mg_fS o u α ζ, mg_fP o (β 0 0) (β 1) y.1 y.2]) 23 363 := by
  unfold mg_CV
  refine Met.ofW (cc := cX7_shows) (maxL := 6) (ret := (some (.array (.array .int)))) (by decide) rfl ?_
  intro p e s m args below meth c s₁ B hml hv
  obtain ⟨rfl, hsz, hP, hK, hD0, hO⟩ := hv
  have hx := B.exec
  have hb := B.bytes
  have hr := B.returns
  have hts := atoms_spec (ws := wsX7_shows) B.pre
  have hown : s.vm.findClass RX7 = some m.cls := findClass_of_methodNamed B.named
  have hlocks := B.notSynchronized
  subst hsz
  have hD := hD0.self (sz := s.heap.size)
  generalize hAe : mg_VA [mg_fS o u α ζ] s.heap.size = A at hD hO ⊢
  have hA : ∀ q : Nat, s.heap.size ≤ q → A q := fun q h => by rw [← hAe]; exact Or.inr h
  have hw : mg_Vo D A s.heap s.heap [] ([mg_fS o u α ζ]) := ⟨hP, hD, va_S.rf⟩
  have G9 : CallFix p m c cX7_shows 6 s ([.ref u, .ref (α 4 k0)] : List Value).toArray wsX7_shows RX7 := ⟨hx, hb, hml, hown, hts⟩
  clear hP hD hD0 hAe
  have w0_ := hts (.classLink RX7 18 "[I") (by decide +kernel)
  have w1_ := hts (.fieldLink RX7 15 "MoonGateLaw$Sim" "cells" "[[[I") (by decide +kernel)
  have iX7_ : ∀ w ∈ wsX70, w ∈ wsX7_shows := (fun _ h => List.mem_cons_of_mem _ (List.mem_append_right _ h))
  have w3_ := hts (.arrayClass .int) (by decide +kernel)
  have hl := lv_entry ([.ref u, .ref (α 4 k0)]) (n := 6) (Nat.le_of_ble_eq_true rfl)
  rw [lg_entry_eq]
  generalize (lg_sl ([.ref u, .ref (α 4 k0)]) ++ List.replicate (6 - (lg_sl ([.ref u, .ref (α 4 k0)])).length) Slot.unset).toArray = ls at hl ⊢
  have hl : lv_has ls 6 [(0, .ref u), (1, .ref (α 4 k0))] := hl
  unfold f_X7_shows at h
  suffices K_ : ∀ (H : Heap) (locs : List Loc), mg_Vo D A s.heap H locs ([mg_fS o u α ζ]) → W p l e (headSpec wsX7_shows ({ frames := 1, cells := 23, slots := 363, locals := 23 } : Room)).room s m ([.ref u, .ref (α 4 k0)] : List Value).toArray below meth c H locs 0 0 (MQ below (mg_QV D (fun β => [mg_fS o u α ζ, mg_fP o (β 0 0) (β 1) y.1 y.2]) A (fun β => some (.ref (β 0 0)))) ([.ref u, .ref (α 4 k0)] : List Value).toArray s 23 363 A) (F0 m 0 ls []) from K_ _ _ hw
  clear hw
  intro H locs hw
  refine lv_iconst (v := 0) hx hb dX7_shows_0 (by decide) ?_
  refine mg_vnewq (n := 0) (N := 0) (B := 0) hx hb hown w0_ (hO.2.2.2.2.2.2.2.2.2.2.2.2.2.2.2.2.2.2.2.2.1) hw hA (by decide) rfl (Nat.le_refl _) (Nat.le_of_ble_eq_true rfl) (show 0 + 1 ≤ 23 by omega) (show 0 + 0 ≤ 363 by omega) dX7_shows_1 (fun q1 H hw => ?_)
  have hw : mg_Vo D A s.heap H _ ([mg_fS o u α ζ, mg_fP o q1 (fun _ => 0) 0 (fun _ _ => 0)]) := mg_newP (L := [mg_fS o u α ζ]) hw
  refine lv_astore_n (lv' := [(2, .ref q1), (0, .ref u), (1, .ref (α 4 k0))]) hx hb dX7_shows_4 rfl hl (by decide) rfl (fun ls hl => ?_)
  refine lv_aload_n hx hb dX7_shows_5 rfl (lv_at hl 2 rfl) ?_
  refine lv_iconst (v := 0) hx hb dX7_shows_6 (by decide) ?_
  refine mg_ial (x := 0) hx hb hK hw 0 rfl (mg_fS_4 hk0) (by unfold vp_in; decide) (by decide) dX7_shows_7 ?_
  refine lv_istore_n (lv' := [(3, .int ((ζ.1 4 k0) 0)), (2, .ref q1), (0, .ref u), (1, .ref (α 4 k0))]) hx hb dX7_shows_8 rfl hl (by decide) rfl (fun ls hl => ?_)
  refine lv_aload_n hx hb dX7_shows_9 rfl (lv_at hl 3 rfl) ?_
  refine lv_iconst (v := 1) hx hb dX7_shows_10 (by decide) ?_
  refine mg_ial (x := 1) hx hb hK hw 0 rfl (mg_fS_4 hk0) (by unfold vp_in; decide) (by decide) dX7_shows_11 ?_
  refine lv_istore (lv' := [(4, .int ((ζ.1 4 k0) 1)), (3, .int ((ζ.1 4 k0) 0)), (2, .ref q1), (0, .ref u), (1, .ref (α 4 k0))]) hx hb dX7_shows_12 hl (by decide) rfl (fun ls hl => ?_)
  have L14_ : ∀ (n : Nat), ∀ (cl14_ sl14_ : Nat), cl14_ + n * 2 ≤ 23 → sl14_ + n * 33 ≤ 363 → ∀ (x3_14 : Int32) (x4_14 : Int32) (nP_14 : Nat) (cP_14 : Nat → Nat → Int32), f_X7_shows_14 k0 ζ n x3_14 x4_14 nP_14 cP_14 = some y → ∀ (qP_14 : Nat) (rP_14 : Nat → Nat) (H : Heap) (locs : List Loc) (ls : Array Slot), mg_Vo D A s.heap H locs ([mg_fS o u α ζ, mg_fP o qP_14 rP_14 nP_14 cP_14]) → lv_has ls 6 [(0, .ref u), (1, .ref (α 4 k0)), (2, .ref qP_14), (3, .int x3_14), (4, .int x4_14)] → W p l e (headSpec wsX7_shows ({ frames := 1, cells := 23, slots := 363, locals := 23 } : Room)).room s m ([.ref u, .ref (α 4 k0)] : List Value).toArray below meth c H locs cl14_ sl14_ (MQ below (mg_QV D (fun β => [mg_fS o u α ζ, mg_fP o (β 0 0) (β 1) y.1 y.2]) A (fun β => some (.ref (β 0 0)))) ([.ref u, .ref (α 4 k0)] : List Value).toArray s 23 363 A) (F0 m 14 ls []) := by
    intro n
    induction n with
    | zero => intro cl14_ sl14_ hcl14_ hsl14_ x3_14 x4_14 nP_14 cP_14 h; rw [f_X7_shows_14] at h; cases h
    | succ n ih =>
      intro cl14_ sl14_ hcl14_ hsl14_ x3_14 x4_14 nP_14 cP_14 h qP_14 rP_14 H locs ls hw hl
      rw [f_X7_shows_14] at h
      refine lv_iload_n hx hb dX7_shows_14 rfl (lv_at hl 3 rfl) ?_
      refine lv_aload_n hx hb dX7_shows_15 rfl (lv_at hl 1 rfl) ?_
      refine lv_iconst (v := 2) hx hb dX7_shows_16 (by decide) ?_
      refine mg_ial (x := 2) hx hb hK hw 0 rfl (mg_fS_4 hk0) (by unfold vp_in; decide) (by decide) dX7_shows_17 ?_
      refine lv_iconst (v := 1) hx hb dX7_shows_18 (by decide) ?_
      obtain ⟨y3, h9_, h⟩ := mg_bind h
      have J19_ : ∀ (H : Heap) (locs : List Loc) (ls : Array Slot), mg_Vo D A s.heap H locs ([mg_fS o u α ζ, mg_fP o qP_14 rP_14 nP_14 cP_14]) → lv_has ls 6 [(0, .ref u), (1, .ref (α 4 k0)), (2, .ref qP_14), (4, .int x4_14)] → W p l e (headSpec wsX7_shows ({ frames := 1, cells := 23, slots := 363, locals := 23 } : Room)).room s m ([.ref u, .ref (α 4 k0)] : List Value).toArray below meth c H locs cl14_ sl14_ (MQ below (mg_QV D (fun β => [mg_fS o u α ζ, mg_fP o (β 0 0) (β 1) y.1 y.2]) A (fun β => some (.ref (β 0 0)))) ([.ref u, .ref (α 4 k0)] : List Value).toArray s 23 363 A) (F0 m 38 ls [.int y3, .int x3_14]) := by
        intro H locs ls hw hl
        clear h9_
        refine lv_iadd hx hb dX7_shows_38 ?_
        refine lv_istore_n (lv' := [(3, .int (x3_14 + y3)), (0, .ref u), (1, .ref (α 4 k0)), (2, .ref qP_14), (4, .int x4_14)]) hx hb dX7_shows_39 rfl hl (by decide) rfl (fun ls hl => ?_)
        refine lv_iload hx hb dX7_shows_40 (lv_at hl 4 rfl) ?_
        refine lv_aload_n hx hb dX7_shows_42 rfl (lv_at hl 2 rfl) ?_
        refine lv_iconst (v := 2) hx hb dX7_shows_43 (by decide) ?_
        refine mg_ial (x := 2) hx hb hK hw 0 rfl (mg_fS_4 hk0) (by unfold vp_in; decide) (by decide) dX7_shows_44 ?_
        refine lv_iconst (v := 2) hx hb dX7_shows_45 (by decide) ?_
        obtain ⟨y4, h9_, h⟩ := mg_bind h
        have J46_ : ∀ (H : Heap) (locs : List Loc) (ls : Array Slot), mg_Vo D A s.heap H locs ([mg_fS o u α ζ, mg_fP o qP_14 rP_14 nP_14 cP_14]) → lv_has ls 6 [(0, .ref u), (1, .ref (α 4 k0)), (2, .ref qP_14), (3, .int (x3_14 + y3))] → W p l e (headSpec wsX7_shows ({ frames := 1, cells := 23, slots := 363, locals := 23 } : Room)).room s m ([.ref u, .ref (α 4 k0)] : List Value).toArray below meth c H locs cl14_ sl14_ (MQ below (mg_QV D (fun β => [mg_fS o u α ζ, mg_fP o (β 0 0) (β 1) y.1 y.2]) A (fun β => some (.ref (β 0 0)))) ([.ref u, .ref (α 4 k0)] : List Value).toArray s 23 363 A) (F0 m 64 ls [.int y4, .int x4_14]) := by
          intro H locs ls hw hl
          clear h9_
          refine lv_iadd hx hb dX7_shows_64 ?_
          refine lv_istore (lv' := [(4, .int (x4_14 + y4)), (0, .ref u), (1, .ref (α 4 k0)), (2, .ref qP_14), (3, .int (x3_14 + y3))]) hx hb dX7_shows_65 hl (by decide) rfl (fun ls hl => ?_)
          refine lv_iload_n hx hb dX7_shows_67 rfl (lv_at hl 4 rfl) ?_
          refine mg_if_lt (tgt := 104) hx hb h dX7_shows_68 (by decide) (fun h => ?_) (fun h => ?_)
          · refine lv_aload_n hx hb dX7_shows_104 rfl (lv_at hl 3 rfl) ?_
            cases h
            exact mg_eR (fun a => if a = 0 then (fun _ => qP_14) else rP_14) rfl hx hb hr (Or.inr ⟨_, rfl⟩) hlocks hw (show cl14_ ≤ 23 by omega) (show sl14_ ≤ 363 by omega) dX7_shows_105
          · refine lv_iload_n hx hb dX7_shows_71 rfl (lv_at hl 4 rfl) ?_
            refine lv_bipush (v := 9) hx hb dX7_shows_72 (by decide) ?_
            refine mg_icmp_gt (tgt := 104) hx hb h dX7_shows_74 (by decide) (fun h => ?_) (fun h => ?_)
            · refine lv_aload_n hx hb dX7_shows_104 rfl (lv_at hl 3 rfl) ?_
              cases h
              exact mg_eR (fun a => if a = 0 then (fun _ => qP_14) else rP_14) rfl hx hb hr (Or.inr ⟨_, rfl⟩) hlocks hw (show cl14_ ≤ 23 by omega) (show sl14_ ≤ 363 by omega) dX7_shows_105
            · refine lv_iload hx hb dX7_shows_77 (lv_at hl 0 rfl) ?_
              refine mg_if_lt (tgt := 104) hx hb h dX7_shows_79 (by decide) (fun h => ?_) (fun h => ?_)
              · refine lv_aload_n hx hb dX7_shows_104 rfl (lv_at hl 3 rfl) ?_
                cases h
                exact mg_eR (fun a => if a = 0 then (fun _ => qP_14) else rP_14) rfl hx hb hr (Or.inr ⟨_, rfl⟩) hlocks hw (show cl14_ ≤ 23 by omega) (show sl14_ ≤ 363 by omega) dX7_shows_105
              · refine lv_iload hx hb dX7_shows_82 (lv_at hl 0 rfl) ?_
                refine lv_bipush (v := 6) hx hb dX7_shows_84 (by decide) ?_
                refine mg_icmp_gt (tgt := 104) hx hb h dX7_shows_86 (by decide) (fun h => ?_) (fun h => ?_)
                · refine lv_aload_n hx hb dX7_shows_104 rfl (lv_at hl 3 rfl) ?_
                  cases h
                  exact mg_eR (fun a => if a = 0 then (fun _ => qP_14) else rP_14) rfl hx hb hr (Or.inr ⟨_, rfl⟩) hlocks hw (show cl14_ ≤ 23 by omega) (show sl14_ ≤ 363 by omega) dX7_shows_105
                · refine lv_aload_n hx hb dX7_shows_89 rfl (lv_at hl 1 rfl) ?_
                  refine va_get (D := D) (ci := 7) (v := .ref (α 0 1)) (C := RX7) (T := TX7) (N := 6) hx hb hts iX7_ hown hK (mg_at1 hw.1 0 rfl mg_fS_00) 0 rfl rfl 2 (by decide) w1_ (fun _ h9 => h9) rfl dX7_shows_90 ?_
                  refine lv_iload hx hb dX7_shows_93 (lv_at hl 0 rfl) ?_
                  refine mg_aal hx hb hK hw 0 3 rfl mg_fS_01 rfl rfl h dX7_shows_95 (fun j5 hj5_ h => ?_)
                  refine lv_iload_n hx hb dX7_shows_96 rfl (lv_at hl 4 rfl) ?_
                  refine mg_aal hx hb hK hw 0 2 rfl (mg_fS_1 hj5_) rfl rfl h dX7_shows_97 (fun j6 hj6_ h => ?_)
                  refine lv_iconst (v := 0) hx hb dX7_shows_98 (by decide) ?_
                  refine mg_ial (x := 0) hx hb hK hw 0 rfl (mg_fS_2 hj5_ hj6_) (by unfold vp_in; decide) (by decide) dX7_shows_99 ?_
                  refine lv_iconst (v := 3) hx hb dX7_shows_100 (by decide) ?_
                  refine mg_icmp_ne (tgt := 106) hx hb h dX7_shows_101 (by decide) (fun h => ?_) (fun h => ?_)
                  · refine lv_iconst (v := 2) hx hb dX7_shows_106 (by decide) ?_
                    refine mg_vnewI (n := 2) (N := 2) (B := 2) hx hb w3_ hK hw hA (by decide) rfl (Nat.le_refl _) (Nat.le_of_ble_eq_true rfl) (show cl14_ + 1 ≤ 23 by omega) (show sl14_ + 2 ≤ 363 by omega) dX7_shows_107 (fun q7 H hw => ?_)
                    refine lv_dup hx hb dX7_shows_109 rfl ?_
                    refine lv_iconst (v := 0) hx hb dX7_shows_110 (by decide) ?_
                    refine lv_iload_n hx hb dX7_shows_111 rfl (lv_at hl 4 rfl) ?_
                    refine mg_iasx (x := 0) (F' := mg_fI o q7 2 (upd (fun _ => 0) 0 (x3_14 + y3))) hx hb hK hw 2 rfl mg_fI_0 (by unfold vp_in; decide) (by decide) mg_sI dX7_shows_112 (fun H locs hw => ?_)
                    refine lv_dup hx hb dX7_shows_113 rfl ?_
                    refine lv_iconst (v := 1) hx hb dX7_shows_114 (by decide) ?_
                    refine lv_iload hx hb dX7_shows_115 (lv_at hl 0 rfl) ?_
                    refine mg_iasx (x := 1) (F' := mg_fI o q7 2 (upd (upd (fun _ => 0) 0 (x3_14 + y3)) 1 (x4_14 + y4))) hx hb hK hw 2 rfl mg_fI_0 (by unfold vp_in; decide) (by decide) mg_sI dX7_shows_117 (fun H locs hw => ?_)
                    refine lv_astore (lv' := [(5, .ref q7), (4, .int (x4_14 + y4)), (0, .ref u), (1, .ref (α 4 k0)), (2, .ref qP_14), (3, .int (x3_14 + y3))]) hx hb dX7_shows_118 hl (by decide) rfl (fun ls hl => ?_)
                    refine lv_aload_n hx hb dX7_shows_120 rfl (lv_at hl 4 rfl) ?_
                    refine lv_aload hx hb dX7_shows_121 (lv_at hl 0 rfl) ?_
                    obtain ⟨y9_, h9_, h⟩ := mg_bind h
                    have hn9 := mg_gd_of h9_
                    clear h9_ y9_
                    refine mg_callV (va_runS (As := [.ref qP_14, .ref q7]) (rest := []) G9 (k_X7_more l D o [mg_fS o u α ζ, mg_fP o qP_14 rP_14 nP_14 cP_14, mg_fI o q7 2 (upd (upd (fun _ => 0) 0 (x3_14 + y3)) 1 (x4_14 + y4))] H.size 1 2 rfl mg_fP_0 (fun y hy => ⟨1, _, 1, y, _, _, rfl, mg_fP_1 hy⟩) rfl mg_fI_0 hn9) (va_cwS 2 hts gX7_shows_X7_more rfl rfl rfl (by decide +kernel) ⟨Nat.le_of_ble_eq_true rfl, Nat.le_of_ble_eq_true rfl⟩) (mg_preVv hK hO hA hw) rfl rfl hl.1 rfl (lv_room (Nat.le_of_ble_eq_true rfl)) dX7_shows_123 ⟨(show cl14_ + 1 + 1 ≤ 23 by omega), (show sl14_ + 2 + 31 ≤ 363 by omega)⟩) hw hA [0, 1, 2] [] rfl (Lr := []) rfl rfl (by decide) (fun β8 H locs hw => ?_)
                    have hw : mg_Vo D A s.heap H locs ([mg_fS o u α ζ, mg_fP o qP_14 rP_14 nP_14 cP_14, mg_fI o q7 2 (upd (upd (fun _ => 0) 0 (x3_14 + y3)) 1 (x4_14 + y4)), mg_fQ o (β8 0 0) (nP_14 + 1) (fun y => some (if y = nP_14 then q7 else rP_14 y))]) := hw
                    have hw : mg_Vo D A s.heap H locs ([mg_fS o u α ζ, mg_fP o (β8 0 0) (fun y => if y = nP_14 then q7 else rP_14 y) (nP_14 + 1) (mg_pu cP_14 nP_14 (upd (upd (fun _ => 0) 0 (x3_14 + y3)) 1 (x4_14 + y4)))]) := mg_mergeP (L := [mg_fS o u α ζ]) (mg_Vsub hw [0, 1, 2, 3] rfl rfl)
                    refine lv_astore_n (lv' := [(2, .ref (β8 0 0)), (5, .ref q7), (4, .int (x4_14 + y4)), (0, .ref u), (1, .ref (α 4 k0)), (3, .int (x3_14 + y3))]) hx hb dX7_shows_126 rfl hl (by decide) rfl (fun ls hl => ?_)
                    refine lv_aload_n hx hb dX7_shows_127 rfl (lv_at hl 3 rfl) ?_
                    refine va_get (D := D) (ci := 7) (v := .ref (α 0 1)) (C := RX7) (T := TX7) (N := 6) hx hb hts iX7_ hown hK (mg_at1 hw.1 0 rfl mg_fS_00) 0 rfl rfl 2 (by decide) w1_ (fun _ h9 => h9) rfl dX7_shows_128 ?_
                    refine lv_iload hx hb dX7_shows_131 (lv_at hl 2 rfl) ?_
                    refine mg_aal hx hb hK hw 0 3 rfl mg_fS_01 rfl rfl h dX7_shows_133 (fun j10 hj10_ h => ?_)
                    refine lv_iload_n hx hb dX7_shows_134 rfl (lv_at hl 5 rfl) ?_
                    refine mg_aal hx hb hK hw 0 2 rfl (mg_fS_1 hj10_) rfl rfl h dX7_shows_135 (fun j11 hj11_ h => ?_)
                    refine lv_iconst (v := 0) hx hb dX7_shows_136 (by decide) ?_
                    refine mg_ial (x := 0) hx hb hK hw 0 rfl (mg_fS_2 hj10_ hj11_) (by unfold vp_in; decide) (by decide) dX7_shows_137 ?_
                    refine lv_iconst (v := 1) hx hb dX7_shows_138 (by decide) ?_
                    refine mg_icmp_ne (tgt := 160) hx hb h dX7_shows_139 (by decide) (fun h => ?_) (fun h => ?_)
                    · refine lv_goto (tgt := 14) hx hb dX7_shows_160 (by decide) ?_
                      exact ih _ _ (by omega) (by omega) _ _ _ _ h _ _ H locs ls hw (lv_sub hl [3, 4, 0, 5, 2] rfl)
                    · refine lv_aload_n hx hb dX7_shows_142 rfl (lv_at hl 3 rfl) ?_
                      refine va_get (D := D) (ci := 7) (v := .ref (α 0 1)) (C := RX7) (T := TX7) (N := 6) hx hb hts iX7_ hown hK (mg_at1 hw.1 0 rfl mg_fS_00) 0 rfl rfl 2 (by decide) w1_ (fun _ h9 => h9) rfl dX7_shows_143 ?_
                      refine lv_iload hx hb dX7_shows_146 (lv_at hl 2 rfl) ?_
                      refine mg_aal hx hb hK hw 0 3 rfl mg_fS_01 rfl rfl h dX7_shows_148 (fun j12 hj12_ h => ?_)
                      refine lv_iload_n hx hb dX7_shows_149 rfl (lv_at hl 5 rfl) ?_
                      refine mg_aal hx hb hK hw 0 2 rfl (mg_fS_1 hj12_) rfl rfl h dX7_shows_150 (fun j13 hj13_ h => ?_)
                      refine lv_iconst (v := 2) hx hb dX7_shows_151 (by decide) ?_
                      refine mg_ial (x := 2) hx hb hK hw 0 rfl (mg_fS_2 hj12_ hj13_) (by unfold vp_in; decide) (by decide) dX7_shows_152 ?_
                      refine lv_bipush (v := 6) hx hb dX7_shows_153 (by decide) ?_
                      refine mg_icmp_le (tgt := 160) hx hb h dX7_shows_155 (by decide) (fun h => ?_) (fun h => ?_)
                      · refine lv_goto (tgt := 14) hx hb dX7_shows_160 (by decide) ?_
                        exact ih _ _ (by omega) (by omega) _ _ _ _ h _ _ H locs ls hw (lv_sub hl [3, 4, 0, 5, 2] rfl)
                      · refine lv_aload_n hx hb dX7_shows_158 rfl (lv_at hl 0 rfl) ?_
                        cases h
                        exact mg_eR (fun a => if a = 0 then (fun _ => (β8 0 0)) else (fun y => if y = nP_14 then q7 else rP_14 y)) rfl hx hb hr (Or.inr ⟨_, rfl⟩) hlocks hw (show cl14_ + 2 ≤ 23 by omega) (show sl14_ + 33 ≤ 363 by omega) dX7_shows_159
                  · refine lv_aload_n hx hb dX7_shows_104 rfl (lv_at hl 3 rfl) ?_
                    cases h
                    exact mg_eR (fun a => if a = 0 then (fun _ => qP_14) else rP_14) rfl hx hb hr (Or.inr ⟨_, rfl⟩) hlocks hw (show cl14_ ≤ 23 by omega) (show sl14_ ≤ 363 by omega) dX7_shows_105
        clear h
        have h := h9_
        clear h9_
        refine mg_icmp_ne (tgt := 53) hx hb h dX7_shows_46 (by decide) (fun h => ?_) (fun h => ?_)
        · refine lv_aload_n hx hb dX7_shows_53 rfl (lv_at hl 2 rfl) ?_
          refine lv_iconst (v := 2) hx hb dX7_shows_54 (by decide) ?_
          refine mg_ial (x := 2) hx hb hK hw 0 rfl (mg_fS_4 hk0) (by unfold vp_in; decide) (by decide) dX7_shows_55 ?_
          refine mg_if_ne (tgt := 63) hx hb h dX7_shows_56 (by decide) (fun h => ?_) (fun h => ?_)
          · refine lv_iconst (v := 0) hx hb dX7_shows_63 (by decide) ?_
            cases h
            exact J46_ H locs ls hw (lv_sub hl [1, 2, 3, 0] rfl)
          · refine lv_iconst (v := (-1)) hx hb dX7_shows_59 (by decide) ?_
            refine lv_goto (tgt := 64) hx hb dX7_shows_60 (by decide) ?_
            cases h
            exact J46_ H locs ls hw (lv_sub hl [1, 2, 3, 0] rfl)
        · refine lv_iconst (v := 1) hx hb dX7_shows_49 (by decide) ?_
          refine lv_goto (tgt := 64) hx hb dX7_shows_50 (by decide) ?_
          cases h
          exact J46_ H locs ls hw (lv_sub hl [1, 2, 3, 0] rfl)
      clear h
      have h := h9_
      clear h9_
      refine mg_icmp_ne (tgt := 26) hx hb h dX7_shows_19 (by decide) (fun h => ?_) (fun h => ?_)
      · refine lv_aload_n hx hb dX7_shows_26 rfl (lv_at hl 1 rfl) ?_
        refine lv_iconst (v := 2) hx hb dX7_shows_27 (by decide) ?_
        refine mg_ial (x := 2) hx hb hK hw 0 rfl (mg_fS_4 hk0) (by unfold vp_in; decide) (by decide) dX7_shows_28 ?_
        refine lv_iconst (v := 3) hx hb dX7_shows_29 (by decide) ?_
        refine mg_icmp_ne (tgt := 37) hx hb h dX7_shows_30 (by decide) (fun h => ?_) (fun h => ?_)
        · refine lv_iconst (v := 0) hx hb dX7_shows_37 (by decide) ?_
          cases h
          exact J19_ H locs ls hw (lv_sub hl [0, 1, 2, 4] rfl)
        · refine lv_iconst (v := (-1)) hx hb dX7_shows_33 (by decide) ?_
          refine lv_goto (tgt := 38) hx hb dX7_shows_34 (by decide) ?_
          cases h
          exact J19_ H locs ls hw (lv_sub hl [0, 1, 2, 4] rfl)
      · refine lv_iconst (v := 1) hx hb dX7_shows_22 (by decide) ?_
        refine lv_goto (tgt := 38) hx hb dX7_shows_23 (by decide) ?_
        cases h
        exact J19_ H locs ls hw (lv_sub hl [0, 1, 2, 4] rfl)
  exact L14_ _ 1 0 (by omega) (by omega) _ _ _ _ h _ _ H locs ls hw (lv_sub hl [3, 4, 2, 1, 0] rfl)
set_option maxHeartbeats 8000000 in
set_option maxRecDepth 100000 in
theorem k_X7_beauty (l : Launch) (D : va_G) (o : Nat → Nat) (u : Nat) (α : Nat → Nat → Nat) (sz : Nat) (k0 : Nat) (ζ : mg_Sz) (hk0 : k0 < ζ.2 1) (y : Int32) (h : f_X7_beauty k0 ζ = some y) : mg_CV l yX7_beauty wsX7_beauty ({ frames := 2, cells := 23, slots := 363, locals := 48 } : Room) D o [mg_fS o u α ζ] sz [.ref u, .ref (α 4 k0)] (fun _ => some (.int y)) (fun _ => [mg_fS o u α ζ]) 23 363 := by
  unfold mg_CV
  refine Met.ofW (cc := cX7_beauty) (maxL := 11) (ret := (some .int)) (by decide) rfl ?_
  intro p e s m args below meth c s₁ B hml hv
  obtain ⟨rfl, hsz, hP, hK, hD0, hO⟩ := hv
  have hx := B.exec
  have hb := B.bytes
  have hr := B.returns
  have hts := atoms_spec (ws := wsX7_beauty) B.pre
  have hown : s.vm.findClass RX7 = some m.cls := findClass_of_methodNamed B.named
  have hlocks := B.notSynchronized
  subst hsz
  have hD := hD0.self (sz := s.heap.size)
  generalize hAe : mg_VA [mg_fS o u α ζ] s.heap.size = A at hD hO ⊢
  have hA : ∀ q : Nat, s.heap.size ≤ q → A q := fun q h => by rw [← hAe]; exact Or.inr h
  have hw : mg_Vo D A s.heap s.heap [] ([mg_fS o u α ζ]) := ⟨hP, hD, va_S.rf⟩
  have G9 : CallFix p m c cX7_beauty 11 s ([.ref u, .ref (α 4 k0)] : List Value).toArray wsX7_beauty RX7 := ⟨hx, hb, hml, hown, hts⟩
  clear hP hD hD0 hAe
  have w0_ := hts (.fieldLink RX7 15 "MoonGateLaw$Sim" "cells" "[[[I") (by decide +kernel)
  have iX7_ : ∀ w ∈ wsX70, w ∈ wsX7_beauty := (fun _ h => List.mem_cons_of_mem _ (List.mem_append_right _ h))
  have w2_ := hts (.fieldLink RX7 20 "MoonGateLaw$Sim" "carps" "[[I") (by decide +kernel)
  have hl := lv_entry ([.ref u, .ref (α 4 k0)]) (n := 11) (Nat.le_of_ble_eq_true rfl)
  rw [lg_entry_eq]
  generalize (lg_sl ([.ref u, .ref (α 4 k0)]) ++ List.replicate (11 - (lg_sl ([.ref u, .ref (α 4 k0)])).length) Slot.unset).toArray = ls at hl ⊢
  have hl : lv_has ls 11 [(0, .ref u), (1, .ref (α 4 k0))] := hl
  unfold f_X7_beauty at h
  suffices K_ : ∀ (H : Heap) (locs : List Loc), mg_Vo D A s.heap H locs ([mg_fS o u α ζ]) → W p l e (headSpec wsX7_beauty ({ frames := 2, cells := 23, slots := 363, locals := 48 } : Room)).room s m ([.ref u, .ref (α 4 k0)] : List Value).toArray below meth c H locs 0 0 (MQ below (mg_QV D (fun _ => [mg_fS o u α ζ]) A (fun _ => some (.int y))) ([.ref u, .ref (α 4 k0)] : List Value).toArray s 23 363 A) (F0 m 0 ls []) from K_ _ _ hw
  clear hw
  intro H locs hw
  refine lv_aload_n hx hb dX7_beauty_0 rfl (lv_at hl 0 rfl) ?_
  refine lv_aload_n hx hb dX7_beauty_1 rfl (lv_at hl 1 rfl) ?_
  obtain ⟨y1, h9_, h⟩ := mg_bind h
  refine mg_callV (va_runV (As := [.ref (α 4 k0)]) (rest := []) G9 (k_X7_shows l D o u α H.size k0 ζ hk0 y1 h9_) (cwV 1 hts gX7_beauty_X7_shows rfl rfl rfl (by decide +kernel) ⟨Nat.le_of_ble_eq_true rfl, Nat.le_of_ble_eq_true rfl⟩) (mg_preVV hK hO hA (mg_Vsub (L' := [mg_fS o u α ζ]) hw [0] rfl rfl) 0 rfl mg_fS_00 rfl) rfl rfl hl.1 rfl (lv_room (Nat.le_of_ble_eq_true rfl)) dX7_beauty_2 ⟨(show 0 + 23 ≤ 23 by omega), (show 0 + 363 ≤ 363 by omega)⟩) hw hA [0] [] rfl (Lr := []) rfl rfl (by decide) (fun β2 H locs hw => ?_)
  clear h9_
  have hw : mg_Vo D A s.heap H locs ([mg_fS o u α ζ, mg_fP o (β2 0 0) (β2 1) y1.1 y1.2]) := hw
  refine lv_astore_n (lv' := [(2, .ref (β2 0 0)), (0, .ref u), (1, .ref (α 4 k0))]) hx hb dX7_beauty_5 rfl hl (by decide) rfl (fun ls hl => ?_)
  refine lv_iconst (v := 0) hx hb dX7_beauty_6 (by decide) ?_
  refine lv_istore_n (lv' := [(3, .int 0), (2, .ref (β2 0 0)), (0, .ref u), (1, .ref (α 4 k0))]) hx hb dX7_beauty_7 rfl hl (by decide) rfl (fun ls hl => ?_)
  refine lv_iconst (v := 0) hx hb dX7_beauty_8 (by decide) ?_
  refine lv_istore (lv' := [(4, .int 0), (3, .int 0), (2, .ref (β2 0 0)), (0, .ref u), (1, .ref (α 4 k0))]) hx hb dX7_beauty_9 hl (by decide) rfl (fun ls hl => ?_)
  have L11_ : ∀ (n : Nat), ∀ (x3_11 : Int32) (x4_11 : Int32) (y11_ : Int32 × Int32), f_X7_beauty_11 k0 ζ y1.1 y1.2 n x3_11 x4_11 = some y11_ → (∀ (H : Heap) (locs : List Loc) (ls : Array Slot), mg_Vo D A s.heap H locs ([mg_fS o u α ζ, mg_fP o (β2 0 0) (β2 1) y1.1 y1.2]) → lv_has ls 11 [(3, .int y11_.1)] → W p l e (headSpec wsX7_beauty ({ frames := 2, cells := 23, slots := 363, locals := 48 } : Room)).room s m ([.ref u, .ref (α 4 k0)] : List Value).toArray below meth c H locs 23 363 (MQ below (mg_QV D (fun _ => [mg_fS o u α ζ]) A (fun _ => some (.int y))) ([.ref u, .ref (α 4 k0)] : List Value).toArray s 23 363 A) (F0 m 247 ls [])) → ∀ (H : Heap) (locs : List Loc) (ls : Array Slot), mg_Vo D A s.heap H locs ([mg_fS o u α ζ, mg_fP o (β2 0 0) (β2 1) y1.1 y1.2]) → lv_has ls 11 [(0, .ref u), (2, .ref (β2 0 0)), (3, .int x3_11), (4, .int x4_11)] → W p l e (headSpec wsX7_beauty ({ frames := 2, cells := 23, slots := 363, locals := 48 } : Room)).room s m ([.ref u, .ref (α 4 k0)] : List Value).toArray below meth c H locs 23 363 (MQ below (mg_QV D (fun _ => [mg_fS o u α ζ]) A (fun _ => some (.int y))) ([.ref u, .ref (α 4 k0)] : List Value).toArray s 23 363 A) (F0 m 11 ls []) := by
    intro n
    induction n with
    | zero => intro x3_11 x4_11 y11_ h; rw [f_X7_beauty_11] at h; cases h
    | succ n ih =>
      intro x3_11 x4_11 y11_ h kc H locs ls hw hl
      rw [f_X7_beauty_11] at h
      refine lv_iload hx hb dX7_beauty_11 (lv_at hl 3 rfl) ?_
      refine lv_aload_n hx hb dX7_beauty_13 rfl (lv_at hl 1 rfl) ?_
      refine mg_alenq hx hb hK hw 1 2 rfl mg_fP_0 rfl dX7_beauty_14 ?_
      refine mg_icmp_ge (tgt := 247) hx hb h dX7_beauty_15 (by decide) (fun h => ?_) (fun h => ?_)
      · cases h
        exact kc H locs ls hw (lv_sub hl [2] rfl)
      · refine lv_aload_n hx hb dX7_beauty_18 rfl (lv_at hl 0 rfl) ?_
        refine va_get (D := D) (ci := 7) (v := .ref (α 0 1)) (C := RX7) (T := TX7) (N := 6) hx hb hts iX7_ hown hK (mg_at1 hw.1 0 rfl mg_fS_00) 0 rfl rfl 2 (by decide) w0_ (fun _ h9 => h9) rfl dX7_beauty_19 ?_
        refine lv_aload_n hx hb dX7_beauty_22 rfl (lv_at hl 1 rfl) ?_
        refine lv_iload hx hb dX7_beauty_23 (lv_at hl 3 rfl) ?_
        refine mg_aal hx hb hK hw 1 2 rfl mg_fP_0 rfl rfl h dX7_beauty_25 (fun j4 hj4_ h => ?_)
        refine lv_iconst (v := 1) hx hb dX7_beauty_26 (by decide) ?_
        refine mg_ial (x := 1) hx hb hK hw 1 rfl (mg_fP_1 hj4_) (by unfold vp_in; decide) (by decide) dX7_beauty_27 ?_
        refine mg_aal hx hb hK hw 0 3 rfl mg_fS_01 rfl rfl h dX7_beauty_28 (fun j5 hj5_ h => ?_)
        refine lv_aload_n hx hb dX7_beauty_29 rfl (lv_at hl 1 rfl) ?_
        refine lv_iload hx hb dX7_beauty_30 (lv_at hl 3 rfl) ?_
        refine mg_aal hx hb hK hw 1 2 rfl mg_fP_0 rfl rfl h dX7_beauty_32 (fun j6 hj6_ h => ?_)
        refine lv_iconst (v := 0) hx hb dX7_beauty_33 (by decide) ?_
        refine mg_ial (x := 0) hx hb hK hw 1 rfl (mg_fP_1 hj6_) (by unfold vp_in; decide) (by decide) dX7_beauty_34 ?_
        refine mg_aal hx hb hK hw 0 2 rfl (mg_fS_1 hj5_) rfl rfl h dX7_beauty_35 (fun j7 hj7_ h => ?_)
        refine lv_astore (lv' := [(5, .ref (α 2 (10 * j5 + j7))), (0, .ref u), (2, .ref (β2 0 0)), (3, .int x3_11), (4, .int x4_11)]) hx hb dX7_beauty_36 hl (by decide) rfl (fun ls hl => ?_)
        refine lv_aload hx hb dX7_beauty_38 (lv_at hl 0 rfl) ?_
        refine lv_iconst (v := 0) hx hb dX7_beauty_40 (by decide) ?_
        refine mg_ial (x := 0) hx hb hK hw 0 rfl (mg_fS_2 hj5_ hj7_) (by unfold vp_in; decide) (by decide) dX7_beauty_41 ?_
        refine lv_iconst (v := 1) hx hb dX7_beauty_42 (by decide) ?_
        obtain ⟨y8, h9_, h⟩ := mg_bind h
        have J43_ : ∀ (H : Heap) (locs : List Loc) (ls : Array Slot), mg_Vo D A s.heap H locs ([mg_fS o u α ζ, mg_fP o (β2 0 0) (β2 1) y1.1 y1.2]) → lv_has ls 11 [(0, .ref u), (2, .ref (β2 0 0)), (3, .int y8), (4, .int x4_11), (5, .ref (α 2 (10 * j5 + j7)))] → W p l e (headSpec wsX7_beauty ({ frames := 2, cells := 23, slots := 363, locals := 48 } : Room)).room s m ([.ref u, .ref (α 4 k0)] : List Value).toArray below meth c H locs 23 363 (MQ below (mg_QV D (fun _ => [mg_fS o u α ζ]) A (fun _ => some (.int y))) ([.ref u, .ref (α 4 k0)] : List Value).toArray s 23 363 A) (F0 m 144 ls []) := by
          intro H locs ls hw hl
          clear h9_
          refine lv_aload hx hb dX7_beauty_144 (lv_at hl 4 rfl) ?_
          refine lv_iconst (v := 0) hx hb dX7_beauty_146 (by decide) ?_
          refine mg_ial (x := 0) hx hb hK hw 0 rfl (mg_fS_2 hj5_ hj7_) (by unfold vp_in; decide) (by decide) dX7_beauty_147 ?_
          refine lv_iconst (v := 2) hx hb dX7_beauty_148 (by decide) ?_
          refine mg_icmp_ne (tgt := 241) hx hb h dX7_beauty_149 (by decide) (fun h => ?_) (fun h => ?_)
          · refine lv_iinc (v := (x4_11 + 1)) (lv' := [(4, .int (x4_11 + 1)), (0, .ref u), (2, .ref (β2 0 0)), (3, .int y8), (5, .ref (α 2 (10 * j5 + j7)))]) hx hb dX7_beauty_241 hl (k := 3) rfl rfl (by decide) rfl (fun ls hl => ?_)
            refine lv_goto (tgt := 11) hx hb dX7_beauty_244 (by decide) ?_
            exact ih _ _ _ h kc H locs ls hw (lv_sub hl [1, 2, 3, 0] rfl)
          · refine lv_iconst (v := 0) hx hb dX7_beauty_152 (by decide) ?_
            refine lv_istore (lv' := [(6, .int 0), (0, .ref u), (2, .ref (β2 0 0)), (3, .int y8), (4, .int x4_11), (5, .ref (α 2 (10 * j5 + j7)))]) hx hb dX7_beauty_153 hl (by decide) rfl (fun ls hl => ?_)
            refine lv_aload_n hx hb dX7_beauty_155 rfl (lv_at hl 1 rfl) ?_
            refine va_get (D := D) (ci := 7) (v := .ref (α 0 2)) (C := RX7) (T := TX7) (N := 6) hx hb hts iX7_ hown hK (mg_at1 hw.1 0 rfl mg_fS_00) 0 rfl rfl 3 (by decide) w2_ (fun _ h9 => h9) rfl dX7_beauty_156 ?_
            refine lv_astore (lv' := [(7, .ref (α 0 2)), (6, .int 0), (0, .ref u), (2, .ref (β2 0 0)), (3, .int y8), (4, .int x4_11), (5, .ref (α 2 (10 * j5 + j7)))]) hx hb dX7_beauty_159 hl (by decide) rfl (fun ls hl => ?_)
            refine lv_aload hx hb dX7_beauty_161 (lv_at hl 0 rfl) ?_
            refine mg_alenq hx hb hK hw 0 2 rfl mg_fS_02 rfl dX7_beauty_163 ?_
            refine lv_istore (lv' := [(8, .int (nI (ζ.2 0))), (7, .ref (α 0 2)), (6, .int 0), (0, .ref u), (2, .ref (β2 0 0)), (3, .int y8), (4, .int x4_11), (5, .ref (α 2 (10 * j5 + j7)))]) hx hb dX7_beauty_164 hl (by decide) rfl (fun ls hl => ?_)
            refine lv_iconst (v := 0) hx hb dX7_beauty_166 (by decide) ?_
            refine lv_istore (lv' := [(9, .int 0), (8, .int (nI (ζ.2 0))), (7, .ref (α 0 2)), (6, .int 0), (0, .ref u), (2, .ref (β2 0 0)), (3, .int y8), (4, .int x4_11), (5, .ref (α 2 (10 * j5 + j7)))]) hx hb dX7_beauty_167 hl (by decide) rfl (fun ls hl => ?_)
            have L169_ : ∀ (n : Nat), ∀ (x6_169 : Int32) (x9_169 : Int32) (y169_ : Int32 × Int32), f_X7_beauty_169 k0 y8 x4_11 (nI (ζ.2 0)) ζ y1.1 y1.2 n x6_169 x9_169 = some y169_ → (∀ (H : Heap) (locs : List Loc) (ls : Array Slot), mg_Vo D A s.heap H locs ([mg_fS o u α ζ, mg_fP o (β2 0 0) (β2 1) y1.1 y1.2]) → lv_has ls 11 [(0, .ref u), (2, .ref (β2 0 0)), (3, .int y8), (4, .int x4_11), (6, .int y169_.1)] → W p l e (headSpec wsX7_beauty ({ frames := 2, cells := 23, slots := 363, locals := 48 } : Room)).room s m ([.ref u, .ref (α 4 k0)] : List Value).toArray below meth c H locs 23 363 (MQ below (mg_QV D (fun _ => [mg_fS o u α ζ]) A (fun _ => some (.int y))) ([.ref u, .ref (α 4 k0)] : List Value).toArray s 23 363 A) (F0 m 231 ls [])) → ∀ (H : Heap) (locs : List Loc) (ls : Array Slot), mg_Vo D A s.heap H locs ([mg_fS o u α ζ, mg_fP o (β2 0 0) (β2 1) y1.1 y1.2]) → lv_has ls 11 [(0, .ref u), (2, .ref (β2 0 0)), (3, .int y8), (4, .int x4_11), (6, .int x6_169), (7, .ref (α 0 2)), (8, .int (nI (ζ.2 0))), (9, .int x9_169)] → W p l e (headSpec wsX7_beauty ({ frames := 2, cells := 23, slots := 363, locals := 48 } : Room)).room s m ([.ref u, .ref (α 4 k0)] : List Value).toArray below meth c H locs 23 363 (MQ below (mg_QV D (fun _ => [mg_fS o u α ζ]) A (fun _ => some (.int y))) ([.ref u, .ref (α 4 k0)] : List Value).toArray s 23 363 A) (F0 m 169 ls []) := by
              intro n
              induction n with
              | zero => intro x6_169 x9_169 y169_ h; rw [f_X7_beauty_169] at h; cases h
              | succ n ih =>
                intro x6_169 x9_169 y169_ h kc H locs ls hw hl
                rw [f_X7_beauty_169] at h
                refine lv_iload hx hb dX7_beauty_169 (lv_at hl 7 rfl) ?_
                refine lv_iload hx hb dX7_beauty_171 (lv_at hl 6 rfl) ?_
                refine mg_icmp_ge (tgt := 231) hx hb h dX7_beauty_173 (by decide) (fun h => ?_) (fun h => ?_)
                · cases h
                  exact kc H locs ls hw (lv_sub hl [0, 1, 2, 3, 4] rfl)
                · refine lv_aload hx hb dX7_beauty_176 (lv_at hl 5 rfl) ?_
                  refine lv_iload hx hb dX7_beauty_178 (lv_at hl 7 rfl) ?_
                  refine mg_aal hx hb hK hw 0 2 rfl mg_fS_02 rfl rfl h dX7_beauty_180 (fun j19 hj19_ h => ?_)
                  refine lv_astore (lv' := [(10, .ref (α 3 j19)), (0, .ref u), (2, .ref (β2 0 0)), (3, .int y8), (4, .int x4_11), (6, .int x6_169), (7, .ref (α 0 2)), (8, .int (nI (ζ.2 0))), (9, .int x9_169)]) hx hb dX7_beauty_181 hl (by decide) rfl (fun ls hl => ?_)
                  refine lv_aload hx hb dX7_beauty_183 (lv_at hl 0 rfl) ?_
                  refine lv_iconst (v := 3) hx hb dX7_beauty_185 (by decide) ?_
                  refine mg_ial (x := 3) hx hb hK hw 0 rfl (mg_fS_3 hj19_) (by unfold vp_in; decide) (by decide) dX7_beauty_186 ?_
                  refine mg_if_ne (tgt := 225) hx hb h dX7_beauty_187 (by decide) (fun h => ?_) (fun h => ?_)
                  · refine lv_iinc (v := (x9_169 + 1)) (lv' := [(9, .int (x9_169 + 1)), (10, .ref (α 3 j19)), (0, .ref u), (2, .ref (β2 0 0)), (3, .int y8), (4, .int x4_11), (6, .int x6_169), (7, .ref (α 0 2)), (8, .int (nI (ζ.2 0)))]) hx hb dX7_beauty_225 hl (k := 8) rfl rfl (by decide) rfl (fun ls hl => ?_)
                    refine lv_goto (tgt := 169) hx hb dX7_beauty_228 (by decide) ?_
                    exact ih _ _ _ h kc H locs ls hw (lv_sub hl [2, 3, 4, 5, 6, 7, 8, 0] rfl)
                  · refine lv_aload hx hb dX7_beauty_190 (lv_at hl 0 rfl) ?_
                    refine lv_iconst (v := 0) hx hb dX7_beauty_192 (by decide) ?_
                    refine mg_ial (x := 0) hx hb hK hw 0 rfl (mg_fS_3 hj19_) (by unfold vp_in; decide) (by decide) dX7_beauty_193 ?_
                    refine lv_aload_n hx hb dX7_beauty_194 rfl (lv_at hl 2 rfl) ?_
                    refine lv_iload hx hb dX7_beauty_195 (lv_at hl 4 rfl) ?_
                    refine mg_aal hx hb hK hw 1 2 rfl mg_fP_0 rfl rfl h dX7_beauty_197 (fun j20 hj20_ h => ?_)
                    refine lv_iconst (v := 0) hx hb dX7_beauty_198 (by decide) ?_
                    refine mg_ial (x := 0) hx hb hK hw 1 rfl (mg_fP_1 hj20_) (by unfold vp_in; decide) (by decide) dX7_beauty_199 ?_
                    refine mg_icmp_ne (tgt := 225) hx hb h dX7_beauty_200 (by decide) (fun h => ?_) (fun h => ?_)
                    · refine lv_iinc (v := (x9_169 + 1)) (lv' := [(9, .int (x9_169 + 1)), (10, .ref (α 3 j19)), (0, .ref u), (2, .ref (β2 0 0)), (3, .int y8), (4, .int x4_11), (6, .int x6_169), (7, .ref (α 0 2)), (8, .int (nI (ζ.2 0)))]) hx hb dX7_beauty_225 hl (k := 8) rfl rfl (by decide) rfl (fun ls hl => ?_)
                      refine lv_goto (tgt := 169) hx hb dX7_beauty_228 (by decide) ?_
                      exact ih _ _ _ h kc H locs ls hw (lv_sub hl [2, 3, 4, 5, 6, 7, 8, 0] rfl)
                    · refine lv_aload hx hb dX7_beauty_203 (lv_at hl 0 rfl) ?_
                      refine lv_iconst (v := 1) hx hb dX7_beauty_205 (by decide) ?_
                      refine mg_ial (x := 1) hx hb hK hw 0 rfl (mg_fS_3 hj19_) (by unfold vp_in; decide) (by decide) dX7_beauty_206 ?_
                      refine lv_aload_n hx hb dX7_beauty_207 rfl (lv_at hl 2 rfl) ?_
                      refine lv_iload hx hb dX7_beauty_208 (lv_at hl 4 rfl) ?_
                      refine mg_aal hx hb hK hw 1 2 rfl mg_fP_0 rfl rfl h dX7_beauty_210 (fun j21 hj21_ h => ?_)
                      refine lv_iconst (v := 1) hx hb dX7_beauty_211 (by decide) ?_
                      refine mg_ial (x := 1) hx hb hK hw 1 rfl (mg_fP_1 hj21_) (by unfold vp_in; decide) (by decide) dX7_beauty_212 ?_
                      refine mg_icmp_ne (tgt := 225) hx hb h dX7_beauty_213 (by decide) (fun h => ?_) (fun h => ?_)
                      · refine lv_iinc (v := (x9_169 + 1)) (lv' := [(9, .int (x9_169 + 1)), (10, .ref (α 3 j19)), (0, .ref u), (2, .ref (β2 0 0)), (3, .int y8), (4, .int x4_11), (6, .int x6_169), (7, .ref (α 0 2)), (8, .int (nI (ζ.2 0)))]) hx hb dX7_beauty_225 hl (k := 8) rfl rfl (by decide) rfl (fun ls hl => ?_)
                        refine lv_goto (tgt := 169) hx hb dX7_beauty_228 (by decide) ?_
                        exact ih _ _ _ h kc H locs ls hw (lv_sub hl [2, 3, 4, 5, 6, 7, 8, 0] rfl)
                      · refine lv_iload hx hb dX7_beauty_216 (lv_at hl 5 rfl) ?_
                        refine lv_aload hx hb dX7_beauty_218 (lv_at hl 0 rfl) ?_
                        refine lv_iconst (v := 2) hx hb dX7_beauty_220 (by decide) ?_
                        refine mg_ial (x := 2) hx hb hK hw 0 rfl (mg_fS_3 hj19_) (by unfold vp_in; decide) (by decide) dX7_beauty_221 ?_
                        refine lv_iadd hx hb dX7_beauty_222 ?_
                        refine lv_istore (lv' := [(6, .int (x6_169 + ((ζ.1 3 j19) 2))), (10, .ref (α 3 j19)), (0, .ref u), (2, .ref (β2 0 0)), (3, .int y8), (4, .int x4_11), (7, .ref (α 0 2)), (8, .int (nI (ζ.2 0))), (9, .int x9_169)]) hx hb dX7_beauty_223 hl (by decide) rfl (fun ls hl => ?_)
                        refine lv_iinc (v := (x9_169 + 1)) (lv' := [(9, .int (x9_169 + 1)), (6, .int (x6_169 + ((ζ.1 3 j19) 2))), (10, .ref (α 3 j19)), (0, .ref u), (2, .ref (β2 0 0)), (3, .int y8), (4, .int x4_11), (7, .ref (α 0 2)), (8, .int (nI (ζ.2 0)))]) hx hb dX7_beauty_225 hl (k := 8) rfl rfl (by decide) rfl (fun ls hl => ?_)
                        refine lv_goto (tgt := 169) hx hb dX7_beauty_228 (by decide) ?_
                        exact ih _ _ _ h kc H locs ls hw (lv_sub hl [3, 4, 5, 6, 1, 7, 8, 0] rfl)
            obtain ⟨y18, h9_, h⟩ := mg_bind h
            refine L169_ _ _ _ _ h9_ (fun H locs ls hw hl => ?_) H locs ls hw (lv_sub hl [4, 5, 6, 7, 3, 2, 1, 0] rfl)
            clear L169_ h9_
            refine lv_iload_n hx hb dX7_beauty_231 rfl (lv_at hl 2 rfl) ?_
            refine lv_iconst (v := 3) hx hb dX7_beauty_232 (by decide) ?_
            refine lv_iload hx hb dX7_beauty_233 (lv_at hl 4 rfl) ?_
            refine lv_bipush (v := 10) hx hb dX7_beauty_235 (by decide) ?_
            refine lv_idiv hx hb dX7_beauty_237 (by decide) ?_
            refine lv_iadd hx hb dX7_beauty_238 ?_
            refine lv_iadd hx hb dX7_beauty_239 ?_
            refine lv_istore_n (lv' := [(3, .int (y8 + (3 + (y18.1 / 10)))), (0, .ref u), (2, .ref (β2 0 0)), (4, .int x4_11), (6, .int y18.1)]) hx hb dX7_beauty_240 rfl hl (by decide) rfl (fun ls hl => ?_)
            refine lv_iinc (v := (x4_11 + 1)) (lv' := [(4, .int (x4_11 + 1)), (3, .int (y8 + (3 + (y18.1 / 10)))), (0, .ref u), (2, .ref (β2 0 0)), (6, .int y18.1)]) hx hb dX7_beauty_241 hl (k := 3) rfl rfl (by decide) rfl (fun ls hl => ?_)
            refine lv_goto (tgt := 11) hx hb dX7_beauty_244 (by decide) ?_
            exact ih _ _ _ h kc H locs ls hw (lv_sub hl [2, 3, 1, 0] rfl)
        clear h
        have h := h9_
        clear h9_
        refine mg_icmp_ne (tgt := 144) hx hb h dX7_beauty_43 (by decide) (fun h => ?_) (fun h => ?_)
        · cases h
          exact J43_ H locs ls hw (lv_sub hl [1, 2, 3, 4, 0] rfl)
        · refine lv_iconst (v := 1) hx hb dX7_beauty_46 (by decide) ?_
          refine lv_istore (lv' := [(6, .int 1), (5, .ref (α 2 (10 * j5 + j7))), (0, .ref u), (2, .ref (β2 0 0)), (3, .int x3_11), (4, .int x4_11)]) hx hb dX7_beauty_47 hl (by decide) rfl (fun ls hl => ?_)
          refine lv_iconst (v := 0) hx hb dX7_beauty_49 (by decide) ?_
          refine lv_istore (lv' := [(7, .int 0), (6, .int 1), (5, .ref (α 2 (10 * j5 + j7))), (0, .ref u), (2, .ref (β2 0 0)), (3, .int x3_11), (4, .int x4_11)]) hx hb dX7_beauty_50 hl (by decide) rfl (fun ls hl => ?_)
          have L52_ : ∀ (n : Nat), ∀ (x6_52 : Int32) (x7_52 : Int32) (y52_ : Int32 × Int32), f_X7_beauty_52 k0 j5 j7 x3_11 x4_11 ζ y1.1 y1.2 n x6_52 x7_52 = some y52_ → (∀ (H : Heap) (locs : List Loc) (ls : Array Slot), mg_Vo D A s.heap H locs ([mg_fS o u α ζ, mg_fP o (β2 0 0) (β2 1) y1.1 y1.2]) → lv_has ls 11 [(0, .ref u), (2, .ref (β2 0 0)), (3, .int x3_11), (4, .int x4_11), (5, .ref (α 2 (10 * j5 + j7))), (6, .int y52_.1)] → W p l e (headSpec wsX7_beauty ({ frames := 2, cells := 23, slots := 363, locals := 48 } : Room)).room s m ([.ref u, .ref (α 4 k0)] : List Value).toArray below meth c H locs 23 363 (MQ below (mg_QV D (fun _ => [mg_fS o u α ζ]) A (fun _ => some (.int y))) ([.ref u, .ref (α 4 k0)] : List Value).toArray s 23 363 A) (F0 m 126 ls [])) → ∀ (H : Heap) (locs : List Loc) (ls : Array Slot), mg_Vo D A s.heap H locs ([mg_fS o u α ζ, mg_fP o (β2 0 0) (β2 1) y1.1 y1.2]) → lv_has ls 11 [(0, .ref u), (2, .ref (β2 0 0)), (3, .int x3_11), (4, .int x4_11), (5, .ref (α 2 (10 * j5 + j7))), (6, .int x6_52), (7, .int x7_52)] → W p l e (headSpec wsX7_beauty ({ frames := 2, cells := 23, slots := 363, locals := 48 } : Room)).room s m ([.ref u, .ref (α 4 k0)] : List Value).toArray below meth c H locs 23 363 (MQ below (mg_QV D (fun _ => [mg_fS o u α ζ]) A (fun _ => some (.int y))) ([.ref u, .ref (α 4 k0)] : List Value).toArray s 23 363 A) (F0 m 52 ls []) := by
            intro n
            induction n with
            | zero => intro x6_52 x7_52 y52_ h; rw [f_X7_beauty_52] at h; cases h
            | succ n ih =>
              intro x6_52 x7_52 y52_ h kc H locs ls hw hl
              rw [f_X7_beauty_52] at h
              refine lv_iload hx hb dX7_beauty_52 (lv_at hl 6 rfl) ?_
              refine lv_iload hx hb dX7_beauty_54 (lv_at hl 3 rfl) ?_
              refine mg_icmp_ge (tgt := 126) hx hb h dX7_beauty_56 (by decide) (fun h => ?_) (fun h => ?_)
              · cases h
                exact kc H locs ls hw (lv_sub hl [0, 1, 2, 3, 4, 5] rfl)
              · refine lv_iload hx hb dX7_beauty_59 (lv_at hl 5 rfl) ?_
                refine lv_aload_n hx hb dX7_beauty_61 rfl (lv_at hl 0 rfl) ?_
                refine va_get (D := D) (ci := 7) (v := .ref (α 0 1)) (C := RX7) (T := TX7) (N := 6) hx hb hts iX7_ hown hK (mg_at1 hw.1 0 rfl mg_fS_00) 0 rfl rfl 2 (by decide) w0_ (fun _ h9 => h9) rfl dX7_beauty_62 ?_
                refine lv_aload_n hx hb dX7_beauty_65 rfl (lv_at hl 1 rfl) ?_
                refine lv_iload hx hb dX7_beauty_66 (lv_at hl 6 rfl) ?_
                refine mg_aal hx hb hK hw 1 2 rfl mg_fP_0 rfl rfl h dX7_beauty_68 (fun j10 hj10_ h => ?_)
                refine lv_iconst (v := 1) hx hb dX7_beauty_69 (by decide) ?_
                refine mg_ial (x := 1) hx hb hK hw 1 rfl (mg_fP_1 hj10_) (by unfold vp_in; decide) (by decide) dX7_beauty_70 ?_
                refine mg_aal hx hb hK hw 0 3 rfl mg_fS_01 rfl rfl h dX7_beauty_71 (fun j11 hj11_ h => ?_)
                refine lv_aload_n hx hb dX7_beauty_72 rfl (lv_at hl 1 rfl) ?_
                refine lv_iload hx hb dX7_beauty_73 (lv_at hl 6 rfl) ?_
                refine mg_aal hx hb hK hw 1 2 rfl mg_fP_0 rfl rfl h dX7_beauty_75 (fun j12 hj12_ h => ?_)
                refine lv_iconst (v := 0) hx hb dX7_beauty_76 (by decide) ?_
                refine mg_ial (x := 0) hx hb hK hw 1 rfl (mg_fP_1 hj12_) (by unfold vp_in; decide) (by decide) dX7_beauty_77 ?_
                refine mg_aal hx hb hK hw 0 2 rfl (mg_fS_1 hj11_) rfl rfl h dX7_beauty_78 (fun j13 hj13_ h => ?_)
                refine lv_iconst (v := 0) hx hb dX7_beauty_79 (by decide) ?_
                refine mg_ial (x := 0) hx hb hK hw 0 rfl (mg_fS_2 hj11_ hj13_) (by unfold vp_in; decide) (by decide) dX7_beauty_80 ?_
                refine lv_iconst (v := 1) hx hb dX7_beauty_81 (by decide) ?_
                refine mg_icmp_ne (tgt := 112) hx hb h dX7_beauty_82 (by decide) (fun h => ?_) (fun h => ?_)
                · refine lv_iconst (v := 1) hx hb dX7_beauty_112 (by decide) ?_
                  refine lv_goto (tgt := 117) hx hb dX7_beauty_113 (by decide) ?_
                  refine lv_iand hx hb dX7_beauty_117 ?_
                  refine lv_istore (lv' := [(6, .int (x6_52 &&& 1)), (0, .ref u), (2, .ref (β2 0 0)), (3, .int x3_11), (4, .int x4_11), (5, .ref (α 2 (10 * j5 + j7))), (7, .int x7_52)]) hx hb dX7_beauty_118 hl (by decide) rfl (fun ls hl => ?_)
                  refine lv_iinc (v := (x7_52 + 1)) (lv' := [(7, .int (x7_52 + 1)), (6, .int (x6_52 &&& 1)), (0, .ref u), (2, .ref (β2 0 0)), (3, .int x3_11), (4, .int x4_11), (5, .ref (α 2 (10 * j5 + j7)))]) hx hb dX7_beauty_120 hl (k := 6) rfl rfl (by decide) rfl (fun ls hl => ?_)
                  refine lv_goto (tgt := 52) hx hb dX7_beauty_123 (by decide) ?_
                  exact ih _ _ _ h kc H locs ls hw (lv_sub hl [2, 3, 4, 5, 6, 1, 0] rfl)
                · refine lv_aload_n hx hb dX7_beauty_85 rfl (lv_at hl 0 rfl) ?_
                  refine va_get (D := D) (ci := 7) (v := .ref (α 0 1)) (C := RX7) (T := TX7) (N := 6) hx hb hts iX7_ hown hK (mg_at1 hw.1 0 rfl mg_fS_00) 0 rfl rfl 2 (by decide) w0_ (fun _ h9 => h9) rfl dX7_beauty_86 ?_
                  refine lv_aload_n hx hb dX7_beauty_89 rfl (lv_at hl 1 rfl) ?_
                  refine lv_iload hx hb dX7_beauty_90 (lv_at hl 6 rfl) ?_
                  refine mg_aal hx hb hK hw 1 2 rfl mg_fP_0 rfl rfl h dX7_beauty_92 (fun j14 hj14_ h => ?_)
                  refine lv_iconst (v := 1) hx hb dX7_beauty_93 (by decide) ?_
                  refine mg_ial (x := 1) hx hb hK hw 1 rfl (mg_fP_1 hj14_) (by unfold vp_in; decide) (by decide) dX7_beauty_94 ?_
                  refine mg_aal hx hb hK hw 0 3 rfl mg_fS_01 rfl rfl h dX7_beauty_95 (fun j15 hj15_ h => ?_)
                  refine lv_aload_n hx hb dX7_beauty_96 rfl (lv_at hl 1 rfl) ?_
                  refine lv_iload hx hb dX7_beauty_97 (lv_at hl 6 rfl) ?_
                  refine mg_aal hx hb hK hw 1 2 rfl mg_fP_0 rfl rfl h dX7_beauty_99 (fun j16 hj16_ h => ?_)
                  refine lv_iconst (v := 0) hx hb dX7_beauty_100 (by decide) ?_
                  refine mg_ial (x := 0) hx hb hK hw 1 rfl (mg_fP_1 hj16_) (by unfold vp_in; decide) (by decide) dX7_beauty_101 ?_
                  refine mg_aal hx hb hK hw 0 2 rfl (mg_fS_1 hj15_) rfl rfl h dX7_beauty_102 (fun j17 hj17_ h => ?_)
                  refine lv_iconst (v := 1) hx hb dX7_beauty_103 (by decide) ?_
                  refine mg_ial (x := 1) hx hb hK hw 0 rfl (mg_fS_2 hj15_ hj17_) (by unfold vp_in; decide) (by decide) dX7_beauty_104 ?_
                  refine lv_aload hx hb dX7_beauty_105 (lv_at hl 4 rfl) ?_
                  refine lv_iconst (v := 1) hx hb dX7_beauty_107 (by decide) ?_
                  refine mg_ial (x := 1) hx hb hK hw 0 rfl (mg_fS_2 hj5_ hj7_) (by unfold vp_in; decide) (by decide) dX7_beauty_108 ?_
                  refine mg_icmp_eq (tgt := 116) hx hb h dX7_beauty_109 (by decide) (fun h => ?_) (fun h => ?_)
                  · refine lv_iconst (v := 0) hx hb dX7_beauty_116 (by decide) ?_
                    refine lv_iand hx hb dX7_beauty_117 ?_
                    refine lv_istore (lv' := [(6, .int (x6_52 &&& 0)), (0, .ref u), (2, .ref (β2 0 0)), (3, .int x3_11), (4, .int x4_11), (5, .ref (α 2 (10 * j5 + j7))), (7, .int x7_52)]) hx hb dX7_beauty_118 hl (by decide) rfl (fun ls hl => ?_)
                    refine lv_iinc (v := (x7_52 + 1)) (lv' := [(7, .int (x7_52 + 1)), (6, .int (x6_52 &&& 0)), (0, .ref u), (2, .ref (β2 0 0)), (3, .int x3_11), (4, .int x4_11), (5, .ref (α 2 (10 * j5 + j7)))]) hx hb dX7_beauty_120 hl (k := 6) rfl rfl (by decide) rfl (fun ls hl => ?_)
                    refine lv_goto (tgt := 52) hx hb dX7_beauty_123 (by decide) ?_
                    exact ih _ _ _ h kc H locs ls hw (lv_sub hl [2, 3, 4, 5, 6, 1, 0] rfl)
                  · refine lv_iconst (v := 1) hx hb dX7_beauty_112 (by decide) ?_
                    refine lv_goto (tgt := 117) hx hb dX7_beauty_113 (by decide) ?_
                    refine lv_iand hx hb dX7_beauty_117 ?_
                    refine lv_istore (lv' := [(6, .int (x6_52 &&& 1)), (0, .ref u), (2, .ref (β2 0 0)), (3, .int x3_11), (4, .int x4_11), (5, .ref (α 2 (10 * j5 + j7))), (7, .int x7_52)]) hx hb dX7_beauty_118 hl (by decide) rfl (fun ls hl => ?_)
                    refine lv_iinc (v := (x7_52 + 1)) (lv' := [(7, .int (x7_52 + 1)), (6, .int (x6_52 &&& 1)), (0, .ref u), (2, .ref (β2 0 0)), (3, .int x3_11), (4, .int x4_11), (5, .ref (α 2 (10 * j5 + j7)))]) hx hb dX7_beauty_120 hl (k := 6) rfl rfl (by decide) rfl (fun ls hl => ?_)
                    refine lv_goto (tgt := 52) hx hb dX7_beauty_123 (by decide) ?_
                    exact ih _ _ _ h kc H locs ls hw (lv_sub hl [2, 3, 4, 5, 6, 1, 0] rfl)
          obtain ⟨y9, h9_, h⟩ := mg_bind h
          refine L52_ _ _ _ _ h9_ (fun H locs ls hw hl => ?_) H locs ls hw (lv_sub hl [3, 4, 5, 6, 2, 1, 0] rfl)
          clear L52_ h9_
          refine lv_iload_n hx hb dX7_beauty_126 rfl (lv_at hl 2 rfl) ?_
          refine lv_aload hx hb dX7_beauty_127 (lv_at hl 4 rfl) ?_
          refine lv_iconst (v := 2) hx hb dX7_beauty_129 (by decide) ?_
          refine mg_ial (x := 2) hx hb hK hw 0 rfl (mg_fS_2 hj5_ hj7_) (by unfold vp_in; decide) (by decide) dX7_beauty_130 ?_
          refine lv_iload hx hb dX7_beauty_131 (lv_at hl 5 rfl) ?_
          refine mg_if_eq (tgt := 140) hx hb h dX7_beauty_133 (by decide) (fun h => ?_) (fun h => ?_)
          · refine lv_iconst (v := 0) hx hb dX7_beauty_140 (by decide) ?_
            refine lv_iadd hx hb dX7_beauty_141 ?_
            refine lv_iadd hx hb dX7_beauty_142 ?_
            refine lv_istore_n (lv' := [(3, .int (x3_11 + (((ζ.1 2 (10 * j5 + j7)) 2) + 0))), (0, .ref u), (2, .ref (β2 0 0)), (4, .int x4_11), (5, .ref (α 2 (10 * j5 + j7))), (6, .int y9.1)]) hx hb dX7_beauty_143 rfl hl (by decide) rfl (fun ls hl => ?_)
            cases h
            exact J43_ H locs ls hw (lv_sub hl [1, 2, 0, 3, 4] rfl)
          · refine lv_iconst (v := 4) hx hb dX7_beauty_136 (by decide) ?_
            refine lv_goto (tgt := 141) hx hb dX7_beauty_137 (by decide) ?_
            refine lv_iadd hx hb dX7_beauty_141 ?_
            refine lv_iadd hx hb dX7_beauty_142 ?_
            refine lv_istore_n (lv' := [(3, .int (x3_11 + (((ζ.1 2 (10 * j5 + j7)) 2) + 4))), (0, .ref u), (2, .ref (β2 0 0)), (4, .int x4_11), (5, .ref (α 2 (10 * j5 + j7))), (6, .int y9.1)]) hx hb dX7_beauty_143 rfl hl (by decide) rfl (fun ls hl => ?_)
            cases h
            exact J43_ H locs ls hw (lv_sub hl [1, 2, 0, 3, 4] rfl)
  obtain ⟨y3, h9_, h⟩ := mg_bind h
  refine L11_ _ _ _ _ h9_ (fun H locs ls hw hl => ?_) H locs ls hw (lv_sub hl [3, 2, 1, 0] rfl)
  clear L11_ h9_
  refine lv_iload_n hx hb dX7_beauty_247 rfl (lv_at hl 0 rfl) ?_
  cases h
  exact mg_eIV (fun _ _ => 0) rfl hx hb hr hlocks (mg_Vsub hw [0] rfl rfl) (show 23 ≤ 23 by omega) (show 363 ≤ 363 by omega) dX7_beauty_248
set_option maxHeartbeats 8000000 in
set_option maxRecDepth 100000 in
theorem k_X7_pass (l : Launch) (D : va_G) (o : Nat → Nat) (u : Nat) (α : Nat → Nat → Nat) (sz : Nat) (ζ : mg_Sz) (y : Int32 × mg_Sz) (h : f_X7_pass ζ = some y) : mg_CV l yX7_pass wsX7_pass ({ frames := 3, cells := 386, slots := 4565, locals := 78 } : Room) D o [mg_fS o u α ζ] sz [.ref u] (fun _ => some (.int y.1)) (fun _ => [mg_fS o u α y.2]) 386 4565 := by
  unfold mg_CV
  refine Met.ofW (cc := cX7_pass) (maxL := 7) (ret := (some .int)) (by decide) rfl ?_
  intro p e s m args below meth c s₁ B hml hv
  obtain ⟨rfl, hsz, hP, hK, hD0, hO⟩ := hv
  have hx := B.exec
  have hb := B.bytes
  have hr := B.returns
  have hts := atoms_spec (ws := wsX7_pass) B.pre
  have hown : s.vm.findClass RX7 = some m.cls := findClass_of_methodNamed B.named
  have hlocks := B.notSynchronized
  subst hsz
  have hD := hD0.self (sz := s.heap.size)
  generalize hAe : mg_VA [mg_fS o u α ζ] s.heap.size = A at hD hO ⊢
  have hA : ∀ q : Nat, s.heap.size ≤ q → A q := fun q h => by rw [← hAe]; exact Or.inr h
  have hw : mg_Vo D A s.heap s.heap [] ([mg_fS o u α ζ]) := ⟨hP, hD, va_S.rf⟩
  have G9 : CallFix p m c cX7_pass 7 s ([.ref u] : List Value).toArray wsX7_pass RX7 := ⟨hx, hb, hml, hown, hts⟩
  clear hP hD hD0 hAe
  have w0_ := hts (.fieldLink RX7 20 "MoonGateLaw$Sim" "carps" "[[I") (by decide +kernel)
  have iX7_ : ∀ w ∈ wsX70, w ∈ wsX7_pass := (fun _ h => List.mem_cons_of_mem _ (List.mem_append_right _ h))
  have w2_ := hts (.fieldLink RX7 27 "MoonGateLaw$Sim" "poets" "[[I") (by decide +kernel)
  have w3_ := hts (.fieldLink RX7 24 "MoonGateLaw$Sim" "gates" "[[I") (by decide +kernel)
  have w4_ := hts (.fieldLink RX7 59 "MoonGateLaw$Sim" "day" "I") (by decide +kernel)
  have w5_ := hts (.fieldLink RX7 7 "MoonGateLaw$Sim" "coins" "I") (by decide +kernel)
  have hl := lv_entry ([.ref u]) (n := 7) (Nat.le_of_ble_eq_true rfl)
  rw [lg_entry_eq]
  generalize (lg_sl ([.ref u]) ++ List.replicate (7 - (lg_sl ([.ref u])).length) Slot.unset).toArray = ls at hl ⊢
  have hl : lv_has ls 7 [(0, .ref u)] := hl
  unfold f_X7_pass at h
  suffices K_ : ∀ (H : Heap) (locs : List Loc), mg_Vo D A s.heap H locs ([mg_fS o u α ζ]) → W p l e (headSpec wsX7_pass ({ frames := 3, cells := 386, slots := 4565, locals := 78 } : Room)).room s m ([.ref u] : List Value).toArray below meth c H locs 0 0 (MQ below (mg_QV D (fun _ => [mg_fS o u α y.2]) A (fun _ => some (.int y.1))) ([.ref u] : List Value).toArray s 386 4565 A) (F0 m 0 ls []) from K_ _ _ hw
  clear hw
  intro H locs hw
  refine lv_aload_n hx hb dX7_pass_0 rfl (lv_at hl 0 rfl) ?_
  refine va_get (D := D) (ci := 7) (v := .ref (α 0 2)) (C := RX7) (T := TX7) (N := 6) hx hb hts iX7_ hown hK (mg_at1 hw.1 0 rfl mg_fS_00) 0 rfl rfl 3 (by decide) w0_ (fun _ h9 => h9) rfl dX7_pass_1 ?_
  refine lv_astore_n (lv' := [(1, .ref (α 0 2)), (0, .ref u)]) hx hb dX7_pass_4 rfl hl (by decide) rfl (fun ls hl => ?_)
  refine lv_aload_n hx hb dX7_pass_5 rfl (lv_at hl 0 rfl) ?_
  refine mg_alenq hx hb hK hw 0 2 rfl mg_fS_02 rfl dX7_pass_6 ?_
  refine lv_istore_n (lv' := [(2, .int (nI (ζ.2 0))), (1, .ref (α 0 2)), (0, .ref u)]) hx hb dX7_pass_7 rfl hl (by decide) rfl (fun ls hl => ?_)
  refine lv_iconst (v := 0) hx hb dX7_pass_8 (by decide) ?_
  refine lv_istore_n (lv' := [(3, .int 0), (2, .int (nI (ζ.2 0))), (1, .ref (α 0 2)), (0, .ref u)]) hx hb dX7_pass_9 rfl hl (by decide) rfl (fun ls hl => ?_)
  have L10_ : ∀ (n : Nat), ∀ (x3_10 : Int32) (cS_10 : mg_Sz) (y10_ : Int32 × mg_Sz), f_X7_pass_10 (nI (ζ.2 0)) n x3_10 cS_10 = some y10_ → (∀ (H : Heap) (locs : List Loc) (ls : Array Slot), mg_Vo D A s.heap H locs ([mg_fS o u α y10_.2]) → lv_has ls 7 [(0, .ref u)] → W p l e (headSpec wsX7_pass ({ frames := 3, cells := 386, slots := 4565, locals := 78 } : Room)).room s m ([.ref u] : List Value).toArray below meth c H locs 0 0 (MQ below (mg_QV D (fun _ => [mg_fS o u α y.2]) A (fun _ => some (.int y.1))) ([.ref u] : List Value).toArray s 386 4565 A) (F0 m 116 ls [])) → ∀ (H : Heap) (locs : List Loc) (ls : Array Slot), mg_Vo D A s.heap H locs ([mg_fS o u α cS_10]) → lv_has ls 7 [(0, .ref u), (1, .ref (α 0 2)), (2, .int (nI (ζ.2 0))), (3, .int x3_10)] → W p l e (headSpec wsX7_pass ({ frames := 3, cells := 386, slots := 4565, locals := 78 } : Room)).room s m ([.ref u] : List Value).toArray below meth c H locs 0 0 (MQ below (mg_QV D (fun _ => [mg_fS o u α y.2]) A (fun _ => some (.int y.1))) ([.ref u] : List Value).toArray s 386 4565 A) (F0 m 10 ls []) := by
    intro n
    induction n with
    | zero => intro x3_10 cS_10 y10_ h; rw [f_X7_pass_10] at h; cases h
    | succ n ih =>
      intro x3_10 cS_10 y10_ h kc H locs ls hw hl
      rw [f_X7_pass_10] at h
      refine lv_iload_n hx hb dX7_pass_10 rfl (lv_at hl 3 rfl) ?_
      refine lv_iload_n hx hb dX7_pass_11 rfl (lv_at hl 2 rfl) ?_
      refine mg_icmp_ge (tgt := 116) hx hb h dX7_pass_12 (by decide) (fun h => ?_) (fun h => ?_)
      · cases h
        exact kc H locs ls hw (lv_sub hl [0] rfl)
      · refine lv_aload_n hx hb dX7_pass_15 rfl (lv_at hl 1 rfl) ?_
        refine lv_iload_n hx hb dX7_pass_16 rfl (lv_at hl 3 rfl) ?_
        refine mg_aal hx hb hK hw 0 2 rfl mg_fS_02 rfl rfl h dX7_pass_17 (fun j2 hj2_ h => ?_)
        refine lv_astore (lv' := [(4, .ref (α 3 j2)), (0, .ref u), (1, .ref (α 0 2)), (2, .int (nI (ζ.2 0))), (3, .int x3_10)]) hx hb dX7_pass_18 hl (by decide) rfl (fun ls hl => ?_)
        refine lv_aload hx hb dX7_pass_20 (lv_at hl 0 rfl) ?_
        refine lv_iconst (v := 3) hx hb dX7_pass_22 (by decide) ?_
        refine mg_ial (x := 3) hx hb hK hw 0 rfl (mg_fS_3 hj2_) (by unfold vp_in; decide) (by decide) dX7_pass_23 ?_
        refine lv_iconst (v := 1) hx hb dX7_pass_24 (by decide) ?_
        refine mg_icmp_ne (tgt := 31) hx hb h dX7_pass_25 (by decide) (fun h => ?_) (fun h => ?_)
        · refine lv_aload_n hx hb dX7_pass_31 rfl (lv_at hl 1 rfl) ?_
          refine lv_aload hx hb dX7_pass_32 (lv_at hl 0 rfl) ?_
          refine lv_iconst (v := 0) hx hb dX7_pass_34 (by decide) ?_
          refine mg_ial (x := 0) hx hb hK hw 0 rfl (mg_fS_3 hj2_) (by unfold vp_in; decide) (by decide) dX7_pass_35 ?_
          refine lv_aload hx hb dX7_pass_36 (lv_at hl 0 rfl) ?_
          refine lv_iconst (v := 1) hx hb dX7_pass_38 (by decide) ?_
          refine mg_ial (x := 1) hx hb hK hw 0 rfl (mg_fS_3 hj2_) (by unfold vp_in; decide) (by decide) dX7_pass_39 ?_
          obtain ⟨y3, h9_, h⟩ := mg_bind h
          refine mg_callV (va_runV (As := [.int ((cS_10.1 3 j2) 0), .int ((cS_10.1 3 j2) 1)]) (rest := []) G9 (k_X7_pond l D o u α H.size cS_10 ((cS_10.1 3 j2) 0) ((cS_10.1 3 j2) 1) y3 h9_) (cwV 2 hts gX7_pass_X7_pond rfl rfl rfl (by decide +kernel) ⟨Nat.le_of_ble_eq_true rfl, Nat.le_of_ble_eq_true rfl⟩) (mg_preVV hK hO hA (mg_Vsub (L' := [mg_fS o u α cS_10]) hw [0] rfl rfl) 0 rfl mg_fS_00 rfl) rfl rfl hl.1 rfl (lv_room (Nat.le_of_ble_eq_true rfl)) dX7_pass_40 ⟨(show 0 + 8 ≤ 386 by omega), (show 0 + 77 ≤ 4565 by omega)⟩) hw hA [0] [] rfl (Lr := []) rfl rfl (by decide) (fun β4 H locs hw => ?_)
          clear h9_
          have hw : mg_Vo D A s.heap H locs ([mg_fS o u α cS_10, mg_fM o (β4 0 0) (β4 1) y3]) := hw
          refine lv_astore (lv' := [(5, .ref (β4 0 0)), (4, .ref (α 3 j2)), (0, .ref u), (1, .ref (α 0 2)), (2, .int (nI (ζ.2 0))), (3, .int x3_10)]) hx hb dX7_pass_43 hl (by decide) rfl (fun ls hl => ?_)
          refine lv_aload_n hx hb dX7_pass_45 rfl (lv_at hl 2 rfl) ?_
          refine lv_aload hx hb dX7_pass_46 (lv_at hl 0 rfl) ?_
          obtain ⟨y5, h9_, h⟩ := mg_bind h
          refine mg_callV (va_runV (As := [.ref (β4 0 0)]) (rest := []) G9 (k_X7_carpsIn l D o u α (β4 0 0) (β4 1) H.size cS_10 y3 y5 h9_) (cwV 1 hts gX7_pass_X7_carpsIn rfl rfl rfl (by decide +kernel) ⟨Nat.le_of_ble_eq_true rfl, Nat.le_of_ble_eq_true rfl⟩) (mg_preVV hK hO hA (mg_Vsub (L' := [mg_fS o u α cS_10, mg_fM o (β4 0 0) (β4 1) y3]) hw [0, 1] rfl rfl) 0 rfl mg_fS_00 rfl) rfl rfl hl.1 rfl (lv_room (Nat.le_of_ble_eq_true rfl)) dX7_pass_48 ⟨(show 8 + 0 ≤ 386 by omega), (show 77 + 0 ≤ 4565 by omega)⟩) hw hA [0, 1] [] rfl (Lr := []) rfl rfl (by decide) (fun β6 H locs hw => ?_)
          clear h9_
          have hw : mg_Vo D A s.heap H locs ([mg_fS o u α cS_10, mg_fM o (β4 0 0) (β4 1) y3]) := hw
          refine lv_iconst (v := 2) hx hb dX7_pass_51 (by decide) ?_
          refine lv_aload hx hb dX7_pass_52 (lv_at hl 0 rfl) ?_
          obtain ⟨y7, h9_, h⟩ := mg_bind h
          refine mg_callV (va_runS (As := [.ref (β4 0 0)]) (rest := [.int 2, .int y5]) G9 (k_X7_many l D o (β4 0 0) (β4 1) H.size y3 y7 h9_) (va_cwS 1 hts gX7_pass_X7_many rfl rfl rfl (by decide +kernel) ⟨Nat.le_of_ble_eq_true rfl, Nat.le_of_ble_eq_true rfl⟩) (mg_preVv hK hO hA (mg_Vsub (L' := [mg_fM o (β4 0 0) (β4 1) y3]) hw [1] rfl rfl)) rfl rfl hl.1 rfl (lv_room (Nat.le_of_ble_eq_true rfl)) dX7_pass_54 ⟨(show 8 + 0 ≤ 386 by omega), (show 77 + 0 ≤ 4565 by omega)⟩) hw hA [1] [0] rfl (Lr := [mg_fS o u α cS_10]) rfl rfl (by decide) (fun β8 H locs hw => ?_)
          clear h9_
          have hw : mg_Vo D A s.heap H locs ([mg_fS o u α cS_10, mg_fM o (β4 0 0) (β4 1) y3]) := hw
          refine lv_imul hx hb dX7_pass_57 ?_
          refine mg_icmp_le (tgt := 86) hx hb h dX7_pass_58 (by decide) (fun h => ?_) (fun h => ?_)
          · refine lv_aload hx hb dX7_pass_86 (lv_at hl 1 rfl) ?_
            refine lv_iconst (v := 2) hx hb dX7_pass_88 (by decide) ?_
            refine lv_aload hx hb dX7_pass_89 (lv_at hl 1 rfl) ?_
            refine lv_iconst (v := 2) hx hb dX7_pass_91 (by decide) ?_
            refine mg_ial (x := 2) hx hb hK hw 0 rfl (mg_fS_3 hj2_) (by unfold vp_in; decide) (by decide) dX7_pass_92 ?_
            refine lv_bipush (v := 40) hx hb dX7_pass_93 (by decide) ?_
            refine mg_icmp_ge (tgt := 107) hx hb h dX7_pass_95 (by decide) (fun h => ?_) (fun h => ?_)
            · refine lv_bipush (v := 40) hx hb dX7_pass_107 (by decide) ?_
              refine mg_iasx (x := 2) (F' := mg_fS o u α (mg_zu cS_10 3 j2 2 40)) hx hb hK hw 0 rfl (mg_fS_3 hj2_) (by unfold vp_in; decide) (by decide) (mg_sS_3 hj2_) dX7_pass_109 (fun H locs hw => ?_)
              refine lv_iinc (v := (x3_10 + 1)) (lv' := [(3, .int (x3_10 + 1)), (5, .ref (β4 0 0)), (4, .ref (α 3 j2)), (0, .ref u), (1, .ref (α 0 2)), (2, .int (nI (ζ.2 0)))]) hx hb dX7_pass_110 hl (k := 5) rfl rfl (by decide) rfl (fun ls hl => ?_)
              refine lv_goto (tgt := 10) hx hb dX7_pass_113 (by decide) ?_
              exact ih _ _ _ h kc H locs ls (mg_Vsub hw [0] rfl rfl) (lv_sub hl [3, 4, 5, 0] rfl)
            · refine lv_aload hx hb dX7_pass_98 (lv_at hl 1 rfl) ?_
              refine lv_iconst (v := 2) hx hb dX7_pass_100 (by decide) ?_
              refine mg_ial (x := 2) hx hb hK hw 0 rfl (mg_fS_3 hj2_) (by unfold vp_in; decide) (by decide) dX7_pass_101 ?_
              refine lv_iconst (v := 1) hx hb dX7_pass_102 (by decide) ?_
              refine lv_iadd hx hb dX7_pass_103 ?_
              refine lv_goto (tgt := 109) hx hb dX7_pass_104 (by decide) ?_
              refine mg_iasx (x := 2) (F' := mg_fS o u α (mg_zu cS_10 3 j2 2 (((cS_10.1 3 j2) 2) + 1))) hx hb hK hw 0 rfl (mg_fS_3 hj2_) (by unfold vp_in; decide) (by decide) (mg_sS_3 hj2_) dX7_pass_109 (fun H locs hw => ?_)
              refine lv_iinc (v := (x3_10 + 1)) (lv' := [(3, .int (x3_10 + 1)), (5, .ref (β4 0 0)), (4, .ref (α 3 j2)), (0, .ref u), (1, .ref (α 0 2)), (2, .int (nI (ζ.2 0)))]) hx hb dX7_pass_110 hl (k := 5) rfl rfl (by decide) rfl (fun ls hl => ?_)
              refine lv_goto (tgt := 10) hx hb dX7_pass_113 (by decide) ?_
              exact ih _ _ _ h kc H locs ls (mg_Vsub hw [0] rfl rfl) (lv_sub hl [3, 4, 5, 0] rfl)
          · refine lv_aload hx hb dX7_pass_61 (lv_at hl 1 rfl) ?_
            refine lv_iconst (v := 2) hx hb dX7_pass_63 (by decide) ?_
            refine lv_aload hx hb dX7_pass_64 (lv_at hl 1 rfl) ?_
            refine lv_iconst (v := 2) hx hb dX7_pass_66 (by decide) ?_
            refine mg_ial (x := 2) hx hb hK hw 0 rfl (mg_fS_3 hj2_) (by unfold vp_in; decide) (by decide) dX7_pass_67 ?_
            refine lv_iconst (v := 1) hx hb dX7_pass_68 (by decide) ?_
            refine mg_icmp_le (tgt := 81) hx hb h dX7_pass_69 (by decide) (fun h => ?_) (fun h => ?_)
            · refine lv_iconst (v := 1) hx hb dX7_pass_81 (by decide) ?_
              refine mg_iasx (x := 2) (F' := mg_fS o u α (mg_zu cS_10 3 j2 2 1)) hx hb hK hw 0 rfl (mg_fS_3 hj2_) (by unfold vp_in; decide) (by decide) (mg_sS_3 hj2_) dX7_pass_82 (fun H locs hw => ?_)
              refine lv_goto (tgt := 110) hx hb dX7_pass_83 (by decide) ?_
              refine lv_iinc (v := (x3_10 + 1)) (lv' := [(3, .int (x3_10 + 1)), (5, .ref (β4 0 0)), (4, .ref (α 3 j2)), (0, .ref u), (1, .ref (α 0 2)), (2, .int (nI (ζ.2 0)))]) hx hb dX7_pass_110 hl (k := 5) rfl rfl (by decide) rfl (fun ls hl => ?_)
              refine lv_goto (tgt := 10) hx hb dX7_pass_113 (by decide) ?_
              exact ih _ _ _ h kc H locs ls (mg_Vsub hw [0] rfl rfl) (lv_sub hl [3, 4, 5, 0] rfl)
            · refine lv_aload hx hb dX7_pass_72 (lv_at hl 1 rfl) ?_
              refine lv_iconst (v := 2) hx hb dX7_pass_74 (by decide) ?_
              refine mg_ial (x := 2) hx hb hK hw 0 rfl (mg_fS_3 hj2_) (by unfold vp_in; decide) (by decide) dX7_pass_75 ?_
              refine lv_iconst (v := 1) hx hb dX7_pass_76 (by decide) ?_
              refine lv_isub hx hb dX7_pass_77 ?_
              refine lv_goto (tgt := 82) hx hb dX7_pass_78 (by decide) ?_
              refine mg_iasx (x := 2) (F' := mg_fS o u α (mg_zu cS_10 3 j2 2 (((cS_10.1 3 j2) 2) - 1))) hx hb hK hw 0 rfl (mg_fS_3 hj2_) (by unfold vp_in; decide) (by decide) (mg_sS_3 hj2_) dX7_pass_82 (fun H locs hw => ?_)
              refine lv_goto (tgt := 110) hx hb dX7_pass_83 (by decide) ?_
              refine lv_iinc (v := (x3_10 + 1)) (lv' := [(3, .int (x3_10 + 1)), (5, .ref (β4 0 0)), (4, .ref (α 3 j2)), (0, .ref u), (1, .ref (α 0 2)), (2, .int (nI (ζ.2 0)))]) hx hb dX7_pass_110 hl (k := 5) rfl rfl (by decide) rfl (fun ls hl => ?_)
              refine lv_goto (tgt := 10) hx hb dX7_pass_113 (by decide) ?_
              exact ih _ _ _ h kc H locs ls (mg_Vsub hw [0] rfl rfl) (lv_sub hl [3, 4, 5, 0] rfl)
        · refine lv_goto (tgt := 110) hx hb dX7_pass_28 (by decide) ?_
          refine lv_iinc (v := (x3_10 + 1)) (lv' := [(3, .int (x3_10 + 1)), (4, .ref (α 3 j2)), (0, .ref u), (1, .ref (α 0 2)), (2, .int (nI (ζ.2 0)))]) hx hb dX7_pass_110 hl (k := 4) rfl rfl (by decide) rfl (fun ls hl => ?_)
          refine lv_goto (tgt := 10) hx hb dX7_pass_113 (by decide) ?_
          exact ih _ _ _ h kc H locs ls hw (lv_sub hl [2, 3, 4, 0] rfl)
  obtain ⟨y1, h9_, h⟩ := mg_bind h
  refine L10_ _ _ _ _ h9_ (fun H locs ls hw hl => ?_) H locs ls hw (lv_sub hl [3, 2, 1, 0] rfl)
  clear L10_ h9_
  refine lv_iconst (v := 0) hx hb dX7_pass_116 (by decide) ?_
  refine lv_istore_n (lv' := [(1, .int 0), (0, .ref u)]) hx hb dX7_pass_117 rfl hl (by decide) rfl (fun ls hl => ?_)
  refine lv_aload_n hx hb dX7_pass_118 rfl (lv_at hl 1 rfl) ?_
  refine va_get (D := D) (ci := 7) (v := .ref (α 0 4)) (C := RX7) (T := TX7) (N := 6) hx hb hts iX7_ hown hK (mg_at1 hw.1 0 rfl mg_fS_00) 0 rfl rfl 5 (by decide) w2_ (fun _ h9 => h9) rfl dX7_pass_119 ?_
  refine lv_astore_n (lv' := [(2, .ref (α 0 4)), (1, .int 0), (0, .ref u)]) hx hb dX7_pass_122 rfl hl (by decide) rfl (fun ls hl => ?_)
  refine lv_aload_n hx hb dX7_pass_123 rfl (lv_at hl 0 rfl) ?_
  refine mg_alenq hx hb hK hw 0 2 rfl mg_fS_04 rfl dX7_pass_124 ?_
  refine lv_istore_n (lv' := [(3, .int (nI (y1.2.2 2))), (2, .ref (α 0 4)), (1, .int 0), (0, .ref u)]) hx hb dX7_pass_125 rfl hl (by decide) rfl (fun ls hl => ?_)
  refine lv_iconst (v := 0) hx hb dX7_pass_126 (by decide) ?_
  refine lv_istore (lv' := [(4, .int 0), (3, .int (nI (y1.2.2 2))), (2, .ref (α 0 4)), (1, .int 0), (0, .ref u)]) hx hb dX7_pass_127 hl (by decide) rfl (fun ls hl => ?_)
  have L129_ : ∀ (n : Nat), ∀ (cl129_ sl129_ : Nat), cl129_ + n * 23 ≤ 138 → sl129_ + n * 363 ≤ 2178 → ∀ (x1_129 : Int32) (x4_129 : Int32) (cS_129 : mg_Sz) (y129_ : Int32 × Int32 × mg_Sz), f_X7_pass_129 (nI (y1.2.2 2)) n x1_129 x4_129 cS_129 = some y129_ → (∀ (H : Heap) (locs : List Loc) (ls : Array Slot), mg_Vo D A s.heap H locs ([mg_fS o u α y129_.2.2]) → lv_has ls 7 [(0, .ref u), (1, .int y129_.1)] → W p l e (headSpec wsX7_pass ({ frames := 3, cells := 386, slots := 4565, locals := 78 } : Room)).room s m ([.ref u] : List Value).toArray below meth c H locs 138 2178 (MQ below (mg_QV D (fun _ => [mg_fS o u α y.2]) A (fun _ => some (.int y.1))) ([.ref u] : List Value).toArray s 386 4565 A) (F0 m 196 ls [])) → ∀ (H : Heap) (locs : List Loc) (ls : Array Slot), mg_Vo D A s.heap H locs ([mg_fS o u α cS_129]) → lv_has ls 7 [(0, .ref u), (1, .int x1_129), (2, .ref (α 0 4)), (3, .int (nI (y1.2.2 2))), (4, .int x4_129)] → W p l e (headSpec wsX7_pass ({ frames := 3, cells := 386, slots := 4565, locals := 78 } : Room)).room s m ([.ref u] : List Value).toArray below meth c H locs cl129_ sl129_ (MQ below (mg_QV D (fun _ => [mg_fS o u α y.2]) A (fun _ => some (.int y.1))) ([.ref u] : List Value).toArray s 386 4565 A) (F0 m 129 ls []) := by
    intro n
    induction n with
    | zero => intro cl129_ sl129_ hcl129_ hsl129_ x1_129 x4_129 cS_129 y129_ h; rw [f_X7_pass_129] at h; cases h
    | succ n ih =>
      intro cl129_ sl129_ hcl129_ hsl129_ x1_129 x4_129 cS_129 y129_ h kc H locs ls hw hl
      rw [f_X7_pass_129] at h
      refine lv_iload hx hb dX7_pass_129 (lv_at hl 4 rfl) ?_
      refine lv_iload_n hx hb dX7_pass_131 rfl (lv_at hl 3 rfl) ?_
      refine mg_icmp_ge (tgt := 196) hx hb h dX7_pass_132 (by decide) (fun h => ?_) (fun h => ?_)
      · cases h
        refine W.widen (k := 138) (n := 2178) (by omega) (by omega) ?_
        exact kc H locs ls hw (lv_sub hl [0, 1] rfl)
      · refine lv_aload_n hx hb dX7_pass_135 rfl (lv_at hl 2 rfl) ?_
        refine lv_iload hx hb dX7_pass_136 (lv_at hl 4 rfl) ?_
        refine mg_aal hx hb hK hw 0 2 rfl mg_fS_04 rfl rfl h dX7_pass_138 (fun j10 hj10_ h => ?_)
        refine lv_astore (lv' := [(5, .ref (α 5 j10)), (0, .ref u), (1, .int x1_129), (2, .ref (α 0 4)), (3, .int (nI (y1.2.2 2))), (4, .int x4_129)]) hx hb dX7_pass_139 hl (by decide) rfl (fun ls hl => ?_)
        refine lv_aload_n hx hb dX7_pass_141 rfl (lv_at hl 1 rfl) ?_
        refine lv_aload_n hx hb dX7_pass_142 rfl (lv_at hl 1 rfl) ?_
        refine va_get (D := D) (ci := 7) (v := .ref (α 0 3)) (C := RX7) (T := TX7) (N := 6) hx hb hts iX7_ hown hK (mg_at1 hw.1 0 rfl mg_fS_00) 0 rfl rfl 4 (by decide) w3_ (fun _ h9 => h9) rfl dX7_pass_143 ?_
        refine lv_aload hx hb dX7_pass_146 (lv_at hl 0 rfl) ?_
        refine lv_iconst (v := 0) hx hb dX7_pass_148 (by decide) ?_
        refine mg_ial (x := 0) hx hb hK hw 0 rfl (mg_fS_5 hj10_) (by unfold vp_in; decide) (by decide) dX7_pass_149 ?_
        refine mg_aal hx hb hK hw 0 2 rfl mg_fS_03 rfl rfl h dX7_pass_150 (fun j11 hj11_ h => ?_)
        obtain ⟨y12, h9_, h⟩ := mg_bind h
        refine mg_callV (va_runV (As := [.ref (α 4 j11)]) (rest := []) G9 (k_X7_beauty l D o u α H.size j11 cS_129 hj11_ y12 h9_) (cwV 1 hts gX7_pass_X7_beauty rfl rfl rfl (by decide +kernel) ⟨Nat.le_of_ble_eq_true rfl, Nat.le_of_ble_eq_true rfl⟩) (mg_preVV hK hO hA (mg_Vsub (L' := [mg_fS o u α cS_129]) hw [0] rfl rfl) 0 rfl mg_fS_00 rfl) rfl rfl hl.1 rfl (lv_room (Nat.le_of_ble_eq_true rfl)) dX7_pass_151 ⟨(show cl129_ + 23 ≤ 386 by omega), (show sl129_ + 363 ≤ 4565 by omega)⟩) hw hA [0] [] rfl (Lr := []) rfl rfl (by decide) (fun β13 H locs hw => ?_)
        clear h9_
        have hw : mg_Vo D A s.heap H locs ([mg_fS o u α cS_129]) := hw
        refine lv_iconst (v := 5) hx hb dX7_pass_154 (by decide) ?_
        refine lv_idiv hx hb dX7_pass_155 (by decide) ?_
        refine lv_istore (lv' := [(6, .int (y12 / 5)), (5, .ref (α 5 j10)), (0, .ref u), (1, .int x1_129), (2, .ref (α 0 4)), (3, .int (nI (y1.2.2 2))), (4, .int x4_129)]) hx hb dX7_pass_156 hl (by decide) rfl (fun ls hl => ?_)
        refine lv_aload_n hx hb dX7_pass_158 rfl (lv_at hl 2 rfl) ?_
        refine va_get (D := D) (ci := 7) (v := .int (cS_129.1 0 0 0)) (C := RX7) (T := TX7) (N := 6) hx hb hts iX7_ hown hK (mg_at1 hw.1 0 rfl mg_fS_00) 0 rfl rfl 0 (by decide) w4_ (fun _ h9 => h9) rfl dX7_pass_159 ?_
        refine lv_bipush (v := 8) hx hb dX7_pass_162 (by decide) ?_
        refine lv_irem hx hb dX7_pass_164 (by decide) ?_
        refine lv_iconst (v := 4) hx hb dX7_pass_165 (by decide) ?_
        obtain ⟨y14, h9_, h⟩ := mg_bind h
        have J166_ : ∀ (H : Heap) (locs : List Loc) (ls : Array Slot), mg_Vo D A s.heap H locs ([mg_fS o u α cS_129]) → lv_has ls 7 [(0, .ref u), (1, .int x1_129), (2, .ref (α 0 4)), (3, .int (nI (y1.2.2 2))), (4, .int x4_129), (5, .ref (α 5 j10)), (6, .int y14)] → W p l e (headSpec wsX7_pass ({ frames := 3, cells := 386, slots := 4565, locals := 78 } : Room)).room s m ([.ref u] : List Value).toArray below meth c H locs (cl129_ + 23) (sl129_ + 363) (MQ below (mg_QV D (fun _ => [mg_fS o u α y.2]) A (fun _ => some (.int y.1))) ([.ref u] : List Value).toArray s 386 4565 A) (F0 m 176 ls []) := by
          intro H locs ls hw hl
          clear h9_
          refine lv_aload hx hb dX7_pass_176 (lv_at hl 5 rfl) ?_
          refine lv_iconst (v := 1) hx hb dX7_pass_178 (by decide) ?_
          refine lv_dup2_11 hx hb dX7_pass_179 rfl rfl ?_
          refine mg_ial (x := 1) hx hb hK hw 0 rfl (mg_fS_5 hj10_) (by unfold vp_in; decide) (by decide) dX7_pass_180 ?_
          refine lv_iload hx hb dX7_pass_181 (lv_at hl 6 rfl) ?_
          refine lv_iadd hx hb dX7_pass_183 ?_
          refine mg_iasx (x := 1) (F' := mg_fS o u α (mg_zu cS_129 5 j10 1 (((cS_129.1 5 j10) 1) + y14))) hx hb hK hw 0 rfl (mg_fS_5 hj10_) (by unfold vp_in; decide) (by decide) (mg_sS_5 hj10_) dX7_pass_184 (fun H locs hw => ?_)
          refine lv_iload_n hx hb dX7_pass_185 rfl (lv_at hl 1 rfl) ?_
          refine lv_iload hx hb dX7_pass_186 (lv_at hl 6 rfl) ?_
          refine lv_iadd hx hb dX7_pass_188 ?_
          refine lv_istore_n (lv' := [(1, .int (x1_129 + y14)), (0, .ref u), (2, .ref (α 0 4)), (3, .int (nI (y1.2.2 2))), (4, .int x4_129), (5, .ref (α 5 j10)), (6, .int y14)]) hx hb dX7_pass_189 rfl hl (by decide) rfl (fun ls hl => ?_)
          refine lv_iinc (v := (x4_129 + 1)) (lv' := [(4, .int (x4_129 + 1)), (1, .int (x1_129 + y14)), (0, .ref u), (2, .ref (α 0 4)), (3, .int (nI (y1.2.2 2))), (5, .ref (α 5 j10)), (6, .int y14)]) hx hb dX7_pass_190 hl (k := 4) rfl rfl (by decide) rfl (fun ls hl => ?_)
          refine lv_goto (tgt := 129) hx hb dX7_pass_193 (by decide) ?_
          exact ih _ _ (by omega) (by omega) _ _ _ _ h kc H locs ls hw (lv_sub hl [2, 1, 3, 4, 0] rfl)
        clear h
        have h := h9_
        clear h9_
        refine mg_icmp_ne (tgt := 176) hx hb h dX7_pass_166 (by decide) (fun h => ?_) (fun h => ?_)
        · cases h
          exact J166_ H locs ls hw (lv_sub hl [2, 3, 4, 5, 6, 1, 0] rfl)
        · refine lv_iload hx hb dX7_pass_169 (lv_at hl 0 rfl) ?_
          refine lv_iload hx hb dX7_pass_171 (lv_at hl 0 rfl) ?_
          refine lv_iadd hx hb dX7_pass_173 ?_
          refine lv_istore (lv' := [(6, .int ((y12 / 5) + (y12 / 5))), (5, .ref (α 5 j10)), (0, .ref u), (1, .int x1_129), (2, .ref (α 0 4)), (3, .int (nI (y1.2.2 2))), (4, .int x4_129)]) hx hb dX7_pass_174 hl (by decide) rfl (fun ls hl => ?_)
          cases h
          exact J166_ H locs ls hw (lv_sub hl [2, 3, 4, 5, 6, 1, 0] rfl)
  obtain ⟨y9, h9_, h⟩ := mg_bind h
  refine L129_ _ 0 0 (by omega) (by omega) _ _ _ _ h9_ (fun H locs ls hw hl => ?_) H locs ls hw (lv_sub hl [4, 3, 2, 1, 0] rfl)
  clear L129_ h9_
  refine lv_aload_n hx hb dX7_pass_196 rfl (lv_at hl 0 rfl) ?_
  refine lv_dup hx hb dX7_pass_197 rfl ?_
  refine va_get (D := D) (ci := 7) (v := .int (y9.2.2.1 0 0 1)) (C := RX7) (T := TX7) (N := 6) hx hb hts iX7_ hown hK (mg_at1 hw.1 0 rfl mg_fS_00) 0 rfl rfl 1 (by decide) w5_ (fun _ h9 => h9) rfl dX7_pass_198 ?_
  refine lv_iload_n hx hb dX7_pass_201 rfl (lv_at hl 1 rfl) ?_
  refine lv_bipush (v := 10) hx hb dX7_pass_202 (by decide) ?_
  refine lv_idiv hx hb dX7_pass_204 (by decide) ?_
  refine lv_iadd hx hb dX7_pass_205 ?_
  refine mg_vput (ci := 7) (C := RX7) (T := TX7) (N := 6) (ty := .int) (v := .int ((y9.2.2.1 0 0 1) + (y9.1 / 10))) hx hb hts iX7_ tyX7 tyX7_ok nmX7 hown hK hw 0 rfl mg_fS_00 rfl 1 (by decide) w5_ (fun _ h9 => h9) rfl (by decide +kernel) rfl rfl (Nat.le_of_ble_eq_true rfl) dX7_pass_206 (fun H locs hw => ?_)
  have hw : mg_Vo D A s.heap H locs ([mg_fS o u α (mg_zu y9.2.2 0 0 1 ((y9.2.2.1 0 0 1) + (y9.1 / 10)))]) := by rw [← mg_sS_f1]; exact hw
  refine lv_aload_n hx hb dX7_pass_209 rfl (lv_at hl 0 rfl) ?_
  refine lv_dup hx hb dX7_pass_210 rfl ?_
  refine va_get (D := D) (ci := 7) (v := .int ((mg_zu y9.2.2 0 0 1 ((y9.2.2.1 0 0 1) + (y9.1 / 10))).1 0 0 0)) (C := RX7) (T := TX7) (N := 6) hx hb hts iX7_ hown hK (mg_at1 hw.1 0 rfl mg_fS_00) 0 rfl rfl 0 (by decide) w4_ (fun _ h9 => h9) rfl dX7_pass_211 ?_
  refine lv_iconst (v := 1) hx hb dX7_pass_214 (by decide) ?_
  refine lv_iadd hx hb dX7_pass_215 ?_
  refine mg_vput (ci := 7) (C := RX7) (T := TX7) (N := 6) (ty := .int) (v := .int (((mg_zu y9.2.2 0 0 1 ((y9.2.2.1 0 0 1) + (y9.1 / 10))).1 0 0 0) + 1)) hx hb hts iX7_ tyX7 tyX7_ok nmX7 hown hK hw 0 rfl mg_fS_00 rfl 0 (by decide) w4_ (fun _ h9 => h9) rfl (by decide +kernel) rfl rfl (Nat.le_of_ble_eq_true rfl) dX7_pass_216 (fun H locs hw => ?_)
  have hw : mg_Vo D A s.heap H locs ([mg_fS o u α (mg_zu (mg_zu y9.2.2 0 0 1 ((y9.2.2.1 0 0 1) + (y9.1 / 10))) 0 0 0 (((mg_zu y9.2.2 0 0 1 ((y9.2.2.1 0 0 1) + (y9.1 / 10))).1 0 0 0) + 1))]) := by rw [← mg_sS_f0]; exact hw
  refine lv_iload_n hx hb dX7_pass_219 rfl (lv_at hl 1 rfl) ?_
  cases h
  exact mg_eIV (fun _ _ => 0) rfl hx hb hr hlocks hw (show 138 ≤ 386 by omega) (show 2178 ≤ 4565 by omega) dX7_pass_220
set_option maxHeartbeats 8000000 in
set_option maxRecDepth 100000 in
theorem k_X7_counts (l : Launch) (D : va_G) (o : Nat → Nat) (u : Nat) (α : Nat → Nat → Nat) (sz : Nat) (ζ : mg_Sz) (y : Nat → Int32) (h : f_X7_counts ζ = some y) : mg_CV l yX7_counts wsX7_counts ({ frames := 1, cells := 713, slots := 6864, locals := 27 } : Room) D o [mg_fS o u α ζ] sz [.ref u] (fun β => some (.ref (β 0 0))) (fun β => [mg_fS o u α ζ, mg_fI o (β 0 0) 11 y]) 713 6864 := by
  unfold mg_CV
  refine Met.ofW (cc := cX7_counts) (maxL := 12) (ret := (some (.array .int))) (by decide) rfl ?_
  intro p e s m args below meth c s₁ B hml hv
  obtain ⟨rfl, hsz, hP, hK, hD0, hO⟩ := hv
  have hx := B.exec
  have hb := B.bytes
  have hr := B.returns
  have hts := atoms_spec (ws := wsX7_counts) B.pre
  have hown : s.vm.findClass RX7 = some m.cls := findClass_of_methodNamed B.named
  have hlocks := B.notSynchronized
  subst hsz
  have hD := hD0.self (sz := s.heap.size)
  generalize hAe : mg_VA [mg_fS o u α ζ] s.heap.size = A at hD hO ⊢
  have hA : ∀ q : Nat, s.heap.size ≤ q → A q := fun q h => by rw [← hAe]; exact Or.inr h
  have hw : mg_Vo D A s.heap s.heap [] ([mg_fS o u α ζ]) := ⟨hP, hD, va_S.rf⟩
  have G9 : CallFix p m c cX7_counts 12 s ([.ref u] : List Value).toArray wsX7_counts RX7 := ⟨hx, hb, hml, hown, hts⟩
  clear hP hD hD0 hAe
  have w0_ := hts (.fieldLink RX7 15 "MoonGateLaw$Sim" "cells" "[[[I") (by decide +kernel)
  have iX7_ : ∀ w ∈ wsX70, w ∈ wsX7_counts := (fun _ h => List.mem_cons_of_mem _ (List.mem_append_right _ h))
  have w2_ := hts (.fieldLink RX7 20 "MoonGateLaw$Sim" "carps" "[[I") (by decide +kernel)
  have w3_ := hts (.fieldLink RX7 27 "MoonGateLaw$Sim" "poets" "[[I") (by decide +kernel)
  have w4_ := hts (.arrayClass .int) (by decide +kernel)
  have w5_ := hts (.fieldLink RX7 59 "MoonGateLaw$Sim" "day" "I") (by decide +kernel)
  have w6_ := hts (.fieldLink RX7 7 "MoonGateLaw$Sim" "coins" "I") (by decide +kernel)
  have w7_ := hts (.fieldLink RX7 24 "MoonGateLaw$Sim" "gates" "[[I") (by decide +kernel)
  have w8_ := hts (.classLink RX7 34 "[[Z") (by decide +kernel)
  have hl := lv_entry ([.ref u]) (n := 12) (Nat.le_of_ble_eq_true rfl)
  rw [lg_entry_eq]
  generalize (lg_sl ([.ref u]) ++ List.replicate (12 - (lg_sl ([.ref u])).length) Slot.unset).toArray = ls at hl ⊢
  have hl : lv_has ls 12 [(0, .ref u)] := hl
  unfold f_X7_counts at h
  suffices K_ : ∀ (H : Heap) (locs : List Loc), mg_Vo D A s.heap H locs ([mg_fS o u α ζ]) → W p l e (headSpec wsX7_counts ({ frames := 1, cells := 713, slots := 6864, locals := 27 } : Room)).room s m ([.ref u] : List Value).toArray below meth c H locs 0 0 (MQ below (mg_QV D (fun β => [mg_fS o u α ζ, mg_fI o (β 0 0) 11 y]) A (fun β => some (.ref (β 0 0)))) ([.ref u] : List Value).toArray s 713 6864 A) (F0 m 0 ls []) from K_ _ _ hw
  clear hw
  intro H locs hw
  refine lv_iconst (v := 0) hx hb dX7_counts_0 (by decide) ?_
  refine lv_istore_n (lv' := [(1, .int 0), (0, .ref u)]) hx hb dX7_counts_1 rfl hl (by decide) rfl (fun ls hl => ?_)
  refine lv_iconst (v := 0) hx hb dX7_counts_2 (by decide) ?_
  refine lv_istore_n (lv' := [(2, .int 0), (1, .int 0), (0, .ref u)]) hx hb dX7_counts_3 rfl hl (by decide) rfl (fun ls hl => ?_)
  refine lv_iconst (v := 0) hx hb dX7_counts_4 (by decide) ?_
  refine lv_istore_n (lv' := [(3, .int 0), (2, .int 0), (1, .int 0), (0, .ref u)]) hx hb dX7_counts_5 rfl hl (by decide) rfl (fun ls hl => ?_)
  refine lv_bipush (v := 7) hx hb dX7_counts_6 (by decide) ?_
  refine lv_bipush (v := 10) hx hb dX7_counts_8 (by decide) ?_
  refine mg_mna2 hx hb hown w8_ (hO.2.2.2.2.2.2.2.2.2.2.2.2.2.2.2.2.2.2.2.2.1) hw hA (show 0 + 8 ≤ 713 by omega) (show 0 + 77 ≤ 6864 by omega) dX7_counts_10 (fun q1 r2 H hw => ?_)
  refine lv_astore (lv' := [(4, .ref q1), (3, .int 0), (2, .int 0), (1, .int 0), (0, .ref u)]) hx hb dX7_counts_14 hl (by decide) rfl (fun ls hl => ?_)
  refine lv_iconst (v := 0) hx hb dX7_counts_16 (by decide) ?_
  refine lv_istore (lv' := [(5, .int 0), (4, .ref q1), (3, .int 0), (2, .int 0), (1, .int 0), (0, .ref u)]) hx hb dX7_counts_17 hl (by decide) rfl (fun ls hl => ?_)
  have L19_ : ∀ (n : Nat), ∀ (cl19_ sl19_ : Nat), cl19_ + n * 88 ≤ 712 → sl19_ + n * 847 ≤ 6853 → ∀ (x1_19 : Int32) (x2_19 : Int32) (x3_19 : Int32) (x5_19 : Int32) (cM10_19 : Nat → Nat → Int32) (y19_ : Int32 × Int32 × Int32 × Int32 × (Nat → Nat → Int32)), f_X7_counts_19 ζ n x1_19 x2_19 x3_19 x5_19 cM10_19 = some y19_ → (∀ (H : Heap) (locs : List Loc) (ls : Array Slot), mg_Vo D A s.heap H locs ([mg_fS o u α ζ, mg_fM o q1 r2 y19_.2.2.2.2]) → lv_has ls 12 [(0, .ref u), (1, .int y19_.1), (2, .int y19_.2.1), (3, .int y19_.2.2.1)] → W p l e (headSpec wsX7_counts ({ frames := 1, cells := 713, slots := 6864, locals := 27 } : Room)).room s m ([.ref u] : List Value).toArray below meth c H locs 712 6853 (MQ below (mg_QV D (fun β => [mg_fS o u α ζ, mg_fI o (β 0 0) 11 y]) A (fun β => some (.ref (β 0 0)))) ([.ref u] : List Value).toArray s 713 6864 A) (F0 m 172 ls [])) → ∀ (H : Heap) (locs : List Loc) (ls : Array Slot), mg_Vo D A s.heap H locs ([mg_fS o u α ζ, mg_fM o q1 r2 cM10_19]) → lv_has ls 12 [(0, .ref u), (1, .int x1_19), (2, .int x2_19), (3, .int x3_19), (4, .ref q1), (5, .int x5_19)] → W p l e (headSpec wsX7_counts ({ frames := 1, cells := 713, slots := 6864, locals := 27 } : Room)).room s m ([.ref u] : List Value).toArray below meth c H locs cl19_ sl19_ (MQ below (mg_QV D (fun β => [mg_fS o u α ζ, mg_fI o (β 0 0) 11 y]) A (fun β => some (.ref (β 0 0)))) ([.ref u] : List Value).toArray s 713 6864 A) (F0 m 19 ls []) := by
    intro n
    induction n with
    | zero => intro cl19_ sl19_ hcl19_ hsl19_ x1_19 x2_19 x3_19 x5_19 cM10_19 y19_ h; rw [f_X7_counts_19] at h; cases h
    | succ n ih =>
      intro cl19_ sl19_ hcl19_ hsl19_ x1_19 x2_19 x3_19 x5_19 cM10_19 y19_ h kc H locs ls hw hl
      rw [f_X7_counts_19] at h
      refine lv_iload hx hb dX7_counts_19 (lv_at hl 5 rfl) ?_
      refine lv_bipush (v := 7) hx hb dX7_counts_21 (by decide) ?_
      refine mg_icmp_ge (tgt := 172) hx hb h dX7_counts_23 (by decide) (fun h => ?_) (fun h => ?_)
      · cases h
        refine W.widen (k := 712) (n := 6853) (by omega) (by omega) ?_
        exact kc H locs ls hw (lv_sub hl [0, 1, 2, 3] rfl)
      · refine lv_iconst (v := 0) hx hb dX7_counts_26 (by decide) ?_
        refine lv_istore (lv' := [(6, .int 0), (0, .ref u), (1, .int x1_19), (2, .int x2_19), (3, .int x3_19), (4, .ref q1), (5, .int x5_19)]) hx hb dX7_counts_27 hl (by decide) rfl (fun ls hl => ?_)
        have L29_ : ∀ (n : Nat), ∀ (cl29_ sl29_ : Nat), cl29_ + n * 8 ≤ cl19_ + 88 → sl29_ + n * 77 ≤ sl19_ + 847 → ∀ (x1_29 : Int32) (x2_29 : Int32) (x3_29 : Int32) (x6_29 : Int32) (cM10_29 : Nat → Nat → Int32) (y29_ : Int32 × Int32 × Int32 × Int32 × (Nat → Nat → Int32)), f_X7_counts_29 x5_19 ζ n x1_29 x2_29 x3_29 x6_29 cM10_29 = some y29_ → (∀ (H : Heap) (locs : List Loc) (ls : Array Slot), mg_Vo D A s.heap H locs ([mg_fS o u α ζ, mg_fM o q1 r2 y29_.2.2.2.2]) → lv_has ls 12 [(0, .ref u), (1, .int y29_.1), (2, .int y29_.2.1), (3, .int y29_.2.2.1), (4, .ref q1), (5, .int x5_19)] → W p l e (headSpec wsX7_counts ({ frames := 1, cells := 713, slots := 6864, locals := 27 } : Room)).room s m ([.ref u] : List Value).toArray below meth c H locs (cl19_ + 88) (sl19_ + 847) (MQ below (mg_QV D (fun β => [mg_fS o u α ζ, mg_fI o (β 0 0) 11 y]) A (fun β => some (.ref (β 0 0)))) ([.ref u] : List Value).toArray s 713 6864 A) (F0 m 166 ls [])) → ∀ (H : Heap) (locs : List Loc) (ls : Array Slot), mg_Vo D A s.heap H locs ([mg_fS o u α ζ, mg_fM o q1 r2 cM10_29]) → lv_has ls 12 [(0, .ref u), (1, .int x1_29), (2, .int x2_29), (3, .int x3_29), (4, .ref q1), (5, .int x5_19), (6, .int x6_29)] → W p l e (headSpec wsX7_counts ({ frames := 1, cells := 713, slots := 6864, locals := 27 } : Room)).room s m ([.ref u] : List Value).toArray below meth c H locs cl29_ sl29_ (MQ below (mg_QV D (fun β => [mg_fS o u α ζ, mg_fI o (β 0 0) 11 y]) A (fun β => some (.ref (β 0 0)))) ([.ref u] : List Value).toArray s 713 6864 A) (F0 m 29 ls []) := by
          intro n
          induction n with
          | zero => intro cl29_ sl29_ hcl29_ hsl29_ x1_29 x2_29 x3_29 x6_29 cM10_29 y29_ h; rw [f_X7_counts_29] at h; cases h
          | succ n ih =>
            intro cl29_ sl29_ hcl29_ hsl29_ x1_29 x2_29 x3_29 x6_29 cM10_29 y29_ h kc H locs ls hw hl
            rw [f_X7_counts_29] at h
            refine lv_iload hx hb dX7_counts_29 (lv_at hl 6 rfl) ?_
            refine lv_bipush (v := 10) hx hb dX7_counts_31 (by decide) ?_
            refine mg_icmp_ge (tgt := 166) hx hb h dX7_counts_33 (by decide) (fun h => ?_) (fun h => ?_)
            · cases h
              refine W.widen (k := cl19_ + 88) (n := sl19_ + 847) (by omega) (by omega) ?_
              exact kc H locs ls hw (lv_sub hl [0, 1, 2, 3, 4, 5] rfl)
            · refine lv_iload_n hx hb dX7_counts_36 rfl (lv_at hl 1 rfl) ?_
              refine lv_aload_n hx hb dX7_counts_37 rfl (lv_at hl 0 rfl) ?_
              refine va_get (D := D) (ci := 7) (v := .ref (α 0 1)) (C := RX7) (T := TX7) (N := 6) hx hb hts iX7_ hown hK (mg_at1 hw.1 0 rfl mg_fS_00) 0 rfl rfl 2 (by decide) w0_ (fun _ h9 => h9) rfl dX7_counts_38 ?_
              refine lv_iload hx hb dX7_counts_41 (lv_at hl 5 rfl) ?_
              refine mg_aal hx hb hK hw 0 3 rfl mg_fS_01 rfl rfl h dX7_counts_43 (fun j5 hj5_ h => ?_)
              refine lv_iload hx hb dX7_counts_44 (lv_at hl 6 rfl) ?_
              refine mg_aal hx hb hK hw 0 2 rfl (mg_fS_1 hj5_) rfl rfl h dX7_counts_46 (fun j6 hj6_ h => ?_)
              refine lv_iconst (v := 0) hx hb dX7_counts_47 (by decide) ?_
              refine mg_ial (x := 0) hx hb hK hw 0 rfl (mg_fS_2 hj5_ hj6_) (by unfold vp_in; decide) (by decide) dX7_counts_48 ?_
              refine lv_iconst (v := 1) hx hb dX7_counts_49 (by decide) ?_
              obtain ⟨y7, h9_, h⟩ := mg_bind h
              have J50_ : ∀ (H : Heap) (locs : List Loc) (ls : Array Slot), mg_Vo D A s.heap H locs ([mg_fS o u α ζ, mg_fM o q1 r2 cM10_29]) → lv_has ls 12 [(0, .ref u), (2, .int x2_29), (3, .int x3_29), (4, .ref q1), (5, .int x5_19), (6, .int x6_29)] → W p l e (headSpec wsX7_counts ({ frames := 1, cells := 713, slots := 6864, locals := 27 } : Room)).room s m ([.ref u] : List Value).toArray below meth c H locs cl29_ sl29_ (MQ below (mg_QV D (fun β => [mg_fS o u α ζ, mg_fI o (β 0 0) 11 y]) A (fun β => some (.ref (β 0 0)))) ([.ref u] : List Value).toArray s 713 6864 A) (F0 m 58 ls [.int y7, .int x1_29]) := by
                intro H locs ls hw hl
                clear h9_
                refine lv_iadd hx hb dX7_counts_58 ?_
                refine lv_istore_n (lv' := [(1, .int (x1_29 + y7)), (0, .ref u), (2, .int x2_29), (3, .int x3_29), (4, .ref q1), (5, .int x5_19), (6, .int x6_29)]) hx hb dX7_counts_59 rfl hl (by decide) rfl (fun ls hl => ?_)
                refine lv_aload_n hx hb dX7_counts_60 rfl (lv_at hl 1 rfl) ?_
                refine va_get (D := D) (ci := 7) (v := .ref (α 0 1)) (C := RX7) (T := TX7) (N := 6) hx hb hts iX7_ hown hK (mg_at1 hw.1 0 rfl mg_fS_00) 0 rfl rfl 2 (by decide) w0_ (fun _ h9 => h9) rfl dX7_counts_61 ?_
                refine lv_iload hx hb dX7_counts_64 (lv_at hl 5 rfl) ?_
                refine mg_aal hx hb hK hw 0 3 rfl mg_fS_01 rfl rfl h dX7_counts_66 (fun j8 hj8_ h => ?_)
                refine lv_iload hx hb dX7_counts_67 (lv_at hl 6 rfl) ?_
                refine mg_aal hx hb hK hw 0 2 rfl (mg_fS_1 hj8_) rfl rfl h dX7_counts_69 (fun j9 hj9_ h => ?_)
                refine lv_iconst (v := 0) hx hb dX7_counts_70 (by decide) ?_
                refine mg_ial (x := 0) hx hb hK hw 0 rfl (mg_fS_2 hj8_ hj9_) (by unfold vp_in; decide) (by decide) dX7_counts_71 ?_
                refine lv_iconst (v := 2) hx hb dX7_counts_72 (by decide) ?_
                refine mg_icmp_eq (tgt := 79) hx hb h dX7_counts_73 (by decide) (fun h => ?_) (fun h => ?_)
                · refine lv_iinc (v := (x2_29 + 1)) (lv' := [(2, .int (x2_29 + 1)), (1, .int (x1_29 + y7)), (0, .ref u), (3, .int x3_29), (4, .ref q1), (5, .int x5_19), (6, .int x6_29)]) hx hb dX7_counts_79 hl (k := 2) rfl rfl (by decide) rfl (fun ls hl => ?_)
                  refine lv_aload hx hb dX7_counts_82 (lv_at hl 4 rfl) ?_
                  refine lv_iload hx hb dX7_counts_84 (lv_at hl 5 rfl) ?_
                  refine mg_aal hx hb hK hw 1 4 rfl mg_fM_0 rfl rfl h dX7_counts_86 (fun j10 hj10_ h => ?_)
                  refine lv_iload hx hb dX7_counts_87 (lv_at hl 6 rfl) ?_
                  refine mg_zalx hx hb hK hw 1 rfl (mg_fM_1 hj10_) h dX7_counts_89 (fun j11 hj11_ h => ?_)
                  refine mg_if_eq (tgt := 96) hx hb h dX7_counts_90 (by decide) (fun h => ?_) (fun h => ?_)
                  · refine lv_iinc (v := (x3_29 + 1)) (lv' := [(3, .int (x3_29 + 1)), (2, .int (x2_29 + 1)), (1, .int (x1_29 + y7)), (0, .ref u), (4, .ref q1), (5, .int x5_19), (6, .int x6_29)]) hx hb dX7_counts_96 hl (k := 3) rfl rfl (by decide) rfl (fun ls hl => ?_)
                    refine lv_aload_n hx hb dX7_counts_99 rfl (lv_at hl 3 rfl) ?_
                    refine lv_iload hx hb dX7_counts_100 (lv_at hl 6 rfl) ?_
                    refine lv_iload hx hb dX7_counts_102 (lv_at hl 5 rfl) ?_
                    obtain ⟨y12, h9_, h⟩ := mg_bind h
                    refine mg_callV (va_runV (As := [.int x6_29, .int x5_19]) (rest := []) G9 (k_X7_pond l D o u α H.size ζ x6_29 x5_19 y12 h9_) (cwV 2 hts gX7_counts_X7_pond rfl rfl rfl (by decide +kernel) ⟨Nat.le_of_ble_eq_true rfl, Nat.le_of_ble_eq_true rfl⟩) (mg_preVV hK hO hA (mg_Vsub (L' := [mg_fS o u α ζ]) hw [0] rfl rfl) 0 rfl mg_fS_00 rfl) rfl rfl hl.1 rfl (lv_room (Nat.le_of_ble_eq_true rfl)) dX7_counts_104 ⟨(show cl29_ + 8 ≤ 713 by omega), (show sl29_ + 77 ≤ 6864 by omega)⟩) hw hA [0] [1] rfl (Lr := [mg_fM o q1 r2 cM10_29]) rfl rfl (by decide) (fun β13 H locs hw => ?_)
                    clear h9_
                    have hw : mg_Vo D A s.heap H locs ([mg_fM o q1 r2 cM10_29, mg_fS o u α ζ, mg_fM o (β13 0 0) (β13 1) y12]) := hw
                    refine lv_astore (lv' := [(7, .ref (β13 0 0)), (3, .int (x3_29 + 1)), (2, .int (x2_29 + 1)), (1, .int (x1_29 + y7)), (0, .ref u), (4, .ref q1), (5, .int x5_19), (6, .int x6_29)]) hx hb dX7_counts_107 hl (by decide) rfl (fun ls hl => ?_)
                    refine lv_iconst (v := 0) hx hb dX7_counts_109 (by decide) ?_
                    refine lv_istore (lv' := [(8, .int 0), (7, .ref (β13 0 0)), (3, .int (x3_29 + 1)), (2, .int (x2_29 + 1)), (1, .int (x1_29 + y7)), (0, .ref u), (4, .ref q1), (5, .int x5_19), (6, .int x6_29)]) hx hb dX7_counts_110 hl (by decide) rfl (fun ls hl => ?_)
                    have L112_ : ∀ (n : Nat), ∀ (x8_112 : Int32) (cM10_112 : Nat → Nat → Int32) (y112_ : Int32 × (Nat → Nat → Int32)), f_X7_counts_112 (x1_29 + y7) (x2_29 + 1) (x3_29 + 1) x5_19 x6_29 ζ y12 n x8_112 cM10_112 = some y112_ → (∀ (H : Heap) (locs : List Loc) (ls : Array Slot), mg_Vo D A s.heap H locs ([mg_fM o q1 r2 y112_.2, mg_fS o u α ζ, mg_fM o (β13 0 0) (β13 1) y12]) → lv_has ls 12 [(0, .ref u), (1, .int (x1_29 + y7)), (2, .int (x2_29 + 1)), (3, .int (x3_29 + 1)), (4, .ref q1), (5, .int x5_19), (6, .int x6_29)] → W p l e (headSpec wsX7_counts ({ frames := 1, cells := 713, slots := 6864, locals := 27 } : Room)).room s m ([.ref u] : List Value).toArray below meth c H locs (cl29_ + 8) (sl29_ + 77) (MQ below (mg_QV D (fun β => [mg_fS o u α ζ, mg_fI o (β 0 0) 11 y]) A (fun β => some (.ref (β 0 0)))) ([.ref u] : List Value).toArray s 713 6864 A) (F0 m 160 ls [])) → ∀ (H : Heap) (locs : List Loc) (ls : Array Slot), mg_Vo D A s.heap H locs ([mg_fM o q1 r2 cM10_112, mg_fS o u α ζ, mg_fM o (β13 0 0) (β13 1) y12]) → lv_has ls 12 [(0, .ref u), (1, .int (x1_29 + y7)), (2, .int (x2_29 + 1)), (3, .int (x3_29 + 1)), (4, .ref q1), (5, .int x5_19), (6, .int x6_29), (7, .ref (β13 0 0)), (8, .int x8_112)] → W p l e (headSpec wsX7_counts ({ frames := 1, cells := 713, slots := 6864, locals := 27 } : Room)).room s m ([.ref u] : List Value).toArray below meth c H locs (cl29_ + 8) (sl29_ + 77) (MQ below (mg_QV D (fun β => [mg_fS o u α ζ, mg_fI o (β 0 0) 11 y]) A (fun β => some (.ref (β 0 0)))) ([.ref u] : List Value).toArray s 713 6864 A) (F0 m 112 ls []) := by
                      intro n
                      induction n with
                      | zero => intro x8_112 cM10_112 y112_ h; rw [f_X7_counts_112] at h; cases h
                      | succ n ih =>
                        intro x8_112 cM10_112 y112_ h kc H locs ls hw hl
                        rw [f_X7_counts_112] at h
                        refine lv_iload hx hb dX7_counts_112 (lv_at hl 8 rfl) ?_
                        refine lv_bipush (v := 7) hx hb dX7_counts_114 (by decide) ?_
                        refine mg_icmp_ge (tgt := 160) hx hb h dX7_counts_116 (by decide) (fun h => ?_) (fun h => ?_)
                        · cases h
                          exact kc H locs ls hw (lv_sub hl [0, 1, 2, 3, 4, 5, 6] rfl)
                        · refine lv_iconst (v := 0) hx hb dX7_counts_119 (by decide) ?_
                          refine lv_istore (lv' := [(9, .int 0), (0, .ref u), (1, .int (x1_29 + y7)), (2, .int (x2_29 + 1)), (3, .int (x3_29 + 1)), (4, .ref q1), (5, .int x5_19), (6, .int x6_29), (7, .ref (β13 0 0)), (8, .int x8_112)]) hx hb dX7_counts_120 hl (by decide) rfl (fun ls hl => ?_)
                          have L122_ : ∀ (n : Nat), ∀ (x9_122 : Int32) (cM10_122 : Nat → Nat → Int32) (y122_ : Int32 × (Nat → Nat → Int32)), f_X7_counts_122 (x1_29 + y7) (x2_29 + 1) (x3_29 + 1) x5_19 x6_29 x8_112 ζ y12 n x9_122 cM10_122 = some y122_ → (∀ (H : Heap) (locs : List Loc) (ls : Array Slot), mg_Vo D A s.heap H locs ([mg_fM o q1 r2 y122_.2, mg_fS o u α ζ, mg_fM o (β13 0 0) (β13 1) y12]) → lv_has ls 12 [(0, .ref u), (1, .int (x1_29 + y7)), (2, .int (x2_29 + 1)), (3, .int (x3_29 + 1)), (4, .ref q1), (5, .int x5_19), (6, .int x6_29), (7, .ref (β13 0 0)), (8, .int x8_112)] → W p l e (headSpec wsX7_counts ({ frames := 1, cells := 713, slots := 6864, locals := 27 } : Room)).room s m ([.ref u] : List Value).toArray below meth c H locs (cl29_ + 8) (sl29_ + 77) (MQ below (mg_QV D (fun β => [mg_fS o u α ζ, mg_fI o (β 0 0) 11 y]) A (fun β => some (.ref (β 0 0)))) ([.ref u] : List Value).toArray s 713 6864 A) (F0 m 154 ls [])) → ∀ (H : Heap) (locs : List Loc) (ls : Array Slot), mg_Vo D A s.heap H locs ([mg_fM o q1 r2 cM10_122, mg_fS o u α ζ, mg_fM o (β13 0 0) (β13 1) y12]) → lv_has ls 12 [(0, .ref u), (1, .int (x1_29 + y7)), (2, .int (x2_29 + 1)), (3, .int (x3_29 + 1)), (4, .ref q1), (5, .int x5_19), (6, .int x6_29), (7, .ref (β13 0 0)), (8, .int x8_112), (9, .int x9_122)] → W p l e (headSpec wsX7_counts ({ frames := 1, cells := 713, slots := 6864, locals := 27 } : Room)).room s m ([.ref u] : List Value).toArray below meth c H locs (cl29_ + 8) (sl29_ + 77) (MQ below (mg_QV D (fun β => [mg_fS o u α ζ, mg_fI o (β 0 0) 11 y]) A (fun β => some (.ref (β 0 0)))) ([.ref u] : List Value).toArray s 713 6864 A) (F0 m 122 ls []) := by
                            intro n
                            induction n with
                            | zero => intro x9_122 cM10_122 y122_ h; rw [f_X7_counts_122] at h; cases h
                            | succ n ih =>
                              intro x9_122 cM10_122 y122_ h kc H locs ls hw hl
                              rw [f_X7_counts_122] at h
                              refine lv_iload hx hb dX7_counts_122 (lv_at hl 9 rfl) ?_
                              refine lv_bipush (v := 10) hx hb dX7_counts_124 (by decide) ?_
                              refine mg_icmp_ge (tgt := 154) hx hb h dX7_counts_126 (by decide) (fun h => ?_) (fun h => ?_)
                              · cases h
                                exact kc H locs ls hw (lv_sub hl [0, 1, 2, 3, 4, 5, 6, 7, 8] rfl)
                              · refine lv_aload hx hb dX7_counts_129 (lv_at hl 4 rfl) ?_
                                refine lv_iload hx hb dX7_counts_131 (lv_at hl 8 rfl) ?_
                                refine mg_aal hx hb hK hw 0 4 rfl mg_fM_0 rfl rfl h dX7_counts_133 (fun j16 hj16_ h => ?_)
                                refine lv_iload hx hb dX7_counts_134 (lv_at hl 9 rfl) ?_
                                refine lv_dup2_11 hx hb dX7_counts_136 rfl rfl ?_
                                refine mg_zalx hx hb hK hw 0 rfl (mg_fM_1 hj16_) h dX7_counts_137 (fun j17 hj17_ h => ?_)
                                refine lv_aload hx hb dX7_counts_138 (lv_at hl 7 rfl) ?_
                                refine lv_iload hx hb dX7_counts_140 (lv_at hl 8 rfl) ?_
                                refine mg_aal hx hb hK hw 2 4 rfl mg_fM_0 rfl rfl h dX7_counts_142 (fun j18 hj18_ h => ?_)
                                refine lv_iload hx hb dX7_counts_143 (lv_at hl 9 rfl) ?_
                                refine mg_zalx hx hb hK hw 2 rfl (mg_fM_1 hj18_) h dX7_counts_145 (fun j19 hj19_ h => ?_)
                                refine lv_ior hx hb dX7_counts_146 ?_
                                refine mg_zasd (F' := fun x9_ => mg_fM o q1 r2 (mg_mu cM10_122 j16 x9_ (vp_nar .boolean (((cM10_122 j16) j17) ||| ((y12 j18) j19))))) hx hb hK hw 0 rfl (mg_fM_1 hj16_) (fun _ => (mg_sM hj16_)) h dX7_counts_147 (fun j20 hj20_ h H locs hw => ?_)
                                refine lv_iinc (v := (x9_122 + 1)) (lv' := [(9, .int (x9_122 + 1)), (0, .ref u), (1, .int (x1_29 + y7)), (2, .int (x2_29 + 1)), (3, .int (x3_29 + 1)), (4, .ref q1), (5, .int x5_19), (6, .int x6_29), (7, .ref (β13 0 0)), (8, .int x8_112)]) hx hb dX7_counts_148 hl (k := 9) rfl rfl (by decide) rfl (fun ls hl => ?_)
                                refine lv_goto (tgt := 122) hx hb dX7_counts_151 (by decide) ?_
                                exact ih _ _ _ h kc H locs ls hw (lv_sub hl [1, 2, 3, 4, 5, 6, 7, 8, 9, 0] rfl)
                          obtain ⟨y15, h9_, h⟩ := mg_bind h
                          refine L122_ _ _ _ _ h9_ (fun H locs ls hw hl => ?_) H locs ls hw (lv_sub hl [1, 2, 3, 4, 5, 6, 7, 8, 9, 0] rfl)
                          clear L122_ h9_
                          refine lv_iinc (v := (x8_112 + 1)) (lv' := [(8, .int (x8_112 + 1)), (0, .ref u), (1, .int (x1_29 + y7)), (2, .int (x2_29 + 1)), (3, .int (x3_29 + 1)), (4, .ref q1), (5, .int x5_19), (6, .int x6_29), (7, .ref (β13 0 0))]) hx hb dX7_counts_154 hl (k := 8) rfl rfl (by decide) rfl (fun ls hl => ?_)
                          refine lv_goto (tgt := 112) hx hb dX7_counts_157 (by decide) ?_
                          exact ih _ _ _ h kc H locs ls hw (lv_sub hl [1, 2, 3, 4, 5, 6, 7, 8, 0] rfl)
                    obtain ⟨y14, h9_, h⟩ := mg_bind h
                    refine L112_ _ _ _ _ h9_ (fun H locs ls hw hl => ?_) H locs ls hw (lv_sub hl [5, 4, 3, 2, 6, 7, 8, 1, 0] rfl)
                    clear L112_ h9_
                    refine lv_iinc (v := (x6_29 + 1)) (lv' := [(6, .int (x6_29 + 1)), (0, .ref u), (1, .int (x1_29 + y7)), (2, .int (x2_29 + 1)), (3, .int (x3_29 + 1)), (4, .ref q1), (5, .int x5_19)]) hx hb dX7_counts_160 hl (k := 6) rfl rfl (by decide) rfl (fun ls hl => ?_)
                    refine lv_goto (tgt := 29) hx hb dX7_counts_163 (by decide) ?_
                    exact ih _ _ (by omega) (by omega) _ _ _ _ _ _ h kc H locs ls (mg_Vsub hw [1, 0] rfl rfl) (lv_sub hl [1, 2, 3, 4, 5, 6, 0] rfl)
                  · refine lv_goto (tgt := 160) hx hb dX7_counts_93 (by decide) ?_
                    refine lv_iinc (v := (x6_29 + 1)) (lv' := [(6, .int (x6_29 + 1)), (2, .int (x2_29 + 1)), (1, .int (x1_29 + y7)), (0, .ref u), (3, .int x3_29), (4, .ref q1), (5, .int x5_19)]) hx hb dX7_counts_160 hl (k := 6) rfl rfl (by decide) rfl (fun ls hl => ?_)
                    refine lv_goto (tgt := 29) hx hb dX7_counts_163 (by decide) ?_
                    exact ih _ _ (by omega) (by omega) _ _ _ _ _ _ h kc H locs ls hw (lv_sub hl [3, 2, 1, 4, 5, 6, 0] rfl)
                · refine lv_goto (tgt := 160) hx hb dX7_counts_76 (by decide) ?_
                  refine lv_iinc (v := (x6_29 + 1)) (lv' := [(6, .int (x6_29 + 1)), (1, .int (x1_29 + y7)), (0, .ref u), (2, .int x2_29), (3, .int x3_29), (4, .ref q1), (5, .int x5_19)]) hx hb dX7_counts_160 hl (k := 6) rfl rfl (by decide) rfl (fun ls hl => ?_)
                  refine lv_goto (tgt := 29) hx hb dX7_counts_163 (by decide) ?_
                  exact ih _ _ (by omega) (by omega) _ _ _ _ _ _ h kc H locs ls hw (lv_sub hl [2, 1, 3, 4, 5, 6, 0] rfl)
              clear h
              have h := h9_
              clear h9_
              refine mg_icmp_ne (tgt := 57) hx hb h dX7_counts_50 (by decide) (fun h => ?_) (fun h => ?_)
              · refine lv_iconst (v := 0) hx hb dX7_counts_57 (by decide) ?_
                cases h
                exact J50_ H locs ls hw (lv_sub hl [0, 2, 3, 4, 5, 6] rfl)
              · refine lv_iconst (v := 1) hx hb dX7_counts_53 (by decide) ?_
                refine lv_goto (tgt := 58) hx hb dX7_counts_54 (by decide) ?_
                cases h
                exact J50_ H locs ls hw (lv_sub hl [0, 2, 3, 4, 5, 6] rfl)
        obtain ⟨y4, h9_, h⟩ := mg_bind h
        refine L29_ _ cl19_ sl19_ (by omega) (by omega) _ _ _ _ _ _ h9_ (fun H locs ls hw hl => ?_) H locs ls hw (lv_sub hl [1, 2, 3, 4, 5, 6, 0] rfl)
        clear L29_ h9_
        refine lv_iinc (v := (x5_19 + 1)) (lv' := [(5, .int (x5_19 + 1)), (0, .ref u), (1, .int y4.1), (2, .int y4.2.1), (3, .int y4.2.2.1), (4, .ref q1)]) hx hb dX7_counts_166 hl (k := 5) rfl rfl (by decide) rfl (fun ls hl => ?_)
        refine lv_goto (tgt := 19) hx hb dX7_counts_169 (by decide) ?_
        exact ih _ _ (by omega) (by omega) _ _ _ _ _ _ h kc H locs ls hw (lv_sub hl [1, 2, 3, 4, 5, 0] rfl)
  obtain ⟨y3, h9_, h⟩ := mg_bind h
  refine L19_ _ 8 77 (by omega) (by omega) _ _ _ _ _ _ h9_ (fun H locs ls hw hl => ?_) H locs ls hw (lv_sub hl [5, 4, 3, 2, 1, 0] rfl)
  clear L19_ h9_
  refine lv_iconst (v := 0) hx hb dX7_counts_172 (by decide) ?_
  refine lv_istore (lv' := [(5, .int 0), (0, .ref u), (1, .int y3.1), (2, .int y3.2.1), (3, .int y3.2.2.1)]) hx hb dX7_counts_173 hl (by decide) rfl (fun ls hl => ?_)
  refine lv_iconst (v := 0) hx hb dX7_counts_175 (by decide) ?_
  refine lv_istore (lv' := [(6, .int 0), (5, .int 0), (0, .ref u), (1, .int y3.1), (2, .int y3.2.1), (3, .int y3.2.2.1)]) hx hb dX7_counts_176 hl (by decide) rfl (fun ls hl => ?_)
  refine lv_aload_n hx hb dX7_counts_178 rfl (lv_at hl 2 rfl) ?_
  refine va_get (D := D) (ci := 7) (v := .ref (α 0 2)) (C := RX7) (T := TX7) (N := 6) hx hb hts iX7_ hown hK (mg_at1 hw.1 0 rfl mg_fS_00) 0 rfl rfl 3 (by decide) w2_ (fun _ h9 => h9) rfl dX7_counts_179 ?_
  refine lv_astore (lv' := [(7, .ref (α 0 2)), (6, .int 0), (5, .int 0), (0, .ref u), (1, .int y3.1), (2, .int y3.2.1), (3, .int y3.2.2.1)]) hx hb dX7_counts_182 hl (by decide) rfl (fun ls hl => ?_)
  refine lv_aload hx hb dX7_counts_184 (lv_at hl 0 rfl) ?_
  refine mg_alenq hx hb hK hw 0 2 rfl mg_fS_02 rfl dX7_counts_186 ?_
  refine lv_istore (lv' := [(8, .int (nI (ζ.2 0))), (7, .ref (α 0 2)), (6, .int 0), (5, .int 0), (0, .ref u), (1, .int y3.1), (2, .int y3.2.1), (3, .int y3.2.2.1)]) hx hb dX7_counts_187 hl (by decide) rfl (fun ls hl => ?_)
  refine lv_iconst (v := 0) hx hb dX7_counts_189 (by decide) ?_
  refine lv_istore (lv' := [(9, .int 0), (8, .int (nI (ζ.2 0))), (7, .ref (α 0 2)), (6, .int 0), (5, .int 0), (0, .ref u), (1, .int y3.1), (2, .int y3.2.1), (3, .int y3.2.2.1)]) hx hb dX7_counts_190 hl (by decide) rfl (fun ls hl => ?_)
  have L192_ : ∀ (n : Nat), ∀ (x5_192 : Int32) (x6_192 : Int32) (x9_192 : Int32) (y192_ : Int32 × Int32 × Int32), f_X7_counts_192 y3.1 y3.2.1 y3.2.2.1 (nI (ζ.2 0)) ζ n x5_192 x6_192 x9_192 = some y192_ → (∀ (H : Heap) (locs : List Loc) (ls : Array Slot), mg_Vo D A s.heap H locs ([mg_fS o u α ζ]) → lv_has ls 12 [(0, .ref u), (1, .int y3.1), (2, .int y3.2.1), (3, .int y3.2.2.1), (5, .int y192_.1), (6, .int y192_.2.1)] → W p l e (headSpec wsX7_counts ({ frames := 1, cells := 713, slots := 6864, locals := 27 } : Room)).room s m ([.ref u] : List Value).toArray below meth c H locs 712 6853 (MQ below (mg_QV D (fun β => [mg_fS o u α ζ, mg_fI o (β 0 0) 11 y]) A (fun β => some (.ref (β 0 0)))) ([.ref u] : List Value).toArray s 713 6864 A) (F0 m 243 ls [])) → ∀ (H : Heap) (locs : List Loc) (ls : Array Slot), mg_Vo D A s.heap H locs ([mg_fS o u α ζ]) → lv_has ls 12 [(0, .ref u), (1, .int y3.1), (2, .int y3.2.1), (3, .int y3.2.2.1), (5, .int x5_192), (6, .int x6_192), (7, .ref (α 0 2)), (8, .int (nI (ζ.2 0))), (9, .int x9_192)] → W p l e (headSpec wsX7_counts ({ frames := 1, cells := 713, slots := 6864, locals := 27 } : Room)).room s m ([.ref u] : List Value).toArray below meth c H locs 712 6853 (MQ below (mg_QV D (fun β => [mg_fS o u α ζ, mg_fI o (β 0 0) 11 y]) A (fun β => some (.ref (β 0 0)))) ([.ref u] : List Value).toArray s 713 6864 A) (F0 m 192 ls []) := by
    intro n
    induction n with
    | zero => intro x5_192 x6_192 x9_192 y192_ h; rw [f_X7_counts_192] at h; cases h
    | succ n ih =>
      intro x5_192 x6_192 x9_192 y192_ h kc H locs ls hw hl
      rw [f_X7_counts_192] at h
      refine lv_iload hx hb dX7_counts_192 (lv_at hl 8 rfl) ?_
      refine lv_iload hx hb dX7_counts_194 (lv_at hl 7 rfl) ?_
      refine mg_icmp_ge (tgt := 243) hx hb h dX7_counts_196 (by decide) (fun h => ?_) (fun h => ?_)
      · cases h
        exact kc H locs ls hw (lv_sub hl [0, 1, 2, 3, 4, 5] rfl)
      · refine lv_aload hx hb dX7_counts_199 (lv_at hl 6 rfl) ?_
        refine lv_iload hx hb dX7_counts_201 (lv_at hl 8 rfl) ?_
        refine mg_aal hx hb hK hw 0 2 rfl mg_fS_02 rfl rfl h dX7_counts_203 (fun j22 hj22_ h => ?_)
        refine lv_astore (lv' := [(10, .ref (α 3 j22)), (0, .ref u), (1, .int y3.1), (2, .int y3.2.1), (3, .int y3.2.2.1), (5, .int x5_192), (6, .int x6_192), (7, .ref (α 0 2)), (8, .int (nI (ζ.2 0))), (9, .int x9_192)]) hx hb dX7_counts_204 hl (by decide) rfl (fun ls hl => ?_)
        refine lv_iload hx hb dX7_counts_206 (lv_at hl 5 rfl) ?_
        refine lv_iconst (v := 1) hx hb dX7_counts_208 (by decide) ?_
        refine lv_aload hx hb dX7_counts_209 (lv_at hl 0 rfl) ?_
        refine lv_iconst (v := 3) hx hb dX7_counts_211 (by decide) ?_
        refine mg_ial (x := 3) hx hb hK hw 0 rfl (mg_fS_3 hj22_) (by unfold vp_in; decide) (by decide) dX7_counts_212 ?_
        refine lv_isub hx hb dX7_counts_213 ?_
        refine lv_iadd hx hb dX7_counts_214 ?_
        refine lv_istore (lv' := [(5, .int (x5_192 + (1 - ((ζ.1 3 j22) 3)))), (10, .ref (α 3 j22)), (0, .ref u), (1, .int y3.1), (2, .int y3.2.1), (3, .int y3.2.2.1), (6, .int x6_192), (7, .ref (α 0 2)), (8, .int (nI (ζ.2 0))), (9, .int x9_192)]) hx hb dX7_counts_215 hl (by decide) rfl (fun ls hl => ?_)
        refine lv_iload hx hb dX7_counts_217 (lv_at hl 6 rfl) ?_
        refine lv_aload hx hb dX7_counts_219 (lv_at hl 1 rfl) ?_
        refine lv_iconst (v := 3) hx hb dX7_counts_221 (by decide) ?_
        refine mg_ial (x := 3) hx hb hK hw 0 rfl (mg_fS_3 hj22_) (by unfold vp_in; decide) (by decide) dX7_counts_222 ?_
        refine mg_if_ne (tgt := 233) hx hb h dX7_counts_223 (by decide) (fun h => ?_) (fun h => ?_)
        · refine lv_iconst (v := 0) hx hb dX7_counts_233 (by decide) ?_
          refine lv_iadd hx hb dX7_counts_234 ?_
          refine lv_istore (lv' := [(6, .int (x6_192 + 0)), (5, .int (x5_192 + (1 - ((ζ.1 3 j22) 3)))), (10, .ref (α 3 j22)), (0, .ref u), (1, .int y3.1), (2, .int y3.2.1), (3, .int y3.2.2.1), (7, .ref (α 0 2)), (8, .int (nI (ζ.2 0))), (9, .int x9_192)]) hx hb dX7_counts_235 hl (by decide) rfl (fun ls hl => ?_)
          refine lv_iinc (v := (x9_192 + 1)) (lv' := [(9, .int (x9_192 + 1)), (6, .int (x6_192 + 0)), (5, .int (x5_192 + (1 - ((ζ.1 3 j22) 3)))), (10, .ref (α 3 j22)), (0, .ref u), (1, .int y3.1), (2, .int y3.2.1), (3, .int y3.2.2.1), (7, .ref (α 0 2)), (8, .int (nI (ζ.2 0)))]) hx hb dX7_counts_237 hl (k := 9) rfl rfl (by decide) rfl (fun ls hl => ?_)
          refine lv_goto (tgt := 192) hx hb dX7_counts_240 (by decide) ?_
          exact ih _ _ _ _ h kc H locs ls hw (lv_sub hl [4, 5, 6, 7, 2, 1, 8, 9, 0] rfl)
        · refine lv_aload hx hb dX7_counts_226 (lv_at hl 1 rfl) ?_
          refine lv_iconst (v := 2) hx hb dX7_counts_228 (by decide) ?_
          refine mg_ial (x := 2) hx hb hK hw 0 rfl (mg_fS_3 hj22_) (by unfold vp_in; decide) (by decide) dX7_counts_229 ?_
          refine lv_goto (tgt := 234) hx hb dX7_counts_230 (by decide) ?_
          refine lv_iadd hx hb dX7_counts_234 ?_
          refine lv_istore (lv' := [(6, .int (x6_192 + ((ζ.1 3 j22) 2))), (5, .int (x5_192 + (1 - ((ζ.1 3 j22) 3)))), (10, .ref (α 3 j22)), (0, .ref u), (1, .int y3.1), (2, .int y3.2.1), (3, .int y3.2.2.1), (7, .ref (α 0 2)), (8, .int (nI (ζ.2 0))), (9, .int x9_192)]) hx hb dX7_counts_235 hl (by decide) rfl (fun ls hl => ?_)
          refine lv_iinc (v := (x9_192 + 1)) (lv' := [(9, .int (x9_192 + 1)), (6, .int (x6_192 + ((ζ.1 3 j22) 2))), (5, .int (x5_192 + (1 - ((ζ.1 3 j22) 3)))), (10, .ref (α 3 j22)), (0, .ref u), (1, .int y3.1), (2, .int y3.2.1), (3, .int y3.2.2.1), (7, .ref (α 0 2)), (8, .int (nI (ζ.2 0)))]) hx hb dX7_counts_237 hl (k := 9) rfl rfl (by decide) rfl (fun ls hl => ?_)
          refine lv_goto (tgt := 192) hx hb dX7_counts_240 (by decide) ?_
          exact ih _ _ _ _ h kc H locs ls hw (lv_sub hl [4, 5, 6, 7, 2, 1, 8, 9, 0] rfl)
  obtain ⟨y21, h9_, h⟩ := mg_bind h
  refine L192_ _ _ _ _ _ h9_ (fun H locs ls hw hl => ?_) H locs ls (mg_Vsub hw [0] rfl rfl) (lv_sub hl [5, 6, 7, 8, 4, 3, 2, 1, 0] rfl)
  clear L192_ h9_
  refine lv_iconst (v := 0) hx hb dX7_counts_243 (by decide) ?_
  refine lv_istore (lv' := [(7, .int 0), (0, .ref u), (1, .int y3.1), (2, .int y3.2.1), (3, .int y3.2.2.1), (5, .int y21.1), (6, .int y21.2.1)]) hx hb dX7_counts_244 hl (by decide) rfl (fun ls hl => ?_)
  refine lv_aload_n hx hb dX7_counts_246 rfl (lv_at hl 1 rfl) ?_
  refine va_get (D := D) (ci := 7) (v := .ref (α 0 4)) (C := RX7) (T := TX7) (N := 6) hx hb hts iX7_ hown hK (mg_at1 hw.1 0 rfl mg_fS_00) 0 rfl rfl 5 (by decide) w3_ (fun _ h9 => h9) rfl dX7_counts_247 ?_
  refine lv_astore (lv' := [(8, .ref (α 0 4)), (7, .int 0), (0, .ref u), (1, .int y3.1), (2, .int y3.2.1), (3, .int y3.2.2.1), (5, .int y21.1), (6, .int y21.2.1)]) hx hb dX7_counts_250 hl (by decide) rfl (fun ls hl => ?_)
  refine lv_aload hx hb dX7_counts_252 (lv_at hl 0 rfl) ?_
  refine mg_alenq hx hb hK hw 0 2 rfl mg_fS_04 rfl dX7_counts_254 ?_
  refine lv_istore (lv' := [(9, .int (nI (ζ.2 2))), (8, .ref (α 0 4)), (7, .int 0), (0, .ref u), (1, .int y3.1), (2, .int y3.2.1), (3, .int y3.2.2.1), (5, .int y21.1), (6, .int y21.2.1)]) hx hb dX7_counts_255 hl (by decide) rfl (fun ls hl => ?_)
  refine lv_iconst (v := 0) hx hb dX7_counts_257 (by decide) ?_
  refine lv_istore (lv' := [(10, .int 0), (9, .int (nI (ζ.2 2))), (8, .ref (α 0 4)), (7, .int 0), (0, .ref u), (1, .int y3.1), (2, .int y3.2.1), (3, .int y3.2.2.1), (5, .int y21.1), (6, .int y21.2.1)]) hx hb dX7_counts_258 hl (by decide) rfl (fun ls hl => ?_)
  have L260_ : ∀ (n : Nat), ∀ (x7_260 : Int32) (x10_260 : Int32) (y260_ : Int32 × Int32), f_X7_counts_260 y3.1 y3.2.1 y3.2.2.1 y21.1 y21.2.1 (nI (ζ.2 2)) ζ n x7_260 x10_260 = some y260_ → (∀ (H : Heap) (locs : List Loc) (ls : Array Slot), mg_Vo D A s.heap H locs ([mg_fS o u α ζ]) → lv_has ls 12 [(0, .ref u), (1, .int y3.1), (2, .int y3.2.1), (3, .int y3.2.2.1), (5, .int y21.1), (6, .int y21.2.1), (7, .int y260_.1)] → W p l e (headSpec wsX7_counts ({ frames := 1, cells := 713, slots := 6864, locals := 27 } : Room)).room s m ([.ref u] : List Value).toArray below meth c H locs 712 6853 (MQ below (mg_QV D (fun β => [mg_fS o u α ζ, mg_fI o (β 0 0) 11 y]) A (fun β => some (.ref (β 0 0)))) ([.ref u] : List Value).toArray s 713 6864 A) (F0 m 289 ls [])) → ∀ (H : Heap) (locs : List Loc) (ls : Array Slot), mg_Vo D A s.heap H locs ([mg_fS o u α ζ]) → lv_has ls 12 [(0, .ref u), (1, .int y3.1), (2, .int y3.2.1), (3, .int y3.2.2.1), (5, .int y21.1), (6, .int y21.2.1), (7, .int x7_260), (8, .ref (α 0 4)), (9, .int (nI (ζ.2 2))), (10, .int x10_260)] → W p l e (headSpec wsX7_counts ({ frames := 1, cells := 713, slots := 6864, locals := 27 } : Room)).room s m ([.ref u] : List Value).toArray below meth c H locs 712 6853 (MQ below (mg_QV D (fun β => [mg_fS o u α ζ, mg_fI o (β 0 0) 11 y]) A (fun β => some (.ref (β 0 0)))) ([.ref u] : List Value).toArray s 713 6864 A) (F0 m 260 ls []) := by
    intro n
    induction n with
    | zero => intro x7_260 x10_260 y260_ h; rw [f_X7_counts_260] at h; cases h
    | succ n ih =>
      intro x7_260 x10_260 y260_ h kc H locs ls hw hl
      rw [f_X7_counts_260] at h
      refine lv_iload hx hb dX7_counts_260 (lv_at hl 9 rfl) ?_
      refine lv_iload hx hb dX7_counts_262 (lv_at hl 8 rfl) ?_
      refine mg_icmp_ge (tgt := 289) hx hb h dX7_counts_264 (by decide) (fun h => ?_) (fun h => ?_)
      · cases h
        exact kc H locs ls hw (lv_sub hl [0, 1, 2, 3, 4, 5, 6] rfl)
      · refine lv_aload hx hb dX7_counts_267 (lv_at hl 7 rfl) ?_
        refine lv_iload hx hb dX7_counts_269 (lv_at hl 9 rfl) ?_
        refine mg_aal hx hb hK hw 0 2 rfl mg_fS_04 rfl rfl h dX7_counts_271 (fun j24 hj24_ h => ?_)
        refine lv_astore (lv' := [(11, .ref (α 5 j24)), (0, .ref u), (1, .int y3.1), (2, .int y3.2.1), (3, .int y3.2.2.1), (5, .int y21.1), (6, .int y21.2.1), (7, .int x7_260), (8, .ref (α 0 4)), (9, .int (nI (ζ.2 2))), (10, .int x10_260)]) hx hb dX7_counts_272 hl (by decide) rfl (fun ls hl => ?_)
        refine lv_iload hx hb dX7_counts_274 (lv_at hl 7 rfl) ?_
        refine lv_aload hx hb dX7_counts_276 (lv_at hl 0 rfl) ?_
        refine lv_iconst (v := 1) hx hb dX7_counts_278 (by decide) ?_
        refine mg_ial (x := 1) hx hb hK hw 0 rfl (mg_fS_5 hj24_) (by unfold vp_in; decide) (by decide) dX7_counts_279 ?_
        refine lv_iadd hx hb dX7_counts_280 ?_
        refine lv_istore (lv' := [(7, .int (x7_260 + ((ζ.1 5 j24) 1))), (11, .ref (α 5 j24)), (0, .ref u), (1, .int y3.1), (2, .int y3.2.1), (3, .int y3.2.2.1), (5, .int y21.1), (6, .int y21.2.1), (8, .ref (α 0 4)), (9, .int (nI (ζ.2 2))), (10, .int x10_260)]) hx hb dX7_counts_281 hl (by decide) rfl (fun ls hl => ?_)
        refine lv_iinc (v := (x10_260 + 1)) (lv' := [(10, .int (x10_260 + 1)), (7, .int (x7_260 + ((ζ.1 5 j24) 1))), (11, .ref (α 5 j24)), (0, .ref u), (1, .int y3.1), (2, .int y3.2.1), (3, .int y3.2.2.1), (5, .int y21.1), (6, .int y21.2.1), (8, .ref (α 0 4)), (9, .int (nI (ζ.2 2)))]) hx hb dX7_counts_283 hl (k := 10) rfl rfl (by decide) rfl (fun ls hl => ?_)
        refine lv_goto (tgt := 260) hx hb dX7_counts_286 (by decide) ?_
        exact ih _ _ _ h kc H locs ls hw (lv_sub hl [3, 4, 5, 6, 7, 8, 1, 9, 10, 0] rfl)
  obtain ⟨y23, h9_, h⟩ := mg_bind h
  refine L260_ _ _ _ _ h9_ (fun H locs ls hw hl => ?_) H locs ls hw (lv_sub hl [4, 5, 6, 7, 8, 9, 3, 2, 1, 0] rfl)
  clear L260_ h9_
  refine lv_bipush (v := 11) hx hb dX7_counts_289 (by decide) ?_
  refine mg_vnewI (n := 11) (N := 11) (B := 11) hx hb w4_ hK hw hA (by decide) rfl (Nat.le_refl _) (Nat.le_of_ble_eq_true rfl) (show 712 + 1 ≤ 713 by omega) (show 6853 + 11 ≤ 6864 by omega) dX7_counts_291 (fun q25 H hw => ?_)
  refine lv_dup hx hb dX7_counts_293 rfl ?_
  refine lv_iconst (v := 0) hx hb dX7_counts_294 (by decide) ?_
  refine lv_aload_n hx hb dX7_counts_295 rfl (lv_at hl 0 rfl) ?_
  refine va_get (D := D) (ci := 7) (v := .int (ζ.1 0 0 0)) (C := RX7) (T := TX7) (N := 6) hx hb hts iX7_ hown hK (mg_at1 hw.1 0 rfl mg_fS_00) 0 rfl rfl 0 (by decide) w5_ (fun _ h9 => h9) rfl dX7_counts_296 ?_
  refine mg_iasx (x := 0) (F' := mg_fI o q25 11 (upd (fun _ => 0) 0 (ζ.1 0 0 0))) hx hb hK hw 1 rfl mg_fI_0 (by unfold vp_in; decide) (by decide) mg_sI dX7_counts_299 (fun H locs hw => ?_)
  refine lv_dup hx hb dX7_counts_300 rfl ?_
  refine lv_iconst (v := 1) hx hb dX7_counts_301 (by decide) ?_
  refine lv_aload_n hx hb dX7_counts_302 rfl (lv_at hl 0 rfl) ?_
  refine va_get (D := D) (ci := 7) (v := .int (ζ.1 0 0 0)) (C := RX7) (T := TX7) (N := 6) hx hb hts iX7_ hown hK (mg_at1 hw.1 0 rfl mg_fS_00) 0 rfl rfl 0 (by decide) w5_ (fun _ h9 => h9) rfl dX7_counts_303 ?_
  refine lv_bipush (v := 8) hx hb dX7_counts_306 (by decide) ?_
  refine lv_irem hx hb dX7_counts_308 (by decide) ?_
  refine lv_iconst (v := 4) hx hb dX7_counts_309 (by decide) ?_
  obtain ⟨y26, h9_, h⟩ := mg_bind h
  have J310_ : ∀ (H : Heap) (locs : List Loc) (ls : Array Slot), mg_Vo D A s.heap H locs ([mg_fS o u α ζ, mg_fI o q25 11 (upd (fun _ => 0) 0 (ζ.1 0 0 0))]) → lv_has ls 12 [(0, .ref u), (1, .int y3.1), (2, .int y3.2.1), (3, .int y3.2.2.1), (5, .int y21.1), (6, .int y21.2.1), (7, .int y23.1)] → W p l e (headSpec wsX7_counts ({ frames := 1, cells := 713, slots := 6864, locals := 27 } : Room)).room s m ([.ref u] : List Value).toArray below meth c H locs 713 6864 (MQ below (mg_QV D (fun β => [mg_fS o u α ζ, mg_fI o (β 0 0) 11 y]) A (fun β => some (.ref (β 0 0)))) ([.ref u] : List Value).toArray s 713 6864 A) (F0 m 318 ls [.int y26, .int 1, .ref q25, .ref q25]) := by
    intro H locs ls hw hl
    clear h9_
    refine mg_iasx (x := 1) (F' := mg_fI o q25 11 (upd (upd (fun _ => 0) 0 (ζ.1 0 0 0)) 1 y26)) hx hb hK hw 1 rfl mg_fI_0 (by unfold vp_in; decide) (by decide) mg_sI dX7_counts_318 (fun H locs hw => ?_)
    refine lv_dup hx hb dX7_counts_319 rfl ?_
    refine lv_iconst (v := 2) hx hb dX7_counts_320 (by decide) ?_
    refine lv_aload_n hx hb dX7_counts_321 rfl (lv_at hl 0 rfl) ?_
    refine va_get (D := D) (ci := 7) (v := .int (ζ.1 0 0 1)) (C := RX7) (T := TX7) (N := 6) hx hb hts iX7_ hown hK (mg_at1 hw.1 0 rfl mg_fS_00) 0 rfl rfl 1 (by decide) w6_ (fun _ h9 => h9) rfl dX7_counts_322 ?_
    refine mg_iasx (x := 2) (F' := mg_fI o q25 11 (upd (upd (upd (fun _ => 0) 0 (ζ.1 0 0 0)) 1 y26) 2 (ζ.1 0 0 1))) hx hb hK hw 1 rfl mg_fI_0 (by unfold vp_in; decide) (by decide) mg_sI dX7_counts_325 (fun H locs hw => ?_)
    refine lv_dup hx hb dX7_counts_326 rfl ?_
    refine lv_iconst (v := 3) hx hb dX7_counts_327 (by decide) ?_
    refine lv_iload_n hx hb dX7_counts_328 rfl (lv_at hl 1 rfl) ?_
    refine mg_iasx (x := 3) (F' := mg_fI o q25 11 (upd (upd (upd (upd (fun _ => 0) 0 (ζ.1 0 0 0)) 1 y26) 2 (ζ.1 0 0 1)) 3 y3.1)) hx hb hK hw 1 rfl mg_fI_0 (by unfold vp_in; decide) (by decide) mg_sI dX7_counts_329 (fun H locs hw => ?_)
    refine lv_dup hx hb dX7_counts_330 rfl ?_
    refine lv_iconst (v := 4) hx hb dX7_counts_331 (by decide) ?_
    refine lv_iload_n hx hb dX7_counts_332 rfl (lv_at hl 2 rfl) ?_
    refine mg_iasx (x := 4) (F' := mg_fI o q25 11 (upd (upd (upd (upd (upd (fun _ => 0) 0 (ζ.1 0 0 0)) 1 y26) 2 (ζ.1 0 0 1)) 3 y3.1) 4 y3.2.1)) hx hb hK hw 1 rfl mg_fI_0 (by unfold vp_in; decide) (by decide) mg_sI dX7_counts_333 (fun H locs hw => ?_)
    refine lv_dup hx hb dX7_counts_334 rfl ?_
    refine lv_iconst (v := 5) hx hb dX7_counts_335 (by decide) ?_
    refine lv_iload_n hx hb dX7_counts_336 rfl (lv_at hl 3 rfl) ?_
    refine mg_iasx (x := 5) (F' := mg_fI o q25 11 (upd (upd (upd (upd (upd (upd (fun _ => 0) 0 (ζ.1 0 0 0)) 1 y26) 2 (ζ.1 0 0 1)) 3 y3.1) 4 y3.2.1) 5 y3.2.2.1)) hx hb hK hw 1 rfl mg_fI_0 (by unfold vp_in; decide) (by decide) mg_sI dX7_counts_337 (fun H locs hw => ?_)
    refine lv_dup hx hb dX7_counts_338 rfl ?_
    refine lv_bipush (v := 6) hx hb dX7_counts_339 (by decide) ?_
    refine lv_iload hx hb dX7_counts_341 (lv_at hl 4 rfl) ?_
    refine mg_iasx (x := 6) (F' := mg_fI o q25 11 (upd (upd (upd (upd (upd (upd (upd (fun _ => 0) 0 (ζ.1 0 0 0)) 1 y26) 2 (ζ.1 0 0 1)) 3 y3.1) 4 y3.2.1) 5 y3.2.2.1) 6 y21.1)) hx hb hK hw 1 rfl mg_fI_0 (by unfold vp_in; decide) (by decide) mg_sI dX7_counts_343 (fun H locs hw => ?_)
    refine lv_dup hx hb dX7_counts_344 rfl ?_
    refine lv_bipush (v := 7) hx hb dX7_counts_345 (by decide) ?_
    refine lv_iload hx hb dX7_counts_347 (lv_at hl 5 rfl) ?_
    refine mg_iasx (x := 7) (F' := mg_fI o q25 11 (upd (upd (upd (upd (upd (upd (upd (upd (fun _ => 0) 0 (ζ.1 0 0 0)) 1 y26) 2 (ζ.1 0 0 1)) 3 y3.1) 4 y3.2.1) 5 y3.2.2.1) 6 y21.1) 7 y21.2.1)) hx hb hK hw 1 rfl mg_fI_0 (by unfold vp_in; decide) (by decide) mg_sI dX7_counts_349 (fun H locs hw => ?_)
    refine lv_dup hx hb dX7_counts_350 rfl ?_
    refine lv_bipush (v := 8) hx hb dX7_counts_351 (by decide) ?_
    refine lv_aload_n hx hb dX7_counts_353 rfl (lv_at hl 0 rfl) ?_
    refine va_get (D := D) (ci := 7) (v := .ref (α 0 3)) (C := RX7) (T := TX7) (N := 6) hx hb hts iX7_ hown hK (mg_at1 hw.1 0 rfl mg_fS_00) 0 rfl rfl 4 (by decide) w7_ (fun _ h9 => h9) rfl dX7_counts_354 ?_
    refine mg_alenq hx hb hK hw 0 2 rfl mg_fS_03 rfl dX7_counts_357 ?_
    refine mg_iasx (x := 8) (F' := mg_fI o q25 11 (upd (upd (upd (upd (upd (upd (upd (upd (upd (fun _ => 0) 0 (ζ.1 0 0 0)) 1 y26) 2 (ζ.1 0 0 1)) 3 y3.1) 4 y3.2.1) 5 y3.2.2.1) 6 y21.1) 7 y21.2.1) 8 (nI (ζ.2 1)))) hx hb hK hw 1 rfl mg_fI_0 (by unfold vp_in; decide) (by decide) mg_sI dX7_counts_358 (fun H locs hw => ?_)
    refine lv_dup hx hb dX7_counts_359 rfl ?_
    refine lv_bipush (v := 9) hx hb dX7_counts_360 (by decide) ?_
    refine lv_aload_n hx hb dX7_counts_362 rfl (lv_at hl 0 rfl) ?_
    refine va_get (D := D) (ci := 7) (v := .ref (α 0 4)) (C := RX7) (T := TX7) (N := 6) hx hb hts iX7_ hown hK (mg_at1 hw.1 0 rfl mg_fS_00) 0 rfl rfl 5 (by decide) w3_ (fun _ h9 => h9) rfl dX7_counts_363 ?_
    refine mg_alenq hx hb hK hw 0 2 rfl mg_fS_04 rfl dX7_counts_366 ?_
    refine mg_iasx (x := 9) (F' := mg_fI o q25 11 (upd (upd (upd (upd (upd (upd (upd (upd (upd (upd (fun _ => 0) 0 (ζ.1 0 0 0)) 1 y26) 2 (ζ.1 0 0 1)) 3 y3.1) 4 y3.2.1) 5 y3.2.2.1) 6 y21.1) 7 y21.2.1) 8 (nI (ζ.2 1))) 9 (nI (ζ.2 2)))) hx hb hK hw 1 rfl mg_fI_0 (by unfold vp_in; decide) (by decide) mg_sI dX7_counts_367 (fun H locs hw => ?_)
    refine lv_dup hx hb dX7_counts_368 rfl ?_
    refine lv_bipush (v := 10) hx hb dX7_counts_369 (by decide) ?_
    refine lv_iload hx hb dX7_counts_371 (lv_at hl 6 rfl) ?_
    refine mg_iasx (x := 10) (F' := mg_fI o q25 11 (upd (upd (upd (upd (upd (upd (upd (upd (upd (upd (upd (fun _ => 0) 0 (ζ.1 0 0 0)) 1 y26) 2 (ζ.1 0 0 1)) 3 y3.1) 4 y3.2.1) 5 y3.2.2.1) 6 y21.1) 7 y21.2.1) 8 (nI (ζ.2 1))) 9 (nI (ζ.2 2))) 10 y23.1)) hx hb hK hw 1 rfl mg_fI_0 (by unfold vp_in; decide) (by decide) mg_sI dX7_counts_373 (fun H locs hw => ?_)
    refine lv_astore (lv' := [(8, .ref q25), (0, .ref u), (1, .int y3.1), (2, .int y3.2.1), (3, .int y3.2.2.1), (5, .int y21.1), (6, .int y21.2.1), (7, .int y23.1)]) hx hb dX7_counts_374 hl (by decide) rfl (fun ls hl => ?_)
    refine lv_aload hx hb dX7_counts_376 (lv_at hl 0 rfl) ?_
    cases h
    exact mg_eR (fun _ _ => q25) rfl hx hb hr (Or.inr ⟨_, rfl⟩) hlocks hw (show 713 ≤ 713 by omega) (show 6864 ≤ 6864 by omega) dX7_counts_378
  clear h
  have h := h9_
  clear h9_
  refine mg_icmp_ne (tgt := 317) hx hb h dX7_counts_310 (by decide) (fun h => ?_) (fun h => ?_)
  · refine lv_iconst (v := 0) hx hb dX7_counts_317 (by decide) ?_
    cases h
    exact J310_ H locs ls hw (lv_sub hl [0, 1, 2, 3, 4, 5, 6] rfl)
  · refine lv_iconst (v := 1) hx hb dX7_counts_313 (by decide) ?_
    refine lv_goto (tgt := 318) hx hb dX7_counts_314 (by decide) ?_
    cases h
    exact J310_ H locs ls hw (lv_sub hl [0, 1, 2, 3, 4, 5, 6] rfl)
