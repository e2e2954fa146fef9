set_option maxHeartbeats 8000000 in
set_option maxRecDepth 100000 in
theorem k_X7_pond (l : Launch) (D : va_G) (o : Nat → Nat) (u : Nat) (α : Nat → Nat → Nat) (sz : Nat) (ζ : mg_Sz) (x1 : Int32) (x2 : Int32) (y : Nat → Nat → Int32) (h : f_X7_pond ζ x1 x2 = some y) : mg_CV l yX7_pond wsX7_pond ({ frames := 0, cells := 8, slots := 77, locals := 0 } : Room) D o [mg_fS o u α ζ] sz [.ref u, .int x1, .int x2] (fun β => some (.ref (β 0 0))) (fun β => [mg_fS o u α ζ, mg_fM o (β 0 0) (β 1) y]) 8 77 := by
  unfold mg_CV
  refine Met.ofW (cc := cX7_pond) (maxL := 8) (ret := (some (.array (.array .boolean)))) (by decide) rfl ?_
  intro p e s m args below meth c s₁ B hml hv
  obtain ⟨rfl, hsz, hP, hK, hD0, hO⟩ := hv
  have hx := B.exec
  have hb := B.bytes
  have hr := B.returns
  have hts := atoms_spec (ws := wsX7_pond) B.pre
  have hown : s.vm.findClass RX7 = some m.cls := findClass_of_methodNamed B.named
  have hlocks := B.notSynchronized
  subst hsz
  have hD := hD0.self (sz := s.heap.size)
  generalize hAe : mg_VA [mg_fS o u α ζ] s.heap.size = A at hD hO ⊢
  have hA : ∀ q : Nat, s.heap.size ≤ q → A q := fun q h => by rw [← hAe]; exact Or.inr h
  have hw : mg_Vo D A s.heap s.heap [] ([mg_fS o u α ζ]) := ⟨hP, hD, va_S.rf⟩
  have G9 : CallFix p m c cX7_pond 8 s ([.ref u, .int x1, .int x2] : List Value).toArray wsX7_pond RX7 := ⟨hx, hb, hml, hown, hts⟩
  clear hP hD hD0 hAe
  have w0_ := hts (.fieldLink RX7 15 "MoonGateLaw$Sim" "cells" "[[[I") (by decide +kernel)
  have iX7_ : ∀ w ∈ wsX70, w ∈ wsX7_pond := (fun _ h => List.mem_cons_of_mem _ (List.mem_append_right _ h))
  have w2_ := hts (.classLink RX7 34 "[[Z") (by decide +kernel)
  have hl := lv_entry ([.ref u, .int x1, .int x2]) (n := 8) (Nat.le_of_ble_eq_true rfl)
  rw [lg_entry_eq]
  generalize (lg_sl ([.ref u, .int x1, .int x2]) ++ List.replicate (8 - (lg_sl ([.ref u, .int x1, .int x2])).length) Slot.unset).toArray = ls at hl ⊢
  have hl : lv_has ls 8 [(0, .ref u), (1, .int x1), (2, .int x2)] := hl
  unfold f_X7_pond at h
  suffices K_ : ∀ (H : Heap) (locs : List Loc), mg_Vo D A s.heap H locs ([mg_fS o u α ζ]) → W p l e (headSpec wsX7_pond ({ frames := 0, cells := 8, slots := 77, locals := 0 } : Room)).room s m ([.ref u, .int x1, .int x2] : List Value).toArray below meth c H locs 0 0 (MQ below (mg_QV D (fun β => [mg_fS o u α ζ, mg_fM o (β 0 0) (β 1) y]) A (fun β => some (.ref (β 0 0)))) ([.ref u, .int x1, .int x2] : List Value).toArray s 8 77 A) (F0 m 0 ls []) from K_ _ _ hw
  clear hw
  intro H locs hw
  refine lv_bipush (v := 7) hx hb dX7_pond_0 (by decide) ?_
  refine lv_bipush (v := 10) hx hb dX7_pond_2 (by decide) ?_
  refine mg_mna2 hx hb hown w2_ (hO.2.2.2.2.2.2.2.2.2.2.2.2.2.2.2.2.2.2.2.2.1) hw hA (show 0 + 8 ≤ 8 by omega) (show 0 + 77 ≤ 77 by omega) dX7_pond_4 (fun q1 r2 H hw => ?_)
  refine lv_astore_n (lv' := [(3, .ref q1), (0, .ref u), (1, .int x1), (2, .int x2)]) hx hb dX7_pond_8 rfl hl (by decide) rfl (fun ls hl => ?_)
  refine lv_aload_n hx hb dX7_pond_9 rfl (lv_at hl 0 rfl) ?_
  refine lv_iload_n hx hb dX7_pond_10 rfl (lv_at hl 3 rfl) ?_
  refine mg_aal hx hb hK hw 1 4 rfl mg_fM_0 rfl rfl h dX7_pond_11 (fun j3 hj3_ h => ?_)
  refine lv_iload_n hx hb dX7_pond_12 rfl (lv_at hl 2 rfl) ?_
  refine lv_aload_n hx hb dX7_pond_13 rfl (lv_at hl 1 rfl) ?_
  refine va_get (D := D) (ci := 7) (v := .ref (α 0 1)) (C := RX7) (T := TX7) (N := 6) hx hb hts iX7_ hown hK (mg_at1 hw.1 0 rfl mg_fS_00) 0 rfl rfl 2 (by decide) w0_ (fun _ h9 => h9) rfl dX7_pond_14 ?_
  refine lv_iload_n hx hb dX7_pond_17 rfl (lv_at hl 3 rfl) ?_
  refine mg_aal hx hb hK hw 0 3 rfl mg_fS_01 rfl rfl h dX7_pond_18 (fun j4 hj4_ h => ?_)
  refine lv_iload_n hx hb dX7_pond_19 rfl (lv_at hl 2 rfl) ?_
  refine mg_aal hx hb hK hw 0 2 rfl (mg_fS_1 hj4_) rfl rfl h dX7_pond_20 (fun j5 hj5_ h => ?_)
  refine lv_iconst (v := 0) hx hb dX7_pond_21 (by decide) ?_
  refine mg_ial (x := 0) hx hb hK hw 0 rfl (mg_fS_2 hj4_ hj5_) (by unfold vp_in; decide) (by decide) dX7_pond_22 ?_
  refine lv_iconst (v := 2) hx hb dX7_pond_23 (by decide) ?_
  obtain ⟨y6, h9_, h⟩ := mg_bind h
  have J24_ : ∀ (H : Heap) (locs : List Loc) (ls : Array Slot), mg_Vo D A s.heap H locs ([mg_fS o u α ζ, mg_fM o q1 r2 (fun _ _ => 0)]) → lv_has ls 8 [(0, .ref u), (1, .int x1), (2, .int x2), (3, .ref q1)] → W p l e (headSpec wsX7_pond ({ frames := 0, cells := 8, slots := 77, locals := 0 } : Room)).room s m ([.ref u, .int x1, .int x2] : List Value).toArray below meth c H locs 8 77 (MQ below (mg_QV D (fun β => [mg_fS o u α ζ, mg_fM o (β 0 0) (β 1) y]) A (fun β => some (.ref (β 0 0)))) ([.ref u, .int x1, .int x2] : List Value).toArray s 8 77 A) (F0 m 32 ls [.int y6, .int x1, .ref (r2 j3)]) := by
    intro H locs ls hw hl
    clear h9_
    refine mg_zasd (F' := fun x9_ => mg_fM o q1 r2 (mg_mu (fun _ _ => 0) j3 x9_ (vp_nar .boolean y6))) hx hb hK hw 1 rfl (mg_fM_1 hj3_) (fun _ => (mg_sM hj3_)) h dX7_pond_32 (fun j7 hj7_ h H locs hw => ?_)
    refine lv_aload_n hx hb dX7_pond_33 rfl (lv_at hl 3 rfl) ?_
    refine lv_iload_n hx hb dX7_pond_34 rfl (lv_at hl 2 rfl) ?_
    refine mg_aal hx hb hK hw 1 4 rfl mg_fM_0 rfl rfl h dX7_pond_35 (fun j8 hj8_ h => ?_)
    refine lv_iload_n hx hb dX7_pond_36 rfl (lv_at hl 1 rfl) ?_
    refine mg_zalx hx hb hK hw 1 rfl (mg_fM_1 hj8_) h dX7_pond_37 (fun j9 hj9_ h => ?_)
    refine lv_istore (lv' := [(4, .int (((mg_mu (fun _ _ => 0) j3 j7 (vp_nar .boolean y6)) j8) j9)), (0, .ref u), (1, .int x1), (2, .int x2), (3, .ref q1)]) hx hb dX7_pond_38 hl (by decide) rfl (fun ls hl => ?_)
    have L40_ : ∀ (n : Nat), ∀ (x4_40 : Int32) (cM4_40 : Nat → Nat → Int32) (y40_ : Int32 × (Nat → Nat → Int32)), f_X7_pond_40 ζ n x4_40 cM4_40 = some y40_ → (∀ (H : Heap) (locs : List Loc) (ls : Array Slot), mg_Vo D A s.heap H locs ([mg_fS o u α ζ, mg_fM o q1 r2 y40_.2]) → lv_has ls 8 [(3, .ref q1)] → W p l e (headSpec wsX7_pond ({ frames := 0, cells := 8, slots := 77, locals := 0 } : Room)).room s m ([.ref u, .int x1, .int x2] : List Value).toArray below meth c H locs 8 77 (MQ below (mg_QV D (fun β => [mg_fS o u α ζ, mg_fM o (β 0 0) (β 1) y]) A (fun β => some (.ref (β 0 0)))) ([.ref u, .int x1, .int x2] : List Value).toArray s 8 77 A) (F0 m 207 ls [])) → ∀ (H : Heap) (locs : List Loc) (ls : Array Slot), mg_Vo D A s.heap H locs ([mg_fS o u α ζ, mg_fM o q1 r2 cM4_40]) → lv_has ls 8 [(0, .ref u), (3, .ref q1), (4, .int x4_40)] → W p l e (headSpec wsX7_pond ({ frames := 0, cells := 8, slots := 77, locals := 0 } : Room)).room s m ([.ref u, .int x1, .int x2] : List Value).toArray below meth c H locs 8 77 (MQ below (mg_QV D (fun β => [mg_fS o u α ζ, mg_fM o (β 0 0) (β 1) y]) A (fun β => some (.ref (β 0 0)))) ([.ref u, .int x1, .int x2] : List Value).toArray s 8 77 A) (F0 m 40 ls []) := by
      intro n
      induction n with
      | zero => intro x4_40 cM4_40 y40_ h; rw [f_X7_pond_40] at h; cases h
      | succ n ih =>
        intro x4_40 cM4_40 y40_ h kc H locs ls hw hl
        rw [f_X7_pond_40] at h
        refine lv_iload hx hb dX7_pond_40 (lv_at hl 2 rfl) ?_
        refine mg_if_eq (tgt := 207) hx hb h dX7_pond_42 (by decide) (fun h => ?_) (fun h => ?_)
        · cases h
          exact kc H locs ls hw (lv_sub hl [1] rfl)
        · refine lv_iconst (v := 0) hx hb dX7_pond_45 (by decide) ?_
          refine lv_istore (lv' := [(4, .int 0), (0, .ref u), (3, .ref q1)]) hx hb dX7_pond_46 hl (by decide) rfl (fun ls hl => ?_)
          refine lv_iconst (v := 0) hx hb dX7_pond_48 (by decide) ?_
          refine lv_istore (lv' := [(5, .int 0), (4, .int 0), (0, .ref u), (3, .ref q1)]) hx hb dX7_pond_49 hl (by decide) rfl (fun ls hl => ?_)
          have L51_ : ∀ (n : Nat), ∀ (x4_51 : Int32) (x5_51 : Int32) (cM4_51 : Nat → Nat → Int32) (y51_ : Int32 × Int32 × (Nat → Nat → Int32)), f_X7_pond_51 ζ n x4_51 x5_51 cM4_51 = some y51_ → (∀ (H : Heap) (locs : List Loc) (ls : Array Slot), mg_Vo D A s.heap H locs ([mg_fS o u α ζ, mg_fM o q1 r2 y51_.2.2]) → lv_has ls 8 [(0, .ref u), (3, .ref q1), (4, .int y51_.1)] → W p l e (headSpec wsX7_pond ({ frames := 0, cells := 8, slots := 77, locals := 0 } : Room)).room s m ([.ref u, .int x1, .int x2] : List Value).toArray below meth c H locs 8 77 (MQ below (mg_QV D (fun β => [mg_fS o u α ζ, mg_fM o (β 0 0) (β 1) y]) A (fun β => some (.ref (β 0 0)))) ([.ref u, .int x1, .int x2] : List Value).toArray s 8 77 A) (F0 m 204 ls [])) → ∀ (H : Heap) (locs : List Loc) (ls : Array Slot), mg_Vo D A s.heap H locs ([mg_fS o u α ζ, mg_fM o q1 r2 cM4_51]) → lv_has ls 8 [(0, .ref u), (3, .ref q1), (4, .int x4_51), (5, .int x5_51)] → W p l e (headSpec wsX7_pond ({ frames := 0, cells := 8, slots := 77, locals := 0 } : Room)).room s m ([.ref u, .int x1, .int x2] : List Value).toArray below meth c H locs 8 77 (MQ below (mg_QV D (fun β => [mg_fS o u α ζ, mg_fM o (β 0 0) (β 1) y]) A (fun β => some (.ref (β 0 0)))) ([.ref u, .int x1, .int x2] : List Value).toArray s 8 77 A) (F0 m 51 ls []) := by
            intro n
            induction n with
            | zero => intro x4_51 x5_51 cM4_51 y51_ h; rw [f_X7_pond_51] at h; cases h
            | succ n ih =>
              intro x4_51 x5_51 cM4_51 y51_ h kc H locs ls hw hl
              rw [f_X7_pond_51] at h
              refine lv_iload hx hb dX7_pond_51 (lv_at hl 3 rfl) ?_
              refine lv_bipush (v := 7) hx hb dX7_pond_53 (by decide) ?_
              refine mg_icmp_ge (tgt := 204) hx hb h dX7_pond_55 (by decide) (fun h => ?_) (fun h => ?_)
              · cases h
                exact kc H locs ls hw (lv_sub hl [0, 1, 2] rfl)
              · refine lv_iconst (v := 0) hx hb dX7_pond_58 (by decide) ?_
                refine lv_istore (lv' := [(6, .int 0), (0, .ref u), (3, .ref q1), (4, .int x4_51), (5, .int x5_51)]) hx hb dX7_pond_59 hl (by decide) rfl (fun ls hl => ?_)
                have L61_ : ∀ (n : Nat), ∀ (x4_61 : Int32) (x6_61 : Int32) (cM4_61 : Nat → Nat → Int32) (y61_ : Int32 × Int32 × (Nat → Nat → Int32)), f_X7_pond_61 x5_51 ζ n x4_61 x6_61 cM4_61 = some y61_ → (∀ (H : Heap) (locs : List Loc) (ls : Array Slot), mg_Vo D A s.heap H locs ([mg_fS o u α ζ, mg_fM o q1 r2 y61_.2.2]) → lv_has ls 8 [(0, .ref u), (3, .ref q1), (4, .int y61_.1), (5, .int x5_51)] → W p l e (headSpec wsX7_pond ({ frames := 0, cells := 8, slots := 77, locals := 0 } : Room)).room s m ([.ref u, .int x1, .int x2] : List Value).toArray below meth c H locs 8 77 (MQ below (mg_QV D (fun β => [mg_fS o u α ζ, mg_fM o (β 0 0) (β 1) y]) A (fun β => some (.ref (β 0 0)))) ([.ref u, .int x1, .int x2] : List Value).toArray s 8 77 A) (F0 m 198 ls [])) → ∀ (H : Heap) (locs : List Loc) (ls : Array Slot), mg_Vo D A s.heap H locs ([mg_fS o u α ζ, mg_fM o q1 r2 cM4_61]) → lv_has ls 8 [(0, .ref u), (3, .ref q1), (4, .int x4_61), (5, .int x5_51), (6, .int x6_61)] → W p l e (headSpec wsX7_pond ({ frames := 0, cells := 8, slots := 77, locals := 0 } : Room)).room s m ([.ref u, .int x1, .int x2] : List Value).toArray below meth c H locs 8 77 (MQ below (mg_QV D (fun β => [mg_fS o u α ζ, mg_fM o (β 0 0) (β 1) y]) A (fun β => some (.ref (β 0 0)))) ([.ref u, .int x1, .int x2] : List Value).toArray s 8 77 A) (F0 m 61 ls []) := by
                  intro n
                  induction n with
                  | zero => intro x4_61 x6_61 cM4_61 y61_ h; rw [f_X7_pond_61] at h; cases h
                  | succ n ih =>
                    intro x4_61 x6_61 cM4_61 y61_ h kc H locs ls hw hl
                    rw [f_X7_pond_61] at h
                    refine lv_iload hx hb dX7_pond_61 (lv_at hl 4 rfl) ?_
                    refine lv_bipush (v := 10) hx hb dX7_pond_63 (by decide) ?_
                    refine mg_icmp_ge (tgt := 198) hx hb h dX7_pond_65 (by decide) (fun h => ?_) (fun h => ?_)
                    · cases h
                      exact kc H locs ls hw (lv_sub hl [0, 1, 2, 3] rfl)
                    · refine lv_iload hx hb dX7_pond_68 (lv_at hl 4 rfl) ?_
                      obtain ⟨y13, h9_, h⟩ := mg_bind h
                      have J70_ : ∀ (H : Heap) (locs : List Loc) (ls : Array Slot), mg_Vo D A s.heap H locs ([mg_fS o u α ζ, mg_fM o q1 r2 cM4_61]) → lv_has ls 8 [(0, .ref u), (3, .ref q1), (4, .int x4_61), (5, .int x5_51), (6, .int x6_61)] → W p l e (headSpec wsX7_pond ({ frames := 0, cells := 8, slots := 77, locals := 0 } : Room)).room s m ([.ref u, .int x1, .int x2] : List Value).toArray below meth c H locs 8 77 (MQ below (mg_QV D (fun β => [mg_fS o u α ζ, mg_fM o (β 0 0) (β 1) y]) A (fun β => some (.ref (β 0 0)))) ([.ref u, .int x1, .int x2] : List Value).toArray s 8 77 A) (F0 m 145 ls [.int y13]) := by
                        intro H locs ls hw hl
                        clear h9_
                        refine lv_istore (lv' := [(7, .int y13), (0, .ref u), (3, .ref q1), (4, .int x4_61), (5, .int x5_51), (6, .int x6_61)]) hx hb dX7_pond_145 hl (by decide) rfl (fun ls hl => ?_)
                        refine lv_aload_n hx hb dX7_pond_147 rfl (lv_at hl 2 rfl) ?_
                        refine lv_iload hx hb dX7_pond_148 (lv_at hl 4 rfl) ?_
                        refine mg_aal hx hb hK hw 1 4 rfl mg_fM_0 rfl rfl h dX7_pond_150 (fun j44 hj44_ h => ?_)
                        refine lv_iload hx hb dX7_pond_151 (lv_at hl 5 rfl) ?_
                        refine mg_zalx hx hb hK hw 1 rfl (mg_fM_1 hj44_) h dX7_pond_153 (fun j45 hj45_ h => ?_)
                        refine mg_if_ne (tgt := 192) hx hb h dX7_pond_154 (by decide) (fun h => ?_) (fun h => ?_)
                        · refine lv_iinc (v := (x6_61 + 1)) (lv' := [(6, .int (x6_61 + 1)), (7, .int y13), (0, .ref u), (3, .ref q1), (4, .int x4_61), (5, .int x5_51)]) hx hb dX7_pond_192 hl (k := 5) rfl rfl (by decide) rfl (fun ls hl => ?_)
                          refine lv_goto (tgt := 61) hx hb dX7_pond_195 (by decide) ?_
                          exact ih _ _ _ _ h kc H locs ls hw (lv_sub hl [2, 3, 4, 5, 0] rfl)
                        · refine lv_aload_n hx hb dX7_pond_157 rfl (lv_at hl 1 rfl) ?_
                          refine va_get (D := D) (ci := 7) (v := .ref (α 0 1)) (C := RX7) (T := TX7) (N := 6) hx hb hts iX7_ hown hK (mg_at1 hw.1 0 rfl mg_fS_00) 0 rfl rfl 2 (by decide) w0_ (fun _ h9 => h9) rfl dX7_pond_158 ?_
                          refine lv_iload hx hb dX7_pond_161 (lv_at hl 4 rfl) ?_
                          refine mg_aal hx hb hK hw 0 3 rfl mg_fS_01 rfl rfl h dX7_pond_163 (fun j46 hj46_ h => ?_)
                          refine lv_iload hx hb dX7_pond_164 (lv_at hl 5 rfl) ?_
                          refine mg_aal hx hb hK hw 0 2 rfl (mg_fS_1 hj46_) rfl rfl h dX7_pond_166 (fun j47 hj47_ h => ?_)
                          refine lv_iconst (v := 0) hx hb dX7_pond_167 (by decide) ?_
                          refine mg_ial (x := 0) hx hb hK hw 0 rfl (mg_fS_2 hj46_ hj47_) (by unfold vp_in; decide) (by decide) dX7_pond_168 ?_
                          refine lv_iconst (v := 2) hx hb dX7_pond_169 (by decide) ?_
                          refine mg_icmp_ne (tgt := 192) hx hb h dX7_pond_170 (by decide) (fun h => ?_) (fun h => ?_)
                          · refine lv_iinc (v := (x6_61 + 1)) (lv' := [(6, .int (x6_61 + 1)), (7, .int y13), (0, .ref u), (3, .ref q1), (4, .int x4_61), (5, .int x5_51)]) hx hb dX7_pond_192 hl (k := 5) rfl rfl (by decide) rfl (fun ls hl => ?_)
                            refine lv_goto (tgt := 61) hx hb dX7_pond_195 (by decide) ?_
                            exact ih _ _ _ _ h kc H locs ls hw (lv_sub hl [2, 3, 4, 5, 0] rfl)
                          · refine lv_iload hx hb dX7_pond_173 (lv_at hl 0 rfl) ?_
                            refine mg_if_ne (tgt := 181) hx hb h dX7_pond_175 (by decide) (fun h => ?_) (fun h => ?_)
                            · refine lv_aload_n hx hb dX7_pond_181 rfl (lv_at hl 2 rfl) ?_
                              refine lv_iload hx hb dX7_pond_182 (lv_at hl 4 rfl) ?_
                              refine mg_aal hx hb hK hw 1 4 rfl mg_fM_0 rfl rfl h dX7_pond_184 (fun j48 hj48_ h => ?_)
                              refine lv_iload hx hb dX7_pond_185 (lv_at hl 5 rfl) ?_
                              refine lv_iconst (v := 1) hx hb dX7_pond_187 (by decide) ?_
                              refine mg_zasd (F' := fun x9_ => mg_fM o q1 r2 (mg_mu cM4_61 j48 x9_ (vp_nar .boolean 1))) hx hb hK hw 1 rfl (mg_fM_1 hj48_) (fun _ => (mg_sM hj48_)) h dX7_pond_188 (fun j49 hj49_ h H locs hw => ?_)
                              refine lv_iconst (v := 1) hx hb dX7_pond_189 (by decide) ?_
                              refine lv_istore (lv' := [(4, .int 1), (7, .int y13), (0, .ref u), (3, .ref q1), (5, .int x5_51), (6, .int x6_61)]) hx hb dX7_pond_190 hl (by decide) rfl (fun ls hl => ?_)
                              refine lv_iinc (v := (x6_61 + 1)) (lv' := [(6, .int (x6_61 + 1)), (4, .int 1), (7, .int y13), (0, .ref u), (3, .ref q1), (5, .int x5_51)]) hx hb dX7_pond_192 hl (k := 5) rfl rfl (by decide) rfl (fun ls hl => ?_)
                              refine lv_goto (tgt := 61) hx hb dX7_pond_195 (by decide) ?_
                              exact ih _ _ _ _ h kc H locs ls hw (lv_sub hl [3, 4, 1, 5, 0] rfl)
                            · refine lv_goto (tgt := 192) hx hb dX7_pond_178 (by decide) ?_
                              refine lv_iinc (v := (x6_61 + 1)) (lv' := [(6, .int (x6_61 + 1)), (7, .int y13), (0, .ref u), (3, .ref q1), (4, .int x4_61), (5, .int x5_51)]) hx hb dX7_pond_192 hl (k := 5) rfl rfl (by decide) rfl (fun ls hl => ?_)
                              refine lv_goto (tgt := 61) hx hb dX7_pond_195 (by decide) ?_
                              exact ih _ _ _ _ h kc H locs ls hw (lv_sub hl [2, 3, 4, 5, 0] rfl)
                      clear h
                      have h := h9_
                      clear h9_
                      refine mg_if_le (tgt := 85) hx hb h dX7_pond_70 (by decide) (fun h => ?_) (fun h => ?_)
                      · refine lv_iload hx hb dX7_pond_85 (lv_at hl 4 rfl) ?_
                        refine lv_bipush (v := 9) hx hb dX7_pond_87 (by decide) ?_
                        refine mg_icmp_ge (tgt := 104) hx hb h dX7_pond_89 (by decide) (fun h => ?_) (fun h => ?_)
                        · refine lv_iload hx hb dX7_pond_104 (lv_at hl 3 rfl) ?_
                          refine mg_if_le (tgt := 121) hx hb h dX7_pond_106 (by decide) (fun h => ?_) (fun h => ?_)
                          · refine lv_iload hx hb dX7_pond_121 (lv_at hl 3 rfl) ?_
                            refine lv_bipush (v := 6) hx hb dX7_pond_123 (by decide) ?_
                            refine mg_icmp_ge (tgt := 144) hx hb h dX7_pond_125 (by decide) (fun h => ?_) (fun h => ?_)
                            · refine lv_iconst (v := 0) hx hb dX7_pond_144 (by decide) ?_
                              cases h
                              exact J70_ H locs ls hw (lv_sub hl [0, 1, 2, 3, 4] rfl)
                            · refine lv_aload_n hx hb dX7_pond_128 rfl (lv_at hl 1 rfl) ?_
                              refine lv_iload hx hb dX7_pond_129 (lv_at hl 3 rfl) ?_
                              refine lv_iconst (v := 1) hx hb dX7_pond_131 (by decide) ?_
                              refine lv_iadd hx hb dX7_pond_132 ?_
                              refine mg_aal hx hb hK hw 1 4 rfl mg_fM_0 rfl rfl h dX7_pond_133 (fun j14 hj14_ h => ?_)
                              refine lv_iload hx hb dX7_pond_134 (lv_at hl 4 rfl) ?_
                              refine mg_zalx hx hb hK hw 1 rfl (mg_fM_1 hj14_) h dX7_pond_136 (fun j15 hj15_ h => ?_)
                              refine mg_if_eq (tgt := 144) hx hb h dX7_pond_137 (by decide) (fun h => ?_) (fun h => ?_)
                              · refine lv_iconst (v := 0) hx hb dX7_pond_144 (by decide) ?_
                                cases h
                                exact J70_ H locs ls hw (lv_sub hl [0, 1, 2, 3, 4] rfl)
                              · refine lv_iconst (v := 1) hx hb dX7_pond_140 (by decide) ?_
                                refine lv_goto (tgt := 145) hx hb dX7_pond_141 (by decide) ?_
                                cases h
                                exact J70_ H locs ls hw (lv_sub hl [0, 1, 2, 3, 4] rfl)
                          · refine lv_aload_n hx hb dX7_pond_109 rfl (lv_at hl 1 rfl) ?_
                            refine lv_iload hx hb dX7_pond_110 (lv_at hl 3 rfl) ?_
                            refine lv_iconst (v := 1) hx hb dX7_pond_112 (by decide) ?_
                            refine lv_isub hx hb dX7_pond_113 ?_
                            refine mg_aal hx hb hK hw 1 4 rfl mg_fM_0 rfl rfl h dX7_pond_114 (fun j16 hj16_ h => ?_)
                            refine lv_iload hx hb dX7_pond_115 (lv_at hl 4 rfl) ?_
                            refine mg_zalx hx hb hK hw 1 rfl (mg_fM_1 hj16_) h dX7_pond_117 (fun j17 hj17_ h => ?_)
                            refine mg_if_ne (tgt := 140) hx hb h dX7_pond_118 (by decide) (fun h => ?_) (fun h => ?_)
                            · refine lv_iconst (v := 1) hx hb dX7_pond_140 (by decide) ?_
                              refine lv_goto (tgt := 145) hx hb dX7_pond_141 (by decide) ?_
                              cases h
                              exact J70_ H locs ls hw (lv_sub hl [0, 1, 2, 3, 4] rfl)
                            · refine lv_iload hx hb dX7_pond_121 (lv_at hl 3 rfl) ?_
                              refine lv_bipush (v := 6) hx hb dX7_pond_123 (by decide) ?_
                              refine mg_icmp_ge (tgt := 144) hx hb h dX7_pond_125 (by decide) (fun h => ?_) (fun h => ?_)
                              · refine lv_iconst (v := 0) hx hb dX7_pond_144 (by decide) ?_
                                cases h
                                exact J70_ H locs ls hw (lv_sub hl [0, 1, 2, 3, 4] rfl)
                              · refine lv_aload_n hx hb dX7_pond_128 rfl (lv_at hl 1 rfl) ?_
                                refine lv_iload hx hb dX7_pond_129 (lv_at hl 3 rfl) ?_
                                refine lv_iconst (v := 1) hx hb dX7_pond_131 (by decide) ?_
                                refine lv_iadd hx hb dX7_pond_132 ?_
                                refine mg_aal hx hb hK hw 1 4 rfl mg_fM_0 rfl rfl h dX7_pond_133 (fun j18 hj18_ h => ?_)
                                refine lv_iload hx hb dX7_pond_134 (lv_at hl 4 rfl) ?_
                                refine mg_zalx hx hb hK hw 1 rfl (mg_fM_1 hj18_) h dX7_pond_136 (fun j19 hj19_ h => ?_)
                                refine mg_if_eq (tgt := 144) hx hb h dX7_pond_137 (by decide) (fun h => ?_) (fun h => ?_)
                                · refine lv_iconst (v := 0) hx hb dX7_pond_144 (by decide) ?_
                                  cases h
                                  exact J70_ H locs ls hw (lv_sub hl [0, 1, 2, 3, 4] rfl)
                                · refine lv_iconst (v := 1) hx hb dX7_pond_140 (by decide) ?_
                                  refine lv_goto (tgt := 145) hx hb dX7_pond_141 (by decide) ?_
                                  cases h
                                  exact J70_ H locs ls hw (lv_sub hl [0, 1, 2, 3, 4] rfl)
                        · refine lv_aload_n hx hb dX7_pond_92 rfl (lv_at hl 1 rfl) ?_
                          refine lv_iload hx hb dX7_pond_93 (lv_at hl 3 rfl) ?_
                          refine mg_aal hx hb hK hw 1 4 rfl mg_fM_0 rfl rfl h dX7_pond_95 (fun j20 hj20_ h => ?_)
                          refine lv_iload hx hb dX7_pond_96 (lv_at hl 4 rfl) ?_
                          refine lv_iconst (v := 1) hx hb dX7_pond_98 (by decide) ?_
                          refine lv_iadd hx hb dX7_pond_99 ?_
                          refine mg_zalx hx hb hK hw 1 rfl (mg_fM_1 hj20_) h dX7_pond_100 (fun j21 hj21_ h => ?_)
                          refine mg_if_ne (tgt := 140) hx hb h dX7_pond_101 (by decide) (fun h => ?_) (fun h => ?_)
                          · refine lv_iconst (v := 1) hx hb dX7_pond_140 (by decide) ?_
                            refine lv_goto (tgt := 145) hx hb dX7_pond_141 (by decide) ?_
                            cases h
                            exact J70_ H locs ls hw (lv_sub hl [0, 1, 2, 3, 4] rfl)
                          · refine lv_iload hx hb dX7_pond_104 (lv_at hl 3 rfl) ?_
                            refine mg_if_le (tgt := 121) hx hb h dX7_pond_106 (by decide) (fun h => ?_) (fun h => ?_)
                            · refine lv_iload hx hb dX7_pond_121 (lv_at hl 3 rfl) ?_
                              refine lv_bipush (v := 6) hx hb dX7_pond_123 (by decide) ?_
                              refine mg_icmp_ge (tgt := 144) hx hb h dX7_pond_125 (by decide) (fun h => ?_) (fun h => ?_)
                              · refine lv_iconst (v := 0) hx hb dX7_pond_144 (by decide) ?_
                                cases h
                                exact J70_ H locs ls hw (lv_sub hl [0, 1, 2, 3, 4] rfl)
                              · refine lv_aload_n hx hb dX7_pond_128 rfl (lv_at hl 1 rfl) ?_
                                refine lv_iload hx hb dX7_pond_129 (lv_at hl 3 rfl) ?_
                                refine lv_iconst (v := 1) hx hb dX7_pond_131 (by decide) ?_
                                refine lv_iadd hx hb dX7_pond_132 ?_
                                refine mg_aal hx hb hK hw 1 4 rfl mg_fM_0 rfl rfl h dX7_pond_133 (fun j22 hj22_ h => ?_)
                                refine lv_iload hx hb dX7_pond_134 (lv_at hl 4 rfl) ?_
                                refine mg_zalx hx hb hK hw 1 rfl (mg_fM_1 hj22_) h dX7_pond_136 (fun j23 hj23_ h => ?_)
                                refine mg_if_eq (tgt := 144) hx hb h dX7_pond_137 (by decide) (fun h => ?_) (fun h => ?_)
                                · refine lv_iconst (v := 0) hx hb dX7_pond_144 (by decide) ?_
                                  cases h
                                  exact J70_ H locs ls hw (lv_sub hl [0, 1, 2, 3, 4] rfl)
                                · refine lv_iconst (v := 1) hx hb dX7_pond_140 (by decide) ?_
                                  refine lv_goto (tgt := 145) hx hb dX7_pond_141 (by decide) ?_
                                  cases h
                                  exact J70_ H locs ls hw (lv_sub hl [0, 1, 2, 3, 4] rfl)
                            · refine lv_aload_n hx hb dX7_pond_109 rfl (lv_at hl 1 rfl) ?_
                              refine lv_iload hx hb dX7_pond_110 (lv_at hl 3 rfl) ?_
                              refine lv_iconst (v := 1) hx hb dX7_pond_112 (by decide) ?_
                              refine lv_isub hx hb dX7_pond_113 ?_
                              refine mg_aal hx hb hK hw 1 4 rfl mg_fM_0 rfl rfl h dX7_pond_114 (fun j24 hj24_ h => ?_)
                              refine lv_iload hx hb dX7_pond_115 (lv_at hl 4 rfl) ?_
                              refine mg_zalx hx hb hK hw 1 rfl (mg_fM_1 hj24_) h dX7_pond_117 (fun j25 hj25_ h => ?_)
                              refine mg_if_ne (tgt := 140) hx hb h dX7_pond_118 (by decide) (fun h => ?_) (fun h => ?_)
                              · refine lv_iconst (v := 1) hx hb dX7_pond_140 (by decide) ?_
                                refine lv_goto (tgt := 145) hx hb dX7_pond_141 (by decide) ?_
                                cases h
                                exact J70_ H locs ls hw (lv_sub hl [0, 1, 2, 3, 4] rfl)
                              · refine lv_iload hx hb dX7_pond_121 (lv_at hl 3 rfl) ?_
                                refine lv_bipush (v := 6) hx hb dX7_pond_123 (by decide) ?_
                                refine mg_icmp_ge (tgt := 144) hx hb h dX7_pond_125 (by decide) (fun h => ?_) (fun h => ?_)
                                · refine lv_iconst (v := 0) hx hb dX7_pond_144 (by decide) ?_
                                  cases h
                                  exact J70_ H locs ls hw (lv_sub hl [0, 1, 2, 3, 4] rfl)
                                · refine lv_aload_n hx hb dX7_pond_128 rfl (lv_at hl 1 rfl) ?_
                                  refine lv_iload hx hb dX7_pond_129 (lv_at hl 3 rfl) ?_
                                  refine lv_iconst (v := 1) hx hb dX7_pond_131 (by decide) ?_
                                  refine lv_iadd hx hb dX7_pond_132 ?_
                                  refine mg_aal hx hb hK hw 1 4 rfl mg_fM_0 rfl rfl h dX7_pond_133 (fun j26 hj26_ h => ?_)
                                  refine lv_iload hx hb dX7_pond_134 (lv_at hl 4 rfl) ?_
                                  refine mg_zalx hx hb hK hw 1 rfl (mg_fM_1 hj26_) h dX7_pond_136 (fun j27 hj27_ h => ?_)
                                  refine mg_if_eq (tgt := 144) hx hb h dX7_pond_137 (by decide) (fun h => ?_) (fun h => ?_)
                                  · refine lv_iconst (v := 0) hx hb dX7_pond_144 (by decide) ?_
                                    cases h
                                    exact J70_ H locs ls hw (lv_sub hl [0, 1, 2, 3, 4] rfl)
                                  · refine lv_iconst (v := 1) hx hb dX7_pond_140 (by decide) ?_
                                    refine lv_goto (tgt := 145) hx hb dX7_pond_141 (by decide) ?_
                                    cases h
                                    exact J70_ H locs ls hw (lv_sub hl [0, 1, 2, 3, 4] rfl)
                      · refine lv_aload_n hx hb dX7_pond_73 rfl (lv_at hl 1 rfl) ?_
                        refine lv_iload hx hb dX7_pond_74 (lv_at hl 3 rfl) ?_
                        refine mg_aal hx hb hK hw 1 4 rfl mg_fM_0 rfl rfl h dX7_pond_76 (fun j28 hj28_ h => ?_)
                        refine lv_iload hx hb dX7_pond_77 (lv_at hl 4 rfl) ?_
                        refine lv_iconst (v := 1) hx hb dX7_pond_79 (by decide) ?_
                        refine lv_isub hx hb dX7_pond_80 ?_
                        refine mg_zalx hx hb hK hw 1 rfl (mg_fM_1 hj28_) h dX7_pond_81 (fun j29 hj29_ h => ?_)
                        refine mg_if_ne (tgt := 140) hx hb h dX7_pond_82 (by decide) (fun h => ?_) (fun h => ?_)
                        · refine lv_iconst (v := 1) hx hb dX7_pond_140 (by decide) ?_
                          refine lv_goto (tgt := 145) hx hb dX7_pond_141 (by decide) ?_
                          cases h
                          exact J70_ H locs ls hw (lv_sub hl [0, 1, 2, 3, 4] rfl)
                        · refine lv_iload hx hb dX7_pond_85 (lv_at hl 4 rfl) ?_
                          refine lv_bipush (v := 9) hx hb dX7_pond_87 (by decide) ?_
                          refine mg_icmp_ge (tgt := 104) hx hb h dX7_pond_89 (by decide) (fun h => ?_) (fun h => ?_)
                          · refine lv_iload hx hb dX7_pond_104 (lv_at hl 3 rfl) ?_
                            refine mg_if_le (tgt := 121) hx hb h dX7_pond_106 (by decide) (fun h => ?_) (fun h => ?_)
                            · refine lv_iload hx hb dX7_pond_121 (lv_at hl 3 rfl) ?_
                              refine lv_bipush (v := 6) hx hb dX7_pond_123 (by decide) ?_
                              refine mg_icmp_ge (tgt := 144) hx hb h dX7_pond_125 (by decide) (fun h => ?_) (fun h => ?_)
                              · refine lv_iconst (v := 0) hx hb dX7_pond_144 (by decide) ?_
                                cases h
                                exact J70_ H locs ls hw (lv_sub hl [0, 1, 2, 3, 4] rfl)
                              · refine lv_aload_n hx hb dX7_pond_128 rfl (lv_at hl 1 rfl) ?_
                                refine lv_iload hx hb dX7_pond_129 (lv_at hl 3 rfl) ?_
                                refine lv_iconst (v := 1) hx hb dX7_pond_131 (by decide) ?_
                                refine lv_iadd hx hb dX7_pond_132 ?_
                                refine mg_aal hx hb hK hw 1 4 rfl mg_fM_0 rfl rfl h dX7_pond_133 (fun j30 hj30_ h => ?_)
                                refine lv_iload hx hb dX7_pond_134 (lv_at hl 4 rfl) ?_
                                refine mg_zalx hx hb hK hw 1 rfl (mg_fM_1 hj30_) h dX7_pond_136 (fun j31 hj31_ h => ?_)
                                refine mg_if_eq (tgt := 144) hx hb h dX7_pond_137 (by decide) (fun h => ?_) (fun h => ?_)
                                · refine lv_iconst (v := 0) hx hb dX7_pond_144 (by decide) ?_
                                  cases h
                                  exact J70_ H locs ls hw (lv_sub hl [0, 1, 2, 3, 4] rfl)
                                · refine lv_iconst (v := 1) hx hb dX7_pond_140 (by decide) ?_
                                  refine lv_goto (tgt := 145) hx hb dX7_pond_141 (by decide) ?_
                                  cases h
                                  exact J70_ H locs ls hw (lv_sub hl [0, 1, 2, 3, 4] rfl)
                            · refine lv_aload_n hx hb dX7_pond_109 rfl (lv_at hl 1 rfl) ?_
                              refine lv_iload hx hb dX7_pond_110 (lv_at hl 3 rfl) ?_
                              refine lv_iconst (v := 1) hx hb dX7_pond_112 (by decide) ?_
                              refine lv_isub hx hb dX7_pond_113 ?_
                              refine mg_aal hx hb hK hw 1 4 rfl mg_fM_0 rfl rfl h dX7_pond_114 (fun j32 hj32_ h => ?_)
                              refine lv_iload hx hb dX7_pond_115 (lv_at hl 4 rfl) ?_
                              refine mg_zalx hx hb hK hw 1 rfl (mg_fM_1 hj32_) h dX7_pond_117 (fun j33 hj33_ h => ?_)
                              refine mg_if_ne (tgt := 140) hx hb h dX7_pond_118 (by decide) (fun h => ?_) (fun h => ?_)
                              · refine lv_iconst (v := 1) hx hb dX7_pond_140 (by decide) ?_
                                refine lv_goto (tgt := 145) hx hb dX7_pond_141 (by decide) ?_
                                cases h
                                exact J70_ H locs ls hw (lv_sub hl [0, 1, 2, 3, 4] rfl)
                              · refine lv_iload hx hb dX7_pond_121 (lv_at hl 3 rfl) ?_
                                refine lv_bipush (v := 6) hx hb dX7_pond_123 (by decide) ?_
                                refine mg_icmp_ge (tgt := 144) hx hb h dX7_pond_125 (by decide) (fun h => ?_) (fun h => ?_)
                                · refine lv_iconst (v := 0) hx hb dX7_pond_144 (by decide) ?_
                                  cases h
                                  exact J70_ H locs ls hw (lv_sub hl [0, 1, 2, 3, 4] rfl)
                                · refine lv_aload_n hx hb dX7_pond_128 rfl (lv_at hl 1 rfl) ?_
                                  refine lv_iload hx hb dX7_pond_129 (lv_at hl 3 rfl) ?_
                                  refine lv_iconst (v := 1) hx hb dX7_pond_131 (by decide) ?_
                                  refine lv_iadd hx hb dX7_pond_132 ?_
                                  refine mg_aal hx hb hK hw 1 4 rfl mg_fM_0 rfl rfl h dX7_pond_133 (fun j34 hj34_ h => ?_)
                                  refine lv_iload hx hb dX7_pond_134 (lv_at hl 4 rfl) ?_
                                  refine mg_zalx hx hb hK hw 1 rfl (mg_fM_1 hj34_) h dX7_pond_136 (fun j35 hj35_ h => ?_)
                                  refine mg_if_eq (tgt := 144) hx hb h dX7_pond_137 (by decide) (fun h => ?_) (fun h => ?_)
                                  · refine lv_iconst (v := 0) hx hb dX7_pond_144 (by decide) ?_
                                    cases h
                                    exact J70_ H locs ls hw (lv_sub hl [0, 1, 2, 3, 4] rfl)
                                  · refine lv_iconst (v := 1) hx hb dX7_pond_140 (by decide) ?_
                                    refine lv_goto (tgt := 145) hx hb dX7_pond_141 (by decide) ?_
                                    cases h
                                    exact J70_ H locs ls hw (lv_sub hl [0, 1, 2, 3, 4] rfl)
                          · refine lv_aload_n hx hb dX7_pond_92 rfl (lv_at hl 1 rfl) ?_
                            refine lv_iload hx hb dX7_pond_93 (lv_at hl 3 rfl) ?_
                            refine mg_aal hx hb hK hw 1 4 rfl mg_fM_0 rfl rfl h dX7_pond_95 (fun j36 hj36_ h => ?_)
                            refine lv_iload hx hb dX7_pond_96 (lv_at hl 4 rfl) ?_
                            refine lv_iconst (v := 1) hx hb dX7_pond_98 (by decide) ?_
                            refine lv_iadd hx hb dX7_pond_99 ?_
                            refine mg_zalx hx hb hK hw 1 rfl (mg_fM_1 hj36_) h dX7_pond_100 (fun j37 hj37_ h => ?_)
                            refine mg_if_ne (tgt := 140) hx hb h dX7_pond_101 (by decide) (fun h => ?_) (fun h => ?_)
                            · refine lv_iconst (v := 1) hx hb dX7_pond_140 (by decide) ?_
                              refine lv_goto (tgt := 145) hx hb dX7_pond_141 (by decide) ?_
                              cases h
                              exact J70_ H locs ls hw (lv_sub hl [0, 1, 2, 3, 4] rfl)
                            · refine lv_iload hx hb dX7_pond_104 (lv_at hl 3 rfl) ?_
                              refine mg_if_le (tgt := 121) hx hb h dX7_pond_106 (by decide) (fun h => ?_) (fun h => ?_)
                              · refine lv_iload hx hb dX7_pond_121 (lv_at hl 3 rfl) ?_
                                refine lv_bipush (v := 6) hx hb dX7_pond_123 (by decide) ?_
                                refine mg_icmp_ge (tgt := 144) hx hb h dX7_pond_125 (by decide) (fun h => ?_) (fun h => ?_)
                                · refine lv_iconst (v := 0) hx hb dX7_pond_144 (by decide) ?_
                                  cases h
                                  exact J70_ H locs ls hw (lv_sub hl [0, 1, 2, 3, 4] rfl)
                                · refine lv_aload_n hx hb dX7_pond_128 rfl (lv_at hl 1 rfl) ?_
                                  refine lv_iload hx hb dX7_pond_129 (lv_at hl 3 rfl) ?_
                                  refine lv_iconst (v := 1) hx hb dX7_pond_131 (by decide) ?_
                                  refine lv_iadd hx hb dX7_pond_132 ?_
                                  refine mg_aal hx hb hK hw 1 4 rfl mg_fM_0 rfl rfl h dX7_pond_133 (fun j38 hj38_ h => ?_)
                                  refine lv_iload hx hb dX7_pond_134 (lv_at hl 4 rfl) ?_
                                  refine mg_zalx hx hb hK hw 1 rfl (mg_fM_1 hj38_) h dX7_pond_136 (fun j39 hj39_ h => ?_)
                                  refine mg_if_eq (tgt := 144) hx hb h dX7_pond_137 (by decide) (fun h => ?_) (fun h => ?_)
                                  · refine lv_iconst (v := 0) hx hb dX7_pond_144 (by decide) ?_
                                    cases h
                                    exact J70_ H locs ls hw (lv_sub hl [0, 1, 2, 3, 4] rfl)
                                  · refine lv_iconst (v := 1) hx hb dX7_pond_140 (by decide) ?_
                                    refine lv_goto (tgt := 145) hx hb dX7_pond_141 (by decide) ?_
                                    cases h
                                    exact J70_ H locs ls hw (lv_sub hl [0, 1, 2, 3, 4] rfl)
                              · refine lv_aload_n hx hb dX7_pond_109 rfl (lv_at hl 1 rfl) ?_
                                refine lv_iload hx hb dX7_pond_110 (lv_at hl 3 rfl) ?_
                                refine lv_iconst (v := 1) hx hb dX7_pond_112 (by decide) ?_
                                refine lv_isub hx hb dX7_pond_113 ?_
                                refine mg_aal hx hb hK hw 1 4 rfl mg_fM_0 rfl rfl h dX7_pond_114 (fun j40 hj40_ h => ?_)
                                refine lv_iload hx hb dX7_pond_115 (lv_at hl 4 rfl) ?_
                                refine mg_zalx hx hb hK hw 1 rfl (mg_fM_1 hj40_) h dX7_pond_117 (fun j41 hj41_ h => ?_)
                                refine mg_if_ne (tgt := 140) hx hb h dX7_pond_118 (by decide) (fun h => ?_) (fun h => ?_)
                                · refine lv_iconst (v := 1) hx hb dX7_pond_140 (by decide) ?_
                                  refine lv_goto (tgt := 145) hx hb dX7_pond_141 (by decide) ?_
                                  cases h
                                  exact J70_ H locs ls hw (lv_sub hl [0, 1, 2, 3, 4] rfl)
                                · refine lv_iload hx hb dX7_pond_121 (lv_at hl 3 rfl) ?_
                                  refine lv_bipush (v := 6) hx hb dX7_pond_123 (by decide) ?_
                                  refine mg_icmp_ge (tgt := 144) hx hb h dX7_pond_125 (by decide) (fun h => ?_) (fun h => ?_)
                                  · refine lv_iconst (v := 0) hx hb dX7_pond_144 (by decide) ?_
                                    cases h
                                    exact J70_ H locs ls hw (lv_sub hl [0, 1, 2, 3, 4] rfl)
                                  · refine lv_aload_n hx hb dX7_pond_128 rfl (lv_at hl 1 rfl) ?_
                                    refine lv_iload hx hb dX7_pond_129 (lv_at hl 3 rfl) ?_
                                    refine lv_iconst (v := 1) hx hb dX7_pond_131 (by decide) ?_
                                    refine lv_iadd hx hb dX7_pond_132 ?_
                                    refine mg_aal hx hb hK hw 1 4 rfl mg_fM_0 rfl rfl h dX7_pond_133 (fun j42 hj42_ h => ?_)
                                    refine lv_iload hx hb dX7_pond_134 (lv_at hl 4 rfl) ?_
                                    refine mg_zalx hx hb hK hw 1 rfl (mg_fM_1 hj42_) h dX7_pond_136 (fun j43 hj43_ h => ?_)
                                    refine mg_if_eq (tgt := 144) hx hb h dX7_pond_137 (by decide) (fun h => ?_) (fun h => ?_)
                                    · refine lv_iconst (v := 0) hx hb dX7_pond_144 (by decide) ?_
                                      cases h
                                      exact J70_ H locs ls hw (lv_sub hl [0, 1, 2, 3, 4] rfl)
                                    · refine lv_iconst (v := 1) hx hb dX7_pond_140 (by decide) ?_
                                      refine lv_goto (tgt := 145) hx hb dX7_pond_141 (by decide) ?_
                                      cases h
                                      exact J70_ H locs ls hw (lv_sub hl [0, 1, 2, 3, 4] rfl)
                obtain ⟨y12, h9_, h⟩ := mg_bind h
                refine L61_ _ _ _ _ _ h9_ (fun H locs ls hw hl => ?_) H locs ls hw (lv_sub hl [1, 2, 3, 4, 0] rfl)
                clear L61_ h9_
                refine lv_iinc (v := (x5_51 + 1)) (lv' := [(5, .int (x5_51 + 1)), (0, .ref u), (3, .ref q1), (4, .int y12.1)]) hx hb dX7_pond_198 hl (k := 3) rfl rfl (by decide) rfl (fun ls hl => ?_)
                refine lv_goto (tgt := 51) hx hb dX7_pond_201 (by decide) ?_
                exact ih _ _ _ _ h kc H locs ls hw (lv_sub hl [1, 2, 3, 0] rfl)
          obtain ⟨y11, h9_, h⟩ := mg_bind h
          refine L51_ _ _ _ _ _ h9_ (fun H locs ls hw hl => ?_) H locs ls hw (lv_sub hl [2, 3, 1, 0] rfl)
          clear L51_ h9_
          refine lv_goto (tgt := 40) hx hb dX7_pond_204 (by decide) ?_
          exact ih _ _ _ h kc H locs ls hw (lv_sub hl [0, 1, 2] rfl)
    obtain ⟨y10, h9_, h⟩ := mg_bind h
    refine L40_ _ _ _ _ h9_ (fun H locs ls hw hl => ?_) H locs ls hw (lv_sub hl [1, 4, 0] rfl)
    clear L40_ h9_
    refine lv_aload_n hx hb dX7_pond_207 rfl (lv_at hl 0 rfl) ?_
    cases h
    exact mg_eR (fun a => if a = 0 then (fun _ => q1) else r2) rfl hx hb hr (Or.inr ⟨_, rfl⟩) hlocks hw (show 8 ≤ 8 by omega) (show 77 ≤ 77 by omega) dX7_pond_208
  clear h
  have h := h9_
  clear h9_
  refine mg_icmp_ne (tgt := 31) hx hb h dX7_pond_24 (by decide) (fun h => ?_) (fun h => ?_)
  · refine lv_iconst (v := 0) hx hb dX7_pond_31 (by decide) ?_
    cases h
    exact J24_ H locs ls hw (lv_sub hl [1, 2, 3, 0] rfl)
  · refine lv_iconst (v := 1) hx hb dX7_pond_27 (by decide) ?_
    refine lv_goto (tgt := 32) hx hb dX7_pond_28 (by decide) ?_
    cases h
    exact J24_ H locs ls hw (lv_sub hl [1, 2, 3, 0] rfl)
