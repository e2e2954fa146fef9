set_option maxHeartbeats 8000000 in
set_option maxRecDepth 100000 in
theorem k_X7_beauty (l : Launch) (D : va_G) (o : Nat → Nat) (u : Nat) (α : Nat → Nat → Nat) (sz : Nat) (k0 : Nat) (ζ : mg_Sz) (hk0 : k0 < ζ.2 1) (y : Int32) (h : f_X7_beauty k0 ζ = some y) : mg_CV l yX7_beauty wsX7_beauty ({ frames := 2, cells := 23, slots := 363, locals := 48 } : Room) D o [mg_fS o u α ζ] sz [.ref u, .ref (α 4 k0)] (fun _ => some (.int y)) (fun _ => [mg_fS o u α ζ]) 23 363 := by
  unfold mg_CV
  refine Met.ofW (cc := cX7_beauty) (maxL := 11) (ret := (some .int)) (by decide) rfl ?_
  intro p e s m args below meth c s₁ B hml hv
  obtain ⟨rfl, hsz, hP, hK, hD0, hO⟩ := hv
  have hx := B.exec
  have hb := B.bytes
  have hr := B.returns
  have hts := atoms_spec (ws := wsX7_beauty) B.pre
  have hown : s.vm.findClass RX7 = some m.cls := findClass_of_methodNamed B.named
  have hlocks := B.notSynchronized
  subst hsz
  have hD := hD0.self (sz := s.heap.size)
  generalize hAe : mg_VA [mg_fS o u α ζ] s.heap.size = A at hD hO ⊢
  have hA : ∀ q : Nat, s.heap.size ≤ q → A q := fun q h => by rw [← hAe]; exact Or.inr h
  have hw : mg_Vo D A s.heap s.heap [] ([mg_fS o u α ζ]) := ⟨hP, hD, va_S.rf⟩
  have G9 : CallFix p m c cX7_beauty 11 s ([.ref u, .ref (α 4 k0)] : List Value).toArray wsX7_beauty RX7 := ⟨hx, hb, hml, hown, hts⟩
  clear hP hD hD0 hAe
  have w0_ := hts (.fieldLink RX7 15 "MoonGateLaw$Sim" "cells" "[[[I") (by decide +kernel)
  have iX7_ : ∀ w ∈ wsX70, w ∈ wsX7_beauty := (fun _ h => List.mem_cons_of_mem _ (List.mem_append_right _ h))
  have w2_ := hts (.fieldLink RX7 20 "MoonGateLaw$Sim" "carps" "[[I") (by decide +kernel)
  have hl := lv_entry ([.ref u, .ref (α 4 k0)]) (n := 11) (Nat.le_of_ble_eq_true rfl)
  rw [lg_entry_eq]
  generalize (lg_sl ([.ref u, .ref (α 4 k0)]) ++ List.replicate (11 - (lg_sl ([.ref u, .ref (α 4 k0)])).length) Slot.unset).toArray = ls at hl ⊢
  have hl : lv_has ls 11 [(0, .ref u), (1, .ref (α 4 k0))] := hl
  unfold f_X7_beauty at h
  suffices K_ : ∀ (H : Heap) (locs : List Loc), mg_Vo D A s.heap H locs ([mg_fS o u α ζ]) → W p l e (headSpec wsX7_beauty ({ frames := 2, cells := 23, slots := 363, locals := 48 } : Room)).room s m ([.ref u, .ref (α 4 k0)] : List Value).toArray below meth c H locs 0 0 (MQ below (mg_QV D (fun _ => [mg_fS o u α ζ]) A (fun _ => some (.int y))) ([.ref u, .ref (α 4 k0)] : List Value).toArray s 23 363 A) (F0 m 0 ls []) from K_ _ _ hw
  clear hw
  intro H locs hw
  refine lv_aload_n hx hb dX7_beauty_0 rfl (lv_at hl 0 rfl) ?_
  refine lv_aload_n hx hb dX7_beauty_1 rfl (lv_at hl 1 rfl) ?_
  obtain ⟨y1, h9_, h⟩ := mg_bind h
  refine mg_callV (va_runV (As := [.ref (α 4 k0)]) (rest := []) G9 (k_X7_shows l D o u α H.size k0 ζ hk0 y1 h9_) (cwV 1 hts gX7_beauty_X7_shows rfl rfl rfl (by decide +kernel) ⟨Nat.le_of_ble_eq_true rfl, Nat.le_of_ble_eq_true rfl⟩) (mg_preVV hK hO hA (mg_Vsub (L' := [mg_fS o u α ζ]) hw [0] rfl rfl) 0 rfl mg_fS_00 rfl) rfl rfl hl.1 rfl (lv_room (Nat.le_of_ble_eq_true rfl)) dX7_beauty_2 ⟨(show 0 + 23 ≤ 23 by omega), (show 0 + 363 ≤ 363 by omega)⟩) hw hA [0] [] rfl (Lr := []) rfl rfl (by decide) (fun β2 H locs hw => ?_)
  clear h9_
  have hw : mg_Vo D A s.heap H locs ([mg_fS o u α ζ, mg_fP o (β2 0 0) (β2 1) y1.1 y1.2]) := hw
  refine lv_astore_n (lv' := [(2, .ref (β2 0 0)), (0, .ref u), (1, .ref (α 4 k0))]) hx hb dX7_beauty_5 rfl hl (by decide) rfl (fun ls hl => ?_)
  refine lv_iconst (v := 0) hx hb dX7_beauty_6 (by decide) ?_
  refine lv_istore_n (lv' := [(3, .int 0), (2, .ref (β2 0 0)), (0, .ref u), (1, .ref (α 4 k0))]) hx hb dX7_beauty_7 rfl hl (by decide) rfl (fun ls hl => ?_)
  refine lv_iconst (v := 0) hx hb dX7_beauty_8 (by decide) ?_
  refine lv_istore (lv' := [(4, .int 0), (3, .int 0), (2, .ref (β2 0 0)), (0, .ref u), (1, .ref (α 4 k0))]) hx hb dX7_beauty_9 hl (by decide) rfl (fun ls hl => ?_)
  have L11_ : ∀ (n : Nat), ∀ (x3_11 : Int32) (x4_11 : Int32) (y11_ : Int32 × Int32), f_X7_beauty_11 k0 ζ y1.1 y1.2 n x3_11 x4_11 = some y11_ → (∀ (H : Heap) (locs : List Loc) (ls : Array Slot), mg_Vo D A s.heap H locs ([mg_fS o u α ζ, mg_fP o (β2 0 0) (β2 1) y1.1 y1.2]) → lv_has ls 11 [(3, .int y11_.1)] → W p l e (headSpec wsX7_beauty ({ frames := 2, cells := 23, slots := 363, locals := 48 } : Room)).room s m ([.ref u, .ref (α 4 k0)] : List Value).toArray below meth c H locs 23 363 (MQ below (mg_QV D (fun _ => [mg_fS o u α ζ]) A (fun _ => some (.int y))) ([.ref u, .ref (α 4 k0)] : List Value).toArray s 23 363 A) (F0 m 247 ls [])) → ∀ (H : Heap) (locs : List Loc) (ls : Array Slot), mg_Vo D A s.heap H locs ([mg_fS o u α ζ, mg_fP o (β2 0 0) (β2 1) y1.1 y1.2]) → lv_has ls 11 [(0, .ref u), (2, .ref (β2 0 0)), (3, .int x3_11), (4, .int x4_11)] → W p l e (headSpec wsX7_beauty ({ frames := 2, cells := 23, slots := 363, locals := 48 } : Room)).room s m ([.ref u, .ref (α 4 k0)] : List Value).toArray below meth c H locs 23 363 (MQ below (mg_QV D (fun _ => [mg_fS o u α ζ]) A (fun _ => some (.int y))) ([.ref u, .ref (α 4 k0)] : List Value).toArray s 23 363 A) (F0 m 11 ls []) := by
    intro n
    induction n with
    | zero => intro x3_11 x4_11 y11_ h; rw [f_X7_beauty_11] at h; cases h
    | succ n ih =>
      intro x3_11 x4_11 y11_ h kc H locs ls hw hl
      rw [f_X7_beauty_11] at h
      refine lv_iload hx hb dX7_beauty_11 (lv_at hl 3 rfl) ?_
      refine lv_aload_n hx hb dX7_beauty_13 rfl (lv_at hl 1 rfl) ?_
      refine mg_alenq hx hb hK hw 1 2 rfl mg_fP_0 rfl dX7_beauty_14 ?_
      refine mg_icmp_ge (tgt := 247) hx hb h dX7_beauty_15 (by decide) (fun h => ?_) (fun h => ?_)
      · cases h
        exact kc H locs ls hw (lv_sub hl [2] rfl)
      · refine lv_aload_n hx hb dX7_beauty_18 rfl (lv_at hl 0 rfl) ?_
        refine va_get (D := D) (ci := 7) (v := .ref (α 0 1)) (C := RX7) (T := TX7) (N := 6) hx hb hts iX7_ hown hK (mg_at1 hw.1 0 rfl mg_fS_00) 0 rfl rfl 2 (by decide) w0_ (fun _ h9 => h9) rfl dX7_beauty_19 ?_
        refine lv_aload_n hx hb dX7_beauty_22 rfl (lv_at hl 1 rfl) ?_
        refine lv_iload hx hb dX7_beauty_23 (lv_at hl 3 rfl) ?_
        refine mg_aal hx hb hK hw 1 2 rfl mg_fP_0 rfl rfl h dX7_beauty_25 (fun j4 hj4_ h => ?_)
        refine lv_iconst (v := 1) hx hb dX7_beauty_26 (by decide) ?_
        refine mg_ial (x := 1) hx hb hK hw 1 rfl (mg_fP_1 hj4_) (by unfold vp_in; decide) (by decide) dX7_beauty_27 ?_
        refine mg_aal hx hb hK hw 0 3 rfl mg_fS_01 rfl rfl h dX7_beauty_28 (fun j5 hj5_ h => ?_)
        refine lv_aload_n hx hb dX7_beauty_29 rfl (lv_at hl 1 rfl) ?_
        refine lv_iload hx hb dX7_beauty_30 (lv_at hl 3 rfl) ?_
        refine mg_aal hx hb hK hw 1 2 rfl mg_fP_0 rfl rfl h dX7_beauty_32 (fun j6 hj6_ h => ?_)
        refine lv_iconst (v := 0) hx hb dX7_beauty_33 (by decide) ?_
        refine mg_ial (x := 0) hx hb hK hw 1 rfl (mg_fP_1 hj6_) (by unfold vp_in; decide) (by decide) dX7_beauty_34 ?_
        refine mg_aal hx hb hK hw 0 2 rfl (mg_fS_1 hj5_) rfl rfl h dX7_beauty_35 (fun j7 hj7_ h => ?_)
        refine lv_astore (lv' := [(5, .ref (α 2 (10 * j5 + j7))), (0, .ref u), (2, .ref (β2 0 0)), (3, .int x3_11), (4, .int x4_11)]) hx hb dX7_beauty_36 hl (by decide) rfl (fun ls hl => ?_)
        refine lv_aload hx hb dX7_beauty_38 (lv_at hl 0 rfl) ?_
        refine lv_iconst (v := 0) hx hb dX7_beauty_40 (by decide) ?_
        refine mg_ial (x := 0) hx hb hK hw 0 rfl (mg_fS_2 hj5_ hj7_) (by unfold vp_in; decide) (by decide) dX7_beauty_41 ?_
        refine lv_iconst (v := 1) hx hb dX7_beauty_42 (by decide) ?_
        obtain ⟨y8, h9_, h⟩ := mg_bind h
        have J43_ : ∀ (H : Heap) (locs : List Loc) (ls : Array Slot), mg_Vo D A s.heap H locs ([mg_fS o u α ζ, mg_fP o (β2 0 0) (β2 1) y1.1 y1.2]) → lv_has ls 11 [(0, .ref u), (2, .ref (β2 0 0)), (3, .int y8), (4, .int x4_11), (5, .ref (α 2 (10 * j5 + j7)))] → W p l e (headSpec wsX7_beauty ({ frames := 2, cells := 23, slots := 363, locals := 48 } : Room)).room s m ([.ref u, .ref (α 4 k0)] : List Value).toArray below meth c H locs 23 363 (MQ below (mg_QV D (fun _ => [mg_fS o u α ζ]) A (fun _ => some (.int y))) ([.ref u, .ref (α 4 k0)] : List Value).toArray s 23 363 A) (F0 m 144 ls []) := by
          intro H locs ls hw hl
          clear h9_
          refine lv_aload hx hb dX7_beauty_144 (lv_at hl 4 rfl) ?_
          refine lv_iconst (v := 0) hx hb dX7_beauty_146 (by decide) ?_
          refine mg_ial (x := 0) hx hb hK hw 0 rfl (mg_fS_2 hj5_ hj7_) (by unfold vp_in; decide) (by decide) dX7_beauty_147 ?_
          refine lv_iconst (v := 2) hx hb dX7_beauty_148 (by decide) ?_
          refine mg_icmp_ne (tgt := 241) hx hb h dX7_beauty_149 (by decide) (fun h => ?_) (fun h => ?_)
          · refine lv_iinc (v := (x4_11 + 1)) (lv' := [(4, .int (x4_11 + 1)), (0, .ref u), (2, .ref (β2 0 0)), (3, .int y8), (5, .ref (α 2 (10 * j5 + j7)))]) hx hb dX7_beauty_241 hl (k := 3) rfl rfl (by decide) rfl (fun ls hl => ?_)
            refine lv_goto (tgt := 11) hx hb dX7_beauty_244 (by decide) ?_
            exact ih _ _ _ h kc H locs ls hw (lv_sub hl [1, 2, 3, 0] rfl)
          · refine lv_iconst (v := 0) hx hb dX7_beauty_152 (by decide) ?_
            refine lv_istore (lv' := [(6, .int 0), (0, .ref u), (2, .ref (β2 0 0)), (3, .int y8), (4, .int x4_11), (5, .ref (α 2 (10 * j5 + j7)))]) hx hb dX7_beauty_153 hl (by decide) rfl (fun ls hl => ?_)
            refine lv_aload_n hx hb dX7_beauty_155 rfl (lv_at hl 1 rfl) ?_
            refine va_get (D := D) (ci := 7) (v := .ref (α 0 2)) (C := RX7) (T := TX7) (N := 6) hx hb hts iX7_ hown hK (mg_at1 hw.1 0 rfl mg_fS_00) 0 rfl rfl 3 (by decide) w2_ (fun _ h9 => h9) rfl dX7_beauty_156 ?_
            refine lv_astore (lv' := [(7, .ref (α 0 2)), (6, .int 0), (0, .ref u), (2, .ref (β2 0 0)), (3, .int y8), (4, .int x4_11), (5, .ref (α 2 (10 * j5 + j7)))]) hx hb dX7_beauty_159 hl (by decide) rfl (fun ls hl => ?_)
            refine lv_aload hx hb dX7_beauty_161 (lv_at hl 0 rfl) ?_
            refine mg_alenq hx hb hK hw 0 2 rfl mg_fS_02 rfl dX7_beauty_163 ?_
            refine lv_istore (lv' := [(8, .int (nI (ζ.2 0))), (7, .ref (α 0 2)), (6, .int 0), (0, .ref u), (2, .ref (β2 0 0)), (3, .int y8), (4, .int x4_11), (5, .ref (α 2 (10 * j5 + j7)))]) hx hb dX7_beauty_164 hl (by decide) rfl (fun ls hl => ?_)
            refine lv_iconst (v := 0) hx hb dX7_beauty_166 (by decide) ?_
            refine lv_istore (lv' := [(9, .int 0), (8, .int (nI (ζ.2 0))), (7, .ref (α 0 2)), (6, .int 0), (0, .ref u), (2, .ref (β2 0 0)), (3, .int y8), (4, .int x4_11), (5, .ref (α 2 (10 * j5 + j7)))]) hx hb dX7_beauty_167 hl (by decide) rfl (fun ls hl => ?_)
            have L169_ : ∀ (n : Nat), ∀ (x6_169 : Int32) (x9_169 : Int32) (y169_ : Int32 × Int32), f_X7_beauty_169 k0 y8 x4_11 (nI (ζ.2 0)) ζ y1.1 y1.2 n x6_169 x9_169 = some y169_ → (∀ (H : Heap) (locs : List Loc) (ls : Array Slot), mg_Vo D A s.heap H locs ([mg_fS o u α ζ, mg_fP o (β2 0 0) (β2 1) y1.1 y1.2]) → lv_has ls 11 [(0, .ref u), (2, .ref (β2 0 0)), (3, .int y8), (4, .int x4_11), (6, .int y169_.1)] → W p l e (headSpec wsX7_beauty ({ frames := 2, cells := 23, slots := 363, locals := 48 } : Room)).room s m ([.ref u, .ref (α 4 k0)] : List Value).toArray below meth c H locs 23 363 (MQ below (mg_QV D (fun _ => [mg_fS o u α ζ]) A (fun _ => some (.int y))) ([.ref u, .ref (α 4 k0)] : List Value).toArray s 23 363 A) (F0 m 231 ls [])) → ∀ (H : Heap) (locs : List Loc) (ls : Array Slot), mg_Vo D A s.heap H locs ([mg_fS o u α ζ, mg_fP o (β2 0 0) (β2 1) y1.1 y1.2]) → lv_has ls 11 [(0, .ref u), (2, .ref (β2 0 0)), (3, .int y8), (4, .int x4_11), (6, .int x6_169), (7, .ref (α 0 2)), (8, .int (nI (ζ.2 0))), (9, .int x9_169)] → W p l e (headSpec wsX7_beauty ({ frames := 2, cells := 23, slots := 363, locals := 48 } : Room)).room s m ([.ref u, .ref (α 4 k0)] : List Value).toArray below meth c H locs 23 363 (MQ below (mg_QV D (fun _ => [mg_fS o u α ζ]) A (fun _ => some (.int y))) ([.ref u, .ref (α 4 k0)] : List Value).toArray s 23 363 A) (F0 m 169 ls []) := by
              intro n
              induction n with
              | zero => intro x6_169 x9_169 y169_ h; rw [f_X7_beauty_169] at h; cases h
              | succ n ih =>
                intro x6_169 x9_169 y169_ h kc H locs ls hw hl
                rw [f_X7_beauty_169] at h
                refine lv_iload hx hb dX7_beauty_169 (lv_at hl 7 rfl) ?_
                refine lv_iload hx hb dX7_beauty_171 (lv_at hl 6 rfl) ?_
                refine mg_icmp_ge (tgt := 231) hx hb h dX7_beauty_173 (by decide) (fun h => ?_) (fun h => ?_)
                · cases h
                  exact kc H locs ls hw (lv_sub hl [0, 1, 2, 3, 4] rfl)
                · refine lv_aload hx hb dX7_beauty_176 (lv_at hl 5 rfl) ?_
                  refine lv_iload hx hb dX7_beauty_178 (lv_at hl 7 rfl) ?_
                  refine mg_aal hx hb hK hw 0 2 rfl mg_fS_02 rfl rfl h dX7_beauty_180 (fun j19 hj19_ h => ?_)
                  refine lv_astore (lv' := [(10, .ref (α 3 j19)), (0, .ref u), (2, .ref (β2 0 0)), (3, .int y8), (4, .int x4_11), (6, .int x6_169), (7, .ref (α 0 2)), (8, .int (nI (ζ.2 0))), (9, .int x9_169)]) hx hb dX7_beauty_181 hl (by decide) rfl (fun ls hl => ?_)
                  refine lv_aload hx hb dX7_beauty_183 (lv_at hl 0 rfl) ?_
                  refine lv_iconst (v := 3) hx hb dX7_beauty_185 (by decide) ?_
                  refine mg_ial (x := 3) hx hb hK hw 0 rfl (mg_fS_3 hj19_) (by unfold vp_in; decide) (by decide) dX7_beauty_186 ?_
                  refine mg_if_ne (tgt := 225) hx hb h dX7_beauty_187 (by decide) (fun h => ?_) (fun h => ?_)
                  · refine lv_iinc (v := (x9_169 + 1)) (lv' := [(9, .int (x9_169 + 1)), (10, .ref (α 3 j19)), (0, .ref u), (2, .ref (β2 0 0)), (3, .int y8), (4, .int x4_11), (6, .int x6_169), (7, .ref (α 0 2)), (8, .int (nI (ζ.2 0)))]) hx hb dX7_beauty_225 hl (k := 8) rfl rfl (by decide) rfl (fun ls hl => ?_)
                    refine lv_goto (tgt := 169) hx hb dX7_beauty_228 (by decide) ?_
                    exact ih _ _ _ h kc H locs ls hw (lv_sub hl [2, 3, 4, 5, 6, 7, 8, 0] rfl)
                  · refine lv_aload hx hb dX7_beauty_190 (lv_at hl 0 rfl) ?_
                    refine lv_iconst (v := 0) hx hb dX7_beauty_192 (by decide) ?_
                    refine mg_ial (x := 0) hx hb hK hw 0 rfl (mg_fS_3 hj19_) (by unfold vp_in; decide) (by decide) dX7_beauty_193 ?_
                    refine lv_aload_n hx hb dX7_beauty_194 rfl (lv_at hl 2 rfl) ?_
                    refine lv_iload hx hb dX7_beauty_195 (lv_at hl 4 rfl) ?_
                    refine mg_aal hx hb hK hw 1 2 rfl mg_fP_0 rfl rfl h dX7_beauty_197 (fun j20 hj20_ h => ?_)
                    refine lv_iconst (v := 0) hx hb dX7_beauty_198 (by decide) ?_
                    refine mg_ial (x := 0) hx hb hK hw 1 rfl (mg_fP_1 hj20_) (by unfold vp_in; decide) (by decide) dX7_beauty_199 ?_
                    refine mg_icmp_ne (tgt := 225) hx hb h dX7_beauty_200 (by decide) (fun h => ?_) (fun h => ?_)
                    · refine lv_iinc (v := (x9_169 + 1)) (lv' := [(9, .int (x9_169 + 1)), (10, .ref (α 3 j19)), (0, .ref u), (2, .ref (β2 0 0)), (3, .int y8), (4, .int x4_11), (6, .int x6_169), (7, .ref (α 0 2)), (8, .int (nI (ζ.2 0)))]) hx hb dX7_beauty_225 hl (k := 8) rfl rfl (by decide) rfl (fun ls hl => ?_)
                      refine lv_goto (tgt := 169) hx hb dX7_beauty_228 (by decide) ?_
                      exact ih _ _ _ h kc H locs ls hw (lv_sub hl [2, 3, 4, 5, 6, 7, 8, 0] rfl)
                    · refine lv_aload hx hb dX7_beauty_203 (lv_at hl 0 rfl) ?_
                      refine lv_iconst (v := 1) hx hb dX7_beauty_205 (by decide) ?_
                      refine mg_ial (x := 1) hx hb hK hw 0 rfl (mg_fS_3 hj19_) (by unfold vp_in; decide) (by decide) dX7_beauty_206 ?_
                      refine lv_aload_n hx hb dX7_beauty_207 rfl (lv_at hl 2 rfl) ?_
                      refine lv_iload hx hb dX7_beauty_208 (lv_at hl 4 rfl) ?_
                      refine mg_aal hx hb hK hw 1 2 rfl mg_fP_0 rfl rfl h dX7_beauty_210 (fun j21 hj21_ h => ?_)
                      refine lv_iconst (v := 1) hx hb dX7_beauty_211 (by decide) ?_
                      refine mg_ial (x := 1) hx hb hK hw 1 rfl (mg_fP_1 hj21_) (by unfold vp_in; decide) (by decide) dX7_beauty_212 ?_
                      refine mg_icmp_ne (tgt := 225) hx hb h dX7_beauty_213 (by decide) (fun h => ?_) (fun h => ?_)
                      · refine lv_iinc (v := (x9_169 + 1)) (lv' := [(9, .int (x9_169 + 1)), (10, .ref (α 3 j19)), (0, .ref u), (2, .ref (β2 0 0)), (3, .int y8), (4, .int x4_11), (6, .int x6_169), (7, .ref (α 0 2)), (8, .int (nI (ζ.2 0)))]) hx hb dX7_beauty_225 hl (k := 8) rfl rfl (by decide) rfl (fun ls hl => ?_)
                        refine lv_goto (tgt := 169) hx hb dX7_beauty_228 (by decide) ?_
                        exact ih _ _ _ h kc H locs ls hw (lv_sub hl [2, 3, 4, 5, 6, 7, 8, 0] rfl)
                      · refine lv_iload hx hb dX7_beauty_216 (lv_at hl 5 rfl) ?_
                        refine lv_aload hx hb dX7_beauty_218 (lv_at hl 0 rfl) ?_
                        refine lv_iconst (v := 2) hx hb dX7_beauty_220 (by decide) ?_
                        refine mg_ial (x := 2) hx hb hK hw 0 rfl (mg_fS_3 hj19_) (by unfold vp_in; decide) (by decide) dX7_beauty_221 ?_
                        refine lv_iadd hx hb dX7_beauty_222 ?_
                        refine lv_istore (lv' := [(6, .int (x6_169 + ((ζ.1 3 j19) 2))), (10, .ref (α 3 j19)), (0, .ref u), (2, .ref (β2 0 0)), (3, .int y8), (4, .int x4_11), (7, .ref (α 0 2)), (8, .int (nI (ζ.2 0))), (9, .int x9_169)]) hx hb dX7_beauty_223 hl (by decide) rfl (fun ls hl => ?_)
                        refine lv_iinc (v := (x9_169 + 1)) (lv' := [(9, .int (x9_169 + 1)), (6, .int (x6_169 + ((ζ.1 3 j19) 2))), (10, .ref (α 3 j19)), (0, .ref u), (2, .ref (β2 0 0)), (3, .int y8), (4, .int x4_11), (7, .ref (α 0 2)), (8, .int (nI (ζ.2 0)))]) hx hb dX7_beauty_225 hl (k := 8) rfl rfl (by decide) rfl (fun ls hl => ?_)
                        refine lv_goto (tgt := 169) hx hb dX7_beauty_228 (by decide) ?_
                        exact ih _ _ _ h kc H locs ls hw (lv_sub hl [3, 4, 5, 6, 1, 7, 8, 0] rfl)
            obtain ⟨y18, h9_, h⟩ := mg_bind h
            refine L169_ _ _ _ _ h9_ (fun H locs ls hw hl => ?_) H locs ls hw (lv_sub hl [4, 5, 6, 7, 3, 2, 1, 0] rfl)
            clear L169_ h9_
            refine lv_iload_n hx hb dX7_beauty_231 rfl (lv_at hl 2 rfl) ?_
            refine lv_iconst (v := 3) hx hb dX7_beauty_232 (by decide) ?_
            refine lv_iload hx hb dX7_beauty_233 (lv_at hl 4 rfl) ?_
            refine lv_bipush (v := 10) hx hb dX7_beauty_235 (by decide) ?_
            refine lv_idiv hx hb dX7_beauty_237 (by decide) ?_
            refine lv_iadd hx hb dX7_beauty_238 ?_
            refine lv_iadd hx hb dX7_beauty_239 ?_
            refine lv_istore_n (lv' := [(3, .int (y8 + (3 + (y18.1 / 10)))), (0, .ref u), (2, .ref (β2 0 0)), (4, .int x4_11), (6, .int y18.1)]) hx hb dX7_beauty_240 rfl hl (by decide) rfl (fun ls hl => ?_)
            refine lv_iinc (v := (x4_11 + 1)) (lv' := [(4, .int (x4_11 + 1)), (3, .int (y8 + (3 + (y18.1 / 10)))), (0, .ref u), (2, .ref (β2 0 0)), (6, .int y18.1)]) hx hb dX7_beauty_241 hl (k := 3) rfl rfl (by decide) rfl (fun ls hl => ?_)
            refine lv_goto (tgt := 11) hx hb dX7_beauty_244 (by decide) ?_
            exact ih _ _ _ h kc H locs ls hw (lv_sub hl [2, 3, 1, 0] rfl)
        clear h
        have h := h9_
        clear h9_
        refine mg_icmp_ne (tgt := 144) hx hb h dX7_beauty_43 (by decide) (fun h => ?_) (fun h => ?_)
        · cases h
          exact J43_ H locs ls hw (lv_sub hl [1, 2, 3, 4, 0] rfl)
        · refine lv_iconst (v := 1) hx hb dX7_beauty_46 (by decide) ?_
          refine lv_istore (lv' := [(6, .int 1), (5, .ref (α 2 (10 * j5 + j7))), (0, .ref u), (2, .ref (β2 0 0)), (3, .int x3_11), (4, .int x4_11)]) hx hb dX7_beauty_47 hl (by decide) rfl (fun ls hl => ?_)
          refine lv_iconst (v := 0) hx hb dX7_beauty_49 (by decide) ?_
          refine lv_istore (lv' := [(7, .int 0), (6, .int 1), (5, .ref (α 2 (10 * j5 + j7))), (0, .ref u), (2, .ref (β2 0 0)), (3, .int x3_11), (4, .int x4_11)]) hx hb dX7_beauty_50 hl (by decide) rfl (fun ls hl => ?_)
          have L52_ : ∀ (n : Nat), ∀ (x6_52 : Int32) (x7_52 : Int32) (y52_ : Int32 × Int32), f_X7_beauty_52 k0 j5 j7 x3_11 x4_11 ζ y1.1 y1.2 n x6_52 x7_52 = some y52_ → (∀ (H : Heap) (locs : List Loc) (ls : Array Slot), mg_Vo D A s.heap H locs ([mg_fS o u α ζ, mg_fP o (β2 0 0) (β2 1) y1.1 y1.2]) → lv_has ls 11 [(0, .ref u), (2, .ref (β2 0 0)), (3, .int x3_11), (4, .int x4_11), (5, .ref (α 2 (10 * j5 + j7))), (6, .int y52_.1)] → W p l e (headSpec wsX7_beauty ({ frames := 2, cells := 23, slots := 363, locals := 48 } : Room)).room s m ([.ref u, .ref (α 4 k0)] : List Value).toArray below meth c H locs 23 363 (MQ below (mg_QV D (fun _ => [mg_fS o u α ζ]) A (fun _ => some (.int y))) ([.ref u, .ref (α 4 k0)] : List Value).toArray s 23 363 A) (F0 m 126 ls [])) → ∀ (H : Heap) (locs : List Loc) (ls : Array Slot), mg_Vo D A s.heap H locs ([mg_fS o u α ζ, mg_fP o (β2 0 0) (β2 1) y1.1 y1.2]) → lv_has ls 11 [(0, .ref u), (2, .ref (β2 0 0)), (3, .int x3_11), (4, .int x4_11), (5, .ref (α 2 (10 * j5 + j7))), (6, .int x6_52), (7, .int x7_52)] → W p l e (headSpec wsX7_beauty ({ frames := 2, cells := 23, slots := 363, locals := 48 } : Room)).room s m ([.ref u, .ref (α 4 k0)] : List Value).toArray below meth c H locs 23 363 (MQ below (mg_QV D (fun _ => [mg_fS o u α ζ]) A (fun _ => some (.int y))) ([.ref u, .ref (α 4 k0)] : List Value).toArray s 23 363 A) (F0 m 52 ls []) := by
            intro n
            induction n with
            | zero => intro x6_52 x7_52 y52_ h; rw [f_X7_beauty_52] at h; cases h
            | succ n ih =>
              intro x6_52 x7_52 y52_ h kc H locs ls hw hl
              rw [f_X7_beauty_52] at h
              refine lv_iload hx hb dX7_beauty_52 (lv_at hl 6 rfl) ?_
              refine lv_iload hx hb dX7_beauty_54 (lv_at hl 3 rfl) ?_
              refine mg_icmp_ge (tgt := 126) hx hb h dX7_beauty_56 (by decide) (fun h => ?_) (fun h => ?_)
              · cases h
                exact kc H locs ls hw (lv_sub hl [0, 1, 2, 3, 4, 5] rfl)
              · refine lv_iload hx hb dX7_beauty_59 (lv_at hl 5 rfl) ?_
                refine lv_aload_n hx hb dX7_beauty_61 rfl (lv_at hl 0 rfl) ?_
                refine va_get (D := D) (ci := 7) (v := .ref (α 0 1)) (C := RX7) (T := TX7) (N := 6) hx hb hts iX7_ hown hK (mg_at1 hw.1 0 rfl mg_fS_00) 0 rfl rfl 2 (by decide) w0_ (fun _ h9 => h9) rfl dX7_beauty_62 ?_
                refine lv_aload_n hx hb dX7_beauty_65 rfl (lv_at hl 1 rfl) ?_
                refine lv_iload hx hb dX7_beauty_66 (lv_at hl 6 rfl) ?_
                refine mg_aal hx hb hK hw 1 2 rfl mg_fP_0 rfl rfl h dX7_beauty_68 (fun j10 hj10_ h => ?_)
                refine lv_iconst (v := 1) hx hb dX7_beauty_69 (by decide) ?_
                refine mg_ial (x := 1) hx hb hK hw 1 rfl (mg_fP_1 hj10_) (by unfold vp_in; decide) (by decide) dX7_beauty_70 ?_
                refine mg_aal hx hb hK hw 0 3 rfl mg_fS_01 rfl rfl h dX7_beauty_71 (fun j11 hj11_ h => ?_)
                refine lv_aload_n hx hb dX7_beauty_72 rfl (lv_at hl 1 rfl) ?_
                refine lv_iload hx hb dX7_beauty_73 (lv_at hl 6 rfl) ?_
                refine mg_aal hx hb hK hw 1 2 rfl mg_fP_0 rfl rfl h dX7_beauty_75 (fun j12 hj12_ h => ?_)
                refine lv_iconst (v := 0) hx hb dX7_beauty_76 (by decide) ?_
                refine mg_ial (x := 0) hx hb hK hw 1 rfl (mg_fP_1 hj12_) (by unfold vp_in; decide) (by decide) dX7_beauty_77 ?_
                refine mg_aal hx hb hK hw 0 2 rfl (mg_fS_1 hj11_) rfl rfl h dX7_beauty_78 (fun j13 hj13_ h => ?_)
                refine lv_iconst (v := 0) hx hb dX7_beauty_79 (by decide) ?_
                refine mg_ial (x := 0) hx hb hK hw 0 rfl (mg_fS_2 hj11_ hj13_) (by unfold vp_in; decide) (by decide) dX7_beauty_80 ?_
                refine lv_iconst (v := 1) hx hb dX7_beauty_81 (by decide) ?_
                refine mg_icmp_ne (tgt := 112) hx hb h dX7_beauty_82 (by decide) (fun h => ?_) (fun h => ?_)
                · refine lv_iconst (v := 1) hx hb dX7_beauty_112 (by decide) ?_
                  refine lv_goto (tgt := 117) hx hb dX7_beauty_113 (by decide) ?_
                  refine lv_iand hx hb dX7_beauty_117 ?_
                  refine lv_istore (lv' := [(6, .int (x6_52 &&& 1)), (0, .ref u), (2, .ref (β2 0 0)), (3, .int x3_11), (4, .int x4_11), (5, .ref (α 2 (10 * j5 + j7))), (7, .int x7_52)]) hx hb dX7_beauty_118 hl (by decide) rfl (fun ls hl => ?_)
                  refine lv_iinc (v := (x7_52 + 1)) (lv' := [(7, .int (x7_52 + 1)), (6, .int (x6_52 &&& 1)), (0, .ref u), (2, .ref (β2 0 0)), (3, .int x3_11), (4, .int x4_11), (5, .ref (α 2 (10 * j5 + j7)))]) hx hb dX7_beauty_120 hl (k := 6) rfl rfl (by decide) rfl (fun ls hl => ?_)
                  refine lv_goto (tgt := 52) hx hb dX7_beauty_123 (by decide) ?_
                  exact ih _ _ _ h kc H locs ls hw (lv_sub hl [2, 3, 4, 5, 6, 1, 0] rfl)
                · refine lv_aload_n hx hb dX7_beauty_85 rfl (lv_at hl 0 rfl) ?_
                  refine va_get (D := D) (ci := 7) (v := .ref (α 0 1)) (C := RX7) (T := TX7) (N := 6) hx hb hts iX7_ hown hK (mg_at1 hw.1 0 rfl mg_fS_00) 0 rfl rfl 2 (by decide) w0_ (fun _ h9 => h9) rfl dX7_beauty_86 ?_
                  refine lv_aload_n hx hb dX7_beauty_89 rfl (lv_at hl 1 rfl) ?_
                  refine lv_iload hx hb dX7_beauty_90 (lv_at hl 6 rfl) ?_
                  refine mg_aal hx hb hK hw 1 2 rfl mg_fP_0 rfl rfl h dX7_beauty_92 (fun j14 hj14_ h => ?_)
                  refine lv_iconst (v := 1) hx hb dX7_beauty_93 (by decide) ?_
                  refine mg_ial (x := 1) hx hb hK hw 1 rfl (mg_fP_1 hj14_) (by unfold vp_in; decide) (by decide) dX7_beauty_94 ?_
                  refine mg_aal hx hb hK hw 0 3 rfl mg_fS_01 rfl rfl h dX7_beauty_95 (fun j15 hj15_ h => ?_)
                  refine lv_aload_n hx hb dX7_beauty_96 rfl (lv_at hl 1 rfl) ?_
                  refine lv_iload hx hb dX7_beauty_97 (lv_at hl 6 rfl) ?_
                  refine mg_aal hx hb hK hw 1 2 rfl mg_fP_0 rfl rfl h dX7_beauty_99 (fun j16 hj16_ h => ?_)
                  refine lv_iconst (v := 0) hx hb dX7_beauty_100 (by decide) ?_
                  refine mg_ial (x := 0) hx hb hK hw 1 rfl (mg_fP_1 hj16_) (by unfold vp_in; decide) (by decide) dX7_beauty_101 ?_
                  refine mg_aal hx hb hK hw 0 2 rfl (mg_fS_1 hj15_) rfl rfl h dX7_beauty_102 (fun j17 hj17_ h => ?_)
                  refine lv_iconst (v := 1) hx hb dX7_beauty_103 (by decide) ?_
                  refine mg_ial (x := 1) hx hb hK hw 0 rfl (mg_fS_2 hj15_ hj17_) (by unfold vp_in; decide) (by decide) dX7_beauty_104 ?_
                  refine lv_aload hx hb dX7_beauty_105 (lv_at hl 4 rfl) ?_
                  refine lv_iconst (v := 1) hx hb dX7_beauty_107 (by decide) ?_
                  refine mg_ial (x := 1) hx hb hK hw 0 rfl (mg_fS_2 hj5_ hj7_) (by unfold vp_in; decide) (by decide) dX7_beauty_108 ?_
                  refine mg_icmp_eq (tgt := 116) hx hb h dX7_beauty_109 (by decide) (fun h => ?_) (fun h => ?_)
                  · refine lv_iconst (v := 0) hx hb dX7_beauty_116 (by decide) ?_
                    refine lv_iand hx hb dX7_beauty_117 ?_
                    refine lv_istore (lv' := [(6, .int (x6_52 &&& 0)), (0, .ref u), (2, .ref (β2 0 0)), (3, .int x3_11), (4, .int x4_11), (5, .ref (α 2 (10 * j5 + j7))), (7, .int x7_52)]) hx hb dX7_beauty_118 hl (by decide) rfl (fun ls hl => ?_)
                    refine lv_iinc (v := (x7_52 + 1)) (lv' := [(7, .int (x7_52 + 1)), (6, .int (x6_52 &&& 0)), (0, .ref u), (2, .ref (β2 0 0)), (3, .int x3_11), (4, .int x4_11), (5, .ref (α 2 (10 * j5 + j7)))]) hx hb dX7_beauty_120 hl (k := 6) rfl rfl (by decide) rfl (fun ls hl => ?_)
                    refine lv_goto (tgt := 52) hx hb dX7_beauty_123 (by decide) ?_
                    exact ih _ _ _ h kc H locs ls hw (lv_sub hl [2, 3, 4, 5, 6, 1, 0] rfl)
                  · refine lv_iconst (v := 1) hx hb dX7_beauty_112 (by decide) ?_
                    refine lv_goto (tgt := 117) hx hb dX7_beauty_113 (by decide) ?_
                    refine lv_iand hx hb dX7_beauty_117 ?_
                    refine lv_istore (lv' := [(6, .int (x6_52 &&& 1)), (0, .ref u), (2, .ref (β2 0 0)), (3, .int x3_11), (4, .int x4_11), (5, .ref (α 2 (10 * j5 + j7))), (7, .int x7_52)]) hx hb dX7_beauty_118 hl (by decide) rfl (fun ls hl => ?_)
                    refine lv_iinc (v := (x7_52 + 1)) (lv' := [(7, .int (x7_52 + 1)), (6, .int (x6_52 &&& 1)), (0, .ref u), (2, .ref (β2 0 0)), (3, .int x3_11), (4, .int x4_11), (5, .ref (α 2 (10 * j5 + j7)))]) hx hb dX7_beauty_120 hl (k := 6) rfl rfl (by decide) rfl (fun ls hl => ?_)
                    refine lv_goto (tgt := 52) hx hb dX7_beauty_123 (by decide) ?_
                    exact ih _ _ _ h kc H locs ls hw (lv_sub hl [2, 3, 4, 5, 6, 1, 0] rfl)
          obtain ⟨y9, h9_, h⟩ := mg_bind h
          refine L52_ _ _ _ _ h9_ (fun H locs ls hw hl => ?_) H locs ls hw (lv_sub hl [3, 4, 5, 6, 2, 1, 0] rfl)
          clear L52_ h9_
          refine lv_iload_n hx hb dX7_beauty_126 rfl (lv_at hl 2 rfl) ?_
          refine lv_aload hx hb dX7_beauty_127 (lv_at hl 4 rfl) ?_
          refine lv_iconst (v := 2) hx hb dX7_beauty_129 (by decide) ?_
          refine mg_ial (x := 2) hx hb hK hw 0 rfl (mg_fS_2 hj5_ hj7_) (by unfold vp_in; decide) (by decide) dX7_beauty_130 ?_
          refine lv_iload hx hb dX7_beauty_131 (lv_at hl 5 rfl) ?_
          refine mg_if_eq (tgt := 140) hx hb h dX7_beauty_133 (by decide) (fun h => ?_) (fun h => ?_)
          · refine lv_iconst (v := 0) hx hb dX7_beauty_140 (by decide) ?_
            refine lv_iadd hx hb dX7_beauty_141 ?_
            refine lv_iadd hx hb dX7_beauty_142 ?_
            refine lv_istore_n (lv' := [(3, .int (x3_11 + (((ζ.1 2 (10 * j5 + j7)) 2) + 0))), (0, .ref u), (2, .ref (β2 0 0)), (4, .int x4_11), (5, .ref (α 2 (10 * j5 + j7))), (6, .int y9.1)]) hx hb dX7_beauty_143 rfl hl (by decide) rfl (fun ls hl => ?_)
            cases h
            exact J43_ H locs ls hw (lv_sub hl [1, 2, 0, 3, 4] rfl)
          · refine lv_iconst (v := 4) hx hb dX7_beauty_136 (by decide) ?_
            refine lv_goto (tgt := 141) hx hb dX7_beauty_137 (by decide) ?_
            refine lv_iadd hx hb dX7_beauty_141 ?_
            refine lv_iadd hx hb dX7_beauty_142 ?_
            refine lv_istore_n (lv' := [(3, .int (x3_11 + (((ζ.1 2 (10 * j5 + j7)) 2) + 4))), (0, .ref u), (2, .ref (β2 0 0)), (4, .int x4_11), (5, .ref (α 2 (10 * j5 + j7))), (6, .int y9.1)]) hx hb dX7_beauty_143 rfl hl (by decide) rfl (fun ls hl => ?_)
            cases h
            exact J43_ H locs ls hw (lv_sub hl [1, 2, 0, 3, 4] rfl)
  obtain ⟨y3, h9_, h⟩ := mg_bind h
  refine L11_ _ _ _ _ h9_ (fun H locs ls hw hl => ?_) H locs ls hw (lv_sub hl [3, 2, 1, 0] rfl)
  clear L11_ h9_
  refine lv_iload_n hx hb dX7_beauty_247 rfl (lv_at hl 0 rfl) ?_
  cases h
  exact mg_eIV (fun _ _ => 0) rfl hx hb hr hlocks (mg_Vsub hw [0] rfl rfl) (show 23 ≤ 23 by omega) (show 363 ≤ 363 by omega) dX7_beauty_248
