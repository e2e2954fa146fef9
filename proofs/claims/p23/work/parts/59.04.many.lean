set_option maxHeartbeats 8000000 in
set_option maxRecDepth 100000 in
theorem k_X7_many (l : Launch) (D : va_G) (o : Nat → Nat) (q0 : Nat) (r0 : Nat → Nat) (sz : Nat) (μ : Nat → Nat → Int32) (y : Int32) (h : f_X7_many μ = some y) : mg_CV l yX7_many wsX7_many ({ frames := 0, cells := 0, slots := 0, locals := 0 } : Room) D o [mg_fM o q0 r0 μ] sz [.ref q0] (fun _ => some (.int y)) (fun _ => [mg_fM o q0 r0 μ]) 0 0 := by
  unfold mg_CV
  refine Met.ofW (cc := cX7_many) (maxL := 10) (ret := (some .int)) (by decide) rfl ?_
  intro p e s m args below meth c s₁ B hml hv
  obtain ⟨rfl, hsz, hP, hK, hD0, hO⟩ := hv
  have hx := B.exec
  have hb := B.bytes
  have hr := B.returns
  have hts := atoms_spec (ws := wsX7_many) B.pre
  have hown : s.vm.findClass RX7 = some m.cls := findClass_of_methodNamed B.named
  have hlocks := B.notSynchronized
  subst hsz
  have hD := hD0.self (sz := s.heap.size)
  generalize hAe : mg_VA [mg_fM o q0 r0 μ] s.heap.size = A at hD hO ⊢
  have hA : ∀ q : Nat, s.heap.size ≤ q → A q := fun q h => by rw [← hAe]; exact Or.inr h
  have hw : mg_Vo D A s.heap s.heap [] ([mg_fM o q0 r0 μ]) := ⟨hP, hD, va_S.rf⟩
  have G9 : CallFix p m c cX7_many 10 s ([.ref q0] : List Value).toArray wsX7_many RX7 := ⟨hx, hb, hml, hown, hts⟩
  clear hP hD hD0 hAe
  have hl := lv_entry ([.ref q0]) (n := 10) (Nat.le_of_ble_eq_true rfl)
  rw [lg_entry_eq]
  generalize (lg_sl ([.ref q0]) ++ List.replicate (10 - (lg_sl ([.ref q0])).length) Slot.unset).toArray = ls at hl ⊢
  have hl : lv_has ls 10 [(0, .ref q0)] := hl
  unfold f_X7_many at h
  suffices K_ : ∀ (H : Heap) (locs : List Loc), mg_Vo D A s.heap H locs ([mg_fM o q0 r0 μ]) → W p l e (headSpec wsX7_many ({ frames := 0, cells := 0, slots := 0, locals := 0 } : Room)).room s m ([.ref q0] : List Value).toArray below meth c H locs 0 0 (MQ below (mg_QV D (fun _ => [mg_fM o q0 r0 μ]) A (fun _ => some (.int y))) ([.ref q0] : List Value).toArray s 0 0 A) (F0 m 0 ls []) from K_ _ _ hw
  clear hw
  intro H locs hw
  refine lv_iconst (v := 0) hx hb dX7_many_0 (by decide) ?_
  refine lv_istore_n (lv' := [(1, .int 0), (0, .ref q0)]) hx hb dX7_many_1 rfl hl (by decide) rfl (fun ls hl => ?_)
  refine lv_aload_n hx hb dX7_many_2 rfl (lv_at hl 1 rfl) ?_
  refine lv_astore_n (lv' := [(2, .ref q0), (1, .int 0), (0, .ref q0)]) hx hb dX7_many_3 rfl hl (by decide) rfl (fun ls hl => ?_)
  refine lv_aload_n hx hb dX7_many_4 rfl (lv_at hl 0 rfl) ?_
  refine mg_alenq hx hb hK hw 0 4 rfl mg_fM_0 rfl dX7_many_5 ?_
  refine lv_istore_n (lv' := [(3, .int (nI 7)), (2, .ref q0), (1, .int 0), (0, .ref q0)]) hx hb dX7_many_6 rfl hl (by decide) rfl (fun ls hl => ?_)
  refine lv_iconst (v := 0) hx hb dX7_many_7 (by decide) ?_
  refine lv_istore (lv' := [(4, .int 0), (3, .int (nI 7)), (2, .ref q0), (1, .int 0), (0, .ref q0)]) hx hb dX7_many_8 hl (by decide) rfl (fun ls hl => ?_)
  have L10_ : ∀ (n : Nat), ∀ (x1_10 : Int32) (x4_10 : Int32) (y10_ : Int32 × Int32), f_X7_many_10 (nI 7) μ n x1_10 x4_10 = some y10_ → (∀ (H : Heap) (locs : List Loc) (ls : Array Slot), mg_Vo D A s.heap H locs ([mg_fM o q0 r0 μ]) → lv_has ls 10 [(1, .int y10_.1)] → W p l e (headSpec wsX7_many ({ frames := 0, cells := 0, slots := 0, locals := 0 } : Room)).room s m ([.ref q0] : List Value).toArray below meth c H locs 0 0 (MQ below (mg_QV D (fun _ => [mg_fM o q0 r0 μ]) A (fun _ => some (.int y))) ([.ref q0] : List Value).toArray s 0 0 A) (F0 m 73 ls [])) → ∀ (H : Heap) (locs : List Loc) (ls : Array Slot), mg_Vo D A s.heap H locs ([mg_fM o q0 r0 μ]) → lv_has ls 10 [(1, .int x1_10), (2, .ref q0), (3, .int (nI 7)), (4, .int x4_10)] → W p l e (headSpec wsX7_many ({ frames := 0, cells := 0, slots := 0, locals := 0 } : Room)).room s m ([.ref q0] : List Value).toArray below meth c H locs 0 0 (MQ below (mg_QV D (fun _ => [mg_fM o q0 r0 μ]) A (fun _ => some (.int y))) ([.ref q0] : List Value).toArray s 0 0 A) (F0 m 10 ls []) := by
    intro n
    induction n with
    | zero => intro x1_10 x4_10 y10_ h; rw [f_X7_many_10] at h; cases h
    | succ n ih =>
      intro x1_10 x4_10 y10_ h kc H locs ls hw hl
      rw [f_X7_many_10] at h
      refine lv_iload hx hb dX7_many_10 (lv_at hl 3 rfl) ?_
      refine lv_iload_n hx hb dX7_many_12 rfl (lv_at hl 2 rfl) ?_
      refine mg_icmp_ge (tgt := 73) hx hb h dX7_many_13 (by decide) (fun h => ?_) (fun h => ?_)
      · cases h
        exact kc H locs ls hw (lv_sub hl [0] rfl)
      · refine lv_aload_n hx hb dX7_many_16 rfl (lv_at hl 1 rfl) ?_
        refine lv_iload hx hb dX7_many_17 (lv_at hl 3 rfl) ?_
        refine mg_aal hx hb hK hw 0 4 rfl mg_fM_0 rfl rfl h dX7_many_19 (fun j2 hj2_ h => ?_)
        refine lv_astore (lv' := [(5, .ref (r0 j2)), (1, .int x1_10), (2, .ref q0), (3, .int (nI 7)), (4, .int x4_10)]) hx hb dX7_many_20 hl (by decide) rfl (fun ls hl => ?_)
        refine lv_aload hx hb dX7_many_22 (lv_at hl 0 rfl) ?_
        refine lv_astore (lv' := [(6, .ref (r0 j2)), (5, .ref (r0 j2)), (1, .int x1_10), (2, .ref q0), (3, .int (nI 7)), (4, .int x4_10)]) hx hb dX7_many_24 hl (by decide) rfl (fun ls hl => ?_)
        refine lv_aload hx hb dX7_many_26 (lv_at hl 0 rfl) ?_
        refine mg_alenq hx hb hK hw 0 1 rfl (mg_fM_1 hj2_) rfl dX7_many_28 ?_
        refine lv_istore (lv' := [(7, .int (nI 10)), (6, .ref (r0 j2)), (5, .ref (r0 j2)), (1, .int x1_10), (2, .ref q0), (3, .int (nI 7)), (4, .int x4_10)]) hx hb dX7_many_29 hl (by decide) rfl (fun ls hl => ?_)
        refine lv_iconst (v := 0) hx hb dX7_many_31 (by decide) ?_
        refine lv_istore (lv' := [(8, .int 0), (7, .int (nI 10)), (6, .ref (r0 j2)), (5, .ref (r0 j2)), (1, .int x1_10), (2, .ref q0), (3, .int (nI 7)), (4, .int x4_10)]) hx hb dX7_many_32 hl (by decide) rfl (fun ls hl => ?_)
        have L34_ : ∀ (n : Nat), ∀ (x1_34 : Int32) (x8_34 : Int32) (y34_ : Int32 × Int32), f_X7_many_34 j2 (nI 7) x4_10 (nI 10) μ n x1_34 x8_34 = some y34_ → (∀ (H : Heap) (locs : List Loc) (ls : Array Slot), mg_Vo D A s.heap H locs ([mg_fM o q0 r0 μ]) → lv_has ls 10 [(1, .int y34_.1), (2, .ref q0), (3, .int (nI 7)), (4, .int x4_10)] → W p l e (headSpec wsX7_many ({ frames := 0, cells := 0, slots := 0, locals := 0 } : Room)).room s m ([.ref q0] : List Value).toArray below meth c H locs 0 0 (MQ below (mg_QV D (fun _ => [mg_fM o q0 r0 μ]) A (fun _ => some (.int y))) ([.ref q0] : List Value).toArray s 0 0 A) (F0 m 67 ls [])) → ∀ (H : Heap) (locs : List Loc) (ls : Array Slot), mg_Vo D A s.heap H locs ([mg_fM o q0 r0 μ]) → lv_has ls 10 [(1, .int x1_34), (2, .ref q0), (3, .int (nI 7)), (4, .int x4_10), (6, .ref (r0 j2)), (7, .int (nI 10)), (8, .int x8_34)] → W p l e (headSpec wsX7_many ({ frames := 0, cells := 0, slots := 0, locals := 0 } : Room)).room s m ([.ref q0] : List Value).toArray below meth c H locs 0 0 (MQ below (mg_QV D (fun _ => [mg_fM o q0 r0 μ]) A (fun _ => some (.int y))) ([.ref q0] : List Value).toArray s 0 0 A) (F0 m 34 ls []) := by
          intro n
          induction n with
          | zero => intro x1_34 x8_34 y34_ h; rw [f_X7_many_34] at h; cases h
          | succ n ih =>
            intro x1_34 x8_34 y34_ h kc H locs ls hw hl
            rw [f_X7_many_34] at h
            refine lv_iload hx hb dX7_many_34 (lv_at hl 6 rfl) ?_
            refine lv_iload hx hb dX7_many_36 (lv_at hl 5 rfl) ?_
            refine mg_icmp_ge (tgt := 67) hx hb h dX7_many_38 (by decide) (fun h => ?_) (fun h => ?_)
            · cases h
              exact kc H locs ls hw (lv_sub hl [0, 1, 2, 3] rfl)
            · refine lv_aload hx hb dX7_many_41 (lv_at hl 4 rfl) ?_
              refine lv_iload hx hb dX7_many_43 (lv_at hl 6 rfl) ?_
              refine mg_zalx hx hb hK hw 0 rfl (mg_fM_1 hj2_) h dX7_many_45 (fun j4 hj4_ h => ?_)
              refine lv_istore (lv' := [(9, .int ((μ j2) j4)), (1, .int x1_34), (2, .ref q0), (3, .int (nI 7)), (4, .int x4_10), (6, .ref (r0 j2)), (7, .int (nI 10)), (8, .int x8_34)]) hx hb dX7_many_46 hl (by decide) rfl (fun ls hl => ?_)
              refine lv_iload_n hx hb dX7_many_48 rfl (lv_at hl 1 rfl) ?_
              refine lv_iload hx hb dX7_many_49 (lv_at hl 0 rfl) ?_
              refine mg_if_eq (tgt := 58) hx hb h dX7_many_51 (by decide) (fun h => ?_) (fun h => ?_)
              · refine lv_iconst (v := 0) hx hb dX7_many_58 (by decide) ?_
                refine lv_iadd hx hb dX7_many_59 ?_
                refine lv_istore_n (lv' := [(1, .int (x1_34 + 0)), (9, .int ((μ j2) j4)), (2, .ref q0), (3, .int (nI 7)), (4, .int x4_10), (6, .ref (r0 j2)), (7, .int (nI 10)), (8, .int x8_34)]) hx hb dX7_many_60 rfl hl (by decide) rfl (fun ls hl => ?_)
                refine lv_iinc (v := (x8_34 + 1)) (lv' := [(8, .int (x8_34 + 1)), (1, .int (x1_34 + 0)), (9, .int ((μ j2) j4)), (2, .ref q0), (3, .int (nI 7)), (4, .int x4_10), (6, .ref (r0 j2)), (7, .int (nI 10))]) hx hb dX7_many_61 hl (k := 7) rfl rfl (by decide) rfl (fun ls hl => ?_)
                refine lv_goto (tgt := 34) hx hb dX7_many_64 (by decide) ?_
                exact ih _ _ _ h kc H locs ls hw (lv_sub hl [1, 3, 4, 5, 6, 7, 0] rfl)
              · refine lv_iconst (v := 1) hx hb dX7_many_54 (by decide) ?_
                refine lv_goto (tgt := 59) hx hb dX7_many_55 (by decide) ?_
                refine lv_iadd hx hb dX7_many_59 ?_
                refine lv_istore_n (lv' := [(1, .int (x1_34 + 1)), (9, .int ((μ j2) j4)), (2, .ref q0), (3, .int (nI 7)), (4, .int x4_10), (6, .ref (r0 j2)), (7, .int (nI 10)), (8, .int x8_34)]) hx hb dX7_many_60 rfl hl (by decide) rfl (fun ls hl => ?_)
                refine lv_iinc (v := (x8_34 + 1)) (lv' := [(8, .int (x8_34 + 1)), (1, .int (x1_34 + 1)), (9, .int ((μ j2) j4)), (2, .ref q0), (3, .int (nI 7)), (4, .int x4_10), (6, .ref (r0 j2)), (7, .int (nI 10))]) hx hb dX7_many_61 hl (k := 7) rfl rfl (by decide) rfl (fun ls hl => ?_)
                refine lv_goto (tgt := 34) hx hb dX7_many_64 (by decide) ?_
                exact ih _ _ _ h kc H locs ls hw (lv_sub hl [1, 3, 4, 5, 6, 7, 0] rfl)
        obtain ⟨y3, h9_, h⟩ := mg_bind h
        refine L34_ _ _ _ _ h9_ (fun H locs ls hw hl => ?_) H locs ls hw (lv_sub hl [4, 5, 6, 7, 2, 1, 0] rfl)
        clear L34_ h9_
        refine lv_iinc (v := (x4_10 + 1)) (lv' := [(4, .int (x4_10 + 1)), (1, .int y3.1), (2, .ref q0), (3, .int (nI 7))]) hx hb dX7_many_67 hl (k := 3) rfl rfl (by decide) rfl (fun ls hl => ?_)
        refine lv_goto (tgt := 10) hx hb dX7_many_70 (by decide) ?_
        exact ih _ _ _ h kc H locs ls hw (lv_sub hl [1, 2, 3, 0] rfl)
  obtain ⟨y1, h9_, h⟩ := mg_bind h
  refine L10_ _ _ _ _ h9_ (fun H locs ls hw hl => ?_) H locs ls hw (lv_sub hl [3, 2, 1, 0] rfl)
  clear L10_ h9_
  refine lv_iload_n hx hb dX7_many_73 rfl (lv_at hl 0 rfl) ?_
  cases h
  exact mg_eIV (fun _ _ => 0) rfl hx hb hr hlocks hw (show 0 ≤ 0 by omega) (show 0 ≤ 0 by omega) dX7_many_74
