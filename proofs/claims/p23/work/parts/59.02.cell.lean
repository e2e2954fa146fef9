set_option maxHeartbeats 8000000 in
set_option maxRecDepth 100000 in
theorem k_L_cell (l : Launch) (D : va_G) (o : Nat → Nat)  (b : Nat) (sz : Nat) (xs : Nat → Int32) (Ln : Nat) (x1 : Int32) (y : Int32) (h : f_L_cell xs Ln x1 = some y) : mg_CVX l yL_cell wsL_cell ({ frames := 0, cells := 0, slots := 0, locals := 0 } : Room) D o [] sz b Ln xs [.ref b, .int x1] (fun _ => some (.int y)) (fun _ => []) 0 0 := by
  unfold mg_CVX
  refine Met.ofW (cc := cL_cell) (maxL := 2) (ret := (some .int)) (by decide) rfl ?_
  intro p e s m args below meth c s₁ B hml hv
  obtain ⟨rfl, ⟨hsz, hP, hK, hD0, hO⟩, hX, hbl0, hbA⟩ := hv
  have hx := B.exec
  have hb := B.bytes
  have hr := B.returns
  have hts := atoms_spec (ws := wsL_cell) B.pre
  have hown : s.vm.findClass RL = some m.cls := findClass_of_methodNamed B.named
  have hlocks := B.notSynchronized
  subst hsz
  have hD := hD0.self (sz := s.heap.size)
  have hbl : b < s.heap.size := hbl0
  generalize hAe : mg_VA [] s.heap.size = A at hD hO hbA ⊢
  have hA : ∀ q : Nat, s.heap.size ≤ q → A q := fun q h => by rw [← hAe]; exact Or.inr h
  have hw : mg_Vo D A s.heap s.heap [] ([]) := ⟨hP, hD, va_S.rf⟩
  have G9 : CallFix p m c cL_cell 2 s ([.ref b, .int x1] : List Value).toArray wsL_cell RL := ⟨hx, hb, hml, hown, hts⟩
  clear hP hD hD0 hAe
  have w0_ := hts (.constant RL 8 (790386105)) (by decide +kernel)
  have hl := lv_entry ([.ref b, .int x1]) (n := 2) (Nat.le_of_ble_eq_true rfl)
  rw [lg_entry_eq]
  generalize (lg_sl ([.ref b, .int x1]) ++ List.replicate (2 - (lg_sl ([.ref b, .int x1])).length) Slot.unset).toArray = ls at hl ⊢
  have hl : lv_has ls 2 [(0, .ref b), (1, .int x1)] := hl
  unfold f_L_cell at h
  suffices K_ : ∀ (H : Heap) (locs : List Loc), mg_Vo D A s.heap H locs ([]) → W p l e (headSpec wsL_cell ({ frames := 0, cells := 0, slots := 0, locals := 0 } : Room)).room s m ([.ref b, .int x1] : List Value).toArray below meth c H locs 0 0 (MQ below (mg_QV D (fun _ => []) A (fun _ => some (.int y))) ([.ref b, .int x1] : List Value).toArray s 0 0 A) (F0 m 0 ls []) from K_ _ _ hw
  clear hw
  intro H locs hw
  refine lv_iload_n hx hb dL_cell_0 rfl (lv_at hl 1 rfl) ?_
  refine lv_aload_n hx hb dL_cell_1 rfl (lv_at hl 0 rfl) ?_
  refine va_slen hx hb hX hbl hbA hw.2.2 dL_cell_2 ?_
  refine mg_icmp_ge (tgt := 12) hx hb h dL_cell_3 (by decide) (fun h => ?_) (fun h => ?_)
  · refine lv_ldc (v := 790386105) hx hb hown w0_ dL_cell_12 ?_
    refine lv_iload_n hx hb dL_cell_14 rfl (lv_at hl 1 rfl) ?_
    refine lv_iconst (v := 3) hx hb dL_cell_15 (by decide) ?_
    refine lv_iadd hx hb dL_cell_16 ?_
    refine lv_imul hx hb dL_cell_17 ?_
    cases h
    exact mg_eIV (fun _ _ => 0) rfl hx hb hr hlocks hw (show 0 ≤ 0 by omega) (show 0 ≤ 0 by omega) dL_cell_18
  · refine lv_aload_n hx hb dL_cell_6 rfl (lv_at hl 0 rfl) ?_
    refine lv_iload_n hx hb dL_cell_7 rfl (lv_at hl 1 rfl) ?_
    refine mg_sldx hx hb hX hbl hbA hw.2.2 h dL_cell_8 (fun v1 h => ?_)
    refine lv_goto (tgt := 18) hx hb dL_cell_9 (by decide) ?_
    cases h
    exact mg_eIV (fun _ _ => 0) rfl hx hb hr hlocks hw (show 0 ≤ 0 by omega) (show 0 ≤ 0 by omega) dL_cell_18
