set_option maxHeartbeats 8000000 in
set_option maxRecDepth 100000 in
theorem k_L_below (l : Launch) (D : va_G) (o : Nat → Nat)  (sz : Nat) (x0 : Int32) (x1 : Int32) (y : Int32) (h : f_L_below x0 x1 = some y) : mg_CV l yL_below wsL_below ({ frames := 0, cells := 0, slots := 0, locals := 0 } : Room) D o [] sz [.int x0, .int x1] (fun _ => some (.int y)) (fun _ => []) 0 0 := by
  unfold mg_CV
  refine Met.ofW (cc := cL_below) (maxL := 2) (ret := (some .int)) (by decide) rfl ?_
  intro p e s m args below meth c s₁ B hml hv
  obtain ⟨rfl, hsz, hP, hK, hD0, hO⟩ := hv
  have hx := B.exec
  have hb := B.bytes
  have hr := B.returns
  have hts := atoms_spec (ws := wsL_below) B.pre
  have hown : s.vm.findClass RL = some m.cls := findClass_of_methodNamed B.named
  have hlocks := B.notSynchronized
  subst hsz
  have hD := hD0.self (sz := s.heap.size)
  generalize hAe : mg_VA [] s.heap.size = A at hD hO ⊢
  have hA : ∀ q : Nat, s.heap.size ≤ q → A q := fun q h => by rw [← hAe]; exact Or.inr h
  have hw : mg_Vo D A s.heap s.heap [] ([]) := ⟨hP, hD, va_S.rf⟩
  have G9 : CallFix p m c cL_below 2 s ([.int x0, .int x1] : List Value).toArray wsL_below RL := ⟨hx, hb, hml, hown, hts⟩
  clear hP hD hD0 hAe
  have w0_ := hts (.constant RL 7 (2147483647)) (by decide +kernel)
  have hl := lv_entry ([.int x0, .int x1]) (n := 2) (Nat.le_of_ble_eq_true rfl)
  rw [lg_entry_eq]
  generalize (lg_sl ([.int x0, .int x1]) ++ List.replicate (2 - (lg_sl ([.int x0, .int x1])).length) Slot.unset).toArray = ls at hl ⊢
  have hl : lv_has ls 2 [(0, .int x0), (1, .int x1)] := hl
  unfold f_L_below at h
  suffices K_ : ∀ (H : Heap) (locs : List Loc), mg_Vo D A s.heap H locs ([]) → W p l e (headSpec wsL_below ({ frames := 0, cells := 0, slots := 0, locals := 0 } : Room)).room s m ([.int x0, .int x1] : List Value).toArray below meth c H locs 0 0 (MQ below (mg_QV D (fun _ => []) A (fun _ => some (.int y))) ([.int x0, .int x1] : List Value).toArray s 0 0 A) (F0 m 0 ls []) from K_ _ _ hw
  clear hw
  intro H locs hw
  refine lv_iload_n hx hb dL_below_0 rfl (lv_at hl 0 rfl) ?_
  refine lv_ldc (v := 2147483647) hx hb hown w0_ dL_below_1 ?_
  refine lv_iand hx hb dL_below_3 ?_
  refine lv_iload_n hx hb dL_below_4 rfl (lv_at hl 1 rfl) ?_
  obtain ⟨y9_, h9_, h⟩ := mg_bind h
  replace h9_ := mg_gd_of h9_
  clear y9_
  refine lv_irem hx hb dL_below_5 h9_ ?_
  clear h9_
  cases h
  exact mg_eIV (fun _ _ => 0) rfl hx hb hr hlocks hw (show 0 ≤ 0 by omega) (show 0 ≤ 0 by omega) dL_below_6
