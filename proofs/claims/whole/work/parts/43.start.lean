theorem mg_tab4 {args : Array Value} {s : State} {C n : String} {f : Nat → Int32} (h0 : (Cond.arrayOf (.static C n "[I") .int).before args s = true) (h1 : (Cond.eq (.length (.static C n "[I")) (.int 4)).before args s = true)
    (e0 : (Cond.eq (.elem (.static C n "[I") (.int 0)) (.int (f 0))).before args s = true) (e1 : (Cond.eq (.elem (.static C n "[I") (.int 1)) (.int (f 1))).before args s = true) (e2 : (Cond.eq (.elem (.static C n "[I") (.int 2)) (.int (f 2))).before args s = true) (e3 : (Cond.eq (.elem (.static C n "[I") (.int 3)) (.int (f 3))).before args s = true)
    (hl : (Cond.laysStatic C n "[I").before args s = true) (hini : (Cond.initialized C).before args s = true) : ∃ t : Nat, va_Z C n "[I" (.ref t) (fun q => s.heap.size ≤ q) s s.heap ∧ va_T .int t 4 (fun j => .int (f j)) (fun q => s.heap.size ≤ q) s s.heap := by
  have hA : ∀ a : Nat, a < s.heap.size → ¬ (fun q : Nat => s.heap.size ≤ q) a := fun a h => Nat.not_le.mpr h
  obtain ⟨t, ht, hT⟩ := va_Tof (N := 4) (f := fun j => .int (f j)) (A := fun q => s.heap.size ≤ q) (by decide) h0 (va_eqt h1) (fun j hj => by
    rcases (show j = 0 ∨ j = 1 ∨ j = 2 ∨ j = 3 by omega) with rfl | rfl | rfl | rfl
    · exact va_eqt e0
    · exact va_eqt e1
    · exact va_eqt e2
    · exact va_eqt e3) hA
  exact ⟨t, va_Zof hl hini ht hA, hT⟩
theorem mg_str {args : Array Value} {s : State} {i : Nat} {t : String} (h1 : (Cond.stringRef "MoonGate" i t).before args s = true) (h2 : (Cond.exactly (.string "MoonGate" i) "java/lang/String").before args s = true) : ∃ a : Nat, vk_R "MoonGate" i t a s := by
  cases hv : (Term.string "MoonGate" i).eval args s none [] s with
  | none => simp [Cond.before, Cond.holds, Cond.value, hv] at h2
  | some v =>
    obtain ⟨a, rfl⟩ := Term.string_eval_ref hv
    exact ⟨a, vk_R.of h1 hv⟩
theorem mg_arr {args : Array Value} {s : State} {ty : FieldType} (hp : ty = .int ∨ ty = .boolean ∨ ty = .long) (h : (Cond.arrayClass ty).before args s = true) : ∃ cA : ClassId, ArrOfT s cA ty ∧ va_RA s cA ty := by
  obtain ⟨cA, kA, comp, h1, h2, h3⟩ := Cond.arrayClass_spec h
  refine ⟨cA, fun n z => ⟨fun k h => (by cases h), kA, h2, comp, h3⟩, ?_⟩
  rcases hp with rfl | rfl | rfl <;> exact h1
theorem mg_rot {D : va_G} {A : Nat → Prop} {H0 H : Heap} {locs : List Loc} {a b c : va_W} (hw : mg_Wo D A H0 H locs (a ++ (b ++ c))) : mg_Wo D A H0 H locs ((a ++ c) ++ b) := by
  obtain ⟨hP, hD, hS⟩ := hw
  obtain ⟨pa, pbc⟩ := mg_Papp hP
  obtain ⟨pb, pc⟩ := mg_Papp pbc
  obtain ⟨da, dbc, xa⟩ := mg_Dapp hD
  obtain ⟨db, dc, xb⟩ := mg_Dapp dbc
  refine ⟨va_P.app (va_P.app pa pc) pb, mg_Dmk (mg_Dmk da dc (fun p hp q hq => xa p hp q (List.mem_append_right _ hq))) db (fun p hp q hq => ?_), hS⟩
  rcases List.mem_append.mp hp with h | h
  · exact xa p h q (List.mem_append_left _ hq)
  · exact fun e => xb q hq p h e.symm
set_option maxHeartbeats 8000000 in
set_option maxRecDepth 100000 in
/-- the law, from its entry -/
theorem whole_start {p : Program} {e : Env} {s : State} {m : MethodId} {below : List Frame} {meth : Method} {c : Code} (l : Launch) (hflags : l.flags = flags0) {b L : Nat} {xs : Nat → Int32} (hL : L ≤ 2560) (C0 : lw_At p s m meth c b L xs) : W p l e room_1 s m #[Value.ref b] below meth c s.heap [] 0 0 (lw_Z below #[Value.ref b] s) (entryFrame m ([Value.ref b] : List Value).toArray 9) := by
  obtain ⟨hx, hb, hr, hml, hown, hts0, hX, hbl, hlocks, hgv⟩ := id C0
  have hts : ∀ w ∈ wsL_law, w.before #[Value.ref b] s = true := fun w h => hts0 w (wsL_law_in w h)
  have hg := flat_of_before _ hgv
  have hst : l.stackTraces = false := by unfold Launch.stackTraces; rw [hflags]; decide +kernel
  have hA : ∀ q : Nat, s.heap.size ≤ q → (fun q => s.heap.size ≤ q) q := fun _ h => h
  have hbA : ¬ (fun q => s.heap.size ≤ q) b := Nat.not_le.mpr hbl
  have hAn : ∀ a : Nat, a < s.heap.size → ¬ (fun q : Nat => s.heap.size ≤ q) a := fun a h => Nat.not_le.mpr h
  obtain ⟨t0, hz0, ht0⟩ := mg_tab4 (f := mg_sx) (hg (.arrayOf (.static "MoonGate$Garden" "STEP_X" "[I") .int) (by decide +kernel)) (hg (.eq (.length (.static "MoonGate$Garden" "STEP_X" "[I")) (.int 4)) (by decide +kernel)) (hg (.eq (.elem (.static "MoonGate$Garden" "STEP_X" "[I") (.int 0)) (.int (0))) (by decide +kernel)) (hg (.eq (.elem (.static "MoonGate$Garden" "STEP_X" "[I") (.int 1)) (.int (1))) (by decide +kernel)) (hg (.eq (.elem (.static "MoonGate$Garden" "STEP_X" "[I") (.int 2)) (.int (0))) (by decide +kernel)) (hg (.eq (.elem (.static "MoonGate$Garden" "STEP_X" "[I") (.int 3)) (.int (-1))) (by decide +kernel)) (hts0 (.laysStatic "MoonGate$Garden" "STEP_X" "[I") (by decide +kernel)) (hts0 (.initialized "MoonGate$Garden") (by decide +kernel))
  obtain ⟨t1, hz1, ht1⟩ := mg_tab4 (f := mg_sy) (hg (.arrayOf (.static "MoonGate$Garden" "STEP_Y" "[I") .int) (by decide +kernel)) (hg (.eq (.length (.static "MoonGate$Garden" "STEP_Y" "[I")) (.int 4)) (by decide +kernel)) (hg (.eq (.elem (.static "MoonGate$Garden" "STEP_Y" "[I") (.int 0)) (.int (-1))) (by decide +kernel)) (hg (.eq (.elem (.static "MoonGate$Garden" "STEP_Y" "[I") (.int 1)) (.int (0))) (by decide +kernel)) (hg (.eq (.elem (.static "MoonGate$Garden" "STEP_Y" "[I") (.int 2)) (.int (1))) (by decide +kernel)) (hg (.eq (.elem (.static "MoonGate$Garden" "STEP_Y" "[I") (.int 3)) (.int (0))) (by decide +kernel)) (hts0 (.laysStatic "MoonGate$Garden" "STEP_Y" "[I") (by decide +kernel)) (hts0 (.initialized "MoonGate$Garden") (by decide +kernel))
  obtain ⟨t2, hz2, ht2⟩ := mg_tab4 (f := mg_sx) (hg (.arrayOf (.static "MoonGateModel" "ACROSS" "[I") .int) (by decide +kernel)) (hg (.eq (.length (.static "MoonGateModel" "ACROSS" "[I")) (.int 4)) (by decide +kernel)) (hg (.eq (.elem (.static "MoonGateModel" "ACROSS" "[I") (.int 0)) (.int (0))) (by decide +kernel)) (hg (.eq (.elem (.static "MoonGateModel" "ACROSS" "[I") (.int 1)) (.int (1))) (by decide +kernel)) (hg (.eq (.elem (.static "MoonGateModel" "ACROSS" "[I") (.int 2)) (.int (0))) (by decide +kernel)) (hg (.eq (.elem (.static "MoonGateModel" "ACROSS" "[I") (.int 3)) (.int (-1))) (by decide +kernel)) (hts0 (.laysStatic "MoonGateModel" "ACROSS" "[I") (by decide +kernel)) (hts0 (.initialized "MoonGateModel") (by decide +kernel))
  obtain ⟨t3, hz3, ht3⟩ := mg_tab4 (f := mg_sy) (hg (.arrayOf (.static "MoonGateModel" "DOWN" "[I") .int) (by decide +kernel)) (hg (.eq (.length (.static "MoonGateModel" "DOWN" "[I")) (.int 4)) (by decide +kernel)) (hg (.eq (.elem (.static "MoonGateModel" "DOWN" "[I") (.int 0)) (.int (-1))) (by decide +kernel)) (hg (.eq (.elem (.static "MoonGateModel" "DOWN" "[I") (.int 1)) (.int (0))) (by decide +kernel)) (hg (.eq (.elem (.static "MoonGateModel" "DOWN" "[I") (.int 2)) (.int (1))) (by decide +kernel)) (hg (.eq (.elem (.static "MoonGateModel" "DOWN" "[I") (.int 3)) (.int (0))) (by decide +kernel)) (hts0 (.laysStatic "MoonGateModel" "DOWN" "[I") (by decide +kernel)) (hts0 (.initialized "MoonGateModel") (by decide +kernel))
  obtain ⟨a0, hs0⟩ := mg_str (t := "carps are in the cell") (hts0 (.stringRef "MoonGate" 104 "carps are in the cell") (by decide +kernel)) (hg (.exactly (.string "MoonGate" 104) "java/lang/String") (by decide +kernel))
  obtain ⟨a1, hs1⟩ := mg_str (t := "the cell is no pond") (hts0 (.stringRef "MoonGate" 127 "the cell is no pond") (by decide +kernel)) (hg (.exactly (.string "MoonGate" 127) "java/lang/String") (by decide +kernel))
  obtain ⟨a2, hs2⟩ := mg_str (t := "there were 30 carps") (hts0 (.stringRef "MoonGate" 132 "there were 30 carps") (by decide +kernel)) (hg (.exactly (.string "MoonGate" 132) "java/lang/String") (by decide +kernel))
  obtain ⟨a3, hs3⟩ := mg_str (t := "the carp is sold") (hts0 (.stringRef "MoonGate" 149 "the carp is sold") (by decide +kernel)) (hg (.exactly (.string "MoonGate" 149) "java/lang/String") (by decide +kernel))
  obtain ⟨a4, hs4⟩ := mg_str (t := "no such direction") (hts0 (.stringRef "MoonGate" 168 "no such direction") (by decide +kernel)) (hg (.exactly (.string "MoonGate" 168) "java/lang/String") (by decide +kernel))
  obtain ⟨a5, hs5⟩ := mg_str (t := "there are 6 gates") (hts0 (.stringRef "MoonGate" 174 "there are 6 gates") (by decide +kernel)) (hg (.exactly (.string "MoonGate" 174) "java/lang/String") (by decide +kernel))
  obtain ⟨a6, hs6⟩ := mg_str (t := "there are 5 poets") (hts0 (.stringRef "MoonGate" 201 "there are 5 poets") (by decide +kernel)) (hg (.exactly (.string "MoonGate" 201) "java/lang/String") (by decide +kernel))
  obtain ⟨a7, hs7⟩ := mg_str (t := "this is not foreseen") (hts0 (.stringRef "MoonGate" 251 "this is not foreseen") (by decide +kernel)) (hg (.exactly (.string "MoonGate" 251) "java/lang/String") (by decide +kernel))
  obtain ⟨a8, hs8⟩ := mg_str (t := "the cell is bare") (hts0 (.stringRef "MoonGate" 96 "the cell is bare") (by decide +kernel)) (hg (.exactly (.string "MoonGate" 96) "java/lang/String") (by decide +kernel))
  obtain ⟨a9, hs9⟩ := mg_str (t := "no such cell") (hts0 (.stringRef "MoonGate" 340 "no such cell") (by decide +kernel)) (hg (.exactly (.string "MoonGate" 340) "java/lang/String") (by decide +kernel))
  obtain ⟨a10, hs10⟩ := mg_str (t := "no such shape") (hts0 (.stringRef "MoonGate" 342 "no such shape") (by decide +kernel)) (hg (.exactly (.string "MoonGate" 342) "java/lang/String") (by decide +kernel))
  obtain ⟨a11, hs11⟩ := mg_str (t := "no such size") (hts0 (.stringRef "MoonGate" 344 "no such size") (by decide +kernel)) (hg (.exactly (.string "MoonGate" 344) "java/lang/String") (by decide +kernel))
  obtain ⟨a12, hs12⟩ := mg_str (t := "the cell is not bare") (hts0 (.stringRef "MoonGate" 346 "the cell is not bare") (by decide +kernel)) (hg (.exactly (.string "MoonGate" 346) "java/lang/String") (by decide +kernel))
  obtain ⟨a13, hs13⟩ := mg_str (t := "there are not so many coins") (hts0 (.stringRef "MoonGate" 348 "there are not so many coins") (by decide +kernel)) (hg (.exactly (.string "MoonGate" 348) "java/lang/String") (by decide +kernel))
  obtain ⟨a14, hs14⟩ := mg_str (t := "this is not told") (hts0 (.stringRef "MoonGate" 350 "this is not told") (by decide +kernel)) (hg (.exactly (.string "MoonGate" 350) "java/lang/String") (by decide +kernel))
  obtain ⟨a15, hs15⟩ := mg_str (t := "no such carp") (hts0 (.stringRef "MoonGate" 352 "no such carp") (by decide +kernel)) (hg (.exactly (.string "MoonGate" 352) "java/lang/String") (by decide +kernel))
  obtain ⟨a16, hs16⟩ := mg_str (t := "no such gate") (hts0 (.stringRef "MoonGate" 354 "no such gate") (by decide +kernel)) (hg (.exactly (.string "MoonGate" 354) "java/lang/String") (by decide +kernel))
  obtain ⟨a17, hs17⟩ := mg_str (t := "no such poet") (hts0 (.stringRef "MoonGate" 356 "no such poet") (by decide +kernel)) (hg (.exactly (.string "MoonGate" 356) "java/lang/String") (by decide +kernel))
  obtain ⟨a18, hs18⟩ := mg_str (t := "not so many days") (hts0 (.stringRef "MoonGate" 358 "not so many days") (by decide +kernel)) (hg (.exactly (.string "MoonGate" 358) "java/lang/String") (by decide +kernel))
  obtain ⟨o, ho⟩ : ∃ o : Nat → Nat, o = (fun k => [t0, t1, t2, t3, 0, 0, 0, 0, 0, 0, a0, a1, a2, a3, a4, a5, a6, a7, a8, a9, a10, a11, a12, a13, a14, a15, a16, a17, a18].getD k 0) := ⟨_, rfl⟩
  have hO : mg_Old o (fun q => s.heap.size ≤ q) s s.heap := by
    subst ho
    exact ⟨hz0,
      ht0,
      hz1,
      ht1,
      hz2,
      ht2,
      hz3,
      ht3,
      vx_Zqof (hts0 (.laysStatic Bundle.tN "UNASSIGNED_STACK" Bundle.steD) (by decide +kernel)) (hts0 (.initialized Bundle.tN) (by decide +kernel)) (hg (.isRef (.static Bundle.tN "UNASSIGNED_STACK" Bundle.steD)) (by decide +kernel)) hAn,
      vx_Zqof (hts0 (.laysStatic Bundle.tN "SUPPRESSED_SENTINEL" Bundle.listD) (by decide +kernel)) (hts0 (.initialized Bundle.tN) (by decide +kernel)) (hg (.isRef (.static Bundle.tN "SUPPRESSED_SENTINEL" Bundle.listD)) (by decide +kernel)) hAn,
      va_Nw.of rfl (hts0 (.methodLinkNest "MoonGate" 49 yX5_init "MoonGate") (by decide +kernel)),
      va_Nw.of rfl (hts0 (.methodLinkNest "MoonGateModel" 39 yX7_init "MoonGateModel") (by decide +kernel)),
      va_Nw.of rfl (hts0 (.fieldLinkNest "MoonGateModel" 138 "MoonGateModel$Days" "day" "I" "MoonGateModel") (by decide +kernel)),
      va_Nw.of rfl (hts0 (.fieldLinkNest "MoonGateModel" 93 "MoonGateModel$Days" "size" "[I" "MoonGateModel") (by decide +kernel)),
      va_Nw.of rfl (hts0 (.fieldLinkNest "MoonGateModel" 135 "MoonGateModel$Days" "wrote" "[I" "MoonGateModel") (by decide +kernel)),
      va_Nw.of rfl (hts0 (.fieldLinkNest "MoonGateModel" 96 "MoonGateModel$Days" "coins" "I" "MoonGateModel") (by decide +kernel)),
      va_Nw.of rfl (hts0 (.declares (Bundle.initS "java/lang/RuntimeException")) (by decide +kernel)),
      va_Nw.of rfl (hts0 (.declares (Bundle.initS "java/lang/Exception")) (by decide +kernel)),
      va_Nw.of rfl (hts0 (.declares (Bundle.initS Bundle.tN)) (by decide +kernel)),
      va_Nw.of rfl (hts0 (.castable "java/lang/IndexOutOfBoundsException" "java/lang/IndexOutOfBoundsException") (by decide +kernel)),
      va_Nw.of rfl (hts0 (.castable "java/lang/IllegalArgumentException" "java/lang/IllegalArgumentException") (by decide +kernel)),
      va_Nw.of rfl (hts0 (.castable "java/lang/IllegalStateException" "java/lang/IllegalStateException") (by decide +kernel)),
      va_Nc.of (hg (.not (.castable "java/lang/IndexOutOfBoundsException" "java/lang/IllegalArgumentException")) (by decide +kernel)),
      va_Nc.of (hg (.not (.castable "java/lang/IndexOutOfBoundsException" "java/lang/IllegalStateException")) (by decide +kernel)),
      va_Nc.of (hg (.not (.castable "java/lang/IllegalArgumentException" "java/lang/IndexOutOfBoundsException")) (by decide +kernel)),
      va_Nc.of (hg (.not (.castable "java/lang/IllegalArgumentException" "java/lang/IllegalStateException")) (by decide +kernel)),
      va_Nc.of (hg (.not (.castable "java/lang/IllegalStateException" "java/lang/IndexOutOfBoundsException")) (by decide +kernel)),
      va_Nc.of (hg (.not (.castable "java/lang/IllegalStateException" "java/lang/IllegalArgumentException")) (by decide +kernel)),
      hs0,
      hs1,
      hs2,
      hs3,
      hs4,
      hs5,
      hs6,
      hs7,
      hs8,
      hs9,
      hs10,
      hs11,
      hs12,
      hs13,
      hs14,
      hs15,
      hs16,
      hs17,
      hs18⟩
  obtain ⟨c0, i0, hn0⟩ := u_known (C := RX0) (T := TX0) (N := 4) (n := 4) hts0 inX0 (hts0 (.instantiable RX0 4) (by decide +kernel))
  obtain ⟨c1, i1, hn1⟩ := u_known (C := RX1) (T := TX1) (N := 9) (n := 9) hts0 inX1 (hts0 (.instantiable RX1 9) (by decide +kernel))
  obtain ⟨c2, i2, hn2⟩ := u_known (C := RX2) (T := TX2) (N := 3) (n := 3) hts0 inX2 (hts0 (.instantiable RX2 3) (by decide +kernel))
  obtain ⟨c3, i3, hn3⟩ := u_known (C := RX3) (T := TX3) (N := 2) (n := 2) hts0 inX3 (hts0 (.instantiable RX3 2) (by decide +kernel))
  obtain ⟨c4, i4, hn4⟩ := u_known (C := RX4) (T := TX4) (N := 3) (n := 3) hts0 inX4 (hts0 (.instantiable RX4 3) (by decide +kernel))
  obtain ⟨c5, i5, hn5⟩ := u_known (C := RX5) (T := TX5) (N := 5) (n := 5) hts0 inX5 (hts0 (.instantiable RX5 5) (by decide +kernel))
  obtain ⟨c6, i6, hn6⟩ := u_known (C := RX6) (T := TX6) (N := 7) (n := 7) hts0 inX6 (hts0 (.instantiable RX6 7) (by decide +kernel))
  obtain ⟨c7, i7, hn7⟩ := u_known (C := RX7) (T := TX7) (N := 4) (n := 4) hts0 inX7 (hts0 (.instantiable RX7 4) (by decide +kernel))
  obtain ⟨c8, i8, hn8⟩ := u_known (C := RX8) (T := TX8) (N := 15) (n := 15) hts0 inX8 (hts0 (.instantiable RX8 15) (by decide +kernel))
  obtain ⟨dC, dI, hKc⟩ : ∃ (dC : Nat → ClassId) (dI : Nat → Nat → Nat), ∀ (k : Nat) (q : vw_C), vwCl[k]? = some q → u_Kn s q.1 q.2.1 q.2.2 (dC k) (dI k) := by
    refine ⟨fun k => if k = 0 then c0 else if k = 1 then c1 else if k = 2 then c2 else if k = 3 then c3 else if k = 4 then c4 else if k = 5 then c5 else if k = 6 then c6 else if k = 7 then c7 else c8, fun k => if k = 0 then i0 else if k = 1 then i1 else if k = 2 then i2 else if k = 3 then i3 else if k = 4 then i4 else if k = 5 then i5 else if k = 6 then i6 else if k = 7 then i7 else i8, ?_⟩
    intro k q hq
    match k, hq with
    | 0, hq => cases hq; exact hn0
    | 1, hq => cases hq; exact hn1
    | 2, hq => cases hq; exact hn2
    | 3, hq => cases hq; exact hn3
    | 4, hq => cases hq; exact hn4
    | 5, hq => cases hq; exact hn5
    | 6, hq => cases hq; exact hn6
    | 7, hq => cases hq; exact hn7
    | 8, hq => cases hq; exact hn8
    | k + 9, hq => simp [vwCl] at hq
  obtain ⟨cI, hacI⟩ := mg_arr (ty := .int) (by simp) (hts0 (.arrayClass .int) (by decide +kernel))
  obtain ⟨cZ, hacZ⟩ := mg_arr (ty := .boolean) (by simp) (hts0 (.arrayClass .boolean) (by decide +kernel))
  obtain ⟨cL, hacL⟩ := mg_arr (ty := .long) (by simp) (hts0 (.arrayClass .long) (by decide +kernel))
  have hK : va_K (dC, dI) vwCl [(cI, .int), (cZ, .boolean), (cL, .long)] s := by
    refine ⟨hKc, fun k q hq => ?_⟩
    match k, hq with
    | 0, hq => cases hq; exact hacI
    | 1, hq => cases hq; exact hacZ
    | 2, hq => cases hq; exact hacL
    | k + 3, hq => simp at hq
  have hw : mg_Wo (dC, dI) (fun q => s.heap.size ≤ q) s.heap s.heap [] [] := ⟨fun k q h => by simp at h, ⟨fun i j p q h => by simp at h, fun k q h => by simp at h⟩, va_S.rf⟩
  have G9 : CallFix p m c cL_law 9 s #[Value.ref b] wsL_law RL := ⟨hx, hb, hml, hown, hts⟩
  have hl := lv_entry ([.ref b]) (n := 9) (Nat.le_of_ble_eq_true rfl)
  rw [lg_entry_eq]
  generalize (lg_sl ([.ref b]) ++ List.replicate (9 - (lg_sl ([.ref b])).length) Slot.unset).toArray = ls at hl ⊢
  have hl : lv_has ls 9 [(0, .ref b)] := hl
  refine va_new (ci := 6) (fs := [.null, .null, .null, .null, .null, .null, .null]) (C := RX6) (T := TX6) (N := 7) hx hb hts0 inX6 tyX6 tyX6_ok hown (hts0 (.classLink RL 8 RX6) (by decide +kernel)) (hts0 (.instantiable RX6 7) (by decide +kernel)) (hts0 (.initialized RX6) (by decide +kernel)) hK hw.1 hw.2.1 hw.2.2 hA rfl (fun j hj => by rcases (show j = 0 ∨ j = 1 ∨ j = 2 ∨ j = 3 ∨ j = 4 ∨ j = 5 ∨ j = 6 by omega) with rfl | rfl | rfl | rfl | rfl | rfl | rfl <;> rfl) (Nat.le_of_ble_eq_true rfl) (Nat.le_of_ble_eq_true rfl) dL_law_0 (fun q0 H hP hD hS => ?_)
  have hw : mg_Wo (dC, dI) (fun q => s.heap.size ≤ q) s.heap H [] ([] ++ ([(q0, .inr (6, [.null, .null, .null, .null, .null, .null, .null]))] ++ [])) := ⟨hP, hD, hS⟩
  refine lv_dup hx hb dL_law_3 rfl ?_
  refine mg_kFE (wl := []) (w0 := [(q0, .inr (6, [.null, .null, .null, .null, .null, .null, .null]))]) (va_runI (As := []) (rest := [.ref q0]) G9 (k_X6_init l (dC, dI) o cI cZ q0 H.size) (cwI 0 hts gL_law_X6_init rfl rfl rfl (hts0 (.initialized RX6) (by decide +kernel)) (hts0 (.methodLink RL 70 yX6_init) (by decide +kernel)) (hts0 (.instanceMethod yX6_init) (by decide +kernel)) rfl (by decide +kernel) ⟨Nat.le_of_ble_eq_true rfl, Nat.le_of_ble_eq_true rfl⟩) (mg_pre (hK.sub (tys' := [(cI, .int), (cZ, .boolean)]) [0, 1] rfl) hO hA (mg_sub (wl := []) (w0 := [(q0, .inr (6, [.null, .null, .null, .null, .null, .null, .null]))]) (wr := []) hw)) rfl rfl hl.1 rfl (lv_room (Nat.le_of_ble_eq_true rfl)) dL_law_4 ⟨Nat.le_of_ble_eq_true rfl, Nat.le_of_ble_eq_true rfl⟩) hw hA (fun gg H locs hw => ?_)
  obtain ⟨g, hgg⟩ : ∃ g : Nat → Nat, g = (fun k => if k = 0 then q0 else gg k) := ⟨_, rfl⟩
  have e0 : g 0 = q0 := by rw [hgg]; rfl
  have hw : mg_Wo (dC, dI) (fun q => s.heap.size ≤ q) s.heap H locs (mg_cW g cI cZ mg_c0) := by rw [hgg]; exact mg_drop hw
  rw [← e0]
  refine lv_astore_n (lv' := [(1, .ref (g 0)), (0, .ref b)]) hx hb dL_law_7 rfl hl (by decide) rfl (fun ls hl => ?_)
  refine va_new (ci := 8) (fs := [.int 0, .null, .null, .null, .null, .int 0, .null, .null, .int 0, .null, .null, .int 0, .null, .null, .null]) (C := RX8) (T := TX8) (N := 15) hx hb hts0 inX8 tyX8 tyX8_ok hown (hts0 (.classLink RL 71 RX8) (by decide +kernel)) (hts0 (.instantiable RX8 15) (by decide +kernel)) (hts0 (.initialized RX8) (by decide +kernel)) hK hw.1 hw.2.1 hw.2.2 hA rfl (fun j hj => by rcases (show j = 0 ∨ j = 1 ∨ j = 2 ∨ j = 3 ∨ j = 4 ∨ j = 5 ∨ j = 6 ∨ j = 7 ∨ j = 8 ∨ j = 9 ∨ j = 10 ∨ j = 11 ∨ j = 12 ∨ j = 13 ∨ j = 14 by omega) with rfl | rfl | rfl | rfl | rfl | rfl | rfl | rfl | rfl | rfl | rfl | rfl | rfl | rfl | rfl <;> rfl) (Nat.le_of_ble_eq_true rfl) (Nat.le_of_ble_eq_true rfl) dL_law_8 (fun q1 H hP hD hS => ?_)
  have hw : mg_Wo (dC, dI) (fun q => s.heap.size ≤ q) s.heap H locs (mg_cW g cI cZ mg_c0 ++ ([(q1, .inr (8, [.int 0, .null, .null, .null, .null, .int 0, .null, .null, .int 0, .null, .null, .int 0, .null, .null, .null]))] ++ [])) := ⟨hP, hD, hS⟩
  refine lv_dup hx hb dL_law_11 rfl ?_
  refine mg_kFE (wl := mg_cW g cI cZ mg_c0) (w0 := [(q1, .inr (8, [.int 0, .null, .null, .null, .null, .int 0, .null, .null, .int 0, .null, .null, .int 0, .null, .null, .null]))]) (va_runI (As := []) (rest := [.ref q1]) G9 (k_X8_init l (dC, dI) o cI cZ q1 H.size) (cwI 0 hts gL_law_X8_init rfl rfl rfl (hts0 (.initialized RX8) (by decide +kernel)) (hts0 (.methodLink RL 73 yX8_init) (by decide +kernel)) (hts0 (.instanceMethod yX8_init) (by decide +kernel)) rfl (by decide +kernel) ⟨Nat.le_of_ble_eq_true rfl, Nat.le_of_ble_eq_true rfl⟩) (mg_pre (hK.sub (tys' := [(cI, .int), (cZ, .boolean)]) [0, 1] rfl) hO hA (mg_sub (wl := mg_cW g cI cZ mg_c0) (w0 := [(q1, .inr (8, [.int 0, .null, .null, .null, .null, .int 0, .null, .null, .int 0, .null, .null, .int 0, .null, .null, .null]))]) (wr := []) hw)) rfl rfl hl.1 rfl (lv_room (Nat.le_of_ble_eq_true rfl)) dL_law_12 ⟨Nat.le_of_ble_eq_true rfl, Nat.le_of_ble_eq_true rfl⟩) hw hA (fun hh H locs hw => ?_)
  obtain ⟨h, hhh⟩ : ∃ h : Nat → Nat, h = (fun k => if k = 0 then q1 else hh k) := ⟨_, rfl⟩
  have e1 : h 0 = q1 := by rw [hhh]; rfl
  have hw : mg_Wo (dC, dI) (fun q => s.heap.size ≤ q) s.heap H locs (mg_cW g cI cZ mg_c0 ++ mg_mW h cI cZ mg_m0) := by rw [hhh]; rw [List.append_nil] at hw; exact hw
  rw [← e1]
  refine lv_astore_n (lv' := [(2, .ref (h 0)), (1, .ref (g 0)), (0, .ref b)]) hx hb dL_law_15 rfl hl (by decide) rfl (fun ls hl => ?_)
  refine lv_iconst (v := 1) hx hb dL_law_16 (by decide) ?_
  refine va_newa (atype := .long) (ty := .long) hx hb (hts0 (.arrayClass .long) (by decide +kernel)) rfl hK hw.1 hw.2.1 hw.2.2 hA (n := 1) (N' := 1) (a0 := (1, .inr (.inl (fun _ => 0)))) (fun _ => rfl) (by decide) rfl (by decide) (Nat.le_of_ble_eq_true rfl) (Nat.le_of_ble_eq_true rfl) dL_law_17 (fun q cA H hK1 hP hD hS => ?_)
  have e2 : s.vm.findClass ("[" ++ FieldType.long.toString) = some cL := (hK.2 2 _ rfl).2
  have e3 : s.vm.findClass ("[" ++ FieldType.long.toString) = some cA := (hK1.2 3 _ rfl).2
  cases Option.some.inj (e2.symm.trans e3)
  have hw : mg_Wo (dC, dI) (fun q => s.heap.size ≤ q) s.heap H locs (mg_cW g cI cZ mg_c0 ++ (mg_mW h cI cZ mg_m0 ++ mg_oc q cL (fun _ => 0))) := by rw [← List.append_assoc]; exact ⟨hP, hD, hS⟩
  have hw := mg_rot hw
  refine lv_astore_n (lv' := [(3, .ref q), (2, .ref (h 0)), (1, .ref (g 0)), (0, .ref b)]) hx hb dL_law_19 rfl hl (by decide) rfl (fun ls hl => ?_)
  refine lv_iconst (v := 0) hx hb dL_law_20 (by decide) ?_
  refine lv_istore (lv' := [(4, .int 0), (3, .ref q), (2, .ref (h 0)), (1, .ref (g 0)), (0, .ref b)]) hx hb dL_law_21 hl (by decide) rfl (fun ls hl => ?_)
  refine W.base ?_
  exact law_loop (h := h) (g := g) hL hst hx hb hr hlocks hml hown hts hX hbl hK hO (L + 1) 0 s.drawn mg_c0 mg_m0 _ 0 _ _ H locs ls (Drawn.sameBut.refl s.drawn lw_cs) (Nat.zero_le _) (by omega) nI_0.symm mg_inv0 (by omega) (by omega) hw (lv_sub hl [4, 3, 2, 1, 0] rfl)
set_option maxHeartbeats 4000000 in
theorem lw_walk (l : Launch) (hflags : l.flags = flags0) (b : Addr) (xs : List Int32) : MetFree l x (headSpec (Jvm.Cond.code x code maxLocals ret :: tables_1) room_1) (lw_P b xs) (fun _ _ _ _ _ => True) lw_Q := by
  refine MetFree.of_bodyS (code := code) (maxLocals := maxLocals) (ret := ret) (by decide) ?_ ?_
  · intro args s m h hn
    obtain ⟨meth, c, h1, h2, h3, h4, h5, h6, -, -⟩ := Cond.code_spec hn (atoms_spec (ws := Jvm.Cond.code x code maxLocals ret :: tables_1) h _ List.mem_cons_self)
    exact ⟨meth, c, h1, h2, h3, h4, h5, h6⟩
  · intro p e s m args below meth c s₁ B hml0 hP _
    obtain ⟨rfl, hx, hbd, hgv⟩ := hP
    obtain ⟨scr, harrAt, hlist, hof, hsmall⟩ := hx
    obtain ⟨hcb, hkn, -, -⟩ := State.arrayAt?_spec harrAt
    have hown : s.vm.findClass R_law = some m.cls := findClass_of_methodNamed B.named
    have hts0 : ∀ c ∈ (Jvm.Cond.code x code maxLocals ret :: tables_1), c.before #[Value.ref b] s = true := atoms_spec (ws := Jvm.Cond.code x code maxLocals ret :: tables_1) B.pre
    have hts : ∀ w ∈ lw_tbl, w.before #[Value.ref b] s = true := k2_hts_sels lw_privs (fun w hw => hts0 w (List.mem_cons_of_mem _ hw)) lw_privs_ok
    have hml : c.maxLocals = 9 := B.maxLocals_eq (hts0 _ List.mem_cons_self)
    have X₀ : Stand p l e room_1 s m #[Value.ref b] below meth c s₁ [] 0 0 := Stand.of_body B
    have hh0 : s₁.heap = s.heap := by rw [B.state]; rfl
    have hsz : scr.slots.size = xs.length := by rw [← Array.length_toList, hlist, List.length_map]
    have hval : ∀ j : Nat, j < xs.length → scr.slots[j]? = some (.int (xs.getD j 0)) := fun j hj => by
      rw [← Array.getElem?_toList, hlist]
      simp [hj]
    have hbl : b < s.heap.size := (Array.getElem?_eq_some_iff.mp hcb).1
    have hX : va_X b xs.length (fun j => xs.getD j 0) s s.heap := ⟨scr, hcb, hof, hkn, hsz, hval⟩
    have K : W p l e room_1 s m #[Value.ref b] below meth c s₁.heap [] 0 0 (lw_Z below #[Value.ref b] s) (entryFrame m ([Value.ref b] : List Value).toArray 9) := by
      rw [hh0]
      exact whole_start l hflags hbd ⟨B.exec, B.bytes, B.returns, hml, hown, hts, hX, hbl, B.notSynchronized, hgv⟩
    obtain ⟨t, a1, o, b1, b2, b3⟩ := K s₁ rfl X₀
    exact ⟨t, o, a1, b1, b2, b3⟩
theorem lw_pre_spec {args : Array Value} {s : State} (h : (Jvm.Cond.and given_1 narrow_1).before args s = true) (hr : rest_1_c.before args s = true) : ∃ (b : Addr) (xs : List Int32), lw_P b xs args s := by
  have hs := flat_of_before _ h
  have hq := flat_of_before _ hr
  have hc : (Cond.count 1).before args s = true := hs _ (by decide +kernel)
  have harr : (Cond.arrayOf (.arg 0) .int).before args s = true := hs _ (by decide +kernel)
  have hle : (Cond.le (.length (.arg 0)) (.int 2560)).before args s = true := hs _ (by decide +kernel)
  have hlen : (Cond.isInt (.length (.arg 0))).before args s = true := hq _ (by decide +kernel)
  have hall : (Cond.all (.arg 0) (.isInt (.elem (.arg 0) (.index 0)))).before args s = true := hq _ (by decide +kernel)
  obtain ⟨b, xs, hb, hx⟩ := State.ints_of_pre rfl harr hlen hall
  have hsm : xs.length < 2 ^ 31 := hx.choose_spec.2.2.2
  have hev : (Term.length (.arg 0)).eval args s none [] s = some (.int xs.length.toInt32) := hx.length_eval hb
  have hv := Cond.le_ints hev (show (Term.int 2560).eval args s none [] s = some (.int 2560) from rfl)
  have hd : xs.length.toInt32 ≤ 2560 := by
    simpa [Cond.before, Cond.holds, hv] using hle
  have hN : xs.length ≤ 2560 := (Int32.ofNat_le_ofNat hsm (by decide)).mp (show Int32.ofNat xs.length ≤ Int32.ofNat 2560 from hd)
  exact ⟨b, xs, Cond.one_arg hc (show args[0]? = some (.ref b) from hb), hx, hN, h⟩
theorem lw_comes (l : Launch) (hflags : l.flags = flags0) : Comes l x (Jvm.Cond.code x code maxLocals ret :: tables_1) room_1 (fun tb e args s => Calls_1 tb e args s ∧ rest_1 tb e args s ∧ Pre_1 tb e args s)
    (fun _ _ args s o t => lw_Q args s o t) := by
  intro p e ha hc hk s m args below hf hfit hheap happ hpre
  obtain ⟨b, xs, hP⟩ := lw_pre_spec hpre.2.2 hpre.2.1
  obtain ⟨k, o, h1, h2, h3, hQ⟩ := lw_walk l hflags b xs p e ha hc hk s m args below hf ((Spec.applies_iff_loose hf).mp happ).1 hP trivial
  exact ⟨k, o, h1, h2, h3, hQ⟩
theorem lw_frame {s t : State} {o : Outcome} {args : Array Value} (h : State.butDraws s t lw_cs (fun t1 => Framed s o t1 [] room_1.cells room_1.slots)) :
    State.butDraws s t [Jvm.Choice.named "NaN.bits"] (fun t1 => Framed s o t1 (fieldLocs frame_1_writes args s ++ arrayLocs frame_1_arrays args s ++ staticLocs frame_1_statics s) room_1.cells room_1.slots) := h
theorem lw_limb (L : Cond) (hL : ∀ (args : Array Value) (s t : State), L.after args s (.returned (some (.int 1))) t = true) :
    ArmFor flags0 classFile x code maxLocals ret World_1 tables_1 room_1 Calls_1 rest_1 Pre_1
      (fun tb e a s o t => postC L tb e a s o t ∧ State.butDraws s t [Jvm.Choice.named "NaN.bits"] (fun t1 => Framed s o t1 (fieldLocs frame_1_writes a s ++ arrayLocs frame_1_arrays a s ++ staticLocs frame_1_statics s) room_1.cells room_1.slots)) := by
  intro l hflags _ _ p e ha hc hk s m args below hf hfit hheap happ hpre
  obtain ⟨k, o, h1, h2, h3, rfl, hF⟩ := lw_comes l hflags p e ha hc hk s m args below hf hfit hheap happ hpre
  exact ⟨k, _, h1, h2, h3, hL args s _, lw_frame hF⟩
theorem i_vc : Claimed_1_1 ∧ Claimed_1_2 := ⟨lw_limb limb_1_1 (fun args s t => by simp [limb_1_1, Cond.after, Cond.holds, Cond.value]), lw_limb limb_1_2 (fun args s t => Cond.after_iff.mpr (by
  first | (rw [show limb_1_2 = Cond.eq .result (.int 1) from rfl, Cond.eq_ints (x := 1) (y := 1) rfl rfl]; simp; done) | (simp [limb_1_2, Cond.value, Term.eval]; done)))⟩
