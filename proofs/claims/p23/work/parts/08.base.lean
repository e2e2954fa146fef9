/-! ===== the words of the state; the two worlds; contracts; rows drawn from the kit's ===== -/
abbrev mg_St : Type := Nat → Nat → Int32
def mg_su (σ : mg_St) (k i : Nat) (v : Int32) : mg_St := fun a => if a = k then upd (σ a) i v else σ a
def mg_rd (σ : mg_St) (k n : Nat) (i : Int32) : Option Int32 := if i < 0 ∨ n ≤ i.toNatClampNeg then none else some (σ k i.toNatClampNeg)
def mg_wr (σ : mg_St) (k n : Nat) (i v : Int32) : Option mg_St := if i < 0 ∨ n ≤ i.toNatClampNeg then none else some (mg_su σ k i.toNatClampNeg v)
def mg_rt (f : Nat → Int32) (n : Nat) (i : Int32) : Option Int32 := if i < 0 ∨ n ≤ i.toNatClampNeg then none else some (f i.toNatClampNeg)
def mg_sx (j : Nat) : Int32 := if j = 1 then 1 else if j = 3 then -1 else 0
def mg_sy (j : Nat) : Int32 := if j = 0 then -1 else if j = 2 then 1 else 0
/-- the exceptions by number -/
def mg_xn : Fin 3 → String := fun k => match k with
  | 0 => "java/lang/IndexOutOfBoundsException"
  | 1 => "java/lang/IllegalArgumentException"
  | 2 => "java/lang/IllegalStateException"
/-- a callee that may throw -/
def mg_xb {V W : Type} (m : Option (Except (Fin 3) V × mg_St)) (K : V → mg_St → Option (Except (Fin 3) W × mg_St)) : Option (Except (Fin 3) W × mg_St) := match m with
  | none => none
  | some (.error k, σ) => some (.error k, σ)
  | some (.ok v, σ) => K v σ
/-- a callee that may throw, called where nothing may be thrown -/
def mg_xq {V W : Type} (m : Option (Except (Fin 3) V × mg_St)) (K : V → mg_St → Option W) : Option W := match m with
  | some (.ok v, σ) => K v σ
  | _ => none
/-- the class's cells -/
def mg_cW (g : Nat → Nat) (cI cZ : ClassId) (σ : mg_St) : va_W := [
  (g 0, .inr (6, [.ref (g 1), .ref (g 2), .ref (g 3), .ref (g 4), .ref (g 5), .ref (g 6), .ref (g 7)])),
  (g 1, .inr (1, [.ref (g 8), .ref (g 9), .ref (g 10), .ref (g 11), .ref (g 12), .ref (g 13), .ref (g 14), .ref (g 15), .int (σ 1 8)])),
  (g 2, .inr (4, [.ref (g 16), .ref (g 17), .int (σ 2 2)])),
  (g 3, .inr (2, [.ref (g 18), .ref (g 19), .int (σ 3 2)])),
  (g 4, .inr (3, [.ref (g 20), .int (σ 4 1)])),
  (g 5, .inr (0, [.int (σ 5 0), .int (σ 5 1), .ref (g 21), .ref (g 22)])),
  (g 6, .inr (0, [.int (σ 6 0), .int (σ 6 1), .ref (g 23), .ref (g 24)])),
  (g 7, .inr (5, [.int (σ 7 0), .int (σ 7 1), .int (σ 7 2), .int (σ 7 3), .int (σ 7 4)])),
  (g 8, .inl (cI, 70, .inl (σ 8))), (g 9, .inl (cI, 70, .inl (σ 9))), (g 10, .inl (cI, 70, .inl (σ 10))), (g 11, .inl (cI, 70, .inl (σ 11))),
  (g 12, .inl (cI, 70, .inl (σ 12))), (g 13, .inl (cI, 70, .inl (σ 13))), (g 14, .inl (cI, 70, .inl (σ 14))), (g 15, .inl (cI, 70, .inl (σ 15))),
  (g 16, .inl (cI, 30, .inl (σ 16))), (g 17, .inl (cZ, 30, .inl (σ 17))),
  (g 18, .inl (cI, 6, .inl (σ 18))), (g 19, .inl (cI, 6, .inl (σ 19))), (g 20, .inl (cI, 5, .inl (σ 20))),
  (g 21, .inl (cI, 30, .inl (σ 21))), (g 22, .inl (cI, 5, .inl (σ 22))), (g 23, .inl (cI, 30, .inl (σ 23))), (g 24, .inl (cI, 5, .inl (σ 24)))]
/-- what the tables say of the classes of arrays of arrays: by number, [[I at o 50, [[[I at o 51, [[Z at o 52, [I at o 53, [Z at o 54 -/
def mg_ArK (U : State) (c comp : ClassId) (ty : FieldType) : Prop := (∃ k : Class, U.vm.classes[c]? = some k ∧ k.kind = .array comp ty) ∧ U.vm.findClass ("[" ++ ty.toString) = some c
def mg_Ar (o : Nat → Nat) (U : State) : Prop := mg_ArK U (o 50) (o 53) (.array .int) ∧ mg_ArK U (o 51) (o 50) (.array (.array .int)) ∧ mg_ArK U (o 52) (o 54) (.array .boolean) ∧ (∃ c2, mg_ArK U (o 53) c2 .int) ∧ (∃ c2, mg_ArK U (o 54) c2 .boolean) ∧ (Cond.arrayOver (.array .int)).before #[] U = true
theorem mg_ArK.moved {u U : State} (hvm : u.vm.Alike U.vm) {c comp : ClassId} {ty : FieldType} (h : mg_ArK u c comp ty) : mg_ArK U c comp ty := by
  obtain ⟨⟨k, h1, h2⟩, h3⟩ := h
  obtain ⟨k', hk', he⟩ := hvm.2.2 _ _ h1
  exact ⟨⟨k', hk', by rw [he]; exact h2⟩, by rw [hvm.findClass]; exact h3⟩
theorem mg_aov {u U : State} (hvm : u.vm.Alike U.vm) {t : FieldType} (h : (Cond.arrayOver (.array t)).before #[] u = true) : (Cond.arrayOver (.array t)).before #[] U = true := by
  obtain ⟨comp, c, k, h1, h2, h3, h4, h5⟩ := arrayOverA_spec h
  obtain ⟨k', hk', he⟩ := hvm.2.2 _ _ h3
  have hi : (U.vm.classes.findIdx? fun (x : Class) => match x.kind with | .array component _ => component == comp | _ => false) = some c := by
    have hb : U.vm.bare = u.vm.bare := by first | exact hvm.bare_eq | exact hvm.bare_eq.symm
    have e1 := va_idx_bare U.vm comp
    rw [hb] at e1
    exact e1.symm.trans ((va_idx_bare u.vm comp).trans h2)
  have hkind : k'.kind = .array comp (.array t) := by rw [he]; exact h4
  have f1 : U.vm.findClass (FieldType.array t).toString = some comp := by rw [hvm.findClass]; exact h1
  have f2 : U.vm.findClass ("[" ++ (FieldType.array t).toString) = some c := by rw [hvm.findClass]; exact h5
  unfold Cond.before Cond.holds
  simp only [Cond.value]
  rw [f1, Option.bind_some]
  refine (congrArg (fun o : Option Nat => (o.bind (fun c => (U.vm.classes[c]?).map fun (k : Class) => match k.kind with | .array _ ty => decide (ty = FieldType.array t) && decide (U.vm.findClass ("[" ++ (FieldType.array t).toString) = some c) | _ => false) == some true)) hi).trans ?_
  simp [hk', hkind, f2]
theorem mg_Ar.moved {o : Nat → Nat} {u U : State} (hvm : u.vm.Alike U.vm) (h : mg_Ar o u) : mg_Ar o U := by
  obtain ⟨h1, h2, h3, ⟨c4, h4⟩, ⟨c5, h5⟩, h6⟩ := h
  exact ⟨h1.moved hvm, h2.moved hvm, h3.moved hvm, ⟨c4, h4.moved hvm⟩, ⟨c5, h5.moved hvm⟩, mg_aov hvm h6⟩
theorem mg_cS_8 (g : Nat → Nat) (cI cZ : ClassId) (σ : mg_St) (j : Nat) (x : Int32) : (mg_cW g cI cZ σ).set 8 (g 8, .inl (cI, 70, .inl (upd (σ 8) j x))) = mg_cW g cI cZ (mg_su σ 8 j x) := rfl
theorem mg_cS_9 (g : Nat → Nat) (cI cZ : ClassId) (σ : mg_St) (j : Nat) (x : Int32) : (mg_cW g cI cZ σ).set 9 (g 9, .inl (cI, 70, .inl (upd (σ 9) j x))) = mg_cW g cI cZ (mg_su σ 9 j x) := rfl
theorem mg_cS_10 (g : Nat → Nat) (cI cZ : ClassId) (σ : mg_St) (j : Nat) (x : Int32) : (mg_cW g cI cZ σ).set 10 (g 10, .inl (cI, 70, .inl (upd (σ 10) j x))) = mg_cW g cI cZ (mg_su σ 10 j x) := rfl
theorem mg_cS_11 (g : Nat → Nat) (cI cZ : ClassId) (σ : mg_St) (j : Nat) (x : Int32) : (mg_cW g cI cZ σ).set 11 (g 11, .inl (cI, 70, .inl (upd (σ 11) j x))) = mg_cW g cI cZ (mg_su σ 11 j x) := rfl
theorem mg_cS_12 (g : Nat → Nat) (cI cZ : ClassId) (σ : mg_St) (j : Nat) (x : Int32) : (mg_cW g cI cZ σ).set 12 (g 12, .inl (cI, 70, .inl (upd (σ 12) j x))) = mg_cW g cI cZ (mg_su σ 12 j x) := rfl
theorem mg_cS_13 (g : Nat → Nat) (cI cZ : ClassId) (σ : mg_St) (j : Nat) (x : Int32) : (mg_cW g cI cZ σ).set 13 (g 13, .inl (cI, 70, .inl (upd (σ 13) j x))) = mg_cW g cI cZ (mg_su σ 13 j x) := rfl
theorem mg_cS_14 (g : Nat → Nat) (cI cZ : ClassId) (σ : mg_St) (j : Nat) (x : Int32) : (mg_cW g cI cZ σ).set 14 (g 14, .inl (cI, 70, .inl (upd (σ 14) j x))) = mg_cW g cI cZ (mg_su σ 14 j x) := rfl
theorem mg_cS_15 (g : Nat → Nat) (cI cZ : ClassId) (σ : mg_St) (j : Nat) (x : Int32) : (mg_cW g cI cZ σ).set 15 (g 15, .inl (cI, 70, .inl (upd (σ 15) j x))) = mg_cW g cI cZ (mg_su σ 15 j x) := rfl
theorem mg_cS_16 (g : Nat → Nat) (cI cZ : ClassId) (σ : mg_St) (j : Nat) (x : Int32) : (mg_cW g cI cZ σ).set 16 (g 16, .inl (cI, 30, .inl (upd (σ 16) j x))) = mg_cW g cI cZ (mg_su σ 16 j x) := rfl
theorem mg_cS_17 (g : Nat → Nat) (cI cZ : ClassId) (σ : mg_St) (j : Nat) (x : Int32) : (mg_cW g cI cZ σ).set 17 (g 17, .inl (cZ, 30, .inl (upd (σ 17) j x))) = mg_cW g cI cZ (mg_su σ 17 j x) := rfl
theorem mg_cS_18 (g : Nat → Nat) (cI cZ : ClassId) (σ : mg_St) (j : Nat) (x : Int32) : (mg_cW g cI cZ σ).set 18 (g 18, .inl (cI, 6, .inl (upd (σ 18) j x))) = mg_cW g cI cZ (mg_su σ 18 j x) := rfl
theorem mg_cS_19 (g : Nat → Nat) (cI cZ : ClassId) (σ : mg_St) (j : Nat) (x : Int32) : (mg_cW g cI cZ σ).set 19 (g 19, .inl (cI, 6, .inl (upd (σ 19) j x))) = mg_cW g cI cZ (mg_su σ 19 j x) := rfl
theorem mg_cS_20 (g : Nat → Nat) (cI cZ : ClassId) (σ : mg_St) (j : Nat) (x : Int32) : (mg_cW g cI cZ σ).set 20 (g 20, .inl (cI, 5, .inl (upd (σ 20) j x))) = mg_cW g cI cZ (mg_su σ 20 j x) := rfl
theorem mg_cS_21 (g : Nat → Nat) (cI cZ : ClassId) (σ : mg_St) (j : Nat) (x : Int32) : (mg_cW g cI cZ σ).set 21 (g 21, .inl (cI, 30, .inl (upd (σ 21) j x))) = mg_cW g cI cZ (mg_su σ 21 j x) := rfl
theorem mg_cS_22 (g : Nat → Nat) (cI cZ : ClassId) (σ : mg_St) (j : Nat) (x : Int32) : (mg_cW g cI cZ σ).set 22 (g 22, .inl (cI, 5, .inl (upd (σ 22) j x))) = mg_cW g cI cZ (mg_su σ 22 j x) := rfl
theorem mg_cS_23 (g : Nat → Nat) (cI cZ : ClassId) (σ : mg_St) (j : Nat) (x : Int32) : (mg_cW g cI cZ σ).set 23 (g 23, .inl (cI, 30, .inl (upd (σ 23) j x))) = mg_cW g cI cZ (mg_su σ 23 j x) := rfl
theorem mg_cS_24 (g : Nat → Nat) (cI cZ : ClassId) (σ : mg_St) (j : Nat) (x : Int32) : (mg_cW g cI cZ σ).set 24 (g 24, .inl (cI, 5, .inl (upd (σ 24) j x))) = mg_cW g cI cZ (mg_su σ 24 j x) := rfl
/-- what stood before the call and nobody writes: tables, statics of Throwable, links of nest mates, casts, texts -/
def mg_Old (o : Nat → Nat) (A : Nat → Prop) (U : State) (H : Heap) : Prop :=
  va_Z "MoonGate$Garden" "STEP_X" "[I" (.ref (o 0)) A U H ∧
  va_T .int (o 0) 4 (fun j => .int (mg_sx j)) A U H ∧
  va_Z "MoonGate$Garden" "STEP_Y" "[I" (.ref (o 1)) A U H ∧
  va_T .int (o 1) 4 (fun j => .int (mg_sy j)) A U H ∧
  vx_Zq Bundle.tN "UNASSIGNED_STACK" Bundle.steD A U H ∧
  vx_Zq Bundle.tN "SUPPRESSED_SENTINEL" Bundle.listD A U H ∧
  va_Nw (.methodLinkNest "MoonGate" 49 yX5_init "MoonGate") U ∧
  va_Nw (.methodLinkNest "MoonGateLaw" 81 yX7_init "MoonGateLaw") U ∧
  va_Nw (.declares (Bundle.initS "java/lang/RuntimeException")) U ∧
  va_Nw (.declares (Bundle.initS "java/lang/Exception")) U ∧
  va_Nw (.declares (Bundle.initS Bundle.tN)) U ∧
  va_Nw (.castable "java/lang/IndexOutOfBoundsException" "java/lang/IndexOutOfBoundsException") U ∧
  va_Nw (.castable "java/lang/IllegalArgumentException" "java/lang/IllegalArgumentException") U ∧
  va_Nw (.castable "java/lang/IllegalStateException" "java/lang/IllegalStateException") U ∧
  True ∧
  va_Nc "java/lang/IndexOutOfBoundsException" "java/lang/IllegalStateException" U ∧
  True ∧
  va_Nc "java/lang/IllegalArgumentException" "java/lang/IllegalStateException" U ∧
  True ∧
  True ∧
  mg_Ar o U ∧
  vk_R "MoonGate" 104 "carps are in the cell" (o 10) U ∧
  vk_R "MoonGate" 127 "the cell is no pond" (o 11) U ∧
  vk_R "MoonGate" 132 "there were 30 carps" (o 12) U ∧
  vk_R "MoonGate" 149 "the carp is sold" (o 13) U ∧
  vk_R "MoonGate" 168 "no such direction" (o 14) U ∧
  vk_R "MoonGate" 174 "there are 6 gates" (o 15) U ∧
  vk_R "MoonGate" 201 "there are 5 poets" (o 16) U ∧
  vk_R "MoonGate" 251 "this is not foreseen" (o 17) U ∧
  vk_R "MoonGate" 96 "the cell is bare" (o 18) U ∧
  vk_R "MoonGate" 340 "no such cell" (o 19) U ∧
  vk_R "MoonGate" 342 "no such shape" (o 20) U ∧
  vk_R "MoonGate" 344 "no such size" (o 21) U ∧
  vk_R "MoonGate" 346 "the cell is not bare" (o 22) U ∧
  vk_R "MoonGate" 348 "there are not so many coins" (o 23) U ∧
  vk_R "MoonGate" 350 "this is not told" (o 24) U ∧
  vk_R "MoonGate" 352 "no such carp" (o 25) U ∧
  vk_R "MoonGate" 354 "no such gate" (o 26) U ∧
  vk_R "MoonGate" 356 "no such poet" (o 27) U ∧
  vk_R "MoonGate" 358 "not so many days" (o 28) U
theorem mg_Old.go {o : Nat → Nat} {A B : Nat → Prop} {s U : State} {H : Heap} {locs : List Loc} (h : mg_Old o A s s.heap) (hS : va_S A s.heap H locs) (hB : ∀ q, B q → A q) (hW : s.WarmedH U.vm) (hU : U.heap = H) : mg_Old o B U U.heap := by
  subst hU
  obtain ⟨h0, h1, h2, h3, h4, h5, h6, h7, h8, h9, h10, h11, h12, h13, h14, h15, h16, h17, h18, h19, h20, h21, h22, h23, h24, h25, h26, h27, h28, h29, h30, h31, h32, h33, h34, h35, h36, h37, h38, h39⟩ := h
  exact ⟨(((h0).kept (fun a h1 h2 => hS.2.1 a h1 h2)).narrow hB).moved hW.alike,
    (((h1).kept (fun a h1 h2 => hS.2.1 a h1 h2)).narrow hB).moved hW.alike,
    (((h2).kept (fun a h1 h2 => hS.2.1 a h1 h2)).narrow hB).moved hW.alike,
    (((h3).kept (fun a h1 h2 => hS.2.1 a h1 h2)).narrow hB).moved hW.alike,
    (((h4).kept (fun a h1 h2 => hS.2.1 a h1 h2)).narrow hB).moved hW.alike,
    (((h5).kept (fun a h1 h2 => hS.2.1 a h1 h2)).narrow hB).moved hW.alike,
    va_Nw.warmM hW (h6),
    va_Nw.warmM hW (h7),
    va_Nw.warmD hW (h8),
    va_Nw.warmD hW (h9),
    va_Nw.warmD hW (h10),
    va_Nw.warmC hW (h11),
    va_Nw.warmC hW (h12),
    va_Nw.warmC hW (h13),
    trivial,
    va_Nc.moved hW.alike (h15),
    trivial,
    va_Nc.moved hW.alike (h17),
    trivial,
    trivial,
    mg_Ar.moved hW.alike (h20),
    vk_R.warm hW (h21),
    vk_R.warm hW (h22),
    vk_R.warm hW (h23),
    vk_R.warm hW (h24),
    vk_R.warm hW (h25),
    vk_R.warm hW (h26),
    vk_R.warm hW (h27),
    vk_R.warm hW (h28),
    vk_R.warm hW (h29),
    vk_R.warm hW (h30),
    vk_R.warm hW (h31),
    vk_R.warm hW (h32),
    vk_R.warm hW (h33),
    vk_R.warm hW (h34),
    vk_R.warm hW (h35),
    vk_R.warm hW (h36),
    vk_R.warm hW (h37),
    vk_R.warm hW (h38),
    vk_R.warm hW (h39)⟩
theorem mg_Old.blind {o : Nat → Nat} {A : Nat → Prop} {U : State} (g : JFrame) (mk : MethodId) (a : Array Value) (h : mg_Old o A U U.heap) : mg_Old o A (U.calling g mk a) (U.calling g mk a).heap := by
  obtain ⟨h0, h1, h2, h3, h4, h5, h6, h7, h8, h9, h10, h11, h12, h13, h14, h15, h16, h17, h18, h19, h20, h21, h22, h23, h24, h25, h26, h27, h28, h29, h30, h31, h32, h33, h34, h35, h36, h37, h38, h39⟩ := h
  exact ⟨va_Z.moved (Vm.Alike.refl U.vm) (h0),
    va_T.moved (Vm.Alike.refl U.vm) (h1),
    va_Z.moved (Vm.Alike.refl U.vm) (h2),
    va_T.moved (Vm.Alike.refl U.vm) (h3),
    vx_Zq.moved (Vm.Alike.refl U.vm) (h4),
    vx_Zq.moved (Vm.Alike.refl U.vm) (h5),
    va_Nw.same rfl (u := U) rfl (h6),
    va_Nw.same rfl (u := U) rfl (h7),
    va_Nw.same rfl (u := U) rfl (h8),
    va_Nw.same rfl (u := U) rfl (h9),
    va_Nw.same rfl (u := U) rfl (h10),
    va_Nw.same rfl (u := U) rfl (h11),
    va_Nw.same rfl (u := U) rfl (h12),
    va_Nw.same rfl (u := U) rfl (h13),
    trivial,
    va_Nc.moved (Vm.Alike.refl U.vm) (h15),
    trivial,
    va_Nc.moved (Vm.Alike.refl U.vm) (h17),
    trivial,
    trivial,
    mg_Ar.moved (u := U) (U := U.calling g mk a) (Vm.Alike.refl U.vm) (h20),
    vk_R.same (u := U) rfl (h21),
    vk_R.same (u := U) rfl (h22),
    vk_R.same (u := U) rfl (h23),
    vk_R.same (u := U) rfl (h24),
    vk_R.same (u := U) rfl (h25),
    vk_R.same (u := U) rfl (h26),
    vk_R.same (u := U) rfl (h27),
    vk_R.same (u := U) rfl (h28),
    vk_R.same (u := U) rfl (h29),
    vk_R.same (u := U) rfl (h30),
    vk_R.same (u := U) rfl (h31),
    vk_R.same (u := U) rfl (h32),
    vk_R.same (u := U) rfl (h33),
    vk_R.same (u := U) rfl (h34),
    vk_R.same (u := U) rfl (h35),
    vk_R.same (u := U) rfl (h36),
    vk_R.same (u := U) rfl (h37),
    vk_R.same (u := U) rfl (h38),
    vk_R.same (u := U) rfl (h39)⟩
/-- the garden alone -/
def mg_gW (g : Nat → Nat) (cI : ClassId) (σ : mg_St) : va_W := [
  (g 0, .inr (1, [.ref (g 1), .ref (g 2), .ref (g 3), .ref (g 4), .ref (g 5), .ref (g 6), .ref (g 7), .ref (g 8), .int (σ 0 8)])),
  (g 1, .inl (cI, 70, .inl (σ 1))), (g 2, .inl (cI, 70, .inl (σ 2))), (g 3, .inl (cI, 70, .inl (σ 3))), (g 4, .inl (cI, 70, .inl (σ 4))), (g 5, .inl (cI, 70, .inl (σ 5))), (g 6, .inl (cI, 70, .inl (σ 6))), (g 7, .inl (cI, 70, .inl (σ 7))), (g 8, .inl (cI, 70, .inl (σ 8)))]
theorem mg_gS_1 (g : Nat → Nat) (cI cZ : ClassId) (σ : mg_St) (j : Nat) (x : Int32) : (mg_gW g cI σ).set 1 (g 1, .inl (cI, 70, .inl (upd (σ 1) j x))) = mg_gW g cI (mg_su σ 1 j x) := rfl
theorem mg_gS_2 (g : Nat → Nat) (cI cZ : ClassId) (σ : mg_St) (j : Nat) (x : Int32) : (mg_gW g cI σ).set 2 (g 2, .inl (cI, 70, .inl (upd (σ 2) j x))) = mg_gW g cI (mg_su σ 2 j x) := rfl
theorem mg_gS_3 (g : Nat → Nat) (cI cZ : ClassId) (σ : mg_St) (j : Nat) (x : Int32) : (mg_gW g cI σ).set 3 (g 3, .inl (cI, 70, .inl (upd (σ 3) j x))) = mg_gW g cI (mg_su σ 3 j x) := rfl
theorem mg_gS_4 (g : Nat → Nat) (cI cZ : ClassId) (σ : mg_St) (j : Nat) (x : Int32) : (mg_gW g cI σ).set 4 (g 4, .inl (cI, 70, .inl (upd (σ 4) j x))) = mg_gW g cI (mg_su σ 4 j x) := rfl
theorem mg_gS_5 (g : Nat → Nat) (cI cZ : ClassId) (σ : mg_St) (j : Nat) (x : Int32) : (mg_gW g cI σ).set 5 (g 5, .inl (cI, 70, .inl (upd (σ 5) j x))) = mg_gW g cI (mg_su σ 5 j x) := rfl
theorem mg_gS_6 (g : Nat → Nat) (cI cZ : ClassId) (σ : mg_St) (j : Nat) (x : Int32) : (mg_gW g cI σ).set 6 (g 6, .inl (cI, 70, .inl (upd (σ 6) j x))) = mg_gW g cI (mg_su σ 6 j x) := rfl
theorem mg_gS_7 (g : Nat → Nat) (cI cZ : ClassId) (σ : mg_St) (j : Nat) (x : Int32) : (mg_gW g cI σ).set 7 (g 7, .inl (cI, 70, .inl (upd (σ 7) j x))) = mg_gW g cI (mg_su σ 7 j x) := rfl
theorem mg_gS_8 (g : Nat → Nat) (cI cZ : ClassId) (σ : mg_St) (j : Nat) (x : Int32) : (mg_gW g cI σ).set 8 (g 8, .inl (cI, 70, .inl (upd (σ 8) j x))) = mg_gW g cI (mg_su σ 8 j x) := rfl
def mg_Pre (D : va_G) (tys : List (ClassId × FieldType)) (o : Nat → Nat) (w : va_W) (sz : Nat) (U : State) : Prop := U.heap.size = sz ∧ va_P D vwCl w U.heap ∧ va_K D vwCl tys U ∧ va_D (fun _ => True) w ∧ mg_Old o (va_A w sz) U U.heap
def mg_Q (D : va_G) (w1 : va_W) (A : Nat → Prop) (rv : Option Value) : Array Value → State → Outcome → State → Prop := fun _ st oc t => (oc = .returned rv ∧ va_P D vwCl w1 t.heap ∧ va_D A w1) ∧ va_F A st t
/-- a contract: from the world w0 the method returns rv and leaves the world w1 -/
def mg_CT (l : Launch) (y : MethodName) (ws : List Cond) (rm : Room) (D : va_G) (tys : List (ClassId × FieldType)) (o : Nat → Nat) (w0 : va_W) (sz : Nat) (av : List Value) (rv : Option Value) (w1 : va_W) (mc ms : Nat) : Prop :=
  Met l y ws rm (va_Pc av (mg_Pre D tys o w0 sz)) (mg_Q D w1 (va_A w0 sz) rv) mc ms (va_A w0 sz)
def mg_QX (D : va_G) (w1 : va_W) (A : Nat → Prop) (out : Except (Fin 3) (Option Value)) : Array Value → State → Outcome → State → Prop := fun _ st oc t => (∃ rv, out = .ok rv ∧ oc = .returned rv ∧ va_P D vwCl w1 t.heap ∧ va_D A w1) ∧ va_F A st t
def mg_XC (D : va_G) (w1 : va_W) (A : Nat → Prop) (out : Except (Fin 3) (Option Value)) : String → State → State → Prop := fun E st t => (∃ k, out = .error k ∧ E = mg_xn k ∧ va_P D vwCl w1 t.heap ∧ va_D A w1) ∧ va_F A st t
/-- .. and one that may throw -/
def mg_CX (l : Launch) (y : MethodName) (ws : List Cond) (rm : Room) (D : va_G) (tys : List (ClassId × FieldType)) (o : Nat → Nat) (w0 : va_W) (sz : Nat) (av : List Value) (out : Except (Fin 3) (Option Value)) (w1 : va_W) (mc ms : Nat) : Prop :=
  vx_Met l y ws rm (va_Pc av (mg_Pre D tys o w0 sz)) (mg_QX D w1 (va_A w0 sz) out) (mg_XC D w1 (va_A w0 sz) out) mc ms (va_A w0 sz)
theorem mg_blind {D : va_G} {tys : List (ClassId × FieldType)} {o : Nat → Nat} {w : va_W} {sz : Nat} {av : List Value} : FrameBlind (va_Pc av (mg_Pre D tys o w sz)) := fun a U g mk q => ⟨q.1, q.2.1, q.2.2.1, va_K.moved (u := U) (U := U.calling g mk a) (Vm.Alike.refl U.vm) q.2.2.2.1, q.2.2.2.2.1, mg_Old.blind g mk a q.2.2.2.2.2⟩
def mg_Wo (D : va_G) (A : Nat → Prop) (H0 H : Heap) (locs : List Loc) (ws : va_W) : Prop := va_P D vwCl ws H ∧ va_D A ws ∧ va_S A H0 H locs
section MGR
variable {p : Program} {l : Launch} {e : Env} {R : Room} {s : State} {m : MethodId} {args : Array Value} {below : List Frame} {meth : Method} {c : Code} {H : Heap} {locs : List Loc} {cells slots : Nat} {Q : State → Prop}
variable {cc : ByteArray} {pc : Nat} {ls : Array Slot} {rest : List Value} {D : va_G} {A : Nat → Prop} {tys : List (ClassId × FieldType)} {ws w0 w1 : va_W} {o : Nat → Nat} {α : Type} {res : α}
theorem mg_free (hw : mg_Wo D A s.heap H locs w0) (hA : ∀ q, s.heap.size ≤ q → A q) : ∀ q, va_A w0 H.size q → A q := by
  intro q h
  rcases h with ⟨k, e, h⟩ | h
  · exact hw.2.1.2 k (q, e) h
  · exact hA q (Nat.le_trans hw.2.2.1 h)
theorem mg_pre (hK : va_K D vwCl tys s) (hO : mg_Old o A s s.heap) (hA : ∀ q, s.heap.size ≤ q → A q) (hw : mg_Wo D A s.heap H locs w0) {av : List Value} : FrameBlind (va_Pc av (mg_Pre D tys o w0 H.size)) ∧ ∀ U : State, U.heap = H → s.WarmedH U.vm → va_Pc av (mg_Pre D tys o w0 H.size) av.toArray U := by
  refine ⟨mg_blind, fun U hU hW => ⟨rfl, by rw [hU], by rw [hU]; exact hw.1, va_K.moved hW.alike hK, hw.2.1.weaken (fun _ _ _ _ => trivial), mg_Old.go hO hw.2.2 (mg_free hw hA) hW hU⟩⟩
theorem mg_preV (hK : va_K D vwCl tys s) (hO : mg_Old o A s s.heap) (hA : ∀ q, s.heap.size ≤ q → A q) (hw : mg_Wo D A s.heap H locs w0) {As : List Value} {b q0 ci N : Nat} {C : String} {T : u_T} {fs : List Value} (he : w0[q0]? = some (b, .inr (ci, fs))) (hc : vwCl[ci]? = some (C, T, N)) : PreV s H C b (va_Pc (.ref b :: As) (mg_Pre D tys o w0 H.size)) As :=
  ⟨mg_blind, va_recv (q := (C, T, N)) hK hw.1 hc he, (mg_pre hK hO hA hw).2⟩
/-- a call of a method that returns: what goes on -/
theorem mg_k {mc ms : Nat} {rv : Option Value} {st0 : List Value} {a : Array Value} (hr : va_Run p l e R s m args below meth c H locs cells slots mc ms (F0 m pc ls st0) rest (mg_Q D w1 (va_A w0 H.size) rv a) (va_A w0 H.size)) (hw : mg_Wo D A s.heap H locs w0) (hA : ∀ q, s.heap.size ≤ q → A q)
    (kk : ∀ (H1 : Heap) (locs1 : List Loc), mg_Wo D A s.heap H1 locs1 w1 → W p l e R s m args below meth c H1 locs1 (cells + mc) (slots + ms) Q (F0 m (pc + 3) ls (rv.toList ++ rest))) : W p l e R s m args below meth c H locs cells slots Q (F0 m pc ls st0) := by
  intro T hT X
  have hF := mg_free hw hA
  obtain ⟨v, st₀, t, T', L, h0, X', hL, e1, e2, ⟨⟨hv, hp, hd⟩, hf⟩, st⟩ := hr T hT X
  cases hv
  obtain ⟨-, -, k3⟩ := vx_keep h0 e1 hw.2.2 (fun q _ h => hF q h) hF hL hf
  obtain ⟨t2, a1, b1⟩ := kk T'.heap (locs ++ L) ⟨by rw [e1]; exact hp, hd.weaken (fun _ q _ h => hF q.1 h), k3⟩ T' rfl X'
  exact ⟨t2, st t2 a1, b1⟩
/-- a call of a method that may throw -/
theorem mg_kx {mc ms : Nat} {out : Except (Fin 3) (Option Value)} {st0 : List Value} {a : Array Value} (hr : vx_Run p l e R s m args below meth c H locs cells slots mc ms (F0 m pc ls st0) rest (mg_QX D w1 (va_A w0 H.size) out a) (mg_XC D w1 (va_A w0 H.size) out) (va_A w0 H.size)) (hw : mg_Wo D A s.heap H locs w0) (hA : ∀ q, s.heap.size ≤ q → A q)
    (kx : ∀ k, out = .error k → ∀ (H1 : Heap) (locs1 : List Loc) (q9 : Addr) (ce : Cell), mg_Wo D A s.heap H1 locs1 w1 → H1[q9]? = some ce → ce.vm = .none → s.vm.findClass (mg_xn k) = some ce.cls → vx_W p l e R s m args below meth c H1 locs1 (cells + mc) (slots + ms) Q (F0 m pc ls rest) q9)
    (kk : ∀ rv, out = .ok rv → ∀ (H1 : Heap) (locs1 : List Loc), mg_Wo D A s.heap H1 locs1 w1 → W p l e R s m args below meth c H1 locs1 (cells + mc) (slots + ms) Q (F0 m (pc + 3) ls (rv.toList ++ rest))) : W p l e R s m args below meth c H locs cells slots Q (F0 m pc ls st0) := by
  intro T hT X
  have hF := mg_free hw hA
  rcases hr T hT X with ⟨v, st₀, t, T', L, h0, X', hL, e1, e2, ⟨⟨rv, ho, hv, hp, hd⟩, hf⟩, st⟩ | ⟨q, st₀, t, T', L, E, ce, h0, X', hL, e1, e2, ⟨⟨k, ho, hE, hp, hd⟩, hf⟩, hce, hcv, hcl, st⟩
  · cases hv
    obtain ⟨-, -, k3⟩ := vx_keep h0 e1 hw.2.2 (fun q _ h => hF q h) hF hL hf
    obtain ⟨t2, a1, b1⟩ := kk v ho T'.heap (locs ++ L) ⟨by rw [e1]; exact hp, hd.weaken (fun _ q _ h => hF q.1 h), k3⟩ T' rfl X'
    exact ⟨t2, st t2 a1, b1⟩
  · subst hE
    obtain ⟨-, -, k3⟩ := vx_keep h0 e1 hw.2.2 (fun q _ h => hF q h) hF hL hf
    obtain ⟨t2, a1, b1⟩ := kx k ho T'.heap (locs ++ L) q ce ⟨by rw [e1]; exact hp, hd.weaken (fun _ q _ h => hF q.1 h), k3⟩ (by rw [e1]; exact hce) hcv hcl T' rfl X'
    exact ⟨t2, st.trans a1, b1⟩
/-- out of a method without handlers -/
theorem mg_out {mc ms k1 n1 : Nat} {out : Except (Fin 3) (Option Value)} {k : Fin 3} {q9 : Addr} {ce : Cell} (ht : ∀ x ∈ c.exceptionTable.toList, False) (hlocks : meth.locks = false) (hk : out = .error k) (hw : mg_Wo D A s.heap H locs w1) (hce : H[q9]? = some ce) (hcv : ce.vm = .none) (hcl : s.vm.findClass (mg_xn k) = some ce.cls) (hc : k1 ≤ mc) (hs : n1 ≤ ms) : vx_W p l e R s m args below meth c H locs k1 n1 (vx_MQ below (mg_QX D w1 A out) (mg_XC D w1 A out) args s mc ms A) (F0 m pc ls rest) q9 :=
  vx_out (fun x hx => (ht x hx).elim) hlocks hce hcv hcl (fun t htH _ => ⟨⟨k, hk, rfl, by rw [htH]; exact hw.1, hw.2.1⟩, hw.2.2.F htH⟩) hw.2.2.2.2 hc hs
/-- ends -/
theorem mg_eI {mc ms : Nat} {v : Int32} (hx : p.tables.exec = Jvm.exec) (hb : c.code = cc) (hr : meth.sig.returnType = some .int) (hlocks : meth.locks = false) (hw : mg_Wo D A s.heap H locs w1) (hc : cells ≤ mc) (hs : slots ≤ ms) (hdg : decode cc pc = .ok (.ireturn, 1)) : W p l e R s m args below meth c H locs cells slots (MQ below (mg_Q D w1 A (some (.int v))) args s mc ms A) (F0 m pc ls [.int v]) :=
  W.widen hc hs (W.iret hx hb hr (fun t ht _ => ⟨⟨rfl, by rw [ht]; exact hw.1, hw.2.1⟩, hw.2.2.F ht⟩) hw.2.2.2.2 hdg hlocks)
theorem mg_eZ {mc ms : Nat} {v : Int32} (hx : p.tables.exec = Jvm.exec) (hb : c.code = cc) (hr : meth.sig.returnType = some .boolean) (hlocks : meth.locks = false) (hw : mg_Wo D A s.heap H locs w1) (hn : narrow .boolean (.int v) = .int v) (hc : cells ≤ mc) (hs : slots ≤ ms) (hdg : decode cc pc = .ok (.ireturn, 1)) : W p l e R s m args below meth c H locs cells slots (MQ below (mg_Q D w1 A (some (.int v))) args s mc ms A) (F0 m pc ls [.int v]) :=
  W.widen hc hs (W.zret hx hb hr hn (fun t ht _ => ⟨⟨rfl, by rw [ht]; exact hw.1, hw.2.1⟩, hw.2.2.F ht⟩) hw.2.2.2.2 hdg hlocks)
theorem mg_eV {mc ms : Nat} (hx : p.tables.exec = Jvm.exec) (hb : c.code = cc) (hr : meth.sig.returnType = none) (hlocks : meth.locks = false) (hw : mg_Wo D A s.heap H locs w1) (hc : cells ≤ mc) (hs : slots ≤ ms) (hdg : decode cc pc = .ok (.return_, 1)) : W p l e R s m args below meth c H locs cells slots (MQ below (mg_Q D w1 A none) args s mc ms A) (F0 m pc ls []) :=
  W.widen hc hs (W.vret hx hb hr (fun t ht _ => ⟨⟨rfl, by rw [ht]; exact hw.1, hw.2.1⟩, hw.2.2.F ht⟩) hw.2.2.2.2 hdg hlocks)
theorem mg_eL {mc ms : Nat} {v : Int64} (hx : p.tables.exec = Jvm.exec) (hb : c.code = cc) (hr : meth.sig.returnType = some .long) (hlocks : meth.locks = false) (hw : mg_Wo D A s.heap H locs w1) (hc : cells ≤ mc) (hs : slots ≤ ms) (hdg : decode cc pc = .ok (.lreturn, 1)) : W p l e R s m args below meth c H locs cells slots (MQ below (mg_Q D w1 A (some (.long v))) args s mc ms A) (F0 m pc ls [.long v]) :=
  W.widen hc hs (W.lret hx hb hr (fun t ht _ => ⟨⟨rfl, by rw [ht]; exact hw.1, hw.2.1⟩, hw.2.2.F ht⟩) hw.2.2.2.2 hdg hlocks)
theorem mg_xI {mc ms : Nat} {v : Int32} {out : Except (Fin 3) (Option Value)} (hx : p.tables.exec = Jvm.exec) (hb : c.code = cc) (hr : meth.sig.returnType = some .int) (hlocks : meth.locks = false) (hw : mg_Wo D A s.heap H locs w1) (ho : out = .ok (some (.int v))) (hc : cells ≤ mc) (hs : slots ≤ ms) (hdg : decode cc pc = .ok (.ireturn, 1)) : W p l e R s m args below meth c H locs cells slots (vx_MQ below (mg_QX D w1 A out) (mg_XC D w1 A out) args s mc ms A) (F0 m pc ls [.int v]) :=
  vx_ret (W.widen hc hs (W.iret hx hb hr (fun t ht _ => ⟨⟨_, ho, rfl, by rw [ht]; exact hw.1, hw.2.1⟩, hw.2.2.F ht⟩) hw.2.2.2.2 hdg hlocks))
theorem mg_xV {mc ms : Nat} {out : Except (Fin 3) (Option Value)} (hx : p.tables.exec = Jvm.exec) (hb : c.code = cc) (hr : meth.sig.returnType = none) (hlocks : meth.locks = false) (hw : mg_Wo D A s.heap H locs w1) (ho : out = .ok none) (hc : cells ≤ mc) (hs : slots ≤ ms) (hdg : decode cc pc = .ok (.return_, 1)) : W p l e R s m args below meth c H locs cells slots (vx_MQ below (mg_QX D w1 A out) (mg_XC D w1 A out) args s mc ms A) (F0 m pc ls []) :=
  vx_ret (W.widen hc hs (W.vret hx hb hr (fun t ht _ => ⟨⟨_, ho, rfl, by rw [ht]; exact hw.1, hw.2.1⟩, hw.2.2.F ht⟩) hw.2.2.2.2 hdg hlocks))
/-- throw new E("text") -/
theorem mg_throw {mc ms : Nat} {k : Fin 3} {out : Except (Fin 3) (Option Value)} {own text : String} {ik is ic sa : Nat} (hx : p.tables.exec = Jvm.exec) (hb : c.code = cc) (hl : l.stackTraces = false) (hown : s.vm.findClass own = some m.cls) (hcls : Bundle.fit (mg_xn k) = true)
    (hk : (Cond.classLink own ik (mg_xn k)).before args s = true) (hini : (Cond.initialized (mg_xn k)).before args s = true) (hstr : vk_R own is text sa s) (hat : ∀ w ∈ (vx_atS own ic (mg_xn k) ["java/lang/RuntimeException", "java/lang/Exception"]), w.before args s = true)
    (hgood : ∀ w ∈ Cond.classLink own ik (mg_xn k) :: Cond.initialized (mg_xn k) :: vx_atS own ic (mg_xn k) ["java/lang/RuntimeException", "java/lang/Exception"], vx_ot w = true)
    (hU : vx_Zq Bundle.tN "UNASSIGNED_STACK" Bundle.steD A s s.heap) (hN : vx_Zq Bundle.tN "SUPPRESSED_SENTINEL" Bundle.listD A s s.heap) (hw : mg_Wo D A s.heap H locs w1) (hsize : ls.size = c.maxLocals)
    (d0 : decode cc pc = .ok (.new ik, 3)) (d3 : decode cc (pc + 3) = .ok (.dup, 1)) (d4 : decode cc (pc + 4) = .ok (.ldc is, 2)) (d6 : decode cc (pc + 6) = .ok (.invokespecial ic, 3)) (d9 : decode cc (pc + 9) = .ok (.athrow, 1))
    (ht : ∀ x ∈ c.exceptionTable.toList, False) (hRframes : 5 < R.frames) (hRlocals : (rest.map fun v => v.category).sum + 82 ≤ R.locals) (hRcells : cells + 1 ≤ R.cells) (hRslots : slots + 6 ≤ R.slots) (hlocks : meth.locks = false) (ho : out = .error k) (hc : cells + 1 ≤ mc) (hs : slots + 6 ≤ ms) :
    W p l e R s m args below meth c H locs cells slots (vx_MQ below (mg_QX D w1 A out) (mg_XC D w1 A out) args s mc ms A) (F0 m pc ls rest) :=
  vx_throwS (cls := mg_xn k) (names := ["java/lang/RuntimeException", "java/lang/Exception"]) hx hb hl hown hcls (by decide +kernel) hk hini hstr hat hgood hU hN hw.2.2 hsize d0 d3 d4 d6 d9 (fun x hx => (ht x hx).elim) hRframes hRlocals hRcells hRslots hlocks
    (fun t _ h1 h2 => ⟨⟨k, ho, rfl, hw.1.kept (fun j q hq => h2 q.1 (hw.1 j q hq).lt), hw.2.1⟩, Nat.le_trans hw.2.2.1 h1, fun q g1 g2 => (h2 q (Nat.lt_of_lt_of_le g1 hw.2.2.1)).trans (hw.2.2.2.1 q g1 g2)⟩) hw.2.2.2.2 hc hs
theorem mg_throwW {mc ms : Nat} {k : Fin 3} {out : Except (Fin 3) (Option Value)} {own text : String} {ik is ic sa : Nat} (hx : p.tables.exec = Jvm.exec) (hb : c.code = cc) (hl : l.stackTraces = false) (hown : s.vm.findClass own = some m.cls) (hcls : Bundle.fit (mg_xn k) = true)
    (hk : (Cond.classLink own ik (mg_xn k)).before args s = true) (hini : (Cond.initialized (mg_xn k)).before args s = true) (hstr : vk_R own is text sa s) (hat : ∀ w ∈ (vx_atS own ic (mg_xn k) ["java/lang/RuntimeException", "java/lang/Exception"]), w.before args s = true)
    (hgood : ∀ w ∈ Cond.classLink own ik (mg_xn k) :: Cond.initialized (mg_xn k) :: vx_atS own ic (mg_xn k) ["java/lang/RuntimeException", "java/lang/Exception"], vx_ot w = true)
    (hU : vx_Zq Bundle.tN "UNASSIGNED_STACK" Bundle.steD A s s.heap) (hN : vx_Zq Bundle.tN "SUPPRESSED_SENTINEL" Bundle.listD A s s.heap) (hw : mg_Wo D A s.heap H locs w1) (hsize : ls.size = c.maxLocals)
    (d0 : decode cc pc = .ok (.new ik, 3)) (d3 : decode cc (pc + 3) = .ok (.dup, 1)) (d4 : decode cc (pc + 4) = .ok (.ldc_w is, 3)) (d7 : decode cc (pc + 7) = .ok (.invokespecial ic, 3)) (d10 : decode cc (pc + 10) = .ok (.athrow, 1))
    (ht : ∀ x ∈ c.exceptionTable.toList, False) (hRframes : 5 < R.frames) (hRlocals : (rest.map fun v => v.category).sum + 82 ≤ R.locals) (hRcells : cells + 1 ≤ R.cells) (hRslots : slots + 6 ≤ R.slots) (hlocks : meth.locks = false) (ho : out = .error k) (hc : cells + 1 ≤ mc) (hs : slots + 6 ≤ ms) :
    W p l e R s m args below meth c H locs cells slots (vx_MQ below (mg_QX D w1 A out) (mg_XC D w1 A out) args s mc ms A) (F0 m pc ls rest) :=
  vx_throwSW (cls := mg_xn k) (names := ["java/lang/RuntimeException", "java/lang/Exception"]) hx hb hl hown hcls (by decide +kernel) hk hini hstr hat hgood hU hN hw.2.2 hsize d0 d3 d4 d7 d10 (fun x hx => (ht x hx).elim) hRframes hRlocals hRcells hRslots hlocks
    (fun t _ h1 h2 => ⟨⟨k, ho, rfl, hw.1.kept (fun j q hq => h2 q.1 (hw.1 j q hq).lt), hw.2.1⟩, Nat.le_trans hw.2.2.1 h1, fun q g1 g2 => (h2 q (Nat.lt_of_lt_of_le g1 hw.2.2.1)).trans (hw.2.2.2.1 q g1 g2)⟩) hw.2.2.2.2 hc hs
/-- arrays: the read or the write that the pure text makes -/
theorem mg_ald (hx : p.tables.exec = Jvm.exec) (hb : c.code = cc) (hK : va_K D vwCl tys s) (hw : mg_Wo D A s.heap H locs ws) (q0 t0 : Nat) {a n k : Nat} {cA : ClassId} {σ : mg_St} (ha : ws[q0]? = some (a, .inl (cA, n, .inl (σ k)))) (ht : tys[t0]? = some (cA, .int)) {i : Int32} {K : Int32 → Option α} (h : (mg_rd σ k n i).bind K = some res) (hdg : decode cc pc = .ok (.iaload, 1))
    (kk : ∀ v, K v = some res → W p l e R s m args below meth c H locs cells slots Q (F0 m (pc + 1) ls (.int v :: rest))) : W p l e R s m args below meth c H locs cells slots Q (F0 m pc ls (.int i :: .ref a :: rest)) := by
  unfold mg_rd at h
  by_cases hi : i < 0 ∨ n ≤ i.toNatClampNeg
  · rw [if_pos hi] at h; cases h
  · rw [if_neg hi] at h
    exact va_iald hx hb hK hw.1 q0 t0 ha ht hi hdg (kk _ h)
theorem mg_zald (hx : p.tables.exec = Jvm.exec) (hb : c.code = cc) (hK : va_K D vwCl tys s) (hw : mg_Wo D A s.heap H locs ws) (q0 t0 : Nat) {a n k : Nat} {cA : ClassId} {σ : mg_St} (ha : ws[q0]? = some (a, .inl (cA, n, .inl (σ k)))) (ht : tys[t0]? = some (cA, .boolean)) {i : Int32} {K : Int32 → Option α} (h : (mg_rd σ k n i).bind K = some res) (hdg : decode cc pc = .ok (.baload, 1))
    (kk : ∀ v, K v = some res → W p l e R s m args below meth c H locs cells slots Q (F0 m (pc + 1) ls (.int v :: rest))) : W p l e R s m args below meth c H locs cells slots Q (F0 m pc ls (.int i :: .ref a :: rest)) := by
  unfold mg_rd at h
  by_cases hi : i < 0 ∨ n ≤ i.toNatClampNeg
  · rw [if_pos hi] at h; cases h
  · rw [if_neg hi] at h
    exact va_zald hx hb hK hw.1 q0 t0 ha ht hi hdg (kk _ h)
theorem mg_ast (hx : p.tables.exec = Jvm.exec) (hb : c.code = cc) (hK : va_K D vwCl tys s) {wd : mg_St → va_W} {σ : mg_St} (hw : mg_Wo D A s.heap H locs (wd σ)) (q0 t0 : Nat) {a n k : Nat} {cA : ClassId} (ha : (wd σ)[q0]? = some (a, .inl (cA, n, .inl (σ k)))) (hset : ∀ j x, (wd σ).set q0 (a, .inl (cA, n, .inl (upd (σ k) j x))) = wd (mg_su σ k j x)) (ht : tys[t0]? = some (cA, .int)) {i x : Int32} {K : mg_St → Option α} (h : (mg_wr σ k n i x).bind K = some res) (hdg : decode cc pc = .ok (.iastore, 1))
    (kk : ∀ σ1, K σ1 = some res → ∀ (H1 : Heap) (locs1 : List Loc), mg_Wo D A s.heap H1 locs1 (wd σ1) → W p l e R s m args below meth c H1 locs1 cells slots Q (F0 m (pc + 1) ls rest)) : W p l e R s m args below meth c H locs cells slots Q (F0 m pc ls (.int x :: .int i :: .ref a :: rest)) := by
  unfold mg_wr at h
  by_cases hi : i < 0 ∨ n ≤ i.toNatClampNeg
  · rw [if_pos hi] at h; cases h
  · rw [if_neg hi] at h
    refine va_iast hx hb hK hw.1 hw.2.1 hw.2.2 q0 t0 ha ht hi hdg (fun H1 locs1 hP hD hS => ?_)
    rw [hset] at hP hD
    exact kk _ h H1 locs1 ⟨hP, hD, hS⟩
theorem mg_zast (hx : p.tables.exec = Jvm.exec) (hb : c.code = cc) (hK : va_K D vwCl tys s) {wd : mg_St → va_W} {σ : mg_St} (hw : mg_Wo D A s.heap H locs (wd σ)) (q0 t0 : Nat) {a n k : Nat} {cA : ClassId} (ha : (wd σ)[q0]? = some (a, .inl (cA, n, .inl (σ k)))) (hset : ∀ j x, (wd σ).set q0 (a, .inl (cA, n, .inl (upd (σ k) j x))) = wd (mg_su σ k j x)) (ht : tys[t0]? = some (cA, .boolean)) {i x : Int32} (hn : vp_nar .boolean x = x) {K : mg_St → Option α} (h : (mg_wr σ k n i x).bind K = some res) (hdg : decode cc pc = .ok (.bastore, 1))
    (kk : ∀ σ1, K σ1 = some res → ∀ (H1 : Heap) (locs1 : List Loc), mg_Wo D A s.heap H1 locs1 (wd σ1) → W p l e R s m args below meth c H1 locs1 cells slots Q (F0 m (pc + 1) ls rest)) : W p l e R s m args below meth c H locs cells slots Q (F0 m pc ls (.int x :: .int i :: .ref a :: rest)) := by
  unfold mg_wr at h
  by_cases hi : i < 0 ∨ n ≤ i.toNatClampNeg
  · rw [if_pos hi] at h; cases h
  · rw [if_neg hi] at h
    refine va_zast hx hb hK hw.1 hw.2.1 hw.2.2 q0 t0 ha ht hi hdg (fun H1 locs1 hP hD hS => ?_)
    rw [hn, hset] at hP hD
    exact kk _ h H1 locs1 ⟨hP, hD, hS⟩
/-- a table's element -/
theorem mg_tld (hx : p.tables.exec = Jvm.exec) (hb : c.code = cc) {t N : Nat} {f : Nat → Int32} (hT : va_T .int t N (fun j => .int (f j)) A s s.heap) (hw : mg_Wo D A s.heap H locs ws) {i : Int32} {K : Int32 → Option α} (h : (mg_rt f N i).bind K = some res) (hdg : decode cc pc = .ok (.iaload, 1))
    (kk : ∀ v, K v = some res → W p l e R s m args below meth c H locs cells slots Q (F0 m (pc + 1) ls (.int v :: rest))) : W p l e R s m args below meth c H locs cells slots Q (F0 m pc ls (.int i :: .ref t :: rest)) := by
  unfold mg_rt at h
  by_cases hi : i < 0 ∨ N ≤ i.toNatClampNeg
  · rw [if_pos hi] at h; cases h
  · rw [if_neg hi] at h
    exact va_ti hx hb hT hw.2.2 hi rfl hdg (kk _ h)
theorem mg_if_eq (hx : p.tables.exec = Jvm.exec) (hb : c.code = cc) {x : Int32} {off : Int} {tgt : Nat} {X Y : Option α} (h : (if x = 0 then X else Y) = some res) (hdg : decode cc pc = .ok (.ifCond .eq off, 3)) (ht : (pc : Int) + off = (tgt : Int))
    (kt : X = some res → W p l e R s m args below meth c H locs cells slots Q (F0 m tgt ls rest)) (kf : Y = some res → W p l e R s m args below meth c H locs cells slots Q (F0 m (pc + 3) ls rest)) : W p l e R s m args below meth c H locs cells slots Q (F0 m pc ls (.int x :: rest)) :=
  lv_if_eq hx hb hdg ht (fun g => kt (by rw [if_pos g] at h; exact h)) (fun g => kf (by rw [if_neg g] at h; exact h))
theorem mg_icmp_eq (hx : p.tables.exec = Jvm.exec) (hb : c.code = cc) {x y : Int32} {off : Int} {tgt : Nat} {X Y : Option α} (h : (if x = y then X else Y) = some res) (hdg : decode cc pc = .ok (.if_icmp .eq off, 3)) (ht : (pc : Int) + off = (tgt : Int))
    (kt : X = some res → W p l e R s m args below meth c H locs cells slots Q (F0 m tgt ls rest)) (kf : Y = some res → W p l e R s m args below meth c H locs cells slots Q (F0 m (pc + 3) ls rest)) : W p l e R s m args below meth c H locs cells slots Q (F0 m pc ls (.int y :: .int x :: rest)) :=
  lv_icmp_eq hx hb hdg ht (fun g => kt (by rw [if_pos g] at h; exact h)) (fun g => kf (by rw [if_neg g] at h; exact h))
theorem mg_if_ne (hx : p.tables.exec = Jvm.exec) (hb : c.code = cc) {x : Int32} {off : Int} {tgt : Nat} {X Y : Option α} (h : (if x = 0 then Y else X) = some res) (hdg : decode cc pc = .ok (.ifCond .ne off, 3)) (ht : (pc : Int) + off = (tgt : Int))
    (kt : X = some res → W p l e R s m args below meth c H locs cells slots Q (F0 m tgt ls rest)) (kf : Y = some res → W p l e R s m args below meth c H locs cells slots Q (F0 m (pc + 3) ls rest)) : W p l e R s m args below meth c H locs cells slots Q (F0 m pc ls (.int x :: rest)) :=
  lv_if_ne hx hb hdg ht (fun g => kt (by rw [if_neg g] at h; exact h)) (fun g => kf (by rw [if_pos g] at h; exact h))
theorem mg_icmp_ne (hx : p.tables.exec = Jvm.exec) (hb : c.code = cc) {x y : Int32} {off : Int} {tgt : Nat} {X Y : Option α} (h : (if x = y then Y else X) = some res) (hdg : decode cc pc = .ok (.if_icmp .ne off, 3)) (ht : (pc : Int) + off = (tgt : Int))
    (kt : X = some res → W p l e R s m args below meth c H locs cells slots Q (F0 m tgt ls rest)) (kf : Y = some res → W p l e R s m args below meth c H locs cells slots Q (F0 m (pc + 3) ls rest)) : W p l e R s m args below meth c H locs cells slots Q (F0 m pc ls (.int y :: .int x :: rest)) :=
  lv_icmp_ne hx hb hdg ht (fun g => kt (by rw [if_neg g] at h; exact h)) (fun g => kf (by rw [if_pos g] at h; exact h))
theorem mg_if_lt (hx : p.tables.exec = Jvm.exec) (hb : c.code = cc) {x : Int32} {off : Int} {tgt : Nat} {X Y : Option α} (h : (if x < 0 then X else Y) = some res) (hdg : decode cc pc = .ok (.ifCond .lt off, 3)) (ht : (pc : Int) + off = (tgt : Int))
    (kt : X = some res → W p l e R s m args below meth c H locs cells slots Q (F0 m tgt ls rest)) (kf : Y = some res → W p l e R s m args below meth c H locs cells slots Q (F0 m (pc + 3) ls rest)) : W p l e R s m args below meth c H locs cells slots Q (F0 m pc ls (.int x :: rest)) :=
  lv_if_lt hx hb hdg ht (fun g => kt (by rw [if_pos g] at h; exact h)) (fun g => kf (by rw [if_neg g] at h; exact h))
theorem mg_icmp_lt (hx : p.tables.exec = Jvm.exec) (hb : c.code = cc) {x y : Int32} {off : Int} {tgt : Nat} {X Y : Option α} (h : (if x < y then X else Y) = some res) (hdg : decode cc pc = .ok (.if_icmp .lt off, 3)) (ht : (pc : Int) + off = (tgt : Int))
    (kt : X = some res → W p l e R s m args below meth c H locs cells slots Q (F0 m tgt ls rest)) (kf : Y = some res → W p l e R s m args below meth c H locs cells slots Q (F0 m (pc + 3) ls rest)) : W p l e R s m args below meth c H locs cells slots Q (F0 m pc ls (.int y :: .int x :: rest)) :=
  lv_icmp_lt hx hb hdg ht (fun g => kt (by rw [if_pos g] at h; exact h)) (fun g => kf (by rw [if_neg g] at h; exact h))
theorem mg_if_ge (hx : p.tables.exec = Jvm.exec) (hb : c.code = cc) {x : Int32} {off : Int} {tgt : Nat} {X Y : Option α} (h : (if 0 ≤ x then X else Y) = some res) (hdg : decode cc pc = .ok (.ifCond .ge off, 3)) (ht : (pc : Int) + off = (tgt : Int))
    (kt : X = some res → W p l e R s m args below meth c H locs cells slots Q (F0 m tgt ls rest)) (kf : Y = some res → W p l e R s m args below meth c H locs cells slots Q (F0 m (pc + 3) ls rest)) : W p l e R s m args below meth c H locs cells slots Q (F0 m pc ls (.int x :: rest)) :=
  lv_if_ge hx hb hdg ht (fun g => kt (by rw [if_pos g] at h; exact h)) (fun g => kf (by rw [if_neg g] at h; exact h))
theorem mg_icmp_ge (hx : p.tables.exec = Jvm.exec) (hb : c.code = cc) {x y : Int32} {off : Int} {tgt : Nat} {X Y : Option α} (h : (if y ≤ x then X else Y) = some res) (hdg : decode cc pc = .ok (.if_icmp .ge off, 3)) (ht : (pc : Int) + off = (tgt : Int))
    (kt : X = some res → W p l e R s m args below meth c H locs cells slots Q (F0 m tgt ls rest)) (kf : Y = some res → W p l e R s m args below meth c H locs cells slots Q (F0 m (pc + 3) ls rest)) : W p l e R s m args below meth c H locs cells slots Q (F0 m pc ls (.int y :: .int x :: rest)) :=
  lv_icmp_ge hx hb hdg ht (fun g => kt (by rw [if_pos g] at h; exact h)) (fun g => kf (by rw [if_neg g] at h; exact h))
theorem mg_if_gt (hx : p.tables.exec = Jvm.exec) (hb : c.code = cc) {x : Int32} {off : Int} {tgt : Nat} {X Y : Option α} (h : (if 0 < x then X else Y) = some res) (hdg : decode cc pc = .ok (.ifCond .gt off, 3)) (ht : (pc : Int) + off = (tgt : Int))
    (kt : X = some res → W p l e R s m args below meth c H locs cells slots Q (F0 m tgt ls rest)) (kf : Y = some res → W p l e R s m args below meth c H locs cells slots Q (F0 m (pc + 3) ls rest)) : W p l e R s m args below meth c H locs cells slots Q (F0 m pc ls (.int x :: rest)) :=
  lv_if_gt hx hb hdg ht (fun g => kt (by rw [if_pos g] at h; exact h)) (fun g => kf (by rw [if_neg g] at h; exact h))
theorem mg_icmp_gt (hx : p.tables.exec = Jvm.exec) (hb : c.code = cc) {x y : Int32} {off : Int} {tgt : Nat} {X Y : Option α} (h : (if y < x then X else Y) = some res) (hdg : decode cc pc = .ok (.if_icmp .gt off, 3)) (ht : (pc : Int) + off = (tgt : Int))
    (kt : X = some res → W p l e R s m args below meth c H locs cells slots Q (F0 m tgt ls rest)) (kf : Y = some res → W p l e R s m args below meth c H locs cells slots Q (F0 m (pc + 3) ls rest)) : W p l e R s m args below meth c H locs cells slots Q (F0 m pc ls (.int y :: .int x :: rest)) :=
  lv_icmp_gt hx hb hdg ht (fun g => kt (by rw [if_pos g] at h; exact h)) (fun g => kf (by rw [if_neg g] at h; exact h))
theorem mg_if_le (hx : p.tables.exec = Jvm.exec) (hb : c.code = cc) {x : Int32} {off : Int} {tgt : Nat} {X Y : Option α} (h : (if x ≤ 0 then X else Y) = some res) (hdg : decode cc pc = .ok (.ifCond .le off, 3)) (ht : (pc : Int) + off = (tgt : Int))
    (kt : X = some res → W p l e R s m args below meth c H locs cells slots Q (F0 m tgt ls rest)) (kf : Y = some res → W p l e R s m args below meth c H locs cells slots Q (F0 m (pc + 3) ls rest)) : W p l e R s m args below meth c H locs cells slots Q (F0 m pc ls (.int x :: rest)) :=
  lv_if_le hx hb hdg ht (fun g => kt (by rw [if_pos g] at h; exact h)) (fun g => kf (by rw [if_neg g] at h; exact h))
theorem mg_icmp_le (hx : p.tables.exec = Jvm.exec) (hb : c.code = cc) {x y : Int32} {off : Int} {tgt : Nat} {X Y : Option α} (h : (if x ≤ y then X else Y) = some res) (hdg : decode cc pc = .ok (.if_icmp .le off, 3)) (ht : (pc : Int) + off = (tgt : Int))
    (kt : X = some res → W p l e R s m args below meth c H locs cells slots Q (F0 m tgt ls rest)) (kf : Y = some res → W p l e R s m args below meth c H locs cells slots Q (F0 m (pc + 3) ls rest)) : W p l e R s m args below meth c H locs cells slots Q (F0 m pc ls (.int y :: .int x :: rest)) :=
  lv_icmp_le hx hb hdg ht (fun g => kt (by rw [if_pos g] at h; exact h)) (fun g => kf (by rw [if_neg g] at h; exact h))
/-- int fields -/
theorem mg_put (hx : p.tables.exec = Jvm.exec) (hb : c.code = cc) {own ref C : String} {T : u_T} {N ci index : Nat} {Ts : List Cond} (hts : ∀ w ∈ Ts, w.before args s = true) (hin : ∀ w ∈ u_ws C T N, w ∈ Ts) (ty0 : Nat → FieldType) (hty : ∀ k, k < N → parseFieldDescriptor (T k).2.2.1 = some (ty0 k)) (hnm : ∀ a, a < N → ∀ b, b < N → a ≠ b → (T a).2.1 ≠ (T b).2.1) (hown : s.vm.findClass own = some m.cls) (hK : va_K D vwCl tys s)
    {wd : mg_St → va_W} {σ : mg_St} (hw : mg_Wo D A s.heap H locs (wd σ)) (q0 kq : Nat) {a : Nat} {fs : List Value} (he : (wd σ)[q0]? = some (a, .inr (ci, fs))) (hc : vwCl[ci]? = some (C, T, N)) (k : Nat) (hk : k < N) (hlink : (Cond.fieldLink own index ref (T k).2.1 (T k).2.2.1).before args s = true) (hsame : ∀ x, s.fieldFound? (T k).1 (T k).2.1 (T k).2.2.1 = some x → s.fieldFound? ref (T k).2.1 (T k).2.2.1 = some x) (hfin : (T k).2.2.2 = false) (hd : parseFieldDescriptor (T k).2.2.1 = some .int) (hl : k < fs.length) {v : Int32}
    (hset : (wd σ).set q0 (a, .inr (ci, fs.set k (.int v))) = wd (mg_su σ kq k v)) (hdg : decode cc pc = .ok (.putfield index, 3))
    (kk : ∀ (H1 : Heap) (locs1 : List Loc), mg_Wo D A s.heap H1 locs1 (wd (mg_su σ kq k v)) → W p l e R s m args below meth c H1 locs1 cells slots Q (F0 m (pc + 3) ls rest)) : W p l e R s m args below meth c H locs cells slots Q (F0 m pc ls (.int v :: .ref a :: rest)) := by
  refine va_put hx hb hts hin ty0 hty hnm hown hK hw.1 hw.2.1 hw.2.2 q0 he hc k hk hlink hsame hfin hd (v := .int v) rfl rfl hl hdg (fun H1 locs1 hP hD hS => ?_)
  rw [hset] at hP hD
  exact kk H1 locs1 ⟨hP, hD, hS⟩
theorem mg_putN (hx : p.tables.exec = Jvm.exec) (hb : c.code = cc) {own ref C host : String} {T : u_T} {N ci index : Nat} {Ts : List Cond} (hts : ∀ w ∈ Ts, w.before args s = true) (hin : ∀ w ∈ u_ws C T N, w ∈ Ts) (ty0 : Nat → FieldType) (hty : ∀ k, k < N → parseFieldDescriptor (T k).2.2.1 = some (ty0 k)) (hnm : ∀ a, a < N → ∀ b, b < N → a ≠ b → (T a).2.1 ≠ (T b).2.1) (hown : s.vm.findClass own = some m.cls) (hK : va_K D vwCl tys s)
    {wd : mg_St → va_W} {σ : mg_St} (hw : mg_Wo D A s.heap H locs (wd σ)) (q0 kq : Nat) {a : Nat} {fs : List Value} (he : (wd σ)[q0]? = some (a, .inr (ci, fs))) (hc : vwCl[ci]? = some (C, T, N)) (k : Nat) (hk : k < N) (hlink : (Cond.fieldLinkNest own index ref (T k).2.1 (T k).2.2.1 host).before args s = true) (hsame : ∀ x, s.fieldFound? (T k).1 (T k).2.1 (T k).2.2.1 = some x → s.fieldFound? ref (T k).2.1 (T k).2.2.1 = some x) (hfin : (T k).2.2.2 = false) (hd : parseFieldDescriptor (T k).2.2.1 = some .int) (hl : k < fs.length) {v : Int32}
    (hset : (wd σ).set q0 (a, .inr (ci, fs.set k (.int v))) = wd (mg_su σ kq k v)) (hdg : decode cc pc = .ok (.putfield index, 3))
    (kk : ∀ (H1 : Heap) (locs1 : List Loc), mg_Wo D A s.heap H1 locs1 (wd (mg_su σ kq k v)) → W p l e R s m args below meth c H1 locs1 cells slots Q (F0 m (pc + 3) ls rest)) : W p l e R s m args below meth c H locs cells slots Q (F0 m pc ls (.int v :: .ref a :: rest)) := by
  refine va_putN hx hb hts hin ty0 hty hnm hown hK hw.1 hw.2.1 hw.2.2 q0 he hc k hk hlink hsame hfin hd (v := .int v) rfl rfl hl hdg (fun H1 locs1 hP hD hS => ?_)
  rw [hset] at hP hD
  exact kk H1 locs1 ⟨hP, hD, hS⟩
/-- a joint of two roads -/
theorem mg_join {g g2 : JFrame} {H2 : Heap} {locs2 : List Loc} (J : W p l e R s m args below meth c H2 locs2 cells slots Q g2) (k : W p l e R s m args below meth c H2 locs2 cells slots Q g2 → W p l e R s m args below meth c H locs cells slots Q g) : W p l e R s m args below meth c H locs cells slots Q g := k J
theorem mg_obj {own C : String} {T : u_T} {N ci : Nat} (hc : vwCl[ci]? = some (C, T, N)) : vwCl[ci]? = some (C, T, N) := hc
/-- a callee that may throw, called where it may be thrown on -/
theorem mg_kxx {V V2 : Type} {wd : mg_St → va_W} {st0 : List Value} {a : Array Value} {f : Option (Except (Fin 3) V × mg_St)} {K : V → mg_St → Option (Except (Fin 3) V2 × mg_St)} {out : Except (Fin 3) V2} {σ9 : mg_St} {MC MS : Nat} (h : mg_xb f K = some (out, σ9)) (rvf : V → Option Value) (rvf2 : V2 → Option Value)
    (C : ∀ (mc ms : Nat) (out1 : Except (Fin 3) V) (σ1 : mg_St), (∀ k, out1 = .error k → 1 ≤ mc ∧ 6 ≤ ms) → f = some (out1, σ1) → cells + mc ≤ R.cells → slots + ms ≤ R.slots → vx_Run p l e R s m args below meth c H locs cells slots mc ms (F0 m pc ls st0) rest (mg_QX D (wd σ1) (va_A w0 H.size) (out1.map rvf) a) (mg_XC D (wd σ1) (va_A w0 H.size) (out1.map rvf)) (va_A w0 H.size))
    (hw : mg_Wo D A s.heap H locs w0) (hA : ∀ q, s.heap.size ≤ q → A q) (ht : ∀ x ∈ c.exceptionTable.toList, False) (hlocks : meth.locks = false) (hC : cells ≤ R.cells) (hS : slots ≤ R.slots) (hE : ∀ k, out = .error k → cells + 1 ≤ R.cells ∧ slots + 6 ≤ R.slots ∧ cells + 1 ≤ MC ∧ slots + 6 ≤ MS)
    (kk : ∀ v σ1, K v σ1 = some (out, σ9) → ∀ (H1 : Heap) (locs1 : List Loc), mg_Wo D A s.heap H1 locs1 (wd σ1) → W p l e R s m args below meth c H1 locs1 cells slots (vx_MQ below (mg_QX D (wd σ9) A (out.map rvf2)) (mg_XC D (wd σ9) A (out.map rvf2)) args s MC MS A) (F0 m (pc + 3) ls ((rvf v).toList ++ rest))) :
    W p l e R s m args below meth c H locs cells slots (vx_MQ below (mg_QX D (wd σ9) A (out.map rvf2)) (mg_XC D (wd σ9) A (out.map rvf2)) args s MC MS A) (F0 m pc ls st0) := by
  unfold mg_xb at h
  split at h
  · cases h
  · rename_i k σ1
    cases h
    obtain ⟨e1, e2, e3, e4⟩ := hE k rfl
    exact mg_kx (C 1 6 _ _ (fun _ _ => ⟨Nat.le_refl _, Nat.le_refl _⟩) rfl e1 e2) hw hA (fun k2 hk H1 locs1 q9 ce hw1 a1 a2 a3 => by
      cases hk
      exact mg_out ht hlocks rfl hw1 a1 a2 a3 e3 e4) (fun rv hrv => by cases hrv)
  · rename_i v σ1
    exact mg_kx (C 0 0 _ _ (fun _ hk => by cases hk) rfl hC hS) hw hA (fun k2 hk => by cases hk) (fun rv hrv H1 locs1 hw1 => by
      cases hrv
      exact kk v _ h H1 locs1 hw1)
/-- .. called where nothing is thrown -/
theorem mg_kxq {V V2 : Type} {wd : mg_St → va_W} {st0 : List Value} {a : Array Value} {f : Option (Except (Fin 3) V × mg_St)} {K : V → mg_St → Option V2} {out : V2} (h : mg_xq f K = some out) (rvf : V → Option Value)
    (C : ∀ (mc ms : Nat) (out1 : Except (Fin 3) V) (σ1 : mg_St), (∀ k, out1 = .error k → 1 ≤ mc ∧ 6 ≤ ms) → f = some (out1, σ1) → cells + mc ≤ R.cells → slots + ms ≤ R.slots → vx_Run p l e R s m args below meth c H locs cells slots mc ms (F0 m pc ls st0) rest (mg_QX D (wd σ1) (va_A w0 H.size) (out1.map rvf) a) (mg_XC D (wd σ1) (va_A w0 H.size) (out1.map rvf)) (va_A w0 H.size))
    (hw : mg_Wo D A s.heap H locs w0) (hA : ∀ q, s.heap.size ≤ q → A q) (hC : cells ≤ R.cells) (hS : slots ≤ R.slots)
    (kk : ∀ v σ1, K v σ1 = some out → ∀ (H1 : Heap) (locs1 : List Loc), mg_Wo D A s.heap H1 locs1 (wd σ1) → W p l e R s m args below meth c H1 locs1 cells slots Q (F0 m (pc + 3) ls ((rvf v).toList ++ rest))) :
    W p l e R s m args below meth c H locs cells slots Q (F0 m pc ls st0) := by
  unfold mg_xq at h
  split at h
  · rename_i v σ1
    exact mg_kx (C 0 0 _ _ (fun _ hk => by cases hk) rfl hC hS) hw hA (fun k2 hk => by cases hk) (fun rv hrv H1 locs1 hw1 => by
      cases hrv
      exact kk v _ h H1 locs1 hw1)
  · cases h
/-- a test written out as 1 or 0 -/
theorem mg_bind {β γ : Type} {x : Option β} {K : β → Option γ} {r : γ} (h : x.bind K = some r) : ∃ y, x = some y ∧ K y = some r := by
  cases x with
  | none => cases h
  | some y => exact ⟨y, rfl, h⟩
/-- worlds side by side -/
theorem mg_Dapp {a b : va_W} (h : va_D A (a ++ b)) : va_D A a ∧ va_D A b ∧ ∀ p ∈ a, ∀ q ∈ b, p.1 ≠ q.1 := by
  have L : ∀ (i : Nat) (p : Nat × va_E), a[i]? = some p → (a ++ b)[i]? = some p := fun i p hi => by rw [List.getElem?_append_left (List.getElem?_eq_some_iff.mp hi).1]; exact hi
  have R : ∀ (j : Nat) (q : Nat × va_E), b[j]? = some q → (a ++ b)[a.length + j]? = some q := fun j q hj => by rw [List.getElem?_append_right (Nat.le_add_right _ _), Nat.add_sub_cancel_left]; exact hj
  refine ⟨⟨fun i j p q hi hj hpq => h.1 i j p q (L i p hi) (L j q hj) hpq, fun k q hk => h.2 k q (L k q hk)⟩, ⟨fun i j p q hi hj hpq => ?_, fun k q hk => h.2 _ q (R k q hk)⟩, fun p hp q hq hpq => ?_⟩
  · have := h.1 _ _ p q (R i p hi) (R j q hj) hpq
    omega
  · obtain ⟨i, hi⟩ := List.getElem?_of_mem hp
    obtain ⟨j, hj⟩ := List.getElem?_of_mem hq
    have h1 := h.1 _ _ p q (L i p hi) (R j q hj) hpq
    have h2 := (List.getElem?_eq_some_iff.mp hi).1
    omega
theorem mg_Dmk {a b : va_W} (ha : va_D A a) (hb : va_D A b) (h : ∀ p ∈ a, ∀ q ∈ b, p.1 ≠ q.1) : va_D A (a ++ b) := va_D.app ha hb (fun i j p q hi hj => h p (List.mem_of_getElem? hi) q (List.mem_of_getElem? hj))
theorem mg_Papp {a b : va_W} (h : va_P D vwCl (a ++ b) H) : va_P D vwCl a H ∧ va_P D vwCl b H := by
  refine ⟨fun k q hk => ?_, fun k q hk => ?_⟩
  · obtain ⟨i, hi⟩ := List.getElem?_of_mem (List.mem_append_left b (List.mem_of_getElem? hk))
    exact h i q hi
  · obtain ⟨i, hi⟩ := List.getElem?_of_mem (List.mem_append_right a (List.mem_of_getElem? hk))
    exact h i q hi
theorem mg_sub {H0 : Heap} {wl w0 wr : va_W} (hw : mg_Wo D A H0 H locs (wl ++ (w0 ++ wr))) : mg_Wo D A H0 H locs w0 := ⟨(mg_Papp (mg_Papp hw.1).2).1, (mg_Dapp (mg_Dapp hw.2.1).2.1).1, hw.2.2⟩
theorem mg_drop {H0 : Heap} {w0 wr : va_W} (hw : mg_Wo D A H0 H locs (w0 ++ wr)) : mg_Wo D A H0 H locs w0 := ⟨(mg_Papp hw.1).1, (mg_Dapp hw.2.1).1, hw.2.2⟩
/-- the frame rule: what the callee's world becomes, beside the rest -/
theorem mg_frame {wl w0 wr w1 : va_W} {H1 : Heap} (hP : va_P D vwCl (wl ++ (w0 ++ wr)) H) (hD : va_D A (wl ++ (w0 ++ wr))) (hk : ∀ q, q < H.size → ¬ va_A w0 H.size q → H1[q]? = H[q]?) (hP1 : va_P D vwCl w1 H1) (hD1 : va_D (va_A w0 H.size) w1) (hF : ∀ q, va_A w0 H.size q → A q) : va_P D vwCl (wl ++ (w1 ++ wr)) H1 ∧ va_D A (wl ++ (w1 ++ wr)) := by
  obtain ⟨pl, p0r⟩ := mg_Papp hP
  obtain ⟨p0, pr⟩ := mg_Papp p0r
  obtain ⟨dl, d0r, xl⟩ := mg_Dapp hD
  obtain ⟨d0, dr, x0⟩ := mg_Dapp d0r
  have apl : ∀ p ∈ wl, p.1 < H.size ∧ ¬ va_A w0 H.size p.1 := by
    intro p hp
    obtain ⟨i, hi⟩ := List.getElem?_of_mem hp
    have hl := (pl i p hi).lt
    refine ⟨hl, fun h => ?_⟩
    rcases h with ⟨k, e, h⟩ | h
    · exact xl p hp (p.1, e) (List.mem_append_left _ (List.mem_of_getElem? h)) rfl
    · omega
  have apr : ∀ p ∈ wr, p.1 < H.size ∧ ¬ va_A w0 H.size p.1 := by
    intro p hp
    obtain ⟨i, hi⟩ := List.getElem?_of_mem hp
    have hl := (pr i p hi).lt
    refine ⟨hl, fun h => ?_⟩
    rcases h with ⟨k, e, h⟩ | h
    · exact x0 (p.1, e) (List.mem_of_getElem? h) p hp rfl
    · omega
  have in1 : ∀ p ∈ w1, va_A w0 H.size p.1 := by
    intro p hp
    obtain ⟨i, hi⟩ := List.getElem?_of_mem hp
    exact hD1.2 i p hi
  refine ⟨va_P.app (pl.kept fun k q hq => ?_) (va_P.app hP1 (pr.kept fun k q hq => ?_)), mg_Dmk dl (mg_Dmk (hD1.weaken fun _ q _ h => hF q.1 h) dr (fun p hp q hq hpq => ?_)) (fun p hp q hq hpq => ?_)⟩
  · exact hk q.1 (apl q (List.mem_of_getElem? hq)).1 (apl q (List.mem_of_getElem? hq)).2
  · exact hk q.1 (apr q (List.mem_of_getElem? hq)).1 (apr q (List.mem_of_getElem? hq)).2
  · exact (apr q hq).2 (hpq ▸ in1 p hp)
  · rcases List.mem_append.mp hq with h | h
    · exact (apl p hp).2 (hpq ▸ in1 q h)
    · exact xl p hp q (List.mem_append_right _ h) hpq
/-- a call in a part of the world -/
theorem mg_kF {mc ms : Nat} {rv : Option Value} {st0 : List Value} {a : Array Value} {wl wr : va_W} (hr : va_Run p l e R s m args below meth c H locs cells slots mc ms (F0 m pc ls st0) rest (mg_Q D w1 (va_A w0 H.size) rv a) (va_A w0 H.size)) (hw : mg_Wo D A s.heap H locs (wl ++ (w0 ++ wr))) (hA : ∀ q, s.heap.size ≤ q → A q)
    (kk : ∀ (H1 : Heap) (locs1 : List Loc), mg_Wo D A s.heap H1 locs1 (wl ++ (w1 ++ wr)) → W p l e R s m args below meth c H1 locs1 (cells + mc) (slots + ms) Q (F0 m (pc + 3) ls (rv.toList ++ rest))) : W p l e R s m args below meth c H locs cells slots Q (F0 m pc ls st0) := by
  intro T hT X
  have hF := mg_free (mg_sub hw) hA
  obtain ⟨v, st₀, t, T', L, h0, X', hL, e1, e2, ⟨⟨hv, hp, hd⟩, hf⟩, st⟩ := hr T hT X
  cases hv
  obtain ⟨-, k2, k3⟩ := vx_keep h0 e1 hw.2.2 (fun q _ h => hF q h) hF hL hf
  obtain ⟨g1, g2⟩ := mg_frame hw.1 hw.2.1 k2 (by rw [e1]; exact hp) hd hF
  obtain ⟨t2, a1, b1⟩ := kk T'.heap (locs ++ L) ⟨g1, g2, k3⟩ T' rfl X'
  exact ⟨t2, st t2 a1, b1⟩
/-- a new array of ints, whose class is known -/
theorem mg_newa (hx : p.tables.exec = Jvm.exec) (hb : c.code = cc) (harr : (Cond.arrayClass .int).before args s = true) (hK : va_K D vwCl tys s) (hw : mg_Wo D A s.heap H locs ws) (hA : ∀ q, s.heap.size ≤ q → A q) (t0 : Nat) {cI : ClassId} (ht : tys[t0]? = some (cI, .int)) {n : Int32} {N : Nat} (hn : ¬ n < 0) (hN : n.toNatClampNeg = N) (hbytes : N * componentBytes .int ≤ 536870912) (hcells : cells + 1 ≤ R.cells) (hslots : slots + N ≤ R.slots) (hdg : decode cc pc = .ok (.newarray .int, 2))
    (kk : ∀ (q : Nat) (H1 : Heap), mg_Wo D A s.heap H1 locs (ws ++ [(q, .inl (cI, N, .inl (fun _ => 0)))]) → W p l e R s m args below meth c H1 locs (cells + 1) (slots + N) Q (F0 m (pc + 2) ls (.ref q :: rest))) : W p l e R s m args below meth c H locs cells slots Q (F0 m pc ls (.int n :: rest)) := by
  refine va_newa (atype := .int) (ty := .int) hx hb harr rfl hK hw.1 hw.2.1 hw.2.2 hA (a0 := (N, .inl (fun _ => 0))) (fun _ => rfl) hn hN hbytes hcells hslots hdg (fun q cA H1 hK1 hP hD hS => ?_)
  have e1 : s.vm.findClass ("[" ++ FieldType.int.toString) = some cI := (hK.2 t0 _ ht).2
  have e2 : s.vm.findClass ("[" ++ FieldType.int.toString) = some cA := (hK1.2 tys.length (cA, .int) (by simp)).2
  cases Option.some.inj (e1.symm.trans e2)
  exact kk q H1 ⟨hP, hD, hS⟩
theorem mg_nst (hx : p.tables.exec = Jvm.exec) (hb : c.code = cc) (hK : va_K D vwCl tys s) {q n : Nat} {cA : ClassId} {f : Nat → Int32} (hw : mg_Wo D A s.heap H locs (w0 ++ [(q, .inl (cA, n, .inl f))])) (q0 t0 : Nat) (ha : (w0 ++ ([(q, .inl (cA, n, .inl f))] : va_W))[q0]? = some (q, .inl (cA, n, .inl f))) (hset : ∀ f' : Nat → Int32, (w0 ++ ([(q, .inl (cA, n, .inl f))] : va_W)).set q0 (q, .inl (cA, n, .inl f')) = w0 ++ ([(q, .inl (cA, n, .inl f'))] : va_W)) (ht : tys[t0]? = some (cA, .int)) {i x : Int32} {j : Nat} (hin : vp_in i n) (hj : i.toNatClampNeg = j) (hdg : decode cc pc = .ok (.iastore, 1))
    (kk : ∀ (H1 : Heap) (locs1 : List Loc), mg_Wo D A s.heap H1 locs1 (w0 ++ [(q, .inl (cA, n, .inl (upd f j x)))]) → W p l e R s m args below meth c H1 locs1 cells slots Q (F0 m (pc + 1) ls rest)) : W p l e R s m args below meth c H locs cells slots Q (F0 m pc ls (.int x :: .int i :: .ref q :: rest)) := by
  subst hj
  refine va_iast hx hb hK hw.1 hw.2.1 hw.2.2 q0 t0 ha ht hin hdg (fun H1 locs1 hP hD hS => ?_)
  rw [hset] at hP hD
  exact kk H1 locs1 ⟨hP, hD, hS⟩
theorem mg_nld (hx : p.tables.exec = Jvm.exec) (hb : c.code = cc) (hK : va_K D vwCl tys s) (hw : mg_Wo D A s.heap H locs ws) (q0 t0 : Nat) {a n : Nat} {cA : ClassId} {f : Nat → Int32} (ha : ws[q0]? = some (a, .inl (cA, n, .inl f))) (ht : tys[t0]? = some (cA, .int)) {i : Int32} {K : Int32 → Option α} (h : (mg_rt f n i).bind K = some res) (hdg : decode cc pc = .ok (.iaload, 1))
    (kk : ∀ v, K v = some res → W p l e R s m args below meth c H locs cells slots Q (F0 m (pc + 1) ls (.int v :: rest))) : W p l e R s m args below meth c H locs cells slots Q (F0 m pc ls (.int i :: .ref a :: rest)) := by
  unfold mg_rt at h
  by_cases hi : i < 0 ∨ n ≤ i.toNatClampNeg
  · rw [if_pos hi] at h; cases h
  · rw [if_neg hi] at h
    exact va_iald hx hb hK hw.1 q0 t0 ha ht hi hdg (kk _ h)
/-- constructors: the new cells' addresses come with the world -/
theorem mg_newz (hx : p.tables.exec = Jvm.exec) (hb : c.code = cc) (harr : (Cond.arrayClass .boolean).before args s = true) (hK : va_K D vwCl tys s) (hw : mg_Wo D A s.heap H locs ws) (hA : ∀ q, s.heap.size ≤ q → A q) (t0 : Nat) {cI : ClassId} (ht : tys[t0]? = some (cI, .boolean)) {n : Int32} {N : Nat} (hn : ¬ n < 0) (hN : n.toNatClampNeg = N) (hbytes : N * componentBytes .boolean ≤ 536870912) (hcells : cells + 1 ≤ R.cells) (hslots : slots + N ≤ R.slots) (hdg : decode cc pc = .ok (.newarray .boolean, 2))
    (kk : ∀ (q : Nat) (H1 : Heap), mg_Wo D A s.heap H1 locs (ws ++ [(q, .inl (cI, N, .inl (fun _ => 0)))]) → W p l e R s m args below meth c H1 locs (cells + 1) (slots + N) Q (F0 m (pc + 2) ls (.ref q :: rest))) : W p l e R s m args below meth c H locs cells slots Q (F0 m pc ls (.int n :: rest)) := by
  refine va_newa (atype := .boolean) (ty := .boolean) hx hb harr rfl hK hw.1 hw.2.1 hw.2.2 hA (a0 := (N, .inl (fun _ => 0))) (fun _ => rfl) hn hN hbytes hcells hslots hdg (fun q cA H1 hK1 hP hD hS => ?_)
  have e1 : s.vm.findClass ("[" ++ FieldType.boolean.toString) = some cI := (hK.2 t0 _ ht).2
  have e2 : s.vm.findClass ("[" ++ FieldType.boolean.toString) = some cA := (hK1.2 tys.length (cA, .boolean) (by simp)).2
  cases Option.some.inj (e1.symm.trans e2)
  exact kk q H1 ⟨hP, hD, hS⟩
def mg_QE (D : va_G) (w1 : (Nat → Nat) → va_W) (A : Nat → Prop) : Array Value → State → Outcome → State → Prop := fun _ st oc t => (oc = .returned none ∧ ∃ g, va_P D vwCl (w1 g) t.heap ∧ va_D A (w1 g)) ∧ va_F A st t
def mg_CE (l : Launch) (y : MethodName) (ws : List Cond) (rm : Room) (D : va_G) (tys : List (ClassId × FieldType)) (o : Nat → Nat) (w0 : va_W) (sz : Nat) (av : List Value) (w1 : (Nat → Nat) → va_W) (mc ms : Nat) : Prop :=
  Met l y ws rm (va_Pc av (mg_Pre D tys o w0 sz)) (mg_QE D w1 (va_A w0 sz)) mc ms (va_A w0 sz)
theorem mg_eE {w1 : (Nat → Nat) → va_W} {mc ms : Nat} (g : Nat → Nat) (hx : p.tables.exec = Jvm.exec) (hb : c.code = cc) (hr : meth.sig.returnType = none) (hlocks : meth.locks = false) (hw : mg_Wo D A s.heap H locs (w1 g)) (hc : cells ≤ mc) (hs : slots ≤ ms) (hdg : decode cc pc = .ok (.return_, 1)) : W p l e R s m args below meth c H locs cells slots (MQ below (mg_QE D w1 A) args s mc ms A) (F0 m pc ls []) :=
  W.widen hc hs (W.vret hx hb hr (fun t ht _ => ⟨⟨rfl, g, by rw [ht]; exact hw.1, hw.2.1⟩, hw.2.2.F ht⟩) hw.2.2.2.2 hdg hlocks)
theorem mg_kFE {mc ms : Nat} {st0 : List Value} {a : Array Value} {wl : va_W} {w1 : (Nat → Nat) → va_W} (hr : va_Run p l e R s m args below meth c H locs cells slots mc ms (F0 m pc ls st0) rest (mg_QE D w1 (va_A w0 H.size) a) (va_A w0 H.size)) (hw : mg_Wo D A s.heap H locs (wl ++ (w0 ++ []))) (hA : ∀ q, s.heap.size ≤ q → A q)
    (kk : ∀ (g : Nat → Nat) (H1 : Heap) (locs1 : List Loc), mg_Wo D A s.heap H1 locs1 (wl ++ (w1 g ++ [])) → W p l e R s m args below meth c H1 locs1 (cells + mc) (slots + ms) Q (F0 m (pc + 3) ls rest)) : W p l e R s m args below meth c H locs cells slots Q (F0 m pc ls st0) := by
  intro T hT X
  have hF := mg_free (mg_sub hw) hA
  obtain ⟨v, st₀, t, T', L, h0, X', hL, e1, e2, ⟨⟨hv, g, hp, hd⟩, hf⟩, st⟩ := hr T hT X
  cases hv
  obtain ⟨-, k2, k3⟩ := vx_keep h0 e1 hw.2.2 (fun q _ h => hF q h) hF hL hf
  obtain ⟨g1, g2⟩ := mg_frame hw.1 hw.2.1 k2 (by rw [e1]; exact hp) hd hF
  obtain ⟨t2, a1, b1⟩ := kk g T'.heap (locs ++ L) ⟨g1, g2, k3⟩ T' rfl X'
  exact ⟨t2, st t2 a1, b1⟩
/-- means: what the division drew -/
def mg_QD (D : va_G) (w1 : va_W) (A : Nat → Prop) (v : UInt64) : Array Value → State → Outcome → State → Prop := fun _ st oc t => (∃ r : UInt64, alike64 r v = true ∧ oc = .returned (some (.double r)) ∧ va_P D vwCl w1 t.heap ∧ va_D A w1) ∧ va_F A st t
def mg_CD (l : Launch) (y : MethodName) (ws : List Cond) (rm : Room) (D : va_G) (tys : List (ClassId × FieldType)) (o : Nat → Nat) (w0 : va_W) (sz : Nat) (av : List Value) (v : UInt64) (w1 : va_W) (mc ms : Nat) : Prop :=
  MetD lw_cs l y ws rm (va_Pc av (mg_Pre D tys o w0 sz)) (mg_QD D w1 (va_A w0 sz) v) mc ms (va_A w0 sz)
theorem mg_eD {mc ms : Nat} {r v : UInt64} {d1 : Drawn} (hd1 : s.drawn.sameBut d1 lw_cs) (hal : alike64 r v = true) (hx : p.tables.exec = Jvm.exec) (hb : c.code = cc) (hr : meth.sig.returnType = some .double) (hlocks : meth.locks = false) (hw : mg_Wo D A s.heap H locs w1) (hc : cells ≤ mc) (hs : slots ≤ ms) (hdg : decode cc pc = .ok (.dreturn, 1)) : W p l e R (s.setDrawn d1) m args below meth c H locs cells slots (MQD lw_cs below (mg_QD D w1 A v) args s mc ms A) (F0 m pc ls [.double r]) :=
  W.endD hd1 (W.widen hc hs (W.dret hx hb hr (fun t ht _ => ⟨⟨r, hal, rfl, by rw [ht]; exact hw.1, hw.2.1⟩, hw.2.2.F ht⟩) hw.2.2.2.2 hdg hlocks))
end MGR

