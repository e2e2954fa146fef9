theorem mg_fil_row {c : ClassId} {N w sl : Nat} {g : State → State} (hg : mg_Mk g w sl) (s : State) {j x : Nat} (hj : j < N) (hx : x < w) : (mg_fil c N w g s N).heap[s.heap.size + 1 + j * w + x]? = (g (mg_fil c N w g s j)).heap[(mg_fil c N w g s j).heap.size + x]? := by
  have h := mg_fil_in (c := c) (N := N) hg s j (a := s.heap.size + 1 + j * w + x) (by omega) (by rw [Nat.succ_mul]; omega) (N - (j + 1))
  rw [show j + 1 + (N - (j + 1)) = N by omega] at h
  rw [h, (mg_fil_facts (c := c) (N := N) hg s j).1]
section MN
variable {p : Program} {l : Launch} {e : Env} {R : Room} {s : State} {m : MethodId} {args : Array Value} {below : List Frame} {meth : Method} {c : Code} {H : Heap} {locs : List Loc} {cells slots : Nat} {Q : State → Prop}
variable {cc : ByteArray} {pc : Nat} {ls : Array Slot} {rest : List Value} {D : va_G} {A : Nat → Prop} {L : mg_V} {o : Nat → Nat}
theorem mg_mnaW2 (hx : p.tables.exec = Jvm.exec) (hb : c.code = cc) {own nm : String} {index : Nat} {c0 : ClassId} (hown : s.vm.findClass own = some m.cls) (hclink : (Cond.classLink own index nm).before args s = true) (hfc : s.vm.findClass nm = some c0) {n k : Int32} {G : State → State} {w sl : Nat} (hMk : mg_Mk G w sl) (hSK : mg_SK G w sl) (hWp : ∀ vm₁ : Vm, s.vm.Alike vm₁ → (∀ M : Nat, M ≤ 1000 → ¬ M > e.platform.arrayLengthLimit) → (∀ M : Nat, M ≤ 10000 → ¬ M > e.platform.maxHeapBytes) → mg_Wp vm₁ e c0 [n, k] G w sl)
    (hcells : cells + w ≤ R.cells) (hslots : slots + sl ≤ R.slots) (hdg : decode cc pc = .ok (.multianewarray index 2, 4)) (kk : ∀ T1 : State, T1.heap = H → W p l e R s m args below meth c (G T1).heap locs (cells + w) (slots + sl) Q (F0 m (pc + 4) ls (.ref H.size :: rest))) : W p l e R s m args below meth c H locs cells slots Q (F0 m pc ls (.int k :: .int n :: rest)) := by
  intro T hT X
  subst hb
  have hpl : e.platform.magicAccessors = ({} : Platform).magicAccessors := by rw [X.admits.platform]
  obtain ⟨c1, hfc1, hcl⟩ := Cond.classLink_spec hown hclink e.platform hpl
  cases hfc.symm.trans hfc1
  obtain ⟨hg₁, hwarm₁, hready₁⟩ := State.classEntry (e := e) X.warmed hcl
  generalize T.vm.noted m.cls index (.cls c0) = vm₁ at hg₁ hwarm₁ hready₁
  have X₁ := X.noted hwarm₁
  obtain ⟨hr1, hr2⟩ := X.roomAbove hcells hslots
  have hl1 : ∀ M : Nat, M ≤ 1000 → ¬ M > e.platform.arrayLengthLimit := fun M hM => by rw [Launch.admits_arrayLengthLimit X.admits]; omega
  have hh1 : ∀ M : Nat, M ≤ 10000 → ¬ M > e.platform.maxHeapBytes := fun M hM => by rw [Launch.admits_maxHeapBytes X.admits]; omega
  have XF := hSK _ _ _ _ _ _ _ _ _ _ _ _ _ _ X₁
  obtain ⟨t', a1, b1⟩ := kk (T.setVm vm₁) hT (G (T.setVm vm₁)) rfl XF
  refine ⟨t', ?_, b1⟩
  rw [← hT] at a1
  jvm_step X.here [hx, hdg]
  simp only [Op.multianewarray.sem, wp_bind', W.resolveClassAt_links (t := T.setTop (F0 m pc ls (.int k :: .int n :: rest))) (mm := m) (State.method?_setTop (F0 m pc ls (.int k :: .int n :: rest)) X.here.top) hg₁]
  rw [W.popN, if_neg (by decide)]
  refine ⟨_, State.topJava?_setTop' (s := T.setVm vm₁) _ X.here.top, [.int n, .int k], rest, rfl, rfl, ?_⟩
  simp only [List.mapM_cons, List.mapM_nil, wp_bind', wp_pure']
  refine hWp vm₁ hwarm₁.alike hl1 hh1 _ _ _ _ _ rfl (by show T.heap.size + _ ≤ _; omega) (by show T.slotsUsed + _ ≤ _; omega) (fun d' acts' => ?_)
  have eS : ((T.setTop (F0 m pc ls (.int k :: .int n :: rest))).setVm vm₁).setTop { (F0 m pc ls (.int k :: .int n :: rest)) with stack := rest } = (T.setVm vm₁).setTop { (F0 m pc ls (.int k :: .int n :: rest)) with stack := rest } := by
    show ((T.setVm vm₁).setTop _).setTop _ = _
    rw [State.setTop_setTop]
  rw [eS, (hMk (T.setVm vm₁)).2.2.2.2]
  simp only [wp_bind', W.mark, W.pushRef, State.topJava?_setTop' _ XF.here.top, Option.some.injEq, exists_eq_left', State.setTop_setTop, State.heap_setTop]
  intro acts
  simp [jvm, XF.here.top]
  exact a1
theorem mg_mnaW3 (hx : p.tables.exec = Jvm.exec) (hb : c.code = cc) {own nm : String} {index : Nat} {c0 : ClassId} (hown : s.vm.findClass own = some m.cls) (hclink : (Cond.classLink own index nm).before args s = true) (hfc : s.vm.findClass nm = some c0) {n k k2 : Int32} {G : State → State} {w sl : Nat} (hMk : mg_Mk G w sl) (hSK : mg_SK G w sl) (hWp : ∀ vm₁ : Vm, s.vm.Alike vm₁ → (∀ M : Nat, M ≤ 1000 → ¬ M > e.platform.arrayLengthLimit) → (∀ M : Nat, M ≤ 10000 → ¬ M > e.platform.maxHeapBytes) → mg_Wp vm₁ e c0 [n, k, k2] G w sl)
    (hcells : cells + w ≤ R.cells) (hslots : slots + sl ≤ R.slots) (hdg : decode cc pc = .ok (.multianewarray index 3, 4)) (kk : ∀ T1 : State, T1.heap = H → W p l e R s m args below meth c (G T1).heap locs (cells + w) (slots + sl) Q (F0 m (pc + 4) ls (.ref H.size :: rest))) : W p l e R s m args below meth c H locs cells slots Q (F0 m pc ls (.int k2 :: .int k :: .int n :: rest)) := by
  intro T hT X
  subst hb
  have hpl : e.platform.magicAccessors = ({} : Platform).magicAccessors := by rw [X.admits.platform]
  obtain ⟨c1, hfc1, hcl⟩ := Cond.classLink_spec hown hclink e.platform hpl
  cases hfc.symm.trans hfc1
  obtain ⟨hg₁, hwarm₁, hready₁⟩ := State.classEntry (e := e) X.warmed hcl
  generalize T.vm.noted m.cls index (.cls c0) = vm₁ at hg₁ hwarm₁ hready₁
  have X₁ := X.noted hwarm₁
  obtain ⟨hr1, hr2⟩ := X.roomAbove hcells hslots
  have hl1 : ∀ M : Nat, M ≤ 1000 → ¬ M > e.platform.arrayLengthLimit := fun M hM => by rw [Launch.admits_arrayLengthLimit X.admits]; omega
  have hh1 : ∀ M : Nat, M ≤ 10000 → ¬ M > e.platform.maxHeapBytes := fun M hM => by rw [Launch.admits_maxHeapBytes X.admits]; omega
  have XF := hSK _ _ _ _ _ _ _ _ _ _ _ _ _ _ X₁
  obtain ⟨t', a1, b1⟩ := kk (T.setVm vm₁) hT (G (T.setVm vm₁)) rfl XF
  refine ⟨t', ?_, b1⟩
  rw [← hT] at a1
  jvm_step X.here [hx, hdg]
  simp only [Op.multianewarray.sem, wp_bind', W.resolveClassAt_links (t := T.setTop (F0 m pc ls (.int k2 :: .int k :: .int n :: rest))) (mm := m) (State.method?_setTop (F0 m pc ls (.int k2 :: .int k :: .int n :: rest)) X.here.top) hg₁]
  rw [W.popN, if_neg (by decide)]
  refine ⟨_, State.topJava?_setTop' (s := T.setVm vm₁) _ X.here.top, [.int n, .int k, .int k2], rest, rfl, rfl, ?_⟩
  simp only [List.mapM_cons, List.mapM_nil, wp_bind', wp_pure']
  refine hWp vm₁ hwarm₁.alike hl1 hh1 _ _ _ _ _ rfl (by show T.heap.size + _ ≤ _; omega) (by show T.slotsUsed + _ ≤ _; omega) (fun d' acts' => ?_)
  have eS : ((T.setTop (F0 m pc ls (.int k2 :: .int k :: .int n :: rest))).setVm vm₁).setTop { (F0 m pc ls (.int k2 :: .int k :: .int n :: rest)) with stack := rest } = (T.setVm vm₁).setTop { (F0 m pc ls (.int k2 :: .int k :: .int n :: rest)) with stack := rest } := by
    show ((T.setVm vm₁).setTop _).setTop _ = _
    rw [State.setTop_setTop]
  rw [eS, (hMk (T.setVm vm₁)).2.2.2.2]
  simp only [wp_bind', W.mark, W.pushRef, State.topJava?_setTop' _ XF.here.top, Option.some.injEq, exists_eq_left', State.setTop_setTop, State.heap_setTop]
  intro acts
  simp [jvm, XF.here.top]
  exact a1
theorem mg_kAl {V vm₁ : Vm} (hal : V.Alike vm₁) {ci comp : ClassId} {ty : FieldType} (h : ∃ k : Class, V.classes[ci]? = some k ∧ k.kind = .array comp ty) : ∃ k : Class, vm₁.classes[ci]? = some k ∧ k.kind = .array comp ty := by
  obtain ⟨k, h1, h2⟩ := h
  obtain ⟨k', hk', he⟩ := hal.2.2 _ _ h1
  exact ⟨k', hk', by rw [he]; exact h2⟩
/-- new boolean[7][10] -/
theorem mg_mna2 (hx : p.tables.exec = Jvm.exec) (hb : c.code = cc) {own : String} {index : Nat} (hown : s.vm.findClass own = some m.cls) (hclink : (Cond.classLink own index "[[Z").before args s = true) (hAr : mg_Ar o s) (hw : mg_Vo D A s.heap H locs L) (hA : ∀ q, s.heap.size ≤ q → A q) (hcells : cells + 8 ≤ R.cells) (hslots : slots + 77 ≤ R.slots) (hdg : decode cc pc = .ok (.multianewarray index 2, 4))
    (kk : ∀ (q : Nat) (r : Nat → Nat) (H1 : Heap), mg_Vo D A s.heap H1 locs (L ++ [mg_fM o q r (fun _ _ => 0)]) → W p l e R s m args below meth c H1 locs (cells + 8) (slots + 77) Q (F0 m (pc + 4) ls (.ref q :: rest))) : W p l e R s m args below meth c H locs cells slots Q (F0 m pc ls (.int 10 :: .int 7 :: rest)) := by
  have m1 := mg_mk_base (o 54) 10 (.int 0)
  have m2 : mg_Mk (fun s => mg_fil (o 52) 7 1 (mg_g1 (o 54) 10 (.int 0)) s 7) 8 77 := mg_mk_step (c := o 52) (N := 7) m1
  refine mg_mnaW2 (G := fun s => mg_fil (o 52) 7 1 (mg_g1 (o 54) 10 (.int 0)) s 7) (w := 8) (sl := 77) hx hb hown hclink hAr.2.2.1.2 m2 (mg_sk_step m1 (mg_sk_base _ _ _)) (fun vm₁ hal hl hh => ?_) hcells hslots hdg (fun T1 hT1 => ?_)
  · obtain ⟨k5, a1, a2⟩ := mg_kAl hal hAr.2.2.1.1
    obtain ⟨c9, h9⟩ := hAr.2.2.2.2.1
    obtain ⟨k6, b1, b2⟩ := mg_kAl hal h9.1
    have w1 : mg_Wp vm₁ e (o 54) [10] (mg_g1 (o 54) 10 (.int 0)) 1 10 := mg_wp_base (type := .boolean) (M := 10) (by decide) b1 b2 (by decide) (hl 10 (by omega)) (hh _ (by decide)) rfl rfl
    exact mg_wp_step (N := 7) (w := 1) (sl := 10) m1 w1 (by decide) a1 a2 rfl (by decide) (by decide) (hl 7 (by omega)) (hh _ (by decide))
  · obtain ⟨f1, f2, -, -⟩ := mg_fil_facts (c := o 52) (N := 7) m1 T1 7
    have hold : ∀ q : Nat, q < H.size → (mg_fil (o 52) 7 1 (mg_g1 (o 54) 10 (.int 0)) T1 7).heap[q]? = H[q]? := fun q hq => by
      rw [mg_fil_old m1 T1 (by rw [hT1]; exact hq) 7, hT1]
    have hrow : ∀ j, j < 7 → (mg_fil (o 52) 7 1 (mg_g1 (o 54) 10 (.int 0)) T1 7).heap[H.size + 1 + j]? = some (arrV (o 54) 10 (fun _ => .int 0)) := fun j hj => by
      have h := mg_fil_row (c := o 52) (N := 7) m1 T1 (x := 0) hj (by omega)
      rw [hT1, Nat.mul_one, Nat.add_zero, Nat.add_zero] at h
      rw [h]
      exact State.heap_pushCell_size _ _
    rw [hT1] at f1 f2
    refine kk H.size (fun y => H.size + 1 + y) _ (mg_Vpush hw hA (by rw [f1]; omega) hold (fun t j q h => ?_) (fun t j t' j' q q' h h' e => ?_))
    · match t, h with
      | 0, h =>
        by_cases hj : j = 0
        · subst hj
          cases h
          refine ⟨?_, Nat.le_refl _⟩
          show _ = some (vp_cell _ _)
          rw [f2, vp_cell_q]
          exact congrArg some (mg_arrV_congr (fun j hj => by simp [hj]))
        · have h2 := (if_neg hj).symm.trans h
          cases h2
      | 1, h =>
        by_cases hj : j < 7
        · have h2 := (if_pos hj).symm.trans h
          cases h2
          refine ⟨?_, by show H.size ≤ H.size + 1 + j; omega⟩
          show _ = some (vp_cell _ _)
          rw [vp_cell_i]
          exact hrow j hj
        · have h2 := (if_neg hj).symm.trans h
          cases h2
      | _ + 2, h => cases h
    · have inv : ∀ (t j : Nat) (q : Nat × va_E), mg_fM o H.size (fun y => H.size + 1 + y) (fun _ _ => 0) t j = some q → (t = 0 ∧ j = 0 ∧ q.1 = H.size) ∨ (t = 1 ∧ q.1 = H.size + 1 + j) := by
        intro t j q h
        match t, h with
        | 0, h =>
          by_cases hj : j = 0
          · subst hj; cases h; exact Or.inl ⟨rfl, rfl, rfl⟩
          · have h2 := (if_neg hj).symm.trans h
            cases h2
        | 1, h =>
          by_cases hj : j < 7
          · have h2 := (if_pos hj).symm.trans h
            cases h2
            exact Or.inr ⟨rfl, rfl⟩
          · have h2 := (if_neg hj).symm.trans h
            cases h2
        | _ + 2, h => cases h
      rcases inv t j q h with ⟨a1, a2, a3⟩ | ⟨a1, a3⟩ <;> rcases inv t' j' q' h' with ⟨b1, b2, b3⟩ | ⟨b1, b3⟩ <;> omega
/-- new int[7][10][3] -/
def mg_fT (o : Nat → Nat) (q : Nat) (r c3 : Nat → Nat) : mg_F := fun t j => match t with
  | 0 => if j = 0 then some (q, mg_eq (o 51) 7 (fun y => some (r y))) else none
  | 1 => if j < 7 then some (r j, mg_eq (o 50) 10 (fun x => some (c3 (10 * j + x)))) else none
  | 2 => if j < 70 then some (c3 j, mg_ei (o 53) 3 (fun _ => 0)) else none
  | _ => none
theorem mg_mna3 (hx : p.tables.exec = Jvm.exec) (hb : c.code = cc) {own : String} {index : Nat} (hown : s.vm.findClass own = some m.cls) (hclink : (Cond.classLink own index "[[[I").before args s = true) (hAr : mg_Ar o s) (hw : mg_Vo D A s.heap H locs L) (hA : ∀ q, s.heap.size ≤ q → A q) (hcells : cells + 78 ≤ R.cells) (hslots : slots + 287 ≤ R.slots) (hdg : decode cc pc = .ok (.multianewarray index 3, 4))
    (kk : ∀ (q : Nat) (r c3 : Nat → Nat) (H1 : Heap), mg_Vo D A s.heap H1 locs (L ++ [mg_fT o q r c3]) → W p l e R s m args below meth c H1 locs (cells + 78) (slots + 287) Q (F0 m (pc + 4) ls (.ref q :: rest))) : W p l e R s m args below meth c H locs cells slots Q (F0 m pc ls (.int 3 :: .int 10 :: .int 7 :: rest)) := by
  have m1 := mg_mk_base (o 53) 3 (.int 0)
  have m2 : mg_Mk (fun s => mg_fil (o 50) 10 1 (mg_g1 (o 53) 3 (.int 0)) s 10) 11 40 := mg_mk_step (c := o 50) (N := 10) m1
  have m3 : mg_Mk (fun s => mg_fil (o 51) 7 11 (fun s => mg_fil (o 50) 10 1 (mg_g1 (o 53) 3 (.int 0)) s 10) s 7) 78 287 := mg_mk_step (c := o 51) (N := 7) m2
  refine mg_mnaW3 (G := fun s => mg_fil (o 51) 7 11 (fun s => mg_fil (o 50) 10 1 (mg_g1 (o 53) 3 (.int 0)) s 10) s 7) (w := 78) (sl := 287) hx hb hown hclink hAr.2.1.2 m3 (mg_sk_step m2 (mg_sk_step m1 (mg_sk_base _ _ _))) (fun vm₁ hal hl hh => ?_) hcells hslots hdg (fun T1 hT1 => ?_)
  · obtain ⟨k4, d1, d2⟩ := mg_kAl hal hAr.2.1.1
    obtain ⟨k5, a1, a2⟩ := mg_kAl hal hAr.1.1
    obtain ⟨c9, h9⟩ := hAr.2.2.2.1
    obtain ⟨k6, b1, b2⟩ := mg_kAl hal h9.1
    have w1 : mg_Wp vm₁ e (o 53) [3] (mg_g1 (o 53) 3 (.int 0)) 1 3 := mg_wp_base (type := .int) (M := 3) (by decide) b1 b2 (by decide) (hl 3 (by omega)) (hh _ (by decide)) rfl rfl
    have w2 : mg_Wp vm₁ e (o 50) [10, 3] (fun s => mg_fil (o 50) 10 1 (mg_g1 (o 53) 3 (.int 0)) s 10) 11 40 := mg_wp_step (N := 10) (w := 1) (sl := 3) m1 w1 (by decide) a1 a2 rfl (by decide) (by decide) (hl 10 (by omega)) (hh _ (by decide))
    exact mg_wp_step (N := 7) (w := 11) (sl := 40) m2 w2 (by decide) d1 d2 rfl (by decide) (by decide) (hl 7 (by omega)) (hh _ (by decide))
  · generalize hg2 : (fun s => mg_fil (o 50) 10 1 (mg_g1 (o 53) 3 (.int 0)) s 10) = g2 at m2 m3
    obtain ⟨f1, f2, -, -⟩ := mg_fil_facts (c := o 51) (N := 7) m2 T1 7
    have hold : ∀ q : Nat, q < H.size → (mg_fil (o 51) 7 11 g2 T1 7).heap[q]? = H[q]? := fun q hq => by
      rw [mg_fil_old m2 T1 (by rw [hT1]; exact hq) 7, hT1]
    have hrow : ∀ j, j < 7 → (mg_fil (o 51) 7 11 g2 T1 7).heap[H.size + 1 + j * 11]? = some (mg_ocl (o 50) 10 (H.size + 1 + j * 11) 1 10) := fun j hj => by
      have h := mg_fil_row (c := o 51) (N := 7) m2 T1 (x := 0) hj (by omega)
      have h3 := (mg_fil_facts (c := o 51) (N := 7) m2 T1 j).1
      have h2 := (mg_fil_facts (c := o 50) (N := 10) m1 (mg_fil (o 51) 7 11 g2 T1 j) 10).2.1
      rw [hT1] at h h3
      rw [Nat.add_zero, Nat.add_zero] at h
      rw [h3] at h2 h
      rw [h, ← hg2]
      rw [← hg2] at h2
      exact h2
    have hcell : ∀ j x, j < 7 → x < 10 → (mg_fil (o 51) 7 11 g2 T1 7).heap[H.size + 1 + j * 11 + (1 + x)]? = some (arrV (o 53) 3 (fun _ => .int 0)) := fun j x hj hx => by
      have h := mg_fil_row (c := o 51) (N := 7) m2 T1 (x := 1 + x) hj (by omega)
      have h2 := mg_fil_row (c := o 50) (N := 10) m1 (mg_fil (o 51) 7 11 g2 T1 j) (x := 0) hx (by omega)
      rw [hT1] at h
      rw [h, ← hg2]
      rw [← hg2] at h2
      rw [Nat.mul_one, Nat.add_zero, Nat.add_zero, Nat.add_assoc] at h2
      show (mg_fil (o 50) 10 1 (mg_g1 (o 53) 3 (.int 0)) _ 10).heap[_]? = _
      rw [h2]
      exact State.heap_pushCell_size _ _
    rw [hT1] at f1 f2
    have inv : ∀ (t j : Nat) (q : Nat × va_E), mg_fT o H.size (fun y => H.size + 1 + y * 11) (fun k => H.size + 1 + (k / 10) * 11 + (1 + k % 10)) t j = some q → (t = 0 ∧ j = 0 ∧ q = (H.size, mg_eq (o 51) 7 (fun y => some (H.size + 1 + y * 11)))) ∨ (t = 1 ∧ j < 7 ∧ q = (H.size + 1 + j * 11, mg_eq (o 50) 10 (fun x => some (H.size + 1 + ((10 * j + x) / 10) * 11 + (1 + (10 * j + x) % 10))))) ∨ (t = 2 ∧ j < 70 ∧ q = (H.size + 1 + (j / 10) * 11 + (1 + j % 10), mg_ei (o 53) 3 (fun _ => 0))) := by
      intro t j q h
      match t, h with
      | 0, h =>
        by_cases hj : j = 0
        · subst hj; cases h; exact Or.inl ⟨rfl, rfl, rfl⟩
        · have h2 := (if_neg hj).symm.trans h
          cases h2
      | 1, h =>
        by_cases hj : j < 7
        · have h2 := (if_pos hj).symm.trans h
          cases h2
          exact Or.inr (Or.inl ⟨rfl, hj, rfl⟩)
        · have h2 := (if_neg hj).symm.trans h
          cases h2
      | 2, h =>
        by_cases hj : j < 70
        · have h2 := (if_pos hj).symm.trans h
          cases h2
          exact Or.inr (Or.inr ⟨rfl, hj, rfl⟩)
        · have h2 := (if_neg hj).symm.trans h
          cases h2
      | _ + 3, h => cases h
    refine kk H.size (fun y => H.size + 1 + y * 11) (fun k => H.size + 1 + (k / 10) * 11 + (1 + k % 10)) _ (mg_Vpush hw hA (by rw [f1]; omega) hold (fun t j q h => ?_) (fun t j t' j' q q' h h' e => ?_))
    · rcases inv t j q h with ⟨rfl, rfl, rfl⟩ | ⟨rfl, hj, rfl⟩ | ⟨rfl, hj, rfl⟩
      · refine ⟨?_, Nat.le_refl _⟩
        show _ = some (vp_cell _ _)
        rw [f2, vp_cell_q]
        exact congrArg some (mg_arrV_congr (fun j hj => by simp [hj]))
      · refine ⟨?_, by show H.size ≤ _; omega⟩
        show _ = some (vp_cell _ _)
        rw [hrow j hj, vp_cell_q]
        refine congrArg some (mg_arrV_congr (fun x hx => ?_))
        rw [if_pos hx]
        refine congrArg (fun z => va_rf (some z)) ?_
        omega
      · refine ⟨?_, by show H.size ≤ _; omega⟩
        show _ = some (vp_cell _ _)
        rw [vp_cell_i]
        exact hcell (j / 10) (j % 10) (by omega) (by omega)
    · rcases inv t j q h with ⟨a1, a2, a3⟩ | ⟨a1, a2, a3⟩ | ⟨a1, a2, a3⟩ <;> rcases inv t' j' q' h' with ⟨b1, b2, b3⟩ | ⟨b1, b2, b3⟩ | ⟨b1, b2, b3⟩ <;> rw [a3, b3] at e <;> simp only at e <;> omega
end MN
