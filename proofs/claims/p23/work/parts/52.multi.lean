/-! ===== new arrays of arrays, of any depth ===== -/
theorem mg_arrV_congr {c : ClassId} {N : Nat} {f g : Nat → Value} (h : ∀ j, j < N → f j = g j) : arrV c N f = arrV c N g := by
  unfold arrV
  congr 1
  apply Array.ext
  · simp
  · intro i h1 h2
    simp only [Array.getElem_ofFn]
    exact h i (by simpa using h1)
def mg_ocl (c : ClassId) (N h0 w i : Nat) : Cell := arrV c N (fun j => va_rf (if j < i then some (h0 + 1 + j * w) else none))
theorem mg_ocl_size (c : ClassId) (N h0 w i : Nat) : (mg_ocl c N h0 w i).slots.size = N := by unfold mg_ocl; rw [arrV_size]
theorem mg_ocl_step (c : ClassId) (N h0 w i : Nat) : (mg_ocl c N h0 w i).setSlot i (.ref (h0 + 1 + i * w)) = mg_ocl c N h0 w (i + 1) := by
  unfold mg_ocl
  rw [arrV_store]
  refine congrArg (arrV c N) (funext fun j => ?_)
  by_cases e : j = i
  · subst e
    simp [updV, va_rf]
  · by_cases h : j < i
    · simp [updV, e, h, Nat.lt_succ_of_lt h]
    · simp [updV, e, h, show ¬ j < i + 1 by omega]
def mg_fil (c : ClassId) (N w : Nat) (g : State → State) (s : State) : Nat → State
  | 0 => s.pushCell (mg_ocl c N s.heap.size w 0)
  | i + 1 => (g (mg_fil c N w g s i)).setCell s.heap.size (mg_ocl c N s.heap.size w (i + 1))
/-- a maker: it lays w cells of sl slots on top, and is blind to the frame -/
def mg_Mk (g : State → State) (w sl : Nat) : Prop := ∀ s : State, (g s).heap.size = s.heap.size + w ∧ (∀ a : Nat, a < s.heap.size → (g s).heap[a]? = s.heap[a]?) ∧ (g s).vm = s.vm ∧ (g s).slotsUsed = s.slotsUsed + sl ∧ ∀ f : JFrame, g (s.setTop f) = (g s).setTop f
section MK
variable {c : ClassId} {N w sl : Nat} {g : State → State}
theorem mg_fil_facts (hg : mg_Mk g w sl) (s : State) : ∀ i, (mg_fil c N w g s i).heap.size = s.heap.size + 1 + i * w ∧ (mg_fil c N w g s i).heap[s.heap.size]? = some (mg_ocl c N s.heap.size w i) ∧ (mg_fil c N w g s i).vm = s.vm ∧ (mg_fil c N w g s i).slotsUsed = s.slotsUsed + N + i * sl
  | 0 => ⟨by simp [mg_fil], by simp [mg_fil], rfl, by simp [mg_fil, mg_ocl_size]⟩
  | i + 1 => by
    obtain ⟨a, b, d, u⟩ := mg_fil_facts hg s i
    obtain ⟨g1, g2, g3, g4, -⟩ := hg (mg_fil c N w g s i)
    have hb' : (g (mg_fil c N w g s i)).heap[s.heap.size]? = some (mg_ocl c N s.heap.size w i) := by rw [g2 _ (by rw [a]; omega)]; exact b
    refine ⟨?_, State.heap_setCell_self hb', ?_, ?_⟩
    · simp [mg_fil, State.setCell, g1, a, Nat.succ_mul]; omega
    · show (g (mg_fil c N w g s i)).vm = _
      rw [g3, d]
    · show (g (mg_fil c N w g s i)).slotsUsed = _
      rw [g4, u, Nat.succ_mul]; omega
theorem mg_fil_top (hg : mg_Mk g w sl) (s : State) (f : JFrame) : ∀ i, mg_fil c N w g (s.setTop f) i = (mg_fil c N w g s i).setTop f
  | 0 => rfl
  | i + 1 => by
    simp only [mg_fil, mg_fil_top hg s f i]
    rw [(hg (mg_fil c N w g s i)).2.2.2.2 f]
    simp only [State.heap_setTop, State.setCell_setTop]
theorem mg_fil_old (hg : mg_Mk g w sl) (s : State) {a : Nat} (ha : a < s.heap.size) : ∀ i, (mg_fil c N w g s i).heap[a]? = s.heap[a]?
  | 0 => State.heap_pushCell_of_lt _ _ ha
  | i + 1 => by
    have f1 := (mg_fil_facts (c := c) (N := N) hg s i).1
    show ((g (mg_fil c N w g s i)).setCell s.heap.size _).heap[a]? = _
    rw [State.heap_setCell_other (Nat.ne_of_gt ha), (hg (mg_fil c N w g s i)).2.1 a (by rw [f1]; omega)]
    exact mg_fil_old hg s ha i
theorem mg_fil_in (hg : mg_Mk g w sl) (s : State) (j : Nat) {a : Nat} (h1 : s.heap.size + 1 + j * w ≤ a) (h2 : a < s.heap.size + 1 + (j + 1) * w) : ∀ i, (mg_fil c N w g s (j + 1 + i)).heap[a]? = (g (mg_fil c N w g s j)).heap[a]?
  | 0 => by
    show ((g (mg_fil c N w g s j)).setCell s.heap.size _).heap[a]? = _
    rw [State.heap_setCell_other (show s.heap.size ≠ a by omega)]
  | i + 1 => by
    have f1 := (mg_fil_facts (c := c) (N := N) hg s (j + 1 + i)).1
    show ((g (mg_fil c N w g s (j + 1 + i))).setCell s.heap.size _).heap[a]? = _
    have hm : (j + 1) * w ≤ (j + 1 + i) * w := Nat.mul_le_mul_right _ (by omega)
    rw [State.heap_setCell_other (show s.heap.size ≠ a by omega), (hg (mg_fil c N w g s (j + 1 + i))).2.1 a (by rw [f1]; omega)]
    exact mg_fil_in hg s j h1 h2 i
theorem mg_mk_step (hg : mg_Mk g w sl) : mg_Mk (fun s => mg_fil c N w g s N) (1 + N * w) (N + N * sl) := fun s => by
  obtain ⟨a, b, d, u⟩ := mg_fil_facts (c := c) (N := N) hg s N
  exact ⟨by rw [a]; omega, fun x hx => mg_fil_old hg s hx N, d, by rw [u]; omega, fun f => mg_fil_top hg s f N⟩
def mg_g1 (c : ClassId) (M : Nat) (dv : Value) : State → State := fun s => s.pushCell (arrV c M (fun _ => dv))
theorem mg_mk_base (c : ClassId) (M : Nat) (dv : Value) : mg_Mk (mg_g1 c M dv) 1 M := fun s =>
  ⟨by simp [mg_g1], fun a ha => State.heap_pushCell_of_lt _ _ ha, rfl, by simp [mg_g1, arrV_size], fun f => rfl⟩
end MK
def mg_SK (g : State → State) (w sl : Nat) : Prop := ∀ (p : Program) (l : Launch) (e : Env) (R : Room) (s : State) (m : MethodId) (args : Array Value) (below : List Frame) (meth : Method) (c : Code) (T : State) (locs : List Loc) (cells slots : Nat), Stand p l e R s m args below meth c T locs cells slots → Stand p l e R s m args below meth c (g T) locs (cells + w) (slots + sl)
theorem mg_sk_base (c : ClassId) (M : Nat) (dv : Value) : mg_SK (mg_g1 c M dv) 1 M := fun p l e R s m args below meth c0 T locs cells slots X => by
  have h := X.pushed (arrV c M (fun _ => dv))
  rw [arrV_size] at h
  exact h
theorem mg_sk_step {c : ClassId} {N w sl : Nat} {g : State → State} (hg : mg_Mk g w sl) (hS : mg_SK g w sl) : mg_SK (fun s => mg_fil c N w g s N) (1 + N * w) (N + N * sl) := fun p l e R s m args below meth c0 T locs cells slots X => by
  have key : ∀ i, Stand p l e R s m args below meth c0 (mg_fil c N w g T i) locs (cells + 1 + i * w) (slots + N + i * sl) := by
    intro i
    induction i with
    | zero =>
      have h := X.pushed (mg_ocl c N T.heap.size w 0)
      rw [mg_ocl_size] at h
      simpa [mg_fil] using h
    | succ i ih =>
      obtain ⟨f1, f2, f3, f4⟩ := mg_fil_facts (c := c) (N := N) hg T i
      have hcell : (g (mg_fil c N w g T i)).heap[T.heap.size]? = some (mg_ocl c N T.heap.size w i) := by rw [(hg _).2.1 _ (by rw [f1]; omega)]; exact f2
      have h := (hS p l e R s m args below meth c0 _ locs _ _ ih).stored hcell i (.ref (T.heap.size + 1 + i * w))
      rw [mg_ocl_step] at h
      have h2 := Stand.dropFresh (locs := locs) (J := [⟨T.heap.size, i⟩]) h (fun x hx => by rw [List.mem_singleton.mp hx]; exact X.heapGrown)
      have e1 : cells + 1 + (i + 1) * w = cells + 1 + i * w + w := by rw [Nat.succ_mul]; omega
      have e2 : slots + N + (i + 1) * sl = slots + N + i * sl + sl := by rw [Nat.succ_mul]; omega
      rw [e1, e2]
      exact h2
  have h := key N
  rw [show cells + (1 + N * w) = cells + 1 + N * w by omega, show slots + (N + N * sl) = slots + N + N * sl by omega]
  exact h
section MW
variable {E : CtlPost} {e : Env} {d : Bool} {acts : List Action} {s : State}
theorem mg_wpnew {c comp : ClassId} {k : Class} {type : FieldType} {len : Nat} {init : Value} (hk : s.vm.classes[c]? = some k) (hkind : k.kind = .array comp type)
    (hlimit : ¬ len > e.platform.arrayLengthLimit) (hheap : ¬ len * componentBytes type > e.platform.maxHeapBytes) (hfit : fits type init = true) (hdef : init.isDefault = true) {Q : Addr → Pre}
    (h1 : s.heap.size < e.platform.maxCells) (h2 : s.slotsUsed + len ≤ e.platform.maxSlots)
    (hq : Q s.heap.size d acts (s.pushCell { cls := c, slots := Array.replicate len init, vm := .none })) :
    wp (Jvm.newArray c len init) Q E e d acts s := by
  have hfits : ∀ i v, (Array.replicate len init)[i]? = some v → s.fitsSlot c .none i v = true := by
    intro i v hv
    simp only [Array.getElem?_replicate] at hv
    split at hv
    · cases hv; simp [State.fitsSlot, State.slotType?, hk, hkind, hfit]
    · cases hv
  have hda : allocActs (Array.replicate len init) s.heap.size acts = acts := by
    have hall : ((Array.replicate len init).all (·.isDefault)) = true := by
      rw [Array.all_replicate]; split <;> simp [hdef]
    unfold allocActs; rw [if_pos hall]
  simp only [Jvm.newArray, Jvm.arrayFits, wp_bind', W.ask, W.ite, hlimit, if_false, wp_pure', W.theClass, hk, hkind, hheap, W.alloc, W.stop, Option.some.injEq, exists_eq_left', Array.size_replicate, hda]
  rw [if_neg (by omega)]
  exact ⟨h1, h2, hfits, hq⟩
end MW
/-- 'make c counts' lays what g lays -/
def mg_Wp (V : Vm) (e : Env) (c : ClassId) (counts : List Int32) (g : State → State) (w sl : Nat) : Prop := ∀ (E : CtlPost) (d : Bool) (acts : List Action) (s : State) (Q : Addr → Pre), s.vm = V → s.heap.size + w ≤ e.platform.maxCells → s.slotsUsed + sl ≤ e.platform.maxSlots → (∀ d' acts', Q s.heap.size d' acts' (g s)) → wp (Op.multianewarray.make c counts) Q E e d acts s
theorem mg_wp_base {V : Vm} {e : Env} {c comp : ClassId} {k : Class} {type : FieldType} {m : Int32} {M : Nat} (hM : m.toNatClampNeg = M) (hk : V.classes[c]? = some k) (hkind : k.kind = .array comp type) (hm : ¬ m < 0)
    (hl : ¬ M > e.platform.arrayLengthLimit) (hh : ¬ M * componentBytes type > e.platform.maxHeapBytes) (hdf : fits type (defaultValue type) = true) (hdd : (defaultValue type).isDefault = true) : mg_Wp V e c [m] (mg_g1 c M (defaultValue type)) 1 M := by
  intro E d acts s Q hV h1 h2 hq
  subst hV
  subst hM
  rw [Op.multianewarray.make]
  simp only [wp_bind', W.ite, hm, if_false, wp_pure', W.theClass, hk, hkind, Option.some.injEq, exists_eq_left']
  refine mg_wpnew hk hkind hl hh hdf hdd (by omega) h2 ?_
  rw [arrV_new]
  exact hq _ _
theorem mg_refFits {t : FieldType} (h : t.isReference = true) (v : Value) (hv : v = .null ∨ ∃ a, v = .ref a) : fits t v = true := by
  rcases hv with rfl | ⟨a, rfl⟩ <;> cases t <;> simp [FieldType.isReference] at h <;> rfl
theorem mg_wp_step {V : Vm} {e : Env} {c comp : ClassId} {k : Class} {t0 : FieldType} {n m : Int32} {ms : List Int32} {N : Nat} {g : State → State} {w sl : Nat} (hg : mg_Mk g w sl) (hW : mg_Wp V e comp (m :: ms) g w sl) (hN : n.toNatClampNeg = N) (hk : V.classes[c]? = some k) (hkind : k.kind = .array comp t0) (href : t0.isReference = true) (hn : ¬ n < 0) (hfind : (m :: ms).find? (· < 0) = none)
    (hl : ¬ N > e.platform.arrayLengthLimit) (hh : ¬ N * componentBytes t0 > e.platform.maxHeapBytes) : mg_Wp V e c (n :: m :: ms) (fun s => mg_fil c N w g s N) (1 + N * w) (N + N * sl) := by
  intro E d acts s Q hV h1 h2 hq
  subst hV
  subst hN
  rw [Op.multianewarray.make]
  simp only [wp_bind', W.ite, hn, if_false, wp_pure', W.theClass, hk, hkind, Option.some.injEq, exists_eq_left']
  refine mg_wpnew hk hkind hl hh (mg_refFits href _ (Or.inl rfl)) rfl (by omega) (by omega) ?_
  simp only [hfind]
  rw [ite_self, wp_bind', Std.Legacy.Range.forIn_eq_forIn_range']
  have hsz : ([:n.toNatClampNeg] : Std.Legacy.Range).size = n.toNatClampNeg := by simp [Std.Legacy.Range.size]
  rw [hsz]
  show wp (forIn (List.range' 0 n.toNatClampNeg 1) PUnit.unit _) _ E e d acts _
  refine wp_forIn_inv (fun rest s' => ∃ i, i ≤ n.toNatClampNeg ∧ rest = List.range' i (n.toNatClampNeg - i) ∧ s' = mg_fil c n.toNatClampNeg w g s i) _ _ ⟨0, Nat.zero_le _, rfl, ?_⟩ ?_ ?_
  · show s.pushCell _ = s.pushCell _
    congr 1
    rw [arrV_new]
    unfold mg_ocl
    refine congrArg (arrV c n.toNatClampNeg) (funext fun j => ?_)
    simp [va_rf]
  · rintro x rest s' d' acts' Q' ⟨i, hi, hl', rfl⟩ hnext
    have hlt : i < n.toNatClampNeg := by
      rcases Nat.lt_or_ge i n.toNatClampNeg with h | h
      · exact h
      · rw [show n.toNatClampNeg - i = 0 from by omega] at hl'; simp at hl'
    obtain ⟨rfl, hrest⟩ : x = i ∧ rest = List.range' (i + 1) (n.toNatClampNeg - (i + 1)) := by
      rw [show n.toNatClampNeg - i = (n.toNatClampNeg - (i + 1)) + 1 from by omega, List.range'_succ] at hl'
      exact ⟨(List.cons.inj hl').1, (List.cons.inj hl').2⟩
    obtain ⟨f1, f2, f3, f4⟩ := mg_fil_facts (c := c) (N := n.toNatClampNeg) hg s x
    have hmul : x * w + w ≤ n.toNatClampNeg * w := by
      have := Nat.mul_le_mul_right w (show x + 1 ≤ n.toNatClampNeg from hlt)
      rw [Nat.succ_mul] at this; exact this
    have hmul2 : x * sl + sl ≤ n.toNatClampNeg * sl := by
      have := Nat.mul_le_mul_right sl (show x + 1 ≤ n.toNatClampNeg from hlt)
      rw [Nat.succ_mul] at this; exact this
    simp only [wp_bind']
    refine hW _ _ _ _ _ f3 (by rw [f1]; omega) (by rw [f4]; omega) (fun d2 acts2 => ?_)
    obtain ⟨g1, g2, g3, g4, -⟩ := hg (mg_fil c n.toNatClampNeg w g s x)
    simp only [wp_bind', W.writeLoc, wp_pure']
    refine ⟨mg_ocl c n.toNatClampNeg s.heap.size w x, by rw [g2 _ (by rw [f1]; omega)]; exact f2, by unfold mg_ocl arrV; simp, by rw [mg_ocl_size]; exact hlt, ?_, hnext _ _ _ ⟨x + 1, hlt, hrest, ?_⟩⟩
    · show State.fitsSlot _ c .none _ _ = true
      simp [State.fitsSlot, State.slotType?, g3, f3, hk, hkind, mg_refFits href _ (Or.inr ⟨_, rfl⟩)]
    · rw [f1, mg_ocl_step]; rfl
  · rintro s' d' acts' ⟨i, hi, hl', rfl⟩
    have hiN : i = n.toNatClampNeg := by
      rcases Nat.lt_or_ge i n.toNatClampNeg with h | h
      · rw [show n.toNatClampNeg - i = (n.toNatClampNeg - (i + 1)) + 1 from by omega, List.range'_succ] at hl'; cases hl'
      · omega
    subst hiN
    simp only [wp_pure']
    exact hq _ _
