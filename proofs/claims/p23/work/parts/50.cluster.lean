/-! ===== a world of clusters: each a partial map of places to cells ===== -/
abbrev mg_F : Type := Nat → Nat → Option (Nat × va_E)
abbrev mg_V : Type := List mg_F
def mg_fset (F : mg_F) (t j : Nat) (v : Nat × va_E) : mg_F := fun t' j' => if t' = t ∧ j' = j then some v else F t' j'
def mg_Vh (D : va_G) (L : mg_V) (H : Heap) : Prop := ∀ (k : Nat) (F : mg_F) (t j : Nat) (q : Nat × va_E), L[k]? = some F → F t j = some q → va_at D vwCl q H
def mg_Vd (A : Nat → Prop) (L : mg_V) : Prop := (∀ (k k' : Nat) (F F' : mg_F) (t j t' j' : Nat) (q q' : Nat × va_E), L[k]? = some F → L[k']? = some F' → F t j = some q → F' t' j' = some q' → q.1 = q'.1 → k = k' ∧ t = t' ∧ j = j') ∧ ∀ (k : Nat) (F : mg_F) (t j : Nat) (q : Nat × va_E), L[k]? = some F → F t j = some q → A q.1
def mg_Vo (D : va_G) (A : Nat → Prop) (H0 H : Heap) (locs : List Loc) (L : mg_V) : Prop := mg_Vh D L H ∧ mg_Vd A L ∧ va_S A H0 H locs
def mg_VA (L : mg_V) (sz : Nat) : Nat → Prop := fun q => (∃ (k : Nat) (F : mg_F) (t j : Nat) (e : va_E), L[k]? = some F ∧ F t j = some (q, e)) ∨ sz ≤ q
theorem mg_fset_at {F : mg_F} {t j : Nat} {v : Nat × va_E} : mg_fset F t j v t j = some v := if_pos ⟨rfl, rfl⟩
theorem mg_fset_ne {F : mg_F} {t j t' j' : Nat} {v : Nat × va_E} (h : ¬ (t' = t ∧ j' = j)) : mg_fset F t j v t' j' = F t' j' := if_neg h
section MV1
variable {D : va_G} {A : Nat → Prop} {H0 H H1 : Heap} {locs : List Loc} {L : mg_V} {F : mg_F}
theorem mg_at1 (hw : mg_Vh D L H) (k : Nat) {t j : Nat} {q : Nat × va_E} (hk : L[k]? = some F) (hF : F t j = some q) : va_P D vwCl [q] H := by
  intro i x hx
  cases i with
  | zero => cases hx; exact hw k F t j _ hk hF
  | succ i => simp at hx
theorem mg_Vset {k t j a slot : Nat} {e0 e : va_E} (hw : mg_Vo D A H0 H locs L) (hk : L[k]? = some F) (hF : F t j = some (a, e0)) (he : va_at D vwCl (a, e) H1) (z : H1.size = H.size) (oq : ∀ q : Nat, q ≠ a → H1[q]? = H[q]?) : mg_Vo D A H0 H1 (locs ++ [⟨a, slot⟩]) (L.set k (mg_fset F t j (a, e))) := by
  obtain ⟨h1, h2, h3⟩ := hw
  have hl := (List.getElem?_eq_some_iff.mp hk).1
  have key : ∀ (k' : Nat) (F' : mg_F) (t' j' : Nat) (q : Nat × va_E), (L.set k (mg_fset F t j (a, e)))[k']? = some F' → F' t' j' = some q → ∃ (G : mg_F) (q0 : Nat × va_E), L[k']? = some G ∧ G t' j' = some q0 ∧ q0.1 = q.1 ∧ ((k' = k ∧ t' = t ∧ j' = j ∧ q = (a, e)) ∨ q0 = q) := by
    intro k' F' t' j' q hq hq2
    by_cases hkk : k' = k
    · subst hkk
      rw [List.getElem?_set_self hl] at hq
      cases hq
      by_cases ht : t' = t ∧ j' = j
      · obtain ⟨rfl, rfl⟩ := ht
        rw [mg_fset_at] at hq2
        cases hq2
        exact ⟨F, _, hk, hF, rfl, Or.inl ⟨rfl, rfl, rfl, rfl⟩⟩
      · rw [mg_fset_ne ht] at hq2
        exact ⟨F, q, hk, hq2, rfl, Or.inr rfl⟩
    · rw [List.getElem?_set_ne (Ne.symm hkk)] at hq
      exact ⟨F', q, hq, hq2, rfl, Or.inr rfl⟩
  refine ⟨fun k' F' t' j' q hq hq2 => ?_, ⟨fun k1 k2 F1 F2 t1 j1 t2 j2 q1 q2 a1 a2 b1 b2 hq => ?_, fun k' F' t' j' q hq hq2 => ?_⟩, h3.put z oq (h2.2 k F t j _ hk hF)⟩
  · obtain ⟨G, q0, g1, g2, g3, g4⟩ := key k' F' t' j' q hq hq2
    by_cases hpos : k' = k ∧ t' = t ∧ j' = j
    · rcases g4 with ⟨-, -, -, rfl⟩ | rfl
      · exact he
      · obtain ⟨rfl, rfl, rfl⟩ := hpos
        rw [List.getElem?_set_self hl] at hq
        cases hq
        rw [mg_fset_at] at hq2
        cases hq2
        exact he
    · rcases g4 with ⟨e1, e2, e3, -⟩ | rfl
      · exact absurd ⟨e1, e2, e3⟩ hpos
      · exact (h1 k' G t' j' q0 g1 g2).kept (oq q0.1 (fun z9 => hpos (h2.1 k' k G F t' j' t j q0 (a, e0) g1 hk g2 hF z9)))
  · obtain ⟨G1, p1, c1, c2, c3, -⟩ := key k1 F1 t1 j1 q1 a1 b1
    obtain ⟨G2, p2, d1, d2, d3, -⟩ := key k2 F2 t2 j2 q2 a2 b2
    exact h2.1 k1 k2 G1 G2 t1 j1 t2 j2 p1 p2 c1 d1 c2 d2 (c3.trans (hq.trans d3.symm))
  · obtain ⟨G, q0, g1, g2, g3, -⟩ := key k' F' t' j' q hq hq2
    rw [← g3]
    exact h2.2 k' G t' j' q0 g1 g2
/-- new cells: a cluster more -/
theorem mg_Vpush {G : mg_F} (hw : mg_Vo D A H0 H locs L) (hA : ∀ q, H0.size ≤ q → A q) (z : H.size ≤ H1.size) (o1 : ∀ q : Nat, q < H.size → H1[q]? = H[q]?) (hG : ∀ (t j : Nat) (q : Nat × va_E), G t j = some q → va_at D vwCl q H1 ∧ H.size ≤ q.1) (hd : ∀ (t j t' j' : Nat) (q q' : Nat × va_E), G t j = some q → G t' j' = some q' → q.1 = q'.1 → t = t' ∧ j = j') : mg_Vo D A H0 H1 locs (L ++ [G]) := by
  obtain ⟨h1, h2, h3⟩ := hw
  have key : ∀ (k : Nat) (F : mg_F), (L ++ [G])[k]? = some F → (L[k]? = some F) ∨ (k = L.length ∧ F = G) := by
    intro k F hF
    by_cases hl : k < L.length
    · rw [List.getElem?_append_left hl] at hF; exact Or.inl hF
    · rw [List.getElem?_append_right (by omega)] at hF
      have hz : k - L.length < 1 := (List.getElem?_eq_some_iff.mp hF).1
      rw [show k - L.length = 0 by omega] at hF
      cases hF
      exact Or.inr ⟨by omega, rfl⟩
  refine ⟨fun k F t j q hq hq2 => ?_, ⟨fun k1 k2 F1 F2 t1 j1 t2 j2 q1 q2 a1 a2 b1 b2 hq => ?_, fun k F t j q hq hq2 => ?_⟩, ⟨Nat.le_trans h3.1 z, fun x g1 g2 => (o1 x (Nat.lt_of_lt_of_le g1 h3.1)).trans (h3.2.1 x g1 g2), h3.2.2⟩⟩
  · rcases key k F hq with h | ⟨-, rfl⟩
    · exact (h1 k F t j q h hq2).kept (o1 q.1 (h1 k F t j q h hq2).lt)
    · exact (hG t j q hq2).1
  · rcases key k1 F1 a1 with c1 | ⟨c1, rfl⟩ <;> rcases key k2 F2 a2 with c2 | ⟨c2, rfl⟩
    · exact h2.1 k1 k2 F1 F2 t1 j1 t2 j2 q1 q2 c1 c2 b1 b2 hq
    · have := (h1 k1 F1 t1 j1 q1 c1 b1).lt
      have := (hG t2 j2 q2 b2).2
      omega
    · have := (h1 k2 F2 t2 j2 q2 c2 b2).lt
      have := (hG t1 j1 q1 b1).2
      omega
    · obtain ⟨e1, e2⟩ := hd t1 j1 t2 j2 q1 q2 b1 b2 hq
      exact ⟨by omega, e1, e2⟩
  · rcases key k F hq with h | ⟨-, rfl⟩
    · exact h2.2 k F t j q h hq2
    · exact hA _ (Nat.le_trans h3.1 (hG t j q hq2).2)
/-- the same cells, told otherwise -/
theorem mg_Vre {L' : mg_V} (hw : mg_Vo D A H0 H locs L) (hm : ∀ (k : Nat) (F : mg_F) (t j : Nat) (q : Nat × va_E), L'[k]? = some F → F t j = some q → ∃ (k' : Nat) (F' : mg_F) (t' j' : Nat), L[k']? = some F' ∧ F' t' j' = some q) (hd : ∀ (k k' : Nat) (F F' : mg_F) (t j t' j' : Nat) (q q' : Nat × va_E), L'[k]? = some F → L'[k']? = some F' → F t j = some q → F' t' j' = some q' → q.1 = q'.1 → k = k' ∧ t = t' ∧ j = j') : mg_Vo D A H0 H locs L' := by
  obtain ⟨h1, h2, h3⟩ := hw
  refine ⟨fun k F t j q hq hq2 => ?_, ⟨hd, fun k F t j q hq hq2 => ?_⟩, h3⟩
  · obtain ⟨k', F', t', j', g1, g2⟩ := hm k F t j q hq hq2
    exact h1 k' F' t' j' q g1 g2
  · obtain ⟨k', F', t', j', g1, g2⟩ := hm k F t j q hq hq2
    exact h2.2 k' F' t' j' q g1 g2
/-- some of the clusters, in any order -/
theorem mg_pick {L L' : mg_V} {is : List Nat} (hs : is.map (fun i => L[i]?) = L'.map some) {k : Nat} {F : mg_F} (h : L'[k]? = some F) : ∃ i, is[k]? = some i ∧ L[i]? = some F := by
  have h1 : (is.map (fun i => L[i]?))[k]? = some (some F) := by rw [hs, List.getElem?_map, h]; rfl
  rw [List.getElem?_map] at h1
  cases hi : is[k]? with
  | none => rw [hi] at h1; cases h1
  | some i => rw [hi] at h1; exact ⟨i, rfl, Option.some.inj h1⟩
theorem mg_Vsub {L' : mg_V} (hw : mg_Vo D A H0 H locs L) (is : List Nat) (hn : va_nd is = true) (hs : is.map (fun i => L[i]?) = L'.map some) : mg_Vo D A H0 H locs L' := by
  refine mg_Vre hw (fun k F t j q hq hq2 => ?_) (fun k k' F F' t j t' j' q q' a1 a2 b1 b2 hq => ?_)
  · obtain ⟨i, -, hi⟩ := mg_pick hs hq
    exact ⟨i, F, t, j, hi, hq2⟩
  · obtain ⟨i, c1, c2⟩ := mg_pick hs a1
    obtain ⟨i', d1, d2⟩ := mg_pick hs a2
    obtain ⟨e1, e2, e3⟩ := hw.2.1.1 i i' F F' t j t' j' q q' c2 d2 b1 b2 hq
    subst e1
    exact ⟨va_nd_inj is hn k k' i c1 d1, e2, e3⟩
theorem mg_VA_of (hw : mg_Vo D A H0 H locs L) (hA : ∀ q, H0.size ≤ q → A q) {L0 : mg_V} (is : List Nat) (hs : is.map (fun i => L[i]?) = L0.map some) : ∀ q, mg_VA L0 H.size q → A q := by
  intro q h
  rcases h with ⟨k, F, t, j, e, h1, h2⟩ | h
  · obtain ⟨i, -, hi⟩ := mg_pick hs h1
    exact hw.2.1.2 i F t j (q, e) hi h2
  · exact hA q (Nat.le_trans hw.2.2.1 h)
/-- the frame rule: the callee's clusters isC, the others isR -/
theorem mg_Vjoin {L0 Lr L1 : mg_V} (hh : mg_Vh D L H) (hdd : mg_Vd A L) (isC isR : List Nat) (hC : isC.map (fun i => L[i]?) = L0.map some) (hR : isR.map (fun i => L[i]?) = Lr.map some) (hn : va_nd isR = true) (hdis : ∀ i ∈ isR, i ∉ isC)
    (hk : ∀ q : Nat, q < H.size → ¬ mg_VA L0 H.size q → H1[q]? = H[q]?) (hF : ∀ q, mg_VA L0 H.size q → A q) (hP1 : mg_Vh D L1 H1) (hD1 : mg_Vd (mg_VA L0 H.size) L1) : mg_Vh D (Lr ++ L1) H1 ∧ mg_Vd A (Lr ++ L1) := by
  have apart : ∀ (k : Nat) (F : mg_F) (t j : Nat) (q : Nat × va_E), Lr[k]? = some F → F t j = some q → q.1 < H.size ∧ ¬ mg_VA L0 H.size q.1 := by
    intro k F t j q hq hq2
    obtain ⟨i, h1, h2⟩ := mg_pick hR hq
    have hl := (hh i F t j q h2 hq2).lt
    refine ⟨hl, fun h => ?_⟩
    rcases h with ⟨k2, F2, t2, j2, e, g1, g2⟩ | h
    · obtain ⟨i2, h3, h4⟩ := mg_pick hC g1
      obtain ⟨e1, -⟩ := hdd.1 i i2 F F2 t j t2 j2 q (q.1, e) h2 h4 hq2 g2 rfl
      subst e1
      exact hdis i (List.mem_of_getElem? h1) (List.mem_of_getElem? h3)
    · omega
  have key : ∀ (k : Nat) (F : mg_F), (Lr ++ L1)[k]? = some F → (Lr[k]? = some F ∧ k < Lr.length) ∨ (Lr.length ≤ k ∧ L1[k - Lr.length]? = some F) := by
    intro k F hF
    by_cases hl : k < Lr.length
    · rw [List.getElem?_append_left hl] at hF; exact Or.inl ⟨hF, hl⟩
    · rw [List.getElem?_append_right (by omega)] at hF; exact Or.inr ⟨by omega, hF⟩
  refine ⟨fun k F t j q hq hq2 => ?_, fun k1 k2 F1 F2 t1 j1 t2 j2 q1 q2 a1 a2 b1 b2 hq => ?_, fun k F t j q hq hq2 => ?_⟩
  · rcases key k F hq with ⟨h, -⟩ | ⟨-, h⟩
    · obtain ⟨i, -, h2⟩ := mg_pick hR h
      obtain ⟨g1, g2⟩ := apart k F t j q h hq2
      exact (hh i F t j q h2 hq2).kept (hk q.1 g1 g2)
    · exact hP1 _ F t j q h hq2
  · rcases key k1 F1 a1 with ⟨c1, l1⟩ | ⟨l1, c1⟩ <;> rcases key k2 F2 a2 with ⟨c2, l2⟩ | ⟨l2, c2⟩
    · obtain ⟨i1, g1, g2⟩ := mg_pick hR c1
      obtain ⟨i2, g3, g4⟩ := mg_pick hR c2
      obtain ⟨e1, e2, e3⟩ := hdd.1 i1 i2 F1 F2 t1 j1 t2 j2 q1 q2 g2 g4 b1 b2 hq
      subst e1
      exact ⟨va_nd_inj isR hn k1 k2 i1 g1 g3, e2, e3⟩
    · exact absurd (by rw [hq]; exact hD1.2 _ F2 t2 j2 q2 c2 b2) (apart k1 F1 t1 j1 q1 c1 b1).2
    · exact absurd (by rw [← hq]; exact hD1.2 _ F1 t1 j1 q1 c1 b1) (apart k2 F2 t2 j2 q2 c2 b2).2
    · obtain ⟨e1, e2, e3⟩ := hD1.1 _ _ F1 F2 t1 j1 t2 j2 q1 q2 c1 c2 b1 b2 hq
      exact ⟨by omega, e2, e3⟩
  · rcases key k F hq with ⟨h, -⟩ | ⟨-, h⟩
    · obtain ⟨i, -, h2⟩ := mg_pick hR h
      exact hdd.2 i F t j q h2 hq2
    · exact hF _ (hD1.2 _ F t j q h hq2)
end MV1
/-- the class, as a cluster -/
def mg_fC (g : Nat → Nat) (cI cZ : ClassId) (σ : mg_St) : mg_F := fun t j => if t = 0 then (mg_cW g cI cZ σ)[j]? else none
theorem mg_C_list {D : va_G} {A : Nat → Prop} {H0 H : Heap} {locs : List Loc} {L : mg_V} {g : Nat → Nat} {cI cZ : ClassId} {σ : mg_St} (hw : mg_Vo D A H0 H locs L) (k : Nat) (hk : L[k]? = some (mg_fC g cI cZ σ)) : mg_Wo D A H0 H locs (mg_cW g cI cZ σ) :=
  ⟨fun j q hq => hw.1 k _ 0 j q hk (by unfold mg_fC; rw [if_pos rfl]; exact hq), ⟨fun i j p q hi hj he => (hw.2.1.1 k k _ _ 0 i 0 j p q hk hk (by unfold mg_fC; rw [if_pos rfl]; exact hi) (by unfold mg_fC; rw [if_pos rfl]; exact hj) he).2.2, fun j q hq => hw.2.1.2 k _ 0 j q hk (by unfold mg_fC; rw [if_pos rfl]; exact hq)⟩, hw.2.2⟩
theorem mg_fC_inv {g : Nat → Nat} {cI cZ : ClassId} {σ : mg_St} {t j : Nat} {q : Nat × va_E} (h : mg_fC g cI cZ σ t j = some q) : t = 0 ∧ (mg_cW g cI cZ σ)[j]? = some q := by
  unfold mg_fC at h
  split at h
  · exact ⟨by assumption, h⟩
  · cases h
theorem mg_list_C {D : va_G} {A : Nat → Prop} {H : Heap} {g : Nat → Nat} {cI cZ : ClassId} {σ : mg_St} (hP : va_P D vwCl (mg_cW g cI cZ σ) H) (hD : va_D A (mg_cW g cI cZ σ)) : mg_Vh D [mg_fC g cI cZ σ] H ∧ mg_Vd A [mg_fC g cI cZ σ] := by
  have one : ∀ (k : Nat) (F : mg_F), ([mg_fC g cI cZ σ] : mg_V)[k]? = some F → k = 0 ∧ F = mg_fC g cI cZ σ := by
    intro k F h
    cases k with
    | zero => cases h; exact ⟨rfl, rfl⟩
    | succ k => simp at h
  refine ⟨fun k F t j q h h2 => ?_, fun k k' F F' t j t' j' q q' a1 a2 b1 b2 hq => ?_, fun k F t j q h h2 => ?_⟩
  · obtain ⟨-, rfl⟩ := one k F h
    exact hP j q (mg_fC_inv h2).2
  · obtain ⟨rfl, rfl⟩ := one k F a1
    obtain ⟨rfl, rfl⟩ := one k' F' a2
    obtain ⟨rfl, c1⟩ := mg_fC_inv b1
    obtain ⟨rfl, c2⟩ := mg_fC_inv b2
    exact ⟨rfl, rfl, hD.1 j j' q q' c1 c2 hq⟩
  · obtain ⟨-, rfl⟩ := one k F h
    exact hD.2 j q (mg_fC_inv h2).2
theorem mg_VA_C {g : Nat → Nat} {cI cZ : ClassId} {σ : mg_St} {sz q : Nat} : va_A (mg_cW g cI cZ σ) sz q ↔ mg_VA [mg_fC g cI cZ σ] sz q := by
  constructor
  · rintro (⟨k, e, h⟩ | h)
    · exact Or.inl ⟨0, _, 0, k, e, rfl, by unfold mg_fC; rw [if_pos rfl]; exact h⟩
    · exact Or.inr h
  · rintro (⟨k, F, t, j, e, h1, h2⟩ | h)
    · cases k with
      | zero => cases h1; exact Or.inl ⟨j, e, (mg_fC_inv h2).2⟩
      | succ k => simp at h1
    · exact Or.inr h
/-- contracts over clusters -/
def mg_Ty (o : Nat → Nat) : List (ClassId × FieldType) := [(o 53, .int), (o 54, .boolean), (o 50, .array .int), (o 51, .array (.array .int)), (o 52, .array .boolean)]
def mg_PreV (D : va_G) (o : Nat → Nat) (L : mg_V) (sz : Nat) (U : State) : Prop := U.heap.size = sz ∧ mg_Vh D L U.heap ∧ va_K D vwCl (mg_Ty o) U ∧ mg_Vd (fun _ => True) L ∧ mg_Old o (mg_VA L sz) U U.heap
def mg_QV (D : va_G) (L1 : (Nat → Nat → Nat) → mg_V) (A : Nat → Prop) (rv : (Nat → Nat → Nat) → Option Value) : Array Value → State → Outcome → State → Prop := fun _ st oc t => (∃ β : Nat → Nat → Nat, oc = .returned (rv β) ∧ mg_Vh D (L1 β) t.heap ∧ mg_Vd A (L1 β)) ∧ va_F A st t
def mg_CV (l : Launch) (y : MethodName) (ws : List Cond) (rm : Room) (D : va_G) (o : Nat → Nat) (L : mg_V) (sz : Nat) (av : List Value) (rv : (Nat → Nat → Nat) → Option Value) (L1 : (Nat → Nat → Nat) → mg_V) (mc ms : Nat) : Prop :=
  Met l y ws rm (va_Pc av (mg_PreV D o L sz)) (mg_QV D L1 (mg_VA L sz) rv) mc ms (mg_VA L sz)
theorem mg_Old.goV {o : Nat → Nat} {A B : Nat → Prop} {s U : State} {H : Heap} {locs : List Loc} (h : mg_Old o A s s.heap) (hS : va_S A s.heap H locs) (hB : ∀ q, B q → A q) (hW : s.WarmedH U.vm) (hU : U.heap = H) : mg_Old o B U U.heap := mg_Old.go h hS hB hW hU
theorem mg_blindV {D : va_G} {o : Nat → Nat} {L : mg_V} {sz : Nat} {av : List Value} : FrameBlind (va_Pc av (mg_PreV D o L sz)) := fun a U g mk q => ⟨q.1, q.2.1, q.2.2.1, va_K.moved (u := U) (U := U.calling g mk a) (Vm.Alike.refl U.vm) q.2.2.2.1, q.2.2.2.2.1, mg_Old.blind g mk a q.2.2.2.2.2⟩
theorem mg_Vd.weaken {A B : Nat → Prop} {L : mg_V} (h : mg_Vd A L) (hAB : ∀ q, A q → B q) : mg_Vd B L := ⟨h.1, fun k F t j q a b => hAB _ (h.2 k F t j q a b)⟩
theorem mg_Vd.self {A : Nat → Prop} {L : mg_V} {sz : Nat} (h : mg_Vd A L) : mg_Vd (mg_VA L sz) L := ⟨h.1, fun k F t j q a b => Or.inl ⟨k, F, t, j, q.2, a, b⟩⟩
section MV2
variable {p : Program} {l : Launch} {e : Env} {R : Room} {s : State} {m : MethodId} {args : Array Value} {below : List Frame} {meth : Method} {c : Code} {H : Heap} {locs : List Loc} {cells slots : Nat} {Q : State → Prop}
variable {cc : ByteArray} {pc : Nat} {ls : Array Slot} {rest : List Value} {D : va_G} {A : Nat → Prop} {L L0 L1 Lr : mg_V} {o : Nat → Nat} {F : mg_F}
theorem mg_preVv (hK : va_K D vwCl (mg_Ty o) s) (hO : mg_Old o A s s.heap) (hA : ∀ q, s.heap.size ≤ q → A q) (hw : mg_Vo D A s.heap H locs L0) {av : List Value} : FrameBlind (va_Pc av (mg_PreV D o L0 H.size)) ∧ ∀ U : State, U.heap = H → s.WarmedH U.vm → va_Pc av (mg_PreV D o L0 H.size) av.toArray U :=
  ⟨mg_blindV, fun U hU hW => ⟨rfl, by rw [hU], by rw [hU]; exact hw.1, va_K.moved hW.alike hK, hw.2.1.weaken (fun _ _ => trivial), mg_Old.go hO hw.2.2 (mg_VA_of hw hA (List.range L0.length) (by
    apply List.ext_getElem?
    intro i
    rw [List.getElem?_map, List.getElem?_map]
    by_cases h : i < L0.length
    · rw [List.getElem?_range h]; simp [h]
    · rw [List.getElem?_eq_none (by rw [List.length_range]; omega), List.getElem?_eq_none (by omega)]; rfl)) hW hU⟩⟩
theorem mg_recvV (hK : va_K D vwCl (mg_Ty o) s) (hw : mg_Vo D A s.heap H locs L0) (k : Nat) {t j a ci N : Nat} {C : String} {T : u_T} {fs : List Value} (hk : L0[k]? = some F) (hF : F t j = some (a, .inr (ci, fs))) (hc : vwCl[ci]? = some (C, T, N)) : ∃ cell : Cell, H[a]? = some cell ∧ cell.vm.isStatics = false ∧ s.vm.findClass C = some cell.cls :=
  va_recv (q := (C, T, N)) hK (mg_at1 hw.1 k hk hF) hc (q0 := 0) rfl
/-- a call -/
theorem mg_callV {mc ms : Nat} {rv : (Nat → Nat → Nat) → Option Value} {W1 : (Nat → Nat → Nat) → mg_V} {st0 : List Value} {a : Array Value} (hr : va_Run p l e R s m args below meth c H locs cells slots mc ms (F0 m pc ls st0) rest (mg_QV D W1 (mg_VA L0 H.size) rv a) (mg_VA L0 H.size)) (hw : mg_Vo D A s.heap H locs L) (hA : ∀ q, s.heap.size ≤ q → A q)
    (isC isR : List Nat) (hC : isC.map (fun i => L[i]?) = L0.map some) (hR : isR.map (fun i => L[i]?) = Lr.map some) (hn : va_nd isR = true) (hdis : ∀ i ∈ isR, i ∉ isC)
    (kk : ∀ (β : Nat → Nat → Nat) (H1 : Heap) (locs1 : List Loc), mg_Vo D A s.heap H1 locs1 (Lr ++ W1 β) → W p l e R s m args below meth c H1 locs1 (cells + mc) (slots + ms) Q (F0 m (pc + 3) ls ((rv β).toList ++ rest))) : W p l e R s m args below meth c H locs cells slots Q (F0 m pc ls st0) := by
  intro T hT X
  have hF := mg_VA_of hw hA isC hC
  obtain ⟨v, st₀, t, T', L9, h0, X', hL, e1, e2, ⟨⟨β, hv, hp, hd⟩, hf⟩, st⟩ := hr T hT X
  cases hv
  obtain ⟨-, k2, k3⟩ := vx_keep h0 e1 hw.2.2 (fun q _ h => hF q h) hF hL hf
  obtain ⟨g1, g2⟩ := mg_Vjoin hw.1 hw.2.1 isC isR hC hR hn hdis k2 hF (by rw [e1]; exact hp) hd
  obtain ⟨t2, a1, b1⟩ := kk β T'.heap (locs ++ L9) ⟨g1, g2, k3⟩ T' rfl X'
  exact ⟨t2, st t2 a1, b1⟩
/-- a call of the class -/
theorem mg_callC {mc ms : Nat} {rv : Option Value} {g : Nat → Nat} {cI cZ : ClassId} {σ σ1 : mg_St} {st0 : List Value} {a : Array Value} (hr : va_Run p l e R s m args below meth c H locs cells slots mc ms (F0 m pc ls st0) rest (mg_Q D (mg_cW g cI cZ σ1) (va_A (mg_cW g cI cZ σ) H.size) rv a) (va_A (mg_cW g cI cZ σ) H.size)) (hw : mg_Vo D A s.heap H locs L) (hA : ∀ q, s.heap.size ≤ q → A q)
    (k : Nat) (isR : List Nat) (hC : [k].map (fun i => L[i]?) = ([mg_fC g cI cZ σ] : mg_V).map some) (hR : isR.map (fun i => L[i]?) = Lr.map some) (hn : va_nd isR = true) (hdis : ∀ i ∈ isR, i ∉ [k])
    (kk : ∀ (H1 : Heap) (locs1 : List Loc), mg_Vo D A s.heap H1 locs1 (Lr ++ [mg_fC g cI cZ σ1]) → W p l e R s m args below meth c H1 locs1 (cells + mc) (slots + ms) Q (F0 m (pc + 3) ls (rv.toList ++ rest))) : W p l e R s m args below meth c H locs cells slots Q (F0 m pc ls st0) := by
  intro T hT X
  have hF := mg_VA_of hw hA [k] hC
  obtain ⟨v, st₀, t, T', L9, h0, X', hL, e1, e2, ⟨⟨hv, hp, hd⟩, hf⟩, st⟩ := hr T hT X
  cases hv
  have hF' : ∀ q, va_A (mg_cW g cI cZ σ) H.size q → A q := fun q h => hF q (mg_VA_C.mp h)
  obtain ⟨-, k2, k3⟩ := vx_keep h0 e1 hw.2.2 (fun q _ h => hF' q h) hF' hL hf
  obtain ⟨c1, c2⟩ := mg_list_C hp hd
  obtain ⟨g1, g2⟩ := mg_Vjoin hw.1 hw.2.1 [k] isR hC hR hn hdis (fun q h1 h2 => k2 q h1 (fun h => h2 (mg_VA_C.mp h))) hF (by rw [e1]; exact c1) (c2.weaken (fun q h => mg_VA_C.mp h))
  obtain ⟨t2, a1, b1⟩ := kk T'.heap (locs ++ L9) ⟨g1, g2, k3⟩ T' rfl X'
  exact ⟨t2, st t2 a1, b1⟩
/-- .. that may throw -/
theorem mg_callX {mc ms : Nat} {out : Except (Fin 3) (Option Value)} {g : Nat → Nat} {cI cZ : ClassId} {σ σ1 : mg_St} {st0 : List Value} {a : Array Value} (hr : vx_Run p l e R s m args below meth c H locs cells slots mc ms (F0 m pc ls st0) rest (mg_QX D (mg_cW g cI cZ σ1) (va_A (mg_cW g cI cZ σ) H.size) out a) (mg_XC D (mg_cW g cI cZ σ1) (va_A (mg_cW g cI cZ σ) H.size) out) (va_A (mg_cW g cI cZ σ) H.size)) (hw : mg_Vo D A s.heap H locs L) (hA : ∀ q, s.heap.size ≤ q → A q)
    (k : Nat) (isR : List Nat) (hC : [k].map (fun i => L[i]?) = ([mg_fC g cI cZ σ] : mg_V).map some) (hR : isR.map (fun i => L[i]?) = Lr.map some) (hn : va_nd isR = true) (hdis : ∀ i ∈ isR, i ∉ [k])
    (kx : ∀ k, out = .error k → ∀ (H1 : Heap) (locs1 : List Loc) (q9 : Addr) (ce : Cell), mg_Vo D A s.heap H1 locs1 (Lr ++ [mg_fC g cI cZ σ1]) → H1[q9]? = some ce → ce.vm = .none → s.vm.findClass (mg_xn k) = some ce.cls → vx_W p l e R s m args below meth c H1 locs1 (cells + mc) (slots + ms) Q (F0 m pc ls rest) q9)
    (kk : ∀ rv, out = .ok rv → ∀ (H1 : Heap) (locs1 : List Loc), mg_Vo D A s.heap H1 locs1 (Lr ++ [mg_fC g cI cZ σ1]) → W p l e R s m args below meth c H1 locs1 (cells + mc) (slots + ms) Q (F0 m (pc + 3) ls (rv.toList ++ rest))) : W p l e R s m args below meth c H locs cells slots Q (F0 m pc ls st0) := by
  intro T hT X
  have hF := mg_VA_of hw hA [k] hC
  have hF' : ∀ q, va_A (mg_cW g cI cZ σ) H.size q → A q := fun q h => hF q (mg_VA_C.mp h)
  rcases hr T hT X with ⟨v, st₀, t, T', L9, h0, X', hL, e1, e2, ⟨⟨rv, ho, hv, hp, hd⟩, hf⟩, st⟩ | ⟨q, st₀, t, T', L9, E, ce, h0, X', hL, e1, e2, ⟨⟨k9, ho, hE, hp, hd⟩, hf⟩, hce, hcv, hcl, st⟩
  · cases hv
    obtain ⟨-, k2, k3⟩ := vx_keep h0 e1 hw.2.2 (fun q _ h => hF' q h) hF' hL hf
    obtain ⟨c1, c2⟩ := mg_list_C hp hd
    obtain ⟨g1, g2⟩ := mg_Vjoin hw.1 hw.2.1 [k] isR hC hR hn hdis (fun q h1 h2 => k2 q h1 (fun h => h2 (mg_VA_C.mp h))) hF (by rw [e1]; exact c1) (c2.weaken (fun q h => mg_VA_C.mp h))
    obtain ⟨t2, a1, b1⟩ := kk v ho T'.heap (locs ++ L9) ⟨g1, g2, k3⟩ T' rfl X'
    exact ⟨t2, st t2 a1, b1⟩
  · subst hE
    obtain ⟨-, k2, k3⟩ := vx_keep h0 e1 hw.2.2 (fun q _ h => hF' q h) hF' hL hf
    obtain ⟨c1, c2⟩ := mg_list_C hp hd
    obtain ⟨g1, g2⟩ := mg_Vjoin hw.1 hw.2.1 [k] isR hC hR hn hdis (fun q h1 h2 => k2 q h1 (fun h => h2 (mg_VA_C.mp h))) hF (by rw [e1]; exact c1) (c2.weaken (fun q h => mg_VA_C.mp h))
    obtain ⟨t2, a1, b1⟩ := kx k9 ho T'.heap (locs ++ L9) q ce ⟨g1, g2, k3⟩ (by rw [e1]; exact hce) hcv hcl T' rfl X'
    exact ⟨t2, st.trans a1, b1⟩
end MV2
