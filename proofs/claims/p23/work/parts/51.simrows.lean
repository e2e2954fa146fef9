/-! ===== the law's own garden as a cluster; rows over clusters ===== -/
abbrev mg_Sz : Type := (Nat → Nat → Nat → Int32) × (Nat → Nat)
def mg_zu (ζ : mg_Sz) (t j i : Nat) (v : Int32) : mg_Sz := (fun a b => if a = t ∧ b = j then upd (ζ.1 a b) i v else ζ.1 a b, ζ.2)
def mg_eq (c : ClassId) (n : Nat) (f : Nat → Option Nat) : va_E := .inl (c, n, .inr (.inr (.inr (.inr f))))
def mg_ei (c : ClassId) (n : Nat) (f : Nat → Int32) : va_E := .inl (c, n, .inl f)
/-- the garden by hand: 0 the object, its rows of rows and its three lists, 1 the rows of cells, 2 the cells, 3 carps, 4 gates, 5 poets -/
def mg_fS (o : Nat → Nat) (u : Nat) (α : Nat → Nat → Nat) (ζ : mg_Sz) : mg_F := fun t j => match t with
  | 0 => match j with
    | 0 => some (u, .inr (7, [.int (ζ.1 0 0 0), .int (ζ.1 0 0 1), .ref (α 0 1), .ref (α 0 2), .ref (α 0 3), .ref (α 0 4)]))
    | 1 => some (α 0 1, mg_eq (o 51) 7 (fun y => some (α 1 y)))
    | 2 => some (α 0 2, mg_eq (o 50) (ζ.2 0) (fun y => some (α 3 y)))
    | 3 => some (α 0 3, mg_eq (o 50) (ζ.2 1) (fun y => some (α 4 y)))
    | 4 => some (α 0 4, mg_eq (o 50) (ζ.2 2) (fun y => some (α 5 y)))
    | _ => none
  | 1 => if j < 7 then some (α 1 j, mg_eq (o 50) 10 (fun x => some (α 2 (10 * j + x)))) else none
  | 2 => if j < 70 then some (α 2 j, mg_ei (o 53) 3 (ζ.1 2 j)) else none
  | 3 => if j < ζ.2 0 then some (α 3 j, mg_ei (o 53) 4 (ζ.1 3 j)) else none
  | 4 => if j < ζ.2 1 then some (α 4 j, mg_ei (o 53) 3 (ζ.1 4 j)) else none
  | 5 => if j < ζ.2 2 then some (α 5 j, mg_ei (o 53) 2 (ζ.1 5 j)) else none
  | _ => none
/-- a matrix of marks, a list of pairs, an array of numbers, one of marks -/
def mg_fM (o : Nat → Nat) (q : Nat) (r : Nat → Nat) (μ : Nat → Nat → Int32) : mg_F := fun t j => match t with
  | 0 => if j = 0 then some (q, mg_eq (o 52) 7 (fun y => some (r y))) else none
  | 1 => if j < 7 then some (r j, mg_ei (o 54) 10 (μ j)) else none
  | _ => none
def mg_fP (o : Nat → Nat) (q : Nat) (r : Nat → Nat) (n : Nat) (ι : Nat → Nat → Int32) : mg_F := fun t j => match t with
  | 0 => if j = 0 then some (q, mg_eq (o 50) n (fun y => some (r y))) else none
  | 1 => if j < n then some (r j, mg_ei (o 53) 2 (ι j)) else none
  | _ => none
def mg_fI (o : Nat → Nat) (q n : Nat) (f : Nat → Int32) : mg_F := fun t j => if t = 0 ∧ j = 0 then some (q, mg_ei (o 53) n f) else none
def mg_fZ (o : Nat → Nat) (q n : Nat) (f : Nat → Int32) : mg_F := fun t j => if t = 0 ∧ j = 0 then some (q, mg_ei (o 54) n f) else none
def mg_fQ (o : Nat → Nat) (q n : Nat) (f : Nat → Option Nat) : mg_F := fun t j => if t = 0 ∧ j = 0 then some (q, mg_eq (o 50) n f) else none
def mg_ix (n : Nat) (i : Int32) : Option Nat := if i < 0 ∨ n ≤ i.toNatClampNeg then none else some i.toNatClampNeg
def mg_gd (c : Prop) [Decidable c] : Option Unit := if c then some () else none
section SF
variable {o : Nat → Nat} {u q : Nat} {α : Nat → Nat → Nat} {ζ : mg_Sz} {r : Nat → Nat} {μ : Nat → Nat → Int32} {n j k : Nat} {f : Nat → Int32} {i : Nat} {v : Int32}
theorem mg_fS_00 : mg_fS o u α ζ 0 0 = some (u, .inr (7, [.int (ζ.1 0 0 0), .int (ζ.1 0 0 1), .ref (α 0 1), .ref (α 0 2), .ref (α 0 3), .ref (α 0 4)])) := rfl
theorem mg_fS_01 : mg_fS o u α ζ 0 1 = some (α 0 1, mg_eq (o 51) 7 (fun y => some (α 1 y))) := rfl
theorem mg_fS_02 : mg_fS o u α ζ 0 2 = some (α 0 2, mg_eq (o 50) (ζ.2 0) (fun y => some (α 3 y))) := rfl
theorem mg_fS_03 : mg_fS o u α ζ 0 3 = some (α 0 3, mg_eq (o 50) (ζ.2 1) (fun y => some (α 4 y))) := rfl
theorem mg_fS_04 : mg_fS o u α ζ 0 4 = some (α 0 4, mg_eq (o 50) (ζ.2 2) (fun y => some (α 5 y))) := rfl
theorem mg_fM_0 : mg_fM o q r μ 0 0 = some (q, mg_eq (o 52) 7 (fun y => some (r y))) := rfl
theorem mg_fP_0 : mg_fP o q r n μ 0 0 = some (q, mg_eq (o 50) n (fun y => some (r y))) := rfl
theorem mg_fI_0 : mg_fI o q n f 0 0 = some (q, mg_ei (o 53) n f) := rfl
theorem mg_fZ_0 : mg_fZ o q n f 0 0 = some (q, mg_ei (o 54) n f) := rfl
theorem mg_fS_1 (h : j < 7) : mg_fS o u α ζ 1 j = some (α 1 j, mg_eq (o 50) 10 (fun x => some (α 2 (10 * j + x)))) := if_pos h
theorem mg_fS_2 (h : j < 7) (h2 : k < 10) : mg_fS o u α ζ 2 (10 * j + k) = some (α 2 (10 * j + k), mg_ei (o 53) 3 (ζ.1 2 (10 * j + k))) := if_pos (by omega)
theorem mg_fS_3 (h : j < ζ.2 0) : mg_fS o u α ζ 3 j = some (α 3 j, mg_ei (o 53) 4 (ζ.1 3 j)) := if_pos h
theorem mg_fS_4 (h : j < ζ.2 1) : mg_fS o u α ζ 4 j = some (α 4 j, mg_ei (o 53) 3 (ζ.1 4 j)) := if_pos h
theorem mg_fS_5 (h : j < ζ.2 2) : mg_fS o u α ζ 5 j = some (α 5 j, mg_ei (o 53) 2 (ζ.1 5 j)) := if_pos h
theorem mg_fM_1 (h : j < 7) : mg_fM o q r μ 1 j = some (r j, mg_ei (o 54) 10 (μ j)) := if_pos h
theorem mg_fP_1 (h : j < n) : mg_fP o q r n μ 1 j = some (r j, mg_ei (o 53) 2 (μ j)) := if_pos h
theorem mg_sS_f0 : mg_fset (mg_fS o u α ζ) 0 0 (u, .inr (7, ([.int (ζ.1 0 0 0), .int (ζ.1 0 0 1), .ref (α 0 1), .ref (α 0 2), .ref (α 0 3), .ref (α 0 4)] : List Value).set 0 (.int v))) = mg_fS o u α (mg_zu ζ 0 0 0 v) := by
  funext t j
  unfold mg_fset
  split
  · rename_i h; obtain ⟨rfl, rfl⟩ := h
    simp [mg_fS, mg_zu, upd]
  · rename_i h
    match t with
    | 0 => match j with
      | 0 => exact absurd ⟨rfl, rfl⟩ h
      | 1 => rfl
      | 2 => rfl
      | 3 => rfl
      | 4 => rfl
      | _ + 5 => rfl
    | 1 => rfl
    | 2 => simp [mg_fS, mg_zu]
    | 3 => simp [mg_fS, mg_zu]
    | 4 => simp [mg_fS, mg_zu]
    | 5 => simp [mg_fS, mg_zu]
    | _ + 6 => rfl
theorem mg_sS_f1 : mg_fset (mg_fS o u α ζ) 0 0 (u, .inr (7, ([.int (ζ.1 0 0 0), .int (ζ.1 0 0 1), .ref (α 0 1), .ref (α 0 2), .ref (α 0 3), .ref (α 0 4)] : List Value).set 1 (.int v))) = mg_fS o u α (mg_zu ζ 0 0 1 v) := by
  funext t j
  unfold mg_fset
  split
  · rename_i h; obtain ⟨rfl, rfl⟩ := h
    simp [mg_fS, mg_zu, upd]
  · rename_i h
    match t with
    | 0 => match j with
      | 0 => exact absurd ⟨rfl, rfl⟩ h
      | 1 => rfl
      | 2 => rfl
      | 3 => rfl
      | 4 => rfl
      | _ + 5 => rfl
    | 1 => rfl
    | 2 => simp [mg_fS, mg_zu]
    | 3 => simp [mg_fS, mg_zu]
    | 4 => simp [mg_fS, mg_zu]
    | 5 => simp [mg_fS, mg_zu]
    | _ + 6 => rfl
theorem mg_sS_2 (h : j < 7) (h2 : k < 10) : mg_fset (mg_fS o u α ζ) 2 (10 * j + k) (α 2 (10 * j + k), mg_ei (o 53) 3 (upd (ζ.1 2 (10 * j + k)) i v)) = mg_fS o u α (mg_zu ζ 2 (10 * j + k) i v) := by
  funext t j'
  unfold mg_fset
  split
  · rename_i h9; obtain ⟨rfl, rfl⟩ := h9
    simp [mg_fS, mg_zu, show 10 * j + k < 70 by omega]
  · rename_i h9
    match t with
    | 0 => match j' with
      | 0 => simp [mg_fS, mg_zu]
      | 1 => rfl
      | 2 => rfl
      | 3 => rfl
      | 4 => rfl
      | _ + 5 => rfl
    | 1 => rfl
    | 2 =>
      have : ¬ j' = 10 * j + k := fun e => h9 ⟨rfl, e⟩
      simp [mg_fS, mg_zu, this]
    | 3 => simp [mg_fS, mg_zu]
    | 4 => simp [mg_fS, mg_zu]
    | 5 => simp [mg_fS, mg_zu]
    | _ + 6 => rfl
theorem mg_sS_3 (h : j < ζ.2 0) : mg_fset (mg_fS o u α ζ) 3 j (α 3 j, mg_ei (o 53) 4 (upd (ζ.1 3 j) i v)) = mg_fS o u α (mg_zu ζ 3 j i v) := by
  funext t j'
  unfold mg_fset
  split
  · rename_i h9; obtain ⟨rfl, rfl⟩ := h9
    simp [mg_fS, mg_zu, h]
  · rename_i h9
    match t with
    | 0 => match j' with
      | 0 => simp [mg_fS, mg_zu]
      | 1 => rfl
      | 2 => rfl
      | 3 => rfl
      | 4 => rfl
      | _ + 5 => rfl
    | 1 => rfl
    | 2 => simp [mg_fS, mg_zu]
    | 3 =>
      have : ¬ j' = j := fun e => h9 ⟨rfl, e⟩
      simp [mg_fS, mg_zu, this]
    | 4 => simp [mg_fS, mg_zu]
    | 5 => simp [mg_fS, mg_zu]
    | _ + 6 => rfl
theorem mg_sS_5 (h : j < ζ.2 2) : mg_fset (mg_fS o u α ζ) 5 j (α 5 j, mg_ei (o 53) 2 (upd (ζ.1 5 j) i v)) = mg_fS o u α (mg_zu ζ 5 j i v) := by
  funext t j'
  unfold mg_fset
  split
  · rename_i h9; obtain ⟨rfl, rfl⟩ := h9
    simp [mg_fS, mg_zu, h]
  · rename_i h9
    match t with
    | 0 => match j' with
      | 0 => simp [mg_fS, mg_zu]
      | 1 => rfl
      | 2 => rfl
      | 3 => rfl
      | 4 => rfl
      | _ + 5 => rfl
    | 1 => rfl
    | 2 => simp [mg_fS, mg_zu]
    | 3 => simp [mg_fS, mg_zu]
    | 4 => simp [mg_fS, mg_zu]
    | 5 =>
      have : ¬ j' = j := fun e => h9 ⟨rfl, e⟩
      simp [mg_fS, mg_zu, this]
    | _ + 6 => rfl
def mg_mu (μ : Nat → Nat → Int32) (j i : Nat) (v : Int32) : Nat → Nat → Int32 := fun a => if a = j then upd (μ a) i v else μ a
theorem mg_sM (h : j < 7) : mg_fset (mg_fM o q r μ) 1 j (r j, mg_ei (o 54) 10 (upd (μ j) i v)) = mg_fM o q r (mg_mu μ j i v) := by
  funext t j'
  unfold mg_fset
  split
  · rename_i h9; obtain ⟨rfl, rfl⟩ := h9
    simp [mg_fM, mg_mu, h]
  · rename_i h9
    match t with
    | 0 => rfl
    | 1 =>
      have : ¬ j' = j := fun e => h9 ⟨rfl, e⟩
      simp [mg_fM, mg_mu, this]
    | _ + 2 => rfl
theorem mg_sI : mg_fset (mg_fI o q n f) 0 0 (q, mg_ei (o 53) n (upd f i v)) = mg_fI o q n (upd f i v) := by
  funext t j'
  unfold mg_fset mg_fI
  split <;> rfl
theorem mg_sZ : mg_fset (mg_fZ o q n f) 0 0 (q, mg_ei (o 54) n (upd f i v)) = mg_fZ o q n (upd f i v) := by
  funext t j'
  unfold mg_fset mg_fZ
  split <;> rfl
end SF
theorem mg_ArK.of {U : State} {c comp : ClassId} {ty : FieldType} (h : mg_ArK U c comp ty) : ArrOfT U c ty := by
  obtain ⟨⟨k, h1, h2⟩, -⟩ := h
  exact fun n z => ⟨fun q h => (by cases h), k, h1, comp, h2⟩
section SR
variable {p : Program} {l : Launch} {e : Env} {R : Room} {s : State} {m : MethodId} {args : Array Value} {below : List Frame} {meth : Method} {c : Code} {H : Heap} {locs : List Loc} {cells slots : Nat} {Q : State → Prop}
variable {cc : ByteArray} {pc : Nat} {ls : Array Slot} {rest : List Value} {D : va_G} {A : Nat → Prop} {L : mg_V} {o : Nat → Nat} {F : mg_F} {α : Type} {res : α}
/-- an element of an array of references, where the pure text has its place -/
theorem mg_aal (hx : p.tables.exec = Jvm.exec) (hb : c.code = cc) (hK : va_K D vwCl (mg_Ty o) s) (hw : mg_Vo D A s.heap H locs L) (k t0 : Nat) {t j a n : Nat} {cA : ClassId} {ty : FieldType} {f : Nat → Option Nat} (hk : L[k]? = some F) (hF : F t j = some (a, mg_eq cA n f)) (ht : (mg_Ty o)[t0]? = some (cA, ty)) (hr : ty.isReference = true) {i : Int32} {K : Nat → Option α} (h : (mg_ix n i).bind K = some res) (hdg : decode cc pc = .ok (.aaload, 1))
    (kk : ∀ x, x < n → K x = some res → W p l e R s m args below meth c H locs cells slots Q (F0 m (pc + 1) ls (va_rf (f x) :: rest))) : W p l e R s m args below meth c H locs cells slots Q (F0 m pc ls (.int i :: .ref a :: rest)) := by
  unfold mg_ix at h
  by_cases hi : i < 0 ∨ n ≤ i.toNatClampNeg
  · rw [if_pos hi] at h; cases h
  · rw [if_neg hi] at h
    have hlt : i.toNatClampNeg < n := Nat.not_le.mp fun q => hi (Or.inr q)
    exact W.aald (v := va_rf (f i.toNatClampNeg)) (ty := ty) hx hb (hw.1 k F t j _ hk hF) ((hK.2 t0 _ ht).1 n (fun j => va_rf (f j))) hr (fun q => by cases q) (by show ¬ (i < 0 ∨ (arrV _ _ _).slots.size ≤ _); rw [arrV_size]; exact hi) (by show (arrV _ _ _).slots[_]? = _; rw [arrV_read _ _ hlt]) rfl rfl hdg (kk _ hlt h)
/-- an int out of an array, at a known place -/
theorem mg_ial (hx : p.tables.exec = Jvm.exec) (hb : c.code = cc) (hK : va_K D vwCl (mg_Ty o) s) (hw : mg_Vo D A s.heap H locs L) (k : Nat) {t j a n : Nat} {f : Nat → Int32} (hk : L[k]? = some F) (hF : F t j = some (a, mg_ei (o 53) n f)) {i : Int32} {x : Nat} (hi : vp_in i n) (hj : i.toNatClampNeg = x) (hdg : decode cc pc = .ok (.iaload, 1))
    (kk : W p l e R s m args below meth c H locs cells slots Q (F0 m (pc + 1) ls (.int (f x) :: rest))) : W p l e R s m args below meth c H locs cells slots Q (F0 m pc ls (.int i :: .ref a :: rest)) := by
  subst hj
  exact va_iald hx hb hK (mg_at1 hw.1 k hk hF) 0 0 rfl rfl hi hdg kk
theorem mg_ialx (hx : p.tables.exec = Jvm.exec) (hb : c.code = cc) (hK : va_K D vwCl (mg_Ty o) s) (hw : mg_Vo D A s.heap H locs L) (k : Nat) {t j a n : Nat} {f : Nat → Int32} (hk : L[k]? = some F) (hF : F t j = some (a, mg_ei (o 53) n f)) {i : Int32} {K : Nat → Option α} (h : (mg_ix n i).bind K = some res) (hdg : decode cc pc = .ok (.iaload, 1))
    (kk : ∀ x, x < n → K x = some res → W p l e R s m args below meth c H locs cells slots Q (F0 m (pc + 1) ls (.int (f x) :: rest))) : W p l e R s m args below meth c H locs cells slots Q (F0 m pc ls (.int i :: .ref a :: rest)) := by
  unfold mg_ix at h
  by_cases hi : i < 0 ∨ n ≤ i.toNatClampNeg
  · rw [if_pos hi] at h; cases h
  · rw [if_neg hi] at h
    exact va_iald hx hb hK (mg_at1 hw.1 k hk hF) 0 0 rfl rfl hi hdg (kk _ (Nat.not_le.mp fun q => hi (Or.inr q)) h)
theorem mg_zalx (hx : p.tables.exec = Jvm.exec) (hb : c.code = cc) (hK : va_K D vwCl (mg_Ty o) s) (hw : mg_Vo D A s.heap H locs L) (k : Nat) {t j a n : Nat} {f : Nat → Int32} (hk : L[k]? = some F) (hF : F t j = some (a, mg_ei (o 54) n f)) {i : Int32} {K : Nat → Option α} (h : (mg_ix n i).bind K = some res) (hdg : decode cc pc = .ok (.baload, 1))
    (kk : ∀ x, x < n → K x = some res → W p l e R s m args below meth c H locs cells slots Q (F0 m (pc + 1) ls (.int (f x) :: rest))) : W p l e R s m args below meth c H locs cells slots Q (F0 m pc ls (.int i :: .ref a :: rest)) := by
  unfold mg_ix at h
  by_cases hi : i < 0 ∨ n ≤ i.toNatClampNeg
  · rw [if_pos hi] at h; cases h
  · rw [if_neg hi] at h
    exact va_zald hx hb hK (mg_at1 hw.1 k hk hF) 0 1 rfl rfl hi hdg (kk _ (Nat.not_le.mp fun q => hi (Or.inr q)) h)
theorem mg_alenq (hx : p.tables.exec = Jvm.exec) (hb : c.code = cc) (hK : va_K D vwCl (mg_Ty o) s) (hw : mg_Vo D A s.heap H locs L) (k t0 : Nat) {t j a : Nat} {cA : ClassId} {x : vp_A} {ty : FieldType} (hk : L[k]? = some F) (hF : F t j = some (a, .inl (cA, x))) (ht : (mg_Ty o)[t0]? = some (cA, ty)) (hdg : decode cc pc = .ok (.arraylength, 1))
    (kk : W p l e R s m args below meth c H locs cells slots Q (F0 m (pc + 1) ls (.int (nI x.1) :: rest))) : W p l e R s m args below meth c H locs cells slots Q (F0 m pc ls (.ref a :: rest)) :=
  va_alen hx hb hK (mg_at1 hw.1 k hk hF) 0 t0 rfl ht rfl hdg kk
/-- an int into an array -/
theorem mg_iasx (hx : p.tables.exec = Jvm.exec) (hb : c.code = cc) (hK : va_K D vwCl (mg_Ty o) s) (hw : mg_Vo D A s.heap H locs L) (k : Nat) {t j a n : Nat} {f : Nat → Int32} (hk : L[k]? = some F) (hF : F t j = some (a, mg_ei (o 53) n f)) {i v : Int32} {x : Nat} (hi : vp_in i n) (hj : i.toNatClampNeg = x) {F' : mg_F} (hset : mg_fset F t j (a, mg_ei (o 53) n (upd f x v)) = F') (hdg : decode cc pc = .ok (.iastore, 1))
    (kk : ∀ (H1 : Heap) (locs1 : List Loc), mg_Vo D A s.heap H1 locs1 (L.set k F') → W p l e R s m args below meth c H1 locs1 cells slots Q (F0 m (pc + 1) ls rest)) : W p l e R s m args below meth c H locs cells slots Q (F0 m pc ls (.int v :: .int i :: .ref a :: rest)) := by
  subst hj
  refine W.iast hx hb (hw.1 k F t j _ hk hF) ((hK.2 0 _ rfl).1 n (fun j => .int (f j))) (fun q => by cases q) (by show ¬ (i < 0 ∨ (arrV _ _ _).slots.size ≤ _); rw [arrV_size]; exact hi) rfl rfl hdg fun H1 e z oq => ?_
  rw [← hset] at kk
  refine kk H1 _ (mg_Vset hw hk hF ?_ z oq)
  show H1[a]? = some (vp_cell _ _)
  rw [e]
  rw [vp_cell_i, vp_cell_i, arrV_store]
  congr 2
  funext q
  by_cases hq : q = i.toNatClampNeg
  · subst hq
    simp [updV, upd]
  · simp [updV, upd, hq]
theorem mg_iasd (hx : p.tables.exec = Jvm.exec) (hb : c.code = cc) (hK : va_K D vwCl (mg_Ty o) s) (hw : mg_Vo D A s.heap H locs L) (k : Nat) {t j a n : Nat} {f : Nat → Int32} (hk : L[k]? = some F) (hF : F t j = some (a, mg_ei (o 53) n f)) {i v : Int32} {F' : Nat → mg_F} (hset : ∀ x, mg_fset F t j (a, mg_ei (o 53) n (upd f x v)) = F' x) {K : Nat → Option α} (h : (mg_ix n i).bind K = some res) (hdg : decode cc pc = .ok (.iastore, 1))
    (kk : ∀ (x : Nat), x < n → K x = some res → ∀ (H1 : Heap) (locs1 : List Loc), mg_Vo D A s.heap H1 locs1 (L.set k (F' x)) → W p l e R s m args below meth c H1 locs1 cells slots Q (F0 m (pc + 1) ls rest)) : W p l e R s m args below meth c H locs cells slots Q (F0 m pc ls (.int v :: .int i :: .ref a :: rest)) := by
  unfold mg_ix at h
  by_cases hi : i < 0 ∨ n ≤ i.toNatClampNeg
  · rw [if_pos hi] at h; cases h
  · rw [if_neg hi] at h
    exact mg_iasx hx hb hK hw k hk hF hi rfl (hset _) hdg (kk _ (Nat.not_le.mp fun q => hi (Or.inr q)) h)
/-- a mark into an array -/
theorem mg_zasd (hx : p.tables.exec = Jvm.exec) (hb : c.code = cc) (hK : va_K D vwCl (mg_Ty o) s) (hw : mg_Vo D A s.heap H locs L) (k : Nat) {t j a n : Nat} {f : Nat → Int32} (hk : L[k]? = some F) (hF : F t j = some (a, mg_ei (o 54) n f)) {i v : Int32} {F' : Nat → mg_F} (hset : ∀ x, mg_fset F t j (a, mg_ei (o 54) n (upd f x (vp_nar .boolean v))) = F' x) {K : Nat → Option α} (h : (mg_ix n i).bind K = some res) (hdg : decode cc pc = .ok (.bastore, 1))
    (kk : ∀ (x : Nat), x < n → K x = some res → ∀ (H1 : Heap) (locs1 : List Loc), mg_Vo D A s.heap H1 locs1 (L.set k (F' x)) → W p l e R s m args below meth c H1 locs1 cells slots Q (F0 m (pc + 1) ls rest)) : W p l e R s m args below meth c H locs cells slots Q (F0 m pc ls (.int v :: .int i :: .ref a :: rest)) := by
  unfold mg_ix at h
  by_cases hi : i < 0 ∨ n ≤ i.toNatClampNeg
  · rw [if_pos hi] at h; cases h
  · rw [if_neg hi] at h
    refine W.zast hx hb (hw.1 k F t j _ hk hF) ((hK.2 1 _ rfl).1 n (fun j => .int (f j))) (fun q => by cases q) (by show ¬ (i < 0 ∨ (arrV _ _ _).slots.size ≤ _); rw [arrV_size]; exact hi) rfl rfl hdg fun H1 e z oq => ?_
    have kk9 := kk _ (Nat.not_le.mp fun q => hi (Or.inr q)) h
    rw [← hset] at kk9
    refine kk9 H1 _ (mg_Vset hw hk hF ?_ z oq)
    show H1[a]? = some (vp_cell _ _)
    rw [e]
    rw [vp_cell_i, vp_cell_i, arrV_store]
    congr 2
    funext q
    by_cases hq : q = i.toNatClampNeg
    · subst hq
      simp [updV, upd, vp_nar]
      try rfl
    · simp [updV, upd, hq]
/-- a reference to an array of ints into an array of them -/
theorem mg_aas (hx : p.tables.exec = Jvm.exec) (hb : c.code = cc) (hAr : mg_Ar o s) (hw : mg_Vo D A s.heap H locs L) (k k2 : Nat) {F2 : mg_F} {t j a n t2 j2 v n2 : Nat} {f : Nat → Option Nat} {x2 : Nat → Int32} (hk : L[k]? = some F) (hF : F t j = some (a, mg_eq (o 50) n f)) (hk2 : L[k2]? = some F2) (hF2 : F2 t2 j2 = some (v, mg_ei (o 53) n2 x2)) {i : Int32} {x : Nat} (hi : vp_in i n) (hj : i.toNatClampNeg = x) (hdg : decode cc pc = .ok (.aastore, 1))
    (kk : ∀ (H1 : Heap) (locs1 : List Loc), mg_Vo D A s.heap H1 locs1 (L.set k (mg_fset F t j (a, mg_eq (o 50) n (va_up f x (some v))))) → W p l e R s m args below meth c H1 locs1 cells slots Q (F0 m (pc + 1) ls rest)) : W p l e R s m args below meth c H locs cells slots Q (F0 m pc ls (.ref v :: .int i :: .ref a :: rest)) := by
  subst hj
  have hlt : i.toNatClampNeg < n := Nat.not_le.mp fun q => hi (Or.inr q)
  have h0 : ¬ i < 0 := fun q => hi (Or.inl q)
  obtain ⟨⟨⟨kA, k1, k3⟩, -⟩, -, -, ⟨c2, ⟨kB, k4, k5⟩, -⟩, -, -⟩ := hAr
  refine W.aast hx hb (hw.1 k F t j _ hk hF) (fun q h => by cases h) (fun h => by cases h) k1 k3 rfl k4 ⟨h0, by show _ < (arrV _ _ _).slots.size; rw [arrV_size]; exact hlt⟩ (hw.1 k2 F2 t2 j2 _ hk2 hF2) (fun q h => by cases h) k4 (va_asg _ _) rfl rfl hdg fun H1 e z oq => ?_
  refine kk H1 _ (mg_Vset hw hk hF ?_ z oq)
  show H1[a]? = some (vp_cell _ _)
  rw [e]
  rw [vp_cell_q, vp_cell_q, arrV_store]
  congr 2
  funext q
  by_cases hq : q = i.toNatClampNeg
  · subst hq
    simp [updV, va_up, va_rf]
  · simp [updV, va_up, hq]
/-- fields of the garden -/
theorem mg_vput (hx : p.tables.exec = Jvm.exec) (hb : c.code = cc) {own ref C : String} {T : u_T} {N ci index : Nat} {Ts : List Cond} (hts : ∀ w ∈ Ts, w.before args s = true) (hin : ∀ w ∈ u_ws C T N, w ∈ Ts) (ty0 : Nat → FieldType) (hty : ∀ k, k < N → parseFieldDescriptor (T k).2.2.1 = some (ty0 k)) (hnm : ∀ a, a < N → ∀ b, b < N → a ≠ b → (T a).2.1 ≠ (T b).2.1) (hown : s.vm.findClass own = some m.cls) {tys : List (ClassId × FieldType)} (hK : va_K D vwCl tys s) (hw : mg_Vo D A s.heap H locs L) (q0 : Nat) {t j a : Nat} {fs : List Value} (hk0 : L[q0]? = some F) (he : F t j = some (a, .inr (ci, fs))) (hc : vwCl[ci]? = some (C, T, N)) (k : Nat) (hk : k < N) (hlink : (Cond.fieldLink own index ref (T k).2.1 (T k).2.2.1).before args s = true) (hsame : ∀ x, s.fieldFound? (T k).1 (T k).2.1 (T k).2.2.1 = some x → s.fieldFound? ref (T k).2.1 (T k).2.2.1 = some x) (hfin : (T k).2.2.2 = false) {ty : FieldType} {v : Value} (hd : parseFieldDescriptor (T k).2.2.1 = some ty) (hn : narrow ty v = v) (hfit : fits ty v = true) (hl : k < fs.length)
    (hdg : decode cc pc = .ok (.putfield index, 3)) (kk : ∀ (H1 : Heap) (locs1 : List Loc), mg_Vo D A s.heap H1 locs1 (L.set q0 (mg_fset F t j (a, .inr (ci, fs.set k v)))) → W p l e R s m args below meth c H1 locs1 cells slots Q (F0 m (pc + 3) ls rest)) : W p l e R s m args below meth c H locs cells slots Q (F0 m pc ls (v :: .ref a :: rest)) := by
  have hap := va_apart (own := own) hts hin ty0 hty hnm hK hc
  obtain ⟨r, h1, cell, q1, q2, q3, q4⟩ := hw.1 q0 F t j _ hk0 he
  have hr : r = (C, T, N) := Option.some.inj (h1.symm.trans hc)
  subst hr
  obtain ⟨hS, hfc, kC, hkC, hkind⟩ := hK.1 ci _ hc
  obtain ⟨cf, kf, fi, f, hi, hsl⟩ := hS k hk
  have hlay := hts _ (hin _ (u_in_lay hk))
  unfold u_lay at hlay
  rw [if_neg (by rw [hfin]; decide)] at hlay
  have hst := (u_facts hfc hkC (u_lays hts hin hk) hi).1
  have h6 := u_store hfc hkC hkind hlay hi hd hn hfit
  refine W.putK hx hb (f := f) ⟨hown, hlink, ⟨_, _, _, hsame _ hi⟩, hst⟩ (by rw [q2]; exact h6) q1 q3 (by rw [hsl]; exact k2_hasslot (q4 k hk)) rfl rfl hdg fun H' e1 e2 e3 => ?_
  rw [hsl] at e1 ⊢
  exact kk H' _ (mg_Vset hw hk0 he ⟨_, hc, t_OB.to (V := updV (vp_V fs) k v) ⟨_, e1, q2, q3, t_set q4 hap hk v⟩ (fun j _ => vp_updV_set hl v j)⟩ e2 e3)
/-- new arrays -/
theorem mg_vnew (hx : p.tables.exec = Jvm.exec) (hb : c.code = cc) {atype : ArrayType} {ty : FieldType} (harr : (Cond.arrayClass (newarray.typeOf atype)).before args s = true) (hty : newarray.typeOf atype = ty) (hK : va_K D vwCl (mg_Ty o) s) (hw : mg_Vo D A s.heap H locs L) (hA : ∀ q, s.heap.size ≤ q → A q) (t0 : Nat) {cA : ClassId} (ht : (mg_Ty o)[t0]? = some (cA, ty)) (hnr : ∀ c2, va_RA s c2 ty → s.vm.findClass ("[" ++ ty.toString) = some c2) (hdv : defaultValue ty = .int 0) {n : Int32} {N B : Nat} (hn : ¬ n < 0) (hN : n.toNatClampNeg = N) (hB : N ≤ B) (hbytes : B * componentBytes ty ≤ 536870912) (hcells : cells + 1 ≤ R.cells) (hslots : slots + B ≤ R.slots) (hdg : decode cc pc = .ok (.newarray atype, 2))
    (kk : ∀ (q : Nat) (H1 : Heap), mg_Vo D A s.heap H1 locs (L ++ [fun t j => if t = 0 ∧ j = 0 then some (q, mg_ei cA N (fun _ => 0)) else none]) → W p l e R s m args below meth c H1 locs (cells + 1) (slots + B) Q (F0 m (pc + 2) ls (.ref q :: rest))) : W p l e R s m args below meth c H locs cells slots Q (F0 m pc ls (.int n :: rest)) := by
  subst hty
  refine va_newaK hx hb harr rfl hdg rfl hn hN (Nat.le_trans (Nat.mul_le_mul_right _ hB) hbytes) hcells (Nat.le_trans (Nat.add_le_add_left hB _) hslots) rfl fun H1 c2 e1 z1 o1 hAr hNm => ?_
  have ec : c2 = cA := Option.some.inj (hNm.symm.trans (hnr _ (hK.2 t0 _ ht).2))
  subst ec
  refine W.widen (Nat.le_refl _) (Nat.add_le_add_left hB _) (kk H.size H1 (mg_Vpush hw hA (by omega) o1 (fun t j q h => ?_) (fun t j t' j' q q' h h' _ => ?_)))
  · split at h
    · cases h
      refine ⟨?_, Nat.le_refl _⟩
      show H1[H.size]? = some (vp_cell _ _)
      rw [vp_cell_i, e1, hdv]
    · cases h
  · split at h
    · split at h'
      · rename_i a b; exact ⟨a.1.trans b.1.symm, a.2.trans b.2.symm⟩
      · cases h'
    · cases h
theorem mg_vnewI (hx : p.tables.exec = Jvm.exec) (hb : c.code = cc) (harr : (Cond.arrayClass .int).before args s = true) (hK : va_K D vwCl (mg_Ty o) s) (hw : mg_Vo D A s.heap H locs L) (hA : ∀ q, s.heap.size ≤ q → A q) {n : Int32} {N B : Nat} (hn : ¬ n < 0) (hN : n.toNatClampNeg = N) (hB : N ≤ B) (hbytes : B * componentBytes .int ≤ 536870912) (hcells : cells + 1 ≤ R.cells) (hslots : slots + B ≤ R.slots) (hdg : decode cc pc = .ok (.newarray .int, 2))
    (kk : ∀ (q : Nat) (H1 : Heap), mg_Vo D A s.heap H1 locs (L ++ [mg_fI o q N (fun _ => 0)]) → W p l e R s m args below meth c H1 locs (cells + 1) (slots + B) Q (F0 m (pc + 2) ls (.ref q :: rest))) : W p l e R s m args below meth c H locs cells slots Q (F0 m pc ls (.int n :: rest)) :=
  mg_vnew (atype := .int) (ty := .int) hx hb harr rfl hK hw hA 0 rfl (fun _ h => h) rfl hn hN hB hbytes hcells hslots hdg kk
theorem mg_vnewZ (hx : p.tables.exec = Jvm.exec) (hb : c.code = cc) (harr : (Cond.arrayClass .boolean).before args s = true) (hK : va_K D vwCl (mg_Ty o) s) (hw : mg_Vo D A s.heap H locs L) (hA : ∀ q, s.heap.size ≤ q → A q) {n : Int32} {N B : Nat} (hn : ¬ n < 0) (hN : n.toNatClampNeg = N) (hB : N ≤ B) (hbytes : B * componentBytes .boolean ≤ 536870912) (hcells : cells + 1 ≤ R.cells) (hslots : slots + B ≤ R.slots) (hdg : decode cc pc = .ok (.newarray .boolean, 2))
    (kk : ∀ (q : Nat) (H1 : Heap), mg_Vo D A s.heap H1 locs (L ++ [mg_fZ o q N (fun _ => 0)]) → W p l e R s m args below meth c H1 locs (cells + 1) (slots + B) Q (F0 m (pc + 2) ls (.ref q :: rest))) : W p l e R s m args below meth c H locs cells slots Q (F0 m pc ls (.int n :: rest)) :=
  mg_vnew (atype := .boolean) (ty := .boolean) hx hb harr rfl hK hw hA 1 rfl (fun _ h => h) rfl hn hN hB hbytes hcells hslots hdg kk
/-- a new array of references to arrays of ints -/
theorem mg_vnewq (hx : p.tables.exec = Jvm.exec) (hb : c.code = cc) {own : String} {index : Nat} (hown : s.vm.findClass own = some m.cls) (hcl : (Cond.classLink own index "[I").before args s = true) (hAr : mg_Ar o s) (hw : mg_Vo D A s.heap H locs L) (hA : ∀ q, s.heap.size ≤ q → A q) {n : Int32} {N B : Nat} (hn : ¬ n < 0) (hN : n.toNatClampNeg = N) (hB : N ≤ B) (hbytes : B * 4 ≤ 536870912) (hcells : cells + 1 ≤ R.cells) (hslots : slots + B ≤ R.slots) (hdg : decode cc pc = .ok (.anewarray index, 3))
    (kk : ∀ (q : Nat) (H1 : Heap), mg_Vo D A s.heap H1 locs (L ++ [mg_fQ o q N (fun _ => none)]) → W p l e R s m args below meth c H1 locs (cells + 1) (slots + B) Q (F0 m (pc + 3) ls (.ref q :: rest))) : W p l e R s m args below meth c H locs cells slots Q (F0 m pc ls (.int n :: rest)) := by
  subst hN
  refine W.anewA (t := .int) hx hb hown hcl hAr.2.2.2.2.2 rfl hdg rfl hn (Nat.le_trans (Nat.mul_le_mul_right _ hB) hbytes) hcells (Nat.le_trans (Nat.add_le_add_left hB _) hslots) fun cA kA comp f1 f2 f3 f4 => ?_
  have ec : cA = o 50 := Option.some.inj (f1.symm.trans hAr.1.2)
  subst ec
  refine W.widen (Nat.le_refl _) (Nat.add_le_add_left hB _) (kk H.size _ (mg_Vpush hw hA (by rw [Array.size_push]; omega) (fun q hq => by rw [Array.getElem?_push, if_neg (Nat.ne_of_lt hq)]) (fun t j q h => ?_) (fun t j t' j' q q' h h' _ => ?_)))
  · unfold mg_fQ at h
    split at h
    · cases h
      refine ⟨?_, Nat.le_refl _⟩
      show (H.push _)[H.size]? = some (vp_cell _ _)
      rw [vp_cell_q, Array.getElem?_push_size, arrV_new]
      rfl
    · cases h
  · unfold mg_fQ at h h'
    split at h
    · split at h'
      · rename_i a b; exact ⟨a.1.trans b.1.symm, a.2.trans b.2.symm⟩
      · cases h'
    · cases h
/-- ends -/
theorem mg_eR {L1 : (Nat → Nat → Nat) → mg_V} {rv : (Nat → Nat → Nat) → Option Value} {mc ms v : Nat} {rt : FieldType} (β : Nat → Nat → Nat) (hv : rv β = some (.ref v)) (hx : p.tables.exec = Jvm.exec) (hb : c.code = cc) (hr : meth.sig.returnType = some rt) (hrr : (∃ n, rt = .object n) ∨ ∃ t, rt = .array t) (hlocks : meth.locks = false) (hw : mg_Vo D A s.heap H locs (L1 β)) (hc : cells ≤ mc) (hs : slots ≤ ms) (hdg : decode cc pc = .ok (.areturn, 1)) : W p l e R s m args below meth c H locs cells slots (MQ below (mg_QV D L1 A rv) args s mc ms A) (F0 m pc ls [.ref v]) :=
  W.widen hc hs (W.aret hx hb hr hrr (Or.inr ⟨_, rfl⟩) (fun t ht _ => ⟨⟨β, by rw [hv], by rw [ht]; exact hw.1, hw.2.1⟩, hw.2.2.F ht⟩) hw.2.2.2.2 hdg hlocks)
theorem mg_eIV {L1 : (Nat → Nat → Nat) → mg_V} {rv : (Nat → Nat → Nat) → Option Value} {mc ms : Nat} {v : Int32} (β : Nat → Nat → Nat) (hv : rv β = some (.int v)) (hx : p.tables.exec = Jvm.exec) (hb : c.code = cc) (hr : meth.sig.returnType = some .int) (hlocks : meth.locks = false) (hw : mg_Vo D A s.heap H locs (L1 β)) (hc : cells ≤ mc) (hs : slots ≤ ms) (hdg : decode cc pc = .ok (.ireturn, 1)) : W p l e R s m args below meth c H locs cells slots (MQ below (mg_QV D L1 A rv) args s mc ms A) (F0 m pc ls [.int v]) :=
  W.widen hc hs (W.iret hx hb hr (fun t ht _ => ⟨⟨β, by rw [hv], by rw [ht]; exact hw.1, hw.2.1⟩, hw.2.2.F ht⟩) hw.2.2.2.2 hdg hlocks)
end SR
