/-! ===== what the pure texts guard; calls over clusters; clusters told anew ===== -/
theorem mg_gd_of {c : Prop} [Decidable c] {y : Unit} (h : mg_gd c = some y) : c := by
  unfold mg_gd at h
  split at h
  · assumption
  · cases h
def mg_nn (B : Nat) (x : Int32) : Option Nat := if x < 0 ∨ B < x.toNatClampNeg then none else some x.toNatClampNeg
theorem mg_nn_of {B n : Nat} {x : Int32} (h : mg_nn B x = some n) : ¬ x < 0 ∧ x.toNatClampNeg = n ∧ n ≤ B := by
  unfold mg_nn at h
  split at h
  · cases h
  · rename_i g
    cases h
    exact ⟨fun q => g (Or.inl q), rfl, Nat.not_lt.mp fun q => g (Or.inr q)⟩
theorem mg_ix_of {n j : Nat} {x : Int32} (h : mg_ix n x = some j) : vp_in x n ∧ x.toNatClampNeg = j ∧ j < n := by
  unfold mg_ix at h
  split at h
  · cases h
  · rename_i g
    cases h
    exact ⟨g, rfl, Nat.not_le.mp fun q => g (Or.inr q)⟩
/-- a refusal of the state is -1, any other throw is none -/
def mg_xc {W : Type} (m : Option (Except (Fin 3) Int32 × mg_St)) (K : Int32 → mg_St → Option W) : Option W := match m with
  | none => none
  | some (.ok v, σ) => K v σ
  | some (.error k, σ) => if k = 2 then K (-1) σ else none
def mg_PreX (D : va_G) (o : Nat → Nat) (L : mg_V) (sz b Ln : Nat) (xs : Nat → Int32) (U : State) : Prop := mg_PreV D o L sz U ∧ va_X b Ln xs U U.heap ∧ b < U.heap.size ∧ ¬ mg_VA L sz b
def mg_CVX (l : Launch) (y : MethodName) (ws : List Cond) (rm : Room) (D : va_G) (o : Nat → Nat) (L : mg_V) (sz b Ln : Nat) (xs : Nat → Int32) (av : List Value) (rv : (Nat → Nat → Nat) → Option Value) (L1 : (Nat → Nat → Nat) → mg_V) (mc ms : Nat) : Prop :=
  Met l y ws rm (va_Pc av (mg_PreX D o L sz b Ln xs)) (mg_QV D L1 (mg_VA L sz) rv) mc ms (mg_VA L sz)
def mg_CVD (l : Launch) (y : MethodName) (ws : List Cond) (rm : Room) (D : va_G) (o : Nat → Nat) (L : mg_V) (sz : Nat) (av : List Value) (rv : (Nat → Nat → Nat) → Option Value) (L1 : (Nat → Nat → Nat) → mg_V) (mc ms : Nat) : Prop :=
  MetD lw_cs l y ws rm (va_Pc av (mg_PreV D o L sz)) (mg_QV D L1 (mg_VA L sz) rv) mc ms (mg_VA L sz)
/-- a cell may be told by another text of the same content -/
theorem mg_Vre2 {D : va_G} {A : Nat → Prop} {H0 H : Heap} {locs : List Loc} {L L' : mg_V} (hw : mg_Vo D A H0 H locs L) (hm : ∀ (k : Nat) (F : mg_F) (t j : Nat) (q : Nat × va_E), L'[k]? = some F → F t j = some q → ∃ (k' : Nat) (F' : mg_F) (t' j' : Nat) (q0 : Nat × va_E), L[k']? = some F' ∧ F' t' j' = some q0 ∧ q0.1 = q.1 ∧ ∀ H9 : Heap, va_at D vwCl q0 H9 → va_at D vwCl q H9) (hd : ∀ (k k' : Nat) (F F' : mg_F) (t j t' j' : Nat) (q q' : Nat × va_E), L'[k]? = some F → L'[k']? = some F' → F t j = some q → F' t' j' = some q' → q.1 = q'.1 → k = k' ∧ t = t' ∧ j = j') : mg_Vo D A H0 H locs L' := by
  obtain ⟨h1, h2, h3⟩ := hw
  refine ⟨fun k F t j q hq hq2 => ?_, ⟨hd, fun k F t j q hq hq2 => ?_⟩, h3⟩
  · obtain ⟨k', F', t', j', q0, g1, g2, -, g4⟩ := hm k F t j q hq hq2
    exact g4 H (h1 k' F' t' j' q0 g1 g2)
  · obtain ⟨k', F', t', j', q0, g1, g2, g3, -⟩ := hm k F t j q hq hq2
    rw [← g3]
    exact h2.2 k' F' t' j' q0 g1 g2
/-- the last of the clusters told anew: a map of its places into those of the last ones, one to one -/
theorem mg_Vlast {D : va_G} {A : Nat → Prop} {H0 H : Heap} {locs : List Loc} {L La : mg_V} {G : mg_F} (hw : mg_Vo D A H0 H locs (L ++ La)) (φ : Nat → Nat → Nat × Nat × Nat) (hm : ∀ (t j : Nat) (q : Nat × va_E), G t j = some q → ∃ (k t' j' : Nat) (F' : mg_F) (q0 : Nat × va_E), φ t j = (k, t', j') ∧ La[k]? = some F' ∧ F' t' j' = some q0 ∧ q0.1 = q.1 ∧ ∀ H9 : Heap, va_at D vwCl q0 H9 → va_at D vwCl q H9) (hφ : ∀ (t j t' j' : Nat) (q q' : Nat × va_E), G t j = some q → G t' j' = some q' → φ t j = φ t' j' → t = t' ∧ j = j') : mg_Vo D A H0 H locs (L ++ [G]) := by
  have key : ∀ (k : Nat) (F : mg_F), (L ++ [G])[k]? = some F → (k < L.length ∧ L[k]? = some F) ∨ (k = L.length ∧ F = G) := by
    intro k F hF
    by_cases hl : k < L.length
    · rw [List.getElem?_append_left hl] at hF; exact Or.inl ⟨hl, hF⟩
    · rw [List.getElem?_append_right (by omega)] at hF
      have hz : k - L.length < 1 := (List.getElem?_eq_some_iff.mp hF).1
      rw [show k - L.length = 0 by omega] at hF
      cases hF
      exact Or.inr ⟨by omega, rfl⟩
  have up : ∀ {k : Nat} {F : mg_F}, k < L.length → L[k]? = some F → (L ++ La)[k]? = some F := fun h1 h2 => by rw [List.getElem?_append_left h1]; exact h2
  have ur : ∀ {k : Nat} {F : mg_F}, La[k]? = some F → (L ++ La)[L.length + k]? = some F := fun h2 => by rw [List.getElem?_append_right (Nat.le_add_right _ _), Nat.add_sub_cancel_left]; exact h2
  refine mg_Vre2 hw (fun k F t j q hq hq2 => ?_) (fun k k' F F' t j t' j' q q' a1 a2 b1 b2 hq => ?_)
  · rcases key k F hq with ⟨h1, h2⟩ | ⟨-, rfl⟩
    · exact ⟨k, F, t, j, q, up h1 h2, hq2, rfl, fun _ h => h⟩
    · obtain ⟨k9, t9, j9, F', q0, -, g1, g2, g3, g4⟩ := hm t j q hq2
      exact ⟨_, F', _, _, q0, ur g1, g2, g3, g4⟩
  · rcases key k F a1 with ⟨h1, h2⟩ | ⟨h1, rfl⟩ <;> rcases key k' F' a2 with ⟨h3, h4⟩ | ⟨h3, rfl⟩
    · exact hw.2.1.1 k k' F F' t j t' j' q q' (up h1 h2) (up h3 h4) b1 b2 hq
    · obtain ⟨k9, t9, j9, F9, q0, g0, g1, g2, g3, -⟩ := hm t' j' q' b2
      obtain ⟨e1, -⟩ := hw.2.1.1 k _ F F9 t j _ _ q q0 (up h1 h2) (ur g1) b1 g2 (hq.trans g3.symm)
      omega
    · obtain ⟨k9, t9, j9, F9, q0, g0, g1, g2, g3, -⟩ := hm t j q b1
      obtain ⟨e1, -⟩ := hw.2.1.1 _ k' F9 F' _ _ t' j' q0 q' (ur g1) (up h3 h4) g2 b2 (g3.trans hq)
      omega
    · obtain ⟨k9, t9, j9, F9, q0, g0, g1, g2, g3, -⟩ := hm t j q b1
      obtain ⟨k8, t8, j8, F8, q8, g4, g5, g6, g7, -⟩ := hm t' j' q' b2
      obtain ⟨e1, e2, e3⟩ := hw.2.1.1 _ _ F9 F8 _ _ _ _ q0 q8 (ur g1) (ur g5) g2 g6 (g3.trans (hq.trans g7.symm))
      obtain ⟨e4, e5⟩ := hφ t j t' j' q q' b1 b2 (by rw [g0, g4, show k9 = k8 by omega, e2, e3])
      exact ⟨by omega, e4, e5⟩
theorem mg_Vtail {D : va_G} {A : Nat → Prop} {H0 H : Heap} {locs : List Loc} {L : mg_V} {G G' : mg_F} (e : G = G') (hw : mg_Vo D A H0 H locs (L ++ [G])) : mg_Vo D A H0 H locs (L ++ [G']) := e ▸ hw
theorem mg_atq {D : va_G} {a n : Nat} {cA : ClassId} {f f' : Nat → Option Nat} (h : ∀ j, j < n → f j = f' j) (H9 : Heap) (hv : va_at D vwCl (a, mg_eq cA n f) H9) : va_at D vwCl (a, mg_eq cA n f') H9 := by
  have hv' : H9[a]? = some (vp_cell cA (n, .inr (.inr (.inr (.inr f))))) := hv
  show H9[a]? = some (vp_cell cA (n, .inr (.inr (.inr (.inr f')))))
  rw [hv', vp_cell_q, vp_cell_q, mg_arrV_congr (fun j hj => by rw [h j hj])]
/-- a list of the garden's, grown by one -/
def mg_zm (ζ : mg_Sz) (w : Nat) (f : Nat → Int32) : mg_Sz := (fun t j => if t = 3 + w ∧ j = ζ.2 w then f else ζ.1 t j, fun k => if k = w then ζ.2 w + 1 else ζ.2 k)
def mg_am (α : Nat → Nat → Nat) (w n q b : Nat) : Nat → Nat → Nat := fun t j => if t = 0 ∧ j = 2 + w then q else if t = 3 + w ∧ j = n then b else α t j
/-- a cell of the garden's, another array -/
def mg_zr (ζ : mg_Sz) (k : Nat) (f : Nat → Int32) : mg_Sz := (fun t j => if t = 2 ∧ j = k then f else ζ.1 t j, ζ.2)
def mg_ar (α : Nat → Nat → Nat) (k q : Nat) : Nat → Nat → Nat := fun t j => if t = 2 ∧ j = k then q else α t j
def mg_pu (ι : Nat → Nat → Int32) (n : Nat) (f : Nat → Int32) : Nat → Nat → Int32 := fun j => if j = n then f else ι j
theorem mg_fS_inv {o : Nat → Nat} {u : Nat} {α : Nat → Nat → Nat} {ζ : mg_Sz} {t j : Nat} {q : Nat × va_E} (h : mg_fS o u α ζ t j = some q) : (t = 0 ∧ j = 0 ∧ q = (u, .inr (7, [.int ((ζ).1 0 0 0), .int ((ζ).1 0 0 1), .ref (α 0 1), .ref (α 0 2), .ref (α 0 3), .ref (α 0 4)]))) ∨ (t = 0 ∧ j = 1 ∧ q = (α 0 1, mg_eq (o 51) 7 (fun y => some (α 1 y)))) ∨ (t = 0 ∧ j = 2 ∧ q = (α 0 2, mg_eq (o 50) ((ζ).2 0) (fun y => some (α 3 y)))) ∨ (t = 0 ∧ j = 3 ∧ q = (α 0 3, mg_eq (o 50) ((ζ).2 1) (fun y => some (α 4 y)))) ∨ (t = 0 ∧ j = 4 ∧ q = (α 0 4, mg_eq (o 50) ((ζ).2 2) (fun y => some (α 5 y)))) ∨ (t = 1 ∧ j < 7 ∧ q = (α 1 j, mg_eq (o 50) 10 (fun x => some (α 2 (10 * j + x))))) ∨ (t = 2 ∧ j < 70 ∧ q = (α 2 j, mg_ei (o 53) 3 ((ζ).1 2 j))) ∨ (t = 3 ∧ j < (ζ).2 0 ∧ q = (α 3 j, mg_ei (o 53) 4 ((ζ).1 3 j))) ∨ (t = 4 ∧ j < (ζ).2 1 ∧ q = (α 4 j, mg_ei (o 53) 3 ((ζ).1 4 j))) ∨ (t = 5 ∧ j < (ζ).2 2 ∧ q = (α 5 j, mg_ei (o 53) 2 ((ζ).1 5 j))) := by
  match t, j, h with
  | 0, 0, h => cases h; exact Or.inl ⟨rfl, rfl, rfl⟩
  | 0, 1, h => cases h; exact Or.inr (Or.inl ⟨rfl, rfl, rfl⟩)
  | 0, 2, h => cases h; exact Or.inr (Or.inr (Or.inl ⟨rfl, rfl, rfl⟩))
  | 0, 3, h => cases h; exact Or.inr (Or.inr (Or.inr (Or.inl ⟨rfl, rfl, rfl⟩)))
  | 0, 4, h => cases h; exact Or.inr (Or.inr (Or.inr (Or.inr (Or.inl ⟨rfl, rfl, rfl⟩))))
  | 0, _ + 5, h => cases h
  | 1, j, h =>
    by_cases hj : j < 7
    · have h2 := (if_pos hj).symm.trans h
      cases h2
      exact Or.inr (Or.inr (Or.inr (Or.inr (Or.inr (Or.inl ⟨rfl, hj, rfl⟩)))))
    · have h2 := (if_neg hj).symm.trans h
      cases h2
  | 2, j, h =>
    by_cases hj : j < 70
    · have h2 := (if_pos hj).symm.trans h
      cases h2
      exact Or.inr (Or.inr (Or.inr (Or.inr (Or.inr (Or.inr (Or.inl ⟨rfl, hj, rfl⟩))))))
    · have h2 := (if_neg hj).symm.trans h
      cases h2
  | 3, j, h =>
    by_cases hj : j < ζ.2 0
    · have h2 := (if_pos hj).symm.trans h
      cases h2
      exact Or.inr (Or.inr (Or.inr (Or.inr (Or.inr (Or.inr (Or.inr (Or.inl ⟨rfl, hj, rfl⟩)))))))
    · have h2 := (if_neg hj).symm.trans h
      cases h2
  | 4, j, h =>
    by_cases hj : j < ζ.2 1
    · have h2 := (if_pos hj).symm.trans h
      cases h2
      exact Or.inr (Or.inr (Or.inr (Or.inr (Or.inr (Or.inr (Or.inr (Or.inr (Or.inl ⟨rfl, hj, rfl⟩))))))))
    · have h2 := (if_neg hj).symm.trans h
      cases h2
  | 5, j, h =>
    by_cases hj : j < ζ.2 2
    · have h2 := (if_pos hj).symm.trans h
      cases h2
      exact Or.inr (Or.inr (Or.inr (Or.inr (Or.inr (Or.inr (Or.inr (Or.inr (Or.inr (⟨rfl, hj, rfl⟩)))))))))
    · have h2 := (if_neg hj).symm.trans h
      cases h2
  | _ + 6, _, h => cases h
theorem mg_merge0 {D : va_G} {A : Nat → Prop} {H0 H : Heap} {locs : List Loc} {L : mg_V} {o : Nat → Nat} {u q b : Nat} {α : Nat → Nat → Nat} {ζ : mg_Sz} {f : Nat → Int32} (hw : mg_Vo D A H0 H locs (L ++ [mg_fset (mg_fS o u α ζ) 0 0 (u, .inr (7, ([.int (ζ.1 0 0 0), .int (ζ.1 0 0 1), .ref (α 0 1), .ref (α 0 2), .ref (α 0 3), .ref (α 0 4)] : List Value).set 3 (.ref q))), mg_fI o b 4 f, mg_fQ o q (ζ.2 0 + 1) (fun y => some (if y = ζ.2 0 then b else α 3 y))])) : mg_Vo D A H0 H locs (L ++ [mg_fS o u (mg_am α 0 (ζ.2 0) q b) (mg_zm ζ 0 f)]) := by
  refine mg_Vlast hw (fun t j => if t = 0 ∧ j = 2 then (2, 0, 0) else if t = 3 ∧ j = ζ.2 0 then (1, 0, 0) else (0, t, j)) (fun t j q9 h => ?_) (fun t j t' j' q9 q8 h h' e => ?_)
  · rcases mg_fS_inv h with ⟨rfl, rfl, rfl⟩ | ⟨rfl, rfl, rfl⟩ | ⟨rfl, rfl, rfl⟩ | ⟨rfl, rfl, rfl⟩ | ⟨rfl, rfl, rfl⟩ | ⟨rfl, hj, rfl⟩ | ⟨rfl, hj, rfl⟩ | ⟨rfl, hj, rfl⟩ | ⟨rfl, hj, rfl⟩ | ⟨rfl, hj, rfl⟩
    · exact ⟨0, 0, 0, _, _, by simp, rfl, mg_fset_at, rfl, fun H9 hv => by simpa [mg_am, mg_zm] using hv⟩
    · exact ⟨0, 0, 1, _, _, by simp, rfl, (mg_fset_ne (by omega)).trans mg_fS_01, by simp [mg_am], fun H9 hv => by simpa [mg_am, mg_zm] using hv⟩
    · exact ⟨2, 0, 0, _, _, by simp, rfl, rfl, by simp [mg_am], fun H9 hv => by simpa [mg_am, mg_zm] using hv⟩
    · exact ⟨0, 0, 3, _, _, by simp, rfl, (mg_fset_ne (by omega)).trans mg_fS_03, by simp [mg_am], fun H9 hv => by simpa [mg_am, mg_zm] using hv⟩
    · exact ⟨0, 0, 4, _, _, by simp, rfl, (mg_fset_ne (by omega)).trans mg_fS_04, by simp [mg_am], fun H9 hv => by simpa [mg_am, mg_zm] using hv⟩
    · refine ⟨0, 1, j, _, _, by simp, rfl, (mg_fset_ne (by omega)).trans (if_pos hj), ?_, fun H9 hv => ?_⟩
      · simp [mg_am]
      · simpa [mg_am] using hv
    · refine ⟨0, 2, j, _, _, by simp, rfl, (mg_fset_ne (by omega)).trans (if_pos hj), ?_, fun H9 hv => ?_⟩
      · simp [mg_am]
      · simpa [mg_am, mg_zm] using hv
    · have hj9 : j < ζ.2 0 + 1 := by simpa [mg_zm] using hj
      by_cases e : j = ζ.2 0
      · subst e
        refine ⟨1, 0, 0, _, _, by simp, rfl, mg_fI_0, ?_, fun H9 hv => ?_⟩
        · simp [mg_am]
        · simpa [mg_am, mg_zm] using hv
      · have hj8 : j < ζ.2 0 := by omega
        refine ⟨0, 3, j, _, _, by simp [e], rfl, (mg_fset_ne (by omega)).trans (if_pos hj8), ?_, fun H9 hv => ?_⟩
        · simp [mg_am, e]
        · simpa [mg_am, mg_zm, e] using hv
    · have hj8 : j < ζ.2 1 := by simpa [mg_zm] using hj
      refine ⟨0, 4, j, _, _, by simp, rfl, (mg_fset_ne (by omega)).trans (if_pos hj8), ?_, fun H9 hv => ?_⟩
      · simp [mg_am]
      · simpa [mg_am, mg_zm] using hv
    · have hj8 : j < ζ.2 2 := by simpa [mg_zm] using hj
      refine ⟨0, 5, j, _, _, by simp, rfl, (mg_fset_ne (by omega)).trans (if_pos hj8), ?_, fun H9 hv => ?_⟩
      · simp [mg_am]
      · simpa [mg_am, mg_zm] using hv
  · (repeat' split at e) <;> (try simp only [Prod.mk.injEq] at e) <;> omega
theorem mg_merge1 {D : va_G} {A : Nat → Prop} {H0 H : Heap} {locs : List Loc} {L : mg_V} {o : Nat → Nat} {u q b : Nat} {α : Nat → Nat → Nat} {ζ : mg_Sz} {f : Nat → Int32} (hw : mg_Vo D A H0 H locs (L ++ [mg_fset (mg_fS o u α ζ) 0 0 (u, .inr (7, ([.int (ζ.1 0 0 0), .int (ζ.1 0 0 1), .ref (α 0 1), .ref (α 0 2), .ref (α 0 3), .ref (α 0 4)] : List Value).set 4 (.ref q))), mg_fI o b 3 f, mg_fQ o q (ζ.2 1 + 1) (fun y => some (if y = ζ.2 1 then b else α 4 y))])) : mg_Vo D A H0 H locs (L ++ [mg_fS o u (mg_am α 1 (ζ.2 1) q b) (mg_zm ζ 1 f)]) := by
  refine mg_Vlast hw (fun t j => if t = 0 ∧ j = 3 then (2, 0, 0) else if t = 4 ∧ j = ζ.2 1 then (1, 0, 0) else (0, t, j)) (fun t j q9 h => ?_) (fun t j t' j' q9 q8 h h' e => ?_)
  · rcases mg_fS_inv h with ⟨rfl, rfl, rfl⟩ | ⟨rfl, rfl, rfl⟩ | ⟨rfl, rfl, rfl⟩ | ⟨rfl, rfl, rfl⟩ | ⟨rfl, rfl, rfl⟩ | ⟨rfl, hj, rfl⟩ | ⟨rfl, hj, rfl⟩ | ⟨rfl, hj, rfl⟩ | ⟨rfl, hj, rfl⟩ | ⟨rfl, hj, rfl⟩
    · exact ⟨0, 0, 0, _, _, by simp, rfl, mg_fset_at, rfl, fun H9 hv => by simpa [mg_am, mg_zm] using hv⟩
    · exact ⟨0, 0, 1, _, _, by simp, rfl, (mg_fset_ne (by omega)).trans mg_fS_01, by simp [mg_am], fun H9 hv => by simpa [mg_am, mg_zm] using hv⟩
    · exact ⟨0, 0, 2, _, _, by simp, rfl, (mg_fset_ne (by omega)).trans mg_fS_02, by simp [mg_am], fun H9 hv => by simpa [mg_am, mg_zm] using hv⟩
    · exact ⟨2, 0, 0, _, _, by simp, rfl, rfl, by simp [mg_am], fun H9 hv => by simpa [mg_am, mg_zm] using hv⟩
    · exact ⟨0, 0, 4, _, _, by simp, rfl, (mg_fset_ne (by omega)).trans mg_fS_04, by simp [mg_am], fun H9 hv => by simpa [mg_am, mg_zm] using hv⟩
    · refine ⟨0, 1, j, _, _, by simp, rfl, (mg_fset_ne (by omega)).trans (if_pos hj), ?_, fun H9 hv => ?_⟩
      · simp [mg_am]
      · simpa [mg_am] using hv
    · refine ⟨0, 2, j, _, _, by simp, rfl, (mg_fset_ne (by omega)).trans (if_pos hj), ?_, fun H9 hv => ?_⟩
      · simp [mg_am]
      · simpa [mg_am, mg_zm] using hv
    · have hj8 : j < ζ.2 0 := by simpa [mg_zm] using hj
      refine ⟨0, 3, j, _, _, by simp, rfl, (mg_fset_ne (by omega)).trans (if_pos hj8), ?_, fun H9 hv => ?_⟩
      · simp [mg_am]
      · simpa [mg_am, mg_zm] using hv
    · have hj9 : j < ζ.2 1 + 1 := by simpa [mg_zm] using hj
      by_cases e : j = ζ.2 1
      · subst e
        refine ⟨1, 0, 0, _, _, by simp, rfl, mg_fI_0, ?_, fun H9 hv => ?_⟩
        · simp [mg_am]
        · simpa [mg_am, mg_zm] using hv
      · have hj8 : j < ζ.2 1 := by omega
        refine ⟨0, 4, j, _, _, by simp [e], rfl, (mg_fset_ne (by omega)).trans (if_pos hj8), ?_, fun H9 hv => ?_⟩
        · simp [mg_am, e]
        · simpa [mg_am, mg_zm, e] using hv
    · have hj8 : j < ζ.2 2 := by simpa [mg_zm] using hj
      refine ⟨0, 5, j, _, _, by simp, rfl, (mg_fset_ne (by omega)).trans (if_pos hj8), ?_, fun H9 hv => ?_⟩
      · simp [mg_am]
      · simpa [mg_am, mg_zm] using hv
  · (repeat' split at e) <;> (try simp only [Prod.mk.injEq] at e) <;> omega
theorem mg_merge2 {D : va_G} {A : Nat → Prop} {H0 H : Heap} {locs : List Loc} {L : mg_V} {o : Nat → Nat} {u q b : Nat} {α : Nat → Nat → Nat} {ζ : mg_Sz} {f : Nat → Int32} (hw : mg_Vo D A H0 H locs (L ++ [mg_fset (mg_fS o u α ζ) 0 0 (u, .inr (7, ([.int (ζ.1 0 0 0), .int (ζ.1 0 0 1), .ref (α 0 1), .ref (α 0 2), .ref (α 0 3), .ref (α 0 4)] : List Value).set 5 (.ref q))), mg_fI o b 2 f, mg_fQ o q (ζ.2 2 + 1) (fun y => some (if y = ζ.2 2 then b else α 5 y))])) : mg_Vo D A H0 H locs (L ++ [mg_fS o u (mg_am α 2 (ζ.2 2) q b) (mg_zm ζ 2 f)]) := by
  refine mg_Vlast hw (fun t j => if t = 0 ∧ j = 4 then (2, 0, 0) else if t = 5 ∧ j = ζ.2 2 then (1, 0, 0) else (0, t, j)) (fun t j q9 h => ?_) (fun t j t' j' q9 q8 h h' e => ?_)
  · rcases mg_fS_inv h with ⟨rfl, rfl, rfl⟩ | ⟨rfl, rfl, rfl⟩ | ⟨rfl, rfl, rfl⟩ | ⟨rfl, rfl, rfl⟩ | ⟨rfl, rfl, rfl⟩ | ⟨rfl, hj, rfl⟩ | ⟨rfl, hj, rfl⟩ | ⟨rfl, hj, rfl⟩ | ⟨rfl, hj, rfl⟩ | ⟨rfl, hj, rfl⟩
    · exact ⟨0, 0, 0, _, _, by simp, rfl, mg_fset_at, rfl, fun H9 hv => by simpa [mg_am, mg_zm] using hv⟩
    · exact ⟨0, 0, 1, _, _, by simp, rfl, (mg_fset_ne (by omega)).trans mg_fS_01, by simp [mg_am], fun H9 hv => by simpa [mg_am, mg_zm] using hv⟩
    · exact ⟨0, 0, 2, _, _, by simp, rfl, (mg_fset_ne (by omega)).trans mg_fS_02, by simp [mg_am], fun H9 hv => by simpa [mg_am, mg_zm] using hv⟩
    · exact ⟨0, 0, 3, _, _, by simp, rfl, (mg_fset_ne (by omega)).trans mg_fS_03, by simp [mg_am], fun H9 hv => by simpa [mg_am, mg_zm] using hv⟩
    · exact ⟨2, 0, 0, _, _, by simp, rfl, rfl, by simp [mg_am], fun H9 hv => by simpa [mg_am, mg_zm] using hv⟩
    · refine ⟨0, 1, j, _, _, by simp, rfl, (mg_fset_ne (by omega)).trans (if_pos hj), ?_, fun H9 hv => ?_⟩
      · simp [mg_am]
      · simpa [mg_am] using hv
    · refine ⟨0, 2, j, _, _, by simp, rfl, (mg_fset_ne (by omega)).trans (if_pos hj), ?_, fun H9 hv => ?_⟩
      · simp [mg_am]
      · simpa [mg_am, mg_zm] using hv
    · have hj8 : j < ζ.2 0 := by simpa [mg_zm] using hj
      refine ⟨0, 3, j, _, _, by simp, rfl, (mg_fset_ne (by omega)).trans (if_pos hj8), ?_, fun H9 hv => ?_⟩
      · simp [mg_am]
      · simpa [mg_am, mg_zm] using hv
    · have hj8 : j < ζ.2 1 := by simpa [mg_zm] using hj
      refine ⟨0, 4, j, _, _, by simp, rfl, (mg_fset_ne (by omega)).trans (if_pos hj8), ?_, fun H9 hv => ?_⟩
      · simp [mg_am]
      · simpa [mg_am, mg_zm] using hv
    · have hj9 : j < ζ.2 2 + 1 := by simpa [mg_zm] using hj
      by_cases e : j = ζ.2 2
      · subst e
        refine ⟨1, 0, 0, _, _, by simp, rfl, mg_fI_0, ?_, fun H9 hv => ?_⟩
        · simp [mg_am]
        · simpa [mg_am, mg_zm] using hv
      · have hj8 : j < ζ.2 2 := by omega
        refine ⟨0, 5, j, _, _, by simp [e], rfl, (mg_fset_ne (by omega)).trans (if_pos hj8), ?_, fun H9 hv => ?_⟩
        · simp [mg_am, e]
        · simpa [mg_am, mg_zm, e] using hv
  · (repeat' split at e) <;> (try simp only [Prod.mk.injEq] at e) <;> omega
theorem mg_mergeR {D : va_G} {A : Nat → Prop} {H0 H : Heap} {locs : List Loc} {L : mg_V} {o : Nat → Nat} {u q i j : Nat} {α : Nat → Nat → Nat} {ζ : mg_Sz} {f : Nat → Int32} (hj : j < 7) (hi : i < 10) (hw : mg_Vo D A H0 H locs (L ++ [mg_fset (mg_fS o u α ζ) 1 j (α 1 j, mg_eq (o 50) 10 (va_up (fun x => some (α 2 (10 * j + x))) i (some q))), mg_fI o q 3 f])) : mg_Vo D A H0 H locs (L ++ [mg_fS o u (mg_ar α (10 * j + i) q) (mg_zr ζ (10 * j + i) f)]) := by
  refine mg_Vlast hw (fun t k => if t = 2 ∧ k = 10 * j + i then (1, 0, 0) else (0, t, k)) (fun t k q9 h => ?_) (fun t k t' k' q9 q8 h h' e => ?_)
  · rcases mg_fS_inv h with ⟨rfl, rfl, rfl⟩ | ⟨rfl, rfl, rfl⟩ | ⟨rfl, rfl, rfl⟩ | ⟨rfl, rfl, rfl⟩ | ⟨rfl, rfl, rfl⟩ | ⟨rfl, hk, rfl⟩ | ⟨rfl, hk, rfl⟩ | ⟨rfl, hk, rfl⟩ | ⟨rfl, hk, rfl⟩ | ⟨rfl, hk, rfl⟩
    · exact ⟨0, 0, 0, _, _, by simp, rfl, (mg_fset_ne (by omega)).trans mg_fS_00, by simp [mg_ar], fun H9 hv => by simpa [mg_ar, mg_zr] using hv⟩
    · exact ⟨0, 0, 1, _, _, by simp, rfl, (mg_fset_ne (by omega)).trans mg_fS_01, by simp [mg_ar], fun H9 hv => by simpa [mg_ar, mg_zr] using hv⟩
    · exact ⟨0, 0, 2, _, _, by simp, rfl, (mg_fset_ne (by omega)).trans mg_fS_02, by simp [mg_ar], fun H9 hv => by simpa [mg_ar, mg_zr] using hv⟩
    · exact ⟨0, 0, 3, _, _, by simp, rfl, (mg_fset_ne (by omega)).trans mg_fS_03, by simp [mg_ar], fun H9 hv => by simpa [mg_ar, mg_zr] using hv⟩
    · exact ⟨0, 0, 4, _, _, by simp, rfl, (mg_fset_ne (by omega)).trans mg_fS_04, by simp [mg_ar], fun H9 hv => by simpa [mg_ar, mg_zr] using hv⟩
    · by_cases e : k = j
      · subst e
        refine ⟨0, 1, k, _, _, by simp, rfl, mg_fset_at, ?_, fun H9 hv => ?_⟩
        · simp [mg_ar]
        · have h9 := mg_atq (f' := fun x => some (mg_ar α (10 * k + i) q 2 (10 * k + x))) (fun x hx => ?_) H9 hv
          · simpa [mg_ar] using h9
          · by_cases e2 : x = i
            · subst e2; simp [mg_ar, va_up]
            · simp [mg_ar, va_up, e2]
      · refine ⟨0, 1, k, _, _, by simp, rfl, (mg_fset_ne (by omega)).trans (if_pos hk), ?_, fun H9 hv => ?_⟩
        · simp [mg_ar]
        · have h9 := mg_atq (f' := fun x => some (mg_ar α (10 * j + i) q 2 (10 * k + x))) (fun x hx => ?_) H9 hv
          · simpa [mg_ar] using h9
          · have e2 : ¬ 10 * k + x = 10 * j + i := by omega
            simp [mg_ar, e2]
    · by_cases e : k = 10 * j + i
      · subst e
        refine ⟨1, 0, 0, _, _, by simp, rfl, mg_fI_0, ?_, fun H9 hv => ?_⟩
        · simp [mg_ar]
        · simpa [mg_ar, mg_zr] using hv
      · refine ⟨0, 2, k, _, _, by simp [e], rfl, (mg_fset_ne (by omega)).trans (if_pos hk), ?_, fun H9 hv => ?_⟩
        · simp [mg_ar, e]
        · simpa [mg_ar, mg_zr, e] using hv
    · refine ⟨0, 3, k, _, _, by simp, rfl, (mg_fset_ne (by omega)).trans (if_pos hk), ?_, fun H9 hv => ?_⟩
      · simp [mg_ar]
      · simpa [mg_ar, mg_zr] using hv
    · refine ⟨0, 4, k, _, _, by simp, rfl, (mg_fset_ne (by omega)).trans (if_pos hk), ?_, fun H9 hv => ?_⟩
      · simp [mg_ar]
      · simpa [mg_ar, mg_zr] using hv
    · refine ⟨0, 5, k, _, _, by simp, rfl, (mg_fset_ne (by omega)).trans (if_pos hk), ?_, fun H9 hv => ?_⟩
      · simp [mg_ar]
      · simpa [mg_ar, mg_zr] using hv
  · (repeat' split at e) <;> (try simp only [Prod.mk.injEq] at e) <;> omega
theorem mg_fQ_P {o : Nat → Nat} {q : Nat} : mg_fQ o q 0 (fun _ => none) = mg_fQ o q 0 (fun _ => none) := rfl
theorem mg_newP {D : va_G} {A : Nat → Prop} {H0 H : Heap} {locs : List Loc} {L : mg_V} {o : Nat → Nat} {q : Nat} (hw : mg_Vo D A H0 H locs (L ++ [mg_fQ o q 0 (fun _ => none)])) : mg_Vo D A H0 H locs (L ++ [mg_fP o q (fun _ => 0) 0 (fun _ _ => 0)]) := by
  refine mg_Vlast hw (fun t j => (0, t, j)) (fun t j q9 h => ?_) (fun t j t' j' q9 q8 h h' e => ?_)
  · match t, h with
    | 0, h =>
      by_cases hj : j = 0
      · subst hj
        cases h
        exact ⟨0, 0, 0, _, _, rfl, rfl, rfl, rfl, fun H9 hv => mg_atq (f := fun _ => none) (fun x hx => absurd hx (Nat.not_lt_zero _)) H9 hv⟩
      · have h2 := (if_neg hj).symm.trans h
        cases h2
    | 1, h =>
      simp [mg_fP] at h
    | _ + 2, h => cases h
  · simp only [Prod.mk.injEq, true_and] at e
    exact e
theorem mg_mergeP {D : va_G} {A : Nat → Prop} {H0 H : Heap} {locs : List Loc} {L : mg_V} {o : Nat → Nat} {q q2 b n : Nat} {r : Nat → Nat} {ι : Nat → Nat → Int32} {f : Nat → Int32} (hw : mg_Vo D A H0 H locs (L ++ [mg_fP o q r n ι, mg_fI o b 2 f, mg_fQ o q2 (n + 1) (fun y => some (if y = n then b else r y))])) : mg_Vo D A H0 H locs (L ++ [mg_fP o q2 (fun y => if y = n then b else r y) (n + 1) (mg_pu ι n f)]) := by
  refine mg_Vlast hw (fun t j => if t = 0 then (2, 0, 0) else if j = n then (1, 0, 0) else (0, t, j)) (fun t j q9 h => ?_) (fun t j t' j' q9 q8 h h' e => ?_)
  · match t, h with
    | 0, h =>
      by_cases hj : j = 0
      · subst hj
        cases h
        exact ⟨2, 0, 0, _, _, by simp, rfl, rfl, rfl, fun H9 hv => hv⟩
      · have h2 := (if_neg hj).symm.trans h
        cases h2
    | 1, h =>
      by_cases hj : j < n + 1
      · have h2 := (if_pos hj).symm.trans h
        cases h2
        by_cases e : j = n
        · subst e
          refine ⟨1, 0, 0, _, _, by simp, rfl, mg_fI_0, ?_, fun H9 hv => ?_⟩
          · simp
          · simpa [mg_pu] using hv
        · refine ⟨0, 1, j, _, _, by simp [e], rfl, mg_fP_1 (by omega), ?_, fun H9 hv => ?_⟩
          · simp [e]
          · simpa [mg_pu, e] using hv
      · have h2 := (if_neg hj).symm.trans h
        cases h2
    | _ + 2, h => cases h
  · have inv : ∀ (t j : Nat) (q : Nat × va_E), mg_fP o q2 (fun y => if y = n then b else r y) (n + 1) (mg_pu ι n f) t j = some q → (t = 0 ∧ j = 0) ∨ (t = 1 ∧ j < n + 1) := by
      intro t j q h
      match t, h with
      | 0, h =>
        by_cases hj : j = 0
        · exact Or.inl ⟨rfl, hj⟩
        · have h2 := (if_neg hj).symm.trans h
          cases h2
      | 1, h =>
        by_cases hj : j < n + 1
        · exact Or.inr ⟨rfl, hj⟩
        · have h2 := (if_neg hj).symm.trans h
          cases h2
      | _ + 2, h => cases h
    rcases inv t j q9 h with ⟨rfl, rfl⟩ | ⟨rfl, hj⟩ <;> rcases inv t' j' q8 h' with ⟨rfl, rfl⟩ | ⟨rfl, hj'⟩
    · exact ⟨rfl, rfl⟩
    · by_cases e2 : j' = n <;> simp [e2] at e
    · by_cases e2 : j = n <;> simp [e2] at e
    · by_cases e2 : j = n <;> by_cases e3 : j' = n <;> simp [e2, e3] at e <;> exact ⟨rfl, by omega⟩
/-- the addresses of a garden that is given back -/
def mg_b9 (u : Nat) (α : Nat → Nat → Nat) : Nat → Nat → Nat := fun a b => if a = 9 then u else α a b
theorem mg_fS_b9 {o : Nat → Nat} {u : Nat} {α : Nat → Nat → Nat} {ζ : mg_Sz} : mg_fS o u α ζ = mg_fS o (mg_b9 u α 9 0) (mg_b9 u α) ζ := by
  funext t j
  match t, j with
  | 0, 0 => rfl
  | 0, 1 => rfl
  | 0, 2 => rfl
  | 0, 3 => rfl
  | 0, 4 => rfl
  | 0, _ + 5 => rfl
  | 1, _ => rfl
  | 2, _ => rfl
  | 3, _ => rfl
  | 4, _ => rfl
  | 5, _ => rfl
  | _ + 6, _ => rfl
theorem mg_nI_ne {n : Nat} (h : ¬ n = 0) (h2 : n ≤ 30) : ¬ nI n = 0 := nI_ne0 (by omega) (by omega)
