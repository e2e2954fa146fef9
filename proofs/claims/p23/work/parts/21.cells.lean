/-! ===== the class's garden, evaluated ===== -/
theorem k1_isPlace {σ : mg_St} {j : Nat} (h : j < 70) : f_X1_isPlace σ (nI j) = some 1 := by
  unfold f_X1_isPlace; simp [mg_lt70 j h]
theorem k1_isPlace0 {σ : mg_St} : f_X1_isPlace σ (-1) = some 0 := by
  unfold f_X1_isPlace; decide +kernel
theorem k1_kindAt {σ : mg_St} {j : Nat} (h : j < 70) : f_X1_kindAt σ (nI j) = some (σ 8 j) := by
  unfold f_X1_kindAt; simp [k1_isPlace h, mg_rdn h (Nat.le_refl 70)]
theorem k1_shapeAt {σ : mg_St} {j : Nat} (h : j < 70) : f_X1_shapeAt σ (nI j) = some (σ 9 j) := by
  unfold f_X1_shapeAt; simp [k1_isPlace h, mg_rdn h (Nat.le_refl 70)]
theorem k1_sizeAt {σ : mg_St} {j : Nat} (h : j < 70) : f_X1_sizeAt σ (nI j) = some (σ 10 j) := by
  unfold f_X1_sizeAt; simp [k1_isPlace h, mg_rdn h (Nat.le_refl 70)]
theorem k1_isBare {σ : mg_St} {j : Nat} (h : j < 70) : f_X1_isBare σ (nI j) = some (if σ 8 j = 0 then 1 else 0) := by
  unfold f_X1_isBare; simp only [k1_kindAt h, Option.bind_some]; split <;> rfl
theorem k1_isPond {σ : mg_St} {j : Nat} (h : j < 70) : f_X1_isPond σ (nI j) = some (if σ 8 j = 2 then 1 else 0) := by
  unfold f_X1_isPond; simp only [k1_kindAt h, Option.bind_some]; split <;> rfl
theorem k1_isWall {σ : mg_St} {j : Nat} (h : j < 70) : f_X1_isWall σ (nI j) = some (if σ 8 j = 3 then 1 else 0) := by
  unfold f_X1_isWall; simp only [k1_kindAt h, Option.bind_some]; split <;> rfl
theorem k1_isGreat {σ : mg_St} {j : Nat} (h : j < 70) : f_X1_isGreatRock σ (nI j) = some (if σ 8 j = 1 ∧ ¬ σ 10 j < 7 then 1 else 0) := by
  unfold f_X1_isGreatRock; simp only [k1_kindAt h, k1_sizeAt h, Option.bind_some]
  split <;> rename_i a
  · split <;> rename_i b <;> simp [a, b]
  · simp [a]
theorem k1_hasCarps {σ : mg_St} {j : Nat} (h : j < 70) : f_X1_hasCarps σ (nI j) = some (if σ 11 j ≤ 0 then 0 else 1) := by
  unfold f_X1_hasCarps; simp [k1_isPlace h, mg_rdn h (Nat.le_refl 70)]; split <;> rfl
theorem k1_manyOf4 {σ : mg_St} {v : Int32} : ∀ (n j : Nat), j ≤ 70 → 70 < n + j → f_X1_manyOf_4 σ v n (mg_sum (fun k => if σ 8 k = v then 1 else 0) j) (nI j) = some (mg_sum (fun k => if σ 8 k = v then 1 else 0) 70, nI 70) := by
  intro n; induction n with
  | zero => intro j h1 h2; omega
  | succ n ih =>
    intro j h1 h2
    unfold f_X1_manyOf_4
    rcases Nat.lt_or_ge j 70 with h | h
    · rw [if_neg (mg_lt70 j h).2, mg_rdn h (Nat.le_refl 70), ← nI_succ]
      have := ih (j + 1) (by omega) (by omega)
      simp only [mg_sum] at this
      simp only [Option.bind_some]
      split <;> rename_i a
      · rw [if_pos a] at this; exact this
      · rw [if_neg a, Int32.add_zero] at this; exact this
    · have e : j = 70 := by omega
      subst e; rfl
theorem k1_manyOf {σ : mg_St} {v : Int32} : f_X1_manyOf σ v = some (mg_sum (fun k => if σ 8 k = v then 1 else 0) 70) := by
  unfold f_X1_manyOf
  have := k1_manyOf4 (σ := σ) (v := v) 5000 0 (by omega) (by omega)
  simp only [mg_sum] at this
  rw [show (0 : Int32) = nI 0 from rfl] at this ⊢
  rw [this]; rfl
theorem k1_setCell {σ : mg_St} {j : Nat} {a b c : Int32} (h : j < 70) : f_X1_setCell σ (nI j) a b c = some (mg_su (mg_su (mg_su σ 8 j a) 9 j b) 10 j c) := by
  unfold f_X1_setCell; simp [k1_isPlace h, mg_wrn h (Nat.le_refl 70)]
/-- the next place on: north, east, south, west -/
def mg_nx (p d : Nat) : Option Nat :=
  if d = 0 then (if p < 10 then none else some (p - 10))
  else if d = 1 then (if p % 10 = 9 then none else some (p + 1))
  else if d = 2 then (if 60 ≤ p then none else some (p + 10))
  else (if p % 10 = 0 then none else some (p - 1))
def mg_rk (p d : Nat) : Nat := if d = 0 then p / 10 else if d = 1 then 9 - p % 10 else if d = 2 then 6 - p / 10 else p % 10
theorem mg_nx_lt {p d q : Nat} (hp : p < 70) (hd : d < 4) (h : mg_nx p d = some q) : q < 70 ∧ mg_rk q d + 1 = mg_rk p d := by
  unfold mg_nx at h; unfold mg_rk
  split at h
  · split at h
    · cases h
    · cases h; simp [*]; omega
  · split at h
    · split at h
      · cases h
      · cases h; simp [*]; omega
    · split at h
      · split at h
        · cases h
        · cases h; simp [*]; omega
      · split at h
        · cases h
        · cases h; simp [*]; omega
theorem mg_rk_le {p d : Nat} (hp : p < 70) : mg_rk p d ≤ 9 := by
  unfold mg_rk; split
  · omega
  · split
    · omega
    · split <;> omega
def mg_oI (o : Option Nat) : Int32 := match o with
  | some q => nI q
  | none => -1
theorem k1_beside_fin : ∀ p : Fin 70, ∀ d : Fin 4, f_X1_beside (fun _ _ => 0) (nI p.1) (nI d.1) = some (mg_oI (mg_nx p.1 d.1)) := by decide +kernel
theorem k1_beside {σ : mg_St} {p d : Nat} (hp : p < 70) (hd : d < 4) : f_X1_beside σ (nI p) (nI d) = some (mg_oI (mg_nx p d)) :=
  k1_beside_fin ⟨p, hp⟩ ⟨d, hd⟩
theorem k8_step_fin : ∀ p : Fin 70, ∀ d : Fin 4, f_X8_isCell (fun _ _ => 0) (nI (p.1 % 10) + mg_sx d.1) (nI (p.1 / 10) + mg_sy d.1) = some (if mg_nx p.1 d.1 = none then 0 else 1) := by decide +kernel
theorem k8_step2_fin : ∀ p : Fin 70, ∀ d : Fin 4, ∀ q : Fin 70, mg_nx p.1 d.1 = some q.1 → nI (p.1 % 10) + mg_sx d.1 = nI (q.1 % 10) ∧ nI (p.1 / 10) + mg_sy d.1 = nI (q.1 / 10) := by decide +kernel
theorem mg_coord_fin : ∀ p : Fin 70, nI p.1 - nI p.1 / 10 * 10 = nI (p.1 % 10) ∧ nI p.1 / 10 = nI (p.1 / 10) ∧ 10 * nI (p.1 / 10) + nI (p.1 % 10) = nI p.1 := by decide +kernel
theorem mg_coord {p : Nat} (h : p < 70) : nI p - nI p / 10 * 10 = nI (p % 10) ∧ nI p / 10 = nI (p / 10) ∧ 10 * nI (p / 10) + nI (p % 10) = nI p := mg_coord_fin ⟨p, h⟩
