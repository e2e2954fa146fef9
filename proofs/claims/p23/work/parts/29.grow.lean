/-! ===== ponds read by both ===== -/
theorem k1_pondAt {σ : mg_St} {μ : Nat → Nat} {j : Nat} (hP : mg_pnd σ μ) (h : j < 70) : (σ 8 j ≠ 2 → f_X1_pondAt σ (nI j) = some (-1)) ∧ (σ 8 j = 2 → ∃ q, q < 70 ∧ f_X1_pondAt σ (nI j) = some (nI q) ∧ σ 12 j = nI q ∧ σ 13 q = mg_cells (σ 8) μ j ∧ σ 14 q = mg_aged (σ 8) (σ 11) μ j ∧ ∀ k', k' < 70 → (σ 12 k' = nI q ↔ σ 8 k' = 2 ∧ μ k' = μ j)) := by
  obtain ⟨a1, a2⟩ := hP.2 j h
  unfold f_X1_pondAt
  rw [k1_isPlace h, Option.bind_some, if_neg (show ¬ (1 : Int32) = 0 by decide), mg_rdn h (Nat.le_refl 70), Option.bind_some, Option.bind_some]
  constructor
  · intro k; rw [a1 k]; rfl
  · intro k
    obtain ⟨q, hq, b1, b2⟩ := a2 k
    refine ⟨q, hq, ?_, b1, b2⟩
    rw [b1, if_neg (nI_pos (by omega)), if_neg (mg_lt70 q hq).2]
theorem k1_cellsAt {σ : mg_St} {μ : Nat → Nat} {j : Nat} (hP : mg_pnd σ μ) (h : j < 70) : f_X1_cellsOfPondAt σ (nI j) = some (if σ 8 j = 2 then mg_cells (σ 8) μ j else 0) := by
  obtain ⟨a1, a2⟩ := k1_pondAt hP h
  unfold f_X1_cellsOfPondAt
  by_cases k : σ 8 j = 2
  · obtain ⟨q, hq, b1, b2, b3, -⟩ := a2 k
    rw [b1, Option.bind_some, if_neg (mg_m1 q (by omega)), mg_rdn hq (Nat.le_refl 70), Option.bind_some, b3, if_pos k]
  · rw [a1 k, Option.bind_some, if_pos rfl, if_neg k]
theorem k1_carpsAt {σ : mg_St} {μ : Nat → Nat} {j : Nat} (hP : mg_pnd σ μ) (h : j < 70) : f_X1_carpsOfPondAt σ (nI j) = some (if σ 8 j = 2 then mg_aged (σ 8) (σ 11) μ j else 0) := by
  obtain ⟨a1, a2⟩ := k1_pondAt hP h
  unfold f_X1_carpsOfPondAt
  by_cases k : σ 8 j = 2
  · obtain ⟨q, hq, b1, b2, b3, b4, -⟩ := a2 k
    rw [b1, Option.bind_some, if_neg (mg_m1 q (by omega)), mg_rdn hq (Nat.le_refl 70), Option.bind_some, b4, if_pos k]
  · rw [a1 k, Option.bind_some, if_pos rfl, if_neg k]
/-- too full: by the class's account -/
abbrev mg_full (σ : mg_St) (μ : Nat → Nat) (j : Nat) : Prop := ¬ mg_aged (σ 8) (σ 11) μ j ≤ 2 * mg_cells (σ 8) μ j
theorem k1_tooFull {σ : mg_St} {μ : Nat → Nat} {j : Nat} (hP : mg_pnd σ μ) (h : j < 70) (k : σ 8 j = 2) : f_X1_isTooFull σ (nI j) = some (if mg_full σ μ j then 1 else 0) := by
  unfold f_X1_isTooFull
  rw [k1_carpsAt hP h, Option.bind_some, k1_cellsAt hP h, Option.bind_some, if_pos k, if_pos k]
  by_cases a : mg_aged (σ 8) (σ 11) μ j ≤ 2 * mg_cells (σ 8) μ j
  · rw [if_pos a, if_neg (fun c => c a)]
  · rw [if_neg a, if_pos a]
theorem k8_cellsOf {σ τ : mg_St} {μ : Nat → Nat} {j : Nat} (hE : mg_cel σ τ) (hM : mg_M (σ 8) μ) (hK : mg_mk τ μ) (h : j < 70) (kj : σ 8 j = 2) : f_X8_cellsOf τ (nI (μ j)) = some (mg_cells (σ 8) μ j) := by
  unfold f_X8_cellsOf
  rw [k8_cellsOf14, Option.bind_some]
  unfold mg_cells
  refine congrArg some ?_
  refine mg_sum_congr (fun k hk => ?_)
  rw [hK k hk, (hE k hk).1]
  have := (hM j h kj).1
  by_cases kk : σ 8 k = 2
  · have := (hM k hk kk).1
    rw [if_pos kk]
    by_cases m : μ k = μ j
    · rw [if_pos (by rw [m]), if_pos ⟨kk, m⟩]
    · rw [if_neg (fun e => m (mg_inj (by omega) (by omega) e)), if_neg (fun c => m c.2)]
  · rw [if_neg kk, if_neg (fun e => mg_m1 (μ j) (by omega) e.symm), if_neg (fun c => kk c.1)]
theorem mg_aged_carps {σ τ : mg_St} {c : Nat} {μ : Nat → Nat} {x : Nat} (hC : mg_crp σ τ c) (hA : mg_age σ c) : mg_aged (σ 8) (σ 11) μ x = mg_sum (fun j => if σ 17 j = 0 then (if μ (σ 16 j).toNatClampNeg = μ x then 1 else 0) else 0) c := by
  have e1 : mg_aged (σ 8) (σ 11) μ x = mg_sum (fun k => mg_sum (fun j => if (σ 8 k = 2 ∧ μ k = μ x) ∧ σ 17 j = 0 ∧ σ 16 j = nI k then 1 else 0) c) 70 := by
    unfold mg_aged
    refine mg_sum_congr (fun k hk => ?_)
    by_cases a : σ 8 k = 2 ∧ μ k = μ x
    · rw [if_pos a, hA k hk]
      refine mg_sum_congr (fun j hj => ?_)
      simp only [a, true_and, and_self]
    · rw [if_neg a]
      refine (mg_sum_zero (n := c)).symm.trans (mg_sum_congr (fun j hj => ?_))
      rw [if_neg (fun c => a c.1)]
  rw [e1, mg_sum_comm]
  refine mg_sum_congr (fun j hj => ?_)
  obtain ⟨q, hq, h1, h2, h3, h4, h5⟩ := hC j hj
  have e : (σ 16 j).toNatClampNeg = q := by rw [h1]; exact nI_clamp (by omega)
  rw [e]
  by_cases s : σ 17 j = 0
  · rw [if_pos s]
    have := mg_sum_off (f := fun _ => 0) (g := fun k => if (σ 8 k = 2 ∧ μ k = μ x) ∧ σ 17 j = 0 ∧ σ 16 j = nI k then 1 else 0) (k := q) (v := if μ q = μ x then 1 else 0) hq (by simp only [h5 s, s, h1, true_and, and_true, Int32.zero_add]) (fun i hi ne => by
      rw [if_neg]; intro c
      have := c.2.2; rw [h1] at this
      exact ne (mg_inj (by omega) (by omega) this).symm)
    rw [this, mg_sum_zero, Int32.zero_add]
  · rw [if_neg s]
    refine Eq.trans (mg_sum_congr (fun k hk => ?_)) (mg_sum_zero (n := 70))
    rw [if_neg (fun c => s c.2.1)]
theorem k8_carpsOf {σ τ : mg_St} {μ : Nat → Nat} {j c g p : Nat} (hI : mg_core σ τ c g p μ) (hK : mg_mk τ μ) (h : j < 70) (kj : σ 8 j = 2) : f_X8_carpsOf τ (nI (μ j)) = some (mg_aged (σ 8) (σ 11) μ j) := by
  obtain ⟨hN, hE, hC, hG, hPo, hA, hM, hP⟩ := hI
  obtain ⟨n1, n2, n3, n4, n5, -⟩ := hN
  unfold f_X8_carpsOf
  rw [k8_carpsOf4 (τ := τ) (c := c) (fun k => (σ 16 k).toNatClampNeg) (nI (μ j)) n5 n1 (fun k hk => by
    obtain ⟨q, hq, h1, h2, -⟩ := hC k hk
    rw [h1, nI_clamp (by omega)]; exact ⟨hq, h2⟩), Option.bind_some, mg_aged_carps hC hA]
  refine congrArg some ?_
  refine mg_sum_congr (fun k hk => ?_)
  obtain ⟨q, hq, h1, h2, h3, h4, h5⟩ := hC k hk
  have e : (σ 16 k).toNatClampNeg = q := by rw [h1]; exact nI_clamp (by omega)
  rw [e, h3]
  by_cases s : σ 17 k = 0
  · rw [if_pos s, if_pos s, hK q hq, (hE q hq).1, if_pos (h5 s)]
    have a1 := (hM q hq (h5 s)).1
    have a2 := (hM j h kj).1
    by_cases m : μ q = μ j
    · rw [if_pos (by rw [m]), if_pos m]
    · rw [if_neg (fun e => m (mg_inj (by omega) (by omega) e)), if_neg m]
  · rw [if_neg s, if_neg s]
theorem k8_tooFull {σ τ : mg_St} {μ : Nat → Nat} {j c g p : Nat} (hI : mg_core σ τ c g p μ) (hK : mg_mk τ μ) (h : j < 70) (kj : σ 8 j = 2) : f_X8_isTooFull τ (nI (μ j)) = some (if mg_full σ μ j then 1 else 0) := by
  unfold f_X8_isTooFull
  rw [k8_carpsOf hI hK h kj, Option.bind_some, k8_cellsOf hI.2.1 hI.2.2.2.2.2.2.1 hK h kj, Option.bind_some]
  by_cases a : mg_aged (σ 8) (σ 11) μ j ≤ 2 * mg_cells (σ 8) μ j
  · rw [if_pos a, if_neg (fun c => c a)]
  · rw [if_neg a, if_pos a]
/-! ===== the days ===== -/
def mg_be (b e : Nat) : Prop := (b = 5 ∧ e = 1) ∨ (b = 6 ∧ e = 2)
/-- all that a day needs and keeps -/
def mg_J (b e c g p : Nat) (μ : Nat → Nat) (σ τ : mg_St) : Prop := mg_core σ τ c g p μ ∧ mg_crs σ τ b e c p ∧ mg_mk τ μ
theorem mg_grow_fin : ∀ z : Fin 41, 1 ≤ z.1 → mg_clamp (nI z.1 + 1) = (if nI z.1 + 1 < 40 then nI z.1 + 1 else 40) ∧ (∃ w : Fin 41, 1 ≤ w.1 ∧ mg_clamp (nI z.1 + 1) = nI w.1) ∧ mg_clamp (nI z.1 + -1) = (if 1 < nI z.1 - 1 then nI z.1 - 1 else 1) ∧ (∃ w : Fin 41, 1 ≤ w.1 ∧ mg_clamp (nI z.1 + -1) = nI w.1) := by decide +kernel
theorem mg_su_J {b e c g p j : Nat} {μ : Nat → Nat} {σ τ : mg_St} {v : Int32} (hb : mg_be b e) (hJ : mg_J b e c g p μ σ τ) (hj : j < c) (hv : ∃ z, 1 ≤ z ∧ z ≤ 40 ∧ v = nI z) : mg_J b e c g p μ (mg_su σ (2 * b + 11) j v) (mg_su τ (2 * e + 10) j v) := by
  obtain ⟨hI, ⟨r1, r2, r3, r4, r5⟩, hK⟩ := hJ
  have hb' : b = e + 4 ∧ 1 ≤ e ∧ e ≤ 2 := by unfold mg_be at hb; omega
  refine ⟨mg_core_fr hI (fun a h1 _ _ _ _ _ => mg_su_ne (by omega)) (fun a h1 _ _ _ _ => mg_su_ne (by omega)) (by rw [mg_su_ne (by omega)]) (by rw [mg_su_ne (by omega)]) (by rw [mg_su_ne (by omega)]), ⟨?_, ?_, ?_, ?_, ?_⟩, ?_⟩
  · rw [mg_su_ne (by omega), mg_su_ne (by omega)]; exact r1
  · rw [mg_su_ne (by omega), mg_su_ne (by omega)]; exact r2
  · intro i hi
    rw [mg_su_eq, mg_su_eq]
    by_cases e : i = j
    · rw [if_pos e, if_pos e]; exact ⟨rfl, hv⟩
    · rw [if_neg e, if_neg e]; exact r3 i hi
  · intro i hi; rw [mg_su_ne (by omega), mg_su_ne (by omega)]; exact r4 i hi
  · intro i hi; rw [mg_su_ne (by omega)]; exact r5 i hi
  · intro k hk; rw [mg_su_ne (by omega), mg_su_ne (by omega)]; exact hK k hk
theorem mg_growL {b e c g p : Nat} {μ : Nat → Nat} (hb : mg_be b e) : ∀ (n j m : Nat) (σ τ : mg_St), mg_J b e c g p μ σ τ → j ≤ c → c < n + j → c < m + j →
    ∃ σ' τ', f_X6_letCarpsGrow_2 b n (nI j) σ = some (nI c, σ') ∧ f_X8_day_2 e m (nI j) τ = some (nI c, τ') ∧ mg_J b e c g p μ σ' τ' ∧ (∀ a, a ≠ 2 * b + 11 → σ' a = σ a) ∧ (∀ a, a ≠ 2 * e + 10 → τ' a = τ a) := by
  intro n; induction n with
  | zero => intro j m σ τ hJ h1 h2; omega
  | succ n ih =>
    intro j m σ τ hJ h1 h2 h3
    obtain ⟨m, rfl⟩ : ∃ m', m = m' + 1 := ⟨m - 1, by omega⟩
    have hI := hJ.1
    obtain ⟨hN, hE, hC, hG, hPo, hA, hM, hP⟩ := hJ.1
    obtain ⟨n1, n2, n3, n4, n5, n6, n7, n8, n9⟩ := hN
    unfold f_X6_letCarpsGrow_2 f_X8_day_2
    rw [n4, n5]
    rcases Nat.lt_or_ge j c with h | h
    · rw [if_neg (nI_ge h (by omega)), if_neg (nI_ge h (by omega)), k4_isHere n4 n1 h, Option.bind_some, mg_rdn (show j < 30 by omega) (show 30 ≤ 70 by omega), Option.bind_some]
      obtain ⟨q, hq, c1, c2, c3, c4, c5⟩ := hC j h
      rw [c3]
      by_cases s : σ 17 j = 0
      · have kq := c5 s
        obtain ⟨z1, z, z2, z3, z4⟩ := hJ.2.1.2.2.1 j h
        rw [if_pos s, if_pos s, if_neg (show ¬ (1 : Int32) = 0 by decide), k4_placeOf n4 n1 h, Option.bind_some, c1, k1_tooFull hP hq kq, Option.bind_some]
        rw [mg_rdn (show j < 30 by omega) (show 30 ≤ 70 by omega), Option.bind_some, c2, mg_rdn hq (Nat.le_refl 70), Option.bind_some, hJ.2.2 q hq, (hE q hq).1, if_pos kq, k8_tooFull hI hJ.2.2 hq kq, Option.bind_some]
        obtain ⟨f1, ⟨w1, f2, f3⟩, f4, ⟨w2, f5, f6⟩⟩ := mg_grow_fin ⟨z, by omega⟩ z2
        simp only at f1 f2 f3 f4 f5 f6
        by_cases hf : mg_full σ μ q
        · rw [if_pos hf, if_neg (show ¬ (1 : Int32) = 0 by decide), if_neg (show ¬ (1 : Int32) = 0 by decide)]
          rw [Option.bind_some, k0_carpSize (by omega), Option.bind_some, k0_setCarpSize (by omega), Option.bind_some, mg_rdn (show j < 30 by omega) (show 30 ≤ 70 by omega), Option.bind_some, mg_wrn (show j < 30 by omega) (show 30 ≤ 70 by omega), Option.bind_some, z1, z4, ← f4, ← nI_succ]
          obtain ⟨σ', τ', g1, g2, g3, g4, g5⟩ := ih (j + 1) m _ _ (mg_su_J (v := mg_clamp (nI z + -1)) hb hJ h ⟨w2.1, f5, by omega, f6⟩) (by omega) (by omega) (by omega)
          exact ⟨σ', τ', g1, g2, g3, fun a ha => by rw [g4 a ha, mg_su_ne ha], fun a ha => by rw [g5 a ha, mg_su_ne ha]⟩
        · rw [if_neg hf, if_pos rfl, if_pos rfl]
          rw [Option.bind_some, k0_carpSize (by omega), Option.bind_some, k0_setCarpSize (by omega), Option.bind_some, mg_rdn (show j < 30 by omega) (show 30 ≤ 70 by omega), Option.bind_some, mg_wrn (show j < 30 by omega) (show 30 ≤ 70 by omega), Option.bind_some, z1, z4, ← f1, ← nI_succ]
          obtain ⟨σ', τ', g1, g2, g3, g4, g5⟩ := ih (j + 1) m _ _ (mg_su_J (v := mg_clamp (nI z + 1)) hb hJ h ⟨w1.1, f2, by omega, f3⟩) (by omega) (by omega) (by omega)
          exact ⟨σ', τ', g1, g2, g3, fun a ha => by rw [g4 a ha, mg_su_ne ha], fun a ha => by rw [g5 a ha, mg_su_ne ha]⟩
      · rw [if_neg s, if_neg s, if_pos rfl, ← nI_succ]
        exact ih (j + 1) m σ τ hJ (by omega) (by omega) (by omega)
    · have e : j = c := by omega
      subst e
      exact ⟨σ, τ, by rw [if_pos (Int32.le_refl _)], by rw [if_pos (Int32.le_refl _)], hJ, fun _ _ => rfl, fun _ _ => rfl⟩
