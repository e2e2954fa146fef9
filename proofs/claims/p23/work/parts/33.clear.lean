/-! ===== clear, cell ===== -/
theorem mg_10 : ((1 : Int32) = 0) = False := by decide
theorem k8_clear45 {τ : mg_St} {c : Nat} {a1 a2 a3 : Int32} (hc : τ 0 5 = nI c) (hp : c ≤ 30) (hs : ∀ k, k < c → τ 8 k = 0 ∨ τ 8 k = 1) : ∀ (n j : Nat) (x : Int32), (x = 0 ∨ x = 1) → j ≤ c → c < n + j →
    ∃ y, f_X8_clear_45 τ a1 a2 a3 n x (nI j) = some (y, nI c) ∧ (y = 0 ∨ y = 1) ∧ (y = 1 ↔ x = 1 ∧ ∀ k, j ≤ k → k < c → τ 8 k = 0 → τ 7 k ≠ a3) := by
  intro n; induction n with
  | zero => intro j x hx h1 h2; omega
  | succ n ih =>
    intro j x hx h1 h2
    unfold f_X8_clear_45
    rw [hc]
    have a1' : x &&& 1 = x := by rcases hx with h | h <;> subst h <;> decide
    have a0' : x &&& 0 = 0 := by rcases hx with h | h <;> subst h <;> decide
    rcases Nat.lt_or_ge j c with h | h
    · rw [if_neg (nI_ge h (by omega)), mg_rdn (show j < 30 by omega) (show 30 ≤ 70 by omega), Option.bind_some, mg_rdn (show j < 30 by omega) (show 30 ≤ 70 by omega), Option.bind_some, a1', a0', ← nI_succ]
      have skip : (τ 8 j = 0 → τ 7 j ≠ a3) → ∃ y, f_X8_clear_45 τ a1 a2 a3 n x (nI (j + 1)) = some (y, nI c) ∧ (y = 0 ∨ y = 1) ∧ (y = 1 ↔ x = 1 ∧ ∀ k, j ≤ k → k < c → τ 8 k = 0 → τ 7 k ≠ a3) := by
        intro hj
        obtain ⟨y, y1, y2, y3⟩ := ih (j + 1) x hx (by omega) (by omega)
        refine ⟨y, y1, y2, y3.trans ⟨fun ⟨p1, p2⟩ => ⟨p1, fun k hk => ?_⟩, fun ⟨p1, p2⟩ => ⟨p1, fun k hk => p2 k (by omega)⟩⟩⟩
        rcases Nat.lt_or_ge j k with h' | h'
        · exact p2 k h'
        · have e : k = j := by omega
          subst e; exact fun _ => hj
      by_cases s1 : τ 8 j = 1
      · rw [if_pos s1]; exact skip (fun c => by rw [s1] at c; exact absurd c (by decide))
      · have s0 : τ 8 j = 0 := by rcases hs j h with h | h; exact h; exact absurd h s1
        rw [if_neg s1]
        by_cases pl : τ 7 j = a3
        · rw [if_pos pl]
          obtain ⟨y, y1, y2, y3⟩ := ih (j + 1) 0 (Or.inl rfl) (by omega) (by omega)
          refine ⟨y, y1, y2, y3.trans ⟨fun ⟨p1, p2⟩ => absurd p1 (by decide), fun ⟨p1, p2⟩ => absurd pl (p2 j (Nat.le_refl _) h s0)⟩⟩
        · rw [if_neg pl]; exact skip (fun _ => pl)
    · have e : j = c := by omega
      subst e
      exact ⟨x, by rw [if_pos (Int32.le_refl _)], hx, ⟨fun p => ⟨p, fun k h1 h2 => by omega⟩, fun p => p.1⟩⟩
theorem mg_hasno {σ τ : mg_St} {c g p q : Nat} {μ : Nat → Nat} (hI : mg_core σ τ c g p μ) (hq : q < 70) : (σ 11 q ≤ 0 ↔ ∀ j, j < c → σ 17 j = 0 → σ 16 j ≠ nI q) := by
  obtain ⟨m, m1, m2, m3⟩ := mg_sum_ind (P := fun j => σ 17 j = 0 ∧ σ 16 j = nI q) c
  have hA : σ 11 q = nI m := (hI.2.2.2.2.2.1 q hq).trans m2
  have hc : c ≤ 30 := hI.1.1
  rw [hA]
  constructor
  · intro h j hj s e
    have : m = 0 := by
      rcases Nat.eq_zero_or_pos m with z | z
      · exact z
      · exact absurd h (nI_nle z (by omega))
    exact m3.1 this j hj ⟨s, e⟩
  · intro h
    have : m = 0 := m3.2 (fun k hk ⟨s, e⟩ => h k hk s e)
    rw [this]; decide +kernel
theorem mg_negsub (a b : Int32) : a - -b = a + b := by grind
theorem mg_zsub (a : Int32) : a - 0 = a + 0 := by grind
theorem sim_clear {σ τ : mg_St} (I : mg_Inv σ τ) (x1 x2 : Int32) : ∃ (out : Except (Fin 3) Int32) (σ1 : mg_St) (y : Int32 × mg_St), f_X6_clear σ x1 x2 = some (out, σ1) ∧ f_X8_clear τ x1 x2 = some y ∧ mg_Inv σ1 y.2 ∧ y.2 0 0 = mg_cd 1 9 2 out ∧ (∀ v, out = .ok v → y.1 = v) ∧ out ≠ .error 1 := by
  unfold f_X6_clear f_X8_clear
  rcases mg_place σ (mg_su τ 0 0 0) x1 x2 with ⟨h1, h2⟩ | ⟨q, hq, e1, e2, e3, h1, h2⟩
  · rw [k6_place0 h1, mg_xb_err, h2]
    exact ⟨.error 0, σ, _, rfl, rfl, mg_thr (mg_thr I), rfl, (fun v h => by cases h), by simp⟩
  have I' := I
  obtain ⟨c, g, p, μ, hI, hR⟩ := I
  have hE := hI.2.1 q hq
  have e8 : mg_su τ 0 0 0 3 q = σ 8 q := hE.1
  rw [k6_place1 h1, mg_xb_ok, h2, Option.bind_some, if_neg (show ¬ (1 : Int32) = 0 by decide), k6_num e3, Option.bind_some, k1_isBare hq, Option.bind_some, e3, mg_rdn hq (Nat.le_refl 70), Option.bind_some, e8]
  have hsold : ∀ k, k < c → mg_su τ 0 0 0 8 k = 0 ∨ mg_su τ 0 0 0 8 k = 1 := by
    intro k hk
    obtain ⟨pl, c1, c2, c3, c4, c5, c6⟩ := hI.2.2.1 k hk
    show τ 8 k = 0 ∨ τ 8 k = 1
    rw [c4]; exact c5
  obtain ⟨n1, n2, n3, n4, n5, n6, n7, n8, n9⟩ := hI.1
  have hnoiff : (σ 11 q ≤ 0) ↔ ∀ k, 0 ≤ k → k < c → mg_su τ 0 0 0 8 k = 0 → mg_su τ 0 0 0 7 k ≠ nI q := by
    rw [mg_hasno hI hq]
    constructor
    · intro h k _ hk s
      obtain ⟨pl, c1, c2, c3, c4, c5, c6⟩ := hI.2.2.1 k hk
      have s' : τ 8 k = 0 := s
      show τ 7 k ≠ nI q
      rw [c3, ← c2]; exact h k hk (by rw [← c4]; exact s')
    · intro h k hk s
      obtain ⟨pl, c1, c2, c3, c4, c5, c6⟩ := hI.2.2.1 k hk
      have := h k (by omega) hk (show τ 8 k = 0 by rw [c4]; exact s)
      have h2 : τ 7 k ≠ nI q := this
      rw [c3, ← c2] at h2; exact h2
  by_cases k : σ 8 q = 0
  · rw [if_pos k, if_neg (show ¬ (1 : Int32) = 0 by decide), if_pos k, Option.bind_some]
    obtain ⟨y, y1, y2, y3⟩ := k8_clear45 (τ := mg_su τ 0 0 0) (a1 := x1) (a2 := x2) (a3 := nI q) n5 n1 hsold 5000 0 0 (Or.inl rfl) (by omega) (by omega)
    rw [nI_0] at y1
    have : y = 0 := by
      rcases y2 with h | h
      · exact h
      · exact absurd (y3.1 h).1 (by decide)
    rw [y1, Option.bind_some, this]
    exact ⟨.error 2, σ, _, rfl, rfl, mg_thr (mg_thr I'), rfl, (fun v h => by cases h), by simp⟩
  rw [if_neg k, if_pos rfl, if_neg k, Option.bind_some, k1_hasCarps hq, Option.bind_some]
  obtain ⟨y, y1, y2, y3⟩ := k8_clear45 (τ := mg_su τ 0 0 0) (a1 := x1) (a2 := x2) (a3 := nI q) n5 n1 hsold 5000 0 1 (Or.inr rfl) (by omega) (by omega)
  rw [nI_0] at y1
  rw [y1, Option.bind_some]
  by_cases hno : σ 11 q ≤ 0
  · have y1' : y = 1 := y3.2 ⟨rfl, hnoiff.1 hno⟩
    rw [if_pos hno, if_pos rfl, y1', if_neg (show ¬ (1 : Int32) = 0 by decide), k1_sizeAt hq, Option.bind_some]
    have hmod : ((if σ 8 q = 1 then
      (mg_rd (mg_su τ 0 0 0) 5 70 (nI q)).bind fun v9 =>
      (Option.bind (f_X8_spent (mg_su τ 0 0 0) x1 x2 0 (-v9)) fun y10 =>
      some (y10.1, y10.2))
      else
      (Option.bind (f_X8_spent (mg_su τ 0 0 0) x1 x2 0 0) fun y8 =>
      some (y8.1, y8.2))) : Option (Int32 × mg_St)) = some (τ 1 1 + σ 10 q, mg_su (mg_su (mg_su τ 0 0 0) 3 q 0) 1 1 (τ 1 1 + σ 10 q)) := by
      by_cases k1 : σ 8 q = 1
      · rw [if_pos k1, mg_rdn hq (Nat.le_refl 70), Option.bind_some, show mg_su τ 0 0 0 5 q = σ 10 q from (hE.2.2.1 k1).2.1, k8_spent hq e3, Option.bind_some]
        show some (τ 1 1 - -σ 10 q, mg_su (mg_su (mg_su τ 0 0 0) 3 q 0) 1 1 (τ 1 1 - -σ 10 q)) = _
        rw [mg_negsub]
      · rw [if_neg k1, k8_spent hq e3, Option.bind_some, (hE.2.2.2 k1).2]
        show some (τ 1 1 - 0, mg_su (mg_su (mg_su τ 0 0 0) 3 q 0) 1 1 (τ 1 1 - 0)) = _
        rw [mg_zsub]
    rw [Option.bind_some, hmod]
    unfold f_X1_setBare
    rw [k1_isPond hq, Option.bind_some, k1_setCell hq, Option.bind_some]
    have e51 : mg_su σ 5 1 (σ 5 1 + σ 10 q) 8 q = σ 8 q := rfl
    rw [e51]
    have hB : mg_base (mg_su (mg_su (mg_su (mg_su σ 5 1 (σ 5 1 + σ 10 q)) 8 q 0) 9 q (-1)) 10 q 0) (mg_su (mg_su (mg_su τ 0 0 0) 3 q 0) 1 1 (τ 1 1 + σ 10 q)) c g p := by
      refine mg_base_set (s := -1) (z := 0) (k := 0) (mg_core_base hI) hq ?_ rfl rfl rfl ?_ rfl (fun _ _ => rfl) (fun _ _ => rfl) rfl rfl rfl (Or.inl rfl) (fun h => absurd h (by decide)) (fun _ => ⟨rfl, rfl⟩) (Or.inr ((mg_hasno hI hq).1 hno))
      · intro a h1 h2 h3 h4 h5 h6 h7 h8 h9; rw [mg_su_ne h9, mg_su_ne h8, mg_su_ne h7, mg_su_ne h3]
      · intro a h1 h2 h3 h4 h5 h6 h7 h8; try dsimp only
        rw [mg_su_ne h3, mg_su_ne h6, mg_su_ne h2]
    by_cases k2 : σ 8 q = 2
    · rw [if_pos k2, if_neg (show ¬ (1 : Int32) = 0 by decide)]
      obtain ⟨σ', ν, s1, s2, s3, s4⟩ := mg_resurvey hB
      rw [s1, Option.bind_some, Option.bind_some]
      have f5 : σ' 5 = upd (σ 5) 1 (σ 5 1 + σ 10 q) := s3 5 (by decide) (by decide) (by decide) (by decide) (by decide)
      have f51 : σ' 5 1 = σ 5 1 + σ 10 q := by rw [f5]; rfl
      refine ⟨.ok (σ' 5 1), _, _, rfl, rfl, ⟨c, g, p, ν, s2, ?_⟩, rfl, ?_, by simp⟩
      · refine mg_crs_coin hR ?_ rfl ?_ ?_ ?_ rfl rfl
        · rw [f5]; rfl
        · rw [f51]; show σ 5 1 + σ 10 q = τ 1 1 + σ 10 q; rw [hR.2.1]
        · exact s3 21 (by decide) (by decide) (by decide) (by decide) (by decide)
        · exact s3 22 (by decide) (by decide) (by decide) (by decide) (by decide)
      · intro v hv; cases hv; show τ 1 1 + σ 10 q = _; rw [f51, hR.2.1]
    · rw [if_neg k2, if_pos rfl, Option.bind_some]
      refine ⟨.ok (σ 5 1 + σ 10 q), _, _, rfl, rfl, ⟨c, g, p, μ, ?_, ?_⟩, rfl, ?_, by simp⟩
      · refine mg_core_set (s := -1) (z := 0) (k := 0) hI hq k2 (by decide) ?_ rfl rfl rfl ?_ rfl (fun _ _ => rfl) (fun _ _ => rfl) rfl rfl rfl (Or.inl rfl) (fun h => absurd h (by decide)) (fun _ => ⟨rfl, rfl⟩)
        · intro a h1 h2 h3 h4 h5 h6 h7 h8 h9; rw [mg_su_ne h9, mg_su_ne h8, mg_su_ne h7, mg_su_ne h3]
        · intro a h1 h2 h3 h4 h5 h6 h7 h8; try dsimp only
          rw [mg_su_ne h3, mg_su_ne h6, mg_su_ne h2]
      · refine mg_crs_coin hR rfl rfl ?_ rfl rfl rfl rfl
        show σ 5 1 + σ 10 q = τ 1 1 + σ 10 q
        rw [hR.2.1]
      · intro v hv; cases hv
        show τ 1 1 + σ 10 q = _
        rw [hR.2.1]
  · have y0 : y = 0 := by
      rcases y2 with h | h
      · exact h
      · exact absurd (hnoiff.2 (y3.1 h).2) hno
    rw [if_neg hno, if_neg (show ¬ (1 : Int32) = 0 by decide), y0]
    exact ⟨.error 2, σ, _, rfl, rfl, mg_thr (mg_thr I'), rfl, (fun v h => by cases h), by simp⟩
theorem mg_what (σ τ : mg_St) (x : Int32) {N : Nat} {M M1 : Int32} (hN : N < 100) (eM : M = nI (N + 1)) (eM1 : M1 = nI N) : (f_X6_checkWhat σ x M = some (.error 0, σ) ∧ f_X8_isIn τ x 0 M1 = some 0) ∨ (∃ k, k < N + 1 ∧ x = nI k ∧ f_X6_checkWhat σ x M = some (.ok (), σ) ∧ f_X8_isIn τ x 0 M1 = some 1) := by
  unfold f_X6_checkWhat
  rw [mg_isIn]
  by_cases h1 : x < 0
  · left; rw [if_pos h1, if_neg (fun c => c.1 h1)]; exact ⟨rfl, rfl⟩
  · rw [if_neg h1]
    obtain ⟨j, hj, rfl⟩ := nI_of h1
    subst eM eM1
    by_cases h2 : nI j < nI (N + 1)
    · have hj2 : j < N + 1 := (nI_ltI hj (by omega)).1 h2
      right
      refine ⟨j, hj2, rfl, by rw [if_pos h2], by rw [if_pos ⟨h1, nI_le (by omega) (by omega)⟩]⟩
    · left
      have hj2 : ¬ j < N + 1 := fun c => h2 ((nI_ltI hj (by omega)).2 c)
      rw [if_neg h2, if_neg (fun c => (nI_ge (by omega) hj) c.2)]
      exact ⟨rfl, rfl⟩
theorem mg_rt5 {a0 a1 a2 a3 a4 : Int32} : mg_rt (upd (upd (upd (upd (upd (fun _ => 0) 0 a0) 1 a1) 2 a2) 3 a3) 4 a4) 5 (nI 0) = some a0 ∧ mg_rt (upd (upd (upd (upd (upd (fun _ => 0) 0 a0) 1 a1) 2 a2) 3 a3) 4 a4) 5 (nI 1) = some a1 ∧ mg_rt (upd (upd (upd (upd (upd (fun _ => 0) 0 a0) 1 a1) 2 a2) 3 a3) 4 a4) 5 (nI 2) = some a2 ∧ mg_rt (upd (upd (upd (upd (upd (fun _ => 0) 0 a0) 1 a1) 2 a2) 3 a3) 4 a4) 5 (nI 3) = some a3 ∧ mg_rt (upd (upd (upd (upd (upd (fun _ => 0) 0 a0) 1 a1) 2 a2) 3 a3) 4 a4) 5 (nI 4) = some a4 := by
  refine ⟨?_, ?_, ?_, ?_, ?_⟩ <;> (rw [mg_rtn (by decide) (by decide)]; rfl)
/-- a cell told by both -/
theorem mg_cellTold {σ τ : mg_St} {c g p q k : Nat} {μ : Nat → Nat} {x1 x2 : Int32} (hI : mg_core σ τ c g p μ) (hK : mg_mk τ μ) (hq : q < 70) (hk : k < 5) (h1 : f_X1_isInside σ x1 x2 = some 1) (e3 : 10 * x2 + x1 = nI q) :
    ∃ v, f_X6_cell σ x1 x2 (nI k) = some (.ok v, σ) ∧ f_X8_cellTold τ (nI q) (nI k) = some v := by
  have hE := hI.2.1 q hq
  have hP := hI.2.2.2.2.2.2.2
  refine ⟨(if k = 0 then σ 8 q else if k = 1 then σ 9 q else if k = 2 then σ 10 q else if k = 3 then (if σ 8 q = 2 then mg_cells (σ 8) μ q else 0) else (if σ 8 q = 2 then mg_aged (σ 8) (σ 11) μ q else 0)), ?_, ?_⟩
  · unfold f_X6_cell f_X6_checkWhat
    rw [k6_place1 h1, mg_xb_ok, if_neg (nI_pos (by omega)), if_pos (show nI k < 5 from nI_lt (b := 5) hk (by omega)), mg_xb_ok, k6_num e3, Option.bind_some, k1_kindAt hq, k1_shapeAt hq, k1_sizeAt hq, k1_cellsAt hP hq, k1_carpsAt hP hq]
    have : k = 0 ∨ k = 1 ∨ k = 2 ∨ k = 3 ∨ k = 4 := by omega
    rcases this with h | h | h | h | h <;> subst h <;> rfl
  · unfold f_X8_cellTold
    rw [mg_rdn hq (Nat.le_refl 70), mg_rdn hq (Nat.le_refl 70), mg_rdn hq (Nat.le_refl 70), mg_rdn hq (Nat.le_refl 70), hE.1]
    simp only [Option.bind_some]
    have fin : ∀ (a1 a2 a3 a4 : Int32), (a1 = σ 9 q) → (a2 = σ 10 q) → (a3 = if σ 8 q = 2 then mg_cells (σ 8) μ q else 0) → (a4 = if σ 8 q = 2 then mg_aged (σ 8) (σ 11) μ q else 0) → (mg_rt (upd (upd (upd (upd (upd (fun _ => 0) 0 (σ 8 q)) 1 a1) 2 a2) 3 a3) 4 a4) 5 (nI k)).bind (fun v17 => some v17) = some (if k = 0 then σ 8 q else if k = 1 then σ 9 q else if k = 2 then σ 10 q else if k = 3 then (if σ 8 q = 2 then mg_cells (σ 8) μ q else 0) else (if σ 8 q = 2 then mg_aged (σ 8) (σ 11) μ q else 0)) := by
      intro a1 a2 a3 a4 b1 b2 b3 b4
      rw [← b1, ← b2, ← b3, ← b4]
      obtain ⟨r0, r1, r2, r3, r4⟩ := mg_rt5 (a0 := σ 8 q) (a1 := a1) (a2 := a2) (a3 := a3) (a4 := a4)
      have : k = 0 ∨ k = 1 ∨ k = 2 ∨ k = 3 ∨ k = 4 := by omega
      rcases this with h | h | h | h | h <;> subst h
      · rw [r0]; rfl
      · rw [r1]; rfl
      · rw [r2]; rfl
      · rw [r3]; rfl
      · rw [r4]; rfl
    by_cases k1 : σ 8 q = 1
    · have k2 : ¬ σ 8 q = 2 := by rw [k1]; decide
      simp only [if_pos k1, if_neg k2, Option.bind_some, mg_10, if_true, if_false]
      have := fin (τ 4 q) (τ 5 q) 0 0 (hE.2.2.1 k1).1 (hE.2.2.1 k1).2.1 (by rw [if_neg k2]) (by rw [if_neg k2])
      simp only [if_neg k2] at this
      exact this
    · obtain ⟨z1, z2⟩ := hE.2.2.2 k1
      by_cases k2 : σ 8 q = 2
      · simp only [if_neg k1, if_pos k2, Option.bind_some, mg_10, if_true, if_false]
        rw [hK q hq, hE.1, if_pos k2, k8_cellsOf hI.2.1 hI.2.2.2.2.2.2.1 hK hq k2, k8_carpsOf hI hK hq k2]
        simp only [Option.bind_some]
        have := fin (-1) 0 _ _ z1.symm z2.symm (by rw [if_pos k2]) (by rw [if_pos k2])
        simp only [if_pos k2] at this
        exact this
      · simp only [if_neg k1, if_neg k2, Option.bind_some, mg_10, if_true, if_false]
        have := fin (-1) 0 0 0 z1.symm z2.symm (by rw [if_neg k2]) (by rw [if_neg k2])
        simp only [if_neg k2] at this
        exact this
theorem sim_cell {σ τ : mg_St} (I : mg_Inv σ τ) (x1 x2 x3 : Int32) : ∃ (out : Except (Fin 3) Int32) (σ1 : mg_St) (y : Int32 × mg_St), f_X6_cell σ x1 x2 x3 = some (out, σ1) ∧ f_X8_cell τ x1 x2 x3 = some y ∧ mg_Inv σ1 y.2 ∧ y.2 0 0 = mg_cd 1 9 9 out ∧ (∀ v, out = .ok v → y.1 = v) ∧ out ≠ .error 1 ∧ out ≠ .error 2 := by
  unfold f_X8_cell
  rcases mg_place σ (mg_su τ 0 0 0) x1 x2 with ⟨h1, h2⟩ | ⟨q, hq, e1, e2, e3, h1, h2⟩
  · unfold f_X6_cell
    rw [k6_place0 h1, mg_xb_err, h2]
    exact ⟨.error 0, σ, _, rfl, rfl, mg_thr (mg_thr I), rfl, (fun v h => by cases h), by simp, by simp⟩
  rw [h2, Option.bind_some, if_neg (show ¬ (1 : Int32) = 0 by decide)]
  rcases mg_what σ (mg_su τ 0 0 0) x3 (N := 4) (M := 5) (M1 := 4) (by omega) rfl rfl with ⟨w1, w2⟩ | ⟨k, hk, rfl, w1, w2⟩
  · unfold f_X6_cell
    rw [k6_place1 h1, mg_xb_ok, w1, mg_xb_err, w2]
    exact ⟨.error 0, σ, _, rfl, rfl, mg_thr (mg_thr I), rfl, (fun v h => by cases h), by simp, by simp⟩
  obtain ⟨c, g, p, μ, hI, hR⟩ := mg_thr (v := 0) I
  obtain ⟨r, m1, m2, m3⟩ := mg_mark hI
  obtain ⟨v, v1, v2⟩ := mg_cellTold m3 m2 hq hk h1 e3
  rw [v1, w2, Option.bind_some, if_neg (show ¬ (1 : Int32) = 0 by decide), m1, Option.bind_some, e3, v2]
  exact ⟨.ok v, σ, _, rfl, rfl, ⟨c, g, p, μ, m3, mg_crs_fr hR rfl rfl rfl rfl rfl rfl⟩, rfl, (fun u h => by cases h; rfl), by simp, by simp⟩
