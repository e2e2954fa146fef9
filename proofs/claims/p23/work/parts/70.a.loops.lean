/-! ===== the law's own loops ===== -/
section LL
variable {σ : mg_St} {ζ : mg_Sz} {c g p : Nat} {μ : Nat → Nat} {xs : Nat → Int32} {Ln : Nat} {a3 a4 a6 a7 a8 a11 : Int32} {cS : mg_Sz}
theorem mq_kind (hT : mq_T σ ζ c g p μ) {q : Nat} (hq : q < 70) : (mq_k ζ q = 0 ∨ mq_k ζ q = 1 ∨ mq_k ζ q = 2 ∨ mq_k ζ q = 3) ∧ (mq_k ζ q = 1 → (∃ s, s < 6 ∧ mq_s ζ q = nI s) ∧ ∃ z, 1 ≤ z ∧ z < 10 ∧ mq_z ζ q = nI z) := by
  have e := mq_kk hT hq
  obtain ⟨⟨τ, hI, hR⟩, hZ⟩ := hT
  obtain ⟨e1, e2, e3, e4⟩ := hI.2.1 q hq
  refine ⟨by rw [show mq_k ζ q = σ 8 q from e]; exact e2, fun k => ?_⟩
  rw [show mq_k ζ q = σ 8 q from e] at k
  obtain ⟨a1, a2, a3⟩ := (hZ.2.1 q hq).2 k
  obtain ⟨-, -, s, s1, s2, -⟩ := e3 k
  obtain ⟨z, z1, z2, z3⟩ := a3
  exact ⟨⟨s, s1, by rw [show mq_s ζ q = σ 9 q from a1, s2]⟩, z, z1, z2, by rw [show mq_z ζ q = σ 10 q from a2, z3]⟩
theorem mq_cells_bd {κ : Nat → Int32} {q : Nat} (hq : q < 70) (k : κ q = 2) : ∃ m, 1 ≤ m ∧ m ≤ 70 ∧ mg_cells κ μ q = nI m := by
  obtain ⟨m, m1, m2, m3⟩ := mg_sum_ind (P := fun r => κ r = 2 ∧ μ r = μ q) 70
  refine ⟨m, ?_, m1, m2⟩
  rcases Nat.eq_zero_or_pos m with h | h
  · exact absurd ⟨k, rfl⟩ (m3.1 h q hq)
  · exact h
theorem mq_b1 (hT : mq_T σ ζ c g p μ) {q : Nat} (hq : q < 70) : (if mq_cell ζ μ c q 1 < 0 then some 0 else some 1 : Option Int32) = some (if mq_k ζ q = 1 then 1 else 0) := by
  show (if (if mq_k ζ q = 1 then mq_s ζ q else -1) < 0 then some 0 else some 1 : Option Int32) = _
  by_cases k : mq_k ζ q = 1
  · obtain ⟨⟨s, s1, s2⟩, -⟩ := (mq_kind hT hq).2 k
    rw [if_pos k, if_pos k, s2, if_neg (nI_pos (by omega))]
  · rw [if_neg k, if_neg k, if_pos (by decide)]
theorem mq_b2 (hT : mq_T σ ζ c g p μ) {q : Nat} (hq : q < 70) : (if mq_cell ζ μ c q 2 ≤ 0 then some 0 else some 1 : Option Int32) = some (if mq_k ζ q = 1 then 1 else 0) := by
  show (if (if mq_k ζ q = 1 then mq_z ζ q else 0) ≤ 0 then some 0 else some 1 : Option Int32) = _
  by_cases k : mq_k ζ q = 1
  · obtain ⟨-, z, z1, z2, z3⟩ := (mq_kind hT hq).2 k
    rw [if_pos k, if_pos k, z3, if_neg (nI_nle (by omega) (by omega))]
  · rw [if_neg k, if_neg k, if_pos (by decide)]
theorem mq_b3 {q : Nat} (hq : q < 70) : (if mq_cell ζ μ c q 3 ≤ 0 then some 0 else some 1 : Option Int32) = some (if mq_k ζ q = 2 then 1 else 0) := by
  show (if (if mq_k ζ q = 2 then mg_cells (mq_k ζ) μ q else 0) ≤ 0 then some 0 else some 1 : Option Int32) = _
  by_cases k : mq_k ζ q = 2
  · obtain ⟨m, m1, m2, m3⟩ := mq_cells_bd (μ := μ) hq k
    rw [if_pos k, if_pos k, m3, if_neg (nI_nle (by omega) (by omega))]
  · rw [if_neg k, if_neg k, if_pos (by decide)]
/-- neighbours in one pond are told alike -/
theorem mq_nb (hT : mq_T σ ζ c g p μ) {q r : Nat} (hq : q < 70) (hr : r < 70) (had : mg_adj q r) (k : mq_k ζ q = 2) (k' : mq_k ζ r = 2) : mq_cell ζ μ c r 3 = mq_cell ζ μ c q 3 ∧ mq_cell ζ μ c r 4 = mq_cell ζ μ c q 4 := by
  have e : μ q = μ r := (mq_M hT q hq k).2.2.1 r hr k' had
  constructor
  · show (if mq_k ζ r = 2 then mg_cells (mq_k ζ) μ r else 0) = (if mq_k ζ q = 2 then mg_cells (mq_k ζ) μ q else 0)
    rw [if_pos k, if_pos k']; unfold mg_cells; rw [e]
  · show (if mq_k ζ r = 2 then mq_in ζ μ c r else 0) = (if mq_k ζ q = 2 then mq_in ζ μ c q else 0)
    rw [if_pos k, if_pos k']; unfold mq_in; rw [e]
theorem l_142 (hT : mq_T σ ζ c g p μ) {y : Nat} (hy : y < 7) : ∀ (n x : Nat), x ≤ 10 → 10 < n + x → f_L_law_142 xs Ln a3 a4 a6 a7 a8 a11 (nI y) cS n (mq_sw ζ (10 * y + x)) (mq_sr ζ (10 * y + x)) (nI x) σ = some (mq_sw ζ (10 * y + 10), mq_sr ζ (10 * y + 10), nI 10, σ) := by
  intro n; induction n with
  | zero => intro x h1 h2; omega
  | succ n ih =>
    intro x h1 h2
    unfold f_L_law_142
    rcases Nat.lt_or_ge x 10 with h | h
    · have hq : 10 * y + x < 70 := by omega
      have c0 : f_X6_cell σ (nI x) (nI y) 0 = some (.ok (mq_k ζ (10 * y + x)), σ) := q_cell hT (k := 0) h hy (by omega)
      have c1 : f_X6_cell σ (nI x) (nI y) 1 = some (.ok (mq_cell ζ μ c (10 * y + x) 1), σ) := q_cell hT (k := 1) h hy (by omega)
      have c2 : f_X6_cell σ (nI x) (nI y) 2 = some (.ok (mq_cell ζ μ c (10 * y + x) 2), σ) := q_cell hT (k := 2) h hy (by omega)
      have c3 : f_X6_cell σ (nI x) (nI y) 3 = some (.ok (mq_cell ζ μ c (10 * y + x) 3), σ) := q_cell hT (k := 3) h hy (by omega)
      have c4 : f_X6_cell σ (nI x) (nI y) 4 = some (.ok (mq_cell ζ μ c (10 * y + x) 4), σ) := q_cell hT (k := 4) h hy (by omega)
      have i1 : (if mq_k ζ (10 * y + x) = 1 then some 1 else some 0 : Option Int32) = some (if mq_k ζ (10 * y + x) = 1 then 1 else 0) := by split <;> rfl
      have i2 : (if mq_k ζ (10 * y + x) = 2 then some 1 else some 0 : Option Int32) = some (if mq_k ζ (10 * y + x) = 2 then 1 else 0) := by split <;> rfl
      obtain ⟨hk, -⟩ := mq_kind hT hq
      have n0 : ¬ mq_k ζ (10 * y + x) < 0 := by rcases hk with e | e | e | e <;> rw [e] <;> decide
      have n3 : ¬ 3 < mq_k ζ (10 * y + x) := by rcases hk with e | e | e | e <;> rw [e] <;> decide
      rw [if_neg (mg_le (N := 10) (M := 10) rfl (by omega) h), c0, mg_xq_ok, i2, Option.bind_some, i1, Option.bind_some, if_neg n0, if_neg n3, Option.bind_some, c1, mg_xq_ok, mq_b1 hT hq, Option.bind_some, if_pos rfl, Option.bind_some, c2, mg_xq_ok, mq_b2 hT hq, Option.bind_some, if_pos rfl, Option.bind_some, c3, mg_xq_ok, mq_b3 hq, Option.bind_some, if_pos rfl]
      have e4 : (if mq_k ζ (10 * y + x) = 2 then some σ else mg_xq (f_X6_cell σ (nI x) (nI y) 4) fun v34 s35 => if v34 = 0 then some s35 else none : Option mg_St) = some σ := by
        by_cases k : mq_k ζ (10 * y + x) = 2
        · rw [if_pos k]
        · rw [if_neg k, c4, mg_xq_ok, if_pos (show mq_cell ζ μ c (10 * y + x) 4 = 0 from if_neg k)]
      rw [e4, Option.bind_some]
      have nx := ih (x + 1) (by omega) (by omega)
      rw [← Nat.add_assoc, show mq_sw ζ (10 * y + x + 1) = mq_sw ζ (10 * y + x) + (if mq_k ζ (10 * y + x) = 2 then 1 else 0) from rfl, show mq_sr ζ (10 * y + x + 1) = mq_sr ζ (10 * y + x) + (if mq_k ζ (10 * y + x) = 1 then 1 else 0) from rfl, nI_succ] at nx
      by_cases k : mq_k ζ (10 * y + x) = 2
      · rw [if_pos k] at nx
        simp only [if_pos k]
        have e5 : (if 9 ≤ nI x then some σ else mg_xq (f_X6_cell σ (nI x + 1) (nI y) 0) fun v37 s38 => if v37 = 2 then (mg_xq (f_X6_cell s38 (nI x + 1) (nI y) 3) fun v39 s40 => mg_xq (f_X6_cell s40 (nI x) (nI y) 3) fun v41 s42 => if v39 = v41 then (mg_xq (f_X6_cell s42 (nI x + 1) (nI y) 4) fun v43 s44 => mg_xq (f_X6_cell s44 (nI x) (nI y) 4) fun v45 s46 => if v43 = v45 then some s46 else none) else none) else some s38 : Option mg_St) = some σ := by
          by_cases x9 : 9 ≤ nI x
          · rw [if_pos x9]
          · have x8 : x < 9 := by
              rcases Nat.lt_or_ge x 9 with a | a
              · exact a
              · exact absurd (nI_le (a := 9) (b := x) a (by omega)) x9
            have d0 : f_X6_cell σ (nI x + 1) (nI y) 0 = some (.ok (mq_k ζ (10 * y + (x + 1))), σ) := by rw [nI_1]; exact q_cell hT (k := 0) (show x + 1 < 10 by omega) hy (by omega)
            have d3 : f_X6_cell σ (nI x + 1) (nI y) 3 = some (.ok (mq_cell ζ μ c (10 * y + (x + 1)) 3), σ) := by rw [nI_1]; exact q_cell hT (k := 3) (show x + 1 < 10 by omega) hy (by omega)
            have d4 : f_X6_cell σ (nI x + 1) (nI y) 4 = some (.ok (mq_cell ζ μ c (10 * y + (x + 1)) 4), σ) := by rw [nI_1]; exact q_cell hT (k := 4) (show x + 1 < 10 by omega) hy (by omega)
            rw [if_neg x9, d0, mg_xq_ok]
            by_cases k' : mq_k ζ (10 * y + (x + 1)) = 2
            · obtain ⟨n1, n2⟩ := mq_nb hT (q := 10 * y + x) (r := 10 * y + (x + 1)) hq (by omega) (Or.inr (Or.inl (by unfold mg_nx; simp; omega))) k k'
              rw [if_pos k', d3, mg_xq_ok, c3, mg_xq_ok, if_pos n1, d4, mg_xq_ok, c4, mg_xq_ok, if_pos n2]
            · rw [if_neg k']
        rw [e5, Option.bind_some]
        by_cases y6 : 6 ≤ nI y
        · rw [if_pos y6]; exact nx
        · have y5 : y < 6 := by
            rcases Nat.lt_or_ge y 6 with a | a
            · exact a
            · exact absurd (nI_le (a := 6) (b := y) a (by omega)) y6
          have d0 : f_X6_cell σ (nI x) (nI y + 1) 0 = some (.ok (mq_k ζ (10 * (y + 1) + x)), σ) := by rw [nI_1]; exact q_cell hT (k := 0) h (show y + 1 < 7 by omega) (by omega)
          have d3 : f_X6_cell σ (nI x) (nI y + 1) 3 = some (.ok (mq_cell ζ μ c (10 * (y + 1) + x) 3), σ) := by rw [nI_1]; exact q_cell hT (k := 3) h (show y + 1 < 7 by omega) (by omega)
          rw [if_neg y6, d0, mg_xq_ok]
          by_cases k' : mq_k ζ (10 * (y + 1) + x) = 2
          · obtain ⟨n1, -⟩ := mq_nb hT (q := 10 * y + x) (r := 10 * (y + 1) + x) hq (by omega) (Or.inr (Or.inr (Or.inl (by unfold mg_nx; simp; omega)))) k k'
            rw [if_pos k', d3, mg_xq_ok, c3, mg_xq_ok, if_pos n1]; exact nx
          · rw [if_neg k']; exact nx
      · rw [if_neg k] at nx
        simp only [if_neg k, Option.bind_some]
        exact nx
    · have e : x = 10 := by omega
      subst e
      rw [if_pos (show (10 : Int32) ≤ nI 10 by decide +kernel)]
theorem l_132 (hT : mq_T σ ζ c g p μ) : ∀ (n y : Nat), y ≤ 7 → 7 < n + y → f_L_law_132 xs Ln a3 a4 a6 a7 a8 a11 cS n (mq_sw ζ (10 * y)) (mq_sr ζ (10 * y)) (nI y) σ = some (mq_sw ζ 70, mq_sr ζ 70, nI 7, σ) := by
  intro n; induction n with
  | zero => intro y h1 h2; omega
  | succ n ih =>
    intro y h1 h2
    unfold f_L_law_132
    rcases Nat.lt_or_ge y 7 with h | h
    · have := l_142 (xs := xs) (Ln := Ln) (a3 := a3) (a4 := a4) (a6 := a6) (a7 := a7) (a8 := a8) (a11 := a11) (cS := cS) hT h 5000 0 (by omega) (by omega)
      rw [nI_0, Nat.add_zero] at this
      rw [if_neg (mg_le (N := 7) (M := 7) rfl (by omega) h), this, Option.bind_some, ← nI_succ]
      exact ih (y + 1) (by omega) (by omega)
    · have e : y = 7 := by omega
      subst e
      rw [if_pos (show (7 : Int32) ≤ nI 7 by decide +kernel)]
/-- whether a carp grows -/
def mq_gw (ζ : mg_Sz) (μ : Nat → Nat) (c j : Nat) : Int32 := if ζ.1 3 j 3 = 0 then (if mq_in ζ μ c (mq_pl ζ 3 j) ≤ 2 * mg_cells (mq_k ζ) μ (mq_pl ζ 3 j) then 1 else 0) else 0
theorem mq_rank_bd (hc : c ≤ 30) {j : Nat} (s : ζ.1 3 j 3 = 0) : ¬ mq_rank ζ c j = 0 := by
  unfold mq_rank
  obtain ⟨m, m1, m2, -⟩ := mg_sum_ind (P := fun k => ζ.1 3 k 3 = 0 ∧ ¬ ζ.1 3 k 2 ≤ ζ.1 3 j 2) c
  rw [if_pos s, m2, show (1 : Int32) + nI m = nI (1 + m) from nI_add 1 m]
  exact nI_ne0 (by omega) (by omega)
theorem l_530 (hT : mq_T σ ζ c g p μ) : ∀ (n j : Nat) (A B : Nat → Int32), j ≤ c → c < n + j → (∀ k, k < j → A k = ζ.1 3 k 2 ∧ B k = mq_gw ζ μ c k) →
    ∃ A' B', f_L_law_530 xs Ln a3 a4 (nI c) a7 a8 cS c c n (mq_ss ζ j) (nI j) σ A B = some (mq_ss ζ c, nI c, σ, A', B') ∧ ∀ k, k < c → A' k = ζ.1 3 k 2 ∧ B' k = mq_gw ζ μ c k := by
  obtain ⟨c30, -, -⟩ := mq_c30 hT
  intro n; induction n with
  | zero => intro j A B h1 h2; omega
  | succ n ih =>
    intro j A B h1 h2 hAB
    unfold f_L_law_530
    rcases Nat.lt_or_ge j c with h | h
    · obtain ⟨m1, m2, m3, m4, m5, m6, m7, m8, z, z1, z2, z3⟩ := mq_carp hT h
      have t0 : f_X6_told σ (nI j) 0 = some (.ok (nI (mq_pl ζ 3 j % 10)), σ) := by rw [← m3]; exact q_told hT (k := 0) h (by omega)
      have t1 : f_X6_told σ (nI j) 1 = some (.ok (nI (mq_pl ζ 3 j / 10)), σ) := by rw [← m4]; exact q_told hT (k := 1) h (by omega)
      have t2 : f_X6_told σ (nI j) 2 = some (.ok (ζ.1 3 j 2), σ) := q_told hT (k := 2) h (by omega)
      have t3 : f_X6_told σ (nI j) 3 = some (.ok (ζ.1 3 j 3), σ) := q_told hT (k := 3) h (by omega)
      have t4 : f_X6_told σ (nI j) 4 = some (.ok (mq_rank ζ c j), σ) := q_told hT (k := 4) h (by omega)
      have u2 : upd A j (ζ.1 3 j 2) j = ζ.1 3 j 2 := by rw [mg_upd, if_pos rfl]
      have hx : mq_pl ζ 3 j % 10 < 10 := by omega
      have hy : mq_pl ζ 3 j / 10 < 7 := by omega
      have hpl : 10 * (mq_pl ζ 3 j / 10) + mq_pl ζ 3 j % 10 = mq_pl ζ 3 j := by omega
      rw [if_neg (nI_ge h (by omega)), t2, mg_xq_ok]
      simp only [mg_ixn h (show c ≤ 70 by omega), Option.bind_some]
      have g1 : ¬ nI z < 1 := nI_nlt (b := 1) (by omega) (by omega)
      have g40 : ¬ (40 : Int32) < nI z := nI_nlt (a := 40) (by omega) (by omega)
      rw [t3, mg_xq_ok, u2, z3, t4, ← nI_succ]
      have ess : mq_ss ζ (j + 1) = mq_ss ζ j + (if ζ.1 3 j 3 = 0 then 1 else 0) := rfl
      have nx := fun B' hB => ih (j + 1) (upd A j (nI z)) B' (by omega) (by omega) hB
      rw [ess] at nx
      have hA' : ∀ k, k < j + 1 → upd A j (nI z) k = ζ.1 3 k 2 := by
        intro k hk
        rw [mg_upd]
        by_cases e : k = j
        · rw [if_pos e, e, z3]
        · rw [if_neg e]; exact (hAB k (by omega)).1
      have hB' : ∀ v, v = mq_gw ζ μ c j → ∀ k, k < j + 1 → upd B j v k = mq_gw ζ μ c k := by
        intro v hv k hk
        rw [mg_upd]
        by_cases e : k = j
        · rw [if_pos e, e, hv]
        · rw [if_neg e]; exact (hAB k (by omega)).2
      rcases m7 with s | s
      · have k2 := m8 s
        have c0 : f_X6_cell σ (nI (mq_pl ζ 3 j % 10)) (nI (mq_pl ζ 3 j / 10)) 0 = some (.ok 2, σ) := by
          have := q_cell hT (k := 0) hx hy (by omega)
          rw [hpl] at this
          rw [← k2]; exact this
        have c3 : f_X6_cell σ (nI (mq_pl ζ 3 j % 10)) (nI (mq_pl ζ 3 j / 10)) 3 = some (.ok (mg_cells (mq_k ζ) μ (mq_pl ζ 3 j)), σ) := by
          have := q_cell hT (k := 3) hx hy (by omega)
          rw [hpl, show mq_cell ζ μ c (mq_pl ζ 3 j) 3 = mg_cells (mq_k ζ) μ (mq_pl ζ 3 j) from if_pos k2] at this
          exact this
        have c4 : f_X6_cell σ (nI (mq_pl ζ 3 j % 10)) (nI (mq_pl ζ 3 j / 10)) 4 = some (.ok (mq_in ζ μ c (mq_pl ζ 3 j)), σ) := by
          have := q_cell hT (k := 4) hx hy (by omega)
          rw [hpl, show mq_cell ζ μ c (mq_pl ζ 3 j) 4 = mq_in ζ μ c (mq_pl ζ 3 j) from if_pos k2] at this
          exact this
        have s1 : ¬ ζ.1 3 j 3 = 1 := by rw [s]; decide
        have r0 := mq_rank_bd (ζ := ζ) c30 s
        rw [if_neg s1, Option.bind_some, if_pos rfl, Option.bind_some, if_neg g1, if_neg g40, mg_xq_ok, if_neg r0, Option.bind_some, if_pos rfl, if_pos rfl, t0, mg_xq_ok, t1, mg_xq_ok, c0, mg_xq_ok, if_pos rfl, Option.bind_some, if_pos rfl, t0, mg_xq_ok, t1, mg_xq_ok, c4, mg_xq_ok, t0, mg_xq_ok, t1, mg_xq_ok, c3, mg_xq_ok]
        rw [if_pos s] at nx
        by_cases l : 2 * mg_cells (mq_k ζ) μ (mq_pl ζ 3 j) < mq_in ζ μ c (mq_pl ζ 3 j)
        · rw [if_pos l]
          exact nx _ (fun k hk => ⟨hA' k hk, hB' _ (by unfold mq_gw; rw [if_pos s, if_neg (mg_lt_iff.1 l)]; rfl) k hk⟩)
        · rw [if_neg l]
          have l' : mq_in ζ μ c (mq_pl ζ 3 j) ≤ 2 * mg_cells (mq_k ζ) μ (mq_pl ζ 3 j) := by
            by_cases z : mq_in ζ μ c (mq_pl ζ 3 j) ≤ 2 * mg_cells (mq_k ζ) μ (mq_pl ζ 3 j)
            · exact z
            · exact absurd (mg_lt_iff.2 z) l
          exact nx _ (fun k hk => ⟨hA' k hk, hB' _ (by unfold mq_gw; rw [if_pos s, if_pos l']; rfl) k hk⟩)
      · have s0 : ¬ ζ.1 3 j 3 = 0 := by rw [s]; decide
        have r0 : mq_rank ζ c j = 0 := by unfold mq_rank; rw [if_neg s0]
        rw [if_pos s, Option.bind_some, if_neg (show ¬ (1 : Int32) = 0 by decide), Option.bind_some, if_neg g1, if_neg g40, mg_xq_ok, if_pos r0, Option.bind_some, if_pos rfl, if_neg (show ¬ (1 : Int32) = 0 by decide), Option.bind_some, if_neg (show ¬ (1 : Int32) = 0 by decide)]
        rw [if_neg s0] at nx
        exact nx _ (fun k hk => ⟨hA' k hk, hB' _ (by unfold mq_gw; rw [if_neg s0]; rfl) k hk⟩)
    · have e : j = c := by omega
      subst e
      exact ⟨A, B, by rw [if_pos (Int32.le_refl _)], hAB⟩
theorem l_737 (hT : mq_T σ ζ c g p μ) {n5 : Nat} {c5 : Nat → Int32} {n6 : Nat} {c6 : Nat → Int32} : ∀ (n j : Nat) (A : Nat → Int32), j ≤ p → p < n + j → (∀ k, k < j → A k = ζ.1 5 k 1) →
    ∃ A', f_L_law_737 xs Ln a3 a4 a6 a7 (nI p) cS n5 c5 n6 c6 p n (nI j) σ A = some (nI p, σ, A') ∧ ∀ k, k < p → A' k = ζ.1 5 k 1 := by
  obtain ⟨-, -, p5⟩ := mq_c30 hT
  intro n; induction n with
  | zero => intro j A h1 h2; omega
  | succ n ih =>
    intro j A h1 h2 hA
    unfold f_L_law_737
    rcases Nat.lt_or_ge j p with h | h
    · rw [if_neg (nI_ge h (by omega)), q_lines hT h, mg_xq_ok, mg_ixn h (by omega), Option.bind_some, ← nI_succ]
      refine ih (j + 1) _ (by omega) (by omega) (fun k hk => ?_)
      rw [mg_upd]
      by_cases e : k = j
      · rw [if_pos e, e]
      · rw [if_neg e]; exact hA k (by omega)
    · have e : j = p := by omega
      subst e
      exact ⟨A, by rw [if_pos (Int32.le_refl _)], hA⟩
end LL
