/-! ===== the garden that cells choose ===== -/
section BD
variable {σ : mg_St} {ζ : mg_Sz} {c g p : Nat} {μ : Nat → Nat} {xs : Nat → Int32} {Ln : Nat}
theorem mq_w_bd (hT : mq_T σ ζ c g p μ) {j : Nat} (hj : j < p) : ∃ B, B < 40000 ∧ mq_w ζ c j = nI B := by
  obtain ⟨i, hi, q1, q2, q3⟩ := mq_poet hT hj
  have g6 := (mq_c30 hT).2.1
  obtain ⟨B, b1, b2⟩ := mq_bd hT hi
  have hgi : mq_gp ζ j = i := by unfold mq_gp; rw [q2, nI_clamp (by omega)]
  unfold mq_w
  rw [hgi, b2, show (5 : Int32) = nI 5 from rfl, nI_div (by omega) (by omega)]
  by_cases k : ζ.1 0 0 0 - ζ.1 0 0 0 / 8 * 8 = 4
  · rw [if_pos k]; exact ⟨B / 5 * 2, by omega, nI_mul (B / 5) 2⟩
  · rw [if_neg k]; exact ⟨B / 5 * 1, by omega, nI_mul (B / 5) 1⟩
/-- the garden grown, beside a class's state -/
theorem mq_T_grown (hT : mq_T σ ζ c g p μ) : ∃ σ1, mq_T σ1 (mq_zg ζ μ c c) c g p μ := by
  obtain ⟨c30, g6, p5⟩ := mq_c30 hT
  have hT0 : mq_T σ (mq_zg ζ μ c 0) c g p μ := by rw [mq_zg_0]; exact hT
  obtain ⟨σ1, -, -, a3, -⟩ := mq_growL (Or.inl ⟨rfl, rfl⟩) ζ 5000 0 31 σ hT0 (by omega) (by omega) (by omega)
  exact ⟨σ1, a3⟩
theorem mq_v_bd (hT : mq_T σ ζ c g p μ) : ∃ B, B ≤ 200000 ∧ mq_v ζ μ c p = nI B := by
  obtain ⟨σ1, hT1⟩ := mq_T_grown hT
  have p5 := (mq_c30 hT).2.2
  obtain ⟨m, m1, m2⟩ := mg_sum_bd (f := mq_w (mq_zg ζ μ c c) c) (M := 40000) p (fun k hk => by
    obtain ⟨B, b1, b2⟩ := mq_w_bd hT1 hk
    exact ⟨B, by omega, b2⟩)
  refine ⟨m, ?_, m2⟩
  have : 40000 * p ≤ 40000 * 5 := Nat.mul_le_mul_left _ p5
  omega
theorem mq_day_row {t : Nat} (h0 : t ≠ 0) (h3 : t ≠ 3) (h5 : t ≠ 5) : (mq_day ζ μ c p).1 t = ζ.1 t := by
  unfold mq_day mq_z2
  rw [mg_zu_row h0, mg_zu_row h0, mq_zl_ne h5, mq_zg_ne h3]
theorem mq_day_0 : (mq_day ζ μ c p).1 0 0 0 = ζ.1 0 0 0 + 1 ∧ (mq_day ζ μ c p).1 0 0 1 = ζ.1 0 0 1 + mq_v ζ μ c p / 10 := by
  unfold mq_day
  refine ⟨by rw [mg_zu_at, if_pos ⟨rfl, rfl, rfl⟩], ?_⟩
  rw [mg_zu_at, if_neg (by omega), mg_zu_at, if_pos ⟨rfl, rfl, rfl⟩]
theorem mq_day_3 {j i : Nat} : (mq_day ζ μ c p).1 3 j i = if j < c ∧ i = 2 then mq_gr ζ μ c j else ζ.1 3 j i := by
  unfold mq_day mq_z2
  rw [mg_zu_row (by omega), mg_zu_row (by omega), mq_zl_ne (by omega), mq_zg_3]
theorem mq_day_5 {j i : Nat} : (mq_day ζ μ c p).1 5 j i = if j < p ∧ i = 1 then ζ.1 5 j 1 + mq_w (mq_zg ζ μ c c) c j else ζ.1 5 j i := by
  unfold mq_day mq_z2
  rw [mg_zu_row (by omega), mg_zu_row (by omega), mq_zl_5, mq_zg_ne (by omega)]
theorem mq_day_2 : (mq_day ζ μ c p).2 = ζ.2 := rfl
/-- a day in both -/
theorem q_pass (hT : mq_T σ ζ c g p μ) : ∃ σ', f_X6_pass σ 1 = some (.ok (mq_v ζ μ c p), σ') ∧ f_X7_pass ζ = some (mq_v ζ μ c p, mq_day ζ μ c p) ∧ mq_T σ' (mq_day ζ μ c p) c g p μ := by
  obtain ⟨σ', a1, a2, a3, a4⟩ := q_day (Or.inl ⟨rfl, rfl⟩) hT
  refine ⟨σ', ?_, a2, a3⟩
  unfold f_X6_pass f_X6_checkDays
  rw [if_neg (show ¬ (1 : Int32) < 1 by decide), if_pos (show (1 : Int32) ≤ 60 by decide), mg_xb_ok, a1, Option.bind_some]
theorem mq_day_C (hT : mq_T σ ζ c g p μ) {M : Nat} (hM : M ≤ 9000000) (h : mq_C ζ M) : mq_C (mq_day ζ μ c p) (M + 20000) := by
  obtain ⟨m, m1, m2⟩ := h
  obtain ⟨B, b1, b2⟩ := mq_v_bd hT
  refine ⟨m + B / 10, by omega, ?_⟩
  rw [mq_day_0.2, m2, b2, show (10 : Int32) = nI 10 from rfl, nI_div (by omega) (by omega), nI_add]
theorem f_cell_some {k : Nat} (hL : Ln ≤ 260) (hk : k < 16) : ∃ v, f_L_cell xs Ln (nI k) = some v := by
  unfold f_L_cell
  by_cases h : nI Ln ≤ nI k
  · exact ⟨_, by rw [if_pos h]⟩
  · rw [if_neg h]
    have hk2 : k < Ln := by
      rcases Nat.lt_or_ge k Ln with a | a
      · exact a
      · exact absurd (nI_le a (by omega)) h
    unfold mg_rt
    rw [if_neg (nI_in hk2 (by omega))]
    exact ⟨_, rfl⟩
theorem mq_C_mono {M M' : Nat} (h : mq_C ζ M) (hM : M ≤ M') : mq_C ζ M' := by
  obtain ⟨m, m1, m2⟩ := h
  exact ⟨m, Nat.le_trans m1 hM, m2⟩
theorem mq_16_fin : ∀ t : Fin 64, nI t.1 - nI t.1 / 16 * 16 = nI (t.1 % 16) := by decide +kernel
theorem mq_first {a0 a1 a2 a3 a4 a5 a6 a7 a8 a9 a10 a11 : Int32} : True := trivial
theorem a_build77 (hL : Ln ≤ 260) {F : Nat → Int32} : ∀ (n t : Nat) (σ : mg_St) (ζ : mg_Sz), t ≤ 44 → 44 < n + t → mq_X σ ζ → mq_C ζ (100 + 30000 * t) →
    ∃ σ' ζ', f_L_build_77 xs Ln F n (nI t) σ ζ = some (nI 44, σ', ζ') ∧ mq_X σ' ζ' ∧ mq_C ζ' (100 + 30000 * 44) := by
  intro n; induction n with
  | zero => intro t σ ζ h1 h2; omega
  | succ n ih =>
    intro t σ ζ h1 h2 hX hC
    unfold f_L_build_77
    rcases Nat.lt_or_ge t 44 with h | h
    · rw [if_neg (mg_le (N := 44) (M := 44) rfl (by omega) h), mq_16_fin ⟨t, by omega⟩]
      obtain ⟨v, hv⟩ := f_cell_some (xs := xs) (Ln := Ln) hL (show t % 16 < 16 by omega)
      rw [hv, Option.bind_some]
      obtain ⟨w, hw⟩ : ∃ w, (if 12 ≤ nI t then some (v >>> (nI t / 16 * 5 &&& 31) + 61 * nI t) else (Option.bind (f_L_below (v >>> (nI t / 16 * 5 &&& 31) + 61 * nI t) 100000) fun y5 => (mg_ix 12 (nI t)).bind fun j7 => some (y5 * 15 + F j7)) : Option Int32) = some w := by
        by_cases k : 12 ≤ nI t
        · exact ⟨_, by rw [if_pos k]⟩
        · rw [if_neg k]
          have k12 : t < 12 := by
            rcases Nat.lt_or_ge t 12 with a | a
            · exact a
            · exact absurd (nI_le (a := 12) (b := t) a (by omega)) k
          unfold f_L_below
          rw [show mg_gd (¬ (100000 : Int32) = 0) = some () from if_pos (by decide), Option.bind_some, Option.bind_some, mg_ixn k12 (by omega), Option.bind_some]
          exact ⟨_, rfl⟩
      rw [hw, Option.bind_some]
      obtain ⟨c, g, p, μ, hT⟩ := hX
      obtain ⟨σ1, ζ1, a1, a2, a3⟩ := a_act hT w
      obtain ⟨m, m1, m2⟩ := hC
      obtain ⟨m', n1, n2, n3⟩ := a3 m (by omega) m2
      have hC1 : mq_C ζ1 (100 + 30000 * t + 21) := ⟨m', by omega, n3⟩
      rw [a1, Option.bind_some, if_neg (show ¬ (1 : Int32) = 0 by decide), ← nI_succ]
      dsimp only
      have nx : ∀ (σ2 : mg_St) (ζ2 : mg_Sz), mq_X σ2 ζ2 → mq_C ζ2 (100 + 30000 * t + 21 + 20000) → ∃ σ' ζ', f_L_build_77 xs Ln F n (nI (t + 1)) σ2 ζ2 = some (nI 44, σ', ζ') ∧ mq_X σ' ζ' ∧ mq_C ζ' (100 + 30000 * 44) := by
        intro σ2 ζ2 hx2 hc2
        exact ih (t + 1) σ2 ζ2 (by omega) (by omega) hx2 (mq_C_mono hc2 (by omega))
      have hC2 : mq_C ζ1 (100 + 30000 * t + 21 + 20000) := mq_C_mono hC1 (by omega)
      by_cases k9 : nI t ≤ 9
      · rw [if_pos k9]; exact nx σ1 ζ1 a2 hC2
      · rw [if_neg k9]
        obtain ⟨r, hr, e⟩ := mq_below (w >>> (5 &&& 31)) (n := 2) (by omega) (by omega)
        rw [show f_L_below (w >>> (5 &&& 31)) 2 = _ from e, Option.bind_some]
        by_cases k0 : nI r = 0
        · obtain ⟨c1, g1, p1, μ1, hT1⟩ := a2
          obtain ⟨σ2, b1, b2, b3⟩ := q_pass hT1
          rw [if_pos k0, b1, mg_xq_ok, b2, Option.bind_some, if_pos rfl]
          exact nx σ2 _ ⟨c1, g1, p1, μ1, b3⟩ (mq_day_C hT1 (by omega) hC1)
        · rw [if_neg k0]; exact nx σ1 ζ1 a2 hC2
    · have e : t = 44 := by omega
      subst e
      rw [if_pos (show (44 : Int32) ≤ nI 44 by decide +kernel)]
      exact ⟨σ, ζ, rfl, hX, hC⟩
theorem a_start : mq_X mg_c0 mg_z0 := by
  have I := mg_inv0
  refine mq_X_of (c := 0) (g := 0) (p := 0) I rfl rfl rfl (by omega) (by omega) (by omega) ⟨⟨rfl, rfl, rfl, ?_, ?_⟩, ?_, fun j hj => by omega, fun j hj => by omega, fun j hj => by omega⟩
  · rfl
  · rfl
  · intro q hq
    have e : mg_m0 3 q = 0 := rfl
    exact ⟨e.symm, fun h => by rw [e] at h; exact absurd h (by decide)⟩
theorem a_build (hL : Ln ≤ 260) : ∃ σ' ζ', f_L_build xs Ln mg_c0 = some (σ', ζ') ∧ mq_X σ' ζ' ∧ mq_C ζ' (100 + 30000 * 44) := by
  unfold f_L_build
  obtain ⟨σ', ζ', b1, b2, b3⟩ := a_build77 (xs := xs) (Ln := Ln) hL (F := (upd (upd (upd (upd (upd (upd (upd (upd (upd (upd (upd (upd (fun _ => 0) 0 2) 1 3) 2 0) 3 11) 4 13) 5 7) 6 1) 7 8) 8 12) 9 13) 10 2) 11 9)) 45 0 mg_c0 mg_z0 (by omega) (by omega) a_start ⟨100, by omega, rfl⟩
  rw [nI_0] at b1
  rw [b1, Option.bind_some]
  exact ⟨σ', ζ', rfl, b2, b3⟩
end BD
