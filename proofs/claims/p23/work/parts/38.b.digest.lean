/-! ===== digest, and the start ===== -/
theorem mg_xq_ok {V W : Type} {v : V} {s : mg_St} {K : V → mg_St → Option W} : mg_xq (some (.ok v, s)) K = K v s := rfl
section DG
variable {σ τ : mg_St} {c g p : Nat} {μ : Nat → Nat}
theorem mg_dg6 (hI : mg_core σ τ c g p μ) (hR : mg_crs σ τ 5 1 c p) (hK : mg_mk τ μ) : ∀ (n j m : Nat) (acc : Int64), j ≤ 11 → 11 < n + j → 11 < m + j → ∃ acc', f_X6_digest_6 n acc (nI j) σ = some (acc', nI 11, σ) ∧ f_X8_digest_15 τ m acc (nI j) = some (acc', nI 11) := by
  intro n; induction n with
  | zero => intro j m acc h1 h2; omega
  | succ n ih =>
    intro j m acc h1 h2 h3
    obtain ⟨m, rfl⟩ : ∃ m', m = m' + 1 := ⟨m - 1, by omega⟩
    unfold f_X6_digest_6 f_X8_digest_15
    rcases Nat.lt_or_ge j 11 with h | h
    · obtain ⟨v, v1, v2⟩ := mg_counted hI hR hK h
      rw [if_neg (mg_le (N := 11) (M := 11) rfl (by omega) h), if_neg (mg_le (N := 11) (M := 11) rfl (by omega) h), v1, mg_xq_ok, v2, Option.bind_some, ← nI_succ]
      exact ih (j + 1) m _ (by omega) (by omega) (by omega)
    · have e : j = 11 := by omega
      subst e; exact ⟨acc, by rw [if_pos (by decide +kernel)], by rw [if_pos (by decide +kernel)]⟩
theorem mg_dg25 (hI : mg_core σ τ c g p μ) (hK : mg_mk τ μ) {x y : Nat} {a1 : Int64} (hx : x < 10) (hy : y < 7) : ∀ (n j m : Nat) (acc : Int64), j ≤ 5 → 5 < n + j → 5 < m + j → ∃ acc', f_X6_digestOfCells_25 a1 (nI y) (nI x) n acc (nI j) σ = some (acc', nI 5, σ) ∧ f_X8_digest_51 τ (nI (10 * y + x)) m acc (nI j) = some (acc', nI 5) := by
  intro n; induction n with
  | zero => intro j m acc h1 h2; omega
  | succ n ih =>
    intro j m acc h1 h2 h3
    obtain ⟨m, rfl⟩ : ∃ m', m = m' + 1 := ⟨m - 1, by omega⟩
    unfold f_X6_digestOfCells_25 f_X8_digest_51
    rcases Nat.lt_or_ge j 5 with h | h
    · have hin : f_X1_isInside σ (nI x) (nI y) = some 1 ∧ 10 * nI y + nI x = nI (10 * y + x) := by
        refine ⟨?_, ?_⟩
        · unfold f_X1_isInside
          rw [if_neg (nI_pos (by omega)), if_neg (mg_le (N := 10) (M := 10) rfl (by omega) hx), if_neg (nI_pos (by omega)), if_neg (mg_le (N := 7) (M := 7) rfl (by omega) hy)]
        · have := (mg_coord (p := 10 * y + x) (by omega)).2.2
          rw [show (10 * y + x) / 10 = y by omega, show (10 * y + x) % 10 = x by omega] at this
          exact this
      obtain ⟨v, v1, v2⟩ := mg_cellTold (x1 := nI x) (x2 := nI y) hI hK (show 10 * y + x < 70 by omega) h hin.1 hin.2
      rw [if_neg (mg_le (N := 5) (M := 5) rfl (by omega) h), if_neg (mg_le (N := 5) (M := 5) rfl (by omega) h), v1, mg_xq_ok, v2, Option.bind_some, ← nI_succ]
      exact ih (j + 1) m _ (by omega) (by omega) (by omega)
    · have e : j = 5 := by omega
      subst e; exact ⟨acc, by rw [if_pos (by decide +kernel)], by rw [if_pos (by decide +kernel)]⟩
theorem mg_dg15 (hI : mg_core σ τ c g p μ) (hK : mg_mk τ μ) {y : Nat} {a1 : Int64} (hy : y < 7) : ∀ (n j : Nat) (acc : Int64), j ≤ 10 → 10 < n + j → ∃ acc', f_X6_digestOfCells_15 a1 (nI y) n acc (nI j) σ = some (acc', nI 10, σ) ∧ ∀ m, f_X8_digest_42 τ (m + (10 - j)) acc (nI (10 * y + j)) = f_X8_digest_42 τ m acc' (nI (10 * y + 10)) := by
  intro n; induction n with
  | zero => intro j acc h1 h2; omega
  | succ n ih =>
    intro j acc h1 h2
    rcases Nat.lt_or_ge j 10 with h | h
    · obtain ⟨a, a2, a3⟩ := mg_dg25 hI hK (a1 := a1) h hy 5000 0 6 acc (by omega) (by omega) (by omega)
      obtain ⟨_, a2', _⟩ := mg_dg25 hI hK (a1 := a1) h hy 5000 0 6 acc (by omega) (by omega) (by omega)
      rw [nI_0] at a2 a3
      obtain ⟨b, b2, b3⟩ := ih (j + 1) a (by omega) (by omega)
      refine ⟨b, ?_, fun m => ?_⟩
      · unfold f_X6_digestOfCells_15
        rw [if_neg (mg_le (N := 10) (M := 10) rfl (by omega) h), a2, Option.bind_some, ← nI_succ]
        exact b2
      · rw [show m + (10 - j) = (m + (10 - (j + 1))) + 1 by omega]
        rw [← b3 m]
        show f_X8_digest_42 τ ((m + (10 - (j + 1))) + 1) acc (nI (10 * y + j)) = _
        rw [f_X8_digest_42, if_neg (mg_lt70 (10 * y + j) (by omega)).2, a3, Option.bind_some, ← nI_succ]
        rfl
    · have e : j = 10 := by omega
      subst e
      refine ⟨acc, ?_, fun m => rfl⟩
      unfold f_X6_digestOfCells_15
      rw [if_pos (by decide +kernel)]
theorem mg_dg5 (hI : mg_core σ τ c g p μ) (hK : mg_mk τ μ) {a1 : Int64} : ∀ (n y : Nat) (acc : Int64), y ≤ 7 → 7 < n + y → ∃ acc', f_X6_digestOfCells_5 a1 n acc (nI y) σ = some (acc', nI 7, σ) ∧ ∀ m, f_X8_digest_42 τ (m + (70 - 10 * y)) acc (nI (10 * y)) = f_X8_digest_42 τ m acc' (nI 70) := by
  intro n; induction n with
  | zero => intro j acc h1 h2; omega
  | succ n ih =>
    intro y acc h1 h2
    rcases Nat.lt_or_ge y 7 with h | h
    · obtain ⟨a, a2, a3⟩ := mg_dg15 hI hK (a1 := a1) h 5000 0 acc (by omega) (by omega)
      rw [nI_0] at a2
      obtain ⟨b, b2, b3⟩ := ih (y + 1) a (by omega) (by omega)
      refine ⟨b, ?_, fun m => ?_⟩
      · unfold f_X6_digestOfCells_5
        rw [if_neg (mg_le (N := 7) (M := 7) rfl (by omega) h), a2, Option.bind_some, ← nI_succ]
        exact b2
      · have e1 := a3 (m + (70 - 10 * (y + 1)))
        rw [show m + (70 - 10 * (y + 1)) + (10 - 0) = m + (70 - 10 * y) by omega, show 10 * y + 0 = 10 * y by omega, show 10 * y + 10 = 10 * (y + 1) by omega] at e1
        rw [e1]; exact b3 m
    · have e : y = 7 := by omega
      subst e
      refine ⟨acc, ?_, fun m => rfl⟩
      unfold f_X6_digestOfCells_5
      rw [if_pos (by decide +kernel)]
theorem mg_dg20 (hI : mg_core σ τ c g p μ) (hR : mg_crs σ τ 5 1 c p) {i : Nat} {a1 : Int64} (hi : i < c) : ∀ (n j m : Nat) (acc : Int64), j ≤ 5 → 5 < n + j → 5 < m + j → ∃ acc', f_X6_digestOfCarps_20 a1 (nI i) n acc (nI j) σ = some (acc', nI 5, σ) ∧ f_X8_digest_97 τ (nI i) m acc (nI j) = some (acc', nI 5) := by
  intro n; induction n with
  | zero => intro j m acc h1 h2; omega
  | succ n ih =>
    intro j m acc h1 h2 h3
    obtain ⟨m, rfl⟩ : ∃ m', m = m' + 1 := ⟨m - 1, by omega⟩
    unfold f_X6_digestOfCarps_20 f_X8_digest_97
    rcases Nat.lt_or_ge j 5 with h | h
    · obtain ⟨v, v1, v2⟩ := mg_carpTold hI hR hi h
      rw [if_neg (mg_le (N := 5) (M := 5) rfl (by omega) h), if_neg (mg_le (N := 5) (M := 5) rfl (by omega) h), v1, mg_xq_ok, v2, Option.bind_some, ← nI_succ]
      exact ih (j + 1) m _ (by omega) (by omega) (by omega)
    · have e : j = 5 := by omega
      subst e; exact ⟨acc, by rw [if_pos (by decide +kernel)], by rw [if_pos (by decide +kernel)]⟩
theorem mg_dgC (hI : mg_core σ τ c g p μ) (hR : mg_crs σ τ 5 1 c p) {a1 : Int64} : ∀ (n j m : Nat) (acc : Int64), j ≤ c → c < n + j → c < m + j → ∃ acc', f_X6_digestOfCarps_5 a1 n acc (nI j) σ = some (acc', nI c, σ) ∧ f_X8_digest_86 τ m acc (nI j) = some (acc', nI c) := by
  obtain ⟨n1, n2, n3, n4, n5, n6, n7, n8, n9⟩ := hI.1
  intro n; induction n with
  | zero => intro j m acc h1 h2; omega
  | succ n ih =>
    intro j m acc h1 h2 h3
    obtain ⟨m, rfl⟩ : ∃ m', m = m' + 1 := ⟨m - 1, by omega⟩
    unfold f_X6_digestOfCarps_5 f_X8_digest_86
    rw [n4, n5]
    rcases Nat.lt_or_ge j c with h | h
    · obtain ⟨a, a2, a3⟩ := mg_dg20 hI hR (a1 := a1) h 5000 0 6 acc (by omega) (by omega) (by omega)
      rw [nI_0] at a2 a3
      rw [if_neg (nI_ge h (by omega)), if_neg (nI_ge h (by omega)), a2, a3, Option.bind_some, Option.bind_some, ← nI_succ]
      exact ih (j + 1) m _ (by omega) (by omega) (by omega)
    · have e : j = c := by omega
      subst e; exact ⟨acc, by rw [if_pos (Int32.le_refl _)], by rw [if_pos (Int32.le_refl _)]⟩
end DG
theorem mg_dg143 {τ : mg_St} {c g p i : Nat} {μ : Nat → Nat} {a1 : Int64} (hi : i < g) : ∀ (n j m : Nat) (acc : Int64) (σ : mg_St), mg_core σ τ c g p μ → mg_crs σ τ 5 1 c p → j ≤ 5 → 5 < n + j → 5 < m + j → ∃ acc' σ', f_X6_digestOfGates_20 a1 (nI i) n acc (nI j) σ = some (acc', nI 5, σ') ∧ f_X8_digest_143 τ (nI i) m acc (nI j) = some (acc', nI 5) ∧ mg_core σ' τ c g p μ ∧ mg_crs σ' τ 5 1 c p := by
  intro n; induction n with
  | zero => intro j m acc σ hI hR h1 h2; omega
  | succ n ih =>
    intro j m acc σ hI hR h1 h2 h3
    obtain ⟨m, rfl⟩ : ∃ m', m = m' + 1 := ⟨m - 1, by omega⟩
    unfold f_X6_digestOfGates_20 f_X8_digest_143
    rcases Nat.lt_or_ge j 5 with h | h
    · obtain ⟨v, V, v1, v2⟩ := mg_gateTold hI hR hi h
      rw [if_neg (mg_le (N := 5) (M := 5) rfl (by omega) h), if_neg (mg_le (N := 5) (M := 5) rfl (by omega) h), v1, mg_xq_ok, v2, Option.bind_some, ← nI_succ]
      exact ih (j + 1) m _ _ (mg_core_v hI) (mg_crs_v hR) (by omega) (by omega) (by omega)
    · have e : j = 5 := by omega
      subst e; exact ⟨acc, σ, by rw [if_pos (by decide +kernel)], by rw [if_pos (by decide +kernel)], hI, hR⟩
theorem mg_dgG {τ : mg_St} {c g p : Nat} {μ : Nat → Nat} {a1 : Int64} : ∀ (n j m : Nat) (acc : Int64) (σ : mg_St), mg_core σ τ c g p μ → mg_crs σ τ 5 1 c p → j ≤ g → g < n + j → g < m + j → ∃ acc' σ', f_X6_digestOfGates_5 a1 n acc (nI j) σ = some (acc', nI g, σ') ∧ f_X8_digest_132 τ m acc (nI j) = some (acc', nI g) ∧ mg_core σ' τ c g p μ ∧ mg_crs σ' τ 5 1 c p := by
  intro n; induction n with
  | zero => intro j m acc σ hI hR h1 h2; omega
  | succ n ih =>
    intro j m acc σ hI hR h1 h2 h3
    obtain ⟨n1, n2, n3, n4, n5, n6, n7, n8, n9⟩ := hI.1
    obtain ⟨m, rfl⟩ : ∃ m', m = m' + 1 := ⟨m - 1, by omega⟩
    unfold f_X6_digestOfGates_5 f_X8_digest_132
    rw [n6, n7]
    rcases Nat.lt_or_ge j g with h | h
    · obtain ⟨a, σ1, a2, a3, a4, a5⟩ := mg_dg143 (a1 := a1) h 5000 0 5000 acc σ hI hR (by omega) (by omega) (by omega)
      rw [nI_0] at a2 a3
      rw [if_neg (nI_ge h (by omega)), if_neg (nI_ge h (by omega)), a2, a3, Option.bind_some, Option.bind_some, ← nI_succ]
      exact ih (j + 1) m _ _ a4 a5 (by omega) (by omega) (by omega)
    · have e : j = g := by omega
      subst e; exact ⟨acc, σ, by rw [if_pos (Int32.le_refl _)], by rw [if_pos (Int32.le_refl _)], hI, hR⟩
theorem mg_dgL {σ τ : mg_St} {c g p : Nat} {μ : Nat → Nat} (hI : mg_core σ τ c g p μ) (hR : mg_crs σ τ 5 1 c p) : ∀ (n j m : Nat) (acc : Int64), j ≤ p → p < n + j → p < m + j → ∃ acc', f_X6_digest_51 n acc (nI j) σ = some (acc', nI p, σ) ∧ f_X8_digest_178 τ m acc (nI j) = some (acc', nI p) := by
  obtain ⟨n1, n2, n3, n4, n5, n6, n7, n8, n9⟩ := hI.1
  intro n; induction n with
  | zero => intro j m acc h1 h2; omega
  | succ n ih =>
    intro j m acc h1 h2 h3
    obtain ⟨m, rfl⟩ : ∃ m', m = m' + 1 := ⟨m - 1, by omega⟩
    unfold f_X6_digest_51 f_X8_digest_178
    rw [n8, n9.1]
    rcases Nat.lt_or_ge j p with h | h
    · have hl : f_X6_lines σ (nI j) = some (.ok (τ 13 j), σ) := by
        unfold f_X6_lines
        rw [k6_poet1 n8 (nI_pos (by omega)) (nI_lt h (by omega)), mg_xb_ok, k0_written (by omega), Option.bind_some]
        have e : τ 13 j = σ (2 * 5 + 12) j := hR.2.2.2.1 j (by omega)
        rw [e]
      rw [if_neg (nI_ge h (by omega)), if_neg (nI_ge h (by omega)), hl, mg_xq_ok, mg_rdn (show j < 5 by omega) (by omega), Option.bind_some, ← nI_succ]
      exact ih (j + 1) m _ (by omega) (by omega) (by omega)
    · have e : j = p := by omega
      subst e; exact ⟨acc, by rw [if_pos (Int32.le_refl _)], by rw [if_pos (Int32.le_refl _)]⟩
theorem sim_digest {σ τ : mg_St} (I : mg_Inv σ τ) : ∃ (y z : Int64 × mg_St), f_X6_digest σ = some y ∧ f_X8_digest τ = some z ∧ mg_Inv y.2 z.2 ∧ y.1 = z.1 := by
  obtain ⟨c, g, p, μ, hI0, hR0⟩ := mg_thr (v := 0) I
  obtain ⟨r, m1, hK, hI⟩ := mg_mark hI0
  have hR : mg_crs σ (mg_sr (mg_su τ 0 0 0) 6 r) 5 1 c p := mg_crs_fr hR0 rfl rfl rfl (mg_sr_ne (by decide)) (mg_sr_ne (by decide)) (mg_sr_ne (by decide))
  unfold f_X6_digest f_X8_digest
  rw [m1, Option.bind_some]
  generalize mg_sr (mg_su τ 0 0 0) 6 r = T at hK hI hR ⊢
  have c30 : c ≤ 30 := hI.1.1
  have g6 : g ≤ 6 := hI.1.2.1
  have p5 : p ≤ 5 := hI.1.2.2.1
  obtain ⟨a, a1, a2⟩ := mg_dg6 hI hR hK 5000 0 12 1193 (by omega) (by omega) (by omega)
  rw [nI_0] at a1 a2
  obtain ⟨b, b1, b2⟩ := mg_dg5 hI hK (a1 := a) 5000 0 a (by omega) (by omega)
  have b2' := b2 1
  rw [show 1 + (70 - 10 * 0) = 71 from rfl, show 10 * 0 = 0 from rfl] at b2'
  have b3 : f_X8_digest_42 T 1 b (nI 70) = some (b, nI 70) := by
    unfold f_X8_digest_42; rw [if_pos mg_70]
  rw [b3, nI_0] at b2'
  rw [nI_0] at b1
  obtain ⟨d, d1, d2⟩ := mg_dgC hI hR (a1 := b) 5000 0 31 b (by omega) (by omega) (by omega)
  rw [nI_0] at d1 d2
  obtain ⟨e, σ', e1, e2, e3, e4⟩ := mg_dgG (a1 := d) 5000 0 5000 d σ hI hR (by omega) (by omega) (by omega)
  rw [nI_0] at e1 e2
  obtain ⟨f, f1, f2⟩ := mg_dgL e3 e4 5000 0 5000 e (by omega) (by omega) (by omega)
  rw [nI_0] at f1 f2
  unfold f_X6_digestOfCells f_X6_digestOfCarps f_X6_digestOfGates
  simp only [a1, a2, Option.bind_some, b1, b2', d1, d2, e1, e2, f1, f2]
  exact ⟨_, _, rfl, rfl, ⟨c, g, p, μ, e3, e4⟩, rfl⟩
theorem mg_inv0 : mg_Inv mg_c0 mg_m0 := by
  have k8 : ∀ k, mg_c0 8 k = 0 := fun k => rfl
  refine ⟨0, 0, 0, fun k => k, ⟨?_, ?_, ?_, ?_, ?_, ?_, ?_, ?_⟩, ?_⟩
  · exact ⟨by omega, by omega, by omega, rfl, rfl, rfl, rfl, rfl, rfl, fun j _ _ => rfl⟩
  · intro k hk
    have h9 : mg_c0 9 k = -1 := by show (if k < 70 then (-1 : Int32) else 0) = -1; rw [if_pos hk]
    exact ⟨rfl, Or.inl rfl, fun h => by rw [k8 k] at h; exact absurd h (by decide), fun _ => ⟨h9, rfl⟩⟩
  · intro j hj; omega
  · intro j hj; omega
  · intro j hj; omega
  · intro k hk; rfl
  · intro a ha hk; rw [k8 a] at hk; exact absurd hk (by decide)
  · refine ⟨?_, fun k hk => ⟨fun _ => ?_, fun h => by rw [k8 k] at h; exact absurd h (by decide)⟩⟩
    · refine Eq.trans (show mg_c0 1 8 = 0 from rfl) (Eq.trans (mg_sum_zero (n := 70)).symm (mg_sum_congr (fun k hk => ?_)))
      rw [k8 k, if_neg (fun c => absurd c.1 (by decide))]
    · show (if k < 70 then (-1 : Int32) else 0) = -1; rw [if_pos hk]
  · exact ⟨rfl, rfl, fun j hj => by omega, fun j _ => rfl, fun j _ _ => rfl⟩
