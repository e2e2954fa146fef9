/-! ===== digest, foresee, advise ===== -/
def mq_h (f : Nat → Int32) : Nat → Int64 → Int64
  | 0, a => a
  | n + 1, a => mq_h f n a * 31 + (f n).toInt64
def mq_hh (F : Nat → Nat → Int32) (w : Nat) : Nat → Int64 → Int64
  | 0, a => a
  | n + 1, a => mq_h (F n) w (mq_hh F w n a)
section DG
variable {σ : mg_St} {ζ : mg_Sz} {c g p : Nat} {μ : Nat → Nat}
theorem q_dg6 (hT : mq_T σ ζ c g p μ) (a : Int64) : ∀ (n j : Nat), j ≤ 11 → 11 < n + j → f_X6_digest_6 n (mq_h (mq_cnt ζ μ c g p) j a) (nI j) σ = some (mq_h (mq_cnt ζ μ c g p) 11 a, nI 11, σ) := by
  intro n; induction n with
  | zero => intro j h1 h2; omega
  | succ n ih =>
    intro j h1 h2
    unfold f_X6_digest_6
    rcases Nat.lt_or_ge j 11 with h | h
    · rw [if_neg (mg_le (N := 11) (M := 11) rfl (by omega) h), q_count hT h, mg_xq_ok, ← nI_succ]
      exact ih (j + 1) (by omega) (by omega)
    · have e : j = 11 := by omega
      subst e
      rw [if_pos (show (11 : Int32) ≤ nI 11 by decide +kernel)]
theorem q_dg25 (hT : mq_T σ ζ c g p μ) {x y : Nat} {a1 : Int64} (hx : x < 10) (hy : y < 7) (a : Int64) : ∀ (n j : Nat), j ≤ 5 → 5 < n + j → f_X6_digestOfCells_25 a1 (nI y) (nI x) n (mq_h (mq_cell ζ μ c (10 * y + x)) j a) (nI j) σ = some (mq_h (mq_cell ζ μ c (10 * y + x)) 5 a, nI 5, σ) := by
  intro n; induction n with
  | zero => intro j h1 h2; omega
  | succ n ih =>
    intro j h1 h2
    unfold f_X6_digestOfCells_25
    rcases Nat.lt_or_ge j 5 with h | h
    · rw [if_neg (mg_le (N := 5) (M := 5) rfl (by omega) h), q_cell hT hx hy h, mg_xq_ok, ← nI_succ]
      exact ih (j + 1) (by omega) (by omega)
    · have e : j = 5 := by omega
      subst e
      rw [if_pos (show (5 : Int32) ≤ nI 5 by decide +kernel)]
theorem q_dg15 (hT : mq_T σ ζ c g p μ) {y : Nat} {a1 : Int64} (hy : y < 7) (a : Int64) : ∀ (n x : Nat), x ≤ 10 → 10 < n + x → f_X6_digestOfCells_15 a1 (nI y) n (mq_hh (fun q => mq_cell ζ μ c q) 5 (10 * y + x) a) (nI x) σ = some (mq_hh (fun q => mq_cell ζ μ c q) 5 (10 * y + 10) a, nI 10, σ) := by
  intro n; induction n with
  | zero => intro j h1 h2; omega
  | succ n ih =>
    intro x h1 h2
    unfold f_X6_digestOfCells_15
    rcases Nat.lt_or_ge x 10 with h | h
    · have := q_dg25 hT (a1 := a1) h hy (mq_hh (fun q => mq_cell ζ μ c q) 5 (10 * y + x) a) 5000 0 (by omega) (by omega)
      rw [nI_0, show ∀ f b, mq_h f 0 b = b from fun _ _ => rfl] at this
      rw [if_neg (mg_le (N := 10) (M := 10) rfl (by omega) h), this, Option.bind_some, ← nI_succ]
      exact ih (x + 1) (by omega) (by omega)
    · have e : x = 10 := by omega
      subst e
      rw [if_pos (show (10 : Int32) ≤ nI 10 by decide +kernel)]
theorem q_dg5 (hT : mq_T σ ζ c g p μ) {a1 : Int64} (a : Int64) : ∀ (n y : Nat), y ≤ 7 → 7 < n + y → f_X6_digestOfCells_5 a1 n (mq_hh (fun q => mq_cell ζ μ c q) 5 (10 * y) a) (nI y) σ = some (mq_hh (fun q => mq_cell ζ μ c q) 5 70 a, nI 7, σ) := by
  intro n; induction n with
  | zero => intro j h1 h2; omega
  | succ n ih =>
    intro y h1 h2
    unfold f_X6_digestOfCells_5
    rcases Nat.lt_or_ge y 7 with h | h
    · have := q_dg15 hT (a1 := a1) h a 5000 0 (by omega) (by omega)
      rw [nI_0, Nat.add_zero] at this
      rw [if_neg (mg_le (N := 7) (M := 7) rfl (by omega) h), this, Option.bind_some, ← nI_succ]
      exact ih (y + 1) (by omega) (by omega)
    · have e : y = 7 := by omega
      subst e
      rw [if_pos (show (7 : Int32) ≤ nI 7 by decide +kernel)]
theorem q_dg20 (hT : mq_T σ ζ c g p μ) {i : Nat} {a1 : Int64} (hi : i < c) (a : Int64) : ∀ (n j : Nat), j ≤ 5 → 5 < n + j → f_X6_digestOfCarps_20 a1 (nI i) n (mq_h (mq_told ζ c i) j a) (nI j) σ = some (mq_h (mq_told ζ c i) 5 a, nI 5, σ) := by
  intro n; induction n with
  | zero => intro j h1 h2; omega
  | succ n ih =>
    intro j h1 h2
    unfold f_X6_digestOfCarps_20
    rcases Nat.lt_or_ge j 5 with h | h
    · rw [if_neg (mg_le (N := 5) (M := 5) rfl (by omega) h), q_told hT hi h, mg_xq_ok, ← nI_succ]
      exact ih (j + 1) (by omega) (by omega)
    · have e : j = 5 := by omega
      subst e
      rw [if_pos (show (5 : Int32) ≤ nI 5 by decide +kernel)]
theorem q_dgC (hT : mq_T σ ζ c g p μ) {a1 : Int64} (a : Int64) : ∀ (n j : Nat), j ≤ c → c < n + j → f_X6_digestOfCarps_5 a1 n (mq_hh (fun i => mq_told ζ c i) 5 j a) (nI j) σ = some (mq_hh (fun i => mq_told ζ c i) 5 c a, nI c, σ) := by
  obtain ⟨c30, -, -⟩ := mq_c30 hT
  have n4 : σ 2 2 = nI c := by obtain ⟨⟨τ, hI, hR⟩, hZ⟩ := hT; exact hI.1.2.2.2.1
  intro n; induction n with
  | zero => intro j h1 h2; omega
  | succ n ih =>
    intro j h1 h2
    unfold f_X6_digestOfCarps_5
    rw [n4]
    rcases Nat.lt_or_ge j c with h | h
    · have := q_dg20 hT (a1 := a1) h (mq_hh (fun i => mq_told ζ c i) 5 j a) 5000 0 (by omega) (by omega)
      rw [nI_0, show ∀ f b, mq_h f 0 b = b from fun _ _ => rfl] at this
      rw [if_neg (nI_ge h (by omega)), this, Option.bind_some, ← nI_succ]
      exact ih (j + 1) (by omega) (by omega)
    · have e : j = c := by omega
      subst e; rw [if_pos (Int32.le_refl _)]
theorem q_dgG20 (hT : mq_T σ ζ c g p μ) {i : Nat} {a1 : Int64} (hi : i < g) (a : Int64) : ∀ (n j : Nat) (V : Nat → Int32), j ≤ 5 → 5 < n + j → ∃ V', f_X6_digestOfGates_20 a1 (nI i) n (mq_h (mq_about ζ c p i) j a) (nI j) (mg_sr σ 7 V) = some (mq_h (mq_about ζ c p i) 5 a, nI 5, mg_sr σ 7 V') := by
  intro n; induction n with
  | zero => intro j V h1 h2; omega
  | succ n ih =>
    intro j V h1 h2
    unfold f_X6_digestOfGates_20
    rcases Nat.lt_or_ge j 5 with h | h
    · obtain ⟨V2, v1⟩ := q_about (mq_T_v (V := V) hT) hi h
      rw [if_neg (mg_le (N := 5) (M := 5) rfl (by omega) h), v1, mg_xq_ok, ← nI_succ, mg_sr_sr]
      exact ih (j + 1) V2 (by omega) (by omega)
    · have e : j = 5 := by omega
      subst e
      rw [if_pos (show (5 : Int32) ≤ nI 5 by decide +kernel)]
      exact ⟨V, rfl⟩
theorem q_dgG (hT : mq_T σ ζ c g p μ) {a1 : Int64} (a : Int64) : ∀ (n j : Nat) (V : Nat → Int32), j ≤ g → g < n + j → ∃ V', f_X6_digestOfGates_5 a1 n (mq_hh (fun i => mq_about ζ c p i) 5 j a) (nI j) (mg_sr σ 7 V) = some (mq_hh (fun i => mq_about ζ c p i) 5 g a, nI g, mg_sr σ 7 V') := by
  obtain ⟨-, g6, -⟩ := mq_c30 hT
  have n6 : σ 3 2 = nI g := by obtain ⟨⟨τ, hI, hR⟩, hZ⟩ := hT; exact hI.1.2.2.2.2.2.1
  intro n; induction n with
  | zero => intro j V h1 h2; omega
  | succ n ih =>
    intro j V h1 h2
    unfold f_X6_digestOfGates_5
    rw [show mg_sr σ 7 V 3 2 = nI g from n6]
    rcases Nat.lt_or_ge j g with h | h
    · obtain ⟨V2, this⟩ := q_dgG20 hT (a1 := a1) h (mq_hh (fun i => mq_about ζ c p i) 5 j a) 5000 0 V (by omega) (by omega)
      rw [nI_0, show ∀ f b, mq_h f 0 b = b from fun _ _ => rfl] at this
      rw [if_neg (nI_ge h (by omega)), this, Option.bind_some, ← nI_succ]
      exact ih (j + 1) V2 (by omega) (by omega)
    · have e : j = g := by omega
      subst e; exact ⟨V, by rw [if_pos (Int32.le_refl _)]⟩
theorem q_dg51 (hT : mq_T σ ζ c g p μ) (a : Int64) : ∀ (n j : Nat), j ≤ p → p < n + j → f_X6_digest_51 n (mq_h (fun k => ζ.1 5 k 1) j a) (nI j) σ = some (mq_h (fun k => ζ.1 5 k 1) p a, nI p, σ) := by
  obtain ⟨-, -, p5⟩ := mq_c30 hT
  have n8 : σ 4 1 = nI p := by obtain ⟨⟨τ, hI, hR⟩, hZ⟩ := hT; exact hI.1.2.2.2.2.2.2.2.1
  intro n; induction n with
  | zero => intro j h1 h2; omega
  | succ n ih =>
    intro j h1 h2
    unfold f_X6_digest_51
    rw [n8]
    rcases Nat.lt_or_ge j p with h | h
    · rw [if_neg (nI_ge h (by omega)), q_lines hT h, mg_xq_ok, ← nI_succ]
      exact ih (j + 1) (by omega) (by omega)
    · have e : j = p := by omega
      subst e; rw [if_pos (Int32.le_refl _)]
/-- the digest, of the garden by hand -/
def mq_dig (ζ : mg_Sz) (μ : Nat → Nat) (c g p : Nat) : Int64 := mq_h (fun k => ζ.1 5 k 1) p (mq_hh (fun i => mq_about ζ c p i) 5 g (mq_hh (fun i => mq_told ζ c i) 5 c (mq_hh (fun q => mq_cell ζ μ c q) 5 70 (mq_h (mq_cnt ζ μ c g p) 11 1193))))
theorem q_digest (hT : mq_T σ ζ c g p μ) : ∃ V, f_X6_digest σ = some (mq_dig ζ μ c g p, mg_sr σ 7 V) := by
  obtain ⟨c30, g6, p5⟩ := mq_c30 hT
  have h0 : ∀ f b, mq_h f 0 b = b := fun _ _ => rfl
  have hh0 : ∀ F w b, mq_hh F w 0 b = b := fun _ _ _ => rfl
  have a1 := q_dg6 hT 1193 5000 0 (by omega) (by omega)
  rw [nI_0, h0] at a1
  have a2 := q_dg5 hT (a1 := mq_h (mq_cnt ζ μ c g p) 11 1193) (mq_h (mq_cnt ζ μ c g p) 11 1193) 5000 0 (by omega) (by omega)
  rw [nI_0, Nat.mul_zero, hh0] at a2
  have a3 := fun b => q_dgC hT (a1 := b) b 5000 0 (by omega) (by omega)
  simp only [nI_0, hh0] at a3
  have a4 := fun b => q_dgG hT (a1 := b) b 5000 0 (σ 7) (by omega) (by omega)
  simp only [nI_0, hh0, mg_sr_self] at a4
  unfold f_X6_digest f_X6_digestOfCells f_X6_digestOfCarps f_X6_digestOfGates
  rw [a1, Option.bind_some]
  dsimp only
  rw [a2, Option.bind_some, Option.bind_some]
  dsimp only
  rw [a3, Option.bind_some, Option.bind_some]
  dsimp only
  obtain ⟨V, v1⟩ := a4 (mq_hh (fun i => mq_told ζ c i) 5 c (mq_hh (fun q => mq_cell ζ μ c q) 5 70 (mq_h (mq_cnt ζ μ c g p) 11 1193)))
  rw [v1, Option.bind_some, Option.bind_some]
  dsimp only
  have a5 := fun b => q_dg51 (mq_T_v (V := V) hT) b 5000 0 (by omega) (by omega)
  simp only [nI_0, h0] at a5
  rw [a5, Option.bind_some]
  exact ⟨V, rfl⟩
/-- rows that only a course ahead and the view write -/
theorem mq_T_fr {σ2 : mg_St} (hT : mq_T σ ζ c g p μ) (h : ∀ a, a ≠ 7 → a ≠ 6 → a ≠ 23 → a ≠ 24 → σ2 a = σ a) : mq_T σ2 ζ c g p μ := by
  obtain ⟨⟨τ, hI, hR⟩, ⟨z1, z2, z3, z4, z5⟩, zc, zj, zi, zp⟩ := hT
  have h5 := h 5 (by decide) (by decide) (by decide) (by decide)
  have h21 := h 21 (by decide) (by decide) (by decide) (by decide)
  have h22 := h 22 (by decide) (by decide) (by decide) (by decide)
  refine ⟨⟨τ, mg_core_fr hI (fun a h1 _ h5 h6 h7 _ => h a h7 h6 (by omega) (by omega)) (fun _ _ _ _ _ _ => rfl) rfl rfl rfl, mg_crs_fr hR h5 h21 h22 rfl rfl rfl⟩, ⟨z1, z2, z3, by rw [h5]; exact z4, by rw [h5]; exact z5⟩, ?_, ?_, ?_, ?_⟩
  · intro q hq
    rw [h 8 (by decide) (by decide) (by decide) (by decide), h 9 (by decide) (by decide) (by decide) (by decide), h 10 (by decide) (by decide) (by decide) (by decide)]; exact zc q hq
  · intro j hj
    rw [h 16 (by decide) (by decide) (by decide) (by decide), h 17 (by decide) (by decide) (by decide) (by decide)]
    show ∃ q, q < 70 ∧ σ 16 j = nI q ∧ ζ.1 3 j 0 = nI (q % 10) ∧ ζ.1 3 j 1 = nI (q / 10) ∧ ζ.1 3 j 2 = σ2 21 j ∧ ζ.1 3 j 3 = σ 17 j
    rw [h21]; exact zj j hj
  · intro i hi
    rw [h 18 (by decide) (by decide) (by decide) (by decide), h 19 (by decide) (by decide) (by decide) (by decide)]; exact zi i hi
  · intro i hi
    rw [h 20 (by decide) (by decide) (by decide) (by decide)]
    show ζ.1 5 i 0 = σ 20 i ∧ ζ.1 5 i 1 = σ2 22 i
    rw [h22]; exact zp i hi
theorem q_become (hT : mq_T σ ζ c g p μ) : ∃ σ1, f_X0_becomeLike σ = some σ1 ∧ mq_Tb 6 2 σ1 ζ c g p μ ∧ ∀ a, a ≠ 6 → a ≠ 23 → a ≠ 24 → σ1 a = σ a := by
  obtain ⟨σ1, b1, b2, b3, b4, b5, b6⟩ := k0_become σ
  obtain ⟨c30, g6, p5⟩ := mq_c30 hT
  refine ⟨σ1, b1, ?_, b6⟩
  obtain ⟨⟨τ, hI, r1, r2, r3, r4, r5⟩, ⟨z1, z2, z3, z4, z5⟩, zc, zj, zi, zp⟩ := hT
  refine ⟨⟨mg_sr (mg_sr (mg_sr τ 2 (τ 1)) 14 (τ 12)) 15 (τ 13), mg_core_fr hI (fun a h1 _ _ h6 _ _ => b6 a h6 (by omega) (by omega)) (fun a h1 _ _ h2 _ => by rw [mg_sr_ne (by omega), mg_sr_ne (by omega), mg_sr_ne h2]) rfl rfl rfl, ?_, ?_, ?_, ?_, ?_⟩, ⟨z1, z2, z3, ?_, ?_⟩, ?_, ?_, ?_, ?_⟩
  · rw [b2]; exact r1
  · rw [b3]; exact r2
  · intro j hj
    show τ 12 j = σ1 23 j ∧ ∃ z, 1 ≤ z ∧ z ≤ 40 ∧ σ1 23 j = nI z
    rw [b4 j (by omega)]; exact r3 j hj
  · intro j hj
    show τ 13 j = σ1 24 j
    rw [b5 j hj]; exact r4 j hj
  · intro j h1 h2
    show σ1 24 j = 0
    rw [b5 j h2]; exact r5 j h1 h2
  · rw [b2]; exact z4
  · rw [b3]; exact z5
  · intro q hq
    rw [b6 8 (by decide) (by decide) (by decide), b6 9 (by decide) (by decide) (by decide), b6 10 (by decide) (by decide) (by decide)]; exact zc q hq
  · intro j hj
    rw [b6 16 (by decide) (by decide) (by decide), b6 17 (by decide) (by decide) (by decide)]
    show ∃ q, q < 70 ∧ σ 16 j = nI q ∧ ζ.1 3 j 0 = nI (q % 10) ∧ ζ.1 3 j 1 = nI (q / 10) ∧ ζ.1 3 j 2 = σ1 23 j ∧ ζ.1 3 j 3 = σ 17 j
    rw [b4 j (by omega)]; exact zj j hj
  · intro i hi
    rw [b6 18 (by decide) (by decide) (by decide), b6 19 (by decide) (by decide) (by decide)]; exact zi i hi
  · intro i hi
    rw [b6 20 (by decide) (by decide) (by decide)]
    show ζ.1 5 i 0 = σ 20 i ∧ ζ.1 5 i 1 = σ1 24 i
    rw [b5 i (by omega)]; exact zp i hi
end DG
