/-! ===== sums, rows, places ===== -/
def mg_sum (f : Nat → Int32) : Nat → Int32
  | 0 => 0
  | n + 1 => mg_sum f n + f n
theorem mg_sum_congr {f g : Nat → Int32} : ∀ {n : Nat}, (∀ k, k < n → f k = g k) → mg_sum f n = mg_sum g n := by
  intro n; induction n with
  | zero => intro _; rfl
  | succ n ih => intro h; simp only [mg_sum]; rw [ih (fun k hk => h k (by omega)), h n (by omega)]
theorem mg_sum_add {f g : Nat → Int32} : ∀ {n : Nat}, mg_sum (fun k => f k + g k) n = mg_sum f n + mg_sum g n := by
  intro n; induction n with
  | zero => rfl
  | succ n ih => simp only [mg_sum]; rw [ih]; grind
theorem mg_sum_zero : ∀ {n : Nat}, mg_sum (fun _ => 0) n = 0 := by
  intro n; induction n with
  | zero => rfl
  | succ n ih => simp only [mg_sum]; rw [ih]; rfl
theorem mg_sum_comm {F : Nat → Nat → Int32} : ∀ {n m : Nat}, mg_sum (fun i => mg_sum (fun j => F i j) m) n = mg_sum (fun j => mg_sum (fun i => F i j) n) m := by
  intro n m; induction n with
  | zero => simp only [mg_sum]; rw [mg_sum_zero]
  | succ n ih => simp only [mg_sum]; rw [ih, mg_sum_add]
theorem mg_sum_off {f g : Nat → Int32} {k : Nat} {v : Int32} : ∀ {n : Nat}, k < n → g k = f k + v → (∀ j, j < n → j ≠ k → g j = f j) → mg_sum g n = mg_sum f n + v := by
  intro n; induction n with
  | zero => intro h; omega
  | succ n ih =>
    intro hk h1 h2
    simp only [mg_sum]
    rcases Nat.lt_or_ge k n with h | h
    · rw [ih h h1 (fun j hj => h2 j (by omega)), h2 n (by omega) (by omega)]; grind
    · have e : k = n := by omega
      subst e
      rw [h1, mg_sum_congr (fun j hj => h2 j (by omega) (by omega))]; grind
theorem mg_sum_ind {P : Nat → Prop} [∀ k, Decidable (P k)] : ∀ (n : Nat), ∃ m, m ≤ n ∧ mg_sum (fun k => if P k then 1 else 0) n = nI m ∧ (m = 0 ↔ ∀ k, k < n → ¬ P k) := by
  intro n; induction n with
  | zero => exact ⟨0, by omega, rfl, by simp⟩
  | succ n ih =>
    obtain ⟨m, h1, h2, h3⟩ := ih
    by_cases hp : P n
    · refine ⟨m + 1, by omega, ?_, ?_⟩
      · simp only [mg_sum]; rw [h2, if_pos hp, nI_1]
      · constructor
        · intro h; omega
        · intro h; exact absurd hp (h n (by omega))
    · refine ⟨m, by omega, ?_, ?_⟩
      · simp only [mg_sum]; rw [h2, if_neg hp]; grind
      · rw [h3]; constructor
        · intro h k hk
          rcases Nat.lt_or_ge k n with h' | h'
          · exact h k h'
          · have e : k = n := by omega
            subst e; exact hp
        · intro h k hk; exact h k (by omega)
theorem mg_rdn {σ : mg_St} {k n j : Nat} (h : j < n) (hn : n ≤ 70) : mg_rd σ k n (nI j) = some (σ k j) := by
  unfold mg_rd; rw [if_neg (nI_in h (by omega)), nI_clamp (by omega)]
theorem mg_wrn {σ : mg_St} {k n j : Nat} {v : Int32} (h : j < n) (hn : n ≤ 70) : mg_wr σ k n (nI j) v = some (mg_su σ k j v) := by
  unfold mg_wr; rw [if_neg (nI_in h (by omega)), nI_clamp (by omega)]
theorem mg_rtn {f : Nat → Int32} {n j : Nat} (h : j < n) (hn : n ≤ 70) : mg_rt f n (nI j) = some (f j) := by
  unfold mg_rt; rw [if_neg (nI_in h (by omega)), nI_clamp (by omega)]
theorem mg_lt70 (j : Nat) (h : j < 70) : ¬ nI j < 0 ∧ ¬ 70 ≤ nI j := ⟨nI_pos (by omega), (nI_ge (b := 70) h (by omega) : ¬ nI 70 ≤ nI j)⟩
theorem mg_m1 (j : Nat) (h : j < 1000) : nI j ≠ -1 := by
  intro e; have := nI_pos (n := j) (by omega); rw [e] at this; revert this; decide
theorem mg_le {N : Nat} {M : Int32} {j : Nat} (e : M = nI N) (hN : N < 1000) (h : j < N) : ¬ M ≤ nI j := by subst e; exact nI_ge h (by omega)
theorem mg_inj {a b : Nat} (ha : a < 1000) (hb : b < 1000) (e : nI a = nI b) : a = b := (nI_eq (by omega) (by omega)).1 e
theorem mg_su_ne {σ : mg_St} {k i a : Nat} {v : Int32} (h : a ≠ k) : mg_su σ k i v a = σ a := by unfold mg_su; rw [if_neg h]
theorem mg_su_eq {σ : mg_St} {k i j : Nat} {v : Int32} : mg_su σ k i v k j = if j = i then v else σ k j := by unfold mg_su; rw [if_pos rfl]; rfl
theorem mg_su_at {σ : mg_St} {k i a j : Nat} {v : Int32} : mg_su σ k i v a j = if a = k ∧ j = i then v else σ a j := by
  by_cases h : a = k
  · subst h; rw [mg_su_eq]; simp
  · rw [mg_su_ne h]; simp [h]
/-- a number in its bounds is a natural number's -/
theorem mg_nat {x : Int32} {N : Nat} (hN : N ≤ 100) (h0 : ¬ x < 0) (h1 : ¬ nI N ≤ x) : ∃ j, j < N ∧ x = nI j := by
  obtain ⟨j, hj, rfl⟩ := nI_of h0
  refine ⟨j, ?_, rfl⟩
  rcases Nat.lt_or_ge j N with h | h
  · exact h
  · exact absurd (nI_le h hj) h1
theorem mg_place (σ τ : mg_St) (x1 x2 : Int32) : (f_X1_isInside σ x1 x2 = some 0 ∧ f_X8_isCell τ x1 x2 = some 0) ∨ (∃ p, p < 70 ∧ x1 = nI (p % 10) ∧ x2 = nI (p / 10) ∧ 10 * x2 + x1 = nI p ∧ f_X1_isInside σ x1 x2 = some 1 ∧ f_X8_isCell τ x1 x2 = some 1) := by
  unfold f_X1_isInside f_X8_isCell f_X8_isIn
  have n9 : ∀ x : Int32, (9 < x) ↔ (10 ≤ x) := by intro x; constructor <;> intro h <;> grind
  have n6 : ∀ x : Int32, (6 < x) ↔ (7 ≤ x) := by intro x; constructor <;> intro h <;> grind
  simp only [n9, n6]
  by_cases h1 : x1 < 0
  · left; simp [h1]
  by_cases h2 : 10 ≤ x1
  · left; simp [h1, h2]
  by_cases h3 : x2 < 0
  · left; simp [h1, h2, h3]
  by_cases h4 : 7 ≤ x2
  · left; simp [h1, h2, h3, h4]
  right
  obtain ⟨a, ha, rfl⟩ := mg_nat (N := 10) (by omega) h1 h2
  obtain ⟨b, hb, rfl⟩ := mg_nat (N := 7) (by omega) h3 h4
  refine ⟨10 * b + a, by omega, by congr 1; omega, by congr 1; omega, ?_, by simp [h1, h2, h3, h4], by simp [h1, h2, h3, h4]⟩
  show nI 10 * nI b + nI a = _
  rw [← nI_add]; congr 1
  exact (Int32.ofNat_mul 10 b).symm
theorem mg_sum_s {f : Nat → Int32} {n : Nat} : mg_sum f (n + 1) = mg_sum f n + f n := rfl
