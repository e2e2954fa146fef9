section SN
variable {σ : mg_St} {ζ : mg_Sz} {c g p : Nat} {μ : Nat → Nat}
theorem mg_sr_sr {V V2 : Nat → Int32} : mg_sr (mg_sr σ 7 V) 7 V2 = mg_sr σ 7 V2 := by funext a; unfold mg_sr; split <;> rfl
/-- i is the least of the best gates from j on -/
def mq_lb (ζ : mg_Sz) (c g j i : Nat) : Prop := j ≤ i ∧ i < g ∧ (∀ k, j ≤ k → k < g → mq_beauty ζ c k ≤ mq_beauty ζ c i) ∧ (∀ k, j ≤ k → k < i → mq_beauty ζ c k < mq_beauty ζ c i)
theorem mq_fin_lb (hT : mq_T σ ζ c g p μ) : ∀ (n : Nat), n ≤ g → 0 < n → ∃ i, mq_fin ζ c n = (nI i, mq_beauty ζ c i) ∧ mq_lb ζ c n 0 i := by
  intro n; induction n with
  | zero => intro h1 h2; omega
  | succ n ih =>
    intro h1 _
    obtain ⟨B, b1, b2⟩ := mq_bd hT (show n < g by omega)
    have e : mq_fin ζ c (n + 1) = if mq_beauty ζ c n ≤ (mq_fin ζ c n).2 then mq_fin ζ c n else (nI n, mq_beauty ζ c n) := rfl
    by_cases z : n = 0
    · subst z
      refine ⟨0, ?_, Nat.le_refl _, by omega, ?_, fun k _ h => by omega⟩
      · have hno : ¬ mq_beauty ζ c 0 ≤ (-1 : Int32) := by
          rw [b2]; intro h
          have h3 : ¬ nI B < 0 := nI_pos (by omega)
          apply h3
          exact Int32.lt_of_le_of_lt h (by decide)
        rw [e, show mq_fin ζ c 0 = (-1, -1) from rfl, if_neg hno]
      · intro k _ hk
        have : k = 0 := by omega
        subst this; exact Int32.le_refl _
    · obtain ⟨i, i1, i2, i3, i4, i5⟩ := ih (by omega) (by omega)
      rw [e, i1]
      dsimp only
      by_cases k : mq_beauty ζ c n ≤ mq_beauty ζ c i
      · rw [if_pos k]
        refine ⟨i, rfl, i2, by omega, fun k' h h' => ?_, i5⟩
        rcases Nat.lt_or_ge k' n with a | a
        · exact i4 k' h a
        · have : k' = n := by omega
          subst this; exact k
      · rw [if_neg k]
        have k' := mg_lt_iff.2 k
        refine ⟨n, rfl, Nat.zero_le _, by omega, fun r h h' => ?_, fun r h h' => Int32.lt_of_le_of_lt (i4 r h h') k'⟩
        rcases Nat.lt_or_ge r n with a | a
        · exact Int32.le_of_lt (Int32.lt_of_le_of_lt (i4 r h a) k')
        · have : r = n := by omega
          subst this; exact Int32.le_refl _
theorem mq_lb_uniq {i j : Nat} (h1 : mq_lb ζ c g 0 i) (h2 : mq_lb ζ c g 0 j) : i = j := by
  obtain ⟨-, a2, a3, a4⟩ := h1
  obtain ⟨-, b2, b3, b4⟩ := h2
  rcases Nat.lt_trichotomy i j with h | h | h
  · exact absurd (a3 j (Nat.zero_le _) b2) (fun x => (mg_lt_iff.1 (b4 i (Nat.zero_le _) h)) x)
  · exact h
  · exact absurd (b3 i (Nat.zero_le _) a2) (fun x => (mg_lt_iff.1 (a4 j (Nat.zero_le _) h)) x)
/-- the finest found so far, from j on -/
def mq_fd (ζ : mg_Sz) (c g j : Nat) (x : Int32) : Prop := (j = g ∧ x = -1) ∨ ∃ i, x = nI i ∧ mq_lb ζ c g j i
theorem k7_s324 (hT : mq_T σ ζ c g p μ) : ∀ (j n : Nat) (x2 x3 : Int32) (V : Nat → Int32), j ≤ g → j < n → x2 + mg_sum (mq_beauty ζ c) j = mg_sum (mq_beauty ζ c) g → mq_fd ζ c g j x3 →
    ∃ x3' y V', f_X7_isSame_324 ζ n x2 x3 (nI j - 1) (mg_sr σ 7 V) = some (mg_sum (mq_beauty ζ c) g, x3', y, mg_sr σ 7 V') ∧ mq_fd ζ c g 0 x3' := by
  obtain ⟨c30, g6, p5⟩ := mq_c30 hT
  intro j; induction j with
  | zero =>
    intro n x2 x3 V h1 h2 h3 h4
    obtain ⟨n, rfl⟩ : ∃ n', n = n' + 1 := ⟨n - 1, by omega⟩
    unfold f_X7_isSame_324
    rw [show mg_sum (mq_beauty ζ c) 0 = 0 from rfl, Int32.add_zero] at h3
    rw [if_pos (show nI 0 - 1 < 0 by decide), h3]
    exact ⟨x3, _, V, rfl, h4⟩
  | succ j ih =>
    intro n x2 x3 V h1 h2 h3 h4
    obtain ⟨n, rfl⟩ : ∃ n', n = n' + 1 := ⟨n - 1, by omega⟩
    have hj : j < g := by omega
    obtain ⟨cP, r1, r2⟩ := k7_shows hT hj
    have h9 := mq_see_9 hT hj
    have hlt := mq_see_lt hT hj
    unfold f_X7_isSame_324
    rw [nI_pred, if_neg (nI_pos (by omega)), hT.2.1.2.1, mg_ixn hj (by omega), Option.bind_some, r1, Option.bind_some]
    dsimp only
    have s360 := k7_s360 (ζ := ζ) (σ := mg_sr σ 7 V) (a2 := x2) (a3 := x3) (a4 := nI j) r2 hlt h9 (mq_see ζ j) [] 5000 0 0 rfl (by omega)
    rw [List.length_nil, nI_0, Int32.zero_add, Int32.zero_add] at s360
    rw [s360, Option.bind_some]
    dsimp only
    have s457 := k7_s457 hT (i := j) (a2 := x2) (a3 := x3) (a6 := mq_kn ζ 1 (mq_see ζ j)) (a7 := mq_kn ζ 2 (mq_see ζ j)) (N := (mq_see ζ j).length) (cP := cP) (s := mg_sr σ 7 V) 5000 0 (by omega) (by omega)
    rw [nI_0, show mq_at ζ 0 j = 0 from rfl] at s457
    rw [hT.2.1.2.2.1, s457, Option.bind_some]
    dsimp only
    rw [Option.bind_some, k7_beauty hT hj, Option.bind_some]
    obtain ⟨V2, s539⟩ := k7_s539 hT hj (a2 := x2) (a3 := x3) (mq_5 (P := fun k v => v = mq_about ζ c p j k) (a0 := nI (mq_see ζ j).length) (a1 := mq_kn ζ 1 (mq_see ζ j)) (a2 := mq_kn ζ 2 (mq_see ζ j)) (a3 := mq_beauty ζ c j) (a4 := mq_at ζ p j) rfl rfl rfl rfl rfl) 5000 0 V (by omega) (by omega)
    rw [nI_0] at s539
    rw [s539, Option.bind_some]
    have e3 : (upd (upd (upd (upd (upd (fun _ => 0) 0 (nI (mq_see ζ j).length)) 1 (mq_kn ζ 1 (mq_see ζ j))) 2 (mq_kn ζ 2 (mq_see ζ j))) 3 (mq_beauty ζ c j)) 4 (mq_at ζ p j)) 3 = mq_beauty ζ c j := rfl
    rw [e3]
    have hsum : x2 + mq_beauty ζ c j + mg_sum (mq_beauty ζ c) j = mg_sum (mq_beauty ζ c) g := by
      rw [← h3, mg_sum_s, Int32.add_assoc, Int32.add_comm (mq_beauty ζ c j)]
    have em : nI j + -1 = nI j - 1 := by rw [Int32.sub_eq_add_neg]
    rw [em]
    rcases h4 with ⟨rfl, rfl⟩ | ⟨i, rfl, i1, i2, i3, i4⟩
    · rw [if_pos (show (-1 : Int32) < 0 by decide)]
      refine ih n _ _ V2 (by omega) (by omega) hsum (Or.inr ⟨j, rfl, Nat.le_refl _, by omega, fun k hk hk' => ?_, fun k hk hk' => by omega⟩)
      have : k = j := by omega
      subst this; exact Int32.le_refl _
    · rw [if_neg (nI_pos (by omega)), mg_ixn i2 (by omega), Option.bind_some, k7_beauty hT i2, Option.bind_some]
      by_cases k : mq_beauty ζ c j < mq_beauty ζ c i
      · rw [if_pos k]
        refine ih n _ _ V2 (by omega) (by omega) hsum (Or.inr ⟨i, rfl, by omega, i2, fun r hr hr' => ?_, fun r hr hr' => ?_⟩)
        · rcases Nat.lt_or_ge j r with a | a
          · exact i3 r a hr'
          · have : r = j := by omega
            subst this; exact Int32.le_of_lt k
        · rcases Nat.lt_or_ge j r with a | a
          · exact i4 r a hr'
          · have : r = j := by omega
            subst this; exact k
      · rw [if_neg k]
        refine ih n _ _ V2 (by omega) (by omega) hsum (Or.inr ⟨j, rfl, Nat.le_refl _, by omega, fun r hr hr' => ?_, fun r hr hr' => by omega⟩)
        rcases Nat.lt_or_ge j r with a | a
        · have k' : mq_beauty ζ c i ≤ mq_beauty ζ c j := by
            by_cases z : mq_beauty ζ c i ≤ mq_beauty ζ c j
            · exact z
            · exact absurd (mg_lt_iff.2 z) k
          exact Int32.le_trans (i3 r a hr') k'
        · have : r = j := by omega
          subst this; exact Int32.le_refl _
theorem k7_s609 (hT : mq_T σ ζ c g p μ) {a2 a3 : Int32} : ∀ (n j : Nat), j ≤ p → p < n + j → f_X7_isSame_609 a2 a3 ζ n (nI j) σ = some (nI p, σ) := by
  obtain ⟨-, -, p5⟩ := mq_c30 hT
  intro n; induction n with
  | zero => intro j h1 h2; omega
  | succ n ih =>
    intro j h1 h2
    unfold f_X7_isSame_609
    rw [hT.2.1.2.2.1]
    rcases Nat.lt_or_ge j p with h | h
    · rw [if_neg (nI_ge h (by omega)), q_lines hT h, mg_xq_ok, mg_ixn h (by omega), Option.bind_some, if_pos rfl, ← nI_succ]
      exact ih (j + 1) (by omega) (by omega)
    · have e : j = p := by omega
      subst e; rw [if_pos (Int32.le_refl _)]
theorem k7_s654 (hT : mq_T σ ζ c g p μ) {a2 a3 : Int32} : ∀ (n j : Nat), j ≤ 11 → 11 < n + j → f_X7_isSame_654 a2 a3 ζ (mq_cnt ζ μ c g p) n (nI j) σ = some (nI 11, σ) := by
  intro n; induction n with
  | zero => intro j h1 h2; omega
  | succ n ih =>
    intro j h1 h2
    unfold f_X7_isSame_654
    rcases Nat.lt_or_ge j 11 with h | h
    · rw [if_neg (mg_le (N := 11) (M := 11) rfl (by omega) h), q_count hT h, mg_xq_ok, mg_ixn h (by omega), Option.bind_some, if_pos rfl, ← nI_succ]
      exact ih (j + 1) (by omega) (by omega)
    · have e : j = 11 := by omega
      subst e
      rw [if_pos (show (11 : Int32) ≤ nI 11 by decide +kernel)]
/-- no mean is no number -/
def mq_nm : Prop := isNaN64 FP.dconst0 = false ∧ ∀ (a : Int32) (g : Nat), 0 < g → g ≤ 6 → isNaN64 (FP.ddiv (FP.i2d a) (FP.i2d (nI g))) = false
theorem k7_isSame (hn : mq_nm) (hT : mq_T σ ζ c g p μ) : f_X7_isSame σ ζ = some () := by
  obtain ⟨c30, g6, p5⟩ := mq_c30 hT
  have a1 := k7_s2 hT 8 0 (by omega) (by omega)
  have a2 := k7_s148 hT 31 0 (by omega) (by omega)
  obtain ⟨x3, y, V, a3, a4⟩ := k7_s324 hT g 7 0 (-1) (σ 7) (Nat.le_refl _) (by omega) (Int32.zero_add _) (Or.inl ⟨rfl, rfl⟩)
  rw [nI_0] at a1 a2
  rw [mg_sr_self] at a3
  unfold f_X7_isSame
  rw [a1, Option.bind_some]
  dsimp only
  rw [a2, Option.bind_some]
  dsimp only
  rw [hT.2.1.2.1, a3, Option.bind_some]
  dsimp only
  have hT2 := mq_T_v (V := V) hT
  have a5 := k7_s609 hT2 (a2 := mg_sum (mq_beauty ζ c) g) (a3 := x3) 5000 0 (by omega) (by omega)
  rw [nI_0] at a5
  rw [a5, Option.bind_some, k7_counts hT, Option.bind_some]
  dsimp only
  have a6 := k7_s654 hT2 (a2 := mg_sum (mq_beauty ζ c) g) (a3 := x3) 5000 0 (by omega) (by omega)
  rw [nI_0] at a6
  rw [a6, Option.bind_some]
  dsimp only
  obtain ⟨V2, a7⟩ := q_finest hT2
  rw [a7, Option.bind_some]
  have ex : (mq_fin ζ c g).1 = x3 := by
    rcases a4 with ⟨z, rfl⟩ | ⟨i, rfl, hi⟩
    · subst z; rfl
    · have g0 : 0 < g := by have := hi.2.1; omega
      obtain ⟨i', e1, e2⟩ := mq_fin_lb hT g (Nat.le_refl _) g0
      rw [e1, mq_lb_uniq e2 hi]
  dsimp only
  rw [if_pos ex]
  obtain ⟨V3, a8⟩ := q_mean (mq_T_v (V := V2) hT2)
  rw [a8, Option.bind_some]
  dsimp only
  have hgd : ∀ (v : UInt64), v = (if g = 0 then FP.dconst0 else FP.ddiv (FP.i2d (mg_sum (mq_beauty ζ c) g)) (FP.i2d (nI g))) → isNaN64 v = false := by
    intro v hv
    by_cases z : g = 0
    · rw [hv, if_pos z]; exact hn.1
    · rw [hv, if_neg z]; exact hn.2 _ g (by omega) g6
  have := hgd _ rfl
  rw [show mg_gd (g ≤ 30 ∧ _ = _ ∧ isNaN64 _ = false) = some () from if_pos ⟨by omega, rfl, this⟩]
  rfl
end SN
