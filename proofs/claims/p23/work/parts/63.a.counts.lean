/-! ===== counts ===== -/
def mq_sr (ζ : mg_Sz) : Nat → Int32 := mg_sum (fun q => if mq_k ζ q = 1 then 1 else 0)
def mq_sw (ζ : mg_Sz) : Nat → Int32 := mg_sum (fun q => if mq_k ζ q = 2 then 1 else 0)
def mq_sp (ζ : mg_Sz) (μ : Nat → Nat) : Nat → Int32 := mg_sum (fun q => if mq_k ζ q = 2 ∧ μ q = q then 1 else 0)
def mq_ss (ζ : mg_Sz) : Nat → Int32 := mg_sum (fun j => if ζ.1 3 j 3 = 0 then 1 else 0)
def mq_sz (ζ : mg_Sz) : Nat → Int32 := mg_sum (fun j => if ζ.1 3 j 3 = 0 then ζ.1 3 j 2 else 0)
def mq_sl (ζ : mg_Sz) : Nat → Int32 := mg_sum (fun j => ζ.1 5 j 1)
def mq_moon (ζ : mg_Sz) : Int32 := if ζ.1 0 0 0 - ζ.1 0 0 0 / 8 * 8 = 4 then 1 else 0
def mq_cnt (ζ : mg_Sz) (μ : Nat → Nat) (c g p : Nat) : Nat → Int32 := upd (upd (upd (upd (upd (upd (upd (upd (upd (upd (upd (fun _ => 0) 0 (ζ.1 0 0 0)) 1 (mq_moon ζ)) 2 (ζ.1 0 0 1)) 3 (mq_sr ζ 70)) 4 (mq_sw ζ 70)) 5 (mq_sp ζ μ 70)) 6 (mq_ss ζ c)) 7 (mq_sz ζ c)) 8 (nI g)) 9 (nI p)) 10 (mq_sl ζ p)
section CT
variable {σ : mg_St} {ζ : mg_Sz} {c g p : Nat} {μ : Nat → Nat}
theorem q_count (hT : mq_T σ ζ c g p μ) {k : Nat} (hk : k < 11) : f_X6_count σ (nI k) = some (.ok (mq_cnt ζ μ c g p k), σ) := by
  have hT' := hT
  obtain ⟨⟨τ, hI, hR⟩, ⟨z1, z2, z3, z4, z5⟩, -, -, -, hZp⟩ := hT'
  obtain ⟨hN, hEE, hC, hG, hPo, hA, hM, hP⟩ := hI
  obtain ⟨n1, n2, n3, n4, n5, n6, n7, n8, n9⟩ := hN
  have w1 : f_X0_writtenByAll σ 5 = some (mq_sl ζ p) := by
    unfold f_X0_writtenByAll mq_sl; rw [k0_writtenByAll4 5, Option.bind_some]
    refine congrArg some ?_
    dsimp only
    rw [mg_sum_tail 5 n3 (fun j h1 h2 => hR.2.2.2.2 j h1 h2)]
    exact mg_sum_congr (fun j hj => ((hZp j hj).2).symm)
  have s1 : f_X4_sizesHere σ 5 = some (mq_sz ζ c) := by
    unfold f_X4_sizesHere mq_sz; rw [k4_sizesHere4 5 n4 n1, Option.bind_some]
    refine congrArg some (mg_sum_congr (fun j hj => ?_))
    obtain ⟨-, -, -, -, a5, a6, -⟩ := mq_carp hT hj
    rw [a5, a6]
  have hm : f_X4_manyHere σ = some (mq_ss ζ c) := by
    unfold f_X4_manyHere mq_ss; rw [k4_manyHere4 n4 n1, Option.bind_some]
    refine congrArg some (mg_sum_congr (fun j hj => ?_))
    obtain ⟨-, -, -, -, a5, a6, -⟩ := mq_carp hT hj
    rw [a6]
  have hl : ∀ v, f_X1_manyOf σ v = some (mg_sum (fun q => if mq_k ζ q = v then 1 else 0) 70) := by
    intro v; rw [k1_manyOf]
    exact congrArg some (mg_sum_congr (fun j hj => by rw [show mq_k ζ j = σ 8 j from mq_kk hT hj]))
  have hp : σ 1 8 = mq_sp ζ μ 70 := by
    rw [hP.1]; exact mg_sum_congr (fun j hj => by rw [show mq_k ζ j = σ 8 j from mq_kk hT hj])
  unfold f_X6_count f_X6_checkWhat
  rw [if_neg (nI_pos (by omega)), if_pos (show nI k < 11 from nI_lt (b := 11) hk (by omega)), mg_xb_ok]
  have hmoon : (f_X0_isFullMoon σ 5).bind (fun y3 => if y3 = 0 then some (Except.ok 0, σ) else some (Except.ok 1, σ)) = (some (Except.ok (mq_moon ζ), σ) : Option (Except (Fin 3) Int32 × mg_St)) := by
    unfold f_X0_isFullMoon mq_moon; rw [z4]
    by_cases q : ((σ 5 0) - (σ 5 0) / 8 * 8) = 4
    · rw [if_pos q, if_pos q, Option.bind_some, if_neg (by decide)]
    · rw [if_neg q, if_neg q, Option.bind_some, if_pos rfl]
  have hc2 : f_X6_changingCount σ 5 (nI 2) = some (ζ.1 0 0 1) := by unfold f_X6_changingCount; rw [if_pos (show nI 2 = 2 from rfl), z5]
  have hc7 : f_X6_changingCount σ 5 (nI 7) = some (mq_sz ζ c) := by unfold f_X6_changingCount; rw [if_neg (show ¬ nI 7 = 2 by decide), if_pos (show nI 7 = 7 from rfl), s1]; rfl
  have hc10 : f_X6_changingCount σ 5 (nI 10) = some (mq_sl ζ p) := by unfold f_X6_changingCount; rw [if_neg (show ¬ nI 10 = 2 by decide), if_neg (show ¬ nI 10 = 7 by decide), w1]; rfl
  rw [hmoon, hl, hl, hm, n6, n8, ← z4, hp]
  have : k = 0 ∨ k = 1 ∨ k = 2 ∨ k = 3 ∨ k = 4 ∨ k = 5 ∨ k = 6 ∨ k = 7 ∨ k = 8 ∨ k = 9 ∨ k = 10 := by omega
  rcases this with h | h | h | h | h | h | h | h | h | h | h <;> subst h
  · rfl
  · rfl
  · rw [hc2]; rfl
  · rfl
  · rfl
  · rfl
  · rfl
  · rw [hc7]; rfl
  · rfl
  · rfl
  · rw [hc10]; rfl
theorem k7_c122 {a1 a2 a3 a5 a6 : Int32} {b : Nat} {W : Nat → Nat → Int32} (hb : b < 7) : ∀ (n x : Nat) (O : Nat → Nat → Int32), x ≤ 10 → 10 < n + x → ∃ R, f_X7_counts_122 a1 a2 a3 a5 a6 (nI b) ζ W n (nI x) O = some (nI 10, R) ∧ ∀ b' a', R b' a' = if b' = b ∧ x ≤ a' ∧ a' < 10 then vp_nar .boolean (O b' a' ||| W b' a') else O b' a' := by
  intro n; induction n with
  | zero => intro x O h1 h2; omega
  | succ n ih =>
    intro x O h1 h2
    unfold f_X7_counts_122
    rcases Nat.lt_or_ge x 10 with h | h
    · rw [if_neg (mg_le (N := 10) (M := 10) rfl (by omega) h)]
      simp only [mg_ixn hb (show 7 ≤ 70 by omega), mg_ixn h (show 10 ≤ 70 by omega), Option.bind_some]
      rw [← nI_succ]
      obtain ⟨R, r1, r2⟩ := ih (x + 1) (mg_mu O b x (vp_nar .boolean (O b x ||| W b x))) (by omega) (by omega)
      refine ⟨R, r1, fun b' a' => ?_⟩
      rw [r2, mg_mu_at]
      by_cases e : b' = b ∧ a' = x
      · obtain ⟨rfl, rfl⟩ := e
        rw [if_neg (by omega), if_pos ⟨rfl, rfl⟩, if_pos ⟨rfl, by omega, by omega⟩]
      · rw [if_neg e]
        by_cases f : b' = b ∧ x + 1 ≤ a' ∧ a' < 10
        · rw [if_pos f, if_pos (by omega)]
        · rw [if_neg f, if_neg (by omega)]
    · have e : x = 10 := by omega
      subst e
      rw [if_pos (show (10 : Int32) ≤ nI 10 by decide +kernel)]
      exact ⟨O, rfl, fun b' a' => by rw [if_neg (by omega)]⟩
theorem k7_c112 {a1 a2 a3 a5 a6 : Int32} {W : Nat → Nat → Int32} : ∀ (n y : Nat) (O : Nat → Nat → Int32), y ≤ 7 → 7 < n + y → ∃ R, f_X7_counts_112 a1 a2 a3 a5 a6 ζ W n (nI y) O = some (nI 7, R) ∧ ∀ b' a', R b' a' = if y ≤ b' ∧ b' < 7 ∧ a' < 10 then vp_nar .boolean (O b' a' ||| W b' a') else O b' a' := by
  intro n; induction n with
  | zero => intro y O h1 h2; omega
  | succ n ih =>
    intro y O h1 h2
    unfold f_X7_counts_112
    rcases Nat.lt_or_ge y 7 with h | h
    · rw [if_neg (mg_le (N := 7) (M := 7) rfl (by omega) h)]
      obtain ⟨R1, s1, s2⟩ := k7_c122 (ζ := ζ) (a1 := a1) (a2 := a2) (a3 := a3) (a5 := a5) (a6 := a6) (W := W) h 5000 0 O (by omega) (by omega)
      rw [nI_0] at s1
      rw [s1, Option.bind_some, ← nI_succ]
      obtain ⟨R, r1, r2⟩ := ih (y + 1) R1 (by omega) (by omega)
      refine ⟨R, r1, fun b' a' => ?_⟩
      rw [r2, s2]
      by_cases e : b' = y
      · rw [if_neg (by omega)]
        by_cases f : a' < 10
        · rw [if_pos ⟨e, by omega, f⟩, if_pos (by omega)]
        · rw [if_neg (by omega), if_neg (by omega)]
      · by_cases f : y + 1 ≤ b' ∧ b' < 7 ∧ a' < 10
        · rw [if_pos f, if_neg (by omega), if_pos (by omega)]
        · rw [if_neg f, if_neg (by omega), if_neg (by omega)]
    · have e : y = 7 := by omega
      subst e
      rw [if_pos (show (7 : Int32) ≤ nI 7 by decide +kernel)]
      exact ⟨O, rfl, fun b' a' => by rw [if_neg (by omega)]⟩
/-- the ponds seen before place t -/
def mq_sn (ζ : mg_Sz) (μ : Nat → Nat) (t : Nat) (O : Nat → Nat → Int32) : Prop := ∀ q, q < 70 → O (q / 10) (q % 10) = if mq_k ζ q = 2 ∧ μ q < t then 1 else 0
theorem mq_or : vp_nar .boolean ((0 : Int32) ||| 0) = 0 ∧ vp_nar .boolean ((0 : Int32) ||| 1) = 1 ∧ vp_nar .boolean ((1 : Int32) ||| 0) = 1 ∧ vp_nar .boolean ((1 : Int32) ||| 1) = 1 := by decide
theorem k7_c29 (hM : mg_M (mq_k ζ) μ) {y : Nat} (hy : y < 7) : ∀ (n x : Nat) (O : Nat → Nat → Int32), x ≤ 10 → 10 < n + x → mq_sn ζ μ (10 * y + x) O →
    ∃ R, f_X7_counts_29 (nI y) ζ n (mq_sr ζ (10 * y + x)) (mq_sw ζ (10 * y + x)) (mq_sp ζ μ (10 * y + x)) (nI x) O = some (mq_sr ζ (10 * y + 10), mq_sw ζ (10 * y + 10), mq_sp ζ μ (10 * y + 10), nI 10, R) ∧ mq_sn ζ μ (10 * y + 10) R := by
  intro n; induction n with
  | zero => intro x O h1 h2; omega
  | succ n ih =>
    intro x O h1 h2 hO
    unfold f_X7_counts_29
    rcases Nat.lt_or_ge x 10 with h | h
    · have hq : 10 * y + x < 70 := by omega
      have hd : (10 * y + x) / 10 = y ∧ (10 * y + x) % 10 = x := by omega
      rw [if_neg (mg_le (N := 10) (M := 10) rfl (by omega) h)]
      simp only [mg_ixn hy (show 7 ≤ 70 by omega), mg_ixn h (show 10 ≤ 70 by omega), Option.bind_some]
      have er : (if ζ.1 2 (10 * y + x) 0 = 1 then some 1 else some 0 : Option Int32) = some (if mq_k ζ (10 * y + x) = 1 then 1 else 0) := by split <;> rfl
      rw [er, Option.bind_some, ← nI_succ]
      have nx := fun O' => ih (x + 1) O' (by omega) (by omega)
      rw [← Nat.add_assoc] at nx
      have e1 : mq_sr ζ (10 * y + x + 1) = mq_sr ζ (10 * y + x) + (if mq_k ζ (10 * y + x) = 1 then 1 else 0) := rfl
      have e2 : mq_sw ζ (10 * y + x + 1) = mq_sw ζ (10 * y + x) + (if mq_k ζ (10 * y + x) = 2 then 1 else 0) := rfl
      have e3 : mq_sp ζ μ (10 * y + x + 1) = mq_sp ζ μ (10 * y + x) + (if mq_k ζ (10 * y + x) = 2 ∧ μ (10 * y + x) = 10 * y + x then 1 else 0) := rfl
      rw [e1, e2, e3] at nx
      by_cases k2 : mq_k ζ (10 * y + x) = 2
      · obtain ⟨m1, m2, m3, m4⟩ := hM _ hq k2
        have m0 := mg_M_idem hM hq k2
        have hO0 := hO _ hq
        rw [hd.1, hd.2] at hO0
        rw [if_pos k2] at nx
        rw [if_pos (show ζ.1 2 (10 * y + x) 0 = 2 from k2)]
        by_cases mm : μ (10 * y + x) = 10 * y + x
        · rw [if_neg (by omega)] at hO0
          rw [if_pos (show mq_k ζ (10 * y + x) = 2 ∧ μ (10 * y + x) = 10 * y + x from ⟨k2, mm⟩)] at nx
          rw [if_pos hO0]
          obtain ⟨W, w1, w2⟩ := k7_pond (κ := mq_k ζ) (ζ := ζ) (fun q hq => rfl) hM hq
          rw [hd.1, hd.2] at w1
          rw [w1, Option.bind_some]
          obtain ⟨R1, s1, s2⟩ := k7_c112 (ζ := ζ) (a1 := mq_sr ζ (10 * y + x) + (if mq_k ζ (10 * y + x) = 1 then 1 else 0)) (a2 := mq_sw ζ (10 * y + x) + 1) (a3 := mq_sp ζ μ (10 * y + x) + 1) (a5 := nI y) (a6 := nI x) (W := W) 5000 0 O (by omega) (by omega)
          rw [nI_0] at s1
          rw [s1, Option.bind_some]
          refine nx R1 (fun q hq' => ?_)
          rw [s2, if_pos (by omega), hO q hq', w2 q hq', mm]
          by_cases kq : mq_k ζ q = 2
          · by_cases l1 : μ q < 10 * y + x
            · rw [if_pos ⟨kq, l1⟩, if_neg (show ¬ (mq_k ζ (10 * y + x) = 2 ∧ mq_k ζ q = 2 ∧ μ q = 10 * y + x) from fun d => by have := d.2.2; omega), if_pos ⟨kq, by omega⟩]; exact mq_or.2.2.1
            · rw [if_neg (fun d => l1 d.2)]
              by_cases l2 : μ q = 10 * y + x
              · rw [if_pos ⟨k2, kq, l2⟩, if_pos ⟨kq, by omega⟩]; exact mq_or.2.1
              · rw [if_neg (fun d => l2 d.2.2), if_neg (fun d => by omega)]; exact mq_or.1
          · rw [if_neg (fun d => kq d.1), if_neg (fun d => kq d.2.1), if_neg (fun d => kq d.1)]; exact mq_or.1
        · rw [if_pos ⟨k2, by omega⟩] at hO0
          rw [if_neg (by rw [hO0]; decide)]
          rw [if_neg (show ¬ (mq_k ζ (10 * y + x) = 2 ∧ μ (10 * y + x) = 10 * y + x) from fun d => mm d.2), Int32.add_zero] at nx
          refine nx O (fun q hq' => ?_)
          rw [hO q hq']
          by_cases kq : mq_k ζ q = 2
          · have : μ q ≠ 10 * y + x := by
              intro e
              have := mg_M_idem hM hq' kq
              rw [e] at this; exact mm this
            by_cases l1 : μ q < 10 * y + x
            · rw [if_pos ⟨kq, l1⟩, if_pos ⟨kq, by omega⟩]
            · rw [if_neg (fun d => l1 d.2), if_neg (fun d => by omega)]
          · rw [if_neg (fun d => kq d.1), if_neg (fun d => kq d.1)]
      · rw [if_neg k2, if_neg (show ¬ (mq_k ζ (10 * y + x) = 2 ∧ μ (10 * y + x) = 10 * y + x) from fun d => k2 d.1), Int32.add_zero, Int32.add_zero] at nx
        rw [if_neg (show ¬ ζ.1 2 (10 * y + x) 0 = 2 from k2)]
        refine nx O (fun q hq' => ?_)
        rw [hO q hq']
        by_cases kq : mq_k ζ q = 2
        · have : μ q ≠ 10 * y + x := by
            intro e
            have := (hM q hq' kq).2.1
            rw [e] at this; exact k2 this
          by_cases l1 : μ q < 10 * y + x
          · rw [if_pos ⟨kq, l1⟩, if_pos ⟨kq, by omega⟩]
          · rw [if_neg (fun d => l1 d.2), if_neg (fun d => by omega)]
        · rw [if_neg (fun d => kq d.1), if_neg (fun d => kq d.1)]
    · have e : x = 10 := by omega
      subst e
      rw [if_pos (show (10 : Int32) ≤ nI 10 by decide +kernel)]
      exact ⟨O, rfl, hO⟩
theorem k7_c19 (hM : mg_M (mq_k ζ) μ) : ∀ (n y : Nat) (O : Nat → Nat → Int32), y ≤ 7 → 7 < n + y → mq_sn ζ μ (10 * y) O →
    ∃ R, f_X7_counts_19 ζ n (mq_sr ζ (10 * y)) (mq_sw ζ (10 * y)) (mq_sp ζ μ (10 * y)) (nI y) O = some (mq_sr ζ 70, mq_sw ζ 70, mq_sp ζ μ 70, nI 7, R) := by
  intro n; induction n with
  | zero => intro y O h1 h2; omega
  | succ n ih =>
    intro y O h1 h2 hO
    unfold f_X7_counts_19
    rcases Nat.lt_or_ge y 7 with h | h
    · rw [if_neg (mg_le (N := 7) (M := 7) rfl (by omega) h)]
      obtain ⟨R1, s1, s2⟩ := k7_c29 hM h 11 0 O (by omega) (by omega) hO
      rw [nI_0, Nat.add_zero] at s1
      rw [s1, Option.bind_some, ← nI_succ]
      exact ih (y + 1) R1 (by omega) (by omega) s2
    · have e : y = 7 := by omega
      subst e
      rw [if_pos (show (7 : Int32) ≤ nI 7 by decide +kernel)]
      exact ⟨O, rfl⟩
theorem k7_c192 (hT : mq_T σ ζ c g p μ) {a1 a2 a3 : Int32} : ∀ (n j : Nat), j ≤ c → c < n + j → f_X7_counts_192 a1 a2 a3 (nI c) ζ n (mq_ss ζ j) (mq_sz ζ j) (nI j) = some (mq_ss ζ c, mq_sz ζ c, nI c) := by
  obtain ⟨c30, -, -⟩ := mq_c30 hT
  intro n; induction n with
  | zero => intro j h1 h2; omega
  | succ n ih =>
    intro j h1 h2
    unfold f_X7_counts_192
    rcases Nat.lt_or_ge j c with h | h
    · obtain ⟨-, -, -, -, -, -, s7, -⟩ := mq_carp hT h
      rw [if_neg (nI_ge h (by omega)), hT.2.1.1, mg_ixn h (by omega), Option.bind_some, ← nI_succ]
      have := ih (j + 1) (by omega) (by omega)
      have e1 : mq_ss ζ (j + 1) = mq_ss ζ j + (if ζ.1 3 j 3 = 0 then 1 else 0) := rfl
      have e2 : mq_sz ζ (j + 1) = mq_sz ζ j + (if ζ.1 3 j 3 = 0 then ζ.1 3 j 2 else 0) := rfl
      rw [e1, e2] at this
      rcases s7 with s | s
      · rw [if_pos s, if_pos s] at this
        rw [if_pos s, s, show (1 : Int32) - 0 = 1 by decide]; exact this
      · have s0 : ¬ ζ.1 3 j 3 = 0 := by rw [s]; decide
        rw [if_neg s0, if_neg s0] at this
        rw [if_neg s0, s, show (1 : Int32) - 1 = 0 by decide]; exact this
    · have e : j = c := by omega
      subst e
      rw [if_pos (Int32.le_refl _)]
theorem k7_c260 (hT : mq_T σ ζ c g p μ) {a1 a2 a3 a5 a6 : Int32} : ∀ (n j : Nat), j ≤ p → p < n + j → f_X7_counts_260 a1 a2 a3 a5 a6 (nI p) ζ n (mq_sl ζ j) (nI j) = some (mq_sl ζ p, nI p) := by
  obtain ⟨-, -, p5⟩ := mq_c30 hT
  intro n; induction n with
  | zero => intro j h1 h2; omega
  | succ n ih =>
    intro j h1 h2
    unfold f_X7_counts_260
    rcases Nat.lt_or_ge j p with h | h
    · rw [if_neg (nI_ge h (by omega)), hT.2.1.2.2.1, mg_ixn h (by omega), Option.bind_some, ← nI_succ]
      exact ih (j + 1) (by omega) (by omega)
    · have e : j = p := by omega
      subst e
      rw [if_pos (Int32.le_refl _)]
theorem k7_counts (hT : mq_T σ ζ c g p μ) : f_X7_counts ζ = some (mq_cnt ζ μ c g p) := by
  obtain ⟨c30, g6, p5⟩ := mq_c30 hT
  unfold f_X7_counts
  obtain ⟨R, r1⟩ := k7_c19 (mq_M hT) 8 0 (fun _ _ => 0) (by omega) (by omega) (fun q hq => by rw [if_neg (fun d => by omega)])
  rw [Nat.mul_zero, nI_0, show mq_sr ζ 0 = 0 from rfl, show mq_sw ζ 0 = 0 from rfl, show mq_sp ζ μ 0 = 0 from rfl] at r1
  rw [r1, Option.bind_some]
  have r2 := k7_c192 hT (a1 := mq_sr ζ 70) (a2 := mq_sw ζ 70) (a3 := mq_sp ζ μ 70) 5000 0 (by omega) (by omega)
  rw [nI_0, show mq_ss ζ 0 = 0 from rfl, show mq_sz ζ 0 = 0 from rfl] at r2
  have r3 := k7_c260 hT (a1 := mq_sr ζ 70) (a2 := mq_sw ζ 70) (a3 := mq_sp ζ μ 70) (a5 := mq_ss ζ c) (a6 := mq_sz ζ c) 5000 0 (by omega) (by omega)
  rw [nI_0, show mq_sl ζ 0 = 0 from rfl] at r3
  obtain ⟨⟨e1, e2, e3, -⟩, -⟩ := hT.2
  rw [e1, e2, e3]
  dsimp only
  rw [r2, Option.bind_some]
  dsimp only
  rw [r3, Option.bind_some]
  have hmoon : (if ζ.1 0 0 0 - ζ.1 0 0 0 / 8 * 8 = 4 then some 1 else some 0 : Option Int32) = some (mq_moon ζ) := by unfold mq_moon; split <;> rfl
  rw [hmoon]; rfl
end CT
