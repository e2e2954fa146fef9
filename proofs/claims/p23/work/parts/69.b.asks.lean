section FO
variable {σ : mg_St} {ζ : mg_Sz} {c g p : Nat} {μ : Nat → Nat}
theorem q_chg (hT : mq_Tb 6 2 σ ζ c g p μ) {k : Nat} (hk : k = 2 ∨ k = 7 ∨ k = 10) : f_X6_changingCount σ 6 (nI k) = some (mq_cnt ζ μ c g p k) := by
  obtain ⟨c30, g6, p5⟩ := mq_c30 hT
  have n4 : σ 2 2 = nI c := by obtain ⟨⟨τ, hI, hR⟩, hZ⟩ := hT; exact hI.1.2.2.2.1
  unfold f_X6_changingCount
  rcases hk with h | h | h
  · subst h
    rw [if_pos (show nI 2 = 2 from rfl), ← hT.2.1.2.2.2.2]; rfl
  · subst h
    rw [if_neg (show ¬ nI 7 = 2 by decide), if_pos (show nI 7 = 7 from rfl)]
    unfold f_X4_sizesHere
    rw [k4_sizesHere4 6 n4 c30, Option.bind_some, Option.bind_some]
    show _ = some (mq_sz ζ c)
    refine congrArg some (mg_sum_congr (fun j hj => ?_))
    obtain ⟨-, -, -, -, a5, a6, -⟩ := mq_carpb hT hj
    rw [a5, a6]
  · subst h
    rw [if_neg (show ¬ nI 10 = 2 by decide), if_neg (show ¬ nI 10 = 7 by decide)]
    unfold f_X0_writtenByAll
    rw [k0_writtenByAll4 6, Option.bind_some, Option.bind_some]
    show _ = some (mq_sl ζ p)
    refine congrArg some ?_
    have r5 : ∀ j, p ≤ j → j < 5 → σ (2 * 6 + 12) j = 0 := by obtain ⟨⟨τ, hI, hR⟩, hZ⟩ := hT; exact hR.2.2.2.2
    dsimp only
    rw [mg_sum_tail 5 p5 (fun j h1 h2 => r5 j h1 h2)]
    exact mg_sum_congr (fun j hj => ((hT.2.2.2.2.2 j hj).2).symm)
theorem q_foresee (hT : mq_T σ ζ c g p μ) {k : Nat} (hk : k = 2 ∨ k = 7 ∨ k = 10) : ∃ σ', f_X6_foresee σ 1 (nI k) = some (.ok (mq_cnt (mq_day ζ μ c p) μ c g p k), σ') ∧ mq_T σ' ζ c g p μ := by
  obtain ⟨σ1, b1, b2, b3⟩ := q_become hT
  obtain ⟨σ2, d1, -, d3, d4⟩ := q_day (Or.inr ⟨rfl, rfl⟩) b2
  have e := q_chg d3 hk
  refine ⟨σ2, ?_, mq_T_fr hT (fun a h7 h6 h23 h24 => by rw [d4 a h7 h6 h23 h24, b3 a h6 h23 h24])⟩
  unfold f_X6_foresee f_X6_checkDays
  rw [if_neg (show ¬ (1 : Int32) < 1 by decide), if_pos (show (1 : Int32) ≤ 60 by decide), mg_xb_ok]
  rcases hk with h | h | h
  · subst h
    rw [if_pos (show nI 2 = 2 from rfl), b1, Option.bind_some, d1, Option.bind_some, e, Option.bind_some]
  · subst h
    rw [if_neg (show ¬ nI 7 = 2 by decide), if_pos (show nI 7 = 7 from rfl), b1, Option.bind_some, d1, Option.bind_some, e, Option.bind_some]
  · subst h
    rw [if_neg (show ¬ nI 10 = 2 by decide), if_neg (show ¬ nI 10 = 7 by decide), if_pos (show nI 10 = 10 from rfl), b1, Option.bind_some, d1, Option.bind_some, e, Option.bind_some]
/-- a rock put and taken again leaves all as it was -/
theorem q_bwr (hT : mq_T σ ζ c g p μ) {i j s : Nat} {a3 : Int32} (hi : i < g) (hj : j < 70) (hs : s < 6) (hz : ∃ z, z < 10 ∧ a3 = nI z) (k : σ 8 j = 0) : ∃ v V, f_X6_beautyWithRock σ (nI i) (nI j) (nI s) a3 = some (v, mg_sr σ 7 V) := by
  obtain ⟨⟨τ, hI, hR⟩, hZ⟩ := hT
  obtain ⟨-, -, -, e4⟩ := hI.2.1 j hj
  obtain ⟨e9, e10⟩ := e4 (by rw [k]; decide)
  have hI1 : mg_core (mg_su (mg_su (mg_su σ 8 j 1) 9 j (nI s)) 10 j a3) (mg_su (mg_su (mg_su τ 3 j 1) 4 j (nI s)) 5 j a3) c g p μ := by
    refine mg_core_set (s := nI s) (z := a3) (k := 1) hI hj (by rw [k]; decide) (by decide) ?_ rfl rfl rfl ?_ rfl ?_ ?_ rfl rfl rfl (Or.inr (Or.inl rfl)) ?_ (fun h => absurd rfl h)
    · intro a h1 h2 h3 h4 h5 h6 h7 h8 h9; rw [mg_su_ne h9, mg_su_ne h8, mg_su_ne h7]
    · intro a h1 h2 h3 h4 h5 h6 h7 h8; rw [mg_su_ne h8, mg_su_ne h7, mg_su_ne h6]
    · intro i hi; show (upd (τ 4) j (nI s)) i = τ 4 i; rw [mg_upd, if_neg hi]
    · intro i hi; show (upd (τ 5) j a3) i = τ 5 i; rw [mg_upd, if_neg hi]
    · intro _; refine ⟨?_, ?_, s, hs, rfl, hz⟩
      · show (upd (τ 4) j (nI s)) j = nI s; rw [mg_upd, if_pos rfl]
      · show (upd (τ 5) j a3) j = a3; rw [mg_upd, if_pos rfl]
  have hR1 : mg_crs (mg_su (mg_su (mg_su σ 8 j 1) 9 j (nI s)) 10 j a3) (mg_su (mg_su (mg_su τ 3 j 1) 4 j (nI s)) 5 j a3) 5 1 c p := mg_crs_fr hR rfl rfl rfl rfl rfl rfl
  obtain ⟨V, v1, -⟩ := mg_look (b := 5) (e := 1) hI1.1 hI1.2.1 hI1.2.2.1 hI1.2.2.2.1 (fun j hj => (hR1.2.2.1 j hj).1) hi
  refine ⟨V 3, V, ?_⟩
  unfold f_X6_beautyWithRock f_X1_takeRock
  rw [k6_rockAt hj, Option.bind_some, v1, Option.bind_some]
  dsimp only
  rw [k1_setCell hj, Option.bind_some, Option.bind_some]
  refine congrArg (fun z => some (V 3, z)) ?_
  funext a b
  rw [mg_su_at, mg_su_at, mg_su_at]
  by_cases h10 : a = 10 ∧ b = j
  · rw [if_pos h10, h10.1, h10.2, mg_sr_ne (by decide), e10]
  rw [if_neg h10]
  by_cases h9 : a = 9 ∧ b = j
  · rw [if_pos h9, h9.1, h9.2, mg_sr_ne (by decide), e9]
  rw [if_neg h9]
  by_cases h8 : a = 8 ∧ b = j
  · rw [if_pos h8, h8.1, h8.2, mg_sr_ne (by decide), k]
  rw [if_neg h8]
  by_cases h7 : a = 7
  · subst h7; rw [mg_sr_eq, mg_sr_eq]
  · rw [mg_sr_ne h7, mg_sr_ne h7, mg_su_at, mg_su_at, mg_su_at, if_neg h10, if_neg h9, if_neg h8]
theorem q_adv28 (hT : mq_T σ ζ c g p μ) {i s : Nat} {a3 : Int32} (hi : i < g) (hs : s < 6) (hz : ∃ z, z < 10 ∧ a3 = nI z) : ∀ (n j : Nat) (x4 x5 : Int32) (V : Nat → Int32), j ≤ 70 → 70 < n + j → (x4 = -1 ∨ ∃ q, q < 70 ∧ x4 = nI q ∧ mq_k ζ q = 0) →
    ∃ x4' x5' V', f_X6_advise_28 (nI i) (nI s) a3 n x4 x5 (nI j) (mg_sr σ 7 V) = some (x4', x5', nI 70, mg_sr σ 7 V') ∧ (x4' = -1 ∨ ∃ q, q < 70 ∧ x4' = nI q ∧ mq_k ζ q = 0) := by
  intro n; induction n with
  | zero => intro j x4 x5 V h1 h2; omega
  | succ n ih =>
    intro j x4 x5 V h1 h2 hx
    unfold f_X6_advise_28
    rcases Nat.lt_or_ge j 70 with h | h
    · have hTV := mq_T_v (V := V) hT
      have e8 : mg_sr σ 7 V 8 j = mq_k ζ j := (mq_kk hTV h).symm
      rw [if_neg (mg_lt70 j h).2, k1_isBare h, Option.bind_some, e8, ← nI_succ]
      by_cases k : mq_k ζ j = 0
      · obtain ⟨v, V2, b1⟩ := q_bwr hTV hi h hs hz (by rw [e8]; exact k)
        rw [if_pos k, if_neg (show ¬ (1 : Int32) = 0 by decide), b1, Option.bind_some, mg_sr_sr]
        dsimp only
        by_cases hle : v ≤ x5
        · rw [if_pos hle]; exact ih (j + 1) x4 x5 V2 (by omega) (by omega) hx
        · rw [if_neg hle]; exact ih (j + 1) (nI j) v V2 (by omega) (by omega) (Or.inr ⟨j, h, rfl, k⟩)
      · rw [if_neg k, if_pos rfl]; exact ih (j + 1) x4 x5 V (by omega) (by omega) hx
    · have e : j = 70 := by omega
      subst e
      exact ⟨x4, x5, V, by rw [if_pos mg_70], hx⟩
theorem q_advise (hT : mq_T σ ζ c g p μ) {i s z : Nat} (hi : i < g) (hs : s < 6) (hz : z < 9) : ∃ v V, f_X6_advise σ (nI i) (nI s) (nI (1 + z)) = some (.ok v, mg_sr σ 7 V) ∧ (v = -1 ∨ ∃ q, q < 70 ∧ v = nI q ∧ mq_k ζ q = 0) := by
  obtain ⟨c30, g6, p5⟩ := mq_c30 hT
  have n6 : σ 3 2 = nI g := by obtain ⟨⟨τ, hI, hR⟩, hZ⟩ := hT; exact hI.1.2.2.2.2.2.1
  obtain ⟨V, v1, -⟩ := q_look hT hi
  obtain ⟨x4, x5, V', a1, a2⟩ := q_adv28 hT hi hs ⟨1 + z, by omega, rfl⟩ 5000 0 (-1) (mq_beauty ζ c i) V (by omega) (by omega) (Or.inl rfl)
  rw [nI_0] at a1
  refine ⟨x4, V', ?_, a2⟩
  unfold f_X6_advise f_X6_checkRock
  rw [k6_gate1 n6 (nI_pos (by omega)) (nI_lt hi (by omega)), mg_xb_ok]
  have h1 : ¬ nI s < 0 := nI_pos (by omega)
  have h2 : nI s ≤ 5 := nI_le (b := 5) (by omega) (by omega)
  have h3 : ¬ nI (1 + z) < 1 := nI_nlt (b := 1) (by omega) (by omega)
  have h4 : nI (1 + z) ≤ 9 := nI_le (b := 9) (by omega) (by omega)
  rw [if_neg h1, if_pos h2, if_neg h3, if_pos h4, mg_xb_ok, v1, Option.bind_some]
  dsimp only
  rw [a1, Option.bind_some]
end FO
