/-! ===== count, pass, foresee ===== -/
theorem mg_sum_tail {f : Nat → Int32} {p : Nat} : ∀ (n : Nat), p ≤ n → (∀ j, p ≤ j → j < n → f j = 0) → mg_sum f n = mg_sum f p := by
  intro n; induction n with
  | zero => intro h _; have : p = 0 := by omega
            subst this; rfl
  | succ n ih =>
    intro h hz
    rcases Nat.lt_or_ge n p with h' | h'
    · have : p = n + 1 := by omega
      subst this; rfl
    · rw [mg_sum_s, ih h' (fun j h1 h2 => hz j h1 (by omega)), hz n h' (by omega), Int32.add_zero]
theorem mg_sizes_eq {σ τ : mg_St} {b e c g p : Nat} {μ : Nat → Nat} (hI : mg_core σ τ c g p μ) (hR : mg_crs σ τ b e c p) : ∃ v, f_X4_sizesHere σ b = some v ∧ f_X8_sizes τ e = some v := by
  obtain ⟨hN, hEE, hC, hG, hPo, hA, hM, hP⟩ := hI
  obtain ⟨n1, n2, n3, n4, n5, n6, n7, n8, n9⟩ := hN
  refine ⟨mg_sum (fun k => if σ 17 k = 0 then σ (2 * b + 11) k else 0) c, ?_, ?_⟩
  · unfold f_X4_sizesHere; rw [k4_sizesHere4 b n4 n1]; rfl
  · unfold f_X8_sizes; rw [k8_sizes4 e n5 n1, Option.bind_some]
    refine congrArg some (mg_sum_congr (fun j hj => ?_))
    obtain ⟨q, c1, c2, c3, c4, -⟩ := hC j hj
    rw [c4, (hR.2.2.1 j hj).1]
theorem mg_written_eq {σ τ : mg_St} {b e c g p : Nat} {μ : Nat → Nat} (hI : mg_core σ τ c g p μ) (hR : mg_crs σ τ b e c p) : ∃ v, f_X0_writtenByAll σ b = some v ∧ f_X8_written τ e = some v := by
  obtain ⟨n1, n2, n3, n4, n5, n6, n7, n8, n9⟩ := hI.1
  refine ⟨mg_sum (fun k => σ (2 * b + 12) k) 5, ?_, ?_⟩
  · unfold f_X0_writtenByAll; rw [k0_writtenByAll4 b]; rfl
  · unfold f_X8_written; rw [k8_written4 e n9.1 n3, Option.bind_some]
    rw [mg_sum_tail 5 n3 (fun j h1 h2 => hR.2.2.2.2 j h1 h2)]
    exact congrArg some (mg_sum_congr (fun j hj => hR.2.2.2.1 j (by omega)))
theorem mg_counted {σ τ : mg_St} {c g p k : Nat} {μ : Nat → Nat} (hI : mg_core σ τ c g p μ) (hR : mg_crs σ τ 5 1 c p) (hK : mg_mk τ μ) (hk : k < 11) :
    ∃ v, f_X6_count σ (nI k) = some (.ok v, σ) ∧ f_X8_counted τ (nI k) = some v := by
  obtain ⟨vs, s1, s2⟩ := mg_sizes_eq hI hR
  obtain ⟨vw, w1, w2⟩ := mg_written_eq hI hR
  obtain ⟨hN, hEE, hC, hG, hPo, hA, hM, hP⟩ := hI
  obtain ⟨n1, n2, n3, n4, n5, n6, n7, n8, n9⟩ := hN
  have e7 : mg_sum (fun k => if τ 6 k = nI k then 1 else 0) 70 = σ 1 8 := by
    rw [hP.1]
    refine mg_sum_congr (fun j hj => ?_)
    rw [hK j hj, (hEE j hj).1]
    by_cases kk : σ 8 j = 2
    · have := (hM j hj kk).1
      rw [if_pos kk]
      by_cases m : μ j = j
      · rw [if_pos (by rw [m]), if_pos ⟨kk, m⟩]
      · rw [if_neg (fun e => m (mg_inj (by omega) (by omega) e)), if_neg (fun c => m c.2)]
    · rw [if_neg kk, if_neg (fun e => mg_m1 j (by omega) e.symm), if_neg (fun c => kk c.1)]
  have e43 : mg_sum (fun k => 1 - τ 8 k) c = mg_sum (fun k => if σ 17 k = 0 then 1 else 0) c := by
    refine mg_sum_congr (fun j hj => ?_)
    obtain ⟨q, c1, c2, c3, c4, c5, -⟩ := hC j hj
    rw [c4]
    rcases c5 with s | s
    · rw [s, if_pos rfl]; decide
    · rw [s, if_neg (by decide)]; decide
  have el : ∀ v, mg_sum (fun k => if τ 3 k = v then 1 else 0) 70 = mg_sum (fun k => if σ 8 k = v then 1 else 0) 70 := fun v => mg_sum_congr (fun j hj => by rw [(hEE j hj).1])
  let T : Nat → Int32 := upd (upd (upd (upd (upd (upd (upd (upd (upd (upd (upd (fun _ => 0) 0 (τ 1 0)) 1 (if ((τ 1 0) - (τ 1 0) / 8 * 8) = 4 then 1 else 0)) 2 (τ 1 1)) 3 (mg_sum (fun k => if σ 8 k = 1 then 1 else 0) 70)) 4 (mg_sum (fun k => if σ 8 k = 2 then 1 else 0) 70)) 5 (σ 1 8)) 6 (mg_sum (fun k => if σ 17 k = 0 then 1 else 0) c)) 7 vs) 8 (nI g)) 9 (nI p)) 10 vw
  refine ⟨T k, ?_, ?_⟩
  · have d0 : σ 5 0 = τ 1 0 := hR.1
    have d1 : σ 5 1 = τ 1 1 := hR.2.1
    unfold f_X6_count f_X6_checkWhat
    rw [if_neg (nI_pos (by omega)), if_pos (show nI k < 11 from nI_lt (b := 11) hk (by omega)), mg_xb_ok]
    have hm : f_X4_manyHere σ = some (mg_sum (fun k => if σ 17 k = 0 then 1 else 0) c) := by unfold f_X4_manyHere; rw [k4_manyHere4 n4 n1]; rfl
    have hmoon : (f_X0_isFullMoon σ 5).bind (fun y3 => if y3 = 0 then some (Except.ok 0, σ) else some (Except.ok 1, σ)) = (some (Except.ok (if ((τ 1 0) - (τ 1 0) / 8 * 8) = 4 then 1 else 0), σ) : Option (Except (Fin 3) Int32 × mg_St)) := by
      unfold f_X0_isFullMoon; rw [d0]
      by_cases q : ((τ 1 0) - (τ 1 0) / 8 * 8) = 4
      · rw [if_pos q, if_pos q, Option.bind_some, if_neg (by decide)]
      · rw [if_neg q, if_neg q, Option.bind_some, if_pos rfl]
    have hc2 : f_X6_changingCount σ 5 (nI 2) = some (τ 1 1) := by unfold f_X6_changingCount; rw [if_pos (show nI 2 = 2 from rfl), d1]
    have hc7 : f_X6_changingCount σ 5 (nI 7) = some vs := by unfold f_X6_changingCount; rw [if_neg (show ¬ nI 7 = 2 by decide), if_pos (show nI 7 = 7 from rfl), s1]; rfl
    have hc10 : f_X6_changingCount σ 5 (nI 10) = some vw := by unfold f_X6_changingCount; rw [if_neg (show ¬ nI 10 = 2 by decide), if_neg (show ¬ nI 10 = 7 by decide), w1]; rfl
    rw [hmoon, k1_manyOf, k1_manyOf, hm, d0, n6, n8]
    have : k = 0 ∨ k = 1 ∨ k = 2 ∨ k = 3 ∨ k = 4 ∨ k = 5 ∨ k = 6 ∨ k = 7 ∨ k = 8 ∨ k = 9 ∨ k = 10 := by omega
    rcases this with h | h | h | h | h | h | h | h | h | h | h <;> subst h
    · rfl
    · rfl
    · rw [hc2]; rfl
    · rfl
    · rfl
    · rfl
    · rfl
    · rw [hc7]; rfl
    · rfl
    · rfl
    · rw [hc10]; rfl
  · unfold f_X8_counted
    have h7 := k8_counted7 (τ := τ) (nI k) 0
    rw [e7] at h7
    have h43 := k8_counted43 (τ := τ) (c := c) (nI k) (σ 1 8) n5 n1
    rw [e43] at h43
    have hl : ∀ v, f_X8_cellsLike τ v = some (mg_sum (fun k => if σ 8 k = v then 1 else 0) 70) := by
      intro v; unfold f_X8_cellsLike; rw [k8_cellsLike14, Option.bind_some]; exact congrArg some (el v)
    rw [h7, Option.bind_some]
    dsimp only
    rw [h43, Option.bind_some, hl, hl, s2, w2]
    have hmoon : (if ((τ 1 0) - (τ 1 0) / 8 * 8) = 4 then some 1 else some 0 : Option Int32) = some (if ((τ 1 0) - (τ 1 0) / 8 * 8) = 4 then 1 else 0) := by split <;> rfl
    rw [hmoon]
    simp only [Option.bind_some]
    rw [n7, n9.1]
    show (mg_rt T 11 (nI k)).bind _ = _
    rw [mg_rtn hk (by omega)]; rfl
theorem sim_count {σ τ : mg_St} (I : mg_Inv σ τ) (x1 : Int32) : ∃ (out : Except (Fin 3) Int32) (σ1 : mg_St) (y : Int32 × mg_St), f_X6_count σ x1 = some (out, σ1) ∧ f_X8_count τ x1 = some y ∧ mg_Inv σ1 y.2 ∧ y.2 0 0 = mg_cd 1 9 9 out ∧ (∀ v, out = .ok v → y.1 = v) ∧ out ≠ .error 1 ∧ out ≠ .error 2 := by
  unfold f_X8_count
  rcases mg_what σ (mg_su τ 0 0 0) x1 (N := 10) (M := 11) (M1 := 10) (by omega) rfl rfl with ⟨w1, w2⟩ | ⟨k, hk, rfl, w1, w2⟩
  · unfold f_X6_count
    rw [w1, mg_xb_err, w2]
    exact ⟨.error 0, σ, _, rfl, rfl, mg_thr (mg_thr I), rfl, (fun v h => by cases h), by simp, by simp⟩
  obtain ⟨c, g, p, μ, hI, hR⟩ := mg_thr (v := 0) I
  obtain ⟨r, m1, m2, m3⟩ := mg_mark hI
  have hR' : mg_crs σ (mg_sr (mg_su τ 0 0 0) 6 r) 5 1 c p := mg_crs_fr hR rfl rfl rfl (mg_sr_ne (by decide)) (mg_sr_ne (by decide)) (mg_sr_ne (by decide))
  obtain ⟨v, v1, v2⟩ := mg_counted m3 hR' m2 hk
  rw [v1, w2, Option.bind_some, if_neg (show ¬ (1 : Int32) = 0 by decide), m1, Option.bind_some, v2]
  exact ⟨.ok v, σ, _, rfl, rfl, ⟨c, g, p, μ, m3, hR'⟩, rfl, (fun u h => by cases h; rfl), by simp, by simp⟩
theorem mg_days (σ τ : mg_St) (x : Int32) : (f_X6_checkDays σ x = some (.error 1, σ) ∧ f_X8_isIn τ x 1 60 = some 0) ∨ (∃ D, D < 1000 ∧ x = nI D ∧ f_X6_checkDays σ x = some (.ok (), σ) ∧ f_X8_isIn τ x 1 60 = some 1) := by
  unfold f_X6_checkDays
  rw [mg_isIn]
  by_cases h1 : x < 1
  · left; rw [if_pos h1, if_neg (fun c => c.1 h1)]; exact ⟨rfl, rfl⟩
  · by_cases h2 : x ≤ 60
    · right
      have h0 : ¬ x < 0 := by intro h; apply h1; grind
      obtain ⟨D, hD, rfl⟩ := nI_of2 (M := 60) (n := 60) (by decide) h0 h2
      exact ⟨D, by omega, rfl, by rw [if_neg h1, if_pos h2], by rw [if_pos ⟨h1, h2⟩]⟩
    · left; rw [if_neg h1, if_neg h2, if_neg (fun c => h2 c.2)]; exact ⟨rfl, rfl⟩
theorem sim_pass {σ τ : mg_St} (I : mg_Inv σ τ) (x1 : Int32) : ∃ (out : Except (Fin 3) Int32) (σ1 : mg_St) (y : Int32 × mg_St), f_X6_pass σ x1 = some (out, σ1) ∧ f_X8_pass τ x1 = some y ∧ mg_Inv σ1 y.2 ∧ y.2 0 0 = mg_cd 9 1 9 out ∧ (∀ v, out = .ok v → y.1 = v) ∧ out ≠ .error 0 ∧ out ≠ .error 2 := by
  unfold f_X6_pass f_X8_pass
  rcases mg_days σ (mg_su τ 0 0 0) x1 with ⟨h1, h2⟩ | ⟨D, hD, rfl, h1, h2⟩
  · rw [h1, mg_xb_err, h2]
    exact ⟨.error 1, σ, _, rfl, rfl, mg_thr (mg_thr I), rfl, (fun v h => by cases h), by simp, by simp⟩
  obtain ⟨c, g, p, μ, hI, hR⟩ := mg_thr (v := 0) I
  obtain ⟨v, σ', τ', q1, q2, q3, q4, q5⟩ := mg_letPass (b := 5) (e := 1) (Or.inl ⟨rfl, rfl⟩) hD hI hR
  rw [h1, mg_xb_ok, h2, Option.bind_some, if_neg (show ¬ (1 : Int32) = 0 by decide), q1, Option.bind_some, q2, Option.bind_some]
  refine ⟨.ok v, σ', _, rfl, rfl, ⟨c, g, p, μ, q3.1, q3.2.1⟩, ?_, (fun u h => by cases h; rfl), by simp, by simp⟩
  show τ' 0 0 = 0
  rw [q5 0 (by decide) (by decide) (by decide) (by decide)]; rfl
theorem k0_bl18 {σ : mg_St} : ∀ (n j : Nat) (r : Nat → Int32), j ≤ 30 → 30 < n + j → (∀ k, k < j → r k = σ 21 k) → ∃ r', f_X0_becomeLike_18 n (nI j) (mg_sr σ 23 r) = some (nI 30, mg_sr σ 23 r') ∧ ∀ k, k < 30 → r' k = σ 21 k := by
  intro n; induction n with
  | zero => intro j r h1 h2; omega
  | succ n ih =>
    intro j r h1 h2 hr
    unfold f_X0_becomeLike_18
    rcases Nat.lt_or_ge j 30 with h | h
    · rw [if_neg (mg_le (N := 30) (M := 30) rfl (by omega) h), mg_rdn h (by omega), Option.bind_some, mg_wrn h (by omega), Option.bind_some, mg_sr_su, mg_sr_ne (by decide), ← nI_succ]
      refine ih (j + 1) _ (by omega) (by omega) (fun k hk => ?_)
      rw [mg_upd]; split
      · rename_i e; rw [e]
      · exact hr k (by omega)
    · have e : j = 30 := by omega
      subst e; exact ⟨r, by rw [if_pos (by decide +kernel)], hr⟩
theorem k0_bl44 {σ : mg_St} : ∀ (n j : Nat) (r : Nat → Int32), j ≤ 5 → 5 < n + j → (∀ k, k < j → r k = σ 22 k) → ∃ r', f_X0_becomeLike_44 n (nI j) (mg_sr σ 24 r) = some (nI 5, mg_sr σ 24 r') ∧ ∀ k, k < 5 → r' k = σ 22 k := by
  intro n; induction n with
  | zero => intro j r h1 h2; omega
  | succ n ih =>
    intro j r h1 h2 hr
    unfold f_X0_becomeLike_44
    rcases Nat.lt_or_ge j 5 with h | h
    · rw [if_neg (mg_le (N := 5) (M := 5) rfl (by omega) h), mg_rdn h (by omega), Option.bind_some, mg_wrn h (by omega), Option.bind_some, mg_sr_su, mg_sr_ne (by decide), ← nI_succ]
      refine ih (j + 1) _ (by omega) (by omega) (fun k hk => ?_)
      rw [mg_upd]; split
      · rename_i e; rw [e]
      · exact hr k (by omega)
    · have e : j = 5 := by omega
      subst e; exact ⟨r, by rw [if_pos (by decide +kernel)], hr⟩
theorem k0_become (σ : mg_St) : ∃ σ', f_X0_becomeLike σ = some σ' ∧ σ' 6 0 = σ 5 0 ∧ σ' 6 1 = σ 5 1 ∧ (∀ j, j < 30 → σ' 23 j = σ 21 j) ∧ (∀ j, j < 5 → σ' 24 j = σ 22 j) ∧ ∀ a, a ≠ 6 → a ≠ 23 → a ≠ 24 → σ' a = σ a := by
  have h0 : ∀ S : mg_St, mg_sr S 23 (S 23) = S := fun S => mg_sr_self
  have h0' : ∀ S : mg_St, mg_sr S 24 (S 24) = S := fun S => mg_sr_self
  unfold f_X0_becomeLike
  generalize hS : mg_su (mg_su σ 6 0 (σ 5 0)) 6 1 ((mg_su σ 6 0 (σ 5 0)) 5 1) = S
  have s6 : S 6 0 = σ 5 0 ∧ S 6 1 = σ 5 1 := by rw [← hS]; exact ⟨rfl, rfl⟩
  have sn : ∀ a, a ≠ 6 → S a = σ a := fun a h => by rw [← hS, mg_su_ne h, mg_su_ne h]
  obtain ⟨r, r1, r2⟩ := k0_bl18 (σ := S) 5000 0 (S 23) (by omega) (by omega) (fun k hk => by omega)
  rw [h0, nI_0] at r1
  obtain ⟨t, t1, t2⟩ := k0_bl44 (σ := mg_sr S 23 r) 5000 0 (mg_sr S 23 r 24) (by omega) (by omega) (fun k hk => by omega)
  rw [h0', nI_0] at t1
  rw [r1, Option.bind_some]
  dsimp only
  rw [t1, Option.bind_some]
  dsimp only
  refine ⟨_, rfl, ?_, ?_, ?_, ?_, ?_⟩
  · rw [mg_sr_ne (by decide), mg_sr_ne (by decide)]; exact s6.1
  · rw [mg_sr_ne (by decide), mg_sr_ne (by decide)]; exact s6.2
  · intro j hj; rw [mg_sr_ne (by decide), mg_sr_eq, r2 j hj, sn 21 (by decide)]
  · intro j hj; rw [mg_sr_eq, t2 j hj, mg_sr_ne (by decide), sn 22 (by decide)]
  · intro a h6 h23 h24; rw [mg_sr_ne h24, mg_sr_ne h23, sn a h6]
theorem k7_become (τ : mg_St) : ∃ τ', f_X7_become τ = some τ' ∧ τ' 2 0 = τ 1 0 ∧ τ' 2 1 = τ 1 1 ∧ (∀ j, j < 30 → τ' 14 j = τ 12 j) ∧ (∀ j, j < 5 → τ' 15 j = τ 13 j) ∧ ∀ a, a ≠ 2 → a ≠ 14 → a ≠ 15 → τ' a = τ a := by
  unfold f_X7_become
  refine ⟨_, rfl, ?_, ?_, ?_, ?_, ?_⟩
  · rw [mg_sr_ne (by decide), mg_sr_ne (by decide)]; rfl
  · rw [mg_sr_ne (by decide), mg_sr_ne (by decide)]; rfl
  · intro j hj; rw [mg_sr_ne (by decide), mg_sr_eq]; unfold va_cpy; rw [if_pos ⟨by omega, by omega⟩]
    rw [mg_su_ne (by decide), mg_su_ne (by decide)]; congr 1; omega
  · intro j hj; rw [mg_sr_eq]; unfold va_cpy; rw [if_pos ⟨by omega, by omega⟩, mg_sr_ne (by decide), mg_su_ne (by decide), mg_su_ne (by decide)]; congr 1; omega
  · intro a h2 h14 h15; rw [mg_sr_ne h15, mg_sr_ne h14, mg_su_ne h2, mg_su_ne h2]
/-- what is foreseen -/
theorem mg_fore {σ τ : mg_St} {c g p D : Nat} {μ : Nat → Nat} (hD : D < 1000) (hI : mg_core σ τ c g p μ) (hR : mg_crs σ τ 5 1 c p) : ∃ σ1 τ1 v σ' τ', f_X0_becomeLike σ = some σ1 ∧ f_X7_become τ = some τ1 ∧ f_X6_letPass σ1 6 (nI D) = some (v, σ') ∧ f_X8_days τ1 2 (nI D) = some (v, τ') ∧ mg_core σ' τ' c g p μ ∧ mg_crs σ' τ' 6 2 c p ∧ mg_crs σ' τ' 5 1 c p ∧ τ' 0 = τ 0 := by
  obtain ⟨σ1, a1, a2, a3, a4, a5, a6⟩ := k0_become σ
  obtain ⟨τ1, b1, b2, b3, b4, b5, b6⟩ := k7_become τ
  have hc30 : c ≤ 30 := hI.1.1
  have hI1 : mg_core σ1 τ1 c g p μ := mg_core_fr hI (fun a h _ _ h6 _ _ => a6 a h6 (by omega) (by omega)) (fun a h _ _ h2 _ => b6 a h2 (by omega) (by omega)) (by rw [b6 0 (by decide) (by decide) (by decide)]) (by rw [b6 0 (by decide) (by decide) (by decide)]) (by rw [b6 0 (by decide) (by decide) (by decide)])
  have hR1 : mg_crs σ1 τ1 5 1 c p := mg_crs_fr hR (a6 5 (by decide) (by decide) (by decide)) (a6 _ (by decide) (by decide) (by decide)) (a6 _ (by decide) (by decide) (by decide)) (b6 1 (by decide) (by decide) (by decide)) (b6 _ (by decide) (by decide) (by decide)) (b6 _ (by decide) (by decide) (by decide))
  have hR2 : mg_crs σ1 τ1 6 2 c p := by
    obtain ⟨r1, r2, r3, r4, r5⟩ := hR
    refine ⟨by rw [a2, b2]; exact r1, by rw [a3, b3]; exact r2, ?_, ?_, ?_⟩
    · intro j hj
      show τ1 14 j = σ1 23 j ∧ ∃ z, 1 ≤ z ∧ z ≤ 40 ∧ σ1 23 j = nI z
      rw [a4 j (by omega), b4 j (by omega)]; exact r3 j hj
    · intro j hj
      show τ1 15 j = σ1 24 j
      rw [a5 j hj, b5 j hj]; exact r4 j hj
    · intro j h1 h2
      show σ1 24 j = 0
      rw [a5 j h2]; exact r5 j h1 h2
  obtain ⟨v, σ', τ', q1, q2, q3, q4, q5⟩ := mg_letPass (b := 6) (e := 2) (Or.inr ⟨rfl, rfl⟩) hD hI1 hR2
  refine ⟨σ1, τ1, v, σ', τ', a1, b1, q1, q2, q3.1, q3.2.1, ?_, ?_⟩
  · exact mg_crs_fr hR1 (q4 5 (by decide) (by decide) (by decide) (by decide)) (q4 _ (by decide) (by decide) (by decide) (by decide)) (q4 _ (by decide) (by decide) (by decide) (by decide)) (q5 1 (by decide) (by decide) (by decide) (by decide)) (q5 _ (by decide) (by decide) (by decide) (by decide)) (q5 _ (by decide) (by decide) (by decide) (by decide))
  · rw [q5 0 (by decide) (by decide) (by decide) (by decide), b6 0 (by decide) (by decide) (by decide)]
theorem sim_foresee {σ τ : mg_St} (I : mg_Inv σ τ) (x1 x2 : Int32) : ∃ (out : Except (Fin 3) Int32) (σ1 : mg_St) (y : Int32 × mg_St), f_X6_foresee σ x1 x2 = some (out, σ1) ∧ f_X8_foresee τ x1 x2 = some y ∧ mg_Inv σ1 y.2 ∧ y.2 0 0 = mg_cd 2 1 9 out ∧ (∀ v, out = .ok v → y.1 = v) ∧ out ≠ .error 2 := by
  unfold f_X6_foresee f_X8_foresee
  rcases mg_days σ (mg_su τ 0 0 0) x1 with ⟨h1, h2⟩ | ⟨D, hD, rfl, h1, h2⟩
  · rw [h1, mg_xb_err, h2]
    exact ⟨.error 1, σ, _, rfl, rfl, mg_thr (mg_thr I), rfl, (fun v h => by cases h), by simp⟩
  have I' := I
  obtain ⟨c, g, p, μ, hI, hR⟩ := mg_thr (v := 0) I
  obtain ⟨σ1, τ1, v, σ', τ', q1, q2, q3, q4, q5, q6, q7, q8⟩ := mg_fore hD hI hR
  have h00 : τ' 0 0 = 0 := by rw [q8]; rfl
  have hInv : mg_Inv σ' τ' := ⟨c, g, p, μ, q5, q7⟩
  rw [h1, mg_xb_ok, h2, Option.bind_some, if_neg (show ¬ (1 : Int32) = 0 by decide), q1, q2]
  simp only [Option.bind_some, q3, q4]
  unfold f_X6_changingCount
  by_cases k2 : x2 = 2
  · rw [if_pos k2, if_pos k2, if_pos k2, if_pos k2]
    exact ⟨.ok _, σ', _, rfl, rfl, hInv, h00, (fun u h => by cases h; exact q6.2.1.symm), by simp⟩
  rw [if_neg k2, if_neg k2]
  by_cases k7 : x2 = 7
  · obtain ⟨s, s1, s2⟩ := mg_sizes_eq q5 q6
    rw [if_pos k7, if_pos k7, if_neg k2, if_pos k7, if_neg k2, if_pos k7, s1, s2]
    exact ⟨.ok s, σ', _, rfl, rfl, hInv, h00, (fun u h => by cases h; rfl), by simp⟩
  rw [if_neg k7, if_neg k7]
  by_cases k10 : x2 = 10
  · obtain ⟨s, s1, s2⟩ := mg_written_eq q5 q6
    rw [if_pos k10, if_pos k10, if_neg k2, if_neg k7, if_neg k2, if_neg k7, s1, s2]
    exact ⟨.ok s, σ', _, rfl, rfl, hInv, h00, (fun u h => by cases h; rfl), by simp⟩
  rw [if_neg k10, if_neg k10]
  refine ⟨.error 0, σ, (0, mg_su (mg_su τ 0 0 0) 0 0 2), rfl, ?_, mg_thr (mg_thr I'), rfl, (fun v h => by cases h), by simp⟩
  rw [if_neg k2, if_neg k7]
  rfl
