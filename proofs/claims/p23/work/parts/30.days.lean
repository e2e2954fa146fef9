theorem mg_line_J {b e c g p j : Nat} {μ : Nat → Nat} {σ τ : mg_St} {v : Int32} {V : Nat → Int32} (hb : mg_be b e) (hJ : mg_J b e c g p μ σ τ) (hj : j < p) : mg_J b e c g p μ (mg_su (mg_sr σ 7 V) (2 * b + 12) j v) (mg_su τ (2 * e + 11) j v) := by
  obtain ⟨hI, ⟨r1, r2, r3, r4, r5⟩, hK⟩ := hJ
  have hp5 : p ≤ 5 := hI.1.2.2.1
  have hb' : b = e + 4 ∧ 1 ≤ e ∧ e ≤ 2 := by unfold mg_be at hb; omega
  refine ⟨mg_core_fr hI (fun a h1 _ _ _ h7 _ => by rw [mg_su_ne (by omega), mg_sr_ne h7]) (fun a h1 _ _ _ _ => mg_su_ne (by omega)) (by rw [mg_su_ne (by omega)]) (by rw [mg_su_ne (by omega)]) (by rw [mg_su_ne (by omega)]), ⟨?_, ?_, ?_, ?_, ?_⟩, ?_⟩
  · rw [mg_su_ne (by omega), mg_su_ne (by omega), mg_sr_ne (by omega)]; exact r1
  · rw [mg_su_ne (by omega), mg_su_ne (by omega), mg_sr_ne (by omega)]; exact r2
  · intro i hi; rw [mg_su_ne (by omega), mg_su_ne (by omega), mg_sr_ne (by omega)]; exact r3 i hi
  · intro i hi
    rw [mg_su_eq, mg_su_eq]
    by_cases e : i = j
    · rw [if_pos e, if_pos e]
    · rw [if_neg e, if_neg e, mg_sr_ne (by omega)]; exact r4 i hi
  · intro i hi hi5; rw [mg_su_eq, if_neg (by omega), mg_sr_ne (by omega)]; exact r5 i hi hi5
  · intro k hk; rw [mg_su_ne (by omega), mg_su_ne (by omega)]; exact hK k hk
theorem mg_poetsL {b e c g p : Nat} {μ : Nat → Nat} {f : Int32} (hb : mg_be b e) : ∀ (n j m : Nat) (acc : Int32) (σ τ : mg_St), mg_J b e c g p μ σ τ → j ≤ p → p < n + j → p < m + j → (f = if ((τ e 0) - (τ e 0) / 8 * 8) = 4 then 2 else 1) →
    ∃ acc' σ' τ', f_X6_letPoetsWrite_18 b f n acc (nI j) σ = some (acc', nI p, σ') ∧ f_X8_day_81 e m acc (nI j) τ = some (acc', nI p, τ') ∧ mg_J b e c g p μ σ' τ' ∧ (∀ a, a ≠ 7 → a ≠ 2 * b + 12 → σ' a = σ a) ∧ (∀ a, a ≠ 2 * e + 11 → τ' a = τ a) := by
  have hb' : b = e + 4 ∧ 1 ≤ e ∧ e ≤ 2 := by unfold mg_be at hb; omega
  intro n; induction n with
  | zero => intro j m acc σ τ hJ h1 h2; omega
  | succ n ih =>
    intro j m acc σ τ hJ h1 h2 h3 hf
    obtain ⟨m, rfl⟩ : ∃ m', m = m' + 1 := ⟨m - 1, by omega⟩
    have hI := hJ.1
    obtain ⟨hN, hE, hC, hG, hPo, hA, hM, hP⟩ := hJ.1
    have hN' := hN
    obtain ⟨n1, n2, n3, n4, n5, n6, n7, n8, n9⟩ := hN'
    unfold f_X6_letPoetsWrite_18 f_X8_day_81
    rw [n8, n9.1]
    rcases Nat.lt_or_ge j p with h | h
    · obtain ⟨i, hi, q1, q2⟩ := hPo j h
      obtain ⟨V, v1, v2, -⟩ := mg_look (b := b) (e := e) hN hE hC hG (fun j hj => (hJ.2.1.2.2.1 j hj).1) hi
      rw [if_neg (nI_ge h (by omega)), if_neg (nI_ge h (by omega)), k3_gateOf n8 n3 h, Option.bind_some, q1, v1, Option.bind_some, k0_addWritten (by omega), Option.bind_some]
      rw [mg_rdn (show j < 5 by omega) (show 5 ≤ 70 by omega), Option.bind_some, q2, v2, Option.bind_some]
      have hsel : (if ((τ e 0) - (τ e 0) / 8 * 8) = 4 then some 2 else some 1 : Option Int32) = some f := by rw [hf]; split <;> rfl
      rw [hsel, Option.bind_some, mg_rdn (show j < 5 by omega) (show 5 ≤ 70 by omega), Option.bind_some, mg_wrn (show j < 5 by omega) (show 5 ≤ 70 by omega), Option.bind_some]
      have hr : mg_sr σ 7 V (2 * b + 12) j = τ (2 * e + 11) j := by rw [mg_sr_ne (by omega)]; exact (hJ.2.1.2.2.2.1 j (by omega)).symm
      show ∃ acc' σ' τ', f_X6_letPoetsWrite_18 b f n (acc + f * (V 3 / 5)) (nI j + 1) (mg_su (mg_sr σ 7 V) (2 * b + 12) j (mg_sr σ 7 V (2 * b + 12) j + f * (V 3 / 5))) = _ ∧ _
      rw [hr, Int32.mul_comm f (V 3 / 5), ← nI_succ]
      obtain ⟨acc', σ', τ', g1, g2, g3, g4, g5⟩ := ih (j + 1) m (acc + V 3 / 5 * f) _ _ (mg_line_J (v := τ (2 * e + 11) j + V 3 / 5 * f) (V := V) hb hJ h) (by omega) (by omega) (by omega) (by rw [mg_su_ne (by omega)]; exact hf)
      exact ⟨acc', σ', τ', g1, g2, g3, fun a h7 ha => by rw [g4 a h7 ha, mg_su_ne ha, mg_sr_ne h7], fun a ha => by rw [g5 a ha, mg_su_ne ha]⟩
    · have e : j = p := by omega
      subst e
      exact ⟨acc, σ, τ, by rw [if_pos (Int32.le_refl _)], by rw [if_pos (Int32.le_refl _)], hJ, fun _ _ _ => rfl, fun _ _ => rfl⟩
theorem mg_day_J {b e c g p : Nat} {μ : Nat → Nat} {σ τ : mg_St} {u v : Int32} (hb : mg_be b e) (hJ : mg_J b e c g p μ σ τ) : mg_J b e c g p μ (mg_su (mg_su σ b 1 u) b 0 v) (mg_su (mg_su τ e 1 u) e 0 v) := by
  obtain ⟨hI, ⟨r1, r2, r3, r4, r5⟩, hK⟩ := hJ
  have hb' : b = e + 4 ∧ 1 ≤ e ∧ e ≤ 2 := by unfold mg_be at hb; omega
  refine ⟨mg_core_fr hI (fun a h1 _ h5 h6 h7 _ => by rw [mg_su_ne (by omega), mg_su_ne (by omega)]) (fun a h1 _ h1' h2' _ => by rw [mg_su_ne (by omega), mg_su_ne (by omega)]) (by rw [mg_su_ne (by omega), mg_su_ne (by omega)]) (by rw [mg_su_ne (by omega), mg_su_ne (by omega)]) (by rw [mg_su_ne (by omega), mg_su_ne (by omega)]), ⟨?_, ?_, ?_, ?_, ?_⟩, ?_⟩
  · simp [mg_su_eq]
  · simp [mg_su_eq]
  · intro i hi; rw [mg_su_ne (by omega), mg_su_ne (by omega), mg_su_ne (by omega), mg_su_ne (by omega)]; exact r3 i hi
  · intro i hi; rw [mg_su_ne (by omega), mg_su_ne (by omega), mg_su_ne (by omega), mg_su_ne (by omega)]; exact r4 i hi
  · intro i hi; rw [mg_su_ne (by omega), mg_su_ne (by omega)]; exact r5 i hi
  · intro k hk; rw [mg_su_ne (by omega), mg_su_ne (by omega), mg_su_ne (by omega), mg_su_ne (by omega)]; exact hK k hk
abbrev mg_fc (b : Nat) (σ σ' : mg_St) : Prop := ∀ a, a ≠ 7 → a ≠ b → a ≠ 2 * b + 11 → a ≠ 2 * b + 12 → σ' a = σ a
abbrev mg_fm (e : Nat) (τ τ' : mg_St) : Prop := ∀ a, a ≠ e → a ≠ 2 * e + 10 → a ≠ 2 * e + 11 → τ' a = τ a
theorem mg_passL {b e c g p D : Nat} {μ : Nat → Nat} (hb : mg_be b e) (hD : D < 1000) : ∀ (n j m : Nat) (acc : Int32) (σ τ : mg_St), mg_J b e c g p μ σ τ → j ≤ D → D < n + j → D < m + j →
    ∃ acc' σ' τ', f_X6_letPass_5 b (nI D) n acc (nI j) σ = some (acc', nI D, σ') ∧ f_X8_days_9 e (nI D) m acc (nI j) τ = some (acc', nI D, τ') ∧ mg_J b e c g p μ σ' τ' ∧ mg_fc b σ σ' ∧ mg_fm e τ τ' := by
  have hb' : b = e + 4 ∧ 1 ≤ e ∧ e ≤ 2 := by unfold mg_be at hb; omega
  intro n; induction n with
  | zero => intro j m acc σ τ hJ h1 h2; omega
  | succ n ih =>
    intro j m acc σ τ hJ h1 h2 h3
    obtain ⟨m, rfl⟩ : ∃ m', m = m' + 1 := ⟨m - 1, by omega⟩
    unfold f_X6_letPass_5 f_X8_days_9
    rcases Nat.lt_or_ge j D with h | h
    · rw [if_neg (nI_ge h (by omega)), if_neg (nI_ge h (by omega))]
      have hc30 : c ≤ 30 := hJ.1.1.1
      have hp5 : p ≤ 5 := hJ.1.1.2.2.1
      obtain ⟨σ1, τ1, a1, a2, a3, a4, a5⟩ := mg_growL hb 5000 0 5000 σ τ hJ (by omega) (by omega) (by omega)
      rw [nI_0] at a1 a2
      obtain ⟨acc1, σ2, τ2, p1, p2, p3, p4, p5⟩ := mg_poetsL (f := if ((τ1 e 0) - (τ1 e 0) / 8 * 8) = 4 then 2 else 1) hb 5000 0 5000 0 σ1 τ1 a3 (by omega) (by omega) (by omega) rfl
      rw [nI_0] at p1 p2
      have hg : f_X6_letCarpsGrow σ b = some σ1 := by unfold f_X6_letCarpsGrow; rw [a1]; rfl
      have hw : f_X6_letPoetsWrite σ1 b = some (acc1, σ2) := by
        unfold f_X6_letPoetsWrite f_X0_isFullMoon
        have hm : σ1 b 0 = τ1 e 0 := a3.2.1.1
        rw [hm]
        by_cases k : ((τ1 e 0) - (τ1 e 0) / 8 * 8) = 4
        · rw [if_pos k] at p1
          rw [if_pos k, Option.bind_some, if_neg (show ¬ (1 : Int32) = 0 by decide), Option.bind_some, p1]; rfl
        · rw [if_neg k] at p1
          rw [if_neg k, Option.bind_some, if_pos rfl, Option.bind_some, p1]; rfl
      have hd : f_X8_day τ e = some (acc1, (mg_su (mg_su τ2 e 1 ((τ2 e 1) + (acc1 / 10))) e 0 (((mg_su τ2 e 1 ((τ2 e 1) + (acc1 / 10))) e 0) + 1))) := by
        unfold f_X8_day; rw [a2, Option.bind_some]; rw [p2]; rfl
      rw [hg, Option.bind_some, hw, Option.bind_some, hd, Option.bind_some, ← nI_succ]
      have e1 : σ2 b 1 = τ2 e 1 := p3.2.1.2.1
      have e0 : σ2 b 0 = τ2 e 0 := p3.2.1.1
      have e0' : mg_su σ2 b 1 (σ2 b 1 + acc1 / 10) b 0 = mg_su τ2 e 1 (τ2 e 1 + acc1 / 10) e 0 := by
        rw [mg_su_eq, mg_su_eq, if_neg (by decide), if_neg (by decide)]; exact e0
      show ∃ acc' σ' τ', f_X6_letPass_5 b (nI D) n (acc + acc1) (nI (j + 1)) (mg_su (mg_su σ2 b 1 (σ2 b 1 + acc1 / 10)) b 0 (mg_su σ2 b 1 (σ2 b 1 + acc1 / 10) b 0 + 1)) = _ ∧ _
      rw [e0', e1]
      obtain ⟨acc', σ', τ', g1, g2, g3, g4, g5⟩ := ih (j + 1) m (acc + acc1) _ _ (mg_day_J (u := τ2 e 1 + acc1 / 10) (v := mg_su τ2 e 1 (τ2 e 1 + acc1 / 10) e 0 + 1) hb p3) (by omega) (by omega) (by omega)
      refine ⟨acc', σ', τ', g1, g2, g3, fun a h7 hab h11 h12 => ?_, fun a hae h10 h11 => ?_⟩
      · rw [g4 a h7 hab h11 h12, mg_su_ne hab, mg_su_ne hab, p4 a h7 h12, a4 a h11]
      · rw [g5 a hae h10 h11, mg_su_ne hae, mg_su_ne hae, p5 a h11, a5 a h10]
    · have e : j = D := by omega
      subst e
      exact ⟨acc, σ, τ, by rw [if_pos (Int32.le_refl _)], by rw [if_pos (Int32.le_refl _)], hJ, fun _ _ _ _ _ => rfl, fun _ _ _ _ => rfl⟩
/-- the model's marks put beside the class's ponds -/
theorem mg_mark {σ τ : mg_St} {c g p : Nat} {μ : Nat → Nat} (hI : mg_core σ τ c g p μ) : ∃ r, f_X8_markPonds τ = some (mg_sr τ 6 r) ∧ mg_mk (mg_sr τ 6 r) μ ∧ mg_core σ (mg_sr τ 6 r) c g p μ := by
  obtain ⟨r, ν, h1, h2, h3⟩ := mg_marks τ
  have hE := hI.2.1
  have hM := hI.2.2.2.2.2.2.1
  have hM' : mg_M (σ 8) ν := mg_M_congr (fun k hk => ((hE k hk).1).symm) h2
  refine ⟨r, h1, ?_, mg_core_fr hI (fun _ _ _ _ _ _ _ => rfl) (fun a _ _ _ _ h6 => mg_sr_ne h6) rfl rfl rfl⟩
  intro k hk
  show r k = if τ 3 k = 2 then nI (μ k) else -1
  rw [h3 k hk]
  by_cases kk : τ 3 k = 2
  · rw [if_pos kk, if_pos kk, mg_M_uniq hM hM' hk (by rw [← (hE k hk).1]; exact kk)]
  · rw [if_neg kk, if_neg kk]
theorem mg_crs_fr {σ τ σ' τ' : mg_St} {b e c p : Nat} (h : mg_crs σ τ b e c p) (h1 : σ' b = σ b) (h2 : σ' (2 * b + 11) = σ (2 * b + 11)) (h3 : σ' (2 * b + 12) = σ (2 * b + 12)) (h4 : τ' e = τ e) (h5 : τ' (2 * e + 10) = τ (2 * e + 10)) (h6 : τ' (2 * e + 11) = τ (2 * e + 11)) : mg_crs σ' τ' b e c p := by
  unfold mg_crs at h ⊢; rw [h1, h2, h3, h4, h5, h6]; exact h
theorem mg_letPass {σ τ : mg_St} {b e c g p D : Nat} {μ : Nat → Nat} (hb : mg_be b e) (hD : D < 1000) (hI : mg_core σ τ c g p μ) (hR : mg_crs σ τ b e c p) :
    ∃ v σ' τ', f_X6_letPass σ b (nI D) = some (v, σ') ∧ f_X8_days τ e (nI D) = some (v, τ') ∧ mg_J b e c g p μ σ' τ' ∧ mg_fc b σ σ' ∧ (∀ a, a ≠ 6 → a ≠ e → a ≠ 2 * e + 10 → a ≠ 2 * e + 11 → τ' a = τ a) := by
  have hb' : b = e + 4 ∧ 1 ≤ e ∧ e ≤ 2 := by unfold mg_be at hb; omega
  obtain ⟨r, h1, h2, h3⟩ := mg_mark hI
  have hJ : mg_J b e c g p μ σ (mg_sr τ 6 r) := ⟨h3, mg_crs_fr hR rfl rfl rfl (mg_sr_ne (by omega)) (mg_sr_ne (by omega)) (mg_sr_ne (by omega)), h2⟩
  obtain ⟨v, σ', τ', g1, g2, g3, g4, g5⟩ := mg_passL (D := D) hb hD 5000 0 5000 0 σ _ hJ (by omega) (by omega) (by omega)
  rw [nI_0] at g1 g2
  refine ⟨v, σ', τ', ?_, ?_, g3, g4, fun a h6 ha1 ha2 ha3 => by rw [g5 a ha1 ha2 ha3, mg_sr_ne h6]⟩
  · unfold f_X6_letPass; rw [g1]; rfl
  · unfold f_X8_days; rw [h1, Option.bind_some, g2]; rfl
