/-! ===== about, invite, lead, lines, count, pass, foresee ===== -/
theorem mg_core_v {σ τ : mg_St} {c g p : Nat} {μ : Nat → Nat} {V : Nat → Int32} (h : mg_core σ τ c g p μ) : mg_core (mg_sr σ 7 V) τ c g p μ :=
  mg_core_fr h (fun a _ _ _ _ h7 _ => mg_sr_ne h7) (fun _ _ _ _ _ _ => rfl) rfl rfl rfl
theorem mg_crs_v {σ τ : mg_St} {c p : Nat} {V : Nat → Int32} (h : mg_crs σ τ 5 1 c p) : mg_crs (mg_sr σ 7 V) τ 5 1 c p :=
  mg_crs_fr h (mg_sr_ne (by decide)) (mg_sr_ne (by decide)) (mg_sr_ne (by decide)) rfl rfl rfl
theorem mg_gateTold {σ τ : mg_St} {c g p i k : Nat} {μ : Nat → Nat} (hI : mg_core σ τ c g p μ) (hR : mg_crs σ τ 5 1 c p) (hi : i < g) (hk : k < 5) :
    ∃ v V, f_X6_about σ (nI i) (nI k) = some (.ok v, mg_sr σ 7 V) ∧ f_X8_gateTold τ (nI i) (nI k) = some v := by
  obtain ⟨hN, hEE, hC, hG, hPo, hA, hM, hP⟩ := hI
  have hN' := hN
  obtain ⟨n1, n2, n3, n4, n5, n6, n7, n8, n9⟩ := hN'
  obtain ⟨V, v1, v2, v3, v4, v5⟩ := mg_look (b := 5) (e := 1) hN hEE hC hG (fun j hj => (hR.2.2.1 j hj).1) hi
  have hm : f_X3_manyAt (mg_sr σ 7 V) (nI i) = some (mg_sum (fun k => if τ 11 k = nI i then 1 else 0) p) := by
    unfold f_X3_manyAt
    rw [k3_manyAt4 (σ := mg_sr σ 7 V) (p := p) (nI i) n8 n3, Option.bind_some]
    refine congrArg some (mg_sum_congr (fun j hj => ?_))
    obtain ⟨q, q1, q2, q3⟩ := hPo j hj
    have e : mg_sr σ 7 V 20 j = τ 11 j := by rw [mg_sr_ne (by decide), q2, q3]
    rw [e]
  refine ⟨if k = 0 then V 0 else if k = 1 then V 1 else if k = 2 then V 2 else if k = 3 then V 3 else mg_sum (fun k => if τ 11 k = nI i then 1 else 0) p, V, ?_, ?_⟩
  · unfold f_X6_about f_X6_checkGate f_X6_checkWhat
    rw [n6, if_neg (nI_pos (by omega)), if_pos (nI_lt hi (by omega)), mg_xb_ok, if_neg (nI_pos (by omega)), if_pos (show nI k < 5 from nI_lt (b := 5) hk (by omega)), mg_xb_ok, v1, Option.bind_some]
    dsimp only
    rw [hm]
    have : k = 0 ∨ k = 1 ∨ k = 2 ∨ k = 3 ∨ k = 4 := by omega
    rcases this with h | h | h | h | h <;> subst h <;> rfl
  · unfold f_X8_gateTold
    rw [k8_gateTold5 (τ := τ) (p := p) (nI i) (nI k) n9.1 n3, Option.bind_some, v2, v3, v4, v5]
    have : k = 0 ∨ k = 1 ∨ k = 2 ∨ k = 3 ∨ k = 4 := by omega
    rcases this with h | h | h | h | h <;> subst h <;> rfl
theorem sim_about {σ τ : mg_St} (I : mg_Inv σ τ) (x1 x2 : Int32) : ∃ (out : Except (Fin 3) Int32) (σ1 : mg_St) (y : Int32 × mg_St), f_X6_about σ x1 x2 = some (out, σ1) ∧ f_X8_about τ x1 x2 = some y ∧ mg_Inv σ1 y.2 ∧ y.2 0 0 = mg_cd 1 9 9 out ∧ (∀ v, out = .ok v → y.1 = v) ∧ out ≠ .error 1 ∧ out ≠ .error 2 := by
  unfold f_X8_about
  have I' := I
  obtain ⟨c, g, p, μ, hI, hR⟩ := mg_thr (v := 0) I
  obtain ⟨n1, n2, n3, n4, n5, n6, n7, n8, n9⟩ := hI.1
  have hg : ∀ x, f_X8_isGate (mg_su τ 0 0 0) x = f_X8_isIn (mg_su τ 0 0 0) x 0 (nI g - 1) := by
    intro x; unfold f_X8_isGate; rw [n7, mg_isIn]; rfl
  rw [hg]
  rcases mg_idx (mg_su τ 0 0 0) x1 (c := g) (by omega) with ⟨h1, h2⟩ | ⟨i, hi, rfl, h0, h1, h2⟩
  · have hx : f_X6_checkGate σ x1 = some (.error 0, σ) := by
      unfold f_X6_checkGate; rw [n6]; rcases h1 with h | ⟨h, h'⟩
      · rw [if_pos h]
      · rw [if_neg h, if_neg h']
    unfold f_X6_about
    rw [hx, mg_xb_err, h2]
    exact ⟨.error 0, σ, _, rfl, rfl, mg_thr (mg_thr I'), rfl, (fun v h => by cases h), by simp, by simp⟩
  rw [h2, Option.bind_some, if_neg (show ¬ (1 : Int32) = 0 by decide)]
  rcases mg_what σ (mg_su τ 0 0 0) x2 (N := 4) (M := 5) (M1 := 4) (by omega) rfl rfl with ⟨w1, w2⟩ | ⟨k, hk, rfl, w1, w2⟩
  · unfold f_X6_about f_X6_checkGate
    rw [n6, if_neg h0, if_pos h1, mg_xb_ok, w1, mg_xb_err, w2]
    exact ⟨.error 0, σ, _, rfl, rfl, mg_thr (mg_thr I'), rfl, (fun v h => by cases h), by simp, by simp⟩
  obtain ⟨v, V, v1, v2⟩ := mg_gateTold hI hR hi hk
  rw [v1, w2, Option.bind_some, if_neg (show ¬ (1 : Int32) = 0 by decide), v2]
  exact ⟨.ok v, _, _, rfl, rfl, ⟨c, g, p, μ, mg_core_v hI, mg_crs_v hR⟩, rfl, (fun u h => by cases h; rfl), by simp, by simp⟩
theorem k6_gate0 {σ : mg_St} {x : Int32} {c : Nat} (hc : σ 3 2 = nI c) (h : x < 0 ∨ (¬ x < 0 ∧ ¬ x < nI c)) : f_X6_checkGate σ x = some (.error 0, σ) := by
  unfold f_X6_checkGate; rw [hc]; rcases h with h | ⟨h, h'⟩
  · rw [if_pos h]
  · rw [if_neg h, if_neg h']
theorem k6_gate1 {σ : mg_St} {x : Int32} {c : Nat} (hc : σ 3 2 = nI c) (h : ¬ x < 0) (h' : x < nI c) : f_X6_checkGate σ x = some (.ok (), σ) := by
  unfold f_X6_checkGate; rw [hc, if_neg h, if_pos h']
theorem k6_poet0 {σ : mg_St} {x : Int32} {c : Nat} (hc : σ 4 1 = nI c) (h : x < 0 ∨ (¬ x < 0 ∧ ¬ x < nI c)) : f_X6_checkPoet σ x = some (.error 0, σ) := by
  unfold f_X6_checkPoet; rw [hc]; rcases h with h | ⟨h, h'⟩
  · rw [if_pos h]
  · rw [if_neg h, if_neg h']
theorem k6_poet1 {σ : mg_St} {x : Int32} {c : Nat} (hc : σ 4 1 = nI c) (h : ¬ x < 0) (h' : x < nI c) : f_X6_checkPoet σ x = some (.ok (), σ) := by
  unfold f_X6_checkPoet; rw [hc, if_neg h, if_pos h']
theorem k8_isGate {τ : mg_St} {g : Nat} {x : Int32} (h : τ 0 8 = nI g) : f_X8_isGate τ x = f_X8_isIn τ x 0 (nI g - 1) := by
  unfold f_X8_isGate; rw [h, mg_isIn]; rfl
theorem k8_isPoet {τ : mg_St} {g : Nat} {x : Int32} (h : τ 0 11 = nI g) : f_X8_isPoet τ x = f_X8_isIn τ x 0 (nI g - 1) := by
  unfold f_X8_isPoet; rw [h, mg_isIn]; rfl
theorem sim_invite {σ τ : mg_St} (I : mg_Inv σ τ) (x1 : Int32) : ∃ (out : Except (Fin 3) Int32) (σ1 : mg_St) (y : Int32 × mg_St), f_X6_invite σ x1 = some (out, σ1) ∧ f_X8_invite τ x1 = some y ∧ mg_Inv σ1 y.2 ∧ y.2 0 0 = mg_cd 1 9 2 out ∧ (∀ v, out = .ok v → y.1 = v) ∧ out ≠ .error 1 := by
  unfold f_X6_invite f_X8_invite
  have I' := I
  obtain ⟨c, g, p, μ, hI, hR⟩ := I
  obtain ⟨hN, hEE, hC, hG, hPo, hA, hM, hP⟩ := hI
  obtain ⟨n1, n2, n3, n4, n5, n6, n7, n8, n9⟩ := hN
  have m08 : mg_su τ 0 0 0 0 8 = nI g := n7
  rw [k8_isGate m08]
  rcases mg_idx (mg_su τ 0 0 0) x1 (c := g) (by omega) with ⟨h1, h2⟩ | ⟨i, hi, rfl, h0, h1, h2⟩
  · rw [k6_gate0 n6 h1, mg_xb_err, h2]
    exact ⟨.error 0, σ, _, rfl, rfl, mg_thr (mg_thr I'), rfl, (fun v h => by cases h), by simp⟩
  have m11 : mg_su τ 0 0 0 0 11 = nI p := n9.1
  rw [k6_gate1 n6 h0 h1, mg_xb_ok, h2, Option.bind_some, if_neg (show ¬ (1 : Int32) = 0 by decide), n8, m11]
  by_cases hp : p < 5
  · rw [if_pos (show nI p < 5 from nI_lt (b := 5) hp (by omega)), if_neg (show ¬ nI p = 5 from fun e => by have := mg_inj (b := 5) (by omega) (by omega) e; omega)]
    have hadd : f_X3_add σ (nI i) = some (nI p, mg_su (mg_su σ 20 p (nI i)) 4 1 (nI p + 1)) := by
      unfold f_X3_add
      rw [n8, if_neg (nI_pos (by omega)), if_neg (mg_le (M := 5) (N := 5) rfl (by omega) hp), mg_wrn hp (by omega), Option.bind_some]
      have : mg_su σ 20 p (nI i) 4 1 = nI p := n8
      rw [this]
    rw [hadd, Option.bind_some, mg_wrn hp (by omega), Option.bind_some]
    have e11 : mg_su (mg_su τ 0 0 0) 11 p (nI i) 0 11 = nI p := n9.1
    rw [e11]
    dsimp only
    refine ⟨.ok _, _, _, rfl, rfl, ⟨c, g, p + 1, μ, ⟨?_, hEE, hC, hG, ?_, hA, hM, mg_pnd_congr2 (fun k hk => by rw [mg_su_ne (by decide), mg_su_ne (by decide)]) (by rw [mg_su_ne (by decide), mg_su_ne (by decide)]) (by rw [mg_su_ne (by decide), mg_su_ne (by decide)]) (by rw [mg_su_ne (by decide), mg_su_ne (by decide)]) (by rw [mg_su_ne (by decide), mg_su_ne (by decide)]) (by rw [mg_su_ne (by decide), mg_su_ne (by decide)]) hP⟩, ?_⟩, rfl, ?_, by simp⟩
    · exact ⟨n1, n2, by omega, n4, n5, n6, n7, nI_1 p, nI_1 p, n9.2⟩
    · intro j hj
      rcases Nat.lt_or_ge j p with h | h
      · obtain ⟨q, q1, q2, q3⟩ := hPo j h
        refine ⟨q, q1, ?_, ?_⟩
        · show upd (σ 20) p (nI i) j = _; rw [mg_upd, if_neg (by omega)]; exact q2
        · show upd (τ 11) p (nI i) j = _; rw [mg_upd, if_neg (by omega)]; exact q3
      · have e : j = p := by omega
        subst e
        refine ⟨i, hi, ?_, ?_⟩
        · show upd (σ 20) j (nI i) j = _; rw [mg_upd, if_pos rfl]
        · show upd (τ 11) j (nI i) j = _; rw [mg_upd, if_pos rfl]
    · obtain ⟨a1, a2, a3, a4, a5⟩ := hR
      exact ⟨a1, a2, a3, a4, fun j h1 h2 => a5 j (by omega) h2⟩
    · intro v hv; cases hv
      show nI p + 1 - 1 = nI p
      grind
  · have e : p = 5 := by omega
    subst e
    rw [if_neg (show ¬ nI 5 < 5 by decide), if_pos (show nI 5 = 5 from rfl)]
    exact ⟨.error 2, σ, _, rfl, rfl, mg_thr (mg_thr I'), rfl, (fun v h => by cases h), by simp⟩
theorem sim_lead {σ τ : mg_St} (I : mg_Inv σ τ) (x1 x2 : Int32) : ∃ (out : Except (Fin 3) Int32) (σ1 : mg_St) (y : Int32 × mg_St), f_X6_lead σ x1 x2 = some (out, σ1) ∧ f_X8_lead τ x1 x2 = some y ∧ mg_Inv σ1 y.2 ∧ y.2 0 0 = mg_cd 1 9 9 out ∧ (∀ v, out = .ok v → y.1 = v) ∧ out ≠ .error 1 ∧ out ≠ .error 2 := by
  unfold f_X6_lead f_X8_lead
  have I' := I
  obtain ⟨c, g, p, μ, hI, hR⟩ := I
  obtain ⟨hN, hEE, hC, hG, hPo, hA, hM, hP⟩ := hI
  obtain ⟨n1, n2, n3, n4, n5, n6, n7, n8, n9⟩ := hN
  have m08 : mg_su τ 0 0 0 0 8 = nI g := n7
  have m11 : mg_su τ 0 0 0 0 11 = nI p := n9.1
  rw [k8_isGate m08, k8_isPoet m11]
  rcases mg_idx (mg_su τ 0 0 0) x1 (c := p) (by omega) with ⟨h1, h2⟩ | ⟨j, hj, rfl, h0, h1, h2⟩
  · rw [k6_poet0 n8 h1, mg_xb_err, h2]
    exact ⟨.error 0, σ, _, rfl, rfl, mg_thr (mg_thr I'), rfl, (fun v h => by cases h), by simp, by simp⟩
  rw [k6_poet1 n8 h0 h1, mg_xb_ok, h2, Option.bind_some, if_neg (show ¬ (1 : Int32) = 0 by decide)]
  rcases mg_idx (mg_su τ 0 0 0) x2 (c := g) (by omega) with ⟨g1, g2⟩ | ⟨i, hi, rfl, g0, g1, g2⟩
  · rw [k6_gate0 n6 g1, mg_xb_err, g2]
    exact ⟨.error 0, σ, _, rfl, rfl, mg_thr (mg_thr I'), rfl, (fun v h => by cases h), by simp, by simp⟩
  obtain ⟨q, q1, q2, q3⟩ := hPo j hj
  have q3' : mg_su τ 0 0 0 11 j = nI q := q3
  rw [k6_gate1 n6 g0 g1, mg_xb_ok, g2, Option.bind_some, if_neg (show ¬ (1 : Int32) = 0 by decide), k3_gateOf n8 n3 hj, Option.bind_some, k3_setGate n8 n3 hj, Option.bind_some, mg_rdn (show j < 5 by omega) (by omega), Option.bind_some, mg_wrn (show j < 5 by omega) (by omega), Option.bind_some, q2, q3']
  refine ⟨.ok _, _, _, rfl, rfl, ⟨c, g, p, μ, ⟨⟨n1, n2, n3, n4, n5, n6, n7, n8, n9⟩, hEE, hC, hG, ?_, hA, hM, mg_pnd_congr2 (fun k hk => by rw [mg_su_ne (by decide)]) (by rw [mg_su_ne (by decide)]) (by rw [mg_su_ne (by decide)]) (by rw [mg_su_ne (by decide)]) (by rw [mg_su_ne (by decide)]) (by rw [mg_su_ne (by decide)]) hP⟩, hR⟩, rfl, (fun u h => by cases h; rfl), by simp, by simp⟩
  intro k hk
  obtain ⟨r, r1, r2, r3⟩ := hPo k hk
  by_cases e : k = j
  · subst e
    refine ⟨i, hi, ?_, ?_⟩
    · show upd (σ 20) k (nI i) k = _; rw [mg_upd, if_pos rfl]
    · show upd (τ 11) k (nI i) k = _; rw [mg_upd, if_pos rfl]
  · refine ⟨r, r1, ?_, ?_⟩
    · show upd (σ 20) j (nI i) k = _; rw [mg_upd, if_neg e]; exact r2
    · show upd (τ 11) j (nI i) k = _; rw [mg_upd, if_neg e]; exact r3
theorem sim_lines {σ τ : mg_St} (I : mg_Inv σ τ) (x1 : Int32) : ∃ (out : Except (Fin 3) Int32) (σ1 : mg_St) (y : Int32 × mg_St), f_X6_lines σ x1 = some (out, σ1) ∧ f_X8_lines τ x1 = some y ∧ mg_Inv σ1 y.2 ∧ y.2 0 0 = mg_cd 1 9 9 out ∧ (∀ v, out = .ok v → y.1 = v) ∧ out ≠ .error 1 ∧ out ≠ .error 2 := by
  unfold f_X6_lines f_X8_lines
  have I' := I
  obtain ⟨c, g, p, μ, hI, hR⟩ := I
  obtain ⟨n1, n2, n3, n4, n5, n6, n7, n8, n9⟩ := hI.1
  have m11 : mg_su τ 0 0 0 0 11 = nI p := n9.1
  rw [k8_isPoet m11]
  rcases mg_idx (mg_su τ 0 0 0) x1 (c := p) (by omega) with ⟨h1, h2⟩ | ⟨j, hj, rfl, h0, h1, h2⟩
  · rw [k6_poet0 n8 h1, mg_xb_err, h2]
    exact ⟨.error 0, σ, _, rfl, rfl, mg_thr (mg_thr I'), rfl, (fun v h => by cases h), by simp, by simp⟩
  have e : mg_su τ 0 0 0 13 j = σ (2 * 5 + 12) j := hR.2.2.2.1 j (by omega)
  rw [k6_poet1 n8 h0 h1, mg_xb_ok, h2, Option.bind_some, if_neg (show ¬ (1 : Int32) = 0 by decide), k0_written (by omega), Option.bind_some, mg_rdn (show j < 5 by omega) (by omega), Option.bind_some, e]
  exact ⟨.ok _, σ, _, rfl, rfl, mg_thr I', rfl, (fun u h => by cases h; rfl), by simp, by simp⟩
