/-! ===== carp, sell, told ===== -/
theorem mg_aged_upd {κ age : Nat → Int32} {μ : Nat → Nat} {q k : Nat} {v : Int32} (hq : q < 70) (kq : κ q = 2) : mg_aged κ (upd age q (age q + v)) μ k = mg_aged κ age μ k + (if μ q = μ k then v else 0) := by
  unfold mg_aged
  by_cases m : μ q = μ k
  · rw [if_pos m]
    refine mg_sum_off hq ?_ ?_
    · rw [if_pos ⟨kq, m⟩, if_pos ⟨kq, m⟩, mg_upd, if_pos rfl]
    · intro j hj ne; rw [mg_upd, if_neg ne]
  · rw [if_neg m, Int32.add_zero]
    refine mg_sum_congr (fun j hj => ?_)
    by_cases e : j = q
    · subst e; rw [if_neg (fun c => m c.2), if_neg (fun c => m c.2)]
    · rw [mg_upd, if_neg e]
theorem k1_change {σ : mg_St} {μ : Nat → Nat} {q : Nat} {v : Int32} (hP : mg_pnd σ μ) (hq : q < 70) (kq : σ 8 q = 2) : ∃ l, l < 70 ∧ f_X1_changeCarps σ (nI q) v = some (mg_su (mg_su σ 11 q (σ 11 q + v)) 14 l (σ 14 l + v)) ∧ mg_pnd (mg_su (mg_su σ 11 q (σ 11 q + v)) 14 l (σ 14 l + v)) μ := by
  obtain ⟨l, hl, b1, b2, b3, b4, b5⟩ := (k1_pondAt hP hq).2 kq
  refine ⟨l, hl, ?_, hP.1, fun k hk => ⟨(hP.2 k hk).1, fun kk => ?_⟩⟩
  · unfold f_X1_changeCarps
    rw [b1, Option.bind_some, if_neg (mg_m1 l (by omega)), mg_rdn hq (Nat.le_refl 70), Option.bind_some, mg_wrn hq (Nat.le_refl 70), Option.bind_some, mg_rdn hl (Nat.le_refl 70), Option.bind_some, mg_wrn hl (Nat.le_refl 70)]; rfl
  · obtain ⟨q', c1, c2, c3, c4, c5⟩ := (hP.2 k hk).2 kk
    refine ⟨q', c1, c2, c3, ?_, c5⟩
    show upd (σ 14) l (σ 14 l + v) q' = mg_aged (σ 8) (upd (σ 11) q (σ 11 q + v)) μ k
    rw [mg_aged_upd hq kq, mg_upd]
    by_cases e : q' = l
    · subst e
      have : μ k = μ q := ((b5 k hk).1 c2).2
      rw [if_pos rfl, if_pos this.symm, c4]
    · have ne : ¬ μ q = μ k := by
        intro m
        have := (b5 k hk).2 ⟨kk, m.symm⟩
        rw [c2] at this
        exact e (mg_inj (by omega) (by omega) this)
      rw [if_neg e, if_neg ne, Int32.add_zero]; exact c4
theorem sim_carp {σ τ : mg_St} (I : mg_Inv σ τ) (x1 x2 : Int32) : ∃ (out : Except (Fin 3) Int32) (σ1 : mg_St) (y : Int32 × mg_St), f_X6_carp σ x1 x2 = some (out, σ1) ∧ f_X8_carp τ x1 x2 = some y ∧ mg_Inv σ1 y.2 ∧ y.2 0 0 = mg_cd 1 9 2 out ∧ (∀ v, out = .ok v → y.1 = v) ∧ out ≠ .error 1 := by
  unfold f_X6_carp f_X8_carp
  rcases mg_place σ (mg_su τ 0 0 0) x1 x2 with ⟨h1, h2⟩ | ⟨q, hq, e1, e2, e3, h1, h2⟩
  · rw [k6_place0 h1, mg_xb_err, h2]
    exact ⟨.error 0, σ, _, rfl, rfl, mg_thr (mg_thr I), rfl, (fun v h => by cases h), by simp⟩
  have I' := I
  obtain ⟨c, g, p, μ, hI, hR⟩ := I
  have hE := hI.2.1 q hq
  have e8 : mg_su τ 0 0 0 3 q = σ 8 q := hE.1
  rw [k6_place1 h1, mg_xb_ok, h2, Option.bind_some, if_neg (show ¬ (1 : Int32) = 0 by decide), k6_num e3, Option.bind_some, k1_isPond hq, Option.bind_some, e3, mg_rdn hq (Nat.le_refl 70), Option.bind_some, e8]
  by_cases k2 : σ 8 q = 2
  rotate_left
  · rw [if_neg k2, if_pos rfl, if_neg k2]
    exact ⟨.error 2, σ, _, rfl, rfl, mg_thr (mg_thr I'), rfl, (fun v h => by cases h), by simp⟩
  rw [if_pos k2, if_neg (show ¬ (1 : Int32) = 0 by decide), if_pos k2]
  obtain ⟨hN, hEE, hC, hG, hPo, hA, hM, hP⟩ := hI
  have hN' := hN
  obtain ⟨n1, n2, n3, n4, n5, n6, n7, n8, n9⟩ := hN'
  have m11 : mg_su τ 0 0 0 1 1 = σ 5 1 := hR.2.1.symm
  have m05 : mg_su τ 0 0 0 0 5 = nI c := n5
  rw [n4, m11, m05]
  unfold f_X6_spend
  by_cases hc : c < 30
  · rw [if_pos (show nI c < 30 from nI_lt (b := 30) hc (by omega)), if_neg (show ¬ nI c = 30 from fun e => by have := mg_inj (b := 30) (by omega) (by omega) e; omega)]
    by_cases l : 4 ≤ σ 5 1
    · rw [if_pos l, mg_xb_ok, if_neg (fun h => (mg_lt_iff.1 h) l)]
      have hadd : f_X4_add (mg_su σ 5 1 (σ 5 1 - 4)) (nI q) = some (nI c, mg_su (mg_su (mg_su (mg_su σ 5 1 (σ 5 1 - 4)) 16 c (nI q)) 17 c 0) 2 2 (nI c + 1)) := by
        unfold f_X4_add
        have e22 : mg_su σ 5 1 (σ 5 1 - 4) 2 2 = nI c := n4
        rw [e22, if_neg (nI_pos (by omega)), if_neg (mg_le (M := 30) (N := 30) rfl (by omega) hc), mg_wrn hc (by omega), Option.bind_some, mg_wrn hc (by omega), Option.bind_some]
        have e22' : mg_su (mg_su (mg_su σ 5 1 (σ 5 1 - 4)) 16 c (nI q)) 17 c 0 2 2 = nI c := n4
        rw [e22']
      rw [hadd, Option.bind_some, k0_setCarpSize hc, Option.bind_some, show mg_clamp 1 = 1 by decide]
      obtain ⟨lb, l1, l2, l3⟩ := k1_change (σ := mg_su (mg_su (mg_su (mg_su (mg_su σ 5 1 (σ 5 1 - 4)) 16 c (nI q)) 17 c 0) 2 2 (nI c + 1)) (2 * 5 + 11) c 1) (v := 1) (μ := μ) hP hq k2
      rw [l2, Option.bind_some]
      rw [show mg_su (mg_su τ 0 0 0) 1 1 (σ 5 1 - 4) 0 5 = nI c from n5, mg_wrn hc (by omega), Option.bind_some]
      have e05 : mg_su (mg_su (mg_su τ 0 0 0) 1 1 (σ 5 1 - 4)) 7 c (nI q) 0 5 = nI c := n5
      rw [e05, mg_wrn hc (by omega), Option.bind_some]
      refine ⟨.ok _, _, _, rfl, rfl, ⟨c + 1, g, p, μ, ⟨?_, ?_, ?_, ?_, ?_, ?_, ?_, ?_⟩, ?_⟩, rfl, ?_, by simp⟩
      · refine ⟨by omega, n2, n3, ?_, ?_, n6, n7, n8, n9.1, fun j h1 h2 => n9.2 j (by omega) h2⟩
        · show nI c + 1 = nI (c + 1); rw [nI_succ]
        · show τ 0 5 + 1 = nI (c + 1); rw [n5, nI_succ]
      · exact hEE
      · intro j hj
        rcases Nat.lt_or_ge j c with h | h
        · obtain ⟨pl, c1, c2, c3, c4, c5, c6⟩ := hC j h
          refine ⟨pl, c1, ?_, ?_, ?_, ?_, ?_⟩
          · show upd (σ 16) c (nI q) j = nI pl; rw [mg_upd, if_neg (by omega)]; exact c2
          · show upd (τ 7) c (nI q) j = nI pl; rw [mg_upd, if_neg (by omega)]; exact c3
          · show τ 8 j = upd (σ 17) c 0 j; rw [mg_upd, if_neg (by omega)]; exact c4
          · show upd (σ 17) c 0 j = 0 ∨ upd (σ 17) c 0 j = 1; rw [mg_upd, if_neg (by omega)]; exact c5
          · show upd (σ 17) c 0 j = 0 → _; rw [mg_upd, if_neg (by omega)]; exact c6
        · have e : j = c := by omega
          subst e
          refine ⟨q, hq, ?_, ?_, ?_, ?_, fun _ => k2⟩
          · show upd (σ 16) j (nI q) j = nI q; rw [mg_upd, if_pos rfl]
          · show upd (τ 7) j (nI q) j = nI q; rw [mg_upd, if_pos rfl]
          · show τ 8 j = upd (σ 17) j 0 j; rw [mg_upd, if_pos rfl]; exact n9.2 j (Nat.le_refl _) hc
          · show upd (σ 17) j 0 j = 0 ∨ _; rw [mg_upd, if_pos rfl]; exact Or.inl rfl
      · exact hG
      · exact hPo
      · intro k hk
        show upd (σ 11) q (σ 11 q + 1) k = mg_sum (fun j => if upd (σ 17) c 0 j = 0 ∧ upd (σ 16) c (nI q) j = nI k then 1 else 0) (c + 1)
        rw [mg_sum_s, mg_upd, mg_upd, mg_upd, if_pos rfl, if_pos rfl]
        have e : mg_sum (fun j => if upd (σ 17) c 0 j = 0 ∧ upd (σ 16) c (nI q) j = nI k then 1 else 0) c = σ 11 k := by
          rw [hA k hk]
          refine mg_sum_congr (fun j hj => ?_)
          rw [mg_upd, mg_upd, if_neg (show ¬ j = c by omega), if_neg (show ¬ j = c by omega)]
        rw [e]
        by_cases ek : k = q
        · subst ek; rw [if_pos rfl, if_pos ⟨rfl, rfl⟩]
        · rw [if_neg ek, if_neg (fun h => ek (mg_inj (by omega) (by omega) h.2).symm), Int32.add_zero]
      · exact hM
      · exact l3
      · obtain ⟨a1, a2, a3, a4, a5⟩ := hR
        refine ⟨a1, rfl, ?_, a4, a5⟩
        intro j hj
        show upd (τ 12) c 1 j = upd (σ 21) c 1 j ∧ ∃ z, 1 ≤ z ∧ z ≤ 40 ∧ upd (σ 21) c 1 j = nI z
        rw [mg_upd, mg_upd]
        by_cases e : j = c
        · rw [if_pos e, if_pos e]; exact ⟨rfl, 1, by omega, by omega, rfl⟩
        · rw [if_neg e, if_neg e]; exact a3 j (by omega)
      · intro v hv; cases hv
        show τ 0 5 + 1 - 1 = nI c
        rw [n5]; grind
    · rw [if_neg l, mg_xb_err, if_pos (mg_lt_iff.2 l)]
      exact ⟨.error 2, σ, _, rfl, rfl, mg_thr (mg_thr I'), rfl, (fun v h => by cases h), by simp⟩
  · have e : c = 30 := by omega
    subst e
    rw [if_neg (show ¬ nI 30 < 30 by decide)]
    by_cases l : σ 5 1 < 4
    · rw [if_pos l]
      exact ⟨.error 2, σ, _, rfl, rfl, mg_thr (mg_thr I'), rfl, (fun v h => by cases h), by simp⟩
    · rw [if_neg l, if_pos (show nI 30 = 30 from rfl)]
      exact ⟨.error 2, σ, _, rfl, rfl, mg_thr (mg_thr I'), rfl, (fun v h => by cases h), by simp⟩
theorem mg_idx (τ : mg_St) (x : Int32) {c : Nat} (hc : c ≤ 100) : ((x < 0 ∨ (¬ x < 0 ∧ ¬ x < nI c)) ∧ f_X8_isIn τ x 0 (nI c - 1) = some 0) ∨ (∃ i, i < c ∧ x = nI i ∧ ¬ x < 0 ∧ x < nI c ∧ f_X8_isIn τ x 0 (nI c - 1) = some 1) := by
  rw [mg_isIn]
  have key : x ≤ nI c - 1 ↔ x < nI c := by
    have h1 : (nI c).toInt = c := nI_toInt (by omega)
    rw [Int32.lt_iff_toInt_lt, Int32.le_iff_toInt_le]
    have : (nI c - 1).toInt = (c : Int) - 1 := by
      cases c with
      | zero => decide
      | succ c => rw [nI_pred, nI_toInt (by omega)]; omega
    rw [this, h1]; omega
  rw [mg_if (and_congr_right' key)]
  by_cases h1 : x < 0
  · left; exact ⟨Or.inl h1, by rw [if_neg (fun c => c.1 h1)]⟩
  · by_cases h2 : x < nI c
    · obtain ⟨j, hj, rfl⟩ := nI_of h1
      right; exact ⟨j, (nI_ltI hj (by omega)).1 h2, rfl, h1, h2, by rw [if_pos ⟨h1, h2⟩]⟩
    · left; exact ⟨Or.inr ⟨h1, h2⟩, by rw [if_neg (fun c => h2 c.2)]⟩
theorem k6_ckCarp0 {σ : mg_St} {x : Int32} {c : Nat} (hc : σ 2 2 = nI c) (h : x < 0 ∨ (¬ x < 0 ∧ ¬ x < nI c)) : f_X6_checkCarp σ x = some (.error 0, σ) := by
  unfold f_X6_checkCarp; rw [hc]; rcases h with h | ⟨h, h'⟩
  · rw [if_pos h]
  · rw [if_neg h, if_neg h']
theorem k6_ckCarp1 {σ : mg_St} {x : Int32} {c : Nat} (hc : σ 2 2 = nI c) (h : ¬ x < 0) (h' : x < nI c) : f_X6_checkCarp σ x = some (.ok (), σ) := by
  unfold f_X6_checkCarp; rw [hc, if_neg h, if_pos h']
theorem sim_sell {σ τ : mg_St} (I : mg_Inv σ τ) (x1 : Int32) : ∃ (out : Except (Fin 3) Int32) (σ1 : mg_St) (y : Int32 × mg_St), f_X6_sell σ x1 = some (out, σ1) ∧ f_X8_sell τ x1 = some y ∧ mg_Inv σ1 y.2 ∧ y.2 0 0 = mg_cd 1 9 2 out ∧ (∀ v, out = .ok v → y.1 = v) ∧ out ≠ .error 1 := by
  unfold f_X6_sell f_X8_sell
  have I' := I
  obtain ⟨c, g, p, μ, hI, hR⟩ := I
  obtain ⟨hN, hEE, hC, hG, hPo, hA, hM, hP⟩ := hI
  have hN' := hN
  obtain ⟨n1, n2, n3, n4, n5, n6, n7, n8, n9⟩ := hN'
  have m05 : mg_su τ 0 0 0 0 5 = nI c := n5
  rw [m05]
  rcases mg_idx (mg_su τ 0 0 0) x1 (c := c) (by omega) with ⟨h1, h2⟩ | ⟨i, hi, rfl, h0, h1, h2⟩
  · rw [k6_ckCarp0 n4 h1, mg_xb_err, h2]
    exact ⟨.error 0, σ, _, rfl, rfl, mg_thr (mg_thr I'), rfl, (fun v h => by cases h), by simp⟩
  obtain ⟨q, c1, c2, c3, c4, c5, c6⟩ := hC i hi
  have e8 : mg_su τ 0 0 0 8 i = σ 17 i := c4
  rw [k6_ckCarp1 n4 h0 h1, mg_xb_ok, h2, Option.bind_some, if_neg (show ¬ (1 : Int32) = 0 by decide), k4_isHere n4 n1 hi, Option.bind_some, mg_rdn (show i < 30 by omega) (by omega), Option.bind_some, e8]
  rcases c5 with s | s
  rotate_left
  · have s0 : ¬ σ 17 i = 0 := by rw [s]; decide
    rw [if_neg s0, if_pos rfl, if_pos s]
    exact ⟨.error 2, σ, _, rfl, rfl, mg_thr (mg_thr I'), rfl, (fun v h => by cases h), by simp⟩
  have s1 : ¬ σ 17 i = 1 := by rw [s]; decide
  have kq := c6 s
  rw [if_pos s, if_neg (show ¬ (1 : Int32) = 0 by decide), if_neg s1, k4_takeOut n4 n1 hi, Option.bind_some, k4_placeOf (σ := mg_su σ 17 i 1) n4 n1 hi, Option.bind_some]
  have e16 : mg_su σ 17 i 1 16 i = nI q := c2
  obtain ⟨lb, l1, l2, l3⟩ := k1_change (σ := mg_su σ 17 i 1) (v := -1) (μ := μ) hP c1 kq
  rw [e16, l2, Option.bind_some, k0_carpSize (by omega), Option.bind_some]
  rw [mg_wrn (show i < 30 by omega) (by omega), Option.bind_some, mg_rdn (show i < 30 by omega) (by omega), Option.bind_some]
  obtain ⟨z1, z⟩ := hR.2.2.1 i hi
  have z1' : τ 12 i = σ 21 i := z1
  have hcoin : τ 1 1 = σ 5 1 := hR.2.1.symm
  have A : ∀ X Y, mg_su (mg_su (mg_su σ 17 i 1) 11 q X) 14 lb Y 5 1 = σ 5 1 := fun X Y => by rw [mg_su_ne (by decide), mg_su_ne (by decide), mg_su_ne (by decide)]
  have B : ∀ X Y, mg_su (mg_su (mg_su σ 17 i 1) 11 q X) 14 lb Y (2 * 5 + 11) i = σ 21 i := fun X Y => by rw [mg_su_ne (by decide), mg_su_ne (by decide), mg_su_ne (by decide)]
  have A' : mg_su (mg_su τ 0 0 0) 8 i 1 1 1 = σ 5 1 := by rw [mg_su_ne (by decide), mg_su_ne (by decide)]; exact hcoin
  have B' : mg_su (mg_su τ 0 0 0) 8 i 1 12 i = σ 21 i := by rw [mg_su_ne (by decide), mg_su_ne (by decide)]; exact z1'
  rw [A, B, A', B']
  generalize σ 5 1 + (σ 21 i / 2 + 1) = w
  refine ⟨.ok _, _, _, rfl, rfl, ⟨c, g, p, μ, ⟨⟨n1, n2, n3, n4, n5, n6, n7, n8, n9.1, ?_⟩, hEE, ?_, hG, hPo, ?_, hM, mg_pnd_congr2 (fun k hk => by rw [mg_su_ne (by decide)]) (by rw [mg_su_ne (by decide)]) (by rw [mg_su_ne (by decide)]) (by rw [mg_su_ne (by decide)]) (by rw [mg_su_ne (by decide)]) (by rw [mg_su_ne (by decide)]) l3⟩, ?_⟩, rfl, ?_, by simp⟩
  · intro j h1 h2
    show upd (τ 8) i 1 j = 0
    rw [mg_upd, if_neg (by omega)]; exact n9.2 j h1 h2
  · intro j hj
    obtain ⟨pl, d1, d2, d3, d4, d5, d6⟩ := hC j hj
    refine ⟨pl, d1, d2, d3, ?_, ?_, ?_⟩
    · show upd (τ 8) i 1 j = upd (σ 17) i 1 j; rw [mg_upd, mg_upd, d4]
    · show upd (σ 17) i 1 j = 0 ∨ upd (σ 17) i 1 j = 1; rw [mg_upd]
      by_cases e : j = i
      · rw [if_pos e]; exact Or.inr rfl
      · rw [if_neg e]; exact d5
    · show upd (σ 17) i 1 j = 0 → σ 8 pl = 2; rw [mg_upd]
      by_cases e : j = i
      · rw [if_pos e]; exact fun c => absurd c (by decide)
      · rw [if_neg e]; exact d6
  · intro k hk
    show upd (σ 11) q (σ 11 q + -1) k = mg_sum (fun j => if upd (σ 17) i 1 j = 0 ∧ σ 16 j = nI k then 1 else 0) c
    rw [mg_upd]
    by_cases ek : k = q
    · subst ek
      rw [if_pos rfl, hA k hk]
      refine (mg_sum_off hi ?_ ?_).symm
      · rw [mg_upd, if_pos rfl, if_neg (fun c => absurd c.1 (by decide)), if_pos ⟨s, c2⟩]; decide
      · intro j hj ne; rw [mg_upd, if_neg ne]
    · rw [if_neg ek, hA k hk]
      refine mg_sum_congr (fun j hj => ?_)
      rw [mg_upd]
      by_cases e : j = i
      · subst e
        have ne : ¬ σ 16 j = nI k := by rw [c2]; exact fun h => ek (mg_inj (by omega) (by omega) h).symm
        rw [if_neg (fun c => ne c.2), if_neg (fun c => ne c.2)]
      · rw [if_neg e]
  · exact mg_crs_coin hR rfl rfl rfl rfl rfl rfl rfl
  · intro v hv; cases hv
    rw [mg_su_eq, mg_su_eq, if_pos rfl, if_pos rfl]
