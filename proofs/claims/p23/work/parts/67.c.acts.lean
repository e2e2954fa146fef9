section AE
variable {σ τ : mg_St} {ζ : mg_Sz} {c g p : Nat} {μ : Nat → Nat}
theorem a_dig (hT : mq_T σ ζ c g p μ) {x y : Nat} (hx : x < 10) (hy : y < 7) : mq_A ζ (f_L_act_307 y x σ ζ (nI x) (nI y)) := by
  have hq : 10 * y + x < 70 := by omega
  obtain ⟨c30, g6, p5⟩ := mq_c30 hT
  obtain ⟨τ, I, hZ, hc, hg, hp⟩ := mq_T_inv hT
  unfold f_L_act_307
  obtain ⟨out, σ1, w, s1, s2, s3, s4, s5, s6⟩ := sim_dig I (nI x) (nI y)
  have s1' := s1
  rw [s1]
  have hk : ζ.1 2 (10 * y + x) 0 = τ 3 (10 * y + x) := (hZ.2.1 _ hq).1
  have hcn : ζ.1 0 0 1 = τ 1 1 := hZ.1.2.2.2.2
  unfold f_X8_dig at s2
  rw [k8_in hx hy, Option.bind_some, if_neg (show ¬ (1 : Int32) = 0 by decide), k8_can hx hy, Option.bind_some] at s2
  have t3 : mg_su τ 0 0 0 3 (10 * y + x) = τ 3 (10 * y + x) := rfl
  have t1 : mg_su τ 0 0 0 1 1 = τ 1 1 := rfl
  rw [t3, t1] at s2
  have l3 : ∀ w : Int32, w ≤ 5 ↔ w < 6 := by intro w; constructor <;> intro h <;> grind
  by_cases can : τ 3 (10 * y + x) = 0 ∧ ¬ τ 1 1 < 6
  · rw [if_pos can, if_neg (show ¬ (1 : Int32) = 0 by decide), k8_spent hq (mg_num10 hx hy), Option.bind_some, t1] at s2
    dsimp only at s2
    obtain ⟨r, ν, m1, m2, m3⟩ := mg_marks (mg_su (mg_su (mg_su τ 0 0 0) 3 (10 * y + x) 2) 1 1 (τ 1 1 - 6))
    rw [m1, Option.bind_some, mg_num10 hx hy, mg_rdn hq (Nat.le_refl 70), Option.bind_some] at s2
    obtain ⟨v6, -, s2⟩ := mg_bind s2
    cases s2
    obtain ⟨v, rfl⟩ := mg_cd_ok s4.symm (by decide) (by decide) (by decide)
    dsimp only at s3
    rw [if_pos (by rw [hk]; exact can.1), if_neg (by rw [hcn, l3]; exact can.2), Option.bind_some, mg_xc_ok, if_neg (show ¬ (1 : Int32) = 0 by decide), Option.bind_some, if_neg (show ¬ (1 : Int32) = 0 by decide)]
    have ez : (mg_zu ζ 2 (10 * y + x) 0 2).1 0 0 1 = τ 1 1 := by rw [mg_zu_at, if_neg (by omega), hcn]
    rw [ez]
    have hX : mq_X σ1 (mg_zu (mg_zu ζ 2 (10 * y + x) 0 2) 0 0 1 (τ 1 1 - 6)) := by
      refine mq_X_of s3 hc hg hp c30 g6 p5 ?_
      refine mq_Zt_set (q := 10 * y + x) (k := 2) hZ ?_ (fun _ _ => rfl) (fun _ _ => rfl) ?_ rfl rfl ?_ ?_ ?_ ?_ ?_ (fun h => absurd h (by decide))
      · intro j; rw [mg_sr_ne (by decide), mg_su_ne (by decide), mg_su_eq]; rfl
      · intro a ha; rw [mg_sr_ne (by omega), mg_su_ne (by omega), mg_su_ne (by omega), mg_su_ne (by omega)]
      · rw [mg_zu_at, if_pos ⟨rfl, rfl, rfl⟩, mg_sr_ne (by decide), mg_su_eq, if_pos rfl]
      · rw [mg_zu_at, if_neg (by omega), mg_zu_at, if_neg (by omega)]
      · rw [mg_zu_at, if_neg (by omega), mg_zu_at, if_pos ⟨rfl, rfl, rfl⟩]
      · intro j hj; funext i; rw [mg_zu_at, if_neg (by omega), mg_zu_at, if_neg (fun d => hj d.2.1)]
      · intro t ht; rw [mg_zu_row (by omega), mg_zu_row (by omega)]
    generalize hζ1 : mg_zu (mg_zu ζ 2 (10 * y + x) 0 2) 0 0 1 (τ 1 1 - 6) = ζ1 at hX ⊢
    have hX' := hX
    obtain ⟨c1, g1, p1, μ1, hT1⟩ := hX'
    obtain ⟨O, o1, o2⟩ := k7_pond (κ := mq_k ζ1) (ζ := ζ1) (fun q hq => rfl) (mq_M hT1) hq
    rw [show (10 * y + x) % 10 = x by omega, show (10 * y + x) / 10 = y by omega] at o1
    have kσ : σ 8 (10 * y + x) = 0 := by rw [← mq_kk hT hq, hk]; exact can.1
    have lσ : 6 ≤ σ 5 1 := by
      have : σ 5 1 = τ 1 1 := by rw [← hcn]; exact hT.2.1.2.2.2.2.symm
      rw [this]
      by_cases z : 6 ≤ τ 1 1
      · exact z
      · exact absurd (mg_lt_iff.2 z) can.2
    unfold f_X6_dig at s1'
    rw [k6_place1 (k1_in hx hy), mg_xb_ok, k6_num (mg_num10 hx hy), Option.bind_some, k6_bare hq, if_pos kσ, mg_xb_ok] at s1'
    unfold f_X6_spend at s1'
    rw [if_pos lσ, mg_xb_ok] at s1'
    obtain ⟨s8, -, s1'⟩ := mg_bind s1'
    obtain ⟨v9, e9, s1'⟩ := mg_bind s1'
    cases s1'
    have hP1 : mg_pnd σ1 μ1 := by obtain ⟨⟨τ2, hI2, hR2⟩, hZ2⟩ := hT1; exact hI2.2.2.2.2.2.2.2
    rw [k1_cellsAt hP1 hq] at e9
    have ev : (if mq_k ζ1 (10 * y + x) = 2 then mg_cells (mq_k ζ1) μ1 (10 * y + x) else 0) = v := by
      rw [← mq_cells_eq hT1, show mq_k ζ1 (10 * y + x) = σ1 8 (10 * y + x) from mq_kk hT1 hq]
      exact Option.some.inj e9
    rw [o1, Option.bind_some, k7_many_om o2, Option.bind_some, ev, if_pos rfl]
    refine ⟨_, _, rfl, hX, ?_⟩
    intro m hm em
    rw [hcn] at em
    rw [em] at can
    obtain ⟨d1, d2⟩ := mq_coin hm (show 6 ≤ 21 by omega) can.2
    refine ⟨m - 6, by omega, by omega, ?_⟩
    rw [← hζ1, mg_zu_at, if_pos ⟨rfl, rfl, rfl⟩, em]; exact d2
  · rw [if_neg can, if_pos rfl] at s2
    cases s2
    have ho := mg_cd_2 s4.symm (by decide) (by decide) (by decide)
    subst ho
    have e7 : (if ζ.1 2 (10 * y + x) 0 = 0 then (if ζ.1 0 0 1 ≤ 5 then some 0 else some 1) else some 0 : Option Int32) = some 0 := by
      rw [hk, hcn]
      by_cases k : τ 3 (10 * y + x) = 0
      · rw [if_pos k]
        by_cases l : τ 1 1 ≤ 5
        · rw [if_pos l]
        · exact absurd ⟨k, fun d => l ((l3 _).2 d)⟩ can
      · rw [if_neg k]
    rw [e7, Option.bind_some, mg_xc_2, if_pos rfl, Option.bind_some, if_pos rfl, if_pos rfl]
    exact ⟨_, _, rfl, mq_X_of s3 hc hg hp c30 g6 p5 hZ, mq_D_refl⟩
theorem k7_a508 (hT : mq_T σ ζ c g p μ) {x y : Nat} (hx : x < 10) (hy : y < 7) : ∀ (n j : Nat) (v : Int32), (v = 0 ∨ v = 1) → j ≤ c → c < n + j →
    ∃ w, f_L_act_508 y x (nI x) (nI y) (nI c) σ ζ n v (nI j) = some (w, nI c) ∧ (w = 0 ∨ w = 1) ∧ (w = 1 ↔ v = 1 ∧ ∀ k, j ≤ k → k < c → ζ.1 3 k 3 = 0 → mq_pl ζ 3 k ≠ 10 * y + x) := by
  obtain ⟨c30, -, -⟩ := mq_c30 hT
  intro n; induction n with
  | zero => intro j v hv h1 h2; omega
  | succ n ih =>
    intro j v hv h1 h2
    unfold f_L_act_508
    have a1' : v &&& 1 = v := by rcases hv with h | h <;> subst h <;> decide
    have a0' : v &&& 0 = 0 := by rcases hv with h | h <;> subst h <;> decide
    rcases Nat.lt_or_ge j c with h | h
    · obtain ⟨m1, m2, m3, m4, -, -, s7, -⟩ := mq_carp hT h
      rw [if_neg (nI_ge h (by omega)), hT.2.1.1, mg_ixn h (by omega), Option.bind_some, a1', a0', m3, m4, ← nI_succ]
      have skip : (ζ.1 3 j 3 = 0 → mq_pl ζ 3 j ≠ 10 * y + x) → ∃ w, f_L_act_508 y x (nI x) (nI y) (nI c) σ ζ n v (nI (j + 1)) = some (w, nI c) ∧ (w = 0 ∨ w = 1) ∧ (w = 1 ↔ v = 1 ∧ ∀ k, j ≤ k → k < c → ζ.1 3 k 3 = 0 → mq_pl ζ 3 k ≠ 10 * y + x) := by
        intro hj
        obtain ⟨w, y1, y2, y3⟩ := ih (j + 1) v hv (by omega) (by omega)
        refine ⟨w, y1, y2, y3.trans ⟨fun ⟨p1, p2⟩ => ⟨p1, fun k hk => ?_⟩, fun ⟨p1, p2⟩ => ⟨p1, fun k hk => p2 k (by omega)⟩⟩⟩
        rcases Nat.lt_or_ge j k with h' | h'
        · exact p2 k h'
        · have e : k = j := by omega
          subst e; exact fun _ => hj
      rcases s7 with s | s
      · rw [if_neg (by rw [s]; decide)]
        by_cases e1 : mq_pl ζ 3 j % 10 = x
        · by_cases e2 : mq_pl ζ 3 j / 10 = y
          · rw [if_pos (by rw [e1]), if_pos (by rw [e2])]
            obtain ⟨w, y1, y2, y3⟩ := ih (j + 1) 0 (Or.inl rfl) (by omega) (by omega)
            exact ⟨w, y1, y2, y3.trans ⟨fun ⟨p1, p2⟩ => absurd p1 (by decide), fun ⟨p1, p2⟩ => absurd (show mq_pl ζ 3 j = 10 * y + x by omega) (p2 j (Nat.le_refl _) h s)⟩⟩
          · rw [if_pos (by rw [e1]), if_neg (fun d => e2 (mg_inj (by omega) (by omega) d))]; exact skip (fun _ d => by omega)
        · rw [if_neg (fun d => e1 (mg_inj (by omega) (by omega) d))]; exact skip (fun _ d => by omega)
      · rw [if_pos s]; exact skip (fun d => by rw [s] at d; exact absurd d (by decide))
    · have e : j = c := by omega
      subst e
      exact ⟨v, by rw [if_pos (Int32.le_refl _)], hv, ⟨fun p => ⟨p, fun k h1 h2 => by omega⟩, fun p => p.1⟩⟩
theorem a_clear (hT : mq_T σ ζ c g p μ) {x y : Nat} (hx : x < 10) (hy : y < 7) : mq_A ζ (f_L_act_480 y x σ ζ (nI x) (nI y)) := by
  have hq : 10 * y + x < 70 := by omega
  obtain ⟨c30, g6, p5⟩ := mq_c30 hT
  obtain ⟨τ, I, hZ, hc, hg, hp⟩ := mq_T_inv hT
  unfold f_L_act_480
  obtain ⟨out, σ1, w, s1, s2, s3, s4, s5, s6⟩ := sim_clear I (nI x) (nI y)
  rw [s1]
  have hk : ζ.1 2 (10 * y + x) 0 = τ 3 (10 * y + x) := (hZ.2.1 _ hq).1
  have hcn : ζ.1 0 0 1 = τ 1 1 := hZ.1.2.2.2.2
  unfold f_X8_clear at s2
  rw [k8_in hx hy, Option.bind_some, if_neg (show ¬ (1 : Int32) = 0 by decide), mg_num10 hx hy, mg_rdn hq (Nat.le_refl 70), Option.bind_some] at s2
  have t3 : mg_su τ 0 0 0 3 (10 * y + x) = τ 3 (10 * y + x) := rfl
  have t5 : mg_su τ 0 0 0 5 (10 * y + x) = τ 5 (10 * y + x) := rfl
  have t1 : mg_su τ 0 0 0 1 1 = τ 1 1 := rfl
  rw [t3] at s2
  have hsold : ∀ k, k < c → mg_su τ 0 0 0 8 k = 0 ∨ mg_su τ 0 0 0 8 k = 1 := by
    intro k hk
    obtain ⟨q, -, -, -, -, -, a6⟩ := hZ.2.2.1 k hk
    show τ 8 k = 0 ∨ τ 8 k = 1
    rw [← a6]; exact (mq_carp hT hk).2.2.2.2.2.2.1
  obtain ⟨u0, hu0, hu1⟩ : ∃ u0 : Int32, (u0 = 0 ∨ u0 = 1) ∧ (if τ 3 (10 * y + x) = 0 then some 0 else some 1 : Option Int32) = some u0 := by
    by_cases k : τ 3 (10 * y + x) = 0
    · exact ⟨0, Or.inl rfl, by rw [if_pos k]⟩
    · exact ⟨1, Or.inr rfl, by rw [if_neg k]⟩
  obtain ⟨u1, v1, v2, v3⟩ := k8_clear45 (τ := mg_su τ 0 0 0) (a1 := nI x) (a2 := nI y) (a3 := nI (10 * y + x)) hc c30 hsold 5000 0 u0 hu0 (by omega) (by omega)
  obtain ⟨u2, w1, w2, w3⟩ := k7_a508 hT hx hy 5000 0 u0 hu0 (by omega) (by omega)
  have e12 : u2 = u1 := by
    have hiff : u2 = 1 ↔ u1 = 1 := by
      rw [w3, v3]
      refine and_congr_right (fun _ => ⟨fun a k h1 h2 h3 h4 => ?_, fun a k h1 h2 h3 h4 => ?_⟩)
      · obtain ⟨q, a1, a2, a3, a4, a5, a6⟩ := hZ.2.2.1 k h2
        have : mq_pl ζ 3 k = q := mq_pl_eq a1 a3 a4
        refine a k h1 h2 (by rw [a6]; exact h3) ?_
        rw [this]
        have h4' : τ 7 k = nI (10 * y + x) := h4
        exact mg_inj (by omega) (by omega) (by rw [← a2, h4'])
      · obtain ⟨q, a1, a2, a3, a4, a5, a6⟩ := hZ.2.2.1 k h2
        have : mq_pl ζ 3 k = q := mq_pl_eq a1 a3 a4
        refine a k h1 h2 (show τ 8 k = 0 by rw [← a6]; exact h3) ?_
        show τ 7 k = nI (10 * y + x)
        rw [a2, ← this, h4]
    rcases w2 with h | h <;> rcases v2 with h' | h'
    · rw [h, h']
    · have := hiff.2 h'; rw [h] at this; exact absurd this (by decide)
    · have := hiff.1 h; rw [h'] at this; exact absurd this (by decide)
    · rw [h, h']
  subst e12
  rw [nI_0] at v1 w1
  rw [hu1, Option.bind_some, v1, Option.bind_some] at s2
  rw [hk, hu1, Option.bind_some, hT.2.1.1, w1, Option.bind_some]
  dsimp only at s2 ⊢
  rcases v2 with h0 | h1
  · rw [if_pos h0] at s2
    cases s2
    have ho := mg_cd_2 s4.symm (by decide) (by decide) (by decide)
    subst ho
    rw [mg_xc_2, if_pos h0, Option.bind_some, if_pos h0, if_pos rfl]
    exact ⟨_, _, rfl, mq_X_of s3 hc hg hp c30 g6 p5 hZ, mq_D_refl⟩
  · have hne : ¬ u2 = 0 := by rw [h1]; decide
    obtain ⟨S, hS, hS2⟩ : ∃ S : Int32, (∃ z, z < 10 ∧ S = nI z) ∧ S = (if τ 3 (10 * y + x) = 1 then ζ.1 2 (10 * y + x) 2 else 0) := by
      by_cases k1 : τ 3 (10 * y + x) = 1
      · obtain ⟨-, b2, z, z1, z2, z3⟩ := (hZ.2.1 _ hq).2 k1
        exact ⟨ζ.1 2 (10 * y + x) 2, ⟨z, z2, by rw [b2, z3]⟩, by rw [if_pos k1]⟩
      · exact ⟨0, ⟨0, by omega, rfl⟩, by rw [if_neg k1]⟩
    have hsel : (if τ 3 (10 * y + x) = 1 then some (ζ.1 2 (10 * y + x) 2) else some 0 : Option Int32) = some S := by
      rw [hS2]; split <;> rfl
    have s2' : some (τ 1 1 + S, mg_su (mg_su (mg_su τ 0 0 0) 3 (10 * y + x) 0) 1 1 (τ 1 1 + S)) = some w := by
      rw [← s2, if_neg hne, Option.bind_some]
      by_cases k1 : τ 3 (10 * y + x) = 1
      · obtain ⟨-, b2, -⟩ := (hZ.2.1 _ hq).2 k1
        rw [if_pos k1, mg_rdn hq (Nat.le_refl 70), Option.bind_some, k8_spent hq (mg_num10 hx hy), Option.bind_some, t1, t5, mg_negsub, hS2, if_pos k1, b2]
      · rw [if_neg k1, k8_spent hq (mg_num10 hx hy), Option.bind_some, t1, mg_zsub, hS2, if_neg k1]
    cases s2'
    obtain ⟨v, rfl⟩ := mg_cd_ok s4.symm (by decide) (by decide) (by decide)
    have hv := s5 v rfl
    dsimp only at hv s3
    rw [mg_xc_ok, if_neg hne, hsel, Option.bind_some, Option.bind_some, if_neg hne]
    have eq1 : v = (mg_zu (mg_zu ζ 0 0 1 (ζ.1 0 0 1 + S)) 2 (10 * y + x) 0 0).1 0 0 1 := by
      rw [mg_zu_at, if_neg (by omega), mg_zu_at, if_pos ⟨rfl, rfl, rfl⟩, hcn, hv]
    rw [if_pos eq1]
    refine ⟨_, _, rfl, mq_X_of s3 hc hg hp c30 g6 p5 ?_, ?_⟩
    · refine mq_Zt_set (q := 10 * y + x) (k := 0) hZ ?_ (fun _ _ => rfl) (fun _ _ => rfl) ?_ rfl rfl ?_ ?_ ?_ ?_ ?_ (fun h => absurd h (by decide))
      · intro j; rw [mg_su_ne (by decide), mg_su_eq]; rfl
      · intro a ha; rw [mg_su_ne (by omega), mg_su_ne (by omega), mg_su_ne (by omega)]
      · rw [mg_zu_at, if_neg (by omega), mg_zu_at, if_pos ⟨rfl, rfl, rfl⟩, mg_su_eq, if_pos rfl, hcn]
      · rw [mg_zu_at, if_neg (by omega), mg_zu_at, if_neg (by omega)]
      · rw [mg_zu_at, if_pos ⟨rfl, rfl, rfl⟩]
      · intro j hj; funext i; rw [mg_zu_at, if_neg (fun d => hj d.2.1), mg_zu_at, if_neg (by omega)]
      · intro t ht; rw [mg_zu_row (by omega), mg_zu_row (by omega)]
    · intro m hm em
      obtain ⟨z, z1, z2⟩ := hS
      refine ⟨m + z, by omega, by omega, ?_⟩
      rw [mg_zu_at, if_neg (by omega), mg_zu_at, if_pos ⟨rfl, rfl, rfl⟩, em, z2, nI_add]
end AE
