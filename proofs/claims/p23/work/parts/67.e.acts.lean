section AG
variable {σ τ : mg_St} {ζ : mg_Sz} {c g p : Nat} {μ : Nat → Nat}
theorem mq_m1_lt : (-1 : Int32) < 0 := by decide
theorem a_gate (hT : mq_T σ ζ c g p μ) {x y : Nat} (hx : x < 10) (hy : y < 7) (a2 : Int32) : mq_A ζ (f_L_act_888 σ ζ a2 (nI x) (nI y)) := by
  have hq : 10 * y + x < 70 := by omega
  obtain ⟨c30, g6, p5⟩ := mq_c30 hT
  obtain ⟨τ, I, hZ, hc, hg, hp⟩ := mq_T_inv hT
  have h21 : ζ.2 1 = g := hZ.1.2.1
  unfold f_L_act_888
  obtain ⟨d, hd, e1⟩ := mq_below (a2 >>> (5 &&& 31)) (n := 4) (by omega) (by omega)
  rw [show f_L_below (a2 >>> (5 &&& 31)) 4 = _ from e1, Option.bind_some, h21]
  have e2 : (upd (upd (upd (fun _ => 0) 0 (nI x)) 1 (nI y)) 2 (nI d)) 2 = nI d := rfl
  rw [e2]
  obtain ⟨out, σ1, w, s1, s2, s3, s4, s5⟩ := sim_gate I (nI x) (nI y) (nI d)
  rw [s1]
  unfold f_X8_gate at s2
  have t08 : mg_su τ 0 0 0 0 8 = nI g := hg
  rw [k8_in hx hy, Option.bind_some, if_neg (show ¬ (1 : Int32) = 0 by decide), mg_isIn, if_pos (show ¬ nI d < 0 ∧ nI d ≤ 3 from ⟨nI_pos (by omega), nI_le (b := 3) (by omega) (by omega)⟩), Option.bind_some, if_neg (show ¬ (1 : Int32) = 0 by decide), t08, mg_num10 hx hy] at s2
  by_cases e6 : g = 6
  · rw [if_pos (show nI g = 6 by rw [e6]; rfl)] at s2
    cases s2
    have ho := mg_cd_2 s4.symm (by decide) (by decide) (by decide)
    subst ho
    rw [mg_xc_2, if_pos (show (6 : Int32) ≤ nI g by rw [e6]; exact Int32.le_refl _), Option.bind_some, if_pos rfl, if_pos mq_m1_lt]
    exact ⟨_, _, rfl, mq_X_of s3 hc hg hp c30 g6 p5 hZ, mq_D_refl⟩
  · have g5 : g < 6 := by omega
    rw [if_neg (show ¬ nI g = 6 from fun h => e6 (mg_inj (b := 6) (by omega) (by omega) h)), mg_wrn g5 (by omega), Option.bind_some] at s2
    have u08 : mg_su (mg_su τ 0 0 0) 9 g (nI (10 * y + x)) 0 8 = nI g := hg
    rw [u08, mg_wrn g5 (by omega), Option.bind_some] at s2
    have v08 : mg_su (mg_su (mg_su τ 0 0 0) 9 g (nI (10 * y + x))) 10 g (nI d) 0 8 = nI g := hg
    rw [v08] at s2
    cases s2
    obtain ⟨v, rfl⟩ := mg_cd_ok s4.symm (by decide) (by decide) (by decide)
    have hv := s5 v rfl
    dsimp only at hv s3
    have hv2 : v = nI g := by rw [← hv, mg_su_eq, if_pos rfl, nI_1, nI_pred]
    rw [mg_xc_ok, if_neg (mg_le (N := 6) (M := 6) rfl (by omega) g5), Option.bind_some, if_pos hv2, if_neg (by rw [hv2]; exact nI_pos (by omega)), show mg_gd (g ≤ 30) = some () from if_pos (by omega), Option.bind_some]
    refine ⟨_, _, rfl, mq_X_of (g := g + 1) s3 hc ?_ hp c30 g5 p5 ?_, ?_⟩
    · rw [mg_su_eq, if_pos rfl, nI_1]
    · obtain ⟨⟨y1, y2, y3, y4, y5⟩, yc, yj, yi, yp⟩ := hZ
      refine ⟨⟨?_, ?_, ?_, ?_, ?_⟩, ?_, ?_, ?_, ?_⟩
      · rw [mg_zm_2, if_neg (by omega)]; exact y1
      · rw [mg_zm_2, if_pos rfl, y2]
      · rw [mg_zm_2, if_neg (by omega)]; exact y3
      · rw [mg_zm_at, if_neg (by omega)]; exact y4
      · rw [mg_zm_at, if_neg (by omega)]; exact y5
      · intro q hq'
        rw [mg_zm_at, if_neg (by omega)]; exact yc q hq'
      · intro i hi
        rw [mg_zm_at, if_neg (by omega)]; exact yj i hi
      · intro j hj
        rw [mg_zm_at, y2]
        by_cases e : j = g
        · rw [if_pos ⟨rfl, e⟩, e]
          refine ⟨10 * y + x, d, hq, hd, ?_, ?_, ?_, ?_, rfl⟩
          · rw [mg_su_ne (by decide), mg_su_ne (by decide), mg_su_eq, if_pos rfl]
          · rw [mg_su_ne (by decide), mg_su_eq, if_pos rfl]
          · rw [show (10 * y + x) % 10 = x by omega]; rfl
          · rw [show (10 * y + x) / 10 = y by omega]; rfl
        · rw [if_neg (fun d => e d.2)]
          obtain ⟨q, d', a1, a2, a3, a4, a5, a6, a7⟩ := yi j (by omega)
          refine ⟨q, d', a1, a2, ?_, ?_, a5, a6, a7⟩
          · rw [mg_su_ne (by decide), mg_su_ne (by decide), mg_su_eq, if_neg e]; exact a3
          · rw [mg_su_ne (by decide), mg_su_eq, if_neg e]; exact a4
      · intro i hi
        rw [mg_zm_at, if_neg (by omega)]; exact yp i hi
    · intro m hm em
      exact ⟨m, by omega, by omega, by rw [mg_zm_at, if_neg (by omega)]; exact em⟩
theorem a_invite (hT : mq_T σ ζ c g p μ) (a2 : Int32) : mq_A ζ (f_L_act_980 σ ζ a2) := by
  obtain ⟨c30, g6, p5⟩ := mq_c30 hT
  obtain ⟨τ, I, hZ, hc, hg, hp⟩ := mq_T_inv hT
  have h21 : ζ.2 1 = g := hZ.1.2.1
  have h22 : ζ.2 2 = p := hZ.1.2.2.1
  unfold f_L_act_980
  rw [h21, h22]
  by_cases c0 : nI g = 0
  · rw [if_pos c0]; exact mq_A_none hT
  have c1 : 0 < g := by
    rcases Nat.eq_zero_or_pos g with h | h
    · exact absurd (by rw [h]; rfl) c0
    · exact h
  rw [if_neg c0]
  obtain ⟨r, hr, e4⟩ := mq_below (a2 >>> (4 &&& 31)) (n := g) c1 (by omega)
  rw [e4, Option.bind_some]
  have e2 : (upd (upd (fun _ => 0) 0 (nI r)) 1 0) 0 = nI r := rfl
  rw [e2]
  obtain ⟨out, σ1, w, s1, s2, s3, s4, s5, s6⟩ := sim_invite I (nI r)
  rw [s1]
  unfold f_X8_invite at s2
  have t011 : mg_su τ 0 0 0 0 11 = nI p := hp
  rw [k8_isGate (τ := mg_su τ 0 0 0) hg, k8_idx hr (by omega), Option.bind_some, if_neg (show ¬ (1 : Int32) = 0 by decide), t011] at s2
  by_cases e5 : p = 5
  · rw [if_pos (show nI p = 5 by rw [e5]; rfl)] at s2
    cases s2
    have ho := mg_cd_2 s4.symm (by decide) (by decide) (by decide)
    subst ho
    rw [mg_xc_2, if_pos (show (5 : Int32) ≤ nI p by rw [e5]; exact Int32.le_refl _), Option.bind_some, if_pos rfl, if_pos mq_m1_lt]
    exact ⟨_, _, rfl, mq_X_of s3 hc hg hp c30 g6 p5 hZ, mq_D_refl⟩
  · have p4 : p < 5 := by omega
    rw [if_neg (show ¬ nI p = 5 from fun h => e5 (mg_inj (b := 5) (by omega) (by omega) h)), mg_wrn p4 (by omega), Option.bind_some] at s2
    have u011 : mg_su (mg_su τ 0 0 0) 11 p (nI r) 0 11 = nI p := hp
    rw [u011] at s2
    cases s2
    obtain ⟨v, rfl⟩ := mg_cd_ok s4.symm (by decide) (by decide) (by decide)
    have hv := s5 v rfl
    dsimp only at hv s3
    have hv2 : v = nI p := by rw [← hv, mg_su_eq, if_pos rfl, nI_1, nI_pred]
    rw [mg_xc_ok, if_neg (mg_le (N := 5) (M := 5) rfl (by omega) p4), Option.bind_some, if_pos hv2, if_neg (by rw [hv2]; exact nI_pos (by omega)), show mg_gd (p ≤ 30) = some () from if_pos (by omega), Option.bind_some]
    refine ⟨_, _, rfl, mq_X_of (p := p + 1) s3 hc hg ?_ c30 g6 p4 ?_, ?_⟩
    · rw [mg_su_eq, if_pos rfl, nI_1]
    · obtain ⟨⟨y1, y2, y3, y4, y5⟩, yc, yj, yi, yp⟩ := hZ
      refine ⟨⟨?_, ?_, ?_, ?_, ?_⟩, ?_, ?_, ?_, ?_⟩
      · rw [mg_zm_2, if_neg (by omega)]; exact y1
      · rw [mg_zm_2, if_neg (by omega)]; exact y2
      · rw [mg_zm_2, if_pos rfl, y3]
      · rw [mg_zm_at, if_neg (by omega)]; exact y4
      · rw [mg_zm_at, if_neg (by omega)]; exact y5
      · intro q hq'
        rw [mg_zm_at, if_neg (by omega)]; exact yc q hq'
      · intro i hi
        rw [mg_zm_at, if_neg (by omega)]; exact yj i hi
      · intro i hi
        rw [mg_zm_at, if_neg (by omega)]; exact yi i hi
      · intro j hj
        rw [mg_zm_at, y3]
        by_cases e : j = p
        · rw [if_pos ⟨rfl, e⟩, e]
          refine ⟨?_, ?_⟩
          · rw [mg_su_ne (by decide), mg_su_eq, if_pos rfl]; rfl
          · have := mq_new1 I hp p4
            show 0 = τ 13 p
            rw [this]
        · rw [if_neg (fun d => e d.2)]
          obtain ⟨a1, a2⟩ := yp j (by omega)
          refine ⟨?_, a2⟩
          rw [mg_su_ne (by decide), mg_su_eq, if_neg e]; exact a1
    · intro m hm em
      exact ⟨m, by omega, by omega, by rw [mg_zm_at, if_neg (by omega)]; exact em⟩
theorem a_lead (hT : mq_T σ ζ c g p μ) (a2 : Int32) : mq_A ζ (f_L_act_1077 σ ζ a2) := by
  obtain ⟨c30, g6, p5⟩ := mq_c30 hT
  obtain ⟨τ, I, hZ, hc, hg, hp⟩ := mq_T_inv hT
  have h21 : ζ.2 1 = g := hZ.1.2.1
  have h22 : ζ.2 2 = p := hZ.1.2.2.1
  unfold f_L_act_1077
  rw [h21, h22]
  by_cases c0 : nI p = 0
  · rw [if_pos c0]; exact mq_A_none hT
  have c1 : 0 < p := by
    rcases Nat.eq_zero_or_pos p with h | h
    · exact absurd (by rw [h]; rfl) c0
    · exact h
  have g1 : 0 < g := by
    obtain ⟨i, hi, -⟩ := mq_poet hT c1
    omega
  rw [if_neg c0]
  obtain ⟨r, hr, e4⟩ := mq_below (a2 >>> (4 &&& 31)) (n := p) c1 (by omega)
  obtain ⟨k, hk, e6⟩ := mq_below (a2 >>> (6 &&& 31)) (n := g) g1 (by omega)
  rw [e4, Option.bind_some, mg_ixn hr (by omega), Option.bind_some, Option.bind_some, e6, Option.bind_some, mg_zu_2, h22, mg_ixn hr (by omega), Option.bind_some]
  have e2 : (mg_zu ζ 5 r 0 (nI k)).1 5 r 0 = nI k := by rw [mg_zu_at, if_pos ⟨rfl, rfl, rfl⟩]
  rw [e2]
  obtain ⟨out, σ1, w, s1, s2, s3, s4, s5, s6, s7⟩ := sim_lead I (nI r) (nI k)
  rw [s1]
  unfold f_X8_lead at s2
  rw [k8_isPoet (τ := mg_su τ 0 0 0) hp, k8_idx hr (by omega), Option.bind_some, if_neg (show ¬ (1 : Int32) = 0 by decide), k8_isGate (τ := mg_su τ 0 0 0) hg, k8_idx hk (by omega), Option.bind_some, if_neg (show ¬ (1 : Int32) = 0 by decide), mg_rdn (show r < 5 by omega) (by omega), Option.bind_some, mg_wrn (show r < 5 by omega) (by omega), Option.bind_some] at s2
  cases s2
  obtain ⟨v, rfl⟩ := mg_cd_ok s4.symm (by decide) (by decide) (by decide)
  have hv := s5 v rfl
  dsimp only at hv s3
  have hv2 : v = ζ.1 5 r 0 := by
    rw [← hv]
    exact ((hZ.2.2.2.2 r hr).1).symm
  rw [mg_xq_ok, if_pos hv2]
  refine ⟨_, _, rfl, mq_X_of s3 hc hg hp c30 g6 p5 ?_, ?_⟩
  · obtain ⟨⟨y1, y2, y3, y4, y5⟩, yc, yj, yi, yp⟩ := hZ
    refine ⟨⟨y1, y2, y3, ?_, ?_⟩, ?_, ?_, ?_, ?_⟩
    · rw [mg_zu_at, if_neg (by omega)]; exact y4
    · rw [mg_zu_at, if_neg (by omega)]; exact y5
    · intro q hq'
      rw [mg_zu_row (by omega)]; exact yc q hq'
    · intro i hi
      rw [mg_zu_row (by omega)]; exact yj i hi
    · intro i hi
      rw [mg_zu_row (by omega)]; exact yi i hi
    · intro j hj
      rw [mg_zu_at, mg_zu_at, mg_su_eq, if_neg (show ¬ (5 = 5 ∧ j = r ∧ 1 = 0) by omega)]
      refine ⟨?_, (yp j hj).2⟩
      by_cases e : j = r
      · rw [if_pos ⟨rfl, e, rfl⟩, if_pos e]
      · rw [if_neg (fun d => e d.2.1), if_neg e]; exact (yp j hj).1
  · intro m hm em
    exact ⟨m, by omega, by omega, by rw [mg_zu_at, if_neg (by omega)]; exact em⟩
theorem mq_A_if {P : Prop} [Decidable P] {a b : Option (mg_St × mg_Sz)} (ha : mq_A ζ a) (hb : mq_A ζ b) : mq_A ζ (if P then a else b) := by
  by_cases h : P
  · rw [if_pos h]; exact ha
  · rw [if_neg h]; exact hb
theorem a_act (hT : mq_T σ ζ c g p μ) (v : Int32) : mq_A ζ (f_L_act σ ζ v) := by
  unfold f_L_act
  obtain ⟨r1, h1, e1⟩ := mq_below (v >>> (9 &&& 31)) (n := 2) (by omega) (by omega)
  obtain ⟨x, hx, ex⟩ : ∃ x, x < 10 ∧ (if nI r1 = 0 then (Option.bind (f_L_below (v >>> (3 &&& 31)) 10) fun y6 => some y6) else (Option.bind (f_L_below (v >>> (4 &&& 31)) 4) fun y4 => some (3 + y4)) : Option Int32) = some (nI x) := by
    by_cases k : nI r1 = 0
    · obtain ⟨r, hr, e⟩ := mq_below (v >>> (3 &&& 31)) (n := 10) (by omega) (by omega)
      exact ⟨r, hr, by rw [if_pos k, show f_L_below (v >>> (3 &&& 31)) 10 = _ from e]; rfl⟩
    · obtain ⟨r, hr, e⟩ := mq_below (v >>> (4 &&& 31)) (n := 4) (by omega) (by omega)
      exact ⟨3 + r, by omega, by rw [if_neg k, show f_L_below (v >>> (4 &&& 31)) 4 = _ from e, Option.bind_some, show (3 : Int32) + nI r = nI (3 + r) from nI_add 3 r]⟩
  obtain ⟨r2, h2, e2⟩ := mq_below (v >>> (8 &&& 31)) (n := 2) (by omega) (by omega)
  obtain ⟨y, hy, ey⟩ : ∃ y, y < 7 ∧ (if nI r2 = 0 then (Option.bind (f_L_below (v >>> (6 &&& 31)) 7) fun y13 => some y13) else (Option.bind (f_L_below (v >>> (5 &&& 31)) 3) fun y11 => some (2 + y11)) : Option Int32) = some (nI y) := by
    by_cases k : nI r2 = 0
    · obtain ⟨r, hr, e⟩ := mq_below (v >>> (6 &&& 31)) (n := 7) (by omega) (by omega)
      exact ⟨r, hr, by rw [if_pos k, show f_L_below (v >>> (6 &&& 31)) 7 = _ from e]; rfl⟩
    · obtain ⟨r, hr, e⟩ := mq_below (v >>> (5 &&& 31)) (n := 3) (by omega) (by omega)
      exact ⟨2 + r, by omega, by rw [if_neg k, show f_L_below (v >>> (5 &&& 31)) 3 = _ from e, Option.bind_some, show (2 : Int32) + nI r = nI (2 + r) from nI_add 2 r]⟩
  obtain ⟨r3, h3, e3⟩ := mq_below v (n := 15) (by omega) (by omega)
  rw [show f_L_below (v >>> (9 &&& 31)) 2 = _ from e1, Option.bind_some, ex, Option.bind_some, show f_L_below (v >>> (8 &&& 31)) 2 = _ from e2, Option.bind_some, ey, Option.bind_some, mg_ixn hy (by omega), Option.bind_some, mg_ixn hx (by omega), Option.bind_some, show f_L_below v 15 = _ from e3, Option.bind_some]
  exact mq_A_if (a_rock hT hx hy v) (mq_A_if (a_rock hT hx hy v) (mq_A_if (a_dig hT hx hy) (mq_A_if (a_dig hT hx hy) (mq_A_if (a_dig hT hx hy) (mq_A_if (a_wall hT hx hy) (mq_A_if (a_clear hT hx hy) (mq_A_if (a_carp hT hx hy) (mq_A_if (a_carp hT hx hy) (mq_A_if (a_carp hT hx hy) (mq_A_if (a_sell hT v) (mq_A_if (a_gate hT hx hy v) (mq_A_if (a_gate hT hx hy v) (mq_A_if (a_invite hT v) (a_lead hT v))))))))))))))
end AG
