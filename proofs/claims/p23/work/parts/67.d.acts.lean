section AF
variable {σ τ : mg_St} {ζ : mg_Sz} {c g p : Nat} {μ : Nat → Nat}
theorem mg_zm_at {w t j : Nat} {f : Nat → Int32} : (mg_zm ζ w f).1 t j = if t = 3 + w ∧ j = ζ.2 w then f else ζ.1 t j := rfl
theorem mg_zm_2 {w k : Nat} {f : Nat → Int32} : (mg_zm ζ w f).2 k = if k = w then ζ.2 w + 1 else ζ.2 k := rfl
theorem k8_idx {n r : Nat} (hr : r < n) (hn : n ≤ 100) : f_X8_isIn τ (nI r) 0 (nI n - 1) = some 1 := by
  obtain ⟨m, rfl⟩ : ∃ m, n = m + 1 := ⟨n - 1, by omega⟩
  rw [nI_pred, mg_isIn, if_pos ⟨nI_pos (by omega), nI_le (by omega) (by omega)⟩]
theorem mq_new0 (I : mg_Inv σ τ) (hc : τ 0 5 = nI c) (bc : c < 30) : τ 8 c = 0 := by
  obtain ⟨c', g', p', μ, hI, hR⟩ := I
  obtain ⟨n1, n2, n3, n4, n5, n6, n7, n8, n9, n10⟩ := hI.1
  have e1 : c' = c := mg_inj (by omega) (by omega) (by rw [← n5, hc])
  subst e1
  exact n10 c' (Nat.le_refl _) bc
theorem mq_new1 (I : mg_Inv σ τ) (hp : τ 0 11 = nI p) (bp : p < 5) : τ 13 p = 0 := by
  obtain ⟨c', g', p', μ, hI, hR⟩ := I
  obtain ⟨n1, n2, n3, n4, n5, n6, n7, n8, n9, n10⟩ := hI.1
  have e1 : p' = p := mg_inj (by omega) (by omega) (by rw [← n9, hp])
  subst e1
  rw [hR.2.2.2.1 p' bp]; exact hR.2.2.2.2 p' (Nat.le_refl _) bp
theorem mq_lt4 (w : Int32) : w ≤ 3 ↔ w < 4 := by constructor <;> intro h <;> grind
theorem a_carp (hT : mq_T σ ζ c g p μ) {x y : Nat} (hx : x < 10) (hy : y < 7) : mq_A ζ (f_L_act_639 y x σ ζ (nI x) (nI y)) := by
  have hq : 10 * y + x < 70 := by omega
  obtain ⟨c30, g6, p5⟩ := mq_c30 hT
  obtain ⟨τ, I, hZ, hc, hg, hp⟩ := mq_T_inv hT
  unfold f_L_act_639
  obtain ⟨out, σ1, w, s1, s2, s3, s4, s5, s6⟩ := sim_carp I (nI x) (nI y)
  rw [s1]
  have hk : ζ.1 2 (10 * y + x) 0 = τ 3 (10 * y + x) := (hZ.2.1 _ hq).1
  have hcn : ζ.1 0 0 1 = τ 1 1 := hZ.1.2.2.2.2
  have h20 : ζ.2 0 = c := hZ.1.1
  unfold f_X8_carp at s2
  have t3 : mg_su τ 0 0 0 3 (10 * y + x) = τ 3 (10 * y + x) := rfl
  have t1 : mg_su τ 0 0 0 1 1 = τ 1 1 := rfl
  have t05 : mg_su τ 0 0 0 0 5 = nI c := hc
  rw [k8_in hx hy, Option.bind_some, if_neg (show ¬ (1 : Int32) = 0 by decide), mg_num10 hx hy, mg_rdn hq (Nat.le_refl 70), Option.bind_some, t3, t1, t05] at s2
  rw [h20, hk, hcn]
  have fail : (some (0, mg_su (mg_su τ 0 0 0) 0 0 2) = some w) → ∀ (K : Int32 → mg_St → Option (mg_St × mg_Sz)), K (-1) σ1 = some (σ1, ζ) → mq_A ζ (mg_xc (some (out, σ1)) K) := by
    intro e K hK
    cases e
    have ho := mg_cd_2 s4.symm (by decide) (by decide) (by decide)
    subst ho
    rw [mg_xc_2, hK]
    exact ⟨_, _, rfl, mq_X_of s3 hc hg hp c30 g6 p5 hZ, mq_D_refl⟩
  by_cases k2 : τ 3 (10 * y + x) = 2
  · rw [if_pos k2] at s2
    rw [if_pos k2]
    by_cases l : τ 1 1 < 4
    · rw [if_pos l] at s2
      rw [if_pos ((mq_lt4 _).2 l), Option.bind_some]
      exact fail s2 _ (by rw [if_pos rfl, Option.bind_some, if_pos rfl, if_pos rfl])
    · rw [if_neg l] at s2
      rw [if_neg (fun d => l ((mq_lt4 _).1 d))]
      by_cases e30 : c = 30
      · rw [if_pos (show nI c = 30 by rw [e30]; rfl)] at s2
        rw [if_pos (show (30 : Int32) ≤ nI c by rw [e30]; exact Int32.le_refl _), Option.bind_some]
        exact fail s2 _ (by rw [if_pos rfl, Option.bind_some, if_pos rfl, if_pos rfl])
      · have c29 : c < 30 := by omega
        rw [if_neg (show ¬ nI c = 30 from fun d => e30 (mg_inj (b := 30) (by omega) (by omega) d))] at s2
        rw [if_neg (mg_le (N := 30) (M := 30) rfl (by omega) c29), Option.bind_some]
        have u05 : mg_su (mg_su τ 0 0 0) 1 1 (τ 1 1 - 4) 0 5 = nI c := hc
        rw [u05, mg_wrn c29 (by omega), Option.bind_some] at s2
        have v05 : mg_su (mg_su (mg_su τ 0 0 0) 1 1 (τ 1 1 - 4)) 7 c (nI (10 * y + x)) 0 5 = nI c := hc
        rw [v05, mg_wrn c29 (by omega), Option.bind_some] at s2
        have w05 : mg_su (mg_su (mg_su (mg_su τ 0 0 0) 1 1 (τ 1 1 - 4)) 7 c (nI (10 * y + x))) 12 c 1 0 5 = nI c := hc
        rw [w05] at s2
        cases s2
        obtain ⟨v, rfl⟩ := mg_cd_ok s4.symm (by decide) (by decide) (by decide)
        have hv := s5 v rfl
        dsimp only at hv s3
        have hv2 : v = nI c := by
          rw [← hv, mg_su_eq, if_pos rfl, nI_1, nI_pred]
        rw [mg_xc_ok, if_neg (show ¬ (1 : Int32) = 0 by decide), Option.bind_some, if_pos hv2, if_neg (show ¬ (1 : Int32) = 0 by decide), show mg_gd (c ≤ 30) = some () from if_pos c30, Option.bind_some]
        have ez : (mg_zm ζ 0 (upd (upd (upd (upd (fun _ => 0) 0 (nI x)) 1 (nI y)) 2 1) 3 0)).1 0 0 1 = τ 1 1 := by rw [mg_zm_at, if_neg (by omega), hcn]
        rw [ez]
        refine ⟨_, _, rfl, mq_X_of (c := c + 1) s3 ?_ hg hp c29 g6 p5 ?_, ?_⟩
        · rw [mg_su_eq, if_pos rfl, nI_1]
        · obtain ⟨⟨y1, y2, y3, y4, y5⟩, yc, yj, yi, yp⟩ := hZ
          refine ⟨⟨?_, ?_, ?_, ?_, ?_⟩, ?_, ?_, ?_, ?_⟩
          · rw [mg_zu_2, mg_zm_2, if_pos rfl, y1]
          · rw [mg_zu_2, mg_zm_2, if_neg (by omega)]; exact y2
          · rw [mg_zu_2, mg_zm_2, if_neg (by omega)]; exact y3
          · rw [mg_zu_at, if_neg (by omega), mg_zm_at, if_neg (by omega)]; exact y4
          · rw [mg_zu_at, if_pos ⟨rfl, rfl, rfl⟩]; rfl
          · intro q hq'
            rw [mg_zu_row (by omega), mg_zm_at, if_neg (by omega)]; exact yc q hq'
          · intro j hj
            rw [mg_zu_row (by omega), mg_zm_at, y1]
            by_cases e : j = c
            · rw [if_pos ⟨rfl, e⟩, e]
              refine ⟨10 * y + x, hq, ?_, ?_, ?_, ?_, ?_⟩
              · rw [mg_su_ne (by decide), mg_su_ne (by decide), mg_su_eq, if_pos rfl]
              · rw [show (10 * y + x) % 10 = x by omega]; rfl
              · rw [show (10 * y + x) / 10 = y by omega]; rfl
              · rw [mg_su_ne (by decide), mg_su_eq, if_pos rfl]; rfl
              · have e8 := mq_new0 I hc c29
                show 0 = τ 8 c
                rw [e8]
            · rw [if_neg (fun d => e d.2)]
              obtain ⟨q, a1, a2, a3, a4, a5, a6⟩ := yj j (by omega)
              refine ⟨q, a1, ?_, a3, a4, ?_, a6⟩
              · rw [mg_su_ne (by decide), mg_su_ne (by decide), mg_su_eq, if_neg e]; exact a2
              · rw [mg_su_ne (by decide), mg_su_eq, if_neg e]; exact a5
          · intro i hi
            rw [mg_zu_row (by omega), mg_zm_at, if_neg (by omega)]; exact yi i hi
          · intro i hi
            rw [mg_zu_row (by omega), mg_zm_at, if_neg (by omega)]; exact yp i hi
        · intro m hm em
          rw [hcn] at em
          rw [em] at l
          obtain ⟨d1, d2⟩ := mq_coin hm (show 4 ≤ 21 by omega) l
          refine ⟨m - 4, by omega, by omega, ?_⟩
          rw [mg_zu_at, if_pos ⟨rfl, rfl, rfl⟩, em]; exact d2
  · rw [if_neg k2] at s2
    rw [if_neg k2, Option.bind_some]
    exact fail s2 _ (by rw [if_pos rfl, Option.bind_some, if_pos rfl, if_pos rfl])
theorem mq_half_fin : ∀ z : Fin 41, ∃ w : Fin 22, 1 ≤ w.1 ∧ nI z.1 / 2 + 1 = nI w.1 := by decide +kernel
theorem a_sell (hT : mq_T σ ζ c g p μ) (a2 : Int32) : mq_A ζ (f_L_act_764 σ ζ a2) := by
  obtain ⟨c30, g6, p5⟩ := mq_c30 hT
  obtain ⟨τ, I, hZ, hc, hg, hp⟩ := mq_T_inv hT
  have h20 : ζ.2 0 = c := hZ.1.1
  have hcn : ζ.1 0 0 1 = τ 1 1 := hZ.1.2.2.2.2
  unfold f_L_act_764
  rw [h20]
  by_cases c0 : nI c = 0
  · rw [if_pos c0]; exact mq_A_none hT
  have c1 : 0 < c := by
    rcases Nat.eq_zero_or_pos c with h | h
    · exact absurd (by rw [h]; rfl) c0
    · exact h
  rw [if_neg c0]
  obtain ⟨r3, hr3, e3⟩ := mq_below (a2 >>> (7 &&& 31)) (n := 3) (by omega) (by omega)
  rw [show f_L_below (a2 >>> (7 &&& 31)) 3 = _ from e3, Option.bind_some]
  by_cases hz : nI r3 ≤ 0
  rotate_left
  · rw [if_neg hz]; exact mq_A_none hT
  obtain ⟨r, hr, e4⟩ := mq_below (a2 >>> (4 &&& 31)) (n := c) c1 (by omega)
  rw [if_pos hz, e4, Option.bind_some, mg_ixn hr (by omega), Option.bind_some]
  obtain ⟨out, σ1, w, s1, s2, s3, s4, s5, s6⟩ := sim_sell I (nI r)
  rw [s1]
  obtain ⟨q, a1, a2', a3, a4, a5, a6⟩ := hZ.2.2.1 r hr
  have s7 := (mq_carp hT hr).2.2.2.2.2.2.1
  obtain ⟨z, z1, z2, z3⟩ := (mq_carp hT hr).2.2.2.2.2.2.2.2
  unfold f_X8_sell at s2
  have t05 : mg_su τ 0 0 0 0 5 = nI c := hc
  have t8 : mg_su τ 0 0 0 8 r = ζ.1 3 r 3 := a6.symm
  rw [t05, k8_idx hr (by omega), Option.bind_some, if_neg (show ¬ (1 : Int32) = 0 by decide), mg_rdn (show r < 30 by omega) (by omega), Option.bind_some, t8] at s2
  rcases s7 with s | s
  · rw [if_neg (by rw [s]; decide), mg_wrn (show r < 30 by omega) (by omega), Option.bind_some, mg_rdn (show r < 30 by omega) (by omega), Option.bind_some] at s2
    have t12 : mg_su (mg_su τ 0 0 0) 8 r 1 12 r = ζ.1 3 r 2 := a5.symm
    have t1 : mg_su (mg_su τ 0 0 0) 8 r 1 1 1 = τ 1 1 := rfl
    rw [t12, t1] at s2
    cases s2
    obtain ⟨v, rfl⟩ := mg_cd_ok s4.symm (by decide) (by decide) (by decide)
    have hv := s5 v rfl
    dsimp only at hv s3
    rw [if_pos s, Option.bind_some, mg_xc_ok, if_neg (show ¬ (1 : Int32) = 0 by decide)]
    have ez1 : (mg_zu ζ 3 r 3 1).1 0 0 1 = τ 1 1 := by rw [mg_zu_at, if_neg (by omega), hcn]
    have ez2 : (mg_zu ζ 3 r 3 1).1 3 r 2 = ζ.1 3 r 2 := by rw [mg_zu_at, if_neg (by omega)]
    rw [ez1, ez2, Option.bind_some, if_neg (show ¬ (1 : Int32) = 0 by decide)]
    have eq1 : v = (mg_zu (mg_zu ζ 3 r 3 1) 0 0 1 (τ 1 1 + (ζ.1 3 r 2 / 2 + 1))).1 0 0 1 := by
      rw [mg_zu_at, if_pos ⟨rfl, rfl, rfl⟩, ← hv]; rfl
    rw [if_pos eq1]
    refine ⟨_, _, rfl, mq_X_of s3 hc hg hp c30 g6 p5 ?_, ?_⟩
    · obtain ⟨⟨y1, y2, y3, y4, y5⟩, yc, yj, yi, yp⟩ := hZ
      refine ⟨⟨y1, y2, y3, ?_, ?_⟩, ?_, ?_, ?_, ?_⟩
      · rw [mg_zu_at, if_neg (by omega), mg_zu_at, if_neg (by omega)]; exact y4
      · rw [mg_zu_at, if_pos ⟨rfl, rfl, rfl⟩]; rfl
      · intro q hq'
        rw [mg_zu_row (by omega), mg_zu_row (by omega)]; exact yc q hq'
      · intro j hj
        obtain ⟨q', b1, b2, b3, b4, b5, b6⟩ := yj j hj
        rw [mg_zu_row (by omega)]
        refine ⟨q', b1, b2, by rw [mg_zu_at, if_neg (by omega)]; exact b3, by rw [mg_zu_at, if_neg (by omega)]; exact b4, by rw [mg_zu_at, if_neg (by omega)]; exact b5, ?_⟩
        rw [mg_zu_at, mg_su_ne (by decide), mg_su_eq]
        by_cases e : j = r
        · rw [if_pos ⟨rfl, e, rfl⟩, if_pos e]
        · rw [if_neg (fun d => e d.2.1), if_neg e]; exact b6
      · intro i hi
        rw [mg_zu_row (by omega), mg_zu_row (by omega)]; exact yi i hi
      · intro i hi
        rw [mg_zu_row (by omega), mg_zu_row (by omega)]; exact yp i hi
    · intro m hm em
      obtain ⟨w, w1, w2⟩ := mq_half_fin ⟨z, by omega⟩
      refine ⟨m + w.1, by omega, by omega, ?_⟩
      rw [mg_zu_at, if_pos ⟨rfl, rfl, rfl⟩, ← hcn, em, z3]
      dsimp only at w2
      rw [w2, nI_add]
  · rw [if_pos s] at s2
    cases s2
    have ho := mg_cd_2 s4.symm (by decide) (by decide) (by decide)
    subst ho
    rw [if_neg (by rw [s]; decide), Option.bind_some, mg_xc_2, if_pos rfl, Option.bind_some, if_pos rfl, if_pos rfl]
    exact ⟨_, _, rfl, mq_X_of s3 hc hg hp c30 g6 p5 hZ, mq_D_refl⟩
end AF
