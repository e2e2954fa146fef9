section AD
variable {σ τ : mg_St} {ζ : mg_Sz} {c g p : Nat} {μ : Nat → Nat}
/-- a cell changed in both -/
theorem mq_Zt_set {τ1 : mg_St} {ζ1 : mg_Sz} {q : Nat} {k : Int32} (hZ : mq_Zt τ ζ c g p)
    (t3 : ∀ j, τ1 3 j = if j = q then k else τ 3 j) (t4 : ∀ j, j ≠ q → τ1 4 j = τ 4 j) (t5 : ∀ j, j ≠ q → τ1 5 j = τ 5 j) (t7 : ∀ a, 7 ≤ a → τ1 a = τ a) (t10 : τ1 1 0 = τ 1 0)
    (z2 : ζ1.2 = ζ.2) (zc : ζ1.1 0 0 1 = τ1 1 1) (zd : ζ1.1 0 0 0 = ζ.1 0 0 0) (zk : ζ1.1 2 q 0 = k) (zj : ∀ j, j ≠ q → ζ1.1 2 j = ζ.1 2 j) (zr : ∀ t, 3 ≤ t → ζ1.1 t = ζ.1 t)
    (hk : k = 1 → ζ1.1 2 q 1 = τ1 4 q ∧ ζ1.1 2 q 2 = τ1 5 q ∧ ∃ z, 1 ≤ z ∧ z < 10 ∧ τ1 5 q = nI z) : mq_Zt τ1 ζ1 c g p := by
  obtain ⟨⟨y1, y2, y3, y4, y5⟩, yc, yj, yi, yp⟩ := hZ
  refine ⟨⟨by rw [z2]; exact y1, by rw [z2]; exact y2, by rw [z2]; exact y3, by rw [zd, t10]; exact y4, zc⟩, ?_, ?_, ?_, ?_⟩
  · intro j hj
    rw [t3]
    by_cases e : j = q
    · rw [if_pos e, e]; exact ⟨zk, fun h => hk h⟩
    · rw [if_neg e, zj j e, t4 j e, t5 j e]; exact yc j hj
  · intro j hj
    rw [zr 3 (by omega), t7 7 (by omega), t7 12 (by omega), t7 8 (by omega)]; exact yj j hj
  · intro i hi
    rw [zr 4 (by omega), t7 9 (by omega), t7 10 (by omega)]; exact yi i hi
  · intro i hi
    rw [zr 5 (by omega), t7 11 (by omega), t7 13 (by omega)]; exact yp i hi
theorem mq_coin {m k : Nat} (hm : m < 10000000) (hk : k ≤ 21) (h : ¬ nI m < nI k) : k ≤ m ∧ nI m - nI k = nI (m - k) := by
  have h1 : k ≤ m := by
    rcases Nat.lt_or_ge m k with a | a
    · exact absurd (nI_lt a (by omega)) h
    · exact a
  exact ⟨h1, nI_sub h1⟩
theorem a_rock (hT : mq_T σ ζ c g p μ) {x y : Nat} (hx : x < 10) (hy : y < 7) (a2 : Int32) : mq_A ζ (f_L_act_152 y x σ ζ a2 (nI x) (nI y)) := by
  have hq : 10 * y + x < 70 := by omega
  obtain ⟨c30, g6, p5⟩ := mq_c30 hT
  obtain ⟨τ, I, hZ, hc, hg, hp⟩ := mq_T_inv hT
  unfold f_L_act_152
  obtain ⟨s, hs, e1⟩ := mq_below (a2 >>> (4 &&& 31)) (n := 6) (by omega) (by omega)
  obtain ⟨r, hr, e2⟩ := mq_below (a2 >>> (3 &&& 31)) (n := 2) (by omega) (by omega)
  obtain ⟨N, hN, e3⟩ : ∃ N, (0 < N ∧ N ≤ 9) ∧ (if nI r = 0 then some 9 else some 4 : Option Int32) = some (nI N) := by
    by_cases k : nI r = 0
    · exact ⟨9, by omega, by rw [if_pos k]; rfl⟩
    · exact ⟨4, by omega, by rw [if_neg k]; rfl⟩
  obtain ⟨z, hz, e4⟩ := mq_below (a2 >>> (7 &&& 31)) (n := N) (by omega) (by omega)
  have e5 : 1 + nI z = nI (1 + z) := nI_add 1 z
  have e6 : 2 * nI (1 + z) = nI (2 * (1 + z)) := nI_mul 2 (1 + z)
  rw [show f_L_below (a2 >>> (4 &&& 31)) 6 = _ from e1, Option.bind_some, show f_L_below (a2 >>> (3 &&& 31)) 2 = _ from e2, Option.bind_some, e3, Option.bind_some, e4, Option.bind_some, e5, e6]
  obtain ⟨out, σ1, w, s1, s2, s3, s4, s5⟩ := sim_rock I (nI x) (nI y) (nI s) (nI (1 + z))
  rw [s1]
  have hk : ζ.1 2 (10 * y + x) 0 = τ 3 (10 * y + x) := (hZ.2.1 _ hq).1
  have hcn : ζ.1 0 0 1 = τ 1 1 := hZ.1.2.2.2.2
  unfold f_X8_rock at s2
  rw [k8_in hx hy, Option.bind_some, if_neg (show ¬ (1 : Int32) = 0 by decide), mg_isIn, if_pos (show ¬ nI s < 0 ∧ nI s ≤ 5 from ⟨nI_pos (by omega), nI_le (b := 5) (by omega) (by omega)⟩), Option.bind_some, if_neg (show ¬ (1 : Int32) = 0 by decide), mg_isIn, if_pos (show ¬ nI (1 + z) < 1 ∧ nI (1 + z) ≤ 9 from ⟨nI_nlt (b := 1) (by omega) (by omega), nI_le (b := 9) (by omega) (by omega)⟩), Option.bind_some, if_neg (show ¬ (1 : Int32) = 0 by decide), k8_can hx hy, Option.bind_some, e6] at s2
  have t3 : mg_su τ 0 0 0 3 (10 * y + x) = τ 3 (10 * y + x) := rfl
  have t1 : mg_su τ 0 0 0 1 1 = τ 1 1 := rfl
  rw [t3, t1] at s2
  by_cases can : τ 3 (10 * y + x) = 0 ∧ ¬ τ 1 1 < nI (2 * (1 + z))
  · rw [if_pos can, if_neg (show ¬ (1 : Int32) = 0 by decide), mg_num10 hx hy, mg_wrn hq (Nat.le_refl 70), Option.bind_some, mg_wrn hq (Nat.le_refl 70), Option.bind_some, k8_spent hq (mg_num10 hx hy), Option.bind_some] at s2
    cases s2
    obtain ⟨v, rfl⟩ := mg_cd_ok s4.symm (by decide) (by decide) (by decide)
    have hv := s5 v rfl
    dsimp only at hv s3
    rw [if_pos (by rw [hk]; exact can.1), if_neg (by rw [hcn]; exact can.2), Option.bind_some, mg_xc_ok, if_neg (show ¬ (1 : Int32) = 0 by decide)]
    simp only [mg_ixn hy (show 7 ≤ 70 by omega), mg_ixn hx (show 10 ≤ 70 by omega), Option.bind_some]
    have ez : (mg_zr ζ (10 * y + x) (upd (upd (upd (fun _ => 0) 0 1) 1 (nI s)) 2 (nI (1 + z)))).1 0 0 1 = τ 1 1 := by rw [mg_zr_at, if_neg (by omega), hcn]
    rw [ez]
    have eq1 : v = (mg_zu (mg_zr ζ (10 * y + x) (upd (upd (upd (fun _ => 0) 0 1) 1 (nI s)) 2 (nI (1 + z)))) 0 0 1 (τ 1 1 - nI (2 * (1 + z)))).1 0 0 1 := by
      rw [mg_zu_at, if_pos ⟨rfl, rfl, rfl⟩, ← hv]; rfl
    rw [if_pos eq1]
    refine ⟨_, _, rfl, mq_X_of s3 hc hg hp c30 g6 p5 ?_, ?_⟩
    · refine mq_Zt_set (q := 10 * y + x) (k := 1) hZ ?_ ?_ ?_ ?_ rfl rfl ?_ ?_ ?_ ?_ ?_ ?_
      · intro j; rw [mg_su_ne (by decide), mg_su_eq]; rfl
      · intro j hj; rw [mg_su_ne (by decide), mg_su_ne (by decide), mg_su_ne (by decide), mg_su_eq, if_neg hj]; rfl
      · intro j hj; rw [mg_su_ne (by decide), mg_su_ne (by decide), mg_su_eq, if_neg hj]; rfl
      · intro a ha; rw [mg_su_ne (by omega), mg_su_ne (by omega), mg_su_ne (by omega), mg_su_ne (by omega), mg_su_ne (by omega)]
      · rw [mg_zu_at, if_pos ⟨rfl, rfl, rfl⟩, mg_su_eq, if_pos rfl]; rfl
      · rw [mg_zu_at, if_neg (by omega), mg_zr_at, if_neg (by omega)]
      · rw [mg_zu_at, if_neg (by omega), mg_zr_at, if_pos ⟨rfl, rfl⟩]; rfl
      · intro j hj; funext i; rw [mg_zu_at, if_neg (by omega), mg_zr_at, if_neg (fun d => hj d.2)]
      · intro t ht; funext j i; rw [mg_zu_at, if_neg (by omega), mg_zr_at, if_neg (by omega)]
      · intro _
        rw [mg_zu_at, if_neg (by omega), mg_zr_at, if_pos ⟨rfl, rfl⟩, mg_zu_at, if_neg (by omega), mg_zr_at, if_pos ⟨rfl, rfl⟩]
        refine ⟨?_, ?_, 1 + z, by omega, by omega, ?_⟩
        · rw [mg_su_ne (by decide), mg_su_ne (by decide), mg_su_ne (by decide), mg_su_eq, if_pos rfl]; rfl
        · rw [mg_su_ne (by decide), mg_su_ne (by decide), mg_su_eq, if_pos rfl]; rfl
        · rw [mg_su_ne (by decide), mg_su_ne (by decide), mg_su_eq, if_pos rfl]
    · intro m hm em
      rw [hcn] at em
      rw [em] at can
      obtain ⟨d1, d2⟩ := mq_coin hm (show 2 * (1 + z) ≤ 21 by omega) can.2
      refine ⟨m - 2 * (1 + z), by omega, by omega, ?_⟩
      rw [mg_zu_at, if_pos ⟨rfl, rfl, rfl⟩, em, d2]
  · rw [if_neg can, if_pos rfl] at s2
    cases s2
    have ho := mg_cd_2 s4.symm (by decide) (by decide) (by decide)
    subst ho
    have e7 : (if ζ.1 2 (10 * y + x) 0 = 0 then (if ζ.1 0 0 1 < nI (2 * (1 + z)) then some 0 else some 1) else some 0 : Option Int32) = some 0 := by
      rw [hk, hcn]
      by_cases k : τ 3 (10 * y + x) = 0
      · rw [if_pos k]
        by_cases l : τ 1 1 < nI (2 * (1 + z))
        · rw [if_pos l]
        · exact absurd ⟨k, l⟩ can
      · rw [if_neg k]
    rw [e7, Option.bind_some, mg_xc_2, if_pos rfl, Option.bind_some, if_pos rfl, if_pos rfl]
    exact ⟨_, _, rfl, mq_X_of s3 hc hg hp c30 g6 p5 hZ, mq_D_refl⟩
theorem a_wall (hT : mq_T σ ζ c g p μ) {x y : Nat} (hx : x < 10) (hy : y < 7) : mq_A ζ (f_L_act_397 y x σ ζ (nI x) (nI y)) := by
  have hq : 10 * y + x < 70 := by omega
  obtain ⟨c30, g6, p5⟩ := mq_c30 hT
  obtain ⟨τ, I, hZ, hc, hg, hp⟩ := mq_T_inv hT
  unfold f_L_act_397
  obtain ⟨out, σ1, w, s1, s2, s3, s4, s5, s6⟩ := sim_wall I (nI x) (nI y)
  rw [s1]
  have hk : ζ.1 2 (10 * y + x) 0 = τ 3 (10 * y + x) := (hZ.2.1 _ hq).1
  have hcn : ζ.1 0 0 1 = τ 1 1 := hZ.1.2.2.2.2
  unfold f_X8_wall at s2
  rw [k8_in hx hy, Option.bind_some, if_neg (show ¬ (1 : Int32) = 0 by decide), k8_can hx hy, Option.bind_some] at s2
  have t3 : mg_su τ 0 0 0 3 (10 * y + x) = τ 3 (10 * y + x) := rfl
  have t1 : mg_su τ 0 0 0 1 1 = τ 1 1 := rfl
  rw [t3, t1] at s2
  have l3 : ∀ w : Int32, w ≤ 2 ↔ w < 3 := by intro w; constructor <;> intro h <;> grind
  by_cases can : τ 3 (10 * y + x) = 0 ∧ ¬ τ 1 1 < 3
  · rw [if_pos can, if_neg (show ¬ (1 : Int32) = 0 by decide), k8_spent hq (mg_num10 hx hy), Option.bind_some] at s2
    cases s2
    obtain ⟨v, rfl⟩ := mg_cd_ok s4.symm (by decide) (by decide) (by decide)
    have hv := s5 v rfl
    dsimp only at hv s3
    rw [if_pos (by rw [hk]; exact can.1), if_neg (by rw [hcn, l3]; exact can.2), Option.bind_some, mg_xc_ok, if_neg (show ¬ (1 : Int32) = 0 by decide), Option.bind_some, if_neg (show ¬ (1 : Int32) = 0 by decide)]
    have ez : (mg_zu ζ 2 (10 * y + x) 0 3).1 0 0 1 = τ 1 1 := by rw [mg_zu_at, if_neg (by omega), hcn]
    rw [ez]
    have eq1 : v = (mg_zu (mg_zu ζ 2 (10 * y + x) 0 3) 0 0 1 (τ 1 1 - 3)).1 0 0 1 := by
      rw [mg_zu_at, if_pos ⟨rfl, rfl, rfl⟩, ← hv]; rfl
    rw [if_pos eq1]
    refine ⟨_, _, rfl, mq_X_of s3 hc hg hp c30 g6 p5 ?_, ?_⟩
    · refine mq_Zt_set (q := 10 * y + x) (k := 3) hZ ?_ (fun _ _ => rfl) (fun _ _ => rfl) ?_ rfl rfl ?_ ?_ ?_ ?_ ?_ (fun h => absurd h (by decide))
      · intro j; rw [mg_su_ne (by decide), mg_su_eq]; rfl
      · intro a ha; rw [mg_su_ne (by omega), mg_su_ne (by omega), mg_su_ne (by omega)]
      · rw [mg_zu_at, if_pos ⟨rfl, rfl, rfl⟩, mg_su_eq, if_pos rfl]; rfl
      · rw [mg_zu_at, if_neg (by omega), mg_zu_at, if_neg (by omega)]
      · rw [mg_zu_at, if_neg (by omega), mg_zu_at, if_pos ⟨rfl, rfl, rfl⟩]
      · intro j hj; funext i; rw [mg_zu_at, if_neg (by omega), mg_zu_at, if_neg (fun d => hj d.2.1)]
      · intro t ht; rw [mg_zu_row (by omega), mg_zu_row (by omega)]
    · intro m hm em
      rw [hcn] at em
      rw [em] at can
      obtain ⟨d1, d2⟩ := mq_coin hm (show 3 ≤ 21 by omega) can.2
      refine ⟨m - 3, by omega, by omega, ?_⟩
      rw [mg_zu_at, if_pos ⟨rfl, rfl, rfl⟩, em]; exact d2
  · rw [if_neg can, if_pos rfl] at s2
    cases s2
    have ho := mg_cd_2 s4.symm (by decide) (by decide) (by decide)
    subst ho
    have e7 : (if ζ.1 2 (10 * y + x) 0 = 0 then (if ζ.1 0 0 1 ≤ 2 then some 0 else some 1) else some 0 : Option Int32) = some 0 := by
      rw [hk, hcn]
      by_cases k : τ 3 (10 * y + x) = 0
      · rw [if_pos k]
        by_cases l : τ 1 1 ≤ 2
        · rw [if_pos l]
        · exact absurd ⟨k, fun d => l ((l3 _).2 d)⟩ can
      · rw [if_neg k]
    rw [e7, Option.bind_some, mg_xc_2, if_pos rfl, Option.bind_some, if_pos rfl, if_pos rfl]
    exact ⟨_, _, rfl, mq_X_of s3 hc hg hp c30 g6 p5 hZ, mq_D_refl⟩
end AD
