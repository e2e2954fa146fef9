/-! ===== rock, dig, wall, clear ===== -/
theorem k6_rockAt {σ : mg_St} {j : Nat} {a b : Int32} (h : j < 70) : f_X1_setRock σ (nI j) a b = some (mg_su (mg_su (mg_su σ 8 j 1) 9 j a) 10 j b) := by unfold f_X1_setRock; rw [k1_setCell h]; rfl
theorem mg_bare_can {σ τ : mg_St} {q : Nat} {x1 x2 x3 : Int32} (hE : τ 3 q = σ 8 q) (hc : σ 5 1 = τ 1 1) (hq : q < 70) (h : 10 * x2 + x1 = nI q) :
    (f_X8_canBuild τ x1 x2 x3 = some (if σ 8 q = 0 ∧ x3 ≤ σ 5 1 then 1 else 0)) := by
  unfold f_X8_canBuild
  rw [h, mg_rdn hq (Nat.le_refl 70), Option.bind_some, hE]
  by_cases k : σ 8 q = 0
  · rw [if_pos k]
    by_cases l : x3 ≤ σ 5 1
    · rw [if_neg (fun c => (mg_lt_iff.1 c) (by rw [← hc]; exact l)), if_pos ⟨k, l⟩]
    · rw [if_pos (mg_lt_iff.2 (by rw [← hc]; exact l)), if_neg (fun c => l c.2)]
  · rw [if_neg k, if_neg (fun c => k c.1)]
theorem k8_spent {τ : mg_St} {q : Nat} {x1 x2 k z : Int32} (hq : q < 70) (h : 10 * x2 + x1 = nI q) : f_X8_spent τ x1 x2 k z = some (τ 1 1 - z, mg_su (mg_su τ 3 q k) 1 1 (τ 1 1 - z)) := by
  unfold f_X8_spent; rw [h, mg_wrn hq (Nat.le_refl 70)]; rfl
theorem sim_rock {σ τ : mg_St} (I : mg_Inv σ τ) (x1 x2 x3 x4 : Int32) : ∃ (out : Except (Fin 3) Int32) (σ1 : mg_St) (y : Int32 × mg_St), f_X6_rock σ x1 x2 x3 x4 = some (out, σ1) ∧ f_X8_rock τ x1 x2 x3 x4 = some y ∧ mg_Inv σ1 y.2 ∧ y.2 0 0 = mg_cd 1 2 3 out ∧ (∀ v, out = .ok v → y.1 = v) := by
  unfold f_X6_rock f_X8_rock
  rcases mg_place σ (mg_su τ 0 0 0) x1 x2 with ⟨h1, h2⟩ | ⟨q, hq, e1, e2, e3, h1, h2⟩
  · rw [k6_place0 h1, mg_xb_err, h2]
    exact ⟨.error 0, σ, _, rfl, rfl, mg_thr (mg_thr I), rfl, fun v h => by cases h⟩
  rw [k6_place1 h1, mg_xb_ok, h2, Option.bind_some, if_neg (show ¬ (1 : Int32) = 0 by decide)]
  rcases mg_rockck σ (mg_su τ 0 0 0) x3 x4 with ⟨r1, r2⟩ | ⟨r1, r2, r3, s, hs, r4, z, hz, r5⟩
  · rw [r1, mg_xb_err]
    rcases r2 with r2 | ⟨r2, r3⟩
    · rw [r2]
      exact ⟨.error 1, σ, _, rfl, rfl, mg_thr (mg_thr I), rfl, fun v h => by cases h⟩
    · rw [r2, Option.bind_some, if_neg (show ¬ (1 : Int32) = 0 by decide), r3]
      exact ⟨.error 1, σ, _, rfl, rfl, mg_thr (mg_thr I), rfl, fun v h => by cases h⟩
  rw [r1, mg_xb_ok, k6_num e3, Option.bind_some, k6_bare hq, r2, Option.bind_some, if_neg (show ¬ (1 : Int32) = 0 by decide), r3, Option.bind_some, if_neg (show ¬ (1 : Int32) = 0 by decide)]
  have I' := I
  obtain ⟨c, g, p, μ, hI, hR⟩ := I
  rw [mg_bare_can (σ := σ) (τ := mg_su τ 0 0 0) (hI.2.1 q hq).1 hR.2.1 hq e3, Option.bind_some]
  by_cases k : σ 8 q = 0
  · rw [if_pos k, mg_xb_ok]
    unfold f_X6_spend
    by_cases l : 2 * x4 ≤ σ 5 1
    · rw [if_pos l, mg_xb_ok, if_pos (show σ 8 q = 0 ∧ 2 * x4 ≤ σ 5 1 from ⟨k, l⟩), if_neg (show ¬ (1 : Int32) = 0 by decide), k6_rockAt hq, e3]
      rw [mg_wrn hq (Nat.le_refl 70), Option.bind_some, Option.bind_some, mg_wrn hq (Nat.le_refl 70), Option.bind_some, k8_spent hq e3]
      refine ⟨.ok (σ 5 1 - 2 * x4), _, _, rfl, rfl, ⟨c, g, p, μ, ?_, ?_⟩, rfl, ?_⟩
      · refine mg_core_set (s := x3) (z := x4) (k := 1) hI hq (by rw [k]; decide) (by decide) ?_ rfl rfl rfl ?_ rfl ?_ ?_ rfl rfl rfl (Or.inr (Or.inl rfl)) ?_ (fun h => absurd rfl h)
        · intro a h1 h2 h3 h4 h5 h6 h7 h8 h9; rw [mg_su_ne h9, mg_su_ne h8, mg_su_ne h7, mg_su_ne h3]
        · intro a h1 h2 h3 h4 h5 h6 h7 h8; try dsimp only
          rw [mg_su_ne h3, mg_su_ne h6, mg_su_ne h8, mg_su_ne h7, mg_su_ne h2]
        · intro j hj; show (upd (τ 4) q x3) j = τ 4 j; rw [mg_upd, if_neg hj]
        · intro j hj; show (upd (τ 5) q x4) j = τ 5 j; rw [mg_upd, if_neg hj]
        · intro _; refine ⟨?_, ?_, s, hs, r4, z, hz, r5⟩
          · show (upd (τ 4) q x3) q = x3; rw [mg_upd, if_pos rfl]
          · show (upd (τ 5) q x4) q = x4; rw [mg_upd, if_pos rfl]
      · refine mg_crs_coin hR rfl rfl ?_ rfl rfl rfl rfl
        show σ 5 1 - 2 * x4 = τ 1 1 - 2 * x4
        rw [hR.2.1]
      · intro v hv; cases hv
        show τ 1 1 - 2 * x4 = _
        rw [hR.2.1]
    · rw [if_neg l, mg_xb_err, if_neg (show ¬ (σ 8 q = 0 ∧ 2 * x4 ≤ σ 5 1) from fun c => l c.2)]
      exact ⟨.error 2, σ, _, rfl, rfl, mg_thr (mg_thr I'), rfl, fun v h => by cases h⟩
  · rw [if_neg k, mg_xb_err, if_neg (show ¬ (σ 8 q = 0 ∧ 2 * x4 ≤ σ 5 1) from fun c => k c.1)]
    exact ⟨.error 2, σ, _, rfl, rfl, mg_thr (mg_thr I'), rfl, fun v h => by cases h⟩
theorem sim_wall {σ τ : mg_St} (I : mg_Inv σ τ) (x1 x2 : Int32) : ∃ (out : Except (Fin 3) Int32) (σ1 : mg_St) (y : Int32 × mg_St), f_X6_wall σ x1 x2 = some (out, σ1) ∧ f_X8_wall τ x1 x2 = some y ∧ mg_Inv σ1 y.2 ∧ y.2 0 0 = mg_cd 1 9 2 out ∧ (∀ v, out = .ok v → y.1 = v) ∧ out ≠ .error 1 := by
  unfold f_X6_wall f_X8_wall
  rcases mg_place σ (mg_su τ 0 0 0) x1 x2 with ⟨h1, h2⟩ | ⟨q, hq, e1, e2, e3, h1, h2⟩
  · rw [k6_place0 h1, mg_xb_err, h2]
    exact ⟨.error 0, σ, _, rfl, rfl, mg_thr (mg_thr I), rfl, (fun v h => by cases h), by simp⟩
  rw [k6_place1 h1, mg_xb_ok, h2, Option.bind_some, if_neg (show ¬ (1 : Int32) = 0 by decide), k6_num e3, Option.bind_some, k6_bare hq]
  have I' := I
  obtain ⟨c, g, p, μ, hI, hR⟩ := I
  rw [mg_bare_can (σ := σ) (τ := mg_su τ 0 0 0) (hI.2.1 q hq).1 hR.2.1 hq e3, Option.bind_some]
  by_cases k : σ 8 q = 0
  · rw [if_pos k, mg_xb_ok]
    unfold f_X6_spend
    by_cases l : 3 ≤ σ 5 1
    · rw [if_pos l, mg_xb_ok, if_pos (show σ 8 q = 0 ∧ 3 ≤ σ 5 1 from ⟨k, l⟩), if_neg (show ¬ (1 : Int32) = 0 by decide), k8_spent hq e3]
      unfold f_X1_setWall
      rw [k1_setCell hq]
      refine ⟨.ok (σ 5 1 - 3), _, _, rfl, rfl, ⟨c, g, p, μ, ?_, ?_⟩, rfl, ?_, by simp⟩
      · refine mg_core_set (s := -1) (z := 0) (k := 3) hI hq (by rw [k]; decide) (by decide) ?_ rfl rfl rfl ?_ rfl (fun _ _ => rfl) (fun _ _ => rfl) rfl rfl rfl (Or.inr (Or.inr rfl)) (fun h => absurd h (by decide)) (fun _ => ⟨rfl, rfl⟩)
        · intro a h1 h2 h3 h4 h5 h6 h7 h8 h9; rw [mg_su_ne h9, mg_su_ne h8, mg_su_ne h7, mg_su_ne h3]
        · intro a h1 h2 h3 h4 h5 h6 h7 h8; try dsimp only
          rw [mg_su_ne h3, mg_su_ne h6, mg_su_ne h2]
      · refine mg_crs_coin hR rfl rfl ?_ rfl rfl rfl rfl
        show σ 5 1 - 3 = τ 1 1 - 3
        rw [hR.2.1]
      · intro v hv; cases hv
        show τ 1 1 - 3 = _
        rw [hR.2.1]
    · rw [if_neg l, mg_xb_err, if_neg (show ¬ (σ 8 q = 0 ∧ 3 ≤ σ 5 1) from fun c => l c.2)]
      exact ⟨.error 2, σ, _, rfl, rfl, mg_thr (mg_thr I'), rfl, (fun v h => by cases h), by simp⟩
  · rw [if_neg k, mg_xb_err, if_neg (show ¬ (σ 8 q = 0 ∧ 3 ≤ σ 5 1) from fun c => k c.1)]
    exact ⟨.error 2, σ, _, rfl, rfl, mg_thr (mg_thr I'), rfl, (fun v h => by cases h), by simp⟩
/-- the class's new survey beside the model's new marks -/
theorem sim_dig {σ τ : mg_St} (I : mg_Inv σ τ) (x1 x2 : Int32) : ∃ (out : Except (Fin 3) Int32) (σ1 : mg_St) (y : Int32 × mg_St), f_X6_dig σ x1 x2 = some (out, σ1) ∧ f_X8_dig τ x1 x2 = some y ∧ mg_Inv σ1 y.2 ∧ y.2 0 0 = mg_cd 1 9 2 out ∧ (∀ v, out = .ok v → y.1 = v) ∧ out ≠ .error 1 := by
  unfold f_X6_dig f_X8_dig
  rcases mg_place σ (mg_su τ 0 0 0) x1 x2 with ⟨h1, h2⟩ | ⟨q, hq, e1, e2, e3, h1, h2⟩
  · rw [k6_place0 h1, mg_xb_err, h2]
    exact ⟨.error 0, σ, _, rfl, rfl, mg_thr (mg_thr I), rfl, (fun v h => by cases h), by simp⟩
  rw [k6_place1 h1, mg_xb_ok, h2, Option.bind_some, if_neg (show ¬ (1 : Int32) = 0 by decide), k6_num e3, Option.bind_some, k6_bare hq]
  have I' := I
  obtain ⟨c, g, p, μ, hI, hR⟩ := I
  rw [mg_bare_can (σ := σ) (τ := mg_su τ 0 0 0) (hI.2.1 q hq).1 hR.2.1 hq e3, Option.bind_some]
  by_cases k : σ 8 q = 0
  · rw [if_pos k, mg_xb_ok]
    unfold f_X6_spend
    by_cases l : 6 ≤ σ 5 1
    · rw [if_pos l, mg_xb_ok, if_pos (show σ 8 q = 0 ∧ 6 ≤ σ 5 1 from ⟨k, l⟩), if_neg (show ¬ (1 : Int32) = 0 by decide), k8_spent hq e3]
      unfold f_X1_setPond
      rw [k1_setCell hq, Option.bind_some]
      have hB : mg_base (mg_su (mg_su (mg_su (mg_su σ 5 1 (σ 5 1 - 6)) 8 q 2) 9 q (-1)) 10 q 0) (mg_su (mg_su (mg_su τ 0 0 0) 3 q 2) 1 1 (mg_su τ 0 0 0 1 1 - 6)) c g p := by
        refine mg_base_set (s := -1) (z := 0) (k := 2) (mg_core_base hI) hq ?_ rfl rfl rfl ?_ rfl (fun _ _ => rfl) (fun _ _ => rfl) rfl rfl rfl (Or.inr (Or.inr (Or.inl rfl))) (fun h => absurd h (by decide)) (fun _ => ⟨rfl, rfl⟩) (Or.inl rfl)
        · intro a h1 h2 h3 h4 h5 h6 h7 h8 h9; rw [mg_su_ne h9, mg_su_ne h8, mg_su_ne h7, mg_su_ne h3]
        · intro a h1 h2 h3 h4 h5 h6 h7 h8; try dsimp only
          rw [mg_su_ne h3, mg_su_ne h6, mg_su_ne h2]
      obtain ⟨σ', ν, s1, s2, s3, s4⟩ := mg_resurvey hB
      obtain ⟨r, m1, m2, m3⟩ := mg_mark s2
      have kq : σ' 8 q = 2 := by
        rw [s3 8 (by decide) (by decide) (by decide) (by decide) (by decide)]
        show upd (σ 8) q 2 q = 2
        rw [mg_upd, if_pos rfl]
      rw [s1, Option.bind_some, Option.bind_some, k1_cellsAt s2.2.2.2.2.2.2.2 hq, Option.bind_some, if_pos kq, Option.bind_some, m1, Option.bind_some, e3, mg_rdn hq (Nat.le_refl 70), Option.bind_some, m2 q hq, if_pos (by rw [(m3.2.1 q hq).1]; exact kq), k8_cellsOf m3.2.1 m3.2.2.2.2.2.2.1 m2 hq kq]
      refine ⟨.ok (mg_cells (σ' 8) ν q), _, _, rfl, rfl, ⟨c, g, p, ν, m3, ?_⟩, rfl, ?_, by simp⟩
      · have f5 : σ' 5 = upd (σ 5) 1 (σ 5 1 - 6) := s3 5 (by decide) (by decide) (by decide) (by decide) (by decide)
        refine mg_crs_coin hR ?_ rfl ?_ ?_ ?_ rfl rfl
        · rw [f5]; rfl
        · rw [f5]; show σ 5 1 - 6 = τ 1 1 - 6; rw [hR.2.1]
        · exact s3 21 (by decide) (by decide) (by decide) (by decide) (by decide)
        · exact s3 22 (by decide) (by decide) (by decide) (by decide) (by decide)
      · intro v hv; cases hv; rfl
    · rw [if_neg l, mg_xb_err, if_neg (show ¬ (σ 8 q = 0 ∧ 6 ≤ σ 5 1) from fun c => l c.2)]
      exact ⟨.error 2, σ, _, rfl, rfl, mg_thr (mg_thr I'), rfl, (fun v h => by cases h), by simp⟩
  · rw [if_neg k, mg_xb_err, if_neg (show ¬ (σ 8 q = 0 ∧ 6 ≤ σ 5 1) from fun c => k c.1)]
    exact ⟨.error 2, σ, _, rfl, rfl, mg_thr (mg_thr I'), rfl, (fun v h => by cases h), by simp⟩
