/-! ===== advise, finest, mean ===== -/
theorem mg_sum_bd {f : Nat → Int32} {M : Nat} : ∀ (n : Nat), (∀ k, k < n → ∃ m, m ≤ M ∧ f k = nI m) → ∃ m, m ≤ M * n ∧ mg_sum f n = nI m := by
  intro n; induction n with
  | zero => intro _; exact ⟨0, by omega, rfl⟩
  | succ n ih =>
    intro h
    obtain ⟨m, m1, m2⟩ := ih (fun k hk => h k (by omega))
    obtain ⟨w, w1, w2⟩ := h n (by omega)
    refine ⟨m + w, ?_, ?_⟩
    · rw [Nat.mul_succ]; omega
    · rw [mg_sum_s, m2, w2, nI_add]
theorem mg_div10_fin : ∀ s : Fin 1300, nI s.1 / 10 = nI (s.1 / 10) := by decide +kernel
theorem mg_vst_bd {σ τ : mg_St} {b c q B : Nat} {V : Nat → Int32} (hE : mg_cel σ τ) (hc : c ≤ 30) (hs : ∀ j, j < c → ∃ z, 1 ≤ z ∧ z ≤ 40 ∧ σ (2 * b + 11) j = nI z) (hq : q < 70) (hV : V 3 = nI B) : ∃ B', B' ≤ B + 200 ∧ mg_vst σ b c V q 3 = nI B' := by
  obtain ⟨v0, v1, v2, v3, v4⟩ := mg_vst_at (σ := σ) (b := b) (c := c) (q := q) (V := V)
  rw [v3, hV]
  by_cases k1 : σ 8 q = 1
  · obtain ⟨-, -, s, -, -, z, hz, e⟩ := (hE q hq).2.2.1 k1
    rw [if_pos k1, e]
    by_cases hm : V 4 &&& (1 <<< (σ 9 q &&& 31)) = 0
    · rw [if_pos hm]; exact ⟨B + z + 4, by omega, by rw [nI_add, ← nI_add (B + z) 4]; rfl⟩
    · rw [if_neg hm]; exact ⟨B + z, by omega, by rw [nI_add]⟩
  · rw [if_neg k1]
    by_cases k2 : σ 8 q = 2
    · rw [if_pos k2]
      obtain ⟨m, m1, m2⟩ := mg_sum_bd (f := fun k => if σ 16 k = nI q then (if σ 17 k = 0 then σ (2 * b + 11) k else 0) else 0) (M := 40) c (by
        intro k hk
        obtain ⟨z, z1, z2, z3⟩ := hs k hk
        by_cases a : σ 16 k = nI q
        · by_cases a' : σ 17 k = 0
          · exact ⟨z, z2, by simp only [if_pos a, if_pos a']; exact z3⟩
          · exact ⟨0, by omega, by simp only [if_pos a, if_neg a']; rfl⟩
        · exact ⟨0, by omega, by simp only [if_neg a]; rfl⟩)
      have hm : m < 1300 := by
        have : 40 * c ≤ 40 * 30 := Nat.mul_le_mul_left 40 hc
        omega
      have hd : nI m / 10 = nI (m / 10) := mg_div10_fin ⟨m, hm⟩
      refine ⟨B + (3 + m / 10), by omega, ?_⟩
      unfold mg_szin
      rw [m2, hd, ← nI_add, ← nI_add 3]; rfl
    · rw [if_neg k2]; exact ⟨B, by omega, rfl⟩
theorem mg_vfold_bd {σ τ : mg_St} {b c : Nat} (hE : mg_cel σ τ) (hc : c ≤ 30) (hs : ∀ j, j < c → ∃ z, 1 ≤ z ∧ z ≤ 40 ∧ σ (2 * b + 11) j = nI z) : ∀ (l : List Nat) (V : Nat → Int32) (B : Nat), (∀ q, q ∈ l → q < 70) → V 3 = nI B → ∃ B', B' ≤ B + 200 * l.length ∧ (l.foldl (mg_vst σ b c) V) 3 = nI B' := by
  intro l; induction l with
  | nil => intro V B _ h; exact ⟨B, by simp, h⟩
  | cons q l ih =>
    intro V B hl h
    obtain ⟨B1, b1, b2⟩ := mg_vst_bd (b := b) (V := V) hE hc hs (hl q (List.mem_cons_self ..)) h
    obtain ⟨B2, c1, c2⟩ := ih (mg_vst σ b c V q) B1 (fun q' h => hl q' (List.mem_cons_of_mem _ h)) b2
    refine ⟨B2, ?_, c2⟩
    rw [List.length_cons, Nat.mul_succ]; omega
theorem mg_look_bd {σ τ : mg_St} {c g p i b : Nat} {y : Int32 × mg_St} (hN : mg_num σ τ c g p) (hE : mg_cel σ τ) (hG : mg_gat σ τ g) (hs : ∀ j, j < c → ∃ z, 1 ≤ z ∧ z ≤ 40 ∧ σ (2 * b + 11) j = nI z) (hi : i < g) (h : f_X6_look σ b (nI i) = some y) : ∃ B, B < 100000 ∧ y.1 = nI B := by
  obtain ⟨n1, n2, n3, n4, n5, n6, n7, n8, n9⟩ := hN
  obtain ⟨P, d, hP, hd, g1, g2, g3, g4⟩ := hG i hi
  rw [k6_look n4 n1 n6 n2 hi g1 g3 hP hd] at h
  have e := Option.some.inj h
  rw [← e]
  obtain ⟨B, b1, b2⟩ := mg_vfold_bd (b := b) hE n1 hs (mg_see (σ 8) (σ 10) d 10 P) (mg_view0 (σ 7)) 0 (mg_see_lt hd 10 P hP) rfl
  have := mg_see_len (κ := σ 8) (β := σ 10) hd 10 P
  refine ⟨B, ?_, b2⟩
  have : 200 * (mg_see (σ 8) (σ 10) d 10 P).length ≤ 200 * 10 := Nat.mul_le_mul_left 200 this
  omega
theorem mg_meanL {c g p : Nat} {μ : Nat → Nat} {τ : mg_St} : ∀ (n j m : Nat) (acc : Int32) (σ : mg_St), mg_core σ τ c g p μ → mg_crs σ τ 5 1 c p → j ≤ g → g < n + j → g < m + j →
    ∃ acc' σ', f_X6_mean_16 n acc (nI j) σ = some (acc', nI g, σ') ∧ f_X8_mean_9 τ m acc (nI j) = some (acc', nI g) ∧ mg_core σ' τ c g p μ ∧ mg_crs σ' τ 5 1 c p := by
  intro n; induction n with
  | zero => intro j m acc σ hI hR h1 h2; omega
  | succ n ih =>
    intro j m acc σ hI hR h1 h2 h3
    obtain ⟨m, rfl⟩ : ∃ m', m = m' + 1 := ⟨m - 1, by omega⟩
    have hI' := hI
    obtain ⟨hN, hEE, hC, hG, hPo, hA, hM, hP⟩ := hI
    have hN' := hN
    obtain ⟨n1, n2, n3, n4, n5, n6, n7, n8, n9⟩ := hN'
    unfold f_X6_mean_16 f_X8_mean_9
    rw [n6, n7]
    rcases Nat.lt_or_ge j g with h | h
    · obtain ⟨V, v1, v2, -⟩ := mg_look (b := 5) (e := 1) hN hEE hC hG (fun j hj => (hR.2.2.1 j hj).1) h
      rw [if_neg (nI_ge h (by omega)), if_neg (nI_ge h (by omega)), v1, Option.bind_some, v2, Option.bind_some, ← nI_succ]
      exact ih (j + 1) m _ _ (mg_core_v hI') (mg_crs_v hR) (by omega) (by omega) (by omega)
    · have e : j = g := by omega
      subst e
      exact ⟨acc, σ, by rw [if_pos (Int32.le_refl _)], by rw [if_pos (Int32.le_refl _)], hI', hR⟩
theorem sim_mean {σ τ : mg_St} (I : mg_Inv σ τ) : ∃ (y z : UInt64 × mg_St), f_X6_mean σ = some y ∧ f_X8_mean τ = some z ∧ mg_Inv y.2 z.2 ∧ y.1 = z.1 := by
  have I' := I
  obtain ⟨c, g, p, μ, hI, hR⟩ := mg_thr (v := 0) I
  obtain ⟨n1, n2, n3, n4, n5, n6, n7, n8, n9⟩ := hI.1
  obtain ⟨acc, σ', a1, a2, a3, a4⟩ := mg_meanL 5000 0 5000 0 σ hI hR (by omega) (by omega) (by omega)
  rw [nI_0] at a1 a2
  unfold f_X6_mean f_X8_mean
  rw [a1, a2, n6, n7, Option.bind_some]
  by_cases h : g = 0
  · subst h
    rw [if_neg (by decide)]
    simp only [Option.bind_some]
    rw [if_pos (show nI 0 = 0 from rfl)]
    exact ⟨_, _, rfl, rfl, mg_thr I', rfl⟩
  · have e : a3.1 = a3.1 := rfl
    have hz : ¬ nI g = 0 := nI_ne0 (by omega) (by omega)
    have hp : (0 : Int32) < nI g := by have := nI_lt (a := 0) (b := g) (by omega) (by omega); rw [nI_0] at this; exact this
    rw [if_pos hp]
    simp only [Option.bind_some]
    rw [if_neg hz]
    refine ⟨_, _, rfl, rfl, ⟨c, g, p, μ, a3, a4⟩, ?_⟩
    have n6' : σ' 3 2 = nI g := a3.1.2.2.2.2.2.1
    show FP.ddiv (FP.i2d acc) (FP.i2d (σ' 3 2)) = FP.ddiv (FP.i2d acc) (FP.i2d (nI g))
    rw [n6']
theorem mg_finestL {c g p : Nat} {μ : Nat → Nat} {τ : mg_St} : ∀ (n j m : Nat) (x1 x2 : Int32) (σ : mg_St), mg_core σ τ c g p μ → mg_crs σ τ 5 1 c p → j ≤ g → g < n + j → g < m + j → ((x1 = -1 ∧ x2 = -1) ∨ (x1 ≠ -1 ∧ f_X8_beauty τ 1 x1 = some x2)) →
    ∃ x1' x2' σ', f_X6_finest_6 n x1 x2 (nI j) σ = some (x1', x2', nI g, σ') ∧ f_X8_finest_9 τ m x1 (nI j) = some (x1', nI g) ∧ mg_core σ' τ c g p μ ∧ mg_crs σ' τ 5 1 c p := by
  intro n; induction n with
  | zero => intro j m x1 x2 σ hI hR h1 h2; omega
  | succ n ih =>
    intro j m x1 x2 σ hI hR h1 h2 h3 hx
    obtain ⟨m, rfl⟩ : ∃ m', m = m' + 1 := ⟨m - 1, by omega⟩
    have hI' := hI
    obtain ⟨hN, hEE, hC, hG, hPo, hA, hM, hP⟩ := hI
    have hN' := hN
    obtain ⟨n1, n2, n3, n4, n5, n6, n7, n8, n9⟩ := hN'
    unfold f_X6_finest_6 f_X8_finest_9
    rw [n6, n7]
    rcases Nat.lt_or_ge j g with h | h
    · obtain ⟨V, v1, v2, -⟩ := mg_look (b := 5) (e := 1) hN hEE hC hG (fun j hj => (hR.2.2.1 j hj).1) h
      obtain ⟨B, B1, B2⟩ := mg_look_bd (b := 5) hN hEE hG (fun j hj => (hR.2.2.1 j hj).2) h v1
      have B2' : V 3 = nI B := B2
      rw [if_neg (nI_ge h (by omega)), if_neg (nI_ge h (by omega)), v1, Option.bind_some, ← nI_succ]
      rcases hx with ⟨e1, e2⟩ | ⟨e1, e2⟩
      · subst e1 e2
        have hn : ¬ V 3 ≤ -1 := by
          rw [B2']; intro hc
          have := nI_pos (n := B) (by omega)
          apply this; grind
        rw [if_neg hn, if_pos rfl]
        exact ih (j + 1) m _ _ _ (mg_core_v hI') (mg_crs_v hR) (by omega) (by omega) (by omega) (Or.inr ⟨mg_m1 j (by omega), v2⟩)
      · rw [if_neg e1, v2, e2, Option.bind_some, Option.bind_some]
        by_cases hle : V 3 ≤ x2
        · rw [if_pos hle, if_pos hle]
          exact ih (j + 1) m _ _ _ (mg_core_v hI') (mg_crs_v hR) (by omega) (by omega) (by omega) (Or.inr ⟨e1, e2⟩)
        · rw [if_neg hle, if_neg hle]
          exact ih (j + 1) m _ _ _ (mg_core_v hI') (mg_crs_v hR) (by omega) (by omega) (by omega) (Or.inr ⟨mg_m1 j (by omega), v2⟩)
    · have e : j = g := by omega
      subst e
      exact ⟨x1, x2, σ, by rw [if_pos (Int32.le_refl _)], by rw [if_pos (Int32.le_refl _)], hI', hR⟩
theorem sim_finest {σ τ : mg_St} (I : mg_Inv σ τ) : ∃ (y z : Int32 × mg_St), f_X6_finest σ = some y ∧ f_X8_finest τ = some z ∧ mg_Inv y.2 z.2 ∧ y.1 = z.1 := by
  obtain ⟨c, g, p, μ, hI, hR⟩ := mg_thr (v := 0) I
  have g6 : g ≤ 6 := hI.1.2.1
  obtain ⟨x1, x2, σ', a1, a2, a3, a4⟩ := mg_finestL 5000 0 5000 (-1) (-1) σ hI hR (by omega) (by omega) (by omega) (Or.inl ⟨rfl, rfl⟩)
  rw [nI_0] at a1 a2
  unfold f_X6_finest f_X8_finest
  rw [a1, a2]
  exact ⟨_, _, rfl, rfl, ⟨c, g, p, μ, a3, a4⟩, rfl⟩
theorem mg_adviseL {c g p i s : Nat} {μ : Nat → Nat} {a3 : Int32} (hi : i < g) (hs : s < 6) (hz : ∃ z, z < 10 ∧ a3 = nI z) : ∀ (n j m : Nat) (x4 x5 : Int32) (σ τ : mg_St), mg_core σ τ c g p μ → mg_crs σ τ 5 1 c p → j ≤ 70 → 70 < n + j → 70 < m + j →
    ∃ x4' x5' σ' τ', f_X6_advise_28 (nI i) (nI s) a3 n x4 x5 (nI j) σ = some (x4', x5', nI 70, σ') ∧ f_X8_advise_61 (nI i) (nI s) a3 m x4 x5 (nI j) τ = some (x4', x5', nI 70, τ') ∧ mg_core σ' τ' c g p μ ∧ mg_crs σ' τ' 5 1 c p ∧ τ' 0 = τ 0 := by
  intro n; induction n with
  | zero => intro j m x4 x5 σ τ hI hR h1 h2; omega
  | succ n ih =>
    intro j m x4 x5 σ τ hI hR h1 h2 h3
    obtain ⟨m, rfl⟩ : ∃ m', m = m' + 1 := ⟨m - 1, by omega⟩
    unfold f_X6_advise_28 f_X8_advise_61
    rcases Nat.lt_or_ge j 70 with h | h
    · have hE := hI.2.1 j h
      rw [if_neg (mg_lt70 j h).2, if_neg (mg_lt70 j h).2, k1_isBare h, Option.bind_some, mg_rdn h (Nat.le_refl 70), Option.bind_some, hE.1, ← nI_succ]
      by_cases k : σ 8 j = 0
      · rw [if_pos k, if_neg (show ¬ (1 : Int32) = 0 by decide), if_pos k]
        have hI1 : mg_core (mg_su (mg_su (mg_su σ 8 j 1) 9 j (nI s)) 10 j a3) (mg_su (mg_su (mg_su τ 3 j 1) 4 j (nI s)) 5 j a3) c g p μ := by
          refine mg_core_set (s := nI s) (z := a3) (k := 1) hI h (by rw [k]; decide) (by decide) ?_ rfl rfl rfl ?_ rfl ?_ ?_ rfl rfl rfl (Or.inr (Or.inl rfl)) ?_ (fun h => absurd rfl h)
          · intro a h1 h2 h3 h4 h5 h6 h7 h8 h9; rw [mg_su_ne h9, mg_su_ne h8, mg_su_ne h7]
          · intro a h1 h2 h3 h4 h5 h6 h7 h8; rw [mg_su_ne h8, mg_su_ne h7, mg_su_ne h6]
          · intro i hi; show (upd (τ 4) j (nI s)) i = τ 4 i; rw [mg_upd, if_neg hi]
          · intro i hi; show (upd (τ 5) j a3) i = τ 5 i; rw [mg_upd, if_neg hi]
          · intro _; refine ⟨?_, ?_, s, hs, rfl, hz⟩
            · show (upd (τ 4) j (nI s)) j = nI s; rw [mg_upd, if_pos rfl]
            · show (upd (τ 5) j a3) j = a3; rw [mg_upd, if_pos rfl]
        have hR1 : mg_crs (mg_su (mg_su (mg_su σ 8 j 1) 9 j (nI s)) 10 j a3) (mg_su (mg_su (mg_su τ 3 j 1) 4 j (nI s)) 5 j a3) 5 1 c p := mg_crs_fr hR rfl rfl rfl rfl rfl rfl
        have hb : f_X6_beautyWithRock σ (nI i) (nI j) (nI s) a3 = (f_X6_look (mg_su (mg_su (mg_su σ 8 j 1) 9 j (nI s)) 10 j a3) 5 (nI i)).bind fun y2 => (f_X1_takeRock y2.2 (nI j)).bind fun y3 => some (y2.1, y3) := by
          unfold f_X6_beautyWithRock; rw [k6_rockAt h]; rfl
        rw [hb, mg_wrn h (Nat.le_refl 70), Option.bind_some, mg_wrn h (Nat.le_refl 70), Option.bind_some, mg_wrn h (Nat.le_refl 70), Option.bind_some]
        have t0 : mg_su (mg_su (mg_su τ 3 j 1) 4 j (nI s)) 5 j a3 0 = τ 0 := rfl
        have t3 : mg_su (mg_su (mg_su τ 3 j 1) 4 j (nI s)) 5 j a3 3 = upd (τ 3) j 1 := rfl
        have s8 : mg_su (mg_su (mg_su σ 8 j 1) 9 j (nI s)) 10 j a3 8 j = 1 := by
          show upd (σ 8) j 1 j = 1
          rw [mg_upd, if_pos rfl]
        generalize mg_su (mg_su (mg_su σ 8 j 1) 9 j (nI s)) 10 j a3 = S at hI1 hR1 s8 ⊢
        generalize mg_su (mg_su (mg_su τ 3 j 1) 4 j (nI s)) 5 j a3 = T at hI1 hR1 t0 t3 ⊢
        obtain ⟨V, v1, v2, -⟩ := mg_look (b := 5) (e := 1) hI1.1 hI1.2.1 hI1.2.2.1 hI1.2.2.2.1 (fun j hj => (hR1.2.2.1 j hj).1) hi
        have ht : f_X1_takeRock (mg_sr S 7 V) (nI j) = some (mg_su (mg_su (mg_su (mg_sr S 7 V) 8 j 0) 9 j (-1)) 10 j 0) := by unfold f_X1_takeRock; rw [k1_setCell h]; rfl
        have hI2 : mg_core (mg_su (mg_su (mg_su (mg_sr S 7 V) 8 j 0) 9 j (-1)) 10 j 0) (mg_su T 3 j 0) c g p μ := by
          refine mg_core_set (s := -1) (z := 0) (k := 0) (mg_core_v (V := V) hI1) h (by rw [mg_sr_ne (by decide), s8]; decide) (by decide) ?_ rfl rfl rfl ?_ rfl (fun _ _ => rfl) (fun _ _ => rfl) rfl rfl rfl (Or.inl rfl) (fun h => absurd h (by decide)) (fun _ => ⟨rfl, rfl⟩)
          · intro a h1 h2 h3 h4 h5 h6 h7 h8 h9; rw [mg_su_ne h9, mg_su_ne h8, mg_su_ne h7]
          · intro a h1 h2 h3 h4 h5 h6 h7 h8; rw [mg_su_ne h6]
        have hR2 : mg_crs (mg_su (mg_su (mg_su (mg_sr S 7 V) 8 j 0) 9 j (-1)) 10 j 0) (mg_su T 3 j 0) 5 1 c p := mg_crs_fr (mg_crs_v (V := V) hR1) rfl rfl rfl rfl rfl rfl
        rw [v1, v2]
        simp only [Option.bind_some]
        rw [ht]
        simp only [Option.bind_some]
        rw [mg_wrn h (Nat.le_refl 70), Option.bind_some]
        have fin : ∀ (u w : Int32), ∃ x4' x5' σ' τ', f_X6_advise_28 (nI i) (nI s) a3 n u w (nI (j + 1)) (mg_su (mg_su (mg_su (mg_sr S 7 V) 8 j 0) 9 j (-1)) 10 j 0) = some (x4', x5', nI 70, σ') ∧ f_X8_advise_61 (nI i) (nI s) a3 m u w (nI (j + 1)) (mg_su T 3 j 0) = some (x4', x5', nI 70, τ') ∧ mg_core σ' τ' c g p μ ∧ mg_crs σ' τ' 5 1 c p ∧ τ' 0 = τ 0 := by
          intro u w
          obtain ⟨y4, y5, σ', τ', q1, q2, q3, q4, q5⟩ := ih (j + 1) m u w _ _ hI2 hR2 (by omega) (by omega) (by omega)
          exact ⟨y4, y5, σ', τ', q1, q2, q3, q4, by rw [q5, mg_su_ne (by decide), t0]⟩
        by_cases hle : V 3 ≤ x5
        · rw [if_pos hle, if_neg (fun c => (mg_lt_iff.1 c) hle)]; exact fin x4 x5
        · rw [if_neg hle, if_pos (mg_lt_iff.2 hle)]; exact fin (nI j) (V 3)
      · rw [if_neg k, if_pos rfl, if_neg k]
        exact ih (j + 1) m x4 x5 σ τ hI hR (by omega) (by omega) (by omega)
    · have e : j = 70 := by omega
      subst e
      exact ⟨x4, x5, σ, τ, by rw [if_pos mg_70], by rw [if_pos mg_70], hI, hR, rfl⟩
theorem sim_advise {σ τ : mg_St} (I : mg_Inv σ τ) (x1 x2 x3 : Int32) : ∃ (out : Except (Fin 3) Int32) (σ1 : mg_St) (y : Int32 × mg_St), f_X6_advise σ x1 x2 x3 = some (out, σ1) ∧ f_X8_advise τ x1 x2 x3 = some y ∧ mg_Inv σ1 y.2 ∧ y.2 0 0 = mg_cd 1 2 9 out ∧ (∀ v, out = .ok v → y.1 = v) ∧ out ≠ .error 2 := by
  unfold f_X6_advise f_X8_advise
  have I' := I
  obtain ⟨c, g, p, μ, hI, hR⟩ := mg_thr (v := 0) I
  obtain ⟨n1, n2, n3, n4, n5, n6, n7, n8, n9⟩ := hI.1
  rw [k8_isGate n7]
  rcases mg_idx (mg_su τ 0 0 0) x1 (c := g) (by omega) with ⟨h1, h2⟩ | ⟨i, hi, rfl, h0, h1, h2⟩
  · rw [k6_gate0 n6 h1, mg_xb_err, h2]
    exact ⟨.error 0, σ, _, rfl, rfl, mg_thr (mg_thr I'), rfl, (fun v h => by cases h), by simp⟩
  rw [k6_gate1 n6 h0 h1, mg_xb_ok, h2, Option.bind_some, if_neg (show ¬ (1 : Int32) = 0 by decide)]
  rcases mg_rockck σ (mg_su τ 0 0 0) x2 x3 with ⟨r1, r2⟩ | ⟨r1, r2, r3, s, hs, rfl, hz⟩
  · rw [r1, mg_xb_err]
    rcases r2 with r2 | ⟨r2, r3⟩
    · rw [r2]
      exact ⟨.error 1, σ, _, rfl, rfl, mg_thr (mg_thr I'), rfl, (fun v h => by cases h), by simp⟩
    · rw [r2, Option.bind_some, if_neg (show ¬ (1 : Int32) = 0 by decide), r3]
      exact ⟨.error 1, σ, _, rfl, rfl, mg_thr (mg_thr I'), rfl, (fun v h => by cases h), by simp⟩
  obtain ⟨V, v1, v2, -⟩ := mg_look (b := 5) (e := 1) hI.1 hI.2.1 hI.2.2.1 hI.2.2.2.1 (fun j hj => (hR.2.2.1 j hj).1) hi
  rw [r1, mg_xb_ok, r2, Option.bind_some, if_neg (show ¬ (1 : Int32) = 0 by decide), r3, Option.bind_some, if_neg (show ¬ (1 : Int32) = 0 by decide), v1, v2, Option.bind_some, Option.bind_some]
  obtain ⟨y4, y5, σ', τ', q1, q2, q3, q4, q5⟩ := mg_adviseL (a3 := x3) hi hs hz 5000 0 5000 (-1) (V 3) (mg_sr σ 7 V) (mg_su τ 0 0 0) (mg_core_v hI) (mg_crs_v hR) (by omega) (by omega) (by omega)
  rw [nI_0] at q1 q2
  dsimp only
  rw [q1, q2]
  refine ⟨.ok y4, σ', _, rfl, rfl, ⟨c, g, p, μ, q3, q4⟩, ?_, (fun u h => by cases h; rfl), by simp⟩
  show τ' 0 0 = 0
  rw [q5]; rfl
