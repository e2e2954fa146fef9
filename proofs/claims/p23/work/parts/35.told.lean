/-! ===== told, gate, about, invite, lead, lines ===== -/
theorem k6_rank17 {σ : mg_St} {c a : Nat} (hc : σ 2 2 = nI c) (hp : c ≤ 30) (ha : a < c) : ∀ (n j : Nat), j ≤ c → c < n + j → f_X6_rankOf_17 σ (nI a) n (1 + mg_sum (fun k => if σ 17 k = 0 ∧ ¬ σ 21 k ≤ σ 21 a then 1 else 0) j) (nI j) = some (1 + mg_sum (fun k => if σ 17 k = 0 ∧ ¬ σ 21 k ≤ σ 21 a then 1 else 0) c, nI c) := by
  intro n; induction n with
  | zero => intro j h1 h2; omega
  | succ n ih =>
    intro j h1 h2
    unfold f_X6_rankOf_17
    rw [hc]
    rcases Nat.lt_or_ge j c with h | h
    · have := ih (j + 1) (by omega) (by omega)
      rw [mg_sum_s] at this
      rw [if_neg (nI_ge h (by omega)), k4_isHere hc hp h, Option.bind_some, ← nI_succ]
      by_cases s : σ 17 j = 0
      · rw [if_pos s, if_neg (show ¬ (1 : Int32) = 0 by decide), k0_carpSize (by omega), Option.bind_some, k0_carpSize (by omega), Option.bind_some]
        by_cases z : σ 21 j ≤ σ 21 a
        · rw [if_pos (show σ (2 * 5 + 11) j ≤ σ (2 * 5 + 11) a from z)]
          rw [if_neg (show ¬ (σ 17 j = 0 ∧ ¬ σ 21 j ≤ σ 21 a) from fun c => c.2 z), Int32.add_zero] at this
          exact this
        · rw [if_neg (show ¬ σ (2 * 5 + 11) j ≤ σ (2 * 5 + 11) a from z)]
          rw [if_pos (show (σ 17 j = 0 ∧ ¬ σ 21 j ≤ σ 21 a) from ⟨s, z⟩), ← Int32.add_assoc] at this
          exact this
      · rw [if_neg s, if_pos rfl]
        rw [if_neg (show ¬ (σ 17 j = 0 ∧ ¬ σ 21 j ≤ σ 21 a) from fun c => s c.1), Int32.add_zero] at this
        exact this
    · have e : j = c := by omega
      subst e; rw [if_pos (Int32.le_refl _)]
theorem k8_ct19 {τ : mg_St} {c a : Nat} {x : Int32} (hc : τ 0 5 = nI c) (hp : c ≤ 30) (ha : a < c) : ∀ (n j : Nat), j ≤ c → c < n + j → f_X8_carpTold_19 τ (nI a) x n (1 + mg_sum (fun k => if τ 8 k = 0 ∧ ¬ τ 12 k ≤ τ 12 a then 1 else 0) j) (nI j) = some (1 + mg_sum (fun k => if τ 8 k = 0 ∧ ¬ τ 12 k ≤ τ 12 a then 1 else 0) c, nI c) := by
  intro n; induction n with
  | zero => intro j h1 h2; omega
  | succ n ih =>
    intro j h1 h2
    unfold f_X8_carpTold_19
    rw [hc]
    rcases Nat.lt_or_ge j c with h | h
    · have := ih (j + 1) (by omega) (by omega)
      rw [mg_sum_s] at this
      have hpos : ¬ 1 + mg_sum (fun k => if τ 8 k = 0 ∧ ¬ τ 12 k ≤ τ 12 a then 1 else 0) j ≤ 0 := by
        obtain ⟨m, m1, m2, -⟩ := mg_sum_ind (P := fun k => τ 8 k = 0 ∧ ¬ τ 12 k ≤ τ 12 a) j
        rw [m2, ← nI_one, nI_add]; exact nI_nle (by omega) (by omega)
      rw [if_neg (nI_ge h (by omega)), if_neg hpos, mg_rdn (show j < 30 by omega) (by omega), Option.bind_some, mg_rdn (show j < 30 by omega) (by omega), Option.bind_some, mg_rdn (show a < 30 by omega) (by omega), Option.bind_some, ← nI_succ, Int32.add_zero]
      by_cases s : τ 8 j = 0
      · rw [if_pos s]
        by_cases z : τ 12 j ≤ τ 12 a
        · rw [if_pos z]
          rw [if_neg (show ¬ (τ 8 j = 0 ∧ ¬ τ 12 j ≤ τ 12 a) from fun c => c.2 z), Int32.add_zero] at this
          exact this
        · rw [if_neg z]
          rw [if_pos (show (τ 8 j = 0 ∧ ¬ τ 12 j ≤ τ 12 a) from ⟨s, z⟩), ← Int32.add_assoc] at this
          exact this
      · rw [if_neg s]
        rw [if_neg (show ¬ (τ 8 j = 0 ∧ ¬ τ 12 j ≤ τ 12 a) from fun c => s c.1), Int32.add_zero] at this
        exact this
    · have e : j = c := by omega
      subst e; rw [if_pos (Int32.le_refl _)]
theorem k8_ct19z {τ : mg_St} {c : Nat} {a x : Int32} (hc : τ 0 5 = nI c) (hp : c ≤ 30) : ∀ (n j : Nat), j ≤ c → c < n + j → f_X8_carpTold_19 τ a x n 0 (nI j) = some (0, nI c) := by
  intro n; induction n with
  | zero => intro j h1 h2; omega
  | succ n ih =>
    intro j h1 h2
    unfold f_X8_carpTold_19
    rw [hc]
    rcases Nat.lt_or_ge j c with h | h
    · rw [if_neg (nI_ge h (by omega)), if_pos (Int32.le_refl _), Int32.add_zero, ← nI_succ]
      exact ih (j + 1) (by omega) (by omega)
    · have e : j = c := by omega
      subst e; rw [if_pos (Int32.le_refl _)]
theorem mg_carpTold {σ τ : mg_St} {c g p i k : Nat} {μ : Nat → Nat} (hI : mg_core σ τ c g p μ) (hR : mg_crs σ τ 5 1 c p) (hi : i < c) (hk : k < 5) :
    ∃ v, f_X6_told σ (nI i) (nI k) = some (.ok v, σ) ∧ f_X8_carpTold τ (nI i) (nI k) = some v := by
  obtain ⟨hN, hEE, hC, hG, hPo, hA, hM, hP⟩ := hI
  obtain ⟨n1, n2, n3, n4, n5, n6, n7, n8, n9⟩ := hN
  obtain ⟨q, c1, c2, c3, c4, c5, c6⟩ := hC i hi
  have hz : ∀ j, j < c → τ 12 j = σ 21 j := fun j hj => (hR.2.2.1 j hj).1
  let rk : Int32 := if σ 17 i = 0 then 1 + mg_sum (fun k => if σ 17 k = 0 ∧ ¬ σ 21 k ≤ σ 21 i then 1 else 0) c else 0
  have hrank : f_X6_rankOf σ (nI i) = some rk := by
    unfold f_X6_rankOf
    rw [k4_isHere n4 n1 hi, Option.bind_some]
    by_cases s : σ 17 i = 0
    · have := k6_rank17 n4 n1 hi 5000 0 (by omega) (by omega)
      simp only [mg_sum, Int32.add_zero, nI_0] at this
      rw [if_pos s, if_neg (show ¬ (1 : Int32) = 0 by decide), this]
      show _ = some (if σ 17 i = 0 then _ else _)
      rw [if_pos s]; rfl
    · rw [if_neg s, if_pos rfl]
      show _ = some (if σ 17 i = 0 then _ else _)
      rw [if_neg s]
  have hrank8 : ∃ y, ((if τ 8 i = 1 then some 0 else some 1 : Option Int32).bind fun y2 => f_X8_carpTold_19 τ (nI i) (nI k) 5000 y2 0) = some (rk, y) := by
    rw [c4]
    rcases c5 with s | s
    · have s1 : ¬ σ 17 i = 1 := by rw [s]; decide
      have := k8_ct19 (τ := τ) (x := nI k) n5 n1 hi 5000 0 (by omega) (by omega)
      simp only [mg_sum, Int32.add_zero, nI_0] at this
      rw [if_neg s1, Option.bind_some, this]
      refine ⟨nI c, ?_⟩
      have e : (1 + mg_sum (fun k => if τ 8 k = 0 ∧ ¬ τ 12 k ≤ τ 12 i then 1 else 0) c : Int32) = rk := by
        show _ = (if σ 17 i = 0 then _ else _)
        rw [if_pos s]
        refine congrArg (fun z => 1 + z) (mg_sum_congr (fun j hj => ?_))
        obtain ⟨q', d1, d2, d3, d4, -⟩ := hC j hj
        rw [d4, hz j hj, hz i hi]
      rw [e]
    · have s1 : ¬ σ 17 i = 0 := by rw [s]; decide
      have := k8_ct19z (τ := τ) (a := nI i) (x := nI k) n5 n1 5000 0 (by omega) (by omega)
      rw [nI_0] at this
      rw [if_pos s, Option.bind_some, this]
      refine ⟨nI c, ?_⟩
      show some (0, nI c) = some ((if σ 17 i = 0 then _ else _), nI c)
      rw [if_neg s1]
  refine ⟨if k = 0 then nI q - nI q / 10 * 10 else if k = 1 then nI q / 10 else if k = 2 then σ 21 i else if k = 3 then σ 17 i else rk, ?_, ?_⟩
  · unfold f_X6_told f_X6_checkWhat
    rw [k6_ckCarp1 n4 (nI_pos (by omega)) (nI_lt hi (by omega)), mg_xb_ok, if_neg (nI_pos (by omega)), if_pos (show nI k < 5 from nI_lt (b := 5) hk (by omega)), mg_xb_ok, k4_placeOf n4 n1 hi, k0_carpSize (by omega), k4_isHere n4 n1 hi, hrank, c2]
    have h3 : (if (if σ 17 i = 0 then 1 else 0 : Int32) = 0 then some (Except.ok 1, σ) else some (Except.ok 0, σ) : Option (Except (Fin 3) Int32 × mg_St)) = some (Except.ok (σ 17 i), σ) := by
      rcases c5 with s | s
      · rw [if_pos s, if_neg (by decide), s]
      · have s0 : ¬ σ 17 i = 0 := by rw [s]; decide
        rw [if_neg s0, if_pos rfl, s]
    simp only [Option.bind_some]
    rw [h3]
    have : k = 0 ∨ k = 1 ∨ k = 2 ∨ k = 3 ∨ k = 4 := by omega
    rcases this with h | h | h | h | h <;> subst h <;> rfl
  · unfold f_X8_carpTold
    rw [mg_rdn (show i < 30 by omega) (by omega), mg_rdn (show i < 30 by omega) (by omega), mg_rdn (show i < 30 by omega) (by omega), c3, c4, hz i hi]
    simp only [Option.bind_some]
    obtain ⟨y, hy⟩ := hrank8
    rw [c4] at hy
    have assoc : ∀ (o : Option Int32) (F : Int32 → Option (Int32 × Int32)) (K : Int32 × Int32 → Option Int32), (o.bind fun y2 => (F y2).bind K) = (o.bind F).bind K := by intro o F K; cases o <;> rfl
    rw [assoc, hy, Option.bind_some]
    obtain ⟨r0, r1, r2, r3, r4⟩ := mg_rt5 (a0 := nI q - nI q / 10 * 10) (a1 := nI q / 10) (a2 := σ 21 i) (a3 := σ 17 i) (a4 := rk)
    have : k = 0 ∨ k = 1 ∨ k = 2 ∨ k = 3 ∨ k = 4 := by omega
    rcases this with h | h | h | h | h <;> subst h
    · rw [r0]; rfl
    · rw [r1]; rfl
    · rw [r2]; rfl
    · rw [r3]; rfl
    · rw [r4]; rfl
theorem sim_told {σ τ : mg_St} (I : mg_Inv σ τ) (x1 x2 : Int32) : ∃ (out : Except (Fin 3) Int32) (σ1 : mg_St) (y : Int32 × mg_St), f_X6_told σ x1 x2 = some (out, σ1) ∧ f_X8_told τ x1 x2 = some y ∧ mg_Inv σ1 y.2 ∧ y.2 0 0 = mg_cd 1 9 9 out ∧ (∀ v, out = .ok v → y.1 = v) ∧ out ≠ .error 1 ∧ out ≠ .error 2 := by
  unfold f_X8_told
  have I' := I
  obtain ⟨c, g, p, μ, hI, hR⟩ := mg_thr (v := 0) I
  obtain ⟨n1, n2, n3, n4, n5, n6, n7, n8, n9⟩ := hI.1
  rw [n5]
  rcases mg_idx (mg_su τ 0 0 0) x1 (c := c) (by omega) with ⟨h1, h2⟩ | ⟨i, hi, rfl, h0, h1, h2⟩
  · unfold f_X6_told
    rw [k6_ckCarp0 n4 h1, mg_xb_err, h2]
    exact ⟨.error 0, σ, _, rfl, rfl, mg_thr (mg_thr I'), rfl, (fun v h => by cases h), by simp, by simp⟩
  rw [h2, Option.bind_some, if_neg (show ¬ (1 : Int32) = 0 by decide)]
  rcases mg_what σ (mg_su τ 0 0 0) x2 (N := 4) (M := 5) (M1 := 4) (by omega) rfl rfl with ⟨w1, w2⟩ | ⟨k, hk, rfl, w1, w2⟩
  · unfold f_X6_told
    rw [k6_ckCarp1 n4 h0 h1, mg_xb_ok, w1, mg_xb_err, w2]
    exact ⟨.error 0, σ, _, rfl, rfl, mg_thr (mg_thr I'), rfl, (fun v h => by cases h), by simp, by simp⟩
  obtain ⟨v, v1, v2⟩ := mg_carpTold hI hR hi hk
  rw [v1, w2, Option.bind_some, if_neg (show ¬ (1 : Int32) = 0 by decide), v2]
  exact ⟨.ok v, σ, _, rfl, rfl, ⟨c, g, p, μ, hI, hR⟩, rfl, (fun u h => by cases h; rfl), by simp, by simp⟩
theorem sim_gate {σ τ : mg_St} (I : mg_Inv σ τ) (x1 x2 x3 : Int32) : ∃ (out : Except (Fin 3) Int32) (σ1 : mg_St) (y : Int32 × mg_St), f_X6_gate σ x1 x2 x3 = some (out, σ1) ∧ f_X8_gate τ x1 x2 x3 = some y ∧ mg_Inv σ1 y.2 ∧ y.2 0 0 = mg_cd 1 2 3 out ∧ (∀ v, out = .ok v → y.1 = v) := by
  unfold f_X6_gate f_X8_gate
  rcases mg_place σ (mg_su τ 0 0 0) x1 x2 with ⟨h1, h2⟩ | ⟨q, hq, e1, e2, e3, h1, h2⟩
  · rw [k6_place0 h1, mg_xb_err, h2]
    exact ⟨.error 0, σ, _, rfl, rfl, mg_thr (mg_thr I), rfl, fun v h => by cases h⟩
  have hdir : (f_X1_isDirection σ x3 = some 0 ∧ f_X8_isIn (mg_su τ 0 0 0) x3 0 3 = some 0) ∨ (∃ d, d < 4 ∧ x3 = nI d ∧ f_X1_isDirection σ x3 = some 1 ∧ f_X8_isIn (mg_su τ 0 0 0) x3 0 3 = some 1) := by
    unfold f_X1_isDirection
    rw [mg_isIn]
    by_cases a1 : x3 < 0
    · left; rw [if_pos a1, if_neg (fun c => c.1 a1)]; exact ⟨rfl, rfl⟩
    · by_cases a2 : 4 ≤ x3
      · left; rw [if_neg a1, if_pos a2, if_neg (fun c => by have := c.2; clear c; grind)]; exact ⟨rfl, rfl⟩
      · obtain ⟨d, hd, rfl⟩ := mg_nat (N := 4) (by omega) a1 a2
        right
        exact ⟨d, hd, rfl, by rw [if_neg a1, if_neg a2], by rw [if_pos ⟨a1, (nI_le (b := 3) (by omega) (by omega) : nI d ≤ nI 3)⟩]⟩
  rw [k6_place1 h1, mg_xb_ok, h2, Option.bind_some, if_neg (show ¬ (1 : Int32) = 0 by decide)]
  rcases hdir with ⟨d1, d2⟩ | ⟨d, hd, rfl, d1, d2⟩
  · rw [d1, d2]
    exact ⟨.error 1, σ, _, rfl, rfl, mg_thr (mg_thr I), rfl, fun v h => by cases h⟩
  have I' := I
  obtain ⟨c, g, p, μ, hI, hR⟩ := I
  obtain ⟨hN, hEE, hC, hG, hPo, hA, hM, hP⟩ := hI
  obtain ⟨n1, n2, n3, n4, n5, n6, n7, n8, n9⟩ := hN
  have m08 : mg_su τ 0 0 0 0 8 = nI g := n7
  rw [d1, d2, Option.bind_some, Option.bind_some, if_neg (show ¬ (1 : Int32) = 0 by decide), if_neg (show ¬ (1 : Int32) = 0 by decide), n6, m08]
  by_cases hg : g < 6
  · rw [if_pos (show nI g < 6 from nI_lt (b := 6) hg (by omega)), if_neg (show ¬ nI g = 6 from fun e => by have := mg_inj (b := 6) (by omega) (by omega) e; omega), k6_num e3, Option.bind_some]
    have hadd : f_X2_add σ (nI q) (nI d) = some (nI g, mg_su (mg_su (mg_su σ 18 g (nI q)) 19 g (nI d)) 3 2 (nI g + 1)) := by
      unfold f_X2_add
      rw [n6, if_neg (nI_pos (by omega)), if_neg (mg_le (M := 6) (N := 6) rfl (by omega) hg), mg_wrn hg (by omega), Option.bind_some, mg_wrn hg (by omega), Option.bind_some]
      have : mg_su (mg_su σ 18 g (nI q)) 19 g (nI d) 3 2 = nI g := n6
      rw [this]
    rw [hadd, Option.bind_some, e3, mg_wrn hg (by omega), Option.bind_some]
    have e08 : mg_su (mg_su τ 0 0 0) 9 g (nI q) 0 8 = nI g := n7
    rw [e08, mg_wrn hg (by omega), Option.bind_some]
    have e08' : mg_su (mg_su (mg_su τ 0 0 0) 9 g (nI q)) 10 g (nI d) 0 8 = nI g := n7
    rw [e08']
    dsimp only
    refine ⟨.ok _, _, _, rfl, rfl, ⟨c, g + 1, p, μ, ⟨?_, hEE, hC, ?_, ?_, hA, hM, mg_pnd_congr2 (fun k hk => by rw [mg_su_ne (by decide), mg_su_ne (by decide), mg_su_ne (by decide)]) (by rw [mg_su_ne (by decide), mg_su_ne (by decide), mg_su_ne (by decide)]) (by rw [mg_su_ne (by decide), mg_su_ne (by decide), mg_su_ne (by decide)]) (by rw [mg_su_ne (by decide), mg_su_ne (by decide), mg_su_ne (by decide)]) (by rw [mg_su_ne (by decide), mg_su_ne (by decide), mg_su_ne (by decide)]) (by rw [mg_su_ne (by decide), mg_su_ne (by decide), mg_su_ne (by decide)]) hP⟩, hR⟩, rfl, ?_⟩
    · exact ⟨n1, by omega, n3, n4, n5, nI_1 g, nI_1 g, n8, n9⟩
    · intro i hi
      rcases Nat.lt_or_ge i g with h | h
      · obtain ⟨P, D, p1, p2, p3, p4, p5, p6⟩ := hG i h
        refine ⟨P, D, p1, p2, ?_, ?_, ?_, ?_⟩
        · show upd (σ 18) g (nI q) i = _; rw [mg_upd, if_neg (by omega)]; exact p3
        · show upd (τ 9) g (nI q) i = _; rw [mg_upd, if_neg (by omega)]; exact p4
        · show upd (σ 19) g (nI d) i = _; rw [mg_upd, if_neg (by omega)]; exact p5
        · show upd (τ 10) g (nI d) i = _; rw [mg_upd, if_neg (by omega)]; exact p6
      · have e : i = g := by omega
        subst e
        refine ⟨q, d, hq, hd, ?_, ?_, ?_, ?_⟩
        · show upd (σ 18) i (nI q) i = _; rw [mg_upd, if_pos rfl]
        · show upd (τ 9) i (nI q) i = _; rw [mg_upd, if_pos rfl]
        · show upd (σ 19) i (nI d) i = _; rw [mg_upd, if_pos rfl]
        · show upd (τ 10) i (nI d) i = _; rw [mg_upd, if_pos rfl]
    · intro j hj
      obtain ⟨i, i1, i2, i3⟩ := hPo j hj
      exact ⟨i, by omega, i2, i3⟩
    · intro v hv; cases hv
      show nI g + 1 - 1 = nI g
      grind
  · have e : g = 6 := by omega
    subst e
    rw [if_neg (show ¬ nI 6 < 6 by decide), if_pos (show nI 6 = 6 from rfl)]
    exact ⟨.error 2, σ, _, rfl, rfl, mg_thr (mg_thr I'), rfl, fun v h => by cases h⟩
