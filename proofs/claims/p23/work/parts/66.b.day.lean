section DZ
variable {b e : Nat} {σ : mg_St} {ζ : mg_Sz} {c g p : Nat} {μ : Nat → Nat}
/-- what a view reads -/
theorem mq_view_congr {ζ ζ' : mg_Sz} (h2 : ζ'.1 2 = ζ.1 2) (h3 : ζ'.1 3 = ζ.1 3) (h4 : ζ'.1 4 = ζ.1 4) (c i : Nat) : mq_beauty ζ' c i = mq_beauty ζ c i ∧ mq_see ζ' i = mq_see ζ i := by
  have hk : mq_k ζ' = mq_k ζ := by unfold mq_k; rw [h2]
  have hs : mq_s ζ' = mq_s ζ := by unfold mq_s; rw [h2]
  have hz : mq_z ζ' = mq_z ζ := by unfold mq_z; rw [h2]
  have hp : ∀ j, mq_pl ζ' 3 j = mq_pl ζ 3 j := fun j => mq_pl_congr (by rw [h3]) (by rw [h3])
  have hsz : ∀ q, mq_szin ζ' c q = mq_szin ζ c q := fun q => by
    unfold mq_szin; exact mg_sum_congr (fun k hk => by rw [h3, hp])
  have hadd : ∀ pre q, mq_add ζ' c pre q = mq_add ζ c pre q := fun pre q => by
    unfold mq_add; rw [hk, hs, hz, hsz]
  have hbt : ∀ l pre acc, mq_bt ζ' c pre l acc = mq_bt ζ c pre l acc := by
    intro l; induction l with
    | nil => intro pre acc; rfl
    | cons q l ih => intro pre acc; show mq_bt ζ' c (pre ++ [q]) l _ = mq_bt ζ c (pre ++ [q]) l _; rw [ih, hadd]
  have hsee : mq_see ζ' i = mq_see ζ i := by
    unfold mq_see; rw [hk, hz, show mq_dr ζ' i = mq_dr ζ i by unfold mq_dr; rw [h4], mq_pl_congr (ζ := ζ) (ζ' := ζ') (t := 4) (j := i) (by rw [h4]) (by rw [h4])]
  refine ⟨?_, hsee⟩
  unfold mq_beauty; rw [hsee, hbt]
def mq_gp (ζ : mg_Sz) (k : Nat) : Nat := (ζ.1 5 k 0).toNatClampNeg
/-- what poet k writes -/
def mq_w (ζ : mg_Sz) (c k : Nat) : Int32 := mq_beauty ζ c (mq_gp ζ k) / 5 * (if ζ.1 0 0 0 - ζ.1 0 0 0 / 8 * 8 = 4 then 2 else 1)
def mq_zl (ζ : mg_Sz) (c j : Nat) : mg_Sz := (fun t k => if t = 5 ∧ k < j then upd (ζ.1 5 k) 1 (ζ.1 5 k 1 + mq_w ζ c k) else ζ.1 t k, ζ.2)
theorem mq_zl_ne {j t : Nat} (h : t ≠ 5) : (mq_zl ζ c j).1 t = ζ.1 t := by
  unfold mq_zl; funext k; exact if_neg (fun d => h d.1)
theorem mq_zl_5 {j k i : Nat} : (mq_zl ζ c j).1 5 k i = if k < j ∧ i = 1 then ζ.1 5 k 1 + mq_w ζ c k else ζ.1 5 k i := by
  unfold mq_zl
  dsimp only
  by_cases h : k < j
  · rw [if_pos ⟨rfl, h⟩, mg_upd]
    by_cases e : i = 1
    · rw [if_pos e, if_pos ⟨h, e⟩]
    · rw [if_neg e, if_neg (fun d => e d.2)]
  · rw [if_neg (fun d => h d.2), if_neg (fun d => h d.1)]
theorem mq_zl_0 : mq_zl ζ c 0 = ζ := by
  unfold mq_zl
  have : (fun t k => if t = 5 ∧ k < 0 then upd (ζ.1 5 k) 1 (ζ.1 5 k 1 + mq_w ζ c k) else ζ.1 t k) = ζ.1 := by
    funext t k; exact if_neg (fun d => by omega)
  rw [this]
theorem mq_zl_s {j : Nat} : mg_zu (mq_zl ζ c j) 5 j 1 ((mq_zl ζ c j).1 5 j 1 + mq_w ζ c j) = mq_zl ζ c (j + 1) := by
  refine Prod.ext ?_ rfl
  funext t k i
  rw [mg_zu_at]
  by_cases h5 : t = 5
  · subst h5
    rw [mq_zl_5, mq_zl_5, mq_zl_5]
    by_cases e : k = j ∧ i = 1
    · rw [if_pos ⟨rfl, e⟩, if_neg (by omega), if_pos (show k < j + 1 ∧ i = 1 by omega), e.1]
    · rw [if_neg (fun d => e d.2)]
      by_cases f : k < j ∧ i = 1
      · rw [if_pos f, if_pos (by omega)]
      · rw [if_neg f, if_neg (by omega)]
  · rw [if_neg (fun d => h5 d.1), mq_zl_ne h5, mq_zl_ne h5]
theorem mq_T_line (hb : mg_be b e) (hT : mq_Tb b e σ ζ c g p μ) {j : Nat} {v : Int32} {V : Nat → Int32} (hj : j < p) : mq_Tb b e (mg_su (mg_sr σ 7 V) (2 * b + 12) j v) (mg_zu ζ 5 j 1 v) c g p μ := by
  have p5 := (mq_c30 hT).2.2
  obtain ⟨⟨τ, hI, r1, r2, r3, r4, r5⟩, ⟨z1, z2, z3, z4, z5⟩, zc, zj, zi, zp⟩ := hT
  have hb' : b = e + 4 ∧ 1 ≤ e ∧ e ≤ 2 := by unfold mg_be at hb; omega
  refine ⟨⟨mg_su τ (2 * e + 11) j v, mg_core_fr hI (fun a h1 _ h5 h6 h7 _ => by rw [mg_su_ne (by omega), mg_sr_ne h7]) (fun a h1 _ _ _ _ => mg_su_ne (by omega)) (by rw [mg_su_ne (by omega)]) (by rw [mg_su_ne (by omega)]) (by rw [mg_su_ne (by omega)]), ?_, ?_, ?_, ?_, ?_⟩, ⟨z1, z2, z3, ?_, ?_⟩, ?_, ?_, ?_, ?_⟩
  · rw [mg_su_ne (by omega), mg_sr_ne (by omega), mg_su_ne (by omega)]; exact r1
  · rw [mg_su_ne (by omega), mg_sr_ne (by omega), mg_su_ne (by omega)]; exact r2
  · intro i hi
    have e1 : mg_su τ (2 * e + 11) j v (2 * e + 10) = τ (2 * e + 10) := mg_su_ne (by omega)
    have e2 : mg_su (mg_sr σ 7 V) (2 * b + 12) j v (2 * b + 11) = σ (2 * b + 11) := by rw [mg_su_ne (by omega), mg_sr_ne (by omega)]
    rw [e1, e2]; exact r3 i hi
  · intro i hi
    rw [mg_su_eq, mg_su_eq]
    by_cases e : i = j
    · rw [if_pos e, if_pos e]
    · rw [if_neg e, if_neg e, mg_sr_ne (by omega)]; exact r4 i hi
  · intro i hi hi5
    rw [mg_su_eq, if_neg (by omega), mg_sr_ne (by omega)]; exact r5 i hi hi5
  · rw [mg_zu_at, if_neg (fun d => by omega), mg_su_ne (by omega), mg_sr_ne (by omega)]; exact z4
  · rw [mg_zu_at, if_neg (fun d => by omega), mg_su_ne (by omega), mg_sr_ne (by omega)]; exact z5
  · intro q hq
    rw [mg_zu_row (by omega), mg_su_ne (by omega), mg_sr_ne (by omega), mg_su_ne (by omega), mg_sr_ne (by omega), mg_su_ne (by omega), mg_sr_ne (by omega)]; exact zc q hq
  · intro i hi
    rw [mg_zu_row (by omega), mg_su_ne (by omega), mg_sr_ne (by omega), mg_su_ne (by omega), mg_sr_ne (by omega), mg_su_ne (by omega), mg_sr_ne (by omega)]; exact zj i hi
  · intro i hi
    rw [mg_zu_row (by omega), mg_su_ne (by omega), mg_sr_ne (by omega), mg_su_ne (by omega), mg_sr_ne (by omega)]; exact zi i hi
  · intro i hi
    rw [mg_zu_at, mg_zu_at, if_neg (fun d => by omega), mg_su_eq, mg_su_ne (by omega), mg_sr_ne (by omega)]
    refine ⟨(zp i hi).1, ?_⟩
    by_cases e : i = j
    · rw [if_pos e, if_pos ⟨rfl, e, rfl⟩]
    · rw [if_neg e, if_neg (fun d => e d.2.1), mg_sr_ne (by omega)]; exact (zp i hi).2
theorem mq_dbl (x : Int32) : x * 2 = x + x ∧ x * 1 = x ∧ 2 * x = x + x ∧ 1 * x = x := by
  refine ⟨?_, ?_, ?_, ?_⟩ <;> grind
theorem mq_T5 (hb : mg_be b e) (hT : mq_Tb b e σ ζ c g p μ) : ∃ σ5, mq_T σ5 ζ c g p μ := by
  obtain ⟨⟨τ, hI, r1, r2, r3, r4, r5⟩, ⟨z1, z2, z3, z4, z5⟩, zc, zj, zi, zp⟩ := hT
  have hb' : b = e + 4 ∧ 1 ≤ e ∧ e ≤ 2 := by unfold mg_be at hb; omega
  refine ⟨mg_sr (mg_sr (mg_sr σ 5 (σ b)) 21 (σ (2 * b + 11))) 22 (σ (2 * b + 12)), ⟨mg_sr (mg_sr (mg_sr τ 1 (τ e)) 12 (τ (2 * e + 10))) 13 (τ (2 * e + 11)), mg_core_fr hI (fun a h1 _ h5 _ _ _ => by rw [mg_sr_ne (by omega), mg_sr_ne (by omega), mg_sr_ne h5]) (fun a h1 _ h1' _ _ => by rw [mg_sr_ne (by omega), mg_sr_ne (by omega), mg_sr_ne h1']) rfl rfl rfl, r1, r2, r3, r4, r5⟩, ⟨z1, z2, z3, z4, z5⟩, zc, zj, zi, zp⟩
theorem mq_poetsL (hb : mg_be b e) (ζ : mg_Sz) (f : Int32) (hf : f = if ζ.1 0 0 0 - ζ.1 0 0 0 / 8 * 8 = 4 then 2 else 1) : ∀ (n j m : Nat) (σ : mg_St), mq_Tb b e σ (mq_zl ζ c j) c g p μ → j ≤ p → p < n + j → p < m + j →
    ∃ σ', f_X6_letPoetsWrite_18 b f n (mg_sum (mq_w ζ c) j) (nI j) σ = some (mg_sum (mq_w ζ c) p, nI p, σ') ∧ f_X7_pass_129 (nI p) m (mg_sum (mq_w ζ c) j) (nI j) (mq_zl ζ c j) = some (mg_sum (mq_w ζ c) p, nI p, mq_zl ζ c p) ∧ mq_Tb b e σ' (mq_zl ζ c p) c g p μ ∧ (∀ a, a ≠ 7 → a ≠ 2 * b + 12 → σ' a = σ a) := by
  intro n; induction n with
  | zero => intro j m σ hJ h1 h2; omega
  | succ n ih =>
    intro j m σ hT h1 h2 h3
    obtain ⟨m, rfl⟩ : ∃ m', m = m' + 1 := ⟨m - 1, by omega⟩
    obtain ⟨-, g6, p5⟩ := mq_c30 hT
    have n8 : σ 4 1 = nI p := by obtain ⟨⟨τ, hI, hR⟩, hZ⟩ := hT; exact hI.1.2.2.2.2.2.2.2.1
    unfold f_X6_letPoetsWrite_18 f_X7_pass_129
    rw [n8]
    rcases Nat.lt_or_ge j p with h | h
    · obtain ⟨i, hi, q1, q2, q3⟩ := mq_poet hT h
      obtain ⟨V, v1, -⟩ := q_look hT hi
      obtain ⟨vb, -⟩ := mq_view_congr (ζ := ζ) (ζ' := mq_zl ζ c j) (mq_zl_ne (by omega)) (mq_zl_ne (by omega)) (mq_zl_ne (by omega)) c i
      rw [vb] at v1
      have hgi : mq_gp ζ j = i := by
        have e : (mq_zl ζ c j).1 5 j 0 = ζ.1 5 j 0 := by rw [mq_zl_5, if_neg (fun d => by omega)]
        unfold mq_gp; rw [← e, q2, nI_clamp (by omega)]
      have hw : mq_w ζ c j = mq_beauty ζ c i / 5 * f := by unfold mq_w; rw [hgi, hf]
      obtain ⟨σ5, hT5⟩ := mq_T5 hb hT
      have hk7 := k7_beauty hT5 hi
      rw [vb] at hk7
      rw [if_neg (nI_ge h (by omega)), if_neg (nI_ge h (by omega)), k3_gateOf n8 p5 h, Option.bind_some, q1, v1, Option.bind_some]
      dsimp only
      rw [k0_addWritten (by omega), Option.bind_some]
      rw [hT.2.1.2.2.1, mg_ixn h (by omega), Option.bind_some, hT.2.1.2.1, q2, mg_ixn hi (by omega), Option.bind_some, hk7, Option.bind_some]
      have hsel : (if (mq_zl ζ c j).1 0 0 0 - (mq_zl ζ c j).1 0 0 0 / 8 * 8 = 4 then some (mq_beauty ζ c i / 5 + mq_beauty ζ c i / 5) else some (mq_beauty ζ c i / 5) : Option Int32) = some (mq_w ζ c j) := by
        rw [mq_zl_ne (by omega), hw, hf]
        by_cases k : ζ.1 0 0 0 - ζ.1 0 0 0 / 8 * 8 = 4
        · rw [if_pos k, if_pos k, (mq_dbl _).1]
        · rw [if_neg k, if_neg k, (mq_dbl _).2.1]
      rw [hsel, Option.bind_some, Int32.mul_comm f, ← hw, ← nI_succ]
      have e4 : mg_sr σ 7 V (2 * b + 12) j = (mq_zl ζ c j).1 5 j 1 := by
        have hb' : b = e + 4 ∧ 1 ≤ e ∧ e ≤ 2 := by unfold mg_be at hb; omega
        rw [mg_sr_ne (by omega), q3]
      rw [e4]
      obtain ⟨σ', g1, g2, g3, g4⟩ := ih (j + 1) m _ (by rw [← mq_zl_s]; exact mq_T_line (V := V) hb hT h) (by omega) (by omega) (by omega)
      rw [← mq_zl_s] at g2
      exact ⟨σ', g1, g2, g3, fun a h7 ha => by rw [g4 a h7 ha, mg_su_ne ha, mg_sr_ne h7]⟩
    · have e : j = p := by omega
      subst e
      exact ⟨σ, by rw [if_pos (Int32.le_refl _)], by rw [if_pos (Int32.le_refl _)], hT, fun _ _ _ => rfl⟩
theorem mq_T_cd (hb : mg_be b e) (hT : mq_Tb b e σ ζ c g p μ) {u v : Int32} : mq_Tb b e (mg_su (mg_su σ b 1 u) b 0 v) (mg_zu (mg_zu ζ 0 0 1 u) 0 0 0 v) c g p μ := by
  obtain ⟨⟨τ, hI, r1, r2, r3, r4, r5⟩, ⟨z1, z2, z3, z4, z5⟩, zc, zj, zi, zp⟩ := hT
  have hb' : b = e + 4 ∧ 1 ≤ e ∧ e ≤ 2 := by unfold mg_be at hb; omega
  have zz : ∀ t, t ≠ 0 → (mg_zu (mg_zu ζ 0 0 1 u) 0 0 0 v).1 t = ζ.1 t := fun t h => by rw [mg_zu_row h, mg_zu_row h]
  refine ⟨⟨mg_su (mg_su τ e 1 u) e 0 v, mg_core_fr hI (fun a h1 _ h5 h6 h7 _ => by rw [mg_su_ne (by omega), mg_su_ne (by omega)]) (fun a h1 _ h1' h2' _ => by rw [mg_su_ne (by omega), mg_su_ne (by omega)]) (by rw [mg_su_ne (by omega), mg_su_ne (by omega)]) (by rw [mg_su_ne (by omega), mg_su_ne (by omega)]) (by rw [mg_su_ne (by omega), mg_su_ne (by omega)]), ?_, ?_, ?_, ?_, ?_⟩, ⟨z1, z2, z3, ?_, ?_⟩, ?_, ?_, ?_, ?_⟩
  · simp [mg_su_eq]
  · simp [mg_su_eq]
  · intro i hi; rw [mg_su_ne (by omega), mg_su_ne (by omega), mg_su_ne (by omega), mg_su_ne (by omega)]; exact r3 i hi
  · intro i hi; rw [mg_su_ne (by omega), mg_su_ne (by omega), mg_su_ne (by omega), mg_su_ne (by omega)]; exact r4 i hi
  · intro i hi; rw [mg_su_ne (by omega), mg_su_ne (by omega)]; exact r5 i hi
  · rw [mg_zu_at, if_pos ⟨rfl, rfl, rfl⟩, mg_su_eq, if_pos rfl]
  · rw [mg_zu_at, if_neg (fun d => by omega), mg_zu_at, if_pos ⟨rfl, rfl, rfl⟩, mg_su_eq, if_neg (by omega), mg_su_eq, if_pos rfl]
  · intro q hq
    rw [zz 2 (by omega), mg_su_ne (by omega), mg_su_ne (by omega), mg_su_ne (by omega), mg_su_ne (by omega), mg_su_ne (by omega), mg_su_ne (by omega)]; exact zc q hq
  · intro i hi
    rw [zz 3 (by omega), mg_su_ne (by omega), mg_su_ne (by omega), mg_su_ne (by omega), mg_su_ne (by omega), mg_su_ne (by omega), mg_su_ne (by omega)]; exact zj i hi
  · intro i hi
    rw [zz 4 (by omega), mg_su_ne (by omega), mg_su_ne (by omega), mg_su_ne (by omega), mg_su_ne (by omega)]; exact zi i hi
  · intro i hi
    rw [zz 5 (by omega), mg_su_ne (by omega), mg_su_ne (by omega), mg_su_ne (by omega), mg_su_ne (by omega)]; exact zp i hi
def mq_v (ζ : mg_Sz) (μ : Nat → Nat) (c p : Nat) : Int32 := mg_sum (mq_w (mq_zg ζ μ c c) c) p
def mq_z2 (ζ : mg_Sz) (μ : Nat → Nat) (c p : Nat) : mg_Sz := mq_zl (mq_zg ζ μ c c) c p
/-- the garden a day on -/
def mq_day (ζ : mg_Sz) (μ : Nat → Nat) (c p : Nat) : mg_Sz := mg_zu (mg_zu (mq_z2 ζ μ c p) 0 0 1 (ζ.1 0 0 1 + mq_v ζ μ c p / 10)) 0 0 0 (ζ.1 0 0 0 + 1)
theorem q_day (hb : mg_be b e) (hT : mq_Tb b e σ ζ c g p μ) : ∃ σ', f_X6_letPass σ b 1 = some (mq_v ζ μ c p, σ') ∧ f_X7_pass ζ = some (mq_v ζ μ c p, mq_day ζ μ c p) ∧ mq_Tb b e σ' (mq_day ζ μ c p) c g p μ ∧ (∀ a, a ≠ 7 → a ≠ b → a ≠ 2 * b + 11 → a ≠ 2 * b + 12 → σ' a = σ a) := by
  obtain ⟨c30, g6, p5⟩ := mq_c30 hT
  have hb' : b = e + 4 ∧ 1 ≤ e ∧ e ≤ 2 := by unfold mg_be at hb; omega
  have hT0 : mq_Tb b e σ (mq_zg ζ μ c 0) c g p μ := by rw [mq_zg_0]; exact hT
  obtain ⟨σ1, a1, -, a3, a4⟩ := mq_growL hb ζ 5000 0 31 σ hT0 (by omega) (by omega) (by omega)
  obtain ⟨-, -, a2, -, -⟩ := mq_growL hb ζ 5000 0 31 σ hT0 (by omega) (by omega) (by omega)
  rw [nI_0] at a1 a2
  rw [mq_zg_0] at a2
  have hT1 : mq_Tb b e σ1 (mq_zl (mq_zg ζ μ c c) c 0) c g p μ := by rw [mq_zl_0]; exact a3
  have hday : (mq_zg ζ μ c c).1 0 = ζ.1 0 := mq_zg_ne (by omega)
  obtain ⟨σ2, b1, b2, b3, b4⟩ := mq_poetsL hb (mq_zg ζ μ c c) (if ζ.1 0 0 0 - ζ.1 0 0 0 / 8 * 8 = 4 then 2 else 1) (by rw [hday]) 5000 0 6 σ1 hT1 (by omega) (by omega) (by omega)
  rw [nI_0, show mg_sum (mq_w (mq_zg ζ μ c c) c) 0 = 0 from rfl] at b1 b2
  rw [mq_zl_0] at b2
  have e0 : σ1 b 0 = ζ.1 0 0 0 := by rw [← a3.2.1.2.2.2.1, hday]
  have e20 : σ2 b 0 = ζ.1 0 0 0 := by rw [b4 b (by omega) (by omega)]; exact e0
  have e21 : σ2 b 1 = ζ.1 0 0 1 := by rw [b4 b (by omega) (by omega), ← a3.2.1.2.2.2.2, hday]
  have hz0 : (mq_z2 ζ μ c p).1 0 = ζ.1 0 := by unfold mq_z2; rw [mq_zl_ne (by omega), hday]
  have hg : f_X6_letCarpsGrow σ b = some σ1 := by unfold f_X6_letCarpsGrow; rw [a1]; rfl
  have hw : f_X6_letPoetsWrite σ1 b = some (mq_v ζ μ c p, σ2) := by
    unfold f_X6_letPoetsWrite f_X0_isFullMoon
    rw [e0]
    by_cases k : ζ.1 0 0 0 - ζ.1 0 0 0 / 8 * 8 = 4
    · rw [if_pos k] at b1
      rw [if_pos k, Option.bind_some, if_neg (show ¬ (1 : Int32) = 0 by decide), Option.bind_some, b1]; rfl
    · rw [if_neg k] at b1
      rw [if_neg k, Option.bind_some, if_pos rfl, Option.bind_some, b1]; rfl
  refine ⟨mg_su (mg_su σ2 b 1 (ζ.1 0 0 1 + mq_v ζ μ c p / 10)) b 0 (ζ.1 0 0 0 + 1), ?_, ?_, ?_, ?_⟩
  · unfold f_X6_letPass f_X6_letPass_5
    rw [if_neg (show ¬ (1 : Int32) ≤ 0 by decide), hg, Option.bind_some, hw, Option.bind_some]
    dsimp only
    rw [e21]
    have e22 : mg_su σ2 b 1 (ζ.1 0 0 1 + mq_v ζ μ c p / 10) b 0 = ζ.1 0 0 0 := by rw [mg_su_eq, if_neg (by omega)]; exact e20
    rw [e22]
    unfold f_X6_letPass_5
    rw [if_pos (show (1 : Int32) ≤ 0 + 1 by decide), Option.bind_some, Int32.zero_add]
  · unfold f_X7_pass
    rw [hT.2.1.1, a2, Option.bind_some]
    dsimp only
    rw [a3.2.1.2.2.1, b2, Option.bind_some]
    unfold mq_day mq_v
    have h1 : (mq_zl (mq_zg ζ μ c c) c p).1 0 0 1 = ζ.1 0 0 1 := by have := hz0; unfold mq_z2 at this; rw [this]
    have h0 : (mq_zl (mq_zg ζ μ c c) c p).1 0 0 0 = ζ.1 0 0 0 := by have := hz0; unfold mq_z2 at this; rw [this]
    dsimp only
    rw [h1, mg_zu_at, if_neg (show ¬ (0 = 0 ∧ 0 = 0 ∧ 0 = 1) by omega), h0]
    rfl
  · exact mq_T_cd hb b3
  · intro a h7 hab h11 h12
    rw [mg_su_ne hab, mg_su_ne hab, b4 a h7 h12, a4 a h11]
end DZ
