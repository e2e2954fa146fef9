/-! ===== a day ===== -/
theorem mg_zu_at {ζ : mg_Sz} {t j i t' j' i' : Nat} {v : Int32} : (mg_zu ζ t j i v).1 t' j' i' = if t' = t ∧ j' = j ∧ i' = i then v else ζ.1 t' j' i' := by
  unfold mg_zu
  by_cases h : t' = t ∧ j' = j
  · obtain ⟨rfl, rfl⟩ := h
    dsimp only
    rw [if_pos ⟨rfl, rfl⟩, mg_upd]
    by_cases e : i' = i
    · rw [if_pos e, if_pos ⟨rfl, rfl, e⟩]
    · rw [if_neg e, if_neg (fun d => e d.2.2)]
  · dsimp only
    rw [if_neg h, if_neg (fun d => h ⟨d.1, d.2.1⟩)]
theorem mg_zu_2 {ζ : mg_Sz} {t j i : Nat} {v : Int32} : (mg_zu ζ t j i v).2 = ζ.2 := rfl
theorem mg_zu_row {ζ : mg_Sz} {t j i t' : Nat} {v : Int32} (h : t' ≠ t) : (mg_zu ζ t j i v).1 t' = ζ.1 t' := by
  unfold mg_zu
  funext a
  exact if_neg (fun d => h d.1)
theorem mq_pl_congr {ζ ζ' : mg_Sz} {t j : Nat} (h0 : ζ'.1 t j 0 = ζ.1 t j 0) (h1 : ζ'.1 t j 1 = ζ.1 t j 1) : mq_pl ζ' t j = mq_pl ζ t j := by unfold mq_pl; rw [h0, h1]
section DY
variable {b e : Nat} {σ : mg_St} {ζ : mg_Sz} {c g p : Nat} {μ : Nat → Nat}
theorem mq_T_size (hb : mg_be b e) (hT : mq_Tb b e σ ζ c g p μ) {j : Nat} {v : Int32} (hj : j < c) (hv : ∃ z, 1 ≤ z ∧ z ≤ 40 ∧ v = nI z) : mq_Tb b e (mg_su σ (2 * b + 11) j v) (mg_zu ζ 3 j 2 v) c g p μ := by
  obtain ⟨⟨τ, hI, r1, r2, r3, r4, r5⟩, ⟨z1, z2, z3, z4, z5⟩, zc, zj, zi, zp⟩ := hT
  have hb' : b = e + 4 ∧ 1 ≤ e ∧ e ≤ 2 := by unfold mg_be at hb; omega
  refine ⟨⟨mg_su τ (2 * e + 10) j v, mg_core_fr hI (fun a h1 _ _ _ _ _ => mg_su_ne (by omega)) (fun a h1 _ _ _ _ => mg_su_ne (by omega)) (by rw [mg_su_ne (by omega)]) (by rw [mg_su_ne (by omega)]) (by rw [mg_su_ne (by omega)]), ?_, ?_, ?_, ?_, ?_⟩, ⟨z1, z2, z3, ?_, ?_⟩, ?_, ?_, ?_, ?_⟩
  · rw [mg_su_ne (by omega), mg_su_ne (by omega)]; exact r1
  · rw [mg_su_ne (by omega), mg_su_ne (by omega)]; exact r2
  · intro i hi
    rw [mg_su_eq, mg_su_eq]
    by_cases e : i = j
    · rw [if_pos e, if_pos e]; exact ⟨rfl, hv⟩
    · rw [if_neg e, if_neg e]; exact r3 i hi
  · intro i hi; rw [mg_su_ne (by omega), mg_su_ne (by omega)]; exact r4 i hi
  · intro i hi; rw [mg_su_ne (by omega)]; exact r5 i hi
  · rw [mg_zu_at, if_neg (fun d => by omega), mg_su_ne (by omega)]; exact z4
  · rw [mg_zu_at, if_neg (fun d => by omega), mg_su_ne (by omega)]; exact z5
  · intro q hq
    rw [mg_zu_row (by omega), mg_su_ne (by omega), mg_su_ne (by omega), mg_su_ne (by omega)]; exact zc q hq
  · intro i hi
    obtain ⟨q, q1, q2, q3, q4, q5, q6⟩ := zj i hi
    refine ⟨q, q1, by rw [mg_su_ne (by omega)]; exact q2, by rw [mg_zu_at, if_neg (fun d => by omega)]; exact q3, by rw [mg_zu_at, if_neg (fun d => by omega)]; exact q4, ?_, by rw [mg_zu_at, if_neg (fun d => by omega), mg_su_ne (by omega)]; exact q6⟩
    rw [mg_zu_at, mg_su_eq]
    by_cases e : i = j
    · rw [if_pos e, if_pos ⟨rfl, e, rfl⟩]
    · rw [if_neg e, if_neg (fun d => e d.2.1)]; exact q5
  · intro i hi
    rw [mg_zu_row (by omega), mg_su_ne (by omega), mg_su_ne (by omega)]; exact zi i hi
  · intro i hi
    rw [mg_zu_row (by omega), mg_su_ne (by omega), mg_su_ne (by omega)]; exact zp i hi
/-- what a carp grows to -/
def mq_gr (ζ : mg_Sz) (μ : Nat → Nat) (c j : Nat) : Int32 := if ζ.1 3 j 3 = 0 then mg_clamp (ζ.1 3 j 2 + (if mq_in ζ μ c (mq_pl ζ 3 j) ≤ 2 * mg_cells (mq_k ζ) μ (mq_pl ζ 3 j) then 1 else -1)) else ζ.1 3 j 2
def mq_zg (ζ : mg_Sz) (μ : Nat → Nat) (c j : Nat) : mg_Sz := (fun t k => if t = 3 ∧ k < j then upd (ζ.1 3 k) 2 (mq_gr ζ μ c k) else ζ.1 t k, ζ.2)
theorem mq_zg_ne {j t : Nat} (h : t ≠ 3) : (mq_zg ζ μ c j).1 t = ζ.1 t := by
  unfold mq_zg; funext k; exact if_neg (fun d => h d.1)
theorem mq_zg_3 {j k i : Nat} : (mq_zg ζ μ c j).1 3 k i = if k < j ∧ i = 2 then mq_gr ζ μ c k else ζ.1 3 k i := by
  unfold mq_zg
  dsimp only
  by_cases h : k < j
  · rw [if_pos ⟨rfl, h⟩, mg_upd]
    by_cases e : i = 2
    · rw [if_pos e, if_pos ⟨h, e⟩]
    · rw [if_neg e, if_neg (fun d => e d.2)]
  · rw [if_neg (fun d => h d.2), if_neg (fun d => h d.1)]
theorem mq_zg_pl {j k : Nat} : mq_pl (mq_zg ζ μ c j) 3 k = mq_pl ζ 3 k := mq_pl_congr (by rw [mq_zg_3, if_neg (fun d => by omega)]) (by rw [mq_zg_3, if_neg (fun d => by omega)])
theorem mq_zg_in {j q : Nat} : mq_in (mq_zg ζ μ c j) μ c q = mq_in ζ μ c q := by
  unfold mq_in
  refine mg_sum_congr (fun k hk => ?_)
  rw [mq_zg_pl, mq_zg_3, if_neg (show ¬ (k < j ∧ 3 = 2) from fun d => by omega)]
theorem mq_zg_k {j : Nat} : mq_k (mq_zg ζ μ c j) = mq_k ζ := by
  funext q; show (mq_zg ζ μ c j).1 2 q 0 = ζ.1 2 q 0; rw [mq_zg_ne (by omega)]
theorem mq_zg_0 : mq_zg ζ μ c 0 = ζ := by
  unfold mq_zg
  have : (fun t k => if t = 3 ∧ k < 0 then upd (ζ.1 3 k) 2 (mq_gr ζ μ c k) else ζ.1 t k) = ζ.1 := by
    funext t k; exact if_neg (fun d => by omega)
  rw [this]
theorem mq_zg_s {j : Nat} : mg_zu (mq_zg ζ μ c j) 3 j 2 (mq_gr ζ μ c j) = mq_zg ζ μ c (j + 1) := by
  refine Prod.ext ?_ rfl
  funext t k i
  rw [mg_zu_at]
  by_cases h3 : t = 3
  · subst h3
    rw [mq_zg_3, mq_zg_3]
    by_cases e : k = j ∧ i = 2
    · rw [if_pos ⟨rfl, e⟩, if_pos (by omega), e.1]
    · rw [if_neg (fun d => e d.2)]
      by_cases f : k < j ∧ i = 2
      · rw [if_pos f, if_pos (by omega)]
      · rw [if_neg f, if_neg (by omega)]
  · rw [if_neg (fun d => h3 d.1), mq_zg_ne h3, mq_zg_ne h3]
theorem mq_zg_s' {j : Nat} (h : ¬ ζ.1 3 j 3 = 0) : mq_zg ζ μ c j = mq_zg ζ μ c (j + 1) := by
  refine Prod.ext ?_ rfl
  funext t k i
  by_cases h3 : t = 3
  · subst h3
    rw [mq_zg_3, mq_zg_3]
    by_cases e : k = j ∧ i = 2
    · rw [if_neg (by omega), if_pos (by omega)]
      unfold mq_gr
      rw [e.1, e.2, if_neg h]
    · by_cases f : k < j ∧ i = 2
      · rw [if_pos f, if_pos (by omega)]
      · rw [if_neg f, if_neg (by omega)]
  · rw [mq_zg_ne h3, mq_zg_ne h3]
theorem mq_cl_fin : ∀ z : Fin 41, 1 ≤ z.1 → mg_clamp (nI z.1 + 1) = (if 40 ≤ nI z.1 then 40 else nI z.1 + 1) ∧ (∃ w : Fin 41, 1 ≤ w.1 ∧ mg_clamp (nI z.1 + 1) = nI w.1) ∧ mg_clamp (nI z.1 + -1) = (if nI z.1 ≤ 1 then 1 else nI z.1 - 1) ∧ (∃ w : Fin 41, 1 ≤ w.1 ∧ mg_clamp (nI z.1 + -1) = nI w.1) := by decide +kernel
theorem mq_growL (hb : mg_be b e) (ζ : mg_Sz) : ∀ (n j m : Nat) (σ : mg_St), mq_Tb b e σ (mq_zg ζ μ c j) c g p μ → j ≤ c → c < n + j → c < m + j →
    ∃ σ', f_X6_letCarpsGrow_2 b n (nI j) σ = some (nI c, σ') ∧ f_X7_pass_10 (nI c) m (nI j) (mq_zg ζ μ c j) = some (nI c, mq_zg ζ μ c c) ∧ mq_Tb b e σ' (mq_zg ζ μ c c) c g p μ ∧ (∀ a, a ≠ 2 * b + 11 → σ' a = σ a) := by
  intro n; induction n with
  | zero => intro j m σ hJ h1 h2; omega
  | succ n ih =>
    intro j m σ hT h1 h2 h3
    obtain ⟨m, rfl⟩ : ∃ m', m = m' + 1 := ⟨m - 1, by omega⟩
    obtain ⟨c30, -, -⟩ := mq_c30 hT
    have n4 : σ 2 2 = nI c := by obtain ⟨⟨τ, hI, hR⟩, hZ⟩ := hT; exact hI.1.2.2.2.1
    have hP : mg_pnd σ μ := by obtain ⟨⟨τ, hI, hR⟩, hZ⟩ := hT; exact hI.2.2.2.2.2.2.2
    unfold f_X6_letCarpsGrow_2 f_X7_pass_10
    rw [n4]
    rcases Nat.lt_or_ge j c with h | h
    · obtain ⟨t1, t2, t3, t4, t5, t6, t7, t8, z, z1, z2, z3⟩ := mq_carpb hT h
      rw [mq_zg_pl] at t1 t2 t3 t4 t8
      rw [if_neg (nI_ge h (by omega)), if_neg (nI_ge h (by omega)), k4_isHere n4 c30 h, Option.bind_some, hT.2.1.1, mg_ixn h (by omega), Option.bind_some]
      have e3 : (mq_zg ζ μ c j).1 3 j 3 = ζ.1 3 j 3 := by rw [mq_zg_3, if_neg (fun d => by omega)]
      have e2 : (mq_zg ζ μ c j).1 3 j 2 = ζ.1 3 j 2 := by rw [mq_zg_3, if_neg (fun d => by omega)]
      rcases t7 with s | s
      · have s0 : σ 17 j = 0 := by rw [← t6]; exact s
        have kq := t8 s
        rw [mq_zg_k] at kq
        have kσ : σ 8 (mq_pl ζ 3 j) = 2 := by
          have := mq_kk hT t1
          rw [mq_zg_ne (by omega)] at this
          rw [← this]; exact kq
        rw [if_pos s0, if_neg (show ¬ (1 : Int32) = 0 by decide), k4_placeOf n4 c30 h, Option.bind_some, t2, k1_tooFull hP t1 kσ, Option.bind_some]
        rw [if_neg (show ¬ (mq_zg ζ μ c j).1 3 j 3 = 1 by rw [s]; decide), t3, t4]
        obtain ⟨O, o1, o2⟩ := k7_pond (κ := mq_k ζ) (ζ := mq_zg ζ μ c j) (fun q hq => by rw [mq_zg_ne (by omega)]) (by have := mq_M hT; rw [mq_zg_k] at this; exact this) t1
        have o3 := k7_many_om o2
        rw [if_pos kq] at o3
        have o4 : f_X7_carpsIn (mq_zg ζ μ c j) O = some (mq_in ζ μ c (mq_pl ζ 3 j)) := by
          have o2' : mg_om (mq_k (mq_zg ζ μ c j)) μ (mq_pl ζ 3 j) O := by rw [mq_zg_k]; exact o2
          rw [k7_carpsIn_om hT.2.1.1 c30 (fun i hi => by obtain ⟨h1, h2, h3, h4, -⟩ := mq_carpb hT hi; exact ⟨h1, h3, h4⟩) (fun i hi s => (mq_carpb hT hi).2.2.2.2.2.2.2.1 s) o2', if_pos (by rw [mq_zg_k]; exact kq)]
          exact congrArg some mq_zg_in
        rw [o1, Option.bind_some, o4, Option.bind_some, o3, Option.bind_some]
        obtain ⟨f1, ⟨w1, f2, f3⟩, f4, ⟨w2, f5, f6⟩⟩ := mq_cl_fin ⟨z, by omega⟩ z1
        simp only at f1 f2 f3 f4 f5 f6
        have hfull : mg_full σ μ (mq_pl ζ 3 j) ↔ ¬ mq_in ζ μ c (mq_pl ζ 3 j) ≤ 2 * mg_cells (mq_k ζ) μ (mq_pl ζ 3 j) := by
          have a1 := mq_aged_eq hT (q := mq_pl ζ 3 j)
          have a2 := mq_cells_eq hT (q := mq_pl ζ 3 j)
          rw [mq_zg_in] at a1
          rw [mq_zg_k] at a2
          unfold mg_full
          rw [a1, a2]
        have hz : ζ.1 3 j 2 = nI z := by rw [← e2]; exact z3
        have hσz : σ (2 * b + 11) j = nI z := by rw [← t5]; exact z3
        by_cases hf : mq_in ζ μ c (mq_pl ζ 3 j) ≤ 2 * mg_cells (mq_k ζ) μ (mq_pl ζ 3 j)
        · have hgr : mq_gr ζ μ c j = mg_clamp (nI z + 1) := by unfold mq_gr; rw [if_pos (by rw [← e3]; exact s), if_pos hf, hz]
          rw [if_neg (fun d => hfull.1 d hf), if_pos rfl, Option.bind_some, k0_carpSize (by omega), Option.bind_some, k0_setCarpSize (by omega), Option.bind_some, hσz, ← hgr, ← nI_succ]
          rw [if_pos hf, e2, hz]
          have key := ih (j + 1) m _ (by rw [← mq_zg_s]; exact mq_T_size hb hT h ⟨w1.1, f2, by omega, by rw [hgr]; exact f3⟩) (by omega) (by omega) (by omega)
          obtain ⟨σ', g1, g2, g3, g4⟩ := key
          refine ⟨σ', g1, ?_, g3, fun a ha => by rw [g4 a ha, mg_su_ne ha]⟩
          rw [← mq_zg_s, hgr, f1] at g2
          by_cases z40 : (40 : Int32) ≤ nI z
          · rw [if_pos z40] at g2; rw [if_pos z40]; exact g2
          · rw [if_neg z40] at g2; rw [if_neg z40]; exact g2
        · have hgr : mq_gr ζ μ c j = mg_clamp (nI z + -1) := by unfold mq_gr; rw [if_pos (by rw [← e3]; exact s), if_neg hf, hz]
          rw [if_pos (hfull.2 hf), if_neg (show ¬ (1 : Int32) = 0 by decide), Option.bind_some, k0_carpSize (by omega), Option.bind_some, k0_setCarpSize (by omega), Option.bind_some, hσz, ← hgr, ← nI_succ]
          rw [if_neg hf, e2, hz]
          have key := ih (j + 1) m _ (by rw [← mq_zg_s]; exact mq_T_size hb hT h ⟨w2.1, f5, by omega, by rw [hgr]; exact f6⟩) (by omega) (by omega) (by omega)
          obtain ⟨σ', g1, g2, g3, g4⟩ := key
          refine ⟨σ', g1, ?_, g3, fun a ha => by rw [g4 a ha, mg_su_ne ha]⟩
          rw [← mq_zg_s, hgr, f4] at g2
          by_cases z40 : nI z ≤ (1 : Int32)
          · rw [if_pos z40] at g2; rw [if_pos z40]; exact g2
          · rw [if_neg z40] at g2; rw [if_neg z40]; exact g2
      · have s0 : ¬ σ 17 j = 0 := by rw [← t6, s]; decide
        rw [if_neg s0, if_pos rfl, if_pos s, ← nI_succ]
        have ez := mq_zg_s' (ζ := ζ) (μ := μ) (c := c) (j := j) (by rw [← e3, s]; decide)
        rw [ez]
        exact ih (j + 1) m σ (by rw [← ez]; exact hT) (by omega) (by omega) (by omega)
    · have e : j = c := by omega
      subst e
      exact ⟨σ, by rw [if_pos (Int32.le_refl _)], by rw [if_pos (Int32.le_refl _)], hT, fun _ _ => rfl⟩
end DY
