section LN
variable {σ : mg_St} {ζ : mg_Sz} {c g p : Nat} {μ : Nat → Nat} {xs : Nat → Int32} {Ln : Nat} {a3 a8 a18 : Int32} {cS : mg_Sz}
theorem l_1239 {σ1 : mg_St} (hT : mq_T σ ζ c g p μ) (hD : mq_T σ1 (mq_day ζ μ c p) c g p μ) {A B : Nat → Int32} {n7 : Nat} {c7 : Nat → Int32} (hAB : ∀ k, k < c → A k = ζ.1 3 k 2 ∧ B k = mq_gw ζ μ c k) : ∀ (n j : Nat), j ≤ c → c < n + j →
    f_L_law_1239 xs Ln a3 (nI c) a8 a18 c A c B n7 c7 cS n (nI j) σ1 = some (nI c, σ1) := by
  obtain ⟨c30, -, -⟩ := mq_c30 hT
  intro n; induction n with
  | zero => intro j h1 h2; omega
  | succ n ih =>
    intro j h1 h2
    unfold f_L_law_1239
    rcases Nat.lt_or_ge j c with h | h
    · obtain ⟨-, -, -, -, -, -, m7, -, z, z1, z2, z3⟩ := mq_carp hT h
      obtain ⟨hA, hB⟩ := hAB j h
      have t3 : f_X6_told σ1 (nI j) 3 = some (.ok (ζ.1 3 j 3), σ1) := by
        have := q_told hD (k := 3) h (by omega)
        rw [show mq_told (mq_day ζ μ c p) c j 3 = (mq_day ζ μ c p).1 3 j 3 from rfl, mq_day_3, if_neg (by omega)] at this
        exact this
      have t2 : f_X6_told σ1 (nI j) 2 = some (.ok (mq_gr ζ μ c j), σ1) := by
        have := q_told hD (k := 2) h (by omega)
        rw [show mq_told (mq_day ζ μ c p) c j 2 = (mq_day ζ μ c p).1 3 j 2 from rfl, mq_day_3, if_pos ⟨h, rfl⟩] at this
        exact this
      rw [if_neg (nI_ge h (by omega)), t3, mg_xq_ok]
      simp only [mg_ixn h (show c ≤ 70 by omega), Option.bind_some]
      rw [hA, hB, t2, ← nI_succ]
      obtain ⟨f1, -, f4, -⟩ := mg_grow_fin ⟨z, by omega⟩ z1
      dsimp only at f1 f4
      have e191 : (Option.bind (if ζ.1 3 j 3 = 1 then some 1 else some 0 : Option Int32) fun (y190 : Int32) => Option.bind (if y190 = 0 then (if mq_gw ζ μ c j = 0 then some (if 1 < ζ.1 3 j 2 - 1 then ζ.1 3 j 2 - 1 else 1) else some (if ζ.1 3 j 2 + 1 < 40 then ζ.1 3 j 2 + 1 else 40)) else some (ζ.1 3 j 2)) fun (y191 : Int32) => mg_xq (some (Except.ok (ε := Fin 3) (mq_gr ζ μ c j), σ1)) fun v196 s197 => if v196 = y191 then f_L_law_1239 xs Ln a3 (nI c) a8 a18 c A c B n7 c7 cS n (nI (j + 1)) s197 else none) = f_L_law_1239 xs Ln a3 (nI c) a8 a18 c A c B n7 c7 cS n (nI (j + 1)) σ1 := by
        rcases m7 with s | s
        · rw [if_neg (by rw [s]; decide), Option.bind_some, if_pos rfl, z3]
          by_cases l : mq_in ζ μ c (mq_pl ζ 3 j) ≤ 2 * mg_cells (mq_k ζ) μ (mq_pl ζ 3 j)
          · have hw : mq_gw ζ μ c j = 1 := by unfold mq_gw; rw [if_pos s, if_pos l]
            have hr : mq_gr ζ μ c j = if nI z + 1 < 40 then nI z + 1 else 40 := by unfold mq_gr; rw [if_pos s, if_pos l, z3]; exact f1
            rw [hw, if_neg (show ¬ (1 : Int32) = 0 by decide), Option.bind_some, mg_xq_ok, if_pos hr]
          · have hw : mq_gw ζ μ c j = 0 := by unfold mq_gw; rw [if_pos s, if_neg l]
            have hr : mq_gr ζ μ c j = if 1 < nI z - 1 then nI z - 1 else 1 := by unfold mq_gr; rw [if_pos s, if_neg l, z3]; exact f4
            rw [hw, if_pos rfl, Option.bind_some, mg_xq_ok, if_pos hr]
        · have hr : mq_gr ζ μ c j = ζ.1 3 j 2 := by unfold mq_gr; rw [if_neg (by rw [s]; decide)]
          rw [if_pos s, Option.bind_some, if_neg (show ¬ (1 : Int32) = 0 by decide), Option.bind_some, mg_xq_ok, if_pos hr]
      exact e191.trans (ih (j + 1) (by omega) (by omega))
    · have e : j = c := by omega
      subst e; rw [if_pos (Int32.le_refl _)]
theorem mq_cancel (a w : Int32) : a + w - a = w := by grind
theorem l_1336 {σ1 : mg_St} (hT : mq_T σ ζ c g p μ) (hD : mq_T σ1 (mq_day ζ μ c p) c g p μ) {A : Nat → Int32} (hA : ∀ k, k < p → A k = ζ.1 5 k 1) : ∀ (n j : Nat) (V : Nat → Int32), j ≤ p → p < n + j →
    ∃ V', f_L_law_1336 xs Ln a3 (nI p) (mq_moon ζ) p A (mq_day ζ μ c p) n (nI j) (mg_sr σ1 7 V) = some (nI p, mg_sr σ1 7 V') := by
  obtain ⟨-, g6, p5⟩ := mq_c30 hT
  intro n; induction n with
  | zero => intro j V h1 h2; omega
  | succ n ih =>
    intro j V h1 h2
    unfold f_L_law_1336
    rcases Nat.lt_or_ge j p with h | h
    · obtain ⟨i, hi, q1, q2, q3⟩ := mq_poet hD h
      have l1 : f_X6_lines (mg_sr σ1 7 V) (nI j) = some (.ok (ζ.1 5 j 1 + mq_w (mq_zg ζ μ c c) c j), mg_sr σ1 7 V) := by
        have := q_lines (mq_T_v (V := V) hD) h
        rw [mq_day_5, if_pos ⟨h, rfl⟩] at this
        exact this
      obtain ⟨V2, ab⟩ := q_about (mq_T_v (V := V) hD) (k := 3) hi (by omega)
      rw [mg_sr_sr, show mq_about (mq_day ζ μ c p) c p i 3 = mq_beauty (mq_day ζ μ c p) c i from rfl] at ab
      have r2 : (mq_day ζ μ c p).1 2 = (mq_zg ζ μ c c).1 2 := by unfold mq_day mq_z2; rw [mg_zu_row (by omega), mg_zu_row (by omega), mq_zl_ne (by omega)]
      have r3 : (mq_day ζ μ c p).1 3 = (mq_zg ζ μ c c).1 3 := by unfold mq_day mq_z2; rw [mg_zu_row (by omega), mg_zu_row (by omega), mq_zl_ne (by omega)]
      have r4 : (mq_day ζ μ c p).1 4 = (mq_zg ζ μ c c).1 4 := by unfold mq_day mq_z2; rw [mg_zu_row (by omega), mg_zu_row (by omega), mq_zl_ne (by omega)]
      rw [(mq_view_congr r2 r3 r4 c i).1, show nI 3 = (3 : Int32) from rfl] at ab
      have hgp : mq_gp (mq_zg ζ μ c c) j = i := by
        have e : (mq_day ζ μ c p).1 5 j 0 = ζ.1 5 j 0 := by rw [mq_day_5, if_neg (by omega)]
        unfold mq_gp
        rw [mq_zg_ne (by omega), ← e, q2, nI_clamp (by omega)]
      have hw : mq_w (mq_zg ζ μ c c) c j = mq_beauty (mq_zg ζ μ c c) c i / 5 * (if ζ.1 0 0 0 - ζ.1 0 0 0 / 8 * 8 = 4 then 2 else 1) := by
        unfold mq_w; rw [hgp, mq_zg_ne (show (0 : Nat) ≠ 3 by omega)]
      have hy : (if mq_moon ζ = 0 then some 1 else some 2 : Option Int32) = some (if ζ.1 0 0 0 - ζ.1 0 0 0 / 8 * 8 = 4 then 2 else 1) := by
        unfold mq_moon
        by_cases k : ζ.1 0 0 0 - ζ.1 0 0 0 / 8 * 8 = 4
        · simp only [if_pos k]; rfl
        · simp only [if_neg k]; rfl
      have h22 : (mq_day ζ μ c p).2 2 = p := hD.2.1.2.2.1
      rw [if_neg (nI_ge h (by omega)), l1, mg_xq_ok, mg_ixn h (by omega), Option.bind_some, h22, mg_ixn h (by omega), Option.bind_some, q2, ab, mg_xq_ok, hy, Option.bind_some, hA j h, mq_cancel, if_pos hw, ← nI_succ]
      exact ih (j + 1) V2 (by omega) (by omega)
    · have e : j = p := by omega
      subst e; exact ⟨V, by rw [if_pos (Int32.le_refl _)]⟩
theorem mq_absd {m m' : Nat} (h1 : m' ≤ m + 21) (h2 : m ≤ m' + 21) (h3 : m < 10000000) : (if 0 ≤ nI m' - nI m then nI m' - nI m else 0 - (nI m' - nI m)) ≤ 21 := by
  rcases Nat.lt_or_ge m' m with h | h
  · have e : nI m' - nI m = -(nI (m - m')) := by rw [← nI_sub (show m' ≤ m by omega)]; grind
    have hp : ¬ 0 ≤ -(nI (m - m')) := by
      obtain ⟨k, hk⟩ : ∃ k : Fin 22, k.1 = m - m' := ⟨⟨m - m', by omega⟩, rfl⟩
      rw [← hk]
      have key : ∀ k : Fin 22, 0 < k.1 → ¬ (0 : Int32) ≤ -(nI k.1) := by decide +kernel
      exact key k (by omega)
    rw [e, if_neg hp, show 0 - -(nI (m - m')) = nI (m - m') by grind]
    exact nI_le (b := 21) (by omega) (by omega)
  · rw [nI_sub h, if_pos (nI_pos' (by omega))]
    exact nI_le (b := 21) (by omega) (by omega)
theorem mq_nn {k : Nat} (h : k ≤ 30) : mg_nn 31 (nI k) = some k := by
  unfold mg_nn
  rw [if_neg, nI_clamp (by omega)]
  rw [nI_clamp (by omega)]
  rintro (a | a)
  · exact nI_pos (by omega) a
  · omega
theorem mq_sp_bd (hT : mq_T σ ζ c g p μ) : ∃ a b, mq_sp ζ μ 70 = nI a ∧ mq_sw ζ 70 = nI b ∧ a ≤ b ∧ b ≤ 70 ∧ (a = 0 ↔ b = 0) := by
  obtain ⟨a, a1, a2, a3⟩ := mg_sum_ind (P := fun q => mq_k ζ q = 2 ∧ μ q = q) 70
  obtain ⟨b, b1, b2, b3⟩ := mg_sum_ind (P := fun q => mq_k ζ q = 2) 70
  have hle : mg_ns (fun q => if mq_k ζ q = 2 ∧ μ q = q then 1 else 0) 70 ≤ mg_ns (fun q => if mq_k ζ q = 2 then 1 else 0) 70 := mq_nsle (fun k hk => by
    by_cases h : mq_k ζ k = 2 ∧ μ k = k
    · rw [if_pos h, if_pos h.1]; exact Nat.le_refl _
    · rw [if_neg h]; exact Nat.zero_le _)
  have ea : a = mg_ns (fun q => if mq_k ζ q = 2 ∧ μ q = q then 1 else 0) 70 := by
    obtain ⟨h1, h2, -⟩ := mg_ns_ind (P := fun q => mq_k ζ q = 2 ∧ μ q = q) (n := 70)
    exact mg_inj (by omega) (by omega) (by rw [← a2, h1])
  have eb : b = mg_ns (fun q => if mq_k ζ q = 2 then 1 else 0) 70 := by
    obtain ⟨h1, h2, -⟩ := mg_ns_ind (P := fun q => mq_k ζ q = 2) (n := 70)
    exact mg_inj (by omega) (by omega) (by rw [← b2, h1])
  refine ⟨a, b, a2, b2, by omega, b1, fun z => ?_, fun z => by omega⟩
  rw [b3]
  intro k hk kk
  have hM := mq_M hT k hk kk
  exact a3.1 z (μ k) (by omega) ⟨hM.2.1, mg_M_idem (mq_M hT) hk kk⟩
theorem mq_day_sl (hT : mq_T σ ζ c g p μ) : mq_sl (mq_day ζ μ c p) p = mq_sl ζ p + mq_v ζ μ c p := by
  unfold mq_sl mq_v
  rw [← mg_sum_add]
  exact mg_sum_congr (fun j hj => by rw [mq_day_5, if_pos ⟨hj, rfl⟩])
end LN
