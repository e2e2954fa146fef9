/-! ===== the law, of the pure text ===== -/
section LW
variable {xs : Nat → Int32} {Ln : Nat}
theorem mq_lcmp (a : Int64) : lg_cmp a a = 0 := by
  unfold lg_cmp
  simp
theorem a_law22 (hL : Ln ≤ 260) : ∀ (n t : Nat) (σ : mg_St) (ζ : mg_Sz), t ≤ 40 → 40 < n + t → mq_X σ ζ → mq_C ζ (1400000 + 30000 * t) →
    ∃ σ' ζ', f_L_law_22 xs Ln n (nI t) σ ζ = some (nI 40, σ', ζ') ∧ mq_X σ' ζ' := by
  intro n; induction n with
  | zero => intro t σ ζ h1 h2; omega
  | succ n ih =>
    intro t σ ζ h1 h2 hX hC
    unfold f_L_law_22
    rcases Nat.lt_or_ge t 40 with h | h
    rotate_left
    · have e : t = 40 := by omega
      subst e
      rw [if_pos (show (40 : Int32) ≤ nI 40 by decide +kernel)]
      exact ⟨σ, ζ, rfl, hX⟩
    rw [if_neg (mg_le (N := 40) (M := 40) rfl (by omega) h), mq_16_fin ⟨t, by omega⟩]
    obtain ⟨v, hv⟩ := f_cell_some (xs := xs) (Ln := Ln) hL (show t % 16 < 16 by omega)
    rw [hv, Option.bind_some]
    generalize v >>> (nI t / 16 * 5 &&& 31) + 59 * nI t = w
    obtain ⟨c0, g0, p0, μ0, hT0⟩ := hX
    obtain ⟨σ1, ζ1, a1, ⟨c, g, p, μ, hT⟩, a3⟩ := a_act hT0 (w / 2)
    obtain ⟨m, m1, m2⟩ := hC
    obtain ⟨m', n1, n2, n3⟩ := a3 m (by omega) m2
    obtain ⟨c30, g6, p5⟩ := mq_c30 hT
    have q2 : ∀ {s : mg_St}, mq_T s ζ1 c g p μ → f_X6_count s 2 = some (.ok (ζ1.1 0 0 1), s) := fun hs => q_count hs (k := 2) (by omega)
    rw [show f_X6_count σ 2 = some (.ok (ζ.1 0 0 1), σ) from q_count hT0 (k := 2) (by omega), mg_xq_ok, a1, Option.bind_some, if_neg (show ¬ (1 : Int32) = 0 by decide)]
    dsimp only
    rw [q2 hT, mg_xq_ok, n3, if_neg (nI_pos (by omega)), q2 hT, mg_xq_ok, n3, m2, if_pos (mq_absd n1 n2 (by omega)), show f_X6_count σ1 8 = some (.ok (nI g), σ1) from q_count hT (k := 8) (by omega), mg_xq_ok, show f_X6_count σ1 9 = some (.ok (nI p), σ1) from q_count hT (k := 9) (by omega), mg_xq_ok, hT.2.1.1]
    have e132 := l_132 (xs := xs) (Ln := Ln) (a3 := nI t) (a4 := w) (a6 := nI c) (a7 := nI g) (a8 := nI p) (a11 := 0) (cS := ζ1) hT 5000 0 (by omega) (by omega)
    rw [Nat.mul_zero, nI_0, show mq_sw ζ1 0 = 0 from rfl, show mq_sr ζ1 0 = 0 from rfl] at e132
    obtain ⟨sa, sb, s1, s2, s3, s4, s5⟩ := mq_sp_bd hT
    have q5 : f_X6_count σ1 5 = some (.ok (nI sa), σ1) := by rw [← s1]; exact q_count hT (k := 5) (by omega)
    rw [e132, Option.bind_some]
    dsimp only
    rw [show f_X6_count σ1 4 = some (.ok (mq_sw ζ1 70), σ1) from q_count hT (k := 4) (by omega), mg_xq_ok, if_pos rfl, show f_X6_count σ1 3 = some (.ok (mq_sr ζ1 70), σ1) from q_count hT (k := 3) (by omega), mg_xq_ok, if_pos rfl, q5, mg_xq_ok, s2, if_neg (nI_nlt s3 (by omega)), q5, mg_xq_ok]
    obtain ⟨z, z1, z2⟩ : ∃ z : Int32, (if nI sa = 0 then some 1 else some 0 : Option Int32) = some z ∧ (if nI sb = 0 then some 1 else some 0 : Option Int32) = some z := by
      by_cases k : sa = 0
      · exact ⟨1, by rw [if_pos (by rw [k]; rfl)], by rw [if_pos (by rw [s5.1 k]; rfl)]⟩
      · exact ⟨0, by rw [if_neg (nI_ne0 (show 0 < sa by omega) (by omega))], by rw [if_neg (nI_ne0 (show 0 < sb by omega) (by omega))]⟩
    rw [z1, Option.bind_some, z2, Option.bind_some, if_pos rfl, mq_nn c30, Option.bind_some, Option.bind_some]
    obtain ⟨A, B, e530, hAB⟩ := l_530 (xs := xs) (Ln := Ln) (a3 := nI t) (a4 := w) (a7 := nI g) (a8 := nI p) (cS := ζ1) hT 5000 0 (fun _ => 0) (fun _ => 0) (by omega) (by omega) (fun k hk => by omega)
    rw [nI_0, show mq_ss ζ1 0 = 0 from rfl] at e530
    rw [e530, Option.bind_some]
    dsimp only
    rw [show f_X6_count σ1 6 = some (.ok (mq_ss ζ1 c), σ1) from q_count hT (k := 6) (by omega), mg_xq_ok, if_pos rfl, mq_nn (show p ≤ 30 by omega), Option.bind_some]
    obtain ⟨E, e737, hE⟩ := l_737 (xs := xs) (Ln := Ln) (a3 := nI t) (a4 := w) (a6 := nI c) (a7 := nI g) (cS := ζ1) (n5 := c) (c5 := A) (n6 := c) (c6 := B) hT 5000 0 (fun _ => 0) (by omega) (by omega) (fun k hk => by omega)
    rw [nI_0] at e737
    rw [e737, Option.bind_some]
    dsimp only
    obtain ⟨V1, e767⟩ := l_767 (xs := xs) (Ln := Ln) (a3 := nI t) (a4 := w) (a6 := nI c) (a8 := nI p) (cS := ζ1) (n5 := c) (c5 := A) (n6 := c) (c6 := B) (n7 := p) (c7 := E) hT 5000 0 (σ1 7) (by omega) (by omega)
    rw [nI_0, mg_sr_self, show mq_mx ζ1 c 0 = 0 from rfl] at e767
    rw [e767, Option.bind_some]
    dsimp only
    have hT1 := mq_T_v (V := V1) hT
    obtain ⟨V2, ef⟩ := q_finest hT1
    rw [ef, Option.bind_some]
    have hT2 := mq_T_v (V := V2) hT1
    generalize mg_sr (mg_sr σ1 7 V1) 7 V2 = σ2 at hT2 ⊢
    have hfin : g = 0 ∨ ∃ i, (mq_fin ζ1 c g).1 = nI i ∧ mq_lb ζ1 c g 0 i := by
      rcases Nat.eq_zero_or_pos g with y | y
      · exact Or.inl y
      · obtain ⟨i, i1, i2⟩ := mq_fin_lb hT g (Nat.le_refl _) y
        exact Or.inr ⟨i, by rw [i1], i2⟩
    obtain ⟨z, z1, z2⟩ : ∃ z : Int32, (if 0 ≤ (mq_fin ζ1 c g).1 then some 0 else some 1 : Option Int32) = some z ∧ (if nI g = 0 then some 1 else some 0 : Option Int32) = some z := by
      rcases hfin with y | ⟨i, i1, i2⟩
      · refine ⟨1, ?_, ?_⟩
        · rw [y]; rfl
        · rw [if_pos (by rw [y]; rfl)]
      · have hg : 0 < g := by have := i2.2.1; omega
        refine ⟨0, ?_, ?_⟩
        · rw [i1, if_pos (nI_pos' (by have := i2.2.1; omega))]
        · rw [if_neg (nI_ne0 hg (by omega))]
    dsimp only
    rw [z1, Option.bind_some, z2, Option.bind_some, if_pos rfl]
    obtain ⟨σ3, e136, hT3⟩ : ∃ σ3, (if nI g ≤ 0 then some σ2 else (Option.bind (f_X6_finest σ2) fun y137 => (mg_xq (f_X6_about y137.2 y137.1 3) fun v138 s139 => (if v138 = mq_mx ζ1 c g then some s139 else none))) : Option mg_St) = some σ3 ∧ mq_T σ3 ζ1 c g p μ := by
      rcases hfin with y | ⟨i, i1, i2⟩
      · exact ⟨σ2, by rw [if_pos (by rw [y]; exact Int32.le_refl _)], hT2⟩
      · have hg : 0 < g := by have := i2.2.1; omega
        obtain ⟨V3, ef3⟩ := q_finest hT2
        obtain ⟨V4, ea⟩ := q_about (mq_T_v (V := V3) hT2) (k := 3) i2.2.1 (by omega)
        rw [show mq_about ζ1 c p i 3 = mq_beauty ζ1 c i from rfl, show nI 3 = (3 : Int32) from rfl] at ea
        refine ⟨_, ?_, mq_T_v (V := V4) (mq_T_v (V := V3) hT2)⟩
        rw [if_neg (nI_nle hg (by omega)), ef3, Option.bind_some]
        dsimp only
        rw [i1, ea, mg_xq_ok, if_pos (mq_mx_lb hT i2).symm]
    rw [e136, Option.bind_some, q2 hT3, mg_xq_ok, show f_X6_count σ3 0 = some (.ok (ζ1.1 0 0 0), σ3) from q_count hT3 (k := 0) (by omega), mg_xq_ok, show f_X6_count σ3 10 = some (.ok (mq_sl ζ1 p), σ3) from q_count hT3 (k := 10) (by omega), mg_xq_ok, show f_X6_count σ3 1 = some (.ok (mq_moon ζ1), σ3) from q_count hT3 (k := 1) (by omega), mg_xq_ok]
    have hmoon1 : (if mq_moon ζ1 = 1 then some 1 else some 0 : Option Int32) = some (mq_moon ζ1) := by
      unfold mq_moon
      by_cases k : ζ1.1 0 0 0 - ζ1.1 0 0 0 / 8 * 8 = 4
      · simp only [if_pos k]; rfl
      · simp only [if_neg k]; rfl
    have hmoon2 : (if ζ1.1 0 0 0 - ζ1.1 0 0 0 / 8 * 8 = 4 then some 1 else some 0 : Option Int32) = some (mq_moon ζ1) := by
      unfold mq_moon; split <;> rfl
    obtain ⟨V5, ed⟩ := q_digest hT3
    have hT4 := mq_T_v (V := V5) hT3
    generalize mg_sr σ3 7 V5 = σ4 at hT4 ed
    obtain ⟨σ5, e5, hT5⟩ := q_foresee hT4 (k := 2) (Or.inl rfl)
    obtain ⟨σ6, e6, hT6⟩ := q_foresee hT5 (k := 7) (Or.inr (Or.inl rfl))
    obtain ⟨σ7, e7, hT7⟩ := q_foresee hT6 (k := 10) (Or.inr (Or.inr rfl))
    rw [show nI 2 = (2 : Int32) from rfl] at e5
    rw [show nI 7 = (7 : Int32) from rfl] at e6
    rw [show nI 10 = (10 : Int32) from rfl] at e7
    rw [hmoon1, Option.bind_some, ed, Option.bind_some]
    dsimp only
    rw [e5, mg_xq_ok, e6, mg_xq_ok, e7, mg_xq_ok]
    obtain ⟨u, eu, hu⟩ : ∃ u : Int32, (if nI g = 0 then some (-1 : Int32) else (Option.bind (f_L_below (w >>> (4 &&& 31)) (nI g)) fun y158 => some y158)) = some u ∧ (u = -1 ∨ ∃ i, i < g ∧ u = nI i) := by
      rcases Nat.eq_zero_or_pos g with y | y
      · exact ⟨-1, by rw [if_pos (by rw [y]; rfl)], Or.inl rfl⟩
      · obtain ⟨r, hr, er⟩ := mq_below (w >>> (4 &&& 31)) y (by omega)
        exact ⟨nI r, by rw [if_neg (nI_ne0 y (by omega)), er]; rfl, Or.inr ⟨r, hr, rfl⟩⟩
    obtain ⟨rs, hrs, ers⟩ := mq_below (w >>> (5 &&& 31)) (n := 6) (by omega) (by omega)
    obtain ⟨rz, hrz, erz⟩ := mq_below (w >>> (6 &&& 31)) (n := 9) (by omega) (by omega)
    rw [eu, Option.bind_some, show f_L_below (w >>> (5 &&& 31)) 6 = _ from ers, Option.bind_some, show f_L_below (w >>> (6 &&& 31)) 9 = _ from erz, Option.bind_some]
    obtain ⟨x, σ8, ex, hT8, hx⟩ : ∃ (x : Int32) (σ8 : mg_St), (if 0 ≤ u then (mg_xq (f_X6_advise σ7 u (nI rs) (1 + nI rz)) fun v165 s166 => some (v165, s166)) else some ((-1), σ7) : Option (Int32 × mg_St)) = some (x, σ8) ∧ mq_T σ8 ζ1 c g p μ ∧ (x = -1 ∨ ∃ q, q < 70 ∧ x = nI q ∧ mq_k ζ1 q = 0) := by
      rcases hu with y | ⟨i, hi, y⟩
      · subst y
        exact ⟨-1, σ7, by rw [if_neg (by decide)], hT7, Or.inl rfl⟩
      · subst y
        obtain ⟨x, V, e1, e2⟩ := q_advise hT7 hi hrs hrz
        rw [← show (1 : Int32) + nI rz = nI (1 + rz) from nI_add 1 rz] at e1
        exact ⟨x, _, by rw [if_pos (nI_pos' (by omega)), e1, mg_xq_ok], mq_T_v hT7, e2⟩
    rw [ex, Option.bind_some]
    dsimp only
    obtain ⟨V9, ed9⟩ := q_digest hT8
    have hT9 := mq_T_v (V := V9) hT8
    generalize mg_sr σ8 7 V9 = σ9 at hT9 ed9
    rw [ed9, Option.bind_some]
    dsimp only
    rw [if_pos (mq_lcmp _), hmoon2, Option.bind_some, if_pos rfl]
    have e169 : (if x < 0 then some σ9 else (mg_xq (f_X6_cell σ9 (x - x / 10 * 10) (x / 10) 0) fun v170 s171 => (if v170 = 0 then some s171 else none)) : Option mg_St) = some σ9 := by
      rcases hx with y | ⟨q, hq, y, k⟩
      · rw [y, if_pos (by decide)]
      · have hc := q_cell hT9 (x := q % 10) (y := q / 10) (k := 0) (by omega) (by omega) (by omega)
        rw [show 10 * (q / 10) + q % 10 = q by omega, show mq_cell ζ1 μ c q 0 = mq_k ζ1 q from rfl, k, nI_0] at hc
        rw [y, if_neg (nI_pos (by omega)), (mg_coord hq).1, (mg_coord hq).2.1, hc, mg_xq_ok, if_pos rfl]
    rw [e169, Option.bind_some]
    obtain ⟨σ10, d1, d2, hD⟩ := q_pass hT9
    have dd : ∀ {k : Nat}, k < 11 → f_X6_count σ10 (nI k) = some (.ok (mq_cnt (mq_day ζ1 μ c p) μ c g p k), σ10) := fun hk => q_count hD hk
    have k2 : f_X6_count σ10 2 = _ := dd (k := 2) (by omega)
    have k7 : f_X6_count σ10 7 = _ := dd (k := 7) (by omega)
    have k10 : f_X6_count σ10 10 = _ := dd (k := 10) (by omega)
    have k0 : f_X6_count σ10 0 = _ := dd (k := 0) (by omega)
    rw [d1, mg_xq_ok, d2, Option.bind_some]
    dsimp only
    have u0 : (upd (upd (upd (fun _ => 0) 0 (mq_cnt (mq_day ζ1 μ c p) μ c g p 2)) 1 (mq_cnt (mq_day ζ1 μ c p) μ c g p 7)) 2 (mq_cnt (mq_day ζ1 μ c p) μ c g p 10)) 0 = mq_cnt (mq_day ζ1 μ c p) μ c g p 2 := rfl
    have u1 : (upd (upd (upd (fun _ => 0) 0 (mq_cnt (mq_day ζ1 μ c p) μ c g p 2)) 1 (mq_cnt (mq_day ζ1 μ c p) μ c g p 7)) 2 (mq_cnt (mq_day ζ1 μ c p) μ c g p 10)) 1 = mq_cnt (mq_day ζ1 μ c p) μ c g p 7 := rfl
    have u2 : (upd (upd (upd (fun _ => 0) 0 (mq_cnt (mq_day ζ1 μ c p) μ c g p 2)) 1 (mq_cnt (mq_day ζ1 μ c p) μ c g p 7)) 2 (mq_cnt (mq_day ζ1 μ c p) μ c g p 10)) 2 = mq_cnt (mq_day ζ1 μ c p) μ c g p 10 := rfl
    rw [u0, u1, u2, if_pos rfl, k2, mg_xq_ok, if_pos rfl, k7, mg_xq_ok, if_pos rfl, k10, mg_xq_ok, if_pos rfl, k2, mg_xq_ok, if_pos (show mq_cnt (mq_day ζ1 μ c p) μ c g p 2 = ζ1.1 0 0 1 + mq_v ζ1 μ c p / 10 from mq_day_0.2), k10, mg_xq_ok, if_pos (show mq_cnt (mq_day ζ1 μ c p) μ c g p 10 = mq_sl ζ1 p + mq_v ζ1 μ c p from mq_day_sl hT), k0, mg_xq_ok, if_pos (show mq_cnt (mq_day ζ1 μ c p) μ c g p 0 = ζ1.1 0 0 0 + 1 from mq_day_0.1)]
    have e1239 := l_1239 (xs := xs) (Ln := Ln) (a3 := nI t) (a8 := nI p) (a18 := mq_moon ζ1) (n7 := p) (c7 := E) (cS := mq_day ζ1 μ c p) hT hD hAB 5000 0 (by omega) (by omega)
    rw [nI_0] at e1239
    rw [e1239, Option.bind_some]
    dsimp only
    obtain ⟨V10, e1336⟩ := l_1336 (xs := xs) (Ln := Ln) (a3 := nI t) hT hD hE 5000 0 (σ10 7) (by omega) (by omega)
    rw [nI_0, mg_sr_self] at e1336
    rw [e1336, Option.bind_some, ← nI_succ]
    have hC1 : mq_C ζ1 (1400000 + 30000 * t + 21) := ⟨m', by omega, n3⟩
    exact ih (t + 1) _ _ (by omega) (by omega) ⟨c, g, p, μ, mq_T_v hD⟩ (mq_C_mono (mq_day_C hT (by omega) hC1) (by omega))
/-- the law holds, of the pure text -/
theorem a_law (hn : mq_nm) (hL : Ln ≤ 260) : f_L_law xs Ln mg_c0 = some () := by
  obtain ⟨σ1, ζ1, b1, b2, b3⟩ := a_build (xs := xs) (Ln := Ln) hL
  obtain ⟨σ2, ζ2, d1, c, g, p, μ, hT⟩ := a_law22 (xs := xs) (Ln := Ln) hL 41 0 σ1 ζ1 (by omega) (by omega) b2 (mq_C_mono b3 (by omega))
  rw [nI_0] at d1
  unfold f_L_law
  rw [b1, Option.bind_some]
  dsimp only
  rw [d1, Option.bind_some]
  dsimp only
  rw [k7_isSame hn hT]; rfl
end LW
