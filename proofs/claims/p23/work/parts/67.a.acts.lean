/-! ===== what is done to both ===== -/
theorem mq_abs_and (x : Int32) : ¬ (x &&& 2147483647) < 0 := by
  intro h
  have h0 : (x &&& 2147483647).toInt < (0 : Int32).toInt := Int32.lt_iff_toInt_lt.mp h
  rw [show (0 : Int32).toInt = 0 by decide] at h0
  have h1 : (x &&& 2147483647).toBitVec.toInt < 0 := h0
  have h2 : (x &&& 2147483647).toBitVec.msb = true := by
    rw [BitVec.msb_eq_toInt]; exact decide_eq_true h1
  rw [Int32.toBitVec_and, BitVec.msb_and] at h2
  have h3 : (2147483647 : Int32).toBitVec.msb = false := by decide
  rw [h3, Bool.and_false] at h2
  cases h2
theorem nI_mul (a b : Nat) : nI a * nI b = nI (a * b) := (Int32.ofNat_mul a b).symm
theorem nI_sub {a b : Nat} (h : b ≤ a) : nI a - nI b = nI (a - b) := by
  have : nI (a - b) + nI b = nI a := by rw [nI_add, Nat.sub_add_cancel h]
  rw [← this]; grind
theorem nI_div {a b : Nat} (ha : a < 2 ^ 31) (hb : b < 2 ^ 31) : nI a / nI b = nI (a / b) := by
  apply Int32.toInt_inj.mp
  have hab : a / b < 2 ^ 31 := Nat.lt_of_le_of_lt (Nat.div_le_self a b) ha
  rw [Int32.toInt_div_of_ne_right _ _ (by
    intro e
    have := congrArg Int32.toInt e
    rw [nI_toInt hb] at this
    have h2 : (-1 : Int32).toInt = -1 := by decide
    rw [h2] at this; omega), nI_toInt ha, nI_toInt hb, nI_toInt hab]
  rw [Int.tdiv_eq_ediv_of_nonneg (by omega)]
  exact (Int.natCast_ediv a b).symm
theorem mq_below (x : Int32) {n : Nat} (h0 : 0 < n) (hn : n < 1000) : ∃ r, r < n ∧ f_L_below x (nI n) = some (nI r) := by
  obtain ⟨m, hm, e⟩ := nI_of (mq_abs_and x)
  refine ⟨m % n, Nat.mod_lt _ h0, ?_⟩
  unfold f_L_below
  rw [show mg_gd (¬ nI n = 0) = some () from if_pos (nI_ne0 h0 (by omega)), Option.bind_some, e, nI_div hm (by omega), nI_mul, nI_sub (Nat.div_mul_le_self m n)]
  congr 2
  have := Nat.div_add_mod m n
  rw [Nat.mul_comm] at this
  omega
theorem mg_cd_ok {a b c : Int32} {out : Except (Fin 3) Int32} (h : mg_cd a b c out = 0) (ha : a ≠ 0) (hb : b ≠ 0) (hc : c ≠ 0) : ∃ v, out = .ok v := by
  cases out with
  | ok v => exact ⟨v, rfl⟩
  | error k =>
    exfalso
    unfold mg_cd at h
    dsimp only at h
    split at h
    · exact ha h
    · split at h
      · exact hb h
      · exact hc h
theorem mg_cd_2 {a b c : Int32} {out : Except (Fin 3) Int32} (h : mg_cd a b c out = c) (ha : a ≠ c) (hb : b ≠ c) (hc : c ≠ 0) : out = .error 2 := by
  cases out with
  | ok v => exact absurd h.symm hc
  | error k =>
    unfold mg_cd at h
    dsimp only at h
    rcases mg_fin3 k with e | e | e
    · subst e; exact absurd h ha
    · subst e; exact absurd h hb
    · subst e; rfl
theorem mg_xc_ok {W : Type} {v : Int32} {s : mg_St} {K : Int32 → mg_St → Option W} : mg_xc (some (.ok v, s)) K = K v s := rfl
theorem mg_xc_2 {W : Type} {s : mg_St} {K : Int32 → mg_St → Option W} : mg_xc (some (.error 2, s)) K = K (-1) s := rfl
/-- the garden by hand beside the model -/
def mq_Zt (τ : mg_St) (ζ : mg_Sz) (c g p : Nat) : Prop := (ζ.2 0 = c ∧ ζ.2 1 = g ∧ ζ.2 2 = p ∧ ζ.1 0 0 0 = τ 1 0 ∧ ζ.1 0 0 1 = τ 1 1) ∧
  (∀ q, q < 70 → ζ.1 2 q 0 = τ 3 q ∧ (τ 3 q = 1 → ζ.1 2 q 1 = τ 4 q ∧ ζ.1 2 q 2 = τ 5 q ∧ ∃ z, 1 ≤ z ∧ z < 10 ∧ τ 5 q = nI z)) ∧
  (∀ j, j < c → ∃ q, q < 70 ∧ τ 7 j = nI q ∧ ζ.1 3 j 0 = nI (q % 10) ∧ ζ.1 3 j 1 = nI (q / 10) ∧ ζ.1 3 j 2 = τ 12 j ∧ ζ.1 3 j 3 = τ 8 j) ∧
  (∀ i, i < g → ∃ q d, q < 70 ∧ d < 4 ∧ τ 9 i = nI q ∧ τ 10 i = nI d ∧ ζ.1 4 i 0 = nI (q % 10) ∧ ζ.1 4 i 1 = nI (q / 10) ∧ ζ.1 4 i 2 = nI d) ∧
  (∀ j, j < p → ζ.1 5 j 0 = τ 11 j ∧ ζ.1 5 j 1 = τ 13 j)
section AC
variable {σ τ : mg_St} {ζ : mg_Sz} {c g p : Nat} {μ : Nat → Nat}
theorem mq_Zt_of (hI : mg_core σ τ c g p μ) (hR : mg_crs σ τ 5 1 c p) (hZ : mq_Z 5 σ ζ c g p) : mq_Zt τ ζ c g p := by
  obtain ⟨⟨z1, z2, z3, z4, z5⟩, zc, zj, zi, zp⟩ := hZ
  obtain ⟨hN, hE, hC, hG, hPo, hA, hM, hP⟩ := hI
  obtain ⟨r1, r2, r3, r4, r5⟩ := hR
  have p5 := hN.2.2.1
  refine ⟨⟨z1, z2, z3, by rw [z4, r1], by rw [z5, r2]⟩, ?_, ?_, ?_, ?_⟩
  · intro q hq
    obtain ⟨e1, -, e3, -⟩ := hE q hq
    refine ⟨by rw [e1]; exact (zc q hq).1, fun k => ?_⟩
    rw [e1] at k
    obtain ⟨a1, a2, a3⟩ := (zc q hq).2 k
    obtain ⟨b1, b2, -⟩ := e3 k
    rw [b1, b2]; exact ⟨a1, a2, a3⟩
  · intro j hj
    obtain ⟨q, q1, q2, q3, q4, q5, q6⟩ := zj j hj
    obtain ⟨q', d1, d2, d3, d4, -⟩ := hC j hj
    have e : q' = q := mg_inj (by omega) (by omega) (by rw [← d2, q2])
    subst e
    exact ⟨q', q1, d3, q3, q4, by rw [q5]; exact ((r3 j hj).1).symm, by rw [q6, d4]⟩
  · intro i hi
    obtain ⟨q, d, q1, q2, q3, q4, q5, q6, q7⟩ := zi i hi
    obtain ⟨q', d', e1, e2, e3, e4, e5, e6⟩ := hG i hi
    refine ⟨q, d, q1, q2, by rw [e4, ← e3, q3], by rw [e6, ← e5, q4], q5, q6, q7⟩
  · intro j hj
    obtain ⟨i, i1, i2, i3⟩ := hPo j hj
    exact ⟨by rw [(zp j hj).1, i2, i3], by rw [(zp j hj).2]; exact (r4 j (by omega)).symm⟩
theorem mq_Z_of (hI : mg_core σ τ c g p μ) (hR : mg_crs σ τ 5 1 c p) (hZ : mq_Zt τ ζ c g p) : mq_Z 5 σ ζ c g p := by
  obtain ⟨⟨z1, z2, z3, z4, z5⟩, zc, zj, zi, zp⟩ := hZ
  obtain ⟨hN, hE, hC, hG, hPo, hA, hM, hP⟩ := hI
  obtain ⟨r1, r2, r3, r4, r5⟩ := hR
  have p5 := hN.2.2.1
  refine ⟨⟨z1, z2, z3, by rw [z4, r1], by rw [z5, r2]⟩, ?_, ?_, ?_, ?_⟩
  · intro q hq
    obtain ⟨e1, -, e3, -⟩ := hE q hq
    refine ⟨by rw [← e1]; exact (zc q hq).1, fun k => ?_⟩
    obtain ⟨a1, a2, a3⟩ := (zc q hq).2 (by rw [e1]; exact k)
    obtain ⟨b1, b2, -⟩ := e3 k
    rw [← b1, ← b2]; exact ⟨a1, a2, a3⟩
  · intro j hj
    obtain ⟨q, q1, q2, q3, q4, q5, q6⟩ := zj j hj
    obtain ⟨q', d1, d2, d3, d4, -⟩ := hC j hj
    have e : q' = q := mg_inj (by omega) (by omega) (by rw [← d3, q2])
    subst e
    exact ⟨q', q1, d2, q3, q4, by rw [q5]; exact (r3 j hj).1, by rw [q6, d4]⟩
  · intro i hi
    obtain ⟨q, d, q1, q2, q3, q4, q5, q6, q7⟩ := zi i hi
    obtain ⟨q', d', e1, e2, e3, e4, e5, e6⟩ := hG i hi
    refine ⟨q, d, q1, q2, by rw [e3, ← e4, q3], by rw [e5, ← e6, q4], q5, q6, q7⟩
  · intro j hj
    obtain ⟨i, i1, i2, i3⟩ := hPo j hj
    exact ⟨by rw [(zp j hj).1, i2, i3], by rw [(zp j hj).2]; exact r4 j (by omega)⟩
/-- both alike, whatever their numbers -/
def mq_X (σ : mg_St) (ζ : mg_Sz) : Prop := ∃ c g p μ, mq_T σ ζ c g p μ
/-- both alike, beside the model -/
theorem mq_X_of (I : mg_Inv σ τ) (hc : τ 0 5 = nI c) (hg : τ 0 8 = nI g) (hp : τ 0 11 = nI p) (bc : c ≤ 30) (bg : g ≤ 6) (bp : p ≤ 5) (hZ : mq_Zt τ ζ c g p) : mq_X σ ζ := by
  obtain ⟨c', g', p', μ, hI, hR⟩ := I
  obtain ⟨n1, n2, n3, n4, n5, n6, n7, n8, n9, -⟩ := hI.1
  have e1 : c' = c := mg_inj (by omega) (by omega) (by rw [← n5, hc])
  have e2 : g' = g := mg_inj (by omega) (by omega) (by rw [← n7, hg])
  have e3 : p' = p := mg_inj (by omega) (by omega) (by rw [← n9, hp])
  subst e1 e2 e3
  exact ⟨_, _, _, μ, ⟨τ, hI, hR⟩, mq_Z_of hI hR hZ⟩
theorem mq_T_inv (hT : mq_T σ ζ c g p μ) : ∃ τ, mg_Inv σ τ ∧ mq_Zt τ ζ c g p ∧ τ 0 5 = nI c ∧ τ 0 8 = nI g ∧ τ 0 11 = nI p := by
  obtain ⟨⟨τ, hI, hR⟩, hZ⟩ := hT
  obtain ⟨n1, n2, n3, n4, n5, n6, n7, n8, n9, -⟩ := hI.1
  exact ⟨τ, ⟨c, g, p, μ, hI, hR⟩, mq_Zt_of hI hR hZ, n5, n7, n9⟩
theorem k8_in {x y : Nat} (hx : x < 10) (hy : y < 7) : f_X8_isCell τ (nI x) (nI y) = some 1 := by
  unfold f_X8_isCell
  rw [mg_isIn, if_pos (show ¬ nI x < 0 ∧ nI x ≤ 9 from ⟨nI_pos (by omega), nI_le (b := 9) (by omega) (by omega)⟩), Option.bind_some, if_neg (show ¬ (1 : Int32) = 0 by decide), mg_isIn, if_pos (show ¬ nI y < 0 ∧ nI y ≤ 6 from ⟨nI_pos (by omega), nI_le (b := 6) (by omega) (by omega)⟩)]
  rfl
theorem k8_can {x y : Nat} {z : Int32} (hx : x < 10) (hy : y < 7) : f_X8_canBuild τ (nI x) (nI y) z = some (if τ 3 (10 * y + x) = 0 ∧ ¬ τ 1 1 < z then 1 else 0) := by
  unfold f_X8_canBuild
  rw [mg_num10 hx hy, mg_rdn (show 10 * y + x < 70 by omega) (Nat.le_refl 70), Option.bind_some]
  by_cases k : τ 3 (10 * y + x) = 0
  · rw [if_pos k]
    by_cases l : τ 1 1 < z
    · rw [if_pos l, if_neg (fun d => d.2 l)]
    · rw [if_neg l, if_pos ⟨k, l⟩]
  · rw [if_neg k, if_neg (fun d => k d.1)]
theorem mg_zr_at {k : Nat} {f : Nat → Int32} {t j i : Nat} : (mg_zr ζ k f).1 t j i = if t = 2 ∧ j = k then f i else ζ.1 t j i := by
  unfold mg_zr; dsimp only; split <;> rfl
/-- coins that are no more than M -/
def mq_C (ζ : mg_Sz) (M : Nat) : Prop := ∃ m, m ≤ M ∧ ζ.1 0 0 1 = nI m
/-- coins that changed little -/
def mq_D (ζ ζ' : mg_Sz) : Prop := ∀ m, m < 10000000 → ζ.1 0 0 1 = nI m → ∃ m', m' ≤ m + 21 ∧ m ≤ m' + 21 ∧ ζ'.1 0 0 1 = nI m'
theorem mq_D_refl : mq_D ζ ζ := fun m _ h => ⟨m, by omega, by omega, h⟩
/-- an act -/
def mq_A (ζ : mg_Sz) (o : Option (mg_St × mg_Sz)) : Prop := ∃ σ' ζ', o = some (σ', ζ') ∧ mq_X σ' ζ' ∧ mq_D ζ ζ'
theorem mq_A_none (hT : mq_T σ ζ c g p μ) : mq_A ζ (some (σ, ζ)) := ⟨σ, ζ, rfl, ⟨c, g, p, μ, hT⟩, mq_D_refl⟩
end AC
