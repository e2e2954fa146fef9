/-! ===== the same garden ===== -/
def mq_fin (ζ : mg_Sz) (c : Nat) : Nat → Int32 × Int32
  | 0 => (-1, -1)
  | n + 1 => if mq_beauty ζ c n ≤ (mq_fin ζ c n).2 then mq_fin ζ c n else (nI n, mq_beauty ζ c n)
section SM
variable {σ : mg_St} {ζ : mg_Sz} {c g p : Nat} {μ : Nat → Nat}
theorem mq_bd (hT : mq_T σ ζ c g p μ) {i : Nat} (hi : i < g) : ∃ B, B < 100000 ∧ mq_beauty ζ c i = nI B := by
  obtain ⟨V, v1, -⟩ := q_look hT hi
  obtain ⟨⟨τ, hI, hR⟩, hZ⟩ := hT
  obtain ⟨B, b1, b2⟩ := mg_look_bd (b := 5) hI.1 hI.2.1 hI.2.2.2.1 (fun j hj => (hR.2.2.1 j hj).2) hi v1
  exact ⟨B, b1, b2⟩
theorem q_fin6 (hT : mq_T σ ζ c g p μ) : ∀ (n j : Nat) (V : Nat → Int32), j ≤ g → g < n + j → ∃ V', f_X6_finest_6 n (mq_fin ζ c j).1 (mq_fin ζ c j).2 (nI j) (mg_sr σ 7 V) = some ((mq_fin ζ c g).1, (mq_fin ζ c g).2, nI g, mg_sr σ 7 V') := by
  obtain ⟨c30, g6, p5⟩ := mq_c30 hT
  have n6 : σ 3 2 = nI g := by obtain ⟨⟨τ, hI, hR⟩, hZ⟩ := hT; exact hI.1.2.2.2.2.2.1
  intro n; induction n with
  | zero => intro j V h1 h2; omega
  | succ n ih =>
    intro j V h1 h2
    unfold f_X6_finest_6
    rw [show mg_sr σ 7 V 3 2 = nI g from n6]
    rcases Nat.lt_or_ge j g with h | h
    · obtain ⟨V2, v1, -⟩ := q_look (mq_T_v (V := V) hT) h
      have e : mg_sr (mg_sr σ 7 V) 7 V2 = mg_sr σ 7 V2 := by funext a; unfold mg_sr; split <;> rfl
      rw [if_neg (nI_ge h (by omega)), v1, Option.bind_some, e, ← nI_succ]
      have nx := ih (j + 1) V2 (by omega) (by omega)
      rw [show mq_fin ζ c (j + 1) = if mq_beauty ζ c j ≤ (mq_fin ζ c j).2 then mq_fin ζ c j else (nI j, mq_beauty ζ c j) from rfl] at nx
      by_cases k : mq_beauty ζ c j ≤ (mq_fin ζ c j).2
      · rw [if_pos k] at nx; rw [if_pos k]; exact nx
      · rw [if_neg k] at nx; rw [if_neg k]; exact nx
    · have e : j = g := by omega
      subst e
      exact ⟨V, by rw [if_pos (Int32.le_refl _)]⟩
theorem q_finest (hT : mq_T σ ζ c g p μ) : ∃ V, f_X6_finest σ = some ((mq_fin ζ c g).1, mg_sr σ 7 V) := by
  obtain ⟨c30, g6, p5⟩ := mq_c30 hT
  obtain ⟨V, h⟩ := q_fin6 hT 5000 0 (σ 7) (by omega) (by omega)
  rw [mg_sr_self, nI_0] at h
  unfold f_X6_finest
  exact ⟨V, by rw [show f_X6_finest_6 5000 (-1) (-1) 0 σ = _ from h]; rfl⟩
theorem q_mean16 (hT : mq_T σ ζ c g p μ) : ∀ (n j : Nat) (V : Nat → Int32), j ≤ g → g < n + j → ∃ V', f_X6_mean_16 n (mg_sum (mq_beauty ζ c) j) (nI j) (mg_sr σ 7 V) = some (mg_sum (mq_beauty ζ c) g, nI g, mg_sr σ 7 V') := by
  obtain ⟨c30, g6, p5⟩ := mq_c30 hT
  have n6 : σ 3 2 = nI g := by obtain ⟨⟨τ, hI, hR⟩, hZ⟩ := hT; exact hI.1.2.2.2.2.2.1
  intro n; induction n with
  | zero => intro j V h1 h2; omega
  | succ n ih =>
    intro j V h1 h2
    unfold f_X6_mean_16
    rw [show mg_sr σ 7 V 3 2 = nI g from n6]
    rcases Nat.lt_or_ge j g with h | h
    · obtain ⟨V2, v1, -⟩ := q_look (mq_T_v (V := V) hT) h
      have e : mg_sr (mg_sr σ 7 V) 7 V2 = mg_sr σ 7 V2 := by funext a; unfold mg_sr; split <;> rfl
      rw [if_neg (nI_ge h (by omega)), v1, Option.bind_some, e, ← nI_succ]
      exact ih (j + 1) V2 (by omega) (by omega)
    · have e : j = g := by omega
      subst e
      exact ⟨V, by rw [if_pos (Int32.le_refl _)]⟩
theorem q_mean (hT : mq_T σ ζ c g p μ) : ∃ V, f_X6_mean σ = some ((if g = 0 then FP.dconst0 else FP.ddiv (FP.i2d (mg_sum (mq_beauty ζ c) g)) (FP.i2d (nI g))), mg_sr σ 7 V) := by
  obtain ⟨c30, g6, p5⟩ := mq_c30 hT
  have n6 : σ 3 2 = nI g := by obtain ⟨⟨τ, hI, hR⟩, hZ⟩ := hT; exact hI.1.2.2.2.2.2.1
  unfold f_X6_mean
  rw [n6]
  by_cases z : g = 0
  · refine ⟨σ 7, ?_⟩
    rw [if_neg (by subst z; decide), if_pos z, mg_sr_self]
  · obtain ⟨V, h⟩ := q_mean16 hT 5000 0 (σ 7) (by omega) (by omega)
    rw [mg_sr_self, nI_0, show mg_sum (mq_beauty ζ c) 0 = 0 from rfl] at h
    refine ⟨V, ?_⟩
    rw [if_pos (show (0 : Int32) < nI g from nI_lt (a := 0) (by omega) (by omega)), h, Option.bind_some, if_neg z]
    dsimp only
    rw [show mg_sr σ 7 V 3 2 = nI g from n6]
/-- one value of five after the other -/
theorem k7_s104 (hT : mq_T σ ζ c g p μ) {x y : Nat} {D : Nat → Int32} (hx : x < 10) (hy : y < 7) (hD : ∀ k, k < 5 → D k = mq_cell ζ μ c (10 * y + x) k) : ∀ (n j : Nat), j ≤ 5 → 5 < n + j → f_X7_isSame_104 (nI y) (nI x) D ζ n (nI j) σ = some (nI 5, σ) := by
  intro n; induction n with
  | zero => intro j h1 h2; omega
  | succ n ih =>
    intro j h1 h2
    unfold f_X7_isSame_104
    rcases Nat.lt_or_ge j 5 with h | h
    · rw [if_neg (mg_le (N := 5) (M := 5) rfl (by omega) h), q_cell hT hx hy h, mg_xq_ok, mg_ixn h (by omega), Option.bind_some, hD j h, if_pos rfl, ← nI_succ]
      exact ih (j + 1) (by omega) (by omega)
    · have e : j = 5 := by omega
      subst e
      rw [if_pos (show (5 : Int32) ≤ nI 5 by decide +kernel)]
theorem mq_5 {a0 a1 a2 a3 a4 : Int32} {P : Nat → Int32 → Prop} (h0 : P 0 a0) (h1 : P 1 a1) (h2 : P 2 a2) (h3 : P 3 a3) (h4 : P 4 a4) : ∀ k, k < 5 → P k ((upd (upd (upd (upd (upd (fun _ => 0) 0 a0) 1 a1) 2 a2) 3 a3) 4 a4) k) := by
  intro k hk
  have : k = 0 ∨ k = 1 ∨ k = 2 ∨ k = 3 ∨ k = 4 := by omega
  rcases this with h | h | h | h | h <;> subst h
  · exact h0
  · exact h1
  · exact h2
  · exact h3
  · exact h4
theorem k7_carpsIn_T (hT : mq_T σ ζ c g p μ) {a : Nat} {O : Nat → Nat → Int32} (h : mg_om (mq_k ζ) μ a O) : f_X7_carpsIn ζ O = some (if mq_k ζ a = 2 then mq_in ζ μ c a else 0) := by
  obtain ⟨c30, -, -⟩ := mq_c30 hT
  exact k7_carpsIn_om hT.2.1.1 c30 (fun j hj => by obtain ⟨h1, h2, h3, h4, -⟩ := mq_carp hT hj; exact ⟨h1, h3, h4⟩) (fun j hj s => (mq_carp hT hj).2.2.2.2.2.2.2.1 s) h
theorem k7_s10 (hT : mq_T σ ζ c g p μ) {y : Nat} (hy : y < 7) : ∀ (n x : Nat), x ≤ 10 → 10 < n + x → f_X7_isSame_10 (nI y) ζ n (nI x) σ = some (nI 10, σ) := by
  intro n; induction n with
  | zero => intro j h1 h2; omega
  | succ n ih =>
    intro x h1 h2
    unfold f_X7_isSame_10
    rcases Nat.lt_or_ge x 10 with h | h
    · have hq : 10 * y + x < 70 := by omega
      obtain ⟨O, o1, o2⟩ := k7_pond (κ := mq_k ζ) (ζ := ζ) (fun q hq => rfl) (mq_M hT) hq
      rw [show (10 * y + x) % 10 = x by omega, show (10 * y + x) / 10 = y by omega] at o1
      rw [if_neg (mg_le (N := 10) (M := 10) rfl (by omega) h), mg_ixn hy (by omega), Option.bind_some, mg_ixn h (by omega), Option.bind_some, o1, Option.bind_some]
      have e6 : (if ζ.1 2 (10 * y + x) 0 = 1 then some (ζ.1 2 (10 * y + x) 1) else some (-1) : Option Int32) = some (if mq_k ζ (10 * y + x) = 1 then mq_s ζ (10 * y + x) else -1) := by split <;> rfl
      have e7 : (if ζ.1 2 (10 * y + x) 0 = 1 then some (ζ.1 2 (10 * y + x) 2) else some 0 : Option Int32) = some (if mq_k ζ (10 * y + x) = 1 then mq_z ζ (10 * y + x) else 0) := by split <;> rfl
      rw [e6, Option.bind_some, e7, Option.bind_some, k7_many_om o2, Option.bind_some, k7_carpsIn_T hT o2, Option.bind_some]
      have s104 := k7_s104 hT h hy (mq_5 (P := fun k v => v = mq_cell ζ μ c (10 * y + x) k) (a0 := ζ.1 2 (10 * y + x) 0) (a1 := if mq_k ζ (10 * y + x) = 1 then mq_s ζ (10 * y + x) else -1) (a2 := if mq_k ζ (10 * y + x) = 1 then mq_z ζ (10 * y + x) else 0) (a3 := if mq_k ζ (10 * y + x) = 2 then mg_cells (mq_k ζ) μ (10 * y + x) else 0) (a4 := if mq_k ζ (10 * y + x) = 2 then mq_in ζ μ c (10 * y + x) else 0) rfl rfl rfl rfl rfl) 5000 0 (by omega) (by omega)
      rw [nI_0] at s104
      rw [s104, Option.bind_some, ← nI_succ]
      exact ih (x + 1) (by omega) (by omega)
    · have e : x = 10 := by omega
      subst e
      rw [if_pos (show (10 : Int32) ≤ nI 10 by decide +kernel)]
theorem k7_s2 (hT : mq_T σ ζ c g p μ) : ∀ (n y : Nat), y ≤ 7 → 7 < n + y → f_X7_isSame_2 ζ n (nI y) σ = some (nI 7, σ) := by
  intro n; induction n with
  | zero => intro j h1 h2; omega
  | succ n ih =>
    intro y h1 h2
    unfold f_X7_isSame_2
    rcases Nat.lt_or_ge y 7 with h | h
    · have := k7_s10 hT h 11 0 (by omega) (by omega)
      rw [nI_0] at this
      rw [if_neg (mg_le (N := 7) (M := 7) rfl (by omega) h), this, Option.bind_some, ← nI_succ]
      exact ih (y + 1) (by omega) (by omega)
    · have e : y = 7 := by omega
      subst e
      rw [if_pos (show (7 : Int32) ≤ nI 7 by decide +kernel)]
theorem k7_s181 (hT : mq_T σ ζ c g p μ) {i : Nat} {a2 : Int32} : ∀ (n j : Nat), j ≤ c → c < n + j → f_X7_isSame_181 i a2 (nI c) σ ζ n (1 + mg_sum (fun k => if ζ.1 3 k 3 = 0 ∧ ¬ ζ.1 3 k 2 ≤ ζ.1 3 i 2 then 1 else 0) j) (nI j) = some (1 + mg_sum (fun k => if ζ.1 3 k 3 = 0 ∧ ¬ ζ.1 3 k 2 ≤ ζ.1 3 i 2 then 1 else 0) c, nI c) := by
  obtain ⟨c30, -, -⟩ := mq_c30 hT
  intro n; induction n with
  | zero => intro j h1 h2; omega
  | succ n ih =>
    intro j h1 h2
    unfold f_X7_isSame_181
    rcases Nat.lt_or_ge j c with h | h
    · have := ih (j + 1) (by omega) (by omega)
      rw [mg_sum_s, ← Int32.add_assoc] at this
      rw [if_neg (nI_ge h (by omega)), hT.2.1.1, mg_ixn h (by omega), Option.bind_some, ← nI_succ]
      by_cases s : ζ.1 3 j 3 = 0
      · rw [if_pos s]
        by_cases z : ζ.1 3 j 2 ≤ ζ.1 3 i 2
        · rw [if_neg (fun d => d.2 z)] at this
          rw [if_pos z]; exact this
        · rw [if_pos ⟨s, z⟩] at this
          rw [if_neg z]; exact this
      · rw [if_neg (fun d => s d.1)] at this
        rw [if_neg s]; exact this
    · have e : j = c := by omega
      subst e; rw [if_pos (Int32.le_refl _)]
theorem k7_s276 (hT : mq_T σ ζ c g p μ) {i : Nat} {D : Nat → Int32} (hi : i < c) (hD : ∀ k, k < 5 → D k = mq_told ζ c i k) : ∀ (n j : Nat), j ≤ 5 → 5 < n + j → f_X7_isSame_276 (nI i) ζ D n (nI j) σ = some (nI 5, σ) := by
  intro n; induction n with
  | zero => intro j h1 h2; omega
  | succ n ih =>
    intro j h1 h2
    unfold f_X7_isSame_276
    rcases Nat.lt_or_ge j 5 with h | h
    · rw [if_neg (mg_le (N := 5) (M := 5) rfl (by omega) h), q_told hT hi h, mg_xq_ok, mg_ixn h (by omega), Option.bind_some, hD j h, if_pos rfl, ← nI_succ]
      exact ih (j + 1) (by omega) (by omega)
    · have e : j = 5 := by omega
      subst e
      rw [if_pos (show (5 : Int32) ≤ nI 5 by decide +kernel)]
theorem k7_s148 (hT : mq_T σ ζ c g p μ) : ∀ (n j : Nat), j ≤ c → c < n + j → f_X7_isSame_148 ζ n (nI j) σ = some (nI c, σ) := by
  obtain ⟨c30, -, -⟩ := mq_c30 hT
  intro n; induction n with
  | zero => intro j h1 h2; omega
  | succ n ih =>
    intro j h1 h2
    unfold f_X7_isSame_148
    rw [hT.2.1.1]
    rcases Nat.lt_or_ge j c with h | h
    · have s181 := k7_s181 hT (i := j) (a2 := nI j) 5000 0 (by omega) (by omega)
      rw [show mg_sum (fun k => if ζ.1 3 k 3 = 0 ∧ ¬ ζ.1 3 k 2 ≤ ζ.1 3 j 2 then 1 else 0) 0 = 0 from rfl, Int32.add_zero, nI_0] at s181
      rw [if_neg (nI_ge h (by omega)), mg_ixn h (by omega), Option.bind_some, s181, Option.bind_some]
      obtain ⟨-, -, -, -, -, -, s7, -⟩ := mq_carp hT h
      have er : (if ζ.1 3 j 3 = 1 then some 0 else some (1 + mg_sum (fun k => if ζ.1 3 k 3 = 0 ∧ ¬ ζ.1 3 k 2 ≤ ζ.1 3 j 2 then 1 else 0) c) : Option Int32) = some (mq_rank ζ c j) := by
        unfold mq_rank
        rcases s7 with s | s
        · rw [if_pos s, if_neg (by rw [s]; decide)]
        · rw [if_pos s, if_neg (by rw [s]; decide)]
      dsimp only
      rw [er, Option.bind_some]
      have s276 := k7_s276 hT h (mq_5 (P := fun k v => v = mq_told ζ c j k) (a0 := ζ.1 3 j 0) (a1 := ζ.1 3 j 1) (a2 := ζ.1 3 j 2) (a3 := ζ.1 3 j 3) (a4 := mq_rank ζ c j) rfl rfl rfl rfl rfl) 5000 0 (by omega) (by omega)
      rw [nI_0] at s276
      rw [s276, Option.bind_some, ← nI_succ]
      exact ih (j + 1) (by omega) (by omega)
    · have e : j = c := by omega
      subst e; rw [if_pos (Int32.le_refl _)]
theorem k7_s360 {cP : Nat → Nat → Int32} {L : List Nat} {a2 a3 a4 : Int32} (hP : mq_ps cP L) (hL : ∀ r, r ∈ L → r < 70) (hl : L.length ≤ 9) : ∀ (l pre : List Nat) (n : Nat) (u v : Int32), L = pre ++ l → l.length < n →
    f_X7_isSame_360 a2 a3 a4 (nI L.length) σ ζ L.length cP n u v (nI pre.length) = some (u + mq_kn ζ 1 l, v + mq_kn ζ 2 l, nI L.length) := by
  intro l; induction l with
  | nil =>
    intro pre n u v e hn
    obtain ⟨n, rfl⟩ : ∃ n', n = n' + 1 := ⟨n - 1, by simp only [List.length_nil] at hn; omega⟩
    rw [List.append_nil] at e
    unfold f_X7_isSame_360
    rw [← e, if_pos (Int32.le_refl _)]
    unfold mq_kn
    rw [Int32.add_zero, Int32.add_zero]
  | cons q l ih =>
    intro pre n u v e hn
    obtain ⟨n, rfl⟩ : ∃ n', n = n' + 1 := ⟨n - 1, by simp only [List.length_cons] at hn; omega⟩
    have hlen : L.length = pre.length + l.length + 1 := by rw [e]; simp; omega
    have hk : pre.length < L.length := by omega
    have hget : L[pre.length]? = some q := by rw [e, List.getElem?_append_right (Nat.le_refl _), Nat.sub_self]; rfl
    have hq : q < 70 := hL q (by rw [e]; simp)
    obtain ⟨p0, p1⟩ := hP _ _ hget
    unfold f_X7_isSame_360
    rw [if_neg (nI_ge hk (by omega)), mg_ixn hk (by omega), Option.bind_some, p1, p0]
    simp only [mg_ixn (show q / 10 < 7 by omega) (show 7 ≤ 70 by omega), mg_ixn (show q % 10 < 10 by omega) (show 10 ≤ 70 by omega), Option.bind_some]
    rw [show 10 * (q / 10) + q % 10 = q by omega]
    have e1 : (if ζ.1 2 q 0 = 1 then some 1 else some 0 : Option Int32) = some (if mq_k ζ q = 1 then 1 else 0) := by split <;> rfl
    rw [e1, Option.bind_some]
    have hnext := fun u v => ih (pre ++ [q]) n u v (by rw [e]; simp) (by simp only [List.length_cons] at hn; omega)
    rw [List.length_append, List.length_singleton, nI_succ] at hnext
    have k1 : ∀ v, mq_kn ζ v (q :: l) = (if mq_k ζ q = v then 1 else 0) + mq_kn ζ v l := fun v => rfl
    rw [k1, k1, ← Int32.add_assoc, ← Int32.add_assoc]
    by_cases k2 : mq_k ζ q = 2
    · rw [if_pos (show ζ.1 2 q 0 = 2 from k2), if_pos k2]; exact hnext _ _
    · rw [if_neg (show ¬ ζ.1 2 q 0 = 2 from k2), if_neg k2]; exact hnext _ _
theorem k7_s457 (hT : mq_T σ ζ c g p μ) {i : Nat} {a2 a3 a6 a7 : Int32} {N : Nat} {cP : Nat → Nat → Int32} {s : mg_St} : ∀ (n j : Nat), j ≤ p → p < n + j → f_X7_isSame_457 a2 a3 (nI i) a6 a7 (nI p) s ζ N cP n (mq_at ζ j i) (nI j) = some (mq_at ζ p i, nI p) := by
  obtain ⟨-, -, p5⟩ := mq_c30 hT
  intro n; induction n with
  | zero => intro j h1 h2; omega
  | succ n ih =>
    intro j h1 h2
    unfold f_X7_isSame_457
    rcases Nat.lt_or_ge j p with h | h
    · have := ih (j + 1) (by omega) (by omega)
      rw [show mq_at ζ (j + 1) i = mq_at ζ j i + (if ζ.1 5 j 0 = nI i then 1 else 0) from rfl] at this
      rw [if_neg (nI_ge h (by omega)), hT.2.1.2.2.1, mg_ixn h (by omega), Option.bind_some, ← nI_succ]
      by_cases e : ζ.1 5 j 0 = nI i
      · rw [if_pos e] at this; rw [if_pos e]; exact this
      · rw [if_neg e] at this; rw [if_neg e]; exact this
    · have e : j = p := by omega
      subst e; rw [if_pos (Int32.le_refl _)]
theorem k7_s539 (hT : mq_T σ ζ c g p μ) {i : Nat} {D : Nat → Int32} {a2 a3 : Int32} (hi : i < g) (hD : ∀ k, k < 5 → D k = mq_about ζ c p i k) : ∀ (n j : Nat) (V : Nat → Int32), j ≤ 5 → 5 < n + j → ∃ V', f_X7_isSame_539 a2 a3 (nI i) D ζ n (nI j) (mg_sr σ 7 V) = some (nI 5, mg_sr σ 7 V') := by
  intro n; induction n with
  | zero => intro j V h1 h2; omega
  | succ n ih =>
    intro j V h1 h2
    unfold f_X7_isSame_539
    rcases Nat.lt_or_ge j 5 with h | h
    · obtain ⟨V2, v1⟩ := q_about (mq_T_v (V := V) hT) hi h
      have e : mg_sr (mg_sr σ 7 V) 7 V2 = mg_sr σ 7 V2 := by funext a; unfold mg_sr; split <;> rfl
      rw [if_neg (mg_le (N := 5) (M := 5) rfl (by omega) h), v1, mg_xq_ok, mg_ixn h (by omega), Option.bind_some, hD j h, if_pos rfl, ← nI_succ, e]
      exact ih (j + 1) V2 (by omega) (by omega)
    · have e : j = 5 := by omega
      subst e
      rw [if_pos (show (5 : Int32) ≤ nI 5 by decide +kernel)]
      exact ⟨V, rfl⟩
end SM
