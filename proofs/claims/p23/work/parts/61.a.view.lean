/-! ===== what the garden by hand tells ===== -/
abbrev mq_k (ζ : mg_Sz) : Nat → Int32 := fun q => ζ.1 2 q 0
abbrev mq_s (ζ : mg_Sz) : Nat → Int32 := fun q => ζ.1 2 q 1
abbrev mq_z (ζ : mg_Sz) : Nat → Int32 := fun q => ζ.1 2 q 2
/-- the place of carp or gate j -/
def mq_pl (ζ : mg_Sz) (t j : Nat) : Nat := (10 * ζ.1 t j 1 + ζ.1 t j 0).toNatClampNeg
theorem mq_pl_eq {ζ : mg_Sz} {t j q : Nat} (hq : q < 70) (h0 : ζ.1 t j 0 = nI (q % 10)) (h1 : ζ.1 t j 1 = nI (q / 10)) : mq_pl ζ t j = q := by
  unfold mq_pl; rw [h0, h1, (mg_coord hq).2.2, nI_clamp (by omega)]
def mq_dr (ζ : mg_Sz) (i : Nat) : Nat := (ζ.1 4 i 2).toNatClampNeg
theorem mq_dr_eq {ζ : mg_Sz} {i d : Nat} (hd : d < 4) (h : ζ.1 4 i 2 = nI d) : mq_dr ζ i = d := by unfold mq_dr; rw [h, nI_clamp (by omega)]
/-- the class and the garden by hand, alike -/
def mq_Z (b : Nat) (σ : mg_St) (ζ : mg_Sz) (c g p : Nat) : Prop := (ζ.2 0 = c ∧ ζ.2 1 = g ∧ ζ.2 2 = p ∧ ζ.1 0 0 0 = σ b 0 ∧ ζ.1 0 0 1 = σ b 1) ∧
  (∀ q, q < 70 → ζ.1 2 q 0 = σ 8 q ∧ (σ 8 q = 1 → ζ.1 2 q 1 = σ 9 q ∧ ζ.1 2 q 2 = σ 10 q ∧ ∃ z, 1 ≤ z ∧ z < 10 ∧ σ 10 q = nI z)) ∧
  (∀ j, j < c → ∃ q, q < 70 ∧ σ 16 j = nI q ∧ ζ.1 3 j 0 = nI (q % 10) ∧ ζ.1 3 j 1 = nI (q / 10) ∧ ζ.1 3 j 2 = σ (2 * b + 11) j ∧ ζ.1 3 j 3 = σ 17 j) ∧
  (∀ i, i < g → ∃ q d, q < 70 ∧ d < 4 ∧ σ 18 i = nI q ∧ σ 19 i = nI d ∧ ζ.1 4 i 0 = nI (q % 10) ∧ ζ.1 4 i 1 = nI (q / 10) ∧ ζ.1 4 i 2 = nI d) ∧
  (∀ j, j < p → ζ.1 5 j 0 = σ 20 j ∧ ζ.1 5 j 1 = σ (2 * b + 12) j)
/-- the class and the garden by hand, with the pond marks -/
def mq_Tb (b e : Nat) (σ : mg_St) (ζ : mg_Sz) (c g p : Nat) (μ : Nat → Nat) : Prop := (∃ τ, mg_core σ τ c g p μ ∧ mg_crs σ τ b e c p) ∧ mq_Z b σ ζ c g p
abbrev mq_T (σ : mg_St) (ζ : mg_Sz) (c g p : Nat) (μ : Nat → Nat) : Prop := mq_Tb 5 1 σ ζ c g p μ
theorem mq_T_v {σ : mg_St} {ζ : mg_Sz} {c g p : Nat} {μ : Nat → Nat} {V : Nat → Int32} (h : mq_T σ ζ c g p μ) : mq_T (mg_sr σ 7 V) ζ c g p μ := by
  obtain ⟨⟨τ, h1, h2⟩, h3⟩ := h
  exact ⟨⟨τ, mg_core_v h1, mg_crs_v h2⟩, h3⟩
/-- the carps by hand in a pond -/
def mq_in (ζ : mg_Sz) (μ : Nat → Nat) (c q : Nat) : Int32 := mg_sum (fun j => if ζ.1 3 j 3 = 0 then (if μ (mq_pl ζ 3 j) = μ q then 1 else 0) else 0) c
def mq_rank (ζ : mg_Sz) (c j : Nat) : Int32 := if ζ.1 3 j 3 = 0 then 1 + mg_sum (fun k => if ζ.1 3 k 3 = 0 ∧ ¬ ζ.1 3 k 2 ≤ ζ.1 3 j 2 then 1 else 0) c else 0
def mq_cell (ζ : mg_Sz) (μ : Nat → Nat) (c q k : Nat) : Int32 := if k = 0 then mq_k ζ q else if k = 1 then (if mq_k ζ q = 1 then mq_s ζ q else -1) else if k = 2 then (if mq_k ζ q = 1 then mq_z ζ q else 0) else if k = 3 then (if mq_k ζ q = 2 then mg_cells (mq_k ζ) μ q else 0) else (if mq_k ζ q = 2 then mq_in ζ μ c q else 0)
def mq_told (ζ : mg_Sz) (c j k : Nat) : Int32 := if k = 0 then ζ.1 3 j 0 else if k = 1 then ζ.1 3 j 1 else if k = 2 then ζ.1 3 j 2 else if k = 3 then ζ.1 3 j 3 else mq_rank ζ c j
section QC
variable {b e : Nat} {σ : mg_St} {ζ : mg_Sz} {c g p : Nat} {μ : Nat → Nat}
theorem mq_kk (hT : mq_Tb b e σ ζ c g p μ) {q : Nat} (hq : q < 70) : ζ.1 2 q 0 = σ 8 q := (hT.2.2.1 q hq).1
theorem mq_M (hT : mq_Tb b e σ ζ c g p μ) : mg_M (mq_k ζ) μ := by
  obtain ⟨⟨τ, hI, hR⟩, hZ⟩ := hT
  exact mg_M_congr (fun q hq => (hZ.2.1 q hq).1) hI.2.2.2.2.2.2.1
theorem mq_cells_eq (hT : mq_Tb b e σ ζ c g p μ) {q : Nat} : mg_cells (σ 8) μ q = mg_cells (mq_k ζ) μ q := by
  unfold mg_cells
  exact mg_sum_congr (fun k hk => by rw [show mq_k ζ k = σ 8 k from mq_kk hT hk])
theorem mq_carpb (hT : mq_Tb b e σ ζ c g p μ) {j : Nat} (hj : j < c) : mq_pl ζ 3 j < 70 ∧ σ 16 j = nI (mq_pl ζ 3 j) ∧ ζ.1 3 j 0 = nI (mq_pl ζ 3 j % 10) ∧ ζ.1 3 j 1 = nI (mq_pl ζ 3 j / 10) ∧ ζ.1 3 j 2 = σ (2 * b + 11) j ∧ ζ.1 3 j 3 = σ 17 j ∧ (ζ.1 3 j 3 = 0 ∨ ζ.1 3 j 3 = 1) ∧ (ζ.1 3 j 3 = 0 → mq_k ζ (mq_pl ζ 3 j) = 2) ∧ ∃ z, 1 ≤ z ∧ z ≤ 40 ∧ ζ.1 3 j 2 = nI z := by
  obtain ⟨⟨τ, hI, hR⟩, hZ⟩ := hT
  obtain ⟨q, h1, h2, h3, h4, h5, h6⟩ := hZ.2.2.1 j hj
  obtain ⟨q', d1, d2, d3, d4, d5, d6⟩ := hI.2.2.1 j hj
  have e : q' = q := mg_inj (by omega) (by omega) (by rw [← d2, h2])
  subst e
  rw [mq_pl_eq h1 h3 h4]
  obtain ⟨z, z1, z2, z3⟩ := (hR.2.2.1 j hj).2
  exact ⟨h1, h2, h3, h4, h5, h6, by rw [h6]; exact d5, fun s => by rw [show mq_k ζ q' = σ 8 q' from (hZ.2.1 q' h1).1]; exact d6 (by rw [← h6]; exact s), z, z1, z2, by rw [h5]; exact z3⟩
theorem mq_carp (hT : mq_T σ ζ c g p μ) {j : Nat} (hj : j < c) : mq_pl ζ 3 j < 70 ∧ σ 16 j = nI (mq_pl ζ 3 j) ∧ ζ.1 3 j 0 = nI (mq_pl ζ 3 j % 10) ∧ ζ.1 3 j 1 = nI (mq_pl ζ 3 j / 10) ∧ ζ.1 3 j 2 = σ 21 j ∧ ζ.1 3 j 3 = σ 17 j ∧ (ζ.1 3 j 3 = 0 ∨ ζ.1 3 j 3 = 1) ∧ (ζ.1 3 j 3 = 0 → mq_k ζ (mq_pl ζ 3 j) = 2) ∧ ∃ z, 1 ≤ z ∧ z ≤ 40 ∧ ζ.1 3 j 2 = nI z := mq_carpb hT hj
theorem mq_c30 (hT : mq_Tb b e σ ζ c g p μ) : c ≤ 30 ∧ g ≤ 6 ∧ p ≤ 5 := by
  obtain ⟨⟨τ, hI, hR⟩, hZ⟩ := hT
  exact ⟨hI.1.1, hI.1.2.1, hI.1.2.2.1⟩
theorem mq_aged_eq (hT : mq_Tb b e σ ζ c g p μ) {q : Nat} : mg_aged (σ 8) (σ 11) μ q = mq_in ζ μ c q := by
  have hT' := hT
  obtain ⟨⟨τ, hI, hR⟩, hZ⟩ := hT'
  rw [mg_aged_carps hI.2.2.1 hI.2.2.2.2.2.1]
  unfold mq_in
  refine mg_sum_congr (fun j hj => ?_)
  obtain ⟨h1, h2, h3, h4, h5, h6, h7, h8⟩ := mq_carpb hT hj
  rw [h6, h2, nI_clamp (by omega)]
theorem k1_in {σ : mg_St} {x y : Nat} (hx : x < 10) (hy : y < 7) : f_X1_isInside σ (nI x) (nI y) = some 1 := by
  unfold f_X1_isInside
  rw [if_neg (nI_pos (by omega)), if_neg (mg_le (N := 10) (M := 10) rfl (by omega) hx), if_neg (nI_pos (by omega)), if_neg (mg_le (N := 7) (M := 7) rfl (by omega) hy)]
theorem mg_num10 {x y : Nat} (hx : x < 10) (hy : y < 7) : 10 * nI y + nI x = nI (10 * y + x) := by
  have := (mg_coord (p := 10 * y + x) (by omega)).2.2
  rw [show (10 * y + x) / 10 = y by omega, show (10 * y + x) % 10 = x by omega] at this
  exact this
theorem q_cell (hT : mq_T σ ζ c g p μ) {x y k : Nat} (hx : x < 10) (hy : y < 7) (hk : k < 5) : f_X6_cell σ (nI x) (nI y) (nI k) = some (.ok (mq_cell ζ μ c (10 * y + x) k), σ) := by
  have hq : 10 * y + x < 70 := by omega
  have hP : mg_pnd σ μ := by obtain ⟨⟨τ, hI, hR⟩, hZ⟩ := hT; exact hI.2.2.2.2.2.2.2
  have hE : (σ 8 (10 * y + x) ≠ 1 → σ 9 (10 * y + x) = -1 ∧ σ 10 (10 * y + x) = 0) := by obtain ⟨⟨τ, hI, hR⟩, hZ⟩ := hT; exact (hI.2.1 _ hq).2.2.2
  have hS := (hT.2.2.1 _ hq).2
  have hk0 : mq_k ζ (10 * y + x) = σ 8 (10 * y + x) := mq_kk hT hq
  have h9 : (if mq_k ζ (10 * y + x) = 1 then mq_s ζ (10 * y + x) else -1) = σ 9 (10 * y + x) := by
    rw [hk0]; by_cases e : σ 8 (10 * y + x) = 1
    · rw [if_pos e]; exact (hS e).1
    · rw [if_neg e]; exact (hE e).1.symm
  have h10 : (if mq_k ζ (10 * y + x) = 1 then mq_z ζ (10 * y + x) else 0) = σ 10 (10 * y + x) := by
    rw [hk0]; by_cases e : σ 8 (10 * y + x) = 1
    · rw [if_pos e]; exact (hS e).2.1
    · rw [if_neg e]; exact (hE e).2.symm
  unfold mq_cell
  rw [h9, h10, ← mq_cells_eq hT, ← mq_aged_eq hT, hk0]
  unfold f_X6_cell f_X6_checkWhat
  rw [k6_place1 (k1_in hx hy), mg_xb_ok, if_neg (nI_pos (by omega)), if_pos (show nI k < 5 from nI_lt (b := 5) hk (by omega)), mg_xb_ok, k6_num (mg_num10 hx hy), Option.bind_some, k1_kindAt hq, k1_shapeAt hq, k1_sizeAt hq, k1_cellsAt hP hq, k1_carpsAt hP hq]
  have : k = 0 ∨ k = 1 ∨ k = 2 ∨ k = 3 ∨ k = 4 := by omega
  rcases this with h | h | h | h | h <;> subst h <;> rfl
theorem q_told (hT : mq_T σ ζ c g p μ) {i k : Nat} (hi : i < c) (hk : k < 5) : f_X6_told σ (nI i) (nI k) = some (.ok (mq_told ζ c i k), σ) := by
  obtain ⟨h1, h2, h3, h4, h5, h6, h7, h8, h9⟩ := mq_carp hT hi
  obtain ⟨c30, -, -⟩ := mq_c30 hT
  have n4 : σ 2 2 = nI c := by obtain ⟨⟨τ, hI, hR⟩, hZ⟩ := hT; exact hI.1.2.2.2.1
  have hrank : f_X6_rankOf σ (nI i) = some (mq_rank ζ c i) := by
    unfold f_X6_rankOf mq_rank
    rw [k4_isHere n4 c30 hi, Option.bind_some, h6]
    by_cases s : σ 17 i = 0
    · have := k6_rank17 n4 c30 hi 5000 0 (by omega) (by omega)
      simp only [mg_sum, Int32.add_zero, nI_0] at this
      rw [if_pos s, if_neg (show ¬ (1 : Int32) = 0 by decide), this, if_pos s]
      refine congrArg some (congrArg (fun z => 1 + z) (mg_sum_congr (fun j hj => ?_)))
      obtain ⟨-, -, -, -, a5, a6, -⟩ := mq_carp hT hj
      rw [a5, a6, h5]
    · rw [if_neg s, if_pos rfl, if_neg s]
  unfold f_X6_told f_X6_checkWhat mq_told
  rw [k6_ckCarp1 n4 (nI_pos (by omega)) (nI_lt hi (by omega)), mg_xb_ok, if_neg (nI_pos (by omega)), if_pos (show nI k < 5 from nI_lt (b := 5) hk (by omega)), mg_xb_ok, k4_placeOf n4 c30 hi, k0_carpSize (by omega), k4_isHere n4 c30 hi, hrank, h2]
  have h3' : (if (if σ 17 i = 0 then 1 else 0 : Int32) = 0 then some (Except.ok 1, σ) else some (Except.ok 0, σ) : Option (Except (Fin 3) Int32 × mg_St)) = some (Except.ok (ζ.1 3 i 3), σ) := by
    rcases h7 with s | s
    · have hs : σ 17 i = 0 := by rw [← h6]; exact s
      rw [if_pos hs, if_neg (by decide), s]
    · have hs : ¬ σ 17 i = 0 := by rw [← h6, s]; decide
      rw [if_neg hs, if_pos rfl, s]
  simp only [Option.bind_some]
  rw [h3', (mg_coord h1).1, (mg_coord h1).2.1, h3, h4, h5]
  have : k = 0 ∨ k = 1 ∨ k = 2 ∨ k = 3 ∨ k = 4 := by omega
  rcases this with h | h | h | h | h <;> subst h <;> rfl
theorem q_lines (hT : mq_T σ ζ c g p μ) {j : Nat} (hj : j < p) : f_X6_lines σ (nI j) = some (.ok (ζ.1 5 j 1), σ) := by
  obtain ⟨-, -, p5⟩ := mq_c30 hT
  have n8 : σ 4 1 = nI p := by obtain ⟨⟨τ, hI, hR⟩, hZ⟩ := hT; exact hI.1.2.2.2.2.2.2.2.1
  unfold f_X6_lines
  rw [k6_poet1 n8 (nI_pos (by omega)) (nI_lt hj (by omega)), mg_xb_ok, k0_written (by omega), Option.bind_some]
  rw [(hT.2.2.2.2.2 j hj).2]
theorem mq_gate (hT : mq_Tb b e σ ζ c g p μ) {i : Nat} (hi : i < g) : mq_pl ζ 4 i < 70 ∧ mq_dr ζ i < 4 ∧ σ 18 i = nI (mq_pl ζ 4 i) ∧ σ 19 i = nI (mq_dr ζ i) ∧ ζ.1 4 i 0 = nI (mq_pl ζ 4 i % 10) ∧ ζ.1 4 i 1 = nI (mq_pl ζ 4 i / 10) ∧ ζ.1 4 i 2 = nI (mq_dr ζ i) := by
  obtain ⟨q, d, h1, h2, h3, h4, h5, h6, h7⟩ := hT.2.2.2.2.1 i hi
  rw [mq_pl_eq h1 h5 h6, mq_dr_eq h2 h7]
  exact ⟨h1, h2, h3, h4, h5, h6, h7⟩
theorem mq_poet (hT : mq_Tb b e σ ζ c g p μ) {j : Nat} (hj : j < p) : ∃ i, i < g ∧ σ 20 j = nI i ∧ ζ.1 5 j 0 = nI i ∧ ζ.1 5 j 1 = σ (2 * b + 12) j := by
  obtain ⟨⟨τ, hI, hR⟩, hZ⟩ := hT
  obtain ⟨i, h1, h2, h3⟩ := hI.2.2.2.2.1 j hj
  exact ⟨i, h1, h2, by rw [(hZ.2.2.2.2 j hj).1, h2], (hZ.2.2.2.2 j hj).2⟩
/-! ===== a gate's view ===== -/
/-- the cells that gate i shows -/
def mq_see (ζ : mg_Sz) (i : Nat) : List Nat := mg_see (mq_k ζ) (mq_z ζ) (mq_dr ζ i) 10 (mq_pl ζ 4 i)
def mq_szin (ζ : mg_Sz) (c q : Nat) : Int32 := mg_sum (fun k => if ζ.1 3 k 3 = 0 then (if mq_pl ζ 3 k = q then ζ.1 3 k 2 else 0) else 0) c
/-- what a cell adds, after others -/
def mq_add (ζ : mg_Sz) (c : Nat) (pre : List Nat) (q : Nat) : Int32 := if mq_k ζ q = 1 then mq_z ζ q + (if ∀ r, r ∈ pre → mq_k ζ r = 1 → mq_s ζ r ≠ mq_s ζ q then 4 else 0) else if mq_k ζ q = 2 then 3 + mq_szin ζ c q / 10 else 0
def mq_bt (ζ : mg_Sz) (c : Nat) : List Nat → List Nat → Int32 → Int32
  | _, [], acc => acc
  | pre, q :: l, acc => mq_bt ζ c (pre ++ [q]) l (acc + mq_add ζ c pre q)
def mq_beauty (ζ : mg_Sz) (c i : Nat) : Int32 := mq_bt ζ c [] (mq_see ζ i) 0
def mq_kn (ζ : mg_Sz) (v : Int32) : List Nat → Int32
  | [] => 0
  | q :: l => (if mq_k ζ q = v then 1 else 0) + mq_kn ζ v l
def mq_at (ζ : mg_Sz) (p i : Nat) : Int32 := mg_sum (fun k => if ζ.1 5 k 0 = nI i then 1 else 0) p
def mq_about (ζ : mg_Sz) (c p i k : Nat) : Int32 := if k = 0 then nI (mq_see ζ i).length else if k = 1 then mq_kn ζ 1 (mq_see ζ i) else if k = 2 then mq_kn ζ 2 (mq_see ζ i) else if k = 3 then mq_beauty ζ c i else mq_at ζ p i
theorem mq_see_eq (hT : mq_Tb b e σ ζ c g p μ) {i : Nat} (hi : i < g) : mg_see (σ 8) (σ 10) (mq_dr ζ i) 10 (mq_pl ζ 4 i) = mq_see ζ i := by
  obtain ⟨h1, h2, -⟩ := mq_gate hT hi
  exact (mg_see_congr h2 (fun q hq => mq_kk hT hq) (fun q hq k => ((hT.2.2.1 q hq).2 k).2.1) 10 _ h1).symm
theorem mq_szin_eq (hT : mq_Tb b e σ ζ c g p μ) {q : Nat} (hq : q < 70) : mg_szin σ b c q = mq_szin ζ c q := by
  unfold mg_szin mq_szin
  refine mg_sum_congr (fun j hj => ?_)
  obtain ⟨h1, h2, h3, h4, h5, h6, -⟩ := mq_carpb hT hj
  rw [h2, h6, h5]
  by_cases e : mq_pl ζ 3 j = q
  · rw [if_pos (by rw [e]), if_pos e]
  · rw [if_neg (fun d => e (mg_inj (by omega) (by omega) d)), if_neg e]; split <;> rfl
theorem mq_bit_fin : ∀ w : Fin 64, ∀ s : Fin 6, ((nI w.1 &&& (1 <<< (nI s.1 &&& 31)) = 0) ↔ w.1.testBit s.1 = false) ∧ (w.1 ||| (1 <<< s.1)) < 64 ∧ nI w.1 ||| (1 <<< (nI s.1 &&& 31)) = nI (w.1 ||| (1 <<< s.1)) := by decide +kernel
theorem mq_bit2_fin : ∀ w : Fin 64, ∀ s t : Fin 6, (w.1 ||| (1 <<< s.1)).testBit t.1 = (w.1.testBit t.1 || decide (t = s)) := by decide +kernel
theorem mq_fold (hT : mq_Tb b e σ ζ c g p μ) : ∀ (l pre : List Nat) (V : Nat → Int32) (w : Nat), (∀ q, q ∈ l → q < 70) → (∀ q, q ∈ pre → q < 70) → w < 64 → V 4 = nI w → (∀ t, t < 6 → (w.testBit t = false ↔ ∀ r, r ∈ pre → mq_k ζ r = 1 → mq_s ζ r ≠ nI t)) →
    (l.foldl (mg_vst σ b c) V) 3 = mq_bt ζ c pre l (V 3) ∧ (l.foldl (mg_vst σ b c) V) 0 = V 0 + nI l.length ∧ (l.foldl (mg_vst σ b c) V) 1 = V 1 + mq_kn ζ 1 l ∧ (l.foldl (mg_vst σ b c) V) 2 = V 2 + mq_kn ζ 2 l := by
  intro l; induction l with
  | nil => intro pre V w h1 h2 h3 h4 h5; exact ⟨rfl, (Int32.add_zero _).symm, (Int32.add_zero _).symm, (Int32.add_zero _).symm⟩
  | cons q l ih =>
    intro pre V w h1 h2 h3 h4 h5
    have hq : q < 70 := h1 q List.mem_cons_self
    obtain ⟨v0, v1, v2, v3, v4⟩ := mg_vst_at (σ := σ) (b := b) (c := c) (q := q) (V := V)
    have kq : mq_k ζ q = σ 8 q := mq_kk hT hq
    have hpre : ∀ r, r ∈ pre ++ [q] → r < 70 := by
      intro r hr; rcases List.mem_append.1 hr with h | h
      · exact h2 r h
      · rw [List.mem_singleton] at h; subst h; exact hq
    rw [List.foldl_cons]
    have key : ∀ (w' : Nat), w' < 64 → mg_vst σ b c V q 4 = nI w' → (∀ t, t < 6 → (w'.testBit t = false ↔ ∀ r, r ∈ pre ++ [q] → mq_k ζ r = 1 → mq_s ζ r ≠ nI t)) → mg_vst σ b c V q 3 = V 3 + mq_add ζ c pre q →
        (l.foldl (mg_vst σ b c) (mg_vst σ b c V q)) 3 = mq_bt ζ c pre (q :: l) (V 3) ∧ (l.foldl (mg_vst σ b c) (mg_vst σ b c V q)) 0 = V 0 + nI (q :: l).length ∧ (l.foldl (mg_vst σ b c) (mg_vst σ b c V q)) 1 = V 1 + mq_kn ζ 1 (q :: l) ∧ (l.foldl (mg_vst σ b c) (mg_vst σ b c V q)) 2 = V 2 + mq_kn ζ 2 (q :: l) := by
      intro w' a1 a2 a3 a4
      obtain ⟨b3, b0, b1, b2⟩ := ih (pre ++ [q]) _ w' (fun r hr => h1 r (List.mem_cons_of_mem _ hr)) hpre a1 a2 a3
      refine ⟨?_, ?_, ?_, ?_⟩
      · rw [b3, a4]; rfl
      · rw [b0, v0, List.length_cons, nI_succ, Int32.add_assoc, Int32.add_comm 1]
      · rw [b1, v1, show mq_kn ζ 1 (q :: l) = (if mq_k ζ q = 1 then 1 else 0) + mq_kn ζ 1 l from rfl, kq, Int32.add_assoc]
      · rw [b2, v2, show mq_kn ζ 2 (q :: l) = (if mq_k ζ q = 2 then 1 else 0) + mq_kn ζ 2 l from rfl, kq, Int32.add_assoc]
    by_cases k1 : σ 8 q = 1
    · obtain ⟨e9, e10, -⟩ := (hT.2.2.1 q hq).2 k1
      obtain ⟨s, hs, hs9⟩ : ∃ s, s < 6 ∧ σ 9 q = nI s := by
        obtain ⟨⟨τ, hI, hR⟩, hZ⟩ := hT
        obtain ⟨-, -, s, hs, hs9, -⟩ := (hI.2.1 q hq).2.2.1 k1
        exact ⟨s, hs, hs9⟩
      obtain ⟨m1, m2, m3⟩ := mq_bit_fin ⟨w, h3⟩ ⟨s, hs⟩
      rw [if_pos k1] at v3 v4
      have esq : mq_s ζ q = nI s := by rw [← hs9]; exact e9
      refine key (w ||| (1 <<< s)) m2 ?_ ?_ ?_
      · rw [v4, h4, hs9]; exact m3
      · intro t ht
        rw [mq_bit2_fin ⟨w, h3⟩ ⟨s, hs⟩ ⟨t, ht⟩]
        rw [Bool.or_eq_false_iff, h5 t ht]
        constructor
        · rintro ⟨c1, c2⟩ r hr kr
          rcases List.mem_append.1 hr with h | h
          · exact c1 r h kr
          · rw [List.mem_singleton] at h; subst h
            rw [esq]; intro e
            have : t = s := (mg_inj (by omega) (by omega) e).symm
            subst this; simp at c2
        · intro c1
          refine ⟨fun r hr => c1 r (List.mem_append.2 (Or.inl hr)), ?_⟩
          have := c1 q (List.mem_append.2 (Or.inr (List.mem_singleton.2 rfl))) (by rw [kq]; exact k1)
          rw [esq] at this
          simp only [decide_eq_false_iff_not]
          intro e; apply this
          have : t = s := by injection e
          rw [this]
      · rw [v3, h4, hs9]
        unfold mq_add
        rw [kq, if_pos k1, esq, show mq_z ζ q = σ 10 q from e10]
        have m5 := h5 s hs
        by_cases z : w.testBit s = false
        · rw [if_pos (m1.2 z), if_pos (m5.1 z), Int32.add_assoc]
        · rw [if_neg (fun e => z (m1.1 e)), if_neg (fun e => z (m5.2 e)), Int32.add_zero]
    · rw [if_neg k1] at v3 v4
      refine key w h3 (by rw [v4, h4]) ?_ ?_
      · intro t ht
        rw [h5 t ht]
        constructor
        · intro c1 r hr kr
          rcases List.mem_append.1 hr with h | h
          · exact c1 r h kr
          · rw [List.mem_singleton] at h; subst h
            exact absurd (by rw [← kq]; exact kr) k1
        · intro c1 r hr; exact c1 r (List.mem_append.2 (Or.inl hr))
      · rw [v3]; unfold mq_add; rw [kq, if_neg k1]
        by_cases k2 : σ 8 q = 2
        · rw [if_pos k2, if_pos k2, mq_szin_eq hT hq]
        · rw [if_neg k2, if_neg k2, Int32.add_zero]
theorem mq_see_lt (hT : mq_Tb b e σ ζ c g p μ) {i : Nat} (hi : i < g) : ∀ q, q ∈ mq_see ζ i → q < 70 := by
  obtain ⟨h1, h2, -⟩ := mq_gate hT hi
  exact mg_see_lt h2 10 _ h1
theorem q_look (hT : mq_Tb b e σ ζ c g p μ) {i : Nat} (hi : i < g) : ∃ V, f_X6_look σ b (nI i) = some (mq_beauty ζ c i, mg_sr σ 7 V) ∧ V 3 = mq_beauty ζ c i ∧ V 0 = nI (mq_see ζ i).length ∧ V 1 = mq_kn ζ 1 (mq_see ζ i) ∧ V 2 = mq_kn ζ 2 (mq_see ζ i) := by
  obtain ⟨h1, h2, h3, h4, -⟩ := mq_gate hT hi
  obtain ⟨c30, g6, -⟩ := mq_c30 hT
  have n4 : σ 2 2 = nI c := by obtain ⟨⟨τ, hI, hR⟩, hZ⟩ := hT; exact hI.1.2.2.2.1
  have n6 : σ 3 2 = nI g := by obtain ⟨⟨τ, hI, hR⟩, hZ⟩ := hT; exact hI.1.2.2.2.2.2.1
  have hl := k6_look (b := b) n4 c30 n6 g6 hi h3 h4 h1 h2
  obtain ⟨f3, f0, f1, f2⟩ := mq_fold hT (mq_see ζ i) [] (mg_view0 (σ 7)) 0 (mq_see_lt hT hi) (fun q hq => (by cases hq)) (by omega) rfl (fun t _ => ⟨fun _ r hr => (by cases hr), fun _ => Nat.zero_testBit t⟩)
  have hv : mg_vw σ b c (mq_pl ζ 4 i) (mq_dr ζ i) = (mq_see ζ i).foldl (mg_vst σ b c) (mg_view0 (σ 7)) := by unfold mg_vw; rw [mq_see_eq hT hi]
  rw [hv] at hl
  rw [f3] at hl
  exact ⟨_, hl, f3, by rw [f0]; exact Int32.zero_add _, by rw [f1]; exact Int32.zero_add _, by rw [f2]; exact Int32.zero_add _⟩
theorem q_about (hT : mq_T σ ζ c g p μ) {i k : Nat} (hi : i < g) (hk : k < 5) : ∃ V, f_X6_about σ (nI i) (nI k) = some (.ok (mq_about ζ c p i k), mg_sr σ 7 V) := by
  obtain ⟨V, v1, v2, v3, v4, v5⟩ := q_look hT hi
  obtain ⟨-, g6, p5⟩ := mq_c30 hT
  have n6 : σ 3 2 = nI g := by obtain ⟨⟨τ, hI, hR⟩, hZ⟩ := hT; exact hI.1.2.2.2.2.2.1
  have n8 : σ 4 1 = nI p := by obtain ⟨⟨τ, hI, hR⟩, hZ⟩ := hT; exact hI.1.2.2.2.2.2.2.2.1
  have hm : f_X3_manyAt (mg_sr σ 7 V) (nI i) = some (mq_at ζ p i) := by
    unfold f_X3_manyAt mq_at
    rw [k3_manyAt4 (σ := mg_sr σ 7 V) (p := p) (nI i) n8 p5, Option.bind_some]
    refine congrArg some (mg_sum_congr (fun j hj => ?_))
    rw [(hT.2.2.2.2.2 j hj).1]; rfl
  refine ⟨V, ?_⟩
  unfold f_X6_about f_X6_checkGate f_X6_checkWhat
  rw [n6, if_neg (nI_pos (by omega)), if_pos (nI_lt hi (by omega)), mg_xb_ok, if_neg (nI_pos (by omega)), if_pos (show nI k < 5 from nI_lt (b := 5) hk (by omega)), mg_xb_ok, v1, Option.bind_some]
  dsimp only
  rw [hm]
  have e0 : mg_sr σ 7 V 7 = V := mg_sr_eq
  rw [e0, v2, v3, v4, v5]
  unfold mq_about
  have : k = 0 ∨ k = 1 ∨ k = 2 ∨ k = 3 ∨ k = 4 := by omega
  rcases this with h | h | h | h | h <;> subst h <;> rfl
end QC
