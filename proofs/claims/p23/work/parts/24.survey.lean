/-! ===== the class's survey of its ponds ===== -/
def mg_s4 (σ : mg_St) (L C G R : Nat → Int32) : mg_St := mg_sr (mg_sr (mg_sr (mg_sr σ 12 L) 13 C) 14 G) 15 R
theorem s4_self {σ : mg_St} : mg_s4 σ (σ 12) (σ 13) (σ 14) (σ 15) = σ := by
  funext a; unfold mg_s4 mg_sr; split
  · simp_all
  · split
    · simp_all
    · split
      · simp_all
      · split <;> simp_all
section S4
variable {σ : mg_St} {L C G R : Nat → Int32} {j : Nat} {v : Int32}
theorem s4_12 : mg_s4 σ L C G R 12 = L := rfl
theorem s4_13 : mg_s4 σ L C G R 13 = C := rfl
theorem s4_14 : mg_s4 σ L C G R 14 = G := rfl
theorem s4_15 : mg_s4 σ L C G R 15 = R := rfl
theorem s4_ne {a : Nat} (h : a ≠ 12 ∧ a ≠ 13 ∧ a ≠ 14 ∧ a ≠ 15) : mg_s4 σ L C G R a = σ a := by unfold mg_s4 mg_sr; simp [h]
theorem s4_8 : mg_s4 σ L C G R 8 = σ 8 := rfl
theorem s4_11 : mg_s4 σ L C G R 11 = σ 11 := rfl
theorem s4_1 : mg_s4 σ L C G R 1 = σ 1 := rfl
theorem s4_u12 : mg_su (mg_s4 σ L C G R) 12 j v = mg_s4 σ (upd L j v) C G R := by
  funext a; unfold mg_s4 mg_sr mg_su; by_cases h : a = 12
  · subst h; simp
  · simp [h]
theorem s4_u13 : mg_su (mg_s4 σ L C G R) 13 j v = mg_s4 σ L (upd C j v) G R := by
  funext a; unfold mg_s4 mg_sr mg_su; by_cases h : a = 13
  · subst h; simp
  · simp [h]
theorem s4_u14 : mg_su (mg_s4 σ L C G R) 14 j v = mg_s4 σ L C (upd G j v) R := by
  funext a; unfold mg_s4 mg_sr mg_su; by_cases h : a = 14
  · subst h; simp
  · simp [h]
theorem s4_u15 : mg_su (mg_s4 σ L C G R) 15 j v = mg_s4 σ L C G (upd R j v) := by
  funext a; unfold mg_s4 mg_sr mg_su; by_cases h : a = 15
  · subst h; simp
  · simp [h]
theorem s4_u1 : mg_su (mg_s4 σ L C G R) 1 8 v = mg_s4 (mg_su σ 1 8 v) L C G R := by
  funext a; unfold mg_s4 mg_sr mg_su; by_cases h : a = 1
  · subst h; simp
  · simp [h]
end S4
theorem k1_unknown {σ : mg_St} {j : Nat} (h : j < 70) : f_X1_isUnknownPond σ (nI j) = some (if σ 8 j = 2 ∧ σ 12 j = -1 then 1 else 0) := by
  unfold f_X1_isUnknownPond
  simp only [k1_isPlace h, mg_rdn h (Nat.le_refl 70), Option.bind_some]
  rw [if_neg (by decide)]
  by_cases a : σ 8 j = 2
  · by_cases b : σ 12 j = -1
    · simp [a, b]
    · simp [a, b]
  · simp [a]
theorem k1_unknown0 {σ : mg_St} : f_X1_isUnknownPond σ (-1) = some 0 := by
  unfold f_X1_isUnknownPond; simp only [k1_isPlace0, Option.bind_some]; rfl
theorem k1_unkP {σ : mg_St} {j : Nat} (h : j < 70) (a : σ 8 j = 2) (b : σ 12 j = -1) : f_X1_isUnknownPond σ (nI j) = some 1 := by rw [k1_unknown h, if_pos ⟨a, b⟩]
theorem k1_unkN {σ : mg_St} {j : Nat} (h : j < 70) (a : ¬ (σ 8 j = 2 ∧ σ 12 j = -1)) : f_X1_isUnknownPond σ (nI j) = some 0 := by rw [k1_unknown h, if_neg a]
theorem mg_ns_ind {P : Nat → Prop} [∀ k, Decidable (P k)] : ∀ {n : Nat}, mg_sum (fun k => if P k then 1 else 0) n = nI (mg_ns (fun k => if P k then 1 else 0) n) ∧ mg_ns (fun k => if P k then 1 else 0) n ≤ n ∧ ((∃ k, k < n ∧ ¬ P k) → mg_ns (fun k => if P k then 1 else 0) n < n) := by
  intro n; induction n with
  | zero => exact ⟨rfl, Nat.le_refl _, fun ⟨k, h, _⟩ => by omega⟩
  | succ n ih =>
    obtain ⟨i1, i2, i3⟩ := ih
    by_cases hp : P n
    · simp only [mg_sum, mg_ns, if_pos hp]
      refine ⟨by rw [i1, nI_1], by omega, fun ⟨k, h, hk⟩ => ?_⟩
      have : k ≠ n := fun e => hk (e ▸ hp)
      have := i3 ⟨k, by omega, hk⟩; omega
    · simp only [mg_sum, mg_ns, if_neg hp]
      exact ⟨by rw [i1]; simp, by omega, fun _ => by omega⟩
theorem mg_ns_off {f g : Nat → Nat} {k : Nat} : ∀ {n : Nat}, k < n → g k = f k + 1 → (∀ j, j < n → j ≠ k → g j = f j) → mg_ns g n = mg_ns f n + 1 := by
  have cg : ∀ {n : Nat}, (∀ j, j < n → g j = f j) → mg_ns g n = mg_ns f n := by
    intro n; induction n with
    | zero => intro _; rfl
    | succ n ih => intro h; simp only [mg_ns]; rw [ih (fun j hj => h j (by omega)), h n (by omega)]
  intro n; induction n with
  | zero => intro h; omega
  | succ n ih =>
    intro hk h1 h2
    simp only [mg_ns]
    rcases Nat.lt_or_ge k n with h | h
    · rw [ih h h1 (fun j hj => h2 j (by omega)), h2 n (by omega) (by omega)]; omega
    · have e : k = n := by omega
      subst e
      rw [h1, cg (fun j hj => h2 j (by omega) (by omega))]; omega
def mg_B (κ L0 age : Nat → Int32) (μ : Nat → Nat) (p x : Nat) (L R : Nat → Int32) (ρ : Nat → Nat) (m : Nat) : Prop :=
  (∀ i, i < m → R i = nI (ρ i) ∧ ρ i < 70 ∧ κ (ρ i) = 2 ∧ L (ρ i) = nI p) ∧
  (∀ k, k < 70 → L k = nI p → κ k = 2 ∧ μ k = μ x ∧ ∃ i, i < m ∧ ρ i = k) ∧
  (∀ k, k < 70 → L k ≠ nI p → L k = L0 k) ∧
  mg_ns (fun k => if L k = nI p then 1 else 0) 70 = m ∧
  mg_sum (fun i => age (ρ i)) m = mg_sum (fun k => if L k = nI p then age k else 0) 70
theorem mg_B_le {κ L0 age : Nat → Int32} {μ : Nat → Nat} {p x : Nat} {L R : Nat → Int32} {ρ : Nat → Nat} {m : Nat} (h : mg_B κ L0 age μ p x L R ρ m) : m ≤ 70 := by
  rw [← h.2.2.2.1]; exact (mg_ns_ind (P := fun k => L k = nI p)).2.1
/-- one more cell is reached -/
theorem mg_B_add {κ L0 age : Nat → Int32} {μ : Nat → Nat} {p x : Nat} {L R : Nat → Int32} {ρ : Nat → Nat} {m b : Nat} (hp : p < 70) (h : mg_B κ L0 age μ p x L R ρ m) (hb : b < 70) (kb : κ b = 2) (mb : μ b = μ x) (lb : L b = -1) :
    m < 70 ∧ mg_B κ L0 age μ p x (upd L b (nI p)) (upd R m (nI b)) (mg_nu ρ m b) (m + 1) := by
  have pm : (-1 : Int32) ≠ nI p := fun e => mg_m1 p (by omega) e.symm
  obtain ⟨h1, h2, h3, h4, h5⟩ := h
  have ne : ∀ i, i < m → ρ i ≠ b := fun i hi e => by
    have := (h1 i hi).2.2.2; rw [e, lb] at this; exact pm this
  refine ⟨?_, ?_, ?_, ?_, ?_, ?_⟩
  · rw [← h4]; exact (mg_ns_ind (P := fun k => L k = nI p)).2.2 ⟨b, hb, by rw [lb]; exact pm⟩
  · intro i hi
    rw [mg_upd, mg_upd, mg_nu_at]
    by_cases e : i = m
    · simp only [e, if_true]; exact ⟨trivial, hb, kb, trivial⟩
    · rw [if_neg e, if_neg e, if_neg (ne i (by omega))]; exact h1 i (by omega)
  · intro k hk
    rw [mg_upd]
    by_cases e : k = b
    · subst e; intro _; exact ⟨kb, mb, m, by omega, by rw [mg_nu_at, if_pos rfl]⟩
    · rw [if_neg e]; intro hl
      obtain ⟨a1, a2, i, a3, a4⟩ := h2 k hk hl
      exact ⟨a1, a2, i, by omega, by rw [mg_nu_at, if_neg (by omega)]; exact a4⟩
  · intro k hk
    rw [mg_upd]
    by_cases e : k = b
    · subst e; rw [if_pos rfl]; intro c; exact absurd rfl c
    · rw [if_neg e]; exact h3 k hk
  · rw [← h4]
    refine mg_ns_off hb ?_ ?_
    · simp only [mg_upd, if_true, lb, if_neg pm]
    · intro j hj e; simp only [mg_upd, if_neg e]
  · have e1 : mg_sum (fun i => age (mg_nu ρ m b i)) (m + 1) = mg_sum (fun i => age (ρ i)) m + age b := by
      simp only [mg_sum_s, mg_nu_at, if_true]
      congr 1
      exact mg_sum_congr (fun k hk => by rw [if_neg (by omega)])
    rw [e1, h5]
    refine (mg_sum_off hb ?_ ?_).symm
    · simp only [mg_upd, if_true, lb, if_neg pm]; simp
    · intro j hj e; simp only [mg_upd, if_neg e]
theorem k1_reach6 {σ : mg_St} {L0 : Nat → Int32} {μ : Nat → Nat} {p x a : Nat} {x3 : Int32} (hM : mg_M (σ 8) μ) (hp : p < 70) (ha : a < 70) (ka : σ 8 a = 2) (ma : μ a = μ x) : ∀ (n d : Nat) (L C G R : Nat → Int32) (ρ : Nat → Nat) (m : Nat), d ≤ 4 → 4 < n + d → mg_B (σ 8) L0 (σ 11) μ p x L R ρ m →
    ∃ L' R' ρ' m', f_X1_reachOnFrom_6 (nI a) (nI p) x3 n (nI m) (nI d) (mg_s4 σ L C G R) = some (nI m', nI 4, mg_s4 σ L' C G R') ∧ mg_B (σ 8) L0 (σ 11) μ p x L' R' ρ' m' ∧ m ≤ m' ∧ (∀ i, i < m → ρ' i = ρ i) ∧ (∀ k, L k ≠ -1 → L' k = L k) ∧ (∀ d', d ≤ d' → d' < 4 → ∀ b, mg_nx a d' = some b → σ 8 b = 2 → L' b ≠ -1) := by
  intro n; induction n with
  | zero => intro d L C G R ρ m h1 h2; omega
  | succ n ih =>
    intro d L C G R ρ m h1 h2 hB
    have hm := mg_B_le hB
    unfold f_X1_reachOnFrom_6
    rcases Nat.lt_or_ge d 4 with h | h
    · rw [if_neg (mg_le (N := 4) (M := 4) rfl (by omega) h), k1_beside ha h]
      simp only [Option.bind_some, ← nI_succ]
      have skip : (∀ b, mg_nx a d = some b → σ 8 b = 2 → L b ≠ -1) → ∃ L' R' ρ' m', f_X1_reachOnFrom_6 (nI a) (nI p) x3 n (nI m) (nI (d + 1)) (mg_s4 σ L C G R) = some (nI m', nI 4, mg_s4 σ L' C G R') ∧ mg_B (σ 8) L0 (σ 11) μ p x L' R' ρ' m' ∧ m ≤ m' ∧ (∀ i, i < m → ρ' i = ρ i) ∧ (∀ k, L k ≠ -1 → L' k = L k) ∧ (∀ d', d ≤ d' → d' < 4 → ∀ b, mg_nx a d' = some b → σ 8 b = 2 → L' b ≠ -1) := by
        intro hs
        obtain ⟨L', R', ρ', m', q1, q2, q3, q4, q5, q6⟩ := ih (d + 1) L C G R ρ m (by omega) (by omega) hB
        refine ⟨L', R', ρ', m', q1, q2, q3, q4, q5, fun d' hd hd' b hb kb => ?_⟩
        rcases Nat.lt_or_ge d d' with h' | h'
        · exact q6 d' h' hd' b hb kb
        · have e : d' = d := by omega
          subst e; rw [q5 b (hs b hb kb)]; exact hs b hb kb
      cases hn : mg_nx a d with
      | none =>
        simp only [mg_oI, k1_unknown0, Option.bind_some, if_true]
        exact skip (fun b hb => by rw [hn] at hb; cases hb)
      | some b =>
        obtain ⟨hb, -⟩ := mg_nx_lt ha h hn
        simp only [mg_oI]
        by_cases hu : σ 8 b = 2 ∧ L b = -1
        · obtain ⟨kb, lb⟩ := hu
          have hab : mg_adj a b := by
            unfold mg_adj
            have : d = 0 ∨ d = 1 ∨ d = 2 ∨ d = 3 := by omega
            rcases this with e | e | e | e <;> subst e <;> simp [hn]
          have mb : μ b = μ x := by rw [← ma]; exact ((hM a ha ka).2.2.1 b hb kb hab).symm
          obtain ⟨hm', hB'⟩ := mg_B_add hp hB hb kb mb lb
          rw [k1_unkP (σ := mg_s4 σ L C G R) hb kb lb]
          simp only [Option.bind_some]
          rw [if_neg (by decide), if_neg (nI_pos (by omega)), if_neg (mg_lt70 m hm').2, mg_wrn hb (Nat.le_refl 70)]
          simp only [Option.bind_some, s4_u12, mg_wrn hm' (Nat.le_refl 70), s4_u15, ← nI_succ]
          obtain ⟨L', R', ρ', m', q1, q2, q3, q4, q5, q6⟩ := ih (d + 1) (upd L b (nI p)) C G (upd R m (nI b)) _ (m + 1) (by omega) (by omega) hB'
          have lp : nI p ≠ -1 := mg_m1 p (by omega)
          refine ⟨L', R', ρ', m', q1, q2, by omega, fun i hi => by rw [q4 i (by omega), mg_nu_at, if_neg (by omega)], fun k hk => ?_, fun d' hd hd' b' hb' kb' => ?_⟩
          · have e : k ≠ b := fun e => hk (e ▸ lb)
            have := q5 k (by rw [mg_upd, if_neg e]; exact hk)
            rw [this, mg_upd, if_neg e]
          · rcases Nat.lt_or_ge d d' with h' | h'
            · exact q6 d' h' hd' b' hb' kb'
            · have e : d' = d := by omega
              subst e
              rw [hn] at hb'; cases hb'
              have := q5 b (by rw [mg_upd, if_pos rfl]; exact lp)
              rw [this, mg_upd, if_pos rfl]; exact lp
        · rw [k1_unkN (σ := mg_s4 σ L C G R) hb hu]
          simp only [Option.bind_some, if_true]
          exact skip (fun b' hb' kb' lb' => by rw [hn] at hb'; cases hb'; exact hu ⟨kb', lb'⟩)
    · have e : d = 4 := by omega
      subst e
      refine ⟨L, R, ρ, m, by rw [if_pos (by decide +kernel)], hB, Nat.le_refl _, fun _ _ => rfl, fun _ _ => rfl, fun d' h' h'' => by omega⟩
theorem k1_reach {σ : mg_St} {L0 : Nat → Int32} {μ : Nat → Nat} {p x a : Nat} (hM : mg_M (σ 8) μ) (hp : p < 70) (ha : a < 70) (ka : σ 8 a = 2) (ma : μ a = μ x) {L C G R : Nat → Int32} {ρ : Nat → Nat} {m : Nat} (hB : mg_B (σ 8) L0 (σ 11) μ p x L R ρ m) :
    ∃ L' R' ρ' m', f_X1_reachOnFrom (mg_s4 σ L C G R) (nI a) (nI p) (nI m) = some (nI m', mg_s4 σ L' C G R') ∧ mg_B (σ 8) L0 (σ 11) μ p x L' R' ρ' m' ∧ m ≤ m' ∧ (∀ i, i < m → ρ' i = ρ i) ∧ (∀ k, L k ≠ -1 → L' k = L k) ∧ (∀ b, mg_adj a b → σ 8 b = 2 → L' b ≠ -1) := by
  obtain ⟨L', R', ρ', m', q1, q2, q3, q4, q5, q6⟩ := k1_reach6 (x3 := nI m) hM hp ha ka ma 5000 0 L C G R ρ m (by omega) (by omega) hB
  refine ⟨L', R', ρ', m', ?_, q2, q3, q4, q5, ?_⟩
  · unfold f_X1_reachOnFrom
    rw [show (0 : Int32) = nI 0 from rfl, q1]; rfl
  · intro b hb kb
    rcases hb with hb | hb | hb | hb
    · exact q6 0 (by omega) (by omega) b hb kb
    · exact q6 1 (by omega) (by omega) b hb kb
    · exact q6 2 (by omega) (by omega) b hb kb
    · exact q6 3 (by omega) (by omega) b hb kb
theorem k1_sp48 {σ : mg_St} {L0 : Nat → Int32} {μ : Nat → Nat} {p x : Nat} {x2 : Int32} (hM : mg_M (σ 8) μ) (hp : p < 70) (hx : x < 70) : ∀ (n i : Nat) (L C G R : Nat → Int32) (ρ : Nat → Nat) (m : Nat), i ≤ m → 70 < n + i → mg_B (σ 8) L0 (σ 11) μ p x L R ρ m →
    (∀ i', i' < i → ∀ b, b < 70 → mg_adj (ρ i') b → σ 8 b = 2 → L b ≠ -1) → C p = nI i → G p = mg_sum (fun i => σ 11 (ρ i)) i →
    ∃ L' C' G' R' ρ' m', f_X1_surveyPond_48 (nI p) x2 n (nI m) (nI i) (mg_s4 σ L C G R) = some (nI m', nI m', mg_s4 σ L' C' G' R') ∧ mg_B (σ 8) L0 (σ 11) μ p x L' R' ρ' m' ∧ m ≤ m' ∧ (∀ i, i < m → ρ' i = ρ i) ∧
      (∀ i', i' < m' → ∀ b, b < 70 → mg_adj (ρ' i') b → σ 8 b = 2 → L' b ≠ -1) ∧ (∀ k, L k ≠ -1 → L' k = L k) ∧ C' p = nI m' ∧ G' p = mg_sum (fun i => σ 11 (ρ' i)) m' ∧ (∀ q, q ≠ p → C' q = C q ∧ G' q = G q) := by
  intro n; induction n with
  | zero => intro i L C G R ρ m h1 h2 hB; have := mg_B_le hB; omega
  | succ n ih =>
    intro i L C G R ρ m h1 h2 hB hcl hC hG
    have hm := mg_B_le hB
    unfold f_X1_surveyPond_48
    rcases Nat.lt_or_ge i m with h | h
    · obtain ⟨r1, r2, r3, r4⟩ := hB.1 i h
      have r5 := (hB.2.1 (ρ i) r2 r4).2.1
      rw [if_neg (nI_ge h (by omega)), if_neg (mg_lt70 i (by omega)).2]
      simp only [mg_rdn (show i < 70 by omega) (Nat.le_refl 70), mg_rdn hp (Nat.le_refl 70), mg_wrn hp (Nat.le_refl 70), Option.bind_some, s4_15, s4_13, s4_14, s4_u13, s4_u14, s4_11, r1, k1_isPlace r2, mg_rdn r2 (Nat.le_refl 70)]
      rw [if_neg (by decide)]
      obtain ⟨L1, R1, ρ1, m1, q1, q2, q3, q4, q5, q6⟩ := k1_reach (C := upd C p (C p + 1)) (G := upd G p (G p + σ 11 (ρ i))) hM hp r2 r3 r5 hB
      simp only [Option.bind_some, q1, ← nI_succ]
      have hC1 : upd C p (C p + 1) p = nI (i + 1) := by rw [mg_upd, if_pos rfl, hC, nI_1]
      have hG1 : upd G p (G p + σ 11 (ρ i)) p = mg_sum (fun i => σ 11 (ρ1 i)) (i + 1) := by
        rw [mg_upd, if_pos rfl, hG, mg_sum_s]
        simp only [q4 i h]
        congr 1
        exact mg_sum_congr (fun k hk => by rw [q4 k (by omega)])
      have hcl1 : ∀ i', i' < i + 1 → ∀ b, b < 70 → mg_adj (ρ1 i') b → σ 8 b = 2 → L1 b ≠ -1 := by
        intro i' hi' b hb hab kb
        rw [q4 i' (by omega)] at hab
        rcases Nat.lt_or_ge i' i with h' | h'
        · rw [q5 b (hcl i' h' b hb hab kb)]; exact hcl i' h' b hb hab kb
        · have e : i' = i := by omega
          subst e; exact q6 b hab kb
      obtain ⟨L2, C2, G2, R2, ρ2, m2, p1, p2, p3, p4, p5, p6, p7, p8, p9⟩ := ih (i + 1) L1 _ _ R1 ρ1 m1 (by omega) (by omega) q2 hcl1 hC1 hG1
      refine ⟨L2, C2, G2, R2, ρ2, m2, p1, p2, by omega, fun i hi => by rw [p4 i (by omega), q4 i hi], p5, fun k hk => ?_, p7, p8, fun q hq => ?_⟩
      · rw [p6 k (by rw [q5 k hk]; exact hk), q5 k hk]
      · obtain ⟨g1, g2⟩ := p9 q hq
        exact ⟨by rw [g1, mg_upd, if_neg hq], by rw [g2, mg_upd, if_neg hq]⟩
    · have e : i = m := by omega
      subst e
      exact ⟨L, C, G, R, ρ, i, by rw [if_pos (Int32.le_refl _)], hB, Nat.le_refl _, fun _ _ => rfl, hcl, fun _ _ => rfl, hC, hG, fun _ _ => ⟨rfl, rfl⟩⟩
