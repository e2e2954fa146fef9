theorem nI_one : nI 1 = 1 := by decide +kernel
theorem mg_wr0 {σ : mg_St} {k n : Nat} {v : Int32} (h : 0 < n) (hn : n ≤ 70) : mg_wr σ k n 0 v = some (mg_su σ k 0 v) := by
  have := mg_wrn (σ := σ) (k := k) (v := v) h hn
  rwa [nI_0] at this
def mg_cells (κ : Nat → Int32) (μ : Nat → Nat) (x : Nat) : Int32 := mg_sum (fun k => if κ k = 2 ∧ μ k = μ x then 1 else 0) 70
def mg_aged (κ age : Nat → Int32) (μ : Nat → Nat) (x : Nat) : Int32 := mg_sum (fun k => if κ k = 2 ∧ μ k = μ x then age k else 0) 70
theorem k1_surveyPond {σ : mg_St} {μ : Nat → Nat} {p x : Nat} {L C G R : Nat → Int32} (hM : mg_M (σ 8) μ) (hp : p < 70) (hx : x < 70) (kx : σ 8 x = 2) (hun : ∀ k, k < 70 → σ 8 k = 2 → μ k = μ x → L k = -1) (hnp : ∀ k, k < 70 → L k ≠ nI p) :
    ∃ L' C' G' R', f_X1_surveyPond (mg_s4 σ L C G R) (nI p) (nI x) = some (mg_s4 σ L' C' G' R') ∧ (∀ k, k < 70 → L' k = if σ 8 k = 2 ∧ μ k = μ x then nI p else L k) ∧ C' p = mg_cells (σ 8) μ x ∧ G' p = mg_aged (σ 8) (σ 11) μ x ∧ (∀ q, q ≠ p → C' q = C q ∧ G' q = G q) := by
  have lp : nI p ≠ -1 := mg_m1 p (by omega)
  have hB : mg_B (σ 8) L (σ 11) μ p x (upd L x (nI p)) (upd R 0 (nI x)) (fun _ => x) 1 := by
    refine ⟨?_, ?_, ?_, ?_, ?_⟩
    · intro i hi
      have e : i = 0 := by omega
      subst e; exact ⟨by rw [mg_upd, if_pos rfl], hx, kx, by rw [mg_upd, if_pos rfl]⟩
    · intro k hk
      rw [mg_upd]; by_cases e : k = x
      · subst e; exact fun _ => ⟨kx, rfl, 0, by omega, rfl⟩
      · rw [if_neg e]; exact fun c => absurd c (hnp k hk)
    · intro k hk
      rw [mg_upd]; by_cases e : k = x
      · rw [if_pos e]; exact fun c => absurd rfl c
      · rw [if_neg e]; exact fun _ => rfl
    · have z : mg_ns (fun _ => 0) 70 = 0 := by decide +kernel
      have := mg_ns_off (f := fun _ => 0) (g := fun k => if upd L x (nI p) k = nI p then 1 else 0) (k := x) hx (by simp only [mg_upd, if_true]) (fun j hj e => by simp only [mg_upd, if_neg e, if_neg (hnp j hj)])
      rw [this, z]
    · have := mg_sum_off (f := fun _ => 0) (g := fun k => if upd L x (nI p) k = nI p then σ 11 k else 0) (k := x) (v := σ 11 x) hx (by simp [mg_upd]) (fun j hj e => by simp only [mg_upd, if_neg e, if_neg (hnp j hj)])
      rw [this, mg_sum_zero]; rfl
  obtain ⟨L1, C1, G1, R1, ρ1, m1, q1, q2, q3, q4, q5, q6, q7, q8, q9⟩ := k1_sp48 (x2 := nI x) hM hp hx 5000 0 _ (upd C p 0) (upd G p 0) _ _ 1 (by omega) (by omega) hB (fun i' h => by omega) (by rw [mg_upd, if_pos rfl]; rfl) (by rw [mg_upd, if_pos rfl]; rfl)
  -- what is labelled is just the pond of x
  have hx1 : L1 x = nI p := by rw [q6 x (by rw [mg_upd, if_pos rfl]; exact lp), mg_upd, if_pos rfl]
  have hclo : mg_cl (σ 8) (fun k => k < 70 ∧ L1 k = nI p) := by
    intro u v hu hv ku kv huv hS
    obtain ⟨-, hS⟩ := hS
    obtain ⟨k1, k2, i, hi, hri⟩ := q2.2.1 u hu hS
    refine ⟨hv, ?_⟩
    have hne := q5 i hi v hv (by rw [hri]; exact huv) kv
    by_cases hl : L1 v = nI p
    · exact hl
    · exfalso
      rw [q2.2.2.1 v hv hl] at hne
      exact hne (hun v hv kv (by rw [← k2]; exact ((hM u hu ku).2.2.1 v hv kv huv).symm))
  have hall : ∀ k, k < 70 → (L1 k = nI p ↔ σ 8 k = 2 ∧ μ k = μ x) := by
    intro k hk
    constructor
    · intro h; obtain ⟨a, b, -⟩ := q2.2.1 k hk h; exact ⟨a, b⟩
    · intro ⟨h1, h2⟩
      have a := ((hM x hx kx).2.2.2 _ hclo).1 ⟨hx, hx1⟩
      rw [← h2] at a
      exact (((hM k hk h1).2.2.2 _ hclo).2 a).2
  refine ⟨L1, C1, G1, R1, ?_, ?_, ?_, ?_, ?_⟩
  · unfold f_X1_surveyPond
    simp only [k1_isPlace hp, k1_isPlace hx, Option.bind_some]
    rw [if_neg (by decide), if_neg (by decide)]
    rw [mg_wrn hp (Nat.le_refl 70), Option.bind_some, s4_u13, mg_wrn hp (Nat.le_refl 70), Option.bind_some, s4_u14, mg_wrn hx (Nat.le_refl 70), Option.bind_some, s4_u12, mg_wr0 (by omega) (Nat.le_refl 70), Option.bind_some, s4_u15]
    rw [nI_one, nI_0] at q1
    rw [q1]
    rfl
  · intro k hk
    by_cases h : L1 k = nI p
    · rw [if_pos ((hall k hk).1 h)]; exact h
    · rw [if_neg (fun c => h ((hall k hk).2 c))]; exact q2.2.2.1 k hk h
  · rw [q7]; unfold mg_cells
    have e1 := (mg_ns_ind (P := fun k => L1 k = nI p) (n := 70)).1
    rw [q2.2.2.2.1] at e1
    rw [← e1]
    refine mg_sum_congr (fun k hk => ?_)
    by_cases h : L1 k = nI p
    · rw [if_pos h, if_pos ((hall k hk).1 h)]
    · rw [if_neg h, if_neg (fun c => h ((hall k hk).2 c))]
  · rw [q8, q2.2.2.2.2]; unfold mg_aged
    refine mg_sum_congr (fun k hk => ?_)
    by_cases h : L1 k = nI p
    · rw [if_pos h, if_pos ((hall k hk).1 h)]
    · rw [if_neg h, if_neg (fun c => h ((hall k hk).2 c))]
  · intro q hq
    obtain ⟨a, b⟩ := q9 q hq
    rw [mg_upd, if_neg hq] at a b; exact ⟨a, b⟩
theorem k1_sp2 {σ : mg_St} : ∀ (n j : Nat) (L C G R : Nat → Int32), j ≤ 70 → 70 < n + j → (∀ k, k < j → L k = -1) → ∃ L', f_X1_surveyPonds_2 n (nI j) (mg_s4 σ L C G R) = some (nI 70, mg_s4 σ L' C G R) ∧ ∀ k, k < 70 → L' k = -1 := by
  intro n; induction n with
  | zero => intro j L C G R h1 h2; omega
  | succ n ih =>
    intro j L C G R h1 h2 hL
    unfold f_X1_surveyPonds_2
    rcases Nat.lt_or_ge j 70 with h | h
    · rw [if_neg (mg_lt70 j h).2, mg_wrn h (Nat.le_refl 70)]
      simp only [Option.bind_some, s4_u12, ← nI_succ]
      refine ih (j + 1) _ C G R (by omega) (by omega) (fun k hk => ?_)
      rw [mg_upd]; split
      · rfl
      · exact hL k (by omega)
    · have e : j = 70 := by omega
      subst e
      exact ⟨L, by rw [if_pos mg_70], hL⟩
def mg_O (κ age : Nat → Int32) (μ : Nat → Nat) (j P : Nat) (L C G : Nat → Int32) : Prop :=
  P ≤ j ∧ nI P = mg_sum (fun k => if κ k = 2 ∧ μ k = k then 1 else 0) j ∧
  ∀ k, k < 70 → (κ k ≠ 2 → L k = -1) ∧ (κ k = 2 → (∀ b, b < j → κ b = 2 → μ b ≠ μ k) → L k = -1) ∧
    (κ k = 2 → (∃ b, b < j ∧ κ b = 2 ∧ μ b = μ k) → ∃ q, q < P ∧ L k = nI q ∧ C q = mg_cells κ μ k ∧ G q = mg_aged κ age μ k ∧ ∀ k', k' < 70 → (L k' = nI q ↔ κ k' = 2 ∧ μ k' = μ k))
theorem mg_M_idem {κ : Nat → Int32} {μ : Nat → Nat} (hM : mg_M κ μ) {a : Nat} (ha : a < 70) (ka : κ a = 2) : μ (μ a) = μ a :=
  ((hM a ha ka).2.2.2 (fun x => μ x = μ a) (fun x y hx hy kx ky hxy e => ((hM x hx kx).2.2.1 y hy ky hxy).symm.trans e)).1 rfl
theorem k1_sp28 : ∀ (n j P : Nat) (σ : mg_St) (μ : Nat → Nat) (L C G R : Nat → Int32), mg_M (σ 8) μ → j ≤ 70 → 70 < n + j → σ 1 8 = nI P → mg_O (σ 8) (σ 11) μ j P L C G →
    ∃ L' C' G' R' P', f_X1_surveyPonds_28 n (nI j) (mg_s4 σ L C G R) = some (nI 70, mg_s4 (mg_su σ 1 8 (nI P')) L' C' G' R') ∧ mg_O (σ 8) (σ 11) μ 70 P' L' C' G' := by
  intro n; induction n with
  | zero => intro j P σ μ L C G R hM h1 h2; omega
  | succ n ih =>
    intro j P σ μ L C G R hM h1 h2 hP hO
    obtain ⟨o1, o2, o3⟩ := hO
    unfold f_X1_surveyPonds_28
    rcases Nat.lt_or_ge j 70 with h | h
    · rw [if_neg (mg_lt70 j h).2]
      have skip : (σ 8 j = 2 → ∃ b, b < j ∧ σ 8 b = 2 ∧ μ b = μ j) → mg_O (σ 8) (σ 11) μ (j + 1) P L C G := by
        intro hs
        refine ⟨by omega, ?_, fun k hk => ⟨(o3 k hk).1, fun kk hb => (o3 k hk).2.1 kk (fun b hb' => hb b (by omega)), fun kk ⟨b, hb, kb, mb⟩ => (o3 k hk).2.2 kk ?_⟩⟩
        · rw [mg_sum_s, o2, if_neg ?_]
          · simp
          · intro ⟨kj, mj⟩
            obtain ⟨b, hb, kb, mb⟩ := hs kj
            have := (hM b (by omega) kb).1
            omega
        · rcases Nat.lt_or_ge b j with h' | h'
          · exact ⟨b, h', kb, mb⟩
          · have e : b = j := by omega
            subst e
            obtain ⟨b', h1', h2', h3'⟩ := hs kb
            exact ⟨b', h1', h2', by rw [h3', mb]⟩
      by_cases hu : σ 8 j = 2 ∧ L j = -1
      · obtain ⟨kj, lj⟩ := hu
        have hnew : ∀ b, b < j → σ 8 b = 2 → μ b ≠ μ j := by
          intro b hb kb mb
          obtain ⟨q, hq, hl, -⟩ := (o3 j h).2.2 kj ⟨b, hb, kb, mb⟩
          rw [lj] at hl; exact mg_m1 q (by omega) hl.symm
        have mj : μ j = j := by
          obtain ⟨a1, a2, -⟩ := hM j h kj
          rcases Nat.lt_or_ge (μ j) j with h' | h'
          · exact absurd (mg_M_idem hM h kj) (hnew _ h' a2)
          · omega
        rw [k1_unkP (σ := mg_s4 σ L C G R) h kj lj]
        simp only [Option.bind_some]
        rw [if_neg (by decide), s4_1, hP]
        have hnp : ∀ k, k < 70 → L k ≠ nI P := by
          intro k hk e
          by_cases kk : σ 8 k = 2
          · by_cases hb : ∃ b, b < j ∧ σ 8 b = 2 ∧ μ b = μ k
            · obtain ⟨q, hq, hl, -⟩ := (o3 k hk).2.2 kk hb
              rw [hl] at e
              have := mg_inj (by omega) (by omega) e
              omega
            · rw [(o3 k hk).2.1 kk (fun b hb' kb mb => hb ⟨b, hb', kb, mb⟩)] at e
              exact mg_m1 P (by omega) e.symm
          · rw [(o3 k hk).1 kk] at e; exact mg_m1 P (by omega) e.symm
        have hun : ∀ k, k < 70 → σ 8 k = 2 → μ k = μ j → L k = -1 := by
          intro k hk kk mk
          exact (o3 k hk).2.1 kk (fun b hb kb mb => hnew b hb kb (by rw [mb, mk]))
        obtain ⟨L1, C1, G1, R1, q1, q2, q3, q4, q5⟩ := k1_surveyPond (C := C) (G := G) (R := R) hM (show P < 70 by omega) h kj hun hnp
        rw [q1]
        simp only [Option.bind_some, s4_1, hP, s4_u1, ← nI_succ]
        have hO' : mg_O ((mg_su σ 1 8 (nI (P + 1))) 8) ((mg_su σ 1 8 (nI (P + 1))) 11) μ (j + 1) (P + 1) L1 C1 G1 := by
          show mg_O (σ 8) (σ 11) μ (j + 1) (P + 1) L1 C1 G1
          refine ⟨by omega, ?_, ?_⟩
          · rw [mg_sum_s, ← o2, if_pos ⟨kj, mj⟩, nI_1]
          · intro k hk
            refine ⟨fun kk => ?_, fun kk hb => ?_, fun kk hb => ?_⟩
            · rw [q2 k hk, if_neg (fun c => kk c.1)]; exact (o3 k hk).1 kk
            · rw [q2 k hk, if_neg (fun c => hb j (by omega) kj c.2.symm)]
              exact (o3 k hk).2.1 kk (fun b hb' => hb b (by omega))
            · by_cases mk : μ k = μ j
              · have ce : mg_cells (σ 8) μ k = mg_cells (σ 8) μ j := by unfold mg_cells; rw [mk]
                have ae : mg_aged (σ 8) (σ 11) μ k = mg_aged (σ 8) (σ 11) μ j := by unfold mg_aged; rw [mk]
                refine ⟨P, by omega, by rw [q2 k hk, if_pos ⟨kk, mk⟩], by rw [q3, ce], by rw [q4, ae], fun k' hk' => ?_⟩
                rw [q2 k' hk', mk]
                constructor
                · intro e; by_cases c : σ 8 k' = 2 ∧ μ k' = μ j
                  · exact c
                  · rw [if_neg c] at e; exact absurd e (hnp k' hk')
                · intro c; rw [if_pos c]
              · obtain ⟨b, hb1, kb, mb⟩ := hb
                have hb2 : b < j := by
                  rcases Nat.lt_or_ge b j with h' | h'
                  · exact h'
                  · have e : b = j := by omega
                    subst e; exact absurd mb.symm mk
                obtain ⟨q, hq, hl, hc, hg, hi⟩ := (o3 k hk).2.2 kk ⟨b, hb2, kb, mb⟩
                obtain ⟨g1, g2⟩ := q5 q (by omega)
                refine ⟨q, by omega, by rw [q2 k hk, if_neg (fun c => mk c.2)]; exact hl, by rw [g1, hc], by rw [g2, hg], fun k' hk' => ?_⟩
                rw [q2 k' hk', ← hi k' hk']
                constructor
                · intro e; by_cases c : σ 8 k' = 2 ∧ μ k' = μ j
                  · rw [if_pos c] at e
                    have := mg_inj (by omega) (by omega) e; omega
                  · rw [if_neg c] at e; exact e
                · intro e
                  rw [if_neg]
                  · exact e
                  · intro c
                    have := ((hi k' hk').1 e).2
                    exact mk (by rw [← this, c.2])
        obtain ⟨L2, C2, G2, R2, P2, p1, p2⟩ := ih (j + 1) (P + 1) (mg_su σ 1 8 (nI (P + 1))) μ L1 C1 G1 R1 hM (by omega) (by omega) (by rw [mg_su_eq, if_pos rfl]) hO'
        refine ⟨L2, C2, G2, R2, P2, ?_, p2⟩
        rw [p1]
        congr 2
        congr 1
        funext a b
        simp only [mg_su_at]; split <;> simp_all
      · rw [k1_unkN (σ := mg_s4 σ L C G R) h hu]
        simp only [Option.bind_some, if_true, ← nI_succ]
        refine ih (j + 1) P σ μ L C G R hM (by omega) (by omega) hP (skip (fun kj => ?_))
        refine Classical.byContradiction (fun c => hu ⟨kj, (o3 j h).2.1 kj (fun b hb kb mb => c ⟨b, hb, kb, mb⟩)⟩)
    · have e : j = 70 := by omega
      subst e
      refine ⟨L, C, G, R, P, ?_, o1, o2, o3⟩
      rw [if_pos mg_70]
      congr 2
      congr 1
      funext a b
      rw [mg_su_at]; split
      · rename_i c; rw [c.1, c.2, hP]
      · rfl
/-- the class's account of its ponds -/
def mg_pnd (σ : mg_St) (μ : Nat → Nat) : Prop :=
  σ 1 8 = mg_sum (fun k => if σ 8 k = 2 ∧ μ k = k then 1 else 0) 70 ∧
  ∀ k, k < 70 → (σ 8 k ≠ 2 → σ 12 k = -1) ∧
    (σ 8 k = 2 → ∃ q, q < 70 ∧ σ 12 k = nI q ∧ σ 13 q = mg_cells (σ 8) μ k ∧ σ 14 q = mg_aged (σ 8) (σ 11) μ k ∧ ∀ k', k' < 70 → (σ 12 k' = nI q ↔ σ 8 k' = 2 ∧ μ k' = μ k))
theorem mg_survey {σ : mg_St} {μ : Nat → Nat} (hM : mg_M (σ 8) μ) : ∃ σ', f_X1_surveyPonds σ = some σ' ∧ (∀ a, a ≠ 1 → a ≠ 12 → a ≠ 13 → a ≠ 14 → a ≠ 15 → σ' a = σ a) ∧ (∀ j, j ≠ 8 → σ' 1 j = σ 1 j) ∧ mg_pnd σ' μ := by
  obtain ⟨L, q1, q2⟩ := k1_sp2 (σ := σ) 5000 0 (σ 12) (σ 13) (σ 14) (σ 15) (by omega) (by omega) (fun k hk => by omega)
  have hO : mg_O ((mg_su σ 1 8 0) 8) ((mg_su σ 1 8 0) 11) μ 0 0 L (σ 13) (σ 14) :=
    ⟨Nat.le_refl _, rfl, fun k hk => ⟨fun _ => q2 k hk, fun _ _ => q2 k hk, fun _ ⟨b, hb, _⟩ => by omega⟩⟩
  obtain ⟨L2, C2, G2, R2, P2, p1, p2, p3, p4⟩ := k1_sp28 5000 0 0 (mg_su σ 1 8 0) μ L (σ 13) (σ 14) (σ 15) hM (by omega) (by omega) (by rw [mg_su_eq, if_pos rfl]; rfl) hO
  refine ⟨mg_s4 (mg_su (mg_su σ 1 8 0) 1 8 (nI P2)) L2 C2 G2 R2, ?_, ?_, ?_, ?_, ?_⟩
  · unfold f_X1_surveyPonds
    rw [s4_self] at q1
    rw [show f_X1_surveyPonds_2 5000 0 = f_X1_surveyPonds_2 5000 (nI 0) from rfl, q1]
    simp only [Option.bind_some, s4_u1]
    rw [show f_X1_surveyPonds_28 5000 0 = f_X1_surveyPonds_28 5000 (nI 0) from rfl, p1]
    rfl
  · intro a h1 h2 h3 h4 h5
    rw [s4_ne ⟨h2, h3, h4, h5⟩, mg_su_ne h1, mg_su_ne h1]
  · intro j hj
    rw [s4_1, mg_su_eq, if_neg hj, mg_su_eq, if_neg hj]
  · show (mg_su (mg_su σ 1 8 0) 1 8 (nI P2)) 1 8 = _
    rw [mg_su_eq, if_pos rfl]; exact p3
  · intro k hk
    obtain ⟨a1, a2, a3⟩ := p4 k hk
    refine ⟨a1, fun kk => ?_⟩
    obtain ⟨q, b1, b2⟩ := a3 kk ⟨k, hk, kk, rfl⟩
    exact ⟨q, by omega, b2⟩
