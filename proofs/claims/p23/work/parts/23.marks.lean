/-! ===== marks of ponds ===== -/
abbrev mg_adj (a b : Nat) : Prop := mg_nx a 0 = some b ∨ mg_nx a 1 = some b ∨ mg_nx a 2 = some b ∨ mg_nx a 3 = some b
theorem mg_adj_fin : ∀ a : Fin 70, ∀ b : Fin 70, mg_adj a.1 b.1 → mg_adj b.1 a.1 := by decide +kernel
theorem mg_adj_sym {a b : Nat} (ha : a < 70) (hb : b < 70) (h : mg_adj a b) : mg_adj b a := mg_adj_fin ⟨a, ha⟩ ⟨b, hb⟩ h
theorem k8_nb_fin : ∀ a : Fin 70, ∀ b : Fin 70, f_X8_areNeighbours (fun _ _ => 0) (nI a.1) (nI b.1) = some (if mg_adj a.1 b.1 then 1 else 0) := by decide +kernel
theorem k8_nb {τ : mg_St} {a b : Nat} (ha : a < 70) (hb : b < 70) : f_X8_areNeighbours τ (nI a) (nI b) = some (if mg_adj a b then 1 else 0) := k8_nb_fin ⟨a, ha⟩ ⟨b, hb⟩
def mg_cl (κ : Nat → Int32) (S : Nat → Prop) : Prop := ∀ x y, x < 70 → y < 70 → κ x = 2 → κ y = 2 → mg_adj x y → S x → S y
def mg_M (κ : Nat → Int32) (μ : Nat → Nat) : Prop := ∀ a, a < 70 → κ a = 2 → μ a ≤ a ∧ κ (μ a) = 2 ∧ (∀ b, b < 70 → κ b = 2 → mg_adj a b → μ a = μ b) ∧ (∀ S : Nat → Prop, mg_cl κ S → (S a ↔ S (μ a)))
theorem mg_M_uniq {κ : Nat → Int32} {μ ν : Nat → Nat} (h1 : mg_M κ μ) (h2 : mg_M κ ν) {a : Nat} (ha : a < 70) (hk : κ a = 2) : μ a = ν a := by
  have key : ∀ {μ ν : Nat → Nat}, mg_M κ μ → mg_M κ ν → ν a ≤ μ a := by
    intro μ ν h1 h2
    obtain ⟨p1, p2, p3, p4⟩ := h1 a ha hk
    have hc : mg_cl κ (fun x => ν x = ν a) := by
      intro x y hx hy kx ky hxy e
      show ν y = ν a
      rw [← e]; exact ((h2 x hx kx).2.2.1 y hy ky hxy).symm
    have this : ν (μ a) = ν a := (p4 _ hc).1 rfl
    have q := (h2 (μ a) (by omega) p2).1
    omega
  exact Nat.le_antisymm (key h2 h1) (key h1 h2)
theorem mg_M_congr {κ κ' : Nat → Int32} {μ : Nat → Nat} (e : ∀ k, k < 70 → κ' k = κ k) (h : mg_M κ μ) : mg_M κ' μ := by
  intro a ha hk
  rw [e a ha] at hk
  obtain ⟨p1, p2, p3, p4⟩ := h a ha hk
  refine ⟨p1, by rw [e _ (by omega)]; exact p2, fun b hb kb hab => p3 b hb (by rw [← e b hb]; exact kb) hab, fun S hS => p4 S ?_⟩
  intro x y hx hy kx ky hxy
  exact hS x y hx hy (by rw [e x hx]; exact kx) (by rw [e y hy]; exact ky) hxy
theorem mg_sr_self {τ : mg_St} {k : Nat} : mg_sr τ k (τ k) = τ := by
  funext a; unfold mg_sr; split <;> simp_all
theorem mg_sr_su {τ : mg_St} {k j : Nat} {r : Nat → Int32} {v : Int32} : mg_su (mg_sr τ k r) k j v = mg_sr τ k (upd r j v) := by
  funext a; unfold mg_sr mg_su; split <;> simp_all
theorem mg_sr_eq {τ : mg_St} {k : Nat} {r : Nat → Int32} : mg_sr τ k r k = r := by unfold mg_sr; simp
theorem mg_sr_ne {τ : mg_St} {k a : Nat} {r : Nat → Int32} (h : a ≠ k) : mg_sr τ k r a = τ a := by unfold mg_sr; simp [h]
theorem mg_upd {f : Nat → Int32} {i j : Nat} {v : Int32} : upd f i v j = if j = i then v else f j := rfl
def mg_nu (f : Nat → Nat) (i v : Nat) : Nat → Nat := fun j => if j = i then v else f j
theorem mg_nu_at {f : Nat → Nat} {i j v : Nat} : mg_nu f i v j = if j = i then v else f j := rfl
theorem mg_70 : (70 : Int32) ≤ nI 70 := by decide +kernel
def mg_ns (f : Nat → Nat) : Nat → Nat
  | 0 => 0
  | n + 1 => mg_ns f n + f n
theorem mg_ns_upd {f : Nat → Nat} {a v : Nat} : ∀ {n : Nat}, (a < n → v < f a → mg_ns (mg_nu f a v) n < mg_ns f n) ∧ (n ≤ a → mg_ns (mg_nu f a v) n = mg_ns f n) := by
  intro n; induction n with
  | zero => exact ⟨fun h => by omega, fun _ => rfl⟩
  | succ n ih =>
    obtain ⟨i1, i2⟩ := ih
    constructor
    · intro h hv
      simp only [mg_ns, mg_nu_at]
      by_cases e : n = a
      · subst e; rw [if_pos rfl, i2 (Nat.le_refl _)]; omega
      · rw [if_neg e]; have := i1 (by omega) hv; omega
    · intro h
      simp only [mg_ns, mg_nu_at]; rw [if_neg (by omega), i2 (by omega)]
def mg_G (κ r : Nat → Int32) (μ : Nat → Nat) : Prop := ∀ k, k < 70 → (κ k = 2 → r k = nI (μ k) ∧ μ k ≤ k ∧ κ (μ k) = 2 ∧ ∀ S : Nat → Prop, mg_cl κ S → (S k ↔ S (μ k))) ∧ (κ k ≠ 2 → r k = -1)
theorem k8_mp2 {τ : mg_St} : ∀ (n j : Nat) (r : Nat → Int32), j ≤ 70 → 70 < n + j → (∀ k, k < j → r k = if τ 3 k = 2 then nI k else -1) → ∃ r', f_X8_markPonds_2 n (nI j) (mg_sr τ 6 r) = some (nI 70, mg_sr τ 6 r') ∧ ∀ k, k < 70 → r' k = if τ 3 k = 2 then nI k else -1 := by
  intro n; induction n with
  | zero => intro j r h1 h2; omega
  | succ n ih =>
    intro j r h1 h2 hr
    unfold f_X8_markPonds_2
    rcases Nat.lt_or_ge j 70 with h | h
    · rw [if_neg (mg_lt70 j h).2, mg_rdn h (Nat.le_refl 70), mg_sr_ne (by decide)]
      simp only [Option.bind_some, mg_wrn h (Nat.le_refl 70), mg_sr_su, ← nI_succ]
      split <;> rename_i a
      · refine ih (j + 1) _ (by omega) (by omega) ?_
        intro k hk; rw [mg_upd]; split
        · rename_i e; subst e; rw [if_pos a]
        · exact hr k (by omega)
      · refine ih (j + 1) _ (by omega) (by omega) ?_
        intro k hk; rw [mg_upd]; split
        · rename_i e; subst e; rw [if_neg a]
        · exact hr k (by omega)
    · have e : j = 70 := by omega
      subst e
      exact ⟨r, by rw [if_pos mg_70], hr⟩
theorem mg_cl_symm {κ : Nat → Int32} {S : Nat → Prop} (hS : mg_cl κ S) {x y : Nat} (hx : x < 70) (hy : y < 70) (kx : κ x = 2) (ky : κ y = 2) (h : mg_adj x y) : S x ↔ S y :=
  ⟨hS x y hx hy kx ky h, hS y x hy hx ky kx (mg_adj_sym hx hy h)⟩
theorem k8_mp53 {τ : mg_St} {a : Nat} (ha : a < 70) : ∀ (n j : Nat) (x1 : Int32) (r : Nat → Int32) (μ : Nat → Nat), j ≤ 70 → 70 < n + j → mg_G (τ 3) r μ → ∃ x1' r' μ', f_X8_markPonds_53 (nI a) n x1 (nI j) (mg_sr τ 6 r) = some (x1', nI 70, mg_sr τ 6 r') ∧ mg_G (τ 3) r' μ' ∧ ((x1' = x1 ∧ r' = r ∧ μ' = μ ∧ ∀ k, j ≤ k → k < 70 → τ 3 a = 2 → τ 3 k = 2 → mg_adj a k → μ a ≤ μ k) ∨ (x1' = 1 ∧ mg_ns μ' 70 < mg_ns μ 70)) := by
  intro n; induction n with
  | zero => intro j x1 r μ h1 h2; omega
  | succ n ih =>
    intro j x1 r μ h1 h2 hG
    unfold f_X8_markPonds_53
    rcases Nat.lt_or_ge j 70 with h | h
    · rw [if_neg (mg_lt70 j h).2]
      simp only [mg_rdn h (Nat.le_refl 70), mg_rdn ha (Nat.le_refl 70), mg_wrn ha (Nat.le_refl 70), mg_sr_eq, mg_sr_su, Option.bind_some, k8_nb ha h, ← nI_succ]
      have skip : (τ 3 a = 2 → τ 3 j = 2 → mg_adj a j → μ a ≤ μ j) → ∃ x1' r' μ', f_X8_markPonds_53 (nI a) n x1 (nI (j + 1)) (mg_sr τ 6 r) = some (x1', nI 70, mg_sr τ 6 r') ∧ mg_G (τ 3) r' μ' ∧ ((x1' = x1 ∧ r' = r ∧ μ' = μ ∧ ∀ k, j ≤ k → k < 70 → τ 3 a = 2 → τ 3 k = 2 → mg_adj a k → μ a ≤ μ k) ∨ (x1' = 1 ∧ mg_ns μ' 70 < mg_ns μ 70)) := by
        intro hj
        obtain ⟨x1', r', μ', q1, q2, q3⟩ := ih (j + 1) x1 r μ (by omega) (by omega) hG
        refine ⟨x1', r', μ', q1, q2, ?_⟩
        rcases q3 with ⟨e1, e2, e3, e4⟩ | q3
        · left; refine ⟨e1, e2, e3, fun k hk hk2 => ?_⟩
          rcases Nat.lt_or_ge j k with h' | h'
          · exact e4 k h' hk2
          · have e : k = j := by omega
            subst e; exact hj
        · exact Or.inr q3
      by_cases ka : τ 3 a = 2
      · obtain ⟨a1, a2, a3, a4⟩ := (hG a ha).1 ka
        rw [a1, if_neg (mg_m1 _ (by omega))]
        by_cases kj : τ 3 j = 2
        · obtain ⟨b1, b2, b3, b4⟩ := (hG j h).1 kj
          rw [b1, if_neg (mg_m1 _ (by omega))]
          by_cases hle : μ a ≤ μ j
          · rw [if_pos (nI_le hle (by omega))]; exact skip (fun _ _ _ => hle)
          · rw [if_neg (nI_ge (by omega) (by omega))]
            by_cases had : mg_adj a j
            · simp only [had, if_true]
              rw [if_neg (by decide)]
              have hG' : mg_G (τ 3) (upd r a (nI (μ j))) (mg_nu μ a (μ j)) := by
                intro k hk
                rw [mg_upd, mg_nu_at]
                by_cases e : k = a
                · subst e; simp only [if_true]
                  refine ⟨fun _ => ⟨trivial, by omega, b3, fun S hS => ?_⟩, fun c => absurd ka c⟩
                  exact (mg_cl_symm hS ha h ka kj had).trans (b4 S hS)
                · simp only [if_neg e]; exact hG k hk
              obtain ⟨x1', r', μ', q1, q2, q3⟩ := ih (j + 1) 1 _ _ (by omega) (by omega) hG'
              have lt := (mg_ns_upd (f := μ) (a := a) (v := μ j) (n := 70)).1 ha (by omega)
              refine ⟨x1', r', μ', q1, q2, Or.inr ?_⟩
              rcases q3 with ⟨e1, e2, e3, e4⟩ | ⟨e1, e2⟩
              · exact ⟨e1, by rw [e3]; exact lt⟩
              · exact ⟨e1, by omega⟩
            · simp only [had, if_false, if_true]; exact skip (fun _ _ c => absurd c had)
        · rw [(hG j h).2 kj, if_pos rfl]; exact skip (fun _ c => absurd c kj)
      · rw [(hG a ha).2 ka, if_pos rfl]; exact skip (fun c => absurd c ka)
    · have e : j = 70 := by omega
      subst e
      exact ⟨x1, r, μ, by rw [if_pos mg_70], hG, Or.inl ⟨rfl, rfl, rfl, fun k hk hk2 => by omega⟩⟩
theorem k8_mp45 {τ : mg_St} : ∀ (n a : Nat) (x1 : Int32) (r : Nat → Int32) (μ : Nat → Nat), a ≤ 70 → 70 < n + a → mg_G (τ 3) r μ → ∃ x1' r' μ', f_X8_markPonds_45 n x1 (nI a) (mg_sr τ 6 r) = some (x1', nI 70, mg_sr τ 6 r') ∧ mg_G (τ 3) r' μ' ∧ ((x1' = x1 ∧ r' = r ∧ μ' = μ ∧ ∀ b, a ≤ b → b < 70 → ∀ k, k < 70 → τ 3 b = 2 → τ 3 k = 2 → mg_adj b k → μ b ≤ μ k) ∨ (x1' = 1 ∧ mg_ns μ' 70 < mg_ns μ 70)) := by
  intro n; induction n with
  | zero => intro j x1 r μ h1 h2; omega
  | succ n ih =>
    intro a x1 r μ h1 h2 hG
    unfold f_X8_markPonds_45
    rcases Nat.lt_or_ge a 70 with h | h
    · rw [if_neg (mg_lt70 a h).2]
      obtain ⟨x2, r2, μ2, q1, q2, q3⟩ := k8_mp53 (τ := τ) h 5000 0 x1 r μ (by omega) (by omega) hG
      rw [show (0 : Int32) = nI 0 from rfl, q1]
      simp only [Option.bind_some, ← nI_succ]
      obtain ⟨x3, r3, μ3, p1, p2, p3⟩ := ih (a + 1) x2 r2 μ2 (by omega) (by omega) q2
      refine ⟨x3, r3, μ3, p1, p2, ?_⟩
      rcases q3 with ⟨e1, e2, e3, e4⟩ | ⟨e1, e2⟩
      · subst e1 e2 e3
        rcases p3 with ⟨g1, g2, g3, g4⟩ | g
        · subst g1 g2 g3
          left; refine ⟨rfl, rfl, rfl, fun b hb hb2 k hk => ?_⟩
          rcases Nat.lt_or_ge a b with h' | h'
          · exact g4 b h' hb2 k hk
          · have e : b = a := by omega
            subst e; exact fun c1 c2 c3 => e4 k (by omega) hk c1 c2 c3
        · exact Or.inr g
      · right
        rcases p3 with ⟨g1, g2, g3, g4⟩ | ⟨g1, g2⟩
        · subst g1 g3; exact ⟨e1, e2⟩
        · exact ⟨g1, by omega⟩
    · have e : a = 70 := by omega
      subst e
      exact ⟨x1, r, μ, by rw [if_pos mg_70], hG, Or.inl ⟨rfl, rfl, rfl, fun k hk hk2 => by omega⟩⟩
theorem k8_mp37 {τ : mg_St} : ∀ (n : Nat) (r : Nat → Int32) (μ : Nat → Nat), mg_ns μ 70 + 1 < n → mg_G (τ 3) r μ → ∃ r' μ', f_X8_markPonds_37 n 1 (mg_sr τ 6 r) = some (0, mg_sr τ 6 r') ∧ mg_G (τ 3) r' μ' ∧ ∀ b, b < 70 → ∀ k, k < 70 → τ 3 b = 2 → τ 3 k = 2 → mg_adj b k → μ' b ≤ μ' k := by
  intro n; induction n with
  | zero => intro r μ h; omega
  | succ n ih =>
    intro r μ hn hG
    unfold f_X8_markPonds_37
    rw [if_neg (by decide)]
    obtain ⟨x2, r2, μ2, q1, q2, q3⟩ := k8_mp45 (τ := τ) 5000 0 0 r μ (by omega) (by omega) hG
    rw [show f_X8_markPonds_45 5000 0 0 = f_X8_markPonds_45 5000 0 (nI 0) from rfl, q1]
    simp only [Option.bind_some]
    rcases q3 with ⟨e1, e2, e3, e4⟩ | ⟨e1, e2⟩
    · subst e1 e2 e3
      obtain ⟨m, rfl⟩ : ∃ m, n = m + 1 := ⟨n - 1, by omega⟩
      unfold f_X8_markPonds_37
      exact ⟨r2, μ2, by rw [if_pos rfl], q2, fun b hb => e4 b (by omega) hb⟩
    · subst e1
      exact ih r2 μ2 (by omega) q2
theorem mg_ns_id : mg_ns (fun k => k) 70 = 2415 := by decide +kernel
theorem mg_marks (τ : mg_St) : ∃ r μ, f_X8_markPonds τ = some (mg_sr τ 6 r) ∧ mg_M (τ 3) μ ∧ ∀ k, k < 70 → r k = if τ 3 k = 2 then nI (μ k) else -1 := by
  obtain ⟨r1, q1, q2⟩ := k8_mp2 (τ := τ) 5000 0 (τ 6) (by omega) (by omega) (fun k hk => by omega)
  have hG : mg_G (τ 3) r1 (fun k => k) := by
    intro k hk
    refine ⟨fun c => ⟨by rw [q2 k hk, if_pos c], Nat.le_refl _, c, fun S _ => Iff.rfl⟩, fun c => by rw [q2 k hk, if_neg c]⟩
  obtain ⟨r, μ, p1, p2, p3⟩ := k8_mp37 (τ := τ) 5000 r1 _ (by rw [mg_ns_id]; omega) hG
  refine ⟨r, μ, ?_, ?_, ?_⟩
  · unfold f_X8_markPonds
    rw [mg_sr_self] at q1
    rw [show (0 : Int32) = nI 0 from rfl, q1]
    simp only [Option.bind_some, p1]
  · intro a ha hk
    obtain ⟨a1, a2, a3, a4⟩ := (p2 a ha).1 hk
    refine ⟨a2, a3, fun b hb kb hab => ?_, a4⟩
    exact Nat.le_antisymm (p3 a ha b hb hk kb hab) (p3 b hb a ha kb hk (mg_adj_sym ha hb hab))
  · intro k hk
    split
    · rename_i c; exact ((p2 k hk).1 c).1
    · rename_i c; exact (p2 k hk).2 c
