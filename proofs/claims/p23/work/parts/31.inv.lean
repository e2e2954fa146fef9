/-! ===== the invariant, and how a cell is changed ===== -/
def mg_Inv (σ τ : mg_St) : Prop := ∃ c g p μ, mg_core σ τ c g p μ ∧ mg_crs σ τ 5 1 c p
theorem mg_thr {σ τ : mg_St} {v : Int32} (I : mg_Inv σ τ) : mg_Inv σ (mg_su τ 0 0 v) := by
  obtain ⟨c, g, p, μ, hI, hR⟩ := I
  exact ⟨c, g, p, μ, mg_core_fr hI (fun _ _ _ _ _ _ _ => rfl) (fun a _ h0 _ _ _ => mg_su_ne h0) rfl rfl rfl, mg_crs_fr hR rfl rfl rfl rfl rfl rfl⟩
theorem mg_M_congr2 {κ κ' : Nat → Int32} {μ : Nat → Nat} (e : ∀ k, k < 70 → (κ' k = 2 ↔ κ k = 2)) (h : mg_M κ μ) : mg_M κ' μ := by
  intro a ha hk
  rw [e a ha] at hk
  obtain ⟨p1, p2, p3, p4⟩ := h a ha hk
  refine ⟨p1, (e _ (by omega)).2 p2, fun b hb kb hab => p3 b hb ((e b hb).1 kb) hab, fun S hS => p4 S ?_⟩
  intro x y hx hy kx ky hxy
  exact hS x y hx hy ((e x hx).2 kx) ((e y hy).2 ky) hxy
theorem mg_if {P Q : Prop} [Decidable P] [Decidable Q] {α : Type} {a b : α} (h : P ↔ Q) : (if P then a else b) = (if Q then a else b) := by
  by_cases p : P
  · rw [if_pos p, if_pos (h.1 p)]
  · rw [if_neg p, if_neg (fun q => p (h.2 q))]
theorem mg_pnd_congr2 {σ σ' : mg_St} {μ : Nat → Nat} (e : ∀ k, k < 70 → (σ' 8 k = 2 ↔ σ 8 k = 2)) (e1 : σ' 1 8 = σ 1 8) (e11 : σ' 11 = σ 11) (e12 : σ' 12 = σ 12) (e13 : σ' 13 = σ 13) (e14 : σ' 14 = σ 14) (h : mg_pnd σ μ) : mg_pnd σ' μ := by
  obtain ⟨h1, h2⟩ := h
  unfold mg_pnd
  rw [e1, e11, e12, e13, e14]
  refine ⟨h1.trans (mg_sum_congr (fun k hk => mg_if (and_congr_left' (e k hk).symm))), fun k hk => ?_⟩
  obtain ⟨a1, a2⟩ := h2 k hk
  refine ⟨fun n => a1 (fun c => n ((e k hk).2 c)), fun n => ?_⟩
  obtain ⟨q, b1, b2, b3, b4, b5⟩ := a2 ((e k hk).1 n)
  refine ⟨q, b1, b2, b3.trans ?_, b4.trans ?_, fun k' hk' => (b5 k' hk').trans (and_congr_left' (e k' hk').symm)⟩
  · unfold mg_cells; exact mg_sum_congr (fun k hk => mg_if (and_congr_left' (e k hk).symm))
  · unfold mg_aged; exact mg_sum_congr (fun k hk => mg_if (and_congr_left' (e k hk).symm))
def mg_base (σ τ : mg_St) (c g p : Nat) : Prop := mg_num σ τ c g p ∧ mg_cel σ τ ∧ mg_crp σ τ c ∧ mg_gat σ τ g ∧ mg_poe σ τ g p ∧ mg_age σ c
theorem mg_core_base {σ τ : mg_St} {c g p : Nat} {μ : Nat → Nat} (h : mg_core σ τ c g p μ) : mg_base σ τ c g p := ⟨h.1, h.2.1, h.2.2.1, h.2.2.2.1, h.2.2.2.2.1, h.2.2.2.2.2.1⟩
theorem mg_base_core {σ τ : mg_St} {c g p : Nat} {μ : Nat → Nat} (h : mg_base σ τ c g p) (hM : mg_M (σ 8) μ) (hP : mg_pnd σ μ) : mg_core σ τ c g p μ := ⟨h.1, h.2.1, h.2.2.1, h.2.2.2.1, h.2.2.2.2.1, h.2.2.2.2.2, hM, hP⟩
theorem mg_base_set {σ τ σ' τ' : mg_St} {c g p q : Nat} {k s z : Int32} (hB : mg_base σ τ c g p) (hq : q < 70)
    (f : ∀ a, a < 21 → a ≠ 0 → a ≠ 5 → a ≠ 6 → a ≠ 7 → a ≠ 15 → a ≠ 8 → a ≠ 9 → a ≠ 10 → σ' a = σ a) (e8 : σ' 8 = upd (σ 8) q k) (e9 : σ' 9 = upd (σ 9) q s) (e10 : σ' 10 = upd (σ 10) q z)
    (f' : ∀ a, a < 12 → a ≠ 0 → a ≠ 1 → a ≠ 2 → a ≠ 6 → a ≠ 3 → a ≠ 4 → a ≠ 5 → τ' a = τ a) (t3 : τ' 3 = upd (τ 3) q k) (t4 : ∀ j, j ≠ q → τ' 4 j = τ 4 j) (t5 : ∀ j, j ≠ q → τ' 5 j = τ 5 j)
    (t05 : τ' 0 5 = τ 0 5) (t08 : τ' 0 8 = τ 0 8) (t011 : τ' 0 11 = τ 0 11)
    (hk : k = 0 ∨ k = 1 ∨ k = 2 ∨ k = 3) (h1 : k = 1 → τ' 4 q = s ∧ τ' 5 q = z ∧ ∃ s', s' < 6 ∧ s = nI s' ∧ ∃ z', z' < 10 ∧ z = nI z') (h1' : k ≠ 1 → s = -1 ∧ z = 0) (hno : k = 2 ∨ ∀ j, j < c → σ 17 j = 0 → σ 16 j ≠ nI q) : mg_base σ' τ' c g p := by
  obtain ⟨hN, hE, hC, hG, hPo, hA⟩ := hB
  have ff : ∀ a, a < 21 ∧ a ≠ 0 ∧ a ≠ 5 ∧ a ≠ 6 ∧ a ≠ 7 ∧ a ≠ 15 ∧ a ≠ 8 ∧ a ≠ 9 ∧ a ≠ 10 → σ' a = σ a := fun a ⟨h1, h2, h3, h4, h5, h6, h7, h8, h9⟩ => f a h1 h2 h3 h4 h5 h6 h7 h8 h9
  have ff' : ∀ a, a < 12 ∧ a ≠ 0 ∧ a ≠ 1 ∧ a ≠ 2 ∧ a ≠ 6 ∧ a ≠ 3 ∧ a ≠ 4 ∧ a ≠ 5 → τ' a = τ a := fun a ⟨h1, h2, h3, h4, h5, h6, h7, h8⟩ => f' a h1 h2 h3 h4 h5 h6 h7 h8
  refine ⟨?_, ?_, ?_, ?_, ?_, ?_⟩
  · unfold mg_num at hN ⊢
    rw [t05, t08, t011, ff 2 (by decide), ff 3 (by decide), ff 4 (by decide), ff' 8 (by decide)]; exact hN
  · intro j hj
    rw [e8, e9, e10, t3]
    simp only [mg_upd]
    by_cases e : j = q
    · subst e
      simp only [if_true]
      exact ⟨trivial, hk, h1, h1'⟩
    · simp only [if_neg e, t4 j e, t5 j e]; exact hE j hj
  · intro j hj
    obtain ⟨pl, c1, c2, c3, c4, c5, c6⟩ := hC j hj
    rw [ff 16 (by decide), ff 17 (by decide), ff' 7 (by decide), ff' 8 (by decide), e8]
    refine ⟨pl, c1, c2, c3, c4, c5, fun hs => ?_⟩
    rw [mg_upd]
    by_cases e : pl = q
    · rw [if_pos e]
      rcases hno with h | h
      · exact h
      · exact absurd (by rw [c2, e]) (h j hj hs)
    · rw [if_neg e]; exact c6 hs
  · unfold mg_gat at hG ⊢
    rw [ff 18 (by decide), ff 19 (by decide), ff' 9 (by decide), ff' 10 (by decide)]; exact hG
  · unfold mg_poe at hPo ⊢
    rw [ff 20 (by decide), ff' 11 (by decide)]; exact hPo
  · unfold mg_age at hA ⊢
    rw [ff 11 (by decide), ff 16 (by decide), ff 17 (by decide)]; exact hA
theorem mg_crs_coin {σ τ σ' τ' : mg_St} {c p : Nat} (h : mg_crs σ τ 5 1 c p) (h0 : σ' 5 0 = σ 5 0) (h0' : τ' 1 0 = τ 1 0) (h1 : σ' 5 1 = τ' 1 1) (h2 : σ' 21 = σ 21) (h3 : σ' 22 = σ 22) (h4 : τ' 12 = τ 12) (h5 : τ' 13 = τ 13) : mg_crs σ' τ' 5 1 c p := by
  obtain ⟨a1, a2, a3, a4, a5⟩ := h
  refine ⟨by rw [h0, h0']; exact a1, h1, ?_, ?_, ?_⟩
  · show ∀ j, j < c → τ' 12 j = σ' 21 j ∧ ∃ z, 1 ≤ z ∧ z ≤ 40 ∧ σ' 21 j = nI z
    rw [h2, h4]; exact a3
  · show ∀ j, j < 5 → τ' 13 j = σ' 22 j
    rw [h3, h5]; exact a4
  · show ∀ j, p ≤ j → j < 5 → σ' 22 j = 0
    rw [h3]; exact a5
/-- the ponds after a cell was changed that was none and is none -/
theorem mg_core_set {σ τ σ' τ' : mg_St} {c g p q : Nat} {k s z : Int32} {μ : Nat → Nat} (hI : mg_core σ τ c g p μ) (hq : q < 70) (kq : σ 8 q ≠ 2) (k2 : k ≠ 2)
    (f : ∀ a, a < 21 → a ≠ 0 → a ≠ 5 → a ≠ 6 → a ≠ 7 → a ≠ 15 → a ≠ 8 → a ≠ 9 → a ≠ 10 → σ' a = σ a) (e8 : σ' 8 = upd (σ 8) q k) (e9 : σ' 9 = upd (σ 9) q s) (e10 : σ' 10 = upd (σ 10) q z)
    (f' : ∀ a, a < 12 → a ≠ 0 → a ≠ 1 → a ≠ 2 → a ≠ 6 → a ≠ 3 → a ≠ 4 → a ≠ 5 → τ' a = τ a) (t3 : τ' 3 = upd (τ 3) q k) (t4 : ∀ j, j ≠ q → τ' 4 j = τ 4 j) (t5 : ∀ j, j ≠ q → τ' 5 j = τ 5 j)
    (t05 : τ' 0 5 = τ 0 5) (t08 : τ' 0 8 = τ 0 8) (t011 : τ' 0 11 = τ 0 11)
    (hk : k = 0 ∨ k = 1 ∨ k = 3) (h1 : k = 1 → τ' 4 q = s ∧ τ' 5 q = z ∧ ∃ s', s' < 6 ∧ s = nI s' ∧ ∃ z', z' < 10 ∧ z = nI z') (h1' : k ≠ 1 → s = -1 ∧ z = 0) : mg_core σ' τ' c g p μ := by
  have hno : ∀ j, j < c → σ 17 j = 0 → σ 16 j ≠ nI q := by
    intro j hj hs e
    obtain ⟨pl, c1, c2, c3, c4, c5, c6⟩ := hI.2.2.1 j hj
    rw [c2] at e
    have := mg_inj (by omega) (by omega) e
    subst this; exact kq (c6 hs)
  have hB := mg_base_set (mg_core_base hI) hq f e8 e9 e10 f' t3 t4 t5 t05 t08 t011 (by rcases hk with h | h | h <;> simp [h]) h1 h1' (Or.inr hno)
  have he : ∀ j, j < 70 → (σ' 8 j = 2 ↔ σ 8 j = 2) := by
    intro j hj; rw [e8, mg_upd]
    by_cases e : j = q
    · rw [if_pos e, e]; exact ⟨fun c => absurd c k2, fun c => absurd c kq⟩
    · rw [if_neg e]
  have ff : ∀ a, a < 21 ∧ a ≠ 0 ∧ a ≠ 5 ∧ a ≠ 6 ∧ a ≠ 7 ∧ a ≠ 15 ∧ a ≠ 8 ∧ a ≠ 9 ∧ a ≠ 10 → σ' a = σ a := fun a ⟨h1, h2, h3, h4, h5, h6, h7, h8, h9⟩ => f a h1 h2 h3 h4 h5 h6 h7 h8 h9
  exact mg_base_core hB (mg_M_congr2 he hI.2.2.2.2.2.2.1) (mg_pnd_congr2 he (by rw [ff 1 (by decide)]) (ff 11 (by decide)) (ff 12 (by decide)) (ff 13 (by decide)) (ff 14 (by decide)) hI.2.2.2.2.2.2.2)
/-- the ponds surveyed anew -/
theorem mg_resurvey {σ τ : mg_St} {c g p : Nat} (hB : mg_base σ τ c g p) : ∃ σ' μ, f_X1_surveyPonds σ = some σ' ∧ mg_core σ' τ c g p μ ∧ (∀ a, a ≠ 1 → a ≠ 12 → a ≠ 13 → a ≠ 14 → a ≠ 15 → σ' a = σ a) ∧ (∀ j, j ≠ 8 → σ' 1 j = σ 1 j) := by
  obtain ⟨r, μ, h1, h2, h3⟩ := mg_marks τ
  have hM : mg_M (σ 8) μ := mg_M_congr (fun k hk => ((hB.2.1 k hk).1).symm) h2
  obtain ⟨σ', s1, s2, s3, s4⟩ := mg_survey hM
  have ff : ∀ a, a ≠ 1 ∧ a ≠ 12 ∧ a ≠ 13 ∧ a ≠ 14 ∧ a ≠ 15 → σ' a = σ a := fun a ⟨h1, h2, h3, h4, h5⟩ => s2 a h1 h2 h3 h4 h5
  refine ⟨σ', μ, s1, mg_base_core ?_ (by rw [ff 8 (by decide)]; exact hM) s4, s2, s3⟩
  obtain ⟨hN, hE, hC, hG, hPo, hA⟩ := hB
  refine ⟨?_, ?_, ?_, ?_, ?_, ?_⟩
  · unfold mg_num at hN ⊢; rw [ff 2 (by decide), ff 3 (by decide), ff 4 (by decide)]; exact hN
  · unfold mg_cel at hE ⊢; rw [ff 8 (by decide), ff 9 (by decide), ff 10 (by decide)]; exact hE
  · unfold mg_crp at hC ⊢; rw [ff 8 (by decide), ff 16 (by decide), ff 17 (by decide)]; exact hC
  · unfold mg_gat at hG ⊢; rw [ff 18 (by decide), ff 19 (by decide)]; exact hG
  · unfold mg_poe at hPo ⊢; rw [ff 20 (by decide)]; exact hPo
  · unfold mg_age at hA ⊢; rw [ff 11 (by decide), ff 16 (by decide), ff 17 (by decide)]; exact hA
theorem k6_place0 {σ : mg_St} {x1 x2 : Int32} (h : f_X1_isInside σ x1 x2 = some 0) : f_X6_checkPlace σ x1 x2 = some (.error 0, σ) := by unfold f_X6_checkPlace; rw [h]; rfl
theorem k6_place1 {σ : mg_St} {x1 x2 : Int32} (h : f_X1_isInside σ x1 x2 = some 1) : f_X6_checkPlace σ x1 x2 = some (.ok (), σ) := by unfold f_X6_checkPlace; rw [h]; rfl
theorem mg_xb_ok {V W : Type} {v : V} {s : mg_St} {K : V → mg_St → Option (Except (Fin 3) W × mg_St)} : mg_xb (some (.ok v, s)) K = K v s := rfl
theorem mg_xb_err {V W : Type} {k : Fin 3} {s : mg_St} {K : V → mg_St → Option (Except (Fin 3) W × mg_St)} : mg_xb (some (.error k, s)) K = some (.error k, s) := rfl
theorem k6_num {σ : mg_St} {x1 x2 : Int32} {q : Nat} (h : 10 * x2 + x1 = nI q) : f_X1_numberOf σ x1 x2 = some (nI q) := by unfold f_X1_numberOf; rw [h]
theorem k6_bare {σ : mg_St} {q : Nat} (hq : q < 70) : f_X6_checkBare σ (nI q) = if σ 8 q = 0 then some (.ok (), σ) else some (.error 2, σ) := by
  unfold f_X6_checkBare; rw [k1_isBare hq, Option.bind_some]
  by_cases k : σ 8 q = 0
  · rw [if_pos k, if_pos k, if_neg (by decide)]
  · rw [if_neg k, if_neg k, if_pos rfl]
theorem mg_lt_iff {a b : Int32} : a < b ↔ ¬ b ≤ a := by constructor <;> intro h <;> grind
theorem mg_isIn {τ : mg_St} {x a b : Int32} : f_X8_isIn τ x a b = some (if ¬ x < a ∧ x ≤ b then 1 else 0) := by
  unfold f_X8_isIn
  by_cases h1 : x < a
  · rw [if_pos h1, if_neg (fun c => c.1 h1)]
  · rw [if_neg h1]
    by_cases h2 : b < x
    · rw [if_pos h2, if_neg (fun c => (mg_lt_iff.1 h2) c.2)]
    · rw [if_neg h2, if_pos ⟨h1, by
        by_cases h3 : x ≤ b
        · exact h3
        · exact absurd (mg_lt_iff.2 h3) h2⟩]
theorem mg_rockck (σ τ : mg_St) (x3 x4 : Int32) : (f_X6_checkRock σ x3 x4 = some (.error 1, σ) ∧ (f_X8_isIn τ x3 0 5 = some 0 ∨ (f_X8_isIn τ x3 0 5 = some 1 ∧ f_X8_isIn τ x4 1 9 = some 0))) ∨ (f_X6_checkRock σ x3 x4 = some (.ok (), σ) ∧ f_X8_isIn τ x3 0 5 = some 1 ∧ f_X8_isIn τ x4 1 9 = some 1 ∧ ∃ s, s < 6 ∧ x3 = nI s ∧ ∃ z, z < 10 ∧ x4 = nI z) := by
  unfold f_X6_checkRock
  simp only [mg_isIn]
  by_cases h1 : x3 < 0
  · left; simp [h1]
  by_cases h2 : x3 ≤ 5
  · by_cases h3 : x4 < 1
    · left; simp [h1, h2, h3]
    · by_cases h4 : x4 ≤ 9
      · right
        obtain ⟨j, hj, rfl⟩ := nI_of2 (M := 5) (n := 5) (by decide) h1 h2
        obtain ⟨z, hz, rfl⟩ := nI_of2 (M := 9) (n := 9) (x := x4) (by decide) (fun h => h3 (by grind)) h4
        simp only [h1, h2, h3, h4]
        exact ⟨rfl, by simp, by simp, j, by omega, rfl, z, by omega, rfl⟩
      · left; simp [h1, h2, h3, h4]
  · left; simp [h1, h2]
