/-! ===== class and model, side by side ===== -/
def mg_num (σ τ : mg_St) (c g p : Nat) : Prop := c ≤ 30 ∧ g ≤ 6 ∧ p ≤ 5 ∧ σ 2 2 = nI c ∧ τ 0 5 = nI c ∧ σ 3 2 = nI g ∧ τ 0 8 = nI g ∧ σ 4 1 = nI p ∧ τ 0 11 = nI p ∧ ∀ j, c ≤ j → j < 30 → τ 8 j = 0
def mg_cel (σ τ : mg_St) : Prop := ∀ k, k < 70 → τ 3 k = σ 8 k ∧ (σ 8 k = 0 ∨ σ 8 k = 1 ∨ σ 8 k = 2 ∨ σ 8 k = 3) ∧ (σ 8 k = 1 → τ 4 k = σ 9 k ∧ τ 5 k = σ 10 k ∧ ∃ s, s < 6 ∧ σ 9 k = nI s ∧ ∃ z, z < 10 ∧ σ 10 k = nI z) ∧ (σ 8 k ≠ 1 → σ 9 k = -1 ∧ σ 10 k = 0)
def mg_crp (σ τ : mg_St) (c : Nat) : Prop := ∀ j, j < c → ∃ p, p < 70 ∧ σ 16 j = nI p ∧ τ 7 j = nI p ∧ τ 8 j = σ 17 j ∧ (σ 17 j = 0 ∨ σ 17 j = 1) ∧ (σ 17 j = 0 → σ 8 p = 2)
def mg_gat (σ τ : mg_St) (g : Nat) : Prop := ∀ i, i < g → ∃ p d, p < 70 ∧ d < 4 ∧ σ 18 i = nI p ∧ τ 9 i = nI p ∧ σ 19 i = nI d ∧ τ 10 i = nI d
def mg_poe (σ τ : mg_St) (g p : Nat) : Prop := ∀ j, j < p → ∃ i, i < g ∧ σ 20 j = nI i ∧ τ 11 j = nI i
def mg_age (σ : mg_St) (c : Nat) : Prop := ∀ k, k < 70 → σ 11 k = mg_sum (fun j => if σ 17 j = 0 ∧ σ 16 j = nI k then 1 else 0) c
def mg_core (σ τ : mg_St) (c g p : Nat) (μ : Nat → Nat) : Prop := mg_num σ τ c g p ∧ mg_cel σ τ ∧ mg_crp σ τ c ∧ mg_gat σ τ g ∧ mg_poe σ τ g p ∧ mg_age σ c ∧ mg_M (σ 8) μ ∧ mg_pnd σ μ
def mg_crs (σ τ : mg_St) (b e c p : Nat) : Prop := σ b 0 = τ e 0 ∧ σ b 1 = τ e 1 ∧ (∀ j, j < c → τ (2 * e + 10) j = σ (2 * b + 11) j ∧ ∃ z, 1 ≤ z ∧ z ≤ 40 ∧ σ (2 * b + 11) j = nI z) ∧ (∀ j, j < 5 → τ (2 * e + 11) j = σ (2 * b + 12) j) ∧ (∀ j, p ≤ j → j < 5 → σ (2 * b + 12) j = 0)
def mg_mk (τ : mg_St) (μ : Nat → Nat) : Prop := ∀ k, k < 70 → τ 6 k = if τ 3 k = 2 then nI (μ k) else -1
theorem mg_core_fr {σ τ σ' τ' : mg_St} {c g p : Nat} {μ : Nat → Nat} (hI : mg_core σ τ c g p μ) (h : ∀ a, a < 21 → a ≠ 0 → a ≠ 5 → a ≠ 6 → a ≠ 7 → a ≠ 15 → σ' a = σ a) (h' : ∀ a, a < 12 → a ≠ 0 → a ≠ 1 → a ≠ 2 → a ≠ 6 → τ' a = τ a) (t5 : τ' 0 5 = τ 0 5) (t8 : τ' 0 8 = τ 0 8) (t11 : τ' 0 11 = τ 0 11) : mg_core σ' τ' c g p μ := by
  unfold mg_core mg_num mg_cel mg_crp mg_gat mg_poe mg_age mg_pnd at hI ⊢
  rw [t5, t8, t11, h' 3 (by decide) (by decide) (by decide) (by decide) (by decide), h' 4 (by decide) (by decide) (by decide) (by decide) (by decide), h' 5 (by decide) (by decide) (by decide) (by decide) (by decide), h' 7 (by decide) (by decide) (by decide) (by decide) (by decide), h' 8 (by decide) (by decide) (by decide) (by decide) (by decide), h' 9 (by decide) (by decide) (by decide) (by decide) (by decide), h' 10 (by decide) (by decide) (by decide) (by decide) (by decide), h' 11 (by decide) (by decide) (by decide) (by decide) (by decide)]
  have hh : ∀ a, a < 21 ∧ a ≠ 0 ∧ a ≠ 5 ∧ a ≠ 6 ∧ a ≠ 7 ∧ a ≠ 15 → σ' a = σ a := fun a ⟨h1, h2, h3, h4, h5, h6⟩ => h a h1 h2 h3 h4 h5 h6
  rw [hh 1 (by decide), hh 2 (by decide), hh 3 (by decide), hh 4 (by decide), hh 8 (by decide), hh 9 (by decide), hh 10 (by decide), hh 11 (by decide), hh 12 (by decide), hh 13 (by decide), hh 14 (by decide), hh 16 (by decide), hh 17 (by decide), hh 18 (by decide), hh 19 (by decide), hh 20 (by decide)]
  exact hI
theorem mg_mask_fin : ∀ w : Fin 64, ∀ s : Fin 6, ((nI w.1 &&& (1 <<< (nI s.1 &&& 31)) = 0) ↔ ((nI w.1 >>> (nI s.1 &&& 31)) &&& 1) = 0) ∧ (w.1 ||| (1 <<< s.1)) < 64 ∧ nI w.1 ||| (1 <<< (nI s.1 &&& 31)) = nI (w.1 ||| (1 <<< s.1)) := by decide +kernel
theorem mg_vst_at {σ : mg_St} {b c q : Nat} {V : Nat → Int32} : mg_vst σ b c V q 0 = V 0 + 1 ∧ mg_vst σ b c V q 1 = V 1 + (if σ 8 q = 1 then 1 else 0) ∧ mg_vst σ b c V q 2 = V 2 + (if σ 8 q = 2 then 1 else 0) ∧
    mg_vst σ b c V q 3 = (if σ 8 q = 1 then (if V 4 &&& (1 <<< (σ 9 q &&& 31)) = 0 then V 3 + σ 10 q + 4 else V 3 + σ 10 q) else if σ 8 q = 2 then V 3 + (3 + mg_szin σ b c q / 10) else V 3) ∧
    mg_vst σ b c V q 4 = (if σ 8 q = 1 then V 4 ||| (1 <<< (σ 9 q &&& 31)) else V 4) := by
  unfold mg_vst mg_vrock
  by_cases k1 : σ 8 q = 1
  · have k2 : ¬ σ 8 q = 2 := by rw [k1]; decide
    simp only [if_pos k1]
    have e4 : upd (upd (upd V 0 (V 0 + 1)) 1 (upd V 0 (V 0 + 1) 1 + 1)) 3 (upd V 0 (V 0 + 1) 3 + σ 10 q) 4 = V 4 := rfl
    simp only [e4, if_neg k2]
    by_cases hm : V 4 &&& (1 <<< (σ 9 q &&& 31)) = 0
    · simp only [if_pos hm]
      refine ⟨rfl, rfl, ?_, rfl, rfl⟩
      rw [Int32.add_zero]; rfl
    · simp only [if_neg hm]
      refine ⟨rfl, rfl, ?_, rfl, rfl⟩
      rw [Int32.add_zero]; rfl
  · simp only [if_neg k1]
    by_cases k2 : σ 8 q = 2
    · simp only [if_pos k2]
      refine ⟨rfl, ?_, rfl, rfl, rfl⟩
      rw [Int32.add_zero]; rfl
    · simp only [if_neg k2]
      refine ⟨rfl, ?_, ?_, rfl, rfl⟩
      · rw [Int32.add_zero]; rfl
      · rw [Int32.add_zero]; rfl
theorem mg_szin_eq {σ τ : mg_St} {b e c q : Nat} (hq : q < 70) (hc : mg_crp σ τ c) (hs : ∀ j, j < c → τ (2 * e + 10) j = σ (2 * b + 11) j) : mg_szat τ e c q = mg_szin σ b c q := by
  unfold mg_szat mg_szin
  refine mg_sum_congr (fun k hk => ?_)
  obtain ⟨p, hp, h1, h2, h3, -⟩ := hc k hk
  rw [h1, h2, h3, hs k hk]
  by_cases a : σ 17 k = 0
  · simp only [if_pos a]
  · simp only [if_neg a, ite_self]
theorem mg_vfold {σ τ : mg_St} {b e c : Nat} (hE : mg_cel σ τ) (hc : mg_crp σ τ c) (hs : ∀ j, j < c → τ (2 * e + 10) j = σ (2 * b + 11) j) : ∀ (l : List Nat) (V : Nat → Int32) (x : Int32 × Int32) (w : Nat), (∀ q, q ∈ l → q < 70) → V 3 = x.1 → V 4 = x.2 → w < 64 → x.2 = nI w →
    (l.foldl (mg_vst σ b c) V) 3 = (l.foldl (mg_bst τ e c) x).1 ∧ (l.foldl (mg_vst σ b c) V) 0 = V 0 + mg_ct (fun q => (0 : Int32) = 0 ∨ τ 3 q = 0) l ∧ (l.foldl (mg_vst σ b c) V) 1 = V 1 + mg_ct (fun q => (1 : Int32) = 0 ∨ τ 3 q = 1) l ∧ (l.foldl (mg_vst σ b c) V) 2 = V 2 + mg_ct (fun q => (2 : Int32) = 0 ∨ τ 3 q = 2) l := by
  intro l; induction l with
  | nil => intro V x w _ h1 _ _ _; simp only [List.foldl_nil, mg_ct, Int32.add_zero]; exact ⟨h1, trivial, trivial, trivial⟩
  | cons q l ih =>
    intro V x w hl h1 h2 hw hx
    simp only [List.foldl_cons, mg_ct]
    have hq := hl q (List.mem_cons_self ..)
    obtain ⟨c1, c2, c3, c4⟩ := hE q hq
    obtain ⟨v0, v1, v2, v3, v4⟩ := mg_vst_at (σ := σ) (b := b) (c := c) (q := q) (V := V)
    have hl' : ∀ q', q' ∈ l → q' < 70 := fun q' h => hl q' (List.mem_cons_of_mem _ h)
    have d1 : decide ((1 : Int32) = 0 ∨ τ 3 q = 1) = decide (σ 8 q = 1) := by rw [c1]; simp
    have d2 : decide ((2 : Int32) = 0 ∨ τ 3 q = 2) = decide (σ 8 q = 2) := by rw [c1]; simp
    have fin : ∀ (x' : Int32 × Int32) (w' : Nat), mg_bst τ e c x q = x' → mg_vst σ b c V q 3 = x'.1 → mg_vst σ b c V q 4 = x'.2 → w' < 64 → x'.2 = nI w' → (l.foldl (mg_vst σ b c) (mg_vst σ b c V q)) 3 = (l.foldl (mg_bst τ e c) (mg_bst τ e c x q)).1 ∧ (l.foldl (mg_vst σ b c) (mg_vst σ b c V q)) 0 = V 0 + ((if decide ((0 : Int32) = 0 ∨ τ 3 q = 0) = true then 1 else 0) + mg_ct (fun q => (0 : Int32) = 0 ∨ τ 3 q = 0) l) ∧ (l.foldl (mg_vst σ b c) (mg_vst σ b c V q)) 1 = V 1 + ((if decide ((1 : Int32) = 0 ∨ τ 3 q = 1) = true then 1 else 0) + mg_ct (fun q => (1 : Int32) = 0 ∨ τ 3 q = 1) l) ∧ (l.foldl (mg_vst σ b c) (mg_vst σ b c V q)) 2 = V 2 + ((if decide ((2 : Int32) = 0 ∨ τ 3 q = 2) = true then 1 else 0) + mg_ct (fun q => (2 : Int32) = 0 ∨ τ 3 q = 2) l) := by
      intro x' w' e1 e2 e3 e4 e5
      rw [e1]
      obtain ⟨i1, i2, i3, i4⟩ := ih (mg_vst σ b c V q) x' w' hl' e2 e3 e4 e5
      refine ⟨i1, ?_, ?_, ?_⟩
      · rw [i2, v0, Int32.add_assoc]; simp
      · rw [i3, v1, Int32.add_assoc, d1]; simp only [decide_eq_true_eq]
      · rw [i4, v2, Int32.add_assoc, d2]; simp only [decide_eq_true_eq]
    by_cases k1 : σ 8 q = 1
    · obtain ⟨s1, s2, s, hs6, s3, -⟩ := c3 k1
      obtain ⟨m1, m2, m3⟩ := mg_mask_fin ⟨w, hw⟩ ⟨s, hs6⟩
      simp only at m1 m2 m3
      refine fin _ (w ||| (1 <<< s)) rfl ?_ ?_ m2 ?_
      · rw [v3, if_pos k1]; unfold mg_bst; rw [c1, if_pos k1, s1, s2, h1, h2, hx, s3]
        by_cases hm : nI w &&& (1 <<< (nI s &&& 31)) = 0
        · rw [if_pos hm, if_pos (m1.1 hm), Int32.add_assoc]
        · rw [if_neg hm, if_neg (fun h => hm (m1.2 h)), Int32.add_zero]
      · rw [v4, if_pos k1]; unfold mg_bst; rw [c1, if_pos k1, s1, h2]
      · unfold mg_bst; rw [c1, if_pos k1, s1, hx, s3]; exact m3
    · by_cases k2 : σ 8 q = 2
      · refine fin _ w rfl ?_ ?_ hw ?_
        · rw [v3, if_neg k1, if_pos k2]; unfold mg_bst; rw [c1, if_neg k1, if_pos k2, mg_szin_eq hq hc hs, h1]
        · rw [v4, if_neg k1]; unfold mg_bst; rw [c1, if_neg k1, if_pos k2, h2]
        · unfold mg_bst; rw [c1, if_neg k1, if_pos k2]; exact hx
      · refine fin _ w rfl ?_ ?_ hw ?_
        · rw [v3, if_neg k1, if_neg k2]; unfold mg_bst; rw [c1, if_neg k1, if_neg k2, h1]
        · rw [v4, if_neg k1]; unfold mg_bst; rw [c1, if_neg k1, if_neg k2, h2]
        · unfold mg_bst; rw [c1, if_neg k1, if_neg k2]; exact hx
/-- a gate seen by both -/
theorem mg_look {σ τ : mg_St} {c g p i b e : Nat} (hN : mg_num σ τ c g p) (hE : mg_cel σ τ) (hC : mg_crp σ τ c) (hG : mg_gat σ τ g) (hs : ∀ j, j < c → τ (2 * e + 10) j = σ (2 * b + 11) j) (hi : i < g) :
    ∃ V, f_X6_look σ b (nI i) = some (V 3, mg_sr σ 7 V) ∧ f_X8_beauty τ e (nI i) = some (V 3) ∧ f_X8_many τ (nI i) 0 = some (V 0) ∧ f_X8_many τ (nI i) 1 = some (V 1) ∧ f_X8_many τ (nI i) 2 = some (V 2) := by
  obtain ⟨n1, n2, n3, n4, n5, n6, n7, n8, n9⟩ := hN
  obtain ⟨P, d, hP, hd, g1, g2, g3, g4⟩ := hG i hi
  refine ⟨mg_vw σ b c P d, k6_look n4 n1 n6 n2 hi g1 g3 hP hd, ?_, ?_, ?_, ?_⟩
  all_goals
    have hL : mg_lin τ P d = mg_see (σ 8) (σ 10) d 10 P := mg_see_congr hd (fun q hq => (hE q hq).1) (fun q hq k => ((hE q hq).2.2.1 k).2.1) 10 P hP
    obtain ⟨a1, a2, a3, a4⟩ := mg_vfold (b := b) (e := e) hE hC hs (mg_see (σ 8) (σ 10) d 10 P) (mg_view0 (σ 7)) (0, 0) 0 (mg_see_lt hd 10 P hP) rfl rfl (by decide) rfl
  · rw [k8_beauty n5 n1 (by omega) g2 g4 hP hd, hL]; unfold mg_vw; rw [a1]
  · rw [k8_many 0 (by omega) g2 g4 hP hd, hL]; unfold mg_vw; rw [a2]; show _ = some (0 + _); rw [Int32.zero_add]
  · rw [k8_many 1 (by omega) g2 g4 hP hd, hL]; unfold mg_vw; rw [a3]; show _ = some (0 + _); rw [Int32.zero_add]
  · rw [k8_many 2 (by omega) g2 g4 hP hd, hL]; unfold mg_vw; rw [a4]; show _ = some (0 + _); rw [Int32.zero_add]
