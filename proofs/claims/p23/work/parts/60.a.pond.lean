/-! ===== the pond by hand ===== -/
theorem mg_ixn {n j : Nat} (h : j < n) (hn : n ≤ 70) : mg_ix n (nI j) = some j := by
  unfold mg_ix; rw [if_neg (nI_in h (by omega)), nI_clamp (by omega)]
theorem mg_ixp {n j : Nat} (h : j + 1 < n) (hn : n ≤ 70) : mg_ix n (nI j + 1) = some (j + 1) := by
  rw [nI_1]; exact mg_ixn h hn
theorem mg_ixm {n j : Nat} (h0 : 0 < j) (h : j < n) (hn : n ≤ 70) : mg_ix n (nI j - 1) = some (j - 1) := by
  obtain ⟨k, rfl⟩ : ∃ k, j = k + 1 := ⟨j - 1, by omega⟩
  rw [nI_pred]; exact mg_ixn (by omega) hn
theorem mg_le0 {j : Nat} (h : j < 1000) : nI j ≤ 0 ↔ j = 0 := by
  have := nI_leI (a := j) (b := 0) (by omega) (by omega)
  rw [nI_0] at this; rw [this]; omega
theorem mg_leN {j N : Nat} {M : Int32} (e : M = nI N) (hN : N < 1000) (h : j < 1000) : M ≤ nI j ↔ N ≤ j := by
  subst e; exact nI_leI (by omega) (by omega)
theorem mg_eqN {j N : Nat} {M : Int32} (e : M = nI N) (hN : N < 1000) (h : j < 1000) : nI j = M ↔ j = N := by
  subst e; exact nI_eq (by omega) (by omega)
abbrev mg_bes (O : Nat → Nat → Int32) (y x : Nat) : Prop := (0 < x ∧ ¬ O y (x - 1) = 0) ∨ (x < 9 ∧ ¬ O y (x + 1) = 0) ∨ (0 < y ∧ ¬ O (y - 1) x = 0) ∨ (y < 6 ∧ ¬ O (y + 1) x = 0)
theorem mg_mu_at {O : Nat → Nat → Int32} {y x a b : Nat} {v : Int32} : mg_mu O y x v a b = if a = y ∧ b = x then v else O a b := by
  unfold mg_mu
  by_cases h : a = y
  · subst h; rw [if_pos rfl, mg_upd]
    by_cases e : b = x
    · rw [if_pos e, if_pos ⟨rfl, e⟩]
    · rw [if_neg e, if_neg (fun c => e c.2)]
  · rw [if_neg h, if_neg (fun c => h c.1)]
/-- what is marked lies in the pond of a -/
def mg_po (κ : Nat → Int32) (μ : Nat → Nat) (a : Nat) (O : Nat → Nat → Int32) : Prop := ¬ O (a / 10) (a % 10) = 0 ∧ ∀ q, q < 70 → (O (q / 10) (q % 10) = 0 ∨ O (q / 10) (q % 10) = 1) ∧ (¬ O (q / 10) (q % 10) = 0 → κ q = 2 ∧ μ q = μ a)
def mq_oc (O : Nat → Nat → Int32) : Nat := mg_ns (fun q => if ¬ O (q / 10) (q % 10) = 0 then 1 else 0) 70
theorem mq_oc_le {O : Nat → Nat → Int32} : mq_oc O ≤ 70 := (mg_ns_ind (P := fun q => ¬ O (q / 10) (q % 10) = 0) (n := 70)).2.1
theorem mg_bes_adj {O : Nat → Nat → Int32} {y x : Nat} (hy : y < 7) (hx : x < 10) (h : mg_bes O y x) : ∃ q, q < 70 ∧ mg_adj (10 * y + x) q ∧ ¬ O (q / 10) (q % 10) = 0 := by
  have d1 : (10 * y + x) % 10 = x := by omega
  rcases h with ⟨h1, h2⟩ | ⟨h1, h2⟩ | ⟨h1, h2⟩ | ⟨h1, h2⟩
  · refine ⟨10 * y + x - 1, by omega, Or.inr (Or.inr (Or.inr ?_)), ?_⟩
    · unfold mg_nx; simp; omega
    · rw [show (10 * y + x - 1) / 10 = y by omega, show (10 * y + x - 1) % 10 = x - 1 by omega]; exact h2
  · refine ⟨10 * y + x + 1, by omega, Or.inr (Or.inl ?_), ?_⟩
    · unfold mg_nx; simp; omega
    · rw [show (10 * y + x + 1) / 10 = y by omega, show (10 * y + x + 1) % 10 = x + 1 by omega]; exact h2
  · refine ⟨10 * y + x - 10, by omega, Or.inl ?_, ?_⟩
    · unfold mg_nx; simp; omega
    · rw [show (10 * y + x - 10) / 10 = y - 1 by omega, show (10 * y + x - 10) % 10 = x by omega]; exact h2
  · refine ⟨10 * y + x + 10, by omega, Or.inr (Or.inr (Or.inl ?_)), ?_⟩
    · unfold mg_nx; simp; omega
    · rw [show (10 * y + x + 10) / 10 = y + 1 by omega, show (10 * y + x + 10) % 10 = x by omega]; exact h2
theorem mg_adj_bes {O : Nat → Nat → Int32} {a q : Nat} (ha : a < 70) (hq : q < 70) (h : mg_adj a q) (ho : ¬ O (q / 10) (q % 10) = 0) : mg_bes O (a / 10) (a % 10) := by
  unfold mg_adj mg_nx at h
  simp at h
  rcases h with ⟨h1, h2⟩ | ⟨h1, h2⟩ | ⟨h1, h2⟩ | ⟨h1, h2⟩
  · refine Or.inr (Or.inr (Or.inl ⟨by omega, ?_⟩)); subst h2
    rw [show a / 10 - 1 = (a - 10) / 10 by omega, show a % 10 = (a - 10) % 10 by omega]; exact ho
  · refine Or.inr (Or.inl ⟨by omega, ?_⟩); subst h2
    rw [show a / 10 = (a + 1) / 10 by omega, show a % 10 + 1 = (a + 1) % 10 by omega]; exact ho
  · refine Or.inr (Or.inr (Or.inr ⟨by omega, ?_⟩)); subst h2
    rw [show a / 10 + 1 = (a + 10) / 10 by omega, show a % 10 = (a + 10) % 10 by omega]; exact ho
  · refine Or.inl ⟨by omega, ?_⟩; subst h2
    rw [show a / 10 = (a - 1) / 10 by omega, show a % 10 - 1 = (a - 1) % 10 by omega]; exact ho
section BS
variable {O : Nat → Nat → Int32} {y x : Nat} {A : Option Int32}
theorem mg_t1 (h : x < 10) : (if nI x ≤ 0 then A else (mg_ix 10 (nI x - 1)).bind fun j => if O y j = 0 then A else some 1) = if 0 < x ∧ ¬ O y (x - 1) = 0 then some 1 else A := by
  have b := mg_le0 (j := x) (by omega)
  by_cases c : x = 0
  · rw [if_pos (b.2 c), if_neg (fun e => by omega)]
  · rw [if_neg (fun d => c (b.1 d)), mg_ixm (by omega) h (by omega), Option.bind_some]
    by_cases d : O y (x - 1) = 0
    · rw [if_pos d, if_neg (fun e => e.2 d)]
    · rw [if_neg d, if_pos ⟨by omega, d⟩]
theorem mg_t2 (h : x < 10) : (if 9 ≤ nI x then A else (mg_ix 10 (nI x + 1)).bind fun j => if O y j = 0 then A else some 1) = if x < 9 ∧ ¬ O y (x + 1) = 0 then some 1 else A := by
  have b := mg_leN (j := x) (N := 9) (M := 9) rfl (by omega) (by omega)
  by_cases c : 9 ≤ x
  · rw [if_pos (b.2 c), if_neg (fun e => by omega)]
  · rw [if_neg (fun d => c (b.1 d)), mg_ixp (by omega) (by omega), Option.bind_some]
    by_cases d : O y (x + 1) = 0
    · rw [if_pos d, if_neg (fun e => e.2 d)]
    · rw [if_neg d, if_pos ⟨by omega, d⟩]
theorem mg_t3 (h : y < 7) : (if nI y ≤ 0 then A else (mg_ix 7 (nI y - 1)).bind fun j => if O j x = 0 then A else some 1) = if 0 < y ∧ ¬ O (y - 1) x = 0 then some 1 else A := by
  have b := mg_le0 (j := y) (by omega)
  by_cases c : y = 0
  · rw [if_pos (b.2 c), if_neg (fun e => by omega)]
  · rw [if_neg (fun d => c (b.1 d)), mg_ixm (by omega) h (by omega), Option.bind_some]
    by_cases d : O (y - 1) x = 0
    · rw [if_pos d, if_neg (fun e => e.2 d)]
    · rw [if_neg d, if_pos ⟨by omega, d⟩]
theorem mg_t4 (h : y < 7) : (if 6 ≤ nI y then A else (mg_ix 7 (nI y + 1)).bind fun j => if O j x = 0 then A else some 1) = if y < 6 ∧ ¬ O (y + 1) x = 0 then some 1 else A := by
  have b := mg_leN (j := y) (N := 6) (M := 6) rfl (by omega) (by omega)
  by_cases c : 6 ≤ y
  · rw [if_pos (b.2 c), if_neg (fun e => by omega)]
  · rw [if_neg (fun d => c (b.1 d)), mg_ixp (by omega) (by omega), Option.bind_some]
    by_cases d : O (y + 1) x = 0
    · rw [if_pos d, if_neg (fun e => e.2 d)]
    · rw [if_neg d, if_pos ⟨by omega, d⟩]
theorem mg_bes_if : (if 0 < x ∧ ¬ O y (x - 1) = 0 then some 1 else if x < 9 ∧ ¬ O y (x + 1) = 0 then some 1 else if 0 < y ∧ ¬ O (y - 1) x = 0 then some 1 else if y < 6 ∧ ¬ O (y + 1) x = 0 then some 1 else some 0 : Option Int32) = some (if mg_bes O y x then 1 else 0) := by
  by_cases p1 : 0 < x ∧ ¬ O y (x - 1) = 0
  · rw [if_pos p1, if_pos (Or.inl p1)]
  · rw [if_neg p1]
    by_cases p2 : x < 9 ∧ ¬ O y (x + 1) = 0
    · rw [if_pos p2, if_pos (Or.inr (Or.inl p2))]
    · rw [if_neg p2]
      by_cases p3 : 0 < y ∧ ¬ O (y - 1) x = 0
      · rw [if_pos p3, if_pos (Or.inr (Or.inr (Or.inl p3)))]
      · rw [if_neg p3]
        by_cases p4 : y < 6 ∧ ¬ O (y + 1) x = 0
        · rw [if_pos p4, if_pos (Or.inr (Or.inr (Or.inr p4)))]
        · rw [if_neg p4, if_neg]
          rintro (c | c | c | c)
          · exact p1 c
          · exact p2 c
          · exact p3 c
          · exact p4 c
end BS
theorem k7_p61 {κ : Nat → Int32} {μ : Nat → Nat} {a y : Nat} {ζ : mg_Sz} (hκ : ∀ q, q < 70 → ζ.1 2 q 0 = κ q) (hM : mg_M κ μ) (hy : y < 7) : ∀ (n x : Nat) (x4 : Int32) (O : Nat → Nat → Int32), x ≤ 10 → 10 < n + x → mg_po κ μ a O →
    ∃ x4' O', f_X7_pond_61 (nI y) ζ n x4 (nI x) O = some (x4', nI 10, O') ∧ mg_po κ μ a O' ∧ ((x4' = x4 ∧ O' = O ∧ ∀ x', x ≤ x' → x' < 10 → κ (10 * y + x') = 2 → mg_bes O y x' → ¬ O y x' = 0) ∨ (x4' = 1 ∧ mq_oc O < mq_oc O')) := by
  intro n; induction n with
  | zero => intro x x4 O h1 h2; omega
  | succ n ih =>
    intro x x4 O h1 h2 hO
    rcases Nat.lt_or_ge x 10 with h | h
    · unfold f_X7_pond_61
      rw [if_neg (mg_le (N := 10) (M := 10) rfl (by omega) h)]
      simp only [mg_ixn hy (show 7 ≤ 70 by omega), mg_ixn h (show 10 ≤ 70 by omega), Option.bind_some, mg_t1 h, mg_t2 h, mg_t3 hy, mg_t4 hy]
      rw [mg_bes_if, Option.bind_some, hκ (10 * y + x) (by omega), ← nI_succ]
      have skip : (κ (10 * y + x) = 2 → mg_bes O y x → ¬ O y x = 0) → ∃ x4' O', f_X7_pond_61 (nI y) ζ n x4 (nI (x + 1)) O = some (x4', nI 10, O') ∧ mg_po κ μ a O' ∧ ((x4' = x4 ∧ O' = O ∧ ∀ x', x ≤ x' → x' < 10 → κ (10 * y + x') = 2 → mg_bes O y x' → ¬ O y x' = 0) ∨ (x4' = 1 ∧ mq_oc O < mq_oc O')) := by
        intro hs
        obtain ⟨x4', O', q1, q2, q3⟩ := ih (x + 1) x4 O (by omega) (by omega) hO
        refine ⟨x4', O', q1, q2, ?_⟩
        rcases q3 with ⟨e1, e2, e3⟩ | q3
        · refine Or.inl ⟨e1, e2, fun x' hx hx2 => ?_⟩
          rcases Nat.lt_or_ge x x' with h' | h'
          · exact e3 x' h' hx2
          · have e : x' = x := by omega
            subst e; exact hs
        · exact Or.inr q3
      by_cases o : O y x = 0
      · rw [if_pos o]
        by_cases k : κ (10 * y + x) = 2
        · rw [if_pos k]
          by_cases b : mg_bes O y x
          · rw [if_pos b, if_neg (show ¬ (1 : Int32) = 0 by decide)]
            obtain ⟨q, hq, had, ho⟩ := mg_bes_adj hy h b
            obtain ⟨kq, mq⟩ := (hO.2 q hq).2 ho
            have mx : μ (10 * y + x) = μ a := by rw [(hM (10 * y + x) (by omega) k).2.2.1 q hq kq had, mq]
            have hd : (10 * y + x) / 10 = y ∧ (10 * y + x) % 10 = x := by omega
            have hO' : mg_po κ μ a (mg_mu O y x (vp_nar .boolean 1)) := by
              refine ⟨?_, fun r hr => ?_⟩
              · rw [mg_mu_at]; split
                · decide
                · exact hO.1
              · rw [mg_mu_at]
                by_cases e : r / 10 = y ∧ r % 10 = x
                · have er : r = 10 * y + x := by omega
                  rw [if_pos e, er]; exact ⟨Or.inr (by decide), fun _ => ⟨k, mx⟩⟩
                · rw [if_neg e]; exact hO.2 r hr
            have hlt : mq_oc (mg_mu O y x (vp_nar .boolean 1)) = mq_oc O + 1 := by
              unfold mq_oc
              refine mg_ns_off (k := 10 * y + x) (by omega) ?_ ?_
              · have e1 : mg_mu O y x (vp_nar .boolean 1) ((10 * y + x) / 10) ((10 * y + x) % 10) = 1 := by rw [hd.1, hd.2, mg_mu_at, if_pos ⟨rfl, rfl⟩]; rfl
                have e2 : O ((10 * y + x) / 10) ((10 * y + x) % 10) = 0 := by rw [hd.1, hd.2]; exact o
                simp only [e1, e2]; decide
              · intro r hr hne
                have e : mg_mu O y x (vp_nar .boolean 1) (r / 10) (r % 10) = O (r / 10) (r % 10) := by
                  rw [mg_mu_at]; exact if_neg (fun e => hne (by omega))
                simp only [e]
            obtain ⟨x4', O', q1, q2, q3⟩ := ih (x + 1) 1 _ (by omega) (by omega) hO'
            refine ⟨x4', O', q1, q2, Or.inr ?_⟩
            rcases q3 with ⟨e1, e2, -⟩ | ⟨e1, e2⟩
            · exact ⟨e1, by rw [e2]; omega⟩
            · exact ⟨e1, by omega⟩
          · rw [if_neg b, if_pos rfl]; exact skip (fun _ c => absurd c b)
        · rw [if_neg k]; exact skip (fun c => absurd c k)
      · rw [if_neg o]; exact skip (fun _ _ => o)
    · have e : x = 10 := by omega
      subst e
      unfold f_X7_pond_61
      rw [if_pos (show (10 : Int32) ≤ nI 10 by decide +kernel)]
      exact ⟨x4, O, rfl, hO, Or.inl ⟨rfl, rfl, fun x' _ _ => by omega⟩⟩
theorem k7_p51 {κ : Nat → Int32} {μ : Nat → Nat} {a : Nat} {ζ : mg_Sz} (hκ : ∀ q, q < 70 → ζ.1 2 q 0 = κ q) (hM : mg_M κ μ) : ∀ (n y : Nat) (x4 : Int32) (O : Nat → Nat → Int32), y ≤ 7 → 7 < n + y → mg_po κ μ a O →
    ∃ x4' O', f_X7_pond_51 ζ n x4 (nI y) O = some (x4', nI 7, O') ∧ mg_po κ μ a O' ∧ ((x4' = x4 ∧ O' = O ∧ ∀ y', y ≤ y' → y' < 7 → ∀ x', x' < 10 → κ (10 * y' + x') = 2 → mg_bes O y' x' → ¬ O y' x' = 0) ∨ (x4' = 1 ∧ mq_oc O < mq_oc O')) := by
  intro n; induction n with
  | zero => intro y x4 O h1 h2; omega
  | succ n ih =>
    intro y x4 O h1 h2 hO
    unfold f_X7_pond_51
    rcases Nat.lt_or_ge y 7 with h | h
    · rw [if_neg (mg_le (N := 7) (M := 7) rfl (by omega) h)]
      obtain ⟨x2, O2, q1, q2, q3⟩ := k7_p61 (a := a) hκ hM h 5000 0 x4 O (by omega) (by omega) hO
      rw [nI_0] at q1
      rw [q1, Option.bind_some, ← nI_succ]
      obtain ⟨x3, O3, p1, p2, p3⟩ := ih (y + 1) x2 O2 (by omega) (by omega) q2
      refine ⟨x3, O3, p1, p2, ?_⟩
      rcases q3 with ⟨e1, e2, e3⟩ | ⟨e1, e2⟩
      · subst e1 e2
        rcases p3 with ⟨g1, g2, g3⟩ | g
        · subst g1 g2
          refine Or.inl ⟨rfl, rfl, fun y' hy hy2 x' hx => ?_⟩
          rcases Nat.lt_or_ge y y' with h' | h'
          · exact g3 y' h' hy2 x' hx
          · have e : y' = y := by omega
            subst e; exact e3 x' (by omega) hx
        · exact Or.inr g
      · refine Or.inr ?_
        rcases p3 with ⟨g1, g2, -⟩ | ⟨g1, g2⟩
        · subst g1 g2; exact ⟨e1, e2⟩
        · exact ⟨g1, by omega⟩
    · have e : y = 7 := by omega
      subst e
      rw [if_pos (show (7 : Int32) ≤ nI 7 by decide +kernel)]
      exact ⟨x4, O, rfl, hO, Or.inl ⟨rfl, rfl, fun y' _ _ => by omega⟩⟩
theorem k7_p40 {κ : Nat → Int32} {μ : Nat → Nat} {a : Nat} {ζ : mg_Sz} (hκ : ∀ q, q < 70 → ζ.1 2 q 0 = κ q) (hM : mg_M κ μ) : ∀ (n : Nat) (O : Nat → Nat → Int32), 72 < n + mq_oc O → mg_po κ μ a O →
    ∃ O', f_X7_pond_40 ζ n 1 O = some (0, O') ∧ mg_po κ μ a O' ∧ ∀ y', y' < 7 → ∀ x', x' < 10 → κ (10 * y' + x') = 2 → mg_bes O' y' x' → ¬ O' y' x' = 0 := by
  intro n; induction n with
  | zero => intro O h; have := mq_oc_le (O := O); omega
  | succ n ih =>
    intro O hn hO
    unfold f_X7_pond_40
    rw [if_neg (show ¬ (1 : Int32) = 0 by decide)]
    obtain ⟨x2, O2, q1, q2, q3⟩ := k7_p51 (a := a) hκ hM 5000 0 0 O (by omega) (by omega) hO
    rw [nI_0] at q1
    rw [q1, Option.bind_some]
    rcases q3 with ⟨e1, e2, e3⟩ | ⟨e1, e2⟩
    · subst e1 e2
      obtain ⟨m, rfl⟩ : ∃ m, n = m + 1 := ⟨n - 1, by have := mq_oc_le (O := O2); omega⟩
      unfold f_X7_pond_40
      exact ⟨O2, by rw [if_pos rfl], hO, fun y' hy => e3 y' (by omega) hy⟩
    · subst e1
      exact ih O2 (by omega) q2
/-- the marks of a pond -/
def mg_om (κ : Nat → Int32) (μ : Nat → Nat) (a : Nat) (O : Nat → Nat → Int32) : Prop := ∀ q, q < 70 → O (q / 10) (q % 10) = if κ a = 2 ∧ κ q = 2 ∧ μ q = μ a then 1 else 0
theorem k7_pond {κ : Nat → Int32} {μ : Nat → Nat} {a : Nat} {ζ : mg_Sz} (hκ : ∀ q, q < 70 → ζ.1 2 q 0 = κ q) (hM : mg_M κ μ) (ha : a < 70) :
    ∃ O, f_X7_pond ζ (nI (a % 10)) (nI (a / 10)) = some O ∧ mg_om κ μ a O := by
  have hy : a / 10 < 7 := by omega
  have hx : a % 10 < 10 := by omega
  unfold f_X7_pond
  simp only [mg_ixn hy (show 7 ≤ 70 by omega), mg_ixn hx (show 10 ≤ 70 by omega), Option.bind_some]
  rw [hκ (10 * (a / 10) + a % 10) (by omega), show 10 * (a / 10) + a % 10 = a by omega]
  by_cases k : κ a = 2
  · rw [if_pos k, Option.bind_some]
    have hO : mg_po κ μ a (mg_mu (fun _ _ => 0) (a / 10) (a % 10) (vp_nar .boolean 1)) := by
      refine ⟨by rw [mg_mu_at, if_pos ⟨rfl, rfl⟩]; decide, fun q hq => ?_⟩
      rw [mg_mu_at]
      by_cases e : q / 10 = a / 10 ∧ q % 10 = a % 10
      · have er : q = a := by omega
        rw [if_pos e, er]; exact ⟨Or.inr (by decide), fun _ => ⟨k, rfl⟩⟩
      · rw [if_neg e]; exact ⟨Or.inl rfl, fun c => absurd rfl c⟩
    rw [show (mg_mu (fun _ _ => 0) (a / 10) (a % 10) (vp_nar .boolean 1)) (a / 10) (a % 10) = 1 from by rw [mg_mu_at, if_pos ⟨rfl, rfl⟩]; rfl]
    obtain ⟨O, q1, q2, q3⟩ := k7_p40 (a := a) hκ hM 5000 _ (by omega) hO
    rw [q1, Option.bind_some]
    refine ⟨O, rfl, fun q hq => ?_⟩
    by_cases c : κ q = 2 ∧ μ q = μ a
    · rw [if_pos ⟨k, c⟩]
      have hcl : mg_cl κ (fun r => ¬ O (r / 10) (r % 10) = 0) := by
        intro r s hr hs kr ks had ho
        have := q3 (s / 10) (by omega) (s % 10) (by omega) (by rw [show 10 * (s / 10) + s % 10 = s by omega]; exact ks) (mg_adj_bes hs hr (mg_adj_sym hr hs had) ho)
        exact this
      have h1 := ((hM a ha k).2.2.2 _ hcl).1 q2.1
      have h2 := ((hM q hq c.1).2.2.2 _ hcl).2 (by rw [c.2]; exact h1)
      rcases (q2.2 q hq).1 with h | h
      · exact absurd h h2
      · exact h
    · rw [if_neg (fun d => c d.2)]
      rcases (q2.2 q hq).1 with h | h
      · exact h
      · exact absurd ((q2.2 q hq).2 (by rw [h]; decide)) c
  · rw [if_neg k, Option.bind_some]
    unfold f_X7_pond_40
    rw [if_pos (show (mg_mu (fun _ _ => 0) (a / 10) (a % 10) (vp_nar .boolean 0)) (a / 10) (a % 10) = 0 from by rw [mg_mu_at, if_pos ⟨rfl, rfl⟩]; rfl), Option.bind_some]
    refine ⟨_, rfl, fun q hq => ?_⟩
    rw [if_neg (fun d => k d.1)]
    dsimp only
    rw [mg_mu_at]
    split <;> rfl
/-! ===== how many cells and carps ===== -/
theorem k7_many34 {O : Nat → Nat → Int32} {y : Nat} {a3 a4 : Int32} (hy : y < 7) : ∀ (n x : Nat), x ≤ 10 → 10 < n + x → f_X7_many_34 y a3 a4 (nI 10) O n (mg_sum (fun q => if O (q / 10) (q % 10) = 0 then 0 else 1) (10 * y + x)) (nI x) = some (mg_sum (fun q => if O (q / 10) (q % 10) = 0 then 0 else 1) (10 * y + 10), nI 10) := by
  intro n; induction n with
  | zero => intro x h1 h2; omega
  | succ n ih =>
    intro x h1 h2
    unfold f_X7_many_34
    rcases Nat.lt_or_ge x 10 with h | h
    · rw [if_neg (nI_ge h (by omega)), mg_ixn h (by omega), Option.bind_some, ← nI_succ]
      have := ih (x + 1) (by omega) (by omega)
      rw [← Nat.add_assoc, mg_sum_s] at this
      rw [show (10 * y + x) / 10 = y by omega, show (10 * y + x) % 10 = x by omega] at this
      by_cases o : O y x = 0
      · rw [if_pos o] at this; rw [if_pos o]; exact this
      · rw [if_neg o] at this; rw [if_neg o]; exact this
    · have e : x = 10 := by omega
      subst e
      rw [if_pos (Int32.le_refl _)]
theorem k7_many10 {O : Nat → Nat → Int32} : ∀ (n y : Nat), y ≤ 7 → 7 < n + y → f_X7_many_10 (nI 7) O n (mg_sum (fun q => if O (q / 10) (q % 10) = 0 then 0 else 1) (10 * y)) (nI y) = some (mg_sum (fun q => if O (q / 10) (q % 10) = 0 then 0 else 1) 70, nI 7) := by
  intro n; induction n with
  | zero => intro y h1 h2; omega
  | succ n ih =>
    intro y h1 h2
    unfold f_X7_many_10
    rcases Nat.lt_or_ge y 7 with h | h
    · rw [if_neg (nI_ge h (by omega)), mg_ixn h (by omega), Option.bind_some]
      have := k7_many34 (O := O) (a3 := nI 7) (a4 := nI y) h 5000 0 (by omega) (by omega)
      rw [Nat.add_zero, nI_0] at this
      rw [this, Option.bind_some, ← nI_succ]
      exact ih (y + 1) (by omega) (by omega)
    · have e : y = 7 := by omega
      subst e
      rw [if_pos (Int32.le_refl _)]
theorem k7_many {O : Nat → Nat → Int32} : f_X7_many O = some (mg_sum (fun q => if O (q / 10) (q % 10) = 0 then 0 else 1) 70) := by
  unfold f_X7_many
  have := k7_many10 (O := O) 5000 0 (by omega) (by omega)
  rw [Nat.mul_zero, nI_0, show mg_sum (fun q => if O (q / 10) (q % 10) = 0 then 0 else 1) 0 = 0 from rfl] at this
  rw [this]; rfl
theorem k7_many_om {κ : Nat → Int32} {μ : Nat → Nat} {a : Nat} {O : Nat → Nat → Int32} (h : mg_om κ μ a O) : f_X7_many O = some (if κ a = 2 then mg_cells κ μ a else 0) := by
  rw [k7_many]
  refine congrArg some ?_
  by_cases k : κ a = 2
  · rw [if_pos k]
    refine mg_sum_congr (fun q hq => ?_)
    by_cases c : κ q = 2 ∧ μ q = μ a
    · have e : O (q / 10) (q % 10) = 1 := by rw [h q hq, if_pos ⟨k, c⟩]
      rw [e, if_neg (by decide), if_pos c]
    · have e : O (q / 10) (q % 10) = 0 := by rw [h q hq, if_neg (fun d => c d.2)]
      rw [e, if_pos rfl, if_neg c]
  · rw [if_neg k]
    refine (mg_sum_congr (fun q hq => ?_)).trans mg_sum_zero
    have e : O (q / 10) (q % 10) = 0 := by rw [h q hq, if_neg (fun d => k d.1)]
    rw [e, if_pos rfl]
/-- where the carps by hand are -/
def mg_cp (ζ : mg_Sz) (c : Nat) (pl : Nat → Nat) : Prop := ∀ j, j < c → pl j < 70 ∧ ζ.1 3 j 0 = nI (pl j % 10) ∧ ζ.1 3 j 1 = nI (pl j / 10)
theorem k7_ci14 {ζ : mg_Sz} {c : Nat} {pl : Nat → Nat} {O : Nat → Nat → Int32} (hc : ζ.2 0 = c) (h30 : c ≤ 30) (hp : mg_cp ζ c pl) : ∀ (n j : Nat), j ≤ c → c < n + j → f_X7_carpsIn_14 (nI c) ζ O n (mg_sum (fun j => if ζ.1 3 j 3 = 0 then (if O (pl j / 10) (pl j % 10) = 0 then 0 else 1) else 0) j) (nI j) = some (mg_sum (fun j => if ζ.1 3 j 3 = 0 then (if O (pl j / 10) (pl j % 10) = 0 then 0 else 1) else 0) c, nI c) := by
  intro n; induction n with
  | zero => intro j h1 h2; omega
  | succ n ih =>
    intro j h1 h2
    unfold f_X7_carpsIn_14
    rcases Nat.lt_or_ge j c with h | h
    · obtain ⟨p1, p2, p3⟩ := hp j h
      rw [if_neg (nI_ge h (by omega)), hc, mg_ixn h (by omega), Option.bind_some, p2, p3, mg_ixn (show pl j / 10 < 7 by omega) (by omega), mg_ixn (show pl j % 10 < 10 by omega) (by omega), Option.bind_some, Option.bind_some, ← nI_succ]
      have := ih (j + 1) (by omega) (by omega)
      rw [mg_sum_s] at this
      by_cases s : ζ.1 3 j 3 = 0
      · rw [if_pos s] at this; rw [if_pos s]
        by_cases o : O (pl j / 10) (pl j % 10) = 0
        · rw [if_pos o] at this; rw [if_pos o]; exact this
        · rw [if_neg o] at this; rw [if_neg o]; exact this
      · rw [if_neg s] at this; rw [if_neg s]; exact this
    · have e : j = c := by omega
      subst e
      rw [if_pos (Int32.le_refl _)]
theorem k7_carpsIn {ζ : mg_Sz} {c : Nat} {pl : Nat → Nat} {O : Nat → Nat → Int32} (hc : ζ.2 0 = c) (h30 : c ≤ 30) (hp : mg_cp ζ c pl) : f_X7_carpsIn ζ O = some (mg_sum (fun j => if ζ.1 3 j 3 = 0 then (if O (pl j / 10) (pl j % 10) = 0 then 0 else 1) else 0) c) := by
  unfold f_X7_carpsIn
  have := k7_ci14 (O := O) hc h30 hp 5000 0 (by omega) (by omega)
  rw [nI_0, show mg_sum (fun j => if ζ.1 3 j 3 = 0 then (if O (pl j / 10) (pl j % 10) = 0 then 0 else 1) else 0) 0 = 0 from rfl] at this
  rw [hc, this]; rfl
/-- the carps of a pond, by marks -/
def mg_in (κ : Nat → Int32) (μ : Nat → Nat) (c : Nat) (sold : Nat → Int32) (pl : Nat → Nat) (a : Nat) : Int32 := mg_sum (fun j => if sold j = 0 then (if μ (pl j) = μ a then 1 else 0) else 0) c
theorem k7_carpsIn_om {κ : Nat → Int32} {μ : Nat → Nat} {a c : Nat} {ζ : mg_Sz} {pl : Nat → Nat} {O : Nat → Nat → Int32} (hc : ζ.2 0 = c) (h30 : c ≤ 30) (hp : mg_cp ζ c pl) (hw : ∀ j, j < c → ζ.1 3 j 3 = 0 → κ (pl j) = 2) (h : mg_om κ μ a O) :
    f_X7_carpsIn ζ O = some (if κ a = 2 then mg_in κ μ c (fun j => ζ.1 3 j 3) pl a else 0) := by
  rw [k7_carpsIn hc h30 hp]
  refine congrArg some ?_
  by_cases k : κ a = 2
  · rw [if_pos k]
    refine mg_sum_congr (fun j hj => ?_)
    by_cases s : ζ.1 3 j 3 = 0
    · rw [if_pos s, if_pos s]
      by_cases m : μ (pl j) = μ a
      · have e : O (pl j / 10) (pl j % 10) = 1 := by rw [h _ (hp j hj).1, if_pos ⟨k, hw j hj s, m⟩]
        rw [e, if_neg (by decide), if_pos m]
      · have e : O (pl j / 10) (pl j % 10) = 0 := by rw [h _ (hp j hj).1, if_neg (fun d => m d.2.2)]
        rw [e, if_pos rfl, if_neg m]
    · rw [if_neg s, if_neg s]
  · rw [if_neg k]
    refine (mg_sum_congr (fun j hj => ?_)).trans mg_sum_zero
    have e : O (pl j / 10) (pl j % 10) = 0 := by rw [h _ (hp j hj).1, if_neg (fun d => k d.1)]
    rw [e, if_pos rfl]
    split <;> rfl
