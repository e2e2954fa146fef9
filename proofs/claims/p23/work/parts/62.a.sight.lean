/-! ===== what the garden by hand shows ===== -/
def mq_dx (d : Nat) : Int32 := if d = 1 then 1 else if d = 3 then -1 else 0
def mq_dy (d : Nat) : Int32 := if d = 2 then 1 else if d = 0 then -1 else 0
theorem mq_dir_fin : ∀ d : Fin 4, (if nI d.1 = 1 then some 1 else if nI d.1 = 3 then some (-1) else some 0 : Option Int32) = some (mq_dx d.1) ∧ (if nI d.1 = 2 then some 1 else if nI d.1 = 0 then some (-1) else some 0 : Option Int32) = some (mq_dy d.1) := by decide +kernel
theorem mq_step_fin : ∀ p : Fin 70, ∀ d : Fin 4, mg_nx p.1 d.1 = none → (nI (p.1 % 10) + mq_dx d.1 < 0 ∨ 9 < nI (p.1 % 10) + mq_dx d.1 ∨ nI (p.1 / 10) + mq_dy d.1 < 0 ∨ 6 < nI (p.1 / 10) + mq_dy d.1) := by decide +kernel
theorem mq_step2_fin : ∀ p : Fin 70, ∀ d : Fin 4, ∀ q : Fin 70, mg_nx p.1 d.1 = some q.1 → nI (p.1 % 10) + mq_dx d.1 = nI (q.1 % 10) ∧ nI (p.1 / 10) + mq_dy d.1 = nI (q.1 / 10) := by decide +kernel
theorem mq_le6 {x : Int32} : x ≤ 6 ↔ x < 7 := by constructor <;> intro h <;> grind
/-- a list of places, as pairs -/
def mq_ps (cP : Nat → Nat → Int32) (L : List Nat) : Prop := ∀ j q, L[j]? = some q → cP j 0 = nI (q % 10) ∧ cP j 1 = nI (q / 10)
theorem mq_ps_add {cP : Nat → Nat → Int32} {L : List Nat} {q : Nat} (h : mq_ps cP L) : mq_ps (mg_pu cP L.length (upd (upd (fun _ => 0) 0 (nI (q % 10))) 1 (nI (q / 10)))) (L ++ [q]) := by
  intro j r hr
  unfold mg_pu
  by_cases e : j = L.length
  · subst e
    rw [List.getElem?_append_right (Nat.le_refl _), Nat.sub_self] at hr
    cases hr
    rw [if_pos rfl]
    exact ⟨rfl, rfl⟩
  · rw [if_neg e]
    refine h j r ?_
    rcases Nat.lt_or_ge j L.length with h' | h'
    · rw [List.getElem?_append_left h'] at hr; exact hr
    · rw [List.getElem?_append_right h'] at hr
      rw [List.getElem?_eq_none (by simp; omega)] at hr; cases hr
theorem k7_sh14 {ζ : mg_Sz} {i d : Nat} (hd : d < 4) (h2 : ζ.1 4 i 2 = nI d) : ∀ (n p m : Nat) (cP : Nat → Nat → Int32) (L : List Nat), p < 70 → mg_rk p d < n → mg_rk p d ≤ m → L.length + mg_rk p d ≤ 9 → mq_ps cP L →
    ∃ cP', f_X7_shows_14 i ζ n (nI (p % 10)) (nI (p / 10)) L.length cP = some ((L ++ mg_see (mq_k ζ) (mq_z ζ) d m p).length, cP') ∧ mq_ps cP' (L ++ mg_see (mq_k ζ) (mq_z ζ) d m p) := by
  intro n; induction n with
  | zero => intro p m cP L h1 h2 h3; omega
  | succ n ih =>
    intro p m cP L hp hn hm hL hP
    unfold f_X7_shows_14
    rw [h2, (mq_dir_fin ⟨d, hd⟩).1, (mq_dir_fin ⟨d, hd⟩).2, Option.bind_some, Option.bind_some]
    cases hx : mg_nx p d with
    | none =>
      have he : mg_see (mq_k ζ) (mq_z ζ) d m p = [] := by
        cases m with
        | zero => rfl
        | succ m => unfold mg_see; rw [hx]
      rw [he, List.append_nil]
      refine ⟨cP, ?_, hP⟩
      rcases mq_step_fin ⟨p, hp⟩ ⟨d, hd⟩ hx with h | h | h | h
      · rw [if_pos h]
      · by_cases g1 : nI (p % 10) + mq_dx d < 0
        · rw [if_pos g1]
        · rw [if_neg g1, if_pos h]
      · by_cases g1 : nI (p % 10) + mq_dx d < 0
        · rw [if_pos g1]
        · rw [if_neg g1]
          by_cases g2 : 9 < nI (p % 10) + mq_dx d
          · rw [if_pos g2]
          · rw [if_neg g2, if_pos h]
      · by_cases g1 : nI (p % 10) + mq_dx d < 0
        · rw [if_pos g1]
        · rw [if_neg g1]
          by_cases g2 : 9 < nI (p % 10) + mq_dx d
          · rw [if_pos g2]
          · rw [if_neg g2]
            by_cases g3 : nI (p / 10) + mq_dy d < 0
            · rw [if_pos g3]
            · rw [if_neg g3, if_pos h]
    | some q =>
      obtain ⟨hq, hrk⟩ := mg_nx_lt hp hd hx
      obtain ⟨s1, s2⟩ := mq_step2_fin ⟨p, hp⟩ ⟨d, hd⟩ ⟨q, hq⟩ hx
      dsimp only at s1 s2
      obtain ⟨m, rfl⟩ : ∃ m', m = m' + 1 := ⟨m - 1, by omega⟩
      have hsee : mg_see (mq_k ζ) (mq_z ζ) d (m + 1) p = if mq_k ζ q = 3 then [] else if mq_k ζ q = 1 ∧ ¬ mq_z ζ q < 7 then [q] else q :: mg_see (mq_k ζ) (mq_z ζ) d m q := by
        rw [mg_see, hx]
      have g2 : ¬ (9 : Int32) < nI (q % 10) := nI_nlt (a := 9) (b := q % 10) (by omega) (by omega)
      have g4 : ¬ (6 : Int32) < nI (q / 10) := nI_nlt (a := 6) (b := q / 10) (by omega) (by omega)
      rw [s1, s2, if_neg (nI_pos (by omega)), if_neg g2, if_neg (nI_pos (by omega)), if_neg g4]
      simp only [mg_ixn (show q / 10 < 7 by omega) (show 7 ≤ 70 by omega), mg_ixn (show q % 10 < 10 by omega) (show 10 ≤ 70 by omega), Option.bind_some]
      rw [show 10 * (q / 10) + q % 10 = q by omega, hsee]
      by_cases k3 : mq_k ζ q = 3
      · rw [if_pos (show ζ.1 2 q 0 = 3 from k3), if_pos k3, List.append_nil]
        exact ⟨cP, rfl, hP⟩
      · rw [if_neg (show ¬ ζ.1 2 q 0 = 3 from k3), if_neg k3, show mg_gd (L.length ≤ 30) = some () from if_pos (by omega), Option.bind_some]
        have hP' := mq_ps_add (q := q) hP
        have go : mg_see (mq_k ζ) (mq_z ζ) d (m + 1) p = q :: mg_see (mq_k ζ) (mq_z ζ) d m q → ∃ cP', f_X7_shows_14 i ζ n (nI (q % 10)) (nI (q / 10)) (L.length + 1) (mg_pu cP L.length (upd (upd (fun _ => 0) 0 (nI (q % 10))) 1 (nI (q / 10)))) = some ((L ++ mg_see (mq_k ζ) (mq_z ζ) d (m + 1) p).length, cP') ∧ mq_ps cP' (L ++ mg_see (mq_k ζ) (mq_z ζ) d (m + 1) p) := by
          intro he
          obtain ⟨cP', r1, r2⟩ := ih q m _ (L ++ [q]) hq (by omega) (by omega) (by rw [List.length_append]; simp only [List.length_singleton]; omega) hP'
          rw [List.append_assoc, List.singleton_append, ← he] at r1 r2
          rw [List.length_append, List.length_singleton] at r1
          exact ⟨cP', r1, r2⟩
        rw [hsee, if_neg k3] at go
        by_cases k1 : mq_k ζ q = 1
        · rw [if_pos (show ζ.1 2 q 0 = 1 from k1)]
          by_cases kz : mq_z ζ q < 7
          · rw [if_pos (show ζ.1 2 q 2 ≤ 6 from mq_le6.2 kz), if_neg (fun c => c.2 kz)]
            rw [if_neg (fun c => c.2 kz)] at go
            exact go rfl
          · rw [if_neg (show ¬ ζ.1 2 q 2 ≤ 6 from fun c => kz (mq_le6.1 c)), if_pos ⟨k1, kz⟩]
            exact ⟨_, by rw [List.length_append]; rfl, hP'⟩
        · rw [if_neg (show ¬ ζ.1 2 q 0 = 1 from k1), if_neg (fun c => k1 c.1)]
          rw [if_neg (fun c => k1 c.1)] at go
          exact go rfl
section SG
variable {σ : mg_St} {ζ : mg_Sz} {c g p : Nat} {μ : Nat → Nat}
theorem k7_shows (hT : mq_T σ ζ c g p μ) {i : Nat} (hi : i < g) : ∃ cP, f_X7_shows i ζ = some ((mq_see ζ i).length, cP) ∧ mq_ps cP (mq_see ζ i) := by
  obtain ⟨h1, h2, h3, h4, h5, h6, h7⟩ := mq_gate hT hi
  have hrk := mg_rk_le (d := mq_dr ζ i) h1
  obtain ⟨cP, r1, r2⟩ := k7_sh14 (i := i) h2 h7 11 (mq_pl ζ 4 i) 10 (fun _ _ => 0) [] h1 (by omega) (by omega) (by simp only [List.length_nil]; omega) (fun j q h => by cases h)
  unfold f_X7_shows
  rw [h5, h6]
  exact ⟨cP, r1, r2⟩
/-- a view is no longer than the way to the rim -/
theorem mq_see_rk {κ β : Nat → Int32} {d : Nat} (hd : d < 4) : ∀ (n p : Nat), p < 70 → (mg_see κ β d n p).length ≤ mg_rk p d := by
  intro n; induction n with
  | zero => intro p hp; exact Nat.zero_le _
  | succ n ih =>
    intro p hp
    unfold mg_see
    cases hn : mg_nx p d with
    | none => exact Nat.zero_le _
    | some r =>
      obtain ⟨hr, hrk⟩ := mg_nx_lt hp hd hn
      dsimp only
      split
      · exact Nat.zero_le _
      · split
        · simp only [List.length_singleton]; omega
        · have := ih r hr; simp only [List.length_cons]; omega
theorem mq_see_9 (hT : mq_T σ ζ c g p μ) {i : Nat} (hi : i < g) : (mq_see ζ i).length ≤ 9 := by
  obtain ⟨h1, h2, -⟩ := mq_gate hT hi
  exact Nat.le_trans (mq_see_rk h2 10 _ h1) (mg_rk_le h1)
theorem k7_b52 {i : Nat} {cP : Nat → Nat → Int32} {L : List Nat} {q k : Nat} {a3 : Int32} (hP : mq_ps cP L) (hL : ∀ r, r ∈ L → r < 70) (hl : L.length ≤ 9) (hk : k < L.length) : ∀ (n j : Nat) (b : Int32), j ≤ k → k < n + j → (b = 0 ∨ b = 1) →
    f_X7_beauty_52 i (q / 10) (q % 10) a3 (nI k) ζ L.length cP n b (nI j) = some (if ∀ r, r ∈ (L.take k).drop j → mq_k ζ r = 1 → mq_s ζ r ≠ ζ.1 2 (10 * (q / 10) + q % 10) 1 then b else 0, nI k) := by
  intro n; induction n with
  | zero => intro j b h1 h2; omega
  | succ n ih =>
    intro j b h1 h2 hb
    unfold f_X7_beauty_52
    rcases Nat.lt_or_ge j k with h | h
    · have hjl : j < L.length := by omega
      have hr := List.getElem?_eq_getElem hjl
      obtain ⟨p0, p1⟩ := hP j _ hr
      have hr70 : L[j] < 70 := hL _ (List.getElem_mem hjl)
      have hdrop : (L.take k).drop j = L[j] :: (L.take k).drop (j + 1) := by
        have hjt : j < (L.take k).length := by rw [List.length_take]; omega
        rw [List.drop_eq_getElem_cons hjt]
        congr 1
        exact List.getElem_take
      rw [if_neg (nI_ge h (by omega))]
      simp only [mg_ixn hjl (show L.length ≤ 70 by omega), Option.bind_some, p0, p1, mg_ixn (show L[j] / 10 < 7 by omega) (show 7 ≤ 70 by omega), mg_ixn (show L[j] % 10 < 10 by omega) (show 10 ≤ 70 by omega)]
      rw [show 10 * (L[j] / 10) + L[j] % 10 = L[j] by omega, ← nI_succ, hdrop]
      have b0 : b &&& 0 = 0 := by rcases hb with h | h <;> subst h <;> decide
      have b1 : b &&& 1 = b := by rcases hb with h | h <;> subst h <;> decide
      simp only [Option.bind_some, b0, b1]
      have yes : ¬ (mq_k ζ L[j] = 1 ∧ mq_s ζ L[j] = ζ.1 2 (10 * (q / 10) + q % 10) 1) → ((∀ r, r ∈ (L.take k).drop (j + 1) → mq_k ζ r = 1 → mq_s ζ r ≠ ζ.1 2 (10 * (q / 10) + q % 10) 1) ↔ (∀ r, r ∈ L[j] :: (L.take k).drop (j + 1) → mq_k ζ r = 1 → mq_s ζ r ≠ ζ.1 2 (10 * (q / 10) + q % 10) 1)) := by
        intro hno
        constructor
        · intro a r hr kr
          rcases List.mem_cons.1 hr with e | e
          · subst e; exact fun c => hno ⟨kr, c⟩
          · exact a r e kr
        · intro a r hr; exact a r (List.mem_cons_of_mem _ hr)
      by_cases k1 : mq_k ζ L[j] = 1
      · rw [if_pos (show ζ.1 2 L[j] 0 = 1 from k1)]
        by_cases ks : mq_s ζ L[j] = ζ.1 2 (10 * (q / 10) + q % 10) 1
        · rw [if_pos (show ζ.1 2 L[j] 1 = _ from ks), ih (j + 1) 0 (by omega) (by omega) (Or.inl rfl), ite_self, if_neg]
          intro a; exact a _ List.mem_cons_self k1 ks
        · rw [if_neg (show ¬ ζ.1 2 L[j] 1 = _ from ks), ih (j + 1) b (by omega) (by omega) hb]
          rw [mg_if (yes (fun c => ks c.2))]
      · rw [if_neg (show ¬ ζ.1 2 L[j] 0 = 1 from k1), ih (j + 1) b (by omega) (by omega) hb]
        rw [mg_if (yes (fun c => k1 c.1))]
    · have e : j = k := by omega
      subst e
      rw [if_pos (Int32.le_refl _), if_pos]
      intro r hr
      rw [List.drop_take, Nat.sub_self, List.take_zero] at hr
      cases hr
theorem k7_b169 (hT : mq_T σ ζ c g p μ) {i k q : Nat} {cP : Nat → Nat → Int32} {N : Nat} {a3 : Int32} (hk : k < N) (hN : N ≤ 9) (h0 : cP k 0 = nI (q % 10)) (h1 : cP k 1 = nI (q / 10)) (hq : q < 70) : ∀ (n j : Nat), j ≤ c → c < n + j →
    f_X7_beauty_169 i a3 (nI k) (nI c) ζ N cP n (mg_sum (fun k => if ζ.1 3 k 3 = 0 then (if mq_pl ζ 3 k = q then ζ.1 3 k 2 else 0) else 0) j) (nI j) = some (mq_szin ζ c q, nI c) := by
  obtain ⟨c30, -, -⟩ := mq_c30 hT
  intro n; induction n with
  | zero => intro j h1 h2; omega
  | succ n ih =>
    intro j hj1 hj2
    unfold f_X7_beauty_169
    rcases Nat.lt_or_ge j c with h | h
    · obtain ⟨m1, m2, m3, m4, -⟩ := mq_carp hT h
      have := ih (j + 1) (by omega) (by omega)
      rw [mg_sum_s] at this
      rw [if_neg (nI_ge h (by omega)), hT.2.1.1, mg_ixn h (by omega), Option.bind_some, mg_ixn hk (by omega), Option.bind_some, Option.bind_some, h0, h1, m3, m4, ← nI_succ]
      by_cases s : ζ.1 3 j 3 = 0
      · rw [if_pos s] at this; rw [if_pos s]
        by_cases e : mq_pl ζ 3 j = q
        · rw [if_pos e] at this
          rw [if_pos (by rw [e]), if_pos (by rw [e])]; exact this
        · rw [if_neg e, Int32.add_zero] at this
          by_cases e1 : mq_pl ζ 3 j % 10 = q % 10
          · rw [if_pos (by rw [e1]), if_neg (fun d => e (by have := mg_inj (by omega) (by omega) d; omega))]; exact this
          · rw [if_neg (fun d => e1 (mg_inj (by omega) (by omega) d))]; exact this
      · rw [if_neg s, Int32.add_zero] at this; rw [if_neg s]; exact this
    · have e : j = c := by omega
      subst e
      rw [if_pos (Int32.le_refl _)]; rfl
theorem mq_add_eq {pre : List Nat} {q : Nat} : mq_add ζ c pre q = if mq_k ζ q = 1 then mq_z ζ q + (if ∀ r, r ∈ pre → mq_k ζ r = 1 → mq_s ζ r ≠ mq_s ζ q then 4 else 0) else if mq_k ζ q = 2 then 3 + mq_szin ζ c q / 10 else 0 := rfl
theorem k7_b11 (hT : mq_T σ ζ c g p μ) {i : Nat} {cP : Nat → Nat → Int32} {L : List Nat} (hP : mq_ps cP L) (hL : ∀ r, r ∈ L → r < 70) (hl : L.length ≤ 9) : ∀ (l pre : List Nat) (n : Nat) (acc : Int32), L = pre ++ l → l.length < n →
    f_X7_beauty_11 i ζ L.length cP n acc (nI pre.length) = some (mq_bt ζ c pre l acc, nI L.length) := by
  obtain ⟨c30, -, -⟩ := mq_c30 hT
  intro l; induction l with
  | nil =>
    intro pre n acc e hn
    obtain ⟨n, rfl⟩ : ∃ n', n = n' + 1 := ⟨n - 1, by simp only [List.length_nil] at hn; omega⟩
    rw [List.append_nil] at e
    unfold f_X7_beauty_11
    rw [← e, if_pos (Int32.le_refl _)]; rfl
  | cons q l ih =>
    intro pre n acc e hn
    obtain ⟨n, rfl⟩ : ∃ n', n = n' + 1 := ⟨n - 1, by simp only [List.length_cons] at hn; omega⟩
    have hlen : L.length = pre.length + l.length + 1 := by rw [e]; simp; omega
    have hk : pre.length < L.length := by omega
    have hget : L[pre.length]? = some q := by rw [e, List.getElem?_append_right (Nat.le_refl _), Nat.sub_self]; rfl
    have hq : q < 70 := hL q (by rw [e]; simp)
    obtain ⟨p0, p1⟩ := hP _ _ hget
    have htake : L.take pre.length = pre := by rw [e]; simp
    unfold f_X7_beauty_11
    rw [if_neg (nI_ge hk (by omega)), mg_ixn hk (by omega), Option.bind_some, p1, mg_ixn (show q / 10 < 7 by omega) (by omega), Option.bind_some, Option.bind_some, p0, mg_ixn (show q % 10 < 10 by omega) (by omega), Option.bind_some]
    have hnext := ih (pre ++ [q]) n (acc + mq_add ζ c pre q) (by rw [e]; simp) (by simp only [List.length_cons] at hn; omega)
    rw [List.length_append, List.length_singleton, nI_succ] at hnext
    have b52 := fun (x3 : Int32) => k7_b52 (ζ := ζ) (i := i) (q := q) (k := pre.length) (a3 := x3) hP hL hl hk 5000 0 1 (by omega) (by omega) (Or.inr rfl)
    simp only [nI_0, htake, List.drop_zero, show 10 * (q / 10) + q % 10 = q by omega] at b52
    have b169 := fun (x3 : Int32) => k7_b169 hT (i := i) (a3 := x3) hk hl p0 p1 hq 5000 0 (by omega) (by omega)
    simp only [nI_0, show mg_sum (fun k => if ζ.1 3 k 3 = 0 then (if mq_pl ζ 3 k = q then ζ.1 3 k 2 else 0) else 0) 0 = 0 from rfl] at b169
    rw [show 10 * (q / 10) + q % 10 = q by omega]
    show _ = some (mq_bt ζ c (pre ++ [q]) l (acc + mq_add ζ c pre q), nI L.length)
    rw [← hnext, mq_add_eq]
    by_cases k1 : mq_k ζ q = 1
    · have k2 : ¬ ζ.1 2 q 0 = 2 := by rw [show ζ.1 2 q 0 = 1 from k1]; decide
      rw [if_pos (show ζ.1 2 q 0 = 1 from k1), b52, Option.bind_some, if_pos k1]
      by_cases hn : ∀ r, r ∈ pre → mq_k ζ r = 1 → mq_s ζ r ≠ mq_s ζ q
      · rw [if_pos (show ∀ r, r ∈ pre → mq_k ζ r = 1 → mq_s ζ r ≠ ζ.1 2 q 1 from hn), if_pos hn]
        dsimp only
        rw [if_neg (show ¬ (1 : Int32) = 0 by decide), Option.bind_some, if_neg k2]
      · rw [if_neg (show ¬ ∀ r, r ∈ pre → mq_k ζ r = 1 → mq_s ζ r ≠ ζ.1 2 q 1 from hn), if_neg hn]
        dsimp only
        rw [if_pos rfl, Option.bind_some, if_neg k2]
    · rw [if_neg (show ¬ ζ.1 2 q 0 = 1 from k1), Option.bind_some, if_neg k1]
      by_cases k2 : mq_k ζ q = 2
      · rw [if_pos (show ζ.1 2 q 0 = 2 from k2), hT.2.1.1, b169, Option.bind_some, if_pos k2]
      · rw [if_neg (show ¬ ζ.1 2 q 0 = 2 from k2), if_neg k2, Int32.add_zero]
theorem k7_beauty (hT : mq_T σ ζ c g p μ) {i : Nat} (hi : i < g) : f_X7_beauty i ζ = some (mq_beauty ζ c i) := by
  obtain ⟨cP, r1, r2⟩ := k7_shows hT hi
  have h9 := mq_see_9 hT hi
  unfold f_X7_beauty
  rw [r1, Option.bind_some]
  have := k7_b11 hT (i := i) r2 (mq_see_lt hT hi) h9 (mq_see ζ i) [] 5000 0 rfl (by omega)
  rw [List.length_nil, nI_0] at this
  rw [this, Option.bind_some]; rfl
end SG
