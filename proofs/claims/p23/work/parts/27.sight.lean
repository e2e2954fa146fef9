/-! ===== the model's line of sight ===== -/
theorem k8_sh24 {τ : mg_St} {g d i : Nat} (hg : g < 6) (h10 : τ 10 g = nI d) (hd : d < 4) (hi : i < 100) : ∀ (n j p m : Nat), p < 70 → mg_rk p d < n → mg_rk p d ≤ m → j < 100 →
    ∀ k, j + k = i → f_X8_shows_24 τ (nI g) (nI i) n (nI (p % 10)) (nI (p / 10)) (nI j) = some (mg_oI ((mg_see (τ 3) (τ 5) d m p)[k]?)) := by
  intro n; induction n with
  | zero => intro j p m hp hn; omega
  | succ n ih =>
    intro j p m hp hn hm hj k hk
    unfold f_X8_shows_24
    simp only [mg_rdn hg (show 6 ≤ 70 by omega), h10, mg_rtn hd (show 4 ≤ 70 by omega), Option.bind_some]
    have hstep : f_X8_isCell τ (nI (p % 10) + mg_sx d) (nI (p / 10) + mg_sy d) = some (if mg_nx p d = none then 0 else 1) := k8_step_fin ⟨p, hp⟩ ⟨d, hd⟩
    rw [hstep, Option.bind_some]
    cases hx : mg_nx p d with
    | none =>
      have e : mg_see (τ 3) (τ 5) d m p = [] := by
        cases m with
        | zero => rfl
        | succ m => unfold mg_see; rw [hx]
      rw [e, if_pos rfl, if_pos rfl]; rfl
    | some q =>
      obtain ⟨hq, hr⟩ := mg_nx_lt hp hd hx
      obtain ⟨m', rfl⟩ : ∃ m', m = m' + 1 := ⟨m - 1, by omega⟩
      obtain ⟨e1, e2⟩ := k8_step2_fin ⟨p, hp⟩ ⟨d, hd⟩ ⟨q, hq⟩ hx
      simp only at e1 e2
      rw [if_neg (show ¬ (some q = none) by simp), if_neg (show ¬ (1 : Int32) = 0 by decide), e1, e2, (mg_coord hq).2.2]
      simp only [mg_rdn hq (Nat.le_refl 70), Option.bind_some]
      unfold mg_see
      rw [hx]
      simp only
      by_cases k3 : τ 3 q = 3
      · rw [if_pos k3, if_pos k3]; rfl
      · rw [if_neg k3, if_neg k3]
        by_cases hji : nI j = nI i
        · have e : j = i := mg_inj (by omega) (by omega) hji
          have ek : k = 0 := by omega
          subst ek
          rw [if_pos hji]
          by_cases kg : τ 3 q = 1 ∧ ¬ τ 5 q < 7
          · rw [if_pos kg]; rfl
          · rw [if_neg kg]; rfl
        · have ne : j ≠ i := fun e => hji (by rw [e])
          obtain ⟨k', rfl⟩ : ∃ k', k = k' + 1 := ⟨k - 1, by omega⟩
          rw [if_neg hji]
          by_cases k1 : τ 3 q = 1
          · rw [if_pos k1]
            by_cases kz : τ 5 q < 7
            · rw [if_pos kz, if_neg (fun c => c.2 kz), List.getElem?_cons_succ, ← nI_succ]
              exact ih (j + 1) q m' hq (by omega) (by omega) (by omega) k' (by omega)
            · rw [if_neg kz, if_pos ⟨k1, kz⟩]; rfl
          · rw [if_neg k1, if_neg (fun c => k1 c.1), List.getElem?_cons_succ, ← nI_succ]
            exact ih (j + 1) q m' hq (by omega) (by omega) (by omega) k' (by omega)
def mg_lin (τ : mg_St) (p d : Nat) : List Nat := mg_see (τ 3) (τ 5) d 10 p
theorem k8_shows {τ : mg_St} {g p d k : Nat} (hg : g < 6) (h9 : τ 9 g = nI p) (h10 : τ 10 g = nI d) (hp : p < 70) (hd : d < 4) (hk : k < 50) : f_X8_shows τ (nI g) (nI (k + 1)) = some (mg_oI ((mg_lin τ p d)[k]?)) := by
  unfold f_X8_shows
  simp only [mg_rdn hg (show 6 ≤ 70 by omega), h9, Option.bind_some]
  rw [(mg_coord hp).1, (mg_coord hp).2.1]
  have hrk := mg_rk_le (d := d) hp
  have := k8_sh24 (τ := τ) (g := g) (i := k + 1) hg h10 hd (by omega) 5000 1 p 10 hp (by omega) (by omega) (by omega) k (by omega)
  rw [nI_one] at this
  exact this
def mg_ct (P : Nat → Bool) : List Nat → Int32
  | [] => 0
  | q :: l => (if P q then 1 else 0) + mg_ct P l
theorem mg_drp {L : List Nat} {j q : Nat} {l : List Nat} (h : L.drop j = q :: l) : L[j]? = some q ∧ L.drop (j + 1) = l := by
  constructor
  · rw [← List.head?_drop, h]; rfl
  · rw [← List.drop_drop, h]; rfl
theorem mg_drp0 {L : List Nat} {j : Nat} (h : L.drop j = []) : L[j]? = none := by
  rw [← List.head?_drop, h]; rfl
theorem k8_many5 {τ : mg_St} {g p d : Nat} (v : Int32) (hg : g < 6) (h9 : τ 9 g = nI p) (h10 : τ 10 g = nI d) (hp : p < 70) (hd : d < 4) : ∀ (l : List Nat) (j n : Nat) (acc : Int32), (mg_lin τ p d).drop j = l → l.length < n → j + l.length < 30 →
    ∃ y, f_X8_many_5 τ (nI g) v n acc (nI (j + 1)) = some (acc + mg_ct (fun q => v = 0 ∨ τ 3 q = v) l, y) := by
  intro l; induction l with
  | nil =>
    intro j n acc hl hn hj
    obtain ⟨n, rfl⟩ : ∃ n', n = n' + 1 := ⟨n - 1, by simp only [List.length_nil] at hn; omega⟩
    unfold f_X8_many_5
    simp only [List.length_nil] at hj
    rw [k8_shows hg h9 h10 hp hd (by omega), mg_drp0 hl, Option.bind_some, if_pos (show mg_oI none = -1 from rfl)]
    exact ⟨_, by rw [mg_ct, Int32.add_zero]⟩
  | cons q l ih =>
    intro j n acc hl hn hj
    obtain ⟨n, rfl⟩ : ∃ n', n = n' + 1 := ⟨n - 1, by simp only [List.length_cons] at hn; omega⟩
    simp only [List.length_cons] at hn hj
    obtain ⟨d1, d2⟩ := mg_drp hl
    have hq : q < 70 := mg_see_lt hd 10 p hp q (List.mem_of_getElem? d1)
    unfold f_X8_many_5
    rw [k8_shows hg h9 h10 hp hd (by omega), d1, Option.bind_some, show mg_oI (some q) = nI q from rfl, if_neg (mg_m1 q (by omega)), Option.bind_some, mg_rdn hq (Nat.le_refl 70), Option.bind_some, ← nI_succ]
    have step : ∀ b : Int32, ∃ y, f_X8_many_5 τ (nI g) v n (acc + b) (nI (j + 1 + 1)) = some (acc + (b + mg_ct (fun q => v = 0 ∨ τ 3 q = v) l), y) := by
      intro b
      obtain ⟨y, hy⟩ := ih (j + 1) n (acc + b) d2 (by omega) (by omega)
      exact ⟨y, by rw [hy, Int32.add_assoc]⟩
    unfold mg_ct
    by_cases hv : v = 0
    · rw [if_pos hv]; simp only [hv, true_or, decide_true, if_true]
      have := step 1; simp only [hv, true_or, decide_true] at this; exact this
    · rw [if_neg hv]
      by_cases hk : τ 3 q = v
      · rw [if_pos hk]; simp only [hk, or_true, decide_true, if_true]; exact step 1
      · rw [if_neg hk]
        have e : decide (v = 0 ∨ τ 3 q = v) = false := by simp [hv, hk]
        simp only [e]; exact step 0
theorem k8_many {τ : mg_St} {g p d : Nat} (v : Int32) (hg : g < 6) (h9 : τ 9 g = nI p) (h10 : τ 10 g = nI d) (hp : p < 70) (hd : d < 4) : f_X8_many τ (nI g) v = some (mg_ct (fun q => v = 0 ∨ τ 3 q = v) (mg_lin τ p d)) := by
  unfold f_X8_many
  have hlen : (mg_lin τ p d).length ≤ 10 := mg_see_len hd 10 p
  obtain ⟨y, hy⟩ := k8_many5 (τ := τ) v hg h9 h10 hp hd (mg_lin τ p d) 0 5000 0 rfl (by omega) (by omega)
  rw [show (0 : Nat) + 1 = 1 from rfl, nI_one] at hy
  rw [hy, Option.bind_some]
  simp
/-- the model's beauty, one cell on -/
def mg_szat (τ : mg_St) (e c q : Nat) : Int32 := mg_sum (fun k => if τ 8 k = 0 then (if τ 7 k = nI q then τ (2 * e + 10) k else 0) else 0) c
def mg_bst (τ : mg_St) (e c : Nat) (x : Int32 × Int32) (q : Nat) : Int32 × Int32 :=
  if τ 3 q = 1 then (x.1 + (τ 5 q + (if ((x.2 >>> (τ 4 q &&& 31)) &&& 1) = 0 then 4 else 0)), x.2 ||| (1 <<< (τ 4 q &&& 31)))
  else if τ 3 q = 2 then (x.1 + (3 + mg_szat τ e c q / 10), x.2)
  else x
theorem k8_beauty8 {τ : mg_St} {e c g p d : Nat} (hc : τ 0 5 = nI c) (hc30 : c ≤ 30) (hg : g < 6) (h9 : τ 9 g = nI p) (h10 : τ 10 g = nI d) (hp : p < 70) (hd : d < 4) : ∀ (l : List Nat) (j n : Nat) (x3 x4 : Int32), (mg_lin τ p d).drop j = l → l.length < n → j + l.length < 30 →
    ∃ y, f_X8_beauty_8 τ e (nI g) n x3 x4 (nI (j + 1)) = some ((l.foldl (mg_bst τ e c) (x3, x4)).1, y) := by
  intro l; induction l with
  | nil =>
    intro j n x3 x4 hl hn hj
    obtain ⟨n, rfl⟩ : ∃ n', n = n' + 1 := ⟨n - 1, by simp only [List.length_nil] at hn; omega⟩
    unfold f_X8_beauty_8
    simp only [List.length_nil] at hj
    rw [k8_shows hg h9 h10 hp hd (by omega), mg_drp0 hl, Option.bind_some, if_pos (show mg_oI none = -1 from rfl)]
    exact ⟨_, rfl⟩
  | cons q l ih =>
    intro j n x3 x4 hl hn hj
    obtain ⟨n, rfl⟩ : ∃ n', n = n' + 1 := ⟨n - 1, by simp only [List.length_cons] at hn; omega⟩
    simp only [List.length_cons] at hn hj
    obtain ⟨d1, d2⟩ := mg_drp hl
    have hq : q < 70 := mg_see_lt hd 10 p hp q (List.mem_of_getElem? d1)
    unfold f_X8_beauty_8
    rw [k8_shows hg h9 h10 hp hd (by omega), d1, Option.bind_some, show mg_oI (some q) = nI q from rfl, if_neg (mg_m1 q (by omega)), Option.bind_some]
    simp only [mg_rdn hq (Nat.le_refl 70), Option.bind_some, ← nI_succ]
    rw [List.foldl_cons]
    unfold mg_bst
    by_cases k1 : τ 3 q = 1
    · rw [if_pos k1, if_pos k1]
      by_cases hm : ((x4 >>> (τ 4 q &&& 31)) &&& 1) = 0
      · rw [if_pos hm, Option.bind_some, if_pos hm]; exact ih (j + 1) n _ _ d2 (by omega) (by omega)
      · rw [if_neg hm, Option.bind_some, if_neg hm]; exact ih (j + 1) n _ _ d2 (by omega) (by omega)
    · rw [if_neg k1, if_neg k1]
      by_cases k2 : τ 3 q = 2
      · rw [if_pos k2, if_pos k2, k8_beauty104 (τ := τ) (c := c) e (nI g) x3 x4 (nI (j + 1)) (nI q) hc hc30, Option.bind_some]
        exact ih (j + 1) n _ _ d2 (by omega) (by omega)
      · rw [if_neg k2, if_neg k2]
        exact ih (j + 1) n _ _ d2 (by omega) (by omega)
theorem k8_beauty {τ : mg_St} {e c g p d : Nat} (hc : τ 0 5 = nI c) (hc30 : c ≤ 30) (hg : g < 6) (h9 : τ 9 g = nI p) (h10 : τ 10 g = nI d) (hp : p < 70) (hd : d < 4) : f_X8_beauty τ e (nI g) = some (((mg_lin τ p d).foldl (mg_bst τ e c) (0, 0)).1) := by
  unfold f_X8_beauty
  have hlen : (mg_lin τ p d).length ≤ 10 := mg_see_len hd 10 p
  obtain ⟨y, hy⟩ := k8_beauty8 (τ := τ) (e := e) hc hc30 hg h9 h10 hp hd (mg_lin τ p d) 0 5000 0 0 rfl (by omega) (by omega)
  rw [show (0 : Nat) + 1 = 1 from rfl, nI_one] at hy
  rw [hy, Option.bind_some]
