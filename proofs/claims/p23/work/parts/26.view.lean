/-! ===== what a gate shows ===== -/
def mg_see (κ β : Nat → Int32) (d : Nat) : Nat → Nat → List Nat
  | 0, _ => []
  | n + 1, p => match mg_nx p d with
    | none => []
    | some q => if κ q = 3 then [] else if κ q = 1 ∧ ¬ β q < 7 then [q] else q :: mg_see κ β d n q
theorem mg_see_lt {κ β : Nat → Int32} {d : Nat} (hd : d < 4) : ∀ (n p : Nat), p < 70 → ∀ q, q ∈ mg_see κ β d n p → q < 70 := by
  intro n; induction n with
  | zero => intro p hp q hq; cases hq
  | succ n ih =>
    intro p hp q hq
    unfold mg_see at hq
    cases hn : mg_nx p d with
    | none => rw [hn] at hq; cases hq
    | some r =>
      rw [hn] at hq
      obtain ⟨hr, -⟩ := mg_nx_lt hp hd hn
      simp only at hq
      split at hq
      · cases hq
      · split at hq
        · rw [List.mem_singleton] at hq; subst hq; exact hr
        · rcases List.mem_cons.1 hq with e | e
          · subst e; exact hr
          · exact ih r hr q e
theorem mg_see_congr {κ β κ' β' : Nat → Int32} {d : Nat} (hd : d < 4) (h1 : ∀ q, q < 70 → κ' q = κ q) (h2 : ∀ q, q < 70 → κ q = 1 → β' q = β q) : ∀ (n p : Nat), p < 70 → mg_see κ' β' d n p = mg_see κ β d n p := by
  intro n; induction n with
  | zero => intro p hp; rfl
  | succ n ih =>
    intro p hp
    unfold mg_see
    cases hn : mg_nx p d with
    | none => rfl
    | some r =>
      obtain ⟨hr, -⟩ := mg_nx_lt hp hd hn
      simp only [h1 r hr, ih r hr]
      by_cases k : κ r = 1
      · simp only [h2 r hr k]
      · simp only [k, false_and]
theorem mg_see_len {κ β : Nat → Int32} {d : Nat} (hd : d < 4) : ∀ (n p : Nat), (mg_see κ β d n p).length ≤ n := by
  intro n; induction n with
  | zero => intro p; exact Nat.le_refl _
  | succ n ih =>
    intro p
    unfold mg_see
    cases hn : mg_nx p d with
    | none => exact Nat.zero_le _
    | some r =>
      simp only
      split
      · exact Nat.zero_le _
      · split
        · simp
        · have := ih r; simp only [List.length_cons]; omega
/-- the class's view, one cell on -/
def mg_vrock (V : Nat → Int32) (s z : Int32) : Nat → Int32 :=
  let V2 := upd (upd V 1 (V 1 + 1)) 3 (V 3 + z)
  let V3 := if V2 4 &&& (1 <<< (s &&& 31)) = 0 then upd V2 3 (V2 3 + 4) else V2
  upd V3 4 (V3 4 ||| (1 <<< (s &&& 31)))
def mg_szin (σ : mg_St) (b c q : Nat) : Int32 := mg_sum (fun k => if σ 16 k = nI q then (if σ 17 k = 0 then σ (2 * b + 11) k else 0) else 0) c
def mg_vst (σ : mg_St) (b c : Nat) (V : Nat → Int32) (q : Nat) : Nat → Int32 :=
  let V1 := upd V 0 (V 0 + 1)
  if σ 8 q = 1 then mg_vrock V1 (σ 9 q) (σ 10 q)
  else if σ 8 q = 2 then upd (upd V1 2 (V1 2 + 1)) 3 (V1 3 + (3 + mg_szin σ b c q / 10))
  else V1
theorem mg_sr_su7 {τ : mg_St} {k j : Nat} {r : Nat → Int32} {v : Int32} : mg_su (mg_sr τ k r) k j v = mg_sr τ k (upd r j v) := mg_sr_su
theorem k6_show {σ : mg_St} {b c q : Nat} {V : Nat → Int32} (hc : σ 2 2 = nI c) (hp : c ≤ 30) (hq : q < 70) : f_X6_show (mg_sr σ 7 V) b (nI q) = some (mg_sr σ 7 (mg_vst σ b c V q)) := by
  unfold f_X6_show
  have e0 : mg_sr σ 7 V 7 0 = V 0 := rfl
  rw [mg_sr_su, e0]
  generalize hV1 : upd V 0 (V 0 + 1) = V1
  rw [k1_kindAt hq]
  have e8 : mg_sr σ 7 V1 8 q = σ 8 q := rfl
  rw [Option.bind_some, e8]
  unfold mg_vst
  rw [hV1]
  by_cases k1 : σ 8 q = 1
  · rw [if_pos k1]
    simp only [if_pos k1]
    rw [k1_shapeAt hq, Option.bind_some, k1_sizeAt hq, Option.bind_some]
    have e9 : mg_sr σ 7 V1 9 q = σ 9 q := rfl
    have e10 : mg_sr σ 7 V1 10 q = σ 10 q := rfl
    rw [e9, e10]
    unfold f_X5_addRock mg_vrock
    have r7 : ∀ (W : Nat → Int32) (j : Nat), mg_sr σ 7 W 7 j = W j := fun W j => rfl
    simp only [r7, mg_sr_su]
    have u3 : ∀ x : Int32, upd V1 1 x 3 = V1 3 := fun x => rfl
    simp only [u3]
    by_cases hm : upd (upd V1 1 (V1 1 + 1)) 3 (V1 3 + σ 10 q) 4 &&& 1 <<< (σ 9 q &&& 31) = 0
    · simp only [if_pos hm, Option.bind_some, r7, mg_sr_su]
    · simp only [if_neg hm, Option.bind_some, r7, mg_sr_su]
  · rw [if_neg k1]
    simp only [if_neg k1]
    by_cases k2 : σ 8 q = 2
    · rw [if_pos k2]
      simp only [if_pos k2]
      have hs : f_X4_sizesIn (mg_sr σ 7 V1) b (nI q) = some (mg_szin σ b c q) := by
        unfold f_X4_sizesIn
        rw [k4_sizesIn5 (σ := mg_sr σ 7 V1) (c := c) b (nI q) hc hp]
        show some _ = some _
        unfold mg_szin
        congr 1
      rw [hs, Option.bind_some]
      unfold f_X5_addPondCell
      have r7 : ∀ (W : Nat → Int32) (j : Nat), mg_sr σ 7 W 7 j = W j := fun W j => rfl
      simp only [r7, mg_sr_su, Option.bind_some]
      rfl
    · rw [if_neg k2, if_neg k2]
theorem k6_look37 {σ : mg_St} {b c d : Nat} {a1 : Int32} (hc : σ 2 2 = nI c) (hp : c ≤ 30) (hd : d < 4) : ∀ (n i p m : Nat) (V : Nat → Int32), p < 70 → i + mg_rk p d ≤ 9 → mg_rk p d + 2 < n → mg_rk p d ≤ m →
    ∃ x y, f_X6_look_37 b a1 (nI d) n (mg_oI (mg_nx p d)) (nI i) (mg_sr σ 7 V) = some (x, y, mg_sr σ 7 ((mg_see (σ 8) (σ 10) d m p).foldl (mg_vst σ b c) V)) := by
  intro n; induction n with
  | zero => intro i p m V hp hi hn; omega
  | succ n ih =>
    intro i p m V hpp hi hn hm
    unfold f_X6_look_37
    rw [if_neg (mg_le (N := 10) (M := 10) rfl (by omega) (show i < 10 by omega))]
    cases hx : mg_nx p d with
    | none =>
      have e : mg_see (σ 8) (σ 10) d m p = [] := by
        cases m with
        | zero => rfl
        | succ m => unfold mg_see; rw [hx]
      rw [e, show mg_oI none = -1 from rfl]
      exact ⟨_, _, by rw [if_pos rfl]; rfl⟩
    | some q =>
      obtain ⟨hq, hr⟩ := mg_nx_lt hpp hd hx
      obtain ⟨m', rfl⟩ : ∃ m', m = m' + 1 := ⟨m - 1, by omega⟩
      have e8 : ∀ W, mg_sr σ 7 W 8 q = σ 8 q := fun W => rfl
      have e10 : ∀ W, mg_sr σ 7 W 10 q = σ 10 q := fun W => rfl
      rw [show mg_oI (some q) = nI q from rfl, if_neg (mg_m1 q (by omega)), k1_isWall hq, Option.bind_some, e8]
      unfold mg_see
      rw [hx]
      simp only
      by_cases k3 : σ 8 q = 3
      · rw [if_pos k3, if_neg (by decide), if_pos k3]
        exact ⟨_, _, rfl⟩
      · rw [if_neg k3, if_pos rfl, if_neg k3, k6_show hc hp hq, Option.bind_some, k1_isGreat hq, Option.bind_some, e8, e10]
        by_cases kg : σ 8 q = 1 ∧ ¬ σ 10 q < 7
        · rw [if_pos kg, if_neg (by decide), if_pos kg]
          obtain ⟨n', rfl⟩ : ∃ n', n = n' + 1 := ⟨n - 1, by omega⟩
          unfold f_X6_look_37
          by_cases h10 : (10 : Int32) ≤ nI i + 1
          · rw [if_pos h10]; exact ⟨_, _, rfl⟩
          · rw [if_neg h10, if_pos rfl]; exact ⟨_, _, rfl⟩
        · rw [if_neg kg, if_pos rfl, if_neg kg, k1_beside hq hd, Option.bind_some, ← nI_succ]
          exact ih (i + 1) q m' _ hq (by omega) (by omega) (by omega)
def mg_view0 (V : Nat → Int32) : Nat → Int32 := upd (upd (upd (upd (upd V 0 0) 1 0) 2 0) 3 0) 4 0
/-- the view of a gate -/
def mg_vw (σ : mg_St) (b c p d : Nat) : Nat → Int32 := (mg_see (σ 8) (σ 10) d 10 p).foldl (mg_vst σ b c) (mg_view0 (σ 7))
theorem k6_look {σ : mg_St} {b c g i p d : Nat} (hc : σ 2 2 = nI c) (hp : c ≤ 30) (hg : σ 3 2 = nI g) (hg6 : g ≤ 6) (hi : i < g) (h18 : σ 18 i = nI p) (h19 : σ 19 i = nI d) (hpp : p < 70) (hd : d < 4) :
    f_X6_look σ b (nI i) = some (mg_vw σ b c p d 3, mg_sr σ 7 (mg_vw σ b c p d)) := by
  unfold f_X6_look f_X5_begin
  have e : mg_su (mg_su (mg_su (mg_su (mg_su σ 7 0 0) 7 1 0) 7 2 0) 7 3 0) 7 4 0 = mg_sr σ 7 (mg_view0 (σ 7)) := by
    rw [← mg_sr_self (τ := σ) (k := 7), mg_sr_su, mg_sr_su, mg_sr_su, mg_sr_su, mg_sr_su, mg_sr_self]; rfl
  rw [e, Option.bind_some]
  generalize hV0 : mg_view0 (σ 7) = V0
  have e2 : f_X2_directionOf (mg_sr σ 7 V0) (nI i) = some (nI d) := by rw [k2_directionOf (σ := mg_sr σ 7 V0) hg hg6 hi]; exact congrArg some h19
  have e3 : f_X2_placeOf (mg_sr σ 7 V0) (nI i) = some (nI p) := by rw [k2_placeOf (σ := mg_sr σ 7 V0) hg hg6 hi]; exact congrArg some h18
  rw [e2, Option.bind_some, e3, Option.bind_some, k1_beside hpp hd, Option.bind_some]
  have hrk := mg_rk_le (d := d) hpp
  obtain ⟨x, y, hl⟩ := k6_look37 (b := b) (a1 := nI i) (σ := σ) hc hp hd 5000 0 p 10 V0 hpp (by omega) (by omega) (by omega)
  rw [nI_0] at hl
  rw [hl, Option.bind_some]
  unfold mg_vw
  rw [hV0]; rfl
