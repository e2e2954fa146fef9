section LM
variable {σ : mg_St} {ζ : mg_Sz} {c g p : Nat} {μ : Nat → Nat} {xs : Nat → Int32} {Ln : Nat} {a3 a4 a6 a7 a8 a18 : Int32} {cS : mg_Sz}
theorem mq_sumns {f : Nat → Int32} {h : Nat → Nat} : ∀ {n : Nat}, (∀ k, k < n → f k = nI (h k)) → mg_sum f n = nI (mg_ns h n) := by
  intro n; induction n with
  | zero => intro _; rfl
  | succ n ih => intro e; rw [mg_sum_s, ih (fun k hk => e k (by omega)), e n (by omega), nI_add]; rfl
theorem mq_nsadd {f h r : Nat → Nat} : ∀ {n : Nat}, (∀ k, k < n → r k = f k + h k) → mg_ns r n = mg_ns f n + mg_ns h n := by
  intro n; induction n with
  | zero => intro _; rfl
  | succ n ih =>
    intro e
    simp only [mg_ns]
    rw [ih (fun k hk => e k (by omega)), e n (by omega)]; omega
theorem mq_nsle {f h : Nat → Nat} : ∀ {n : Nat}, (∀ k, k < n → f k ≤ h k) → mg_ns f n ≤ mg_ns h n := by
  intro n; induction n with
  | zero => intro _; exact Nat.le_refl _
  | succ n ih =>
    intro e
    simp only [mg_ns]
    have := ih (fun k hk => e k (by omega))
    have := e n (by omega)
    omega
theorem mq_nsbd {h : Nat → Nat} {M : Nat} : ∀ {n : Nat}, (∀ k, k < n → h k ≤ M) → mg_ns h n ≤ M * n := by
  intro n; induction n with
  | zero => intro _; exact Nat.zero_le _
  | succ n ih =>
    intro e
    simp only [mg_ns]
    have := ih (fun k hk => e k (by omega))
    have := e n (by omega)
    rw [Nat.mul_succ]; omega
def mq_n (ζ : mg_Sz) (k : Nat) : Nat := (ζ.1 3 k 2).toNatClampNeg
theorem mq_n_eq (hT : mq_T σ ζ c g p μ) {k : Nat} (hk : k < c) : ζ.1 3 k 2 = nI (mq_n ζ k) ∧ mq_n ζ k ≤ 40 := by
  obtain ⟨-, -, -, -, -, -, -, -, z, z1, z2, z3⟩ := mq_carp hT hk
  unfold mq_n
  rw [z3, nI_clamp (by omega)]
  exact ⟨rfl, z2⟩
def mq_hq (ζ : mg_Sz) (q k : Nat) : Nat := if ζ.1 3 k 3 = 0 then (if mq_pl ζ 3 k = q then mq_n ζ k else 0) else 0
def mq_hl (ζ : mg_Sz) (l : List Nat) (k : Nat) : Nat := if ζ.1 3 k 3 = 0 then (if mq_pl ζ 3 k ∈ l then mq_n ζ k else 0) else 0
def mq_ha (ζ : mg_Sz) (k : Nat) : Nat := if ζ.1 3 k 3 = 0 then mq_n ζ k else 0
theorem mq_szin_n (hT : mq_T σ ζ c g p μ) {q : Nat} : mq_szin ζ c q = nI (mg_ns (mq_hq ζ q) c) := by
  unfold mq_szin
  refine mq_sumns (fun k hk => ?_)
  unfold mq_hq
  by_cases s : ζ.1 3 k 3 = 0
  · rw [if_pos s, if_pos s]
    by_cases e : mq_pl ζ 3 k = q
    · rw [if_pos e, if_pos e]; exact (mq_n_eq hT hk).1
    · rw [if_neg e, if_neg e]; rfl
  · rw [if_neg s, if_neg s]; rfl
theorem mq_sz_n (hT : mq_T σ ζ c g p μ) : mq_sz ζ c = nI (mg_ns (mq_ha ζ) c) := by
  unfold mq_sz
  refine mq_sumns (fun k hk => ?_)
  unfold mq_ha
  by_cases s : ζ.1 3 k 3 = 0
  · rw [if_pos s, if_pos s]; exact (mq_n_eq hT hk).1
  · rw [if_neg s, if_neg s]; rfl
theorem mq_hq_bd (hT : mq_T σ ζ c g p μ) {q : Nat} : mg_ns (mq_hq ζ q) c ≤ 1200 := by
  have c30 := (mq_c30 hT).1
  have := mq_nsbd (h := mq_hq ζ q) (M := 40) (n := c) (fun k hk => by
    have := (mq_n_eq hT hk).2
    unfold mq_hq; split
    · split <;> omega
    · omega)
  omega
theorem mq_ha_bd (hT : mq_T σ ζ c g p μ) : mg_ns (mq_ha ζ) c ≤ 1200 := by
  have c30 := (mq_c30 hT).1
  have := mq_nsbd (h := mq_ha ζ) (M := 40) (n := c) (fun k hk => by
    have := (mq_n_eq hT hk).2
    unfold mq_ha; split <;> omega)
  omega
theorem mq_vfold (hT : mq_T σ ζ c g p μ) : ∀ (l pre : List Nat) (a : Nat), l.Nodup → (∀ q, q ∈ l → q < 70) →
    ∃ R W B, mq_kn ζ 1 l = nI R ∧ mq_kn ζ 2 l = nI W ∧ R + W ≤ l.length ∧ mq_bt ζ c pre l (nI a) = nI (a + B) ∧ R + 3 * W ≤ B ∧ B ≤ 13 * R + 3 * W + mg_ns (mq_hl ζ l) c / 10 := by
  intro l; induction l with
  | nil => intro pre a h1 h2; exact ⟨0, 0, 0, rfl, rfl, Nat.le_refl _, rfl, Nat.le_refl _, by omega⟩
  | cons q l ih =>
    intro pre a h1 h2
    rw [List.nodup_cons] at h1
    have hq := h2 q List.mem_cons_self
    have hadd : mg_ns (mq_hl ζ (q :: l)) c = mg_ns (mq_hq ζ q) c + mg_ns (mq_hl ζ l) c := by
      refine mq_nsadd (fun k hk => ?_)
      unfold mq_hl mq_hq
      by_cases s : ζ.1 3 k 3 = 0
      · rw [if_pos s, if_pos s, if_pos s]
        by_cases e : mq_pl ζ 3 k = q
        · rw [if_pos e, if_pos (by rw [e]; exact List.mem_cons_self), if_neg (by rw [e]; exact h1.1)]; rfl
        · rw [if_neg e]
          by_cases f : mq_pl ζ 3 k ∈ l
          · rw [if_pos f, if_pos (List.mem_cons_of_mem _ f)]; omega
          · rw [if_neg f, if_neg (fun d => by rcases List.mem_cons.1 d with d | d; exact e d; exact f d)]
      · rw [if_neg s, if_neg s, if_neg s]
    have kn : ∀ v, mq_kn ζ v (q :: l) = (if mq_k ζ q = v then 1 else 0) + mq_kn ζ v l := fun v => rfl
    have bt : ∀ acc, mq_bt ζ c pre (q :: l) acc = mq_bt ζ c (pre ++ [q]) l (acc + mq_add ζ c pre q) := fun acc => rfl
    rw [kn, kn, bt, hadd]
    by_cases k1 : mq_k ζ q = 1
    · have k2 : ¬ mq_k ζ q = 2 := by rw [k1]; decide
      obtain ⟨-, z, z1, z2, z3⟩ := (mq_kind hT hq).2 k1
      obtain ⟨w, w1, w2, w3⟩ : ∃ w, 1 ≤ w ∧ w ≤ 13 ∧ mq_add ζ c pre q = nI w := by
        unfold mq_add
        rw [if_pos k1, z3]
        by_cases t : ∀ r, r ∈ pre → mq_k ζ r = 1 → mq_s ζ r ≠ mq_s ζ q
        · rw [if_pos t]; exact ⟨z + 4, by omega, by omega, nI_add z 4⟩
        · rw [if_neg t]; exact ⟨z + 0, by omega, by omega, nI_add z 0⟩
      obtain ⟨R, W, B, b1, b2, b3, b4, b5, b6⟩ := ih (pre ++ [q]) (a + w) h1.2 (fun r hr => h2 r (List.mem_cons_of_mem _ hr))
      refine ⟨1 + R, W, w + B, ?_, ?_, ?_, ?_, by omega, by omega⟩
      · rw [if_pos k1, b1]; exact nI_add 1 R
      · rw [if_neg k2, b2, Int32.zero_add]
      · simp only [List.length_cons]; omega
      · rw [w3, nI_add, b4]; congr 1; omega
    · by_cases k2 : mq_k ζ q = 2
      · have hb := mq_hq_bd hT (q := q)
        have w3 : mq_add ζ c pre q = nI (3 + mg_ns (mq_hq ζ q) c / 10) := by
          unfold mq_add
          rw [if_neg k1, if_pos k2, mq_szin_n hT, show (10 : Int32) = nI 10 from rfl, nI_div (by omega) (by omega)]
          exact nI_add 3 _
        obtain ⟨R, W, B, b1, b2, b3, b4, b5, b6⟩ := ih (pre ++ [q]) (a + (3 + mg_ns (mq_hq ζ q) c / 10)) h1.2 (fun r hr => h2 r (List.mem_cons_of_mem _ hr))
        refine ⟨R, 1 + W, (3 + mg_ns (mq_hq ζ q) c / 10) + B, ?_, ?_, ?_, ?_, by omega, by omega⟩
        · rw [if_neg k1, b1, Int32.zero_add]
        · rw [if_pos k2, b2]; exact nI_add 1 W
        · simp only [List.length_cons]; omega
        · rw [w3, nI_add, b4]; congr 1; omega
      · have w3 : mq_add ζ c pre q = 0 := by unfold mq_add; rw [if_neg k1, if_neg k2]
        obtain ⟨R, W, B, b1, b2, b3, b4, b5, b6⟩ := ih (pre ++ [q]) a h1.2 (fun r hr => h2 r (List.mem_cons_of_mem _ hr))
        refine ⟨R, W, B, ?_, ?_, ?_, ?_, b5, by omega⟩
        · rw [if_neg k1, b1, Int32.zero_add]
        · rw [if_neg k2, b2, Int32.zero_add]
        · simp only [List.length_cons]; omega
        · rw [w3, Int32.add_zero, b4]
theorem mg_see_rkm {κ β : Nat → Int32} {d : Nat} (hd : d < 4) : ∀ (n p : Nat), p < 70 → (∀ r, r ∈ mg_see κ β d n p → mg_rk r d < mg_rk p d) ∧ (mg_see κ β d n p).Nodup := by
  intro n; induction n with
  | zero => intro p hp; exact ⟨fun r hr => (by cases hr), List.nodup_nil⟩
  | succ n ih =>
    intro p hp
    unfold mg_see
    cases hn : mg_nx p d with
    | none => exact ⟨fun r hr => (by cases hr), List.nodup_nil⟩
    | some q =>
      obtain ⟨hq, hrk⟩ := mg_nx_lt hp hd hn
      obtain ⟨i1, i2⟩ := ih q hq
      dsimp only
      split
      · exact ⟨fun r hr => (by cases hr), List.nodup_nil⟩
      · split
        · refine ⟨fun r hr => ?_, by simp⟩
          rw [List.mem_singleton] at hr; subst hr; omega
        · refine ⟨fun r hr => ?_, ?_⟩
          · rcases List.mem_cons.1 hr with e | e
            · subst e; omega
            · have := i1 r e; omega
          · rw [List.nodup_cons]
            exact ⟨fun h => by have := i1 q h; omega, i2⟩
theorem mq_view_bd (hT : mq_T σ ζ c g p μ) {i : Nat} (hi : i < g) : ∃ R W B S, mq_kn ζ 1 (mq_see ζ i) = nI R ∧ mq_kn ζ 2 (mq_see ζ i) = nI W ∧ R + W ≤ (mq_see ζ i).length ∧ mq_beauty ζ c i = nI B ∧ R + 3 * W ≤ B ∧ B ≤ 13 * R + 3 * W + S / 10 ∧ mq_sz ζ c = nI S ∧ S ≤ 1200 ∧ (mq_see ζ i).length ≤ 9 := by
  obtain ⟨h1, h2, -⟩ := mq_gate hT hi
  obtain ⟨R, W, B, b1, b2, b3, b4, b5, b6⟩ := mq_vfold hT (mq_see ζ i) [] 0 (mg_see_rkm h2 10 _ h1).2 (mq_see_lt hT hi)
  have hle : mg_ns (mq_hl ζ (mq_see ζ i)) c ≤ mg_ns (mq_ha ζ) c := mq_nsle (fun k hk => by
    unfold mq_hl mq_ha
    by_cases s : ζ.1 3 k 3 = 0
    · rw [if_pos s, if_pos s]; split <;> omega
    · rw [if_neg s, if_neg s]; exact Nat.le_refl _)
  refine ⟨R, W, B, mg_ns (mq_ha ζ) c, b1, b2, b3, ?_, b5, by omega, mq_sz_n hT, mq_ha_bd hT, mq_see_9 hT hi⟩
  rw [nI_0, Nat.zero_add] at b4
  exact b4
def mq_mx (ζ : mg_Sz) (c : Nat) : Nat → Int32
  | 0 => 0
  | n + 1 => if mq_mx ζ c n < mq_beauty ζ c n then mq_beauty ζ c n else mq_mx ζ c n
theorem l_767 (hT : mq_T σ ζ c g p μ) {n5 : Nat} {c5 : Nat → Int32} {n6 : Nat} {c6 : Nat → Int32} {n7 : Nat} {c7 : Nat → Int32} : ∀ (n j : Nat) (V : Nat → Int32), j ≤ g → g < n + j →
    ∃ V', f_L_law_767 xs Ln a3 a4 a6 (nI g) a8 cS n5 c5 n6 c6 n7 c7 n (mq_mx ζ c j) (nI j) (mg_sr σ 7 V) = some (mq_mx ζ c g, nI g, mg_sr σ 7 V') := by
  obtain ⟨-, g6, -⟩ := mq_c30 hT
  intro n; induction n with
  | zero => intro j V h1 h2; omega
  | succ n ih =>
    intro j V h1 h2
    unfold f_L_law_767
    rcases Nat.lt_or_ge j g with h | h
    · obtain ⟨R, W, B, S, b1, b2, b3, b4, b5, b6, b7, b8, b9⟩ := mq_view_bd hT h
      have A0 : ∀ V, ∃ V', f_X6_about (mg_sr σ 7 V) (nI j) 0 = some (.ok (nI (mq_see ζ j).length), mg_sr σ 7 V') := fun V => by
        obtain ⟨V2, v1⟩ := q_about (mq_T_v (V := V) hT) (k := 0) h (by omega); rw [mg_sr_sr] at v1; exact ⟨V2, v1⟩
      have A1 : ∀ V, ∃ V', f_X6_about (mg_sr σ 7 V) (nI j) 1 = some (.ok (nI R), mg_sr σ 7 V') := fun V => by
        obtain ⟨V2, v1⟩ := q_about (mq_T_v (V := V) hT) (k := 1) h (by omega); rw [mg_sr_sr] at v1; rw [← b1]; exact ⟨V2, v1⟩
      have A2 : ∀ V, ∃ V', f_X6_about (mg_sr σ 7 V) (nI j) 2 = some (.ok (nI W), mg_sr σ 7 V') := fun V => by
        obtain ⟨V2, v1⟩ := q_about (mq_T_v (V := V) hT) (k := 2) h (by omega); rw [mg_sr_sr] at v1; rw [← b2]; exact ⟨V2, v1⟩
      have A3 : ∀ V, ∃ V', f_X6_about (mg_sr σ 7 V) (nI j) 3 = some (.ok (nI B), mg_sr σ 7 V') := fun V => by
        obtain ⟨V2, v1⟩ := q_about (mq_T_v (V := V) hT) (k := 3) h (by omega); rw [mg_sr_sr] at v1; rw [← b4]; exact ⟨V2, v1⟩
      obtain ⟨V1, r1⟩ := A3 V
      obtain ⟨V2, r2⟩ := A0 V1
      obtain ⟨V3, r3⟩ := A1 V2
      obtain ⟨V4, r4⟩ := A2 V3
      obtain ⟨V5, r5⟩ := A0 V4
      obtain ⟨V6, r6⟩ := A1 V5
      obtain ⟨V7, r7⟩ := A2 V6
      obtain ⟨V8, r8⟩ := A1 V7
      obtain ⟨V9, r9⟩ := A2 V8
      have rc : f_X6_count (mg_sr σ 7 V9) 7 = some (.ok (nI S), mg_sr σ 7 V9) := by
        rw [← b7]; exact q_count (mq_T_v (V := V9) hT) (k := 7) (by omega)
      have m3 : 3 * nI W = nI (3 * W) := nI_mul 3 W
      have m13 : 13 * nI R = nI (13 * R) := nI_mul 13 R
      have m10 : nI S / 10 = nI (S / 10) := nI_div (b := 10) (by omega) (by omega)
      rw [if_neg (nI_ge h (by omega)), r1, mg_xq_ok, r2, mg_xq_ok, if_neg (show ¬ (9 : Int32) < nI (mq_see ζ j).length from nI_nlt (a := 9) (by omega) (by omega)), r3, mg_xq_ok, r4, mg_xq_ok, r5, mg_xq_ok, nI_add, if_neg (show ¬ nI (mq_see ζ j).length < nI (R + W) from nI_nlt (by omega) (by omega)), r6, mg_xq_ok, r7, mg_xq_ok, m3, nI_add, if_neg (show ¬ nI B < nI (R + 3 * W) from nI_nlt (by omega) (by omega)), r8, mg_xq_ok, r9, mg_xq_ok, rc, mg_xq_ok, m13, m3, m10, nI_add, nI_add, if_pos (show nI B ≤ nI (13 * R + 3 * W + S / 10) from nI_le (by omega) (by omega)), ← nI_succ]
      have nx := ih (j + 1) V9 (by omega) (by omega)
      rw [show mq_mx ζ c (j + 1) = if mq_mx ζ c j < mq_beauty ζ c j then mq_beauty ζ c j else mq_mx ζ c j from rfl, b4] at nx
      exact nx
    · have e : j = g := by omega
      subst e; exact ⟨V, by rw [if_pos (Int32.le_refl _)]⟩
/-- the best beauty is the finest gate's -/
theorem mq_mx_lb (hT : mq_T σ ζ c g p μ) {i : Nat} (h : mq_lb ζ c g 0 i) : mq_mx ζ c g = mq_beauty ζ c i := by
  obtain ⟨-, a2, a3, -⟩ := h
  have key : ∀ n, n ≤ g → (∀ k, k < n → mq_beauty ζ c k ≤ mq_mx ζ c n) ∧ (mq_mx ζ c n = 0 ∨ ∃ k, k < n ∧ mq_mx ζ c n = mq_beauty ζ c k) := by
    intro n; induction n with
    | zero => intro _; exact ⟨fun k hk => by omega, Or.inl rfl⟩
    | succ n ih =>
      intro hn
      obtain ⟨i1, i2⟩ := ih (by omega)
      rw [show mq_mx ζ c (n + 1) = if mq_mx ζ c n < mq_beauty ζ c n then mq_beauty ζ c n else mq_mx ζ c n from rfl]
      by_cases k : mq_mx ζ c n < mq_beauty ζ c n
      · rw [if_pos k]
        refine ⟨fun r hr => ?_, Or.inr ⟨n, by omega, rfl⟩⟩
        rcases Nat.lt_or_ge r n with a | a
        · exact Int32.le_of_lt (Int32.lt_of_le_of_lt (i1 r a) k)
        · have : r = n := by omega
          subst this; exact Int32.le_refl _
      · rw [if_neg k]
        refine ⟨fun r hr => ?_, ?_⟩
        · rcases Nat.lt_or_ge r n with a | a
          · exact i1 r a
          · have : r = n := by omega
            subst this
            by_cases z : mq_beauty ζ c r ≤ mq_mx ζ c r
            · exact z
            · exact absurd (mg_lt_iff.2 z) k
        · rcases i2 with h | ⟨k, k1, k2⟩
          · exact Or.inl h
          · exact Or.inr ⟨k, by omega, k2⟩
  obtain ⟨k1, k2⟩ := key g (Nat.le_refl _)
  obtain ⟨B, b1, b2⟩ := mq_bd hT a2
  have h1 := k1 i a2
  rcases k2 with z | ⟨k, kk, e⟩
  · rw [z] at h1 ⊢
    rw [b2] at h1 ⊢
    rcases Nat.eq_zero_or_pos B with y | y
    · rw [y]; rfl
    · exact absurd h1 (nI_nle y (by omega))
  · rw [e] at h1 ⊢
    exact Int32.le_antisymm (a3 k (by omega) kk) h1
end LM
