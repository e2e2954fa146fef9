/-! ===== the class's rows, evaluated ===== -/
theorem k0_carpSize {σ : mg_St} {b j : Nat} (h : j < 30) : f_X0_carpSize σ b (nI j) = some (σ (2 * b + 11) j) := by
  unfold f_X0_carpSize
  rw [if_neg (nI_pos (by omega)), if_neg (mg_le (N := 30) (M := 30) rfl (by omega) h), mg_rdn h (by omega)]; rfl
def mg_clamp (v : Int32) : Int32 := if 1 < (if v < 40 then v else 40) then (if v < 40 then v else 40) else 1
theorem k0_setCarpSize {σ : mg_St} {b j : Nat} {v : Int32} (h : j < 30) : f_X0_setCarpSize σ b (nI j) v = some (mg_su σ (2 * b + 11) j (mg_clamp v)) := by
  unfold f_X0_setCarpSize
  rw [if_neg (nI_pos (by omega)), if_neg (mg_le (N := 30) (M := 30) rfl (by omega) h), mg_wrn h (by omega)]; rfl
theorem k0_written {σ : mg_St} {b j : Nat} (h : j < 5) : f_X0_written σ b (nI j) = some (σ (2 * b + 12) j) := by
  unfold f_X0_written
  rw [if_neg (nI_pos (by omega)), if_neg (mg_le (N := 5) (M := 5) rfl (by omega) h), mg_rdn h (by omega)]; rfl
theorem k0_addWritten {σ : mg_St} {b j : Nat} {v : Int32} (h : j < 5) : f_X0_addWritten σ b (nI j) v = some (mg_su σ (2 * b + 12) j (σ (2 * b + 12) j + v)) := by
  unfold f_X0_addWritten
  rw [if_neg (nI_pos (by omega)), if_neg (mg_le (N := 5) (M := 5) rfl (by omega) h), mg_rdn h (by omega)]
  simp only [Option.bind_some, mg_wrn h (show 5 ≤ 70 by omega)]
theorem k2_isNumber {σ : mg_St} {g j : Nat} (hc : σ 3 2 = nI g) (hg : g ≤ 6) (h : j < g) : f_X2_isNumber σ (nI j) = some 1 := by
  unfold f_X2_isNumber
  rw [if_neg (nI_pos (by omega)), hc, if_neg (nI_ge h (by omega)), if_neg (mg_le (N := 6) (M := 6) rfl (by omega) (show j < 6 by omega))]
theorem k2_placeOf {σ : mg_St} {g j : Nat} (hc : σ 3 2 = nI g) (hg : g ≤ 6) (h : j < g) : f_X2_placeOf σ (nI j) = some (σ 18 j) := by
  unfold f_X2_placeOf; simp [k2_isNumber hc hg h, mg_rdn (show j < 6 by omega) (show 6 ≤ 70 by omega)]
theorem k2_directionOf {σ : mg_St} {g j : Nat} (hc : σ 3 2 = nI g) (hg : g ≤ 6) (h : j < g) : f_X2_directionOf σ (nI j) = some (σ 19 j) := by
  unfold f_X2_directionOf; simp [k2_isNumber hc hg h, mg_rdn (show j < 6 by omega) (show 6 ≤ 70 by omega)]
theorem k3_isNumber {σ : mg_St} {g j : Nat} (hc : σ 4 1 = nI g) (hg : g ≤ 5) (h : j < g) : f_X3_isNumber σ (nI j) = some 1 := by
  unfold f_X3_isNumber
  rw [if_neg (nI_pos (by omega)), hc, if_neg (nI_ge h (by omega)), if_neg (mg_le (N := 5) (M := 5) rfl (by omega) (show j < 5 by omega))]
theorem k3_gateOf {σ : mg_St} {g j : Nat} (hc : σ 4 1 = nI g) (hg : g ≤ 5) (h : j < g) : f_X3_gateOf σ (nI j) = some (σ 20 j) := by
  unfold f_X3_gateOf; simp [k3_isNumber hc hg h, mg_rdn (show j < 5 by omega) (show 5 ≤ 70 by omega)]
theorem k3_setGate {σ : mg_St} {g j : Nat} {v : Int32} (hc : σ 4 1 = nI g) (hg : g ≤ 5) (h : j < g) : f_X3_setGate σ (nI j) v = some (mg_su σ 20 j v) := by
  unfold f_X3_setGate; simp [k3_isNumber hc hg h, mg_wrn (show j < 5 by omega) (show 5 ≤ 70 by omega)]
theorem k4_isNumber {σ : mg_St} {g j : Nat} (hc : σ 2 2 = nI g) (hg : g ≤ 30) (h : j < g) : f_X4_isNumber σ (nI j) = some 1 := by
  unfold f_X4_isNumber
  rw [if_neg (nI_pos (by omega)), hc, if_neg (nI_ge h (by omega)), if_neg (mg_le (N := 30) (M := 30) rfl (by omega) (show j < 30 by omega))]
theorem k4_isHere {σ : mg_St} {g j : Nat} (hc : σ 2 2 = nI g) (hg : g ≤ 30) (h : j < g) : f_X4_isHere σ (nI j) = some (if σ 17 j = 0 then 1 else 0) := by
  unfold f_X4_isHere; simp [k4_isNumber hc hg h, mg_rdn (show j < 30 by omega) (show 30 ≤ 70 by omega)]; split <;> rfl
theorem k4_placeOf {σ : mg_St} {g j : Nat} (hc : σ 2 2 = nI g) (hg : g ≤ 30) (h : j < g) : f_X4_placeOf σ (nI j) = some (σ 16 j) := by
  unfold f_X4_placeOf; simp [k4_isNumber hc hg h, mg_rdn (show j < 30 by omega) (show 30 ≤ 70 by omega)]
theorem k4_takeOut {σ : mg_St} {g j : Nat} (hc : σ 2 2 = nI g) (hg : g ≤ 30) (h : j < g) : f_X4_takeOut σ (nI j) = some (mg_su σ 17 j 1) := by
  unfold f_X4_takeOut; simp [k4_isNumber hc hg h, mg_wrn (show j < 30 by omega) (show 30 ≤ 70 by omega)]
theorem k0_writtenByAll4_L {σ : mg_St} (b : Nat) : ∀ (n j : Nat), j ≤ 5 → 5 < n + j → f_X0_writtenByAll_4 σ b n (mg_sum (fun k => σ (2 * b + 12) k) j) (nI j) = some (mg_sum (fun k => σ (2 * b + 12) k) 5, nI 5) := by
  intro n; induction n with
  | zero => intro j h1 h2; omega
  | succ n ih =>
    intro j h1 h2
    unfold f_X0_writtenByAll_4
    rcases Nat.lt_or_ge j 5 with h | h
    · have := ih (j + 1) (by omega) (by omega)
      simp only [mg_sum_s (n := j), nI_succ j] at this
      rw [if_neg (mg_le (N := 5) (M := 5) rfl (by omega) h)]
      
      simp only [mg_rdn h (show 5 ≤ 70 by omega), Option.bind_some]
      repeat' split
      all_goals simp_all
    · have e : j = 5 := by omega
      subst e
      rw [if_pos (by first | exact Int32.le_refl _ | (rw [hc]; exact Int32.le_refl _))]
theorem k0_writtenByAll4 {σ : mg_St} (b : Nat) : f_X0_writtenByAll_4 σ b 5000 0 0 = some (mg_sum (fun k => σ (2 * b + 12) k) 5, nI 5) := k0_writtenByAll4_L b 5000 0 (by omega) (by omega)
theorem k3_manyAt4_L {σ : mg_St} {p : Nat} (v : Int32) (hc : σ 4 1 = nI p) (hp : p ≤ 5) : ∀ (n j : Nat), j ≤ p → p < n + j → f_X3_manyAt_4 σ v n (mg_sum (fun k => if σ 20 k = v then 1 else 0) j) (nI j) = some (mg_sum (fun k => if σ 20 k = v then 1 else 0) p, nI p) := by
  intro n; induction n with
  | zero => intro j h1 h2; omega
  | succ n ih =>
    intro j h1 h2
    unfold f_X3_manyAt_4
    rcases Nat.lt_or_ge j p with h | h
    · have := ih (j + 1) (by omega) (by omega)
      simp only [mg_sum_s (n := j), nI_succ j] at this
      rw [if_neg (by rw [hc]; exact nI_ge h (by omega))]
      
      simp only [k3_gateOf hc hp h, Option.bind_some]
      repeat' split
      all_goals simp_all
    · have e : j = p := by omega
      subst e
      rw [if_pos (by first | exact Int32.le_refl _ | (rw [hc]; exact Int32.le_refl _))]
theorem k3_manyAt4 {σ : mg_St} {p : Nat} (v : Int32) (hc : σ 4 1 = nI p) (hp : p ≤ 5) : f_X3_manyAt_4 σ v 5000 0 0 = some (mg_sum (fun k => if σ 20 k = v then 1 else 0) p, nI p) := k3_manyAt4_L v hc hp 5000 0 (by omega) (by omega)
theorem k4_manyHere4_L {σ : mg_St} {c : Nat} (hc : σ 2 2 = nI c) (hp : c ≤ 30) : ∀ (n j : Nat), j ≤ c → c < n + j → f_X4_manyHere_4 σ n (mg_sum (fun k => if σ 17 k = 0 then 1 else 0) j) (nI j) = some (mg_sum (fun k => if σ 17 k = 0 then 1 else 0) c, nI c) := by
  intro n; induction n with
  | zero => intro j h1 h2; omega
  | succ n ih =>
    intro j h1 h2
    unfold f_X4_manyHere_4
    rcases Nat.lt_or_ge j c with h | h
    · have := ih (j + 1) (by omega) (by omega)
      simp only [mg_sum_s (n := j), nI_succ j] at this
      rw [if_neg (by rw [hc]; exact nI_ge h (by omega))]
      
      simp only [k4_isHere hc hp h, Option.bind_some]
      repeat' split
      all_goals simp_all
    · have e : j = c := by omega
      subst e
      rw [if_pos (by first | exact Int32.le_refl _ | (rw [hc]; exact Int32.le_refl _))]
theorem k4_manyHere4 {σ : mg_St} {c : Nat} (hc : σ 2 2 = nI c) (hp : c ≤ 30) : f_X4_manyHere_4 σ 5000 0 0 = some (mg_sum (fun k => if σ 17 k = 0 then 1 else 0) c, nI c) := k4_manyHere4_L hc hp 5000 0 (by omega) (by omega)
theorem k4_sizesHere4_L {σ : mg_St} {c : Nat} (b : Nat) (hc : σ 2 2 = nI c) (hp : c ≤ 30) : ∀ (n j : Nat), j ≤ c → c < n + j → f_X4_sizesHere_4 σ b n (mg_sum (fun k => if σ 17 k = 0 then σ (2 * b + 11) k else 0) j) (nI j) = some (mg_sum (fun k => if σ 17 k = 0 then σ (2 * b + 11) k else 0) c, nI c) := by
  intro n; induction n with
  | zero => intro j h1 h2; omega
  | succ n ih =>
    intro j h1 h2
    unfold f_X4_sizesHere_4
    rcases Nat.lt_or_ge j c with h | h
    · have := ih (j + 1) (by omega) (by omega)
      simp only [mg_sum_s (n := j), nI_succ j] at this
      rw [if_neg (by rw [hc]; exact nI_ge h (by omega))]
      
      simp only [k4_isHere hc hp h, k0_carpSize (show j < 30 by omega), Option.bind_some]
      repeat' split
      all_goals simp_all
    · have e : j = c := by omega
      subst e
      rw [if_pos (by first | exact Int32.le_refl _ | (rw [hc]; exact Int32.le_refl _))]
theorem k4_sizesHere4 {σ : mg_St} {c : Nat} (b : Nat) (hc : σ 2 2 = nI c) (hp : c ≤ 30) : f_X4_sizesHere_4 σ b 5000 0 0 = some (mg_sum (fun k => if σ 17 k = 0 then σ (2 * b + 11) k else 0) c, nI c) := k4_sizesHere4_L b hc hp 5000 0 (by omega) (by omega)
theorem k4_sizesIn5_L {σ : mg_St} {c : Nat} (b : Nat) (v : Int32) (hc : σ 2 2 = nI c) (hp : c ≤ 30) : ∀ (n j : Nat), j ≤ c → c < n + j → f_X4_sizesIn_5 σ b v n (mg_sum (fun k => if σ 16 k = v then (if σ 17 k = 0 then σ (2 * b + 11) k else 0) else 0) j) (nI j) = some (mg_sum (fun k => if σ 16 k = v then (if σ 17 k = 0 then σ (2 * b + 11) k else 0) else 0) c, nI c) := by
  intro n; induction n with
  | zero => intro j h1 h2; omega
  | succ n ih =>
    intro j h1 h2
    unfold f_X4_sizesIn_5
    rcases Nat.lt_or_ge j c with h | h
    · have := ih (j + 1) (by omega) (by omega)
      simp only [mg_sum_s (n := j), nI_succ j] at this
      rw [if_neg (by rw [hc]; exact nI_ge h (by omega))]
      rw [if_neg (mg_le (N := 30) (M := 30) rfl (by omega) (show j < 30 by omega))]
      
      simp only [mg_rdn (show j < 30 by omega) (show 30 ≤ 70 by omega), k0_carpSize (show j < 30 by omega), Option.bind_some]
      repeat' split
      all_goals simp_all
    · have e : j = c := by omega
      subst e
      rw [if_pos (by first | exact Int32.le_refl _ | (rw [hc]; exact Int32.le_refl _))]
theorem k4_sizesIn5 {σ : mg_St} {c : Nat} (b : Nat) (v : Int32) (hc : σ 2 2 = nI c) (hp : c ≤ 30) : f_X4_sizesIn_5 σ b v 5000 0 0 = some (mg_sum (fun k => if σ 16 k = v then (if σ 17 k = 0 then σ (2 * b + 11) k else 0) else 0) c, nI c) := k4_sizesIn5_L b v hc hp 5000 0 (by omega) (by omega)
/-! ===== the model's rows, evaluated ===== -/
theorem k8_cellsOf14_L {τ : mg_St} (v : Int32) : ∀ (n j : Nat), j ≤ 70 → 70 < n + j → f_X8_cellsOf_14 τ v 70 n (mg_sum (fun k => if τ 6 k = v then 1 else 0) j) (nI j) = some (mg_sum (fun k => if τ 6 k = v then 1 else 0) 70, nI 70) := by
  intro n; induction n with
  | zero => intro j h1 h2; omega
  | succ n ih =>
    intro j h1 h2
    unfold f_X8_cellsOf_14
    rcases Nat.lt_or_ge j 70 with h | h
    · have := ih (j + 1) (by omega) (by omega)
      simp only [mg_sum_s (n := j), nI_succ j] at this
      rw [if_neg (mg_le (N := 70) (M := 70) rfl (by omega) h)]
      
      simp only [mg_rdn h (Nat.le_refl 70), Option.bind_some]
      repeat' split
      all_goals simp_all
    · have e : j = 70 := by omega
      subst e
      rw [if_pos (by first | exact Int32.le_refl _ | (rw [hc]; exact Int32.le_refl _))]
theorem k8_cellsOf14 {τ : mg_St} (v : Int32) : f_X8_cellsOf_14 τ v 70 5000 0 0 = some (mg_sum (fun k => if τ 6 k = v then 1 else 0) 70, nI 70) := k8_cellsOf14_L v 5000 0 (by omega) (by omega)
theorem k8_cellsLike14_L {τ : mg_St} (v : Int32) : ∀ (n j : Nat), j ≤ 70 → 70 < n + j → f_X8_cellsLike_14 τ v 70 n (mg_sum (fun k => if τ 3 k = v then 1 else 0) j) (nI j) = some (mg_sum (fun k => if τ 3 k = v then 1 else 0) 70, nI 70) := by
  intro n; induction n with
  | zero => intro j h1 h2; omega
  | succ n ih =>
    intro j h1 h2
    unfold f_X8_cellsLike_14
    rcases Nat.lt_or_ge j 70 with h | h
    · have := ih (j + 1) (by omega) (by omega)
      simp only [mg_sum_s (n := j), nI_succ j] at this
      rw [if_neg (mg_le (N := 70) (M := 70) rfl (by omega) h)]
      
      simp only [mg_rdn h (Nat.le_refl 70), Option.bind_some]
      repeat' split
      all_goals simp_all
    · have e : j = 70 := by omega
      subst e
      rw [if_pos (by first | exact Int32.le_refl _ | (rw [hc]; exact Int32.le_refl _))]
theorem k8_cellsLike14 {τ : mg_St} (v : Int32) : f_X8_cellsLike_14 τ v 70 5000 0 0 = some (mg_sum (fun k => if τ 3 k = v then 1 else 0) 70, nI 70) := k8_cellsLike14_L v 5000 0 (by omega) (by omega)
theorem k8_counted7_L {τ : mg_St} (v w : Int32) : ∀ (n j : Nat), j ≤ 70 → 70 < n + j → f_X8_counted_7 τ v w n (mg_sum (fun k => if τ 6 k = nI k then 1 else 0) j) (nI j) = some (mg_sum (fun k => if τ 6 k = nI k then 1 else 0) 70, nI 70) := by
  intro n; induction n with
  | zero => intro j h1 h2; omega
  | succ n ih =>
    intro j h1 h2
    unfold f_X8_counted_7
    rcases Nat.lt_or_ge j 70 with h | h
    · have := ih (j + 1) (by omega) (by omega)
      simp only [mg_sum_s (n := j), nI_succ j] at this
      rw [if_neg (mg_le (N := 70) (M := 70) rfl (by omega) h)]
      
      simp only [mg_rdn h (Nat.le_refl 70), Option.bind_some]
      repeat' split
      all_goals simp_all
    · have e : j = 70 := by omega
      subst e
      rw [if_pos (by first | exact Int32.le_refl _ | (rw [hc]; exact Int32.le_refl _))]
theorem k8_counted7 {τ : mg_St} (v w : Int32) : f_X8_counted_7 τ v w 5000 0 0 = some (mg_sum (fun k => if τ 6 k = nI k then 1 else 0) 70, nI 70) := k8_counted7_L v w 5000 0 (by omega) (by omega)
theorem k8_counted43_L {τ : mg_St} {c : Nat} (v w : Int32) (hc : τ 0 5 = nI c) (hp : c ≤ 30) : ∀ (n j : Nat), j ≤ c → c < n + j → f_X8_counted_43 τ v w n (mg_sum (fun k => 1 - τ 8 k) j) (nI j) = some (mg_sum (fun k => 1 - τ 8 k) c, nI c) := by
  intro n; induction n with
  | zero => intro j h1 h2; omega
  | succ n ih =>
    intro j h1 h2
    unfold f_X8_counted_43
    rcases Nat.lt_or_ge j c with h | h
    · have := ih (j + 1) (by omega) (by omega)
      simp only [mg_sum_s (n := j), nI_succ j] at this
      rw [if_neg (by rw [hc]; exact nI_ge h (by omega))]
      
      simp only [mg_rdn (show j < 30 by omega) (show 30 ≤ 70 by omega), Option.bind_some]
      repeat' split
      all_goals simp_all
    · have e : j = c := by omega
      subst e
      rw [if_pos (by first | exact Int32.le_refl _ | (rw [hc]; exact Int32.le_refl _))]
theorem k8_counted43 {τ : mg_St} {c : Nat} (v w : Int32) (hc : τ 0 5 = nI c) (hp : c ≤ 30) : f_X8_counted_43 τ v w 5000 0 0 = some (mg_sum (fun k => 1 - τ 8 k) c, nI c) := k8_counted43_L v w hc hp 5000 0 (by omega) (by omega)
theorem k8_sizes4_L {τ : mg_St} {c : Nat} (b : Nat) (hc : τ 0 5 = nI c) (hp : c ≤ 30) : ∀ (n j : Nat), j ≤ c → c < n + j → f_X8_sizes_4 τ b n (mg_sum (fun k => if τ 8 k = 0 then τ (2 * b + 10) k else 0) j) (nI j) = some (mg_sum (fun k => if τ 8 k = 0 then τ (2 * b + 10) k else 0) c, nI c) := by
  intro n; induction n with
  | zero => intro j h1 h2; omega
  | succ n ih =>
    intro j h1 h2
    unfold f_X8_sizes_4
    rcases Nat.lt_or_ge j c with h | h
    · have := ih (j + 1) (by omega) (by omega)
      simp only [mg_sum_s (n := j), nI_succ j] at this
      rw [if_neg (by rw [hc]; exact nI_ge h (by omega))]
      
      simp only [mg_rdn (show j < 30 by omega) (show 30 ≤ 70 by omega), Option.bind_some]
      repeat' split
      all_goals simp_all
    · have e : j = c := by omega
      subst e
      rw [if_pos (by first | exact Int32.le_refl _ | (rw [hc]; exact Int32.le_refl _))]
theorem k8_sizes4 {τ : mg_St} {c : Nat} (b : Nat) (hc : τ 0 5 = nI c) (hp : c ≤ 30) : f_X8_sizes_4 τ b 5000 0 0 = some (mg_sum (fun k => if τ 8 k = 0 then τ (2 * b + 10) k else 0) c, nI c) := k8_sizes4_L b hc hp 5000 0 (by omega) (by omega)
theorem k8_beauty104_L {τ : mg_St} {c : Nat} (b : Nat) (u v w x y : Int32) (hc : τ 0 5 = nI c) (hp : c ≤ 30) : ∀ (n j : Nat), j ≤ c → c < n + j → f_X8_beauty_104 τ b u v w x y n (mg_sum (fun k => if τ 8 k = 0 then (if τ 7 k = y then τ (2 * b + 10) k else 0) else 0) j) (nI j) = some (mg_sum (fun k => if τ 8 k = 0 then (if τ 7 k = y then τ (2 * b + 10) k else 0) else 0) c, nI c) := by
  intro n; induction n with
  | zero => intro j h1 h2; omega
  | succ n ih =>
    intro j h1 h2
    unfold f_X8_beauty_104
    rcases Nat.lt_or_ge j c with h | h
    · have := ih (j + 1) (by omega) (by omega)
      simp only [mg_sum_s (n := j), nI_succ j] at this
      rw [if_neg (by rw [hc]; exact nI_ge h (by omega))]
      
      simp only [mg_rdn (show j < 30 by omega) (show 30 ≤ 70 by omega), Option.bind_some]
      repeat' split
      all_goals simp_all
    · have e : j = c := by omega
      subst e
      rw [if_pos (by first | exact Int32.le_refl _ | (rw [hc]; exact Int32.le_refl _))]
theorem k8_beauty104 {τ : mg_St} {c : Nat} (b : Nat) (u v w x y : Int32) (hc : τ 0 5 = nI c) (hp : c ≤ 30) : f_X8_beauty_104 τ b u v w x y 5000 0 0 = some (mg_sum (fun k => if τ 8 k = 0 then (if τ 7 k = y then τ (2 * b + 10) k else 0) else 0) c, nI c) := k8_beauty104_L b u v w x y hc hp 5000 0 (by omega) (by omega)
theorem k8_written4_L {τ : mg_St} {p : Nat} (b : Nat) (hc : τ 0 11 = nI p) (hp : p ≤ 5) : ∀ (n j : Nat), j ≤ p → p < n + j → f_X8_written_4 τ b n (mg_sum (fun k => τ (2 * b + 11) k) j) (nI j) = some (mg_sum (fun k => τ (2 * b + 11) k) p, nI p) := by
  intro n; induction n with
  | zero => intro j h1 h2; omega
  | succ n ih =>
    intro j h1 h2
    unfold f_X8_written_4
    rcases Nat.lt_or_ge j p with h | h
    · have := ih (j + 1) (by omega) (by omega)
      simp only [mg_sum_s (n := j), nI_succ j] at this
      rw [if_neg (by rw [hc]; exact nI_ge h (by omega))]
      
      simp only [mg_rdn (show j < 5 by omega) (show 5 ≤ 70 by omega), Option.bind_some]
      repeat' split
      all_goals simp_all
    · have e : j = p := by omega
      subst e
      rw [if_pos (by first | exact Int32.le_refl _ | (rw [hc]; exact Int32.le_refl _))]
theorem k8_written4 {τ : mg_St} {p : Nat} (b : Nat) (hc : τ 0 11 = nI p) (hp : p ≤ 5) : f_X8_written_4 τ b 5000 0 0 = some (mg_sum (fun k => τ (2 * b + 11) k) p, nI p) := k8_written4_L b hc hp 5000 0 (by omega) (by omega)
theorem k8_gateTold5_L {τ : mg_St} {p : Nat} (v w : Int32) (hc : τ 0 11 = nI p) (hp : p ≤ 5) : ∀ (n j : Nat), j ≤ p → p < n + j → f_X8_gateTold_5 τ v w n (mg_sum (fun k => if τ 11 k = v then 1 else 0) j) (nI j) = some (mg_sum (fun k => if τ 11 k = v then 1 else 0) p, nI p) := by
  intro n; induction n with
  | zero => intro j h1 h2; omega
  | succ n ih =>
    intro j h1 h2
    unfold f_X8_gateTold_5
    rcases Nat.lt_or_ge j p with h | h
    · have := ih (j + 1) (by omega) (by omega)
      simp only [mg_sum_s (n := j), nI_succ j] at this
      rw [if_neg (by rw [hc]; exact nI_ge h (by omega))]
      
      simp only [mg_rdn (show j < 5 by omega) (show 5 ≤ 70 by omega), Option.bind_some]
      repeat' split
      all_goals simp_all
    · have e : j = p := by omega
      subst e
      rw [if_pos (by first | exact Int32.le_refl _ | (rw [hc]; exact Int32.le_refl _))]
theorem k8_gateTold5 {τ : mg_St} {p : Nat} (v w : Int32) (hc : τ 0 11 = nI p) (hp : p ≤ 5) : f_X8_gateTold_5 τ v w 5000 0 0 = some (mg_sum (fun k => if τ 11 k = v then 1 else 0) p, nI p) := k8_gateTold5_L v w hc hp 5000 0 (by omega) (by omega)
theorem k8_carpsOf4_L {τ : mg_St} {c : Nat} (q : Nat → Nat) (v : Int32) (hc : τ 0 5 = nI c) (hp : c ≤ 30) (hq : ∀ k, k < c → q k < 70 ∧ τ 7 k = nI (q k)) : ∀ (n j : Nat), j ≤ c → c < n + j → f_X8_carpsOf_4 τ v n (mg_sum (fun k => if τ 8 k = 0 then (if τ 6 (q k) = v then 1 else 0) else 0) j) (nI j) = some (mg_sum (fun k => if τ 8 k = 0 then (if τ 6 (q k) = v then 1 else 0) else 0) c, nI c) := by
  intro n; induction n with
  | zero => intro j h1 h2; omega
  | succ n ih =>
    intro j h1 h2
    unfold f_X8_carpsOf_4
    rcases Nat.lt_or_ge j c with h | h
    · have := ih (j + 1) (by omega) (by omega)
      simp only [mg_sum_s (n := j), nI_succ j] at this
      rw [if_neg (by rw [hc]; exact nI_ge h (by omega))]
      
      simp only [mg_rdn (show j < 30 by omega) (show 30 ≤ 70 by omega), (hq j h).2, mg_rdn (hq j h).1 (Nat.le_refl 70), Option.bind_some]
      repeat' split
      all_goals simp_all
    · have e : j = c := by omega
      subst e
      rw [if_pos (by first | exact Int32.le_refl _ | (rw [hc]; exact Int32.le_refl _))]
theorem k8_carpsOf4 {τ : mg_St} {c : Nat} (q : Nat → Nat) (v : Int32) (hc : τ 0 5 = nI c) (hp : c ≤ 30) (hq : ∀ k, k < c → q k < 70 ∧ τ 7 k = nI (q k)) : f_X8_carpsOf_4 τ v 5000 0 0 = some (mg_sum (fun k => if τ 8 k = 0 then (if τ 6 (q k) = v then 1 else 0) else 0) c, nI c) := k8_carpsOf4_L q v hc hp hq 5000 0 (by omega) (by omega)
