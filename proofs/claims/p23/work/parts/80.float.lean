/-! ===== the mean is a number ===== -/
theorem mf_nan {x : UInt64} : isNaN64 x = true ↔ FP.Core.val64 x = .nan := by
  rw [isNaN64_iff, show (0x7fffffffffffffff : Nat) = 2 ^ 63 - 1 from rfl, Nat.and_two_pow_sub_one_eq_mod]
  refine Iff.trans ?_ (FP.Core.decode_nan _).symm
  show _ ↔ FP.Core.infBits FP.Core.b64 < x.toNat % FP.Core.half FP.Core.b64
  rw [show FP.Core.half FP.Core.b64 = 2 ^ 63 from by decide +kernel, show FP.Core.infBits FP.Core.b64 = 0x7ff0000000000000 from by decide +kernel]
theorem mf_hds : mg_Hds := by
  intro x y v hv h1 h2
  have hn : FP.Core.val64 v ≠ .nan := fun h => by rw [mf_nan.mpr h] at hv; cases hv
  simp only [alike64, Bool.or_eq_true, decide_eq_true_eq, Bool.and_eq_true] at h1 h2
  have e1 : x = v := by
    rcases h1 with h | ⟨-, h⟩
    · exact h
    · rw [hv] at h; cases h
  have e2 : y = v := by
    rcases h2 with h | ⟨-, h⟩
    · exact h
    · rw [hv] at h; cases h
  subst e1 e2
  rw [FP.dcmp_core, FP.Core.dcmp_self hn]
  decide
theorem mf_i2d (a : Int32) : FP.Core.dIsNaN (FP.Core.i2d a) = false := by
  cases h : FP.Core.dIsNaN (FP.Core.i2d a) with
  | false => rfl
  | true =>
    obtain ⟨s, c, q, e⟩ := FP.Core.i2d_fin a
    have := (FP.Core.dIsNaN_iff _).mp h
    rw [e] at this; cases this
theorem mf_nm : mq_nm := by
  refine ⟨by decide, fun a g h0 h6 => ?_⟩
  rw [FP.ddiv_core, FP.i2d_core]
  have hz : ¬ FP.Core.DZero (FP.Core.i2d (nI g)) := by
    rw [FP.Core.zero_bits2]; exact FP.Core.i2d_ne_zero (nI_ne0 h0 (by omega))
  have h := FP.Core.ddiv_out (mf_i2d a) (FP.Core.i2d_fin (nI g)) hz
  cases k : isNaN64 (FP.Core.ddiv (FP.Core.i2d a) (FP.Core.i2d (nI g))) with
  | false => rfl
  | true =>
    have := (FP.Core.dIsNaN_iff _).mpr (mf_nan.mp k)
    rw [this] at h; cases h
theorem the_law {xs : Nat → Int32} {Ln : Nat} (hL : Ln ≤ 260) : f_L_law xs Ln mg_c0 = some () := a_law mf_nm hL
