theorem mg_lgself (x : Int64) : lg_cmp x x = 0 := by simp [lg_cmp]
theorem mg_of0 (v : Int32) (f : Nat → Int64) : mg_of (.ok v) f (Int32.toNatClampNeg 0) = v.toInt64 := by
  have h : (0 : Int32).toNatClampNeg = 0 := by decide
  simp [mg_of, vp_updL, h]
theorem mg_alike2 {x y v : UInt64} (h1 : alike64 x v = true) (h2 : alike64 y v = true) : y = x ∨ (isNaN64 x = true ∧ isNaN64 y = true) := by
  simp only [alike64, Bool.or_eq_true, decide_eq_true_eq, Bool.and_eq_true] at h1 h2
  rcases h1 with h1 | ⟨h1, h1v⟩ <;> rcases h2 with h2 | ⟨h2, h2v⟩
  · exact Or.inl (h2.trans h1.symm)
  · subst h1; exact Or.inr ⟨h2v, h2⟩
  · subst h2; exact Or.inr ⟨h1, h1v⟩
  · exact Or.inr ⟨h1, h2⟩
theorem mg_nan {x : UInt64} (h : isNaN64 x = true) : FP.Core.val64 x = .nan := by
  have h1 := isNaN64_iff.mp h
  rw [show (0x7fffffffffffffff : Nat) = 2 ^ 63 - 1 from rfl, Nat.and_two_pow_sub_one_eq_mod] at h1
  refine (FP.Core.decode_nan _).mpr ?_
  show FP.Core.infBits FP.Core.b64 < x.toNat % FP.Core.half FP.Core.b64
  rw [show FP.Core.half FP.Core.b64 = 2 ^ 63 from by decide +kernel, show FP.Core.infBits FP.Core.b64 = 0x7ff0000000000000 from by decide +kernel]
  exact h1
theorem mg_nancmp (x y : UInt64) (h : isNaN64 x = true ∨ isNaN64 y = true) : ¬ Op.cmpValue (FP.dcmp x y) CmpOp.l = 0 := by
  have h1 : FP.Core.dcmp x y = none := (FP.Core.dcmp_none x y).mpr (h.imp mg_nan mg_nan)
  have h2 : FP.dcmp x y = none := by rw [FP.dcmp_core]; exact h1
  rw [h2]
  decide
set_option maxHeartbeats 4000000 in
set_option maxRecDepth 100000 in
theorem lawc_rock {p : Program} {l : Launch} {e : Env} {s : State} {m : MethodId} {below : List Frame} {meth : Method} {c : Code} {Q : State → Prop} {D : va_G} {o : Nat → Nat} {cI cZ cL : ClassId} {g h : Nat → Nat} {q b L : Nat} {xs : Nat → Int32} (hst : l.stackTraces = false) (hx : p.tables.exec = Jvm.exec) (hb : c.code = cL_law) (hml : c.maxLocals = 9) (hown : s.vm.findClass RL = some m.cls) (hts : ∀ w ∈ wsL_law, w.before #[Value.ref b] s = true) (hX : va_X b L xs s s.heap) (hbl : b < s.heap.size) (hK : va_K D vwCl [(cI, .int), (cZ, .boolean), (cL, .long)] s) (hO : mg_Old o (fun q => s.heap.size ≤ q) s s.heap)
  {σ τ : mg_St} {f : Nat → Int64} {H : Heap} {locs : List Loc} {ls : Array Slot} {cl sl : Nat} (I : mg_Inv σ τ) (x4 : Int32) (j1 : vp_in (x4 + 1) L) (j2 : vp_in (x4 + 2) L) (j3 : vp_in (x4 + 3) L) (j4 : vp_in (x4 + 4) L) (hcl : cl + 700 ≤ room_1.cells) (hsl : sl + 3500 ≤ room_1.slots)
  (hw : mg_Wo D (fun q => s.heap.size ≤ q) s.heap H locs (((mg_cW g cI cZ σ) ++ (mg_oc q cL f)) ++ (mg_mW h cI cZ τ))) (hl : lv_has ls 9 [(0, .ref b), (1, .ref (g 0)), (2, .ref (h 0)), (3, .ref q), (4, .int x4)])
  (kk : ∀ (σ' τ' : mg_St) (f' : Nat → Int64) (H : Heap) (locs : List Loc) (ls : Array Slot), mg_Inv σ' τ' → mg_Wo D (fun q => s.heap.size ≤ q) s.heap H locs (((mg_cW g cI cZ (σ')) ++ (mg_oc q cL (f'))) ++ (mg_mW h cI cZ (τ'))) → lv_has ls 9 [(0, .ref b), (1, .ref (g 0)), (2, .ref (h 0)), (3, .ref q), (4, .int x4)] → W p l e room_1 s m #[Value.ref b] below meth c H locs (cl + 700) (sl + 3500) Q (F0 m 1356 ls [])) : W p l e room_1 s m #[Value.ref b] below meth c H locs cl sl Q (F0 m 132 ls []) := by
  obtain ⟨out, σ1, y, hf1, hf2, I1, hthr, hval⟩ := sim_rock I (xs (x4 + 1).toNatClampNeg) (xs (x4 + 2).toNatClampNeg) (xs (x4 + 3).toNatClampNeg) (xs (x4 + 4).toNatClampNeg)
  have hA : ∀ q : Nat, s.heap.size ≤ q → (fun q => s.heap.size ≤ q) q := fun _ h => h
  have hbA : ¬ (fun q => s.heap.size ≤ q) b := Nat.not_le.mpr hbl
  have G9 : CallFix p m c cL_law 9 s #[Value.ref b] wsL_law RL := ⟨hx, hb, hml, hown, hts⟩
  refine lv_aload_n hx hb dL_law_132 rfl (lv_at hl 1 rfl) ?_
  refine lv_aload_n hx hb dL_law_133 rfl (lv_at hl 0 rfl) ?_
  refine lv_iload hx hb dL_law_134 (lv_at hl 4 rfl) ?_
  refine lv_iconst (v := 1) hx hb dL_law_136 (by decide) ?_
  refine lv_iadd hx hb dL_law_137 ?_
  refine va_sld hx hb hX hbl hbA hw.2.2 j1 dL_law_138 ?_
  refine lv_aload_n hx hb dL_law_139 rfl (lv_at hl 0 rfl) ?_
  refine lv_iload hx hb dL_law_140 (lv_at hl 4 rfl) ?_
  refine lv_iconst (v := 2) hx hb dL_law_142 (by decide) ?_
  refine lv_iadd hx hb dL_law_143 ?_
  refine va_sld hx hb hX hbl hbA hw.2.2 j2 dL_law_144 ?_
  refine lv_aload_n hx hb dL_law_145 rfl (lv_at hl 0 rfl) ?_
  refine lv_iload hx hb dL_law_146 (lv_at hl 4 rfl) ?_
  refine lv_iconst (v := 3) hx hb dL_law_148 (by decide) ?_
  refine lv_iadd hx hb dL_law_149 ?_
  refine va_sld hx hb hX hbl hbA hw.2.2 j3 dL_law_150 ?_
  refine lv_aload_n hx hb dL_law_151 rfl (lv_at hl 0 rfl) ?_
  refine lv_iload hx hb dL_law_152 (lv_at hl 4 rfl) ?_
  refine lv_iconst (v := 4) hx hb dL_law_154 (by decide) ?_
  refine lv_iadd hx hb dL_law_155 ?_
  refine va_sld hx hb hX hbl hbA hw.2.2 j4 dL_law_156 ?_
  refine lv_aload_n hx hb dL_law_157 rfl (lv_at hl 3 rfl) ?_
  refine mg_kF (wl := []) (w0 := ((mg_cW g cI cZ σ) ++ (mg_oc q cL f))) (wr := (mg_mW h cI cZ τ)) (rv := some (.int (mg_cd 1 2 3 out))) (vx_runSW (As := [.ref (g 0), .int (xs (x4 + 1).toNatClampNeg), .int (xs (x4 + 2).toNatClampNeg), .int (xs (x4 + 3).toNatClampNeg), .int (xs (x4 + 4).toNatClampNeg), .ref q]) (rest := []) G9 (k_L_rock l hst D o cI cZ cL g q H.size σ f (xs (x4 + 1).toNatClampNeg) (xs (x4 + 2).toNatClampNeg) (xs (x4 + 3).toNatClampNeg) (xs (x4 + 4).toNatClampNeg) out σ1 hf1) (vx_cwSW 6 hts gL_law_L_rock rfl rfl rfl (by decide +kernel) ⟨Nat.le_of_ble_eq_true rfl, Nat.le_of_ble_eq_true rfl⟩) (mg_pre hK hO hA (mg_sub (wl := []) hw)) rfl rfl hl.1 rfl (lv_room (Nat.le_of_ble_eq_true rfl)) dL_law_158 ⟨(show cl + 1 ≤ room_1.cells by omega), (show sl + 6 ≤ room_1.slots by omega)⟩) hw hA (fun H locs hw => ?_)
  refine lv_istore (lv' := [(5, .int (mg_cd 1 2 3 out)), (0, .ref b), (1, .ref (g 0)), (2, .ref (h 0)), (3, .ref q), (4, .int x4)]) hx hb dL_law_161 hl (by decide) rfl (fun ls hl => ?_)
  refine lv_aload_n hx hb dL_law_163 rfl (lv_at hl 3 rfl) ?_
  refine lv_aload_n hx hb dL_law_164 rfl (lv_at hl 1 rfl) ?_
  refine lv_iload hx hb dL_law_165 (lv_at hl 5 rfl) ?_
  refine lv_iconst (v := 1) hx hb dL_law_167 (by decide) ?_
  refine lv_iadd hx hb dL_law_168 ?_
  refine va_sld hx hb hX hbl hbA hw.2.2 j1 dL_law_169 ?_
  refine lv_aload_n hx hb dL_law_170 rfl (lv_at hl 1 rfl) ?_
  refine lv_iload hx hb dL_law_171 (lv_at hl 5 rfl) ?_
  refine lv_iconst (v := 2) hx hb dL_law_173 (by decide) ?_
  refine lv_iadd hx hb dL_law_174 ?_
  refine va_sld hx hb hX hbl hbA hw.2.2 j2 dL_law_175 ?_
  refine lv_aload_n hx hb dL_law_176 rfl (lv_at hl 1 rfl) ?_
  refine lv_iload hx hb dL_law_177 (lv_at hl 5 rfl) ?_
  refine lv_iconst (v := 3) hx hb dL_law_179 (by decide) ?_
  refine lv_iadd hx hb dL_law_180 ?_
  refine va_sld hx hb hX hbl hbA hw.2.2 j3 dL_law_181 ?_
  refine lv_aload_n hx hb dL_law_182 rfl (lv_at hl 1 rfl) ?_
  refine lv_iload hx hb dL_law_183 (lv_at hl 5 rfl) ?_
  refine lv_iconst (v := 4) hx hb dL_law_185 (by decide) ?_
  refine lv_iadd hx hb dL_law_186 ?_
  refine va_sld hx hb hX hbl hbA hw.2.2 j4 dL_law_187 ?_
  have hw : mg_Wo D (fun q => s.heap.size ≤ q) s.heap H locs (((mg_cW g cI cZ σ1) ++ (mg_oc q cL (mg_of out f))) ++ ((mg_mW h cI cZ τ) ++ [])) := by rw [List.append_nil]; exact hw
  refine mg_kF (wl := ((mg_cW g cI cZ σ1) ++ (mg_oc q cL (mg_of out f)))) (w0 := (mg_mW h cI cZ τ)) (wr := []) (rv := some (.int y.1)) (va_runV (As := [.int (xs (x4 + 1).toNatClampNeg), .int (xs (x4 + 2).toNatClampNeg), .int (xs (x4 + 3).toNatClampNeg), .int (xs (x4 + 4).toNatClampNeg)]) (rest := []) G9 (k_X8_rock l D o cI cZ h H.size τ (xs (x4 + 1).toNatClampNeg) (xs (x4 + 2).toNatClampNeg) (xs (x4 + 3).toNatClampNeg) (xs (x4 + 4).toNatClampNeg) y hf2) (cwV 4 hts gL_law_X8_rock rfl rfl rfl (by decide +kernel) ⟨Nat.le_of_ble_eq_true rfl, Nat.le_of_ble_eq_true rfl⟩) (mg_preV (hK.sub (tys' := [(cI, .int), (cZ, .boolean)]) [0, 1] rfl) hO hA (mg_sub (wl := ((mg_cW g cI cZ σ1) ++ (mg_oc q cL (mg_of out f)))) (wr := []) hw) (q0 := 0) rfl rfl) rfl rfl hl.1 rfl (lv_room (Nat.le_of_ble_eq_true rfl)) dL_law_188 ⟨(show cl + 1 + 0 ≤ room_1.cells by omega), (show sl + 6 + 0 ≤ room_1.slots by omega)⟩) hw hA (fun H locs hw => ?_)
  rw [List.append_nil] at hw
  refine lv_istore (lv' := [(6, .int y.1), (5, .int (mg_cd 1 2 3 out)), (0, .ref b), (1, .ref (g 0)), (2, .ref (h 0)), (3, .ref q), (4, .int x4)]) hx hb dL_law_191 hl (by decide) rfl (fun ls hl => ?_)
  refine lv_aload_n hx hb dL_law_193 rfl (lv_at hl 4 rfl) ?_
  have hw : mg_Wo D (fun q => s.heap.size ≤ q) s.heap H locs (((mg_cW g cI cZ σ1) ++ (mg_oc q cL (mg_of out f))) ++ ((mg_mW h cI cZ y.2) ++ [])) := by rw [List.append_nil]; exact hw
  refine mg_kF (wl := ((mg_cW g cI cZ σ1) ++ (mg_oc q cL (mg_of out f)))) (w0 := (mg_mW h cI cZ y.2)) (wr := []) (rv := some (.int (y.2 0 0))) (va_runV (As := []) (rest := []) G9 (k_X8_thrown l D o cI cZ h H.size y.2 (y.2 0 0) rfl) (cwV 0 hts gL_law_X8_thrown rfl rfl rfl (by decide +kernel) ⟨Nat.le_of_ble_eq_true rfl, Nat.le_of_ble_eq_true rfl⟩) (mg_preV (hK.sub (tys' := [(cI, .int), (cZ, .boolean)]) [0, 1] rfl) hO hA (mg_sub (wl := ((mg_cW g cI cZ σ1) ++ (mg_oc q cL (mg_of out f)))) (wr := []) hw) (q0 := 0) rfl rfl) rfl rfl hl.1 rfl (lv_room (Nat.le_of_ble_eq_true rfl)) dL_law_194 ⟨(show cl + 1 + 0 + 0 ≤ room_1.cells by omega), (show sl + 6 + 0 + 0 ≤ room_1.slots by omega)⟩) hw hA (fun H locs hw => ?_)
  rw [List.append_nil] at hw
  refine lv_iload hx hb dL_law_197 (lv_at hl 1 rfl) ?_
  refine lv_icmp_eq (tgt := 204) hx hb dL_law_199 (by decide) (fun _ => ?_) (fun hne => absurd hthr hne)
  refine mg_join (H2 := H) (locs2 := locs) (g2 := F0 m 221 ls []) ?_ (fun J => ?_)
  · refine lv_goto (tgt := 1356) hx hb dL_law_221 (by decide) ?_
    refine W.widen (k := cl + 700) (n := sl + 3500) (by omega) (by omega) ?_
    exact kk _ _ _ _ _ _ I1 hw (lv_sub hl [2, 3, 4, 5, 6] rfl)
  refine lv_iload hx hb dL_law_204 (lv_at hl 1 rfl) ?_
  refine lv_if_ne (tgt := 221) hx hb dL_law_206 (by decide) (fun _ => J) (fun hz => ?_)
  cases out with
  | error k9 => exact absurd hz (by rcases mg_fin3 k9 with rfl | rfl | rfl <;> decide)
  | ok v =>
    refine lv_aload_n hx hb dL_law_209 rfl (lv_at hl 5 rfl) ?_
    refine lv_iconst (v := 0) hx hb dL_law_210 (by decide) ?_
    refine va_lald hx hb hK hw.1 25 2 rfl rfl (by unfold vp_in; decide) dL_law_211 ?_
    refine lv_iload hx hb dL_law_212 (lv_at hl 0 rfl) ?_
    refine lv_i2l hx hb dL_law_214 rfl ?_
    refine W.lcmp hx hb dL_law_215 ?_
    rw [hval v rfl, mg_of0, mg_lgself]
    exact lv_if_eq (tgt := 221) hx hb dL_law_216 (by decide) (fun _ => J) (fun h => absurd rfl h)
set_option maxHeartbeats 4000000 in
set_option maxRecDepth 100000 in
theorem lawc_dig {p : Program} {l : Launch} {e : Env} {s : State} {m : MethodId} {below : List Frame} {meth : Method} {c : Code} {Q : State → Prop} {D : va_G} {o : Nat → Nat} {cI cZ cL : ClassId} {g h : Nat → Nat} {q b L : Nat} {xs : Nat → Int32} (hst : l.stackTraces = false) (hx : p.tables.exec = Jvm.exec) (hb : c.code = cL_law) (hml : c.maxLocals = 9) (hown : s.vm.findClass RL = some m.cls) (hts : ∀ w ∈ wsL_law, w.before #[Value.ref b] s = true) (hX : va_X b L xs s s.heap) (hbl : b < s.heap.size) (hK : va_K D vwCl [(cI, .int), (cZ, .boolean), (cL, .long)] s) (hO : mg_Old o (fun q => s.heap.size ≤ q) s s.heap)
  {σ τ : mg_St} {f : Nat → Int64} {H : Heap} {locs : List Loc} {ls : Array Slot} {cl sl : Nat} (I : mg_Inv σ τ) (x4 : Int32) (j1 : vp_in (x4 + 1) L) (j2 : vp_in (x4 + 2) L) (j3 : vp_in (x4 + 3) L) (j4 : vp_in (x4 + 4) L) (hcl : cl + 700 ≤ room_1.cells) (hsl : sl + 3500 ≤ room_1.slots)
  (hw : mg_Wo D (fun q => s.heap.size ≤ q) s.heap H locs (((mg_cW g cI cZ σ) ++ (mg_oc q cL f)) ++ (mg_mW h cI cZ τ))) (hl : lv_has ls 9 [(0, .ref b), (1, .ref (g 0)), (2, .ref (h 0)), (3, .ref q), (4, .int x4)])
  (kk : ∀ (σ' τ' : mg_St) (f' : Nat → Int64) (H : Heap) (locs : List Loc) (ls : Array Slot), mg_Inv σ' τ' → mg_Wo D (fun q => s.heap.size ≤ q) s.heap H locs (((mg_cW g cI cZ (σ')) ++ (mg_oc q cL (f'))) ++ (mg_mW h cI cZ (τ'))) → lv_has ls 9 [(0, .ref b), (1, .ref (g 0)), (2, .ref (h 0)), (3, .ref q), (4, .int x4)] → W p l e room_1 s m #[Value.ref b] below meth c H locs (cl + 700) (sl + 3500) Q (F0 m 1356 ls [])) : W p l e room_1 s m #[Value.ref b] below meth c H locs cl sl Q (F0 m 224 ls []) := by
  obtain ⟨out, σ1, y, hf1, hf2, I1, hthr, hval, hk1⟩ := sim_dig I (xs (x4 + 1).toNatClampNeg) (xs (x4 + 2).toNatClampNeg)
  have hA : ∀ q : Nat, s.heap.size ≤ q → (fun q => s.heap.size ≤ q) q := fun _ h => h
  have hbA : ¬ (fun q => s.heap.size ≤ q) b := Nat.not_le.mpr hbl
  have G9 : CallFix p m c cL_law 9 s #[Value.ref b] wsL_law RL := ⟨hx, hb, hml, hown, hts⟩
  refine lv_aload_n hx hb dL_law_224 rfl (lv_at hl 1 rfl) ?_
  refine lv_aload_n hx hb dL_law_225 rfl (lv_at hl 0 rfl) ?_
  refine lv_iload hx hb dL_law_226 (lv_at hl 4 rfl) ?_
  refine lv_iconst (v := 1) hx hb dL_law_228 (by decide) ?_
  refine lv_iadd hx hb dL_law_229 ?_
  refine va_sld hx hb hX hbl hbA hw.2.2 j1 dL_law_230 ?_
  refine lv_aload_n hx hb dL_law_231 rfl (lv_at hl 0 rfl) ?_
  refine lv_iload hx hb dL_law_232 (lv_at hl 4 rfl) ?_
  refine lv_iconst (v := 2) hx hb dL_law_234 (by decide) ?_
  refine lv_iadd hx hb dL_law_235 ?_
  refine va_sld hx hb hX hbl hbA hw.2.2 j2 dL_law_236 ?_
  refine lv_aload_n hx hb dL_law_237 rfl (lv_at hl 3 rfl) ?_
  refine mg_kF (wl := []) (w0 := ((mg_cW g cI cZ σ) ++ (mg_oc q cL f))) (wr := (mg_mW h cI cZ τ)) (rv := some (.int (mg_cd 1 9 2 out))) (vx_runSW (As := [.ref (g 0), .int (xs (x4 + 1).toNatClampNeg), .int (xs (x4 + 2).toNatClampNeg), .ref q]) (rest := []) G9 (k_L_dig l hst D o cI cZ cL g q H.size σ f (xs (x4 + 1).toNatClampNeg) (xs (x4 + 2).toNatClampNeg) out σ1 hf1 hk1) (vx_cwSW 4 hts gL_law_L_dig rfl rfl rfl (by decide +kernel) ⟨Nat.le_of_ble_eq_true rfl, Nat.le_of_ble_eq_true rfl⟩) (mg_pre hK hO hA (mg_sub (wl := []) hw)) rfl rfl hl.1 rfl (lv_room (Nat.le_of_ble_eq_true rfl)) dL_law_238 ⟨(show cl + 1 ≤ room_1.cells by omega), (show sl + 6 ≤ room_1.slots by omega)⟩) hw hA (fun H locs hw => ?_)
  refine lv_istore (lv' := [(5, .int (mg_cd 1 9 2 out)), (0, .ref b), (1, .ref (g 0)), (2, .ref (h 0)), (3, .ref q), (4, .int x4)]) hx hb dL_law_241 hl (by decide) rfl (fun ls hl => ?_)
  refine lv_aload_n hx hb dL_law_243 rfl (lv_at hl 3 rfl) ?_
  refine lv_aload_n hx hb dL_law_244 rfl (lv_at hl 1 rfl) ?_
  refine lv_iload hx hb dL_law_245 (lv_at hl 5 rfl) ?_
  refine lv_iconst (v := 1) hx hb dL_law_247 (by decide) ?_
  refine lv_iadd hx hb dL_law_248 ?_
  refine va_sld hx hb hX hbl hbA hw.2.2 j1 dL_law_249 ?_
  refine lv_aload_n hx hb dL_law_250 rfl (lv_at hl 1 rfl) ?_
  refine lv_iload hx hb dL_law_251 (lv_at hl 5 rfl) ?_
  refine lv_iconst (v := 2) hx hb dL_law_253 (by decide) ?_
  refine lv_iadd hx hb dL_law_254 ?_
  refine va_sld hx hb hX hbl hbA hw.2.2 j2 dL_law_255 ?_
  have hw : mg_Wo D (fun q => s.heap.size ≤ q) s.heap H locs (((mg_cW g cI cZ σ1) ++ (mg_oc q cL (mg_of out f))) ++ ((mg_mW h cI cZ τ) ++ [])) := by rw [List.append_nil]; exact hw
  refine mg_kF (wl := ((mg_cW g cI cZ σ1) ++ (mg_oc q cL (mg_of out f)))) (w0 := (mg_mW h cI cZ τ)) (wr := []) (rv := some (.int y.1)) (va_runV (As := [.int (xs (x4 + 1).toNatClampNeg), .int (xs (x4 + 2).toNatClampNeg)]) (rest := []) G9 (k_X8_dig l D o cI cZ h H.size τ (xs (x4 + 1).toNatClampNeg) (xs (x4 + 2).toNatClampNeg) y hf2) (cwV 2 hts gL_law_X8_dig rfl rfl rfl (by decide +kernel) ⟨Nat.le_of_ble_eq_true rfl, Nat.le_of_ble_eq_true rfl⟩) (mg_preV (hK.sub (tys' := [(cI, .int), (cZ, .boolean)]) [0, 1] rfl) hO hA (mg_sub (wl := ((mg_cW g cI cZ σ1) ++ (mg_oc q cL (mg_of out f)))) (wr := []) hw) (q0 := 0) rfl rfl) rfl rfl hl.1 rfl (lv_room (Nat.le_of_ble_eq_true rfl)) dL_law_256 ⟨(show cl + 1 + 0 ≤ room_1.cells by omega), (show sl + 6 + 0 ≤ room_1.slots by omega)⟩) hw hA (fun H locs hw => ?_)
  rw [List.append_nil] at hw
  refine lv_istore (lv' := [(6, .int y.1), (5, .int (mg_cd 1 9 2 out)), (0, .ref b), (1, .ref (g 0)), (2, .ref (h 0)), (3, .ref q), (4, .int x4)]) hx hb dL_law_259 hl (by decide) rfl (fun ls hl => ?_)
  refine lv_aload_n hx hb dL_law_261 rfl (lv_at hl 4 rfl) ?_
  have hw : mg_Wo D (fun q => s.heap.size ≤ q) s.heap H locs (((mg_cW g cI cZ σ1) ++ (mg_oc q cL (mg_of out f))) ++ ((mg_mW h cI cZ y.2) ++ [])) := by rw [List.append_nil]; exact hw
  refine mg_kF (wl := ((mg_cW g cI cZ σ1) ++ (mg_oc q cL (mg_of out f)))) (w0 := (mg_mW h cI cZ y.2)) (wr := []) (rv := some (.int (y.2 0 0))) (va_runV (As := []) (rest := []) G9 (k_X8_thrown l D o cI cZ h H.size y.2 (y.2 0 0) rfl) (cwV 0 hts gL_law_X8_thrown rfl rfl rfl (by decide +kernel) ⟨Nat.le_of_ble_eq_true rfl, Nat.le_of_ble_eq_true rfl⟩) (mg_preV (hK.sub (tys' := [(cI, .int), (cZ, .boolean)]) [0, 1] rfl) hO hA (mg_sub (wl := ((mg_cW g cI cZ σ1) ++ (mg_oc q cL (mg_of out f)))) (wr := []) hw) (q0 := 0) rfl rfl) rfl rfl hl.1 rfl (lv_room (Nat.le_of_ble_eq_true rfl)) dL_law_262 ⟨(show cl + 1 + 0 + 0 ≤ room_1.cells by omega), (show sl + 6 + 0 + 0 ≤ room_1.slots by omega)⟩) hw hA (fun H locs hw => ?_)
  rw [List.append_nil] at hw
  refine lv_iload hx hb dL_law_265 (lv_at hl 1 rfl) ?_
  refine lv_icmp_eq (tgt := 272) hx hb dL_law_267 (by decide) (fun _ => ?_) (fun hne => absurd hthr hne)
  refine mg_join (H2 := H) (locs2 := locs) (g2 := F0 m 289 ls []) ?_ (fun J => ?_)
  · refine lv_goto (tgt := 1356) hx hb dL_law_289 (by decide) ?_
    refine W.widen (k := cl + 700) (n := sl + 3500) (by omega) (by omega) ?_
    exact kk _ _ _ _ _ _ I1 hw (lv_sub hl [2, 3, 4, 5, 6] rfl)
  refine lv_iload hx hb dL_law_272 (lv_at hl 1 rfl) ?_
  refine lv_if_ne (tgt := 289) hx hb dL_law_274 (by decide) (fun _ => J) (fun hz => ?_)
  cases out with
  | error k9 => exact absurd hz (by rcases mg_fin3 k9 with rfl | rfl | rfl <;> decide)
  | ok v =>
    refine lv_aload_n hx hb dL_law_277 rfl (lv_at hl 5 rfl) ?_
    refine lv_iconst (v := 0) hx hb dL_law_278 (by decide) ?_
    refine va_lald hx hb hK hw.1 25 2 rfl rfl (by unfold vp_in; decide) dL_law_279 ?_
    refine lv_iload hx hb dL_law_280 (lv_at hl 0 rfl) ?_
    refine lv_i2l hx hb dL_law_282 rfl ?_
    refine W.lcmp hx hb dL_law_283 ?_
    rw [hval v rfl, mg_of0, mg_lgself]
    exact lv_if_eq (tgt := 289) hx hb dL_law_284 (by decide) (fun _ => J) (fun h => absurd rfl h)
set_option maxHeartbeats 4000000 in
set_option maxRecDepth 100000 in
theorem lawc_wall {p : Program} {l : Launch} {e : Env} {s : State} {m : MethodId} {below : List Frame} {meth : Method} {c : Code} {Q : State → Prop} {D : va_G} {o : Nat → Nat} {cI cZ cL : ClassId} {g h : Nat → Nat} {q b L : Nat} {xs : Nat → Int32} (hst : l.stackTraces = false) (hx : p.tables.exec = Jvm.exec) (hb : c.code = cL_law) (hml : c.maxLocals = 9) (hown : s.vm.findClass RL = some m.cls) (hts : ∀ w ∈ wsL_law, w.before #[Value.ref b] s = true) (hX : va_X b L xs s s.heap) (hbl : b < s.heap.size) (hK : va_K D vwCl [(cI, .int), (cZ, .boolean), (cL, .long)] s) (hO : mg_Old o (fun q => s.heap.size ≤ q) s s.heap)
  {σ τ : mg_St} {f : Nat → Int64} {H : Heap} {locs : List Loc} {ls : Array Slot} {cl sl : Nat} (I : mg_Inv σ τ) (x4 : Int32) (j1 : vp_in (x4 + 1) L) (j2 : vp_in (x4 + 2) L) (j3 : vp_in (x4 + 3) L) (j4 : vp_in (x4 + 4) L) (hcl : cl + 700 ≤ room_1.cells) (hsl : sl + 3500 ≤ room_1.slots)
  (hw : mg_Wo D (fun q => s.heap.size ≤ q) s.heap H locs (((mg_cW g cI cZ σ) ++ (mg_oc q cL f)) ++ (mg_mW h cI cZ τ))) (hl : lv_has ls 9 [(0, .ref b), (1, .ref (g 0)), (2, .ref (h 0)), (3, .ref q), (4, .int x4)])
  (kk : ∀ (σ' τ' : mg_St) (f' : Nat → Int64) (H : Heap) (locs : List Loc) (ls : Array Slot), mg_Inv σ' τ' → mg_Wo D (fun q => s.heap.size ≤ q) s.heap H locs (((mg_cW g cI cZ (σ')) ++ (mg_oc q cL (f'))) ++ (mg_mW h cI cZ (τ'))) → lv_has ls 9 [(0, .ref b), (1, .ref (g 0)), (2, .ref (h 0)), (3, .ref q), (4, .int x4)] → W p l e room_1 s m #[Value.ref b] below meth c H locs (cl + 700) (sl + 3500) Q (F0 m 1356 ls [])) : W p l e room_1 s m #[Value.ref b] below meth c H locs cl sl Q (F0 m 292 ls []) := by
  obtain ⟨out, σ1, y, hf1, hf2, I1, hthr, hval, hk1⟩ := sim_wall I (xs (x4 + 1).toNatClampNeg) (xs (x4 + 2).toNatClampNeg)
  have hA : ∀ q : Nat, s.heap.size ≤ q → (fun q => s.heap.size ≤ q) q := fun _ h => h
  have hbA : ¬ (fun q => s.heap.size ≤ q) b := Nat.not_le.mpr hbl
  have G9 : CallFix p m c cL_law 9 s #[Value.ref b] wsL_law RL := ⟨hx, hb, hml, hown, hts⟩
  refine lv_aload_n hx hb dL_law_292 rfl (lv_at hl 1 rfl) ?_
  refine lv_aload_n hx hb dL_law_293 rfl (lv_at hl 0 rfl) ?_
  refine lv_iload hx hb dL_law_294 (lv_at hl 4 rfl) ?_
  refine lv_iconst (v := 1) hx hb dL_law_296 (by decide) ?_
  refine lv_iadd hx hb dL_law_297 ?_
  refine va_sld hx hb hX hbl hbA hw.2.2 j1 dL_law_298 ?_
  refine lv_aload_n hx hb dL_law_299 rfl (lv_at hl 0 rfl) ?_
  refine lv_iload hx hb dL_law_300 (lv_at hl 4 rfl) ?_
  refine lv_iconst (v := 2) hx hb dL_law_302 (by decide) ?_
  refine lv_iadd hx hb dL_law_303 ?_
  refine va_sld hx hb hX hbl hbA hw.2.2 j2 dL_law_304 ?_
  refine lv_aload_n hx hb dL_law_305 rfl (lv_at hl 3 rfl) ?_
  refine mg_kF (wl := []) (w0 := ((mg_cW g cI cZ σ) ++ (mg_oc q cL f))) (wr := (mg_mW h cI cZ τ)) (rv := some (.int (mg_cd 1 9 2 out))) (vx_runSW (As := [.ref (g 0), .int (xs (x4 + 1).toNatClampNeg), .int (xs (x4 + 2).toNatClampNeg), .ref q]) (rest := []) G9 (k_L_wall l hst D o cI cZ cL g q H.size σ f (xs (x4 + 1).toNatClampNeg) (xs (x4 + 2).toNatClampNeg) out σ1 hf1 hk1) (vx_cwSW 4 hts gL_law_L_wall rfl rfl rfl (by decide +kernel) ⟨Nat.le_of_ble_eq_true rfl, Nat.le_of_ble_eq_true rfl⟩) (mg_pre hK hO hA (mg_sub (wl := []) hw)) rfl rfl hl.1 rfl (lv_room (Nat.le_of_ble_eq_true rfl)) dL_law_306 ⟨(show cl + 1 ≤ room_1.cells by omega), (show sl + 6 ≤ room_1.slots by omega)⟩) hw hA (fun H locs hw => ?_)
  refine lv_istore (lv' := [(5, .int (mg_cd 1 9 2 out)), (0, .ref b), (1, .ref (g 0)), (2, .ref (h 0)), (3, .ref q), (4, .int x4)]) hx hb dL_law_309 hl (by decide) rfl (fun ls hl => ?_)
  refine lv_aload_n hx hb dL_law_311 rfl (lv_at hl 3 rfl) ?_
  refine lv_aload_n hx hb dL_law_312 rfl (lv_at hl 1 rfl) ?_
  refine lv_iload hx hb dL_law_313 (lv_at hl 5 rfl) ?_
  refine lv_iconst (v := 1) hx hb dL_law_315 (by decide) ?_
  refine lv_iadd hx hb dL_law_316 ?_
  refine va_sld hx hb hX hbl hbA hw.2.2 j1 dL_law_317 ?_
  refine lv_aload_n hx hb dL_law_318 rfl (lv_at hl 1 rfl) ?_
  refine lv_iload hx hb dL_law_319 (lv_at hl 5 rfl) ?_
  refine lv_iconst (v := 2) hx hb dL_law_321 (by decide) ?_
  refine lv_iadd hx hb dL_law_322 ?_
  refine va_sld hx hb hX hbl hbA hw.2.2 j2 dL_law_323 ?_
  have hw : mg_Wo D (fun q => s.heap.size ≤ q) s.heap H locs (((mg_cW g cI cZ σ1) ++ (mg_oc q cL (mg_of out f))) ++ ((mg_mW h cI cZ τ) ++ [])) := by rw [List.append_nil]; exact hw
  refine mg_kF (wl := ((mg_cW g cI cZ σ1) ++ (mg_oc q cL (mg_of out f)))) (w0 := (mg_mW h cI cZ τ)) (wr := []) (rv := some (.int y.1)) (va_runV (As := [.int (xs (x4 + 1).toNatClampNeg), .int (xs (x4 + 2).toNatClampNeg)]) (rest := []) G9 (k_X8_wall l D o cI cZ h H.size τ (xs (x4 + 1).toNatClampNeg) (xs (x4 + 2).toNatClampNeg) y hf2) (cwV 2 hts gL_law_X8_wall rfl rfl rfl (by decide +kernel) ⟨Nat.le_of_ble_eq_true rfl, Nat.le_of_ble_eq_true rfl⟩) (mg_preV (hK.sub (tys' := [(cI, .int), (cZ, .boolean)]) [0, 1] rfl) hO hA (mg_sub (wl := ((mg_cW g cI cZ σ1) ++ (mg_oc q cL (mg_of out f)))) (wr := []) hw) (q0 := 0) rfl rfl) rfl rfl hl.1 rfl (lv_room (Nat.le_of_ble_eq_true rfl)) dL_law_324 ⟨(show cl + 1 + 0 ≤ room_1.cells by omega), (show sl + 6 + 0 ≤ room_1.slots by omega)⟩) hw hA (fun H locs hw => ?_)
  rw [List.append_nil] at hw
  refine lv_istore (lv' := [(6, .int y.1), (5, .int (mg_cd 1 9 2 out)), (0, .ref b), (1, .ref (g 0)), (2, .ref (h 0)), (3, .ref q), (4, .int x4)]) hx hb dL_law_327 hl (by decide) rfl (fun ls hl => ?_)
  refine lv_aload_n hx hb dL_law_329 rfl (lv_at hl 4 rfl) ?_
  have hw : mg_Wo D (fun q => s.heap.size ≤ q) s.heap H locs (((mg_cW g cI cZ σ1) ++ (mg_oc q cL (mg_of out f))) ++ ((mg_mW h cI cZ y.2) ++ [])) := by rw [List.append_nil]; exact hw
  refine mg_kF (wl := ((mg_cW g cI cZ σ1) ++ (mg_oc q cL (mg_of out f)))) (w0 := (mg_mW h cI cZ y.2)) (wr := []) (rv := some (.int (y.2 0 0))) (va_runV (As := []) (rest := []) G9 (k_X8_thrown l D o cI cZ h H.size y.2 (y.2 0 0) rfl) (cwV 0 hts gL_law_X8_thrown rfl rfl rfl (by decide +kernel) ⟨Nat.le_of_ble_eq_true rfl, Nat.le_of_ble_eq_true rfl⟩) (mg_preV (hK.sub (tys' := [(cI, .int), (cZ, .boolean)]) [0, 1] rfl) hO hA (mg_sub (wl := ((mg_cW g cI cZ σ1) ++ (mg_oc q cL (mg_of out f)))) (wr := []) hw) (q0 := 0) rfl rfl) rfl rfl hl.1 rfl (lv_room (Nat.le_of_ble_eq_true rfl)) dL_law_330 ⟨(show cl + 1 + 0 + 0 ≤ room_1.cells by omega), (show sl + 6 + 0 + 0 ≤ room_1.slots by omega)⟩) hw hA (fun H locs hw => ?_)
  rw [List.append_nil] at hw
  refine lv_iload hx hb dL_law_333 (lv_at hl 1 rfl) ?_
  refine lv_icmp_eq (tgt := 340) hx hb dL_law_335 (by decide) (fun _ => ?_) (fun hne => absurd hthr hne)
  refine mg_join (H2 := H) (locs2 := locs) (g2 := F0 m 357 ls []) ?_ (fun J => ?_)
  · refine lv_goto (tgt := 1356) hx hb dL_law_357 (by decide) ?_
    refine W.widen (k := cl + 700) (n := sl + 3500) (by omega) (by omega) ?_
    exact kk _ _ _ _ _ _ I1 hw (lv_sub hl [2, 3, 4, 5, 6] rfl)
  refine lv_iload hx hb dL_law_340 (lv_at hl 1 rfl) ?_
  refine lv_if_ne (tgt := 357) hx hb dL_law_342 (by decide) (fun _ => J) (fun hz => ?_)
  cases out with
  | error k9 => exact absurd hz (by rcases mg_fin3 k9 with rfl | rfl | rfl <;> decide)
  | ok v =>
    refine lv_aload_n hx hb dL_law_345 rfl (lv_at hl 5 rfl) ?_
    refine lv_iconst (v := 0) hx hb dL_law_346 (by decide) ?_
    refine va_lald hx hb hK hw.1 25 2 rfl rfl (by unfold vp_in; decide) dL_law_347 ?_
    refine lv_iload hx hb dL_law_348 (lv_at hl 0 rfl) ?_
    refine lv_i2l hx hb dL_law_350 rfl ?_
    refine W.lcmp hx hb dL_law_351 ?_
    rw [hval v rfl, mg_of0, mg_lgself]
    exact lv_if_eq (tgt := 357) hx hb dL_law_352 (by decide) (fun _ => J) (fun h => absurd rfl h)
set_option maxHeartbeats 4000000 in
set_option maxRecDepth 100000 in
theorem lawc_clear {p : Program} {l : Launch} {e : Env} {s : State} {m : MethodId} {below : List Frame} {meth : Method} {c : Code} {Q : State → Prop} {D : va_G} {o : Nat → Nat} {cI cZ cL : ClassId} {g h : Nat → Nat} {q b L : Nat} {xs : Nat → Int32} (hst : l.stackTraces = false) (hx : p.tables.exec = Jvm.exec) (hb : c.code = cL_law) (hml : c.maxLocals = 9) (hown : s.vm.findClass RL = some m.cls) (hts : ∀ w ∈ wsL_law, w.before #[Value.ref b] s = true) (hX : va_X b L xs s s.heap) (hbl : b < s.heap.size) (hK : va_K D vwCl [(cI, .int), (cZ, .boolean), (cL, .long)] s) (hO : mg_Old o (fun q => s.heap.size ≤ q) s s.heap)
  {σ τ : mg_St} {f : Nat → Int64} {H : Heap} {locs : List Loc} {ls : Array Slot} {cl sl : Nat} (I : mg_Inv σ τ) (x4 : Int32) (j1 : vp_in (x4 + 1) L) (j2 : vp_in (x4 + 2) L) (j3 : vp_in (x4 + 3) L) (j4 : vp_in (x4 + 4) L) (hcl : cl + 700 ≤ room_1.cells) (hsl : sl + 3500 ≤ room_1.slots)
  (hw : mg_Wo D (fun q => s.heap.size ≤ q) s.heap H locs (((mg_cW g cI cZ σ) ++ (mg_oc q cL f)) ++ (mg_mW h cI cZ τ))) (hl : lv_has ls 9 [(0, .ref b), (1, .ref (g 0)), (2, .ref (h 0)), (3, .ref q), (4, .int x4)])
  (kk : ∀ (σ' τ' : mg_St) (f' : Nat → Int64) (H : Heap) (locs : List Loc) (ls : Array Slot), mg_Inv σ' τ' → mg_Wo D (fun q => s.heap.size ≤ q) s.heap H locs (((mg_cW g cI cZ (σ')) ++ (mg_oc q cL (f'))) ++ (mg_mW h cI cZ (τ'))) → lv_has ls 9 [(0, .ref b), (1, .ref (g 0)), (2, .ref (h 0)), (3, .ref q), (4, .int x4)] → W p l e room_1 s m #[Value.ref b] below meth c H locs (cl + 700) (sl + 3500) Q (F0 m 1356 ls [])) : W p l e room_1 s m #[Value.ref b] below meth c H locs cl sl Q (F0 m 360 ls []) := by
  obtain ⟨out, σ1, y, hf1, hf2, I1, hthr, hval, hk1⟩ := sim_clear I (xs (x4 + 1).toNatClampNeg) (xs (x4 + 2).toNatClampNeg)
  have hA : ∀ q : Nat, s.heap.size ≤ q → (fun q => s.heap.size ≤ q) q := fun _ h => h
  have hbA : ¬ (fun q => s.heap.size ≤ q) b := Nat.not_le.mpr hbl
  have G9 : CallFix p m c cL_law 9 s #[Value.ref b] wsL_law RL := ⟨hx, hb, hml, hown, hts⟩
  refine lv_aload_n hx hb dL_law_360 rfl (lv_at hl 1 rfl) ?_
  refine lv_aload_n hx hb dL_law_361 rfl (lv_at hl 0 rfl) ?_
  refine lv_iload hx hb dL_law_362 (lv_at hl 4 rfl) ?_
  refine lv_iconst (v := 1) hx hb dL_law_364 (by decide) ?_
  refine lv_iadd hx hb dL_law_365 ?_
  refine va_sld hx hb hX hbl hbA hw.2.2 j1 dL_law_366 ?_
  refine lv_aload_n hx hb dL_law_367 rfl (lv_at hl 0 rfl) ?_
  refine lv_iload hx hb dL_law_368 (lv_at hl 4 rfl) ?_
  refine lv_iconst (v := 2) hx hb dL_law_370 (by decide) ?_
  refine lv_iadd hx hb dL_law_371 ?_
  refine va_sld hx hb hX hbl hbA hw.2.2 j2 dL_law_372 ?_
  refine lv_aload_n hx hb dL_law_373 rfl (lv_at hl 3 rfl) ?_
  refine mg_kF (wl := []) (w0 := ((mg_cW g cI cZ σ) ++ (mg_oc q cL f))) (wr := (mg_mW h cI cZ τ)) (rv := some (.int (mg_cd 1 9 2 out))) (vx_runSW (As := [.ref (g 0), .int (xs (x4 + 1).toNatClampNeg), .int (xs (x4 + 2).toNatClampNeg), .ref q]) (rest := []) G9 (k_L_clear l hst D o cI cZ cL g q H.size σ f (xs (x4 + 1).toNatClampNeg) (xs (x4 + 2).toNatClampNeg) out σ1 hf1 hk1) (vx_cwSW 4 hts gL_law_L_clear rfl rfl rfl (by decide +kernel) ⟨Nat.le_of_ble_eq_true rfl, Nat.le_of_ble_eq_true rfl⟩) (mg_pre hK hO hA (mg_sub (wl := []) hw)) rfl rfl hl.1 rfl (lv_room (Nat.le_of_ble_eq_true rfl)) dL_law_374 ⟨(show cl + 1 ≤ room_1.cells by omega), (show sl + 6 ≤ room_1.slots by omega)⟩) hw hA (fun H locs hw => ?_)
  refine lv_istore (lv' := [(5, .int (mg_cd 1 9 2 out)), (0, .ref b), (1, .ref (g 0)), (2, .ref (h 0)), (3, .ref q), (4, .int x4)]) hx hb dL_law_377 hl (by decide) rfl (fun ls hl => ?_)
  refine lv_aload_n hx hb dL_law_379 rfl (lv_at hl 3 rfl) ?_
  refine lv_aload_n hx hb dL_law_380 rfl (lv_at hl 1 rfl) ?_
  refine lv_iload hx hb dL_law_381 (lv_at hl 5 rfl) ?_
  refine lv_iconst (v := 1) hx hb dL_law_383 (by decide) ?_
  refine lv_iadd hx hb dL_law_384 ?_
  refine va_sld hx hb hX hbl hbA hw.2.2 j1 dL_law_385 ?_
  refine lv_aload_n hx hb dL_law_386 rfl (lv_at hl 1 rfl) ?_
  refine lv_iload hx hb dL_law_387 (lv_at hl 5 rfl) ?_
  refine lv_iconst (v := 2) hx hb dL_law_389 (by decide) ?_
  refine lv_iadd hx hb dL_law_390 ?_
  refine va_sld hx hb hX hbl hbA hw.2.2 j2 dL_law_391 ?_
  have hw : mg_Wo D (fun q => s.heap.size ≤ q) s.heap H locs (((mg_cW g cI cZ σ1) ++ (mg_oc q cL (mg_of out f))) ++ ((mg_mW h cI cZ τ) ++ [])) := by rw [List.append_nil]; exact hw
  refine mg_kF (wl := ((mg_cW g cI cZ σ1) ++ (mg_oc q cL (mg_of out f)))) (w0 := (mg_mW h cI cZ τ)) (wr := []) (rv := some (.int y.1)) (va_runV (As := [.int (xs (x4 + 1).toNatClampNeg), .int (xs (x4 + 2).toNatClampNeg)]) (rest := []) G9 (k_X8_clear l D o cI cZ h H.size τ (xs (x4 + 1).toNatClampNeg) (xs (x4 + 2).toNatClampNeg) y hf2) (cwV 2 hts gL_law_X8_clear rfl rfl rfl (by decide +kernel) ⟨Nat.le_of_ble_eq_true rfl, Nat.le_of_ble_eq_true rfl⟩) (mg_preV (hK.sub (tys' := [(cI, .int), (cZ, .boolean)]) [0, 1] rfl) hO hA (mg_sub (wl := ((mg_cW g cI cZ σ1) ++ (mg_oc q cL (mg_of out f)))) (wr := []) hw) (q0 := 0) rfl rfl) rfl rfl hl.1 rfl (lv_room (Nat.le_of_ble_eq_true rfl)) dL_law_392 ⟨(show cl + 1 + 0 ≤ room_1.cells by omega), (show sl + 6 + 0 ≤ room_1.slots by omega)⟩) hw hA (fun H locs hw => ?_)
  rw [List.append_nil] at hw
  refine lv_istore (lv' := [(6, .int y.1), (5, .int (mg_cd 1 9 2 out)), (0, .ref b), (1, .ref (g 0)), (2, .ref (h 0)), (3, .ref q), (4, .int x4)]) hx hb dL_law_395 hl (by decide) rfl (fun ls hl => ?_)
  refine lv_aload_n hx hb dL_law_397 rfl (lv_at hl 4 rfl) ?_
  have hw : mg_Wo D (fun q => s.heap.size ≤ q) s.heap H locs (((mg_cW g cI cZ σ1) ++ (mg_oc q cL (mg_of out f))) ++ ((mg_mW h cI cZ y.2) ++ [])) := by rw [List.append_nil]; exact hw
  refine mg_kF (wl := ((mg_cW g cI cZ σ1) ++ (mg_oc q cL (mg_of out f)))) (w0 := (mg_mW h cI cZ y.2)) (wr := []) (rv := some (.int (y.2 0 0))) (va_runV (As := []) (rest := []) G9 (k_X8_thrown l D o cI cZ h H.size y.2 (y.2 0 0) rfl) (cwV 0 hts gL_law_X8_thrown rfl rfl rfl (by decide +kernel) ⟨Nat.le_of_ble_eq_true rfl, Nat.le_of_ble_eq_true rfl⟩) (mg_preV (hK.sub (tys' := [(cI, .int), (cZ, .boolean)]) [0, 1] rfl) hO hA (mg_sub (wl := ((mg_cW g cI cZ σ1) ++ (mg_oc q cL (mg_of out f)))) (wr := []) hw) (q0 := 0) rfl rfl) rfl rfl hl.1 rfl (lv_room (Nat.le_of_ble_eq_true rfl)) dL_law_398 ⟨(show cl + 1 + 0 + 0 ≤ room_1.cells by omega), (show sl + 6 + 0 + 0 ≤ room_1.slots by omega)⟩) hw hA (fun H locs hw => ?_)
  rw [List.append_nil] at hw
  refine lv_iload hx hb dL_law_401 (lv_at hl 1 rfl) ?_
  refine lv_icmp_eq (tgt := 408) hx hb dL_law_403 (by decide) (fun _ => ?_) (fun hne => absurd hthr hne)
  refine mg_join (H2 := H) (locs2 := locs) (g2 := F0 m 425 ls []) ?_ (fun J => ?_)
  · refine lv_goto (tgt := 1356) hx hb dL_law_425 (by decide) ?_
    refine W.widen (k := cl + 700) (n := sl + 3500) (by omega) (by omega) ?_
    exact kk _ _ _ _ _ _ I1 hw (lv_sub hl [2, 3, 4, 5, 6] rfl)
  refine lv_iload hx hb dL_law_408 (lv_at hl 1 rfl) ?_
  refine lv_if_ne (tgt := 425) hx hb dL_law_410 (by decide) (fun _ => J) (fun hz => ?_)
  cases out with
  | error k9 => exact absurd hz (by rcases mg_fin3 k9 with rfl | rfl | rfl <;> decide)
  | ok v =>
    refine lv_aload_n hx hb dL_law_413 rfl (lv_at hl 5 rfl) ?_
    refine lv_iconst (v := 0) hx hb dL_law_414 (by decide) ?_
    refine va_lald hx hb hK hw.1 25 2 rfl rfl (by unfold vp_in; decide) dL_law_415 ?_
    refine lv_iload hx hb dL_law_416 (lv_at hl 0 rfl) ?_
    refine lv_i2l hx hb dL_law_418 rfl ?_
    refine W.lcmp hx hb dL_law_419 ?_
    rw [hval v rfl, mg_of0, mg_lgself]
    exact lv_if_eq (tgt := 425) hx hb dL_law_420 (by decide) (fun _ => J) (fun h => absurd rfl h)
set_option maxHeartbeats 4000000 in
set_option maxRecDepth 100000 in
theorem lawc_cell {p : Program} {l : Launch} {e : Env} {s : State} {m : MethodId} {below : List Frame} {meth : Method} {c : Code} {Q : State → Prop} {D : va_G} {o : Nat → Nat} {cI cZ cL : ClassId} {g h : Nat → Nat} {q b L : Nat} {xs : Nat → Int32} (hst : l.stackTraces = false) (hx : p.tables.exec = Jvm.exec) (hb : c.code = cL_law) (hml : c.maxLocals = 9) (hown : s.vm.findClass RL = some m.cls) (hts : ∀ w ∈ wsL_law, w.before #[Value.ref b] s = true) (hX : va_X b L xs s s.heap) (hbl : b < s.heap.size) (hK : va_K D vwCl [(cI, .int), (cZ, .boolean), (cL, .long)] s) (hO : mg_Old o (fun q => s.heap.size ≤ q) s s.heap)
  {σ τ : mg_St} {f : Nat → Int64} {H : Heap} {locs : List Loc} {ls : Array Slot} {cl sl : Nat} (I : mg_Inv σ τ) (x4 : Int32) (j1 : vp_in (x4 + 1) L) (j2 : vp_in (x4 + 2) L) (j3 : vp_in (x4 + 3) L) (j4 : vp_in (x4 + 4) L) (hcl : cl + 700 ≤ room_1.cells) (hsl : sl + 3500 ≤ room_1.slots)
  (hw : mg_Wo D (fun q => s.heap.size ≤ q) s.heap H locs (((mg_cW g cI cZ σ) ++ (mg_oc q cL f)) ++ (mg_mW h cI cZ τ))) (hl : lv_has ls 9 [(0, .ref b), (1, .ref (g 0)), (2, .ref (h 0)), (3, .ref q), (4, .int x4)])
  (kk : ∀ (σ' τ' : mg_St) (f' : Nat → Int64) (H : Heap) (locs : List Loc) (ls : Array Slot), mg_Inv σ' τ' → mg_Wo D (fun q => s.heap.size ≤ q) s.heap H locs (((mg_cW g cI cZ (σ')) ++ (mg_oc q cL (f'))) ++ (mg_mW h cI cZ (τ'))) → lv_has ls 9 [(0, .ref b), (1, .ref (g 0)), (2, .ref (h 0)), (3, .ref q), (4, .int x4)] → W p l e room_1 s m #[Value.ref b] below meth c H locs (cl + 700) (sl + 3500) Q (F0 m 1356 ls [])) : W p l e room_1 s m #[Value.ref b] below meth c H locs cl sl Q (F0 m 428 ls []) := by
  obtain ⟨out, σ1, y, hf1, hf2, I1, hthr, hval, hk1, hk2⟩ := sim_cell I (xs (x4 + 1).toNatClampNeg) (xs (x4 + 2).toNatClampNeg) (xs (x4 + 3).toNatClampNeg)
  have hA : ∀ q : Nat, s.heap.size ≤ q → (fun q => s.heap.size ≤ q) q := fun _ h => h
  have hbA : ¬ (fun q => s.heap.size ≤ q) b := Nat.not_le.mpr hbl
  have G9 : CallFix p m c cL_law 9 s #[Value.ref b] wsL_law RL := ⟨hx, hb, hml, hown, hts⟩
  refine lv_aload_n hx hb dL_law_428 rfl (lv_at hl 1 rfl) ?_
  refine lv_aload_n hx hb dL_law_429 rfl (lv_at hl 0 rfl) ?_
  refine lv_iload hx hb dL_law_430 (lv_at hl 4 rfl) ?_
  refine lv_iconst (v := 1) hx hb dL_law_432 (by decide) ?_
  refine lv_iadd hx hb dL_law_433 ?_
  refine va_sld hx hb hX hbl hbA hw.2.2 j1 dL_law_434 ?_
  refine lv_aload_n hx hb dL_law_435 rfl (lv_at hl 0 rfl) ?_
  refine lv_iload hx hb dL_law_436 (lv_at hl 4 rfl) ?_
  refine lv_iconst (v := 2) hx hb dL_law_438 (by decide) ?_
  refine lv_iadd hx hb dL_law_439 ?_
  refine va_sld hx hb hX hbl hbA hw.2.2 j2 dL_law_440 ?_
  refine lv_aload_n hx hb dL_law_441 rfl (lv_at hl 0 rfl) ?_
  refine lv_iload hx hb dL_law_442 (lv_at hl 4 rfl) ?_
  refine lv_iconst (v := 3) hx hb dL_law_444 (by decide) ?_
  refine lv_iadd hx hb dL_law_445 ?_
  refine va_sld hx hb hX hbl hbA hw.2.2 j3 dL_law_446 ?_
  refine lv_aload_n hx hb dL_law_447 rfl (lv_at hl 3 rfl) ?_
  refine mg_kF (wl := []) (w0 := ((mg_cW g cI cZ σ) ++ (mg_oc q cL f))) (wr := (mg_mW h cI cZ τ)) (rv := some (.int (mg_cd 1 9 9 out))) (vx_runSW (As := [.ref (g 0), .int (xs (x4 + 1).toNatClampNeg), .int (xs (x4 + 2).toNatClampNeg), .int (xs (x4 + 3).toNatClampNeg), .ref q]) (rest := []) G9 (k_L_cell l hst D o cI cZ cL g q H.size σ f (xs (x4 + 1).toNatClampNeg) (xs (x4 + 2).toNatClampNeg) (xs (x4 + 3).toNatClampNeg) out σ1 hf1 hk1 hk2) (vx_cwSW 5 hts gL_law_L_cell rfl rfl rfl (by decide +kernel) ⟨Nat.le_of_ble_eq_true rfl, Nat.le_of_ble_eq_true rfl⟩) (mg_pre hK hO hA (mg_sub (wl := []) hw)) rfl rfl hl.1 rfl (lv_room (Nat.le_of_ble_eq_true rfl)) dL_law_448 ⟨(show cl + 1 ≤ room_1.cells by omega), (show sl + 6 ≤ room_1.slots by omega)⟩) hw hA (fun H locs hw => ?_)
  refine lv_istore (lv' := [(5, .int (mg_cd 1 9 9 out)), (0, .ref b), (1, .ref (g 0)), (2, .ref (h 0)), (3, .ref q), (4, .int x4)]) hx hb dL_law_451 hl (by decide) rfl (fun ls hl => ?_)
  refine lv_aload_n hx hb dL_law_453 rfl (lv_at hl 3 rfl) ?_
  refine lv_aload_n hx hb dL_law_454 rfl (lv_at hl 1 rfl) ?_
  refine lv_iload hx hb dL_law_455 (lv_at hl 5 rfl) ?_
  refine lv_iconst (v := 1) hx hb dL_law_457 (by decide) ?_
  refine lv_iadd hx hb dL_law_458 ?_
  refine va_sld hx hb hX hbl hbA hw.2.2 j1 dL_law_459 ?_
  refine lv_aload_n hx hb dL_law_460 rfl (lv_at hl 1 rfl) ?_
  refine lv_iload hx hb dL_law_461 (lv_at hl 5 rfl) ?_
  refine lv_iconst (v := 2) hx hb dL_law_463 (by decide) ?_
  refine lv_iadd hx hb dL_law_464 ?_
  refine va_sld hx hb hX hbl hbA hw.2.2 j2 dL_law_465 ?_
  refine lv_aload_n hx hb dL_law_466 rfl (lv_at hl 1 rfl) ?_
  refine lv_iload hx hb dL_law_467 (lv_at hl 5 rfl) ?_
  refine lv_iconst (v := 3) hx hb dL_law_469 (by decide) ?_
  refine lv_iadd hx hb dL_law_470 ?_
  refine va_sld hx hb hX hbl hbA hw.2.2 j3 dL_law_471 ?_
  have hw : mg_Wo D (fun q => s.heap.size ≤ q) s.heap H locs (((mg_cW g cI cZ σ1) ++ (mg_oc q cL (mg_of out f))) ++ ((mg_mW h cI cZ τ) ++ [])) := by rw [List.append_nil]; exact hw
  refine mg_kF (wl := ((mg_cW g cI cZ σ1) ++ (mg_oc q cL (mg_of out f)))) (w0 := (mg_mW h cI cZ τ)) (wr := []) (rv := some (.int y.1)) (va_runV (As := [.int (xs (x4 + 1).toNatClampNeg), .int (xs (x4 + 2).toNatClampNeg), .int (xs (x4 + 3).toNatClampNeg)]) (rest := []) G9 (k_X8_cell l D o cI cZ h H.size τ (xs (x4 + 1).toNatClampNeg) (xs (x4 + 2).toNatClampNeg) (xs (x4 + 3).toNatClampNeg) y hf2) (cwV 3 hts gL_law_X8_cell rfl rfl rfl (by decide +kernel) ⟨Nat.le_of_ble_eq_true rfl, Nat.le_of_ble_eq_true rfl⟩) (mg_preV (hK.sub (tys' := [(cI, .int), (cZ, .boolean)]) [0, 1] rfl) hO hA (mg_sub (wl := ((mg_cW g cI cZ σ1) ++ (mg_oc q cL (mg_of out f)))) (wr := []) hw) (q0 := 0) rfl rfl) rfl rfl hl.1 rfl (lv_room (Nat.le_of_ble_eq_true rfl)) dL_law_472 ⟨(show cl + 1 + 1 ≤ room_1.cells by omega), (show sl + 6 + 5 ≤ room_1.slots by omega)⟩) hw hA (fun H locs hw => ?_)
  rw [List.append_nil] at hw
  refine lv_istore (lv' := [(6, .int y.1), (5, .int (mg_cd 1 9 9 out)), (0, .ref b), (1, .ref (g 0)), (2, .ref (h 0)), (3, .ref q), (4, .int x4)]) hx hb dL_law_475 hl (by decide) rfl (fun ls hl => ?_)
  refine lv_aload_n hx hb dL_law_477 rfl (lv_at hl 4 rfl) ?_
  have hw : mg_Wo D (fun q => s.heap.size ≤ q) s.heap H locs (((mg_cW g cI cZ σ1) ++ (mg_oc q cL (mg_of out f))) ++ ((mg_mW h cI cZ y.2) ++ [])) := by rw [List.append_nil]; exact hw
  refine mg_kF (wl := ((mg_cW g cI cZ σ1) ++ (mg_oc q cL (mg_of out f)))) (w0 := (mg_mW h cI cZ y.2)) (wr := []) (rv := some (.int (y.2 0 0))) (va_runV (As := []) (rest := []) G9 (k_X8_thrown l D o cI cZ h H.size y.2 (y.2 0 0) rfl) (cwV 0 hts gL_law_X8_thrown rfl rfl rfl (by decide +kernel) ⟨Nat.le_of_ble_eq_true rfl, Nat.le_of_ble_eq_true rfl⟩) (mg_preV (hK.sub (tys' := [(cI, .int), (cZ, .boolean)]) [0, 1] rfl) hO hA (mg_sub (wl := ((mg_cW g cI cZ σ1) ++ (mg_oc q cL (mg_of out f)))) (wr := []) hw) (q0 := 0) rfl rfl) rfl rfl hl.1 rfl (lv_room (Nat.le_of_ble_eq_true rfl)) dL_law_478 ⟨(show cl + 1 + 1 + 0 ≤ room_1.cells by omega), (show sl + 6 + 5 + 0 ≤ room_1.slots by omega)⟩) hw hA (fun H locs hw => ?_)
  rw [List.append_nil] at hw
  refine lv_iload hx hb dL_law_481 (lv_at hl 1 rfl) ?_
  refine lv_icmp_eq (tgt := 488) hx hb dL_law_483 (by decide) (fun _ => ?_) (fun hne => absurd hthr hne)
  refine mg_join (H2 := H) (locs2 := locs) (g2 := F0 m 505 ls []) ?_ (fun J => ?_)
  · refine lv_goto (tgt := 1356) hx hb dL_law_505 (by decide) ?_
    refine W.widen (k := cl + 700) (n := sl + 3500) (by omega) (by omega) ?_
    exact kk _ _ _ _ _ _ I1 hw (lv_sub hl [2, 3, 4, 5, 6] rfl)
  refine lv_iload hx hb dL_law_488 (lv_at hl 1 rfl) ?_
  refine lv_if_ne (tgt := 505) hx hb dL_law_490 (by decide) (fun _ => J) (fun hz => ?_)
  cases out with
  | error k9 => exact absurd hz (by rcases mg_fin3 k9 with rfl | rfl | rfl <;> decide)
  | ok v =>
    refine lv_aload_n hx hb dL_law_493 rfl (lv_at hl 5 rfl) ?_
    refine lv_iconst (v := 0) hx hb dL_law_494 (by decide) ?_
    refine va_lald hx hb hK hw.1 25 2 rfl rfl (by unfold vp_in; decide) dL_law_495 ?_
    refine lv_iload hx hb dL_law_496 (lv_at hl 0 rfl) ?_
    refine lv_i2l hx hb dL_law_498 rfl ?_
    refine W.lcmp hx hb dL_law_499 ?_
    rw [hval v rfl, mg_of0, mg_lgself]
    exact lv_if_eq (tgt := 505) hx hb dL_law_500 (by decide) (fun _ => J) (fun h => absurd rfl h)
set_option maxHeartbeats 4000000 in
set_option maxRecDepth 100000 in
theorem lawc_carp {p : Program} {l : Launch} {e : Env} {s : State} {m : MethodId} {below : List Frame} {meth : Method} {c : Code} {Q : State → Prop} {D : va_G} {o : Nat → Nat} {cI cZ cL : ClassId} {g h : Nat → Nat} {q b L : Nat} {xs : Nat → Int32} (hst : l.stackTraces = false) (hx : p.tables.exec = Jvm.exec) (hb : c.code = cL_law) (hml : c.maxLocals = 9) (hown : s.vm.findClass RL = some m.cls) (hts : ∀ w ∈ wsL_law, w.before #[Value.ref b] s = true) (hX : va_X b L xs s s.heap) (hbl : b < s.heap.size) (hK : va_K D vwCl [(cI, .int), (cZ, .boolean), (cL, .long)] s) (hO : mg_Old o (fun q => s.heap.size ≤ q) s s.heap)
  {σ τ : mg_St} {f : Nat → Int64} {H : Heap} {locs : List Loc} {ls : Array Slot} {cl sl : Nat} (I : mg_Inv σ τ) (x4 : Int32) (j1 : vp_in (x4 + 1) L) (j2 : vp_in (x4 + 2) L) (j3 : vp_in (x4 + 3) L) (j4 : vp_in (x4 + 4) L) (hcl : cl + 700 ≤ room_1.cells) (hsl : sl + 3500 ≤ room_1.slots)
  (hw : mg_Wo D (fun q => s.heap.size ≤ q) s.heap H locs (((mg_cW g cI cZ σ) ++ (mg_oc q cL f)) ++ (mg_mW h cI cZ τ))) (hl : lv_has ls 9 [(0, .ref b), (1, .ref (g 0)), (2, .ref (h 0)), (3, .ref q), (4, .int x4)])
  (kk : ∀ (σ' τ' : mg_St) (f' : Nat → Int64) (H : Heap) (locs : List Loc) (ls : Array Slot), mg_Inv σ' τ' → mg_Wo D (fun q => s.heap.size ≤ q) s.heap H locs (((mg_cW g cI cZ (σ')) ++ (mg_oc q cL (f'))) ++ (mg_mW h cI cZ (τ'))) → lv_has ls 9 [(0, .ref b), (1, .ref (g 0)), (2, .ref (h 0)), (3, .ref q), (4, .int x4)] → W p l e room_1 s m #[Value.ref b] below meth c H locs (cl + 700) (sl + 3500) Q (F0 m 1356 ls [])) : W p l e room_1 s m #[Value.ref b] below meth c H locs cl sl Q (F0 m 508 ls []) := by
  obtain ⟨out, σ1, y, hf1, hf2, I1, hthr, hval, hk1⟩ := sim_carp I (xs (x4 + 1).toNatClampNeg) (xs (x4 + 2).toNatClampNeg)
  have hA : ∀ q : Nat, s.heap.size ≤ q → (fun q => s.heap.size ≤ q) q := fun _ h => h
  have hbA : ¬ (fun q => s.heap.size ≤ q) b := Nat.not_le.mpr hbl
  have G9 : CallFix p m c cL_law 9 s #[Value.ref b] wsL_law RL := ⟨hx, hb, hml, hown, hts⟩
  refine lv_aload_n hx hb dL_law_508 rfl (lv_at hl 1 rfl) ?_
  refine lv_aload_n hx hb dL_law_509 rfl (lv_at hl 0 rfl) ?_
  refine lv_iload hx hb dL_law_510 (lv_at hl 4 rfl) ?_
  refine lv_iconst (v := 1) hx hb dL_law_512 (by decide) ?_
  refine lv_iadd hx hb dL_law_513 ?_
  refine va_sld hx hb hX hbl hbA hw.2.2 j1 dL_law_514 ?_
  refine lv_aload_n hx hb dL_law_515 rfl (lv_at hl 0 rfl) ?_
  refine lv_iload hx hb dL_law_516 (lv_at hl 4 rfl) ?_
  refine lv_iconst (v := 2) hx hb dL_law_518 (by decide) ?_
  refine lv_iadd hx hb dL_law_519 ?_
  refine va_sld hx hb hX hbl hbA hw.2.2 j2 dL_law_520 ?_
  refine lv_aload_n hx hb dL_law_521 rfl (lv_at hl 3 rfl) ?_
  refine mg_kF (wl := []) (w0 := ((mg_cW g cI cZ σ) ++ (mg_oc q cL f))) (wr := (mg_mW h cI cZ τ)) (rv := some (.int (mg_cd 1 9 2 out))) (vx_runSW (As := [.ref (g 0), .int (xs (x4 + 1).toNatClampNeg), .int (xs (x4 + 2).toNatClampNeg), .ref q]) (rest := []) G9 (k_L_carp l hst D o cI cZ cL g q H.size σ f (xs (x4 + 1).toNatClampNeg) (xs (x4 + 2).toNatClampNeg) out σ1 hf1 hk1) (vx_cwSW 4 hts gL_law_L_carp rfl rfl rfl (by decide +kernel) ⟨Nat.le_of_ble_eq_true rfl, Nat.le_of_ble_eq_true rfl⟩) (mg_pre hK hO hA (mg_sub (wl := []) hw)) rfl rfl hl.1 rfl (lv_room (Nat.le_of_ble_eq_true rfl)) dL_law_522 ⟨(show cl + 1 ≤ room_1.cells by omega), (show sl + 6 ≤ room_1.slots by omega)⟩) hw hA (fun H locs hw => ?_)
  refine lv_istore (lv' := [(5, .int (mg_cd 1 9 2 out)), (0, .ref b), (1, .ref (g 0)), (2, .ref (h 0)), (3, .ref q), (4, .int x4)]) hx hb dL_law_525 hl (by decide) rfl (fun ls hl => ?_)
  refine lv_aload_n hx hb dL_law_527 rfl (lv_at hl 3 rfl) ?_
  refine lv_aload_n hx hb dL_law_528 rfl (lv_at hl 1 rfl) ?_
  refine lv_iload hx hb dL_law_529 (lv_at hl 5 rfl) ?_
  refine lv_iconst (v := 1) hx hb dL_law_531 (by decide) ?_
  refine lv_iadd hx hb dL_law_532 ?_
  refine va_sld hx hb hX hbl hbA hw.2.2 j1 dL_law_533 ?_
  refine lv_aload_n hx hb dL_law_534 rfl (lv_at hl 1 rfl) ?_
  refine lv_iload hx hb dL_law_535 (lv_at hl 5 rfl) ?_
  refine lv_iconst (v := 2) hx hb dL_law_537 (by decide) ?_
  refine lv_iadd hx hb dL_law_538 ?_
  refine va_sld hx hb hX hbl hbA hw.2.2 j2 dL_law_539 ?_
  have hw : mg_Wo D (fun q => s.heap.size ≤ q) s.heap H locs (((mg_cW g cI cZ σ1) ++ (mg_oc q cL (mg_of out f))) ++ ((mg_mW h cI cZ τ) ++ [])) := by rw [List.append_nil]; exact hw
  refine mg_kF (wl := ((mg_cW g cI cZ σ1) ++ (mg_oc q cL (mg_of out f)))) (w0 := (mg_mW h cI cZ τ)) (wr := []) (rv := some (.int y.1)) (va_runV (As := [.int (xs (x4 + 1).toNatClampNeg), .int (xs (x4 + 2).toNatClampNeg)]) (rest := []) G9 (k_X8_carp l D o cI cZ h H.size τ (xs (x4 + 1).toNatClampNeg) (xs (x4 + 2).toNatClampNeg) y hf2) (cwV 2 hts gL_law_X8_carp rfl rfl rfl (by decide +kernel) ⟨Nat.le_of_ble_eq_true rfl, Nat.le_of_ble_eq_true rfl⟩) (mg_preV (hK.sub (tys' := [(cI, .int), (cZ, .boolean)]) [0, 1] rfl) hO hA (mg_sub (wl := ((mg_cW g cI cZ σ1) ++ (mg_oc q cL (mg_of out f)))) (wr := []) hw) (q0 := 0) rfl rfl) rfl rfl hl.1 rfl (lv_room (Nat.le_of_ble_eq_true rfl)) dL_law_540 ⟨(show cl + 1 + 0 ≤ room_1.cells by omega), (show sl + 6 + 0 ≤ room_1.slots by omega)⟩) hw hA (fun H locs hw => ?_)
  rw [List.append_nil] at hw
  refine lv_istore (lv' := [(6, .int y.1), (5, .int (mg_cd 1 9 2 out)), (0, .ref b), (1, .ref (g 0)), (2, .ref (h 0)), (3, .ref q), (4, .int x4)]) hx hb dL_law_543 hl (by decide) rfl (fun ls hl => ?_)
  refine lv_aload_n hx hb dL_law_545 rfl (lv_at hl 4 rfl) ?_
  have hw : mg_Wo D (fun q => s.heap.size ≤ q) s.heap H locs (((mg_cW g cI cZ σ1) ++ (mg_oc q cL (mg_of out f))) ++ ((mg_mW h cI cZ y.2) ++ [])) := by rw [List.append_nil]; exact hw
  refine mg_kF (wl := ((mg_cW g cI cZ σ1) ++ (mg_oc q cL (mg_of out f)))) (w0 := (mg_mW h cI cZ y.2)) (wr := []) (rv := some (.int (y.2 0 0))) (va_runV (As := []) (rest := []) G9 (k_X8_thrown l D o cI cZ h H.size y.2 (y.2 0 0) rfl) (cwV 0 hts gL_law_X8_thrown rfl rfl rfl (by decide +kernel) ⟨Nat.le_of_ble_eq_true rfl, Nat.le_of_ble_eq_true rfl⟩) (mg_preV (hK.sub (tys' := [(cI, .int), (cZ, .boolean)]) [0, 1] rfl) hO hA (mg_sub (wl := ((mg_cW g cI cZ σ1) ++ (mg_oc q cL (mg_of out f)))) (wr := []) hw) (q0 := 0) rfl rfl) rfl rfl hl.1 rfl (lv_room (Nat.le_of_ble_eq_true rfl)) dL_law_546 ⟨(show cl + 1 + 0 + 0 ≤ room_1.cells by omega), (show sl + 6 + 0 + 0 ≤ room_1.slots by omega)⟩) hw hA (fun H locs hw => ?_)
  rw [List.append_nil] at hw
  refine lv_iload hx hb dL_law_549 (lv_at hl 1 rfl) ?_
  refine lv_icmp_eq (tgt := 556) hx hb dL_law_551 (by decide) (fun _ => ?_) (fun hne => absurd hthr hne)
  refine mg_join (H2 := H) (locs2 := locs) (g2 := F0 m 573 ls []) ?_ (fun J => ?_)
  · refine lv_goto (tgt := 1356) hx hb dL_law_573 (by decide) ?_
    refine W.widen (k := cl + 700) (n := sl + 3500) (by omega) (by omega) ?_
    exact kk _ _ _ _ _ _ I1 hw (lv_sub hl [2, 3, 4, 5, 6] rfl)
  refine lv_iload hx hb dL_law_556 (lv_at hl 1 rfl) ?_
  refine lv_if_ne (tgt := 573) hx hb dL_law_558 (by decide) (fun _ => J) (fun hz => ?_)
  cases out with
  | error k9 => exact absurd hz (by rcases mg_fin3 k9 with rfl | rfl | rfl <;> decide)
  | ok v =>
    refine lv_aload_n hx hb dL_law_561 rfl (lv_at hl 5 rfl) ?_
    refine lv_iconst (v := 0) hx hb dL_law_562 (by decide) ?_
    refine va_lald hx hb hK hw.1 25 2 rfl rfl (by unfold vp_in; decide) dL_law_563 ?_
    refine lv_iload hx hb dL_law_564 (lv_at hl 0 rfl) ?_
    refine lv_i2l hx hb dL_law_566 rfl ?_
    refine W.lcmp hx hb dL_law_567 ?_
    rw [hval v rfl, mg_of0, mg_lgself]
    exact lv_if_eq (tgt := 573) hx hb dL_law_568 (by decide) (fun _ => J) (fun h => absurd rfl h)
set_option maxHeartbeats 4000000 in
set_option maxRecDepth 100000 in
theorem lawc_sell {p : Program} {l : Launch} {e : Env} {s : State} {m : MethodId} {below : List Frame} {meth : Method} {c : Code} {Q : State → Prop} {D : va_G} {o : Nat → Nat} {cI cZ cL : ClassId} {g h : Nat → Nat} {q b L : Nat} {xs : Nat → Int32} (hst : l.stackTraces = false) (hx : p.tables.exec = Jvm.exec) (hb : c.code = cL_law) (hml : c.maxLocals = 9) (hown : s.vm.findClass RL = some m.cls) (hts : ∀ w ∈ wsL_law, w.before #[Value.ref b] s = true) (hX : va_X b L xs s s.heap) (hbl : b < s.heap.size) (hK : va_K D vwCl [(cI, .int), (cZ, .boolean), (cL, .long)] s) (hO : mg_Old o (fun q => s.heap.size ≤ q) s s.heap)
  {σ τ : mg_St} {f : Nat → Int64} {H : Heap} {locs : List Loc} {ls : Array Slot} {cl sl : Nat} (I : mg_Inv σ τ) (x4 : Int32) (j1 : vp_in (x4 + 1) L) (j2 : vp_in (x4 + 2) L) (j3 : vp_in (x4 + 3) L) (j4 : vp_in (x4 + 4) L) (hcl : cl + 700 ≤ room_1.cells) (hsl : sl + 3500 ≤ room_1.slots)
  (hw : mg_Wo D (fun q => s.heap.size ≤ q) s.heap H locs (((mg_cW g cI cZ σ) ++ (mg_oc q cL f)) ++ (mg_mW h cI cZ τ))) (hl : lv_has ls 9 [(0, .ref b), (1, .ref (g 0)), (2, .ref (h 0)), (3, .ref q), (4, .int x4)])
  (kk : ∀ (σ' τ' : mg_St) (f' : Nat → Int64) (H : Heap) (locs : List Loc) (ls : Array Slot), mg_Inv σ' τ' → mg_Wo D (fun q => s.heap.size ≤ q) s.heap H locs (((mg_cW g cI cZ (σ')) ++ (mg_oc q cL (f'))) ++ (mg_mW h cI cZ (τ'))) → lv_has ls 9 [(0, .ref b), (1, .ref (g 0)), (2, .ref (h 0)), (3, .ref q), (4, .int x4)] → W p l e room_1 s m #[Value.ref b] below meth c H locs (cl + 700) (sl + 3500) Q (F0 m 1356 ls [])) : W p l e room_1 s m #[Value.ref b] below meth c H locs cl sl Q (F0 m 576 ls []) := by
  obtain ⟨out, σ1, y, hf1, hf2, I1, hthr, hval, hk1⟩ := sim_sell I (xs (x4 + 1).toNatClampNeg)
  have hA : ∀ q : Nat, s.heap.size ≤ q → (fun q => s.heap.size ≤ q) q := fun _ h => h
  have hbA : ¬ (fun q => s.heap.size ≤ q) b := Nat.not_le.mpr hbl
  have G9 : CallFix p m c cL_law 9 s #[Value.ref b] wsL_law RL := ⟨hx, hb, hml, hown, hts⟩
  refine lv_aload_n hx hb dL_law_576 rfl (lv_at hl 1 rfl) ?_
  refine lv_aload_n hx hb dL_law_577 rfl (lv_at hl 0 rfl) ?_
  refine lv_iload hx hb dL_law_578 (lv_at hl 4 rfl) ?_
  refine lv_iconst (v := 1) hx hb dL_law_580 (by decide) ?_
  refine lv_iadd hx hb dL_law_581 ?_
  refine va_sld hx hb hX hbl hbA hw.2.2 j1 dL_law_582 ?_
  refine lv_aload_n hx hb dL_law_583 rfl (lv_at hl 3 rfl) ?_
  refine mg_kF (wl := []) (w0 := ((mg_cW g cI cZ σ) ++ (mg_oc q cL f))) (wr := (mg_mW h cI cZ τ)) (rv := some (.int (mg_cd 1 9 2 out))) (vx_runSW (As := [.ref (g 0), .int (xs (x4 + 1).toNatClampNeg), .ref q]) (rest := []) G9 (k_L_sell l hst D o cI cZ cL g q H.size σ f (xs (x4 + 1).toNatClampNeg) out σ1 hf1 hk1) (vx_cwSW 3 hts gL_law_L_sell rfl rfl rfl (by decide +kernel) ⟨Nat.le_of_ble_eq_true rfl, Nat.le_of_ble_eq_true rfl⟩) (mg_pre hK hO hA (mg_sub (wl := []) hw)) rfl rfl hl.1 rfl (lv_room (Nat.le_of_ble_eq_true rfl)) dL_law_584 ⟨(show cl + 1 ≤ room_1.cells by omega), (show sl + 6 ≤ room_1.slots by omega)⟩) hw hA (fun H locs hw => ?_)
  refine lv_istore (lv' := [(5, .int (mg_cd 1 9 2 out)), (0, .ref b), (1, .ref (g 0)), (2, .ref (h 0)), (3, .ref q), (4, .int x4)]) hx hb dL_law_587 hl (by decide) rfl (fun ls hl => ?_)
  refine lv_aload_n hx hb dL_law_589 rfl (lv_at hl 3 rfl) ?_
  refine lv_aload_n hx hb dL_law_590 rfl (lv_at hl 1 rfl) ?_
  refine lv_iload hx hb dL_law_591 (lv_at hl 5 rfl) ?_
  refine lv_iconst (v := 1) hx hb dL_law_593 (by decide) ?_
  refine lv_iadd hx hb dL_law_594 ?_
  refine va_sld hx hb hX hbl hbA hw.2.2 j1 dL_law_595 ?_
  have hw : mg_Wo D (fun q => s.heap.size ≤ q) s.heap H locs (((mg_cW g cI cZ σ1) ++ (mg_oc q cL (mg_of out f))) ++ ((mg_mW h cI cZ τ) ++ [])) := by rw [List.append_nil]; exact hw
  refine mg_kF (wl := ((mg_cW g cI cZ σ1) ++ (mg_oc q cL (mg_of out f)))) (w0 := (mg_mW h cI cZ τ)) (wr := []) (rv := some (.int y.1)) (va_runV (As := [.int (xs (x4 + 1).toNatClampNeg)]) (rest := []) G9 (k_X8_sell l D o cI cZ h H.size τ (xs (x4 + 1).toNatClampNeg) y hf2) (cwV 1 hts gL_law_X8_sell rfl rfl rfl (by decide +kernel) ⟨Nat.le_of_ble_eq_true rfl, Nat.le_of_ble_eq_true rfl⟩) (mg_preV (hK.sub (tys' := [(cI, .int), (cZ, .boolean)]) [0, 1] rfl) hO hA (mg_sub (wl := ((mg_cW g cI cZ σ1) ++ (mg_oc q cL (mg_of out f)))) (wr := []) hw) (q0 := 0) rfl rfl) rfl rfl hl.1 rfl (lv_room (Nat.le_of_ble_eq_true rfl)) dL_law_596 ⟨(show cl + 1 + 0 ≤ room_1.cells by omega), (show sl + 6 + 0 ≤ room_1.slots by omega)⟩) hw hA (fun H locs hw => ?_)
  rw [List.append_nil] at hw
  refine lv_istore (lv' := [(6, .int y.1), (5, .int (mg_cd 1 9 2 out)), (0, .ref b), (1, .ref (g 0)), (2, .ref (h 0)), (3, .ref q), (4, .int x4)]) hx hb dL_law_599 hl (by decide) rfl (fun ls hl => ?_)
  refine lv_aload_n hx hb dL_law_601 rfl (lv_at hl 4 rfl) ?_
  have hw : mg_Wo D (fun q => s.heap.size ≤ q) s.heap H locs (((mg_cW g cI cZ σ1) ++ (mg_oc q cL (mg_of out f))) ++ ((mg_mW h cI cZ y.2) ++ [])) := by rw [List.append_nil]; exact hw
  refine mg_kF (wl := ((mg_cW g cI cZ σ1) ++ (mg_oc q cL (mg_of out f)))) (w0 := (mg_mW h cI cZ y.2)) (wr := []) (rv := some (.int (y.2 0 0))) (va_runV (As := []) (rest := []) G9 (k_X8_thrown l D o cI cZ h H.size y.2 (y.2 0 0) rfl) (cwV 0 hts gL_law_X8_thrown rfl rfl rfl (by decide +kernel) ⟨Nat.le_of_ble_eq_true rfl, Nat.le_of_ble_eq_true rfl⟩) (mg_preV (hK.sub (tys' := [(cI, .int), (cZ, .boolean)]) [0, 1] rfl) hO hA (mg_sub (wl := ((mg_cW g cI cZ σ1) ++ (mg_oc q cL (mg_of out f)))) (wr := []) hw) (q0 := 0) rfl rfl) rfl rfl hl.1 rfl (lv_room (Nat.le_of_ble_eq_true rfl)) dL_law_602 ⟨(show cl + 1 + 0 + 0 ≤ room_1.cells by omega), (show sl + 6 + 0 + 0 ≤ room_1.slots by omega)⟩) hw hA (fun H locs hw => ?_)
  rw [List.append_nil] at hw
  refine lv_iload hx hb dL_law_605 (lv_at hl 1 rfl) ?_
  refine lv_icmp_eq (tgt := 612) hx hb dL_law_607 (by decide) (fun _ => ?_) (fun hne => absurd hthr hne)
  refine mg_join (H2 := H) (locs2 := locs) (g2 := F0 m 629 ls []) ?_ (fun J => ?_)
  · refine lv_goto (tgt := 1356) hx hb dL_law_629 (by decide) ?_
    refine W.widen (k := cl + 700) (n := sl + 3500) (by omega) (by omega) ?_
    exact kk _ _ _ _ _ _ I1 hw (lv_sub hl [2, 3, 4, 5, 6] rfl)
  refine lv_iload hx hb dL_law_612 (lv_at hl 1 rfl) ?_
  refine lv_if_ne (tgt := 629) hx hb dL_law_614 (by decide) (fun _ => J) (fun hz => ?_)
  cases out with
  | error k9 => exact absurd hz (by rcases mg_fin3 k9 with rfl | rfl | rfl <;> decide)
  | ok v =>
    refine lv_aload_n hx hb dL_law_617 rfl (lv_at hl 5 rfl) ?_
    refine lv_iconst (v := 0) hx hb dL_law_618 (by decide) ?_
    refine va_lald hx hb hK hw.1 25 2 rfl rfl (by unfold vp_in; decide) dL_law_619 ?_
    refine lv_iload hx hb dL_law_620 (lv_at hl 0 rfl) ?_
    refine lv_i2l hx hb dL_law_622 rfl ?_
    refine W.lcmp hx hb dL_law_623 ?_
    rw [hval v rfl, mg_of0, mg_lgself]
    exact lv_if_eq (tgt := 629) hx hb dL_law_624 (by decide) (fun _ => J) (fun h => absurd rfl h)
set_option maxHeartbeats 4000000 in
set_option maxRecDepth 100000 in
theorem lawc_told {p : Program} {l : Launch} {e : Env} {s : State} {m : MethodId} {below : List Frame} {meth : Method} {c : Code} {Q : State → Prop} {D : va_G} {o : Nat → Nat} {cI cZ cL : ClassId} {g h : Nat → Nat} {q b L : Nat} {xs : Nat → Int32} (hst : l.stackTraces = false) (hx : p.tables.exec = Jvm.exec) (hb : c.code = cL_law) (hml : c.maxLocals = 9) (hown : s.vm.findClass RL = some m.cls) (hts : ∀ w ∈ wsL_law, w.before #[Value.ref b] s = true) (hX : va_X b L xs s s.heap) (hbl : b < s.heap.size) (hK : va_K D vwCl [(cI, .int), (cZ, .boolean), (cL, .long)] s) (hO : mg_Old o (fun q => s.heap.size ≤ q) s s.heap)
  {σ τ : mg_St} {f : Nat → Int64} {H : Heap} {locs : List Loc} {ls : Array Slot} {cl sl : Nat} (I : mg_Inv σ τ) (x4 : Int32) (j1 : vp_in (x4 + 1) L) (j2 : vp_in (x4 + 2) L) (j3 : vp_in (x4 + 3) L) (j4 : vp_in (x4 + 4) L) (hcl : cl + 700 ≤ room_1.cells) (hsl : sl + 3500 ≤ room_1.slots)
  (hw : mg_Wo D (fun q => s.heap.size ≤ q) s.heap H locs (((mg_cW g cI cZ σ) ++ (mg_oc q cL f)) ++ (mg_mW h cI cZ τ))) (hl : lv_has ls 9 [(0, .ref b), (1, .ref (g 0)), (2, .ref (h 0)), (3, .ref q), (4, .int x4)])
  (kk : ∀ (σ' τ' : mg_St) (f' : Nat → Int64) (H : Heap) (locs : List Loc) (ls : Array Slot), mg_Inv σ' τ' → mg_Wo D (fun q => s.heap.size ≤ q) s.heap H locs (((mg_cW g cI cZ (σ')) ++ (mg_oc q cL (f'))) ++ (mg_mW h cI cZ (τ'))) → lv_has ls 9 [(0, .ref b), (1, .ref (g 0)), (2, .ref (h 0)), (3, .ref q), (4, .int x4)] → W p l e room_1 s m #[Value.ref b] below meth c H locs (cl + 700) (sl + 3500) Q (F0 m 1356 ls [])) : W p l e room_1 s m #[Value.ref b] below meth c H locs cl sl Q (F0 m 632 ls []) := by
  obtain ⟨out, σ1, y, hf1, hf2, I1, hthr, hval, hk1, hk2⟩ := sim_told I (xs (x4 + 1).toNatClampNeg) (xs (x4 + 2).toNatClampNeg)
  have hA : ∀ q : Nat, s.heap.size ≤ q → (fun q => s.heap.size ≤ q) q := fun _ h => h
  have hbA : ¬ (fun q => s.heap.size ≤ q) b := Nat.not_le.mpr hbl
  have G9 : CallFix p m c cL_law 9 s #[Value.ref b] wsL_law RL := ⟨hx, hb, hml, hown, hts⟩
  refine lv_aload_n hx hb dL_law_632 rfl (lv_at hl 1 rfl) ?_
  refine lv_aload_n hx hb dL_law_633 rfl (lv_at hl 0 rfl) ?_
  refine lv_iload hx hb dL_law_634 (lv_at hl 4 rfl) ?_
  refine lv_iconst (v := 1) hx hb dL_law_636 (by decide) ?_
  refine lv_iadd hx hb dL_law_637 ?_
  refine va_sld hx hb hX hbl hbA hw.2.2 j1 dL_law_638 ?_
  refine lv_aload_n hx hb dL_law_639 rfl (lv_at hl 0 rfl) ?_
  refine lv_iload hx hb dL_law_640 (lv_at hl 4 rfl) ?_
  refine lv_iconst (v := 2) hx hb dL_law_642 (by decide) ?_
  refine lv_iadd hx hb dL_law_643 ?_
  refine va_sld hx hb hX hbl hbA hw.2.2 j2 dL_law_644 ?_
  refine lv_aload_n hx hb dL_law_645 rfl (lv_at hl 3 rfl) ?_
  refine mg_kF (wl := []) (w0 := ((mg_cW g cI cZ σ) ++ (mg_oc q cL f))) (wr := (mg_mW h cI cZ τ)) (rv := some (.int (mg_cd 1 9 9 out))) (vx_runSW (As := [.ref (g 0), .int (xs (x4 + 1).toNatClampNeg), .int (xs (x4 + 2).toNatClampNeg), .ref q]) (rest := []) G9 (k_L_told l hst D o cI cZ cL g q H.size σ f (xs (x4 + 1).toNatClampNeg) (xs (x4 + 2).toNatClampNeg) out σ1 hf1 hk1 hk2) (vx_cwSW 4 hts gL_law_L_told rfl rfl rfl (by decide +kernel) ⟨Nat.le_of_ble_eq_true rfl, Nat.le_of_ble_eq_true rfl⟩) (mg_pre hK hO hA (mg_sub (wl := []) hw)) rfl rfl hl.1 rfl (lv_room (Nat.le_of_ble_eq_true rfl)) dL_law_646 ⟨(show cl + 1 ≤ room_1.cells by omega), (show sl + 6 ≤ room_1.slots by omega)⟩) hw hA (fun H locs hw => ?_)
  refine lv_istore (lv' := [(5, .int (mg_cd 1 9 9 out)), (0, .ref b), (1, .ref (g 0)), (2, .ref (h 0)), (3, .ref q), (4, .int x4)]) hx hb dL_law_649 hl (by decide) rfl (fun ls hl => ?_)
  refine lv_aload_n hx hb dL_law_651 rfl (lv_at hl 3 rfl) ?_
  refine lv_aload_n hx hb dL_law_652 rfl (lv_at hl 1 rfl) ?_
  refine lv_iload hx hb dL_law_653 (lv_at hl 5 rfl) ?_
  refine lv_iconst (v := 1) hx hb dL_law_655 (by decide) ?_
  refine lv_iadd hx hb dL_law_656 ?_
  refine va_sld hx hb hX hbl hbA hw.2.2 j1 dL_law_657 ?_
  refine lv_aload_n hx hb dL_law_658 rfl (lv_at hl 1 rfl) ?_
  refine lv_iload hx hb dL_law_659 (lv_at hl 5 rfl) ?_
  refine lv_iconst (v := 2) hx hb dL_law_661 (by decide) ?_
  refine lv_iadd hx hb dL_law_662 ?_
  refine va_sld hx hb hX hbl hbA hw.2.2 j2 dL_law_663 ?_
  have hw : mg_Wo D (fun q => s.heap.size ≤ q) s.heap H locs (((mg_cW g cI cZ σ1) ++ (mg_oc q cL (mg_of out f))) ++ ((mg_mW h cI cZ τ) ++ [])) := by rw [List.append_nil]; exact hw
  refine mg_kF (wl := ((mg_cW g cI cZ σ1) ++ (mg_oc q cL (mg_of out f)))) (w0 := (mg_mW h cI cZ τ)) (wr := []) (rv := some (.int y.1)) (va_runV (As := [.int (xs (x4 + 1).toNatClampNeg), .int (xs (x4 + 2).toNatClampNeg)]) (rest := []) G9 (k_X8_told l D o cI cZ h H.size τ (xs (x4 + 1).toNatClampNeg) (xs (x4 + 2).toNatClampNeg) y hf2) (cwV 2 hts gL_law_X8_told rfl rfl rfl (by decide +kernel) ⟨Nat.le_of_ble_eq_true rfl, Nat.le_of_ble_eq_true rfl⟩) (mg_preV (hK.sub (tys' := [(cI, .int), (cZ, .boolean)]) [0, 1] rfl) hO hA (mg_sub (wl := ((mg_cW g cI cZ σ1) ++ (mg_oc q cL (mg_of out f)))) (wr := []) hw) (q0 := 0) rfl rfl) rfl rfl hl.1 rfl (lv_room (Nat.le_of_ble_eq_true rfl)) dL_law_664 ⟨(show cl + 1 + 1 ≤ room_1.cells by omega), (show sl + 6 + 5 ≤ room_1.slots by omega)⟩) hw hA (fun H locs hw => ?_)
  rw [List.append_nil] at hw
  refine lv_istore (lv' := [(6, .int y.1), (5, .int (mg_cd 1 9 9 out)), (0, .ref b), (1, .ref (g 0)), (2, .ref (h 0)), (3, .ref q), (4, .int x4)]) hx hb dL_law_667 hl (by decide) rfl (fun ls hl => ?_)
  refine lv_aload_n hx hb dL_law_669 rfl (lv_at hl 4 rfl) ?_
  have hw : mg_Wo D (fun q => s.heap.size ≤ q) s.heap H locs (((mg_cW g cI cZ σ1) ++ (mg_oc q cL (mg_of out f))) ++ ((mg_mW h cI cZ y.2) ++ [])) := by rw [List.append_nil]; exact hw
  refine mg_kF (wl := ((mg_cW g cI cZ σ1) ++ (mg_oc q cL (mg_of out f)))) (w0 := (mg_mW h cI cZ y.2)) (wr := []) (rv := some (.int (y.2 0 0))) (va_runV (As := []) (rest := []) G9 (k_X8_thrown l D o cI cZ h H.size y.2 (y.2 0 0) rfl) (cwV 0 hts gL_law_X8_thrown rfl rfl rfl (by decide +kernel) ⟨Nat.le_of_ble_eq_true rfl, Nat.le_of_ble_eq_true rfl⟩) (mg_preV (hK.sub (tys' := [(cI, .int), (cZ, .boolean)]) [0, 1] rfl) hO hA (mg_sub (wl := ((mg_cW g cI cZ σ1) ++ (mg_oc q cL (mg_of out f)))) (wr := []) hw) (q0 := 0) rfl rfl) rfl rfl hl.1 rfl (lv_room (Nat.le_of_ble_eq_true rfl)) dL_law_670 ⟨(show cl + 1 + 1 + 0 ≤ room_1.cells by omega), (show sl + 6 + 5 + 0 ≤ room_1.slots by omega)⟩) hw hA (fun H locs hw => ?_)
  rw [List.append_nil] at hw
  refine lv_iload hx hb dL_law_673 (lv_at hl 1 rfl) ?_
  refine lv_icmp_eq (tgt := 680) hx hb dL_law_675 (by decide) (fun _ => ?_) (fun hne => absurd hthr hne)
  refine mg_join (H2 := H) (locs2 := locs) (g2 := F0 m 697 ls []) ?_ (fun J => ?_)
  · refine lv_goto (tgt := 1356) hx hb dL_law_697 (by decide) ?_
    refine W.widen (k := cl + 700) (n := sl + 3500) (by omega) (by omega) ?_
    exact kk _ _ _ _ _ _ I1 hw (lv_sub hl [2, 3, 4, 5, 6] rfl)
  refine lv_iload hx hb dL_law_680 (lv_at hl 1 rfl) ?_
  refine lv_if_ne (tgt := 697) hx hb dL_law_682 (by decide) (fun _ => J) (fun hz => ?_)
  cases out with
  | error k9 => exact absurd hz (by rcases mg_fin3 k9 with rfl | rfl | rfl <;> decide)
  | ok v =>
    refine lv_aload_n hx hb dL_law_685 rfl (lv_at hl 5 rfl) ?_
    refine lv_iconst (v := 0) hx hb dL_law_686 (by decide) ?_
    refine va_lald hx hb hK hw.1 25 2 rfl rfl (by unfold vp_in; decide) dL_law_687 ?_
    refine lv_iload hx hb dL_law_688 (lv_at hl 0 rfl) ?_
    refine lv_i2l hx hb dL_law_690 rfl ?_
    refine W.lcmp hx hb dL_law_691 ?_
    rw [hval v rfl, mg_of0, mg_lgself]
    exact lv_if_eq (tgt := 697) hx hb dL_law_692 (by decide) (fun _ => J) (fun h => absurd rfl h)
set_option maxHeartbeats 4000000 in
set_option maxRecDepth 100000 in
theorem lawc_gate {p : Program} {l : Launch} {e : Env} {s : State} {m : MethodId} {below : List Frame} {meth : Method} {c : Code} {Q : State → Prop} {D : va_G} {o : Nat → Nat} {cI cZ cL : ClassId} {g h : Nat → Nat} {q b L : Nat} {xs : Nat → Int32} (hst : l.stackTraces = false) (hx : p.tables.exec = Jvm.exec) (hb : c.code = cL_law) (hml : c.maxLocals = 9) (hown : s.vm.findClass RL = some m.cls) (hts : ∀ w ∈ wsL_law, w.before #[Value.ref b] s = true) (hX : va_X b L xs s s.heap) (hbl : b < s.heap.size) (hK : va_K D vwCl [(cI, .int), (cZ, .boolean), (cL, .long)] s) (hO : mg_Old o (fun q => s.heap.size ≤ q) s s.heap)
  {σ τ : mg_St} {f : Nat → Int64} {H : Heap} {locs : List Loc} {ls : Array Slot} {cl sl : Nat} (I : mg_Inv σ τ) (x4 : Int32) (j1 : vp_in (x4 + 1) L) (j2 : vp_in (x4 + 2) L) (j3 : vp_in (x4 + 3) L) (j4 : vp_in (x4 + 4) L) (hcl : cl + 700 ≤ room_1.cells) (hsl : sl + 3500 ≤ room_1.slots)
  (hw : mg_Wo D (fun q => s.heap.size ≤ q) s.heap H locs (((mg_cW g cI cZ σ) ++ (mg_oc q cL f)) ++ (mg_mW h cI cZ τ))) (hl : lv_has ls 9 [(0, .ref b), (1, .ref (g 0)), (2, .ref (h 0)), (3, .ref q), (4, .int x4)])
  (kk : ∀ (σ' τ' : mg_St) (f' : Nat → Int64) (H : Heap) (locs : List Loc) (ls : Array Slot), mg_Inv σ' τ' → mg_Wo D (fun q => s.heap.size ≤ q) s.heap H locs (((mg_cW g cI cZ (σ')) ++ (mg_oc q cL (f'))) ++ (mg_mW h cI cZ (τ'))) → lv_has ls 9 [(0, .ref b), (1, .ref (g 0)), (2, .ref (h 0)), (3, .ref q), (4, .int x4)] → W p l e room_1 s m #[Value.ref b] below meth c H locs (cl + 700) (sl + 3500) Q (F0 m 1356 ls [])) : W p l e room_1 s m #[Value.ref b] below meth c H locs cl sl Q (F0 m 700 ls []) := by
  obtain ⟨out, σ1, y, hf1, hf2, I1, hthr, hval⟩ := sim_gate I (xs (x4 + 1).toNatClampNeg) (xs (x4 + 2).toNatClampNeg) (xs (x4 + 3).toNatClampNeg)
  have hA : ∀ q : Nat, s.heap.size ≤ q → (fun q => s.heap.size ≤ q) q := fun _ h => h
  have hbA : ¬ (fun q => s.heap.size ≤ q) b := Nat.not_le.mpr hbl
  have G9 : CallFix p m c cL_law 9 s #[Value.ref b] wsL_law RL := ⟨hx, hb, hml, hown, hts⟩
  refine lv_aload_n hx hb dL_law_700 rfl (lv_at hl 1 rfl) ?_
  refine lv_aload_n hx hb dL_law_701 rfl (lv_at hl 0 rfl) ?_
  refine lv_iload hx hb dL_law_702 (lv_at hl 4 rfl) ?_
  refine lv_iconst (v := 1) hx hb dL_law_704 (by decide) ?_
  refine lv_iadd hx hb dL_law_705 ?_
  refine va_sld hx hb hX hbl hbA hw.2.2 j1 dL_law_706 ?_
  refine lv_aload_n hx hb dL_law_707 rfl (lv_at hl 0 rfl) ?_
  refine lv_iload hx hb dL_law_708 (lv_at hl 4 rfl) ?_
  refine lv_iconst (v := 2) hx hb dL_law_710 (by decide) ?_
  refine lv_iadd hx hb dL_law_711 ?_
  refine va_sld hx hb hX hbl hbA hw.2.2 j2 dL_law_712 ?_
  refine lv_aload_n hx hb dL_law_713 rfl (lv_at hl 0 rfl) ?_
  refine lv_iload hx hb dL_law_714 (lv_at hl 4 rfl) ?_
  refine lv_iconst (v := 3) hx hb dL_law_716 (by decide) ?_
  refine lv_iadd hx hb dL_law_717 ?_
  refine va_sld hx hb hX hbl hbA hw.2.2 j3 dL_law_718 ?_
  refine lv_aload_n hx hb dL_law_719 rfl (lv_at hl 3 rfl) ?_
  refine mg_kF (wl := []) (w0 := ((mg_cW g cI cZ σ) ++ (mg_oc q cL f))) (wr := (mg_mW h cI cZ τ)) (rv := some (.int (mg_cd 1 2 3 out))) (vx_runSW (As := [.ref (g 0), .int (xs (x4 + 1).toNatClampNeg), .int (xs (x4 + 2).toNatClampNeg), .int (xs (x4 + 3).toNatClampNeg), .ref q]) (rest := []) G9 (k_L_gate l hst D o cI cZ cL g q H.size σ f (xs (x4 + 1).toNatClampNeg) (xs (x4 + 2).toNatClampNeg) (xs (x4 + 3).toNatClampNeg) out σ1 hf1) (vx_cwSW 5 hts gL_law_L_gate rfl rfl rfl (by decide +kernel) ⟨Nat.le_of_ble_eq_true rfl, Nat.le_of_ble_eq_true rfl⟩) (mg_pre hK hO hA (mg_sub (wl := []) hw)) rfl rfl hl.1 rfl (lv_room (Nat.le_of_ble_eq_true rfl)) dL_law_720 ⟨(show cl + 1 ≤ room_1.cells by omega), (show sl + 6 ≤ room_1.slots by omega)⟩) hw hA (fun H locs hw => ?_)
  refine lv_istore (lv' := [(5, .int (mg_cd 1 2 3 out)), (0, .ref b), (1, .ref (g 0)), (2, .ref (h 0)), (3, .ref q), (4, .int x4)]) hx hb dL_law_723 hl (by decide) rfl (fun ls hl => ?_)
  refine lv_aload_n hx hb dL_law_725 rfl (lv_at hl 3 rfl) ?_
  refine lv_aload_n hx hb dL_law_726 rfl (lv_at hl 1 rfl) ?_
  refine lv_iload hx hb dL_law_727 (lv_at hl 5 rfl) ?_
  refine lv_iconst (v := 1) hx hb dL_law_729 (by decide) ?_
  refine lv_iadd hx hb dL_law_730 ?_
  refine va_sld hx hb hX hbl hbA hw.2.2 j1 dL_law_731 ?_
  refine lv_aload_n hx hb dL_law_732 rfl (lv_at hl 1 rfl) ?_
  refine lv_iload hx hb dL_law_733 (lv_at hl 5 rfl) ?_
  refine lv_iconst (v := 2) hx hb dL_law_735 (by decide) ?_
  refine lv_iadd hx hb dL_law_736 ?_
  refine va_sld hx hb hX hbl hbA hw.2.2 j2 dL_law_737 ?_
  refine lv_aload_n hx hb dL_law_738 rfl (lv_at hl 1 rfl) ?_
  refine lv_iload hx hb dL_law_739 (lv_at hl 5 rfl) ?_
  refine lv_iconst (v := 3) hx hb dL_law_741 (by decide) ?_
  refine lv_iadd hx hb dL_law_742 ?_
  refine va_sld hx hb hX hbl hbA hw.2.2 j3 dL_law_743 ?_
  have hw : mg_Wo D (fun q => s.heap.size ≤ q) s.heap H locs (((mg_cW g cI cZ σ1) ++ (mg_oc q cL (mg_of out f))) ++ ((mg_mW h cI cZ τ) ++ [])) := by rw [List.append_nil]; exact hw
  refine mg_kF (wl := ((mg_cW g cI cZ σ1) ++ (mg_oc q cL (mg_of out f)))) (w0 := (mg_mW h cI cZ τ)) (wr := []) (rv := some (.int y.1)) (va_runV (As := [.int (xs (x4 + 1).toNatClampNeg), .int (xs (x4 + 2).toNatClampNeg), .int (xs (x4 + 3).toNatClampNeg)]) (rest := []) G9 (k_X8_gate l D o cI cZ h H.size τ (xs (x4 + 1).toNatClampNeg) (xs (x4 + 2).toNatClampNeg) (xs (x4 + 3).toNatClampNeg) y hf2) (cwV 3 hts gL_law_X8_gate rfl rfl rfl (by decide +kernel) ⟨Nat.le_of_ble_eq_true rfl, Nat.le_of_ble_eq_true rfl⟩) (mg_preV (hK.sub (tys' := [(cI, .int), (cZ, .boolean)]) [0, 1] rfl) hO hA (mg_sub (wl := ((mg_cW g cI cZ σ1) ++ (mg_oc q cL (mg_of out f)))) (wr := []) hw) (q0 := 0) rfl rfl) rfl rfl hl.1 rfl (lv_room (Nat.le_of_ble_eq_true rfl)) dL_law_744 ⟨(show cl + 1 + 0 ≤ room_1.cells by omega), (show sl + 6 + 0 ≤ room_1.slots by omega)⟩) hw hA (fun H locs hw => ?_)
  rw [List.append_nil] at hw
  refine lv_istore (lv' := [(6, .int y.1), (5, .int (mg_cd 1 2 3 out)), (0, .ref b), (1, .ref (g 0)), (2, .ref (h 0)), (3, .ref q), (4, .int x4)]) hx hb dL_law_747 hl (by decide) rfl (fun ls hl => ?_)
  refine lv_aload_n hx hb dL_law_749 rfl (lv_at hl 4 rfl) ?_
  have hw : mg_Wo D (fun q => s.heap.size ≤ q) s.heap H locs (((mg_cW g cI cZ σ1) ++ (mg_oc q cL (mg_of out f))) ++ ((mg_mW h cI cZ y.2) ++ [])) := by rw [List.append_nil]; exact hw
  refine mg_kF (wl := ((mg_cW g cI cZ σ1) ++ (mg_oc q cL (mg_of out f)))) (w0 := (mg_mW h cI cZ y.2)) (wr := []) (rv := some (.int (y.2 0 0))) (va_runV (As := []) (rest := []) G9 (k_X8_thrown l D o cI cZ h H.size y.2 (y.2 0 0) rfl) (cwV 0 hts gL_law_X8_thrown rfl rfl rfl (by decide +kernel) ⟨Nat.le_of_ble_eq_true rfl, Nat.le_of_ble_eq_true rfl⟩) (mg_preV (hK.sub (tys' := [(cI, .int), (cZ, .boolean)]) [0, 1] rfl) hO hA (mg_sub (wl := ((mg_cW g cI cZ σ1) ++ (mg_oc q cL (mg_of out f)))) (wr := []) hw) (q0 := 0) rfl rfl) rfl rfl hl.1 rfl (lv_room (Nat.le_of_ble_eq_true rfl)) dL_law_750 ⟨(show cl + 1 + 0 + 0 ≤ room_1.cells by omega), (show sl + 6 + 0 + 0 ≤ room_1.slots by omega)⟩) hw hA (fun H locs hw => ?_)
  rw [List.append_nil] at hw
  refine lv_iload hx hb dL_law_753 (lv_at hl 1 rfl) ?_
  refine lv_icmp_eq (tgt := 760) hx hb dL_law_755 (by decide) (fun _ => ?_) (fun hne => absurd hthr hne)
  refine mg_join (H2 := H) (locs2 := locs) (g2 := F0 m 777 ls []) ?_ (fun J => ?_)
  · refine lv_goto (tgt := 1356) hx hb dL_law_777 (by decide) ?_
    refine W.widen (k := cl + 700) (n := sl + 3500) (by omega) (by omega) ?_
    exact kk _ _ _ _ _ _ I1 hw (lv_sub hl [2, 3, 4, 5, 6] rfl)
  refine lv_iload hx hb dL_law_760 (lv_at hl 1 rfl) ?_
  refine lv_if_ne (tgt := 777) hx hb dL_law_762 (by decide) (fun _ => J) (fun hz => ?_)
  cases out with
  | error k9 => exact absurd hz (by rcases mg_fin3 k9 with rfl | rfl | rfl <;> decide)
  | ok v =>
    refine lv_aload_n hx hb dL_law_765 rfl (lv_at hl 5 rfl) ?_
    refine lv_iconst (v := 0) hx hb dL_law_766 (by decide) ?_
    refine va_lald hx hb hK hw.1 25 2 rfl rfl (by unfold vp_in; decide) dL_law_767 ?_
    refine lv_iload hx hb dL_law_768 (lv_at hl 0 rfl) ?_
    refine lv_i2l hx hb dL_law_770 rfl ?_
    refine W.lcmp hx hb dL_law_771 ?_
    rw [hval v rfl, mg_of0, mg_lgself]
    exact lv_if_eq (tgt := 777) hx hb dL_law_772 (by decide) (fun _ => J) (fun h => absurd rfl h)
set_option maxHeartbeats 4000000 in
set_option maxRecDepth 100000 in
theorem lawc_about {p : Program} {l : Launch} {e : Env} {s : State} {m : MethodId} {below : List Frame} {meth : Method} {c : Code} {Q : State → Prop} {D : va_G} {o : Nat → Nat} {cI cZ cL : ClassId} {g h : Nat → Nat} {q b L : Nat} {xs : Nat → Int32} (hst : l.stackTraces = false) (hx : p.tables.exec = Jvm.exec) (hb : c.code = cL_law) (hml : c.maxLocals = 9) (hown : s.vm.findClass RL = some m.cls) (hts : ∀ w ∈ wsL_law, w.before #[Value.ref b] s = true) (hX : va_X b L xs s s.heap) (hbl : b < s.heap.size) (hK : va_K D vwCl [(cI, .int), (cZ, .boolean), (cL, .long)] s) (hO : mg_Old o (fun q => s.heap.size ≤ q) s s.heap)
  {σ τ : mg_St} {f : Nat → Int64} {H : Heap} {locs : List Loc} {ls : Array Slot} {cl sl : Nat} (I : mg_Inv σ τ) (x4 : Int32) (j1 : vp_in (x4 + 1) L) (j2 : vp_in (x4 + 2) L) (j3 : vp_in (x4 + 3) L) (j4 : vp_in (x4 + 4) L) (hcl : cl + 700 ≤ room_1.cells) (hsl : sl + 3500 ≤ room_1.slots)
  (hw : mg_Wo D (fun q => s.heap.size ≤ q) s.heap H locs (((mg_cW g cI cZ σ) ++ (mg_oc q cL f)) ++ (mg_mW h cI cZ τ))) (hl : lv_has ls 9 [(0, .ref b), (1, .ref (g 0)), (2, .ref (h 0)), (3, .ref q), (4, .int x4)])
  (kk : ∀ (σ' τ' : mg_St) (f' : Nat → Int64) (H : Heap) (locs : List Loc) (ls : Array Slot), mg_Inv σ' τ' → mg_Wo D (fun q => s.heap.size ≤ q) s.heap H locs (((mg_cW g cI cZ (σ')) ++ (mg_oc q cL (f'))) ++ (mg_mW h cI cZ (τ'))) → lv_has ls 9 [(0, .ref b), (1, .ref (g 0)), (2, .ref (h 0)), (3, .ref q), (4, .int x4)] → W p l e room_1 s m #[Value.ref b] below meth c H locs (cl + 700) (sl + 3500) Q (F0 m 1356 ls [])) : W p l e room_1 s m #[Value.ref b] below meth c H locs cl sl Q (F0 m 780 ls []) := by
  obtain ⟨out, σ1, y, hf1, hf2, I1, hthr, hval, hk1, hk2⟩ := sim_about I (xs (x4 + 1).toNatClampNeg) (xs (x4 + 2).toNatClampNeg)
  have hA : ∀ q : Nat, s.heap.size ≤ q → (fun q => s.heap.size ≤ q) q := fun _ h => h
  have hbA : ¬ (fun q => s.heap.size ≤ q) b := Nat.not_le.mpr hbl
  have G9 : CallFix p m c cL_law 9 s #[Value.ref b] wsL_law RL := ⟨hx, hb, hml, hown, hts⟩
  refine lv_aload_n hx hb dL_law_780 rfl (lv_at hl 1 rfl) ?_
  refine lv_aload_n hx hb dL_law_781 rfl (lv_at hl 0 rfl) ?_
  refine lv_iload hx hb dL_law_782 (lv_at hl 4 rfl) ?_
  refine lv_iconst (v := 1) hx hb dL_law_784 (by decide) ?_
  refine lv_iadd hx hb dL_law_785 ?_
  refine va_sld hx hb hX hbl hbA hw.2.2 j1 dL_law_786 ?_
  refine lv_aload_n hx hb dL_law_787 rfl (lv_at hl 0 rfl) ?_
  refine lv_iload hx hb dL_law_788 (lv_at hl 4 rfl) ?_
  refine lv_iconst (v := 2) hx hb dL_law_790 (by decide) ?_
  refine lv_iadd hx hb dL_law_791 ?_
  refine va_sld hx hb hX hbl hbA hw.2.2 j2 dL_law_792 ?_
  refine lv_aload_n hx hb dL_law_793 rfl (lv_at hl 3 rfl) ?_
  refine mg_kF (wl := []) (w0 := ((mg_cW g cI cZ σ) ++ (mg_oc q cL f))) (wr := (mg_mW h cI cZ τ)) (rv := some (.int (mg_cd 1 9 9 out))) (vx_runSW (As := [.ref (g 0), .int (xs (x4 + 1).toNatClampNeg), .int (xs (x4 + 2).toNatClampNeg), .ref q]) (rest := []) G9 (k_L_about l hst D o cI cZ cL g q H.size σ f (xs (x4 + 1).toNatClampNeg) (xs (x4 + 2).toNatClampNeg) out σ1 hf1 hk1 hk2) (vx_cwSW 4 hts gL_law_L_about rfl rfl rfl (by decide +kernel) ⟨Nat.le_of_ble_eq_true rfl, Nat.le_of_ble_eq_true rfl⟩) (mg_pre hK hO hA (mg_sub (wl := []) hw)) rfl rfl hl.1 rfl (lv_room (Nat.le_of_ble_eq_true rfl)) dL_law_794 ⟨(show cl + 1 ≤ room_1.cells by omega), (show sl + 6 ≤ room_1.slots by omega)⟩) hw hA (fun H locs hw => ?_)
  refine lv_istore (lv' := [(5, .int (mg_cd 1 9 9 out)), (0, .ref b), (1, .ref (g 0)), (2, .ref (h 0)), (3, .ref q), (4, .int x4)]) hx hb dL_law_797 hl (by decide) rfl (fun ls hl => ?_)
  refine lv_aload_n hx hb dL_law_799 rfl (lv_at hl 3 rfl) ?_
  refine lv_aload_n hx hb dL_law_800 rfl (lv_at hl 1 rfl) ?_
  refine lv_iload hx hb dL_law_801 (lv_at hl 5 rfl) ?_
  refine lv_iconst (v := 1) hx hb dL_law_803 (by decide) ?_
  refine lv_iadd hx hb dL_law_804 ?_
  refine va_sld hx hb hX hbl hbA hw.2.2 j1 dL_law_805 ?_
  refine lv_aload_n hx hb dL_law_806 rfl (lv_at hl 1 rfl) ?_
  refine lv_iload hx hb dL_law_807 (lv_at hl 5 rfl) ?_
  refine lv_iconst (v := 2) hx hb dL_law_809 (by decide) ?_
  refine lv_iadd hx hb dL_law_810 ?_
  refine va_sld hx hb hX hbl hbA hw.2.2 j2 dL_law_811 ?_
  have hw : mg_Wo D (fun q => s.heap.size ≤ q) s.heap H locs (((mg_cW g cI cZ σ1) ++ (mg_oc q cL (mg_of out f))) ++ ((mg_mW h cI cZ τ) ++ [])) := by rw [List.append_nil]; exact hw
  refine mg_kF (wl := ((mg_cW g cI cZ σ1) ++ (mg_oc q cL (mg_of out f)))) (w0 := (mg_mW h cI cZ τ)) (wr := []) (rv := some (.int y.1)) (va_runV (As := [.int (xs (x4 + 1).toNatClampNeg), .int (xs (x4 + 2).toNatClampNeg)]) (rest := []) G9 (k_X8_about l D o cI cZ h H.size τ (xs (x4 + 1).toNatClampNeg) (xs (x4 + 2).toNatClampNeg) y hf2) (cwV 2 hts gL_law_X8_about rfl rfl rfl (by decide +kernel) ⟨Nat.le_of_ble_eq_true rfl, Nat.le_of_ble_eq_true rfl⟩) (mg_preV (hK.sub (tys' := [(cI, .int), (cZ, .boolean)]) [0, 1] rfl) hO hA (mg_sub (wl := ((mg_cW g cI cZ σ1) ++ (mg_oc q cL (mg_of out f)))) (wr := []) hw) (q0 := 0) rfl rfl) rfl rfl hl.1 rfl (lv_room (Nat.le_of_ble_eq_true rfl)) dL_law_812 ⟨(show cl + 1 + 0 ≤ room_1.cells by omega), (show sl + 6 + 0 ≤ room_1.slots by omega)⟩) hw hA (fun H locs hw => ?_)
  rw [List.append_nil] at hw
  refine lv_istore (lv' := [(6, .int y.1), (5, .int (mg_cd 1 9 9 out)), (0, .ref b), (1, .ref (g 0)), (2, .ref (h 0)), (3, .ref q), (4, .int x4)]) hx hb dL_law_815 hl (by decide) rfl (fun ls hl => ?_)
  refine lv_aload_n hx hb dL_law_817 rfl (lv_at hl 4 rfl) ?_
  have hw : mg_Wo D (fun q => s.heap.size ≤ q) s.heap H locs (((mg_cW g cI cZ σ1) ++ (mg_oc q cL (mg_of out f))) ++ ((mg_mW h cI cZ y.2) ++ [])) := by rw [List.append_nil]; exact hw
  refine mg_kF (wl := ((mg_cW g cI cZ σ1) ++ (mg_oc q cL (mg_of out f)))) (w0 := (mg_mW h cI cZ y.2)) (wr := []) (rv := some (.int (y.2 0 0))) (va_runV (As := []) (rest := []) G9 (k_X8_thrown l D o cI cZ h H.size y.2 (y.2 0 0) rfl) (cwV 0 hts gL_law_X8_thrown rfl rfl rfl (by decide +kernel) ⟨Nat.le_of_ble_eq_true rfl, Nat.le_of_ble_eq_true rfl⟩) (mg_preV (hK.sub (tys' := [(cI, .int), (cZ, .boolean)]) [0, 1] rfl) hO hA (mg_sub (wl := ((mg_cW g cI cZ σ1) ++ (mg_oc q cL (mg_of out f)))) (wr := []) hw) (q0 := 0) rfl rfl) rfl rfl hl.1 rfl (lv_room (Nat.le_of_ble_eq_true rfl)) dL_law_818 ⟨(show cl + 1 + 0 + 0 ≤ room_1.cells by omega), (show sl + 6 + 0 + 0 ≤ room_1.slots by omega)⟩) hw hA (fun H locs hw => ?_)
  rw [List.append_nil] at hw
  refine lv_iload hx hb dL_law_821 (lv_at hl 1 rfl) ?_
  refine lv_icmp_eq (tgt := 828) hx hb dL_law_823 (by decide) (fun _ => ?_) (fun hne => absurd hthr hne)
  refine mg_join (H2 := H) (locs2 := locs) (g2 := F0 m 845 ls []) ?_ (fun J => ?_)
  · refine lv_goto (tgt := 1356) hx hb dL_law_845 (by decide) ?_
    refine W.widen (k := cl + 700) (n := sl + 3500) (by omega) (by omega) ?_
    exact kk _ _ _ _ _ _ I1 hw (lv_sub hl [2, 3, 4, 5, 6] rfl)
  refine lv_iload hx hb dL_law_828 (lv_at hl 1 rfl) ?_
  refine lv_if_ne (tgt := 845) hx hb dL_law_830 (by decide) (fun _ => J) (fun hz => ?_)
  cases out with
  | error k9 => exact absurd hz (by rcases mg_fin3 k9 with rfl | rfl | rfl <;> decide)
  | ok v =>
    refine lv_aload_n hx hb dL_law_833 rfl (lv_at hl 5 rfl) ?_
    refine lv_iconst (v := 0) hx hb dL_law_834 (by decide) ?_
    refine va_lald hx hb hK hw.1 25 2 rfl rfl (by unfold vp_in; decide) dL_law_835 ?_
    refine lv_iload hx hb dL_law_836 (lv_at hl 0 rfl) ?_
    refine lv_i2l hx hb dL_law_838 rfl ?_
    refine W.lcmp hx hb dL_law_839 ?_
    rw [hval v rfl, mg_of0, mg_lgself]
    exact lv_if_eq (tgt := 845) hx hb dL_law_840 (by decide) (fun _ => J) (fun h => absurd rfl h)
set_option maxHeartbeats 4000000 in
set_option maxRecDepth 100000 in
theorem lawc_invite {p : Program} {l : Launch} {e : Env} {s : State} {m : MethodId} {below : List Frame} {meth : Method} {c : Code} {Q : State → Prop} {D : va_G} {o : Nat → Nat} {cI cZ cL : ClassId} {g h : Nat → Nat} {q b L : Nat} {xs : Nat → Int32} (hst : l.stackTraces = false) (hx : p.tables.exec = Jvm.exec) (hb : c.code = cL_law) (hml : c.maxLocals = 9) (hown : s.vm.findClass RL = some m.cls) (hts : ∀ w ∈ wsL_law, w.before #[Value.ref b] s = true) (hX : va_X b L xs s s.heap) (hbl : b < s.heap.size) (hK : va_K D vwCl [(cI, .int), (cZ, .boolean), (cL, .long)] s) (hO : mg_Old o (fun q => s.heap.size ≤ q) s s.heap)
  {σ τ : mg_St} {f : Nat → Int64} {H : Heap} {locs : List Loc} {ls : Array Slot} {cl sl : Nat} (I : mg_Inv σ τ) (x4 : Int32) (j1 : vp_in (x4 + 1) L) (j2 : vp_in (x4 + 2) L) (j3 : vp_in (x4 + 3) L) (j4 : vp_in (x4 + 4) L) (hcl : cl + 700 ≤ room_1.cells) (hsl : sl + 3500 ≤ room_1.slots)
  (hw : mg_Wo D (fun q => s.heap.size ≤ q) s.heap H locs (((mg_cW g cI cZ σ) ++ (mg_oc q cL f)) ++ (mg_mW h cI cZ τ))) (hl : lv_has ls 9 [(0, .ref b), (1, .ref (g 0)), (2, .ref (h 0)), (3, .ref q), (4, .int x4)])
  (kk : ∀ (σ' τ' : mg_St) (f' : Nat → Int64) (H : Heap) (locs : List Loc) (ls : Array Slot), mg_Inv σ' τ' → mg_Wo D (fun q => s.heap.size ≤ q) s.heap H locs (((mg_cW g cI cZ (σ')) ++ (mg_oc q cL (f'))) ++ (mg_mW h cI cZ (τ'))) → lv_has ls 9 [(0, .ref b), (1, .ref (g 0)), (2, .ref (h 0)), (3, .ref q), (4, .int x4)] → W p l e room_1 s m #[Value.ref b] below meth c H locs (cl + 700) (sl + 3500) Q (F0 m 1356 ls [])) : W p l e room_1 s m #[Value.ref b] below meth c H locs cl sl Q (F0 m 848 ls []) := by
  obtain ⟨out, σ1, y, hf1, hf2, I1, hthr, hval, hk1⟩ := sim_invite I (xs (x4 + 1).toNatClampNeg)
  have hA : ∀ q : Nat, s.heap.size ≤ q → (fun q => s.heap.size ≤ q) q := fun _ h => h
  have hbA : ¬ (fun q => s.heap.size ≤ q) b := Nat.not_le.mpr hbl
  have G9 : CallFix p m c cL_law 9 s #[Value.ref b] wsL_law RL := ⟨hx, hb, hml, hown, hts⟩
  refine lv_aload_n hx hb dL_law_848 rfl (lv_at hl 1 rfl) ?_
  refine lv_aload_n hx hb dL_law_849 rfl (lv_at hl 0 rfl) ?_
  refine lv_iload hx hb dL_law_850 (lv_at hl 4 rfl) ?_
  refine lv_iconst (v := 1) hx hb dL_law_852 (by decide) ?_
  refine lv_iadd hx hb dL_law_853 ?_
  refine va_sld hx hb hX hbl hbA hw.2.2 j1 dL_law_854 ?_
  refine lv_aload_n hx hb dL_law_855 rfl (lv_at hl 3 rfl) ?_
  refine mg_kF (wl := []) (w0 := ((mg_cW g cI cZ σ) ++ (mg_oc q cL f))) (wr := (mg_mW h cI cZ τ)) (rv := some (.int (mg_cd 1 9 2 out))) (vx_runSW (As := [.ref (g 0), .int (xs (x4 + 1).toNatClampNeg), .ref q]) (rest := []) G9 (k_L_invite l hst D o cI cZ cL g q H.size σ f (xs (x4 + 1).toNatClampNeg) out σ1 hf1 hk1) (vx_cwSW 3 hts gL_law_L_invite rfl rfl rfl (by decide +kernel) ⟨Nat.le_of_ble_eq_true rfl, Nat.le_of_ble_eq_true rfl⟩) (mg_pre hK hO hA (mg_sub (wl := []) hw)) rfl rfl hl.1 rfl (lv_room (Nat.le_of_ble_eq_true rfl)) dL_law_856 ⟨(show cl + 1 ≤ room_1.cells by omega), (show sl + 6 ≤ room_1.slots by omega)⟩) hw hA (fun H locs hw => ?_)
  refine lv_istore (lv' := [(5, .int (mg_cd 1 9 2 out)), (0, .ref b), (1, .ref (g 0)), (2, .ref (h 0)), (3, .ref q), (4, .int x4)]) hx hb dL_law_859 hl (by decide) rfl (fun ls hl => ?_)
  refine lv_aload_n hx hb dL_law_861 rfl (lv_at hl 3 rfl) ?_
  refine lv_aload_n hx hb dL_law_862 rfl (lv_at hl 1 rfl) ?_
  refine lv_iload hx hb dL_law_863 (lv_at hl 5 rfl) ?_
  refine lv_iconst (v := 1) hx hb dL_law_865 (by decide) ?_
  refine lv_iadd hx hb dL_law_866 ?_
  refine va_sld hx hb hX hbl hbA hw.2.2 j1 dL_law_867 ?_
  have hw : mg_Wo D (fun q => s.heap.size ≤ q) s.heap H locs (((mg_cW g cI cZ σ1) ++ (mg_oc q cL (mg_of out f))) ++ ((mg_mW h cI cZ τ) ++ [])) := by rw [List.append_nil]; exact hw
  refine mg_kF (wl := ((mg_cW g cI cZ σ1) ++ (mg_oc q cL (mg_of out f)))) (w0 := (mg_mW h cI cZ τ)) (wr := []) (rv := some (.int y.1)) (va_runV (As := [.int (xs (x4 + 1).toNatClampNeg)]) (rest := []) G9 (k_X8_invite l D o cI cZ h H.size τ (xs (x4 + 1).toNatClampNeg) y hf2) (cwV 1 hts gL_law_X8_invite rfl rfl rfl (by decide +kernel) ⟨Nat.le_of_ble_eq_true rfl, Nat.le_of_ble_eq_true rfl⟩) (mg_preV (hK.sub (tys' := [(cI, .int), (cZ, .boolean)]) [0, 1] rfl) hO hA (mg_sub (wl := ((mg_cW g cI cZ σ1) ++ (mg_oc q cL (mg_of out f)))) (wr := []) hw) (q0 := 0) rfl rfl) rfl rfl hl.1 rfl (lv_room (Nat.le_of_ble_eq_true rfl)) dL_law_868 ⟨(show cl + 1 + 0 ≤ room_1.cells by omega), (show sl + 6 + 0 ≤ room_1.slots by omega)⟩) hw hA (fun H locs hw => ?_)
  rw [List.append_nil] at hw
  refine lv_istore (lv' := [(6, .int y.1), (5, .int (mg_cd 1 9 2 out)), (0, .ref b), (1, .ref (g 0)), (2, .ref (h 0)), (3, .ref q), (4, .int x4)]) hx hb dL_law_871 hl (by decide) rfl (fun ls hl => ?_)
  refine lv_aload_n hx hb dL_law_873 rfl (lv_at hl 4 rfl) ?_
  have hw : mg_Wo D (fun q => s.heap.size ≤ q) s.heap H locs (((mg_cW g cI cZ σ1) ++ (mg_oc q cL (mg_of out f))) ++ ((mg_mW h cI cZ y.2) ++ [])) := by rw [List.append_nil]; exact hw
  refine mg_kF (wl := ((mg_cW g cI cZ σ1) ++ (mg_oc q cL (mg_of out f)))) (w0 := (mg_mW h cI cZ y.2)) (wr := []) (rv := some (.int (y.2 0 0))) (va_runV (As := []) (rest := []) G9 (k_X8_thrown l D o cI cZ h H.size y.2 (y.2 0 0) rfl) (cwV 0 hts gL_law_X8_thrown rfl rfl rfl (by decide +kernel) ⟨Nat.le_of_ble_eq_true rfl, Nat.le_of_ble_eq_true rfl⟩) (mg_preV (hK.sub (tys' := [(cI, .int), (cZ, .boolean)]) [0, 1] rfl) hO hA (mg_sub (wl := ((mg_cW g cI cZ σ1) ++ (mg_oc q cL (mg_of out f)))) (wr := []) hw) (q0 := 0) rfl rfl) rfl rfl hl.1 rfl (lv_room (Nat.le_of_ble_eq_true rfl)) dL_law_874 ⟨(show cl + 1 + 0 + 0 ≤ room_1.cells by omega), (show sl + 6 + 0 + 0 ≤ room_1.slots by omega)⟩) hw hA (fun H locs hw => ?_)
  rw [List.append_nil] at hw
  refine lv_iload hx hb dL_law_877 (lv_at hl 1 rfl) ?_
  refine lv_icmp_eq (tgt := 884) hx hb dL_law_879 (by decide) (fun _ => ?_) (fun hne => absurd hthr hne)
  refine mg_join (H2 := H) (locs2 := locs) (g2 := F0 m 901 ls []) ?_ (fun J => ?_)
  · refine lv_goto (tgt := 1356) hx hb dL_law_901 (by decide) ?_
    refine W.widen (k := cl + 700) (n := sl + 3500) (by omega) (by omega) ?_
    exact kk _ _ _ _ _ _ I1 hw (lv_sub hl [2, 3, 4, 5, 6] rfl)
  refine lv_iload hx hb dL_law_884 (lv_at hl 1 rfl) ?_
  refine lv_if_ne (tgt := 901) hx hb dL_law_886 (by decide) (fun _ => J) (fun hz => ?_)
  cases out with
  | error k9 => exact absurd hz (by rcases mg_fin3 k9 with rfl | rfl | rfl <;> decide)
  | ok v =>
    refine lv_aload_n hx hb dL_law_889 rfl (lv_at hl 5 rfl) ?_
    refine lv_iconst (v := 0) hx hb dL_law_890 (by decide) ?_
    refine va_lald hx hb hK hw.1 25 2 rfl rfl (by unfold vp_in; decide) dL_law_891 ?_
    refine lv_iload hx hb dL_law_892 (lv_at hl 0 rfl) ?_
    refine lv_i2l hx hb dL_law_894 rfl ?_
    refine W.lcmp hx hb dL_law_895 ?_
    rw [hval v rfl, mg_of0, mg_lgself]
    exact lv_if_eq (tgt := 901) hx hb dL_law_896 (by decide) (fun _ => J) (fun h => absurd rfl h)
set_option maxHeartbeats 4000000 in
set_option maxRecDepth 100000 in
theorem lawc_lead {p : Program} {l : Launch} {e : Env} {s : State} {m : MethodId} {below : List Frame} {meth : Method} {c : Code} {Q : State → Prop} {D : va_G} {o : Nat → Nat} {cI cZ cL : ClassId} {g h : Nat → Nat} {q b L : Nat} {xs : Nat → Int32} (hst : l.stackTraces = false) (hx : p.tables.exec = Jvm.exec) (hb : c.code = cL_law) (hml : c.maxLocals = 9) (hown : s.vm.findClass RL = some m.cls) (hts : ∀ w ∈ wsL_law, w.before #[Value.ref b] s = true) (hX : va_X b L xs s s.heap) (hbl : b < s.heap.size) (hK : va_K D vwCl [(cI, .int), (cZ, .boolean), (cL, .long)] s) (hO : mg_Old o (fun q => s.heap.size ≤ q) s s.heap)
  {σ τ : mg_St} {f : Nat → Int64} {H : Heap} {locs : List Loc} {ls : Array Slot} {cl sl : Nat} (I : mg_Inv σ τ) (x4 : Int32) (j1 : vp_in (x4 + 1) L) (j2 : vp_in (x4 + 2) L) (j3 : vp_in (x4 + 3) L) (j4 : vp_in (x4 + 4) L) (hcl : cl + 700 ≤ room_1.cells) (hsl : sl + 3500 ≤ room_1.slots)
  (hw : mg_Wo D (fun q => s.heap.size ≤ q) s.heap H locs (((mg_cW g cI cZ σ) ++ (mg_oc q cL f)) ++ (mg_mW h cI cZ τ))) (hl : lv_has ls 9 [(0, .ref b), (1, .ref (g 0)), (2, .ref (h 0)), (3, .ref q), (4, .int x4)])
  (kk : ∀ (σ' τ' : mg_St) (f' : Nat → Int64) (H : Heap) (locs : List Loc) (ls : Array Slot), mg_Inv σ' τ' → mg_Wo D (fun q => s.heap.size ≤ q) s.heap H locs (((mg_cW g cI cZ (σ')) ++ (mg_oc q cL (f'))) ++ (mg_mW h cI cZ (τ'))) → lv_has ls 9 [(0, .ref b), (1, .ref (g 0)), (2, .ref (h 0)), (3, .ref q), (4, .int x4)] → W p l e room_1 s m #[Value.ref b] below meth c H locs (cl + 700) (sl + 3500) Q (F0 m 1356 ls [])) : W p l e room_1 s m #[Value.ref b] below meth c H locs cl sl Q (F0 m 904 ls []) := by
  obtain ⟨out, σ1, y, hf1, hf2, I1, hthr, hval, hk1, hk2⟩ := sim_lead I (xs (x4 + 1).toNatClampNeg) (xs (x4 + 2).toNatClampNeg)
  have hA : ∀ q : Nat, s.heap.size ≤ q → (fun q => s.heap.size ≤ q) q := fun _ h => h
  have hbA : ¬ (fun q => s.heap.size ≤ q) b := Nat.not_le.mpr hbl
  have G9 : CallFix p m c cL_law 9 s #[Value.ref b] wsL_law RL := ⟨hx, hb, hml, hown, hts⟩
  refine lv_aload_n hx hb dL_law_904 rfl (lv_at hl 1 rfl) ?_
  refine lv_aload_n hx hb dL_law_905 rfl (lv_at hl 0 rfl) ?_
  refine lv_iload hx hb dL_law_906 (lv_at hl 4 rfl) ?_
  refine lv_iconst (v := 1) hx hb dL_law_908 (by decide) ?_
  refine lv_iadd hx hb dL_law_909 ?_
  refine va_sld hx hb hX hbl hbA hw.2.2 j1 dL_law_910 ?_
  refine lv_aload_n hx hb dL_law_911 rfl (lv_at hl 0 rfl) ?_
  refine lv_iload hx hb dL_law_912 (lv_at hl 4 rfl) ?_
  refine lv_iconst (v := 2) hx hb dL_law_914 (by decide) ?_
  refine lv_iadd hx hb dL_law_915 ?_
  refine va_sld hx hb hX hbl hbA hw.2.2 j2 dL_law_916 ?_
  refine lv_aload_n hx hb dL_law_917 rfl (lv_at hl 3 rfl) ?_
  refine mg_kF (wl := []) (w0 := ((mg_cW g cI cZ σ) ++ (mg_oc q cL f))) (wr := (mg_mW h cI cZ τ)) (rv := some (.int (mg_cd 1 9 9 out))) (vx_runSW (As := [.ref (g 0), .int (xs (x4 + 1).toNatClampNeg), .int (xs (x4 + 2).toNatClampNeg), .ref q]) (rest := []) G9 (k_L_lead l hst D o cI cZ cL g q H.size σ f (xs (x4 + 1).toNatClampNeg) (xs (x4 + 2).toNatClampNeg) out σ1 hf1 hk1 hk2) (vx_cwSW 4 hts gL_law_L_lead rfl rfl rfl (by decide +kernel) ⟨Nat.le_of_ble_eq_true rfl, Nat.le_of_ble_eq_true rfl⟩) (mg_pre hK hO hA (mg_sub (wl := []) hw)) rfl rfl hl.1 rfl (lv_room (Nat.le_of_ble_eq_true rfl)) dL_law_918 ⟨(show cl + 1 ≤ room_1.cells by omega), (show sl + 6 ≤ room_1.slots by omega)⟩) hw hA (fun H locs hw => ?_)
  refine lv_istore (lv' := [(5, .int (mg_cd 1 9 9 out)), (0, .ref b), (1, .ref (g 0)), (2, .ref (h 0)), (3, .ref q), (4, .int x4)]) hx hb dL_law_921 hl (by decide) rfl (fun ls hl => ?_)
  refine lv_aload_n hx hb dL_law_923 rfl (lv_at hl 3 rfl) ?_
  refine lv_aload_n hx hb dL_law_924 rfl (lv_at hl 1 rfl) ?_
  refine lv_iload hx hb dL_law_925 (lv_at hl 5 rfl) ?_
  refine lv_iconst (v := 1) hx hb dL_law_927 (by decide) ?_
  refine lv_iadd hx hb dL_law_928 ?_
  refine va_sld hx hb hX hbl hbA hw.2.2 j1 dL_law_929 ?_
  refine lv_aload_n hx hb dL_law_930 rfl (lv_at hl 1 rfl) ?_
  refine lv_iload hx hb dL_law_931 (lv_at hl 5 rfl) ?_
  refine lv_iconst (v := 2) hx hb dL_law_933 (by decide) ?_
  refine lv_iadd hx hb dL_law_934 ?_
  refine va_sld hx hb hX hbl hbA hw.2.2 j2 dL_law_935 ?_
  have hw : mg_Wo D (fun q => s.heap.size ≤ q) s.heap H locs (((mg_cW g cI cZ σ1) ++ (mg_oc q cL (mg_of out f))) ++ ((mg_mW h cI cZ τ) ++ [])) := by rw [List.append_nil]; exact hw
  refine mg_kF (wl := ((mg_cW g cI cZ σ1) ++ (mg_oc q cL (mg_of out f)))) (w0 := (mg_mW h cI cZ τ)) (wr := []) (rv := some (.int y.1)) (va_runV (As := [.int (xs (x4 + 1).toNatClampNeg), .int (xs (x4 + 2).toNatClampNeg)]) (rest := []) G9 (k_X8_lead l D o cI cZ h H.size τ (xs (x4 + 1).toNatClampNeg) (xs (x4 + 2).toNatClampNeg) y hf2) (cwV 2 hts gL_law_X8_lead rfl rfl rfl (by decide +kernel) ⟨Nat.le_of_ble_eq_true rfl, Nat.le_of_ble_eq_true rfl⟩) (mg_preV (hK.sub (tys' := [(cI, .int), (cZ, .boolean)]) [0, 1] rfl) hO hA (mg_sub (wl := ((mg_cW g cI cZ σ1) ++ (mg_oc q cL (mg_of out f)))) (wr := []) hw) (q0 := 0) rfl rfl) rfl rfl hl.1 rfl (lv_room (Nat.le_of_ble_eq_true rfl)) dL_law_936 ⟨(show cl + 1 + 0 ≤ room_1.cells by omega), (show sl + 6 + 0 ≤ room_1.slots by omega)⟩) hw hA (fun H locs hw => ?_)
  rw [List.append_nil] at hw
  refine lv_istore (lv' := [(6, .int y.1), (5, .int (mg_cd 1 9 9 out)), (0, .ref b), (1, .ref (g 0)), (2, .ref (h 0)), (3, .ref q), (4, .int x4)]) hx hb dL_law_939 hl (by decide) rfl (fun ls hl => ?_)
  refine lv_aload_n hx hb dL_law_941 rfl (lv_at hl 4 rfl) ?_
  have hw : mg_Wo D (fun q => s.heap.size ≤ q) s.heap H locs (((mg_cW g cI cZ σ1) ++ (mg_oc q cL (mg_of out f))) ++ ((mg_mW h cI cZ y.2) ++ [])) := by rw [List.append_nil]; exact hw
  refine mg_kF (wl := ((mg_cW g cI cZ σ1) ++ (mg_oc q cL (mg_of out f)))) (w0 := (mg_mW h cI cZ y.2)) (wr := []) (rv := some (.int (y.2 0 0))) (va_runV (As := []) (rest := []) G9 (k_X8_thrown l D o cI cZ h H.size y.2 (y.2 0 0) rfl) (cwV 0 hts gL_law_X8_thrown rfl rfl rfl (by decide +kernel) ⟨Nat.le_of_ble_eq_true rfl, Nat.le_of_ble_eq_true rfl⟩) (mg_preV (hK.sub (tys' := [(cI, .int), (cZ, .boolean)]) [0, 1] rfl) hO hA (mg_sub (wl := ((mg_cW g cI cZ σ1) ++ (mg_oc q cL (mg_of out f)))) (wr := []) hw) (q0 := 0) rfl rfl) rfl rfl hl.1 rfl (lv_room (Nat.le_of_ble_eq_true rfl)) dL_law_942 ⟨(show cl + 1 + 0 + 0 ≤ room_1.cells by omega), (show sl + 6 + 0 + 0 ≤ room_1.slots by omega)⟩) hw hA (fun H locs hw => ?_)
  rw [List.append_nil] at hw
  refine lv_iload hx hb dL_law_945 (lv_at hl 1 rfl) ?_
  refine lv_icmp_eq (tgt := 952) hx hb dL_law_947 (by decide) (fun _ => ?_) (fun hne => absurd hthr hne)
  refine mg_join (H2 := H) (locs2 := locs) (g2 := F0 m 969 ls []) ?_ (fun J => ?_)
  · refine lv_goto (tgt := 1356) hx hb dL_law_969 (by decide) ?_
    refine W.widen (k := cl + 700) (n := sl + 3500) (by omega) (by omega) ?_
    exact kk _ _ _ _ _ _ I1 hw (lv_sub hl [2, 3, 4, 5, 6] rfl)
  refine lv_iload hx hb dL_law_952 (lv_at hl 1 rfl) ?_
  refine lv_if_ne (tgt := 969) hx hb dL_law_954 (by decide) (fun _ => J) (fun hz => ?_)
  cases out with
  | error k9 => exact absurd hz (by rcases mg_fin3 k9 with rfl | rfl | rfl <;> decide)
  | ok v =>
    refine lv_aload_n hx hb dL_law_957 rfl (lv_at hl 5 rfl) ?_
    refine lv_iconst (v := 0) hx hb dL_law_958 (by decide) ?_
    refine va_lald hx hb hK hw.1 25 2 rfl rfl (by unfold vp_in; decide) dL_law_959 ?_
    refine lv_iload hx hb dL_law_960 (lv_at hl 0 rfl) ?_
    refine lv_i2l hx hb dL_law_962 rfl ?_
    refine W.lcmp hx hb dL_law_963 ?_
    rw [hval v rfl, mg_of0, mg_lgself]
    exact lv_if_eq (tgt := 969) hx hb dL_law_964 (by decide) (fun _ => J) (fun h => absurd rfl h)
set_option maxHeartbeats 4000000 in
set_option maxRecDepth 100000 in
theorem lawc_lines {p : Program} {l : Launch} {e : Env} {s : State} {m : MethodId} {below : List Frame} {meth : Method} {c : Code} {Q : State → Prop} {D : va_G} {o : Nat → Nat} {cI cZ cL : ClassId} {g h : Nat → Nat} {q b L : Nat} {xs : Nat → Int32} (hst : l.stackTraces = false) (hx : p.tables.exec = Jvm.exec) (hb : c.code = cL_law) (hml : c.maxLocals = 9) (hown : s.vm.findClass RL = some m.cls) (hts : ∀ w ∈ wsL_law, w.before #[Value.ref b] s = true) (hX : va_X b L xs s s.heap) (hbl : b < s.heap.size) (hK : va_K D vwCl [(cI, .int), (cZ, .boolean), (cL, .long)] s) (hO : mg_Old o (fun q => s.heap.size ≤ q) s s.heap)
  {σ τ : mg_St} {f : Nat → Int64} {H : Heap} {locs : List Loc} {ls : Array Slot} {cl sl : Nat} (I : mg_Inv σ τ) (x4 : Int32) (j1 : vp_in (x4 + 1) L) (j2 : vp_in (x4 + 2) L) (j3 : vp_in (x4 + 3) L) (j4 : vp_in (x4 + 4) L) (hcl : cl + 700 ≤ room_1.cells) (hsl : sl + 3500 ≤ room_1.slots)
  (hw : mg_Wo D (fun q => s.heap.size ≤ q) s.heap H locs (((mg_cW g cI cZ σ) ++ (mg_oc q cL f)) ++ (mg_mW h cI cZ τ))) (hl : lv_has ls 9 [(0, .ref b), (1, .ref (g 0)), (2, .ref (h 0)), (3, .ref q), (4, .int x4)])
  (kk : ∀ (σ' τ' : mg_St) (f' : Nat → Int64) (H : Heap) (locs : List Loc) (ls : Array Slot), mg_Inv σ' τ' → mg_Wo D (fun q => s.heap.size ≤ q) s.heap H locs (((mg_cW g cI cZ (σ')) ++ (mg_oc q cL (f'))) ++ (mg_mW h cI cZ (τ'))) → lv_has ls 9 [(0, .ref b), (1, .ref (g 0)), (2, .ref (h 0)), (3, .ref q), (4, .int x4)] → W p l e room_1 s m #[Value.ref b] below meth c H locs (cl + 700) (sl + 3500) Q (F0 m 1356 ls [])) : W p l e room_1 s m #[Value.ref b] below meth c H locs cl sl Q (F0 m 972 ls []) := by
  obtain ⟨out, σ1, y, hf1, hf2, I1, hthr, hval, hk1, hk2⟩ := sim_lines I (xs (x4 + 1).toNatClampNeg)
  have hA : ∀ q : Nat, s.heap.size ≤ q → (fun q => s.heap.size ≤ q) q := fun _ h => h
  have hbA : ¬ (fun q => s.heap.size ≤ q) b := Nat.not_le.mpr hbl
  have G9 : CallFix p m c cL_law 9 s #[Value.ref b] wsL_law RL := ⟨hx, hb, hml, hown, hts⟩
  refine lv_aload_n hx hb dL_law_972 rfl (lv_at hl 1 rfl) ?_
  refine lv_aload_n hx hb dL_law_973 rfl (lv_at hl 0 rfl) ?_
  refine lv_iload hx hb dL_law_974 (lv_at hl 4 rfl) ?_
  refine lv_iconst (v := 1) hx hb dL_law_976 (by decide) ?_
  refine lv_iadd hx hb dL_law_977 ?_
  refine va_sld hx hb hX hbl hbA hw.2.2 j1 dL_law_978 ?_
  refine lv_aload_n hx hb dL_law_979 rfl (lv_at hl 3 rfl) ?_
  refine mg_kF (wl := []) (w0 := ((mg_cW g cI cZ σ) ++ (mg_oc q cL f))) (wr := (mg_mW h cI cZ τ)) (rv := some (.int (mg_cd 1 9 9 out))) (vx_runSW (As := [.ref (g 0), .int (xs (x4 + 1).toNatClampNeg), .ref q]) (rest := []) G9 (k_L_lines l hst D o cI cZ cL g q H.size σ f (xs (x4 + 1).toNatClampNeg) out σ1 hf1 hk1 hk2) (vx_cwSW 3 hts gL_law_L_lines rfl rfl rfl (by decide +kernel) ⟨Nat.le_of_ble_eq_true rfl, Nat.le_of_ble_eq_true rfl⟩) (mg_pre hK hO hA (mg_sub (wl := []) hw)) rfl rfl hl.1 rfl (lv_room (Nat.le_of_ble_eq_true rfl)) dL_law_980 ⟨(show cl + 1 ≤ room_1.cells by omega), (show sl + 6 ≤ room_1.slots by omega)⟩) hw hA (fun H locs hw => ?_)
  refine lv_istore (lv' := [(5, .int (mg_cd 1 9 9 out)), (0, .ref b), (1, .ref (g 0)), (2, .ref (h 0)), (3, .ref q), (4, .int x4)]) hx hb dL_law_983 hl (by decide) rfl (fun ls hl => ?_)
  refine lv_aload_n hx hb dL_law_985 rfl (lv_at hl 3 rfl) ?_
  refine lv_aload_n hx hb dL_law_986 rfl (lv_at hl 1 rfl) ?_
  refine lv_iload hx hb dL_law_987 (lv_at hl 5 rfl) ?_
  refine lv_iconst (v := 1) hx hb dL_law_989 (by decide) ?_
  refine lv_iadd hx hb dL_law_990 ?_
  refine va_sld hx hb hX hbl hbA hw.2.2 j1 dL_law_991 ?_
  have hw : mg_Wo D (fun q => s.heap.size ≤ q) s.heap H locs (((mg_cW g cI cZ σ1) ++ (mg_oc q cL (mg_of out f))) ++ ((mg_mW h cI cZ τ) ++ [])) := by rw [List.append_nil]; exact hw
  refine mg_kF (wl := ((mg_cW g cI cZ σ1) ++ (mg_oc q cL (mg_of out f)))) (w0 := (mg_mW h cI cZ τ)) (wr := []) (rv := some (.int y.1)) (va_runV (As := [.int (xs (x4 + 1).toNatClampNeg)]) (rest := []) G9 (k_X8_lines l D o cI cZ h H.size τ (xs (x4 + 1).toNatClampNeg) y hf2) (cwV 1 hts gL_law_X8_lines rfl rfl rfl (by decide +kernel) ⟨Nat.le_of_ble_eq_true rfl, Nat.le_of_ble_eq_true rfl⟩) (mg_preV (hK.sub (tys' := [(cI, .int), (cZ, .boolean)]) [0, 1] rfl) hO hA (mg_sub (wl := ((mg_cW g cI cZ σ1) ++ (mg_oc q cL (mg_of out f)))) (wr := []) hw) (q0 := 0) rfl rfl) rfl rfl hl.1 rfl (lv_room (Nat.le_of_ble_eq_true rfl)) dL_law_992 ⟨(show cl + 1 + 0 ≤ room_1.cells by omega), (show sl + 6 + 0 ≤ room_1.slots by omega)⟩) hw hA (fun H locs hw => ?_)
  rw [List.append_nil] at hw
  refine lv_istore (lv' := [(6, .int y.1), (5, .int (mg_cd 1 9 9 out)), (0, .ref b), (1, .ref (g 0)), (2, .ref (h 0)), (3, .ref q), (4, .int x4)]) hx hb dL_law_995 hl (by decide) rfl (fun ls hl => ?_)
  refine lv_aload_n hx hb dL_law_997 rfl (lv_at hl 4 rfl) ?_
  have hw : mg_Wo D (fun q => s.heap.size ≤ q) s.heap H locs (((mg_cW g cI cZ σ1) ++ (mg_oc q cL (mg_of out f))) ++ ((mg_mW h cI cZ y.2) ++ [])) := by rw [List.append_nil]; exact hw
  refine mg_kF (wl := ((mg_cW g cI cZ σ1) ++ (mg_oc q cL (mg_of out f)))) (w0 := (mg_mW h cI cZ y.2)) (wr := []) (rv := some (.int (y.2 0 0))) (va_runV (As := []) (rest := []) G9 (k_X8_thrown l D o cI cZ h H.size y.2 (y.2 0 0) rfl) (cwV 0 hts gL_law_X8_thrown rfl rfl rfl (by decide +kernel) ⟨Nat.le_of_ble_eq_true rfl, Nat.le_of_ble_eq_true rfl⟩) (mg_preV (hK.sub (tys' := [(cI, .int), (cZ, .boolean)]) [0, 1] rfl) hO hA (mg_sub (wl := ((mg_cW g cI cZ σ1) ++ (mg_oc q cL (mg_of out f)))) (wr := []) hw) (q0 := 0) rfl rfl) rfl rfl hl.1 rfl (lv_room (Nat.le_of_ble_eq_true rfl)) dL_law_998 ⟨(show cl + 1 + 0 + 0 ≤ room_1.cells by omega), (show sl + 6 + 0 + 0 ≤ room_1.slots by omega)⟩) hw hA (fun H locs hw => ?_)
  rw [List.append_nil] at hw
  refine lv_iload hx hb dL_law_1001 (lv_at hl 1 rfl) ?_
  refine lv_icmp_eq (tgt := 1008) hx hb dL_law_1003 (by decide) (fun _ => ?_) (fun hne => absurd hthr hne)
  refine mg_join (H2 := H) (locs2 := locs) (g2 := F0 m 1025 ls []) ?_ (fun J => ?_)
  · refine lv_goto (tgt := 1356) hx hb dL_law_1025 (by decide) ?_
    refine W.widen (k := cl + 700) (n := sl + 3500) (by omega) (by omega) ?_
    exact kk _ _ _ _ _ _ I1 hw (lv_sub hl [2, 3, 4, 5, 6] rfl)
  refine lv_iload hx hb dL_law_1008 (lv_at hl 1 rfl) ?_
  refine lv_if_ne (tgt := 1025) hx hb dL_law_1010 (by decide) (fun _ => J) (fun hz => ?_)
  cases out with
  | error k9 => exact absurd hz (by rcases mg_fin3 k9 with rfl | rfl | rfl <;> decide)
  | ok v =>
    refine lv_aload_n hx hb dL_law_1013 rfl (lv_at hl 5 rfl) ?_
    refine lv_iconst (v := 0) hx hb dL_law_1014 (by decide) ?_
    refine va_lald hx hb hK hw.1 25 2 rfl rfl (by unfold vp_in; decide) dL_law_1015 ?_
    refine lv_iload hx hb dL_law_1016 (lv_at hl 0 rfl) ?_
    refine lv_i2l hx hb dL_law_1018 rfl ?_
    refine W.lcmp hx hb dL_law_1019 ?_
    rw [hval v rfl, mg_of0, mg_lgself]
    exact lv_if_eq (tgt := 1025) hx hb dL_law_1020 (by decide) (fun _ => J) (fun h => absurd rfl h)
set_option maxHeartbeats 4000000 in
set_option maxRecDepth 100000 in
theorem lawc_count {p : Program} {l : Launch} {e : Env} {s : State} {m : MethodId} {below : List Frame} {meth : Method} {c : Code} {Q : State → Prop} {D : va_G} {o : Nat → Nat} {cI cZ cL : ClassId} {g h : Nat → Nat} {q b L : Nat} {xs : Nat → Int32} (hst : l.stackTraces = false) (hx : p.tables.exec = Jvm.exec) (hb : c.code = cL_law) (hml : c.maxLocals = 9) (hown : s.vm.findClass RL = some m.cls) (hts : ∀ w ∈ wsL_law, w.before #[Value.ref b] s = true) (hX : va_X b L xs s s.heap) (hbl : b < s.heap.size) (hK : va_K D vwCl [(cI, .int), (cZ, .boolean), (cL, .long)] s) (hO : mg_Old o (fun q => s.heap.size ≤ q) s s.heap)
  {σ τ : mg_St} {f : Nat → Int64} {H : Heap} {locs : List Loc} {ls : Array Slot} {cl sl : Nat} (I : mg_Inv σ τ) (x4 : Int32) (j1 : vp_in (x4 + 1) L) (j2 : vp_in (x4 + 2) L) (j3 : vp_in (x4 + 3) L) (j4 : vp_in (x4 + 4) L) (hcl : cl + 700 ≤ room_1.cells) (hsl : sl + 3500 ≤ room_1.slots)
  (hw : mg_Wo D (fun q => s.heap.size ≤ q) s.heap H locs (((mg_cW g cI cZ σ) ++ (mg_oc q cL f)) ++ (mg_mW h cI cZ τ))) (hl : lv_has ls 9 [(0, .ref b), (1, .ref (g 0)), (2, .ref (h 0)), (3, .ref q), (4, .int x4)])
  (kk : ∀ (σ' τ' : mg_St) (f' : Nat → Int64) (H : Heap) (locs : List Loc) (ls : Array Slot), mg_Inv σ' τ' → mg_Wo D (fun q => s.heap.size ≤ q) s.heap H locs (((mg_cW g cI cZ (σ')) ++ (mg_oc q cL (f'))) ++ (mg_mW h cI cZ (τ'))) → lv_has ls 9 [(0, .ref b), (1, .ref (g 0)), (2, .ref (h 0)), (3, .ref q), (4, .int x4)] → W p l e room_1 s m #[Value.ref b] below meth c H locs (cl + 700) (sl + 3500) Q (F0 m 1356 ls [])) : W p l e room_1 s m #[Value.ref b] below meth c H locs cl sl Q (F0 m 1028 ls []) := by
  obtain ⟨out, σ1, y, hf1, hf2, I1, hthr, hval, hk1, hk2⟩ := sim_count I (xs (x4 + 1).toNatClampNeg)
  have hA : ∀ q : Nat, s.heap.size ≤ q → (fun q => s.heap.size ≤ q) q := fun _ h => h
  have hbA : ¬ (fun q => s.heap.size ≤ q) b := Nat.not_le.mpr hbl
  have G9 : CallFix p m c cL_law 9 s #[Value.ref b] wsL_law RL := ⟨hx, hb, hml, hown, hts⟩
  refine lv_aload_n hx hb dL_law_1028 rfl (lv_at hl 1 rfl) ?_
  refine lv_aload_n hx hb dL_law_1029 rfl (lv_at hl 0 rfl) ?_
  refine lv_iload hx hb dL_law_1030 (lv_at hl 4 rfl) ?_
  refine lv_iconst (v := 1) hx hb dL_law_1032 (by decide) ?_
  refine lv_iadd hx hb dL_law_1033 ?_
  refine va_sld hx hb hX hbl hbA hw.2.2 j1 dL_law_1034 ?_
  refine lv_aload_n hx hb dL_law_1035 rfl (lv_at hl 3 rfl) ?_
  refine mg_kF (wl := []) (w0 := ((mg_cW g cI cZ σ) ++ (mg_oc q cL f))) (wr := (mg_mW h cI cZ τ)) (rv := some (.int (mg_cd 1 9 9 out))) (vx_runSW (As := [.ref (g 0), .int (xs (x4 + 1).toNatClampNeg), .ref q]) (rest := []) G9 (k_L_count l hst D o cI cZ cL g q H.size σ f (xs (x4 + 1).toNatClampNeg) out σ1 hf1 hk1 hk2) (vx_cwSW 3 hts gL_law_L_count rfl rfl rfl (by decide +kernel) ⟨Nat.le_of_ble_eq_true rfl, Nat.le_of_ble_eq_true rfl⟩) (mg_pre hK hO hA (mg_sub (wl := []) hw)) rfl rfl hl.1 rfl (lv_room (Nat.le_of_ble_eq_true rfl)) dL_law_1036 ⟨(show cl + 1 ≤ room_1.cells by omega), (show sl + 6 ≤ room_1.slots by omega)⟩) hw hA (fun H locs hw => ?_)
  refine lv_istore (lv' := [(5, .int (mg_cd 1 9 9 out)), (0, .ref b), (1, .ref (g 0)), (2, .ref (h 0)), (3, .ref q), (4, .int x4)]) hx hb dL_law_1039 hl (by decide) rfl (fun ls hl => ?_)
  refine lv_aload_n hx hb dL_law_1041 rfl (lv_at hl 3 rfl) ?_
  refine lv_aload_n hx hb dL_law_1042 rfl (lv_at hl 1 rfl) ?_
  refine lv_iload hx hb dL_law_1043 (lv_at hl 5 rfl) ?_
  refine lv_iconst (v := 1) hx hb dL_law_1045 (by decide) ?_
  refine lv_iadd hx hb dL_law_1046 ?_
  refine va_sld hx hb hX hbl hbA hw.2.2 j1 dL_law_1047 ?_
  have hw : mg_Wo D (fun q => s.heap.size ≤ q) s.heap H locs (((mg_cW g cI cZ σ1) ++ (mg_oc q cL (mg_of out f))) ++ ((mg_mW h cI cZ τ) ++ [])) := by rw [List.append_nil]; exact hw
  refine mg_kF (wl := ((mg_cW g cI cZ σ1) ++ (mg_oc q cL (mg_of out f)))) (w0 := (mg_mW h cI cZ τ)) (wr := []) (rv := some (.int y.1)) (va_runV (As := [.int (xs (x4 + 1).toNatClampNeg)]) (rest := []) G9 (k_X8_count l D o cI cZ h H.size τ (xs (x4 + 1).toNatClampNeg) y hf2) (cwV 1 hts gL_law_X8_count rfl rfl rfl (by decide +kernel) ⟨Nat.le_of_ble_eq_true rfl, Nat.le_of_ble_eq_true rfl⟩) (mg_preV (hK.sub (tys' := [(cI, .int), (cZ, .boolean)]) [0, 1] rfl) hO hA (mg_sub (wl := ((mg_cW g cI cZ σ1) ++ (mg_oc q cL (mg_of out f)))) (wr := []) hw) (q0 := 0) rfl rfl) rfl rfl hl.1 rfl (lv_room (Nat.le_of_ble_eq_true rfl)) dL_law_1048 ⟨(show cl + 1 + 1 ≤ room_1.cells by omega), (show sl + 6 + 11 ≤ room_1.slots by omega)⟩) hw hA (fun H locs hw => ?_)
  rw [List.append_nil] at hw
  refine lv_istore (lv' := [(6, .int y.1), (5, .int (mg_cd 1 9 9 out)), (0, .ref b), (1, .ref (g 0)), (2, .ref (h 0)), (3, .ref q), (4, .int x4)]) hx hb dL_law_1051 hl (by decide) rfl (fun ls hl => ?_)
  refine lv_aload_n hx hb dL_law_1053 rfl (lv_at hl 4 rfl) ?_
  have hw : mg_Wo D (fun q => s.heap.size ≤ q) s.heap H locs (((mg_cW g cI cZ σ1) ++ (mg_oc q cL (mg_of out f))) ++ ((mg_mW h cI cZ y.2) ++ [])) := by rw [List.append_nil]; exact hw
  refine mg_kF (wl := ((mg_cW g cI cZ σ1) ++ (mg_oc q cL (mg_of out f)))) (w0 := (mg_mW h cI cZ y.2)) (wr := []) (rv := some (.int (y.2 0 0))) (va_runV (As := []) (rest := []) G9 (k_X8_thrown l D o cI cZ h H.size y.2 (y.2 0 0) rfl) (cwV 0 hts gL_law_X8_thrown rfl rfl rfl (by decide +kernel) ⟨Nat.le_of_ble_eq_true rfl, Nat.le_of_ble_eq_true rfl⟩) (mg_preV (hK.sub (tys' := [(cI, .int), (cZ, .boolean)]) [0, 1] rfl) hO hA (mg_sub (wl := ((mg_cW g cI cZ σ1) ++ (mg_oc q cL (mg_of out f)))) (wr := []) hw) (q0 := 0) rfl rfl) rfl rfl hl.1 rfl (lv_room (Nat.le_of_ble_eq_true rfl)) dL_law_1054 ⟨(show cl + 1 + 1 + 0 ≤ room_1.cells by omega), (show sl + 6 + 11 + 0 ≤ room_1.slots by omega)⟩) hw hA (fun H locs hw => ?_)
  rw [List.append_nil] at hw
  refine lv_iload hx hb dL_law_1057 (lv_at hl 1 rfl) ?_
  refine lv_icmp_eq (tgt := 1064) hx hb dL_law_1059 (by decide) (fun _ => ?_) (fun hne => absurd hthr hne)
  refine mg_join (H2 := H) (locs2 := locs) (g2 := F0 m 1081 ls []) ?_ (fun J => ?_)
  · refine lv_goto (tgt := 1356) hx hb dL_law_1081 (by decide) ?_
    refine W.widen (k := cl + 700) (n := sl + 3500) (by omega) (by omega) ?_
    exact kk _ _ _ _ _ _ I1 hw (lv_sub hl [2, 3, 4, 5, 6] rfl)
  refine lv_iload hx hb dL_law_1064 (lv_at hl 1 rfl) ?_
  refine lv_if_ne (tgt := 1081) hx hb dL_law_1066 (by decide) (fun _ => J) (fun hz => ?_)
  cases out with
  | error k9 => exact absurd hz (by rcases mg_fin3 k9 with rfl | rfl | rfl <;> decide)
  | ok v =>
    refine lv_aload_n hx hb dL_law_1069 rfl (lv_at hl 5 rfl) ?_
    refine lv_iconst (v := 0) hx hb dL_law_1070 (by decide) ?_
    refine va_lald hx hb hK hw.1 25 2 rfl rfl (by unfold vp_in; decide) dL_law_1071 ?_
    refine lv_iload hx hb dL_law_1072 (lv_at hl 0 rfl) ?_
    refine lv_i2l hx hb dL_law_1074 rfl ?_
    refine W.lcmp hx hb dL_law_1075 ?_
    rw [hval v rfl, mg_of0, mg_lgself]
    exact lv_if_eq (tgt := 1081) hx hb dL_law_1076 (by decide) (fun _ => J) (fun h => absurd rfl h)
set_option maxHeartbeats 4000000 in
set_option maxRecDepth 100000 in
theorem lawc_pass {p : Program} {l : Launch} {e : Env} {s : State} {m : MethodId} {below : List Frame} {meth : Method} {c : Code} {Q : State → Prop} {D : va_G} {o : Nat → Nat} {cI cZ cL : ClassId} {g h : Nat → Nat} {q b L : Nat} {xs : Nat → Int32} (hst : l.stackTraces = false) (hx : p.tables.exec = Jvm.exec) (hb : c.code = cL_law) (hml : c.maxLocals = 9) (hown : s.vm.findClass RL = some m.cls) (hts : ∀ w ∈ wsL_law, w.before #[Value.ref b] s = true) (hX : va_X b L xs s s.heap) (hbl : b < s.heap.size) (hK : va_K D vwCl [(cI, .int), (cZ, .boolean), (cL, .long)] s) (hO : mg_Old o (fun q => s.heap.size ≤ q) s s.heap)
  {σ τ : mg_St} {f : Nat → Int64} {H : Heap} {locs : List Loc} {ls : Array Slot} {cl sl : Nat} (I : mg_Inv σ τ) (x4 : Int32) (j1 : vp_in (x4 + 1) L) (j2 : vp_in (x4 + 2) L) (j3 : vp_in (x4 + 3) L) (j4 : vp_in (x4 + 4) L) (hcl : cl + 700 ≤ room_1.cells) (hsl : sl + 3500 ≤ room_1.slots)
  (hw : mg_Wo D (fun q => s.heap.size ≤ q) s.heap H locs (((mg_cW g cI cZ σ) ++ (mg_oc q cL f)) ++ (mg_mW h cI cZ τ))) (hl : lv_has ls 9 [(0, .ref b), (1, .ref (g 0)), (2, .ref (h 0)), (3, .ref q), (4, .int x4)])
  (kk : ∀ (σ' τ' : mg_St) (f' : Nat → Int64) (H : Heap) (locs : List Loc) (ls : Array Slot), mg_Inv σ' τ' → mg_Wo D (fun q => s.heap.size ≤ q) s.heap H locs (((mg_cW g cI cZ (σ')) ++ (mg_oc q cL (f'))) ++ (mg_mW h cI cZ (τ'))) → lv_has ls 9 [(0, .ref b), (1, .ref (g 0)), (2, .ref (h 0)), (3, .ref q), (4, .int x4)] → W p l e room_1 s m #[Value.ref b] below meth c H locs (cl + 700) (sl + 3500) Q (F0 m 1356 ls [])) : W p l e room_1 s m #[Value.ref b] below meth c H locs cl sl Q (F0 m 1084 ls []) := by
  obtain ⟨out, σ1, y, hf1, hf2, I1, hthr, hval, hk0, hk2⟩ := sim_pass I (xs (x4 + 1).toNatClampNeg)
  have hA : ∀ q : Nat, s.heap.size ≤ q → (fun q => s.heap.size ≤ q) q := fun _ h => h
  have hbA : ¬ (fun q => s.heap.size ≤ q) b := Nat.not_le.mpr hbl
  have G9 : CallFix p m c cL_law 9 s #[Value.ref b] wsL_law RL := ⟨hx, hb, hml, hown, hts⟩
  refine lv_aload_n hx hb dL_law_1084 rfl (lv_at hl 1 rfl) ?_
  refine lv_aload_n hx hb dL_law_1085 rfl (lv_at hl 0 rfl) ?_
  refine lv_iload hx hb dL_law_1086 (lv_at hl 4 rfl) ?_
  refine lv_iconst (v := 1) hx hb dL_law_1088 (by decide) ?_
  refine lv_iadd hx hb dL_law_1089 ?_
  refine va_sld hx hb hX hbl hbA hw.2.2 j1 dL_law_1090 ?_
  refine lv_aload_n hx hb dL_law_1091 rfl (lv_at hl 3 rfl) ?_
  refine mg_kF (wl := []) (w0 := ((mg_cW g cI cZ σ) ++ (mg_oc q cL f))) (wr := (mg_mW h cI cZ τ)) (rv := some (.int (mg_cd 9 1 9 out))) (vx_runSW (As := [.ref (g 0), .int (xs (x4 + 1).toNatClampNeg), .ref q]) (rest := []) G9 (k_L_pass l hst D o cI cZ cL g q H.size σ f (xs (x4 + 1).toNatClampNeg) out σ1 hf1 hk0 hk2) (vx_cwSW 3 hts gL_law_L_pass rfl rfl rfl (by decide +kernel) ⟨Nat.le_of_ble_eq_true rfl, Nat.le_of_ble_eq_true rfl⟩) (mg_pre hK hO hA (mg_sub (wl := []) hw)) rfl rfl hl.1 rfl (lv_room (Nat.le_of_ble_eq_true rfl)) dL_law_1092 ⟨(show cl + 1 ≤ room_1.cells by omega), (show sl + 6 ≤ room_1.slots by omega)⟩) hw hA (fun H locs hw => ?_)
  refine lv_istore (lv' := [(5, .int (mg_cd 9 1 9 out)), (0, .ref b), (1, .ref (g 0)), (2, .ref (h 0)), (3, .ref q), (4, .int x4)]) hx hb dL_law_1095 hl (by decide) rfl (fun ls hl => ?_)
  refine lv_aload_n hx hb dL_law_1097 rfl (lv_at hl 3 rfl) ?_
  refine lv_aload_n hx hb dL_law_1098 rfl (lv_at hl 1 rfl) ?_
  refine lv_iload hx hb dL_law_1099 (lv_at hl 5 rfl) ?_
  refine lv_iconst (v := 1) hx hb dL_law_1101 (by decide) ?_
  refine lv_iadd hx hb dL_law_1102 ?_
  refine va_sld hx hb hX hbl hbA hw.2.2 j1 dL_law_1103 ?_
  have hw : mg_Wo D (fun q => s.heap.size ≤ q) s.heap H locs (((mg_cW g cI cZ σ1) ++ (mg_oc q cL (mg_of out f))) ++ ((mg_mW h cI cZ τ) ++ [])) := by rw [List.append_nil]; exact hw
  refine mg_kF (wl := ((mg_cW g cI cZ σ1) ++ (mg_oc q cL (mg_of out f)))) (w0 := (mg_mW h cI cZ τ)) (wr := []) (rv := some (.int y.1)) (va_runV (As := [.int (xs (x4 + 1).toNatClampNeg)]) (rest := []) G9 (k_X8_pass l D o cI cZ h H.size τ (xs (x4 + 1).toNatClampNeg) y hf2) (cwV 1 hts gL_law_X8_pass rfl rfl rfl (by decide +kernel) ⟨Nat.le_of_ble_eq_true rfl, Nat.le_of_ble_eq_true rfl⟩) (mg_preV (hK.sub (tys' := [(cI, .int), (cZ, .boolean)]) [0, 1] rfl) hO hA (mg_sub (wl := ((mg_cW g cI cZ σ1) ++ (mg_oc q cL (mg_of out f)))) (wr := []) hw) (q0 := 0) rfl rfl) rfl rfl hl.1 rfl (lv_room (Nat.le_of_ble_eq_true rfl)) dL_law_1104 ⟨(show cl + 1 + 0 ≤ room_1.cells by omega), (show sl + 6 + 0 ≤ room_1.slots by omega)⟩) hw hA (fun H locs hw => ?_)
  rw [List.append_nil] at hw
  refine lv_istore (lv' := [(6, .int y.1), (5, .int (mg_cd 9 1 9 out)), (0, .ref b), (1, .ref (g 0)), (2, .ref (h 0)), (3, .ref q), (4, .int x4)]) hx hb dL_law_1107 hl (by decide) rfl (fun ls hl => ?_)
  refine lv_aload_n hx hb dL_law_1109 rfl (lv_at hl 4 rfl) ?_
  have hw : mg_Wo D (fun q => s.heap.size ≤ q) s.heap H locs (((mg_cW g cI cZ σ1) ++ (mg_oc q cL (mg_of out f))) ++ ((mg_mW h cI cZ y.2) ++ [])) := by rw [List.append_nil]; exact hw
  refine mg_kF (wl := ((mg_cW g cI cZ σ1) ++ (mg_oc q cL (mg_of out f)))) (w0 := (mg_mW h cI cZ y.2)) (wr := []) (rv := some (.int (y.2 0 0))) (va_runV (As := []) (rest := []) G9 (k_X8_thrown l D o cI cZ h H.size y.2 (y.2 0 0) rfl) (cwV 0 hts gL_law_X8_thrown rfl rfl rfl (by decide +kernel) ⟨Nat.le_of_ble_eq_true rfl, Nat.le_of_ble_eq_true rfl⟩) (mg_preV (hK.sub (tys' := [(cI, .int), (cZ, .boolean)]) [0, 1] rfl) hO hA (mg_sub (wl := ((mg_cW g cI cZ σ1) ++ (mg_oc q cL (mg_of out f)))) (wr := []) hw) (q0 := 0) rfl rfl) rfl rfl hl.1 rfl (lv_room (Nat.le_of_ble_eq_true rfl)) dL_law_1110 ⟨(show cl + 1 + 0 + 0 ≤ room_1.cells by omega), (show sl + 6 + 0 + 0 ≤ room_1.slots by omega)⟩) hw hA (fun H locs hw => ?_)
  rw [List.append_nil] at hw
  refine lv_iload hx hb dL_law_1113 (lv_at hl 1 rfl) ?_
  refine lv_icmp_eq (tgt := 1120) hx hb dL_law_1115 (by decide) (fun _ => ?_) (fun hne => absurd hthr hne)
  refine mg_join (H2 := H) (locs2 := locs) (g2 := F0 m 1137 ls []) ?_ (fun J => ?_)
  · refine lv_goto (tgt := 1356) hx hb dL_law_1137 (by decide) ?_
    refine W.widen (k := cl + 700) (n := sl + 3500) (by omega) (by omega) ?_
    exact kk _ _ _ _ _ _ I1 hw (lv_sub hl [2, 3, 4, 5, 6] rfl)
  refine lv_iload hx hb dL_law_1120 (lv_at hl 1 rfl) ?_
  refine lv_if_ne (tgt := 1137) hx hb dL_law_1122 (by decide) (fun _ => J) (fun hz => ?_)
  cases out with
  | error k9 => exact absurd hz (by rcases mg_fin3 k9 with rfl | rfl | rfl <;> decide)
  | ok v =>
    refine lv_aload_n hx hb dL_law_1125 rfl (lv_at hl 5 rfl) ?_
    refine lv_iconst (v := 0) hx hb dL_law_1126 (by decide) ?_
    refine va_lald hx hb hK hw.1 25 2 rfl rfl (by unfold vp_in; decide) dL_law_1127 ?_
    refine lv_iload hx hb dL_law_1128 (lv_at hl 0 rfl) ?_
    refine lv_i2l hx hb dL_law_1130 rfl ?_
    refine W.lcmp hx hb dL_law_1131 ?_
    rw [hval v rfl, mg_of0, mg_lgself]
    exact lv_if_eq (tgt := 1137) hx hb dL_law_1132 (by decide) (fun _ => J) (fun h => absurd rfl h)
set_option maxHeartbeats 4000000 in
set_option maxRecDepth 100000 in
theorem lawc_foresee {p : Program} {l : Launch} {e : Env} {s : State} {m : MethodId} {below : List Frame} {meth : Method} {c : Code} {Q : State → Prop} {D : va_G} {o : Nat → Nat} {cI cZ cL : ClassId} {g h : Nat → Nat} {q b L : Nat} {xs : Nat → Int32} (hst : l.stackTraces = false) (hx : p.tables.exec = Jvm.exec) (hb : c.code = cL_law) (hml : c.maxLocals = 9) (hown : s.vm.findClass RL = some m.cls) (hts : ∀ w ∈ wsL_law, w.before #[Value.ref b] s = true) (hX : va_X b L xs s s.heap) (hbl : b < s.heap.size) (hK : va_K D vwCl [(cI, .int), (cZ, .boolean), (cL, .long)] s) (hO : mg_Old o (fun q => s.heap.size ≤ q) s s.heap)
  {σ τ : mg_St} {f : Nat → Int64} {H : Heap} {locs : List Loc} {ls : Array Slot} {cl sl : Nat} (I : mg_Inv σ τ) (x4 : Int32) (j1 : vp_in (x4 + 1) L) (j2 : vp_in (x4 + 2) L) (j3 : vp_in (x4 + 3) L) (j4 : vp_in (x4 + 4) L) (hcl : cl + 700 ≤ room_1.cells) (hsl : sl + 3500 ≤ room_1.slots)
  (hw : mg_Wo D (fun q => s.heap.size ≤ q) s.heap H locs (((mg_cW g cI cZ σ) ++ (mg_oc q cL f)) ++ (mg_mW h cI cZ τ))) (hl : lv_has ls 9 [(0, .ref b), (1, .ref (g 0)), (2, .ref (h 0)), (3, .ref q), (4, .int x4)])
  (kk : ∀ (σ' τ' : mg_St) (f' : Nat → Int64) (H : Heap) (locs : List Loc) (ls : Array Slot), mg_Inv σ' τ' → mg_Wo D (fun q => s.heap.size ≤ q) s.heap H locs (((mg_cW g cI cZ (σ')) ++ (mg_oc q cL (f'))) ++ (mg_mW h cI cZ (τ'))) → lv_has ls 9 [(0, .ref b), (1, .ref (g 0)), (2, .ref (h 0)), (3, .ref q), (4, .int x4)] → W p l e room_1 s m #[Value.ref b] below meth c H locs (cl + 700) (sl + 3500) Q (F0 m 1356 ls [])) : W p l e room_1 s m #[Value.ref b] below meth c H locs cl sl Q (F0 m 1140 ls []) := by
  obtain ⟨out, σ1, y, hf1, hf2, I1, hthr, hval, hk2⟩ := sim_foresee I (xs (x4 + 1).toNatClampNeg) (xs (x4 + 2).toNatClampNeg)
  have hA : ∀ q : Nat, s.heap.size ≤ q → (fun q => s.heap.size ≤ q) q := fun _ h => h
  have hbA : ¬ (fun q => s.heap.size ≤ q) b := Nat.not_le.mpr hbl
  have G9 : CallFix p m c cL_law 9 s #[Value.ref b] wsL_law RL := ⟨hx, hb, hml, hown, hts⟩
  refine lv_aload_n hx hb dL_law_1140 rfl (lv_at hl 1 rfl) ?_
  refine lv_aload_n hx hb dL_law_1141 rfl (lv_at hl 0 rfl) ?_
  refine lv_iload hx hb dL_law_1142 (lv_at hl 4 rfl) ?_
  refine lv_iconst (v := 1) hx hb dL_law_1144 (by decide) ?_
  refine lv_iadd hx hb dL_law_1145 ?_
  refine va_sld hx hb hX hbl hbA hw.2.2 j1 dL_law_1146 ?_
  refine lv_aload_n hx hb dL_law_1147 rfl (lv_at hl 0 rfl) ?_
  refine lv_iload hx hb dL_law_1148 (lv_at hl 4 rfl) ?_
  refine lv_iconst (v := 2) hx hb dL_law_1150 (by decide) ?_
  refine lv_iadd hx hb dL_law_1151 ?_
  refine va_sld hx hb hX hbl hbA hw.2.2 j2 dL_law_1152 ?_
  refine lv_aload_n hx hb dL_law_1153 rfl (lv_at hl 3 rfl) ?_
  refine mg_kF (wl := []) (w0 := ((mg_cW g cI cZ σ) ++ (mg_oc q cL f))) (wr := (mg_mW h cI cZ τ)) (rv := some (.int (mg_cd 2 1 9 out))) (vx_runSW (As := [.ref (g 0), .int (xs (x4 + 1).toNatClampNeg), .int (xs (x4 + 2).toNatClampNeg), .ref q]) (rest := []) G9 (k_L_foresee l hst D o cI cZ cL g q H.size σ f (xs (x4 + 1).toNatClampNeg) (xs (x4 + 2).toNatClampNeg) out σ1 hf1 hk2) (vx_cwSW 4 hts gL_law_L_foresee rfl rfl rfl (by decide +kernel) ⟨Nat.le_of_ble_eq_true rfl, Nat.le_of_ble_eq_true rfl⟩) (mg_pre hK hO hA (mg_sub (wl := []) hw)) rfl rfl hl.1 rfl (lv_room (Nat.le_of_ble_eq_true rfl)) dL_law_1154 ⟨(show cl + 1 ≤ room_1.cells by omega), (show sl + 6 ≤ room_1.slots by omega)⟩) hw hA (fun H locs hw => ?_)
  refine lv_istore (lv' := [(5, .int (mg_cd 2 1 9 out)), (0, .ref b), (1, .ref (g 0)), (2, .ref (h 0)), (3, .ref q), (4, .int x4)]) hx hb dL_law_1157 hl (by decide) rfl (fun ls hl => ?_)
  refine lv_aload_n hx hb dL_law_1159 rfl (lv_at hl 3 rfl) ?_
  refine lv_aload_n hx hb dL_law_1160 rfl (lv_at hl 1 rfl) ?_
  refine lv_iload hx hb dL_law_1161 (lv_at hl 5 rfl) ?_
  refine lv_iconst (v := 1) hx hb dL_law_1163 (by decide) ?_
  refine lv_iadd hx hb dL_law_1164 ?_
  refine va_sld hx hb hX hbl hbA hw.2.2 j1 dL_law_1165 ?_
  refine lv_aload_n hx hb dL_law_1166 rfl (lv_at hl 1 rfl) ?_
  refine lv_iload hx hb dL_law_1167 (lv_at hl 5 rfl) ?_
  refine lv_iconst (v := 2) hx hb dL_law_1169 (by decide) ?_
  refine lv_iadd hx hb dL_law_1170 ?_
  refine va_sld hx hb hX hbl hbA hw.2.2 j2 dL_law_1171 ?_
  have hw : mg_Wo D (fun q => s.heap.size ≤ q) s.heap H locs (((mg_cW g cI cZ σ1) ++ (mg_oc q cL (mg_of out f))) ++ ((mg_mW h cI cZ τ) ++ [])) := by rw [List.append_nil]; exact hw
  refine mg_kF (wl := ((mg_cW g cI cZ σ1) ++ (mg_oc q cL (mg_of out f)))) (w0 := (mg_mW h cI cZ τ)) (wr := []) (rv := some (.int y.1)) (va_runV (As := [.int (xs (x4 + 1).toNatClampNeg), .int (xs (x4 + 2).toNatClampNeg)]) (rest := []) G9 (k_X8_foresee l D o cI cZ h H.size τ (xs (x4 + 1).toNatClampNeg) (xs (x4 + 2).toNatClampNeg) y hf2) (cwV 2 hts gL_law_X8_foresee rfl rfl rfl (by decide +kernel) ⟨Nat.le_of_ble_eq_true rfl, Nat.le_of_ble_eq_true rfl⟩) (mg_preV (hK.sub (tys' := [(cI, .int), (cZ, .boolean)]) [0, 1] rfl) hO hA (mg_sub (wl := ((mg_cW g cI cZ σ1) ++ (mg_oc q cL (mg_of out f)))) (wr := []) hw) (q0 := 0) rfl rfl) rfl rfl hl.1 rfl (lv_room (Nat.le_of_ble_eq_true rfl)) dL_law_1172 ⟨(show cl + 1 + 0 ≤ room_1.cells by omega), (show sl + 6 + 0 ≤ room_1.slots by omega)⟩) hw hA (fun H locs hw => ?_)
  rw [List.append_nil] at hw
  refine lv_istore (lv' := [(6, .int y.1), (5, .int (mg_cd 2 1 9 out)), (0, .ref b), (1, .ref (g 0)), (2, .ref (h 0)), (3, .ref q), (4, .int x4)]) hx hb dL_law_1175 hl (by decide) rfl (fun ls hl => ?_)
  refine lv_aload_n hx hb dL_law_1177 rfl (lv_at hl 4 rfl) ?_
  have hw : mg_Wo D (fun q => s.heap.size ≤ q) s.heap H locs (((mg_cW g cI cZ σ1) ++ (mg_oc q cL (mg_of out f))) ++ ((mg_mW h cI cZ y.2) ++ [])) := by rw [List.append_nil]; exact hw
  refine mg_kF (wl := ((mg_cW g cI cZ σ1) ++ (mg_oc q cL (mg_of out f)))) (w0 := (mg_mW h cI cZ y.2)) (wr := []) (rv := some (.int (y.2 0 0))) (va_runV (As := []) (rest := []) G9 (k_X8_thrown l D o cI cZ h H.size y.2 (y.2 0 0) rfl) (cwV 0 hts gL_law_X8_thrown rfl rfl rfl (by decide +kernel) ⟨Nat.le_of_ble_eq_true rfl, Nat.le_of_ble_eq_true rfl⟩) (mg_preV (hK.sub (tys' := [(cI, .int), (cZ, .boolean)]) [0, 1] rfl) hO hA (mg_sub (wl := ((mg_cW g cI cZ σ1) ++ (mg_oc q cL (mg_of out f)))) (wr := []) hw) (q0 := 0) rfl rfl) rfl rfl hl.1 rfl (lv_room (Nat.le_of_ble_eq_true rfl)) dL_law_1178 ⟨(show cl + 1 + 0 + 0 ≤ room_1.cells by omega), (show sl + 6 + 0 + 0 ≤ room_1.slots by omega)⟩) hw hA (fun H locs hw => ?_)
  rw [List.append_nil] at hw
  refine lv_iload hx hb dL_law_1181 (lv_at hl 1 rfl) ?_
  refine lv_icmp_eq (tgt := 1188) hx hb dL_law_1183 (by decide) (fun _ => ?_) (fun hne => absurd hthr hne)
  refine mg_join (H2 := H) (locs2 := locs) (g2 := F0 m 1205 ls []) ?_ (fun J => ?_)
  · refine lv_goto (tgt := 1356) hx hb dL_law_1205 (by decide) ?_
    refine W.widen (k := cl + 700) (n := sl + 3500) (by omega) (by omega) ?_
    exact kk _ _ _ _ _ _ I1 hw (lv_sub hl [2, 3, 4, 5, 6] rfl)
  refine lv_iload hx hb dL_law_1188 (lv_at hl 1 rfl) ?_
  refine lv_if_ne (tgt := 1205) hx hb dL_law_1190 (by decide) (fun _ => J) (fun hz => ?_)
  cases out with
  | error k9 => exact absurd hz (by rcases mg_fin3 k9 with rfl | rfl | rfl <;> decide)
  | ok v =>
    refine lv_aload_n hx hb dL_law_1193 rfl (lv_at hl 5 rfl) ?_
    refine lv_iconst (v := 0) hx hb dL_law_1194 (by decide) ?_
    refine va_lald hx hb hK hw.1 25 2 rfl rfl (by unfold vp_in; decide) dL_law_1195 ?_
    refine lv_iload hx hb dL_law_1196 (lv_at hl 0 rfl) ?_
    refine lv_i2l hx hb dL_law_1198 rfl ?_
    refine W.lcmp hx hb dL_law_1199 ?_
    rw [hval v rfl, mg_of0, mg_lgself]
    exact lv_if_eq (tgt := 1205) hx hb dL_law_1200 (by decide) (fun _ => J) (fun h => absurd rfl h)
set_option maxHeartbeats 4000000 in
set_option maxRecDepth 100000 in
theorem lawc_advise {p : Program} {l : Launch} {e : Env} {s : State} {m : MethodId} {below : List Frame} {meth : Method} {c : Code} {Q : State → Prop} {D : va_G} {o : Nat → Nat} {cI cZ cL : ClassId} {g h : Nat → Nat} {q b L : Nat} {xs : Nat → Int32} (hst : l.stackTraces = false) (hx : p.tables.exec = Jvm.exec) (hb : c.code = cL_law) (hml : c.maxLocals = 9) (hown : s.vm.findClass RL = some m.cls) (hts : ∀ w ∈ wsL_law, w.before #[Value.ref b] s = true) (hX : va_X b L xs s s.heap) (hbl : b < s.heap.size) (hK : va_K D vwCl [(cI, .int), (cZ, .boolean), (cL, .long)] s) (hO : mg_Old o (fun q => s.heap.size ≤ q) s s.heap)
  {σ τ : mg_St} {f : Nat → Int64} {H : Heap} {locs : List Loc} {ls : Array Slot} {cl sl : Nat} (I : mg_Inv σ τ) (x4 : Int32) (j1 : vp_in (x4 + 1) L) (j2 : vp_in (x4 + 2) L) (j3 : vp_in (x4 + 3) L) (j4 : vp_in (x4 + 4) L) (hcl : cl + 700 ≤ room_1.cells) (hsl : sl + 3500 ≤ room_1.slots)
  (hw : mg_Wo D (fun q => s.heap.size ≤ q) s.heap H locs (((mg_cW g cI cZ σ) ++ (mg_oc q cL f)) ++ (mg_mW h cI cZ τ))) (hl : lv_has ls 9 [(0, .ref b), (1, .ref (g 0)), (2, .ref (h 0)), (3, .ref q), (4, .int x4)])
  (kk : ∀ (σ' τ' : mg_St) (f' : Nat → Int64) (H : Heap) (locs : List Loc) (ls : Array Slot), mg_Inv σ' τ' → mg_Wo D (fun q => s.heap.size ≤ q) s.heap H locs (((mg_cW g cI cZ (σ')) ++ (mg_oc q cL (f'))) ++ (mg_mW h cI cZ (τ'))) → lv_has ls 9 [(0, .ref b), (1, .ref (g 0)), (2, .ref (h 0)), (3, .ref q), (4, .int x4)] → W p l e room_1 s m #[Value.ref b] below meth c H locs (cl + 700) (sl + 3500) Q (F0 m 1356 ls [])) : W p l e room_1 s m #[Value.ref b] below meth c H locs cl sl Q (F0 m 1208 ls []) := by
  obtain ⟨out, σ1, y, hf1, hf2, I1, hthr, hval, hk2⟩ := sim_advise I (xs (x4 + 1).toNatClampNeg) (xs (x4 + 2).toNatClampNeg) (xs (x4 + 3).toNatClampNeg)
  have hA : ∀ q : Nat, s.heap.size ≤ q → (fun q => s.heap.size ≤ q) q := fun _ h => h
  have hbA : ¬ (fun q => s.heap.size ≤ q) b := Nat.not_le.mpr hbl
  have G9 : CallFix p m c cL_law 9 s #[Value.ref b] wsL_law RL := ⟨hx, hb, hml, hown, hts⟩
  refine lv_aload_n hx hb dL_law_1208 rfl (lv_at hl 1 rfl) ?_
  refine lv_aload_n hx hb dL_law_1209 rfl (lv_at hl 0 rfl) ?_
  refine lv_iload hx hb dL_law_1210 (lv_at hl 4 rfl) ?_
  refine lv_iconst (v := 1) hx hb dL_law_1212 (by decide) ?_
  refine lv_iadd hx hb dL_law_1213 ?_
  refine va_sld hx hb hX hbl hbA hw.2.2 j1 dL_law_1214 ?_
  refine lv_aload_n hx hb dL_law_1215 rfl (lv_at hl 0 rfl) ?_
  refine lv_iload hx hb dL_law_1216 (lv_at hl 4 rfl) ?_
  refine lv_iconst (v := 2) hx hb dL_law_1218 (by decide) ?_
  refine lv_iadd hx hb dL_law_1219 ?_
  refine va_sld hx hb hX hbl hbA hw.2.2 j2 dL_law_1220 ?_
  refine lv_aload_n hx hb dL_law_1221 rfl (lv_at hl 0 rfl) ?_
  refine lv_iload hx hb dL_law_1222 (lv_at hl 4 rfl) ?_
  refine lv_iconst (v := 3) hx hb dL_law_1224 (by decide) ?_
  refine lv_iadd hx hb dL_law_1225 ?_
  refine va_sld hx hb hX hbl hbA hw.2.2 j3 dL_law_1226 ?_
  refine lv_aload_n hx hb dL_law_1227 rfl (lv_at hl 3 rfl) ?_
  refine mg_kF (wl := []) (w0 := ((mg_cW g cI cZ σ) ++ (mg_oc q cL f))) (wr := (mg_mW h cI cZ τ)) (rv := some (.int (mg_cd 1 2 9 out))) (vx_runSW (As := [.ref (g 0), .int (xs (x4 + 1).toNatClampNeg), .int (xs (x4 + 2).toNatClampNeg), .int (xs (x4 + 3).toNatClampNeg), .ref q]) (rest := []) G9 (k_L_advise l hst D o cI cZ cL g q H.size σ f (xs (x4 + 1).toNatClampNeg) (xs (x4 + 2).toNatClampNeg) (xs (x4 + 3).toNatClampNeg) out σ1 hf1 hk2) (vx_cwSW 5 hts gL_law_L_advise rfl rfl rfl (by decide +kernel) ⟨Nat.le_of_ble_eq_true rfl, Nat.le_of_ble_eq_true rfl⟩) (mg_pre hK hO hA (mg_sub (wl := []) hw)) rfl rfl hl.1 rfl (lv_room (Nat.le_of_ble_eq_true rfl)) dL_law_1228 ⟨(show cl + 1 ≤ room_1.cells by omega), (show sl + 6 ≤ room_1.slots by omega)⟩) hw hA (fun H locs hw => ?_)
  refine lv_istore (lv' := [(5, .int (mg_cd 1 2 9 out)), (0, .ref b), (1, .ref (g 0)), (2, .ref (h 0)), (3, .ref q), (4, .int x4)]) hx hb dL_law_1231 hl (by decide) rfl (fun ls hl => ?_)
  refine lv_aload_n hx hb dL_law_1233 rfl (lv_at hl 3 rfl) ?_
  refine lv_aload_n hx hb dL_law_1234 rfl (lv_at hl 1 rfl) ?_
  refine lv_iload hx hb dL_law_1235 (lv_at hl 5 rfl) ?_
  refine lv_iconst (v := 1) hx hb dL_law_1237 (by decide) ?_
  refine lv_iadd hx hb dL_law_1238 ?_
  refine va_sld hx hb hX hbl hbA hw.2.2 j1 dL_law_1239 ?_
  refine lv_aload_n hx hb dL_law_1240 rfl (lv_at hl 1 rfl) ?_
  refine lv_iload hx hb dL_law_1241 (lv_at hl 5 rfl) ?_
  refine lv_iconst (v := 2) hx hb dL_law_1243 (by decide) ?_
  refine lv_iadd hx hb dL_law_1244 ?_
  refine va_sld hx hb hX hbl hbA hw.2.2 j2 dL_law_1245 ?_
  refine lv_aload_n hx hb dL_law_1246 rfl (lv_at hl 1 rfl) ?_
  refine lv_iload hx hb dL_law_1247 (lv_at hl 5 rfl) ?_
  refine lv_iconst (v := 3) hx hb dL_law_1249 (by decide) ?_
  refine lv_iadd hx hb dL_law_1250 ?_
  refine va_sld hx hb hX hbl hbA hw.2.2 j3 dL_law_1251 ?_
  have hw : mg_Wo D (fun q => s.heap.size ≤ q) s.heap H locs (((mg_cW g cI cZ σ1) ++ (mg_oc q cL (mg_of out f))) ++ ((mg_mW h cI cZ τ) ++ [])) := by rw [List.append_nil]; exact hw
  refine mg_kF (wl := ((mg_cW g cI cZ σ1) ++ (mg_oc q cL (mg_of out f)))) (w0 := (mg_mW h cI cZ τ)) (wr := []) (rv := some (.int y.1)) (va_runV (As := [.int (xs (x4 + 1).toNatClampNeg), .int (xs (x4 + 2).toNatClampNeg), .int (xs (x4 + 3).toNatClampNeg)]) (rest := []) G9 (k_X8_advise l D o cI cZ h H.size τ (xs (x4 + 1).toNatClampNeg) (xs (x4 + 2).toNatClampNeg) (xs (x4 + 3).toNatClampNeg) y hf2) (cwV 3 hts gL_law_X8_advise rfl rfl rfl (by decide +kernel) ⟨Nat.le_of_ble_eq_true rfl, Nat.le_of_ble_eq_true rfl⟩) (mg_preV (hK.sub (tys' := [(cI, .int), (cZ, .boolean)]) [0, 1] rfl) hO hA (mg_sub (wl := ((mg_cW g cI cZ σ1) ++ (mg_oc q cL (mg_of out f)))) (wr := []) hw) (q0 := 0) rfl rfl) rfl rfl hl.1 rfl (lv_room (Nat.le_of_ble_eq_true rfl)) dL_law_1252 ⟨(show cl + 1 + 0 ≤ room_1.cells by omega), (show sl + 6 + 0 ≤ room_1.slots by omega)⟩) hw hA (fun H locs hw => ?_)
  rw [List.append_nil] at hw
  refine lv_istore (lv' := [(6, .int y.1), (5, .int (mg_cd 1 2 9 out)), (0, .ref b), (1, .ref (g 0)), (2, .ref (h 0)), (3, .ref q), (4, .int x4)]) hx hb dL_law_1255 hl (by decide) rfl (fun ls hl => ?_)
  refine lv_aload_n hx hb dL_law_1257 rfl (lv_at hl 4 rfl) ?_
  have hw : mg_Wo D (fun q => s.heap.size ≤ q) s.heap H locs (((mg_cW g cI cZ σ1) ++ (mg_oc q cL (mg_of out f))) ++ ((mg_mW h cI cZ y.2) ++ [])) := by rw [List.append_nil]; exact hw
  refine mg_kF (wl := ((mg_cW g cI cZ σ1) ++ (mg_oc q cL (mg_of out f)))) (w0 := (mg_mW h cI cZ y.2)) (wr := []) (rv := some (.int (y.2 0 0))) (va_runV (As := []) (rest := []) G9 (k_X8_thrown l D o cI cZ h H.size y.2 (y.2 0 0) rfl) (cwV 0 hts gL_law_X8_thrown rfl rfl rfl (by decide +kernel) ⟨Nat.le_of_ble_eq_true rfl, Nat.le_of_ble_eq_true rfl⟩) (mg_preV (hK.sub (tys' := [(cI, .int), (cZ, .boolean)]) [0, 1] rfl) hO hA (mg_sub (wl := ((mg_cW g cI cZ σ1) ++ (mg_oc q cL (mg_of out f)))) (wr := []) hw) (q0 := 0) rfl rfl) rfl rfl hl.1 rfl (lv_room (Nat.le_of_ble_eq_true rfl)) dL_law_1258 ⟨(show cl + 1 + 0 + 0 ≤ room_1.cells by omega), (show sl + 6 + 0 + 0 ≤ room_1.slots by omega)⟩) hw hA (fun H locs hw => ?_)
  rw [List.append_nil] at hw
  refine lv_iload hx hb dL_law_1261 (lv_at hl 1 rfl) ?_
  refine lv_icmp_eq (tgt := 1268) hx hb dL_law_1263 (by decide) (fun _ => ?_) (fun hne => absurd hthr hne)
  refine mg_join (H2 := H) (locs2 := locs) (g2 := F0 m 1285 ls []) ?_ (fun J => ?_)
  · refine lv_goto (tgt := 1356) hx hb dL_law_1285 (by decide) ?_
    refine W.widen (k := cl + 700) (n := sl + 3500) (by omega) (by omega) ?_
    exact kk _ _ _ _ _ _ I1 hw (lv_sub hl [2, 3, 4, 5, 6] rfl)
  refine lv_iload hx hb dL_law_1268 (lv_at hl 1 rfl) ?_
  refine lv_if_ne (tgt := 1285) hx hb dL_law_1270 (by decide) (fun _ => J) (fun hz => ?_)
  cases out with
  | error k9 => exact absurd hz (by rcases mg_fin3 k9 with rfl | rfl | rfl <;> decide)
  | ok v =>
    refine lv_aload_n hx hb dL_law_1273 rfl (lv_at hl 5 rfl) ?_
    refine lv_iconst (v := 0) hx hb dL_law_1274 (by decide) ?_
    refine va_lald hx hb hK hw.1 25 2 rfl rfl (by unfold vp_in; decide) dL_law_1275 ?_
    refine lv_iload hx hb dL_law_1276 (lv_at hl 0 rfl) ?_
    refine lv_i2l hx hb dL_law_1278 rfl ?_
    refine W.lcmp hx hb dL_law_1279 ?_
    rw [hval v rfl, mg_of0, mg_lgself]
    exact lv_if_eq (tgt := 1285) hx hb dL_law_1280 (by decide) (fun _ => J) (fun h => absurd rfl h)
set_option maxHeartbeats 4000000 in
set_option maxRecDepth 100000 in
theorem lawc_finest {p : Program} {l : Launch} {e : Env} {s : State} {m : MethodId} {below : List Frame} {meth : Method} {c : Code} {Q : State → Prop} {D : va_G} {o : Nat → Nat} {cI cZ cL : ClassId} {g h : Nat → Nat} {q b L : Nat} {xs : Nat → Int32} (hst : l.stackTraces = false) (hx : p.tables.exec = Jvm.exec) (hb : c.code = cL_law) (hml : c.maxLocals = 9) (hown : s.vm.findClass RL = some m.cls) (hts : ∀ w ∈ wsL_law, w.before #[Value.ref b] s = true) (hX : va_X b L xs s s.heap) (hbl : b < s.heap.size) (hK : va_K D vwCl [(cI, .int), (cZ, .boolean), (cL, .long)] s) (hO : mg_Old o (fun q => s.heap.size ≤ q) s s.heap)
  {σ τ : mg_St} {f : Nat → Int64} {H : Heap} {locs : List Loc} {ls : Array Slot} {cl sl : Nat} (I : mg_Inv σ τ) (x4 : Int32) (j1 : vp_in (x4 + 1) L) (j2 : vp_in (x4 + 2) L) (j3 : vp_in (x4 + 3) L) (j4 : vp_in (x4 + 4) L) (hcl : cl + 700 ≤ room_1.cells) (hsl : sl + 3500 ≤ room_1.slots)
  (hw : mg_Wo D (fun q => s.heap.size ≤ q) s.heap H locs (((mg_cW g cI cZ σ) ++ (mg_oc q cL f)) ++ (mg_mW h cI cZ τ))) (hl : lv_has ls 9 [(0, .ref b), (1, .ref (g 0)), (2, .ref (h 0)), (3, .ref q), (4, .int x4)])
  (kk : ∀ (σ' τ' : mg_St) (f' : Nat → Int64) (H : Heap) (locs : List Loc) (ls : Array Slot), mg_Inv σ' τ' → mg_Wo D (fun q => s.heap.size ≤ q) s.heap H locs (((mg_cW g cI cZ (σ')) ++ (mg_oc q cL (f'))) ++ (mg_mW h cI cZ (τ'))) → lv_has ls 9 [(0, .ref b), (1, .ref (g 0)), (2, .ref (h 0)), (3, .ref q), (4, .int x4)] → W p l e room_1 s m #[Value.ref b] below meth c H locs (cl + 700) (sl + 3500) Q (F0 m 1356 ls [])) : W p l e room_1 s m #[Value.ref b] below meth c H locs cl sl Q (F0 m 1288 ls []) := by
  obtain ⟨y, z, hf1, hf2, I1, hval⟩ := sim_finest I
  have hA : ∀ q : Nat, s.heap.size ≤ q → (fun q => s.heap.size ≤ q) q := fun _ h => h
  have G9 : CallFix p m c cL_law 9 s #[Value.ref b] wsL_law RL := ⟨hx, hb, hml, hown, hts⟩
  refine lv_aload_n hx hb dL_law_1288 rfl (lv_at hl 1 rfl) ?_
  have hw : mg_Wo D (fun q => s.heap.size ≤ q) s.heap H locs ((mg_cW g cI cZ σ) ++ ((mg_oc q cL f) ++ (mg_mW h cI cZ τ))) := by rw [← List.append_assoc]; exact hw
  refine mg_kF (wl := []) (w0 := (mg_cW g cI cZ σ)) (wr := ((mg_oc q cL f) ++ (mg_mW h cI cZ τ))) (rv := some (.int y.1)) (va_runV (As := []) (rest := []) G9 (k_X6_finest l D o cI cZ g H.size σ y hf1) (cwV 0 hts gL_law_X6_finest rfl rfl rfl (by decide +kernel) ⟨Nat.le_of_ble_eq_true rfl, Nat.le_of_ble_eq_true rfl⟩) (mg_preV (hK.sub (tys' := [(cI, .int), (cZ, .boolean)]) [0, 1] rfl) hO hA (mg_sub (wl := []) hw) (q0 := 0) rfl rfl) rfl rfl hl.1 rfl (lv_room (Nat.le_of_ble_eq_true rfl)) dL_law_1289 ⟨(show cl + 0 ≤ room_1.cells by omega), (show sl + 0 ≤ room_1.slots by omega)⟩) hw hA (fun H locs hw => ?_)
  have hw : mg_Wo D (fun q => s.heap.size ≤ q) s.heap H locs (((mg_cW g cI cZ y.2) ++ (mg_oc q cL f)) ++ ((mg_mW h cI cZ τ) ++ [])) := by rw [List.append_nil, List.append_assoc]; exact hw
  refine lv_aload_n hx hb dL_law_1292 rfl (lv_at hl 2 rfl) ?_
  refine mg_kF (wl := ((mg_cW g cI cZ y.2) ++ (mg_oc q cL f))) (w0 := (mg_mW h cI cZ τ)) (wr := []) (rv := some (.int z.1)) (va_runV (As := []) (rest := [.int y.1]) G9 (k_X8_finest l D o cI cZ h H.size τ z hf2) (cwV 0 hts gL_law_X8_finest rfl rfl rfl (by decide +kernel) ⟨Nat.le_of_ble_eq_true rfl, Nat.le_of_ble_eq_true rfl⟩) (mg_preV (hK.sub (tys' := [(cI, .int), (cZ, .boolean)]) [0, 1] rfl) hO hA (mg_sub (wl := ((mg_cW g cI cZ y.2) ++ (mg_oc q cL f))) (wr := []) hw) (q0 := 0) rfl rfl) rfl rfl hl.1 rfl (lv_room (Nat.le_of_ble_eq_true rfl)) dL_law_1293 ⟨(show cl + 0 + 0 ≤ room_1.cells by omega), (show sl + 0 + 0 ≤ room_1.slots by omega)⟩) hw hA (fun H locs hw => ?_)
  rw [List.append_nil] at hw
  exact lv_icmp_eq (tgt := 1356) hx hb dL_law_1296 (by decide) (fun _ => (by refine W.widen (k := cl + 700) (n := sl + 3500) (by omega) (by omega) ?_; exact kk _ _ _ _ _ _ I1 hw hl)) (fun h => absurd hval h)
set_option maxHeartbeats 4000000 in
set_option maxRecDepth 100000 in
theorem lawc_digest {p : Program} {l : Launch} {e : Env} {s : State} {m : MethodId} {below : List Frame} {meth : Method} {c : Code} {Q : State → Prop} {D : va_G} {o : Nat → Nat} {cI cZ cL : ClassId} {g h : Nat → Nat} {q b L : Nat} {xs : Nat → Int32} (hst : l.stackTraces = false) (hx : p.tables.exec = Jvm.exec) (hb : c.code = cL_law) (hml : c.maxLocals = 9) (hown : s.vm.findClass RL = some m.cls) (hts : ∀ w ∈ wsL_law, w.before #[Value.ref b] s = true) (hX : va_X b L xs s s.heap) (hbl : b < s.heap.size) (hK : va_K D vwCl [(cI, .int), (cZ, .boolean), (cL, .long)] s) (hO : mg_Old o (fun q => s.heap.size ≤ q) s s.heap)
  {σ τ : mg_St} {f : Nat → Int64} {H : Heap} {locs : List Loc} {ls : Array Slot} {cl sl : Nat} (I : mg_Inv σ τ) (x4 : Int32) (j1 : vp_in (x4 + 1) L) (j2 : vp_in (x4 + 2) L) (j3 : vp_in (x4 + 3) L) (j4 : vp_in (x4 + 4) L) (hcl : cl + 700 ≤ room_1.cells) (hsl : sl + 3500 ≤ room_1.slots)
  (hw : mg_Wo D (fun q => s.heap.size ≤ q) s.heap H locs (((mg_cW g cI cZ σ) ++ (mg_oc q cL f)) ++ (mg_mW h cI cZ τ))) (hl : lv_has ls 9 [(0, .ref b), (1, .ref (g 0)), (2, .ref (h 0)), (3, .ref q), (4, .int x4)])
  (kk : ∀ (σ' τ' : mg_St) (f' : Nat → Int64) (H : Heap) (locs : List Loc) (ls : Array Slot), mg_Inv σ' τ' → mg_Wo D (fun q => s.heap.size ≤ q) s.heap H locs (((mg_cW g cI cZ (σ')) ++ (mg_oc q cL (f'))) ++ (mg_mW h cI cZ (τ'))) → lv_has ls 9 [(0, .ref b), (1, .ref (g 0)), (2, .ref (h 0)), (3, .ref q), (4, .int x4)] → W p l e room_1 s m #[Value.ref b] below meth c H locs (cl + 700) (sl + 3500) Q (F0 m 1356 ls [])) : W p l e room_1 s m #[Value.ref b] below meth c H locs cl sl Q (F0 m 1342 ls []) := by
  obtain ⟨y, z, hf1, hf2, I1, hval⟩ := sim_digest I
  have hA : ∀ q : Nat, s.heap.size ≤ q → (fun q => s.heap.size ≤ q) q := fun _ h => h
  have G9 : CallFix p m c cL_law 9 s #[Value.ref b] wsL_law RL := ⟨hx, hb, hml, hown, hts⟩
  refine lv_aload_n hx hb dL_law_1342 rfl (lv_at hl 1 rfl) ?_
  have hw : mg_Wo D (fun q => s.heap.size ≤ q) s.heap H locs ((mg_cW g cI cZ σ) ++ ((mg_oc q cL f) ++ (mg_mW h cI cZ τ))) := by rw [← List.append_assoc]; exact hw
  refine mg_kF (wl := []) (w0 := (mg_cW g cI cZ σ)) (wr := ((mg_oc q cL f) ++ (mg_mW h cI cZ τ))) (rv := some (.long y.1)) (va_runV (As := []) (rest := []) G9 (k_X6_digest l hst D o cI cZ g H.size σ y hf1) (cwV 0 hts gL_law_X6_digest rfl rfl rfl (by decide +kernel) ⟨Nat.le_of_ble_eq_true rfl, Nat.le_of_ble_eq_true rfl⟩) (mg_preV (hK.sub (tys' := [(cI, .int), (cZ, .boolean)]) [0, 1] rfl) hO hA (mg_sub (wl := []) hw) (q0 := 0) rfl rfl) rfl rfl hl.1 rfl (lv_room (Nat.le_of_ble_eq_true rfl)) dL_law_1343 ⟨(show cl + 0 ≤ room_1.cells by omega), (show sl + 0 ≤ room_1.slots by omega)⟩) hw hA (fun H locs hw => ?_)
  have hw : mg_Wo D (fun q => s.heap.size ≤ q) s.heap H locs (((mg_cW g cI cZ y.2) ++ (mg_oc q cL f)) ++ ((mg_mW h cI cZ τ) ++ [])) := by rw [List.append_nil, List.append_assoc]; exact hw
  refine lv_aload_n hx hb dL_law_1346 rfl (lv_at hl 2 rfl) ?_
  refine mg_kF (wl := ((mg_cW g cI cZ y.2) ++ (mg_oc q cL f))) (w0 := (mg_mW h cI cZ τ)) (wr := []) (rv := some (.long z.1)) (va_runV (As := []) (rest := [.long y.1]) G9 (k_X8_digest l D o cI cZ h H.size τ z hf2) (cwV 0 hts gL_law_X8_digest rfl rfl rfl (by decide +kernel) ⟨Nat.le_of_ble_eq_true rfl, Nat.le_of_ble_eq_true rfl⟩) (mg_preV (hK.sub (tys' := [(cI, .int), (cZ, .boolean)]) [0, 1] rfl) hO hA (mg_sub (wl := ((mg_cW g cI cZ y.2) ++ (mg_oc q cL f))) (wr := []) hw) (q0 := 0) rfl rfl) rfl rfl hl.1 rfl (lv_room (Nat.le_of_ble_eq_true rfl)) dL_law_1347 ⟨(show cl + 0 + 640 ≤ room_1.cells by omega), (show sl + 0 + 3300 ≤ room_1.slots by omega)⟩) hw hA (fun H locs hw => ?_)
  rw [List.append_nil] at hw
  refine W.lcmp hx hb dL_law_1350 ?_
  rw [hval, mg_lgself]
  exact lv_if_eq (tgt := 1356) hx hb dL_law_1351 (by decide) (fun _ => (by refine W.widen (k := cl + 700) (n := sl + 3500) (by omega) (by omega) ?_; exact kk _ _ _ _ _ _ I1 hw hl)) (fun h => absurd rfl h)
set_option maxHeartbeats 4000000 in
set_option maxRecDepth 100000 in
theorem lawc_mean {p : Program} {l : Launch} {e : Env} {s : State} {m : MethodId} {below : List Frame} {meth : Method} {c : Code} {Q : State → Prop} {D : va_G} {o : Nat → Nat} {cI cZ cL : ClassId} {g h : Nat → Nat} {q b L : Nat} {xs : Nat → Int32} (hst : l.stackTraces = false) (hx : p.tables.exec = Jvm.exec) (hb : c.code = cL_law) (hml : c.maxLocals = 9) (hown : s.vm.findClass RL = some m.cls) (hts : ∀ w ∈ wsL_law, w.before #[Value.ref b] s = true) (hX : va_X b L xs s s.heap) (hbl : b < s.heap.size) (hK : va_K D vwCl [(cI, .int), (cZ, .boolean), (cL, .long)] s) (hO : mg_Old o (fun q => s.heap.size ≤ q) s s.heap)
  {σ τ : mg_St} {f : Nat → Int64} {H : Heap} {locs : List Loc} {ls : Array Slot} {cl sl : Nat} (I : mg_Inv σ τ) (x4 : Int32) (j1 : vp_in (x4 + 1) L) (j2 : vp_in (x4 + 2) L) (j3 : vp_in (x4 + 3) L) (j4 : vp_in (x4 + 4) L) (hcl : cl + 700 ≤ room_1.cells) (hsl : sl + 3500 ≤ room_1.slots)
  (hw : mg_Wo D (fun q => s.heap.size ≤ q) s.heap H locs (((mg_cW g cI cZ σ) ++ (mg_oc q cL f)) ++ (mg_mW h cI cZ τ))) (hl : lv_has ls 9 [(0, .ref b), (1, .ref (g 0)), (2, .ref (h 0)), (3, .ref q), (4, .int x4)]) {d0 : Drawn} (hd0 : s.drawn.sameBut d0 lw_cs)
  (kk : ∀ (d1 : Drawn) (σ' τ' : mg_St) (f' : Nat → Int64) (H : Heap) (locs : List Loc) (ls : Array Slot), s.drawn.sameBut d1 lw_cs → mg_Inv σ' τ' → mg_Wo D (fun q => s.heap.size ≤ q) s.heap H locs (((mg_cW g cI cZ (σ')) ++ (mg_oc q cL (f'))) ++ (mg_mW h cI cZ (τ'))) → lv_has ls 9 [(0, .ref b), (1, .ref (g 0)), (2, .ref (h 0)), (3, .ref q), (4, .int x4)] → W p l e room_1 (s.setDrawn d1) m #[Value.ref b] below meth c H locs (cl + 700) (sl + 3500) Q (F0 m 1356 ls [])) : W p l e room_1 (s.setDrawn d0) m #[Value.ref b] below meth c H locs cl sl Q (F0 m 1301 ls []) := by
  obtain ⟨y, z, hf1, hf2, I1, hval⟩ := sim_mean I
  have hA : ∀ q : Nat, s.heap.size ≤ q → (fun q => s.heap.size ≤ q) q := fun _ h => h
  refine lv_aload_n hx hb dL_law_1301 rfl (lv_at hl 1 rfl) ?_
  have hw : mg_Wo D (fun q => s.heap.size ≤ q) s.heap H locs ([] ++ ((mg_cW g cI cZ σ) ++ ((mg_oc q cL f) ++ (mg_mW h cI cZ τ)))) := by rw [List.nil_append, ← List.append_assoc]; exact hw
  refine mg_kD hd0 (wl := []) (w0 := (mg_cW g cI cZ σ)) (wr := ((mg_oc q cL f) ++ (mg_mW h cI cZ τ))) (va_runV_D (As := []) (rest := []) ⟨hx, hb, hml, hown, dr_words hts _⟩ (k_X6_mean l D o cI cZ g H.size σ y hf1) (cwV 0 (dr_words hts _) gL_law_X6_mean rfl rfl rfl (by decide +kernel) ⟨Nat.le_of_ble_eq_true rfl, Nat.le_of_ble_eq_true rfl⟩) (mg_preV (s := s.setDrawn _) (hK.sub (tys' := [(cI, .int), (cZ, .boolean)]) [0, 1] rfl) hO hA (mg_sub (wl := []) (wr := ((mg_oc q cL f) ++ (mg_mW h cI cZ τ))) hw) (q0 := 0) rfl rfl) rfl rfl hl.1 rfl (lv_room (Nat.le_of_ble_eq_true rfl)) dL_law_1302 ⟨(show cl + 0 ≤ room_1.cells by omega), (show sl + 0 ≤ room_1.slots by omega)⟩) hw hA (fun rX6 dX6 alX6 hdX6 H locs hw => ?_)
  have hw : mg_Wo D (fun q => s.heap.size ≤ q) s.heap H locs (((mg_cW g cI cZ y.2) ++ (mg_oc q cL f)) ++ ((mg_mW h cI cZ τ) ++ [])) := by rw [List.append_nil, List.append_assoc]; exact hw
  refine lv_dstore (lv' := [(5, .double rX6), (0, .ref b), (1, .ref (g 0)), (2, .ref (h 0)), (3, .ref q), (4, .int x4)]) hx hb dL_law_1305 hl (by decide) rfl (fun ls hl => ?_)
  refine lv_aload_n hx hb dL_law_1307 rfl (lv_at hl 3 rfl) ?_
  refine mg_kD hdX6 (wl := ((mg_cW g cI cZ y.2) ++ (mg_oc q cL f))) (w0 := (mg_mW h cI cZ τ)) (wr := []) (va_runV_D (As := []) (rest := []) ⟨hx, hb, hml, hown, dr_words hts _⟩ (k_X8_mean l D o cI cZ h H.size τ z hf2) (cwV 0 (dr_words hts _) gL_law_X8_mean rfl rfl rfl (by decide +kernel) ⟨Nat.le_of_ble_eq_true rfl, Nat.le_of_ble_eq_true rfl⟩) (mg_preV (s := s.setDrawn _) (hK.sub (tys' := [(cI, .int), (cZ, .boolean)]) [0, 1] rfl) hO hA (mg_sub (wl := ((mg_cW g cI cZ y.2) ++ (mg_oc q cL f))) (wr := []) hw) (q0 := 0) rfl rfl) rfl rfl hl.1 rfl (lv_room (Nat.le_of_ble_eq_true rfl)) dL_law_1308 ⟨(show cl + 0 + 0 ≤ room_1.cells by omega), (show sl + 0 + 0 ≤ room_1.slots by omega)⟩) hw hA (fun rX8 dX8 alX8 hdX8 H locs hw => ?_)
  rw [List.append_nil] at hw
  refine lv_dstore (lv' := [(7, .double rX8), (5, .double rX6), (0, .ref b), (1, .ref (g 0)), (2, .ref (h 0)), (3, .ref q), (4, .int x4)]) hx hb dL_law_1311 hl (by decide) rfl (fun ls hl => ?_)
  refine mg_join (H2 := H) (locs2 := locs) (g2 := F0 m 1339 ls []) ?_ (fun J => ?_)
  · refine lv_goto (tgt := 1356) hx hb dL_law_1339 (by decide) ?_
    refine W.widen (k := cl + 700) (n := sl + 3500) (by omega) (by omega) ?_
    exact kk _ _ _ _ _ _ _ hdX8 I1 hw (lv_sub hl [2, 3, 4, 5, 6] rfl)
  refine lv_dload hx hb dL_law_1313 (lv_at hl 1 rfl) ?_
  refine lv_dload hx hb dL_law_1315 (lv_at hl 0 rfl) ?_
  refine lv_dcmp hx hb dL_law_1317 ?_
  rcases mg_alike2 (hval ▸ alX6) alX8 with he | ⟨hn1, hn2⟩
  · subst he
    by_cases hz : Op.cmpValue (FP.dcmp rX8 rX8) CmpOp.l = 0
    · exact lv_if_eq (tgt := 1339) hx hb dL_law_1318 (by decide) (fun _ => J) (fun h => absurd hz h)
    · refine lv_if_eq (tgt := 1339) hx hb dL_law_1318 (by decide) (fun h => absurd h hz) (fun _ => ?_)
      refine lv_dload hx hb dL_law_1321 (lv_at hl 1 rfl) ?_
      refine lv_dload hx hb dL_law_1323 (lv_at hl 1 rfl) ?_
      refine lv_dcmp hx hb dL_law_1325 ?_
      refine lv_if_eq (tgt := 1337) hx hb dL_law_1326 (by decide) (fun h => absurd h hz) (fun _ => ?_)
      refine lv_dload hx hb dL_law_1329 (lv_at hl 0 rfl) ?_
      refine lv_dload hx hb dL_law_1331 (lv_at hl 0 rfl) ?_
      refine lv_dcmp hx hb dL_law_1333 ?_
      exact lv_if_ne (tgt := 1339) hx hb dL_law_1334 (by decide) (fun _ => J) (fun h => absurd h hz)
  · have c0 := mg_nancmp rX6 rX8 (Or.inl hn1)
    have c1 := mg_nancmp rX6 rX6 (Or.inl hn1)
    have c2 := mg_nancmp rX8 rX8 (Or.inl hn2)
    refine lv_if_eq (tgt := 1339) hx hb dL_law_1318 (by decide) (fun h => absurd h c0) (fun _ => ?_)
    refine lv_dload hx hb dL_law_1321 (lv_at hl 1 rfl) ?_
    refine lv_dload hx hb dL_law_1323 (lv_at hl 1 rfl) ?_
    refine lv_dcmp hx hb dL_law_1325 ?_
    refine lv_if_eq (tgt := 1337) hx hb dL_law_1326 (by decide) (fun h => absurd h c1) (fun _ => ?_)
    refine lv_dload hx hb dL_law_1329 (lv_at hl 0 rfl) ?_
    refine lv_dload hx hb dL_law_1331 (lv_at hl 0 rfl) ?_
    refine lv_dcmp hx hb dL_law_1333 ?_
    exact lv_if_ne (tgt := 1339) hx hb dL_law_1334 (by decide) (fun _ => J) (fun h => absurd h c2)
