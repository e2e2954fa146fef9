/-! ===== what the law's helpers make of an answer ===== -/
def mg_of (out : Except (Fin 3) Int32) (f : Nat → Int64) : Nat → Int64 := match out with
  | .ok v => vp_updL f 0 v.toInt64
  | .error _ => f
/-- the cell that the law's helpers write their answer into -/
abbrev mg_oc (q : Nat) (cL : ClassId) (f : Nat → Int64) : va_W := [(q, .inl (cL, 1, .inr (.inl f)))]
def mg_cd (a b c : Int32) (out : Except (Fin 3) Int32) : Int32 := match out with
  | .ok _ => 0
  | .error k => if k = 0 then a else if k = 1 then b else c
theorem mg_fin3 (k : Fin 3) : k = 0 ∨ k = 1 ∨ k = 2 := by revert k; decide
theorem mg_ofX {l : Launch} {y : MethodName} {ws : List Cond} {rm : Room} {Pc : Array Value → State → Prop} {Qc : Array Value → State → Outcome → State → Prop} {mc ms : Nat} {free : Addr → Prop} (h : vx_Met l y ws rm Pc Qc (fun _ _ _ => False) mc ms free) : Met l y ws rm Pc Qc mc ms free := by
  intro p e ha hc hk s m args below hf happ hP hK
  obtain ⟨n, o, h1, h2, h3, h4⟩ := h p e ha hc hk s m args below hf happ hP hK
  refine ⟨n, o, h1, h2, h3, ?_⟩
  rcases h4 with h4 | ⟨q, -, E, ce, L, hx, -⟩
  · exact h4
  · exact hx.elim
section MGF
variable {p : Program} {l : Launch} {e : Env} {R : Room} {s : State} {m : MethodId} {args : Array Value} {below : List Frame} {meth : Method} {c : Code} {H : Heap} {locs : List Loc} {cells slots : Nat} {Q : State → Prop}
variable {pc : Nat} {ls : Array Slot} {rest : List Value} {D : va_G} {A : Nat → Prop} {w0 w1 : va_W}
theorem mg_kxF {mc ms : Nat} {wl wr : va_W} {out : Except (Fin 3) (Option Value)} {st0 : List Value} {a : Array Value} (hr : vx_Run p l e R s m args below meth c H locs cells slots mc ms (F0 m pc ls st0) rest (mg_QX D w1 (va_A w0 H.size) out a) (mg_XC D w1 (va_A w0 H.size) out) (va_A w0 H.size)) (hw : mg_Wo D A s.heap H locs (wl ++ (w0 ++ wr))) (hA : ∀ q, s.heap.size ≤ q → A q)
    (kx : ∀ k, out = .error k → ∀ (H1 : Heap) (locs1 : List Loc) (q9 : Addr) (ce : Cell), mg_Wo D A s.heap H1 locs1 (wl ++ (w1 ++ wr)) → H1[q9]? = some ce → ce.vm = .none → s.vm.findClass (mg_xn k) = some ce.cls → vx_W p l e R s m args below meth c H1 locs1 (cells + mc) (slots + ms) Q (F0 m pc ls rest) q9)
    (kk : ∀ rv, out = .ok rv → ∀ (H1 : Heap) (locs1 : List Loc), mg_Wo D A s.heap H1 locs1 (wl ++ (w1 ++ wr)) → W p l e R s m args below meth c H1 locs1 (cells + mc) (slots + ms) Q (F0 m (pc + 3) ls (rv.toList ++ rest))) : W p l e R s m args below meth c H locs cells slots Q (F0 m pc ls st0) := by
  intro T hT X
  have hF := mg_free (mg_sub hw) hA
  rcases hr T hT X with ⟨v, st₀, t, T', L, h0, X', hL, e1, e2, ⟨⟨rv, ho, hv, hp, hd⟩, hf⟩, st⟩ | ⟨q, st₀, t, T', L, E, ce, h0, X', hL, e1, e2, ⟨⟨k, ho, hE, hp, hd⟩, hf⟩, hce, hcv, hcl, st⟩
  · cases hv
    obtain ⟨-, k2, k3⟩ := vx_keep h0 e1 hw.2.2 (fun q _ h => hF q h) hF hL hf
    obtain ⟨g1, g2⟩ := mg_frame hw.1 hw.2.1 k2 (by rw [e1]; exact hp) hd hF
    obtain ⟨t2, a1, b1⟩ := kk v ho T'.heap (locs ++ L) ⟨g1, g2, k3⟩ T' rfl X'
    exact ⟨t2, st t2 a1, b1⟩
  · subst hE
    obtain ⟨-, k2, k3⟩ := vx_keep h0 e1 hw.2.2 (fun q _ h => hF q h) hF hL hf
    obtain ⟨g1, g2⟩ := mg_frame hw.1 hw.2.1 k2 (by rw [e1]; exact hp) hd hF
    obtain ⟨t2, a1, b1⟩ := kx k ho T'.heap (locs ++ L) q ce ⟨g1, g2, k3⟩ (by rw [e1]; exact hce) hcv hcl T' rfl X'
    exact ⟨t2, st.trans a1, b1⟩
/-- a mean in a part of the world: it may draw -/
theorem mg_kD {mc ms : Nat} {v : UInt64} {d0 : Drawn} {wl wr : va_W} {st0 : List Value} {a : Array Value} (hd0 : s.drawn.sameBut d0 lw_cs) (hr : va_RunD lw_cs p l e R (s.setDrawn d0) m args below meth c H locs cells slots mc ms (F0 m pc ls st0) rest (mg_QD D w1 (va_A w0 H.size) v a) (va_A w0 H.size)) (hw : mg_Wo D A s.heap H locs (wl ++ (w0 ++ wr))) (hA : ∀ q, s.heap.size ≤ q → A q)
    (kk : ∀ (r : UInt64) (d1 : Drawn), alike64 r v = true → s.drawn.sameBut d1 lw_cs → ∀ (H1 : Heap) (locs1 : List Loc), mg_Wo D A s.heap H1 locs1 (wl ++ (w1 ++ wr)) → W p l e R (s.setDrawn d1) m args below meth c H1 locs1 (cells + mc) (slots + ms) Q (F0 m (pc + 3) ls (.double r :: rest))) : W p l e R (s.setDrawn d0) m args below meth c H locs cells slots Q (F0 m pc ls st0) := by
  intro T hT X
  have hF := mg_free (mg_sub hw) hA
  obtain ⟨v', st₀, t, T', L, d', hd', h0, X', hL, e1, e2, ⟨⟨r, hal, hv, hp, hd⟩, hf⟩, st⟩ := hr T hT X
  cases hv
  obtain ⟨-, k2, k3⟩ := vx_keep h0 e1 hw.2.2 (fun q _ h => hF q h) hF hL hf
  obtain ⟨g1, g2⟩ := mg_frame hw.1 hw.2.1 k2 (by rw [e1]; exact hp) hd hF
  obtain ⟨t2, a1, b1⟩ := kk r d' hal (hd0.trans hd') T'.heap (locs ++ L) ⟨g1, g2, k3⟩ T' rfl X'
  exact ⟨t2, st t2 a1, b1⟩
end MGF
