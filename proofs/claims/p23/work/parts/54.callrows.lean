def mg_Hds : Prop := ∀ x y v : UInt64, isNaN64 v = false → alike64 x v = true → alike64 y v = true → Op.cmpValue (FP.dcmp x y) CmpOp.l = 0
section MV3
variable {p : Program} {l : Launch} {e : Env} {R : Room} {s : State} {m : MethodId} {args : Array Value} {below : List Frame} {meth : Method} {c : Code} {H : Heap} {locs : List Loc} {cells slots : Nat} {Q : State → Prop}
variable {cc : ByteArray} {pc : Nat} {ls : Array Slot} {rest : List Value} {D : va_G} {A : Nat → Prop} {L L0 L1 Lr : mg_V} {o : Nat → Nat} {F : mg_F} {g : Nat → Nat} {cI cZ : ClassId} {σ : mg_St} {α : Type} {res : α}
theorem mg_preVV (hK : va_K D vwCl (mg_Ty o) s) (hO : mg_Old o A s s.heap) (hA : ∀ q, s.heap.size ≤ q → A q) (hw : mg_Vo D A s.heap H locs L0) (k : Nat) (hk : L0[k]? = some F) {t j b ci N : Nat} {C : String} {T : u_T} {fs : List Value} (hF : F t j = some (b, .inr (ci, fs))) (hc : vwCl[ci]? = some (C, T, N)) {As : List Value} : PreV s H C b (va_Pc (.ref b :: As) (mg_PreV D o L0 H.size)) As :=
  ⟨mg_blindV, mg_recvV hK hw k hk hF hc, (mg_preVv hK hO hA hw).2⟩
theorem mg_preVX {b Ln : Nat} {xs : Nat → Int32} (hK : va_K D vwCl (mg_Ty o) s) (hO : mg_Old o A s s.heap) (hA : ∀ q, s.heap.size ≤ q → A q) (hw : mg_Vo D A s.heap H locs L0) (hX : va_X b Ln xs s s.heap) (hbl : b < s.heap.size) (hbA : ¬ A b) {av : List Value} : FrameBlind (va_Pc av (mg_PreX D o L0 H.size b Ln xs)) ∧ ∀ U : State, U.heap = H → s.WarmedH U.vm → va_Pc av (mg_PreX D o L0 H.size b Ln xs) av.toArray U := by
  have hall : (List.range L0.length).map (fun i => L0[i]?) = L0.map some := by
    apply List.ext_getElem?
    intro i
    rw [List.getElem?_map, List.getElem?_map]
    by_cases h : i < L0.length
    · rw [List.getElem?_range h]; simp [h]
    · rw [List.getElem?_eq_none (by rw [List.length_range]; omega), List.getElem?_eq_none (by omega)]; rfl
  refine ⟨fun a U gg mk q => ⟨q.1, (mg_blindV (av := av) a U gg mk ⟨q.1, q.2.1⟩).2, ?_, q.2.2.2.1, q.2.2.2.2⟩, fun U hU hW => ⟨rfl, ((mg_preVv hK hO hA hw (av := av)).2 U hU hW).2, ?_, ?_, fun h => hbA (mg_VA_of hw hA _ hall b h)⟩⟩
  · exact va_X.moved (u := U) (U := U.calling gg mk a) (Vm.Alike.refl U.vm) q.2.2.1
  · rw [hU]
    exact (hX.kept (hw.2.2.2.1 b hbl hbA)).moved hW.alike
  · rw [hU]
    exact Nat.lt_of_lt_of_le hbl hw.2.2.1
/-- the script -/
theorem mg_sldx (hx : p.tables.exec = Jvm.exec) (hb : c.code = cc) {b Ln : Nat} {xs : Nat → Int32} (hX : va_X b Ln xs s s.heap) (hbl : b < s.heap.size) (hbA : ¬ A b) (hS : va_S A s.heap H locs) {i : Int32} {K : Int32 → Option α} (h : (mg_rt xs Ln i).bind K = some res) (hdg : decode cc pc = .ok (.iaload, 1))
    (kk : ∀ v, K v = some res → W p l e R s m args below meth c H locs cells slots Q (F0 m (pc + 1) ls (.int v :: rest))) : W p l e R s m args below meth c H locs cells slots Q (F0 m pc ls (.int i :: .ref b :: rest)) := by
  unfold mg_rt at h
  by_cases hi : i < 0 ∨ Ln ≤ i.toNatClampNeg
  · rw [if_pos hi] at h; cases h
  · rw [if_neg hi] at h
    exact va_sld hx hb hX hbl hbA hS hi hdg (kk _ h)
/-- a call of the class where nothing may be thrown -/
theorem mg_vxq {V V2 : Type} {st0 : List Value} {a : Array Value} {f : Option (Except (Fin 3) V × mg_St)} {K : V → mg_St → Option V2} {out : V2} (h : mg_xq f K = some out) (rvf : V → Option Value)
    (C : ∀ (mc ms : Nat) (out1 : Except (Fin 3) V) (σ1 : mg_St), (∀ k, out1 = .error k → 1 ≤ mc ∧ 6 ≤ ms) → f = some (out1, σ1) → cells + mc ≤ R.cells → slots + ms ≤ R.slots → vx_Run p l e R s m args below meth c H locs cells slots mc ms (F0 m pc ls st0) rest (mg_QX D (mg_cW g cI cZ σ1) (va_A (mg_cW g cI cZ σ) H.size) (out1.map rvf) a) (mg_XC D (mg_cW g cI cZ σ1) (va_A (mg_cW g cI cZ σ) H.size) (out1.map rvf)) (va_A (mg_cW g cI cZ σ) H.size))
    (hw : mg_Vo D A s.heap H locs L) (hA : ∀ q, s.heap.size ≤ q → A q) (k : Nat) (isR : List Nat) (hC9 : [k].map (fun i => L[i]?) = ([mg_fC g cI cZ σ] : mg_V).map some) (hR : isR.map (fun i => L[i]?) = Lr.map some) (hn : va_nd isR = true) (hdis : ∀ i ∈ isR, i ∉ [k]) (hC : cells ≤ R.cells) (hS : slots ≤ R.slots)
    (kk : ∀ v σ1, K v σ1 = some out → ∀ (H1 : Heap) (locs1 : List Loc), mg_Vo D A s.heap H1 locs1 (Lr ++ [mg_fC g cI cZ σ1]) → W p l e R s m args below meth c H1 locs1 cells slots Q (F0 m (pc + 3) ls ((rvf v).toList ++ rest))) :
    W p l e R s m args below meth c H locs cells slots Q (F0 m pc ls st0) := by
  unfold mg_xq at h
  split at h
  · rename_i v σ1
    exact mg_callX (C 0 0 _ _ (fun _ hk => by cases hk) rfl hC hS) hw hA k isR hC9 hR hn hdis (fun k2 hk => by cases hk) (fun rv hrv H1 locs1 hw1 => by
      cases hrv
      exact kk v _ h H1 locs1 hw1)
  · cases h
/-- .. where a refusal of the state is caught -/
theorem mg_vxc {V2 : Type} {st0 : List Value} {a : Array Value} {f : Option (Except (Fin 3) Int32 × mg_St)} {K : Int32 → mg_St → Option V2} {out : V2} (h : mg_xc f K = some out) (rvf : Int32 → Option Value)
    (C : ∀ (mc ms : Nat) (out1 : Except (Fin 3) Int32) (σ1 : mg_St), (∀ k, out1 = .error k → 1 ≤ mc ∧ 6 ≤ ms) → f = some (out1, σ1) → cells + mc ≤ R.cells → slots + ms ≤ R.slots → vx_Run p l e R s m args below meth c H locs cells slots mc ms (F0 m pc ls st0) rest (mg_QX D (mg_cW g cI cZ σ1) (va_A (mg_cW g cI cZ σ) H.size) (out1.map rvf) a) (mg_XC D (mg_cW g cI cZ σ1) (va_A (mg_cW g cI cZ σ) H.size) (out1.map rvf)) (va_A (mg_cW g cI cZ σ) H.size))
    (hw : mg_Vo D A s.heap H locs L) (hA : ∀ q, s.heap.size ≤ q → A q) (k : Nat) (isR : List Nat) (hC9 : [k].map (fun i => L[i]?) = ([mg_fC g cI cZ σ] : mg_V).map some) (hR : isR.map (fun i => L[i]?) = Lr.map some) (hn : va_nd isR = true) (hdis : ∀ i ∈ isR, i ∉ [k]) (hC : cells + 1 ≤ R.cells) (hS : slots + 6 ≤ R.slots)
    (kk : ∀ v σ1, K v σ1 = some out → ∀ (H1 : Heap) (locs1 : List Loc), mg_Vo D A s.heap H1 locs1 (Lr ++ [mg_fC g cI cZ σ1]) → W p l e R s m args below meth c H1 locs1 (cells + 1) (slots + 6) Q (F0 m (pc + 3) ls ((rvf v).toList ++ rest)))
    (kx : ∀ σ1, K (-1) σ1 = some out → ∀ (H1 : Heap) (locs1 : List Loc) (q9 : Addr) (ce : Cell), mg_Vo D A s.heap H1 locs1 (Lr ++ [mg_fC g cI cZ σ1]) → H1[q9]? = some ce → ce.vm = .none → s.vm.findClass (mg_xn 2) = some ce.cls → vx_W p l e R s m args below meth c H1 locs1 (cells + 1) (slots + 6) Q (F0 m pc ls rest) q9) :
    W p l e R s m args below meth c H locs cells slots Q (F0 m pc ls st0) := by
  unfold mg_xc at h
  split at h
  · cases h
  · rename_i v σ1
    exact mg_callX (C 1 6 _ _ (fun _ _ => ⟨Nat.le_refl _, Nat.le_refl _⟩) rfl hC hS) hw hA k isR hC9 hR hn hdis (fun k2 hk => by cases hk) (fun rv hrv H1 locs1 hw1 => by
      cases hrv
      exact kk v _ h H1 locs1 hw1)
  · rename_i k9 σ1
    split at h
    · rename_i hk9
      subst hk9
      exact mg_callX (C 1 6 _ _ (fun _ _ => ⟨Nat.le_refl _, Nat.le_refl _⟩) rfl hC hS) hw hA k isR hC9 hR hn hdis (fun k2 hk H1 locs1 q9 ce hw1 a1 a2 a3 => by
        cases hk
        exact kx _ h H1 locs1 q9 ce hw1 a1 a2 a3) (fun rv hrv => by cases hrv)
    · cases h
/-- a mean: it may draw -/
theorem mg_callCD {mc ms : Nat} {v : UInt64} {d0 : Drawn} {σ1 : mg_St} {st0 : List Value} {a : Array Value} (hd0 : s.drawn.sameBut d0 lw_cs) (hr : va_RunD lw_cs p l e R (s.setDrawn d0) m args below meth c H locs cells slots mc ms (F0 m pc ls st0) rest (mg_QD D (mg_cW g cI cZ σ1) (va_A (mg_cW g cI cZ σ) H.size) v a) (va_A (mg_cW g cI cZ σ) H.size)) (hw : mg_Vo D A s.heap H locs L) (hA : ∀ q, s.heap.size ≤ q → A q)
    (k : Nat) (isR : List Nat) (hC : [k].map (fun i => L[i]?) = ([mg_fC g cI cZ σ] : mg_V).map some) (hR : isR.map (fun i => L[i]?) = Lr.map some) (hn : va_nd isR = true) (hdis : ∀ i ∈ isR, i ∉ [k])
    (kk : ∀ (r : UInt64) (d1 : Drawn), alike64 r v = true → s.drawn.sameBut d1 lw_cs → ∀ (H1 : Heap) (locs1 : List Loc), mg_Vo D A s.heap H1 locs1 (Lr ++ [mg_fC g cI cZ σ1]) → W p l e R (s.setDrawn d1) m args below meth c H1 locs1 (cells + mc) (slots + ms) Q (F0 m (pc + 3) ls (.double r :: rest))) : W p l e R (s.setDrawn d0) m args below meth c H locs cells slots Q (F0 m pc ls st0) := by
  intro T hT X
  have hF := mg_VA_of hw hA [k] hC
  have hF' : ∀ q, va_A (mg_cW g cI cZ σ) H.size q → A q := fun q h => hF q (mg_VA_C.mp h)
  obtain ⟨v', st₀, t, T', L9, d', hd', h0, X', hL, e1, e2, ⟨⟨r, hal, hv, hp, hd⟩, hf⟩, st⟩ := hr T hT X
  cases hv
  obtain ⟨-, k2, k3⟩ := vx_keep h0 e1 hw.2.2 (fun q _ h => hF' q h) hF' hL hf
  obtain ⟨c1, c2⟩ := mg_list_C hp hd
  obtain ⟨g1, g2⟩ := mg_Vjoin hw.1 hw.2.1 [k] isR hC hR hn hdis (fun q h1 h2 => k2 q h1 (fun h => h2 (mg_VA_C.mp h))) hF (by rw [e1]; exact c1) (c2.weaken (fun q h => mg_VA_C.mp h))
  obtain ⟨t2, a1, b1⟩ := kk r d' hal (hd0.trans hd') T'.heap (locs ++ L9) ⟨g1, g2, k3⟩ T' rfl X'
  exact ⟨t2, st t2 a1, b1⟩
/-- a method of the law's that may draw -/
theorem mg_callVD {mc ms : Nat} {d0 : Drawn} {rv : (Nat → Nat → Nat) → Option Value} {W1 : (Nat → Nat → Nat) → mg_V} {st0 : List Value} {a : Array Value} (hd0 : s.drawn.sameBut d0 lw_cs) (hr : va_RunD lw_cs p l e R (s.setDrawn d0) m args below meth c H locs cells slots mc ms (F0 m pc ls st0) rest (mg_QV D W1 (mg_VA L0 H.size) rv a) (mg_VA L0 H.size)) (hw : mg_Vo D A s.heap H locs L) (hA : ∀ q, s.heap.size ≤ q → A q)
    (isC isR : List Nat) (hC : isC.map (fun i => L[i]?) = L0.map some) (hR : isR.map (fun i => L[i]?) = Lr.map some) (hn : va_nd isR = true) (hdis : ∀ i ∈ isR, i ∉ isC)
    (kk : ∀ (β : Nat → Nat → Nat) (d1 : Drawn), s.drawn.sameBut d1 lw_cs → ∀ (H1 : Heap) (locs1 : List Loc), mg_Vo D A s.heap H1 locs1 (Lr ++ W1 β) → W p l e R (s.setDrawn d1) m args below meth c H1 locs1 (cells + mc) (slots + ms) Q (F0 m (pc + 3) ls ((rv β).toList ++ rest))) : W p l e R (s.setDrawn d0) m args below meth c H locs cells slots Q (F0 m pc ls st0) := by
  intro T hT X
  have hF := mg_VA_of hw hA isC hC
  obtain ⟨v', st₀, t, T', L9, d', hd', h0, X', hL, e1, e2, ⟨⟨β, hv, hp, hd⟩, hf⟩, st⟩ := hr T hT X
  cases hv
  obtain ⟨-, k2, k3⟩ := vx_keep h0 e1 hw.2.2 (fun q _ h => hF q h) hF hL hf
  obtain ⟨g1, g2⟩ := mg_Vjoin hw.1 hw.2.1 isC isR hC hR hn hdis k2 hF (by rw [e1]; exact hp) hd
  obtain ⟨t2, a1, b1⟩ := kk β d' (hd0.trans hd') T'.heap (locs ++ L9) ⟨g1, g2, k3⟩ T' rfl X'
  exact ⟨t2, st t2 a1, b1⟩
theorem mg_eZV {W1 : (Nat → Nat → Nat) → mg_V} {rv : (Nat → Nat → Nat) → Option Value} {mc ms : Nat} {v : Int32} (β : Nat → Nat → Nat) (hv : rv β = some (.int v)) (hnr : narrow .boolean (.int v) = .int v) (hx : p.tables.exec = Jvm.exec) (hb : c.code = cc) (hr : meth.sig.returnType = some .boolean) (hlocks : meth.locks = false) (hw : mg_Vo D A s.heap H locs (W1 β)) (hc : cells ≤ mc) (hs : slots ≤ ms) (hdg : decode cc pc = .ok (.ireturn, 1)) : W p l e R s m args below meth c H locs cells slots (MQ below (mg_QV D W1 A rv) args s mc ms A) (F0 m pc ls [.int v]) :=
  W.widen hc hs (W.zret hx hb hr hnr (fun t ht _ => ⟨⟨β, by rw [hv], by rw [ht]; exact hw.1, hw.2.1⟩, hw.2.2.F ht⟩) hw.2.2.2.2 hdg hlocks)
theorem mg_eZD {mc ms : Nat} {v : Int32} {d1 : Drawn} (hd1 : s.drawn.sameBut d1 lw_cs) (hnr : narrow .boolean (.int v) = .int v) (hx : p.tables.exec = Jvm.exec) (hb : c.code = cc) (hr : meth.sig.returnType = some .boolean) (hlocks : meth.locks = false) (hw : mg_Vo D A s.heap H locs L) (hc : cells ≤ mc) (hs : slots ≤ ms) (hdg : decode cc pc = .ok (.ireturn, 1)) : W p l e R (s.setDrawn d1) m args below meth c H locs cells slots (MQD lw_cs below (mg_QV D (fun _ => []) A (fun _ => some (.int v))) args s mc ms A) (F0 m pc ls [.int v]) :=
  W.endD hd1 (W.widen hc hs (W.zret hx hb hr hnr (fun t ht _ => ⟨⟨fun _ _ => 0, rfl, fun k F t j q h => by simp at h, fun k k' F F' t j t' j' q q' h => by simp at h, fun k F t j q h => by simp at h⟩, hw.2.2.F ht⟩) hw.2.2.2.2 hdg hlocks))
end MV3
