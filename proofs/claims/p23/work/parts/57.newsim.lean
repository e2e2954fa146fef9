theorem goodIn_up {a b X : List Cond} (h : GoodIn a X) : GoodIn (a ++ b) X := fun w hw => ⟨List.mem_append_left _ (h w hw).1, (h w hw).2⟩
theorem goodIn_ext {a b X : List Cond} (h : GoodIn a X) (hb : GoodIn b b) : GoodIn (a ++ b) (X ++ b) := fun w hw => (List.mem_append.mp hw).elim (fun g => goodIn_up h w g) (fun g => ⟨List.mem_append_right _ (hb w g).1, (hb w g).2⟩)
abbrev mg_w13 : List Cond := [.classLink RX7 13 "[[[I"]
theorem mg_g13 : GoodIn mg_w13 mg_w13 := goodIn_of _ (by decide +kernel)
def wsL_buildA : List Cond := wsL_build ++ mg_w13
def wsL_lawA : List Cond := wsL_law ++ mg_w13
theorem wsL_lawA_in : ∀ w ∈ wsL_lawA, w ∈ lw_tbl := fun w h => (List.mem_append.mp h).elim (fun h => wsL_law_in w h) (fun h => by rw [List.mem_singleton.mp h]; decide +kernel)
theorem gA_build_init : GoodIn wsL_buildA wsX7_initA := goodIn_ext gL_build_X7_init_n81 mg_g13
theorem gA_law_build : GoodIn wsL_lawA (va_wsS RL 98 yL_build wsL_buildA) := goodIn_ext gL_law_L_build mg_g13
theorem mg_nd_of : ∀ (l : List Nat), l.Nodup → va_nd l = true
  | [], _ => rfl
  | a :: l, h => by
    rw [List.nodup_cons] at h
    simp [va_nd, h.1, mg_nd_of l h.2]
theorem mg_ndr (n : Nat) : va_nd (List.range n) = true := mg_nd_of _ List.nodup_range
section MNS
variable {p : Program} {l : Launch} {e : Env} {R : Room} {s : State} {m : MethodId} {args : Array Value} {below : List Frame} {meth : Method} {c : Code} {H : Heap} {locs : List Loc} {cells slots : Nat} {Q : State → Prop}
variable {cc : ByteArray} {pc : Nat} {ls : Array Slot} {rest : List Value} {D : va_G} {A : Nat → Prop} {L : mg_V} {o : Nat → Nat}
theorem mg_eVV {L1 : (Nat → Nat → Nat) → mg_V} {rv : (Nat → Nat → Nat) → Option Value} {mc ms : Nat} (β : Nat → Nat → Nat) (hv : rv β = none) (hx : p.tables.exec = Jvm.exec) (hb : c.code = cc) (hr : meth.sig.returnType = none) (hlocks : meth.locks = false) (hw : mg_Vo D A s.heap H locs (L1 β)) (hc : cells ≤ mc) (hs : slots ≤ ms) (hdg : decode cc pc = .ok (.return_, 1)) : W p l e R s m args below meth c H locs cells slots (MQ below (mg_QV D L1 A rv) args s mc ms A) (F0 m pc ls []) :=
  W.widen hc hs (W.vret hx hb hr (fun t ht _ => ⟨⟨β, by rw [hv], by rw [ht]; exact hw.1, hw.2.1⟩, hw.2.2.F ht⟩) hw.2.2.2.2 hdg hlocks)
/-- a new object -/
theorem mg_vnewO {own C : String} {T : u_T} {N ci index : Nat} {Ts : List Cond} (hx : p.tables.exec = Jvm.exec) (hb : c.code = cc) (hts : ∀ w ∈ Ts, w.before args s = true) (hin : ∀ w ∈ u_ws C T N, w ∈ Ts) (ty : Nat → FieldType) (hty : ∀ k, k < N → parseFieldDescriptor (T k).2.2.1 = some (ty k)) (hown : s.vm.findClass own = some m.cls) (hcl : (Cond.classLink own index C).before args s = true) (hinst : (Cond.instantiable C N).before args s = true) (hini : (Cond.initialized C).before args s = true)
    {tys : List (ClassId × FieldType)} (hK : va_K D vwCl tys s) (hw : mg_Vo D A s.heap H locs L) (hA : ∀ q, s.heap.size ≤ q → A q) (hc : vwCl[ci]? = some (C, T, N)) {fs : List Value} (hfs : ∀ j, j < N → defaultValue (ty j) = vp_V fs j) (hcells : cells + 1 ≤ R.cells) (hslots : slots + N ≤ R.slots) (hdg : decode cc pc = .ok (.new index, 3))
    (kk : ∀ (q : Nat) (H1 : Heap), mg_Vo D A s.heap H1 locs (L ++ [mg_fO q ci fs]) → W p l e R s m args below meth c H1 locs (cells + 1) (slots + N) Q (F0 m (pc + 3) ls (.ref q :: rest))) : W p l e R s m args below meth c H locs cells slots Q (F0 m pc ls rest) := by
  have hKn := hK.1 ci _ hc
  refine W.newcK hx hb hown hcl hinst hini rfl hdg hcells hslots hKn.2.1 rfl fun H1 kC hkC e1 z1 o1 => ?_
  refine kk H.size H1 (mg_Vpush hw hA (by omega) o1 (fun t j q h => ?_) (fun t j t' j' q q' h h' _ => ?_))
  · unfold mg_fO at h
    split at h
    · cases h
      exact ⟨⟨_, hc, (u_born ty hts hin hKn hkC e1 hty).to hfs⟩, Nat.le_refl _⟩
    · cases h
  · unfold mg_fO at h h'
    split at h
    · split at h'
      · rename_i a b; exact ⟨a.1.trans b.1.symm, a.2.trans b.2.symm⟩
      · cases h'
    · cases h
end MNS
set_option maxHeartbeats 4000000 in
set_option maxRecDepth 100000 in
theorem k_X7_init (l : Launch) (D : va_G) (o : Nat → Nat) (u sz : Nat) : mg_CV l yX7_init wsX7_initA ({ frames := 1, cells := 81, slots := 287, locals := 20 } : Room) D o [mg_fO u 7 [.int 0, .int 0, .null, .null, .null, .null]] sz [.ref u] (fun _ => none) (fun β => [mg_fS o u β mg_z0]) 81 287 := by
  unfold mg_CV
  refine Met.ofW (cc := cX7_init) (maxL := 1) (ret := none) (by decide) rfl ?_
  intro p e s m args below meth c s₁ B hml hv
  obtain ⟨rfl, hsz, hP, hK, hD0, hO⟩ := hv
  have hx := B.exec
  have hb := B.bytes
  have hr := B.returns
  have hts := atoms_spec (ws := wsX7_initA) B.pre
  have hown : s.vm.findClass RX7 = some m.cls := findClass_of_methodNamed B.named
  have hlocks := B.notSynchronized
  subst hsz
  have hD := hD0.self (sz := s.heap.size)
  generalize hAe : mg_VA _ s.heap.size = A at hD hO ⊢
  have hA : ∀ q : Nat, s.heap.size ≤ q → A q := fun q h => by rw [← hAe]; exact Or.inr h
  have hw : mg_Vo D A s.heap s.heap [] [mg_fO u 7 [.int 0, .int 0, .null, .null, .null, .null]] := ⟨hP, hD, va_S.rf⟩
  have hAr : mg_Ar o s := hO.2.2.2.2.2.2.2.2.2.2.2.2.2.2.2.2.2.2.2.2.1
  have iX7_ : ∀ w ∈ wsX70, w ∈ wsX7_initA := fun _ h => List.mem_append_left _ (List.mem_cons_of_mem _ (List.mem_append_right _ h))
  have hl := lv_entry ([.ref u]) (n := 1) (Nat.le_of_ble_eq_true rfl)
  rw [lg_entry_eq]
  generalize (lg_sl ([.ref u]) ++ List.replicate (1 - (lg_sl ([.ref u])).length) Slot.unset).toArray = ls at hl ⊢
  have hl : lv_has ls 1 [(0, .ref u)] := hl
  refine lv_aload_n hx hb dX7_init_0 rfl (lv_at hl 0 rfl) ?_
  refine W.objInit hx hb hown (hts (.methodLink RX7 1 objectInit) (by decide +kernel)) (hts (.instanceMethod objectInit) (by decide +kernel)) (hts (.code objectInit ⟨#[0xb1]⟩ 1 none) (by decide +kernel)) rfl (by rw [hml]; exact hl.1) rfl dX7_init_1 (Nat.le_of_ble_eq_true rfl) (Nat.le_of_ble_eq_true rfl) ?_
  refine W.eq (g2 := F0 m 4 ls []) rfl ?_
  refine lv_aload_n hx hb dX7_init_4 rfl (lv_at hl 0 rfl) ?_
  refine lv_bipush (v := 100) hx hb dX7_init_5 (by decide) ?_
  refine mg_vput (ci := 7) (C := RX7) (T := TX7) (N := 6) (ty := .int) (v := .int 100) hx hb hts iX7_ tyX7 tyX7_ok nmX7 hown hK hw 0 rfl mg_fO_0 rfl 1 (by decide) (hts (.fieldLink RX7 7 "MoonGateLaw$Sim" "coins" "I") (by decide +kernel)) (fun _ h9 => h9) rfl (by decide +kernel) rfl rfl (Nat.le_of_ble_eq_true rfl) dX7_init_7 (fun H locs hw => ?_)
  have hw : mg_Vo D A s.heap H locs [mg_fO u 7 [.int 0, .int 100, .null, .null, .null, .null]] := by rw [mg_sO] at hw; exact hw
  refine lv_aload_n hx hb dX7_init_10 rfl (lv_at hl 0 rfl) ?_
  refine lv_bipush (v := 7) hx hb dX7_init_11 (by decide) ?_
  refine lv_bipush (v := 10) hx hb dX7_init_13 (by decide) ?_
  refine lv_iconst (v := 3) hx hb dX7_init_15 (by decide) ?_
  refine mg_mna3 hx hb hown (hts (.classLink RX7 13 "[[[I") (by decide +kernel)) hAr hw hA (show 0 + 78 ≤ 81 by omega) (show 0 + 287 ≤ 287 by omega) dX7_init_16 (fun q r c3 H hw => ?_)
  refine mg_vput (ci := 7) (C := RX7) (T := TX7) (N := 6) (ty := .array (.array (.array .int))) (v := .ref q) hx hb hts iX7_ tyX7 tyX7_ok nmX7 hown hK hw 0 rfl mg_fO_0 rfl 2 (by decide) (hts (.fieldLink RX7 15 "MoonGateLaw$Sim" "cells" "[[[I") (by decide +kernel)) (fun _ h9 => h9) rfl (by decide +kernel) rfl rfl (Nat.le_of_ble_eq_true rfl) dX7_init_20 (fun H locs hw => ?_)
  have hw : mg_Vo D A s.heap H locs [mg_fO u 7 [.int 0, .int 100, .ref q, .null, .null, .null], mg_fT o q r c3] := by rw [mg_sO] at hw; exact hw
  refine lv_aload_n hx hb dX7_init_23 rfl (lv_at hl 0 rfl) ?_
  refine lv_iconst (v := 0) hx hb dX7_init_24 (by decide) ?_
  refine mg_vnewq (n := 0) (N := 0) (B := 0) hx hb hown (hts (.classLink RX7 18 "[I") (by decide +kernel)) hAr hw hA (by decide) rfl (Nat.le_refl _) (by decide) (show 0 + 78 + 1 ≤ 81 by omega) (show 0 + 287 + 0 ≤ 287 by omega) dX7_init_25 (fun q1 H hw => ?_)
  refine mg_vput (ci := 7) (C := RX7) (T := TX7) (N := 6) (ty := .array (.array .int)) (v := .ref q1) hx hb hts iX7_ tyX7 tyX7_ok nmX7 hown hK hw 0 rfl mg_fO_0 rfl 3 (by decide) (hts (.fieldLink RX7 20 "MoonGateLaw$Sim" "carps" "[[I") (by decide +kernel)) (fun _ h9 => h9) rfl (by decide +kernel) rfl rfl (Nat.le_of_ble_eq_true rfl) dX7_init_28 (fun H locs hw => ?_)
  have hw : mg_Vo D A s.heap H locs [mg_fO u 7 [.int 0, .int 100, .ref q, .ref q1, .null, .null], mg_fT o q r c3, mg_fQ o q1 0 (fun _ => none)] := by rw [mg_sO] at hw; exact hw
  refine lv_aload_n hx hb dX7_init_31 rfl (lv_at hl 0 rfl) ?_
  refine lv_iconst (v := 0) hx hb dX7_init_32 (by decide) ?_
  refine mg_vnewq (n := 0) (N := 0) (B := 0) hx hb hown (hts (.classLink RX7 18 "[I") (by decide +kernel)) hAr hw hA (by decide) rfl (Nat.le_refl _) (by decide) (show 0 + 78 + 1 + 1 ≤ 81 by omega) (show 0 + 287 + 0 + 0 ≤ 287 by omega) dX7_init_33 (fun q2 H hw => ?_)
  refine mg_vput (ci := 7) (C := RX7) (T := TX7) (N := 6) (ty := .array (.array .int)) (v := .ref q2) hx hb hts iX7_ tyX7 tyX7_ok nmX7 hown hK hw 0 rfl mg_fO_0 rfl 4 (by decide) (hts (.fieldLink RX7 24 "MoonGateLaw$Sim" "gates" "[[I") (by decide +kernel)) (fun _ h9 => h9) rfl (by decide +kernel) rfl rfl (Nat.le_of_ble_eq_true rfl) dX7_init_36 (fun H locs hw => ?_)
  have hw : mg_Vo D A s.heap H locs [mg_fO u 7 [.int 0, .int 100, .ref q, .ref q1, .ref q2, .null], mg_fT o q r c3, mg_fQ o q1 0 (fun _ => none), mg_fQ o q2 0 (fun _ => none)] := by rw [mg_sO] at hw; exact hw
  refine lv_aload_n hx hb dX7_init_39 rfl (lv_at hl 0 rfl) ?_
  refine lv_iconst (v := 0) hx hb dX7_init_40 (by decide) ?_
  refine mg_vnewq (n := 0) (N := 0) (B := 0) hx hb hown (hts (.classLink RX7 18 "[I") (by decide +kernel)) hAr hw hA (by decide) rfl (Nat.le_refl _) (by decide) (show 0 + 78 + 1 + 1 + 1 ≤ 81 by omega) (show 0 + 287 + 0 + 0 + 0 ≤ 287 by omega) dX7_init_41 (fun q3 H hw => ?_)
  refine mg_vput (ci := 7) (C := RX7) (T := TX7) (N := 6) (ty := .array (.array .int)) (v := .ref q3) hx hb hts iX7_ tyX7 tyX7_ok nmX7 hown hK hw 0 rfl mg_fO_0 rfl 5 (by decide) (hts (.fieldLink RX7 27 "MoonGateLaw$Sim" "poets" "[[I") (by decide +kernel)) (fun _ h9 => h9) rfl (by decide +kernel) rfl rfl (Nat.le_of_ble_eq_true rfl) dX7_init_44 (fun H locs hw => ?_)
  have hw : mg_Vo D A s.heap H locs [mg_fO u 7 [.int 0, .int 100, .ref q, .ref q1, .ref q2, .ref q3], mg_fT o q r c3, mg_fQ o q1 0 (fun _ => none), mg_fQ o q2 0 (fun _ => none), mg_fQ o q3 0 (fun _ => none)] := by rw [mg_sO] at hw; exact hw
  exact mg_eVV _ rfl hx hb hr hlocks (mg_mkS hw) (by omega) (by omega) dX7_init_47
section MNT
variable {p : Program} {l : Launch} {e : Env} {R : Room} {s : State} {m : MethodId} {args : Array Value} {below : List Frame} {meth : Method} {c : Code} {H : Heap} {locs : List Loc} {cells slots : Nat} {Q : State → Prop}
variable {ls : Array Slot} {D : va_G} {A : Nat → Prop} {L : mg_V} {o : Nat → Nat}
theorem mg_newSim (hx : p.tables.exec = Jvm.exec) (hb : c.code = cL_build) (hml : c.maxLocals = 6) (hown : s.vm.findClass RL = some m.cls) (hts : ∀ w ∈ wsL_buildA, w.before args s = true) (hK : va_K D vwCl (mg_Ty o) s) (hO : mg_Old o A s s.heap) (hA : ∀ q, s.heap.size ≤ q → A q) (hw : mg_Vo D A s.heap H locs L) (hls : ls.size = 6) (G9 : CallFix p m c cL_build 6 s args wsL_buildA RL) (hc : cells + 82 ≤ R.cells) (hs : slots + 293 ≤ R.slots) (hfr : 2 ≤ R.frames) (hlo : 40 ≤ R.locals)
    (kk : ∀ (u : Nat) (β : Nat → Nat → Nat) (H1 : Heap) (locs1 : List Loc), mg_Vo D A s.heap H1 locs1 (L ++ [mg_fS o u β mg_z0]) → W p l e R s m args below meth c H1 locs1 (cells + 82) (slots + 293) Q (F0 m 7 ls [.ref u])) : W p l e R s m args below meth c H locs cells slots Q (F0 m 0 ls []) := by
  refine mg_vnewO (ci := 7) (C := RX7) (T := TX7) (N := 6) (fs := [.int 0, .int 0, .null, .null, .null, .null]) hx hb hts (fun _ h => List.mem_append_left _ (List.mem_cons_of_mem _ (List.mem_append_left _ (List.mem_append_left _ (List.mem_append_left _ (List.mem_append_left _ (List.mem_append_left _ (List.mem_append_left _ (List.mem_append_left _ (List.mem_append_left _ (List.mem_append_left _ (List.mem_append_left _ (List.mem_append_right _ h))))))))))))) tyX7 tyX7_ok hown (hts (.classLink RL 16 RX7) (by decide +kernel)) (hts (.instantiable RX7 6) (by decide +kernel)) (hts (.initialized RX7) (by decide +kernel)) hK hw hA rfl (fun j hj => by rcases (show j = 0 ∨ j = 1 ∨ j = 2 ∨ j = 3 ∨ j = 4 ∨ j = 5 by omega) with rfl | rfl | rfl | rfl | rfl | rfl <;> rfl) (by omega) (by omega) dL_build_0 (fun q H hw => ?_)
  refine lv_dup hx hb dL_build_3 rfl ?_
  have hall : (List.range L.length).map (fun i => (L ++ [mg_fO q 7 [.int 0, .int 0, .null, .null, .null, .null]])[i]?) = L.map some := by
    apply List.ext_getElem?
    intro i
    rw [List.getElem?_map, List.getElem?_map]
    by_cases h : i < L.length
    · rw [List.getElem?_range h, Option.map_some, List.getElem?_append_left h]; simp [h]
    · rw [List.getElem?_eq_none (by rw [List.length_range]; omega), List.getElem?_eq_none (by omega)]; rfl
  have hone : [L.length].map (fun i => (L ++ [mg_fO q 7 [.int 0, .int 0, .null, .null, .null, .null]])[i]?) = ([mg_fO q 7 [.int 0, .int 0, .null, .null, .null, .null]] : mg_V).map some := by
    show [(L ++ [_])[L.length]?] = [some _]
    rw [mg_last]
  have hnd : va_nd (List.range L.length) = true := mg_ndr L.length
  have hw0 := mg_Vsub hw [L.length] rfl hone
  refine mg_callV (rv := fun _ => none) (W1 := fun β => [mg_fS o q β mg_z0]) (va_runIN (As := []) (rest := [.ref q]) G9 (k_X7_init l D o q H.size) ⟨va_cnB 0 hts gA_build_init rfl rfl rfl (hO.2.2.2.2.2.2.2.1) (hts (.initialized RX7) (by decide +kernel)) (by decide +kernel) ⟨hfr, hlo⟩, rfl, hts (.instanceMethod yX7_init) (by decide +kernel)⟩ (mg_preVv hK hO hA hw0) rfl rfl hls rfl (lv_room (Nat.le_of_ble_eq_true rfl)) dL_build_4 ⟨(by omega), (by omega)⟩) hw hA [L.length] (List.range L.length) hone (Lr := L) hall hnd (fun i hi h => by have h1 := List.mem_singleton.mp h; have h2 := List.mem_range.mp hi; omega) (fun β H locs hw => ?_)
  exact kk q β H locs hw
end MNT
