/-! THE CLAIM OUT OF ONE WALK OF THE LAW'S BODY. Your part is whole_start (and what it stands on); all else here is the same for every law, but numbers. -/
def R_law : String := "MoonGateLaw"
def lw_P (b : Addr) (xs : List Int32) (args : Array Value) (s : State) : Prop := args = #[.ref b] ∧ s.IntsAt b xs ∧ xs.length ≤ 2560 ∧ (Jvm.Cond.and given_1 narrow_1).before args s = true
/-- what a walk over the start with the record d0 says of its end, said of the start itself -/
theorem lw_closed {s t : State} {o : Outcome} {d0 : Drawn} {L : List Loc} {k n : Nat} (hd0 : s.drawn.sameBut d0 lw_cs) (hv : ∃ v, o = .returned v) (hW : (s.setDrawn d0).WarmedH t.vm) (hs : (s.setDrawn d0).sameButNew ({ t with vm := s.vm } : State) L k n) : State.butDraws s t lw_cs (fun t1 => Framed s o t1 L k n) := by
  have h2 : t.drawn = d0 := congrArg State.drawn hs.1
  refine ⟨⟨hv, hW, State.sameButNew.setDrawn hs s.drawn⟩, ?_, by decide⟩
  rw [h2]
  exact hd0
-- the room may be another at each TURN: what is used of it is said here once
theorem lw_rc {n : Nat} (h : n ≤ 500000) : n ≤ room_1.cells := Nat.le_trans h (by decide +kernel)
theorem lw_rs {n : Nat} (h : n ≤ 6000000) : n ≤ room_1.slots := Nat.le_trans h (by decide +kernel)
def lw_Q (_ : Array Value) (s : State) (o : Outcome) (t : State) : Prop := o = .returned (some (.int 1)) ∧ State.butDraws s t lw_cs (fun t1 => Framed s o t1 [] room_1.cells room_1.slots)
def lw_Z (below : List Frame) (a : Array Value) (s : State) : State → Prop := fun t => ∃ o, t.status = .running ∧ Ended t below o ∧ lw_Q a s o t
/-- the law's own end, with 1 on the stack, nothing written that was there before, its room as the claim has it; d0: the record of draws at this point (at the entry s.drawn: begin with 'refine W.base ?_' and 'have hd0 := Drawn.sameBut.refl s.drawn lw_cs') -/
theorem lw_ret {p : Program} {l : Launch} {e : Env} {s : State} {m : MethodId} {below : List Frame} {meth : Method} {c : Code} {b : Nat} {d0 : Drawn} (hd0 : s.drawn.sameBut d0 lw_cs) (hx : p.tables.exec = Jvm.exec) (hb : c.code = code) (hr : meth.sig.returnType = ret) (hlocks : meth.locks = false) {pc : Nat} {H : Heap} {ls : Array Slot} (hdg : decode code pc = .ok (.ireturn, 1)) : W p l e room_1 (s.setDrawn d0) m #[Value.ref b] below meth c H [] room_1.cells room_1.slots (lw_Z below #[Value.ref b] s) (F0 m pc ls [.int 1]) := by
  intro T hT X
  obtain ⟨fs, hret, hrun, hended, hW, hframe⟩ := X.leave (v := some (.int 1)) (hlocks := hlocks) (fun h => by rw [hr] at h; cases h)
  have hmeth' : T.vm.method? m = some meth := X.method'
  refine ⟨T.setFrames fs, ?_, .returned (some (.int 1)), hrun, hended, rfl, lw_closed hd0 ⟨_, rfl⟩ hW hframe⟩
  jvm_step X.here [X.here.top, hx, hb, hdg, hmeth', hr, ret, narrow_b1]
  (try refine ⟨rfl, ?_⟩); (try refine ⟨rfl, ?_⟩)
  first | (intro acts; rw [hret _ acts rfl rfl rfl]) | rw [hret _ _ rfl rfl rfl]
  exact Steps.refl _
/-- what holds at the law's entry: the machine, the code, the tables' words (any of lw_tbl by 'hts w (by decide +kernel)'), the script of L ints xs at the cell b, what the Statement gives of the start (any of its parts by flat_of_before) -/
def lw_At (p : Program) (s : State) (m : MethodId) (meth : Method) (c : Code) (b L : Nat) (xs : Nat → Int32) : Prop :=
  p.tables.exec = Jvm.exec ∧ c.code = code ∧ meth.sig.returnType = ret ∧ c.maxLocals = 9 ∧ s.vm.findClass R_law = some m.cls ∧ (∀ w ∈ lw_tbl, w.before #[Value.ref b] s = true) ∧ va_X b L xs s s.heap ∧ b < s.heap.size ∧ meth.locks = false ∧ (Jvm.Cond.and given_1 narrow_1).before #[Value.ref b] s = true
theorem mg_head {L i : Nat} (hL : L ≤ 2560) (hi : i ≤ L) (h : ¬ Int32.ofNat L - 5 < nI i) : i + 5 ≤ L := by
  rw [Int32.lt_iff_toInt_lt, nI_toInt (by omega)] at h
  have e1 : (Int32.ofNat L - 5).toInt = (L : Int) - 5 := by
    rw [Int32.toInt_sub, show (Int32.ofNat L).toInt = (L : Int) from nI_toInt (by omega), show (5 : Int32).toInt = 5 from rfl]
    exact Int.bmod_eq_of_le (by omega) (by omega)
  rw [e1] at h
  omega
theorem mg_vin {i k L : Nat} (hL : L ≤ 2560) (h : i + k < L) : vp_in (nI i + Int32.ofNat k) L := by
  rw [show nI i + Int32.ofNat k = nI (i + k) from (by unfold nI; exact (Int32.ofNat_add i k).symm)]
  exact vp_in_nI h (by omega)
set_option maxHeartbeats 4000000 in
set_option maxRecDepth 100000 in
theorem law_loop {p : Program} {l : Launch} {e : Env} {s : State} {m : MethodId} {below : List Frame} {meth : Method} {c : Code} {D : va_G} {o : Nat → Nat} {cI cZ cL : ClassId} {g h : Nat → Nat} {q b L : Nat} {xs : Nat → Int32} (hL : L ≤ 2560) (hst : l.stackTraces = false) (hx : p.tables.exec = Jvm.exec) (hb : c.code = cL_law) (hr : meth.sig.returnType = ret) (hlocks : meth.locks = false) (hml : c.maxLocals = 9) (hown : s.vm.findClass RL = some m.cls) (hts : ∀ w ∈ wsL_law, w.before #[Value.ref b] s = true) (hX : va_X b L xs s s.heap) (hbl : b < s.heap.size) (hK : va_K D vwCl [(cI, .int), (cZ, .boolean), (cL, .long)] s) (hO : mg_Old o (fun q => s.heap.size ≤ q) s s.heap) :
    ∀ (n i : Nat) (d0 : Drawn) (σ τ : mg_St) (f : Nat → Int64) (x4 : Int32) (cl sl : Nat) (H : Heap) (locs : List Loc) (ls : Array Slot), s.drawn.sameBut d0 lw_cs → i ≤ L → L < i + n → x4 = nI i → mg_Inv σ τ → 5 * cl + 700 * L ≤ 2500000 + 700 * i → 5 * sl + 3500 * L ≤ 30000000 + 3500 * i → mg_Wo D (fun q => s.heap.size ≤ q) s.heap H locs (((mg_cW g cI cZ σ) ++ (mg_oc q cL f)) ++ (mg_mW h cI cZ τ)) → lv_has ls 9 [(0, .ref b), (1, .ref (g 0)), (2, .ref (h 0)), (3, .ref q), (4, .int x4)] → W p l e room_1 (s.setDrawn d0) m #[Value.ref b] below meth c H locs cl sl (lw_Z below #[Value.ref b] s) (F0 m 23 ls []) := by
  have hA : ∀ q : Nat, s.heap.size ≤ q → (fun q => s.heap.size ≤ q) q := fun _ h => h
  have hbA : ¬ (fun q => s.heap.size ≤ q) b := Nat.not_le.mpr hbl
  intro n
  induction n with
  | zero => intro i d0 σ τ f x4 cl sl H locs ls hd0 h1 h2; omega
  | succ n ih =>
    intro i d0 σ τ f x4 cl sl H locs ls hd0 h1 h2 hx4 I hcl hsl hw hl
    refine lv_iload hx hb dL_law_23 (lv_at hl 4 rfl) ?_
    refine lv_aload_n hx hb dL_law_25 rfl (lv_at hl 0 rfl) ?_
    refine va_slen (s := s.setDrawn d0) hx hb hX hbl hbA hw.2.2 dL_law_26 ?_
    refine lv_iconst (v := 5) hx hb dL_law_27 (by decide) ?_
    refine lv_isub hx hb dL_law_28 ?_
    refine lv_icmp_gt (tgt := 1362) hx hb dL_law_29 (by decide) (fun _ => ?_) (fun hle => ?_)
    · refine lv_iconst (v := 1) hx hb dL_law_1362 (by decide) ?_
      refine va_forget (s := s.setDrawn d0) (fun q hq => hw.2.2.2.2 q hq) ?_
      refine W.widen (k := room_1.cells) (n := room_1.slots) (lw_rc (show cl ≤ 500000 by omega)) (lw_rs (show sl ≤ 6000000 by omega)) ?_
      exact lw_ret hd0 hx hb hr hlocks dL_law_1363
    · rw [hx4] at hle
      have h5 : i + 5 ≤ L := mg_head hL h1 hle
      have j0 : vp_in x4 L := by rw [hx4]; exact vp_in_nI (by omega) (by omega)
      have j1 : vp_in (x4 + 1) L := by rw [hx4]; exact mg_vin (k := 1) hL (by omega)
      have j2 : vp_in (x4 + 2) L := by rw [hx4]; exact mg_vin (k := 2) hL (by omega)
      have j3 : vp_in (x4 + 3) L := by rw [hx4]; exact mg_vin (k := 3) hL (by omega)
      have j4 : vp_in (x4 + 4) L := by rw [hx4]; exact mg_vin (k := 4) hL (by omega)
      have KK : ∀ (d1 : Drawn) (σ' τ' : mg_St) (f' : Nat → Int64) (H : Heap) (locs : List Loc) (ls : Array Slot), s.drawn.sameBut d1 lw_cs → mg_Inv σ' τ' → mg_Wo D (fun q => s.heap.size ≤ q) s.heap H locs (((mg_cW g cI cZ (σ')) ++ (mg_oc q cL (f'))) ++ (mg_mW h cI cZ (τ'))) → lv_has ls 9 [(0, .ref b), (1, .ref (g 0)), (2, .ref (h 0)), (3, .ref q), (4, .int x4)] → W p l e room_1 (s.setDrawn d1) m #[Value.ref b] below meth c H locs (cl + 700) (sl + 3500) (lw_Z below #[Value.ref b] s) (F0 m 1356 ls []) := by
        intro d1 σ' τ' f' H locs ls hd1 I1 hw hl
        refine lv_iinc (v := x4 + 5) (lv' := [(4, .int (x4 + 5)), (0, .ref b), (1, .ref (g 0)), (2, .ref (h 0)), (3, .ref q)]) hx hb dL_law_1356 hl (k := 4) rfl rfl (by decide) rfl (fun ls hl => ?_)
        refine lv_goto (tgt := 23) hx hb dL_law_1359 (by decide) ?_
        exact ih (i + 5) d1 σ' τ' f' (x4 + 5) _ _ H locs ls hd1 (by omega) (by omega) (by rw [hx4]; unfold nI; exact (Int32.ofNat_add i 5).symm) I1 (by omega) (by omega) hw (lv_sub hl [1, 2, 3, 4, 0] rfl)
      have hcl9 : cl + 700 ≤ room_1.cells := lw_rc (show cl + 700 ≤ 500000 by omega)
      have hsl9 : sl + 3500 ≤ room_1.slots := lw_rs (show sl + 3500 ≤ 6000000 by omega)
      have KQ := fun σ' τ' f' H locs ls => KK d0 σ' τ' f' H locs ls hd0
      have hts9 : ∀ w ∈ wsL_law, w.before #[Value.ref b] (s.setDrawn d0) = true := dr_words hts d0
      refine lv_aload_n hx hb dL_law_32 rfl (lv_at hl 0 rfl) ?_
      refine lv_iload hx hb dL_law_33 (lv_at hl 4 rfl) ?_
      refine va_sld (s := s.setDrawn d0) hx hb hX hbl hbA hw.2.2 j0 dL_law_35 ?_
      refine lv_bipush (v := 31) hx hb dL_law_36 (by decide) ?_
      refine lv_iand hx hb dL_law_38 ?_
      refine lv_topi (fun v _ => ?_)
      by_cases g0 : v = 0
      · refine lv_tableIn (off := 93) (tgt := 132) hx hb dL_law_39 (by rw [g0]; decide) (by rw [g0]; decide) (by rw [g0]; rfl) (by decide) ?_
        exact lawc_rock (s := s.setDrawn d0) hst hx hb hml hown hts9 hX hbl hK hO I x4 j1 j2 j3 j4 hcl9 hsl9 hw hl KQ
      by_cases g1 : v = 1
      · refine lv_tableIn (off := 185) (tgt := 224) hx hb dL_law_39 (by rw [g1]; decide) (by rw [g1]; decide) (by rw [g1]; rfl) (by decide) ?_
        exact lawc_dig (s := s.setDrawn d0) hst hx hb hml hown hts9 hX hbl hK hO I x4 j1 j2 j3 j4 hcl9 hsl9 hw hl KQ
      by_cases g2 : v = 2
      · refine lv_tableIn (off := 253) (tgt := 292) hx hb dL_law_39 (by rw [g2]; decide) (by rw [g2]; decide) (by rw [g2]; rfl) (by decide) ?_
        exact lawc_wall (s := s.setDrawn d0) hst hx hb hml hown hts9 hX hbl hK hO I x4 j1 j2 j3 j4 hcl9 hsl9 hw hl KQ
      by_cases g3 : v = 3
      · refine lv_tableIn (off := 321) (tgt := 360) hx hb dL_law_39 (by rw [g3]; decide) (by rw [g3]; decide) (by rw [g3]; rfl) (by decide) ?_
        exact lawc_clear (s := s.setDrawn d0) hst hx hb hml hown hts9 hX hbl hK hO I x4 j1 j2 j3 j4 hcl9 hsl9 hw hl KQ
      by_cases g4 : v = 4
      · refine lv_tableIn (off := 389) (tgt := 428) hx hb dL_law_39 (by rw [g4]; decide) (by rw [g4]; decide) (by rw [g4]; rfl) (by decide) ?_
        exact lawc_cell (s := s.setDrawn d0) hst hx hb hml hown hts9 hX hbl hK hO I x4 j1 j2 j3 j4 hcl9 hsl9 hw hl KQ
      by_cases g5 : v = 5
      · refine lv_tableIn (off := 469) (tgt := 508) hx hb dL_law_39 (by rw [g5]; decide) (by rw [g5]; decide) (by rw [g5]; rfl) (by decide) ?_
        exact lawc_carp (s := s.setDrawn d0) hst hx hb hml hown hts9 hX hbl hK hO I x4 j1 j2 j3 j4 hcl9 hsl9 hw hl KQ
      by_cases g6 : v = 6
      · refine lv_tableIn (off := 537) (tgt := 576) hx hb dL_law_39 (by rw [g6]; decide) (by rw [g6]; decide) (by rw [g6]; rfl) (by decide) ?_
        exact lawc_sell (s := s.setDrawn d0) hst hx hb hml hown hts9 hX hbl hK hO I x4 j1 j2 j3 j4 hcl9 hsl9 hw hl KQ
      by_cases g7 : v = 7
      · refine lv_tableIn (off := 593) (tgt := 632) hx hb dL_law_39 (by rw [g7]; decide) (by rw [g7]; decide) (by rw [g7]; rfl) (by decide) ?_
        exact lawc_told (s := s.setDrawn d0) hst hx hb hml hown hts9 hX hbl hK hO I x4 j1 j2 j3 j4 hcl9 hsl9 hw hl KQ
      by_cases g8 : v = 8
      · refine lv_tableIn (off := 661) (tgt := 700) hx hb dL_law_39 (by rw [g8]; decide) (by rw [g8]; decide) (by rw [g8]; rfl) (by decide) ?_
        exact lawc_gate (s := s.setDrawn d0) hst hx hb hml hown hts9 hX hbl hK hO I x4 j1 j2 j3 j4 hcl9 hsl9 hw hl KQ
      by_cases g9 : v = 9
      · refine lv_tableIn (off := 741) (tgt := 780) hx hb dL_law_39 (by rw [g9]; decide) (by rw [g9]; decide) (by rw [g9]; rfl) (by decide) ?_
        exact lawc_about (s := s.setDrawn d0) hst hx hb hml hown hts9 hX hbl hK hO I x4 j1 j2 j3 j4 hcl9 hsl9 hw hl KQ
      by_cases g10 : v = 10
      · refine lv_tableIn (off := 809) (tgt := 848) hx hb dL_law_39 (by rw [g10]; decide) (by rw [g10]; decide) (by rw [g10]; rfl) (by decide) ?_
        exact lawc_invite (s := s.setDrawn d0) hst hx hb hml hown hts9 hX hbl hK hO I x4 j1 j2 j3 j4 hcl9 hsl9 hw hl KQ
      by_cases g11 : v = 11
      · refine lv_tableIn (off := 865) (tgt := 904) hx hb dL_law_39 (by rw [g11]; decide) (by rw [g11]; decide) (by rw [g11]; rfl) (by decide) ?_
        exact lawc_lead (s := s.setDrawn d0) hst hx hb hml hown hts9 hX hbl hK hO I x4 j1 j2 j3 j4 hcl9 hsl9 hw hl KQ
      by_cases g12 : v = 12
      · refine lv_tableIn (off := 933) (tgt := 972) hx hb dL_law_39 (by rw [g12]; decide) (by rw [g12]; decide) (by rw [g12]; rfl) (by decide) ?_
        exact lawc_lines (s := s.setDrawn d0) hst hx hb hml hown hts9 hX hbl hK hO I x4 j1 j2 j3 j4 hcl9 hsl9 hw hl KQ
      by_cases g13 : v = 13
      · refine lv_tableIn (off := 989) (tgt := 1028) hx hb dL_law_39 (by rw [g13]; decide) (by rw [g13]; decide) (by rw [g13]; rfl) (by decide) ?_
        exact lawc_count (s := s.setDrawn d0) hst hx hb hml hown hts9 hX hbl hK hO I x4 j1 j2 j3 j4 hcl9 hsl9 hw hl KQ
      by_cases g14 : v = 14
      · refine lv_tableIn (off := 1045) (tgt := 1084) hx hb dL_law_39 (by rw [g14]; decide) (by rw [g14]; decide) (by rw [g14]; rfl) (by decide) ?_
        exact lawc_pass (s := s.setDrawn d0) hst hx hb hml hown hts9 hX hbl hK hO I x4 j1 j2 j3 j4 hcl9 hsl9 hw hl KQ
      by_cases g15 : v = 15
      · refine lv_tableIn (off := 1101) (tgt := 1140) hx hb dL_law_39 (by rw [g15]; decide) (by rw [g15]; decide) (by rw [g15]; rfl) (by decide) ?_
        exact lawc_foresee (s := s.setDrawn d0) hst hx hb hml hown hts9 hX hbl hK hO I x4 j1 j2 j3 j4 hcl9 hsl9 hw hl KQ
      by_cases g16 : v = 16
      · refine lv_tableIn (off := 1169) (tgt := 1208) hx hb dL_law_39 (by rw [g16]; decide) (by rw [g16]; decide) (by rw [g16]; rfl) (by decide) ?_
        exact lawc_advise (s := s.setDrawn d0) hst hx hb hml hown hts9 hX hbl hK hO I x4 j1 j2 j3 j4 hcl9 hsl9 hw hl KQ
      by_cases g17 : v = 17
      · refine lv_tableIn (off := 1249) (tgt := 1288) hx hb dL_law_39 (by rw [g17]; decide) (by rw [g17]; decide) (by rw [g17]; rfl) (by decide) ?_
        exact lawc_finest (s := s.setDrawn d0) hst hx hb hml hown hts9 hX hbl hK hO I x4 j1 j2 j3 j4 hcl9 hsl9 hw hl KQ
      by_cases g18 : v = 18
      · refine lv_tableIn (off := 1262) (tgt := 1301) hx hb dL_law_39 (by rw [g18]; decide) (by rw [g18]; decide) (by rw [g18]; rfl) (by decide) ?_
        exact lawc_mean hst hx hb hml hown hts hX hbl hK hO I x4 j1 j2 j3 j4 hcl9 hsl9 hw hl hd0 KK
      by_cases g19 : v = 19
      · refine lv_tableIn (off := 1303) (tgt := 1342) hx hb dL_law_39 (by rw [g19]; decide) (by rw [g19]; decide) (by rw [g19]; rfl) (by decide) ?_
        exact lawc_digest (s := s.setDrawn d0) hst hx hb hml hown hts9 hX hbl hK hO I x4 j1 j2 j3 j4 hcl9 hsl9 hw hl KQ
      have e0 := lv_neT (a := 0) g0 rfl
      have e1 := lv_neT (a := 1) g1 rfl
      have e2 := lv_neT (a := 2) g2 rfl
      have e3 := lv_neT (a := 3) g3 rfl
      have e4 := lv_neT (a := 4) g4 rfl
      have e5 := lv_neT (a := 5) g5 rfl
      have e6 := lv_neT (a := 6) g6 rfl
      have e7 := lv_neT (a := 7) g7 rfl
      have e8 := lv_neT (a := 8) g8 rfl
      have e9 := lv_neT (a := 9) g9 rfl
      have e10 := lv_neT (a := 10) g10 rfl
      have e11 := lv_neT (a := 11) g11 rfl
      have e12 := lv_neT (a := 12) g12 rfl
      have e13 := lv_neT (a := 13) g13 rfl
      have e14 := lv_neT (a := 14) g14 rfl
      have e15 := lv_neT (a := 15) g15 rfl
      have e16 := lv_neT (a := 16) g16 rfl
      have e17 := lv_neT (a := 17) g17 rfl
      have e18 := lv_neT (a := 18) g18 rfl
      have e19 := lv_neT (a := 19) g19 rfl
      refine lv_tableOut (tgt := 1356) hx hb dL_law_39 (by omega) (by decide) ?_
      refine W.widen (k := cl + 700) (n := sl + 3500) (by omega) (by omega) ?_
      exact KQ σ τ f H locs ls I hw hl
