/-! ===== the small ones by hand: the grown list, the garden's constructor ===== -/
theorem mg_ix_nI {i n : Nat} (h : i < n) (hn : n < 2 ^ 31) : mg_ix n (nI i) = some i := by
  unfold mg_ix
  rw [if_neg (nI_in h hn), nI_clamp (by omega)]
theorem mg_sQ {o : Nat → Nat} {q n : Nat} {f f' : Nat → Option Nat} : mg_fset (mg_fQ o q n f) 0 0 (q, mg_eq (o 50) n f') = mg_fQ o q n f' := by
  funext t j'
  unfold mg_fset mg_fQ
  split <;> rfl
theorem mg_fQ_0 {o : Nat → Nat} {q n : Nat} {f : Nat → Option Nat} : mg_fQ o q n f 0 0 = some (q, mg_eq (o 50) n f) := rfl
theorem mg_last {L : mg_V} {F : mg_F} : (L ++ [F])[L.length]? = some F := by rw [List.getElem?_append_right (Nat.le_refl _), Nat.sub_self]; rfl
theorem mg_front {L : mg_V} {F G : mg_F} {k : Nat} (h : L[k]? = some F) : (L ++ [G])[k]? = some F := by rw [List.getElem?_append_left (List.getElem?_eq_some_iff.mp h).1]; exact h
theorem mg_setlast {L : mg_V} {F G : mg_F} : (L ++ [F]).set L.length G = L ++ [G] := by
  rw [List.set_append_right _ _ (Nat.le_refl _), Nat.sub_self]
  rfl
set_option maxHeartbeats 4000000 in
set_option maxRecDepth 100000 in
theorem k_X7_more (l : Launch) (D : va_G) (o : Nat → Nat) (L : mg_V) (sz : Nat) (k1 k2 : Nat) {F1 F2 : mg_F} {t1 j1 t2 j2 a b n n2 : Nat} {rr : Nat → Nat} {f2 : Nat → Int32} (hk1 : L[k1]? = some F1) (hF1 : F1 t1 j1 = some (a, mg_eq (o 50) n (fun y => some (rr y)))) (hel : ∀ y, y < n → ∃ (k : Nat) (F : mg_F) (t j n3 : Nat) (f3 : Nat → Int32), L[k]? = some F ∧ F t j = some (rr y, mg_ei (o 53) n3 f3)) (hk2 : L[k2]? = some F2) (hF2 : F2 t2 j2 = some (b, mg_ei (o 53) n2 f2)) (hn30 : n ≤ 30) :
    mg_CV l yX7_more wsX7_more ({ frames := 0, cells := 1, slots := 31, locals := 0 } : Room) D o L sz [.ref a, .ref b] (fun β => some (.ref (β 0 0))) (fun β => L ++ [mg_fQ o (β 0 0) (n + 1) (fun y => some (if y = n then b else rr y))]) 1 31 := by
  unfold mg_CV
  refine Met.ofW (cc := cX7_more) (maxL := 4) (ret := some (.array (.array .int))) (by decide) rfl ?_
  intro p e s m args below meth c s₁ B hml hv
  obtain ⟨rfl, hsz, hP, hK, hD0, hO⟩ := hv
  have hx := B.exec
  have hb := B.bytes
  have hr := B.returns
  have hts := atoms_spec (ws := wsX7_more) B.pre
  have hown : s.vm.findClass RX7 = some m.cls := findClass_of_methodNamed B.named
  have hlocks := B.notSynchronized
  subst hsz
  have hD := hD0.self (sz := s.heap.size)
  generalize hAe : mg_VA L s.heap.size = A at hD hO ⊢
  have hA : ∀ q : Nat, s.heap.size ≤ q → A q := fun q h => by rw [← hAe]; exact Or.inr h
  have hw : mg_Vo D A s.heap s.heap [] L := ⟨hP, hD, va_S.rf⟩
  have hAr : mg_Ar o s := hO.2.2.2.2.2.2.2.2.2.2.2.2.2.2.2.2.2.2.2.2.1
  have w0_ := hts (.classLink RX7 18 "[I") (by decide +kernel)
  have hl := lv_entry ([.ref a, .ref b]) (n := 4) (Nat.le_of_ble_eq_true rfl)
  rw [lg_entry_eq]
  generalize (lg_sl ([.ref a, .ref b]) ++ List.replicate (4 - (lg_sl ([.ref a, .ref b])).length) Slot.unset).toArray = ls at hl ⊢
  have hl : lv_has ls 4 [(0, .ref a), (1, .ref b)] := hl
  refine lv_aload_n hx hb dX7_more_0 rfl (lv_at hl 0 rfl) ?_
  refine mg_alenq hx hb hK hw k1 2 hk1 hF1 rfl dX7_more_1 ?_
  refine lv_iconst (v := 1) hx hb dX7_more_2 (by decide) ?_
  refine lv_iadd hx hb dX7_more_3 ?_
  have e1 : nI n + 1 = nI (n + 1) := nI_1 n
  show W p l e _ s m _ below meth c _ _ _ _ _ (F0 m 4 ls [.int (nI n + 1)])
  rw [e1]
  refine mg_vnewq (N := n + 1) (B := 31) hx hb hown w0_ hAr hw hA (nI_pos (by omega)) (nI_clamp (by omega)) (by omega) (by decide) (show 0 + 1 ≤ 1 by omega) (show 0 + 31 ≤ 31 by omega) dX7_more_4 (fun q H hw => ?_)
  refine lv_astore_n (lv' := [(2, .ref q), (0, .ref a), (1, .ref b)]) hx hb dX7_more_7 rfl hl (by decide) rfl (fun ls hl => ?_)
  refine lv_iconst (v := 0) hx hb dX7_more_8 (by decide) ?_
  refine lv_istore_n (lv' := [(3, .int 0), (2, .ref q), (0, .ref a), (1, .ref b)]) hx hb dX7_more_9 rfl hl (by decide) rfl (fun ls hl => ?_)
  have key : ∀ (d i : Nat), i + d = n → ∀ (H : Heap) (locs : List Loc) (ls : Array Slot), mg_Vo D A s.heap H locs (L ++ [mg_fQ o q (n + 1) (fun y => if y < i then some (rr y) else none)]) → lv_has ls 4 [(3, .int (nI i)), (2, .ref q), (0, .ref a), (1, .ref b)] → W p l e (headSpec wsX7_more ({ frames := 0, cells := 1, slots := 31, locals := 0 } : Room)).room s m ([.ref a, .ref b] : List Value).toArray below meth c H locs (0 + 1) (0 + 31) (MQ below (mg_QV D (fun β => L ++ [mg_fQ o (β 0 0) (n + 1) (fun y => some (if y = n then b else rr y))]) A (fun β => some (.ref (β 0 0)))) ([.ref a, .ref b] : List Value).toArray s 1 31 A) (F0 m 10 ls []) := by
    intro d
    induction d with
    | zero =>
      intro i hi H locs ls hw hl
      have hin : i = n := by omega
      subst hin
      refine lv_iload_n hx hb dX7_more_10 rfl (lv_at hl 0 rfl) ?_
      refine lv_aload_n hx hb dX7_more_11 rfl (lv_at hl 2 rfl) ?_
      refine mg_alenq hx hb hK hw k1 2 (mg_front hk1) hF1 rfl dX7_more_12 ?_
      refine lv_icmp_ge (tgt := 28) hx hb dX7_more_13 (by decide) (fun _ => ?_) (fun h => absurd (nI_le (Nat.le_refl _) (by omega)) h)
      refine lv_aload_n hx hb dX7_more_28 rfl (lv_at hl 1 rfl) ?_
      refine lv_aload_n hx hb dX7_more_29 rfl (lv_at hl 2 rfl) ?_
      refine mg_alenq hx hb hK hw k1 2 (mg_front hk1) hF1 rfl dX7_more_30 ?_
      refine lv_aload_n hx hb dX7_more_31 rfl (lv_at hl 3 rfl) ?_
      refine mg_aas (x := i) hx hb hAr hw L.length k2 mg_last mg_fQ_0 (mg_front hk2) hF2 (vp_in_nI (by omega) (by omega)) (nI_clamp (by omega)) dX7_more_32 (fun H locs hw => ?_)
      rw [mg_sQ, mg_setlast] at hw
      have hw2 : mg_Vo D A s.heap H locs (L ++ [mg_fQ o q (i + 1) (fun y => some (if y = i then b else rr y))]) := by
        refine mg_Vlast hw (fun t j => (0, t, j)) (fun t j q9 h => ?_) (fun t j t' j' q9 q8 h h' e => ?_)
        · unfold mg_fQ at h
          split at h
          · rename_i htj
            obtain ⟨rfl, rfl⟩ := htj
            cases h
            refine ⟨0, 0, 0, _, _, rfl, rfl, mg_fQ_0, rfl, fun H9 hv => mg_atq (fun x hx => ?_) H9 hv⟩
            by_cases e : x = i
            · subst e; simp [va_up]
            · simp [va_up, e, show x < i by omega]
          · cases h
        · simp only [Prod.mk.injEq, true_and] at e
          exact e
      refine lv_aload_n hx hb dX7_more_33 rfl (lv_at hl 1 rfl) ?_
      exact mg_eR (fun _ _ => q) rfl hx hb hr (Or.inr ⟨_, rfl⟩) hlocks hw2 (by omega) (by omega) dX7_more_34
    | succ d ih =>
      intro i hi H locs ls hw hl
      refine lv_iload_n hx hb dX7_more_10 rfl (lv_at hl 0 rfl) ?_
      refine lv_aload_n hx hb dX7_more_11 rfl (lv_at hl 2 rfl) ?_
      refine mg_alenq hx hb hK hw k1 2 (mg_front hk1) hF1 rfl dX7_more_12 ?_
      refine lv_icmp_ge (tgt := 28) hx hb dX7_more_13 (by decide) (fun h => absurd h (nI_ge (by omega) (by omega))) (fun _ => ?_)
      refine lv_aload_n hx hb dX7_more_16 rfl (lv_at hl 1 rfl) ?_
      refine lv_iload_n hx hb dX7_more_17 rfl (lv_at hl 0 rfl) ?_
      refine lv_aload_n hx hb dX7_more_18 rfl (lv_at hl 2 rfl) ?_
      refine lv_iload_n hx hb dX7_more_19 rfl (lv_at hl 0 rfl) ?_
      refine mg_aal (K := fun x => some x) (res := i) hx hb hK hw k1 2 (mg_front hk1) hF1 rfl rfl (by rw [mg_ix_nI (by omega) (by omega)]; rfl) dX7_more_20 (fun x hxn hxe => ?_)
      cases hxe
      obtain ⟨k3, F3, t3, j3, n3, f3, g1, g2⟩ := hel i (by omega)
      refine mg_aas (x := i) (v := rr i) hx hb hAr hw L.length k3 mg_last mg_fQ_0 (mg_front g1) g2 (vp_in_nI (by omega) (by omega)) (nI_clamp (by omega)) dX7_more_21 (fun H locs hw => ?_)
      rw [mg_sQ, mg_setlast, show va_up (fun y => if y < i then some (rr y) else none) i (some (rr i)) = (fun y => if y < i + 1 then some (rr y) else none) from by
        funext y
        unfold va_up
        by_cases e : y = i
        · subst e; simp
        · by_cases e2 : y < i
          · simp [e, e2, show y < i + 1 by omega]
          · simp [e, e2, show ¬ y < i + 1 by omega]] at hw
      refine lv_iinc (v := nI (i + 1)) (lv' := [(3, .int (nI (i + 1))), (2, .ref q), (0, .ref a), (1, .ref b)]) hx hb dX7_more_22 hl (k := 0) rfl (nI_succ i).symm (by decide) rfl (fun ls hl => ?_)
      refine lv_goto (tgt := 10) hx hb dX7_more_25 (by decide) ?_
      exact ih (i + 1) (by omega) H locs ls hw hl
  refine key n 0 (by omega) _ _ ls ?_ hl
  have e0 : (fun y => if y < 0 then some (rr y) else none) = (fun _ : Nat => (none : Option Nat)) := by funext y; simp
  rw [e0]
  exact hw
/-- the garden by hand, at first -/
def mg_fO (q ci : Nat) (fs : List Value) : mg_F := fun t j => if t = 0 ∧ j = 0 then some (q, .inr (ci, fs)) else none
theorem mg_fO_0 {q ci : Nat} {fs : List Value} : mg_fO q ci fs 0 0 = some (q, .inr (ci, fs)) := rfl
theorem mg_sO {q ci : Nat} {fs fs' : List Value} : mg_fset (mg_fO q ci fs) 0 0 (q, .inr (ci, fs')) = mg_fO q ci fs' := by
  funext t j'
  unfold mg_fset mg_fO
  split <;> rfl
def wsX7_initA : List Cond := wsX7_init ++ [.classLink RX7 13 "[[[I"]
theorem mg_mkS {D : va_G} {A : Nat → Prop} {H0 H : Heap} {locs : List Loc} {o : Nat → Nat} {u q q1 q2 q3 : Nat} {r c3 : Nat → Nat} (hw : mg_Vo D A H0 H locs [mg_fO u 7 [.int 0, .int 100, .ref q, .ref q1, .ref q2, .ref q3], mg_fT o q r c3, mg_fQ o q1 0 (fun _ => none), mg_fQ o q2 0 (fun _ => none), mg_fQ o q3 0 (fun _ => none)]) : mg_Vo D A H0 H locs [mg_fS o u (fun t j => if t = 0 then (if j = 1 then q else if j = 2 then q1 else if j = 3 then q2 else q3) else if t = 1 then r j else c3 j) mg_z0] := by
  refine mg_Vlast (L := []) hw (fun t j => if t = 0 ∧ j = 0 then (0, 0, 0) else if t = 0 ∧ j = 1 then (1, 0, 0) else if t = 0 then (j, 0, 0) else (1, t, j)) (fun t j q9 h => ?_) (fun t j t' j' q9 q8 h h' e => ?_)
  · rcases mg_fS_inv h with ⟨rfl, rfl, rfl⟩ | ⟨rfl, rfl, rfl⟩ | ⟨rfl, rfl, rfl⟩ | ⟨rfl, rfl, rfl⟩ | ⟨rfl, rfl, rfl⟩ | ⟨rfl, hj, rfl⟩ | ⟨rfl, hj, rfl⟩ | ⟨rfl, hj, rfl⟩ | ⟨rfl, hj, rfl⟩ | ⟨rfl, hj, rfl⟩
    · exact ⟨0, 0, 0, _, _, by simp, rfl, mg_fO_0, rfl, fun H9 hv => by simpa [mg_z0] using hv⟩
    · exact ⟨1, 0, 0, _, _, by simp, rfl, rfl, by simp, fun H9 hv => by simpa [mg_z0] using hv⟩
    · exact ⟨2, 0, 0, _, _, by simp, rfl, mg_fQ_0, by simp, fun H9 hv => mg_atq (f := fun _ => none) (fun x hx => absurd hx (Nat.not_lt_zero _)) H9 (by simpa [mg_z0] using hv)⟩
    · exact ⟨3, 0, 0, _, _, by simp, rfl, mg_fQ_0, by simp, fun H9 hv => mg_atq (f := fun _ => none) (fun x hx => absurd hx (Nat.not_lt_zero _)) H9 (by simpa [mg_z0] using hv)⟩
    · exact ⟨4, 0, 0, _, _, by simp, rfl, mg_fQ_0, by simp, fun H9 hv => mg_atq (f := fun _ => none) (fun x hx => absurd hx (Nat.not_lt_zero _)) H9 (by simpa [mg_z0] using hv)⟩
    · exact ⟨1, 1, j, _, _, by simp, rfl, if_pos hj, by simp, fun H9 hv => by simpa [mg_z0] using hv⟩
    · exact ⟨1, 2, j, _, _, by simp, rfl, if_pos hj, by simp, fun H9 hv => by simpa [mg_z0] using hv⟩
    · exact absurd hj (Nat.not_lt_zero _)
    · exact absurd hj (Nat.not_lt_zero _)
    · exact absurd hj (Nat.not_lt_zero _)
  · have hz : ∀ k, mg_z0.2 k = 0 := fun _ => rfl
    rcases mg_fS_inv h with ⟨rfl, rfl, -⟩ | ⟨rfl, rfl, -⟩ | ⟨rfl, rfl, -⟩ | ⟨rfl, rfl, -⟩ | ⟨rfl, rfl, -⟩ | ⟨rfl, hj, -⟩ | ⟨rfl, hj, -⟩ | ⟨rfl, hj, -⟩ | ⟨rfl, hj, -⟩ | ⟨rfl, hj, -⟩ <;>
    rcases mg_fS_inv h' with ⟨rfl, rfl, -⟩ | ⟨rfl, rfl, -⟩ | ⟨rfl, rfl, -⟩ | ⟨rfl, rfl, -⟩ | ⟨rfl, rfl, -⟩ | ⟨rfl, hj', -⟩ | ⟨rfl, hj', -⟩ | ⟨rfl, hj', -⟩ | ⟨rfl, hj', -⟩ | ⟨rfl, hj', -⟩ <;>
    first
      | exact ⟨rfl, rfl⟩
      | exact absurd hj (Nat.not_lt_zero _)
      | exact absurd hj' (Nat.not_lt_zero _)
      | (simp at e; done)
      | (simp at e; exact ⟨rfl, e⟩)
