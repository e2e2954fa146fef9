section
-- ===== PART A: goes FIRST, ahead of the names: the tables' words, and 'selects' of the private methods out of them =====
/-- a private method of a class that the tables say can be made, by its rows of tables_1 -/
def lw_okq (q : MethodName × Nat) : Prop := (q.1.cls ≠ "java/lang/invoke/MethodHandle" ∧ q.1.cls ≠ "java/lang/invoke/VarHandle") ∧ Cond.instantiable q.1.cls q.2 ∈ tables_1 ∧ Cond.privateMethod q.1 ∈ tables_1 ∧ Cond.instanceMethod q.1 ∈ tables_1
theorem lw_p0 : lw_okq (⟨"MoonGate", "checkPlace", "(II)V"⟩, 7) := ⟨⟨by decide +kernel, by decide +kernel⟩, List.mem_of_getElem? (i := 17) (by decide +kernel), List.mem_of_getElem? (i := 183) (by decide +kernel), List.mem_of_getElem? (i := 184) (by decide +kernel)⟩
theorem lw_p1 : lw_okq (⟨"java/lang/Throwable", "fillInStackTrace", "(I)Ljava/lang/Throwable;"⟩, 6) := ⟨⟨by decide +kernel, by decide +kernel⟩, List.mem_of_getElem? (i := 228) (by decide +kernel), List.mem_of_getElem? (i := 226) (by decide +kernel), List.mem_of_getElem? (i := 227) (by decide +kernel)⟩
theorem lw_p2 : lw_okq (⟨"MoonGate", "checkWhat", "(II)V"⟩, 7) := ⟨⟨by decide +kernel, by decide +kernel⟩, List.mem_of_getElem? (i := 17) (by decide +kernel), List.mem_of_getElem? (i := 258) (by decide +kernel), List.mem_of_getElem? (i := 259) (by decide +kernel)⟩
theorem lw_p3 : lw_okq (⟨"MoonGate$Garden", "pondAt", "(I)I"⟩, 9) := ⟨⟨by decide +kernel, by decide +kernel⟩, List.mem_of_getElem? (i := 25) (by decide +kernel), List.mem_of_getElem? (i := 285) (by decide +kernel), List.mem_of_getElem? (i := 286) (by decide +kernel)⟩
theorem lw_p4 : lw_okq (⟨"MoonGate", "checkCarp", "(I)V"⟩, 7) := ⟨⟨by decide +kernel, by decide +kernel⟩, List.mem_of_getElem? (i := 17) (by decide +kernel), List.mem_of_getElem? (i := 297) (by decide +kernel), List.mem_of_getElem? (i := 298) (by decide +kernel)⟩
theorem lw_p5 : lw_okq (⟨"MoonGate$Shoal", "isNumber", "(I)Z"⟩, 3) := ⟨⟨by decide +kernel, by decide +kernel⟩, List.mem_of_getElem? (i := 61) (by decide +kernel), List.mem_of_getElem? (i := 306) (by decide +kernel), List.mem_of_getElem? (i := 307) (by decide +kernel)⟩
theorem lw_p6 : lw_okq (⟨"MoonGate", "rankOf", "(I)I"⟩, 7) := ⟨⟨by decide +kernel, by decide +kernel⟩, List.mem_of_getElem? (i := 17) (by decide +kernel), List.mem_of_getElem? (i := 318) (by decide +kernel), List.mem_of_getElem? (i := 319) (by decide +kernel)⟩
theorem lw_p7 : lw_okq (⟨"MoonGate", "checkGate", "(I)V"⟩, 7) := ⟨⟨by decide +kernel, by decide +kernel⟩, List.mem_of_getElem? (i := 17) (by decide +kernel), List.mem_of_getElem? (i := 326) (by decide +kernel), List.mem_of_getElem? (i := 327) (by decide +kernel)⟩
theorem lw_p8 : lw_okq (⟨"MoonGate", "look", "(ILMoonGate$Course;)I"⟩, 7) := ⟨⟨by decide +kernel, by decide +kernel⟩, List.mem_of_getElem? (i := 17) (by decide +kernel), List.mem_of_getElem? (i := 331) (by decide +kernel), List.mem_of_getElem? (i := 332) (by decide +kernel)⟩
theorem lw_p9 : lw_okq (⟨"MoonGate$Gates", "isNumber", "(I)Z"⟩, 3) := ⟨⟨by decide +kernel, by decide +kernel⟩, List.mem_of_getElem? (i := 79) (by decide +kernel), List.mem_of_getElem? (i := 343) (by decide +kernel), List.mem_of_getElem? (i := 344) (by decide +kernel)⟩
theorem lw_p10 : lw_okq (⟨"MoonGate", "show", "(ILMoonGate$Course;)V"⟩, 7) := ⟨⟨by decide +kernel, by decide +kernel⟩, List.mem_of_getElem? (i := 17) (by decide +kernel), List.mem_of_getElem? (i := 369) (by decide +kernel), List.mem_of_getElem? (i := 370) (by decide +kernel)⟩
theorem lw_p11 : lw_okq (⟨"MoonGate$Poets", "isNumber", "(I)Z"⟩, 2) := ⟨⟨by decide +kernel, by decide +kernel⟩, List.mem_of_getElem? (i := 96) (by decide +kernel), List.mem_of_getElem? (i := 399) (by decide +kernel), List.mem_of_getElem? (i := 400) (by decide +kernel)⟩
theorem lw_p12 : lw_okq (⟨"MoonGate", "checkPoet", "(I)V"⟩, 7) := ⟨⟨by decide +kernel, by decide +kernel⟩, List.mem_of_getElem? (i := 17) (by decide +kernel), List.mem_of_getElem? (i := 407) (by decide +kernel), List.mem_of_getElem? (i := 408) (by decide +kernel)⟩
theorem lw_p13 : lw_okq (⟨"MoonGate", "changingCount", "(ILMoonGate$Course;)I"⟩, 7) := ⟨⟨by decide +kernel, by decide +kernel⟩, List.mem_of_getElem? (i := 17) (by decide +kernel), List.mem_of_getElem? (i := 433) (by decide +kernel), List.mem_of_getElem? (i := 434) (by decide +kernel)⟩
theorem lw_p14 : lw_okq (⟨"MoonGate", "checkDays", "(I)V"⟩, 7) := ⟨⟨by decide +kernel, by decide +kernel⟩, List.mem_of_getElem? (i := 17) (by decide +kernel), List.mem_of_getElem? (i := 449) (by decide +kernel), List.mem_of_getElem? (i := 450) (by decide +kernel)⟩
theorem lw_p15 : lw_okq (⟨"MoonGate", "letPass", "(ILMoonGate$Course;)I"⟩, 7) := ⟨⟨by decide +kernel, by decide +kernel⟩, List.mem_of_getElem? (i := 17) (by decide +kernel), List.mem_of_getElem? (i := 469) (by decide +kernel), List.mem_of_getElem? (i := 470) (by decide +kernel)⟩
def lw_privs_1 : List (MethodName × Nat) := [(⟨"MoonGate", "checkPlace", "(II)V"⟩, 7), (⟨"java/lang/Throwable", "fillInStackTrace", "(I)Ljava/lang/Throwable;"⟩, 6), (⟨"MoonGate", "checkWhat", "(II)V"⟩, 7), (⟨"MoonGate$Garden", "pondAt", "(I)I"⟩, 9), (⟨"MoonGate", "checkCarp", "(I)V"⟩, 7), (⟨"MoonGate$Shoal", "isNumber", "(I)Z"⟩, 3), (⟨"MoonGate", "rankOf", "(I)I"⟩, 7), (⟨"MoonGate", "checkGate", "(I)V"⟩, 7), (⟨"MoonGate", "look", "(ILMoonGate$Course;)I"⟩, 7), (⟨"MoonGate$Gates", "isNumber", "(I)Z"⟩, 3), (⟨"MoonGate", "show", "(ILMoonGate$Course;)V"⟩, 7), (⟨"MoonGate$Poets", "isNumber", "(I)Z"⟩, 2), (⟨"MoonGate", "checkPoet", "(I)V"⟩, 7), (⟨"MoonGate", "changingCount", "(ILMoonGate$Course;)I"⟩, 7), (⟨"MoonGate", "checkDays", "(I)V"⟩, 7), (⟨"MoonGate", "letPass", "(ILMoonGate$Course;)I"⟩, 7)]
theorem lw_r1 : ∀ q ∈ lw_privs_1, lw_okq q := List.forall_mem_cons.mpr ⟨lw_p0, List.forall_mem_cons.mpr ⟨lw_p1, List.forall_mem_cons.mpr ⟨lw_p2, List.forall_mem_cons.mpr ⟨lw_p3, List.forall_mem_cons.mpr ⟨lw_p4, List.forall_mem_cons.mpr ⟨lw_p5, List.forall_mem_cons.mpr ⟨lw_p6, List.forall_mem_cons.mpr ⟨lw_p7, List.forall_mem_cons.mpr ⟨lw_p8, List.forall_mem_cons.mpr ⟨lw_p9, List.forall_mem_cons.mpr ⟨lw_p10, List.forall_mem_cons.mpr ⟨lw_p11, List.forall_mem_cons.mpr ⟨lw_p12, List.forall_mem_cons.mpr ⟨lw_p13, List.forall_mem_cons.mpr ⟨lw_p14, List.forall_mem_cons.mpr ⟨lw_p15, fun _ h => absurd h List.not_mem_nil⟩⟩⟩⟩⟩⟩⟩⟩⟩⟩⟩⟩⟩⟩⟩⟩
theorem lw_p16 : lw_okq (⟨"MoonGate", "letCarpsGrow", "(LMoonGate$Course;)V"⟩, 7) := ⟨⟨by decide +kernel, by decide +kernel⟩, List.mem_of_getElem? (i := 17) (by decide +kernel), List.mem_of_getElem? (i := 473) (by decide +kernel), List.mem_of_getElem? (i := 474) (by decide +kernel)⟩
theorem lw_p17 : lw_okq (⟨"MoonGate", "letPoetsWrite", "(LMoonGate$Course;)I"⟩, 7) := ⟨⟨by decide +kernel, by decide +kernel⟩, List.mem_of_getElem? (i := 17) (by decide +kernel), List.mem_of_getElem? (i := 493) (by decide +kernel), List.mem_of_getElem? (i := 494) (by decide +kernel)⟩
theorem lw_p18 : lw_okq (⟨"MoonGate", "checkRock", "(II)V"⟩, 7) := ⟨⟨by decide +kernel, by decide +kernel⟩, List.mem_of_getElem? (i := 17) (by decide +kernel), List.mem_of_getElem? (i := 515) (by decide +kernel), List.mem_of_getElem? (i := 516) (by decide +kernel)⟩
theorem lw_p19 : lw_okq (⟨"MoonGate", "beautyWithRock", "(IIII)I"⟩, 7) := ⟨⟨by decide +kernel, by decide +kernel⟩, List.mem_of_getElem? (i := 17) (by decide +kernel), List.mem_of_getElem? (i := 525) (by decide +kernel), List.mem_of_getElem? (i := 526) (by decide +kernel)⟩
theorem lw_p20 : lw_okq (⟨"MoonGate$Garden", "setCell", "(IIII)V"⟩, 9) := ⟨⟨by decide +kernel, by decide +kernel⟩, List.mem_of_getElem? (i := 25) (by decide +kernel), List.mem_of_getElem? (i := 533) (by decide +kernel), List.mem_of_getElem? (i := 534) (by decide +kernel)⟩
theorem lw_p21 : lw_okq (⟨"MoonGate", "digestOfCells", "(J)J"⟩, 7) := ⟨⟨by decide +kernel, by decide +kernel⟩, List.mem_of_getElem? (i := 17) (by decide +kernel), List.mem_of_getElem? (i := 552) (by decide +kernel), List.mem_of_getElem? (i := 553) (by decide +kernel)⟩
theorem lw_p22 : lw_okq (⟨"MoonGate", "digestOfCarps", "(J)J"⟩, 7) := ⟨⟨by decide +kernel, by decide +kernel⟩, List.mem_of_getElem? (i := 17) (by decide +kernel), List.mem_of_getElem? (i := 557) (by decide +kernel), List.mem_of_getElem? (i := 558) (by decide +kernel)⟩
theorem lw_p23 : lw_okq (⟨"MoonGate", "digestOfGates", "(J)J"⟩, 7) := ⟨⟨by decide +kernel, by decide +kernel⟩, List.mem_of_getElem? (i := 17) (by decide +kernel), List.mem_of_getElem? (i := 562) (by decide +kernel), List.mem_of_getElem? (i := 563) (by decide +kernel)⟩
theorem lw_p24 : lw_okq (⟨"MoonGate", "checkBare", "(I)V"⟩, 7) := ⟨⟨by decide +kernel, by decide +kernel⟩, List.mem_of_getElem? (i := 17) (by decide +kernel), List.mem_of_getElem? (i := 632) (by decide +kernel), List.mem_of_getElem? (i := 633) (by decide +kernel)⟩
theorem lw_p25 : lw_okq (⟨"MoonGate", "spend", "(I)V"⟩, 7) := ⟨⟨by decide +kernel, by decide +kernel⟩, List.mem_of_getElem? (i := 17) (by decide +kernel), List.mem_of_getElem? (i := 652) (by decide +kernel), List.mem_of_getElem? (i := 653) (by decide +kernel)⟩
theorem lw_p26 : lw_okq (⟨"MoonGate$Garden", "surveyPonds", "()V"⟩, 9) := ⟨⟨by decide +kernel, by decide +kernel⟩, List.mem_of_getElem? (i := 25) (by decide +kernel), List.mem_of_getElem? (i := 665) (by decide +kernel), List.mem_of_getElem? (i := 666) (by decide +kernel)⟩
theorem lw_p27 : lw_okq (⟨"MoonGate$Garden", "isUnknownPond", "(I)Z"⟩, 9) := ⟨⟨by decide +kernel, by decide +kernel⟩, List.mem_of_getElem? (i := 25) (by decide +kernel), List.mem_of_getElem? (i := 669) (by decide +kernel), List.mem_of_getElem? (i := 670) (by decide +kernel)⟩
theorem lw_p28 : lw_okq (⟨"MoonGate$Garden", "surveyPond", "(II)V"⟩, 9) := ⟨⟨by decide +kernel, by decide +kernel⟩, List.mem_of_getElem? (i := 25) (by decide +kernel), List.mem_of_getElem? (i := 673) (by decide +kernel), List.mem_of_getElem? (i := 674) (by decide +kernel)⟩
theorem lw_p29 : lw_okq (⟨"MoonGate$Garden", "reachOnFrom", "(III)I"⟩, 9) := ⟨⟨by decide +kernel, by decide +kernel⟩, List.mem_of_getElem? (i := 25) (by decide +kernel), List.mem_of_getElem? (i := 677) (by decide +kernel), List.mem_of_getElem? (i := 678) (by decide +kernel)⟩
def lw_privs_2 : List (MethodName × Nat) := [(⟨"MoonGate", "letCarpsGrow", "(LMoonGate$Course;)V"⟩, 7), (⟨"MoonGate", "letPoetsWrite", "(LMoonGate$Course;)I"⟩, 7), (⟨"MoonGate", "checkRock", "(II)V"⟩, 7), (⟨"MoonGate", "beautyWithRock", "(IIII)I"⟩, 7), (⟨"MoonGate$Garden", "setCell", "(IIII)V"⟩, 9), (⟨"MoonGate", "digestOfCells", "(J)J"⟩, 7), (⟨"MoonGate", "digestOfCarps", "(J)J"⟩, 7), (⟨"MoonGate", "digestOfGates", "(J)J"⟩, 7), (⟨"MoonGate", "checkBare", "(I)V"⟩, 7), (⟨"MoonGate", "spend", "(I)V"⟩, 7), (⟨"MoonGate$Garden", "surveyPonds", "()V"⟩, 9), (⟨"MoonGate$Garden", "isUnknownPond", "(I)Z"⟩, 9), (⟨"MoonGate$Garden", "surveyPond", "(II)V"⟩, 9), (⟨"MoonGate$Garden", "reachOnFrom", "(III)I"⟩, 9)]
theorem lw_r2 : ∀ q ∈ lw_privs_2, lw_okq q := List.forall_mem_cons.mpr ⟨lw_p16, List.forall_mem_cons.mpr ⟨lw_p17, List.forall_mem_cons.mpr ⟨lw_p18, List.forall_mem_cons.mpr ⟨lw_p19, List.forall_mem_cons.mpr ⟨lw_p20, List.forall_mem_cons.mpr ⟨lw_p21, List.forall_mem_cons.mpr ⟨lw_p22, List.forall_mem_cons.mpr ⟨lw_p23, List.forall_mem_cons.mpr ⟨lw_p24, List.forall_mem_cons.mpr ⟨lw_p25, List.forall_mem_cons.mpr ⟨lw_p26, List.forall_mem_cons.mpr ⟨lw_p27, List.forall_mem_cons.mpr ⟨lw_p28, List.forall_mem_cons.mpr ⟨lw_p29, fun _ h => absurd h List.not_mem_nil⟩⟩⟩⟩⟩⟩⟩⟩⟩⟩⟩⟩⟩⟩
def lw_privs : List (MethodName × Nat) := lw_privs_1 ++ (lw_privs_2)
def lw_tbl : List Cond := k2_sels lw_privs ++ tables_1
theorem lw_privs_ok : ∀ q ∈ lw_privs, lw_okq q := by
  show ∀ q ∈ lw_privs_1 ++ (lw_privs_2), lw_okq q
  exact List.forall_mem_append.mpr ⟨lw_r1, lw_r2⟩
/-- the streams that the claim lets the run draw from -/
abbrev lw_cs : List Choice := [Jvm.Choice.named "NaN.bits"]
theorem lw_bits : nanBits ∈ lw_cs := by first | decide | exact List.mem_cons_self | simp [lw_cs, nanBits]
-- ===== end of PART A; then your names; then what follows =====
/-! ===== BEGIN words of one list among another's, by their places ===== -/
theorem goodIn_r {big : List Cond} (ws : List Cond) (ps : List Nat) (hp : ws = ps.filterMap (fun i => big[i]?)) (h : ws.all goodWord = true) : GoodIn big ws := by
  intro w hw
  have h1 := List.all_eq_true.mp h w hw
  rw [hp] at hw
  obtain ⟨i, -, hi⟩ := List.mem_filterMap.mp hw
  have hm : w ∈ big := by first | exact List.mem_of_getElem? hi | exact List.getElem?_mem hi
  exact ⟨hm, good_of_word h1⟩
theorem goodIn_app {big a b : List Cond} (ha : GoodIn big a) (hb : GoodIn big b) : GoodIn big (a ++ b) := fun w h => (List.mem_append.mp h).elim (ha w) (hb w)
theorem goodIn_ca {big a b : List Cond} {c : Cond} (ha : GoodIn big (c :: a)) (hb : GoodIn big b) : GoodIn big (c :: (a ++ b)) := fun w h => (List.mem_cons.mp h).elim (fun e => ha w (List.mem_cons.mpr (Or.inl e))) (fun h => (List.mem_append.mp h).elim (fun h => ha w (List.mem_cons.mpr (Or.inr h))) (hb w))
theorem goodIn_sub {big ws : List Cond} (hm : ∀ w ∈ ws, w ∈ big) (h : ws.all goodWord = true) : GoodIn big ws := fun w hw => ⟨hm w hw, good_of_word (List.all_eq_true.mp h w hw)⟩
/-! ===== END ===== -/

/-! ===== BEGIN exceptions that leave a method, and their catching by the caller (launches without stack traces) ===== -/
section VXA
/-! The laws vx_back, vx_callV, vx_callS, vx_callSW, vx_throw0, vx_throwS follow proofs of the library, with one case more: JvmDerived/Free/Laws.lean (Back.of_free), Shelf42/LK1.lean (callV, callS), Shelf/KitTraced.lean (throwNew0V, throwNewS). -/
/-- where a method has thrown q: the class by its name, the cell, what was written, the world -/
def vx_T (XC : String → State → State → Prop) (st : State) (q : Addr) (t : State) (mc ms : Nat) (free : Addr → Prop) : Prop :=
  ∃ (E : String) (ce : Cell) (L : List Loc), XC E st t ∧ t.heap[q]? = some ce ∧ ce.vm = .none ∧ st.vm.findClass E = some ce.cls ∧ st.WarmedH t.vm ∧ st.sameButNew ({ t with vm := st.vm } : State) L mc ms ∧ ∀ z ∈ L, free z.base
def vx_Q (Qc : Array Value → State → Outcome → State → Prop) (XC : String → State → State → Prop) (mc ms : Nat) (free : Addr → Prop) : Array Value → State → Outcome → State → Prop := fun a st o t =>
  (Qc a st o t ∧ ∃ L, FrameEnd st o t L mc ms ∧ ∀ q ∈ L, free q.base) ∨ ∃ q, o = .threw q ∧ vx_T XC st q t mc ms free
/-- a callee that returns or throws -/
def vx_Met (l : Launch) (y : MethodName) (ws : List Cond) (rm : Room) (Pc : Array Value → State → Prop) (Qc : Array Value → State → Outcome → State → Prop) (XC : String → State → State → Prop) (mc ms : Nat) (free : Addr → Prop) : Prop :=
  MetFree l y (headSpec ws rm) Pc (fun _ _ _ _ _ => True) (vx_Q Qc XC mc ms free)
def vx_Post (XC : String → State → State → Prop) (mc ms : Nat) (free : Addr → Prop) : Pt → Array Value → Addr → Pt → Prop := fun A a q B =>
  ∃ (g : JFrame) (mk : MethodId) (t : State) (L : List Loc) (E : String) (ce : Cell), B.U.heap = t.heap ∧ B.U.vm = t.vm ∧ XC E (A.U.calling g mk a) t ∧ t.heap[q]? = some ce ∧ ce.vm = .none ∧ A.U.vm.findClass E = some ce.cls ∧ B.locs = A.locs ++ L ∧ (∀ z ∈ L, free z.base) ∧ B.cells = A.cells + mc ∧ B.slots = A.slots + ms
def vx_Back (l : Launch) (R : Room) (p : Program) (e : Env) (below : List Frame) (s : State) (sargs : Array Value) (y : MethodName) (len W9 : Nat)
    (Pre : Pt → Array Value → Prop) (Post : Pt → Array Value → Option Value → Pt → Prop) (PostX : Pt → Array Value → Addr → Pt → Prop) : Prop :=
  ∀ (m : MethodId) (meth : Method) (c : Code) (A : Pt) (g : JFrame) (ig : Instr) (mk : MethodId) (a : Array Value),
    Stand p l e R s m sargs below meth c A.U A.locs A.cells A.slots → g.method = m → g.locals.size = c.maxLocals → decode c.code g.pc = .ok (ig, len) →
    2 * g.monitorRoom + (g.stack.map fun v => v.category).sum ≤ W9 → A.U.methodNamed? y = some mk → Pre A a →
    (∃ (v : Option Value) (B : Pt), Stand p l e R s m sargs below meth c B.U B.locs B.cells B.slots ∧ Post A a v B ∧
      Steps p.tables e below (doInvoke e (A.U.setTop g) [] mk a).1 (B.U.setTop { g with pc := g.pc + len, stack := v.toList ++ g.stack })) ∨
    (∃ (q : Addr) (B : Pt), Stand p l e R s m sargs below meth c B.U B.locs B.cells B.slots ∧ PostX A a q B ∧
      Steps p.tables e below (doInvoke e (A.U.setTop g) [] mk a).1 ((B.U.setTop g).pushFrame (.throwing q)))
section Payer
variable {l : Launch} {R : Room} {p : Program} {e : Env} {below : List Frame} {s : State} {sargs : Array Value} {y : MethodName} {len W9 : Nat}
theorem vx_back {ws : List Cond} {rm : Room} {Pc : Array Value → State → Prop} {Qc : Array Value → State → Outcome → State → Prop} {XC : String → State → State → Prop} {mc ms : Nat} {free : Addr → Prop} {bytes : ByteArray} {maxL : Nat} {ret : Option FieldType}
    (hM : vx_Met l y ws rm Pc Qc XC mc ms free) (hblind : FrameBlind Pc) (hrc : rm.cells = mc) (hrs : rm.slots = ms)
    (hframes : rm.frames + 1 ≤ R.frames) (hlocals : W9 + (maxL + 11) + rm.locals ≤ R.locals)
    (hws : ∀ w ∈ ws, ∀ a' U, s.WarmedH U.vm → w.before a' U = true) (hcode : Cond.code y bytes maxL ret ∈ ws) (hinit : ∀ a' U, s.WarmedH U.vm → (Cond.initialized y.cls).before a' U = true) :
    vx_Back l R p e below s sargs y len W9 (PreOf R mc ms Pc) (PostOf Qc mc ms free) (vx_Post XC mc ms free) := by
  intro m meth c A g ig mk a X hg hsize hdg hW hn hp
  have h1 : (headSpec ws rm).pre.before a A.U = true := atoms_intro fun w hw => hws w hw _ _ X.warmed
  have h2 : (Cond.code y bytes maxL ret).before a A.U = true := hws _ hcode _ _ X.warmed
  have h3 : (Cond.initialized y.cls).before a A.U = true := hinit _ _ X.warmed
  have h4 : A.cells + (headSpec ws rm).room.cells ≤ R.cells := by rw [show (headSpec ws rm).room.cells = mc from hrc]; exact hp.1
  have h5 : A.slots + (headSpec ws rm).room.slots ≤ R.slots := by rw [show (headSpec ws rm).room.slots = ms from hrs]; exact hp.2.1
  have hPc : Pc a (A.U.calling g mk a) := hblind _ _ _ _ hp.2.2
  obtain ⟨U, Ls, c0, s0⟩ := A
  dsimp only [Pt.U, Pt.locs, Pt.cells, Pt.slots] at h1 h2 h3 h4 h5 X hn hPc ⊢
  obtain ⟨methY, cY, hmY, hcY, -, hlY, -, -, -, -⟩ := Cond.code_spec hn h2
  obtain ⟨kY, hkY, -⟩ := className_of_methodNamed hn
  have hinitY : kY.init = .initialized := Cond.initialized_spec (findClass_of_methodNamed hn) hkY h3
  have h : At U g.method c below := by rw [hg]; exact X.here
  have hlocals9 : W9 + (maxL + 11) + (headSpec ws rm).room.locals ≤ R.locals := hlocals
  have happ : (headSpec ws rm).appliesLoose y e.platform (U.calling g mk a) = true :=
    Spec.appliesLoose_calling (g := g) h hdg hn hkY hinitY
      (X.room_calling (g := g) (R' := (headSpec ws rm).room) hsize hmY hcY hframes (by rw [hlY]; omega) h4 h5) h1
  obtain ⟨mid, hmid⟩ := h.above
  have hfr : (U.setTop g).frames = (.java g :: mid) ++ below := by rw [State.frames_setTop' g h.top, hmid]; rfl
  obtain ⟨o, s₂, hsteps, -, hend, hq⟩ := Steps.callFree hM p X.admits X.cas X.clock (acts := []) hfr happ hPc trivial
  have hq' : vx_Q Qc XC mc ms free a (U.calling g mk a) o s₂ := hq
  rw [State.frames_setTop' g h.top] at hend
  obtain ⟨g₀, hg0⟩ := Option.isSome_iff_exists.mp h.top
  obtain ⟨r, hr⟩ := State.topJava?_eq_some.mp hg0
  have hr' : (({ U with heap := s₂.heap, slotsUsed := s₂.slotsUsed } : State).setVm s₂.vm).frames = .java g₀ :: r := hr
  rcases hq' with ⟨hqc, L, hfe, hL⟩ | ⟨q, rfl, E, ce, L, hx, hce, hcv, hcl, hW₂, hsm, hL⟩
  · obtain ⟨⟨v, rfl⟩, hW₂, e2, q2, q3, q4, q5, q6⟩ := id hfe
    have e3 : s₂ = ({ (U.calling g mk a).setFrames s₂.frames with heap := s₂.heap, slotsUsed := s₂.slotsUsed } : State).setVm s₂.vm := by
      have : s₂ = ({ s₂ with vm := (U.calling g mk a).vm } : State).setVm s₂.vm := rfl
      rw [e2] at this
      exact this
    obtain ⟨c₂, i₂, len₂, hc₂, hd₂, hf₂⟩ := hend
    have hW' : U.WarmedH s₂.vm := hW₂
    have hcc : c₂ = c := by
      have h1 : s₂.code? g.method = U.code? g.method := by
        rw [State.code?_eq, State.code?_eq, hW'.alike.method?]
      exact Option.some.inj (hc₂.symm.trans (h1.trans h.code))
    subst hcc
    have hlen : len₂ = len := by rw [hdg] at hd₂; cases hd₂; rfl
    subst hlen
    have hs₂ : s₂ = (({ U with heap := s₂.heap, slotsUsed := s₂.slotsUsed } : State).setVm s₂.vm).setTop { g with pc := g.pc + len₂, stack := v.toList ++ g.stack } := by
      refine e3.trans ?_
      rw [hf₂, State.calling_eq h.top, State.setFrames_setFrames, State.setTop_of_frames _ hr', hr]
      rfl
    have hsame : U.sameButNew ({ U with heap := s₂.heap, slotsUsed := s₂.slotsUsed } : State) L mc ms := by
      refine ⟨?_, q2, q3, q4, q5, q6⟩
      obtain ⟨t, ht, -⟩ := State.frames_cons hr
      show ({ U with heap := s₂.heap, slotsUsed := s₂.slotsUsed } : State) = { U.setFrames U.frames with heap := s₂.heap, slotsUsed := s₂.slotsUsed }
      rw [State.setFrames_self ht]
    subst hg
    refine Or.inl ⟨v, ⟨(({ U with heap := s₂.heap, slotsUsed := s₂.slotsUsed } : State).setVm s₂.vm), Ls ++ L, c0 + mc, s0 + ms⟩,
      ⟨X.admits, X.cas, X.clock, X.frames, X.room, X.hears, X.method, X.code, (X.here.setHeapUsed s₂.heap s₂.slotsUsed).setVm hW'.alike, X.tail, State.WarmedH.trans X.warmed hW', X.limits, X.bytes, X.same.trans (hsame.setVm s.vm)⟩,
      ⟨g, mk, s₂, L, rfl, rfl, hqc, rfl, hL, rfl, rfl⟩, ?_⟩
    show Steps p.tables e below _ ((({ U with heap := s₂.heap, slotsUsed := s₂.slotsUsed } : State).setVm s₂.vm).setTop { g with pc := g.pc + len₂, stack := v.toList ++ g.stack })
    rw [← hs₂]
    exact hsteps
  · obtain ⟨e2, q2, q3, q4, q5, q6⟩ := id hsm
    have e3 : s₂ = ({ (U.calling g mk a).setFrames s₂.frames with heap := s₂.heap, slotsUsed := s₂.slotsUsed } : State).setVm s₂.vm := by
      have : s₂ = ({ s₂ with vm := (U.calling g mk a).vm } : State).setVm s₂.vm := rfl
      rw [e2] at this
      exact this
    have hf₂ : s₂.frames = .throwing q :: .java g :: U.frames.tail := hend
    have hW' : U.WarmedH s₂.vm := hW₂
    have hs₂ : s₂ = ((({ U with heap := s₂.heap, slotsUsed := s₂.slotsUsed } : State).setVm s₂.vm).setTop g).pushFrame (.throwing q) := by
      refine e3.trans ?_
      rw [hf₂, State.calling_eq h.top, State.setFrames_setFrames, State.pushFrame, State.frames_setTop _ hr', State.setTop_of_frames _ hr', State.setFrames_setFrames, hr]
      rfl
    have hsame : U.sameButNew ({ U with heap := s₂.heap, slotsUsed := s₂.slotsUsed } : State) L mc ms := by
      refine ⟨?_, q2, q3, q4, q5, q6⟩
      obtain ⟨t, ht, -⟩ := State.frames_cons hr
      show ({ U with heap := s₂.heap, slotsUsed := s₂.slotsUsed } : State) = { U.setFrames U.frames with heap := s₂.heap, slotsUsed := s₂.slotsUsed }
      rw [State.setFrames_self ht]
    subst hg
    refine Or.inr ⟨q, ⟨(({ U with heap := s₂.heap, slotsUsed := s₂.slotsUsed } : State).setVm s₂.vm), Ls ++ L, c0 + mc, s0 + ms⟩,
      ⟨X.admits, X.cas, X.clock, X.frames, X.room, X.hears, X.method, X.code, (X.here.setHeapUsed s₂.heap s₂.slotsUsed).setVm hW'.alike, X.tail, State.WarmedH.trans X.warmed hW', X.limits, X.bytes, X.same.trans (hsame.setVm s.vm)⟩,
      ⟨g, mk, s₂, L, E, ce, rfl, rfl, hx, hce, hcv, hcl, rfl, hL, rfl, rfl⟩, ?_⟩
    show Steps p.tables e below _ (((({ U with heap := s₂.heap, slotsUsed := s₂.slotsUsed } : State).setVm s₂.vm).setTop g).pushFrame (.throwing q))
    rw [← hs₂]
    exact hsteps
end Payer
section Calls
variable {p : Program} {l : Launch} {e : Env} {R : Room} {s : State} {m : MethodId} {args : Array Value} {below : List Frame} {meth : Method} {c : Code} {T : State} {locs : List Loc} {cells slots : Nat}
theorem vx_callV (X : Stand p l e R s m args below meth c T locs cells slots) (hexec : p.tables.exec = Jvm.exec) {own C : String} {index : Nat} {y : MethodName} {bytes : ByteArray} {maxL : Nat} {ret : Option FieldType}
    (hown : s.vm.findClass own = some m.cls) (hlink : (Cond.methodLink own index y).before args s = true) (hinst : (Cond.instanceMethod y).before args s = true) (hsel : (Cond.selects C y y).before args s = true)
    (hcode : (Cond.code y bytes maxL ret).before args s = true) (hy : y.cls ≠ "java/lang/invoke/MethodHandle" ∧ y.cls ≠ "java/lang/invoke/VarHandle")
    {W9 : Nat} {Pre : Pt → Array Value → Prop} {Post : Pt → Array Value → Option Value → Pt → Prop} {PostX : Pt → Array Value → Addr → Pt → Prop} (hK : vx_Back l R p e below s args y 3 W9 Pre Post PostX)
    {b : Addr} {cellB : Cell} (hcell : T.heap[b]? = some cellB) (hobj : cellB.vm.isStatics = false) (hcls : s.vm.findClass C = some cellB.cls)
    {g : JFrame} (hg : g.method = m) (hsize : g.locals.size = c.maxLocals) {argsL rest : List Value} (hlen : ∀ sig, parseMethodDescriptor y.desc = some sig → argsL.length = sig.parameters.length)
    (hstack : g.stack = argsL.reverse ++ .ref b :: rest) (hW : 2 * g.monitorRoom + (rest.map fun v => v.category).sum ≤ W9) (hdg : decode c.code g.pc = .ok (.invokevirtual index, 3))
    (hpre : ∀ vm₁, s.WarmedH vm₁ → Pre ⟨T.setVm vm₁, locs, cells, slots⟩ (Value.ref b :: argsL).toArray) :
    (∃ (v : Option Value) (vm₁ : Vm) (B : Pt), s.WarmedH vm₁ ∧ Stand p l e R s m args below meth c B.U B.locs B.cells B.slots ∧ Post ⟨T.setVm vm₁, locs, cells, slots⟩ (Value.ref b :: argsL).toArray v B ∧
      ∀ target, Steps p.tables e below (B.U.setTop { g with pc := g.pc + 3, stack := v.toList ++ rest }) target → Steps p.tables e below (T.setTop g) target) ∨
    (∃ (q : Addr) (vm₁ : Vm) (B : Pt), s.WarmedH vm₁ ∧ Stand p l e R s m args below meth c B.U B.locs B.cells B.slots ∧ PostX ⟨T.setVm vm₁, locs, cells, slots⟩ (Value.ref b :: argsL).toArray q B ∧
      Steps p.tables e below (T.setTop g) ((B.U.setTop { g with stack := rest }).pushFrame (.throwing q))) := by
  obtain ⟨mk, methM, hnamed, hmethM, hstM, habM⟩ := Cond.instanceMethod_spec hinst
  obtain ⟨methM', cM, hmethM', -, -, -, -, -, -, hsigM⟩ := Cond.code_spec hnamed hcode
  cases hmethM.symm.trans hmethM'
  obtain ⟨c2, r2, m2, q1, q2, q3, q4, kP, hkP, hkPi⟩ := Cond.selects_spec hsel
  cases hcls.symm.trans q1
  cases (State.methodFound?_of_named hnamed hy).symm.trans q2
  cases hnamed.symm.trans q3
  have hselP : selectMethod e.platform s.vm cellB.cls mk = .method mk := by rw [Launch.admits_selectMethod X.admits]; exact q4
  obtain ⟨vm₁, X₁, hstep₁⟩ := X.invokevirtual hexec hown hlink hnamed hmethM hstM hkP hkPi hy (a := b) (cell := cellB) hcell
    (fun z h => by rw [h] at hobj; cases hobj) hselP hmethM habM hkP hkPi (g := g) hg (argsL := argsL) (rest := rest) (hlen _ hsigM) hstack hdg
  rcases hK m meth c ⟨T.setVm vm₁, locs, cells, slots⟩ { g with stack := rest } (.invokevirtual index) mk (Value.ref b :: argsL).toArray X₁ hg hsize hdg hW (X₁.named hnamed) (hpre vm₁ X₁.warmed) with ⟨v, B, X', hpost, hsteps⟩ | ⟨q, B, X', hpost, hsteps⟩
  · exact Or.inl ⟨v, vm₁, B, X₁.warmed, X', hpost, fun target h => hstep₁ _ fun acts => by rw [doInvoke_state]; exact hsteps.trans h⟩
  · exact Or.inr ⟨q, vm₁, B, X₁.warmed, X', hpost, hstep₁ _ fun acts => by rw [doInvoke_state]; exact hsteps⟩
theorem vx_callS (X : Stand p l e R s m args below meth c T locs cells slots) (hexec : p.tables.exec = Jvm.exec) {own : String} {index : Nat} {y : MethodName} {bytes : ByteArray} {maxL : Nat} {ret : Option FieldType}
    (hown : s.vm.findClass own = some m.cls) (hlink : (Cond.methodLink own index y).before args s = true) (hstat : (Cond.static y).before args s = true) (hinit : (Cond.initialized y.cls).before args s = true)
    (hcode : (Cond.code y bytes maxL ret).before args s = true) (hy : y.cls ≠ "java/lang/invoke/MethodHandle" ∧ y.cls ≠ "java/lang/invoke/VarHandle")
    {W9 : Nat} {Pre : Pt → Array Value → Prop} {Post : Pt → Array Value → Option Value → Pt → Prop} {PostX : Pt → Array Value → Addr → Pt → Prop} (hK : vx_Back l R p e below s args y 3 W9 Pre Post PostX)
    {g : JFrame} (hg : g.method = m) (hsize : g.locals.size = c.maxLocals) {argsL rest : List Value} (hlen : ∀ sig, parseMethodDescriptor y.desc = some sig → argsL.length = sig.parameters.length)
    (hstack : g.stack = argsL.reverse ++ rest) (hW : 2 * g.monitorRoom + (rest.map fun v => v.category).sum ≤ W9) (hdg : decode c.code g.pc = .ok (.invokestatic index, 3))
    (hpre : ∀ vm₁, s.WarmedH vm₁ → Pre ⟨T.setVm vm₁, locs, cells, slots⟩ argsL.toArray) :
    (∃ (v : Option Value) (vm₁ : Vm) (B : Pt), s.WarmedH vm₁ ∧ Stand p l e R s m args below meth c B.U B.locs B.cells B.slots ∧ Post ⟨T.setVm vm₁, locs, cells, slots⟩ argsL.toArray v B ∧
      ∀ target, Steps p.tables e below (B.U.setTop { g with pc := g.pc + 3, stack := v.toList ++ rest }) target → Steps p.tables e below (T.setTop g) target) ∨
    (∃ (q : Addr) (vm₁ : Vm) (B : Pt), s.WarmedH vm₁ ∧ Stand p l e R s m args below meth c B.U B.locs B.cells B.slots ∧ PostX ⟨T.setVm vm₁, locs, cells, slots⟩ argsL.toArray q B ∧
      Steps p.tables e below (T.setTop g) ((B.U.setTop { g with stack := rest }).pushFrame (.throwing q))) := by
  obtain ⟨mk, hnamed⟩ := Cond.code_named hcode
  obtain ⟨methM, cM, hmethM, -, -, -, -, -, -, hsigM⟩ := Cond.code_spec hnamed hcode
  have hstatic : methM.isStatic = true := Cond.static_spec hnamed hmethM hstat
  obtain ⟨kP, hkP, -⟩ := className_of_methodNamed hnamed
  have hinitP : kP.init = .initialized := Cond.initialized_spec (findClass_of_methodNamed hnamed) hkP hinit
  obtain ⟨vm₁, X₁, hstep₁⟩ := X.invokestatic hexec hown hlink hnamed hmethM hstatic hkP hinitP hy (g := g) hg (argsL := argsL) (rest := rest) (hlen _ hsigM) hstack hdg
  rcases hK m meth c ⟨T.setVm vm₁, locs, cells, slots⟩ { g with stack := rest } (.invokestatic index) mk argsL.toArray X₁ hg hsize hdg hW (X₁.named hnamed) (hpre vm₁ X₁.warmed) with ⟨v, B, X', hpost, hsteps⟩ | ⟨q, B, X', hpost, hsteps⟩
  · exact Or.inl ⟨v, vm₁, B, X₁.warmed, X', hpost, fun target h => hstep₁ _ fun acts => by rw [doInvoke_state]; exact hsteps.trans h⟩
  · exact Or.inr ⟨q, vm₁, B, X₁.warmed, X', hpost, hstep₁ _ fun acts => by rw [doInvoke_state]; exact hsteps⟩
end Calls
theorem vx_cls {s : State} {T : State} {vm₁ : Vm} {E : String} {k : ClassId} (hW : s.WarmedH vm₁) (h : (T.setVm vm₁).vm.findClass E = some k) : s.vm.findClass E = some k := by
  have h1 : vm₁.findClass E = some k := h
  rw [hW.alike.findClass] at h1
  exact h1
/-- the method's frame g, with q thrown over it -/
def vx_W (p : Program) (l : Launch) (e : Env) (R : Room) (s : State) (m : MethodId) (args : Array Value) (below : List Frame) (meth : Method) (c : Code) (H : Heap) (locs : List Loc) (cells slots : Nat) (Q : State → Prop) (g : JFrame) (q : Addr) : Prop :=
  ∀ T : State, T.heap = H → Stand p l e R s m args below meth c T locs cells slots → ∃ t, Steps p.tables e below ((T.setTop g).pushFrame (.throwing q)) t ∧ Q t
def vx_Run (p : Program) (l : Launch) (e : Env) (R : Room) (s : State) (m : MethodId) (args : Array Value) (below : List Frame) (meth : Method) (c : Code) (H : Heap) (locs : List Loc) (cells slots mc ms : Nat) (g : JFrame) (rest : List Value) (Qa : State → Outcome → State → Prop) (XC : String → State → State → Prop) (free : Addr → Prop) : Prop :=
  ∀ T : State, T.heap = H → Stand p l e R s m args below meth c T locs cells slots →
    (∃ (v : Option Value) (st₀ t T' : State) (L : List Loc), st₀.heap = H ∧ Stand p l e R s m args below meth c T' (locs ++ L) (cells + mc) (slots + ms) ∧ (∀ q ∈ L, free q.base) ∧ T'.heap = t.heap ∧ T'.vm = t.vm ∧ Qa st₀ (.returned v) t ∧
      Goes p e below T g T' { g with pc := g.pc + 3, stack := v.toList ++ rest }) ∨
    (∃ (q : Addr) (st₀ t T' : State) (L : List Loc) (E : String) (ce : Cell), st₀.heap = H ∧ Stand p l e R s m args below meth c T' (locs ++ L) (cells + mc) (slots + ms) ∧ (∀ z ∈ L, free z.base) ∧ T'.heap = t.heap ∧ T'.vm = t.vm ∧ XC E st₀ t ∧ t.heap[q]? = some ce ∧ ce.vm = .none ∧ s.vm.findClass E = some ce.cls ∧
      Steps p.tables e below (T.setTop g) ((T'.setTop { g with stack := rest }).pushFrame (.throwing q)))
def vx_X {S : Type} (px : S → Prop) (B : String → S → State → Prop) (A : Nat → Prop) : String → State → State → Prop := fun E st t => ∃ u : S, px u ∧ B E u t ∧ va_F A st t
section Runs
variable {p : Program} {l : Launch} {e : Env} {R : Room} {s : State} {m : MethodId} {args : Array Value} {below : List Frame} {meth : Method} {c : Code} {H : Heap} {locs : List Loc} {cells slots : Nat}
variable {y : MethodName} {bytes cc : ByteArray} {maxL nL mc ms n index : Nat} {ret : Option FieldType} {ws : List Cond} {rm : Room} {Pc : Array Value → State → Prop} {Qc : Array Value → State → Outcome → State → Prop} {XC : String → State → State → Prop} {free : Addr → Prop} {Ts : List Cond} {own C : String} {b : Addr} {As rest : List Value} {g : JFrame}
theorem vx_callBack (cb : CallB R s args own index y bytes maxL ret ws rm mc ms n) (hM : vx_Met l y ws rm Pc Qc XC mc ms free) (hbl : FrameBlind Pc) : vx_Back l R p e below s args y 3 8 (PreOf R mc ms Pc) (PostOf Qc mc ms free) (vx_Post XC mc ms free) := by
  obtain ⟨hrc, hrs, hfr, hlo, hws, hcw, -, hini, -⟩ := cb
  exact vx_back (bytes := bytes) (maxL := maxL) (ret := ret) hM hbl hrc hrs hfr hlo hws hcw (fun a' U hW => word_at hW (Or.inl (by first | rfl | simp [Cond.onTables, Cond.keeps, Cond.steady])) hini)
theorem vx_runV (S : CallFix p m c cc nL s args Ts own) (hM : vx_Met l y ws rm Pc Qc XC mc ms free) (cw : CallW R s args own C index y bytes maxL ret ws rm mc ms n) (hp : PreV s H C b Pc As)
    (hg : g.method = m) (hn : As.length = n) (hsize : g.locals.size = nL) (hstack : g.stack = As.reverse ++ .ref b :: rest) (hW : 2 * g.monitorRoom + (rest.map fun v => v.category).sum ≤ 8) (hdg : decode cc g.pc = .ok (.invokevirtual index, 3)) (hf : cells + mc ≤ R.cells ∧ slots + ms ≤ R.slots) :
    vx_Run p l e R s m args below meth c H locs cells slots mc ms g rest (Qc (Value.ref b :: As).toArray) XC free := by
  have hK : vx_Back l R p e below s args y 3 8 (PreOf R mc ms Pc) (PostOf Qc mc ms free) (vx_Post XC mc ms free) := vx_callBack cw.1 hM hp.1
  obtain ⟨⟨-, -, -, -, -, -, hcode, -, hy, hlen, hl⟩, hin, hse⟩ := cw
  obtain ⟨hx, hb, hml, ho, -⟩ := S
  obtain ⟨-, ⟨cellB, hcB, hoB, hclB⟩, hPc⟩ := hp
  intro T hT X
  rcases vx_callV X hx (C := C) (bytes := bytes) (maxL := maxL) (ret := ret) ho hl hin hse hcode hy hK (by rw [hT]; exact hcB) hoB hclB hg (hsize.trans hml.symm) (argsL := As) (rest := rest) (fun sig h => hn.trans (hlen sig h)) hstack hW (by rw [hb]; exact hdg)
    (fun vm₁ hW₁ => ⟨hf.1, hf.2, hPc (T.setVm vm₁) hT hW₁⟩) with ⟨v, vm₁, ⟨U', l2, c2, s2⟩, hW₁, X', ⟨g', mk, t, L, e1, e2, hq, h1, hL, h2, h3⟩, st⟩ | ⟨q, vm₁, ⟨U', l2, c2, s2⟩, hW₁, X', ⟨g', mk, t, L, E, ce, e1, e2, hq, hce, hcv, hcl, h1, hL, h2, h3⟩, st⟩
  · dsimp only [Pt.U, Pt.locs, Pt.cells, Pt.slots] at X' e1 e2 h1 h2 h3 st
    subst h1; subst h2; subst h3
    exact Or.inl ⟨v, (T.setVm vm₁).calling g' mk (Value.ref b :: As).toArray, t, U', L, hT, X', hL, e1, e2, hq, st⟩
  · dsimp only [Pt.U, Pt.locs, Pt.cells, Pt.slots] at X' e1 e2 h1 h2 h3 st hcl
    subst h1; subst h2; subst h3
    exact Or.inr ⟨q, (T.setVm vm₁).calling g' mk (Value.ref b :: As).toArray, t, U', L, E, ce, hT, X', hL, e1, e2, hq, hce, hcv, vx_cls hW₁ hcl, st⟩
theorem vx_runS (S : CallFix p m c cc nL s args Ts own) (hM : vx_Met l y ws rm Pc Qc XC mc ms free) (cw : CallB R s args own index y bytes maxL ret ws rm mc ms n ∧ (Cond.static y).before args s = true) (hp : PreS s H Pc As)
    (hg : g.method = m) (hn : As.length = n) (hsize : g.locals.size = nL) (hstack : g.stack = As.reverse ++ rest) (hW : 2 * g.monitorRoom + (rest.map fun v => v.category).sum ≤ 8) (hdg : decode cc g.pc = .ok (.invokestatic index, 3)) (hf : cells + mc ≤ R.cells ∧ slots + ms ≤ R.slots) :
    vx_Run p l e R s m args below meth c H locs cells slots mc ms g rest (Qc As.toArray) XC free := by
  have hK : vx_Back l R p e below s args y 3 8 (PreOf R mc ms Pc) (PostOf Qc mc ms free) (vx_Post XC mc ms free) := vx_callBack cw.1 hM hp.1
  obtain ⟨⟨-, -, -, -, -, -, hcode, hini, hy, hlen, hl⟩, hstt⟩ := cw
  obtain ⟨hx, hb, hml, ho, -⟩ := S
  intro T hT X
  rcases vx_callS X hx (bytes := bytes) (maxL := maxL) (ret := ret) ho hl hstt hini hcode hy hK hg (hsize.trans hml.symm) (argsL := As) (rest := rest) (fun sig h => hn.trans (hlen sig h)) hstack hW (by rw [hb]; exact hdg)
    (fun vm₁ hW₁ => ⟨hf.1, hf.2, hp.2 (T.setVm vm₁) hT hW₁⟩) with ⟨v, vm₁, ⟨U', l2, c2, s2⟩, hW₁, X', ⟨g', mk, t, L, e1, e2, hq, h1, hL, h2, h3⟩, st⟩ | ⟨q, vm₁, ⟨U', l2, c2, s2⟩, hW₁, X', ⟨g', mk, t, L, E, ce, e1, e2, hq, hce, hcv, hcl, h1, hL, h2, h3⟩, st⟩
  · dsimp only [Pt.U, Pt.locs, Pt.cells, Pt.slots] at X' e1 e2 h1 h2 h3 st
    subst h1; subst h2; subst h3
    exact Or.inl ⟨v, (T.setVm vm₁).calling g' mk As.toArray, t, U', L, hT, X', hL, e1, e2, hq, st⟩
  · dsimp only [Pt.U, Pt.locs, Pt.cells, Pt.slots] at X' e1 e2 h1 h2 h3 st hcl
    subst h1; subst h2; subst h3
    exact Or.inr ⟨q, (T.setVm vm₁).calling g' mk As.toArray, t, U', L, E, ce, hT, X', hL, e1, e2, hq, hce, hcv, vx_cls hW₁ hcl, st⟩
end Runs
section Rows
variable {p : Program} {l : Launch} {e : Env} {R : Room} {s : State} {m : MethodId} {args : Array Value} {below : List Frame} {meth : Method} {c : Code} {H : Heap} {locs : List Loc} {cells slots : Nat} {Q : State → Prop}
variable {mc ms : Nat} {free : Addr → Prop} {A0 A1 : Nat → Prop} {H0 : Heap} {a : Array Value} {pc : Nat} {ls : Array Slot} {st0 rest : List Value}
theorem vx_keep {st₀ t T' : State} {L : List Loc} (h0 : st₀.heap = H) (e1 : T'.heap = t.heap) (hS : va_S A0 H0 H locs) (hA : ∀ q, q < H.size → A1 q → A0 q) (hf : ∀ q, free q → A0 q) (hL : ∀ q ∈ L, free q.base) (hF : va_F A1 st₀ t) :
    H.size ≤ T'.heap.size ∧ (∀ q : Nat, q < H.size → ¬ A1 q → T'.heap[q]? = H[q]?) ∧ va_S A0 H0 T'.heap (locs ++ L) := by
  obtain ⟨hz, hk⟩ := hF
  rw [h0] at hz hk
  exact ⟨by rw [e1]; exact hz, fun q h1 h2 => by rw [e1]; exact hk q h1 h2,
    ⟨Nat.le_trans hS.1 (by rw [e1]; exact hz), fun q h1 h2 => by rw [e1, hk q (Nat.lt_of_lt_of_le h1 hS.1) (fun z => h2 (hA q (Nat.lt_of_lt_of_le h1 hS.1) z))]; exact hS.2.1 q h1 h2, fun q hq => by
      rcases List.mem_append.mp hq with h | h
      · exact hS.2.2 q h
      · exact hf _ (hL q h)⟩⟩
theorem vx_calli {S SX : Type} {post : Int32 → S → Prop} {px : SX → Prop} {B : S → State → Prop} {BX : String → SX → State → Prop} {AX : Nat → Prop} (hr : vx_Run p l e R s m args below meth c H locs cells slots mc ms (F0 m pc ls st0) rest (va_Qi post B A1 a) (vx_X px BX AX) free) (hS : va_S A0 H0 H locs) (hA : ∀ q, q < H.size → A1 q → A0 q) (hf : ∀ q, free q → A0 q) (hAX : ∀ q, q < H.size → AX q → A0 q)
    (kx : ∀ (E : String) (ce : Cell) (q9 : Addr) (u : SX) (t : State) (H1 : Heap) (locs1 : List Loc), t.heap = H1 → s.vm.Alike t.vm → px u → BX E u t → H.size ≤ H1.size → (∀ q : Nat, q < H.size → ¬ AX q → H1[q]? = H[q]?) → va_S A0 H0 H1 locs1 → H1[q9]? = some ce → ce.vm = .none → s.vm.findClass E = some ce.cls → vx_W p l e R s m args below meth c H1 locs1 (cells + mc) (slots + ms) Q (F0 m pc ls rest) q9)
    (kk : ∀ (r : Int32) (u : S) (t : State) (H1 : Heap) (locs1 : List Loc), t.heap = H1 → s.vm.Alike t.vm → post r u → B u t → H.size ≤ H1.size → (∀ q : Nat, q < H.size → ¬ A1 q → H1[q]? = H[q]?) → va_S A0 H0 H1 locs1 → W p l e R s m args below meth c H1 locs1 (cells + mc) (slots + ms) Q (F0 m (pc + 3) ls (.int r :: rest))) : W p l e R s m args below meth c H locs cells slots Q (F0 m pc ls st0) := by
  intro T hT X
  rcases hr T hT X with ⟨v, st₀, t, T', L, h0, X', hL, e1, e2, ⟨⟨r, u, hv, hp, hb⟩, hF⟩, st⟩ | ⟨q, st₀, t, T', L, E, ce, h0, X', hL, e1, e2, ⟨u, hp, hb, hF⟩, hce, hcv, hcl, st⟩
  · cases hv
    obtain ⟨k1, k2, k3⟩ := vx_keep h0 e1 hS hA hf hL hF
    obtain ⟨t2, a1, b1⟩ := kk r u t T'.heap (locs ++ L) e1.symm (by rw [← e2]; exact X'.warmed.alike) hp hb k1 k2 k3 T' rfl X'
    exact ⟨t2, st t2 a1, b1⟩
  · obtain ⟨k1, k2, k3⟩ := vx_keep h0 e1 hS hAX hf hL hF
    obtain ⟨t2, a1, b1⟩ := kx E ce q u t T'.heap (locs ++ L) e1.symm (by rw [← e2]; exact X'.warmed.alike) hp hb k1 k2 k3 (by rw [e1]; exact hce) hcv hcl T' rfl X'
    exact ⟨t2, st.trans a1, b1⟩
theorem vx_calll {S SX : Type} {post : Int64 → S → Prop} {px : SX → Prop} {B : S → State → Prop} {BX : String → SX → State → Prop} {AX : Nat → Prop} (hr : vx_Run p l e R s m args below meth c H locs cells slots mc ms (F0 m pc ls st0) rest (va_Ql post B A1 a) (vx_X px BX AX) free) (hS : va_S A0 H0 H locs) (hA : ∀ q, q < H.size → A1 q → A0 q) (hf : ∀ q, free q → A0 q) (hAX : ∀ q, q < H.size → AX q → A0 q)
    (kx : ∀ (E : String) (ce : Cell) (q9 : Addr) (u : SX) (t : State) (H1 : Heap) (locs1 : List Loc), t.heap = H1 → s.vm.Alike t.vm → px u → BX E u t → H.size ≤ H1.size → (∀ q : Nat, q < H.size → ¬ AX q → H1[q]? = H[q]?) → va_S A0 H0 H1 locs1 → H1[q9]? = some ce → ce.vm = .none → s.vm.findClass E = some ce.cls → vx_W p l e R s m args below meth c H1 locs1 (cells + mc) (slots + ms) Q (F0 m pc ls rest) q9)
    (kk : ∀ (r : Int64) (u : S) (t : State) (H1 : Heap) (locs1 : List Loc), t.heap = H1 → s.vm.Alike t.vm → post r u → B u t → H.size ≤ H1.size → (∀ q : Nat, q < H.size → ¬ A1 q → H1[q]? = H[q]?) → va_S A0 H0 H1 locs1 → W p l e R s m args below meth c H1 locs1 (cells + mc) (slots + ms) Q (F0 m (pc + 3) ls (.long r :: rest))) : W p l e R s m args below meth c H locs cells slots Q (F0 m pc ls st0) := by
  intro T hT X
  rcases hr T hT X with ⟨v, st₀, t, T', L, h0, X', hL, e1, e2, ⟨⟨r, u, hv, hp, hb⟩, hF⟩, st⟩ | ⟨q, st₀, t, T', L, E, ce, h0, X', hL, e1, e2, ⟨u, hp, hb, hF⟩, hce, hcv, hcl, st⟩
  · cases hv
    obtain ⟨k1, k2, k3⟩ := vx_keep h0 e1 hS hA hf hL hF
    obtain ⟨t2, a1, b1⟩ := kk r u t T'.heap (locs ++ L) e1.symm (by rw [← e2]; exact X'.warmed.alike) hp hb k1 k2 k3 T' rfl X'
    exact ⟨t2, st t2 a1, b1⟩
  · obtain ⟨k1, k2, k3⟩ := vx_keep h0 e1 hS hAX hf hL hF
    obtain ⟨t2, a1, b1⟩ := kx E ce q u t T'.heap (locs ++ L) e1.symm (by rw [← e2]; exact X'.warmed.alike) hp hb k1 k2 k3 (by rw [e1]; exact hce) hcv hcl T' rfl X'
    exact ⟨t2, st.trans a1, b1⟩
theorem vx_callf {S SX : Type} {post : UInt32 → S → Prop} {px : SX → Prop} {B : S → State → Prop} {BX : String → SX → State → Prop} {AX : Nat → Prop} (hr : vx_Run p l e R s m args below meth c H locs cells slots mc ms (F0 m pc ls st0) rest (va_Qf post B A1 a) (vx_X px BX AX) free) (hS : va_S A0 H0 H locs) (hA : ∀ q, q < H.size → A1 q → A0 q) (hf : ∀ q, free q → A0 q) (hAX : ∀ q, q < H.size → AX q → A0 q)
    (kx : ∀ (E : String) (ce : Cell) (q9 : Addr) (u : SX) (t : State) (H1 : Heap) (locs1 : List Loc), t.heap = H1 → s.vm.Alike t.vm → px u → BX E u t → H.size ≤ H1.size → (∀ q : Nat, q < H.size → ¬ AX q → H1[q]? = H[q]?) → va_S A0 H0 H1 locs1 → H1[q9]? = some ce → ce.vm = .none → s.vm.findClass E = some ce.cls → vx_W p l e R s m args below meth c H1 locs1 (cells + mc) (slots + ms) Q (F0 m pc ls rest) q9)
    (kk : ∀ (r : UInt32) (u : S) (t : State) (H1 : Heap) (locs1 : List Loc), t.heap = H1 → s.vm.Alike t.vm → post r u → B u t → H.size ≤ H1.size → (∀ q : Nat, q < H.size → ¬ A1 q → H1[q]? = H[q]?) → va_S A0 H0 H1 locs1 → W p l e R s m args below meth c H1 locs1 (cells + mc) (slots + ms) Q (F0 m (pc + 3) ls (.float r :: rest))) : W p l e R s m args below meth c H locs cells slots Q (F0 m pc ls st0) := by
  intro T hT X
  rcases hr T hT X with ⟨v, st₀, t, T', L, h0, X', hL, e1, e2, ⟨⟨r, u, hv, hp, hb⟩, hF⟩, st⟩ | ⟨q, st₀, t, T', L, E, ce, h0, X', hL, e1, e2, ⟨u, hp, hb, hF⟩, hce, hcv, hcl, st⟩
  · cases hv
    obtain ⟨k1, k2, k3⟩ := vx_keep h0 e1 hS hA hf hL hF
    obtain ⟨t2, a1, b1⟩ := kk r u t T'.heap (locs ++ L) e1.symm (by rw [← e2]; exact X'.warmed.alike) hp hb k1 k2 k3 T' rfl X'
    exact ⟨t2, st t2 a1, b1⟩
  · obtain ⟨k1, k2, k3⟩ := vx_keep h0 e1 hS hAX hf hL hF
    obtain ⟨t2, a1, b1⟩ := kx E ce q u t T'.heap (locs ++ L) e1.symm (by rw [← e2]; exact X'.warmed.alike) hp hb k1 k2 k3 (by rw [e1]; exact hce) hcv hcl T' rfl X'
    exact ⟨t2, st.trans a1, b1⟩
theorem vx_calld {S SX : Type} {post : UInt64 → S → Prop} {px : SX → Prop} {B : S → State → Prop} {BX : String → SX → State → Prop} {AX : Nat → Prop} (hr : vx_Run p l e R s m args below meth c H locs cells slots mc ms (F0 m pc ls st0) rest (va_Qd post B A1 a) (vx_X px BX AX) free) (hS : va_S A0 H0 H locs) (hA : ∀ q, q < H.size → A1 q → A0 q) (hf : ∀ q, free q → A0 q) (hAX : ∀ q, q < H.size → AX q → A0 q)
    (kx : ∀ (E : String) (ce : Cell) (q9 : Addr) (u : SX) (t : State) (H1 : Heap) (locs1 : List Loc), t.heap = H1 → s.vm.Alike t.vm → px u → BX E u t → H.size ≤ H1.size → (∀ q : Nat, q < H.size → ¬ AX q → H1[q]? = H[q]?) → va_S A0 H0 H1 locs1 → H1[q9]? = some ce → ce.vm = .none → s.vm.findClass E = some ce.cls → vx_W p l e R s m args below meth c H1 locs1 (cells + mc) (slots + ms) Q (F0 m pc ls rest) q9)
    (kk : ∀ (r : UInt64) (u : S) (t : State) (H1 : Heap) (locs1 : List Loc), t.heap = H1 → s.vm.Alike t.vm → post r u → B u t → H.size ≤ H1.size → (∀ q : Nat, q < H.size → ¬ A1 q → H1[q]? = H[q]?) → va_S A0 H0 H1 locs1 → W p l e R s m args below meth c H1 locs1 (cells + mc) (slots + ms) Q (F0 m (pc + 3) ls (.double r :: rest))) : W p l e R s m args below meth c H locs cells slots Q (F0 m pc ls st0) := by
  intro T hT X
  rcases hr T hT X with ⟨v, st₀, t, T', L, h0, X', hL, e1, e2, ⟨⟨r, u, hv, hp, hb⟩, hF⟩, st⟩ | ⟨q, st₀, t, T', L, E, ce, h0, X', hL, e1, e2, ⟨u, hp, hb, hF⟩, hce, hcv, hcl, st⟩
  · cases hv
    obtain ⟨k1, k2, k3⟩ := vx_keep h0 e1 hS hA hf hL hF
    obtain ⟨t2, a1, b1⟩ := kk r u t T'.heap (locs ++ L) e1.symm (by rw [← e2]; exact X'.warmed.alike) hp hb k1 k2 k3 T' rfl X'
    exact ⟨t2, st t2 a1, b1⟩
  · obtain ⟨k1, k2, k3⟩ := vx_keep h0 e1 hS hAX hf hL hF
    obtain ⟨t2, a1, b1⟩ := kx E ce q u t T'.heap (locs ++ L) e1.symm (by rw [← e2]; exact X'.warmed.alike) hp hb k1 k2 k3 (by rw [e1]; exact hce) hcv hcl T' rfl X'
    exact ⟨t2, st.trans a1, b1⟩
theorem vx_callv {S SX : Type} {post : S → Prop} {px : SX → Prop} {B : S → State → Prop} {BX : String → SX → State → Prop} {AX : Nat → Prop} (hr : vx_Run p l e R s m args below meth c H locs cells slots mc ms (F0 m pc ls st0) rest (va_Qv post B A1 a) (vx_X px BX AX) free) (hS : va_S A0 H0 H locs) (hA : ∀ q, q < H.size → A1 q → A0 q) (hf : ∀ q, free q → A0 q) (hAX : ∀ q, q < H.size → AX q → A0 q)
    (kx : ∀ (E : String) (ce : Cell) (q9 : Addr) (u : SX) (t : State) (H1 : Heap) (locs1 : List Loc), t.heap = H1 → s.vm.Alike t.vm → px u → BX E u t → H.size ≤ H1.size → (∀ q : Nat, q < H.size → ¬ AX q → H1[q]? = H[q]?) → va_S A0 H0 H1 locs1 → H1[q9]? = some ce → ce.vm = .none → s.vm.findClass E = some ce.cls → vx_W p l e R s m args below meth c H1 locs1 (cells + mc) (slots + ms) Q (F0 m pc ls rest) q9)
    (kk : ∀ (u : S) (t : State) (H1 : Heap) (locs1 : List Loc), t.heap = H1 → s.vm.Alike t.vm → post u → B u t → H.size ≤ H1.size → (∀ q : Nat, q < H.size → ¬ A1 q → H1[q]? = H[q]?) → va_S A0 H0 H1 locs1 → W p l e R s m args below meth c H1 locs1 (cells + mc) (slots + ms) Q (F0 m (pc + 3) ls (rest))) : W p l e R s m args below meth c H locs cells slots Q (F0 m pc ls st0) := by
  intro T hT X
  rcases hr T hT X with ⟨v, st₀, t, T', L, h0, X', hL, e1, e2, ⟨⟨u, hv, hp, hb⟩, hF⟩, st⟩ | ⟨q, st₀, t, T', L, E, ce, h0, X', hL, e1, e2, ⟨u, hp, hb, hF⟩, hce, hcv, hcl, st⟩
  · cases hv
    obtain ⟨k1, k2, k3⟩ := vx_keep h0 e1 hS hA hf hL hF
    obtain ⟨t2, a1, b1⟩ := kk u t T'.heap (locs ++ L) e1.symm (by rw [← e2]; exact X'.warmed.alike) hp hb k1 k2 k3 T' rfl X'
    exact ⟨t2, st t2 a1, b1⟩
  · obtain ⟨k1, k2, k3⟩ := vx_keep h0 e1 hS hAX hf hL hF
    obtain ⟨t2, a1, b1⟩ := kx E ce q u t T'.heap (locs ++ L) e1.symm (by rw [← e2]; exact X'.warmed.alike) hp hb k1 k2 k3 (by rw [e1]; exact hce) hcv hcl T' rfl X'
    exact ⟨t2, st.trans a1, b1⟩
/-- caught by the row x of this method's table; the rows ahead don't take it -/
theorem vx_catch {own name : String} {E : String} {ce : Cell} {q : Addr} (hown : s.vm.findClass own = some m.cls) (pre : List ExceptionTableEntry) (x : ExceptionTableEntry) (suf : List ExceptionTableEntry) (hsplit : c.exceptionTable.toList = pre ++ x :: suf)
    (hpass : ∀ z ∈ pre, covers z pc = false ∨ (z.catchType ≠ 0 ∧ ∃ nm : String, (Cond.classLink own z.catchType nm).before args s = true ∧ va_Nc E nm s)) (hx : covers x pc = true) (h0 : x.catchType ≠ 0)
    (hlink : (Cond.classLink own x.catchType name).before args s = true) (hcast : (Cond.castable E name).before args s = true) (hcell : H[q]? = some ce) (hv : ce.vm = .none) (hcl : s.vm.findClass E = some ce.cls)
    (kk : W p l e R s m args below meth c H locs cells slots Q (F0 m x.handlerPc ls [.ref q])) : vx_W p l e R s m args below meth c H locs cells slots Q (F0 m pc ls rest) q := by
  intro T hT X
  have hpl : e.platform.magicAccessors = ({} : Platform).magicAccessors := by rw [X.admits.platform]
  obtain ⟨c3, c4, hc3, hc4, hasg⟩ := Cond.castable_spec hcast
  cases Option.some.inj (hc3.symm.trans hcl)
  obtain ⟨c5, hc5, hcl5⟩ := Cond.classLink_spec hown hlink e.platform hpl
  cases Option.some.inj (hc4.symm.trans hc5)
  obtain ⟨vm', X', st⟩ := X.thenCaughtThrough q (g := F0 m pc ls rest) rfl (Steps.refl _) (by rw [hT]; exact hcell) (by rw [hv]; rfl) (by obtain ⟨k9, h9, -⟩ := Vm.findClass_spec hcl; exact ⟨k9, h9⟩) pre x suf hsplit
    (fun z hz => by
      rcases hpass z hz with h | ⟨hz0, nm, hl1, hn1⟩
      · exact Or.inl h
      · obtain ⟨c6, hc6, hcl6⟩ := Cond.classLink_spec hown hl1 e.platform hpl
        obtain ⟨a8, b8, h1, h2, h3⟩ := hn1
        cases Option.some.inj (h1.symm.trans hcl)
        cases Option.some.inj (h2.symm.trans hc6)
        exact Or.inr ⟨hz0, _, hcl6, h3⟩) hx (Or.inr ⟨h0, c4, hcl5, hasg⟩)
  obtain ⟨t, a1, b1⟩ := kk (T.setVm vm') hT X'
  exact ⟨t, st.trans a1, b1⟩
end Rows
section Ends
variable {p : Program} {l : Launch} {e : Env} {R : Room} {s : State} {m : MethodId} {args : Array Value} {below : List Frame} {meth : Method} {c : Code} {H : Heap} {locs : List Loc} {cells slots : Nat} {Q : State → Prop}
variable {mc ms : Nat} {free : Addr → Prop} {A0 A1 : Nat → Prop} {H0 : Heap} {a : Array Value} {ls : Array Slot} {st0 rest : List Value}
variable {Qc : Array Value → State → Outcome → State → Prop} {XC : String → State → State → Prop}
/-- what a body that may throw owes at its end -/
def vx_MQ (below : List Frame) (Qc : Array Value → State → Outcome → State → Prop) (XC : String → State → State → Prop) (a : Array Value) (s : State) (mc ms : Nat) (free : Addr → Prop) : State → Prop := fun t =>
  ∃ o, t.status = .running ∧ Ended t below o ∧ vx_Q Qc XC mc ms free a s o t
theorem vx_ret {g : JFrame} {mc ms : Nat} (k : W p l e R s m args below meth c H locs cells slots (MQ below Qc args s mc ms free) g) : W p l e R s m args below meth c H locs cells slots (vx_MQ below Qc XC args s mc ms free) g := by
  intro T hT X
  obtain ⟨t, a1, o, b1, b2, b3, b4⟩ := k T hT X
  exact ⟨t, a1, o, b1, b2, Or.inl ⟨b3, b4⟩⟩
/-- not caught here: it goes on to the caller -/
theorem vx_widen {g : JFrame} {q : Addr} {k n : Nat} (h1 : cells ≤ k) (h2 : slots ≤ n) (kk : vx_W p l e R s m args below meth c H locs k n Q g q) : vx_W p l e R s m args below meth c H locs cells slots Q g q := fun T hT X => kk T hT (stand_widen X h1 h2)
theorem vx_out {pc : Nat} {E : String} {ce : Cell} {q : Addr} {mc ms : Nat} (hout : ∀ x ∈ c.exceptionTable.toList, covers x pc = false) (hlocks : meth.locks = false) (hcell : H[q]? = some ce) (hv : ce.vm = .none) (hcl : s.vm.findClass E = some ce.cls)
    (hx : ∀ t : State, t.heap = H → s.vm.Alike t.vm → XC E s t) (hf : ∀ z ∈ locs, free z.base) (hc : cells ≤ mc) (hs : slots ≤ ms) :
    vx_W p l e R s m args below meth c H locs cells slots (vx_MQ below Qc XC args s mc ms free) (F0 m pc ls rest) q := by
  intro T hT X
  obtain ⟨st1, hrun, hend, hW, hsm⟩ := X.leaveThrown q (g := F0 m pc ls rest) rfl rfl rfl hout hlocks
  have hcell9 : (T.setFrames (.throwing q :: below)).heap[q]? = some ce := by
    show T.heap[q]? = some ce
    rw [hT]; exact hcell
  exact ⟨_, st1, .threw q, hrun, hend, Or.inr ⟨q, rfl, E, ce, locs, hx _ hT hW.alike, hcell9, hv, hcl, hW, hsm.mono hc hs, hf⟩⟩
theorem vx_frame {U : State} {k n : Nat} (h : s.sameButNew ({ U with vm := s.vm } : State) locs k n) : s.heap.size ≤ U.heap.size ∧ ∀ q : Nat, q < s.heap.size → (∀ z ∈ locs, z.base ≠ q) → U.heap[q]? = s.heap[q]? := by
  obtain ⟨-, h2, -, -, -, h6⟩ := h
  refine ⟨h2, fun q hq hz => ?_⟩
  obtain ⟨c9, e1, e2, e3, e4⟩ := h6 q _ (Array.getElem?_eq_getElem hq)
  have hs : c9.slots = (s.heap[q]).slots := Array.ext_getElem? fun i => e4 i fun hm => hz _ hm rfl
  have h9 : c9 = s.heap[q] := by
    rw [hs] at e2
    exact e2
  have e5 : U.heap[q]? = some c9 := e1
  rw [e5, h9, Array.getElem?_eq_getElem hq]
/-- the words of a throw but the four that speak of the heap -/
def vx_no (w : Cond) : Bool := decide (w ≠ .isRef (.static Bundle.tN "UNASSIGNED_STACK" Bundle.steD)) && decide (w ≠ .isRef (.static Bundle.tN "SUPPRESSED_SENTINEL" Bundle.listD)) && decide (w ≠ .laysStatic Bundle.tN "UNASSIGNED_STACK" Bundle.steD) && decide (w ≠ .laysStatic Bundle.tN "SUPPRESSED_SENTINEL" Bundle.listD)
def vx_at0 (own : String) (ic : Nat) (X : String) (names : List String) : List Cond := (Bundle.ownAtoms0 own ic X names).filter vx_no
def vx_atS (own : String) (ic : Nat) (X : String) (names : List String) : List Cond := (Bundle.ownAtoms own ic X names).filter vx_no
/-- a word that the tables alone decide, or a good one -/
def vx_ot (w : Cond) : Bool := w.onTables || goodWord w
theorem vx_ot_at {args a' : Array Value} {s U : State} {w : Cond} (hW : s.WarmedH U.vm) (hvm : s.vm = U.vm) (hg : vx_ot w = true) (h : w.before args s = true) : w.before a' U = true := by
  simp only [vx_ot, Bool.or_eq_true] at hg
  rcases hg with hg | hg
  · exact va_tabs hg hvm h
  · exact word_at hW (good_of_word hg) h
/-- a list's words: the good ones out of the method's own list, the others by premises of their own -/
theorem vx_hat {args : Array Value} {s : State} {L B : List Cond} (h1 : ∀ w ∈ L.filter goodWord, w.before args s = true) (h2 : ∀ w ∈ L.filter (fun w => !goodWord w), w ∈ B) (h3 : ∀ w ∈ B, w.before args s = true) : ∀ w ∈ L, w.before args s = true := by
  intro w hw
  by_cases g : goodWord w = true
  · exact h1 w (List.mem_filter.mpr ⟨hw, g⟩)
  · refine h3 w (h2 w (List.mem_filter.mpr ⟨hw, ?_⟩))
    show (!goodWord w) = true
    cases hgw : goodWord w
    · rfl
    · exact absurd hgw g
theorem vx_c {args : Array Value} {s : State} {w : Cond} {B : List Cond} (h : w.before args s = true) (t : ∀ w ∈ B, w.before args s = true) : ∀ w' ∈ w :: B, w'.before args s = true := fun w' h' => (List.mem_cons.mp h').elim (fun e => by rw [e]; exact h) (t w')
theorem vx_n {args : Array Value} {s : State} : ∀ w ∈ ([] : List Cond), w.before args s = true := fun _ h => nomatch h
theorem vx_own {args : Array Value} {s : State} {L : List Cond} (h1 : ∀ w ∈ L.filter vx_no, w.before args s = true)
    (hU : (Cond.isRef (.static Bundle.tN "UNASSIGNED_STACK" Bundle.steD)).before args s = true) (hN : (Cond.isRef (.static Bundle.tN "SUPPRESSED_SENTINEL" Bundle.listD)).before args s = true)
    (lU : (Cond.laysStatic Bundle.tN "UNASSIGNED_STACK" Bundle.steD).before args s = true) (lN : (Cond.laysStatic Bundle.tN "SUPPRESSED_SENTINEL" Bundle.listD).before args s = true) : ∀ w ∈ L, w.before args s = true := by
  intro w hw
  by_cases e1 : w = .isRef (.static Bundle.tN "UNASSIGNED_STACK" Bundle.steD)
  · rw [e1]; exact hU
  · by_cases e2 : w = .isRef (.static Bundle.tN "SUPPRESSED_SENTINEL" Bundle.listD)
    · rw [e2]; exact hN
    · by_cases e3 : w = .laysStatic Bundle.tN "UNASSIGNED_STACK" Bundle.steD
      · rw [e3]; exact lU
      · by_cases e4 : w = .laysStatic Bundle.tN "SUPPRESSED_SENTINEL" Bundle.listD
        · rw [e4]; exact lN
        · exact h1 w (List.mem_filter.mpr ⟨hw, by unfold vx_no; rw [decide_eq_true e1, decide_eq_true e2, decide_eq_true e3, decide_eq_true e4]; rfl⟩)
/-- where a static field lies, its class's statics cell in H -/
def vx_L (C n d : String) (A : Nat → Prop) (U : State) (H : Heap) : Prop := ∃ (c : ClassId) (k : Class) (i : Nat) (f : Field) (a : Nat) (cell : Cell), U.vm.findClass C = some c ∧ U.fieldFound? C n d = some (c, k, i, f) ∧ f.isStatic = true ∧ k.statics = some a ∧ H[a]? = some cell ∧ cell.vm.isStatics = true ∧ cell.cls = c ∧ f.slot < cell.slots.size ∧ k.staticTypes[f.slot]? = some f.type ∧ ¬ A a
theorem vx_L.moved {C n d : String} {A : Nat → Prop} {u U : State} {H : Heap} (hvm : u.vm.Alike U.vm) (h : vx_L C n d A u H) : vx_L C n d A U H := by
  obtain ⟨c, k, i, f, a, cell, h1, h2, h3, h4, h5, h6, h7, h8, h9, h10⟩ := h
  obtain ⟨k', hi', he⟩ := State.fieldFound?_setVm hvm h2
  exact ⟨c, k', i, f, a, cell, by rw [hvm.findClass]; exact h1, hi', h3, by rw [he]; exact h4, h5, h6, h7, h8, by rw [he]; exact h9, h10⟩
theorem vx_L.kept {C n d : String} {A : Nat → Prop} {U : State} {H H1 : Heap} (h : vx_L C n d A U H) (hq : ∀ a : Nat, a < H.size → ¬ A a → H1[a]? = H[a]?) : vx_L C n d A U H1 := by
  obtain ⟨c, k, i, f, a, cell, h1, h2, h3, h4, h5, h6, h7, h8, h9, h10⟩ := h
  exact ⟨c, k, i, f, a, cell, h1, h2, h3, h4, by rw [hq a (Array.getElem?_eq_some_iff.mp h5).1 h10]; exact h5, h6, h7, h8, h9, h10⟩
theorem vx_L.narrow {C n d : String} {A B : Nat → Prop} {U : State} {H : Heap} (h : vx_L C n d A U H) (hAB : ∀ q, B q → A q) : vx_L C n d B U H := by
  obtain ⟨c, k, i, f, a, cell, h1, h2, h3, h4, h5, h6, h7, h8, h9, h10⟩ := h
  exact ⟨c, k, i, f, a, cell, h1, h2, h3, h4, h5, h6, h7, h8, h9, fun z => h10 (hAB _ z)⟩
theorem vx_L.word {C n d : String} {A : Nat → Prop} {s : State} {args : Array Value} (h : vx_L C n d A s s.heap) : (Cond.laysStatic C n d).before args s = true := by
  obtain ⟨c, k, i, f, a, cell, h1, h2, h3, h4, h5, h6, h7, h8, h9, -⟩ := h
  show (Cond.laysStatic C n d).holds args s none s [] = true
  exact Cond.laysStatic_of h1 h2 h3 h4 h5 h6 h7 h8 h9
/-- .. and what it holds: null or some reference -/
def vx_Zq (C n d : String) (A : Nat → Prop) (U : State) (H : Heap) : Prop := va_Zq C n d A U H ∧ vx_L C n d A U H
theorem vx_Zq.moved {C n d : String} {A : Nat → Prop} {u U : State} {H : Heap} (hvm : u.vm.Alike U.vm) (h : vx_Zq C n d A u H) : vx_Zq C n d A U H := ⟨va_Zq.moved hvm h.1, vx_L.moved hvm h.2⟩
theorem vx_Zq.kept {C n d : String} {A : Nat → Prop} {U : State} {H H1 : Heap} (h : vx_Zq C n d A U H) (hq : ∀ a : Nat, a < H.size → ¬ A a → H1[a]? = H[a]?) : vx_Zq C n d A U H1 := ⟨va_Zq.kept h.1 hq, vx_L.kept h.2 hq⟩
theorem vx_Zq.narrow {C n d : String} {A B : Nat → Prop} {U : State} {H : Heap} (h : vx_Zq C n d A U H) (hAB : ∀ q, B q → A q) : vx_Zq C n d B U H := ⟨va_Zq.narrow h.1 hAB, vx_L.narrow h.2 hAB⟩
theorem vx_Zqof {args : Array Value} {s : State} {C n d : String} {A : Nat → Prop} (hl : (Cond.laysStatic C n d).before args s = true) (hini : (Cond.initialized C).before args s = true) (h : (Cond.isRef (.static C n d)).before args s = true) (hA : ∀ a : Nat, a < s.heap.size → ¬ A a) : vx_Zq C n d A s s.heap := by
  refine ⟨va_Zqof hl hini h hA, ?_⟩
  obtain ⟨c, k, i, f, a, cell, h1, h2, h3, h4, h5, h6, h7, h8, h9⟩ := Cond.laysStatic_spec hl
  exact ⟨c, k, i, f, a, cell, h1, h2, h3, h4, h5, h6, h7, h8, h9, hA a (Array.getElem?_eq_some_iff.mp h5).1⟩
theorem vx_isRef {C n d : String} {v : Value} {A : Nat → Prop} {s : State} {args : Array Value} (h : va_Z C n d v A s s.heap) (hv : v.isRef = true) : (Cond.isRef (.static C n d)).before args s = true := by
  obtain ⟨cf, kf, fi, f, a, cell, h1, h2, h3, h4, h5, h6, h7, -⟩ := h
  have he : (Term.static C n d).eval args s none [] s = some v := by
    simp [Term.eval, State.fieldNamed?, h1, h2, h4, h5, h6, h7]
  simp only [Cond.before, Cond.holds, Cond.value, he]
  cases v <;> simp_all [Value.isRef]
theorem vx_isRefq {C n d : String} {A : Nat → Prop} {s : State} {args : Array Value} (h : va_Zq C n d A s s.heap) : (Cond.isRef (.static C n d)).before args s = true := by
  rcases h with h | ⟨t, h⟩
  · exact vx_isRef h rfl
  · exact vx_isRef h rfl
/-- the same frame, seen from here: as if the method were called anew in this heap -/
theorem vx_rebase {T : State} (X : Stand p l e R s m args below meth c T locs cells slots) {R' : Room} (hf : R'.frames ≤ R.frames) (hl : R'.locals ≤ R.locals) (hc : cells + R'.cells ≤ R.cells) (hs : slots + R'.slots ≤ R.slots) :
    Stand p l e R' ((T.setVm s.vm).setFrames (.invoking m args :: below)) m args below meth c T [] 0 0 := by
  have htop : (T.setVm s.vm).topJava?.isSome := X.here.top
  have hF : ((T.setVm s.vm).setFrames (.invoking m args :: below)).frames = .invoking m args :: below := State.frames_setFrames _ (State.cur_lt_of_top htop)
  obtain ⟨g₀, hg0⟩ := Option.isSome_iff_exists.mp htop
  obtain ⟨r, hr⟩ := State.topJava?_eq_some.mp hg0
  have hl9 : e.platform.stackLimits (T.setVm s.vm).me = e.platform.stackLimits s.me := X.limits
  have hb9 : (T.setVm s.vm).me.stackBytes = s.me.stackBytes := X.bytes
  refine ⟨X.admits, X.cas, X.clock, hF, ?_, X.hears, X.method, X.code, X.here, X.tail, X.warmed, ?_, ?_, ?_⟩
  · have h := X.room
    have hU : ((T.setVm s.vm).setFrames (.invoking m args :: below)).localsInUse = s.localsInUse := by
      rw [State.localsInUse_invoking hF (meth := meth) (c := c) X.method X.code, State.localsInUse_invoking X.frames X.method X.code]
    simp only [State.hasRoom, Bool.and_eq_true, decide_eq_true_eq] at h ⊢
    obtain ⟨⟨⟨⟨h1, h2, h3, h4, h5, h6⟩, h7⟩, h8⟩, h9⟩ := h
    rw [X.frames, List.length_cons] at h2 h3
    have q1 := X.heapSize
    have q2 := X.used
    simp only [hF, hU, List.length_cons, State.stackLimits_setFrames, State.stackBytes_setFrames, hl9, hb9]
    refine ⟨⟨⟨⟨by omega, by omega, by omega, by omega, by omega, h6⟩, ?_⟩, ?_⟩, X.book⟩
    · show T.heap.size + R'.cells ≤ e.platform.maxCells
      omega
    · show T.slotsUsed + R'.slots ≤ e.platform.maxSlots
      omega
  · rw [State.stackLimits_setFrames]; rfl
  · rw [State.stackBytes_setFrames]; rfl
  · refine ⟨?_, Nat.le_refl _, Nat.le_refl _, ?_, ?_, fun a c9 h9 => ⟨c9, h9, rfl, rfl, fun _ _ => rfl⟩⟩
    · obtain ⟨t, ht, -⟩ := State.frames_cons hr
      show T.setVm s.vm = { ((T.setVm s.vm).setFrames (.invoking m args :: below)).setFrames (T.setVm s.vm).frames with heap := T.heap, slotsUsed := T.slotsUsed }
      rw [State.setFrames_setFrames, State.setFrames_self ht]
      rfl
    · show T.slotsUsed = T.slotsUsed + ((T.heap.toList.drop T.heap.size).map (·.slots.size)).sum
      rw [List.drop_eq_nil_of_le (Nat.le_of_eq Array.length_toList)]
      rfl
    · show ((T.heap.toList.drop T.heap.size).map (·.slots.size)).sum ≤ 0
      rw [List.drop_eq_nil_of_le (Nat.le_of_eq Array.length_toList)]
      exact Nat.le_refl _
/-- 'throw new E()': new; dup; invokespecial; athrow -/
theorem vx_throw0 {cc : ByteArray} {pc : Nat} (hexec : p.tables.exec = Jvm.exec) (hb : c.code = cc) (hl : l.stackTraces = false) {own cls : String} {names : List String} {ik ic mc ms : Nat} {A : Nat → Prop}
    (hown : s.vm.findClass own = some m.cls) (hcls : Bundle.fit cls = true) (hnames : ∀ n ∈ names, Bundle.fit n = true)
    (hk : (Cond.classLink own ik cls).before args s = true) (hini : (Cond.initialized cls).before args s = true) (hat : ∀ w ∈ vx_at0 own ic cls names, w.before args s = true)
    (hgood : ∀ w ∈ Cond.classLink own ik cls :: Cond.initialized cls :: vx_at0 own ic cls names, vx_ot w = true)
    (hU : vx_Zq Bundle.tN "UNASSIGNED_STACK" Bundle.steD A s s.heap) (hN : vx_Zq Bundle.tN "SUPPRESSED_SENTINEL" Bundle.listD A s s.heap) (hS : va_S A s.heap H locs) (hsize : ls.size = c.maxLocals)
    (d0 : decode cc pc = .ok (.new ik, 3)) (d3 : decode cc (pc + 3) = .ok (.dup, 1)) (d4 : decode cc (pc + 4) = .ok (.invokespecial ic, 3)) (d7 : decode cc (pc + 7) = .ok (.athrow, 1))
    (hout : ∀ x ∈ c.exceptionTable.toList, covers x (pc + 7) = false)
    (hRframes : names.length + 3 < R.frames) (hRlocals : (rest.map fun v => v.category).sum + (13 * (names.length + 1) + 42) ≤ R.locals) (hRcells : cells + 1 ≤ R.cells) (hRslots : slots + 6 ≤ R.slots) (hlocks : meth.locks = false)
    (hx : ∀ t : State, s.vm.Alike t.vm → H.size ≤ t.heap.size → (∀ q : Nat, q < H.size → t.heap[q]? = H[q]?) → XC cls s t)
    (hf : ∀ z ∈ locs, free z.base) (hc : cells + 1 ≤ mc) (hs : slots + 6 ≤ ms) :
    W p l e R s m args below meth c H locs cells slots (vx_MQ below Qc XC args s mc ms free) (F0 m pc ls rest) := by
  intro T hT X
  have htr : e.platform.stackTraces = false := (show e.platform.stackTraces = l.stackTraces by rw [X.admits.platform]).trans hl
  have Y := vx_rebase X (R' := { frames := R.frames, locals := R.locals, cells := 1, slots := 6 }) (Nat.le_refl _) (Nat.le_refl _) hRcells hRslots
  obtain ⟨s', hA⟩ : ∃ z, z = (T.setVm s.vm).setFrames (.invoking m args :: below) := ⟨_, rfl⟩
  rw [← hA] at Y
  have hvm : s'.vm = s.vm := by rw [hA]; rfl
  have hhp : s'.heap = H := by rw [hA]; exact hT
  have hW0 : s.WarmedH s'.vm := by rw [hvm]; exact State.WarmedH.refl s
  have hat' : ∀ w ∈ vx_at0 own ic cls names, w.before args s' = true := fun w hw => vx_ot_at hW0 hvm.symm (hgood w (List.mem_cons_of_mem _ (List.mem_cons_of_mem _ hw))) (hat w hw)
  have hk' : (Cond.classLink own ik cls).before args s' = true := vx_ot_at hW0 hvm.symm (hgood _ List.mem_cons_self) hk
  have hini' : (Cond.initialized cls).before args s' = true := vx_ot_at hW0 hvm.symm (hgood _ (List.mem_cons_of_mem _ List.mem_cons_self)) hini
  have hU' : vx_Zq Bundle.tN "UNASSIGNED_STACK" Bundle.steD A s' s'.heap := by rw [hhp]; exact vx_Zq.moved hW0.alike (hU.kept hS.2.1)
  have hN' : vx_Zq Bundle.tN "SUPPRESSED_SENTINEL" Bundle.listD A s' s'.heap := by rw [hhp]; exact vx_Zq.moved hW0.alike (hN.kept hS.2.1)
  have h : ∀ w ∈ Bundle.ownAtoms0 own ic cls names, w.before args s' = true := vx_own hat' (vx_isRefq hU'.1) (vx_isRefq hN'.1) hU'.2.word hN'.2.word
  have hown' : s'.vm.findClass own = some m.cls := by rw [hvm]; exact hown
  have hins : (Cond.instantiable cls 6).before args s' = true := h _ (by simp [Bundle.ownAtoms0])
  obtain ⟨vm₁, cX, kX, hfX, hkX, -, -, X₁, st1⟩ := Y.newCold hexec (own := own) (C := cls) (index := ik) (n := 6) hown' hk' hins hini'
    (g := F0 m pc ls rest) rfl (by rw [hb]; exact d0) (Nat.le_refl _) (Nat.le_refl _)
  generalize hT1 : (T.setVm vm₁).pushCell { cls := cX, slots := kX.instanceTypes.map defaultValue, vm := .none } = T1 at X₁ st1
  have hcat : (Value.ref T.heap.size).category = 1 := rfl
  have hcellA : T1.heap[T.heap.size]? = some (freshCell cX kX) := by rw [← hT1]; exact State.heap_pushCell_size _ _
  have d3' : decode c.code (pc + 3) = .ok (.dup, 1) := by rw [hb]; exact d3
  obtain ⟨U, hsteps, hrun, hend, hW, hsame, ce, hce, hO⟩ := X₁.ctorThrow0 hexec htr (own := own) (cls := cls) (names := names) (ic := ic) hown' hcls hnames h (fun x hx => nomatch hx) hfX hkX hcellA (by rw [hhp, hT]; exact Nat.le_refl _)
    (g := { method := m, pc := pc + 4, locals := ls, stack := .ref T.heap.size :: .ref T.heap.size :: rest, locked := none }) rfl hsize rfl rfl (rest := rest) rfl
    (by rw [hb]; exact d4) (by rw [hb]; exact d7) hout hRframes (by simp only [List.map_cons, List.sum_cons, hcat]; omega) hlocks
  obtain ⟨f1, f2⟩ := vx_frame hsame
  rw [hhp] at f1 f2
  have hWs : s.WarmedH U.vm := State.WarmedH.trans hW0 hW
  have hcl : s.vm.findClass cls = some ce.cls := by
    have h9 := hO.cls
    rw [hvm] at h9
    exact h9
  have hall : s.sameButNew ({ U with vm := s.vm } : State) locs mc ms := by
    subst hA
    obtain ⟨e1, e2⟩ := hsame
    rw [State.setFrames_setFrames] at e1
    have h2 : (T.setVm s.vm).sameButNew ({ U with vm := s.vm } : State) [] (0 + 1) (0 + 6) := ⟨e1, e2⟩
    have h3 := X.same.trans h2
    rw [List.append_nil] at h3
    exact h3.mono hc hs
  refine ⟨U, ?_, .threw T.heap.size, hrun, hend, Or.inr ⟨T.heap.size, rfl, cls, ce, locs, hx U hWs.alike f1 (fun q hq => f2 q hq (fun z hz => nomatch hz)), hce, hO.vm, hcl, hWs, hall, hf⟩⟩
  refine st1 _ ?_
  show Steps p.tables e below (T1.setTop { method := m, pc := pc + 3, locals := ls, stack := .ref T.heap.size :: rest, locked := none }) _
  jvm_step X₁.here [X₁.here.top, hexec, d3', Value.category]
  exact hsteps
/-- 'throw new E("text")': new; dup; ldc; invokespecial; athrow -/
theorem vx_throwS {cc : ByteArray} {pc : Nat} (hexec : p.tables.exec = Jvm.exec) (hb : c.code = cc) (hl : l.stackTraces = false) {own cls text : String} {names : List String} {ik is ic mc ms sa : Nat} {A : Nat → Prop}
    (hown : s.vm.findClass own = some m.cls) (hcls : Bundle.fit cls = true) (hnames : ∀ n ∈ names, Bundle.fit n = true)
    (hk : (Cond.classLink own ik cls).before args s = true) (hini : (Cond.initialized cls).before args s = true) (hstr : vk_R own is text sa s) (hat : ∀ w ∈ vx_atS own ic cls names, w.before args s = true)
    (hgood : ∀ w ∈ Cond.classLink own ik cls :: Cond.initialized cls :: vx_atS own ic cls names, vx_ot w = true)
    (hU : vx_Zq Bundle.tN "UNASSIGNED_STACK" Bundle.steD A s s.heap) (hN : vx_Zq Bundle.tN "SUPPRESSED_SENTINEL" Bundle.listD A s s.heap) (hS : va_S A s.heap H locs) (hsize : ls.size = c.maxLocals)
    (d0 : decode cc pc = .ok (.new ik, 3)) (d3 : decode cc (pc + 3) = .ok (.dup, 1)) (d4 : decode cc (pc + 4) = .ok (.ldc is, 2)) (d6 : decode cc (pc + 6) = .ok (.invokespecial ic, 3)) (d9 : decode cc (pc + 9) = .ok (.athrow, 1))
    (hout : ∀ x ∈ c.exceptionTable.toList, covers x (pc + 9) = false)
    (hRframes : names.length + 3 < R.frames) (hRlocals : (rest.map fun v => v.category).sum + (13 * (names.length + 1) + 43) ≤ R.locals) (hRcells : cells + 1 ≤ R.cells) (hRslots : slots + 6 ≤ R.slots) (hlocks : meth.locks = false)
    (hx : ∀ t : State, s.vm.Alike t.vm → H.size ≤ t.heap.size → (∀ q : Nat, q < H.size → t.heap[q]? = H[q]?) → XC cls s t)
    (hf : ∀ z ∈ locs, free z.base) (hc : cells + 1 ≤ mc) (hs : slots + 6 ≤ ms) :
    W p l e R s m args below meth c H locs cells slots (vx_MQ below Qc XC args s mc ms free) (F0 m pc ls rest) := by
  intro T hT X
  have htr : e.platform.stackTraces = false := (show e.platform.stackTraces = l.stackTraces by rw [X.admits.platform]).trans hl
  have Y := vx_rebase X (R' := { frames := R.frames, locals := R.locals, cells := 1, slots := 6 }) (Nat.le_refl _) (Nat.le_refl _) hRcells hRslots
  obtain ⟨s', hA⟩ : ∃ z, z = (T.setVm s.vm).setFrames (.invoking m args :: below) := ⟨_, rfl⟩
  rw [← hA] at Y
  have hvm : s'.vm = s.vm := by rw [hA]; rfl
  have hhp : s'.heap = H := by rw [hA]; exact hT
  have hW0 : s.WarmedH s'.vm := by rw [hvm]; exact State.WarmedH.refl s
  have hat' : ∀ w ∈ vx_atS own ic cls names, w.before args s' = true := fun w hw => vx_ot_at hW0 hvm.symm (hgood w (List.mem_cons_of_mem _ (List.mem_cons_of_mem _ hw))) (hat w hw)
  have hk' : (Cond.classLink own ik cls).before args s' = true := vx_ot_at hW0 hvm.symm (hgood _ List.mem_cons_self) hk
  have hini' : (Cond.initialized cls).before args s' = true := vx_ot_at hW0 hvm.symm (hgood _ (List.mem_cons_of_mem _ List.mem_cons_self)) hini
  have hU' : vx_Zq Bundle.tN "UNASSIGNED_STACK" Bundle.steD A s' s'.heap := by rw [hhp]; exact vx_Zq.moved hW0.alike (hU.kept hS.2.1)
  have hN' : vx_Zq Bundle.tN "SUPPRESSED_SENTINEL" Bundle.listD A s' s'.heap := by rw [hhp]; exact vx_Zq.moved hW0.alike (hN.kept hS.2.1)
  have h : ∀ w ∈ Bundle.ownAtoms own ic cls names, w.before args s' = true := vx_own hat' (vx_isRefq hU'.1) (vx_isRefq hN'.1) hU'.2.word hN'.2.word
  have hown' : s'.vm.findClass own = some m.cls := by rw [hvm]; exact hown
  have hins : (Cond.instantiable cls 6).before args s' = true := h _ (by simp [Bundle.ownAtoms])
  obtain ⟨vm₁, cX, kX, hfX, hkX, -, -, X₁, st1⟩ := Y.newCold hexec (own := own) (C := cls) (index := ik) (n := 6) hown' hk' hins hini'
    (g := F0 m pc ls rest) rfl (by rw [hb]; exact d0) (Nat.le_refl _) (Nat.le_refl _)
  generalize hT1 : (T.setVm vm₁).pushCell { cls := cX, slots := kX.instanceTypes.map defaultValue, vm := .none } = T1 at X₁ st1
  have hcat : (Value.ref T.heap.size).category = 1 := rfl
  have hcellA : T1.heap[T.heap.size]? = some (freshCell cX kX) := by rw [← hT1]; exact State.heap_pushCell_size _ _
  have d3' : decode c.code (pc + 3) = .ok (.dup, 1) := by rw [hb]; exact d3
  have d4' : decode c.code (pc + 4) = .ok (.ldc is, 2) := by rw [hb]; exact d4
  have hstr' : vk_R own is text sa s' := vk_R.warm hW0 hstr
  obtain ⟨U, hsteps, hrun, hend, hW, hsame, ce, hce, hO⟩ := X₁.ctorThrowS hexec htr (own := own) (cls := cls) (names := names) (ic := ic) hown' hcls hnames h (fun x hx => nomatch hx) hfX hkX hcellA (by rw [hhp, hT]; exact Nat.le_refl _) (msg := .ref sa) rfl
    (g := { method := m, pc := pc + 6, locals := ls, stack := .ref sa :: .ref T.heap.size :: .ref T.heap.size :: rest, locked := none }) rfl hsize rfl rfl (rest := rest) rfl
    (by rw [hb]; exact d6) (by rw [hb]; exact d9) hout hRframes (by simp only [List.map_cons, List.sum_cons, hcat]; omega) hlocks
  obtain ⟨f1, f2⟩ := vx_frame hsame
  rw [hhp] at f1 f2
  have hWs : s.WarmedH U.vm := State.WarmedH.trans hW0 hW
  have hcl : s.vm.findClass cls = some ce.cls := by
    have h9 := hO.cls
    rw [hvm] at h9
    exact h9
  have hall : s.sameButNew ({ U with vm := s.vm } : State) locs mc ms := by
    subst hA
    obtain ⟨e1, e2⟩ := hsame
    rw [State.setFrames_setFrames] at e1
    have h2 : (T.setVm s.vm).sameButNew ({ U with vm := s.vm } : State) [] (0 + 1) (0 + 6) := ⟨e1, e2⟩
    have h3 := X.same.trans h2
    rw [List.append_nil] at h3
    exact h3.mono hc hs
  refine ⟨U, ?_, .threw T.heap.size, hrun, hend, Or.inr ⟨T.heap.size, rfl, cls, ce, locs, hx U hWs.alike f1 (fun q hq => f2 q hq (fun z hz => nomatch hz)), hce, hO.vm, hcl, hWs, hall, hf⟩⟩
  refine st1 _ ?_
  show Steps p.tables e below (T1.setTop { method := m, pc := pc + 3, locals := ls, stack := .ref T.heap.size :: rest, locked := none }) _
  jvm_step X₁.here [X₁.here.top, hexec, d3', Value.category]
  exact X₁.ldcString hexec (own := own) (text := text) (index := is) (a := sa) hown' hstr'.1 hstr'.2
    (g := { method := m, pc := pc + 4, locals := ls, stack := .ref T.heap.size :: .ref T.heap.size :: rest, locked := none }) rfl d4' _ hsteps
/-- 'throw new E("text")', the text by a wide index -/
theorem vx_throwSW {cc : ByteArray} {pc : Nat} (hexec : p.tables.exec = Jvm.exec) (hb : c.code = cc) (hl : l.stackTraces = false) {own cls text : String} {names : List String} {ik is ic mc ms sa : Nat} {A : Nat → Prop}
    (hown : s.vm.findClass own = some m.cls) (hcls : Bundle.fit cls = true) (hnames : ∀ n ∈ names, Bundle.fit n = true)
    (hk : (Cond.classLink own ik cls).before args s = true) (hini : (Cond.initialized cls).before args s = true) (hstr : vk_R own is text sa s) (hat : ∀ w ∈ vx_atS own ic cls names, w.before args s = true)
    (hgood : ∀ w ∈ Cond.classLink own ik cls :: Cond.initialized cls :: vx_atS own ic cls names, vx_ot w = true)
    (hU : vx_Zq Bundle.tN "UNASSIGNED_STACK" Bundle.steD A s s.heap) (hN : vx_Zq Bundle.tN "SUPPRESSED_SENTINEL" Bundle.listD A s s.heap) (hS : va_S A s.heap H locs) (hsize : ls.size = c.maxLocals)
    (d0 : decode cc pc = .ok (.new ik, 3)) (d3 : decode cc (pc + 3) = .ok (.dup, 1)) (d4 : decode cc (pc + 4) = .ok (.ldc_w is, 3)) (d7 : decode cc (pc + 7) = .ok (.invokespecial ic, 3)) (d10 : decode cc (pc + 10) = .ok (.athrow, 1))
    (hout : ∀ x ∈ c.exceptionTable.toList, covers x (pc + 10) = false)
    (hRframes : names.length + 3 < R.frames) (hRlocals : (rest.map fun v => v.category).sum + (13 * (names.length + 1) + 43) ≤ R.locals) (hRcells : cells + 1 ≤ R.cells) (hRslots : slots + 6 ≤ R.slots) (hlocks : meth.locks = false)
    (hx : ∀ t : State, s.vm.Alike t.vm → H.size ≤ t.heap.size → (∀ q : Nat, q < H.size → t.heap[q]? = H[q]?) → XC cls s t)
    (hf : ∀ z ∈ locs, free z.base) (hc : cells + 1 ≤ mc) (hs : slots + 6 ≤ ms) :
    W p l e R s m args below meth c H locs cells slots (vx_MQ below Qc XC args s mc ms free) (F0 m pc ls rest) := by
  intro T hT X
  have htr : e.platform.stackTraces = false := (show e.platform.stackTraces = l.stackTraces by rw [X.admits.platform]).trans hl
  have Y := vx_rebase X (R' := { frames := R.frames, locals := R.locals, cells := 1, slots := 6 }) (Nat.le_refl _) (Nat.le_refl _) hRcells hRslots
  obtain ⟨s', hA⟩ : ∃ z, z = (T.setVm s.vm).setFrames (.invoking m args :: below) := ⟨_, rfl⟩
  rw [← hA] at Y
  have hvm : s'.vm = s.vm := by rw [hA]; rfl
  have hhp : s'.heap = H := by rw [hA]; exact hT
  have hW0 : s.WarmedH s'.vm := by rw [hvm]; exact State.WarmedH.refl s
  have hat' : ∀ w ∈ vx_atS own ic cls names, w.before args s' = true := fun w hw => vx_ot_at hW0 hvm.symm (hgood w (List.mem_cons_of_mem _ (List.mem_cons_of_mem _ hw))) (hat w hw)
  have hk' : (Cond.classLink own ik cls).before args s' = true := vx_ot_at hW0 hvm.symm (hgood _ List.mem_cons_self) hk
  have hini' : (Cond.initialized cls).before args s' = true := vx_ot_at hW0 hvm.symm (hgood _ (List.mem_cons_of_mem _ List.mem_cons_self)) hini
  have hU' : vx_Zq Bundle.tN "UNASSIGNED_STACK" Bundle.steD A s' s'.heap := by rw [hhp]; exact vx_Zq.moved hW0.alike (hU.kept hS.2.1)
  have hN' : vx_Zq Bundle.tN "SUPPRESSED_SENTINEL" Bundle.listD A s' s'.heap := by rw [hhp]; exact vx_Zq.moved hW0.alike (hN.kept hS.2.1)
  have h : ∀ w ∈ Bundle.ownAtoms own ic cls names, w.before args s' = true := vx_own hat' (vx_isRefq hU'.1) (vx_isRefq hN'.1) hU'.2.word hN'.2.word
  have hown' : s'.vm.findClass own = some m.cls := by rw [hvm]; exact hown
  have hins : (Cond.instantiable cls 6).before args s' = true := h _ (by simp [Bundle.ownAtoms])
  obtain ⟨vm₁, cX, kX, hfX, hkX, -, -, X₁, st1⟩ := Y.newCold hexec (own := own) (C := cls) (index := ik) (n := 6) hown' hk' hins hini'
    (g := F0 m pc ls rest) rfl (by rw [hb]; exact d0) (Nat.le_refl _) (Nat.le_refl _)
  generalize hT1 : (T.setVm vm₁).pushCell { cls := cX, slots := kX.instanceTypes.map defaultValue, vm := .none } = T1 at X₁ st1
  have hcat : (Value.ref T.heap.size).category = 1 := rfl
  have hcellA : T1.heap[T.heap.size]? = some (freshCell cX kX) := by rw [← hT1]; exact State.heap_pushCell_size _ _
  have d3' : decode c.code (pc + 3) = .ok (.dup, 1) := by rw [hb]; exact d3
  have d4' : decode c.code (pc + 4) = .ok (.ldc_w is, 3) := by rw [hb]; exact d4
  have hstr' : vk_R own is text sa s' := vk_R.warm hW0 hstr
  obtain ⟨U, hsteps, hrun, hend, hW, hsame, ce, hce, hO⟩ := X₁.ctorThrowS hexec htr (own := own) (cls := cls) (names := names) (ic := ic) hown' hcls hnames h (fun x hx => nomatch hx) hfX hkX hcellA (by rw [hhp, hT]; exact Nat.le_refl _) (msg := .ref sa) rfl
    (g := { method := m, pc := pc + 7, locals := ls, stack := .ref sa :: .ref T.heap.size :: .ref T.heap.size :: rest, locked := none }) rfl hsize rfl rfl (rest := rest) rfl
    (by rw [hb]; exact d7) (by rw [hb]; exact d10) hout hRframes (by simp only [List.map_cons, List.sum_cons, hcat]; omega) hlocks
  obtain ⟨f1, f2⟩ := vx_frame hsame
  rw [hhp] at f1 f2
  have hWs : s.WarmedH U.vm := State.WarmedH.trans hW0 hW
  have hcl : s.vm.findClass cls = some ce.cls := by
    have h9 := hO.cls
    rw [hvm] at h9
    exact h9
  have hall : s.sameButNew ({ U with vm := s.vm } : State) locs mc ms := by
    subst hA
    obtain ⟨e1, e2⟩ := hsame
    rw [State.setFrames_setFrames] at e1
    have h2 : (T.setVm s.vm).sameButNew ({ U with vm := s.vm } : State) [] (0 + 1) (0 + 6) := ⟨e1, e2⟩
    have h3 := X.same.trans h2
    rw [List.append_nil] at h3
    exact h3.mono hc hs
  refine ⟨U, ?_, .threw T.heap.size, hrun, hend, Or.inr ⟨T.heap.size, rfl, cls, ce, locs, hx U hWs.alike f1 (fun q hq => f2 q hq (fun z hz => nomatch hz)), hce, hO.vm, hcl, hWs, hall, hf⟩⟩
  refine st1 _ ?_
  show Steps p.tables e below (T1.setTop { method := m, pc := pc + 3, locals := ls, stack := .ref T.heap.size :: rest, locked := none }) _
  jvm_step X₁.here [X₁.here.top, hexec, d3', Value.category]
  exact X₁.ldcStringW hexec (own := own) (text := text) (index := is) (a := sa) hown' hstr'.1 hstr'.2
    (g := { method := m, pc := pc + 4, locals := ls, stack := .ref T.heap.size :: .ref T.heap.size :: rest, locked := none }) rfl d4' _ hsteps
end Ends
section Bodies
variable {l : Launch}
theorem vx_ofW {y : MethodName} {ws ws' : List Cond} {rm : Room} {Pc : Array Value → State → Prop} {Qc : Array Value → State → Outcome → State → Prop} {XC : String → State → State → Prop} {mc ms : Nat} {free : Addr → Prop} {cc : ByteArray} {maxL : Nat} {ret : Option FieldType}
    (hy : plainName y.cls = true) (hw : ws = Cond.code y cc maxL ret :: ws')
    (body : ∀ p e s m args below meth c s₁, BodyLoose p l y (headSpec ws rm) cc maxL ret e s m args below meth c s₁ → c.maxLocals = maxL → (∀ x ∈ c.exceptionTable.toList, False) → Pc args s →
      W p l e (headSpec ws rm).room s m args below meth c s.heap [] 0 0 (vx_MQ below Qc XC args s mc ms free) (entryFrame m args maxL)) : vx_Met l y ws rm Pc Qc XC mc ms free := by
  refine MetFree.of_bodyS (code := cc) (maxLocals := maxL) (ret := ret) hy ?_ ?_
  · intro args s m h hn
    obtain ⟨meth, c, h1, h2, h3, h4, h5, h6, -, -⟩ := Cond.code_spec hn (atoms_spec (ws := ws) h _ (by rw [hw]; exact List.mem_cons_self))
    exact ⟨meth, c, h1, h2, h3, h4, h5, h6⟩
  · intro p e s m args below meth c s₁ B hml hP _
    have hh0 : s₁.heap = s.heap := by rw [B.state]; rfl
    have ht : ∀ x ∈ c.exceptionTable.toList, False := by
      obtain ⟨meth9, c9, h1, h2, -, -, -, -, h7, -⟩ := Cond.code_spec B.named (atoms_spec (ws := ws) B.pre _ (by rw [hw]; exact List.mem_cons_self))
      cases Option.some.inj (h1.symm.trans B.method)
      cases Option.some.inj (h2.symm.trans (Stand.of_body B).code)
      intro x hx
      rw [Array.isEmpty_iff.mp h7] at hx
      cases hx
    obtain ⟨t, a1, o, b1, b2, b3⟩ := body p e s m args below meth c s₁ B hml ht hP s₁ hh0 (Stand.of_body B)
    exact ⟨t, o, a1, b1, b2, b3⟩
/-- the table of a body with handlers -/
theorem vx_table {p : Program} {x y : MethodName} {S : Spec} {cc bytes : ByteArray} {maxL maxL' : Nat} {ret ret' : Option FieldType} {e : Env} {s s₁ : State} {m : MethodId} {args : Array Value} {below : List Frame} {meth : Method} {c : Code} {hh : List (Nat × Nat × Nat × Nat)}
    (B : BodyLoose p l y S cc maxL ret e s m args below meth c s₁) (h : (Cond.codeWith y bytes maxL' ret' hh).before args s = true) : c.exceptionTable.toList = tableOf hh := by
  obtain ⟨m9, meth9, c9, hn9, h1, h2, -, -, h6, -⟩ := Cond.codeWith_spec h
  cases Option.some.inj (hn9.symm.trans B.named)
  cases Option.some.inj (h1.symm.trans B.method)
  cases Option.some.inj (h2.symm.trans (Stand.of_body B).code)
  rw [← h6, table_eq]
end Bodies
end VXA
/-! ===== END ===== -/
/-! ===== BEGIN a static call of a method with an exception table ===== -/
section VXS
variable {p : Program} {l : Launch} {e : Env} {R : Room} {s : State} {m : MethodId} {args : Array Value} {below : List Frame} {meth : Method} {c : Code} {T : State} {H : Heap} {locs : List Loc} {cells slots : Nat}
abbrev vx_CSW (R : Room) (s : State) (args : Array Value) (own : String) (index : Nat) (y : MethodName) (bytes : ByteArray) (maxL : Nat) (ret : Option FieldType) (hh : List (Nat × Nat × Nat × Nat)) (ws : List Cond) (rm : Room) (mc ms n : Nat) : Prop :=
  (rm.cells = mc ∧ rm.slots = ms ∧ rm.frames + 1 ≤ R.frames ∧ 8 + (maxL + 11) + rm.locals ≤ R.locals ∧ (∀ w ∈ ws, ∀ (a' : Array Value) (U : State), s.WarmedH U.vm → w.before a' U = true) ∧ Cond.codeWith y bytes maxL ret hh ∈ ws) ∧
  (Cond.codeWith y bytes maxL ret hh).before args s = true ∧ (Cond.initialized y.cls).before args s = true ∧ (y.cls ≠ "java/lang/invoke/MethodHandle" ∧ y.cls ≠ "java/lang/invoke/VarHandle") ∧
  (∀ sig, parseMethodDescriptor y.desc = some sig → n = sig.parameters.length) ∧ (Cond.methodLink own index y).before args s = true ∧ (Cond.static y).before args s = true
theorem vx_cwSW {own : String} {index maxL mc ms : Nat} {y : MethodName} {bytes : ByteArray} {ret : Option FieldType} {hh : List (Nat × Nat × Nat × Nat)} {Ts ws ws' : List Cond} {rm : Room} (n : Nat) (ht : ∀ w ∈ Ts, w.before args s = true) (hT : GoodIn Ts (va_wsS own index y ws)) (hw : ws = Cond.codeWith y bytes maxL ret hh :: ws') (hrc : rm.cells = mc) (hrs : rm.slots = ms)
    (hd : y.cls ≠ "java/lang/invoke/MethodHandle" ∧ y.cls ≠ "java/lang/invoke/VarHandle" ∧ (parseMethodDescriptor y.desc).map (fun d => d.parameters.length) = some n) (hR : rm.frames + 1 ≤ R.frames ∧ 8 + (maxL + 11) + rm.locals ≤ R.locals) :
    vx_CSW R s args own index y bytes maxL ret hh ws rm mc ms n := by
  have ok : ∀ w ∈ va_wsS own index y ws, w.before args s = true := fun w h => ht w (hT w h).1
  have hG : GoodIn Ts ws := fun w h => hT w (by unfold va_wsS; exact List.mem_append_right _ h)
  have hc : Cond.codeWith y bytes maxL ret hh ∈ ws := by rw [hw]; exact List.mem_cons_self
  refine ⟨⟨hrc, hrs, hR.1, hR.2, pay_in ht hG, hc⟩, ht _ (hG _ hc).1, ok _ (by simp [va_wsS]), ⟨hd.1, hd.2.1⟩, fun sig h => ?_, ok _ (by simp [va_wsS]), ok _ (by simp [va_wsS])⟩
  have h2 := hd.2.2
  rw [h] at h2
  exact (Option.some.inj h2).symm
theorem vx_callSW (X : Stand p l e R s m args below meth c T locs cells slots) (hexec : p.tables.exec = Jvm.exec) {own : String} {index : Nat} {y : MethodName} {bytes : ByteArray} {maxL : Nat} {ret : Option FieldType} {hh : List (Nat × Nat × Nat × Nat)}
    (hown : s.vm.findClass own = some m.cls) (hlink : (Cond.methodLink own index y).before args s = true) (hstat : (Cond.static y).before args s = true) (hinit : (Cond.initialized y.cls).before args s = true)
    (hcode : (Cond.codeWith y bytes maxL ret hh).before args s = true) (hy : y.cls ≠ "java/lang/invoke/MethodHandle" ∧ y.cls ≠ "java/lang/invoke/VarHandle")
    {W9 : Nat} {Pre : Pt → Array Value → Prop} {Post : Pt → Array Value → Option Value → Pt → Prop} (hK : Back l R p e below s args y 3 W9 Pre Post)
    {g : JFrame} (hg : g.method = m) (hsize : g.locals.size = c.maxLocals) {argsL rest : List Value} (hlen : ∀ sig, parseMethodDescriptor y.desc = some sig → argsL.length = sig.parameters.length)
    (hstack : g.stack = argsL.reverse ++ rest) (hW : 2 * g.monitorRoom + (rest.map fun v => v.category).sum ≤ W9) (hdg : decode c.code g.pc = .ok (.invokestatic index, 3))
    (hpre : ∀ vm₁, s.WarmedH vm₁ → Pre ⟨T.setVm vm₁, locs, cells, slots⟩ argsL.toArray) :
    ∃ (v : Option Value) (vm₁ : Vm) (B : Pt), s.WarmedH vm₁ ∧ Stand p l e R s m args below meth c B.U B.locs B.cells B.slots ∧ Post ⟨T.setVm vm₁, locs, cells, slots⟩ argsL.toArray v B ∧
      ∀ target, Steps p.tables e below (B.U.setTop { g with pc := g.pc + 3, stack := v.toList ++ rest }) target → Steps p.tables e below (T.setTop g) target := by
  obtain ⟨mk, methM, cM, hnamed, hmethM, -, -, -, -, -, -, hsigM⟩ := Cond.codeWith_spec hcode
  have hstatic : methM.isStatic = true := Cond.static_spec hnamed hmethM hstat
  obtain ⟨kP, hkP, -⟩ := className_of_methodNamed hnamed
  have hinitP : kP.init = .initialized := Cond.initialized_spec (findClass_of_methodNamed hnamed) hkP hinit
  obtain ⟨vm₁, X₁, hstep₁⟩ := X.invokestatic hexec hown hlink hnamed hmethM hstatic hkP hinitP hy (g := g) hg (argsL := argsL) (rest := rest) (hlen _ hsigM) hstack hdg
  obtain ⟨v, B, X', hpost, hsteps⟩ := hK m meth c ⟨T.setVm vm₁, locs, cells, slots⟩ { g with stack := rest } (.invokestatic index) mk argsL.toArray X₁ hg hsize hdg hW (X₁.named hnamed) (hpre vm₁ X₁.warmed)
  exact ⟨v, vm₁, B, X₁.warmed, X', hpost, fun target h => hstep₁ _ fun acts => by rw [doInvoke_state]; exact hsteps.trans h⟩
theorem vx_runSW {y : MethodName} {bytes cc : ByteArray} {maxL nL mc ms n index : Nat} {ret : Option FieldType} {hh : List (Nat × Nat × Nat × Nat)} {ws : List Cond} {rm : Room} {Pc : Array Value → State → Prop} {Qc : Array Value → State → Outcome → State → Prop} {free : Addr → Prop} {Ts : List Cond} {own : String} {As rest : List Value} {g : JFrame}
    (S : CallFix p m c cc nL s args Ts own) (hM : Met l y ws rm Pc Qc mc ms free) (cw : vx_CSW R s args own index y bytes maxL ret hh ws rm mc ms n) (hp : PreS s H Pc As)
    (hg : g.method = m) (hn : As.length = n) (hsize : g.locals.size = nL) (hstack : g.stack = As.reverse ++ rest) (hW : 2 * g.monitorRoom + (rest.map fun v => v.category).sum ≤ 8) (hdg : decode cc g.pc = .ok (.invokestatic index, 3)) (hf : cells + mc ≤ R.cells ∧ slots + ms ≤ R.slots) :
    va_Run p l e R s m args below meth c H locs cells slots mc ms g rest (Qc As.toArray) (free) := by
  obtain ⟨⟨hrc, hrs, hfr, hlo, hws, hcw⟩, hcode, hini, hy, hlen, hl, hstt⟩ := cw
  have hK : Back l R p e below s args y 3 8 (PreOf R mc ms Pc) (PostOf Qc mc ms free) := va_backW (hh := hh) (bytes := bytes) (maxL := maxL) (ret := ret) hM hp.1 hrc hrs hfr hlo hws hcw (fun a' U hW => word_at hW (Or.inl (by first | rfl | simp [Cond.onTables, Cond.keeps, Cond.steady])) hini)
  obtain ⟨hx, hb, hml, ho, -⟩ := S
  intro T hT X
  obtain ⟨v, vm₁, ⟨U', l2, c2, s2⟩, hW₁, X', ⟨g', mk, t, L, e1, e2, hq, h1, hL, h2, h3⟩, st⟩ := vx_callSW X hx (hh := hh) (bytes := bytes) (maxL := maxL) (ret := ret) ho hl hstt hini hcode hy hK hg (hsize.trans hml.symm) (argsL := As) (rest := rest) (fun sig h => hn.trans (hlen sig h)) hstack hW (by rw [hb]; exact hdg)
    (fun vm₁ hW₁ => ⟨hf.1, hf.2, hp.2 (T.setVm vm₁) hT hW₁⟩)
  dsimp only [Pt.U, Pt.locs, Pt.cells, Pt.slots] at X' e1 e2 h1 h2 h3 st
  subst h1; subst h2; subst h3
  exact ⟨v, (T.setVm vm₁).calling g' mk As.toArray, t, U', L, hT, X', hL, e1, e2, hq, st⟩
/-- not caught here, past rows that name other classes: it goes on to the caller -/
theorem vx_outP {p : Program} {l : Launch} {e : Env} {R : Room} {s : State} {m : MethodId} {args : Array Value} {below : List Frame} {meth : Method} {c : Code} {H : Heap} {locs : List Loc} {cells slots : Nat} {free : Addr → Prop} {ls : Array Slot} {rest : List Value} {Qc : Array Value → State → Outcome → State → Prop} {XC : String → State → State → Prop}
    {pc : Nat} {own E : String} {ce : Cell} {q : Addr} {mc ms : Nat} (hown : s.vm.findClass own = some m.cls) (hlocks : meth.locks = false)
    (hpass : ∀ z ∈ c.exceptionTable.toList, covers z pc = false ∨ (z.catchType ≠ 0 ∧ ∃ nm : String, (Cond.classLink own z.catchType nm).before args s = true ∧ va_Nc E nm s)) (hcell : H[q]? = some ce) (hv : ce.vm = .none) (hcl : s.vm.findClass E = some ce.cls)
    (hx : ∀ t : State, t.heap = H → s.vm.Alike t.vm → XC E s t) (hf : ∀ z ∈ locs, free z.base) (hc : cells ≤ mc) (hs : slots ≤ ms) :
    vx_W p l e R s m args below meth c H locs cells slots (vx_MQ below Qc XC args s mc ms free) (F0 m pc ls rest) q := by
  intro T hT X
  have hpl : e.platform.magicAccessors = ({} : Platform).magicAccessors := by rw [X.admits.platform]
  obtain ⟨vm', hW', X', st⟩ := X.outThrough hlocks q (g := F0 m pc ls rest) rfl rfl rfl (cell := ce) (by rw [hT]; exact hcell) (by rw [hv]; rfl)
    (by obtain ⟨k9, h9, -⟩ := Vm.findClass_spec hcl; exact ⟨k9, h9⟩) (fun z hz => by
      rcases hpass z hz with h | ⟨hz0, nm, hl1, hn1⟩
      · exact Or.inl h
      · obtain ⟨c6, hc6, hcl6⟩ := Cond.classLink_spec hown hl1 e.platform hpl
        obtain ⟨a8, b8, h1, h2, h3⟩ := hn1
        cases Option.some.inj (h1.symm.trans hcl)
        cases Option.some.inj (h2.symm.trans hc6)
        exact Or.inr ⟨hz0, _, hcl6, h3⟩)
  obtain ⟨g₀, hfr⟩ := X'.frames_eq
  have hcell9 : ((T.setVm vm').setFrames (.throwing q :: below)).heap[q]? = some ce := by
    show T.heap[q]? = some ce
    rw [hT]; exact hcell
  have hend : Ended ((T.setVm vm').setFrames (.throwing q :: below)) below (.threw q) := State.frames_setFrames _ (State.cur_lt_of_frames hfr)
  refine ⟨(T.setVm vm').setFrames (.throwing q :: below), ?_, .threw q, X'.here.running, hend, Or.inr ⟨q, rfl, E, ce, locs, hx _ hT (X'.ends _).1.alike, hcell9, hv, hcl, (X'.ends _).1, (X'.ends _).2.mono hc hs, hf⟩⟩
  rw [X.pushThrowing_eq]
  exact st
/-- a thing of a world lies in the heap -/
theorem vx_lt {D : va_G} {cl : List vw_C} {ws : va_W} {H1 : Heap} (h : va_P D cl ws H1) {k : Nat} {q : Nat × va_E} (hk : ws[k]? = some q) : q.1 < H1.size := (h k q hk).lt
end VXS
/-! ===== END ===== -/
/-! ===== BEGIN methods with a table of their own: called by a name, returning or throwing ===== -/
section VXH
/-! vx_backW, vx_callVX, vx_callSX, vx_callVW, vx_runVW, vx_runVX, vx_runSX, vx_ofWH follow the same proofs as their sisters above (Free/Laws.lean, Shelf42/LK1.lean); vx_outP calls Shelf42/NT130.lean (outThrough). -/
section
variable {l : Launch} {R : Room} {p : Program} {e : Env} {below : List Frame} {s : State} {sargs : Array Value} {y : MethodName} {len W9 : Nat}
theorem vx_backW {ws : List Cond} {rm : Room} {Pc : Array Value → State → Prop} {Qc : Array Value → State → Outcome → State → Prop} {XC : String → State → State → Prop} {mc ms : Nat} {free : Addr → Prop} {bytes : ByteArray} {maxL : Nat} {ret : Option FieldType} {hh : List (Nat × Nat × Nat × Nat)}
    (hM : vx_Met l y ws rm Pc Qc XC mc ms free) (hblind : FrameBlind Pc) (hrc : rm.cells = mc) (hrs : rm.slots = ms)
    (hframes : rm.frames + 1 ≤ R.frames) (hlocals : W9 + (maxL + 11) + rm.locals ≤ R.locals)
    (hws : ∀ w ∈ ws, ∀ a' U, s.WarmedH U.vm → w.before a' U = true) (hcode : Cond.codeWith y bytes maxL ret hh ∈ ws) (hinit : ∀ a' U, s.WarmedH U.vm → (Cond.initialized y.cls).before a' U = true) :
    vx_Back l R p e below s sargs y len W9 (PreOf R mc ms Pc) (PostOf Qc mc ms free) (vx_Post XC mc ms free) := by
  intro m meth c A g ig mk a X hg hsize hdg hW hn hp
  have h1 : (headSpec ws rm).pre.before a A.U = true := atoms_intro fun w hw => hws w hw _ _ X.warmed
  have h2 : (Cond.codeWith y bytes maxL ret hh).before a A.U = true := hws _ hcode _ _ X.warmed
  have h3 : (Cond.initialized y.cls).before a A.U = true := hinit _ _ X.warmed
  have h4 : A.cells + (headSpec ws rm).room.cells ≤ R.cells := by rw [show (headSpec ws rm).room.cells = mc from hrc]; exact hp.1
  have h5 : A.slots + (headSpec ws rm).room.slots ≤ R.slots := by rw [show (headSpec ws rm).room.slots = ms from hrs]; exact hp.2.1
  have hPc : Pc a (A.U.calling g mk a) := hblind _ _ _ _ hp.2.2
  obtain ⟨U, Ls, c0, s0⟩ := A
  dsimp only [Pt.U, Pt.locs, Pt.cells, Pt.slots] at h1 h2 h3 h4 h5 X hn hPc ⊢
  obtain ⟨m9, methY, cY, hn9, hmY, hcY, -, hlY, -⟩ := Cond.codeWith_spec h2
  cases Option.some.inj (hn9.symm.trans hn)
  obtain ⟨kY, hkY, -⟩ := className_of_methodNamed hn
  have hinitY : kY.init = .initialized := Cond.initialized_spec (findClass_of_methodNamed hn) hkY h3
  have h : At U g.method c below := by rw [hg]; exact X.here
  have hlocals9 : W9 + (maxL + 11) + (headSpec ws rm).room.locals ≤ R.locals := hlocals
  have happ : (headSpec ws rm).appliesLoose y e.platform (U.calling g mk a) = true :=
    Spec.appliesLoose_calling (g := g) h hdg hn hkY hinitY
      (X.room_calling (g := g) (R' := (headSpec ws rm).room) hsize hmY hcY hframes (by rw [hlY]; omega) h4 h5) h1
  obtain ⟨mid, hmid⟩ := h.above
  have hfr : (U.setTop g).frames = (.java g :: mid) ++ below := by rw [State.frames_setTop' g h.top, hmid]; rfl
  obtain ⟨o, s₂, hsteps, -, hend, hq⟩ := Steps.callFree hM p X.admits X.cas X.clock (acts := []) hfr happ hPc trivial
  have hq' : vx_Q Qc XC mc ms free a (U.calling g mk a) o s₂ := hq
  rw [State.frames_setTop' g h.top] at hend
  obtain ⟨g₀, hg0⟩ := Option.isSome_iff_exists.mp h.top
  obtain ⟨r, hr⟩ := State.topJava?_eq_some.mp hg0
  have hr' : (({ U with heap := s₂.heap, slotsUsed := s₂.slotsUsed } : State).setVm s₂.vm).frames = .java g₀ :: r := hr
  rcases hq' with ⟨hqc, L, hfe, hL⟩ | ⟨q, rfl, E, ce, L, hx, hce, hcv, hcl, hW₂, hsm, hL⟩
  · obtain ⟨⟨v, rfl⟩, hW₂, e2, q2, q3, q4, q5, q6⟩ := id hfe
    have e3 : s₂ = ({ (U.calling g mk a).setFrames s₂.frames with heap := s₂.heap, slotsUsed := s₂.slotsUsed } : State).setVm s₂.vm := by
      have : s₂ = ({ s₂ with vm := (U.calling g mk a).vm } : State).setVm s₂.vm := rfl
      rw [e2] at this
      exact this
    obtain ⟨c₂, i₂, len₂, hc₂, hd₂, hf₂⟩ := hend
    have hW' : U.WarmedH s₂.vm := hW₂
    have hcc : c₂ = c := by
      have h1 : s₂.code? g.method = U.code? g.method := by
        rw [State.code?_eq, State.code?_eq, hW'.alike.method?]
      exact Option.some.inj (hc₂.symm.trans (h1.trans h.code))
    subst hcc
    have hlen : len₂ = len := by rw [hdg] at hd₂; cases hd₂; rfl
    subst hlen
    have hs₂ : s₂ = (({ U with heap := s₂.heap, slotsUsed := s₂.slotsUsed } : State).setVm s₂.vm).setTop { g with pc := g.pc + len₂, stack := v.toList ++ g.stack } := by
      refine e3.trans ?_
      rw [hf₂, State.calling_eq h.top, State.setFrames_setFrames, State.setTop_of_frames _ hr', hr]
      rfl
    have hsame : U.sameButNew ({ U with heap := s₂.heap, slotsUsed := s₂.slotsUsed } : State) L mc ms := by
      refine ⟨?_, q2, q3, q4, q5, q6⟩
      obtain ⟨t, ht, -⟩ := State.frames_cons hr
      show ({ U with heap := s₂.heap, slotsUsed := s₂.slotsUsed } : State) = { U.setFrames U.frames with heap := s₂.heap, slotsUsed := s₂.slotsUsed }
      rw [State.setFrames_self ht]
    subst hg
    refine Or.inl ⟨v, ⟨(({ U with heap := s₂.heap, slotsUsed := s₂.slotsUsed } : State).setVm s₂.vm), Ls ++ L, c0 + mc, s0 + ms⟩,
      ⟨X.admits, X.cas, X.clock, X.frames, X.room, X.hears, X.method, X.code, (X.here.setHeapUsed s₂.heap s₂.slotsUsed).setVm hW'.alike, X.tail, State.WarmedH.trans X.warmed hW', X.limits, X.bytes, X.same.trans (hsame.setVm s.vm)⟩,
      ⟨g, mk, s₂, L, rfl, rfl, hqc, rfl, hL, rfl, rfl⟩, ?_⟩
    show Steps p.tables e below _ ((({ U with heap := s₂.heap, slotsUsed := s₂.slotsUsed } : State).setVm s₂.vm).setTop { g with pc := g.pc + len₂, stack := v.toList ++ g.stack })
    rw [← hs₂]
    exact hsteps
  · obtain ⟨e2, q2, q3, q4, q5, q6⟩ := id hsm
    have e3 : s₂ = ({ (U.calling g mk a).setFrames s₂.frames with heap := s₂.heap, slotsUsed := s₂.slotsUsed } : State).setVm s₂.vm := by
      have : s₂ = ({ s₂ with vm := (U.calling g mk a).vm } : State).setVm s₂.vm := rfl
      rw [e2] at this
      exact this
    have hf₂ : s₂.frames = .throwing q :: .java g :: U.frames.tail := hend
    have hW' : U.WarmedH s₂.vm := hW₂
    have hs₂ : s₂ = ((({ U with heap := s₂.heap, slotsUsed := s₂.slotsUsed } : State).setVm s₂.vm).setTop g).pushFrame (.throwing q) := by
      refine e3.trans ?_
      rw [hf₂, State.calling_eq h.top, State.setFrames_setFrames, State.pushFrame, State.frames_setTop _ hr', State.setTop_of_frames _ hr', State.setFrames_setFrames, hr]
      rfl
    have hsame : U.sameButNew ({ U with heap := s₂.heap, slotsUsed := s₂.slotsUsed } : State) L mc ms := by
      refine ⟨?_, q2, q3, q4, q5, q6⟩
      obtain ⟨t, ht, -⟩ := State.frames_cons hr
      show ({ U with heap := s₂.heap, slotsUsed := s₂.slotsUsed } : State) = { U.setFrames U.frames with heap := s₂.heap, slotsUsed := s₂.slotsUsed }
      rw [State.setFrames_self ht]
    subst hg
    refine Or.inr ⟨q, ⟨(({ U with heap := s₂.heap, slotsUsed := s₂.slotsUsed } : State).setVm s₂.vm), Ls ++ L, c0 + mc, s0 + ms⟩,
      ⟨X.admits, X.cas, X.clock, X.frames, X.room, X.hears, X.method, X.code, (X.here.setHeapUsed s₂.heap s₂.slotsUsed).setVm hW'.alike, X.tail, State.WarmedH.trans X.warmed hW', X.limits, X.bytes, X.same.trans (hsame.setVm s.vm)⟩,
      ⟨g, mk, s₂, L, E, ce, rfl, rfl, hx, hce, hcv, hcl, rfl, hL, rfl, rfl⟩, ?_⟩
    show Steps p.tables e below _ (((({ U with heap := s₂.heap, slotsUsed := s₂.slotsUsed } : State).setVm s₂.vm).setTop g).pushFrame (.throwing q))
    rw [← hs₂]
    exact hsteps
end
variable {p : Program} {l : Launch} {e : Env} {R : Room} {s : State} {m : MethodId} {args : Array Value} {below : List Frame} {meth : Method} {c : Code} {T : State} {H : Heap} {locs : List Loc} {cells slots : Nat}
theorem vx_callVX (X : Stand p l e R s m args below meth c T locs cells slots) (hexec : p.tables.exec = Jvm.exec) {own C : String} {index : Nat} {y : MethodName} {bytes : ByteArray} {maxL : Nat} {ret : Option FieldType} {hh : List (Nat × Nat × Nat × Nat)}
    (hown : s.vm.findClass own = some m.cls) (hlink : (Cond.methodLink own index y).before args s = true) (hinst : (Cond.instanceMethod y).before args s = true) (hsel : (Cond.selects C y y).before args s = true)
    (hcode : (Cond.codeWith y bytes maxL ret hh).before args s = true) (hy : y.cls ≠ "java/lang/invoke/MethodHandle" ∧ y.cls ≠ "java/lang/invoke/VarHandle")
    {W9 : Nat} {Pre : Pt → Array Value → Prop} {Post : Pt → Array Value → Option Value → Pt → Prop} {PostX : Pt → Array Value → Addr → Pt → Prop} (hK : vx_Back l R p e below s args y 3 W9 Pre Post PostX)
    {b : Addr} {cellB : Cell} (hcell : T.heap[b]? = some cellB) (hobj : cellB.vm.isStatics = false) (hcls : s.vm.findClass C = some cellB.cls)
    {g : JFrame} (hg : g.method = m) (hsize : g.locals.size = c.maxLocals) {argsL rest : List Value} (hlen : ∀ sig, parseMethodDescriptor y.desc = some sig → argsL.length = sig.parameters.length)
    (hstack : g.stack = argsL.reverse ++ .ref b :: rest) (hW : 2 * g.monitorRoom + (rest.map fun v => v.category).sum ≤ W9) (hdg : decode c.code g.pc = .ok (.invokevirtual index, 3))
    (hpre : ∀ vm₁, s.WarmedH vm₁ → Pre ⟨T.setVm vm₁, locs, cells, slots⟩ (Value.ref b :: argsL).toArray) :
    (∃ (v : Option Value) (vm₁ : Vm) (B : Pt), s.WarmedH vm₁ ∧ Stand p l e R s m args below meth c B.U B.locs B.cells B.slots ∧ Post ⟨T.setVm vm₁, locs, cells, slots⟩ (Value.ref b :: argsL).toArray v B ∧
      ∀ target, Steps p.tables e below (B.U.setTop { g with pc := g.pc + 3, stack := v.toList ++ rest }) target → Steps p.tables e below (T.setTop g) target) ∨
    (∃ (q : Addr) (vm₁ : Vm) (B : Pt), s.WarmedH vm₁ ∧ Stand p l e R s m args below meth c B.U B.locs B.cells B.slots ∧ PostX ⟨T.setVm vm₁, locs, cells, slots⟩ (Value.ref b :: argsL).toArray q B ∧
      Steps p.tables e below (T.setTop g) ((B.U.setTop { g with stack := rest }).pushFrame (.throwing q))) := by
  obtain ⟨mk, methM, hnamed, hmethM, hstM, habM⟩ := Cond.instanceMethod_spec hinst
  obtain ⟨m8, methM', cM, hn8, hmethM', -, -, -, -, -, -, hsigM⟩ := Cond.codeWith_spec hcode
  cases Option.some.inj (hn8.symm.trans hnamed)
  cases hmethM.symm.trans hmethM'
  obtain ⟨c2, r2, m2, q1, q2, q3, q4, kP, hkP, hkPi⟩ := Cond.selects_spec hsel
  cases hcls.symm.trans q1
  cases (State.methodFound?_of_named hnamed hy).symm.trans q2
  cases hnamed.symm.trans q3
  have hselP : selectMethod e.platform s.vm cellB.cls mk = .method mk := by rw [Launch.admits_selectMethod X.admits]; exact q4
  obtain ⟨vm₁, X₁, hstep₁⟩ := X.invokevirtual hexec hown hlink hnamed hmethM hstM hkP hkPi hy (a := b) (cell := cellB) hcell
    (fun z h => by rw [h] at hobj; cases hobj) hselP hmethM habM hkP hkPi (g := g) hg (argsL := argsL) (rest := rest) (hlen _ hsigM) hstack hdg
  rcases hK m meth c ⟨T.setVm vm₁, locs, cells, slots⟩ { g with stack := rest } (.invokevirtual index) mk (Value.ref b :: argsL).toArray X₁ hg hsize hdg hW (X₁.named hnamed) (hpre vm₁ X₁.warmed) with ⟨v, B, X', hpost, hsteps⟩ | ⟨q, B, X', hpost, hsteps⟩
  · exact Or.inl ⟨v, vm₁, B, X₁.warmed, X', hpost, fun target h => hstep₁ _ fun acts => by rw [doInvoke_state]; exact hsteps.trans h⟩
  · exact Or.inr ⟨q, vm₁, B, X₁.warmed, X', hpost, hstep₁ _ fun acts => by rw [doInvoke_state]; exact hsteps⟩
theorem vx_callSX (X : Stand p l e R s m args below meth c T locs cells slots) (hexec : p.tables.exec = Jvm.exec) {own : String} {index : Nat} {y : MethodName} {bytes : ByteArray} {maxL : Nat} {ret : Option FieldType} {hh : List (Nat × Nat × Nat × Nat)}
    (hown : s.vm.findClass own = some m.cls) (hlink : (Cond.methodLink own index y).before args s = true) (hstat : (Cond.static y).before args s = true) (hinit : (Cond.initialized y.cls).before args s = true)
    (hcode : (Cond.codeWith y bytes maxL ret hh).before args s = true) (hy : y.cls ≠ "java/lang/invoke/MethodHandle" ∧ y.cls ≠ "java/lang/invoke/VarHandle")
    {W9 : Nat} {Pre : Pt → Array Value → Prop} {Post : Pt → Array Value → Option Value → Pt → Prop} {PostX : Pt → Array Value → Addr → Pt → Prop} (hK : vx_Back l R p e below s args y 3 W9 Pre Post PostX)
    {g : JFrame} (hg : g.method = m) (hsize : g.locals.size = c.maxLocals) {argsL rest : List Value} (hlen : ∀ sig, parseMethodDescriptor y.desc = some sig → argsL.length = sig.parameters.length)
    (hstack : g.stack = argsL.reverse ++ rest) (hW : 2 * g.monitorRoom + (rest.map fun v => v.category).sum ≤ W9) (hdg : decode c.code g.pc = .ok (.invokestatic index, 3))
    (hpre : ∀ vm₁, s.WarmedH vm₁ → Pre ⟨T.setVm vm₁, locs, cells, slots⟩ argsL.toArray) :
    (∃ (v : Option Value) (vm₁ : Vm) (B : Pt), s.WarmedH vm₁ ∧ Stand p l e R s m args below meth c B.U B.locs B.cells B.slots ∧ Post ⟨T.setVm vm₁, locs, cells, slots⟩ argsL.toArray v B ∧
      ∀ target, Steps p.tables e below (B.U.setTop { g with pc := g.pc + 3, stack := v.toList ++ rest }) target → Steps p.tables e below (T.setTop g) target) ∨
    (∃ (q : Addr) (vm₁ : Vm) (B : Pt), s.WarmedH vm₁ ∧ Stand p l e R s m args below meth c B.U B.locs B.cells B.slots ∧ PostX ⟨T.setVm vm₁, locs, cells, slots⟩ argsL.toArray q B ∧
      Steps p.tables e below (T.setTop g) ((B.U.setTop { g with stack := rest }).pushFrame (.throwing q))) := by
  obtain ⟨mk, methM, cM, hnamed, hmethM, -, -, -, -, -, -, hsigM⟩ := Cond.codeWith_spec hcode
  have hstatic : methM.isStatic = true := Cond.static_spec hnamed hmethM hstat
  obtain ⟨kP, hkP, -⟩ := className_of_methodNamed hnamed
  have hinitP : kP.init = .initialized := Cond.initialized_spec (findClass_of_methodNamed hnamed) hkP hinit
  obtain ⟨vm₁, X₁, hstep₁⟩ := X.invokestatic hexec hown hlink hnamed hmethM hstatic hkP hinitP hy (g := g) hg (argsL := argsL) (rest := rest) (hlen _ hsigM) hstack hdg
  rcases hK m meth c ⟨T.setVm vm₁, locs, cells, slots⟩ { g with stack := rest } (.invokestatic index) mk argsL.toArray X₁ hg hsize hdg hW (X₁.named hnamed) (hpre vm₁ X₁.warmed) with ⟨v, B, X', hpost, hsteps⟩ | ⟨q, B, X', hpost, hsteps⟩
  · exact Or.inl ⟨v, vm₁, B, X₁.warmed, X', hpost, fun target h => hstep₁ _ fun acts => by rw [doInvoke_state]; exact hsteps.trans h⟩
  · exact Or.inr ⟨q, vm₁, B, X₁.warmed, X', hpost, hstep₁ _ fun acts => by rw [doInvoke_state]; exact hsteps⟩
theorem vx_callVW (X : Stand p l e R s m args below meth c T locs cells slots) (hexec : p.tables.exec = Jvm.exec) {own C : String} {index : Nat} {y : MethodName} {bytes : ByteArray} {maxL : Nat} {ret : Option FieldType} {hh : List (Nat × Nat × Nat × Nat)}
    (hown : s.vm.findClass own = some m.cls) (hlink : (Cond.methodLink own index y).before args s = true) (hinst : (Cond.instanceMethod y).before args s = true) (hsel : (Cond.selects C y y).before args s = true)
    (hcode : (Cond.codeWith y bytes maxL ret hh).before args s = true) (hy : y.cls ≠ "java/lang/invoke/MethodHandle" ∧ y.cls ≠ "java/lang/invoke/VarHandle")
    {W9 : Nat} {Pre : Pt → Array Value → Prop} {Post : Pt → Array Value → Option Value → Pt → Prop} (hK : Back l R p e below s args y 3 W9 Pre Post)
    {b : Addr} {cellB : Cell} (hcell : T.heap[b]? = some cellB) (hobj : cellB.vm.isStatics = false) (hcls : s.vm.findClass C = some cellB.cls)
    {g : JFrame} (hg : g.method = m) (hsize : g.locals.size = c.maxLocals) {argsL rest : List Value} (hlen : ∀ sig, parseMethodDescriptor y.desc = some sig → argsL.length = sig.parameters.length)
    (hstack : g.stack = argsL.reverse ++ .ref b :: rest) (hW : 2 * g.monitorRoom + (rest.map fun v => v.category).sum ≤ W9) (hdg : decode c.code g.pc = .ok (.invokevirtual index, 3))
    (hpre : ∀ vm₁, s.WarmedH vm₁ → Pre ⟨T.setVm vm₁, locs, cells, slots⟩ (Value.ref b :: argsL).toArray) :
    ∃ (v : Option Value) (vm₁ : Vm) (B : Pt), s.WarmedH vm₁ ∧ Stand p l e R s m args below meth c B.U B.locs B.cells B.slots ∧ Post ⟨T.setVm vm₁, locs, cells, slots⟩ (Value.ref b :: argsL).toArray v B ∧
      ∀ target, Steps p.tables e below (B.U.setTop { g with pc := g.pc + 3, stack := v.toList ++ rest }) target → Steps p.tables e below (T.setTop g) target := by
  obtain ⟨mk, methM, hnamed, hmethM, hstM, habM⟩ := Cond.instanceMethod_spec hinst
  obtain ⟨m8, methM', cM, hn8, hmethM', -, -, -, -, -, -, hsigM⟩ := Cond.codeWith_spec hcode
  cases Option.some.inj (hn8.symm.trans hnamed)
  cases hmethM.symm.trans hmethM'
  obtain ⟨c2, r2, m2, q1, q2, q3, q4, kP, hkP, hkPi⟩ := Cond.selects_spec hsel
  cases hcls.symm.trans q1
  cases (State.methodFound?_of_named hnamed hy).symm.trans q2
  cases hnamed.symm.trans q3
  have hselP : selectMethod e.platform s.vm cellB.cls mk = .method mk := by rw [Launch.admits_selectMethod X.admits]; exact q4
  obtain ⟨vm₁, X₁, hstep₁⟩ := X.invokevirtual hexec hown hlink hnamed hmethM hstM hkP hkPi hy (a := b) (cell := cellB) hcell
    (fun z h => by rw [h] at hobj; cases hobj) hselP hmethM habM hkP hkPi (g := g) hg (argsL := argsL) (rest := rest) (hlen _ hsigM) hstack hdg
  obtain ⟨v, B, X', hpost, hsteps⟩ := hK m meth c ⟨T.setVm vm₁, locs, cells, slots⟩ { g with stack := rest } (.invokevirtual index) mk (Value.ref b :: argsL).toArray X₁ hg hsize hdg hW (X₁.named hnamed) (hpre vm₁ X₁.warmed)
  exact ⟨v, vm₁, B, X₁.warmed, X', hpost, fun target h => hstep₁ _ fun acts => by rw [doInvoke_state]; exact hsteps.trans h⟩
abbrev vx_CVW (R : Room) (s : State) (args : Array Value) (own C : String) (index : Nat) (y : MethodName) (bytes : ByteArray) (maxL : Nat) (ret : Option FieldType) (hh : List (Nat × Nat × Nat × Nat)) (ws : List Cond) (rm : Room) (mc ms n : Nat) : Prop :=
  (rm.cells = mc ∧ rm.slots = ms ∧ rm.frames + 1 ≤ R.frames ∧ 8 + (maxL + 11) + rm.locals ≤ R.locals ∧ (∀ w ∈ ws, ∀ (a' : Array Value) (U : State), s.WarmedH U.vm → w.before a' U = true) ∧ Cond.codeWith y bytes maxL ret hh ∈ ws) ∧
  (Cond.codeWith y bytes maxL ret hh).before args s = true ∧ (Cond.initialized y.cls).before args s = true ∧ (y.cls ≠ "java/lang/invoke/MethodHandle" ∧ y.cls ≠ "java/lang/invoke/VarHandle") ∧
  (∀ sig, parseMethodDescriptor y.desc = some sig → n = sig.parameters.length) ∧ (Cond.methodLink own index y).before args s = true ∧ (Cond.instanceMethod y).before args s = true ∧ (Cond.selects C y y).before args s = true
theorem vx_cwVW {own C : String} {index maxL mc ms : Nat} {y : MethodName} {bytes : ByteArray} {ret : Option FieldType} {hh : List (Nat × Nat × Nat × Nat)} {Ts ws ws' : List Cond} {rm : Room} (n : Nat) (ht : ∀ w ∈ Ts, w.before args s = true) (hT : GoodIn Ts (wsV own index C y ws)) (hw : ws = Cond.codeWith y bytes maxL ret hh :: ws') (hrc : rm.cells = mc) (hrs : rm.slots = ms)
    (hd : y.cls = C ∧ y.cls ≠ "java/lang/invoke/MethodHandle" ∧ y.cls ≠ "java/lang/invoke/VarHandle" ∧ (parseMethodDescriptor y.desc).map (fun d => d.parameters.length) = some n) (hR : rm.frames + 1 ≤ R.frames ∧ 8 + (maxL + 11) + rm.locals ≤ R.locals) :
    vx_CVW R s args own C index y bytes maxL ret hh ws rm mc ms n := by
  obtain ⟨hC, hd⟩ := hd
  subst hC
  have ok : ∀ w ∈ wsV own index y.cls y ws, w.before args s = true := fun w h => ht w (hT w h).1
  have hG : GoodIn Ts ws := fun w h => hT w (by unfold wsV; exact List.mem_append_right _ h)
  have hc : Cond.codeWith y bytes maxL ret hh ∈ ws := by rw [hw]; exact List.mem_cons_self
  refine ⟨⟨hrc, hrs, hR.1, hR.2, pay_in ht hG, hc⟩, ht _ (hG _ hc).1, ok _ (by simp [wsV]), ⟨hd.1, hd.2.1⟩, fun sig h => ?_, ok _ (by simp [wsV]), ok _ (by simp [wsV]), ok _ (by simp [wsV])⟩
  have h2 := hd.2.2
  rw [h] at h2
  exact (Option.some.inj h2).symm
theorem vx_runVW {y : MethodName} {bytes cc : ByteArray} {maxL nL mc ms n index : Nat} {ret : Option FieldType} {hh : List (Nat × Nat × Nat × Nat)} {ws : List Cond} {rm : Room} {Pc : Array Value → State → Prop} {Qc : Array Value → State → Outcome → State → Prop} {free : Addr → Prop} {Ts : List Cond} {own C : String} {b : Addr} {As rest : List Value} {g : JFrame}
    (S : CallFix p m c cc nL s args Ts own) (hM : Met l y ws rm Pc Qc mc ms free) (cw : vx_CVW R s args own C index y bytes maxL ret hh ws rm mc ms n) (hp : PreV s H C b Pc As)
    (hg : g.method = m) (hn : As.length = n) (hsize : g.locals.size = nL) (hstack : g.stack = As.reverse ++ .ref b :: rest) (hW : 2 * g.monitorRoom + (rest.map fun v => v.category).sum ≤ 8) (hdg : decode cc g.pc = .ok (.invokevirtual index, 3)) (hf : cells + mc ≤ R.cells ∧ slots + ms ≤ R.slots) :
    va_Run p l e R s m args below meth c H locs cells slots mc ms g rest (Qc (Value.ref b :: As).toArray) free := by
  obtain ⟨⟨hrc, hrs, hfr, hlo, hws, hcw⟩, hcode, hini, hy, hlen, hl, hin, hse⟩ := cw
  have hK : Back l R p e below s args y 3 8 (PreOf R mc ms Pc) (PostOf Qc mc ms free) := va_backW (hh := hh) (bytes := bytes) (maxL := maxL) (ret := ret) hM hp.1 hrc hrs hfr hlo hws hcw (fun a' U hW => word_at hW (Or.inl (by first | rfl | simp [Cond.onTables, Cond.keeps, Cond.steady])) hini)
  obtain ⟨hx, hb, hml, ho, -⟩ := S
  obtain ⟨-, ⟨cellB, hcB, hoB, hclB⟩, hPc⟩ := hp
  intro T hT X
  obtain ⟨v, vm₁, ⟨U', l2, c2, s2⟩, hW₁, X', ⟨g', mk, t, L, e1, e2, hq, h1, hL, h2, h3⟩, st⟩ := vx_callVW X hx (C := C) (hh := hh) (bytes := bytes) (maxL := maxL) (ret := ret) ho hl hin hse hcode hy hK (by rw [hT]; exact hcB) hoB hclB hg (hsize.trans hml.symm) (argsL := As) (rest := rest) (fun sig h => hn.trans (hlen sig h)) hstack hW (by rw [hb]; exact hdg)
    (fun vm₁ hW₁ => ⟨hf.1, hf.2, hPc (T.setVm vm₁) hT hW₁⟩)
  dsimp only [Pt.U, Pt.locs, Pt.cells, Pt.slots] at X' e1 e2 h1 h2 h3 st
  subst h1; subst h2; subst h3
  exact ⟨v, (T.setVm vm₁).calling g' mk (Value.ref b :: As).toArray, t, U', L, hT, X', hL, e1, e2, hq, st⟩
section
variable {y : MethodName} {bytes cc : ByteArray} {maxL nL mc ms n index : Nat} {ret : Option FieldType} {ws : List Cond} {rm : Room} {Pc : Array Value → State → Prop} {Qc : Array Value → State → Outcome → State → Prop} {XC : String → State → State → Prop} {free : Addr → Prop} {Ts : List Cond} {own C : String} {b : Addr} {As rest : List Value} {g : JFrame}
theorem vx_runVX {hh : List (Nat × Nat × Nat × Nat)} (S : CallFix p m c cc nL s args Ts own) (hM : vx_Met l y ws rm Pc Qc XC mc ms free) (cw : vx_CVW R s args own C index y bytes maxL ret hh ws rm mc ms n) (hp : PreV s H C b Pc As)
    (hg : g.method = m) (hn : As.length = n) (hsize : g.locals.size = nL) (hstack : g.stack = As.reverse ++ .ref b :: rest) (hW : 2 * g.monitorRoom + (rest.map fun v => v.category).sum ≤ 8) (hdg : decode cc g.pc = .ok (.invokevirtual index, 3)) (hf : cells + mc ≤ R.cells ∧ slots + ms ≤ R.slots) :
    vx_Run p l e R s m args below meth c H locs cells slots mc ms g rest (Qc (Value.ref b :: As).toArray) XC free := by
  obtain ⟨⟨hrc, hrs, hfr, hlo, hws, hcw⟩, hcode, hini, hy, hlen, hl, hin, hse⟩ := cw
  have hK : vx_Back l R p e below s args y 3 8 (PreOf R mc ms Pc) (PostOf Qc mc ms free) (vx_Post XC mc ms free) := vx_backW (hh := hh) (bytes := bytes) (maxL := maxL) (ret := ret) hM hp.1 hrc hrs hfr hlo hws hcw (fun a' U hW => word_at hW (Or.inl (by first | rfl | simp [Cond.onTables, Cond.keeps, Cond.steady])) hini)
  obtain ⟨hx, hb, hml, ho, -⟩ := S
  obtain ⟨-, ⟨cellB, hcB, hoB, hclB⟩, hPc⟩ := hp
  intro T hT X
  rcases vx_callVX X hx (C := C) (hh := hh) (bytes := bytes) (maxL := maxL) (ret := ret) ho hl hin hse hcode hy hK (by rw [hT]; exact hcB) hoB hclB hg (hsize.trans hml.symm) (argsL := As) (rest := rest) (fun sig h => hn.trans (hlen sig h)) hstack hW (by rw [hb]; exact hdg)
    (fun vm₁ hW₁ => ⟨hf.1, hf.2, hPc (T.setVm vm₁) hT hW₁⟩) with ⟨v, vm₁, ⟨U', l2, c2, s2⟩, hW₁, X', ⟨g', mk, t, L, e1, e2, hq, h1, hL, h2, h3⟩, st⟩ | ⟨q, vm₁, ⟨U', l2, c2, s2⟩, hW₁, X', ⟨g', mk, t, L, E, ce, e1, e2, hq, hce, hcv, hcl, h1, hL, h2, h3⟩, st⟩
  · dsimp only [Pt.U, Pt.locs, Pt.cells, Pt.slots] at X' e1 e2 h1 h2 h3 st
    subst h1; subst h2; subst h3
    exact Or.inl ⟨v, (T.setVm vm₁).calling g' mk (Value.ref b :: As).toArray, t, U', L, hT, X', hL, e1, e2, hq, st⟩
  · dsimp only [Pt.U, Pt.locs, Pt.cells, Pt.slots] at X' e1 e2 h1 h2 h3 st hcl
    subst h1; subst h2; subst h3
    exact Or.inr ⟨q, (T.setVm vm₁).calling g' mk (Value.ref b :: As).toArray, t, U', L, E, ce, hT, X', hL, e1, e2, hq, hce, hcv, vx_cls hW₁ hcl, st⟩
theorem vx_runSX {hh : List (Nat × Nat × Nat × Nat)} (S : CallFix p m c cc nL s args Ts own) (hM : vx_Met l y ws rm Pc Qc XC mc ms free) (cw : vx_CSW R s args own index y bytes maxL ret hh ws rm mc ms n) (hp : PreS s H Pc As)
    (hg : g.method = m) (hn : As.length = n) (hsize : g.locals.size = nL) (hstack : g.stack = As.reverse ++ rest) (hW : 2 * g.monitorRoom + (rest.map fun v => v.category).sum ≤ 8) (hdg : decode cc g.pc = .ok (.invokestatic index, 3)) (hf : cells + mc ≤ R.cells ∧ slots + ms ≤ R.slots) :
    vx_Run p l e R s m args below meth c H locs cells slots mc ms g rest (Qc As.toArray) XC free := by
  obtain ⟨⟨hrc, hrs, hfr, hlo, hws, hcw⟩, hcode, hini, hy, hlen, hl, hstt⟩ := cw
  have hK : vx_Back l R p e below s args y 3 8 (PreOf R mc ms Pc) (PostOf Qc mc ms free) (vx_Post XC mc ms free) := vx_backW (hh := hh) (bytes := bytes) (maxL := maxL) (ret := ret) hM hp.1 hrc hrs hfr hlo hws hcw (fun a' U hW => word_at hW (Or.inl (by first | rfl | simp [Cond.onTables, Cond.keeps, Cond.steady])) hini)
  obtain ⟨hx, hb, hml, ho, -⟩ := S
  intro T hT X
  rcases vx_callSX X hx (hh := hh) (bytes := bytes) (maxL := maxL) (ret := ret) ho hl hstt hini hcode hy hK hg (hsize.trans hml.symm) (argsL := As) (rest := rest) (fun sig h => hn.trans (hlen sig h)) hstack hW (by rw [hb]; exact hdg)
    (fun vm₁ hW₁ => ⟨hf.1, hf.2, hp.2 (T.setVm vm₁) hT hW₁⟩) with ⟨v, vm₁, ⟨U', l2, c2, s2⟩, hW₁, X', ⟨g', mk, t, L, e1, e2, hq, h1, hL, h2, h3⟩, st⟩ | ⟨q, vm₁, ⟨U', l2, c2, s2⟩, hW₁, X', ⟨g', mk, t, L, E, ce, e1, e2, hq, hce, hcv, hcl, h1, hL, h2, h3⟩, st⟩
  · dsimp only [Pt.U, Pt.locs, Pt.cells, Pt.slots] at X' e1 e2 h1 h2 h3 st
    subst h1; subst h2; subst h3
    exact Or.inl ⟨v, (T.setVm vm₁).calling g' mk As.toArray, t, U', L, hT, X', hL, e1, e2, hq, st⟩
  · dsimp only [Pt.U, Pt.locs, Pt.cells, Pt.slots] at X' e1 e2 h1 h2 h3 st hcl
    subst h1; subst h2; subst h3
    exact Or.inr ⟨q, (T.setVm vm₁).calling g' mk As.toArray, t, U', L, E, ce, hT, X', hL, e1, e2, hq, hce, hcv, vx_cls hW₁ hcl, st⟩
end
end VXH
theorem vx_ofWH {l : Launch} {y : MethodName} {ws ws' : List Cond} {rm : Room} {Pc : Array Value → State → Prop} {Qc : Array Value → State → Outcome → State → Prop} {XC : String → State → State → Prop} {mc ms : Nat} {free : Addr → Prop} {cc : ByteArray} {maxL : Nat} {ret : Option FieldType} {hh : List (Nat × Nat × Nat × Nat)}
    (hy : plainName y.cls = true) (hw : ws = Cond.codeWith y cc maxL ret hh :: ws')
    (body : ∀ p e s m args below meth c s₁, BodyLoose p l y (headSpec ws rm) cc maxL ret e s m args below meth c s₁ → c.maxLocals = maxL → Pc args s →
      W p l e (headSpec ws rm).room s m args below meth c s.heap [] 0 0 (vx_MQ below Qc XC args s mc ms free) (entryFrame m args maxL)) : vx_Met l y ws rm Pc Qc XC mc ms free := by
  refine MetFree.of_bodyS (code := cc) (maxLocals := maxL) (ret := ret) hy ?_ ?_
  · intro args s m h hn
    obtain ⟨m9, meth, c, hn9, h1, h2, h3, h4, -, h5, h6, -⟩ := Cond.codeWith_spec (atoms_spec (ws := ws) h _ (by rw [hw]; exact List.mem_cons_self))
    cases hn.symm.trans hn9
    exact ⟨meth, c, h1, h2, h3, h4, h5, h6⟩
  · intro p e s m args below meth c s₁ B hml hP _
    have hh0 : s₁.heap = s.heap := by rw [B.state]; rfl
    obtain ⟨t, a1, o, b1, b2, b3⟩ := body p e s m args below meth c s₁ B hml hP s₁ hh0 (Stand.of_body B)
    exact ⟨t, o, a1, b1, b2, b3⟩
/-! ===== END ===== -/

/-! ===== BEGIN printed: names, fields, word lists, decode rows ===== -/
def RX0 : String := "MoonGate$Course"
def TX0 : u_T := fun k => match k with
  | 0 => ("MoonGate$Course", "day", "I", false)
  | 1 => ("MoonGate$Course", "coins", "I", false)
  | 2 => ("MoonGate$Course", "carpSizes", "[I", true)
  | _ => ("MoonGate$Course", "linesWritten", "[I", true)
def tyX0 : Nat → FieldType := fun k => match k with
  | 0 => .int
  | 1 => .int
  | 2 => .array .int
  | _ => .array .int
abbrev wsX00 : List Cond := u_ws RX0 TX0 4
theorem nmX0 : ∀ a, a < 4 → ∀ b, b < 4 → a ≠ b → (TX0 a).2.1 ≠ (TX0 b).2.1 := by decide +kernel
theorem tyX0_ok : ∀ k, k < 4 → parseFieldDescriptor (TX0 k).2.2.1 = some (tyX0 k) := by decide +kernel
abbrev cX0_init : ByteArray := prog_2_method_1_code
def yX0_init : MethodName := ⟨RX0, "<init>", "()V"⟩
abbrev cX0_becomeLike : ByteArray := prog_2_method_2_code
def yX0_becomeLike : MethodName := ⟨RX0, "becomeLike", "(LMoonGate$Course;)V"⟩
abbrev cX0_isFullMoon : ByteArray := prog_2_method_3_code
def yX0_isFullMoon : MethodName := ⟨RX0, "isFullMoon", "()Z"⟩
abbrev cX0_carpSize : ByteArray := prog_2_method_4_code
def yX0_carpSize : MethodName := ⟨RX0, "carpSize", "(I)I"⟩
abbrev cX0_setCarpSize : ByteArray := prog_2_method_5_code
def yX0_setCarpSize : MethodName := ⟨RX0, "setCarpSize", "(II)V"⟩
abbrev cX0_written : ByteArray := prog_2_method_6_code
def yX0_written : MethodName := ⟨RX0, "written", "(I)I"⟩
abbrev cX0_addWritten : ByteArray := prog_2_method_7_code
def yX0_addWritten : MethodName := ⟨RX0, "addWritten", "(II)V"⟩
abbrev cX0_writtenByAll : ByteArray := prog_2_method_8_code
def yX0_writtenByAll : MethodName := ⟨RX0, "writtenByAll", "()I"⟩
def RX1 : String := "MoonGate$Garden"
def TX1 : u_T := fun k => match k with
  | 0 => ("MoonGate$Garden", "kinds", "[I", true)
  | 1 => ("MoonGate$Garden", "shapes", "[I", true)
  | 2 => ("MoonGate$Garden", "sizes", "[I", true)
  | 3 => ("MoonGate$Garden", "carps", "[I", true)
  | 4 => ("MoonGate$Garden", "pondOf", "[I", true)
  | 5 => ("MoonGate$Garden", "pondCells", "[I", true)
  | 6 => ("MoonGate$Garden", "pondCarps", "[I", true)
  | 7 => ("MoonGate$Garden", "reached", "[I", true)
  | _ => ("MoonGate$Garden", "ponds", "I", false)
def tyX1 : Nat → FieldType := fun k => match k with
  | 0 => .array .int
  | 1 => .array .int
  | 2 => .array .int
  | 3 => .array .int
  | 4 => .array .int
  | 5 => .array .int
  | 6 => .array .int
  | 7 => .array .int
  | _ => .int
abbrev wsX10 : List Cond := u_ws RX1 TX1 9
theorem nmX1 : ∀ a, a < 9 → ∀ b, b < 9 → a ≠ b → (TX1 a).2.1 ≠ (TX1 b).2.1 := by decide +kernel
theorem tyX1_ok : ∀ k, k < 9 → parseFieldDescriptor (TX1 k).2.2.1 = some (tyX1 k) := by decide +kernel
abbrev cX1_init : ByteArray := prog_3_method_1_code
def yX1_init : MethodName := ⟨RX1, "<init>", "()V"⟩
abbrev cX1_isInside : ByteArray := prog_3_method_2_code
def yX1_isInside : MethodName := ⟨RX1, "isInside", "(II)Z"⟩
abbrev cX1_numberOf : ByteArray := prog_3_method_3_code
def yX1_numberOf : MethodName := ⟨RX1, "numberOf", "(II)I"⟩
abbrev cX1_isDirection : ByteArray := prog_3_method_4_code
def yX1_isDirection : MethodName := ⟨RX1, "isDirection", "(I)Z"⟩
abbrev cX1_isPlace : ByteArray := prog_3_method_5_code
def yX1_isPlace : MethodName := ⟨RX1, "isPlace", "(I)Z"⟩
abbrev cX1_beside : ByteArray := prog_3_method_6_code
def yX1_beside : MethodName := ⟨RX1, "beside", "(II)I"⟩
abbrev cX1_kindAt : ByteArray := prog_3_method_7_code
def yX1_kindAt : MethodName := ⟨RX1, "kindAt", "(I)I"⟩
abbrev cX1_shapeAt : ByteArray := prog_3_method_8_code
def yX1_shapeAt : MethodName := ⟨RX1, "shapeAt", "(I)I"⟩
abbrev cX1_sizeAt : ByteArray := prog_3_method_9_code
def yX1_sizeAt : MethodName := ⟨RX1, "sizeAt", "(I)I"⟩
abbrev cX1_isBare : ByteArray := prog_3_method_10_code
def yX1_isBare : MethodName := ⟨RX1, "isBare", "(I)Z"⟩
abbrev cX1_isPond : ByteArray := prog_3_method_11_code
def yX1_isPond : MethodName := ⟨RX1, "isPond", "(I)Z"⟩
abbrev cX1_isWall : ByteArray := prog_3_method_12_code
def yX1_isWall : MethodName := ⟨RX1, "isWall", "(I)Z"⟩
abbrev cX1_isGreatRock : ByteArray := prog_3_method_13_code
def yX1_isGreatRock : MethodName := ⟨RX1, "isGreatRock", "(I)Z"⟩
abbrev cX1_hasCarps : ByteArray := prog_3_method_14_code
def yX1_hasCarps : MethodName := ⟨RX1, "hasCarps", "(I)Z"⟩
abbrev cX1_manyOf : ByteArray := prog_3_method_15_code
def yX1_manyOf : MethodName := ⟨RX1, "manyOf", "(I)I"⟩
abbrev cX1_setRock : ByteArray := prog_3_method_16_code
def yX1_setRock : MethodName := ⟨RX1, "setRock", "(III)V"⟩
abbrev cX1_takeRock : ByteArray := prog_3_method_17_code
def yX1_takeRock : MethodName := ⟨RX1, "takeRock", "(I)V"⟩
abbrev cX1_setPond : ByteArray := prog_3_method_18_code
def yX1_setPond : MethodName := ⟨RX1, "setPond", "(I)V"⟩
abbrev cX1_setWall : ByteArray := prog_3_method_19_code
def yX1_setWall : MethodName := ⟨RX1, "setWall", "(I)V"⟩
abbrev cX1_setBare : ByteArray := prog_3_method_20_code
def yX1_setBare : MethodName := ⟨RX1, "setBare", "(I)V"⟩
abbrev cX1_setCell : ByteArray := prog_3_method_21_code
def yX1_setCell : MethodName := ⟨RX1, "setCell", "(IIII)V"⟩
abbrev cX1_changeCarps : ByteArray := prog_3_method_22_code
def yX1_changeCarps : MethodName := ⟨RX1, "changeCarps", "(II)V"⟩
abbrev cX1_cellsOfPondAt : ByteArray := prog_3_method_23_code
def yX1_cellsOfPondAt : MethodName := ⟨RX1, "cellsOfPondAt", "(I)I"⟩
abbrev cX1_carpsOfPondAt : ByteArray := prog_3_method_24_code
def yX1_carpsOfPondAt : MethodName := ⟨RX1, "carpsOfPondAt", "(I)I"⟩
abbrev cX1_isTooFull : ByteArray := prog_3_method_25_code
def yX1_isTooFull : MethodName := ⟨RX1, "isTooFull", "(I)Z"⟩
abbrev cX1_pondAt : ByteArray := prog_3_method_26_code
def yX1_pondAt : MethodName := ⟨RX1, "pondAt", "(I)I"⟩
abbrev cX1_surveyPonds : ByteArray := prog_3_method_27_code
def yX1_surveyPonds : MethodName := ⟨RX1, "surveyPonds", "()V"⟩
abbrev cX1_surveyPond : ByteArray := prog_3_method_28_code
def yX1_surveyPond : MethodName := ⟨RX1, "surveyPond", "(II)V"⟩
abbrev cX1_reachOnFrom : ByteArray := prog_3_method_29_code
def yX1_reachOnFrom : MethodName := ⟨RX1, "reachOnFrom", "(III)I"⟩
abbrev cX1_isUnknownPond : ByteArray := prog_3_method_30_code
def yX1_isUnknownPond : MethodName := ⟨RX1, "isUnknownPond", "(I)Z"⟩
def RX2 : String := "MoonGate$Gates"
def TX2 : u_T := fun k => match k with
  | 0 => ("MoonGate$Gates", "places", "[I", true)
  | 1 => ("MoonGate$Gates", "directions", "[I", true)
  | _ => ("MoonGate$Gates", "many", "I", false)
def tyX2 : Nat → FieldType := fun k => match k with
  | 0 => .array .int
  | 1 => .array .int
  | _ => .int
abbrev wsX20 : List Cond := u_ws RX2 TX2 3
theorem nmX2 : ∀ a, a < 3 → ∀ b, b < 3 → a ≠ b → (TX2 a).2.1 ≠ (TX2 b).2.1 := by decide +kernel
theorem tyX2_ok : ∀ k, k < 3 → parseFieldDescriptor (TX2 k).2.2.1 = some (tyX2 k) := by decide +kernel
abbrev cX2_init : ByteArray := prog_4_method_1_code
def yX2_init : MethodName := ⟨RX2, "<init>", "()V"⟩
abbrev cX2_isNumber : ByteArray := prog_4_method_2_code
def yX2_isNumber : MethodName := ⟨RX2, "isNumber", "(I)Z"⟩
abbrev cX2_add : ByteArray := prog_4_method_3_code
def yX2_add : MethodName := ⟨RX2, "add", "(II)I"⟩
abbrev cX2_placeOf : ByteArray := prog_4_method_4_code
def yX2_placeOf : MethodName := ⟨RX2, "placeOf", "(I)I"⟩
abbrev cX2_directionOf : ByteArray := prog_4_method_5_code
def yX2_directionOf : MethodName := ⟨RX2, "directionOf", "(I)I"⟩
def RX3 : String := "MoonGate$Poets"
def TX3 : u_T := fun k => match k with
  | 0 => ("MoonGate$Poets", "gatesOf", "[I", true)
  | _ => ("MoonGate$Poets", "many", "I", false)
def tyX3 : Nat → FieldType := fun k => match k with
  | 0 => .array .int
  | _ => .int
abbrev wsX30 : List Cond := u_ws RX3 TX3 2
theorem nmX3 : ∀ a, a < 2 → ∀ b, b < 2 → a ≠ b → (TX3 a).2.1 ≠ (TX3 b).2.1 := by decide +kernel
theorem tyX3_ok : ∀ k, k < 2 → parseFieldDescriptor (TX3 k).2.2.1 = some (tyX3 k) := by decide +kernel
abbrev cX3_init : ByteArray := prog_5_method_1_code
def yX3_init : MethodName := ⟨RX3, "<init>", "()V"⟩
abbrev cX3_isNumber : ByteArray := prog_5_method_2_code
def yX3_isNumber : MethodName := ⟨RX3, "isNumber", "(I)Z"⟩
abbrev cX3_add : ByteArray := prog_5_method_3_code
def yX3_add : MethodName := ⟨RX3, "add", "(I)I"⟩
abbrev cX3_gateOf : ByteArray := prog_5_method_4_code
def yX3_gateOf : MethodName := ⟨RX3, "gateOf", "(I)I"⟩
abbrev cX3_setGate : ByteArray := prog_5_method_5_code
def yX3_setGate : MethodName := ⟨RX3, "setGate", "(II)V"⟩
abbrev cX3_manyAt : ByteArray := prog_5_method_6_code
def yX3_manyAt : MethodName := ⟨RX3, "manyAt", "(I)I"⟩
def RX4 : String := "MoonGate$Shoal"
def TX4 : u_T := fun k => match k with
  | 0 => ("MoonGate$Shoal", "places", "[I", true)
  | 1 => ("MoonGate$Shoal", "sold", "[Z", true)
  | _ => ("MoonGate$Shoal", "came", "I", false)
def tyX4 : Nat → FieldType := fun k => match k with
  | 0 => .array .int
  | 1 => .array .boolean
  | _ => .int
abbrev wsX40 : List Cond := u_ws RX4 TX4 3
theorem nmX4 : ∀ a, a < 3 → ∀ b, b < 3 → a ≠ b → (TX4 a).2.1 ≠ (TX4 b).2.1 := by decide +kernel
theorem tyX4_ok : ∀ k, k < 3 → parseFieldDescriptor (TX4 k).2.2.1 = some (tyX4 k) := by decide +kernel
abbrev cX4_init : ByteArray := prog_6_method_1_code
def yX4_init : MethodName := ⟨RX4, "<init>", "()V"⟩
abbrev cX4_isNumber : ByteArray := prog_6_method_2_code
def yX4_isNumber : MethodName := ⟨RX4, "isNumber", "(I)Z"⟩
abbrev cX4_add : ByteArray := prog_6_method_3_code
def yX4_add : MethodName := ⟨RX4, "add", "(I)I"⟩
abbrev cX4_takeOut : ByteArray := prog_6_method_4_code
def yX4_takeOut : MethodName := ⟨RX4, "takeOut", "(I)V"⟩
abbrev cX4_isHere : ByteArray := prog_6_method_5_code
def yX4_isHere : MethodName := ⟨RX4, "isHere", "(I)Z"⟩
abbrev cX4_placeOf : ByteArray := prog_6_method_6_code
def yX4_placeOf : MethodName := ⟨RX4, "placeOf", "(I)I"⟩
abbrev cX4_manyHere : ByteArray := prog_6_method_7_code
def yX4_manyHere : MethodName := ⟨RX4, "manyHere", "()I"⟩
abbrev cX4_sizesHere : ByteArray := prog_6_method_8_code
def yX4_sizesHere : MethodName := ⟨RX4, "sizesHere", "(LMoonGate$Course;)I"⟩
abbrev cX4_sizesIn : ByteArray := prog_6_method_9_code
def yX4_sizesIn : MethodName := ⟨RX4, "sizesIn", "(ILMoonGate$Course;)I"⟩
def RX5 : String := "MoonGate$View"
def TX5 : u_T := fun k => match k with
  | 0 => ("MoonGate$View", "cells", "I", false)
  | 1 => ("MoonGate$View", "rocks", "I", false)
  | 2 => ("MoonGate$View", "pondCells", "I", false)
  | 3 => ("MoonGate$View", "beauty", "I", false)
  | _ => ("MoonGate$View", "shapesShown", "I", false)
def tyX5 : Nat → FieldType := fun k => match k with
  | 0 => .int
  | 1 => .int
  | 2 => .int
  | 3 => .int
  | _ => .int
abbrev wsX50 : List Cond := u_ws RX5 TX5 5
theorem nmX5 : ∀ a, a < 5 → ∀ b, b < 5 → a ≠ b → (TX5 a).2.1 ≠ (TX5 b).2.1 := by decide +kernel
theorem tyX5_ok : ∀ k, k < 5 → parseFieldDescriptor (TX5 k).2.2.1 = some (tyX5 k) := by decide +kernel
abbrev cX5_init : ByteArray := prog_7_method_1_code
def yX5_init : MethodName := ⟨RX5, "<init>", "()V"⟩
abbrev cX5_begin : ByteArray := prog_7_method_2_code
def yX5_begin : MethodName := ⟨RX5, "begin", "()V"⟩
abbrev cX5_addRock : ByteArray := prog_7_method_3_code
def yX5_addRock : MethodName := ⟨RX5, "addRock", "(II)V"⟩
abbrev cX5_addPondCell : ByteArray := prog_7_method_4_code
def yX5_addPondCell : MethodName := ⟨RX5, "addPondCell", "(I)V"⟩
def RX6 : String := "MoonGate"
def TX6 : u_T := fun k => match k with
  | 0 => ("MoonGate", "garden", "LMoonGate$Garden;", true)
  | 1 => ("MoonGate", "shoal", "LMoonGate$Shoal;", true)
  | 2 => ("MoonGate", "gates", "LMoonGate$Gates;", true)
  | 3 => ("MoonGate", "poets", "LMoonGate$Poets;", true)
  | 4 => ("MoonGate", "now", "LMoonGate$Course;", true)
  | 5 => ("MoonGate", "ahead", "LMoonGate$Course;", true)
  | _ => ("MoonGate", "view", "LMoonGate$View;", true)
def tyX6 : Nat → FieldType := fun k => match k with
  | 0 => .object "MoonGate$Garden"
  | 1 => .object "MoonGate$Shoal"
  | 2 => .object "MoonGate$Gates"
  | 3 => .object "MoonGate$Poets"
  | 4 => .object "MoonGate$Course"
  | 5 => .object "MoonGate$Course"
  | _ => .object "MoonGate$View"
abbrev wsX60 : List Cond := u_ws RX6 TX6 7
theorem nmX6 : ∀ a, a < 7 → ∀ b, b < 7 → a ≠ b → (TX6 a).2.1 ≠ (TX6 b).2.1 := by decide +kernel
theorem tyX6_ok : ∀ k, k < 7 → parseFieldDescriptor (TX6 k).2.2.1 = some (tyX6 k) := by decide +kernel
abbrev cX6_init : ByteArray := prog_1_method_1_code
def yX6_init : MethodName := ⟨RX6, "<init>", "()V"⟩
abbrev cX6_rock : ByteArray := prog_1_method_2_code
def yX6_rock : MethodName := ⟨RX6, "rock", "(IIII)I"⟩
abbrev cX6_dig : ByteArray := prog_1_method_3_code
def yX6_dig : MethodName := ⟨RX6, "dig", "(II)I"⟩
abbrev cX6_wall : ByteArray := prog_1_method_4_code
def yX6_wall : MethodName := ⟨RX6, "wall", "(II)I"⟩
abbrev cX6_clear : ByteArray := prog_1_method_5_code
def yX6_clear : MethodName := ⟨RX6, "clear", "(II)I"⟩
abbrev cX6_cell : ByteArray := prog_1_method_6_code
def yX6_cell : MethodName := ⟨RX6, "cell", "(III)I"⟩
abbrev cX6_carp : ByteArray := prog_1_method_7_code
def yX6_carp : MethodName := ⟨RX6, "carp", "(II)I"⟩
abbrev cX6_sell : ByteArray := prog_1_method_8_code
def yX6_sell : MethodName := ⟨RX6, "sell", "(I)I"⟩
abbrev cX6_told : ByteArray := prog_1_method_9_code
def yX6_told : MethodName := ⟨RX6, "told", "(II)I"⟩
abbrev cX6_rankOf : ByteArray := prog_1_method_10_code
def yX6_rankOf : MethodName := ⟨RX6, "rankOf", "(I)I"⟩
abbrev cX6_gate : ByteArray := prog_1_method_11_code
def yX6_gate : MethodName := ⟨RX6, "gate", "(III)I"⟩
abbrev cX6_about : ByteArray := prog_1_method_12_code
def yX6_about : MethodName := ⟨RX6, "about", "(II)I"⟩
abbrev cX6_invite : ByteArray := prog_1_method_13_code
def yX6_invite : MethodName := ⟨RX6, "invite", "(I)I"⟩
abbrev cX6_lead : ByteArray := prog_1_method_14_code
def yX6_lead : MethodName := ⟨RX6, "lead", "(II)I"⟩
abbrev cX6_lines : ByteArray := prog_1_method_15_code
def yX6_lines : MethodName := ⟨RX6, "lines", "(I)I"⟩
abbrev cX6_count : ByteArray := prog_1_method_16_code
def yX6_count : MethodName := ⟨RX6, "count", "(I)I"⟩
abbrev cX6_changingCount : ByteArray := prog_1_method_17_code
def yX6_changingCount : MethodName := ⟨RX6, "changingCount", "(ILMoonGate$Course;)I"⟩
abbrev cX6_pass : ByteArray := prog_1_method_18_code
def yX6_pass : MethodName := ⟨RX6, "pass", "(I)I"⟩
abbrev cX6_foresee : ByteArray := prog_1_method_19_code
def yX6_foresee : MethodName := ⟨RX6, "foresee", "(II)I"⟩
abbrev cX6_advise : ByteArray := prog_1_method_20_code
def yX6_advise : MethodName := ⟨RX6, "advise", "(III)I"⟩
abbrev cX6_finest : ByteArray := prog_1_method_21_code
def yX6_finest : MethodName := ⟨RX6, "finest", "()I"⟩
abbrev cX6_mean : ByteArray := prog_1_method_22_code
def yX6_mean : MethodName := ⟨RX6, "mean", "()D"⟩
abbrev cX6_digest : ByteArray := prog_1_method_23_code
def yX6_digest : MethodName := ⟨RX6, "digest", "()J"⟩
abbrev cX6_digestOfCells : ByteArray := prog_1_method_24_code
def yX6_digestOfCells : MethodName := ⟨RX6, "digestOfCells", "(J)J"⟩
abbrev cX6_digestOfCarps : ByteArray := prog_1_method_25_code
def yX6_digestOfCarps : MethodName := ⟨RX6, "digestOfCarps", "(J)J"⟩
abbrev cX6_digestOfGates : ByteArray := prog_1_method_26_code
def yX6_digestOfGates : MethodName := ⟨RX6, "digestOfGates", "(J)J"⟩
abbrev cX6_letPass : ByteArray := prog_1_method_27_code
def yX6_letPass : MethodName := ⟨RX6, "letPass", "(ILMoonGate$Course;)I"⟩
abbrev cX6_letCarpsGrow : ByteArray := prog_1_method_28_code
def yX6_letCarpsGrow : MethodName := ⟨RX6, "letCarpsGrow", "(LMoonGate$Course;)V"⟩
abbrev cX6_letPoetsWrite : ByteArray := prog_1_method_29_code
def yX6_letPoetsWrite : MethodName := ⟨RX6, "letPoetsWrite", "(LMoonGate$Course;)I"⟩
abbrev cX6_beautyWithRock : ByteArray := prog_1_method_30_code
def yX6_beautyWithRock : MethodName := ⟨RX6, "beautyWithRock", "(IIII)I"⟩
abbrev cX6_look : ByteArray := prog_1_method_31_code
def yX6_look : MethodName := ⟨RX6, "look", "(ILMoonGate$Course;)I"⟩
abbrev cX6_show : ByteArray := prog_1_method_32_code
def yX6_show : MethodName := ⟨RX6, "show", "(ILMoonGate$Course;)V"⟩
abbrev cX6_checkPlace : ByteArray := prog_1_method_33_code
def yX6_checkPlace : MethodName := ⟨RX6, "checkPlace", "(II)V"⟩
abbrev cX6_checkRock : ByteArray := prog_1_method_34_code
def yX6_checkRock : MethodName := ⟨RX6, "checkRock", "(II)V"⟩
abbrev cX6_checkBare : ByteArray := prog_1_method_35_code
def yX6_checkBare : MethodName := ⟨RX6, "checkBare", "(I)V"⟩
abbrev cX6_spend : ByteArray := prog_1_method_36_code
def yX6_spend : MethodName := ⟨RX6, "spend", "(I)V"⟩
abbrev cX6_checkWhat : ByteArray := prog_1_method_37_code
def yX6_checkWhat : MethodName := ⟨RX6, "checkWhat", "(II)V"⟩
abbrev cX6_checkCarp : ByteArray := prog_1_method_38_code
def yX6_checkCarp : MethodName := ⟨RX6, "checkCarp", "(I)V"⟩
abbrev cX6_checkGate : ByteArray := prog_1_method_39_code
def yX6_checkGate : MethodName := ⟨RX6, "checkGate", "(I)V"⟩
abbrev cX6_checkPoet : ByteArray := prog_1_method_40_code
def yX6_checkPoet : MethodName := ⟨RX6, "checkPoet", "(I)V"⟩
abbrev cX6_checkDays : ByteArray := prog_1_method_41_code
def yX6_checkDays : MethodName := ⟨RX6, "checkDays", "(I)V"⟩
def RX7 : String := "MoonGateLaw$Sim"
def TX7 : u_T := fun k => match k with
  | 0 => ("MoonGateLaw$Sim", "day", "I", false)
  | 1 => ("MoonGateLaw$Sim", "coins", "I", false)
  | 2 => ("MoonGateLaw$Sim", "cells", "[[[I", false)
  | 3 => ("MoonGateLaw$Sim", "carps", "[[I", false)
  | 4 => ("MoonGateLaw$Sim", "gates", "[[I", false)
  | _ => ("MoonGateLaw$Sim", "poets", "[[I", false)
def tyX7 : Nat → FieldType := fun k => match k with
  | 0 => .int
  | 1 => .int
  | 2 => .array (.array (.array .int))
  | 3 => .array (.array .int)
  | 4 => .array (.array .int)
  | _ => .array (.array .int)
abbrev wsX70 : List Cond := u_ws RX7 TX7 6
theorem nmX7 : ∀ a, a < 6 → ∀ b, b < 6 → a ≠ b → (TX7 a).2.1 ≠ (TX7 b).2.1 := by decide +kernel
theorem tyX7_ok : ∀ k, k < 6 → parseFieldDescriptor (TX7 k).2.2.1 = some (tyX7 k) := by decide +kernel
abbrev cX7_init : ByteArray := prog_9_method_1_code
def yX7_init : MethodName := ⟨RX7, "<init>", "()V"⟩
abbrev cX7_more : ByteArray := prog_9_method_2_code
def yX7_more : MethodName := ⟨RX7, "more", "([[I[I)[[I"⟩
abbrev cX7_pond : ByteArray := prog_9_method_4_code
def yX7_pond : MethodName := ⟨RX7, "pond", "(II)[[Z"⟩
abbrev cX7_many : ByteArray := prog_9_method_5_code
def yX7_many : MethodName := ⟨RX7, "many", "([[Z)I"⟩
abbrev cX7_carpsIn : ByteArray := prog_9_method_6_code
def yX7_carpsIn : MethodName := ⟨RX7, "carpsIn", "([[Z)I"⟩
abbrev cX7_shows : ByteArray := prog_9_method_7_code
def yX7_shows : MethodName := ⟨RX7, "shows", "([I)[[I"⟩
abbrev cX7_beauty : ByteArray := prog_9_method_8_code
def yX7_beauty : MethodName := ⟨RX7, "beauty", "([I)I"⟩
abbrev cX7_pass : ByteArray := prog_9_method_9_code
def yX7_pass : MethodName := ⟨RX7, "pass", "()I"⟩
abbrev cX7_counts : ByteArray := prog_9_method_11_code
def yX7_counts : MethodName := ⟨RX7, "counts", "()[I"⟩
abbrev cX7_isSame : ByteArray := prog_9_method_12_code
def yX7_isSame : MethodName := ⟨RX7, "isSame", "(LMoonGate;)Z"⟩
def RX8 : String := "MoonGateModel$Days"
def TX8 : u_T := fun k => match k with
  | _ => ("", "", "", false)
def tyX8 : Nat → FieldType := fun k => match k with
  | _ => .int
abbrev wsX80 : List Cond := u_ws RX8 TX8 0
theorem nmX8 : ∀ a, a < 0 → ∀ b, b < 0 → a ≠ b → (TX8 a).2.1 ≠ (TX8 b).2.1 := by decide +kernel
theorem tyX8_ok : ∀ k, k < 0 → parseFieldDescriptor (TX8 k).2.2.1 = some (tyX8 k) := by decide +kernel
def RX9 : String := "MoonGateModel"
def TX9 : u_T := fun k => match k with
  | _ => ("", "", "", false)
def tyX9 : Nat → FieldType := fun k => match k with
  | _ => .int
abbrev wsX90 : List Cond := u_ws RX9 TX9 0
theorem nmX9 : ∀ a, a < 0 → ∀ b, b < 0 → a ≠ b → (TX9 a).2.1 ≠ (TX9 b).2.1 := by decide +kernel
theorem tyX9_ok : ∀ k, k < 0 → parseFieldDescriptor (TX9 k).2.2.1 = some (tyX9 k) := by decide +kernel
def RJ9 : String := "java/lang/Math"
def TJ9 : u_T := fun k => match k with
  | _ => ("", "", "", false)
def tyJ9 : Nat → FieldType := fun k => match k with
  | _ => .int
abbrev wsJ90 : List Cond := u_ws RJ9 TJ9 0
theorem nmJ9 : ∀ a, a < 0 → ∀ b, b < 0 → a ≠ b → (TJ9 a).2.1 ≠ (TJ9 b).2.1 := by decide +kernel
theorem tyJ9_ok : ∀ k, k < 0 → parseFieldDescriptor (TJ9 k).2.2.1 = some (tyJ9 k) := by decide +kernel
abbrev cJ9_abs_0f7a4 : ByteArray := prog_16_method_59_code
def yJ9_abs_0f7a4 : MethodName := ⟨RJ9, "abs", "(I)I"⟩
abbrev cJ9_max_7cf53 : ByteArray := prog_16_method_65_code
def yJ9_max_7cf53 : MethodName := ⟨RJ9, "max", "(II)I"⟩
abbrev cJ9_min_7cf53 : ByteArray := prog_16_method_69_code
def yJ9_min_7cf53 : MethodName := ⟨RJ9, "min", "(II)I"⟩
def RJ0 : String := "java/lang/String"
def TJ0 : u_T := fun k => match k with
  | _ => ("", "", "", false)
def tyJ0 : Nat → FieldType := fun k => match k with
  | _ => .int
abbrev wsJ00 : List Cond := u_ws RJ0 TJ0 0
theorem nmJ0 : ∀ a, a < 0 → ∀ b, b < 0 → a ≠ b → (TJ0 a).2.1 ≠ (TJ0 b).2.1 := by decide +kernel
theorem tyJ0_ok : ∀ k, k < 0 → parseFieldDescriptor (TJ0 k).2.2.1 = some (tyJ0 k) := by decide +kernel
def RL : String := "MoonGateLaw"
abbrev cL_below : ByteArray := method_2_code
def yL_below : MethodName := ⟨RL, "below", "(II)I"⟩
abbrev cL_cell : ByteArray := method_3_code
def yL_cell : MethodName := ⟨RL, "cell", "([II)I"⟩
abbrev cL_act : ByteArray := method_4_code
def yL_act : MethodName := ⟨RL, "act", "(LMoonGate;LMoonGateLaw$Sim;I)Z"⟩
abbrev cL_build : ByteArray := method_5_code
def yL_build : MethodName := ⟨RL, "build", "(LMoonGate;[I)LMoonGateLaw$Sim;"⟩
abbrev cL_law : ByteArray := code
def yL_law : MethodName := ⟨RL, "law", "([I)Z"⟩
def wsX0_init : List Cond := .code yX0_init cX0_init 1 none :: ([.methodLink RX0 3 objectInit, .instanceMethod objectInit, .code objectInit ⟨#[0xb1]⟩ 1 none, .fieldLink RX0 9 "MoonGate$Course" "day" "I", .fieldLink RX0 15 "MoonGate$Course" "coins" "I", .arrayClass .int, .fieldLink RX0 18 "MoonGate$Course" "carpSizes" "[I", .fieldLink RX0 22 "MoonGate$Course" "linesWritten" "[I"] ++ wsX00)
def wsX0_becomeLike : List Cond := .code yX0_becomeLike cX0_becomeLike 3 none :: ([.fieldLink RX0 9 "MoonGate$Course" "day" "I", .fieldLink RX0 15 "MoonGate$Course" "coins" "I", .fieldLink RX0 18 "MoonGate$Course" "carpSizes" "[I", .fieldLink RX0 22 "MoonGate$Course" "linesWritten" "[I"] ++ wsX00)
def wsX0_isFullMoon : List Cond := .code yX0_isFullMoon cX0_isFullMoon 1 (some .boolean) :: ([.fieldLink RX0 9 "MoonGate$Course" "day" "I"] ++ wsX00)
def wsX0_carpSize : List Cond := .code yX0_carpSize cX0_carpSize 2 (some .int) :: ([.fieldLink RX0 18 "MoonGate$Course" "carpSizes" "[I"] ++ wsX00)
def wsX0_setCarpSize : List Cond := .code yX0_setCarpSize cX0_setCarpSize 3 none :: ([.fieldLink RX0 18 "MoonGate$Course" "carpSizes" "[I", .methodLink RX0 25 Lib.Math.min.name, .static Lib.Math.min.name, .initialized "java/lang/Math", .code Lib.Math.min.name Lib.Math.min.code 2 (some .int), .methodLink RX0 31 Lib.Math.max.name, .static Lib.Math.max.name, .code Lib.Math.max.name Lib.Math.max.code 2 (some .int)] ++ wsX00)
def wsX0_written : List Cond := .code yX0_written cX0_written 2 (some .int) :: ([.fieldLink RX0 22 "MoonGate$Course" "linesWritten" "[I"] ++ wsX00)
def wsX0_addWritten : List Cond := .code yX0_addWritten cX0_addWritten 3 none :: ([.fieldLink RX0 22 "MoonGate$Course" "linesWritten" "[I"] ++ wsX00)
def wsX0_writtenByAll : List Cond := .code yX0_writtenByAll cX0_writtenByAll 3 (some .int) :: ([.fieldLink RX0 22 "MoonGate$Course" "linesWritten" "[I"] ++ wsX00)
def wsX1_init : List Cond := .code yX1_init cX1_init 2 none :: ([.methodLink RX1 3 objectInit, .instanceMethod objectInit, .code objectInit ⟨#[0xb1]⟩ 1 none, .arrayClass .int, .fieldLink RX1 11 "MoonGate$Garden" "kinds" "[I", .fieldLink RX1 15 "MoonGate$Garden" "shapes" "[I", .fieldLink RX1 18 "MoonGate$Garden" "sizes" "[I", .fieldLink RX1 21 "MoonGate$Garden" "carps" "[I", .fieldLink RX1 24 "MoonGate$Garden" "pondOf" "[I", .fieldLink RX1 27 "MoonGate$Garden" "pondCells" "[I", .fieldLink RX1 30 "MoonGate$Garden" "pondCarps" "[I", .fieldLink RX1 33 "MoonGate$Garden" "reached" "[I", .fieldLink RX1 36 "MoonGate$Garden" "ponds" "I"] ++ wsX10)
def wsX1_isInside : List Cond := .code yX1_isInside cX1_isInside 2 (some .boolean) :: ([])
def wsX1_numberOf : List Cond := .code yX1_numberOf cX1_numberOf 2 (some .int) :: ([])
def wsX1_isDirection : List Cond := .code yX1_isDirection cX1_isDirection 1 (some .boolean) :: ([])
def wsX1_isPlace : List Cond := .code yX1_isPlace cX1_isPlace 1 (some .boolean) :: ([])
def wsX1_beside : List Cond := .code yX1_beside cX1_beside 5 (some .int) :: ([.fieldLink RX1 47 "MoonGate$Garden" "STEP_X" "[I", .fieldLink RX1 50 "MoonGate$Garden" "STEP_Y" "[I", .methodLink RX1 40 yX1_isPlace, .static yX1_isPlace, .initialized RX1, .code yX1_isPlace cX1_isPlace 1 (some .boolean), .methodLink RX1 44 yX1_isDirection, .static yX1_isDirection, .code yX1_isDirection cX1_isDirection 1 (some .boolean), .methodLink RX1 53 yX1_isInside, .static yX1_isInside, .code yX1_isInside cX1_isInside 2 (some .boolean), .methodLink RX1 57 yX1_numberOf, .static yX1_numberOf, .code yX1_numberOf cX1_numberOf 2 (some .int)])
def wsX1_kindAt : List Cond := .code yX1_kindAt cX1_kindAt 2 (some .int) :: ([.fieldLink RX1 11 "MoonGate$Garden" "kinds" "[I", .methodLink RX1 40 yX1_isPlace, .static yX1_isPlace, .initialized RX1, .code yX1_isPlace cX1_isPlace 1 (some .boolean)] ++ wsX10)
def wsX1_shapeAt : List Cond := .code yX1_shapeAt cX1_shapeAt 2 (some .int) :: ([.fieldLink RX1 15 "MoonGate$Garden" "shapes" "[I", .methodLink RX1 40 yX1_isPlace, .static yX1_isPlace, .initialized RX1, .code yX1_isPlace cX1_isPlace 1 (some .boolean)] ++ wsX10)
def wsX1_sizeAt : List Cond := .code yX1_sizeAt cX1_sizeAt 2 (some .int) :: ([.fieldLink RX1 18 "MoonGate$Garden" "sizes" "[I", .methodLink RX1 40 yX1_isPlace, .static yX1_isPlace, .initialized RX1, .code yX1_isPlace cX1_isPlace 1 (some .boolean)] ++ wsX10)
def wsX1_isBare : List Cond := .code yX1_isBare cX1_isBare 2 (some .boolean) :: ([.methodLink RX1 61 yX1_kindAt, .instanceMethod yX1_kindAt, .selects RX1 yX1_kindAt yX1_kindAt, .initialized RX1, .code yX1_kindAt cX1_kindAt 2 (some .int), .fieldLink RX1 11 "MoonGate$Garden" "kinds" "[I", .methodLink RX1 40 yX1_isPlace, .static yX1_isPlace, .code yX1_isPlace cX1_isPlace 1 (some .boolean)] ++ wsX10)
def wsX1_isPond : List Cond := .code yX1_isPond cX1_isPond 2 (some .boolean) :: ([.methodLink RX1 61 yX1_kindAt, .instanceMethod yX1_kindAt, .selects RX1 yX1_kindAt yX1_kindAt, .initialized RX1, .code yX1_kindAt cX1_kindAt 2 (some .int), .fieldLink RX1 11 "MoonGate$Garden" "kinds" "[I", .methodLink RX1 40 yX1_isPlace, .static yX1_isPlace, .code yX1_isPlace cX1_isPlace 1 (some .boolean)] ++ wsX10)
def wsX1_isWall : List Cond := .code yX1_isWall cX1_isWall 2 (some .boolean) :: ([.methodLink RX1 61 yX1_kindAt, .instanceMethod yX1_kindAt, .selects RX1 yX1_kindAt yX1_kindAt, .initialized RX1, .code yX1_kindAt cX1_kindAt 2 (some .int), .fieldLink RX1 11 "MoonGate$Garden" "kinds" "[I", .methodLink RX1 40 yX1_isPlace, .static yX1_isPlace, .code yX1_isPlace cX1_isPlace 1 (some .boolean)] ++ wsX10)
def wsX1_isGreatRock : List Cond := .code yX1_isGreatRock cX1_isGreatRock 2 (some .boolean) :: ([.methodLink RX1 61 yX1_kindAt, .instanceMethod yX1_kindAt, .selects RX1 yX1_kindAt yX1_kindAt, .initialized RX1, .code yX1_kindAt cX1_kindAt 2 (some .int), .fieldLink RX1 11 "MoonGate$Garden" "kinds" "[I", .methodLink RX1 40 yX1_isPlace, .static yX1_isPlace, .code yX1_isPlace cX1_isPlace 1 (some .boolean), .methodLink RX1 65 yX1_sizeAt, .instanceMethod yX1_sizeAt, .selects RX1 yX1_sizeAt yX1_sizeAt, .code yX1_sizeAt cX1_sizeAt 2 (some .int), .fieldLink RX1 18 "MoonGate$Garden" "sizes" "[I"] ++ wsX10)
def wsX1_hasCarps : List Cond := .code yX1_hasCarps cX1_hasCarps 2 (some .boolean) :: ([.fieldLink RX1 21 "MoonGate$Garden" "carps" "[I", .methodLink RX1 40 yX1_isPlace, .static yX1_isPlace, .initialized RX1, .code yX1_isPlace cX1_isPlace 1 (some .boolean)] ++ wsX10)
def wsX1_manyOf : List Cond := .code yX1_manyOf cX1_manyOf 4 (some .int) :: ([.fieldLink RX1 11 "MoonGate$Garden" "kinds" "[I"] ++ wsX10)
def wsX1_setCell : List Cond := .code yX1_setCell cX1_setCell 5 none :: ([.fieldLink RX1 11 "MoonGate$Garden" "kinds" "[I", .fieldLink RX1 15 "MoonGate$Garden" "shapes" "[I", .fieldLink RX1 18 "MoonGate$Garden" "sizes" "[I", .methodLink RX1 40 yX1_isPlace, .static yX1_isPlace, .initialized RX1, .code yX1_isPlace cX1_isPlace 1 (some .boolean)] ++ wsX10)
def wsX1_setRock : List Cond := .code yX1_setRock cX1_setRock 4 none :: ([.methodLink RX1 68 yX1_setCell, .instanceMethod yX1_setCell, .selects RX1 yX1_setCell yX1_setCell, .initialized RX1, .code yX1_setCell cX1_setCell 5 none, .fieldLink RX1 11 "MoonGate$Garden" "kinds" "[I", .fieldLink RX1 15 "MoonGate$Garden" "shapes" "[I", .fieldLink RX1 18 "MoonGate$Garden" "sizes" "[I", .methodLink RX1 40 yX1_isPlace, .static yX1_isPlace, .code yX1_isPlace cX1_isPlace 1 (some .boolean)] ++ wsX10)
def wsX1_takeRock : List Cond := .code yX1_takeRock cX1_takeRock 2 none :: ([.methodLink RX1 68 yX1_setCell, .instanceMethod yX1_setCell, .selects RX1 yX1_setCell yX1_setCell, .initialized RX1, .code yX1_setCell cX1_setCell 5 none, .fieldLink RX1 11 "MoonGate$Garden" "kinds" "[I", .fieldLink RX1 15 "MoonGate$Garden" "shapes" "[I", .fieldLink RX1 18 "MoonGate$Garden" "sizes" "[I", .methodLink RX1 40 yX1_isPlace, .static yX1_isPlace, .code yX1_isPlace cX1_isPlace 1 (some .boolean)] ++ wsX10)
def wsX1_isUnknownPond : List Cond := .code yX1_isUnknownPond cX1_isUnknownPond 2 (some .boolean) :: ([.fieldLink RX1 11 "MoonGate$Garden" "kinds" "[I", .fieldLink RX1 24 "MoonGate$Garden" "pondOf" "[I", .methodLink RX1 40 yX1_isPlace, .static yX1_isPlace, .initialized RX1, .code yX1_isPlace cX1_isPlace 1 (some .boolean)] ++ wsX10)
def wsX1_reachOnFrom_r1 : List Cond := [Cond.fieldLink RX1 24 "MoonGate$Garden" "pondOf" "[I", Cond.fieldLink RX1 33 "MoonGate$Garden" "reached" "[I", Cond.methodLink RX1 98 yX1_beside, Cond.instanceMethod yX1_beside, Cond.selects RX1 yX1_beside yX1_beside, Cond.initialized RX1, Cond.code yX1_beside cX1_beside 5 (some .int), Cond.fieldLink RX1 47 "MoonGate$Garden" "STEP_X" "[I", Cond.fieldLink RX1 50 "MoonGate$Garden" "STEP_Y" "[I", Cond.methodLink RX1 40 yX1_isPlace, Cond.static yX1_isPlace, Cond.code yX1_isPlace cX1_isPlace 1 (some .boolean), Cond.methodLink RX1 44 yX1_isDirection, Cond.static yX1_isDirection, Cond.code yX1_isDirection cX1_isDirection 1 (some .boolean), Cond.methodLink RX1 53 yX1_isInside, Cond.static yX1_isInside, Cond.code yX1_isInside cX1_isInside 2 (some .boolean), Cond.methodLink RX1 57 yX1_numberOf, Cond.static yX1_numberOf, Cond.code yX1_numberOf cX1_numberOf 2 (some .int), Cond.methodLink RX1 87 yX1_isUnknownPond, Cond.instanceMethod yX1_isUnknownPond, Cond.selects RX1 yX1_isUnknownPond yX1_isUnknownPond]
def wsX1_reachOnFrom_r2 : List Cond := [Cond.code yX1_isUnknownPond cX1_isUnknownPond 2 (some .boolean), Cond.fieldLink RX1 11 "MoonGate$Garden" "kinds" "[I"]
def wsX1_reachOnFrom : List Cond := .code yX1_reachOnFrom cX1_reachOnFrom 7 (some .int) :: ((wsX1_reachOnFrom_r1 ++ wsX1_reachOnFrom_r2) ++ wsX10)
def wsX1_surveyPond_r1 : List Cond := [Cond.fieldLink RX1 27 "MoonGate$Garden" "pondCells" "[I", Cond.fieldLink RX1 30 "MoonGate$Garden" "pondCarps" "[I", Cond.fieldLink RX1 24 "MoonGate$Garden" "pondOf" "[I", Cond.fieldLink RX1 33 "MoonGate$Garden" "reached" "[I", Cond.fieldLink RX1 21 "MoonGate$Garden" "carps" "[I", Cond.methodLink RX1 40 yX1_isPlace, Cond.static yX1_isPlace, Cond.initialized RX1, Cond.code yX1_isPlace cX1_isPlace 1 (some .boolean), Cond.methodLink RX1 94 yX1_reachOnFrom, Cond.instanceMethod yX1_reachOnFrom, Cond.selects RX1 yX1_reachOnFrom yX1_reachOnFrom, Cond.code yX1_reachOnFrom cX1_reachOnFrom 7 (some .int), Cond.methodLink RX1 98 yX1_beside, Cond.instanceMethod yX1_beside, Cond.selects RX1 yX1_beside yX1_beside, Cond.code yX1_beside cX1_beside 5 (some .int), Cond.fieldLink RX1 47 "MoonGate$Garden" "STEP_X" "[I", Cond.fieldLink RX1 50 "MoonGate$Garden" "STEP_Y" "[I", Cond.methodLink RX1 44 yX1_isDirection, Cond.static yX1_isDirection, Cond.code yX1_isDirection cX1_isDirection 1 (some .boolean), Cond.methodLink RX1 53 yX1_isInside, Cond.static yX1_isInside]
def wsX1_surveyPond_r2 : List Cond := [Cond.code yX1_isInside cX1_isInside 2 (some .boolean), Cond.methodLink RX1 57 yX1_numberOf, Cond.static yX1_numberOf, Cond.code yX1_numberOf cX1_numberOf 2 (some .int), Cond.methodLink RX1 87 yX1_isUnknownPond, Cond.instanceMethod yX1_isUnknownPond, Cond.selects RX1 yX1_isUnknownPond yX1_isUnknownPond, Cond.code yX1_isUnknownPond cX1_isUnknownPond 2 (some .boolean), Cond.fieldLink RX1 11 "MoonGate$Garden" "kinds" "[I"]
def wsX1_surveyPond : List Cond := .code yX1_surveyPond cX1_surveyPond 6 none :: ((wsX1_surveyPond_r1 ++ wsX1_surveyPond_r2) ++ wsX10)
def wsX1_surveyPonds_r1 : List Cond := [Cond.fieldLink RX1 24 "MoonGate$Garden" "pondOf" "[I", Cond.fieldLink RX1 36 "MoonGate$Garden" "ponds" "I", Cond.methodLink RX1 87 yX1_isUnknownPond, Cond.instanceMethod yX1_isUnknownPond, Cond.selects RX1 yX1_isUnknownPond yX1_isUnknownPond, Cond.initialized RX1, Cond.code yX1_isUnknownPond cX1_isUnknownPond 2 (some .boolean), Cond.fieldLink RX1 11 "MoonGate$Garden" "kinds" "[I", Cond.methodLink RX1 40 yX1_isPlace, Cond.static yX1_isPlace, Cond.code yX1_isPlace cX1_isPlace 1 (some .boolean), Cond.methodLink RX1 90 yX1_surveyPond, Cond.instanceMethod yX1_surveyPond, Cond.selects RX1 yX1_surveyPond yX1_surveyPond, Cond.code yX1_surveyPond cX1_surveyPond 6 none, Cond.fieldLink RX1 27 "MoonGate$Garden" "pondCells" "[I", Cond.fieldLink RX1 30 "MoonGate$Garden" "pondCarps" "[I", Cond.fieldLink RX1 33 "MoonGate$Garden" "reached" "[I", Cond.fieldLink RX1 21 "MoonGate$Garden" "carps" "[I", Cond.methodLink RX1 94 yX1_reachOnFrom, Cond.instanceMethod yX1_reachOnFrom, Cond.selects RX1 yX1_reachOnFrom yX1_reachOnFrom, Cond.code yX1_reachOnFrom cX1_reachOnFrom 7 (some .int), Cond.methodLink RX1 98 yX1_beside]
def wsX1_surveyPonds_r2 : List Cond := [Cond.instanceMethod yX1_beside, Cond.selects RX1 yX1_beside yX1_beside, Cond.code yX1_beside cX1_beside 5 (some .int), Cond.fieldLink RX1 47 "MoonGate$Garden" "STEP_X" "[I", Cond.fieldLink RX1 50 "MoonGate$Garden" "STEP_Y" "[I", Cond.methodLink RX1 44 yX1_isDirection, Cond.static yX1_isDirection, Cond.code yX1_isDirection cX1_isDirection 1 (some .boolean), Cond.methodLink RX1 53 yX1_isInside, Cond.static yX1_isInside, Cond.code yX1_isInside cX1_isInside 2 (some .boolean), Cond.methodLink RX1 57 yX1_numberOf, Cond.static yX1_numberOf, Cond.code yX1_numberOf cX1_numberOf 2 (some .int)]
def wsX1_surveyPonds : List Cond := .code yX1_surveyPonds cX1_surveyPonds 2 none :: ((wsX1_surveyPonds_r1 ++ wsX1_surveyPonds_r2) ++ wsX10)
def wsX1_setPond_r1 : List Cond := [Cond.methodLink RX1 68 yX1_setCell, Cond.instanceMethod yX1_setCell, Cond.selects RX1 yX1_setCell yX1_setCell, Cond.initialized RX1, Cond.code yX1_setCell cX1_setCell 5 none, Cond.fieldLink RX1 11 "MoonGate$Garden" "kinds" "[I", Cond.fieldLink RX1 15 "MoonGate$Garden" "shapes" "[I", Cond.fieldLink RX1 18 "MoonGate$Garden" "sizes" "[I", Cond.methodLink RX1 40 yX1_isPlace, Cond.static yX1_isPlace, Cond.code yX1_isPlace cX1_isPlace 1 (some .boolean), Cond.methodLink RX1 72 yX1_surveyPonds, Cond.instanceMethod yX1_surveyPonds, Cond.selects RX1 yX1_surveyPonds yX1_surveyPonds, Cond.code yX1_surveyPonds cX1_surveyPonds 2 none, Cond.fieldLink RX1 24 "MoonGate$Garden" "pondOf" "[I", Cond.fieldLink RX1 36 "MoonGate$Garden" "ponds" "I", Cond.methodLink RX1 87 yX1_isUnknownPond, Cond.instanceMethod yX1_isUnknownPond, Cond.selects RX1 yX1_isUnknownPond yX1_isUnknownPond, Cond.code yX1_isUnknownPond cX1_isUnknownPond 2 (some .boolean), Cond.methodLink RX1 90 yX1_surveyPond, Cond.instanceMethod yX1_surveyPond, Cond.selects RX1 yX1_surveyPond yX1_surveyPond]
def wsX1_setPond_r2 : List Cond := [Cond.code yX1_surveyPond cX1_surveyPond 6 none, Cond.fieldLink RX1 27 "MoonGate$Garden" "pondCells" "[I", Cond.fieldLink RX1 30 "MoonGate$Garden" "pondCarps" "[I", Cond.fieldLink RX1 33 "MoonGate$Garden" "reached" "[I", Cond.fieldLink RX1 21 "MoonGate$Garden" "carps" "[I", Cond.methodLink RX1 94 yX1_reachOnFrom, Cond.instanceMethod yX1_reachOnFrom, Cond.selects RX1 yX1_reachOnFrom yX1_reachOnFrom, Cond.code yX1_reachOnFrom cX1_reachOnFrom 7 (some .int), Cond.methodLink RX1 98 yX1_beside, Cond.instanceMethod yX1_beside, Cond.selects RX1 yX1_beside yX1_beside, Cond.code yX1_beside cX1_beside 5 (some .int), Cond.fieldLink RX1 47 "MoonGate$Garden" "STEP_X" "[I", Cond.fieldLink RX1 50 "MoonGate$Garden" "STEP_Y" "[I", Cond.methodLink RX1 44 yX1_isDirection, Cond.static yX1_isDirection, Cond.code yX1_isDirection cX1_isDirection 1 (some .boolean), Cond.methodLink RX1 53 yX1_isInside, Cond.static yX1_isInside, Cond.code yX1_isInside cX1_isInside 2 (some .boolean), Cond.methodLink RX1 57 yX1_numberOf, Cond.static yX1_numberOf, Cond.code yX1_numberOf cX1_numberOf 2 (some .int)]
def wsX1_setPond : List Cond := .code yX1_setPond cX1_setPond 2 none :: ((wsX1_setPond_r1 ++ wsX1_setPond_r2) ++ wsX10)
def wsX1_setWall : List Cond := .code yX1_setWall cX1_setWall 2 none :: ([.methodLink RX1 68 yX1_setCell, .instanceMethod yX1_setCell, .selects RX1 yX1_setCell yX1_setCell, .initialized RX1, .code yX1_setCell cX1_setCell 5 none, .fieldLink RX1 11 "MoonGate$Garden" "kinds" "[I", .fieldLink RX1 15 "MoonGate$Garden" "shapes" "[I", .fieldLink RX1 18 "MoonGate$Garden" "sizes" "[I", .methodLink RX1 40 yX1_isPlace, .static yX1_isPlace, .code yX1_isPlace cX1_isPlace 1 (some .boolean)] ++ wsX10)
def wsX1_setBare_r1 : List Cond := [Cond.methodLink RX1 75 yX1_isPond, Cond.instanceMethod yX1_isPond, Cond.selects RX1 yX1_isPond yX1_isPond, Cond.initialized RX1, Cond.code yX1_isPond cX1_isPond 2 (some .boolean), Cond.methodLink RX1 61 yX1_kindAt, Cond.instanceMethod yX1_kindAt, Cond.selects RX1 yX1_kindAt yX1_kindAt, Cond.code yX1_kindAt cX1_kindAt 2 (some .int), Cond.fieldLink RX1 11 "MoonGate$Garden" "kinds" "[I", Cond.methodLink RX1 40 yX1_isPlace, Cond.static yX1_isPlace, Cond.code yX1_isPlace cX1_isPlace 1 (some .boolean), Cond.methodLink RX1 68 yX1_setCell, Cond.instanceMethod yX1_setCell, Cond.selects RX1 yX1_setCell yX1_setCell, Cond.code yX1_setCell cX1_setCell 5 none, Cond.fieldLink RX1 15 "MoonGate$Garden" "shapes" "[I", Cond.fieldLink RX1 18 "MoonGate$Garden" "sizes" "[I", Cond.methodLink RX1 72 yX1_surveyPonds, Cond.instanceMethod yX1_surveyPonds, Cond.selects RX1 yX1_surveyPonds yX1_surveyPonds, Cond.code yX1_surveyPonds cX1_surveyPonds 2 none, Cond.fieldLink RX1 24 "MoonGate$Garden" "pondOf" "[I"]
def wsX1_setBare_r2 : List Cond := [Cond.fieldLink RX1 36 "MoonGate$Garden" "ponds" "I", Cond.methodLink RX1 87 yX1_isUnknownPond, Cond.instanceMethod yX1_isUnknownPond, Cond.selects RX1 yX1_isUnknownPond yX1_isUnknownPond, Cond.code yX1_isUnknownPond cX1_isUnknownPond 2 (some .boolean), Cond.methodLink RX1 90 yX1_surveyPond, Cond.instanceMethod yX1_surveyPond, Cond.selects RX1 yX1_surveyPond yX1_surveyPond, Cond.code yX1_surveyPond cX1_surveyPond 6 none, Cond.fieldLink RX1 27 "MoonGate$Garden" "pondCells" "[I", Cond.fieldLink RX1 30 "MoonGate$Garden" "pondCarps" "[I", Cond.fieldLink RX1 33 "MoonGate$Garden" "reached" "[I", Cond.fieldLink RX1 21 "MoonGate$Garden" "carps" "[I", Cond.methodLink RX1 94 yX1_reachOnFrom, Cond.instanceMethod yX1_reachOnFrom, Cond.selects RX1 yX1_reachOnFrom yX1_reachOnFrom, Cond.code yX1_reachOnFrom cX1_reachOnFrom 7 (some .int), Cond.methodLink RX1 98 yX1_beside, Cond.instanceMethod yX1_beside, Cond.selects RX1 yX1_beside yX1_beside, Cond.code yX1_beside cX1_beside 5 (some .int), Cond.fieldLink RX1 47 "MoonGate$Garden" "STEP_X" "[I", Cond.fieldLink RX1 50 "MoonGate$Garden" "STEP_Y" "[I", Cond.methodLink RX1 44 yX1_isDirection]
def wsX1_setBare_r3 : List Cond := [Cond.static yX1_isDirection, Cond.code yX1_isDirection cX1_isDirection 1 (some .boolean), Cond.methodLink RX1 53 yX1_isInside, Cond.static yX1_isInside, Cond.code yX1_isInside cX1_isInside 2 (some .boolean), Cond.methodLink RX1 57 yX1_numberOf, Cond.static yX1_numberOf, Cond.code yX1_numberOf cX1_numberOf 2 (some .int)]
def wsX1_setBare : List Cond := .code yX1_setBare cX1_setBare 3 none :: ((wsX1_setBare_r1 ++ (wsX1_setBare_r2 ++ wsX1_setBare_r3)) ++ wsX10)
def wsX1_pondAt : List Cond := .code yX1_pondAt cX1_pondAt 3 (some .int) :: ([.fieldLink RX1 24 "MoonGate$Garden" "pondOf" "[I", .methodLink RX1 40 yX1_isPlace, .static yX1_isPlace, .initialized RX1, .code yX1_isPlace cX1_isPlace 1 (some .boolean)] ++ wsX10)
def wsX1_changeCarps : List Cond := .code yX1_changeCarps cX1_changeCarps 4 none :: ([.fieldLink RX1 21 "MoonGate$Garden" "carps" "[I", .fieldLink RX1 30 "MoonGate$Garden" "pondCarps" "[I", .methodLink RX1 78 yX1_pondAt, .instanceMethod yX1_pondAt, .selects RX1 yX1_pondAt yX1_pondAt, .initialized RX1, .code yX1_pondAt cX1_pondAt 3 (some .int), .fieldLink RX1 24 "MoonGate$Garden" "pondOf" "[I", .methodLink RX1 40 yX1_isPlace, .static yX1_isPlace, .code yX1_isPlace cX1_isPlace 1 (some .boolean)] ++ wsX10)
def wsX1_cellsOfPondAt : List Cond := .code yX1_cellsOfPondAt cX1_cellsOfPondAt 3 (some .int) :: ([.fieldLink RX1 27 "MoonGate$Garden" "pondCells" "[I", .methodLink RX1 78 yX1_pondAt, .instanceMethod yX1_pondAt, .selects RX1 yX1_pondAt yX1_pondAt, .initialized RX1, .code yX1_pondAt cX1_pondAt 3 (some .int), .fieldLink RX1 24 "MoonGate$Garden" "pondOf" "[I", .methodLink RX1 40 yX1_isPlace, .static yX1_isPlace, .code yX1_isPlace cX1_isPlace 1 (some .boolean)] ++ wsX10)
def wsX1_carpsOfPondAt : List Cond := .code yX1_carpsOfPondAt cX1_carpsOfPondAt 3 (some .int) :: ([.fieldLink RX1 30 "MoonGate$Garden" "pondCarps" "[I", .methodLink RX1 78 yX1_pondAt, .instanceMethod yX1_pondAt, .selects RX1 yX1_pondAt yX1_pondAt, .initialized RX1, .code yX1_pondAt cX1_pondAt 3 (some .int), .fieldLink RX1 24 "MoonGate$Garden" "pondOf" "[I", .methodLink RX1 40 yX1_isPlace, .static yX1_isPlace, .code yX1_isPlace cX1_isPlace 1 (some .boolean)] ++ wsX10)
def wsX1_isTooFull : List Cond := .code yX1_isTooFull cX1_isTooFull 2 (some .boolean) :: ([.methodLink RX1 81 yX1_carpsOfPondAt, .instanceMethod yX1_carpsOfPondAt, .selects RX1 yX1_carpsOfPondAt yX1_carpsOfPondAt, .initialized RX1, .code yX1_carpsOfPondAt cX1_carpsOfPondAt 3 (some .int), .fieldLink RX1 30 "MoonGate$Garden" "pondCarps" "[I", .methodLink RX1 78 yX1_pondAt, .instanceMethod yX1_pondAt, .selects RX1 yX1_pondAt yX1_pondAt, .code yX1_pondAt cX1_pondAt 3 (some .int), .fieldLink RX1 24 "MoonGate$Garden" "pondOf" "[I", .methodLink RX1 40 yX1_isPlace, .static yX1_isPlace, .code yX1_isPlace cX1_isPlace 1 (some .boolean), .methodLink RX1 84 yX1_cellsOfPondAt, .instanceMethod yX1_cellsOfPondAt, .selects RX1 yX1_cellsOfPondAt yX1_cellsOfPondAt, .code yX1_cellsOfPondAt cX1_cellsOfPondAt 3 (some .int), .fieldLink RX1 27 "MoonGate$Garden" "pondCells" "[I"] ++ wsX10)
def wsX2_init : List Cond := .code yX2_init cX2_init 1 none :: ([.methodLink RX2 3 objectInit, .instanceMethod objectInit, .code objectInit ⟨#[0xb1]⟩ 1 none, .arrayClass .int, .fieldLink RX2 9 "MoonGate$Gates" "places" "[I", .fieldLink RX2 15 "MoonGate$Gates" "directions" "[I", .fieldLink RX2 18 "MoonGate$Gates" "many" "I"] ++ wsX20)
def wsX2_isNumber : List Cond := .code yX2_isNumber cX2_isNumber 2 (some .boolean) :: ([.fieldLink RX2 18 "MoonGate$Gates" "many" "I"] ++ wsX20)
def wsX2_add : List Cond := .code yX2_add cX2_add 4 (some .int) :: ([.fieldLink RX2 18 "MoonGate$Gates" "many" "I", .fieldLink RX2 9 "MoonGate$Gates" "places" "[I", .fieldLink RX2 15 "MoonGate$Gates" "directions" "[I"] ++ wsX20)
def wsX2_placeOf : List Cond := .code yX2_placeOf cX2_placeOf 2 (some .int) :: ([.fieldLink RX2 9 "MoonGate$Gates" "places" "[I", .methodLink RX2 22 yX2_isNumber, .instanceMethod yX2_isNumber, .selects RX2 yX2_isNumber yX2_isNumber, .initialized RX2, .code yX2_isNumber cX2_isNumber 2 (some .boolean), .fieldLink RX2 18 "MoonGate$Gates" "many" "I"] ++ wsX20)
def wsX2_directionOf : List Cond := .code yX2_directionOf cX2_directionOf 2 (some .int) :: ([.fieldLink RX2 15 "MoonGate$Gates" "directions" "[I", .methodLink RX2 22 yX2_isNumber, .instanceMethod yX2_isNumber, .selects RX2 yX2_isNumber yX2_isNumber, .initialized RX2, .code yX2_isNumber cX2_isNumber 2 (some .boolean), .fieldLink RX2 18 "MoonGate$Gates" "many" "I"] ++ wsX20)
def wsX3_init : List Cond := .code yX3_init cX3_init 1 none :: ([.methodLink RX3 3 objectInit, .instanceMethod objectInit, .code objectInit ⟨#[0xb1]⟩ 1 none, .arrayClass .int, .fieldLink RX3 9 "MoonGate$Poets" "gatesOf" "[I", .fieldLink RX3 15 "MoonGate$Poets" "many" "I"] ++ wsX30)
def wsX3_isNumber : List Cond := .code yX3_isNumber cX3_isNumber 2 (some .boolean) :: ([.fieldLink RX3 15 "MoonGate$Poets" "many" "I"] ++ wsX30)
def wsX3_add : List Cond := .code yX3_add cX3_add 3 (some .int) :: ([.fieldLink RX3 15 "MoonGate$Poets" "many" "I", .fieldLink RX3 9 "MoonGate$Poets" "gatesOf" "[I"] ++ wsX30)
def wsX3_gateOf : List Cond := .code yX3_gateOf cX3_gateOf 2 (some .int) :: ([.fieldLink RX3 9 "MoonGate$Poets" "gatesOf" "[I", .methodLink RX3 19 yX3_isNumber, .instanceMethod yX3_isNumber, .selects RX3 yX3_isNumber yX3_isNumber, .initialized RX3, .code yX3_isNumber cX3_isNumber 2 (some .boolean), .fieldLink RX3 15 "MoonGate$Poets" "many" "I"] ++ wsX30)
def wsX3_setGate : List Cond := .code yX3_setGate cX3_setGate 3 none :: ([.fieldLink RX3 9 "MoonGate$Poets" "gatesOf" "[I", .methodLink RX3 19 yX3_isNumber, .instanceMethod yX3_isNumber, .selects RX3 yX3_isNumber yX3_isNumber, .initialized RX3, .code yX3_isNumber cX3_isNumber 2 (some .boolean), .fieldLink RX3 15 "MoonGate$Poets" "many" "I"] ++ wsX30)
def wsX3_manyAt : List Cond := .code yX3_manyAt cX3_manyAt 4 (some .int) :: ([.fieldLink RX3 15 "MoonGate$Poets" "many" "I", .methodLink RX3 23 yX3_gateOf, .instanceMethod yX3_gateOf, .selects RX3 yX3_gateOf yX3_gateOf, .initialized RX3, .code yX3_gateOf cX3_gateOf 2 (some .int), .fieldLink RX3 9 "MoonGate$Poets" "gatesOf" "[I", .methodLink RX3 19 yX3_isNumber, .instanceMethod yX3_isNumber, .selects RX3 yX3_isNumber yX3_isNumber, .code yX3_isNumber cX3_isNumber 2 (some .boolean)] ++ wsX30)
def wsX4_init : List Cond := .code yX4_init cX4_init 1 none :: ([.methodLink RX4 3 objectInit, .instanceMethod objectInit, .code objectInit ⟨#[0xb1]⟩ 1 none, .arrayClass .int, .fieldLink RX4 9 "MoonGate$Shoal" "places" "[I", .arrayClass .boolean, .fieldLink RX4 15 "MoonGate$Shoal" "sold" "[Z", .fieldLink RX4 19 "MoonGate$Shoal" "came" "I"] ++ wsX40)
def wsX4_isNumber : List Cond := .code yX4_isNumber cX4_isNumber 2 (some .boolean) :: ([.fieldLink RX4 19 "MoonGate$Shoal" "came" "I"] ++ wsX40)
def wsX4_add : List Cond := .code yX4_add cX4_add 3 (some .int) :: ([.fieldLink RX4 19 "MoonGate$Shoal" "came" "I", .fieldLink RX4 9 "MoonGate$Shoal" "places" "[I", .fieldLink RX4 15 "MoonGate$Shoal" "sold" "[Z"] ++ wsX40)
def wsX4_takeOut : List Cond := .code yX4_takeOut cX4_takeOut 2 none :: ([.fieldLink RX4 15 "MoonGate$Shoal" "sold" "[Z", .methodLink RX4 23 yX4_isNumber, .instanceMethod yX4_isNumber, .selects RX4 yX4_isNumber yX4_isNumber, .initialized RX4, .code yX4_isNumber cX4_isNumber 2 (some .boolean), .fieldLink RX4 19 "MoonGate$Shoal" "came" "I"] ++ wsX40)
def wsX4_isHere : List Cond := .code yX4_isHere cX4_isHere 2 (some .boolean) :: ([.fieldLink RX4 15 "MoonGate$Shoal" "sold" "[Z", .methodLink RX4 23 yX4_isNumber, .instanceMethod yX4_isNumber, .selects RX4 yX4_isNumber yX4_isNumber, .initialized RX4, .code yX4_isNumber cX4_isNumber 2 (some .boolean), .fieldLink RX4 19 "MoonGate$Shoal" "came" "I"] ++ wsX40)
def wsX4_placeOf : List Cond := .code yX4_placeOf cX4_placeOf 2 (some .int) :: ([.fieldLink RX4 9 "MoonGate$Shoal" "places" "[I", .methodLink RX4 23 yX4_isNumber, .instanceMethod yX4_isNumber, .selects RX4 yX4_isNumber yX4_isNumber, .initialized RX4, .code yX4_isNumber cX4_isNumber 2 (some .boolean), .fieldLink RX4 19 "MoonGate$Shoal" "came" "I"] ++ wsX40)
def wsX4_manyHere : List Cond := .code yX4_manyHere cX4_manyHere 3 (some .int) :: ([.fieldLink RX4 19 "MoonGate$Shoal" "came" "I", .methodLink RX4 27 yX4_isHere, .instanceMethod yX4_isHere, .selects RX4 yX4_isHere yX4_isHere, .initialized RX4, .code yX4_isHere cX4_isHere 2 (some .boolean), .fieldLink RX4 15 "MoonGate$Shoal" "sold" "[Z", .methodLink RX4 23 yX4_isNumber, .instanceMethod yX4_isNumber, .selects RX4 yX4_isNumber yX4_isNumber, .code yX4_isNumber cX4_isNumber 2 (some .boolean)] ++ wsX40)
def wsX4_sizesHere : List Cond := .code yX4_sizesHere cX4_sizesHere 4 (some .int) :: ([.fieldLink RX4 19 "MoonGate$Shoal" "came" "I", .methodLink RX4 27 yX4_isHere, .instanceMethod yX4_isHere, .selects RX4 yX4_isHere yX4_isHere, .initialized RX4, .code yX4_isHere cX4_isHere 2 (some .boolean), .fieldLink RX4 15 "MoonGate$Shoal" "sold" "[Z", .methodLink RX4 23 yX4_isNumber, .instanceMethod yX4_isNumber, .selects RX4 yX4_isNumber yX4_isNumber, .code yX4_isNumber cX4_isNumber 2 (some .boolean), .methodLink RX4 30 yX0_carpSize, .instanceMethod yX0_carpSize, .selects RX0 yX0_carpSize yX0_carpSize, .initialized RX0, .code yX0_carpSize cX0_carpSize 2 (some .int), .fieldLink RX0 18 "MoonGate$Course" "carpSizes" "[I"] ++ wsX40 ++ wsX00)
def wsX4_sizesIn : List Cond := .code yX4_sizesIn cX4_sizesIn 5 (some .int) :: ([.fieldLink RX4 19 "MoonGate$Shoal" "came" "I", .fieldLink RX4 9 "MoonGate$Shoal" "places" "[I", .fieldLink RX4 15 "MoonGate$Shoal" "sold" "[Z", .methodLink RX4 30 yX0_carpSize, .instanceMethod yX0_carpSize, .selects RX0 yX0_carpSize yX0_carpSize, .initialized RX0, .code yX0_carpSize cX0_carpSize 2 (some .int), .fieldLink RX0 18 "MoonGate$Course" "carpSizes" "[I"] ++ wsX40 ++ wsX00)
def wsX5_init : List Cond := .code yX5_init cX5_init 1 none :: ([.methodLink RX5 1 objectInit, .instanceMethod objectInit, .code objectInit ⟨#[0xb1]⟩ 1 none])
def wsX5_begin : List Cond := .code yX5_begin cX5_begin 1 none :: ([.fieldLink RX5 7 "MoonGate$View" "cells" "I", .fieldLink RX5 13 "MoonGate$View" "rocks" "I", .fieldLink RX5 16 "MoonGate$View" "pondCells" "I", .fieldLink RX5 19 "MoonGate$View" "beauty" "I", .fieldLink RX5 22 "MoonGate$View" "shapesShown" "I"] ++ wsX50)
def wsX5_addRock : List Cond := .code yX5_addRock cX5_addRock 4 none :: ([.fieldLink RX5 13 "MoonGate$View" "rocks" "I", .fieldLink RX5 19 "MoonGate$View" "beauty" "I", .fieldLink RX5 22 "MoonGate$View" "shapesShown" "I"] ++ wsX50)
def wsX5_addPondCell : List Cond := .code yX5_addPondCell cX5_addPondCell 2 none :: ([.fieldLink RX5 16 "MoonGate$View" "pondCells" "I", .fieldLink RX5 19 "MoonGate$View" "beauty" "I"] ++ wsX50)
def wsX6_init_r1 : List Cond := [Cond.methodLink RX6 1 objectInit, Cond.instanceMethod objectInit, Cond.code objectInit ⟨#[0xb1]⟩ 1 none, Cond.classLink RX6 7 RX1, Cond.instantiable RX1 9, Cond.initialized RX1, Cond.fieldLink RX6 10 "MoonGate" "garden" "LMoonGate$Garden;", Cond.classLink RX6 16 RX4, Cond.instantiable RX4 3, Cond.initialized RX4, Cond.fieldLink RX6 19 "MoonGate" "shoal" "LMoonGate$Shoal;", Cond.classLink RX6 23 RX2, Cond.instantiable RX2 3, Cond.initialized RX2, Cond.fieldLink RX6 26 "MoonGate" "gates" "LMoonGate$Gates;", Cond.classLink RX6 30 RX3, Cond.instantiable RX3 2, Cond.initialized RX3, Cond.fieldLink RX6 33 "MoonGate" "poets" "LMoonGate$Poets;", Cond.classLink RX6 37 RX0, Cond.instantiable RX0 4, Cond.initialized RX0, Cond.fieldLink RX6 40 "MoonGate" "now" "LMoonGate$Course;", Cond.fieldLink RX6 44 "MoonGate" "ahead" "LMoonGate$Course;"]
def wsX6_init_r2 : List Cond := [Cond.classLink RX6 47 RX5, Cond.instantiable RX5 5, Cond.initialized RX5, Cond.fieldLink RX6 50 "MoonGate" "view" "LMoonGate$View;", Cond.methodLink RX6 9 yX1_init, Cond.instanceMethod yX1_init, Cond.code yX1_init cX1_init 2 none, Cond.methodLink RX1 3 objectInit, Cond.arrayClass .int, Cond.fieldLink RX1 11 "MoonGate$Garden" "kinds" "[I", Cond.fieldLink RX1 15 "MoonGate$Garden" "shapes" "[I", Cond.fieldLink RX1 18 "MoonGate$Garden" "sizes" "[I", Cond.fieldLink RX1 21 "MoonGate$Garden" "carps" "[I", Cond.fieldLink RX1 24 "MoonGate$Garden" "pondOf" "[I", Cond.fieldLink RX1 27 "MoonGate$Garden" "pondCells" "[I", Cond.fieldLink RX1 30 "MoonGate$Garden" "pondCarps" "[I", Cond.fieldLink RX1 33 "MoonGate$Garden" "reached" "[I", Cond.fieldLink RX1 36 "MoonGate$Garden" "ponds" "I", Cond.methodLink RX6 18 yX4_init, Cond.instanceMethod yX4_init, Cond.code yX4_init cX4_init 1 none, Cond.methodLink RX4 3 objectInit, Cond.fieldLink RX4 9 "MoonGate$Shoal" "places" "[I", Cond.arrayClass .boolean]
def wsX6_init_r3 : List Cond := [Cond.fieldLink RX4 15 "MoonGate$Shoal" "sold" "[Z", Cond.fieldLink RX4 19 "MoonGate$Shoal" "came" "I", Cond.methodLink RX6 25 yX2_init, Cond.instanceMethod yX2_init, Cond.code yX2_init cX2_init 1 none, Cond.methodLink RX2 3 objectInit, Cond.fieldLink RX2 9 "MoonGate$Gates" "places" "[I", Cond.fieldLink RX2 15 "MoonGate$Gates" "directions" "[I", Cond.fieldLink RX2 18 "MoonGate$Gates" "many" "I", Cond.methodLink RX6 32 yX3_init, Cond.instanceMethod yX3_init, Cond.code yX3_init cX3_init 1 none, Cond.methodLink RX3 3 objectInit, Cond.fieldLink RX3 9 "MoonGate$Poets" "gatesOf" "[I", Cond.fieldLink RX3 15 "MoonGate$Poets" "many" "I", Cond.methodLink RX6 39 yX0_init, Cond.instanceMethod yX0_init, Cond.code yX0_init cX0_init 1 none, Cond.methodLink RX0 3 objectInit, Cond.fieldLink RX0 9 "MoonGate$Course" "day" "I", Cond.fieldLink RX0 15 "MoonGate$Course" "coins" "I", Cond.fieldLink RX0 18 "MoonGate$Course" "carpSizes" "[I", Cond.fieldLink RX0 22 "MoonGate$Course" "linesWritten" "[I", Cond.instanceMethod yX5_init]
def wsX6_init_r4 : List Cond := [Cond.code yX5_init cX5_init 1 none, Cond.methodLink RX5 1 objectInit]
def wsX6_init : List Cond := .code yX6_init cX6_init 1 none :: ((wsX6_init_r1 ++ (wsX6_init_r2 ++ (wsX6_init_r3 ++ wsX6_init_r4))) ++ wsX10 ++ wsX60 ++ wsX40 ++ wsX20 ++ wsX30 ++ wsX00 ++ wsX50)
def wsX6_checkPlace : List Cond := .code yX6_checkPlace cX6_checkPlace 3 none :: ([.classLink RX6 249 "java/lang/IndexOutOfBoundsException", .initialized "java/lang/IndexOutOfBoundsException", .methodLink RX6 336 yX1_isInside, .static yX1_isInside, .initialized RX1, .code yX1_isInside cX1_isInside 2 (some .boolean)] ++ (vx_atS RX6 253 "java/lang/IndexOutOfBoundsException" ["java/lang/RuntimeException", "java/lang/Exception"]).filter goodWord)
def wsX6_checkRock : List Cond := .code yX6_checkRock cX6_checkRock 3 none :: ([.classLink RX6 166 "java/lang/IllegalArgumentException", .initialized "java/lang/IllegalArgumentException"] ++ (vx_atS RX6 170 "java/lang/IllegalArgumentException" ["java/lang/RuntimeException", "java/lang/Exception"]).filter goodWord)
def wsX6_checkBare : List Cond := .code yX6_checkBare cX6_checkBare 2 none :: ([.classLink RX6 94 "java/lang/IllegalStateException", .initialized "java/lang/IllegalStateException", .fieldLink RX6 10 "MoonGate" "garden" "LMoonGate$Garden;", .methodLink RX6 90 yX1_isBare, .instanceMethod yX1_isBare, .selects RX1 yX1_isBare yX1_isBare, .initialized RX1, .code yX1_isBare cX1_isBare 2 (some .boolean), .methodLink RX1 61 yX1_kindAt, .instanceMethod yX1_kindAt, .selects RX1 yX1_kindAt yX1_kindAt, .code yX1_kindAt cX1_kindAt 2 (some .int), .fieldLink RX1 11 "MoonGate$Garden" "kinds" "[I", .methodLink RX1 40 yX1_isPlace, .static yX1_isPlace, .code yX1_isPlace cX1_isPlace 1 (some .boolean)] ++ wsX60 ++ wsX10 ++ (vx_atS RX6 98 "java/lang/IllegalStateException" ["java/lang/RuntimeException", "java/lang/Exception"]).filter goodWord)
def wsX6_spend : List Cond := .code yX6_spend cX6_spend 2 none :: ([.classLink RX6 94 "java/lang/IllegalStateException", .initialized "java/lang/IllegalStateException", .fieldLink RX6 40 "MoonGate" "now" "LMoonGate$Course;", .fieldLink RX6 76 "MoonGate$Course" "coins" "I"] ++ wsX60 ++ wsX00 ++ (vx_atS RX6 98 "java/lang/IllegalStateException" ["java/lang/RuntimeException", "java/lang/Exception"]).filter goodWord)
def wsX6_rock_r1 : List Cond := [Cond.fieldLink RX6 10 "MoonGate" "garden" "LMoonGate$Garden;", Cond.fieldLink RX6 40 "MoonGate" "now" "LMoonGate$Course;", Cond.fieldLink RX6 76 "MoonGate$Course" "coins" "I", Cond.methodLink RX6 54 yX6_checkPlace, Cond.instanceMethod yX6_checkPlace, Cond.selects RX6 yX6_checkPlace yX6_checkPlace, Cond.initialized RX6, Cond.code yX6_checkPlace cX6_checkPlace 3 none, Cond.classLink RX6 249 "java/lang/IndexOutOfBoundsException", Cond.initialized "java/lang/IndexOutOfBoundsException", Cond.methodLink RX6 336 yX1_isInside, Cond.static yX1_isInside, Cond.initialized RX1, Cond.code yX1_isInside cX1_isInside 2 (some .boolean), Cond.methodLink RX6 58 yX6_checkRock, Cond.instanceMethod yX6_checkRock, Cond.selects RX6 yX6_checkRock yX6_checkRock, Cond.code yX6_checkRock cX6_checkRock 3 none, Cond.classLink RX6 166 "java/lang/IllegalArgumentException", Cond.initialized "java/lang/IllegalArgumentException", Cond.methodLink RX6 61 yX1_numberOf, Cond.static yX1_numberOf, Cond.code yX1_numberOf cX1_numberOf 2 (some .int), Cond.methodLink RX6 65 yX6_checkBare]
def wsX6_rock_r2 : List Cond := [Cond.instanceMethod yX6_checkBare, Cond.selects RX6 yX6_checkBare yX6_checkBare, Cond.code yX6_checkBare cX6_checkBare 2 none, Cond.classLink RX6 94 "java/lang/IllegalStateException", Cond.initialized "java/lang/IllegalStateException", Cond.methodLink RX6 90 yX1_isBare, Cond.instanceMethod yX1_isBare, Cond.selects RX1 yX1_isBare yX1_isBare, Cond.code yX1_isBare cX1_isBare 2 (some .boolean), Cond.methodLink RX1 61 yX1_kindAt, Cond.instanceMethod yX1_kindAt, Cond.selects RX1 yX1_kindAt yX1_kindAt, Cond.code yX1_kindAt cX1_kindAt 2 (some .int), Cond.fieldLink RX1 11 "MoonGate$Garden" "kinds" "[I", Cond.methodLink RX1 40 yX1_isPlace, Cond.static yX1_isPlace, Cond.code yX1_isPlace cX1_isPlace 1 (some .boolean), Cond.methodLink RX6 69 yX6_spend, Cond.instanceMethod yX6_spend, Cond.selects RX6 yX6_spend yX6_spend, Cond.code yX6_spend cX6_spend 2 none, Cond.methodLink RX6 72 yX1_setRock, Cond.instanceMethod yX1_setRock, Cond.selects RX1 yX1_setRock yX1_setRock]
def wsX6_rock_r3 : List Cond := [Cond.code yX1_setRock cX1_setRock 4 none, Cond.methodLink RX1 68 yX1_setCell, Cond.instanceMethod yX1_setCell, Cond.selects RX1 yX1_setCell yX1_setCell, Cond.code yX1_setCell cX1_setCell 5 none, Cond.fieldLink RX1 15 "MoonGate$Garden" "shapes" "[I", Cond.fieldLink RX1 18 "MoonGate$Garden" "sizes" "[I"]
def wsX6_rock : List Cond := .code yX6_rock cX6_rock 6 (some .int) :: ((wsX6_rock_r1 ++ (wsX6_rock_r2 ++ wsX6_rock_r3)) ++ wsX60 ++ wsX00 ++ wsX10 ++ (vx_atS RX6 253 "java/lang/IndexOutOfBoundsException" ["java/lang/RuntimeException", "java/lang/Exception"]).filter goodWord ++ (vx_atS RX6 170 "java/lang/IllegalArgumentException" ["java/lang/RuntimeException", "java/lang/Exception"]).filter goodWord ++ (vx_atS RX6 98 "java/lang/IllegalStateException" ["java/lang/RuntimeException", "java/lang/Exception"]).filter goodWord)
def wsX6_dig_r1 : List Cond := [Cond.fieldLink RX6 10 "MoonGate" "garden" "LMoonGate$Garden;", Cond.methodLink RX6 54 yX6_checkPlace, Cond.instanceMethod yX6_checkPlace, Cond.selects RX6 yX6_checkPlace yX6_checkPlace, Cond.initialized RX6, Cond.code yX6_checkPlace cX6_checkPlace 3 none, Cond.classLink RX6 249 "java/lang/IndexOutOfBoundsException", Cond.initialized "java/lang/IndexOutOfBoundsException", Cond.methodLink RX6 336 yX1_isInside, Cond.static yX1_isInside, Cond.initialized RX1, Cond.code yX1_isInside cX1_isInside 2 (some .boolean), Cond.methodLink RX6 61 yX1_numberOf, Cond.static yX1_numberOf, Cond.code yX1_numberOf cX1_numberOf 2 (some .int), Cond.methodLink RX6 65 yX6_checkBare, Cond.instanceMethod yX6_checkBare, Cond.selects RX6 yX6_checkBare yX6_checkBare, Cond.code yX6_checkBare cX6_checkBare 2 none, Cond.classLink RX6 94 "java/lang/IllegalStateException", Cond.initialized "java/lang/IllegalStateException", Cond.methodLink RX6 90 yX1_isBare, Cond.instanceMethod yX1_isBare, Cond.selects RX1 yX1_isBare yX1_isBare]
def wsX6_dig_r2 : List Cond := [Cond.code yX1_isBare cX1_isBare 2 (some .boolean), Cond.methodLink RX1 61 yX1_kindAt, Cond.instanceMethod yX1_kindAt, Cond.selects RX1 yX1_kindAt yX1_kindAt, Cond.code yX1_kindAt cX1_kindAt 2 (some .int), Cond.fieldLink RX1 11 "MoonGate$Garden" "kinds" "[I", Cond.methodLink RX1 40 yX1_isPlace, Cond.static yX1_isPlace, Cond.code yX1_isPlace cX1_isPlace 1 (some .boolean), Cond.methodLink RX6 69 yX6_spend, Cond.instanceMethod yX6_spend, Cond.selects RX6 yX6_spend yX6_spend, Cond.code yX6_spend cX6_spend 2 none, Cond.fieldLink RX6 40 "MoonGate" "now" "LMoonGate$Course;", Cond.fieldLink RX6 76 "MoonGate$Course" "coins" "I", Cond.methodLink RX6 80 yX1_setPond, Cond.instanceMethod yX1_setPond, Cond.selects RX1 yX1_setPond yX1_setPond, Cond.code yX1_setPond cX1_setPond 2 none, Cond.methodLink RX1 68 yX1_setCell, Cond.instanceMethod yX1_setCell, Cond.selects RX1 yX1_setCell yX1_setCell, Cond.code yX1_setCell cX1_setCell 5 none, Cond.fieldLink RX1 15 "MoonGate$Garden" "shapes" "[I"]
def wsX6_dig_r3 : List Cond := [Cond.fieldLink RX1 18 "MoonGate$Garden" "sizes" "[I", Cond.methodLink RX1 72 yX1_surveyPonds, Cond.instanceMethod yX1_surveyPonds, Cond.selects RX1 yX1_surveyPonds yX1_surveyPonds, Cond.code yX1_surveyPonds cX1_surveyPonds 2 none, Cond.fieldLink RX1 24 "MoonGate$Garden" "pondOf" "[I", Cond.fieldLink RX1 36 "MoonGate$Garden" "ponds" "I", Cond.methodLink RX1 87 yX1_isUnknownPond, Cond.instanceMethod yX1_isUnknownPond, Cond.selects RX1 yX1_isUnknownPond yX1_isUnknownPond, Cond.code yX1_isUnknownPond cX1_isUnknownPond 2 (some .boolean), Cond.methodLink RX1 90 yX1_surveyPond, Cond.instanceMethod yX1_surveyPond, Cond.selects RX1 yX1_surveyPond yX1_surveyPond, Cond.code yX1_surveyPond cX1_surveyPond 6 none, Cond.fieldLink RX1 27 "MoonGate$Garden" "pondCells" "[I", Cond.fieldLink RX1 30 "MoonGate$Garden" "pondCarps" "[I", Cond.fieldLink RX1 33 "MoonGate$Garden" "reached" "[I", Cond.fieldLink RX1 21 "MoonGate$Garden" "carps" "[I", Cond.methodLink RX1 94 yX1_reachOnFrom, Cond.instanceMethod yX1_reachOnFrom, Cond.selects RX1 yX1_reachOnFrom yX1_reachOnFrom, Cond.code yX1_reachOnFrom cX1_reachOnFrom 7 (some .int), Cond.methodLink RX1 98 yX1_beside]
def wsX6_dig_r4 : List Cond := [Cond.instanceMethod yX1_beside, Cond.selects RX1 yX1_beside yX1_beside, Cond.code yX1_beside cX1_beside 5 (some .int), Cond.fieldLink RX1 47 "MoonGate$Garden" "STEP_X" "[I", Cond.fieldLink RX1 50 "MoonGate$Garden" "STEP_Y" "[I", Cond.methodLink RX1 44 yX1_isDirection, Cond.static yX1_isDirection, Cond.code yX1_isDirection cX1_isDirection 1 (some .boolean), Cond.methodLink RX1 53 yX1_isInside, Cond.methodLink RX1 57 yX1_numberOf, Cond.methodLink RX6 83 yX1_cellsOfPondAt, Cond.instanceMethod yX1_cellsOfPondAt, Cond.selects RX1 yX1_cellsOfPondAt yX1_cellsOfPondAt, Cond.code yX1_cellsOfPondAt cX1_cellsOfPondAt 3 (some .int), Cond.methodLink RX1 78 yX1_pondAt, Cond.instanceMethod yX1_pondAt, Cond.selects RX1 yX1_pondAt yX1_pondAt, Cond.code yX1_pondAt cX1_pondAt 3 (some .int)]
def wsX6_dig : List Cond := .code yX6_dig cX6_dig 4 (some .int) :: ((wsX6_dig_r1 ++ (wsX6_dig_r2 ++ (wsX6_dig_r3 ++ wsX6_dig_r4))) ++ wsX60 ++ wsX10 ++ wsX00 ++ (vx_atS RX6 253 "java/lang/IndexOutOfBoundsException" ["java/lang/RuntimeException", "java/lang/Exception"]).filter goodWord ++ (vx_atS RX6 98 "java/lang/IllegalStateException" ["java/lang/RuntimeException", "java/lang/Exception"]).filter goodWord)
def wsX6_wall_r1 : List Cond := [Cond.fieldLink RX6 10 "MoonGate" "garden" "LMoonGate$Garden;", Cond.fieldLink RX6 40 "MoonGate" "now" "LMoonGate$Course;", Cond.fieldLink RX6 76 "MoonGate$Course" "coins" "I", Cond.methodLink RX6 54 yX6_checkPlace, Cond.instanceMethod yX6_checkPlace, Cond.selects RX6 yX6_checkPlace yX6_checkPlace, Cond.initialized RX6, Cond.code yX6_checkPlace cX6_checkPlace 3 none, Cond.classLink RX6 249 "java/lang/IndexOutOfBoundsException", Cond.initialized "java/lang/IndexOutOfBoundsException", Cond.methodLink RX6 336 yX1_isInside, Cond.static yX1_isInside, Cond.initialized RX1, Cond.code yX1_isInside cX1_isInside 2 (some .boolean), Cond.methodLink RX6 61 yX1_numberOf, Cond.static yX1_numberOf, Cond.code yX1_numberOf cX1_numberOf 2 (some .int), Cond.methodLink RX6 65 yX6_checkBare, Cond.instanceMethod yX6_checkBare, Cond.selects RX6 yX6_checkBare yX6_checkBare, Cond.code yX6_checkBare cX6_checkBare 2 none, Cond.classLink RX6 94 "java/lang/IllegalStateException", Cond.initialized "java/lang/IllegalStateException", Cond.methodLink RX6 90 yX1_isBare]
def wsX6_wall_r2 : List Cond := [Cond.instanceMethod yX1_isBare, Cond.selects RX1 yX1_isBare yX1_isBare, Cond.code yX1_isBare cX1_isBare 2 (some .boolean), Cond.methodLink RX1 61 yX1_kindAt, Cond.instanceMethod yX1_kindAt, Cond.selects RX1 yX1_kindAt yX1_kindAt, Cond.code yX1_kindAt cX1_kindAt 2 (some .int), Cond.fieldLink RX1 11 "MoonGate$Garden" "kinds" "[I", Cond.methodLink RX1 40 yX1_isPlace, Cond.static yX1_isPlace, Cond.code yX1_isPlace cX1_isPlace 1 (some .boolean), Cond.methodLink RX6 69 yX6_spend, Cond.instanceMethod yX6_spend, Cond.selects RX6 yX6_spend yX6_spend, Cond.code yX6_spend cX6_spend 2 none, Cond.methodLink RX6 87 yX1_setWall, Cond.instanceMethod yX1_setWall, Cond.selects RX1 yX1_setWall yX1_setWall, Cond.code yX1_setWall cX1_setWall 2 none, Cond.methodLink RX1 68 yX1_setCell, Cond.instanceMethod yX1_setCell, Cond.selects RX1 yX1_setCell yX1_setCell, Cond.code yX1_setCell cX1_setCell 5 none, Cond.fieldLink RX1 15 "MoonGate$Garden" "shapes" "[I"]
def wsX6_wall_r3 : List Cond := [Cond.fieldLink RX1 18 "MoonGate$Garden" "sizes" "[I"]
def wsX6_wall : List Cond := .code yX6_wall cX6_wall 4 (some .int) :: ((wsX6_wall_r1 ++ (wsX6_wall_r2 ++ wsX6_wall_r3)) ++ wsX60 ++ wsX00 ++ wsX10 ++ (vx_atS RX6 253 "java/lang/IndexOutOfBoundsException" ["java/lang/RuntimeException", "java/lang/Exception"]).filter goodWord ++ (vx_atS RX6 98 "java/lang/IllegalStateException" ["java/lang/RuntimeException", "java/lang/Exception"]).filter goodWord)
def wsX6_clear_r1 : List Cond := [Cond.classLink RX6 94 "java/lang/IllegalStateException", Cond.initialized "java/lang/IllegalStateException", Cond.fieldLink RX6 10 "MoonGate" "garden" "LMoonGate$Garden;", Cond.fieldLink RX6 40 "MoonGate" "now" "LMoonGate$Course;", Cond.fieldLink RX6 76 "MoonGate$Course" "coins" "I", Cond.methodLink RX6 54 yX6_checkPlace, Cond.instanceMethod yX6_checkPlace, Cond.selects RX6 yX6_checkPlace yX6_checkPlace, Cond.initialized RX6, Cond.code yX6_checkPlace cX6_checkPlace 3 none, Cond.classLink RX6 249 "java/lang/IndexOutOfBoundsException", Cond.initialized "java/lang/IndexOutOfBoundsException", Cond.methodLink RX6 336 yX1_isInside, Cond.static yX1_isInside, Cond.initialized RX1, Cond.code yX1_isInside cX1_isInside 2 (some .boolean), Cond.methodLink RX6 61 yX1_numberOf, Cond.static yX1_numberOf, Cond.code yX1_numberOf cX1_numberOf 2 (some .int), Cond.methodLink RX6 90 yX1_isBare, Cond.instanceMethod yX1_isBare, Cond.selects RX1 yX1_isBare yX1_isBare, Cond.code yX1_isBare cX1_isBare 2 (some .boolean), Cond.methodLink RX1 61 yX1_kindAt]
def wsX6_clear_r2 : List Cond := [Cond.instanceMethod yX1_kindAt, Cond.selects RX1 yX1_kindAt yX1_kindAt, Cond.code yX1_kindAt cX1_kindAt 2 (some .int), Cond.fieldLink RX1 11 "MoonGate$Garden" "kinds" "[I", Cond.methodLink RX1 40 yX1_isPlace, Cond.static yX1_isPlace, Cond.code yX1_isPlace cX1_isPlace 1 (some .boolean), Cond.methodLink RX6 101 yX1_hasCarps, Cond.instanceMethod yX1_hasCarps, Cond.selects RX1 yX1_hasCarps yX1_hasCarps, Cond.code yX1_hasCarps cX1_hasCarps 2 (some .boolean), Cond.fieldLink RX1 21 "MoonGate$Garden" "carps" "[I", Cond.methodLink RX6 106 yX1_sizeAt, Cond.instanceMethod yX1_sizeAt, Cond.selects RX1 yX1_sizeAt yX1_sizeAt, Cond.code yX1_sizeAt cX1_sizeAt 2 (some .int), Cond.fieldLink RX1 18 "MoonGate$Garden" "sizes" "[I", Cond.methodLink RX6 109 yX1_setBare, Cond.instanceMethod yX1_setBare, Cond.selects RX1 yX1_setBare yX1_setBare, Cond.code yX1_setBare cX1_setBare 3 none, Cond.methodLink RX1 75 yX1_isPond, Cond.instanceMethod yX1_isPond, Cond.selects RX1 yX1_isPond yX1_isPond]
def wsX6_clear_r3 : List Cond := [Cond.code yX1_isPond cX1_isPond 2 (some .boolean), Cond.methodLink RX1 68 yX1_setCell, Cond.instanceMethod yX1_setCell, Cond.selects RX1 yX1_setCell yX1_setCell, Cond.code yX1_setCell cX1_setCell 5 none, Cond.fieldLink RX1 15 "MoonGate$Garden" "shapes" "[I", Cond.methodLink RX1 72 yX1_surveyPonds, Cond.instanceMethod yX1_surveyPonds, Cond.selects RX1 yX1_surveyPonds yX1_surveyPonds, Cond.code yX1_surveyPonds cX1_surveyPonds 2 none, Cond.fieldLink RX1 24 "MoonGate$Garden" "pondOf" "[I", Cond.fieldLink RX1 36 "MoonGate$Garden" "ponds" "I", Cond.methodLink RX1 87 yX1_isUnknownPond, Cond.instanceMethod yX1_isUnknownPond, Cond.selects RX1 yX1_isUnknownPond yX1_isUnknownPond, Cond.code yX1_isUnknownPond cX1_isUnknownPond 2 (some .boolean), Cond.methodLink RX1 90 yX1_surveyPond, Cond.instanceMethod yX1_surveyPond, Cond.selects RX1 yX1_surveyPond yX1_surveyPond, Cond.code yX1_surveyPond cX1_surveyPond 6 none, Cond.fieldLink RX1 27 "MoonGate$Garden" "pondCells" "[I", Cond.fieldLink RX1 30 "MoonGate$Garden" "pondCarps" "[I", Cond.fieldLink RX1 33 "MoonGate$Garden" "reached" "[I", Cond.methodLink RX1 94 yX1_reachOnFrom]
def wsX6_clear_r4 : List Cond := [Cond.instanceMethod yX1_reachOnFrom, Cond.selects RX1 yX1_reachOnFrom yX1_reachOnFrom, Cond.code yX1_reachOnFrom cX1_reachOnFrom 7 (some .int), Cond.methodLink RX1 98 yX1_beside, Cond.instanceMethod yX1_beside, Cond.selects RX1 yX1_beside yX1_beside, Cond.code yX1_beside cX1_beside 5 (some .int), Cond.fieldLink RX1 47 "MoonGate$Garden" "STEP_X" "[I", Cond.fieldLink RX1 50 "MoonGate$Garden" "STEP_Y" "[I", Cond.methodLink RX1 44 yX1_isDirection, Cond.static yX1_isDirection, Cond.code yX1_isDirection cX1_isDirection 1 (some .boolean), Cond.methodLink RX1 53 yX1_isInside, Cond.methodLink RX1 57 yX1_numberOf]
def wsX6_clear : List Cond := .code yX6_clear cX6_clear 4 (some .int) :: ((wsX6_clear_r1 ++ (wsX6_clear_r2 ++ (wsX6_clear_r3 ++ wsX6_clear_r4))) ++ wsX60 ++ wsX00 ++ wsX10 ++ (vx_atS RX6 98 "java/lang/IllegalStateException" ["java/lang/RuntimeException", "java/lang/Exception"]).filter goodWord ++ (vx_atS RX6 253 "java/lang/IndexOutOfBoundsException" ["java/lang/RuntimeException", "java/lang/Exception"]).filter goodWord)
def wsX6_checkWhat : List Cond := .code yX6_checkWhat cX6_checkWhat 3 none :: ([.classLink RX6 249 "java/lang/IndexOutOfBoundsException", .initialized "java/lang/IndexOutOfBoundsException"] ++ (vx_atS RX6 253 "java/lang/IndexOutOfBoundsException" ["java/lang/RuntimeException", "java/lang/Exception"]).filter goodWord)
def wsX6_cell_r1 : List Cond := [Cond.fieldLink RX6 10 "MoonGate" "garden" "LMoonGate$Garden;", Cond.methodLink RX6 54 yX6_checkPlace, Cond.instanceMethod yX6_checkPlace, Cond.selects RX6 yX6_checkPlace yX6_checkPlace, Cond.initialized RX6, Cond.code yX6_checkPlace cX6_checkPlace 3 none, Cond.classLink RX6 249 "java/lang/IndexOutOfBoundsException", Cond.initialized "java/lang/IndexOutOfBoundsException", Cond.methodLink RX6 336 yX1_isInside, Cond.static yX1_isInside, Cond.initialized RX1, Cond.code yX1_isInside cX1_isInside 2 (some .boolean), Cond.methodLink RX6 112 yX6_checkWhat, Cond.instanceMethod yX6_checkWhat, Cond.selects RX6 yX6_checkWhat yX6_checkWhat, Cond.code yX6_checkWhat cX6_checkWhat 3 none, Cond.methodLink RX6 61 yX1_numberOf, Cond.static yX1_numberOf, Cond.code yX1_numberOf cX1_numberOf 2 (some .int), Cond.methodLink RX6 115 yX1_kindAt, Cond.instanceMethod yX1_kindAt, Cond.selects RX1 yX1_kindAt yX1_kindAt, Cond.code yX1_kindAt cX1_kindAt 2 (some .int), Cond.fieldLink RX1 11 "MoonGate$Garden" "kinds" "[I"]
def wsX6_cell_r2 : List Cond := [Cond.methodLink RX1 40 yX1_isPlace, Cond.static yX1_isPlace, Cond.code yX1_isPlace cX1_isPlace 1 (some .boolean), Cond.methodLink RX6 118 yX1_shapeAt, Cond.instanceMethod yX1_shapeAt, Cond.selects RX1 yX1_shapeAt yX1_shapeAt, Cond.code yX1_shapeAt cX1_shapeAt 2 (some .int), Cond.fieldLink RX1 15 "MoonGate$Garden" "shapes" "[I", Cond.methodLink RX6 106 yX1_sizeAt, Cond.instanceMethod yX1_sizeAt, Cond.selects RX1 yX1_sizeAt yX1_sizeAt, Cond.code yX1_sizeAt cX1_sizeAt 2 (some .int), Cond.fieldLink RX1 18 "MoonGate$Garden" "sizes" "[I", Cond.methodLink RX6 83 yX1_cellsOfPondAt, Cond.instanceMethod yX1_cellsOfPondAt, Cond.selects RX1 yX1_cellsOfPondAt yX1_cellsOfPondAt, Cond.code yX1_cellsOfPondAt cX1_cellsOfPondAt 3 (some .int), Cond.fieldLink RX1 27 "MoonGate$Garden" "pondCells" "[I", Cond.methodLink RX1 78 yX1_pondAt, Cond.instanceMethod yX1_pondAt, Cond.selects RX1 yX1_pondAt yX1_pondAt, Cond.code yX1_pondAt cX1_pondAt 3 (some .int), Cond.fieldLink RX1 24 "MoonGate$Garden" "pondOf" "[I", Cond.methodLink RX6 121 yX1_carpsOfPondAt]
def wsX6_cell_r3 : List Cond := [Cond.instanceMethod yX1_carpsOfPondAt, Cond.selects RX1 yX1_carpsOfPondAt yX1_carpsOfPondAt, Cond.code yX1_carpsOfPondAt cX1_carpsOfPondAt 3 (some .int), Cond.fieldLink RX1 30 "MoonGate$Garden" "pondCarps" "[I"]
def wsX6_cell : List Cond := .code yX6_cell cX6_cell 5 (some .int) :: ((wsX6_cell_r1 ++ (wsX6_cell_r2 ++ wsX6_cell_r3)) ++ wsX60 ++ wsX10 ++ (vx_atS RX6 253 "java/lang/IndexOutOfBoundsException" ["java/lang/RuntimeException", "java/lang/Exception"]).filter goodWord)
def wsX6_carp_r1 : List Cond := [Cond.classLink RX6 94 "java/lang/IllegalStateException", Cond.initialized "java/lang/IllegalStateException", Cond.fieldLink RX6 10 "MoonGate" "garden" "LMoonGate$Garden;", Cond.fieldLink RX6 19 "MoonGate" "shoal" "LMoonGate$Shoal;", Cond.fieldLink RX6 129 "MoonGate$Shoal" "came" "I", Cond.fieldLink RX6 40 "MoonGate" "now" "LMoonGate$Course;", Cond.methodLink RX6 54 yX6_checkPlace, Cond.instanceMethod yX6_checkPlace, Cond.selects RX6 yX6_checkPlace yX6_checkPlace, Cond.initialized RX6, Cond.code yX6_checkPlace cX6_checkPlace 3 none, Cond.classLink RX6 249 "java/lang/IndexOutOfBoundsException", Cond.initialized "java/lang/IndexOutOfBoundsException", Cond.methodLink RX6 336 yX1_isInside, Cond.static yX1_isInside, Cond.initialized RX1, Cond.code yX1_isInside cX1_isInside 2 (some .boolean), Cond.methodLink RX6 61 yX1_numberOf, Cond.static yX1_numberOf, Cond.code yX1_numberOf cX1_numberOf 2 (some .int), Cond.methodLink RX6 124 yX1_isPond, Cond.instanceMethod yX1_isPond, Cond.selects RX1 yX1_isPond yX1_isPond, Cond.code yX1_isPond cX1_isPond 2 (some .boolean)]
def wsX6_carp_r2 : List Cond := [Cond.methodLink RX1 61 yX1_kindAt, Cond.instanceMethod yX1_kindAt, Cond.selects RX1 yX1_kindAt yX1_kindAt, Cond.code yX1_kindAt cX1_kindAt 2 (some .int), Cond.fieldLink RX1 11 "MoonGate$Garden" "kinds" "[I", Cond.methodLink RX1 40 yX1_isPlace, Cond.static yX1_isPlace, Cond.code yX1_isPlace cX1_isPlace 1 (some .boolean), Cond.methodLink RX6 69 yX6_spend, Cond.instanceMethod yX6_spend, Cond.selects RX6 yX6_spend yX6_spend, Cond.code yX6_spend cX6_spend 2 none, Cond.fieldLink RX6 76 "MoonGate$Course" "coins" "I", Cond.methodLink RX6 134 yX4_add, Cond.instanceMethod yX4_add, Cond.selects RX4 yX4_add yX4_add, Cond.initialized RX4, Cond.code yX4_add cX4_add 3 (some .int), Cond.fieldLink RX4 19 "MoonGate$Shoal" "came" "I", Cond.fieldLink RX4 9 "MoonGate$Shoal" "places" "[I", Cond.fieldLink RX4 15 "MoonGate$Shoal" "sold" "[Z", Cond.methodLink RX6 137 yX0_setCarpSize, Cond.instanceMethod yX0_setCarpSize, Cond.selects RX0 yX0_setCarpSize yX0_setCarpSize]
def wsX6_carp_r3 : List Cond := [Cond.initialized RX0, Cond.code yX0_setCarpSize cX0_setCarpSize 3 none, Cond.fieldLink RX0 18 "MoonGate$Course" "carpSizes" "[I", Cond.methodLink RX0 25 Lib.Math.min.name, Cond.static Lib.Math.min.name, Cond.initialized "java/lang/Math", Cond.code Lib.Math.min.name Lib.Math.min.code 2 (some .int), Cond.methodLink RX0 31 Lib.Math.max.name, Cond.static Lib.Math.max.name, Cond.code Lib.Math.max.name Lib.Math.max.code 2 (some .int), Cond.methodLink RX6 140 yX1_changeCarps, Cond.instanceMethod yX1_changeCarps, Cond.selects RX1 yX1_changeCarps yX1_changeCarps, Cond.code yX1_changeCarps cX1_changeCarps 4 none, Cond.fieldLink RX1 21 "MoonGate$Garden" "carps" "[I", Cond.fieldLink RX1 30 "MoonGate$Garden" "pondCarps" "[I", Cond.methodLink RX1 78 yX1_pondAt, Cond.instanceMethod yX1_pondAt, Cond.selects RX1 yX1_pondAt yX1_pondAt, Cond.code yX1_pondAt cX1_pondAt 3 (some .int), Cond.fieldLink RX1 24 "MoonGate$Garden" "pondOf" "[I"]
def wsX6_carp : List Cond := .code yX6_carp cX6_carp 5 (some .int) :: ((wsX6_carp_r1 ++ (wsX6_carp_r2 ++ wsX6_carp_r3)) ++ wsX60 ++ wsX40 ++ wsX10 ++ wsX00 ++ (vx_atS RX6 98 "java/lang/IllegalStateException" ["java/lang/RuntimeException", "java/lang/Exception"]).filter goodWord ++ (vx_atS RX6 253 "java/lang/IndexOutOfBoundsException" ["java/lang/RuntimeException", "java/lang/Exception"]).filter goodWord)
def wsX6_checkCarp : List Cond := .code yX6_checkCarp cX6_checkCarp 2 none :: ([.classLink RX6 249 "java/lang/IndexOutOfBoundsException", .initialized "java/lang/IndexOutOfBoundsException", .fieldLink RX6 19 "MoonGate" "shoal" "LMoonGate$Shoal;", .fieldLink RX6 129 "MoonGate$Shoal" "came" "I"] ++ wsX60 ++ wsX40 ++ (vx_atS RX6 253 "java/lang/IndexOutOfBoundsException" ["java/lang/RuntimeException", "java/lang/Exception"]).filter goodWord)
def wsX6_sell_r1 : List Cond := [Cond.classLink RX6 94 "java/lang/IllegalStateException", Cond.initialized "java/lang/IllegalStateException", Cond.fieldLink RX6 19 "MoonGate" "shoal" "LMoonGate$Shoal;", Cond.fieldLink RX6 10 "MoonGate" "garden" "LMoonGate$Garden;", Cond.fieldLink RX6 40 "MoonGate" "now" "LMoonGate$Course;", Cond.fieldLink RX6 76 "MoonGate$Course" "coins" "I", Cond.methodLink RX6 143 yX6_checkCarp, Cond.instanceMethod yX6_checkCarp, Cond.selects RX6 yX6_checkCarp yX6_checkCarp, Cond.initialized RX6, Cond.code yX6_checkCarp cX6_checkCarp 2 none, Cond.classLink RX6 249 "java/lang/IndexOutOfBoundsException", Cond.initialized "java/lang/IndexOutOfBoundsException", Cond.fieldLink RX6 129 "MoonGate$Shoal" "came" "I", Cond.methodLink RX6 146 yX4_isHere, Cond.instanceMethod yX4_isHere, Cond.selects RX4 yX4_isHere yX4_isHere, Cond.initialized RX4, Cond.code yX4_isHere cX4_isHere 2 (some .boolean), Cond.fieldLink RX4 15 "MoonGate$Shoal" "sold" "[Z", Cond.methodLink RX4 23 yX4_isNumber, Cond.instanceMethod yX4_isNumber, Cond.selects RX4 yX4_isNumber yX4_isNumber, Cond.code yX4_isNumber cX4_isNumber 2 (some .boolean)]
def wsX6_sell_r2 : List Cond := [Cond.fieldLink RX4 19 "MoonGate$Shoal" "came" "I", Cond.methodLink RX6 151 yX4_takeOut, Cond.instanceMethod yX4_takeOut, Cond.selects RX4 yX4_takeOut yX4_takeOut, Cond.code yX4_takeOut cX4_takeOut 2 none, Cond.methodLink RX6 154 yX4_placeOf, Cond.instanceMethod yX4_placeOf, Cond.selects RX4 yX4_placeOf yX4_placeOf, Cond.code yX4_placeOf cX4_placeOf 2 (some .int), Cond.fieldLink RX4 9 "MoonGate$Shoal" "places" "[I", Cond.methodLink RX6 140 yX1_changeCarps, Cond.instanceMethod yX1_changeCarps, Cond.selects RX1 yX1_changeCarps yX1_changeCarps, Cond.initialized RX1, Cond.code yX1_changeCarps cX1_changeCarps 4 none, Cond.fieldLink RX1 21 "MoonGate$Garden" "carps" "[I", Cond.fieldLink RX1 30 "MoonGate$Garden" "pondCarps" "[I", Cond.methodLink RX1 78 yX1_pondAt, Cond.instanceMethod yX1_pondAt, Cond.selects RX1 yX1_pondAt yX1_pondAt, Cond.code yX1_pondAt cX1_pondAt 3 (some .int), Cond.fieldLink RX1 24 "MoonGate$Garden" "pondOf" "[I", Cond.methodLink RX1 40 yX1_isPlace, Cond.static yX1_isPlace]
def wsX6_sell_r3 : List Cond := [Cond.code yX1_isPlace cX1_isPlace 1 (some .boolean), Cond.methodLink RX6 157 yX0_carpSize, Cond.instanceMethod yX0_carpSize, Cond.selects RX0 yX0_carpSize yX0_carpSize, Cond.initialized RX0, Cond.code yX0_carpSize cX0_carpSize 2 (some .int), Cond.fieldLink RX0 18 "MoonGate$Course" "carpSizes" "[I"]
def wsX6_sell : List Cond := .code yX6_sell cX6_sell 2 (some .int) :: ((wsX6_sell_r1 ++ (wsX6_sell_r2 ++ wsX6_sell_r3)) ++ wsX60 ++ wsX00 ++ wsX40 ++ wsX10 ++ (vx_atS RX6 98 "java/lang/IllegalStateException" ["java/lang/RuntimeException", "java/lang/Exception"]).filter goodWord ++ (vx_atS RX6 253 "java/lang/IndexOutOfBoundsException" ["java/lang/RuntimeException", "java/lang/Exception"]).filter goodWord)
def wsX6_rankOf : List Cond := .code yX6_rankOf cX6_rankOf 4 (some .int) :: ([.fieldLink RX6 19 "MoonGate" "shoal" "LMoonGate$Shoal;", .fieldLink RX6 129 "MoonGate$Shoal" "came" "I", .fieldLink RX6 40 "MoonGate" "now" "LMoonGate$Course;", .methodLink RX6 146 yX4_isHere, .instanceMethod yX4_isHere, .selects RX4 yX4_isHere yX4_isHere, .initialized RX4, .code yX4_isHere cX4_isHere 2 (some .boolean), .fieldLink RX4 15 "MoonGate$Shoal" "sold" "[Z", .methodLink RX4 23 yX4_isNumber, .instanceMethod yX4_isNumber, .selects RX4 yX4_isNumber yX4_isNumber, .code yX4_isNumber cX4_isNumber 2 (some .boolean), .fieldLink RX4 19 "MoonGate$Shoal" "came" "I", .methodLink RX6 157 yX0_carpSize, .instanceMethod yX0_carpSize, .selects RX0 yX0_carpSize yX0_carpSize, .initialized RX0, .code yX0_carpSize cX0_carpSize 2 (some .int), .fieldLink RX0 18 "MoonGate$Course" "carpSizes" "[I"] ++ wsX60 ++ wsX40 ++ wsX00)
def wsX6_told_r1 : List Cond := [Cond.fieldLink RX6 19 "MoonGate" "shoal" "LMoonGate$Shoal;", Cond.fieldLink RX6 40 "MoonGate" "now" "LMoonGate$Course;", Cond.methodLink RX6 143 yX6_checkCarp, Cond.instanceMethod yX6_checkCarp, Cond.selects RX6 yX6_checkCarp yX6_checkCarp, Cond.initialized RX6, Cond.code yX6_checkCarp cX6_checkCarp 2 none, Cond.classLink RX6 249 "java/lang/IndexOutOfBoundsException", Cond.initialized "java/lang/IndexOutOfBoundsException", Cond.fieldLink RX6 129 "MoonGate$Shoal" "came" "I", Cond.methodLink RX6 112 yX6_checkWhat, Cond.instanceMethod yX6_checkWhat, Cond.selects RX6 yX6_checkWhat yX6_checkWhat, Cond.code yX6_checkWhat cX6_checkWhat 3 none, Cond.methodLink RX6 154 yX4_placeOf, Cond.instanceMethod yX4_placeOf, Cond.selects RX4 yX4_placeOf yX4_placeOf, Cond.initialized RX4, Cond.code yX4_placeOf cX4_placeOf 2 (some .int), Cond.fieldLink RX4 9 "MoonGate$Shoal" "places" "[I", Cond.methodLink RX4 23 yX4_isNumber, Cond.instanceMethod yX4_isNumber, Cond.selects RX4 yX4_isNumber yX4_isNumber, Cond.code yX4_isNumber cX4_isNumber 2 (some .boolean)]
def wsX6_told_r2 : List Cond := [Cond.fieldLink RX4 19 "MoonGate$Shoal" "came" "I", Cond.methodLink RX6 157 yX0_carpSize, Cond.instanceMethod yX0_carpSize, Cond.selects RX0 yX0_carpSize yX0_carpSize, Cond.initialized RX0, Cond.code yX0_carpSize cX0_carpSize 2 (some .int), Cond.fieldLink RX0 18 "MoonGate$Course" "carpSizes" "[I", Cond.methodLink RX6 146 yX4_isHere, Cond.instanceMethod yX4_isHere, Cond.selects RX4 yX4_isHere yX4_isHere, Cond.code yX4_isHere cX4_isHere 2 (some .boolean), Cond.fieldLink RX4 15 "MoonGate$Shoal" "sold" "[Z", Cond.methodLink RX6 160 yX6_rankOf, Cond.instanceMethod yX6_rankOf, Cond.selects RX6 yX6_rankOf yX6_rankOf, Cond.code yX6_rankOf cX6_rankOf 4 (some .int)]
def wsX6_told : List Cond := .code yX6_told cX6_told 3 (some .int) :: ((wsX6_told_r1 ++ wsX6_told_r2) ++ wsX60 ++ wsX40 ++ wsX00 ++ (vx_atS RX6 253 "java/lang/IndexOutOfBoundsException" ["java/lang/RuntimeException", "java/lang/Exception"]).filter goodWord)
def wsX6_gate_r1 : List Cond := [Cond.classLink RX6 166 "java/lang/IllegalArgumentException", Cond.initialized "java/lang/IllegalArgumentException", Cond.classLink RX6 94 "java/lang/IllegalStateException", Cond.initialized "java/lang/IllegalStateException", Cond.fieldLink RX6 26 "MoonGate" "gates" "LMoonGate$Gates;", Cond.fieldLink RX6 171 "MoonGate$Gates" "many" "I", Cond.methodLink RX6 54 yX6_checkPlace, Cond.instanceMethod yX6_checkPlace, Cond.selects RX6 yX6_checkPlace yX6_checkPlace, Cond.initialized RX6, Cond.code yX6_checkPlace cX6_checkPlace 3 none, Cond.classLink RX6 249 "java/lang/IndexOutOfBoundsException", Cond.initialized "java/lang/IndexOutOfBoundsException", Cond.methodLink RX6 336 yX1_isInside, Cond.static yX1_isInside, Cond.initialized RX1, Cond.code yX1_isInside cX1_isInside 2 (some .boolean), Cond.methodLink RX6 163 yX1_isDirection, Cond.static yX1_isDirection, Cond.code yX1_isDirection cX1_isDirection 1 (some .boolean), Cond.methodLink RX6 61 yX1_numberOf, Cond.static yX1_numberOf, Cond.code yX1_numberOf cX1_numberOf 2 (some .int), Cond.methodLink RX6 176 yX2_add]
def wsX6_gate_r2 : List Cond := [Cond.instanceMethod yX2_add, Cond.selects RX2 yX2_add yX2_add, Cond.initialized RX2, Cond.code yX2_add cX2_add 4 (some .int), Cond.fieldLink RX2 18 "MoonGate$Gates" "many" "I", Cond.fieldLink RX2 9 "MoonGate$Gates" "places" "[I", Cond.fieldLink RX2 15 "MoonGate$Gates" "directions" "[I"]
def wsX6_gate : List Cond := .code yX6_gate cX6_gate 4 (some .int) :: ((wsX6_gate_r1 ++ wsX6_gate_r2) ++ wsX60 ++ wsX20 ++ (vx_atS RX6 170 "java/lang/IllegalArgumentException" ["java/lang/RuntimeException", "java/lang/Exception"]).filter goodWord ++ (vx_atS RX6 98 "java/lang/IllegalStateException" ["java/lang/RuntimeException", "java/lang/Exception"]).filter goodWord ++ (vx_atS RX6 253 "java/lang/IndexOutOfBoundsException" ["java/lang/RuntimeException", "java/lang/Exception"]).filter goodWord)
def wsX6_checkGate : List Cond := .code yX6_checkGate cX6_checkGate 2 none :: ([.classLink RX6 249 "java/lang/IndexOutOfBoundsException", .initialized "java/lang/IndexOutOfBoundsException", .fieldLink RX6 26 "MoonGate" "gates" "LMoonGate$Gates;", .fieldLink RX6 171 "MoonGate$Gates" "many" "I"] ++ wsX60 ++ wsX20 ++ (vx_atS RX6 253 "java/lang/IndexOutOfBoundsException" ["java/lang/RuntimeException", "java/lang/Exception"]).filter goodWord)
def wsX6_show_r1 : List Cond := [Cond.fieldLink RX6 50 "MoonGate" "view" "LMoonGate$View;", Cond.fieldLink RX6 185 "MoonGate$View" "cells" "I", Cond.fieldLink RX6 10 "MoonGate" "garden" "LMoonGate$Garden;", Cond.fieldLink RX6 19 "MoonGate" "shoal" "LMoonGate$Shoal;", Cond.methodLink RX6 115 yX1_kindAt, Cond.instanceMethod yX1_kindAt, Cond.selects RX1 yX1_kindAt yX1_kindAt, Cond.initialized RX1, Cond.code yX1_kindAt cX1_kindAt 2 (some .int), Cond.fieldLink RX1 11 "MoonGate$Garden" "kinds" "[I", Cond.methodLink RX1 40 yX1_isPlace, Cond.static yX1_isPlace, Cond.code yX1_isPlace cX1_isPlace 1 (some .boolean), Cond.methodLink RX6 118 yX1_shapeAt, Cond.instanceMethod yX1_shapeAt, Cond.selects RX1 yX1_shapeAt yX1_shapeAt, Cond.code yX1_shapeAt cX1_shapeAt 2 (some .int), Cond.fieldLink RX1 15 "MoonGate$Garden" "shapes" "[I", Cond.methodLink RX6 106 yX1_sizeAt, Cond.instanceMethod yX1_sizeAt, Cond.selects RX1 yX1_sizeAt yX1_sizeAt, Cond.code yX1_sizeAt cX1_sizeAt 2 (some .int), Cond.fieldLink RX1 18 "MoonGate$Garden" "sizes" "[I", Cond.methodLink RX6 327 yX5_addRock]
def wsX6_show_r2 : List Cond := [Cond.instanceMethod yX5_addRock, Cond.selects RX5 yX5_addRock yX5_addRock, Cond.initialized RX5, Cond.code yX5_addRock cX5_addRock 4 none, Cond.fieldLink RX5 13 "MoonGate$View" "rocks" "I", Cond.fieldLink RX5 19 "MoonGate$View" "beauty" "I", Cond.fieldLink RX5 22 "MoonGate$View" "shapesShown" "I", Cond.methodLink RX6 330 yX4_sizesIn, Cond.instanceMethod yX4_sizesIn, Cond.selects RX4 yX4_sizesIn yX4_sizesIn, Cond.initialized RX4, Cond.code yX4_sizesIn cX4_sizesIn 5 (some .int), Cond.fieldLink RX4 19 "MoonGate$Shoal" "came" "I", Cond.fieldLink RX4 9 "MoonGate$Shoal" "places" "[I", Cond.fieldLink RX4 15 "MoonGate$Shoal" "sold" "[Z", Cond.methodLink RX4 30 yX0_carpSize, Cond.instanceMethod yX0_carpSize, Cond.selects RX0 yX0_carpSize yX0_carpSize, Cond.initialized RX0, Cond.code yX0_carpSize cX0_carpSize 2 (some .int), Cond.fieldLink RX0 18 "MoonGate$Course" "carpSizes" "[I", Cond.methodLink RX6 333 yX5_addPondCell, Cond.instanceMethod yX5_addPondCell, Cond.selects RX5 yX5_addPondCell yX5_addPondCell]
def wsX6_show_r3 : List Cond := [Cond.code yX5_addPondCell cX5_addPondCell 2 none, Cond.fieldLink RX5 16 "MoonGate$View" "pondCells" "I"]
def wsX6_show : List Cond := .code yX6_show cX6_show 4 none :: ((wsX6_show_r1 ++ (wsX6_show_r2 ++ wsX6_show_r3)) ++ wsX60 ++ wsX50 ++ wsX10 ++ wsX40 ++ wsX00)
def wsX6_look_r1 : List Cond := [Cond.fieldLink RX6 50 "MoonGate" "view" "LMoonGate$View;", Cond.fieldLink RX6 26 "MoonGate" "gates" "LMoonGate$Gates;", Cond.fieldLink RX6 10 "MoonGate" "garden" "LMoonGate$Garden;", Cond.fieldLink RX6 194 "MoonGate$View" "beauty" "I", Cond.methodLink RX6 307 yX5_begin, Cond.instanceMethod yX5_begin, Cond.selects RX5 yX5_begin yX5_begin, Cond.initialized RX5, Cond.code yX5_begin cX5_begin 1 none, Cond.fieldLink RX5 7 "MoonGate$View" "cells" "I", Cond.fieldLink RX5 13 "MoonGate$View" "rocks" "I", Cond.fieldLink RX5 16 "MoonGate$View" "pondCells" "I", Cond.fieldLink RX5 19 "MoonGate$View" "beauty" "I", Cond.fieldLink RX5 22 "MoonGate$View" "shapesShown" "I", Cond.methodLink RX6 310 yX2_directionOf, Cond.instanceMethod yX2_directionOf, Cond.selects RX2 yX2_directionOf yX2_directionOf, Cond.initialized RX2, Cond.code yX2_directionOf cX2_directionOf 2 (some .int), Cond.fieldLink RX2 15 "MoonGate$Gates" "directions" "[I", Cond.methodLink RX2 22 yX2_isNumber, Cond.instanceMethod yX2_isNumber, Cond.selects RX2 yX2_isNumber yX2_isNumber, Cond.code yX2_isNumber cX2_isNumber 2 (some .boolean)]
def wsX6_look_r2 : List Cond := [Cond.fieldLink RX2 18 "MoonGate$Gates" "many" "I", Cond.methodLink RX6 313 yX2_placeOf, Cond.instanceMethod yX2_placeOf, Cond.selects RX2 yX2_placeOf yX2_placeOf, Cond.code yX2_placeOf cX2_placeOf 2 (some .int), Cond.fieldLink RX2 9 "MoonGate$Gates" "places" "[I", Cond.methodLink RX6 314 yX1_beside, Cond.instanceMethod yX1_beside, Cond.selects RX1 yX1_beside yX1_beside, Cond.initialized RX1, Cond.code yX1_beside cX1_beside 5 (some .int), Cond.fieldLink RX1 47 "MoonGate$Garden" "STEP_X" "[I", Cond.fieldLink RX1 50 "MoonGate$Garden" "STEP_Y" "[I", Cond.methodLink RX1 40 yX1_isPlace, Cond.static yX1_isPlace, Cond.code yX1_isPlace cX1_isPlace 1 (some .boolean), Cond.methodLink RX1 44 yX1_isDirection, Cond.static yX1_isDirection, Cond.code yX1_isDirection cX1_isDirection 1 (some .boolean), Cond.methodLink RX1 53 yX1_isInside, Cond.static yX1_isInside, Cond.code yX1_isInside cX1_isInside 2 (some .boolean), Cond.methodLink RX1 57 yX1_numberOf, Cond.static yX1_numberOf]
def wsX6_look_r3 : List Cond := [Cond.code yX1_numberOf cX1_numberOf 2 (some .int), Cond.methodLink RX6 317 yX1_isWall, Cond.instanceMethod yX1_isWall, Cond.selects RX1 yX1_isWall yX1_isWall, Cond.code yX1_isWall cX1_isWall 2 (some .boolean), Cond.methodLink RX1 61 yX1_kindAt, Cond.instanceMethod yX1_kindAt, Cond.selects RX1 yX1_kindAt yX1_kindAt, Cond.code yX1_kindAt cX1_kindAt 2 (some .int), Cond.fieldLink RX1 11 "MoonGate$Garden" "kinds" "[I", Cond.methodLink RX6 320 yX6_show, Cond.instanceMethod yX6_show, Cond.selects RX6 yX6_show yX6_show, Cond.initialized RX6, Cond.code yX6_show cX6_show 4 none, Cond.fieldLink RX6 185 "MoonGate$View" "cells" "I", Cond.fieldLink RX6 19 "MoonGate" "shoal" "LMoonGate$Shoal;", Cond.methodLink RX6 115 yX1_kindAt, Cond.methodLink RX6 118 yX1_shapeAt, Cond.instanceMethod yX1_shapeAt, Cond.selects RX1 yX1_shapeAt yX1_shapeAt, Cond.code yX1_shapeAt cX1_shapeAt 2 (some .int), Cond.fieldLink RX1 15 "MoonGate$Garden" "shapes" "[I", Cond.methodLink RX6 106 yX1_sizeAt]
def wsX6_look_r4 : List Cond := [Cond.instanceMethod yX1_sizeAt, Cond.selects RX1 yX1_sizeAt yX1_sizeAt, Cond.code yX1_sizeAt cX1_sizeAt 2 (some .int), Cond.fieldLink RX1 18 "MoonGate$Garden" "sizes" "[I", Cond.methodLink RX6 327 yX5_addRock, Cond.instanceMethod yX5_addRock, Cond.selects RX5 yX5_addRock yX5_addRock, Cond.code yX5_addRock cX5_addRock 4 none, Cond.methodLink RX6 330 yX4_sizesIn, Cond.instanceMethod yX4_sizesIn, Cond.selects RX4 yX4_sizesIn yX4_sizesIn, Cond.initialized RX4, Cond.code yX4_sizesIn cX4_sizesIn 5 (some .int), Cond.fieldLink RX4 19 "MoonGate$Shoal" "came" "I", Cond.fieldLink RX4 9 "MoonGate$Shoal" "places" "[I", Cond.fieldLink RX4 15 "MoonGate$Shoal" "sold" "[Z", Cond.methodLink RX4 30 yX0_carpSize, Cond.instanceMethod yX0_carpSize, Cond.selects RX0 yX0_carpSize yX0_carpSize, Cond.initialized RX0, Cond.code yX0_carpSize cX0_carpSize 2 (some .int), Cond.fieldLink RX0 18 "MoonGate$Course" "carpSizes" "[I", Cond.methodLink RX6 333 yX5_addPondCell, Cond.instanceMethod yX5_addPondCell]
def wsX6_look_r5 : List Cond := [Cond.selects RX5 yX5_addPondCell yX5_addPondCell, Cond.code yX5_addPondCell cX5_addPondCell 2 none, Cond.methodLink RX6 324 yX1_isGreatRock, Cond.instanceMethod yX1_isGreatRock, Cond.selects RX1 yX1_isGreatRock yX1_isGreatRock, Cond.code yX1_isGreatRock cX1_isGreatRock 2 (some .boolean), Cond.methodLink RX1 65 yX1_sizeAt]
def wsX6_look : List Cond := .code yX6_look cX6_look 6 (some .int) :: ((wsX6_look_r1 ++ (wsX6_look_r2 ++ (wsX6_look_r3 ++ (wsX6_look_r4 ++ wsX6_look_r5)))) ++ wsX60 ++ wsX50 ++ wsX20 ++ wsX10 ++ wsX40 ++ wsX00)
def wsX6_about_r1 : List Cond := [Cond.fieldLink RX6 40 "MoonGate" "now" "LMoonGate$Course;", Cond.fieldLink RX6 50 "MoonGate" "view" "LMoonGate$View;", Cond.fieldLink RX6 185 "MoonGate$View" "cells" "I", Cond.fieldLink RX6 188 "MoonGate$View" "rocks" "I", Cond.fieldLink RX6 191 "MoonGate$View" "pondCells" "I", Cond.fieldLink RX6 194 "MoonGate$View" "beauty" "I", Cond.fieldLink RX6 33 "MoonGate" "poets" "LMoonGate$Poets;", Cond.methodLink RX6 178 yX6_checkGate, Cond.instanceMethod yX6_checkGate, Cond.selects RX6 yX6_checkGate yX6_checkGate, Cond.initialized RX6, Cond.code yX6_checkGate cX6_checkGate 2 none, Cond.classLink RX6 249 "java/lang/IndexOutOfBoundsException", Cond.initialized "java/lang/IndexOutOfBoundsException", Cond.fieldLink RX6 26 "MoonGate" "gates" "LMoonGate$Gates;", Cond.fieldLink RX6 171 "MoonGate$Gates" "many" "I", Cond.methodLink RX6 112 yX6_checkWhat, Cond.instanceMethod yX6_checkWhat, Cond.selects RX6 yX6_checkWhat yX6_checkWhat, Cond.code yX6_checkWhat cX6_checkWhat 3 none, Cond.methodLink RX6 181 yX6_look, Cond.instanceMethod yX6_look, Cond.selects RX6 yX6_look yX6_look, Cond.code yX6_look cX6_look 6 (some .int)]
def wsX6_about_r2 : List Cond := [Cond.fieldLink RX6 10 "MoonGate" "garden" "LMoonGate$Garden;", Cond.methodLink RX6 307 yX5_begin, Cond.instanceMethod yX5_begin, Cond.selects RX5 yX5_begin yX5_begin, Cond.initialized RX5, Cond.code yX5_begin cX5_begin 1 none, Cond.fieldLink RX5 7 "MoonGate$View" "cells" "I", Cond.fieldLink RX5 13 "MoonGate$View" "rocks" "I", Cond.fieldLink RX5 16 "MoonGate$View" "pondCells" "I", Cond.fieldLink RX5 19 "MoonGate$View" "beauty" "I", Cond.fieldLink RX5 22 "MoonGate$View" "shapesShown" "I", Cond.methodLink RX6 310 yX2_directionOf, Cond.instanceMethod yX2_directionOf, Cond.selects RX2 yX2_directionOf yX2_directionOf, Cond.initialized RX2, Cond.code yX2_directionOf cX2_directionOf 2 (some .int), Cond.fieldLink RX2 15 "MoonGate$Gates" "directions" "[I", Cond.methodLink RX2 22 yX2_isNumber, Cond.instanceMethod yX2_isNumber, Cond.selects RX2 yX2_isNumber yX2_isNumber, Cond.code yX2_isNumber cX2_isNumber 2 (some .boolean), Cond.fieldLink RX2 18 "MoonGate$Gates" "many" "I", Cond.methodLink RX6 313 yX2_placeOf, Cond.instanceMethod yX2_placeOf]
def wsX6_about_r3 : List Cond := [Cond.selects RX2 yX2_placeOf yX2_placeOf, Cond.code yX2_placeOf cX2_placeOf 2 (some .int), Cond.fieldLink RX2 9 "MoonGate$Gates" "places" "[I", Cond.methodLink RX6 314 yX1_beside, Cond.instanceMethod yX1_beside, Cond.selects RX1 yX1_beside yX1_beside, Cond.initialized RX1, Cond.code yX1_beside cX1_beside 5 (some .int), Cond.fieldLink RX1 47 "MoonGate$Garden" "STEP_X" "[I", Cond.fieldLink RX1 50 "MoonGate$Garden" "STEP_Y" "[I", Cond.methodLink RX1 40 yX1_isPlace, Cond.static yX1_isPlace, Cond.code yX1_isPlace cX1_isPlace 1 (some .boolean), Cond.methodLink RX1 44 yX1_isDirection, Cond.static yX1_isDirection, Cond.code yX1_isDirection cX1_isDirection 1 (some .boolean), Cond.methodLink RX1 53 yX1_isInside, Cond.static yX1_isInside, Cond.code yX1_isInside cX1_isInside 2 (some .boolean), Cond.methodLink RX1 57 yX1_numberOf, Cond.static yX1_numberOf, Cond.code yX1_numberOf cX1_numberOf 2 (some .int), Cond.methodLink RX6 317 yX1_isWall, Cond.instanceMethod yX1_isWall]
def wsX6_about_r4 : List Cond := [Cond.selects RX1 yX1_isWall yX1_isWall, Cond.code yX1_isWall cX1_isWall 2 (some .boolean), Cond.methodLink RX1 61 yX1_kindAt, Cond.instanceMethod yX1_kindAt, Cond.selects RX1 yX1_kindAt yX1_kindAt, Cond.code yX1_kindAt cX1_kindAt 2 (some .int), Cond.fieldLink RX1 11 "MoonGate$Garden" "kinds" "[I", Cond.methodLink RX6 320 yX6_show, Cond.instanceMethod yX6_show, Cond.selects RX6 yX6_show yX6_show, Cond.code yX6_show cX6_show 4 none, Cond.fieldLink RX6 19 "MoonGate" "shoal" "LMoonGate$Shoal;", Cond.methodLink RX6 115 yX1_kindAt, Cond.methodLink RX6 118 yX1_shapeAt, Cond.instanceMethod yX1_shapeAt, Cond.selects RX1 yX1_shapeAt yX1_shapeAt, Cond.code yX1_shapeAt cX1_shapeAt 2 (some .int), Cond.fieldLink RX1 15 "MoonGate$Garden" "shapes" "[I", Cond.methodLink RX6 106 yX1_sizeAt, Cond.instanceMethod yX1_sizeAt, Cond.selects RX1 yX1_sizeAt yX1_sizeAt, Cond.code yX1_sizeAt cX1_sizeAt 2 (some .int), Cond.fieldLink RX1 18 "MoonGate$Garden" "sizes" "[I", Cond.methodLink RX6 327 yX5_addRock]
def wsX6_about_r5 : List Cond := [Cond.instanceMethod yX5_addRock, Cond.selects RX5 yX5_addRock yX5_addRock, Cond.code yX5_addRock cX5_addRock 4 none, Cond.methodLink RX6 330 yX4_sizesIn, Cond.instanceMethod yX4_sizesIn, Cond.selects RX4 yX4_sizesIn yX4_sizesIn, Cond.initialized RX4, Cond.code yX4_sizesIn cX4_sizesIn 5 (some .int), Cond.fieldLink RX4 19 "MoonGate$Shoal" "came" "I", Cond.fieldLink RX4 9 "MoonGate$Shoal" "places" "[I", Cond.fieldLink RX4 15 "MoonGate$Shoal" "sold" "[Z", Cond.methodLink RX4 30 yX0_carpSize, Cond.instanceMethod yX0_carpSize, Cond.selects RX0 yX0_carpSize yX0_carpSize, Cond.initialized RX0, Cond.code yX0_carpSize cX0_carpSize 2 (some .int), Cond.fieldLink RX0 18 "MoonGate$Course" "carpSizes" "[I", Cond.methodLink RX6 333 yX5_addPondCell, Cond.instanceMethod yX5_addPondCell, Cond.selects RX5 yX5_addPondCell yX5_addPondCell, Cond.code yX5_addPondCell cX5_addPondCell 2 none, Cond.methodLink RX6 324 yX1_isGreatRock, Cond.instanceMethod yX1_isGreatRock, Cond.selects RX1 yX1_isGreatRock yX1_isGreatRock]
def wsX6_about_r6 : List Cond := [Cond.code yX1_isGreatRock cX1_isGreatRock 2 (some .boolean), Cond.methodLink RX1 65 yX1_sizeAt, Cond.methodLink RX6 197 yX3_manyAt, Cond.instanceMethod yX3_manyAt, Cond.selects RX3 yX3_manyAt yX3_manyAt, Cond.initialized RX3, Cond.code yX3_manyAt cX3_manyAt 4 (some .int), Cond.fieldLink RX3 15 "MoonGate$Poets" "many" "I", Cond.methodLink RX3 23 yX3_gateOf, Cond.instanceMethod yX3_gateOf, Cond.selects RX3 yX3_gateOf yX3_gateOf, Cond.code yX3_gateOf cX3_gateOf 2 (some .int), Cond.fieldLink RX3 9 "MoonGate$Poets" "gatesOf" "[I", Cond.methodLink RX3 19 yX3_isNumber, Cond.instanceMethod yX3_isNumber, Cond.selects RX3 yX3_isNumber yX3_isNumber, Cond.code yX3_isNumber cX3_isNumber 2 (some .boolean)]
def wsX6_about : List Cond := .code yX6_about cX6_about 3 (some .int) :: ((wsX6_about_r1 ++ (wsX6_about_r2 ++ (wsX6_about_r3 ++ (wsX6_about_r4 ++ (wsX6_about_r5 ++ wsX6_about_r6))))) ++ wsX60 ++ wsX50 ++ wsX20 ++ wsX10 ++ wsX40 ++ wsX00 ++ wsX30 ++ (vx_atS RX6 253 "java/lang/IndexOutOfBoundsException" ["java/lang/RuntimeException", "java/lang/Exception"]).filter goodWord)
def wsX6_invite : List Cond := .code yX6_invite cX6_invite 2 (some .int) :: ([.classLink RX6 94 "java/lang/IllegalStateException", .initialized "java/lang/IllegalStateException", .fieldLink RX6 33 "MoonGate" "poets" "LMoonGate$Poets;", .fieldLink RX6 200 "MoonGate$Poets" "many" "I", .methodLink RX6 178 yX6_checkGate, .instanceMethod yX6_checkGate, .selects RX6 yX6_checkGate yX6_checkGate, .initialized RX6, .code yX6_checkGate cX6_checkGate 2 none, .classLink RX6 249 "java/lang/IndexOutOfBoundsException", .initialized "java/lang/IndexOutOfBoundsException", .fieldLink RX6 26 "MoonGate" "gates" "LMoonGate$Gates;", .fieldLink RX6 171 "MoonGate$Gates" "many" "I", .methodLink RX6 203 yX3_add, .instanceMethod yX3_add, .selects RX3 yX3_add yX3_add, .initialized RX3, .code yX3_add cX3_add 3 (some .int), .fieldLink RX3 15 "MoonGate$Poets" "many" "I", .fieldLink RX3 9 "MoonGate$Poets" "gatesOf" "[I"] ++ wsX60 ++ wsX30 ++ wsX20 ++ (vx_atS RX6 98 "java/lang/IllegalStateException" ["java/lang/RuntimeException", "java/lang/Exception"]).filter goodWord ++ (vx_atS RX6 253 "java/lang/IndexOutOfBoundsException" ["java/lang/RuntimeException", "java/lang/Exception"]).filter goodWord)
def wsX6_checkPoet : List Cond := .code yX6_checkPoet cX6_checkPoet 2 none :: ([.classLink RX6 249 "java/lang/IndexOutOfBoundsException", .initialized "java/lang/IndexOutOfBoundsException", .fieldLink RX6 33 "MoonGate" "poets" "LMoonGate$Poets;", .fieldLink RX6 200 "MoonGate$Poets" "many" "I"] ++ wsX60 ++ wsX30 ++ (vx_atS RX6 253 "java/lang/IndexOutOfBoundsException" ["java/lang/RuntimeException", "java/lang/Exception"]).filter goodWord)
def wsX6_lead_r1 : List Cond := [Cond.fieldLink RX6 33 "MoonGate" "poets" "LMoonGate$Poets;", Cond.methodLink RX6 204 yX6_checkPoet, Cond.instanceMethod yX6_checkPoet, Cond.selects RX6 yX6_checkPoet yX6_checkPoet, Cond.initialized RX6, Cond.code yX6_checkPoet cX6_checkPoet 2 none, Cond.classLink RX6 249 "java/lang/IndexOutOfBoundsException", Cond.initialized "java/lang/IndexOutOfBoundsException", Cond.fieldLink RX6 200 "MoonGate$Poets" "many" "I", Cond.methodLink RX6 178 yX6_checkGate, Cond.instanceMethod yX6_checkGate, Cond.selects RX6 yX6_checkGate yX6_checkGate, Cond.code yX6_checkGate cX6_checkGate 2 none, Cond.fieldLink RX6 26 "MoonGate" "gates" "LMoonGate$Gates;", Cond.fieldLink RX6 171 "MoonGate$Gates" "many" "I", Cond.methodLink RX6 207 yX3_gateOf, Cond.instanceMethod yX3_gateOf, Cond.selects RX3 yX3_gateOf yX3_gateOf, Cond.initialized RX3, Cond.code yX3_gateOf cX3_gateOf 2 (some .int), Cond.fieldLink RX3 9 "MoonGate$Poets" "gatesOf" "[I", Cond.methodLink RX3 19 yX3_isNumber, Cond.instanceMethod yX3_isNumber, Cond.selects RX3 yX3_isNumber yX3_isNumber]
def wsX6_lead_r2 : List Cond := [Cond.code yX3_isNumber cX3_isNumber 2 (some .boolean), Cond.fieldLink RX3 15 "MoonGate$Poets" "many" "I", Cond.methodLink RX6 210 yX3_setGate, Cond.instanceMethod yX3_setGate, Cond.selects RX3 yX3_setGate yX3_setGate, Cond.code yX3_setGate cX3_setGate 3 none]
def wsX6_lead : List Cond := .code yX6_lead cX6_lead 4 (some .int) :: ((wsX6_lead_r1 ++ wsX6_lead_r2) ++ wsX60 ++ wsX30 ++ wsX20 ++ (vx_atS RX6 253 "java/lang/IndexOutOfBoundsException" ["java/lang/RuntimeException", "java/lang/Exception"]).filter goodWord)
def wsX6_lines : List Cond := .code yX6_lines cX6_lines 2 (some .int) :: ([.fieldLink RX6 40 "MoonGate" "now" "LMoonGate$Course;", .methodLink RX6 204 yX6_checkPoet, .instanceMethod yX6_checkPoet, .selects RX6 yX6_checkPoet yX6_checkPoet, .initialized RX6, .code yX6_checkPoet cX6_checkPoet 2 none, .classLink RX6 249 "java/lang/IndexOutOfBoundsException", .initialized "java/lang/IndexOutOfBoundsException", .fieldLink RX6 33 "MoonGate" "poets" "LMoonGate$Poets;", .fieldLink RX6 200 "MoonGate$Poets" "many" "I", .methodLink RX6 213 yX0_written, .instanceMethod yX0_written, .selects RX0 yX0_written yX0_written, .initialized RX0, .code yX0_written cX0_written 2 (some .int), .fieldLink RX0 22 "MoonGate$Course" "linesWritten" "[I"] ++ wsX60 ++ wsX30 ++ wsX00 ++ (vx_atS RX6 253 "java/lang/IndexOutOfBoundsException" ["java/lang/RuntimeException", "java/lang/Exception"]).filter goodWord)
def wsX6_changingCount_r1 : List Cond := [Cond.fieldLink RX6 76 "MoonGate$Course" "coins" "I", Cond.fieldLink RX6 19 "MoonGate" "shoal" "LMoonGate$Shoal;", Cond.methodLink RX6 236 yX4_sizesHere, Cond.instanceMethod yX4_sizesHere, Cond.selects RX4 yX4_sizesHere yX4_sizesHere, Cond.initialized RX4, Cond.code yX4_sizesHere cX4_sizesHere 4 (some .int), Cond.fieldLink RX4 19 "MoonGate$Shoal" "came" "I", Cond.methodLink RX4 27 yX4_isHere, Cond.instanceMethod yX4_isHere, Cond.selects RX4 yX4_isHere yX4_isHere, Cond.code yX4_isHere cX4_isHere 2 (some .boolean), Cond.fieldLink RX4 15 "MoonGate$Shoal" "sold" "[Z", Cond.methodLink RX4 23 yX4_isNumber, Cond.instanceMethod yX4_isNumber, Cond.selects RX4 yX4_isNumber yX4_isNumber, Cond.code yX4_isNumber cX4_isNumber 2 (some .boolean), Cond.methodLink RX4 30 yX0_carpSize, Cond.instanceMethod yX0_carpSize, Cond.selects RX0 yX0_carpSize yX0_carpSize, Cond.initialized RX0, Cond.code yX0_carpSize cX0_carpSize 2 (some .int), Cond.fieldLink RX0 18 "MoonGate$Course" "carpSizes" "[I", Cond.methodLink RX6 240 yX0_writtenByAll]
def wsX6_changingCount_r2 : List Cond := [Cond.instanceMethod yX0_writtenByAll, Cond.selects RX0 yX0_writtenByAll yX0_writtenByAll, Cond.code yX0_writtenByAll cX0_writtenByAll 3 (some .int), Cond.fieldLink RX0 22 "MoonGate$Course" "linesWritten" "[I"]
def wsX6_changingCount : List Cond := .code yX6_changingCount cX6_changingCount 3 (some .int) :: ((wsX6_changingCount_r1 ++ wsX6_changingCount_r2) ++ wsX00 ++ wsX60 ++ wsX40)
def wsX6_count_r1 : List Cond := [Cond.fieldLink RX6 40 "MoonGate" "now" "LMoonGate$Course;", Cond.fieldLink RX6 216 "MoonGate$Course" "day" "I", Cond.fieldLink RX6 10 "MoonGate" "garden" "LMoonGate$Garden;", Cond.fieldLink RX6 226 "MoonGate$Garden" "ponds" "I", Cond.fieldLink RX6 19 "MoonGate" "shoal" "LMoonGate$Shoal;", Cond.fieldLink RX6 26 "MoonGate" "gates" "LMoonGate$Gates;", Cond.fieldLink RX6 171 "MoonGate$Gates" "many" "I", Cond.fieldLink RX6 33 "MoonGate" "poets" "LMoonGate$Poets;", Cond.fieldLink RX6 200 "MoonGate$Poets" "many" "I", Cond.methodLink RX6 112 yX6_checkWhat, Cond.instanceMethod yX6_checkWhat, Cond.selects RX6 yX6_checkWhat yX6_checkWhat, Cond.initialized RX6, Cond.code yX6_checkWhat cX6_checkWhat 3 none, Cond.classLink RX6 249 "java/lang/IndexOutOfBoundsException", Cond.initialized "java/lang/IndexOutOfBoundsException", Cond.methodLink RX6 219 yX0_isFullMoon, Cond.instanceMethod yX0_isFullMoon, Cond.selects RX0 yX0_isFullMoon yX0_isFullMoon, Cond.initialized RX0, Cond.code yX0_isFullMoon cX0_isFullMoon 1 (some .boolean), Cond.fieldLink RX0 9 "MoonGate$Course" "day" "I", Cond.methodLink RX6 223 yX1_manyOf, Cond.instanceMethod yX1_manyOf]
def wsX6_count_r2 : List Cond := [Cond.selects RX1 yX1_manyOf yX1_manyOf, Cond.initialized RX1, Cond.code yX1_manyOf cX1_manyOf 4 (some .int), Cond.fieldLink RX1 11 "MoonGate$Garden" "kinds" "[I", Cond.methodLink RX6 229 yX4_manyHere, Cond.instanceMethod yX4_manyHere, Cond.selects RX4 yX4_manyHere yX4_manyHere, Cond.initialized RX4, Cond.code yX4_manyHere cX4_manyHere 3 (some .int), Cond.fieldLink RX4 19 "MoonGate$Shoal" "came" "I", Cond.methodLink RX4 27 yX4_isHere, Cond.instanceMethod yX4_isHere, Cond.selects RX4 yX4_isHere yX4_isHere, Cond.code yX4_isHere cX4_isHere 2 (some .boolean), Cond.fieldLink RX4 15 "MoonGate$Shoal" "sold" "[Z", Cond.methodLink RX4 23 yX4_isNumber, Cond.instanceMethod yX4_isNumber, Cond.selects RX4 yX4_isNumber yX4_isNumber, Cond.code yX4_isNumber cX4_isNumber 2 (some .boolean), Cond.methodLink RX6 233 yX6_changingCount, Cond.instanceMethod yX6_changingCount, Cond.selects RX6 yX6_changingCount yX6_changingCount, Cond.code yX6_changingCount cX6_changingCount 3 (some .int), Cond.fieldLink RX6 76 "MoonGate$Course" "coins" "I"]
def wsX6_count_r3 : List Cond := [Cond.methodLink RX6 236 yX4_sizesHere, Cond.instanceMethod yX4_sizesHere, Cond.selects RX4 yX4_sizesHere yX4_sizesHere, Cond.code yX4_sizesHere cX4_sizesHere 4 (some .int), Cond.methodLink RX4 30 yX0_carpSize, Cond.instanceMethod yX0_carpSize, Cond.selects RX0 yX0_carpSize yX0_carpSize, Cond.code yX0_carpSize cX0_carpSize 2 (some .int), Cond.fieldLink RX0 18 "MoonGate$Course" "carpSizes" "[I", Cond.methodLink RX6 240 yX0_writtenByAll, Cond.instanceMethod yX0_writtenByAll, Cond.selects RX0 yX0_writtenByAll yX0_writtenByAll, Cond.code yX0_writtenByAll cX0_writtenByAll 3 (some .int), Cond.fieldLink RX0 22 "MoonGate$Course" "linesWritten" "[I"]
def wsX6_count : List Cond := .code yX6_count cX6_count 2 (some .int) :: ((wsX6_count_r1 ++ (wsX6_count_r2 ++ wsX6_count_r3)) ++ wsX60 ++ wsX00 ++ wsX10 ++ wsX20 ++ wsX30 ++ wsX40 ++ (vx_atS RX6 253 "java/lang/IndexOutOfBoundsException" ["java/lang/RuntimeException", "java/lang/Exception"]).filter goodWord)
def wsX6_checkDays : List Cond := .code yX6_checkDays cX6_checkDays 2 none :: ([.classLink RX6 166 "java/lang/IllegalArgumentException", .initialized "java/lang/IllegalArgumentException"] ++ (vx_atS RX6 170 "java/lang/IllegalArgumentException" ["java/lang/RuntimeException", "java/lang/Exception"]).filter goodWord)
def wsX6_letCarpsGrow_r1 : List Cond := [Cond.fieldLink RX6 19 "MoonGate" "shoal" "LMoonGate$Shoal;", Cond.fieldLink RX6 129 "MoonGate$Shoal" "came" "I", Cond.fieldLink RX6 10 "MoonGate" "garden" "LMoonGate$Garden;", Cond.methodLink RX6 146 yX4_isHere, Cond.instanceMethod yX4_isHere, Cond.selects RX4 yX4_isHere yX4_isHere, Cond.initialized RX4, Cond.code yX4_isHere cX4_isHere 2 (some .boolean), Cond.fieldLink RX4 15 "MoonGate$Shoal" "sold" "[Z", Cond.methodLink RX4 23 yX4_isNumber, Cond.instanceMethod yX4_isNumber, Cond.selects RX4 yX4_isNumber yX4_isNumber, Cond.code yX4_isNumber cX4_isNumber 2 (some .boolean), Cond.fieldLink RX4 19 "MoonGate$Shoal" "came" "I", Cond.methodLink RX6 154 yX4_placeOf, Cond.instanceMethod yX4_placeOf, Cond.selects RX4 yX4_placeOf yX4_placeOf, Cond.code yX4_placeOf cX4_placeOf 2 (some .int), Cond.fieldLink RX4 9 "MoonGate$Shoal" "places" "[I", Cond.methodLink RX6 298 yX1_isTooFull, Cond.instanceMethod yX1_isTooFull, Cond.selects RX1 yX1_isTooFull yX1_isTooFull, Cond.initialized RX1, Cond.code yX1_isTooFull cX1_isTooFull 2 (some .boolean)]
def wsX6_letCarpsGrow_r2 : List Cond := [Cond.methodLink RX1 81 yX1_carpsOfPondAt, Cond.instanceMethod yX1_carpsOfPondAt, Cond.selects RX1 yX1_carpsOfPondAt yX1_carpsOfPondAt, Cond.code yX1_carpsOfPondAt cX1_carpsOfPondAt 3 (some .int), Cond.fieldLink RX1 30 "MoonGate$Garden" "pondCarps" "[I", Cond.methodLink RX1 78 yX1_pondAt, Cond.instanceMethod yX1_pondAt, Cond.selects RX1 yX1_pondAt yX1_pondAt, Cond.code yX1_pondAt cX1_pondAt 3 (some .int), Cond.fieldLink RX1 24 "MoonGate$Garden" "pondOf" "[I", Cond.methodLink RX1 40 yX1_isPlace, Cond.static yX1_isPlace, Cond.code yX1_isPlace cX1_isPlace 1 (some .boolean), Cond.methodLink RX1 84 yX1_cellsOfPondAt, Cond.instanceMethod yX1_cellsOfPondAt, Cond.selects RX1 yX1_cellsOfPondAt yX1_cellsOfPondAt, Cond.code yX1_cellsOfPondAt cX1_cellsOfPondAt 3 (some .int), Cond.fieldLink RX1 27 "MoonGate$Garden" "pondCells" "[I", Cond.methodLink RX6 157 yX0_carpSize, Cond.instanceMethod yX0_carpSize, Cond.selects RX0 yX0_carpSize yX0_carpSize, Cond.initialized RX0, Cond.code yX0_carpSize cX0_carpSize 2 (some .int), Cond.fieldLink RX0 18 "MoonGate$Course" "carpSizes" "[I"]
def wsX6_letCarpsGrow_r3 : List Cond := [Cond.methodLink RX6 137 yX0_setCarpSize, Cond.instanceMethod yX0_setCarpSize, Cond.selects RX0 yX0_setCarpSize yX0_setCarpSize, Cond.code yX0_setCarpSize cX0_setCarpSize 3 none, Cond.methodLink RX0 25 Lib.Math.min.name, Cond.static Lib.Math.min.name, Cond.initialized "java/lang/Math", Cond.code Lib.Math.min.name Lib.Math.min.code 2 (some .int), Cond.methodLink RX0 31 Lib.Math.max.name, Cond.static Lib.Math.max.name, Cond.code Lib.Math.max.name Lib.Math.max.code 2 (some .int)]
def wsX6_letCarpsGrow : List Cond := .code yX6_letCarpsGrow cX6_letCarpsGrow 4 none :: ((wsX6_letCarpsGrow_r1 ++ (wsX6_letCarpsGrow_r2 ++ wsX6_letCarpsGrow_r3)) ++ wsX60 ++ wsX40 ++ wsX10 ++ wsX00)
def wsX6_letPoetsWrite_r1 : List Cond := [Cond.fieldLink RX6 33 "MoonGate" "poets" "LMoonGate$Poets;", Cond.fieldLink RX6 200 "MoonGate$Poets" "many" "I", Cond.methodLink RX6 219 yX0_isFullMoon, Cond.instanceMethod yX0_isFullMoon, Cond.selects RX0 yX0_isFullMoon yX0_isFullMoon, Cond.initialized RX0, Cond.code yX0_isFullMoon cX0_isFullMoon 1 (some .boolean), Cond.fieldLink RX0 9 "MoonGate$Course" "day" "I", Cond.methodLink RX6 207 yX3_gateOf, Cond.instanceMethod yX3_gateOf, Cond.selects RX3 yX3_gateOf yX3_gateOf, Cond.initialized RX3, Cond.code yX3_gateOf cX3_gateOf 2 (some .int), Cond.fieldLink RX3 9 "MoonGate$Poets" "gatesOf" "[I", Cond.methodLink RX3 19 yX3_isNumber, Cond.instanceMethod yX3_isNumber, Cond.selects RX3 yX3_isNumber yX3_isNumber, Cond.code yX3_isNumber cX3_isNumber 2 (some .boolean), Cond.fieldLink RX3 15 "MoonGate$Poets" "many" "I", Cond.methodLink RX6 181 yX6_look, Cond.instanceMethod yX6_look, Cond.selects RX6 yX6_look yX6_look, Cond.initialized RX6, Cond.code yX6_look cX6_look 6 (some .int)]
def wsX6_letPoetsWrite_r2 : List Cond := [Cond.fieldLink RX6 50 "MoonGate" "view" "LMoonGate$View;", Cond.fieldLink RX6 26 "MoonGate" "gates" "LMoonGate$Gates;", Cond.fieldLink RX6 10 "MoonGate" "garden" "LMoonGate$Garden;", Cond.fieldLink RX6 194 "MoonGate$View" "beauty" "I", Cond.methodLink RX6 307 yX5_begin, Cond.instanceMethod yX5_begin, Cond.selects RX5 yX5_begin yX5_begin, Cond.initialized RX5, Cond.code yX5_begin cX5_begin 1 none, Cond.fieldLink RX5 7 "MoonGate$View" "cells" "I", Cond.fieldLink RX5 13 "MoonGate$View" "rocks" "I", Cond.fieldLink RX5 16 "MoonGate$View" "pondCells" "I", Cond.fieldLink RX5 19 "MoonGate$View" "beauty" "I", Cond.fieldLink RX5 22 "MoonGate$View" "shapesShown" "I", Cond.methodLink RX6 310 yX2_directionOf, Cond.instanceMethod yX2_directionOf, Cond.selects RX2 yX2_directionOf yX2_directionOf, Cond.initialized RX2, Cond.code yX2_directionOf cX2_directionOf 2 (some .int), Cond.fieldLink RX2 15 "MoonGate$Gates" "directions" "[I", Cond.methodLink RX2 22 yX2_isNumber, Cond.instanceMethod yX2_isNumber, Cond.selects RX2 yX2_isNumber yX2_isNumber, Cond.code yX2_isNumber cX2_isNumber 2 (some .boolean)]
def wsX6_letPoetsWrite_r3 : List Cond := [Cond.fieldLink RX2 18 "MoonGate$Gates" "many" "I", Cond.methodLink RX6 313 yX2_placeOf, Cond.instanceMethod yX2_placeOf, Cond.selects RX2 yX2_placeOf yX2_placeOf, Cond.code yX2_placeOf cX2_placeOf 2 (some .int), Cond.fieldLink RX2 9 "MoonGate$Gates" "places" "[I", Cond.methodLink RX6 314 yX1_beside, Cond.instanceMethod yX1_beside, Cond.selects RX1 yX1_beside yX1_beside, Cond.initialized RX1, Cond.code yX1_beside cX1_beside 5 (some .int), Cond.fieldLink RX1 47 "MoonGate$Garden" "STEP_X" "[I", Cond.fieldLink RX1 50 "MoonGate$Garden" "STEP_Y" "[I", Cond.methodLink RX1 40 yX1_isPlace, Cond.static yX1_isPlace, Cond.code yX1_isPlace cX1_isPlace 1 (some .boolean), Cond.methodLink RX1 44 yX1_isDirection, Cond.static yX1_isDirection, Cond.code yX1_isDirection cX1_isDirection 1 (some .boolean), Cond.methodLink RX1 53 yX1_isInside, Cond.static yX1_isInside, Cond.code yX1_isInside cX1_isInside 2 (some .boolean), Cond.methodLink RX1 57 yX1_numberOf, Cond.static yX1_numberOf]
def wsX6_letPoetsWrite_r4 : List Cond := [Cond.code yX1_numberOf cX1_numberOf 2 (some .int), Cond.methodLink RX6 317 yX1_isWall, Cond.instanceMethod yX1_isWall, Cond.selects RX1 yX1_isWall yX1_isWall, Cond.code yX1_isWall cX1_isWall 2 (some .boolean), Cond.methodLink RX1 61 yX1_kindAt, Cond.instanceMethod yX1_kindAt, Cond.selects RX1 yX1_kindAt yX1_kindAt, Cond.code yX1_kindAt cX1_kindAt 2 (some .int), Cond.fieldLink RX1 11 "MoonGate$Garden" "kinds" "[I", Cond.methodLink RX6 320 yX6_show, Cond.instanceMethod yX6_show, Cond.selects RX6 yX6_show yX6_show, Cond.code yX6_show cX6_show 4 none, Cond.fieldLink RX6 185 "MoonGate$View" "cells" "I", Cond.fieldLink RX6 19 "MoonGate" "shoal" "LMoonGate$Shoal;", Cond.methodLink RX6 115 yX1_kindAt, Cond.methodLink RX6 118 yX1_shapeAt, Cond.instanceMethod yX1_shapeAt, Cond.selects RX1 yX1_shapeAt yX1_shapeAt, Cond.code yX1_shapeAt cX1_shapeAt 2 (some .int), Cond.fieldLink RX1 15 "MoonGate$Garden" "shapes" "[I", Cond.methodLink RX6 106 yX1_sizeAt, Cond.instanceMethod yX1_sizeAt]
def wsX6_letPoetsWrite_r5 : List Cond := [Cond.selects RX1 yX1_sizeAt yX1_sizeAt, Cond.code yX1_sizeAt cX1_sizeAt 2 (some .int), Cond.fieldLink RX1 18 "MoonGate$Garden" "sizes" "[I", Cond.methodLink RX6 327 yX5_addRock, Cond.instanceMethod yX5_addRock, Cond.selects RX5 yX5_addRock yX5_addRock, Cond.code yX5_addRock cX5_addRock 4 none, Cond.methodLink RX6 330 yX4_sizesIn, Cond.instanceMethod yX4_sizesIn, Cond.selects RX4 yX4_sizesIn yX4_sizesIn, Cond.initialized RX4, Cond.code yX4_sizesIn cX4_sizesIn 5 (some .int), Cond.fieldLink RX4 19 "MoonGate$Shoal" "came" "I", Cond.fieldLink RX4 9 "MoonGate$Shoal" "places" "[I", Cond.fieldLink RX4 15 "MoonGate$Shoal" "sold" "[Z", Cond.methodLink RX4 30 yX0_carpSize, Cond.instanceMethod yX0_carpSize, Cond.selects RX0 yX0_carpSize yX0_carpSize, Cond.code yX0_carpSize cX0_carpSize 2 (some .int), Cond.fieldLink RX0 18 "MoonGate$Course" "carpSizes" "[I", Cond.methodLink RX6 333 yX5_addPondCell, Cond.instanceMethod yX5_addPondCell, Cond.selects RX5 yX5_addPondCell yX5_addPondCell, Cond.code yX5_addPondCell cX5_addPondCell 2 none]
def wsX6_letPoetsWrite_r6 : List Cond := [Cond.methodLink RX6 324 yX1_isGreatRock, Cond.instanceMethod yX1_isGreatRock, Cond.selects RX1 yX1_isGreatRock yX1_isGreatRock, Cond.code yX1_isGreatRock cX1_isGreatRock 2 (some .boolean), Cond.methodLink RX1 65 yX1_sizeAt, Cond.methodLink RX6 301 yX0_addWritten, Cond.instanceMethod yX0_addWritten, Cond.selects RX0 yX0_addWritten yX0_addWritten, Cond.code yX0_addWritten cX0_addWritten 3 none, Cond.fieldLink RX0 22 "MoonGate$Course" "linesWritten" "[I"]
def wsX6_letPoetsWrite : List Cond := .code yX6_letPoetsWrite cX6_letPoetsWrite 6 (some .int) :: ((wsX6_letPoetsWrite_r1 ++ (wsX6_letPoetsWrite_r2 ++ (wsX6_letPoetsWrite_r3 ++ (wsX6_letPoetsWrite_r4 ++ (wsX6_letPoetsWrite_r5 ++ wsX6_letPoetsWrite_r6))))) ++ wsX60 ++ wsX30 ++ wsX00 ++ wsX50 ++ wsX20 ++ wsX10 ++ wsX40)
def wsX6_letPass_r1 : List Cond := [Cond.fieldLink RX6 76 "MoonGate$Course" "coins" "I", Cond.fieldLink RX6 216 "MoonGate$Course" "day" "I", Cond.methodLink RX6 292 yX6_letCarpsGrow, Cond.instanceMethod yX6_letCarpsGrow, Cond.selects RX6 yX6_letCarpsGrow yX6_letCarpsGrow, Cond.initialized RX6, Cond.code yX6_letCarpsGrow cX6_letCarpsGrow 4 none, Cond.fieldLink RX6 19 "MoonGate" "shoal" "LMoonGate$Shoal;", Cond.fieldLink RX6 129 "MoonGate$Shoal" "came" "I", Cond.fieldLink RX6 10 "MoonGate" "garden" "LMoonGate$Garden;", Cond.methodLink RX6 146 yX4_isHere, Cond.instanceMethod yX4_isHere, Cond.selects RX4 yX4_isHere yX4_isHere, Cond.initialized RX4, Cond.code yX4_isHere cX4_isHere 2 (some .boolean), Cond.fieldLink RX4 15 "MoonGate$Shoal" "sold" "[Z", Cond.methodLink RX4 23 yX4_isNumber, Cond.instanceMethod yX4_isNumber, Cond.selects RX4 yX4_isNumber yX4_isNumber, Cond.code yX4_isNumber cX4_isNumber 2 (some .boolean), Cond.fieldLink RX4 19 "MoonGate$Shoal" "came" "I", Cond.methodLink RX6 154 yX4_placeOf, Cond.instanceMethod yX4_placeOf, Cond.selects RX4 yX4_placeOf yX4_placeOf]
def wsX6_letPass_r2 : List Cond := [Cond.code yX4_placeOf cX4_placeOf 2 (some .int), Cond.fieldLink RX4 9 "MoonGate$Shoal" "places" "[I", Cond.methodLink RX6 298 yX1_isTooFull, Cond.instanceMethod yX1_isTooFull, Cond.selects RX1 yX1_isTooFull yX1_isTooFull, Cond.initialized RX1, Cond.code yX1_isTooFull cX1_isTooFull 2 (some .boolean), Cond.methodLink RX1 81 yX1_carpsOfPondAt, Cond.instanceMethod yX1_carpsOfPondAt, Cond.selects RX1 yX1_carpsOfPondAt yX1_carpsOfPondAt, Cond.code yX1_carpsOfPondAt cX1_carpsOfPondAt 3 (some .int), Cond.fieldLink RX1 30 "MoonGate$Garden" "pondCarps" "[I", Cond.methodLink RX1 78 yX1_pondAt, Cond.instanceMethod yX1_pondAt, Cond.selects RX1 yX1_pondAt yX1_pondAt, Cond.code yX1_pondAt cX1_pondAt 3 (some .int), Cond.fieldLink RX1 24 "MoonGate$Garden" "pondOf" "[I", Cond.methodLink RX1 40 yX1_isPlace, Cond.static yX1_isPlace, Cond.code yX1_isPlace cX1_isPlace 1 (some .boolean), Cond.methodLink RX1 84 yX1_cellsOfPondAt, Cond.instanceMethod yX1_cellsOfPondAt, Cond.selects RX1 yX1_cellsOfPondAt yX1_cellsOfPondAt, Cond.code yX1_cellsOfPondAt cX1_cellsOfPondAt 3 (some .int)]
def wsX6_letPass_r3 : List Cond := [Cond.fieldLink RX1 27 "MoonGate$Garden" "pondCells" "[I", Cond.methodLink RX6 157 yX0_carpSize, Cond.instanceMethod yX0_carpSize, Cond.selects RX0 yX0_carpSize yX0_carpSize, Cond.initialized RX0, Cond.code yX0_carpSize cX0_carpSize 2 (some .int), Cond.fieldLink RX0 18 "MoonGate$Course" "carpSizes" "[I", Cond.methodLink RX6 137 yX0_setCarpSize, Cond.instanceMethod yX0_setCarpSize, Cond.selects RX0 yX0_setCarpSize yX0_setCarpSize, Cond.code yX0_setCarpSize cX0_setCarpSize 3 none, Cond.methodLink RX0 25 Lib.Math.min.name, Cond.static Lib.Math.min.name, Cond.initialized "java/lang/Math", Cond.code Lib.Math.min.name Lib.Math.min.code 2 (some .int), Cond.methodLink RX0 31 Lib.Math.max.name, Cond.static Lib.Math.max.name, Cond.code Lib.Math.max.name Lib.Math.max.code 2 (some .int), Cond.methodLink RX6 295 yX6_letPoetsWrite, Cond.instanceMethod yX6_letPoetsWrite, Cond.selects RX6 yX6_letPoetsWrite yX6_letPoetsWrite, Cond.code yX6_letPoetsWrite cX6_letPoetsWrite 6 (some .int), Cond.fieldLink RX6 33 "MoonGate" "poets" "LMoonGate$Poets;", Cond.fieldLink RX6 200 "MoonGate$Poets" "many" "I"]
def wsX6_letPass_r4 : List Cond := [Cond.methodLink RX6 219 yX0_isFullMoon, Cond.instanceMethod yX0_isFullMoon, Cond.selects RX0 yX0_isFullMoon yX0_isFullMoon, Cond.code yX0_isFullMoon cX0_isFullMoon 1 (some .boolean), Cond.fieldLink RX0 9 "MoonGate$Course" "day" "I", Cond.methodLink RX6 207 yX3_gateOf, Cond.instanceMethod yX3_gateOf, Cond.selects RX3 yX3_gateOf yX3_gateOf, Cond.initialized RX3, Cond.code yX3_gateOf cX3_gateOf 2 (some .int), Cond.fieldLink RX3 9 "MoonGate$Poets" "gatesOf" "[I", Cond.methodLink RX3 19 yX3_isNumber, Cond.instanceMethod yX3_isNumber, Cond.selects RX3 yX3_isNumber yX3_isNumber, Cond.code yX3_isNumber cX3_isNumber 2 (some .boolean), Cond.fieldLink RX3 15 "MoonGate$Poets" "many" "I", Cond.methodLink RX6 181 yX6_look, Cond.instanceMethod yX6_look, Cond.selects RX6 yX6_look yX6_look, Cond.code yX6_look cX6_look 6 (some .int), Cond.fieldLink RX6 50 "MoonGate" "view" "LMoonGate$View;", Cond.fieldLink RX6 26 "MoonGate" "gates" "LMoonGate$Gates;", Cond.fieldLink RX6 194 "MoonGate$View" "beauty" "I", Cond.methodLink RX6 307 yX5_begin]
def wsX6_letPass_r5 : List Cond := [Cond.instanceMethod yX5_begin, Cond.selects RX5 yX5_begin yX5_begin, Cond.initialized RX5, Cond.code yX5_begin cX5_begin 1 none, Cond.fieldLink RX5 7 "MoonGate$View" "cells" "I", Cond.fieldLink RX5 13 "MoonGate$View" "rocks" "I", Cond.fieldLink RX5 16 "MoonGate$View" "pondCells" "I", Cond.fieldLink RX5 19 "MoonGate$View" "beauty" "I", Cond.fieldLink RX5 22 "MoonGate$View" "shapesShown" "I", Cond.methodLink RX6 310 yX2_directionOf, Cond.instanceMethod yX2_directionOf, Cond.selects RX2 yX2_directionOf yX2_directionOf, Cond.initialized RX2, Cond.code yX2_directionOf cX2_directionOf 2 (some .int), Cond.fieldLink RX2 15 "MoonGate$Gates" "directions" "[I", Cond.methodLink RX2 22 yX2_isNumber, Cond.instanceMethod yX2_isNumber, Cond.selects RX2 yX2_isNumber yX2_isNumber, Cond.code yX2_isNumber cX2_isNumber 2 (some .boolean), Cond.fieldLink RX2 18 "MoonGate$Gates" "many" "I", Cond.methodLink RX6 313 yX2_placeOf, Cond.instanceMethod yX2_placeOf, Cond.selects RX2 yX2_placeOf yX2_placeOf, Cond.code yX2_placeOf cX2_placeOf 2 (some .int)]
def wsX6_letPass_r6 : List Cond := [Cond.fieldLink RX2 9 "MoonGate$Gates" "places" "[I", Cond.methodLink RX6 314 yX1_beside, Cond.instanceMethod yX1_beside, Cond.selects RX1 yX1_beside yX1_beside, Cond.code yX1_beside cX1_beside 5 (some .int), Cond.fieldLink RX1 47 "MoonGate$Garden" "STEP_X" "[I", Cond.fieldLink RX1 50 "MoonGate$Garden" "STEP_Y" "[I", Cond.methodLink RX1 44 yX1_isDirection, Cond.static yX1_isDirection, Cond.code yX1_isDirection cX1_isDirection 1 (some .boolean), Cond.methodLink RX1 53 yX1_isInside, Cond.static yX1_isInside, Cond.code yX1_isInside cX1_isInside 2 (some .boolean), Cond.methodLink RX1 57 yX1_numberOf, Cond.static yX1_numberOf, Cond.code yX1_numberOf cX1_numberOf 2 (some .int), Cond.methodLink RX6 317 yX1_isWall, Cond.instanceMethod yX1_isWall, Cond.selects RX1 yX1_isWall yX1_isWall, Cond.code yX1_isWall cX1_isWall 2 (some .boolean), Cond.methodLink RX1 61 yX1_kindAt, Cond.instanceMethod yX1_kindAt, Cond.selects RX1 yX1_kindAt yX1_kindAt, Cond.code yX1_kindAt cX1_kindAt 2 (some .int)]
def wsX6_letPass_r7 : List Cond := [Cond.fieldLink RX1 11 "MoonGate$Garden" "kinds" "[I", Cond.methodLink RX6 320 yX6_show, Cond.instanceMethod yX6_show, Cond.selects RX6 yX6_show yX6_show, Cond.code yX6_show cX6_show 4 none, Cond.fieldLink RX6 185 "MoonGate$View" "cells" "I", Cond.methodLink RX6 115 yX1_kindAt, Cond.methodLink RX6 118 yX1_shapeAt, Cond.instanceMethod yX1_shapeAt, Cond.selects RX1 yX1_shapeAt yX1_shapeAt, Cond.code yX1_shapeAt cX1_shapeAt 2 (some .int), Cond.fieldLink RX1 15 "MoonGate$Garden" "shapes" "[I", Cond.methodLink RX6 106 yX1_sizeAt, Cond.instanceMethod yX1_sizeAt, Cond.selects RX1 yX1_sizeAt yX1_sizeAt, Cond.code yX1_sizeAt cX1_sizeAt 2 (some .int), Cond.fieldLink RX1 18 "MoonGate$Garden" "sizes" "[I", Cond.methodLink RX6 327 yX5_addRock, Cond.instanceMethod yX5_addRock, Cond.selects RX5 yX5_addRock yX5_addRock, Cond.code yX5_addRock cX5_addRock 4 none, Cond.methodLink RX6 330 yX4_sizesIn, Cond.instanceMethod yX4_sizesIn, Cond.selects RX4 yX4_sizesIn yX4_sizesIn]
def wsX6_letPass_r8 : List Cond := [Cond.code yX4_sizesIn cX4_sizesIn 5 (some .int), Cond.methodLink RX4 30 yX0_carpSize, Cond.methodLink RX6 333 yX5_addPondCell, Cond.instanceMethod yX5_addPondCell, Cond.selects RX5 yX5_addPondCell yX5_addPondCell, Cond.code yX5_addPondCell cX5_addPondCell 2 none, Cond.methodLink RX6 324 yX1_isGreatRock, Cond.instanceMethod yX1_isGreatRock, Cond.selects RX1 yX1_isGreatRock yX1_isGreatRock, Cond.code yX1_isGreatRock cX1_isGreatRock 2 (some .boolean), Cond.methodLink RX1 65 yX1_sizeAt, Cond.methodLink RX6 301 yX0_addWritten, Cond.instanceMethod yX0_addWritten, Cond.selects RX0 yX0_addWritten yX0_addWritten, Cond.code yX0_addWritten cX0_addWritten 3 none, Cond.fieldLink RX0 22 "MoonGate$Course" "linesWritten" "[I"]
def wsX6_letPass : List Cond := .code yX6_letPass cX6_letPass 6 (some .int) :: ((wsX6_letPass_r1 ++ (wsX6_letPass_r2 ++ (wsX6_letPass_r3 ++ (wsX6_letPass_r4 ++ (wsX6_letPass_r5 ++ (wsX6_letPass_r6 ++ (wsX6_letPass_r7 ++ wsX6_letPass_r8))))))) ++ wsX00 ++ wsX60 ++ wsX40 ++ wsX10 ++ wsX30 ++ wsX50 ++ wsX20)
def wsX6_pass_r1 : List Cond := [Cond.fieldLink RX6 40 "MoonGate" "now" "LMoonGate$Course;", Cond.methodLink RX6 243 yX6_checkDays, Cond.instanceMethod yX6_checkDays, Cond.selects RX6 yX6_checkDays yX6_checkDays, Cond.initialized RX6, Cond.code yX6_checkDays cX6_checkDays 2 none, Cond.classLink RX6 166 "java/lang/IllegalArgumentException", Cond.initialized "java/lang/IllegalArgumentException", Cond.methodLink RX6 246 yX6_letPass, Cond.instanceMethod yX6_letPass, Cond.selects RX6 yX6_letPass yX6_letPass, Cond.code yX6_letPass cX6_letPass 6 (some .int), Cond.fieldLink RX6 76 "MoonGate$Course" "coins" "I", Cond.fieldLink RX6 216 "MoonGate$Course" "day" "I", Cond.methodLink RX6 292 yX6_letCarpsGrow, Cond.instanceMethod yX6_letCarpsGrow, Cond.selects RX6 yX6_letCarpsGrow yX6_letCarpsGrow, Cond.code yX6_letCarpsGrow cX6_letCarpsGrow 4 none, Cond.fieldLink RX6 19 "MoonGate" "shoal" "LMoonGate$Shoal;", Cond.fieldLink RX6 129 "MoonGate$Shoal" "came" "I", Cond.fieldLink RX6 10 "MoonGate" "garden" "LMoonGate$Garden;", Cond.methodLink RX6 146 yX4_isHere, Cond.instanceMethod yX4_isHere, Cond.selects RX4 yX4_isHere yX4_isHere]
def wsX6_pass_r2 : List Cond := [Cond.initialized RX4, Cond.code yX4_isHere cX4_isHere 2 (some .boolean), Cond.fieldLink RX4 15 "MoonGate$Shoal" "sold" "[Z", Cond.methodLink RX4 23 yX4_isNumber, Cond.instanceMethod yX4_isNumber, Cond.selects RX4 yX4_isNumber yX4_isNumber, Cond.code yX4_isNumber cX4_isNumber 2 (some .boolean), Cond.fieldLink RX4 19 "MoonGate$Shoal" "came" "I", Cond.methodLink RX6 154 yX4_placeOf, Cond.instanceMethod yX4_placeOf, Cond.selects RX4 yX4_placeOf yX4_placeOf, Cond.code yX4_placeOf cX4_placeOf 2 (some .int), Cond.fieldLink RX4 9 "MoonGate$Shoal" "places" "[I", Cond.methodLink RX6 298 yX1_isTooFull, Cond.instanceMethod yX1_isTooFull, Cond.selects RX1 yX1_isTooFull yX1_isTooFull, Cond.initialized RX1, Cond.code yX1_isTooFull cX1_isTooFull 2 (some .boolean), Cond.methodLink RX1 81 yX1_carpsOfPondAt, Cond.instanceMethod yX1_carpsOfPondAt, Cond.selects RX1 yX1_carpsOfPondAt yX1_carpsOfPondAt, Cond.code yX1_carpsOfPondAt cX1_carpsOfPondAt 3 (some .int), Cond.fieldLink RX1 30 "MoonGate$Garden" "pondCarps" "[I", Cond.methodLink RX1 78 yX1_pondAt]
def wsX6_pass_r3 : List Cond := [Cond.instanceMethod yX1_pondAt, Cond.selects RX1 yX1_pondAt yX1_pondAt, Cond.code yX1_pondAt cX1_pondAt 3 (some .int), Cond.fieldLink RX1 24 "MoonGate$Garden" "pondOf" "[I", Cond.methodLink RX1 40 yX1_isPlace, Cond.static yX1_isPlace, Cond.code yX1_isPlace cX1_isPlace 1 (some .boolean), Cond.methodLink RX1 84 yX1_cellsOfPondAt, Cond.instanceMethod yX1_cellsOfPondAt, Cond.selects RX1 yX1_cellsOfPondAt yX1_cellsOfPondAt, Cond.code yX1_cellsOfPondAt cX1_cellsOfPondAt 3 (some .int), Cond.fieldLink RX1 27 "MoonGate$Garden" "pondCells" "[I", Cond.methodLink RX6 157 yX0_carpSize, Cond.instanceMethod yX0_carpSize, Cond.selects RX0 yX0_carpSize yX0_carpSize, Cond.initialized RX0, Cond.code yX0_carpSize cX0_carpSize 2 (some .int), Cond.fieldLink RX0 18 "MoonGate$Course" "carpSizes" "[I", Cond.methodLink RX6 137 yX0_setCarpSize, Cond.instanceMethod yX0_setCarpSize, Cond.selects RX0 yX0_setCarpSize yX0_setCarpSize, Cond.code yX0_setCarpSize cX0_setCarpSize 3 none, Cond.methodLink RX0 25 Lib.Math.min.name, Cond.static Lib.Math.min.name]
def wsX6_pass_r4 : List Cond := [Cond.initialized "java/lang/Math", Cond.code Lib.Math.min.name Lib.Math.min.code 2 (some .int), Cond.methodLink RX0 31 Lib.Math.max.name, Cond.static Lib.Math.max.name, Cond.code Lib.Math.max.name Lib.Math.max.code 2 (some .int), Cond.methodLink RX6 295 yX6_letPoetsWrite, Cond.instanceMethod yX6_letPoetsWrite, Cond.selects RX6 yX6_letPoetsWrite yX6_letPoetsWrite, Cond.code yX6_letPoetsWrite cX6_letPoetsWrite 6 (some .int), Cond.fieldLink RX6 33 "MoonGate" "poets" "LMoonGate$Poets;", Cond.fieldLink RX6 200 "MoonGate$Poets" "many" "I", Cond.methodLink RX6 219 yX0_isFullMoon, Cond.instanceMethod yX0_isFullMoon, Cond.selects RX0 yX0_isFullMoon yX0_isFullMoon, Cond.code yX0_isFullMoon cX0_isFullMoon 1 (some .boolean), Cond.fieldLink RX0 9 "MoonGate$Course" "day" "I", Cond.methodLink RX6 207 yX3_gateOf, Cond.instanceMethod yX3_gateOf, Cond.selects RX3 yX3_gateOf yX3_gateOf, Cond.initialized RX3, Cond.code yX3_gateOf cX3_gateOf 2 (some .int), Cond.fieldLink RX3 9 "MoonGate$Poets" "gatesOf" "[I", Cond.methodLink RX3 19 yX3_isNumber, Cond.instanceMethod yX3_isNumber]
def wsX6_pass_r5 : List Cond := [Cond.selects RX3 yX3_isNumber yX3_isNumber, Cond.code yX3_isNumber cX3_isNumber 2 (some .boolean), Cond.fieldLink RX3 15 "MoonGate$Poets" "many" "I", Cond.methodLink RX6 181 yX6_look, Cond.instanceMethod yX6_look, Cond.selects RX6 yX6_look yX6_look, Cond.code yX6_look cX6_look 6 (some .int), Cond.fieldLink RX6 50 "MoonGate" "view" "LMoonGate$View;", Cond.fieldLink RX6 26 "MoonGate" "gates" "LMoonGate$Gates;", Cond.fieldLink RX6 194 "MoonGate$View" "beauty" "I", Cond.methodLink RX6 307 yX5_begin, Cond.instanceMethod yX5_begin, Cond.selects RX5 yX5_begin yX5_begin, Cond.initialized RX5, Cond.code yX5_begin cX5_begin 1 none, Cond.fieldLink RX5 7 "MoonGate$View" "cells" "I", Cond.fieldLink RX5 13 "MoonGate$View" "rocks" "I", Cond.fieldLink RX5 16 "MoonGate$View" "pondCells" "I", Cond.fieldLink RX5 19 "MoonGate$View" "beauty" "I", Cond.fieldLink RX5 22 "MoonGate$View" "shapesShown" "I", Cond.methodLink RX6 310 yX2_directionOf, Cond.instanceMethod yX2_directionOf, Cond.selects RX2 yX2_directionOf yX2_directionOf, Cond.initialized RX2]
def wsX6_pass_r6 : List Cond := [Cond.code yX2_directionOf cX2_directionOf 2 (some .int), Cond.fieldLink RX2 15 "MoonGate$Gates" "directions" "[I", Cond.methodLink RX2 22 yX2_isNumber, Cond.instanceMethod yX2_isNumber, Cond.selects RX2 yX2_isNumber yX2_isNumber, Cond.code yX2_isNumber cX2_isNumber 2 (some .boolean), Cond.fieldLink RX2 18 "MoonGate$Gates" "many" "I", Cond.methodLink RX6 313 yX2_placeOf, Cond.instanceMethod yX2_placeOf, Cond.selects RX2 yX2_placeOf yX2_placeOf, Cond.code yX2_placeOf cX2_placeOf 2 (some .int), Cond.fieldLink RX2 9 "MoonGate$Gates" "places" "[I", Cond.methodLink RX6 314 yX1_beside, Cond.instanceMethod yX1_beside, Cond.selects RX1 yX1_beside yX1_beside, Cond.code yX1_beside cX1_beside 5 (some .int), Cond.fieldLink RX1 47 "MoonGate$Garden" "STEP_X" "[I", Cond.fieldLink RX1 50 "MoonGate$Garden" "STEP_Y" "[I", Cond.methodLink RX1 44 yX1_isDirection, Cond.static yX1_isDirection, Cond.code yX1_isDirection cX1_isDirection 1 (some .boolean), Cond.methodLink RX1 53 yX1_isInside, Cond.static yX1_isInside, Cond.code yX1_isInside cX1_isInside 2 (some .boolean)]
def wsX6_pass_r7 : List Cond := [Cond.methodLink RX1 57 yX1_numberOf, Cond.static yX1_numberOf, Cond.code yX1_numberOf cX1_numberOf 2 (some .int), Cond.methodLink RX6 317 yX1_isWall, Cond.instanceMethod yX1_isWall, Cond.selects RX1 yX1_isWall yX1_isWall, Cond.code yX1_isWall cX1_isWall 2 (some .boolean), Cond.methodLink RX1 61 yX1_kindAt, Cond.instanceMethod yX1_kindAt, Cond.selects RX1 yX1_kindAt yX1_kindAt, Cond.code yX1_kindAt cX1_kindAt 2 (some .int), Cond.fieldLink RX1 11 "MoonGate$Garden" "kinds" "[I", Cond.methodLink RX6 320 yX6_show, Cond.instanceMethod yX6_show, Cond.selects RX6 yX6_show yX6_show, Cond.code yX6_show cX6_show 4 none, Cond.fieldLink RX6 185 "MoonGate$View" "cells" "I", Cond.methodLink RX6 115 yX1_kindAt, Cond.methodLink RX6 118 yX1_shapeAt, Cond.instanceMethod yX1_shapeAt, Cond.selects RX1 yX1_shapeAt yX1_shapeAt, Cond.code yX1_shapeAt cX1_shapeAt 2 (some .int), Cond.fieldLink RX1 15 "MoonGate$Garden" "shapes" "[I", Cond.methodLink RX6 106 yX1_sizeAt]
def wsX6_pass_r8 : List Cond := [Cond.instanceMethod yX1_sizeAt, Cond.selects RX1 yX1_sizeAt yX1_sizeAt, Cond.code yX1_sizeAt cX1_sizeAt 2 (some .int), Cond.fieldLink RX1 18 "MoonGate$Garden" "sizes" "[I", Cond.methodLink RX6 327 yX5_addRock, Cond.instanceMethod yX5_addRock, Cond.selects RX5 yX5_addRock yX5_addRock, Cond.code yX5_addRock cX5_addRock 4 none, Cond.methodLink RX6 330 yX4_sizesIn, Cond.instanceMethod yX4_sizesIn, Cond.selects RX4 yX4_sizesIn yX4_sizesIn, Cond.code yX4_sizesIn cX4_sizesIn 5 (some .int), Cond.methodLink RX4 30 yX0_carpSize, Cond.methodLink RX6 333 yX5_addPondCell, Cond.instanceMethod yX5_addPondCell, Cond.selects RX5 yX5_addPondCell yX5_addPondCell, Cond.code yX5_addPondCell cX5_addPondCell 2 none, Cond.methodLink RX6 324 yX1_isGreatRock, Cond.instanceMethod yX1_isGreatRock, Cond.selects RX1 yX1_isGreatRock yX1_isGreatRock, Cond.code yX1_isGreatRock cX1_isGreatRock 2 (some .boolean), Cond.methodLink RX1 65 yX1_sizeAt, Cond.methodLink RX6 301 yX0_addWritten, Cond.instanceMethod yX0_addWritten]
def wsX6_pass_r9 : List Cond := [Cond.selects RX0 yX0_addWritten yX0_addWritten, Cond.code yX0_addWritten cX0_addWritten 3 none, Cond.fieldLink RX0 22 "MoonGate$Course" "linesWritten" "[I"]
def wsX6_pass : List Cond := .code yX6_pass cX6_pass 2 (some .int) :: ((wsX6_pass_r1 ++ (wsX6_pass_r2 ++ (wsX6_pass_r3 ++ (wsX6_pass_r4 ++ (wsX6_pass_r5 ++ (wsX6_pass_r6 ++ (wsX6_pass_r7 ++ (wsX6_pass_r8 ++ wsX6_pass_r9)))))))) ++ wsX60 ++ wsX00 ++ wsX40 ++ wsX10 ++ wsX30 ++ wsX50 ++ wsX20 ++ (vx_atS RX6 170 "java/lang/IllegalArgumentException" ["java/lang/RuntimeException", "java/lang/Exception"]).filter goodWord)
def wsX6_foresee_r1 : List Cond := [Cond.classLink RX6 249 "java/lang/IndexOutOfBoundsException", Cond.initialized "java/lang/IndexOutOfBoundsException", Cond.fieldLink RX6 44 "MoonGate" "ahead" "LMoonGate$Course;", Cond.fieldLink RX6 40 "MoonGate" "now" "LMoonGate$Course;", Cond.methodLink RX6 243 yX6_checkDays, Cond.instanceMethod yX6_checkDays, Cond.selects RX6 yX6_checkDays yX6_checkDays, Cond.initialized RX6, Cond.code yX6_checkDays cX6_checkDays 2 none, Cond.classLink RX6 166 "java/lang/IllegalArgumentException", Cond.initialized "java/lang/IllegalArgumentException", Cond.methodLink RX6 254 yX0_becomeLike, Cond.instanceMethod yX0_becomeLike, Cond.selects RX0 yX0_becomeLike yX0_becomeLike, Cond.initialized RX0, Cond.code yX0_becomeLike cX0_becomeLike 3 none, Cond.fieldLink RX0 9 "MoonGate$Course" "day" "I", Cond.fieldLink RX0 15 "MoonGate$Course" "coins" "I", Cond.fieldLink RX0 18 "MoonGate$Course" "carpSizes" "[I", Cond.fieldLink RX0 22 "MoonGate$Course" "linesWritten" "[I", Cond.methodLink RX6 246 yX6_letPass, Cond.instanceMethod yX6_letPass, Cond.selects RX6 yX6_letPass yX6_letPass, Cond.code yX6_letPass cX6_letPass 6 (some .int)]
def wsX6_foresee_r2 : List Cond := [Cond.fieldLink RX6 76 "MoonGate$Course" "coins" "I", Cond.fieldLink RX6 216 "MoonGate$Course" "day" "I", Cond.methodLink RX6 292 yX6_letCarpsGrow, Cond.instanceMethod yX6_letCarpsGrow, Cond.selects RX6 yX6_letCarpsGrow yX6_letCarpsGrow, Cond.code yX6_letCarpsGrow cX6_letCarpsGrow 4 none, Cond.fieldLink RX6 19 "MoonGate" "shoal" "LMoonGate$Shoal;", Cond.fieldLink RX6 129 "MoonGate$Shoal" "came" "I", Cond.fieldLink RX6 10 "MoonGate" "garden" "LMoonGate$Garden;", Cond.methodLink RX6 146 yX4_isHere, Cond.instanceMethod yX4_isHere, Cond.selects RX4 yX4_isHere yX4_isHere, Cond.initialized RX4, Cond.code yX4_isHere cX4_isHere 2 (some .boolean), Cond.fieldLink RX4 15 "MoonGate$Shoal" "sold" "[Z", Cond.methodLink RX4 23 yX4_isNumber, Cond.instanceMethod yX4_isNumber, Cond.selects RX4 yX4_isNumber yX4_isNumber, Cond.code yX4_isNumber cX4_isNumber 2 (some .boolean), Cond.fieldLink RX4 19 "MoonGate$Shoal" "came" "I", Cond.methodLink RX6 154 yX4_placeOf, Cond.instanceMethod yX4_placeOf, Cond.selects RX4 yX4_placeOf yX4_placeOf, Cond.code yX4_placeOf cX4_placeOf 2 (some .int)]
def wsX6_foresee_r3 : List Cond := [Cond.fieldLink RX4 9 "MoonGate$Shoal" "places" "[I", Cond.methodLink RX6 298 yX1_isTooFull, Cond.instanceMethod yX1_isTooFull, Cond.selects RX1 yX1_isTooFull yX1_isTooFull, Cond.initialized RX1, Cond.code yX1_isTooFull cX1_isTooFull 2 (some .boolean), Cond.methodLink RX1 81 yX1_carpsOfPondAt, Cond.instanceMethod yX1_carpsOfPondAt, Cond.selects RX1 yX1_carpsOfPondAt yX1_carpsOfPondAt, Cond.code yX1_carpsOfPondAt cX1_carpsOfPondAt 3 (some .int), Cond.fieldLink RX1 30 "MoonGate$Garden" "pondCarps" "[I", Cond.methodLink RX1 78 yX1_pondAt, Cond.instanceMethod yX1_pondAt, Cond.selects RX1 yX1_pondAt yX1_pondAt, Cond.code yX1_pondAt cX1_pondAt 3 (some .int), Cond.fieldLink RX1 24 "MoonGate$Garden" "pondOf" "[I", Cond.methodLink RX1 40 yX1_isPlace, Cond.static yX1_isPlace, Cond.code yX1_isPlace cX1_isPlace 1 (some .boolean), Cond.methodLink RX1 84 yX1_cellsOfPondAt, Cond.instanceMethod yX1_cellsOfPondAt, Cond.selects RX1 yX1_cellsOfPondAt yX1_cellsOfPondAt, Cond.code yX1_cellsOfPondAt cX1_cellsOfPondAt 3 (some .int), Cond.fieldLink RX1 27 "MoonGate$Garden" "pondCells" "[I"]
def wsX6_foresee_r4 : List Cond := [Cond.methodLink RX6 157 yX0_carpSize, Cond.instanceMethod yX0_carpSize, Cond.selects RX0 yX0_carpSize yX0_carpSize, Cond.code yX0_carpSize cX0_carpSize 2 (some .int), Cond.methodLink RX6 137 yX0_setCarpSize, Cond.instanceMethod yX0_setCarpSize, Cond.selects RX0 yX0_setCarpSize yX0_setCarpSize, Cond.code yX0_setCarpSize cX0_setCarpSize 3 none, Cond.methodLink RX0 25 Lib.Math.min.name, Cond.static Lib.Math.min.name, Cond.initialized "java/lang/Math", Cond.code Lib.Math.min.name Lib.Math.min.code 2 (some .int), Cond.methodLink RX0 31 Lib.Math.max.name, Cond.static Lib.Math.max.name, Cond.code Lib.Math.max.name Lib.Math.max.code 2 (some .int), Cond.methodLink RX6 295 yX6_letPoetsWrite, Cond.instanceMethod yX6_letPoetsWrite, Cond.selects RX6 yX6_letPoetsWrite yX6_letPoetsWrite, Cond.code yX6_letPoetsWrite cX6_letPoetsWrite 6 (some .int), Cond.fieldLink RX6 33 "MoonGate" "poets" "LMoonGate$Poets;", Cond.fieldLink RX6 200 "MoonGate$Poets" "many" "I", Cond.methodLink RX6 219 yX0_isFullMoon, Cond.instanceMethod yX0_isFullMoon, Cond.selects RX0 yX0_isFullMoon yX0_isFullMoon]
def wsX6_foresee_r5 : List Cond := [Cond.code yX0_isFullMoon cX0_isFullMoon 1 (some .boolean), Cond.methodLink RX6 207 yX3_gateOf, Cond.instanceMethod yX3_gateOf, Cond.selects RX3 yX3_gateOf yX3_gateOf, Cond.initialized RX3, Cond.code yX3_gateOf cX3_gateOf 2 (some .int), Cond.fieldLink RX3 9 "MoonGate$Poets" "gatesOf" "[I", Cond.methodLink RX3 19 yX3_isNumber, Cond.instanceMethod yX3_isNumber, Cond.selects RX3 yX3_isNumber yX3_isNumber, Cond.code yX3_isNumber cX3_isNumber 2 (some .boolean), Cond.fieldLink RX3 15 "MoonGate$Poets" "many" "I", Cond.methodLink RX6 181 yX6_look, Cond.instanceMethod yX6_look, Cond.selects RX6 yX6_look yX6_look, Cond.code yX6_look cX6_look 6 (some .int), Cond.fieldLink RX6 50 "MoonGate" "view" "LMoonGate$View;", Cond.fieldLink RX6 26 "MoonGate" "gates" "LMoonGate$Gates;", Cond.fieldLink RX6 194 "MoonGate$View" "beauty" "I", Cond.methodLink RX6 307 yX5_begin, Cond.instanceMethod yX5_begin, Cond.selects RX5 yX5_begin yX5_begin, Cond.initialized RX5, Cond.code yX5_begin cX5_begin 1 none]
def wsX6_foresee_r6 : List Cond := [Cond.fieldLink RX5 7 "MoonGate$View" "cells" "I", Cond.fieldLink RX5 13 "MoonGate$View" "rocks" "I", Cond.fieldLink RX5 16 "MoonGate$View" "pondCells" "I", Cond.fieldLink RX5 19 "MoonGate$View" "beauty" "I", Cond.fieldLink RX5 22 "MoonGate$View" "shapesShown" "I", Cond.methodLink RX6 310 yX2_directionOf, Cond.instanceMethod yX2_directionOf, Cond.selects RX2 yX2_directionOf yX2_directionOf, Cond.initialized RX2, Cond.code yX2_directionOf cX2_directionOf 2 (some .int), Cond.fieldLink RX2 15 "MoonGate$Gates" "directions" "[I", Cond.methodLink RX2 22 yX2_isNumber, Cond.instanceMethod yX2_isNumber, Cond.selects RX2 yX2_isNumber yX2_isNumber, Cond.code yX2_isNumber cX2_isNumber 2 (some .boolean), Cond.fieldLink RX2 18 "MoonGate$Gates" "many" "I", Cond.methodLink RX6 313 yX2_placeOf, Cond.instanceMethod yX2_placeOf, Cond.selects RX2 yX2_placeOf yX2_placeOf, Cond.code yX2_placeOf cX2_placeOf 2 (some .int), Cond.fieldLink RX2 9 "MoonGate$Gates" "places" "[I", Cond.methodLink RX6 314 yX1_beside, Cond.instanceMethod yX1_beside, Cond.selects RX1 yX1_beside yX1_beside]
def wsX6_foresee_r7 : List Cond := [Cond.code yX1_beside cX1_beside 5 (some .int), Cond.fieldLink RX1 47 "MoonGate$Garden" "STEP_X" "[I", Cond.fieldLink RX1 50 "MoonGate$Garden" "STEP_Y" "[I", Cond.methodLink RX1 44 yX1_isDirection, Cond.static yX1_isDirection, Cond.code yX1_isDirection cX1_isDirection 1 (some .boolean), Cond.methodLink RX1 53 yX1_isInside, Cond.static yX1_isInside, Cond.code yX1_isInside cX1_isInside 2 (some .boolean), Cond.methodLink RX1 57 yX1_numberOf, Cond.static yX1_numberOf, Cond.code yX1_numberOf cX1_numberOf 2 (some .int), Cond.methodLink RX6 317 yX1_isWall, Cond.instanceMethod yX1_isWall, Cond.selects RX1 yX1_isWall yX1_isWall, Cond.code yX1_isWall cX1_isWall 2 (some .boolean), Cond.methodLink RX1 61 yX1_kindAt, Cond.instanceMethod yX1_kindAt, Cond.selects RX1 yX1_kindAt yX1_kindAt, Cond.code yX1_kindAt cX1_kindAt 2 (some .int), Cond.fieldLink RX1 11 "MoonGate$Garden" "kinds" "[I", Cond.methodLink RX6 320 yX6_show, Cond.instanceMethod yX6_show, Cond.selects RX6 yX6_show yX6_show]
def wsX6_foresee_r8 : List Cond := [Cond.code yX6_show cX6_show 4 none, Cond.fieldLink RX6 185 "MoonGate$View" "cells" "I", Cond.methodLink RX6 115 yX1_kindAt, Cond.methodLink RX6 118 yX1_shapeAt, Cond.instanceMethod yX1_shapeAt, Cond.selects RX1 yX1_shapeAt yX1_shapeAt, Cond.code yX1_shapeAt cX1_shapeAt 2 (some .int), Cond.fieldLink RX1 15 "MoonGate$Garden" "shapes" "[I", Cond.methodLink RX6 106 yX1_sizeAt, Cond.instanceMethod yX1_sizeAt, Cond.selects RX1 yX1_sizeAt yX1_sizeAt, Cond.code yX1_sizeAt cX1_sizeAt 2 (some .int), Cond.fieldLink RX1 18 "MoonGate$Garden" "sizes" "[I", Cond.methodLink RX6 327 yX5_addRock, Cond.instanceMethod yX5_addRock, Cond.selects RX5 yX5_addRock yX5_addRock, Cond.code yX5_addRock cX5_addRock 4 none, Cond.methodLink RX6 330 yX4_sizesIn, Cond.instanceMethod yX4_sizesIn, Cond.selects RX4 yX4_sizesIn yX4_sizesIn, Cond.code yX4_sizesIn cX4_sizesIn 5 (some .int), Cond.methodLink RX4 30 yX0_carpSize, Cond.methodLink RX6 333 yX5_addPondCell, Cond.instanceMethod yX5_addPondCell]
def wsX6_foresee_r9 : List Cond := [Cond.selects RX5 yX5_addPondCell yX5_addPondCell, Cond.code yX5_addPondCell cX5_addPondCell 2 none, Cond.methodLink RX6 324 yX1_isGreatRock, Cond.instanceMethod yX1_isGreatRock, Cond.selects RX1 yX1_isGreatRock yX1_isGreatRock, Cond.code yX1_isGreatRock cX1_isGreatRock 2 (some .boolean), Cond.methodLink RX1 65 yX1_sizeAt, Cond.methodLink RX6 301 yX0_addWritten, Cond.instanceMethod yX0_addWritten, Cond.selects RX0 yX0_addWritten yX0_addWritten, Cond.code yX0_addWritten cX0_addWritten 3 none, Cond.methodLink RX6 233 yX6_changingCount, Cond.instanceMethod yX6_changingCount, Cond.selects RX6 yX6_changingCount yX6_changingCount, Cond.code yX6_changingCount cX6_changingCount 3 (some .int), Cond.methodLink RX6 236 yX4_sizesHere, Cond.instanceMethod yX4_sizesHere, Cond.selects RX4 yX4_sizesHere yX4_sizesHere, Cond.code yX4_sizesHere cX4_sizesHere 4 (some .int), Cond.methodLink RX4 27 yX4_isHere, Cond.methodLink RX6 240 yX0_writtenByAll, Cond.instanceMethod yX0_writtenByAll, Cond.selects RX0 yX0_writtenByAll yX0_writtenByAll, Cond.code yX0_writtenByAll cX0_writtenByAll 3 (some .int)]
def wsX6_foresee : List Cond := .code yX6_foresee cX6_foresee 3 (some .int) :: ((wsX6_foresee_r1 ++ (wsX6_foresee_r2 ++ (wsX6_foresee_r3 ++ (wsX6_foresee_r4 ++ (wsX6_foresee_r5 ++ (wsX6_foresee_r6 ++ (wsX6_foresee_r7 ++ (wsX6_foresee_r8 ++ wsX6_foresee_r9)))))))) ++ wsX60 ++ wsX00 ++ wsX40 ++ wsX10 ++ wsX30 ++ wsX50 ++ wsX20 ++ (vx_atS RX6 253 "java/lang/IndexOutOfBoundsException" ["java/lang/RuntimeException", "java/lang/Exception"]).filter goodWord ++ (vx_atS RX6 170 "java/lang/IllegalArgumentException" ["java/lang/RuntimeException", "java/lang/Exception"]).filter goodWord)
def wsX6_beautyWithRock_r1 : List Cond := [Cond.fieldLink RX6 10 "MoonGate" "garden" "LMoonGate$Garden;", Cond.fieldLink RX6 40 "MoonGate" "now" "LMoonGate$Course;", Cond.methodLink RX6 72 yX1_setRock, Cond.instanceMethod yX1_setRock, Cond.selects RX1 yX1_setRock yX1_setRock, Cond.initialized RX1, Cond.code yX1_setRock cX1_setRock 4 none, Cond.methodLink RX1 68 yX1_setCell, Cond.instanceMethod yX1_setCell, Cond.selects RX1 yX1_setCell yX1_setCell, Cond.code yX1_setCell cX1_setCell 5 none, Cond.fieldLink RX1 11 "MoonGate$Garden" "kinds" "[I", Cond.fieldLink RX1 15 "MoonGate$Garden" "shapes" "[I", Cond.fieldLink RX1 18 "MoonGate$Garden" "sizes" "[I", Cond.methodLink RX1 40 yX1_isPlace, Cond.static yX1_isPlace, Cond.code yX1_isPlace cX1_isPlace 1 (some .boolean), Cond.methodLink RX6 181 yX6_look, Cond.instanceMethod yX6_look, Cond.selects RX6 yX6_look yX6_look, Cond.initialized RX6, Cond.code yX6_look cX6_look 6 (some .int), Cond.fieldLink RX6 50 "MoonGate" "view" "LMoonGate$View;", Cond.fieldLink RX6 26 "MoonGate" "gates" "LMoonGate$Gates;"]
def wsX6_beautyWithRock_r2 : List Cond := [Cond.fieldLink RX6 194 "MoonGate$View" "beauty" "I", Cond.methodLink RX6 307 yX5_begin, Cond.instanceMethod yX5_begin, Cond.selects RX5 yX5_begin yX5_begin, Cond.initialized RX5, Cond.code yX5_begin cX5_begin 1 none, Cond.fieldLink RX5 7 "MoonGate$View" "cells" "I", Cond.fieldLink RX5 13 "MoonGate$View" "rocks" "I", Cond.fieldLink RX5 16 "MoonGate$View" "pondCells" "I", Cond.fieldLink RX5 19 "MoonGate$View" "beauty" "I", Cond.fieldLink RX5 22 "MoonGate$View" "shapesShown" "I", Cond.methodLink RX6 310 yX2_directionOf, Cond.instanceMethod yX2_directionOf, Cond.selects RX2 yX2_directionOf yX2_directionOf, Cond.initialized RX2, Cond.code yX2_directionOf cX2_directionOf 2 (some .int), Cond.fieldLink RX2 15 "MoonGate$Gates" "directions" "[I", Cond.methodLink RX2 22 yX2_isNumber, Cond.instanceMethod yX2_isNumber, Cond.selects RX2 yX2_isNumber yX2_isNumber, Cond.code yX2_isNumber cX2_isNumber 2 (some .boolean), Cond.fieldLink RX2 18 "MoonGate$Gates" "many" "I", Cond.methodLink RX6 313 yX2_placeOf, Cond.instanceMethod yX2_placeOf]
def wsX6_beautyWithRock_r3 : List Cond := [Cond.selects RX2 yX2_placeOf yX2_placeOf, Cond.code yX2_placeOf cX2_placeOf 2 (some .int), Cond.fieldLink RX2 9 "MoonGate$Gates" "places" "[I", Cond.methodLink RX6 314 yX1_beside, Cond.instanceMethod yX1_beside, Cond.selects RX1 yX1_beside yX1_beside, Cond.code yX1_beside cX1_beside 5 (some .int), Cond.fieldLink RX1 47 "MoonGate$Garden" "STEP_X" "[I", Cond.fieldLink RX1 50 "MoonGate$Garden" "STEP_Y" "[I", Cond.methodLink RX1 44 yX1_isDirection, Cond.static yX1_isDirection, Cond.code yX1_isDirection cX1_isDirection 1 (some .boolean), Cond.methodLink RX1 53 yX1_isInside, Cond.static yX1_isInside, Cond.code yX1_isInside cX1_isInside 2 (some .boolean), Cond.methodLink RX1 57 yX1_numberOf, Cond.static yX1_numberOf, Cond.code yX1_numberOf cX1_numberOf 2 (some .int), Cond.methodLink RX6 317 yX1_isWall, Cond.instanceMethod yX1_isWall, Cond.selects RX1 yX1_isWall yX1_isWall, Cond.code yX1_isWall cX1_isWall 2 (some .boolean), Cond.methodLink RX1 61 yX1_kindAt, Cond.instanceMethod yX1_kindAt]
def wsX6_beautyWithRock_r4 : List Cond := [Cond.selects RX1 yX1_kindAt yX1_kindAt, Cond.code yX1_kindAt cX1_kindAt 2 (some .int), Cond.methodLink RX6 320 yX6_show, Cond.instanceMethod yX6_show, Cond.selects RX6 yX6_show yX6_show, Cond.code yX6_show cX6_show 4 none, Cond.fieldLink RX6 185 "MoonGate$View" "cells" "I", Cond.fieldLink RX6 19 "MoonGate" "shoal" "LMoonGate$Shoal;", Cond.methodLink RX6 115 yX1_kindAt, Cond.methodLink RX6 118 yX1_shapeAt, Cond.instanceMethod yX1_shapeAt, Cond.selects RX1 yX1_shapeAt yX1_shapeAt, Cond.code yX1_shapeAt cX1_shapeAt 2 (some .int), Cond.methodLink RX6 106 yX1_sizeAt, Cond.instanceMethod yX1_sizeAt, Cond.selects RX1 yX1_sizeAt yX1_sizeAt, Cond.code yX1_sizeAt cX1_sizeAt 2 (some .int), Cond.methodLink RX6 327 yX5_addRock, Cond.instanceMethod yX5_addRock, Cond.selects RX5 yX5_addRock yX5_addRock, Cond.code yX5_addRock cX5_addRock 4 none, Cond.methodLink RX6 330 yX4_sizesIn, Cond.instanceMethod yX4_sizesIn, Cond.selects RX4 yX4_sizesIn yX4_sizesIn]
def wsX6_beautyWithRock_r5 : List Cond := [Cond.initialized RX4, Cond.code yX4_sizesIn cX4_sizesIn 5 (some .int), Cond.fieldLink RX4 19 "MoonGate$Shoal" "came" "I", Cond.fieldLink RX4 9 "MoonGate$Shoal" "places" "[I", Cond.fieldLink RX4 15 "MoonGate$Shoal" "sold" "[Z", Cond.methodLink RX4 30 yX0_carpSize, Cond.instanceMethod yX0_carpSize, Cond.selects RX0 yX0_carpSize yX0_carpSize, Cond.initialized RX0, Cond.code yX0_carpSize cX0_carpSize 2 (some .int), Cond.fieldLink RX0 18 "MoonGate$Course" "carpSizes" "[I", Cond.methodLink RX6 333 yX5_addPondCell, Cond.instanceMethod yX5_addPondCell, Cond.selects RX5 yX5_addPondCell yX5_addPondCell, Cond.code yX5_addPondCell cX5_addPondCell 2 none, Cond.methodLink RX6 324 yX1_isGreatRock, Cond.instanceMethod yX1_isGreatRock, Cond.selects RX1 yX1_isGreatRock yX1_isGreatRock, Cond.code yX1_isGreatRock cX1_isGreatRock 2 (some .boolean), Cond.methodLink RX1 65 yX1_sizeAt, Cond.methodLink RX6 304 yX1_takeRock, Cond.instanceMethod yX1_takeRock, Cond.selects RX1 yX1_takeRock yX1_takeRock, Cond.code yX1_takeRock cX1_takeRock 2 none]
def wsX6_beautyWithRock : List Cond := .code yX6_beautyWithRock cX6_beautyWithRock 6 (some .int) :: ((wsX6_beautyWithRock_r1 ++ (wsX6_beautyWithRock_r2 ++ (wsX6_beautyWithRock_r3 ++ (wsX6_beautyWithRock_r4 ++ wsX6_beautyWithRock_r5)))) ++ wsX60 ++ wsX10 ++ wsX50 ++ wsX20 ++ wsX40 ++ wsX00)
def wsX6_advise_r1 : List Cond := [Cond.fieldLink RX6 40 "MoonGate" "now" "LMoonGate$Course;", Cond.fieldLink RX6 10 "MoonGate" "garden" "LMoonGate$Garden;", Cond.methodLink RX6 178 yX6_checkGate, Cond.instanceMethod yX6_checkGate, Cond.selects RX6 yX6_checkGate yX6_checkGate, Cond.initialized RX6, Cond.code yX6_checkGate cX6_checkGate 2 none, Cond.classLink RX6 249 "java/lang/IndexOutOfBoundsException", Cond.initialized "java/lang/IndexOutOfBoundsException", Cond.fieldLink RX6 26 "MoonGate" "gates" "LMoonGate$Gates;", Cond.fieldLink RX6 171 "MoonGate$Gates" "many" "I", Cond.methodLink RX6 58 yX6_checkRock, Cond.instanceMethod yX6_checkRock, Cond.selects RX6 yX6_checkRock yX6_checkRock, Cond.code yX6_checkRock cX6_checkRock 3 none, Cond.classLink RX6 166 "java/lang/IllegalArgumentException", Cond.initialized "java/lang/IllegalArgumentException", Cond.methodLink RX6 181 yX6_look, Cond.instanceMethod yX6_look, Cond.selects RX6 yX6_look yX6_look, Cond.code yX6_look cX6_look 6 (some .int), Cond.fieldLink RX6 50 "MoonGate" "view" "LMoonGate$View;", Cond.fieldLink RX6 194 "MoonGate$View" "beauty" "I", Cond.methodLink RX6 307 yX5_begin]
def wsX6_advise_r2 : List Cond := [Cond.instanceMethod yX5_begin, Cond.selects RX5 yX5_begin yX5_begin, Cond.initialized RX5, Cond.code yX5_begin cX5_begin 1 none, Cond.fieldLink RX5 7 "MoonGate$View" "cells" "I", Cond.fieldLink RX5 13 "MoonGate$View" "rocks" "I", Cond.fieldLink RX5 16 "MoonGate$View" "pondCells" "I", Cond.fieldLink RX5 19 "MoonGate$View" "beauty" "I", Cond.fieldLink RX5 22 "MoonGate$View" "shapesShown" "I", Cond.methodLink RX6 310 yX2_directionOf, Cond.instanceMethod yX2_directionOf, Cond.selects RX2 yX2_directionOf yX2_directionOf, Cond.initialized RX2, Cond.code yX2_directionOf cX2_directionOf 2 (some .int), Cond.fieldLink RX2 15 "MoonGate$Gates" "directions" "[I", Cond.methodLink RX2 22 yX2_isNumber, Cond.instanceMethod yX2_isNumber, Cond.selects RX2 yX2_isNumber yX2_isNumber, Cond.code yX2_isNumber cX2_isNumber 2 (some .boolean), Cond.fieldLink RX2 18 "MoonGate$Gates" "many" "I", Cond.methodLink RX6 313 yX2_placeOf, Cond.instanceMethod yX2_placeOf, Cond.selects RX2 yX2_placeOf yX2_placeOf, Cond.code yX2_placeOf cX2_placeOf 2 (some .int)]
def wsX6_advise_r3 : List Cond := [Cond.fieldLink RX2 9 "MoonGate$Gates" "places" "[I", Cond.methodLink RX6 314 yX1_beside, Cond.instanceMethod yX1_beside, Cond.selects RX1 yX1_beside yX1_beside, Cond.initialized RX1, Cond.code yX1_beside cX1_beside 5 (some .int), Cond.fieldLink RX1 47 "MoonGate$Garden" "STEP_X" "[I", Cond.fieldLink RX1 50 "MoonGate$Garden" "STEP_Y" "[I", Cond.methodLink RX1 40 yX1_isPlace, Cond.static yX1_isPlace, Cond.code yX1_isPlace cX1_isPlace 1 (some .boolean), Cond.methodLink RX1 44 yX1_isDirection, Cond.static yX1_isDirection, Cond.code yX1_isDirection cX1_isDirection 1 (some .boolean), Cond.methodLink RX1 53 yX1_isInside, Cond.static yX1_isInside, Cond.code yX1_isInside cX1_isInside 2 (some .boolean), Cond.methodLink RX1 57 yX1_numberOf, Cond.static yX1_numberOf, Cond.code yX1_numberOf cX1_numberOf 2 (some .int), Cond.methodLink RX6 317 yX1_isWall, Cond.instanceMethod yX1_isWall, Cond.selects RX1 yX1_isWall yX1_isWall, Cond.code yX1_isWall cX1_isWall 2 (some .boolean)]
def wsX6_advise_r4 : List Cond := [Cond.methodLink RX1 61 yX1_kindAt, Cond.instanceMethod yX1_kindAt, Cond.selects RX1 yX1_kindAt yX1_kindAt, Cond.code yX1_kindAt cX1_kindAt 2 (some .int), Cond.fieldLink RX1 11 "MoonGate$Garden" "kinds" "[I", Cond.methodLink RX6 320 yX6_show, Cond.instanceMethod yX6_show, Cond.selects RX6 yX6_show yX6_show, Cond.code yX6_show cX6_show 4 none, Cond.fieldLink RX6 185 "MoonGate$View" "cells" "I", Cond.fieldLink RX6 19 "MoonGate" "shoal" "LMoonGate$Shoal;", Cond.methodLink RX6 115 yX1_kindAt, Cond.methodLink RX6 118 yX1_shapeAt, Cond.instanceMethod yX1_shapeAt, Cond.selects RX1 yX1_shapeAt yX1_shapeAt, Cond.code yX1_shapeAt cX1_shapeAt 2 (some .int), Cond.fieldLink RX1 15 "MoonGate$Garden" "shapes" "[I", Cond.methodLink RX6 106 yX1_sizeAt, Cond.instanceMethod yX1_sizeAt, Cond.selects RX1 yX1_sizeAt yX1_sizeAt, Cond.code yX1_sizeAt cX1_sizeAt 2 (some .int), Cond.fieldLink RX1 18 "MoonGate$Garden" "sizes" "[I", Cond.methodLink RX6 327 yX5_addRock, Cond.instanceMethod yX5_addRock]
def wsX6_advise_r5 : List Cond := [Cond.selects RX5 yX5_addRock yX5_addRock, Cond.code yX5_addRock cX5_addRock 4 none, Cond.methodLink RX6 330 yX4_sizesIn, Cond.instanceMethod yX4_sizesIn, Cond.selects RX4 yX4_sizesIn yX4_sizesIn, Cond.initialized RX4, Cond.code yX4_sizesIn cX4_sizesIn 5 (some .int), Cond.fieldLink RX4 19 "MoonGate$Shoal" "came" "I", Cond.fieldLink RX4 9 "MoonGate$Shoal" "places" "[I", Cond.fieldLink RX4 15 "MoonGate$Shoal" "sold" "[Z", Cond.methodLink RX4 30 yX0_carpSize, Cond.instanceMethod yX0_carpSize, Cond.selects RX0 yX0_carpSize yX0_carpSize, Cond.initialized RX0, Cond.code yX0_carpSize cX0_carpSize 2 (some .int), Cond.fieldLink RX0 18 "MoonGate$Course" "carpSizes" "[I", Cond.methodLink RX6 333 yX5_addPondCell, Cond.instanceMethod yX5_addPondCell, Cond.selects RX5 yX5_addPondCell yX5_addPondCell, Cond.code yX5_addPondCell cX5_addPondCell 2 none, Cond.methodLink RX6 324 yX1_isGreatRock, Cond.instanceMethod yX1_isGreatRock, Cond.selects RX1 yX1_isGreatRock yX1_isGreatRock, Cond.code yX1_isGreatRock cX1_isGreatRock 2 (some .boolean)]
def wsX6_advise_r6 : List Cond := [Cond.methodLink RX1 65 yX1_sizeAt, Cond.methodLink RX6 90 yX1_isBare, Cond.instanceMethod yX1_isBare, Cond.selects RX1 yX1_isBare yX1_isBare, Cond.code yX1_isBare cX1_isBare 2 (some .boolean), Cond.methodLink RX6 258 yX6_beautyWithRock, Cond.instanceMethod yX6_beautyWithRock, Cond.selects RX6 yX6_beautyWithRock yX6_beautyWithRock, Cond.code yX6_beautyWithRock cX6_beautyWithRock 6 (some .int), Cond.methodLink RX6 72 yX1_setRock, Cond.instanceMethod yX1_setRock, Cond.selects RX1 yX1_setRock yX1_setRock, Cond.code yX1_setRock cX1_setRock 4 none, Cond.methodLink RX1 68 yX1_setCell, Cond.instanceMethod yX1_setCell, Cond.selects RX1 yX1_setCell yX1_setCell, Cond.code yX1_setCell cX1_setCell 5 none, Cond.methodLink RX6 304 yX1_takeRock, Cond.instanceMethod yX1_takeRock, Cond.selects RX1 yX1_takeRock yX1_takeRock, Cond.code yX1_takeRock cX1_takeRock 2 none]
def wsX6_advise : List Cond := .code yX6_advise cX6_advise 8 (some .int) :: ((wsX6_advise_r1 ++ (wsX6_advise_r2 ++ (wsX6_advise_r3 ++ (wsX6_advise_r4 ++ (wsX6_advise_r5 ++ wsX6_advise_r6))))) ++ wsX60 ++ wsX20 ++ wsX50 ++ wsX10 ++ wsX40 ++ wsX00 ++ (vx_atS RX6 253 "java/lang/IndexOutOfBoundsException" ["java/lang/RuntimeException", "java/lang/Exception"]).filter goodWord ++ (vx_atS RX6 170 "java/lang/IllegalArgumentException" ["java/lang/RuntimeException", "java/lang/Exception"]).filter goodWord)
def wsX6_finest_r1 : List Cond := [Cond.fieldLink RX6 26 "MoonGate" "gates" "LMoonGate$Gates;", Cond.fieldLink RX6 171 "MoonGate$Gates" "many" "I", Cond.fieldLink RX6 40 "MoonGate" "now" "LMoonGate$Course;", Cond.methodLink RX6 181 yX6_look, Cond.instanceMethod yX6_look, Cond.selects RX6 yX6_look yX6_look, Cond.initialized RX6, Cond.code yX6_look cX6_look 6 (some .int), Cond.fieldLink RX6 50 "MoonGate" "view" "LMoonGate$View;", Cond.fieldLink RX6 10 "MoonGate" "garden" "LMoonGate$Garden;", Cond.fieldLink RX6 194 "MoonGate$View" "beauty" "I", Cond.methodLink RX6 307 yX5_begin, Cond.instanceMethod yX5_begin, Cond.selects RX5 yX5_begin yX5_begin, Cond.initialized RX5, Cond.code yX5_begin cX5_begin 1 none, Cond.fieldLink RX5 7 "MoonGate$View" "cells" "I", Cond.fieldLink RX5 13 "MoonGate$View" "rocks" "I", Cond.fieldLink RX5 16 "MoonGate$View" "pondCells" "I", Cond.fieldLink RX5 19 "MoonGate$View" "beauty" "I", Cond.fieldLink RX5 22 "MoonGate$View" "shapesShown" "I", Cond.methodLink RX6 310 yX2_directionOf, Cond.instanceMethod yX2_directionOf, Cond.selects RX2 yX2_directionOf yX2_directionOf]
def wsX6_finest_r2 : List Cond := [Cond.initialized RX2, Cond.code yX2_directionOf cX2_directionOf 2 (some .int), Cond.fieldLink RX2 15 "MoonGate$Gates" "directions" "[I", Cond.methodLink RX2 22 yX2_isNumber, Cond.instanceMethod yX2_isNumber, Cond.selects RX2 yX2_isNumber yX2_isNumber, Cond.code yX2_isNumber cX2_isNumber 2 (some .boolean), Cond.fieldLink RX2 18 "MoonGate$Gates" "many" "I", Cond.methodLink RX6 313 yX2_placeOf, Cond.instanceMethod yX2_placeOf, Cond.selects RX2 yX2_placeOf yX2_placeOf, Cond.code yX2_placeOf cX2_placeOf 2 (some .int), Cond.fieldLink RX2 9 "MoonGate$Gates" "places" "[I", Cond.methodLink RX6 314 yX1_beside, Cond.instanceMethod yX1_beside, Cond.selects RX1 yX1_beside yX1_beside, Cond.initialized RX1, Cond.code yX1_beside cX1_beside 5 (some .int), Cond.fieldLink RX1 47 "MoonGate$Garden" "STEP_X" "[I", Cond.fieldLink RX1 50 "MoonGate$Garden" "STEP_Y" "[I", Cond.methodLink RX1 40 yX1_isPlace, Cond.static yX1_isPlace, Cond.code yX1_isPlace cX1_isPlace 1 (some .boolean), Cond.methodLink RX1 44 yX1_isDirection]
def wsX6_finest_r3 : List Cond := [Cond.static yX1_isDirection, Cond.code yX1_isDirection cX1_isDirection 1 (some .boolean), Cond.methodLink RX1 53 yX1_isInside, Cond.static yX1_isInside, Cond.code yX1_isInside cX1_isInside 2 (some .boolean), Cond.methodLink RX1 57 yX1_numberOf, Cond.static yX1_numberOf, Cond.code yX1_numberOf cX1_numberOf 2 (some .int), Cond.methodLink RX6 317 yX1_isWall, Cond.instanceMethod yX1_isWall, Cond.selects RX1 yX1_isWall yX1_isWall, Cond.code yX1_isWall cX1_isWall 2 (some .boolean), Cond.methodLink RX1 61 yX1_kindAt, Cond.instanceMethod yX1_kindAt, Cond.selects RX1 yX1_kindAt yX1_kindAt, Cond.code yX1_kindAt cX1_kindAt 2 (some .int), Cond.fieldLink RX1 11 "MoonGate$Garden" "kinds" "[I", Cond.methodLink RX6 320 yX6_show, Cond.instanceMethod yX6_show, Cond.selects RX6 yX6_show yX6_show, Cond.code yX6_show cX6_show 4 none, Cond.fieldLink RX6 185 "MoonGate$View" "cells" "I", Cond.fieldLink RX6 19 "MoonGate" "shoal" "LMoonGate$Shoal;", Cond.methodLink RX6 115 yX1_kindAt]
def wsX6_finest_r4 : List Cond := [Cond.methodLink RX6 118 yX1_shapeAt, Cond.instanceMethod yX1_shapeAt, Cond.selects RX1 yX1_shapeAt yX1_shapeAt, Cond.code yX1_shapeAt cX1_shapeAt 2 (some .int), Cond.fieldLink RX1 15 "MoonGate$Garden" "shapes" "[I", Cond.methodLink RX6 106 yX1_sizeAt, Cond.instanceMethod yX1_sizeAt, Cond.selects RX1 yX1_sizeAt yX1_sizeAt, Cond.code yX1_sizeAt cX1_sizeAt 2 (some .int), Cond.fieldLink RX1 18 "MoonGate$Garden" "sizes" "[I", Cond.methodLink RX6 327 yX5_addRock, Cond.instanceMethod yX5_addRock, Cond.selects RX5 yX5_addRock yX5_addRock, Cond.code yX5_addRock cX5_addRock 4 none, Cond.methodLink RX6 330 yX4_sizesIn, Cond.instanceMethod yX4_sizesIn, Cond.selects RX4 yX4_sizesIn yX4_sizesIn, Cond.initialized RX4, Cond.code yX4_sizesIn cX4_sizesIn 5 (some .int), Cond.fieldLink RX4 19 "MoonGate$Shoal" "came" "I", Cond.fieldLink RX4 9 "MoonGate$Shoal" "places" "[I", Cond.fieldLink RX4 15 "MoonGate$Shoal" "sold" "[Z", Cond.methodLink RX4 30 yX0_carpSize, Cond.instanceMethod yX0_carpSize]
def wsX6_finest_r5 : List Cond := [Cond.selects RX0 yX0_carpSize yX0_carpSize, Cond.initialized RX0, Cond.code yX0_carpSize cX0_carpSize 2 (some .int), Cond.fieldLink RX0 18 "MoonGate$Course" "carpSizes" "[I", Cond.methodLink RX6 333 yX5_addPondCell, Cond.instanceMethod yX5_addPondCell, Cond.selects RX5 yX5_addPondCell yX5_addPondCell, Cond.code yX5_addPondCell cX5_addPondCell 2 none, Cond.methodLink RX6 324 yX1_isGreatRock, Cond.instanceMethod yX1_isGreatRock, Cond.selects RX1 yX1_isGreatRock yX1_isGreatRock, Cond.code yX1_isGreatRock cX1_isGreatRock 2 (some .boolean), Cond.methodLink RX1 65 yX1_sizeAt]
def wsX6_finest : List Cond := .code yX6_finest cX6_finest 5 (some .int) :: ((wsX6_finest_r1 ++ (wsX6_finest_r2 ++ (wsX6_finest_r3 ++ (wsX6_finest_r4 ++ wsX6_finest_r5)))) ++ wsX60 ++ wsX20 ++ wsX50 ++ wsX10 ++ wsX40 ++ wsX00)
def wsX6_mean_r1 : List Cond := [Cond.fieldLink RX6 26 "MoonGate" "gates" "LMoonGate$Gates;", Cond.fieldLink RX6 171 "MoonGate$Gates" "many" "I", Cond.fieldLink RX6 40 "MoonGate" "now" "LMoonGate$Course;", Cond.methodLink RX6 181 yX6_look, Cond.instanceMethod yX6_look, Cond.selects RX6 yX6_look yX6_look, Cond.initialized RX6, Cond.code yX6_look cX6_look 6 (some .int), Cond.fieldLink RX6 50 "MoonGate" "view" "LMoonGate$View;", Cond.fieldLink RX6 10 "MoonGate" "garden" "LMoonGate$Garden;", Cond.fieldLink RX6 194 "MoonGate$View" "beauty" "I", Cond.methodLink RX6 307 yX5_begin, Cond.instanceMethod yX5_begin, Cond.selects RX5 yX5_begin yX5_begin, Cond.initialized RX5, Cond.code yX5_begin cX5_begin 1 none, Cond.fieldLink RX5 7 "MoonGate$View" "cells" "I", Cond.fieldLink RX5 13 "MoonGate$View" "rocks" "I", Cond.fieldLink RX5 16 "MoonGate$View" "pondCells" "I", Cond.fieldLink RX5 19 "MoonGate$View" "beauty" "I", Cond.fieldLink RX5 22 "MoonGate$View" "shapesShown" "I", Cond.methodLink RX6 310 yX2_directionOf, Cond.instanceMethod yX2_directionOf, Cond.selects RX2 yX2_directionOf yX2_directionOf]
def wsX6_mean_r2 : List Cond := [Cond.initialized RX2, Cond.code yX2_directionOf cX2_directionOf 2 (some .int), Cond.fieldLink RX2 15 "MoonGate$Gates" "directions" "[I", Cond.methodLink RX2 22 yX2_isNumber, Cond.instanceMethod yX2_isNumber, Cond.selects RX2 yX2_isNumber yX2_isNumber, Cond.code yX2_isNumber cX2_isNumber 2 (some .boolean), Cond.fieldLink RX2 18 "MoonGate$Gates" "many" "I", Cond.methodLink RX6 313 yX2_placeOf, Cond.instanceMethod yX2_placeOf, Cond.selects RX2 yX2_placeOf yX2_placeOf, Cond.code yX2_placeOf cX2_placeOf 2 (some .int), Cond.fieldLink RX2 9 "MoonGate$Gates" "places" "[I", Cond.methodLink RX6 314 yX1_beside, Cond.instanceMethod yX1_beside, Cond.selects RX1 yX1_beside yX1_beside, Cond.initialized RX1, Cond.code yX1_beside cX1_beside 5 (some .int), Cond.fieldLink RX1 47 "MoonGate$Garden" "STEP_X" "[I", Cond.fieldLink RX1 50 "MoonGate$Garden" "STEP_Y" "[I", Cond.methodLink RX1 40 yX1_isPlace, Cond.static yX1_isPlace, Cond.code yX1_isPlace cX1_isPlace 1 (some .boolean), Cond.methodLink RX1 44 yX1_isDirection]
def wsX6_mean_r3 : List Cond := [Cond.static yX1_isDirection, Cond.code yX1_isDirection cX1_isDirection 1 (some .boolean), Cond.methodLink RX1 53 yX1_isInside, Cond.static yX1_isInside, Cond.code yX1_isInside cX1_isInside 2 (some .boolean), Cond.methodLink RX1 57 yX1_numberOf, Cond.static yX1_numberOf, Cond.code yX1_numberOf cX1_numberOf 2 (some .int), Cond.methodLink RX6 317 yX1_isWall, Cond.instanceMethod yX1_isWall, Cond.selects RX1 yX1_isWall yX1_isWall, Cond.code yX1_isWall cX1_isWall 2 (some .boolean), Cond.methodLink RX1 61 yX1_kindAt, Cond.instanceMethod yX1_kindAt, Cond.selects RX1 yX1_kindAt yX1_kindAt, Cond.code yX1_kindAt cX1_kindAt 2 (some .int), Cond.fieldLink RX1 11 "MoonGate$Garden" "kinds" "[I", Cond.methodLink RX6 320 yX6_show, Cond.instanceMethod yX6_show, Cond.selects RX6 yX6_show yX6_show, Cond.code yX6_show cX6_show 4 none, Cond.fieldLink RX6 185 "MoonGate$View" "cells" "I", Cond.fieldLink RX6 19 "MoonGate" "shoal" "LMoonGate$Shoal;", Cond.methodLink RX6 115 yX1_kindAt]
def wsX6_mean_r4 : List Cond := [Cond.methodLink RX6 118 yX1_shapeAt, Cond.instanceMethod yX1_shapeAt, Cond.selects RX1 yX1_shapeAt yX1_shapeAt, Cond.code yX1_shapeAt cX1_shapeAt 2 (some .int), Cond.fieldLink RX1 15 "MoonGate$Garden" "shapes" "[I", Cond.methodLink RX6 106 yX1_sizeAt, Cond.instanceMethod yX1_sizeAt, Cond.selects RX1 yX1_sizeAt yX1_sizeAt, Cond.code yX1_sizeAt cX1_sizeAt 2 (some .int), Cond.fieldLink RX1 18 "MoonGate$Garden" "sizes" "[I", Cond.methodLink RX6 327 yX5_addRock, Cond.instanceMethod yX5_addRock, Cond.selects RX5 yX5_addRock yX5_addRock, Cond.code yX5_addRock cX5_addRock 4 none, Cond.methodLink RX6 330 yX4_sizesIn, Cond.instanceMethod yX4_sizesIn, Cond.selects RX4 yX4_sizesIn yX4_sizesIn, Cond.initialized RX4, Cond.code yX4_sizesIn cX4_sizesIn 5 (some .int), Cond.fieldLink RX4 19 "MoonGate$Shoal" "came" "I", Cond.fieldLink RX4 9 "MoonGate$Shoal" "places" "[I", Cond.fieldLink RX4 15 "MoonGate$Shoal" "sold" "[Z", Cond.methodLink RX4 30 yX0_carpSize, Cond.instanceMethod yX0_carpSize]
def wsX6_mean_r5 : List Cond := [Cond.selects RX0 yX0_carpSize yX0_carpSize, Cond.initialized RX0, Cond.code yX0_carpSize cX0_carpSize 2 (some .int), Cond.fieldLink RX0 18 "MoonGate$Course" "carpSizes" "[I", Cond.methodLink RX6 333 yX5_addPondCell, Cond.instanceMethod yX5_addPondCell, Cond.selects RX5 yX5_addPondCell yX5_addPondCell, Cond.code yX5_addPondCell cX5_addPondCell 2 none, Cond.methodLink RX6 324 yX1_isGreatRock, Cond.instanceMethod yX1_isGreatRock, Cond.selects RX1 yX1_isGreatRock yX1_isGreatRock, Cond.code yX1_isGreatRock cX1_isGreatRock 2 (some .boolean), Cond.methodLink RX1 65 yX1_sizeAt]
def wsX6_mean : List Cond := .code yX6_mean cX6_mean 3 (some .double) :: ((wsX6_mean_r1 ++ (wsX6_mean_r2 ++ (wsX6_mean_r3 ++ (wsX6_mean_r4 ++ wsX6_mean_r5)))) ++ wsX60 ++ wsX20 ++ wsX50 ++ wsX10 ++ wsX40 ++ wsX00)
def wsX6_digestOfCells_r1 : List Cond := [Cond.constantLong RX6 264 (31), Cond.methodLink RX6 282 yX6_cell, Cond.instanceMethod yX6_cell, Cond.selects RX6 yX6_cell yX6_cell, Cond.initialized RX6, Cond.code yX6_cell cX6_cell 5 (some .int), Cond.fieldLink RX6 10 "MoonGate" "garden" "LMoonGate$Garden;", Cond.methodLink RX6 54 yX6_checkPlace, Cond.instanceMethod yX6_checkPlace, Cond.selects RX6 yX6_checkPlace yX6_checkPlace, Cond.code yX6_checkPlace cX6_checkPlace 3 none, Cond.classLink RX6 249 "java/lang/IndexOutOfBoundsException", Cond.initialized "java/lang/IndexOutOfBoundsException", Cond.methodLink RX6 336 yX1_isInside, Cond.static yX1_isInside, Cond.initialized RX1, Cond.code yX1_isInside cX1_isInside 2 (some .boolean), Cond.methodLink RX6 112 yX6_checkWhat, Cond.instanceMethod yX6_checkWhat, Cond.selects RX6 yX6_checkWhat yX6_checkWhat, Cond.code yX6_checkWhat cX6_checkWhat 3 none, Cond.methodLink RX6 61 yX1_numberOf, Cond.static yX1_numberOf, Cond.code yX1_numberOf cX1_numberOf 2 (some .int)]
def wsX6_digestOfCells_r2 : List Cond := [Cond.methodLink RX6 115 yX1_kindAt, Cond.instanceMethod yX1_kindAt, Cond.selects RX1 yX1_kindAt yX1_kindAt, Cond.code yX1_kindAt cX1_kindAt 2 (some .int), Cond.fieldLink RX1 11 "MoonGate$Garden" "kinds" "[I", Cond.methodLink RX1 40 yX1_isPlace, Cond.static yX1_isPlace, Cond.code yX1_isPlace cX1_isPlace 1 (some .boolean), Cond.methodLink RX6 118 yX1_shapeAt, Cond.instanceMethod yX1_shapeAt, Cond.selects RX1 yX1_shapeAt yX1_shapeAt, Cond.code yX1_shapeAt cX1_shapeAt 2 (some .int), Cond.fieldLink RX1 15 "MoonGate$Garden" "shapes" "[I", Cond.methodLink RX6 106 yX1_sizeAt, Cond.instanceMethod yX1_sizeAt, Cond.selects RX1 yX1_sizeAt yX1_sizeAt, Cond.code yX1_sizeAt cX1_sizeAt 2 (some .int), Cond.fieldLink RX1 18 "MoonGate$Garden" "sizes" "[I", Cond.methodLink RX6 83 yX1_cellsOfPondAt, Cond.instanceMethod yX1_cellsOfPondAt, Cond.selects RX1 yX1_cellsOfPondAt yX1_cellsOfPondAt, Cond.code yX1_cellsOfPondAt cX1_cellsOfPondAt 3 (some .int), Cond.fieldLink RX1 27 "MoonGate$Garden" "pondCells" "[I", Cond.methodLink RX1 78 yX1_pondAt]
def wsX6_digestOfCells_r3 : List Cond := [Cond.instanceMethod yX1_pondAt, Cond.selects RX1 yX1_pondAt yX1_pondAt, Cond.code yX1_pondAt cX1_pondAt 3 (some .int), Cond.fieldLink RX1 24 "MoonGate$Garden" "pondOf" "[I", Cond.methodLink RX6 121 yX1_carpsOfPondAt, Cond.instanceMethod yX1_carpsOfPondAt, Cond.selects RX1 yX1_carpsOfPondAt yX1_carpsOfPondAt, Cond.code yX1_carpsOfPondAt cX1_carpsOfPondAt 3 (some .int), Cond.fieldLink RX1 30 "MoonGate$Garden" "pondCarps" "[I"]
def wsX6_digestOfCells : List Cond := .code yX6_digestOfCells cX6_digestOfCells 8 (some .long) :: ((wsX6_digestOfCells_r1 ++ (wsX6_digestOfCells_r2 ++ wsX6_digestOfCells_r3)) ++ wsX60 ++ wsX10 ++ (vx_atS RX6 253 "java/lang/IndexOutOfBoundsException" ["java/lang/RuntimeException", "java/lang/Exception"]).filter goodWord)
def wsX6_digestOfCarps_r1 : List Cond := [Cond.fieldLink RX6 19 "MoonGate" "shoal" "LMoonGate$Shoal;", Cond.fieldLink RX6 129 "MoonGate$Shoal" "came" "I", Cond.constantLong RX6 264 (31), Cond.methodLink RX6 286 yX6_told, Cond.instanceMethod yX6_told, Cond.selects RX6 yX6_told yX6_told, Cond.initialized RX6, Cond.code yX6_told cX6_told 3 (some .int), Cond.fieldLink RX6 40 "MoonGate" "now" "LMoonGate$Course;", Cond.methodLink RX6 143 yX6_checkCarp, Cond.instanceMethod yX6_checkCarp, Cond.selects RX6 yX6_checkCarp yX6_checkCarp, Cond.code yX6_checkCarp cX6_checkCarp 2 none, Cond.classLink RX6 249 "java/lang/IndexOutOfBoundsException", Cond.initialized "java/lang/IndexOutOfBoundsException", Cond.methodLink RX6 112 yX6_checkWhat, Cond.instanceMethod yX6_checkWhat, Cond.selects RX6 yX6_checkWhat yX6_checkWhat, Cond.code yX6_checkWhat cX6_checkWhat 3 none, Cond.methodLink RX6 154 yX4_placeOf, Cond.instanceMethod yX4_placeOf, Cond.selects RX4 yX4_placeOf yX4_placeOf, Cond.initialized RX4, Cond.code yX4_placeOf cX4_placeOf 2 (some .int)]
def wsX6_digestOfCarps_r2 : List Cond := [Cond.fieldLink RX4 9 "MoonGate$Shoal" "places" "[I", Cond.methodLink RX4 23 yX4_isNumber, Cond.instanceMethod yX4_isNumber, Cond.selects RX4 yX4_isNumber yX4_isNumber, Cond.code yX4_isNumber cX4_isNumber 2 (some .boolean), Cond.fieldLink RX4 19 "MoonGate$Shoal" "came" "I", Cond.methodLink RX6 157 yX0_carpSize, Cond.instanceMethod yX0_carpSize, Cond.selects RX0 yX0_carpSize yX0_carpSize, Cond.initialized RX0, Cond.code yX0_carpSize cX0_carpSize 2 (some .int), Cond.fieldLink RX0 18 "MoonGate$Course" "carpSizes" "[I", Cond.methodLink RX6 146 yX4_isHere, Cond.instanceMethod yX4_isHere, Cond.selects RX4 yX4_isHere yX4_isHere, Cond.code yX4_isHere cX4_isHere 2 (some .boolean), Cond.fieldLink RX4 15 "MoonGate$Shoal" "sold" "[Z", Cond.methodLink RX6 160 yX6_rankOf, Cond.instanceMethod yX6_rankOf, Cond.selects RX6 yX6_rankOf yX6_rankOf, Cond.code yX6_rankOf cX6_rankOf 4 (some .int)]
def wsX6_digestOfCarps : List Cond := .code yX6_digestOfCarps cX6_digestOfCarps 7 (some .long) :: ((wsX6_digestOfCarps_r1 ++ wsX6_digestOfCarps_r2) ++ wsX60 ++ wsX40 ++ wsX00 ++ (vx_atS RX6 253 "java/lang/IndexOutOfBoundsException" ["java/lang/RuntimeException", "java/lang/Exception"]).filter goodWord)
def wsX6_digestOfGates_r1 : List Cond := [Cond.fieldLink RX6 26 "MoonGate" "gates" "LMoonGate$Gates;", Cond.fieldLink RX6 171 "MoonGate$Gates" "many" "I", Cond.constantLong RX6 264 (31), Cond.methodLink RX6 289 yX6_about, Cond.instanceMethod yX6_about, Cond.selects RX6 yX6_about yX6_about, Cond.initialized RX6, Cond.code yX6_about cX6_about 3 (some .int), Cond.fieldLink RX6 40 "MoonGate" "now" "LMoonGate$Course;", Cond.fieldLink RX6 50 "MoonGate" "view" "LMoonGate$View;", Cond.fieldLink RX6 185 "MoonGate$View" "cells" "I", Cond.fieldLink RX6 188 "MoonGate$View" "rocks" "I", Cond.fieldLink RX6 191 "MoonGate$View" "pondCells" "I", Cond.fieldLink RX6 194 "MoonGate$View" "beauty" "I", Cond.fieldLink RX6 33 "MoonGate" "poets" "LMoonGate$Poets;", Cond.methodLink RX6 178 yX6_checkGate, Cond.instanceMethod yX6_checkGate, Cond.selects RX6 yX6_checkGate yX6_checkGate, Cond.code yX6_checkGate cX6_checkGate 2 none, Cond.classLink RX6 249 "java/lang/IndexOutOfBoundsException", Cond.initialized "java/lang/IndexOutOfBoundsException", Cond.methodLink RX6 112 yX6_checkWhat, Cond.instanceMethod yX6_checkWhat, Cond.selects RX6 yX6_checkWhat yX6_checkWhat]
def wsX6_digestOfGates_r2 : List Cond := [Cond.code yX6_checkWhat cX6_checkWhat 3 none, Cond.methodLink RX6 181 yX6_look, Cond.instanceMethod yX6_look, Cond.selects RX6 yX6_look yX6_look, Cond.code yX6_look cX6_look 6 (some .int), Cond.fieldLink RX6 10 "MoonGate" "garden" "LMoonGate$Garden;", Cond.methodLink RX6 307 yX5_begin, Cond.instanceMethod yX5_begin, Cond.selects RX5 yX5_begin yX5_begin, Cond.initialized RX5, Cond.code yX5_begin cX5_begin 1 none, Cond.fieldLink RX5 7 "MoonGate$View" "cells" "I", Cond.fieldLink RX5 13 "MoonGate$View" "rocks" "I", Cond.fieldLink RX5 16 "MoonGate$View" "pondCells" "I", Cond.fieldLink RX5 19 "MoonGate$View" "beauty" "I", Cond.fieldLink RX5 22 "MoonGate$View" "shapesShown" "I", Cond.methodLink RX6 310 yX2_directionOf, Cond.instanceMethod yX2_directionOf, Cond.selects RX2 yX2_directionOf yX2_directionOf, Cond.initialized RX2, Cond.code yX2_directionOf cX2_directionOf 2 (some .int), Cond.fieldLink RX2 15 "MoonGate$Gates" "directions" "[I", Cond.methodLink RX2 22 yX2_isNumber, Cond.instanceMethod yX2_isNumber]
def wsX6_digestOfGates_r3 : List Cond := [Cond.selects RX2 yX2_isNumber yX2_isNumber, Cond.code yX2_isNumber cX2_isNumber 2 (some .boolean), Cond.fieldLink RX2 18 "MoonGate$Gates" "many" "I", Cond.methodLink RX6 313 yX2_placeOf, Cond.instanceMethod yX2_placeOf, Cond.selects RX2 yX2_placeOf yX2_placeOf, Cond.code yX2_placeOf cX2_placeOf 2 (some .int), Cond.fieldLink RX2 9 "MoonGate$Gates" "places" "[I", Cond.methodLink RX6 314 yX1_beside, Cond.instanceMethod yX1_beside, Cond.selects RX1 yX1_beside yX1_beside, Cond.initialized RX1, Cond.code yX1_beside cX1_beside 5 (some .int), Cond.fieldLink RX1 47 "MoonGate$Garden" "STEP_X" "[I", Cond.fieldLink RX1 50 "MoonGate$Garden" "STEP_Y" "[I", Cond.methodLink RX1 40 yX1_isPlace, Cond.static yX1_isPlace, Cond.code yX1_isPlace cX1_isPlace 1 (some .boolean), Cond.methodLink RX1 44 yX1_isDirection, Cond.static yX1_isDirection, Cond.code yX1_isDirection cX1_isDirection 1 (some .boolean), Cond.methodLink RX1 53 yX1_isInside, Cond.static yX1_isInside, Cond.code yX1_isInside cX1_isInside 2 (some .boolean)]
def wsX6_digestOfGates_r4 : List Cond := [Cond.methodLink RX1 57 yX1_numberOf, Cond.static yX1_numberOf, Cond.code yX1_numberOf cX1_numberOf 2 (some .int), Cond.methodLink RX6 317 yX1_isWall, Cond.instanceMethod yX1_isWall, Cond.selects RX1 yX1_isWall yX1_isWall, Cond.code yX1_isWall cX1_isWall 2 (some .boolean), Cond.methodLink RX1 61 yX1_kindAt, Cond.instanceMethod yX1_kindAt, Cond.selects RX1 yX1_kindAt yX1_kindAt, Cond.code yX1_kindAt cX1_kindAt 2 (some .int), Cond.fieldLink RX1 11 "MoonGate$Garden" "kinds" "[I", Cond.methodLink RX6 320 yX6_show, Cond.instanceMethod yX6_show, Cond.selects RX6 yX6_show yX6_show, Cond.code yX6_show cX6_show 4 none, Cond.fieldLink RX6 19 "MoonGate" "shoal" "LMoonGate$Shoal;", Cond.methodLink RX6 115 yX1_kindAt, Cond.methodLink RX6 118 yX1_shapeAt, Cond.instanceMethod yX1_shapeAt, Cond.selects RX1 yX1_shapeAt yX1_shapeAt, Cond.code yX1_shapeAt cX1_shapeAt 2 (some .int), Cond.fieldLink RX1 15 "MoonGate$Garden" "shapes" "[I", Cond.methodLink RX6 106 yX1_sizeAt]
def wsX6_digestOfGates_r5 : List Cond := [Cond.instanceMethod yX1_sizeAt, Cond.selects RX1 yX1_sizeAt yX1_sizeAt, Cond.code yX1_sizeAt cX1_sizeAt 2 (some .int), Cond.fieldLink RX1 18 "MoonGate$Garden" "sizes" "[I", Cond.methodLink RX6 327 yX5_addRock, Cond.instanceMethod yX5_addRock, Cond.selects RX5 yX5_addRock yX5_addRock, Cond.code yX5_addRock cX5_addRock 4 none, Cond.methodLink RX6 330 yX4_sizesIn, Cond.instanceMethod yX4_sizesIn, Cond.selects RX4 yX4_sizesIn yX4_sizesIn, Cond.initialized RX4, Cond.code yX4_sizesIn cX4_sizesIn 5 (some .int), Cond.fieldLink RX4 19 "MoonGate$Shoal" "came" "I", Cond.fieldLink RX4 9 "MoonGate$Shoal" "places" "[I", Cond.fieldLink RX4 15 "MoonGate$Shoal" "sold" "[Z", Cond.methodLink RX4 30 yX0_carpSize, Cond.instanceMethod yX0_carpSize, Cond.selects RX0 yX0_carpSize yX0_carpSize, Cond.initialized RX0, Cond.code yX0_carpSize cX0_carpSize 2 (some .int), Cond.fieldLink RX0 18 "MoonGate$Course" "carpSizes" "[I", Cond.methodLink RX6 333 yX5_addPondCell, Cond.instanceMethod yX5_addPondCell]
def wsX6_digestOfGates_r6 : List Cond := [Cond.selects RX5 yX5_addPondCell yX5_addPondCell, Cond.code yX5_addPondCell cX5_addPondCell 2 none, Cond.methodLink RX6 324 yX1_isGreatRock, Cond.instanceMethod yX1_isGreatRock, Cond.selects RX1 yX1_isGreatRock yX1_isGreatRock, Cond.code yX1_isGreatRock cX1_isGreatRock 2 (some .boolean), Cond.methodLink RX1 65 yX1_sizeAt, Cond.methodLink RX6 197 yX3_manyAt, Cond.instanceMethod yX3_manyAt, Cond.selects RX3 yX3_manyAt yX3_manyAt, Cond.initialized RX3, Cond.code yX3_manyAt cX3_manyAt 4 (some .int), Cond.fieldLink RX3 15 "MoonGate$Poets" "many" "I", Cond.methodLink RX3 23 yX3_gateOf, Cond.instanceMethod yX3_gateOf, Cond.selects RX3 yX3_gateOf yX3_gateOf, Cond.code yX3_gateOf cX3_gateOf 2 (some .int), Cond.fieldLink RX3 9 "MoonGate$Poets" "gatesOf" "[I", Cond.methodLink RX3 19 yX3_isNumber, Cond.instanceMethod yX3_isNumber, Cond.selects RX3 yX3_isNumber yX3_isNumber, Cond.code yX3_isNumber cX3_isNumber 2 (some .boolean)]
def wsX6_digestOfGates : List Cond := .code yX6_digestOfGates cX6_digestOfGates 7 (some .long) :: ((wsX6_digestOfGates_r1 ++ (wsX6_digestOfGates_r2 ++ (wsX6_digestOfGates_r3 ++ (wsX6_digestOfGates_r4 ++ (wsX6_digestOfGates_r5 ++ wsX6_digestOfGates_r6))))) ++ wsX60 ++ wsX20 ++ wsX50 ++ wsX10 ++ wsX40 ++ wsX00 ++ wsX30 ++ (vx_atS RX6 253 "java/lang/IndexOutOfBoundsException" ["java/lang/RuntimeException", "java/lang/Exception"]).filter goodWord)
def wsX6_digest_r1 : List Cond := [Cond.constantLong RX6 262 (1193), Cond.constantLong RX6 264 (31), Cond.fieldLink RX6 33 "MoonGate" "poets" "LMoonGate$Poets;", Cond.fieldLink RX6 200 "MoonGate$Poets" "many" "I", Cond.methodLink RX6 266 yX6_count, Cond.instanceMethod yX6_count, Cond.selects RX6 yX6_count yX6_count, Cond.initialized RX6, Cond.code yX6_count cX6_count 2 (some .int), Cond.fieldLink RX6 40 "MoonGate" "now" "LMoonGate$Course;", Cond.fieldLink RX6 216 "MoonGate$Course" "day" "I", Cond.fieldLink RX6 10 "MoonGate" "garden" "LMoonGate$Garden;", Cond.fieldLink RX6 226 "MoonGate$Garden" "ponds" "I", Cond.fieldLink RX6 19 "MoonGate" "shoal" "LMoonGate$Shoal;", Cond.fieldLink RX6 26 "MoonGate" "gates" "LMoonGate$Gates;", Cond.fieldLink RX6 171 "MoonGate$Gates" "many" "I", Cond.methodLink RX6 112 yX6_checkWhat, Cond.instanceMethod yX6_checkWhat, Cond.selects RX6 yX6_checkWhat yX6_checkWhat, Cond.code yX6_checkWhat cX6_checkWhat 3 none, Cond.classLink RX6 249 "java/lang/IndexOutOfBoundsException", Cond.initialized "java/lang/IndexOutOfBoundsException", Cond.methodLink RX6 219 yX0_isFullMoon, Cond.instanceMethod yX0_isFullMoon]
def wsX6_digest_r2 : List Cond := [Cond.selects RX0 yX0_isFullMoon yX0_isFullMoon, Cond.initialized RX0, Cond.code yX0_isFullMoon cX0_isFullMoon 1 (some .boolean), Cond.fieldLink RX0 9 "MoonGate$Course" "day" "I", Cond.methodLink RX6 223 yX1_manyOf, Cond.instanceMethod yX1_manyOf, Cond.selects RX1 yX1_manyOf yX1_manyOf, Cond.initialized RX1, Cond.code yX1_manyOf cX1_manyOf 4 (some .int), Cond.fieldLink RX1 11 "MoonGate$Garden" "kinds" "[I", Cond.methodLink RX6 229 yX4_manyHere, Cond.instanceMethod yX4_manyHere, Cond.selects RX4 yX4_manyHere yX4_manyHere, Cond.initialized RX4, Cond.code yX4_manyHere cX4_manyHere 3 (some .int), Cond.fieldLink RX4 19 "MoonGate$Shoal" "came" "I", Cond.methodLink RX4 27 yX4_isHere, Cond.instanceMethod yX4_isHere, Cond.selects RX4 yX4_isHere yX4_isHere, Cond.code yX4_isHere cX4_isHere 2 (some .boolean), Cond.fieldLink RX4 15 "MoonGate$Shoal" "sold" "[Z", Cond.methodLink RX4 23 yX4_isNumber, Cond.instanceMethod yX4_isNumber, Cond.selects RX4 yX4_isNumber yX4_isNumber]
def wsX6_digest_r3 : List Cond := [Cond.code yX4_isNumber cX4_isNumber 2 (some .boolean), Cond.methodLink RX6 233 yX6_changingCount, Cond.instanceMethod yX6_changingCount, Cond.selects RX6 yX6_changingCount yX6_changingCount, Cond.code yX6_changingCount cX6_changingCount 3 (some .int), Cond.fieldLink RX6 76 "MoonGate$Course" "coins" "I", Cond.methodLink RX6 236 yX4_sizesHere, Cond.instanceMethod yX4_sizesHere, Cond.selects RX4 yX4_sizesHere yX4_sizesHere, Cond.code yX4_sizesHere cX4_sizesHere 4 (some .int), Cond.methodLink RX4 30 yX0_carpSize, Cond.instanceMethod yX0_carpSize, Cond.selects RX0 yX0_carpSize yX0_carpSize, Cond.code yX0_carpSize cX0_carpSize 2 (some .int), Cond.fieldLink RX0 18 "MoonGate$Course" "carpSizes" "[I", Cond.methodLink RX6 240 yX0_writtenByAll, Cond.instanceMethod yX0_writtenByAll, Cond.selects RX0 yX0_writtenByAll yX0_writtenByAll, Cond.code yX0_writtenByAll cX0_writtenByAll 3 (some .int), Cond.fieldLink RX0 22 "MoonGate$Course" "linesWritten" "[I", Cond.methodLink RX6 269 yX6_digestOfCells, Cond.instanceMethod yX6_digestOfCells, Cond.selects RX6 yX6_digestOfCells yX6_digestOfCells, Cond.code yX6_digestOfCells cX6_digestOfCells 8 (some .long)]
def wsX6_digest_r4 : List Cond := [Cond.methodLink RX6 282 yX6_cell, Cond.instanceMethod yX6_cell, Cond.selects RX6 yX6_cell yX6_cell, Cond.code yX6_cell cX6_cell 5 (some .int), Cond.methodLink RX6 54 yX6_checkPlace, Cond.instanceMethod yX6_checkPlace, Cond.selects RX6 yX6_checkPlace yX6_checkPlace, Cond.code yX6_checkPlace cX6_checkPlace 3 none, Cond.methodLink RX6 336 yX1_isInside, Cond.static yX1_isInside, Cond.code yX1_isInside cX1_isInside 2 (some .boolean), Cond.methodLink RX6 61 yX1_numberOf, Cond.static yX1_numberOf, Cond.code yX1_numberOf cX1_numberOf 2 (some .int), Cond.methodLink RX6 115 yX1_kindAt, Cond.instanceMethod yX1_kindAt, Cond.selects RX1 yX1_kindAt yX1_kindAt, Cond.code yX1_kindAt cX1_kindAt 2 (some .int), Cond.methodLink RX1 40 yX1_isPlace, Cond.static yX1_isPlace, Cond.code yX1_isPlace cX1_isPlace 1 (some .boolean), Cond.methodLink RX6 118 yX1_shapeAt, Cond.instanceMethod yX1_shapeAt, Cond.selects RX1 yX1_shapeAt yX1_shapeAt]
def wsX6_digest_r5 : List Cond := [Cond.code yX1_shapeAt cX1_shapeAt 2 (some .int), Cond.fieldLink RX1 15 "MoonGate$Garden" "shapes" "[I", Cond.methodLink RX6 106 yX1_sizeAt, Cond.instanceMethod yX1_sizeAt, Cond.selects RX1 yX1_sizeAt yX1_sizeAt, Cond.code yX1_sizeAt cX1_sizeAt 2 (some .int), Cond.fieldLink RX1 18 "MoonGate$Garden" "sizes" "[I", Cond.methodLink RX6 83 yX1_cellsOfPondAt, Cond.instanceMethod yX1_cellsOfPondAt, Cond.selects RX1 yX1_cellsOfPondAt yX1_cellsOfPondAt, Cond.code yX1_cellsOfPondAt cX1_cellsOfPondAt 3 (some .int), Cond.fieldLink RX1 27 "MoonGate$Garden" "pondCells" "[I", Cond.methodLink RX1 78 yX1_pondAt, Cond.instanceMethod yX1_pondAt, Cond.selects RX1 yX1_pondAt yX1_pondAt, Cond.code yX1_pondAt cX1_pondAt 3 (some .int), Cond.fieldLink RX1 24 "MoonGate$Garden" "pondOf" "[I", Cond.methodLink RX6 121 yX1_carpsOfPondAt, Cond.instanceMethod yX1_carpsOfPondAt, Cond.selects RX1 yX1_carpsOfPondAt yX1_carpsOfPondAt, Cond.code yX1_carpsOfPondAt cX1_carpsOfPondAt 3 (some .int), Cond.fieldLink RX1 30 "MoonGate$Garden" "pondCarps" "[I", Cond.methodLink RX6 273 yX6_digestOfCarps, Cond.instanceMethod yX6_digestOfCarps]
def wsX6_digest_r6 : List Cond := [Cond.selects RX6 yX6_digestOfCarps yX6_digestOfCarps, Cond.code yX6_digestOfCarps cX6_digestOfCarps 7 (some .long), Cond.fieldLink RX6 129 "MoonGate$Shoal" "came" "I", Cond.methodLink RX6 286 yX6_told, Cond.instanceMethod yX6_told, Cond.selects RX6 yX6_told yX6_told, Cond.code yX6_told cX6_told 3 (some .int), Cond.methodLink RX6 143 yX6_checkCarp, Cond.instanceMethod yX6_checkCarp, Cond.selects RX6 yX6_checkCarp yX6_checkCarp, Cond.code yX6_checkCarp cX6_checkCarp 2 none, Cond.methodLink RX6 154 yX4_placeOf, Cond.instanceMethod yX4_placeOf, Cond.selects RX4 yX4_placeOf yX4_placeOf, Cond.code yX4_placeOf cX4_placeOf 2 (some .int), Cond.fieldLink RX4 9 "MoonGate$Shoal" "places" "[I", Cond.methodLink RX6 157 yX0_carpSize, Cond.methodLink RX6 146 yX4_isHere, Cond.methodLink RX6 160 yX6_rankOf, Cond.instanceMethod yX6_rankOf, Cond.selects RX6 yX6_rankOf yX6_rankOf, Cond.code yX6_rankOf cX6_rankOf 4 (some .int), Cond.methodLink RX6 276 yX6_digestOfGates, Cond.instanceMethod yX6_digestOfGates]
def wsX6_digest_r7 : List Cond := [Cond.selects RX6 yX6_digestOfGates yX6_digestOfGates, Cond.code yX6_digestOfGates cX6_digestOfGates 7 (some .long), Cond.methodLink RX6 289 yX6_about, Cond.instanceMethod yX6_about, Cond.selects RX6 yX6_about yX6_about, Cond.code yX6_about cX6_about 3 (some .int), Cond.fieldLink RX6 50 "MoonGate" "view" "LMoonGate$View;", Cond.fieldLink RX6 185 "MoonGate$View" "cells" "I", Cond.fieldLink RX6 188 "MoonGate$View" "rocks" "I", Cond.fieldLink RX6 191 "MoonGate$View" "pondCells" "I", Cond.fieldLink RX6 194 "MoonGate$View" "beauty" "I", Cond.methodLink RX6 178 yX6_checkGate, Cond.instanceMethod yX6_checkGate, Cond.selects RX6 yX6_checkGate yX6_checkGate, Cond.code yX6_checkGate cX6_checkGate 2 none, Cond.methodLink RX6 181 yX6_look, Cond.instanceMethod yX6_look, Cond.selects RX6 yX6_look yX6_look, Cond.code yX6_look cX6_look 6 (some .int), Cond.methodLink RX6 307 yX5_begin, Cond.instanceMethod yX5_begin, Cond.selects RX5 yX5_begin yX5_begin, Cond.initialized RX5, Cond.code yX5_begin cX5_begin 1 none]
def wsX6_digest_r8 : List Cond := [Cond.fieldLink RX5 7 "MoonGate$View" "cells" "I", Cond.fieldLink RX5 13 "MoonGate$View" "rocks" "I", Cond.fieldLink RX5 16 "MoonGate$View" "pondCells" "I", Cond.fieldLink RX5 19 "MoonGate$View" "beauty" "I", Cond.fieldLink RX5 22 "MoonGate$View" "shapesShown" "I", Cond.methodLink RX6 310 yX2_directionOf, Cond.instanceMethod yX2_directionOf, Cond.selects RX2 yX2_directionOf yX2_directionOf, Cond.initialized RX2, Cond.code yX2_directionOf cX2_directionOf 2 (some .int), Cond.fieldLink RX2 15 "MoonGate$Gates" "directions" "[I", Cond.methodLink RX2 22 yX2_isNumber, Cond.instanceMethod yX2_isNumber, Cond.selects RX2 yX2_isNumber yX2_isNumber, Cond.code yX2_isNumber cX2_isNumber 2 (some .boolean), Cond.fieldLink RX2 18 "MoonGate$Gates" "many" "I", Cond.methodLink RX6 313 yX2_placeOf, Cond.instanceMethod yX2_placeOf, Cond.selects RX2 yX2_placeOf yX2_placeOf, Cond.code yX2_placeOf cX2_placeOf 2 (some .int), Cond.fieldLink RX2 9 "MoonGate$Gates" "places" "[I", Cond.methodLink RX6 314 yX1_beside, Cond.instanceMethod yX1_beside, Cond.selects RX1 yX1_beside yX1_beside]
def wsX6_digest_r9 : List Cond := [Cond.code yX1_beside cX1_beside 5 (some .int), Cond.fieldLink RX1 47 "MoonGate$Garden" "STEP_X" "[I", Cond.fieldLink RX1 50 "MoonGate$Garden" "STEP_Y" "[I", Cond.methodLink RX1 44 yX1_isDirection, Cond.static yX1_isDirection, Cond.code yX1_isDirection cX1_isDirection 1 (some .boolean), Cond.methodLink RX1 53 yX1_isInside, Cond.methodLink RX1 57 yX1_numberOf, Cond.methodLink RX6 317 yX1_isWall, Cond.instanceMethod yX1_isWall, Cond.selects RX1 yX1_isWall yX1_isWall, Cond.code yX1_isWall cX1_isWall 2 (some .boolean), Cond.methodLink RX1 61 yX1_kindAt, Cond.methodLink RX6 320 yX6_show, Cond.instanceMethod yX6_show, Cond.selects RX6 yX6_show yX6_show, Cond.code yX6_show cX6_show 4 none, Cond.methodLink RX6 327 yX5_addRock, Cond.instanceMethod yX5_addRock, Cond.selects RX5 yX5_addRock yX5_addRock, Cond.code yX5_addRock cX5_addRock 4 none, Cond.methodLink RX6 330 yX4_sizesIn, Cond.instanceMethod yX4_sizesIn, Cond.selects RX4 yX4_sizesIn yX4_sizesIn]
def wsX6_digest_r10 : List Cond := [Cond.code yX4_sizesIn cX4_sizesIn 5 (some .int), Cond.methodLink RX6 333 yX5_addPondCell, Cond.instanceMethod yX5_addPondCell, Cond.selects RX5 yX5_addPondCell yX5_addPondCell, Cond.code yX5_addPondCell cX5_addPondCell 2 none, Cond.methodLink RX6 324 yX1_isGreatRock, Cond.instanceMethod yX1_isGreatRock, Cond.selects RX1 yX1_isGreatRock yX1_isGreatRock, Cond.code yX1_isGreatRock cX1_isGreatRock 2 (some .boolean), Cond.methodLink RX1 65 yX1_sizeAt, Cond.methodLink RX6 197 yX3_manyAt, Cond.instanceMethod yX3_manyAt, Cond.selects RX3 yX3_manyAt yX3_manyAt, Cond.initialized RX3, Cond.code yX3_manyAt cX3_manyAt 4 (some .int), Cond.fieldLink RX3 15 "MoonGate$Poets" "many" "I", Cond.methodLink RX3 23 yX3_gateOf, Cond.instanceMethod yX3_gateOf, Cond.selects RX3 yX3_gateOf yX3_gateOf, Cond.code yX3_gateOf cX3_gateOf 2 (some .int), Cond.fieldLink RX3 9 "MoonGate$Poets" "gatesOf" "[I", Cond.methodLink RX3 19 yX3_isNumber, Cond.instanceMethod yX3_isNumber, Cond.selects RX3 yX3_isNumber yX3_isNumber]
def wsX6_digest_r11 : List Cond := [Cond.code yX3_isNumber cX3_isNumber 2 (some .boolean), Cond.methodLink RX6 279 yX6_lines, Cond.instanceMethod yX6_lines, Cond.selects RX6 yX6_lines yX6_lines, Cond.code yX6_lines cX6_lines 2 (some .int), Cond.methodLink RX6 204 yX6_checkPoet, Cond.instanceMethod yX6_checkPoet, Cond.selects RX6 yX6_checkPoet yX6_checkPoet, Cond.code yX6_checkPoet cX6_checkPoet 2 none, Cond.methodLink RX6 213 yX0_written, Cond.instanceMethod yX0_written, Cond.selects RX0 yX0_written yX0_written, Cond.code yX0_written cX0_written 2 (some .int)]
def wsX6_digest : List Cond := .code yX6_digest cX6_digest 4 (some .long) :: ((wsX6_digest_r1 ++ (wsX6_digest_r2 ++ (wsX6_digest_r3 ++ (wsX6_digest_r4 ++ (wsX6_digest_r5 ++ (wsX6_digest_r6 ++ (wsX6_digest_r7 ++ (wsX6_digest_r8 ++ (wsX6_digest_r9 ++ (wsX6_digest_r10 ++ wsX6_digest_r11)))))))))) ++ wsX60 ++ wsX30 ++ wsX00 ++ wsX10 ++ wsX20 ++ wsX40 ++ wsX50 ++ (vx_atS RX6 253 "java/lang/IndexOutOfBoundsException" ["java/lang/RuntimeException", "java/lang/Exception"]).filter goodWord)
def wsX7_init : List Cond := .code yX7_init cX7_init 1 none :: ([.methodLink RX7 1 objectInit, .instanceMethod objectInit, .code objectInit ⟨#[0xb1]⟩ 1 none, .fieldLink RX7 7 "MoonGateLaw$Sim" "coins" "I", .fieldLink RX7 15 "MoonGateLaw$Sim" "cells" "[[[I", .classLink RX7 18 "[I", .fieldLink RX7 20 "MoonGateLaw$Sim" "carps" "[[I", .fieldLink RX7 24 "MoonGateLaw$Sim" "gates" "[[I", .fieldLink RX7 27 "MoonGateLaw$Sim" "poets" "[[I"] ++ wsX70)
def wsX7_more : List Cond := .code yX7_more cX7_more 4 (some (.array (.array .int))) :: ([.classLink RX7 18 "[I"])
def wsX7_pond : List Cond := .code yX7_pond cX7_pond 8 (some (.array (.array .boolean))) :: ([.classLink RX7 34 "[[Z", .arrayClass .boolean, .fieldLink RX7 15 "MoonGateLaw$Sim" "cells" "[[[I"] ++ wsX70)
def wsX7_many : List Cond := .code yX7_many cX7_many 10 (some .int) :: ([])
def wsX7_carpsIn : List Cond := .code yX7_carpsIn cX7_carpsIn 7 (some .int) :: ([.fieldLink RX7 20 "MoonGateLaw$Sim" "carps" "[[I"] ++ wsX70)
def wsX7_shows : List Cond := .code yX7_shows cX7_shows 6 (some (.array (.array .int))) :: ([.classLink RX7 18 "[I", .fieldLink RX7 15 "MoonGateLaw$Sim" "cells" "[[[I", .arrayClass .int, .methodLink RX7 36 yX7_more, .static yX7_more, .initialized RX7, .code yX7_more cX7_more 4 (some (.array (.array .int)))] ++ wsX70)
def wsX7_beauty : List Cond := .code yX7_beauty cX7_beauty 11 (some .int) :: ([.fieldLink RX7 15 "MoonGateLaw$Sim" "cells" "[[[I", .fieldLink RX7 20 "MoonGateLaw$Sim" "carps" "[[I", .methodLink RX7 40 yX7_shows, .instanceMethod yX7_shows, .selects RX7 yX7_shows yX7_shows, .initialized RX7, .code yX7_shows cX7_shows 6 (some (.array (.array .int))), .classLink RX7 18 "[I", .arrayClass .int, .methodLink RX7 36 yX7_more, .static yX7_more, .code yX7_more cX7_more 4 (some (.array (.array .int)))] ++ wsX70)
def wsX7_pass_r1 : List Cond := [Cond.fieldLink RX7 20 "MoonGateLaw$Sim" "carps" "[[I", Cond.fieldLink RX7 27 "MoonGateLaw$Sim" "poets" "[[I", Cond.fieldLink RX7 24 "MoonGateLaw$Sim" "gates" "[[I", Cond.fieldLink RX7 59 "MoonGateLaw$Sim" "day" "I", Cond.fieldLink RX7 7 "MoonGateLaw$Sim" "coins" "I", Cond.methodLink RX7 44 yX7_pond, Cond.instanceMethod yX7_pond, Cond.selects RX7 yX7_pond yX7_pond, Cond.initialized RX7, Cond.code yX7_pond cX7_pond 8 (some (.array (.array .boolean))), Cond.classLink RX7 34 "[[Z", Cond.arrayClass .boolean, Cond.fieldLink RX7 15 "MoonGateLaw$Sim" "cells" "[[[I", Cond.methodLink RX7 48 yX7_carpsIn, Cond.instanceMethod yX7_carpsIn, Cond.selects RX7 yX7_carpsIn yX7_carpsIn, Cond.code yX7_carpsIn cX7_carpsIn 7 (some .int), Cond.methodLink RX7 52 yX7_many, Cond.static yX7_many, Cond.code yX7_many cX7_many 10 (some .int), Cond.methodLink RX7 55 yX7_beauty, Cond.instanceMethod yX7_beauty, Cond.selects RX7 yX7_beauty yX7_beauty, Cond.code yX7_beauty cX7_beauty 11 (some .int)]
def wsX7_pass_r2 : List Cond := [Cond.methodLink RX7 40 yX7_shows, Cond.instanceMethod yX7_shows, Cond.selects RX7 yX7_shows yX7_shows, Cond.code yX7_shows cX7_shows 6 (some (.array (.array .int))), Cond.classLink RX7 18 "[I", Cond.arrayClass .int, Cond.methodLink RX7 36 yX7_more, Cond.static yX7_more, Cond.code yX7_more cX7_more 4 (some (.array (.array .int)))]
def wsX7_pass : List Cond := .code yX7_pass cX7_pass 7 (some .int) :: ((wsX7_pass_r1 ++ wsX7_pass_r2) ++ wsX70)
def wsX7_counts : List Cond := .code yX7_counts cX7_counts 12 (some (.array .int)) :: ([.classLink RX7 34 "[[Z", .arrayClass .boolean, .fieldLink RX7 15 "MoonGateLaw$Sim" "cells" "[[[I", .fieldLink RX7 20 "MoonGateLaw$Sim" "carps" "[[I", .fieldLink RX7 27 "MoonGateLaw$Sim" "poets" "[[I", .arrayClass .int, .fieldLink RX7 59 "MoonGateLaw$Sim" "day" "I", .fieldLink RX7 7 "MoonGateLaw$Sim" "coins" "I", .fieldLink RX7 24 "MoonGateLaw$Sim" "gates" "[[I", .methodLink RX7 44 yX7_pond, .instanceMethod yX7_pond, .selects RX7 yX7_pond yX7_pond, .initialized RX7, .code yX7_pond cX7_pond 8 (some (.array (.array .boolean)))] ++ wsX70)
def wsX7_isSame_r1 : List Cond := [Cond.fieldLink RX7 15 "MoonGateLaw$Sim" "cells" "[[[I", Cond.arrayClass .int, Cond.fieldLink RX7 20 "MoonGateLaw$Sim" "carps" "[[I", Cond.fieldLink RX7 24 "MoonGateLaw$Sim" "gates" "[[I", Cond.fieldLink RX7 27 "MoonGateLaw$Sim" "poets" "[[I", Cond.methodLink RX7 44 yX7_pond, Cond.instanceMethod yX7_pond, Cond.selects RX7 yX7_pond yX7_pond, Cond.initialized RX7, Cond.code yX7_pond cX7_pond 8 (some (.array (.array .boolean))), Cond.classLink RX7 34 "[[Z", Cond.arrayClass .boolean, Cond.methodLink RX7 52 yX7_many, Cond.static yX7_many, Cond.code yX7_many cX7_many 10 (some .int), Cond.methodLink RX7 48 yX7_carpsIn, Cond.instanceMethod yX7_carpsIn, Cond.selects RX7 yX7_carpsIn yX7_carpsIn, Cond.code yX7_carpsIn cX7_carpsIn 7 (some .int), Cond.methodLink RX7 67 yX6_cell, Cond.instanceMethod yX6_cell, Cond.selects RX6 yX6_cell yX6_cell, Cond.initialized RX6, Cond.code yX6_cell cX6_cell 5 (some .int)]
def wsX7_isSame_r2 : List Cond := [Cond.fieldLink RX6 10 "MoonGate" "garden" "LMoonGate$Garden;", Cond.methodLink RX6 54 yX6_checkPlace, Cond.instanceMethod yX6_checkPlace, Cond.selects RX6 yX6_checkPlace yX6_checkPlace, Cond.code yX6_checkPlace cX6_checkPlace 3 none, Cond.classLink RX6 249 "java/lang/IndexOutOfBoundsException", Cond.initialized "java/lang/IndexOutOfBoundsException", Cond.methodLink RX6 336 yX1_isInside, Cond.static yX1_isInside, Cond.initialized RX1, Cond.code yX1_isInside cX1_isInside 2 (some .boolean), Cond.methodLink RX6 112 yX6_checkWhat, Cond.instanceMethod yX6_checkWhat, Cond.selects RX6 yX6_checkWhat yX6_checkWhat, Cond.code yX6_checkWhat cX6_checkWhat 3 none, Cond.methodLink RX6 61 yX1_numberOf, Cond.static yX1_numberOf, Cond.code yX1_numberOf cX1_numberOf 2 (some .int), Cond.methodLink RX6 115 yX1_kindAt, Cond.instanceMethod yX1_kindAt, Cond.selects RX1 yX1_kindAt yX1_kindAt, Cond.code yX1_kindAt cX1_kindAt 2 (some .int), Cond.fieldLink RX1 11 "MoonGate$Garden" "kinds" "[I", Cond.methodLink RX1 40 yX1_isPlace]
def wsX7_isSame_r3 : List Cond := [Cond.static yX1_isPlace, Cond.code yX1_isPlace cX1_isPlace 1 (some .boolean), Cond.methodLink RX6 118 yX1_shapeAt, Cond.instanceMethod yX1_shapeAt, Cond.selects RX1 yX1_shapeAt yX1_shapeAt, Cond.code yX1_shapeAt cX1_shapeAt 2 (some .int), Cond.fieldLink RX1 15 "MoonGate$Garden" "shapes" "[I", Cond.methodLink RX6 106 yX1_sizeAt, Cond.instanceMethod yX1_sizeAt, Cond.selects RX1 yX1_sizeAt yX1_sizeAt, Cond.code yX1_sizeAt cX1_sizeAt 2 (some .int), Cond.fieldLink RX1 18 "MoonGate$Garden" "sizes" "[I", Cond.methodLink RX6 83 yX1_cellsOfPondAt, Cond.instanceMethod yX1_cellsOfPondAt, Cond.selects RX1 yX1_cellsOfPondAt yX1_cellsOfPondAt, Cond.code yX1_cellsOfPondAt cX1_cellsOfPondAt 3 (some .int), Cond.fieldLink RX1 27 "MoonGate$Garden" "pondCells" "[I", Cond.methodLink RX1 78 yX1_pondAt, Cond.instanceMethod yX1_pondAt, Cond.selects RX1 yX1_pondAt yX1_pondAt, Cond.code yX1_pondAt cX1_pondAt 3 (some .int), Cond.fieldLink RX1 24 "MoonGate$Garden" "pondOf" "[I", Cond.methodLink RX6 121 yX1_carpsOfPondAt, Cond.instanceMethod yX1_carpsOfPondAt]
def wsX7_isSame_r4 : List Cond := [Cond.selects RX1 yX1_carpsOfPondAt yX1_carpsOfPondAt, Cond.code yX1_carpsOfPondAt cX1_carpsOfPondAt 3 (some .int), Cond.fieldLink RX1 30 "MoonGate$Garden" "pondCarps" "[I", Cond.methodLink RX7 73 yX6_told, Cond.instanceMethod yX6_told, Cond.selects RX6 yX6_told yX6_told, Cond.code yX6_told cX6_told 3 (some .int), Cond.fieldLink RX6 19 "MoonGate" "shoal" "LMoonGate$Shoal;", Cond.fieldLink RX6 40 "MoonGate" "now" "LMoonGate$Course;", Cond.methodLink RX6 143 yX6_checkCarp, Cond.instanceMethod yX6_checkCarp, Cond.selects RX6 yX6_checkCarp yX6_checkCarp, Cond.code yX6_checkCarp cX6_checkCarp 2 none, Cond.fieldLink RX6 129 "MoonGate$Shoal" "came" "I", Cond.methodLink RX6 154 yX4_placeOf, Cond.instanceMethod yX4_placeOf, Cond.selects RX4 yX4_placeOf yX4_placeOf, Cond.initialized RX4, Cond.code yX4_placeOf cX4_placeOf 2 (some .int), Cond.fieldLink RX4 9 "MoonGate$Shoal" "places" "[I", Cond.methodLink RX4 23 yX4_isNumber, Cond.instanceMethod yX4_isNumber, Cond.selects RX4 yX4_isNumber yX4_isNumber, Cond.code yX4_isNumber cX4_isNumber 2 (some .boolean)]
def wsX7_isSame_r5 : List Cond := [Cond.fieldLink RX4 19 "MoonGate$Shoal" "came" "I", Cond.methodLink RX6 157 yX0_carpSize, Cond.instanceMethod yX0_carpSize, Cond.selects RX0 yX0_carpSize yX0_carpSize, Cond.initialized RX0, Cond.code yX0_carpSize cX0_carpSize 2 (some .int), Cond.fieldLink RX0 18 "MoonGate$Course" "carpSizes" "[I", Cond.methodLink RX6 146 yX4_isHere, Cond.instanceMethod yX4_isHere, Cond.selects RX4 yX4_isHere yX4_isHere, Cond.code yX4_isHere cX4_isHere 2 (some .boolean), Cond.fieldLink RX4 15 "MoonGate$Shoal" "sold" "[Z", Cond.methodLink RX6 160 yX6_rankOf, Cond.instanceMethod yX6_rankOf, Cond.selects RX6 yX6_rankOf yX6_rankOf, Cond.code yX6_rankOf cX6_rankOf 4 (some .int), Cond.methodLink RX7 40 yX7_shows, Cond.instanceMethod yX7_shows, Cond.selects RX7 yX7_shows yX7_shows, Cond.code yX7_shows cX7_shows 6 (some (.array (.array .int))), Cond.classLink RX7 18 "[I", Cond.methodLink RX7 36 yX7_more, Cond.static yX7_more, Cond.code yX7_more cX7_more 4 (some (.array (.array .int)))]
def wsX7_isSame_r6 : List Cond := [Cond.methodLink RX7 55 yX7_beauty, Cond.instanceMethod yX7_beauty, Cond.selects RX7 yX7_beauty yX7_beauty, Cond.code yX7_beauty cX7_beauty 11 (some .int), Cond.methodLink RX7 77 yX6_about, Cond.instanceMethod yX6_about, Cond.selects RX6 yX6_about yX6_about, Cond.code yX6_about cX6_about 3 (some .int), Cond.fieldLink RX6 50 "MoonGate" "view" "LMoonGate$View;", Cond.fieldLink RX6 185 "MoonGate$View" "cells" "I", Cond.fieldLink RX6 188 "MoonGate$View" "rocks" "I", Cond.fieldLink RX6 191 "MoonGate$View" "pondCells" "I", Cond.fieldLink RX6 194 "MoonGate$View" "beauty" "I", Cond.fieldLink RX6 33 "MoonGate" "poets" "LMoonGate$Poets;", Cond.methodLink RX6 178 yX6_checkGate, Cond.instanceMethod yX6_checkGate, Cond.selects RX6 yX6_checkGate yX6_checkGate, Cond.code yX6_checkGate cX6_checkGate 2 none, Cond.fieldLink RX6 26 "MoonGate" "gates" "LMoonGate$Gates;", Cond.fieldLink RX6 171 "MoonGate$Gates" "many" "I", Cond.methodLink RX6 181 yX6_look, Cond.instanceMethod yX6_look, Cond.selects RX6 yX6_look yX6_look, Cond.code yX6_look cX6_look 6 (some .int)]
def wsX7_isSame_r7 : List Cond := [Cond.methodLink RX6 307 yX5_begin, Cond.instanceMethod yX5_begin, Cond.selects RX5 yX5_begin yX5_begin, Cond.initialized RX5, Cond.code yX5_begin cX5_begin 1 none, Cond.fieldLink RX5 7 "MoonGate$View" "cells" "I", Cond.fieldLink RX5 13 "MoonGate$View" "rocks" "I", Cond.fieldLink RX5 16 "MoonGate$View" "pondCells" "I", Cond.fieldLink RX5 19 "MoonGate$View" "beauty" "I", Cond.fieldLink RX5 22 "MoonGate$View" "shapesShown" "I", Cond.methodLink RX6 310 yX2_directionOf, Cond.instanceMethod yX2_directionOf, Cond.selects RX2 yX2_directionOf yX2_directionOf, Cond.initialized RX2, Cond.code yX2_directionOf cX2_directionOf 2 (some .int), Cond.fieldLink RX2 15 "MoonGate$Gates" "directions" "[I", Cond.methodLink RX2 22 yX2_isNumber, Cond.instanceMethod yX2_isNumber, Cond.selects RX2 yX2_isNumber yX2_isNumber, Cond.code yX2_isNumber cX2_isNumber 2 (some .boolean), Cond.fieldLink RX2 18 "MoonGate$Gates" "many" "I", Cond.methodLink RX6 313 yX2_placeOf, Cond.instanceMethod yX2_placeOf, Cond.selects RX2 yX2_placeOf yX2_placeOf]
def wsX7_isSame_r8 : List Cond := [Cond.code yX2_placeOf cX2_placeOf 2 (some .int), Cond.fieldLink RX2 9 "MoonGate$Gates" "places" "[I", Cond.methodLink RX6 314 yX1_beside, Cond.instanceMethod yX1_beside, Cond.selects RX1 yX1_beside yX1_beside, Cond.code yX1_beside cX1_beside 5 (some .int), Cond.fieldLink RX1 47 "MoonGate$Garden" "STEP_X" "[I", Cond.fieldLink RX1 50 "MoonGate$Garden" "STEP_Y" "[I", Cond.methodLink RX1 44 yX1_isDirection, Cond.static yX1_isDirection, Cond.code yX1_isDirection cX1_isDirection 1 (some .boolean), Cond.methodLink RX1 53 yX1_isInside, Cond.methodLink RX1 57 yX1_numberOf, Cond.methodLink RX6 317 yX1_isWall, Cond.instanceMethod yX1_isWall, Cond.selects RX1 yX1_isWall yX1_isWall, Cond.code yX1_isWall cX1_isWall 2 (some .boolean), Cond.methodLink RX1 61 yX1_kindAt, Cond.methodLink RX6 320 yX6_show, Cond.instanceMethod yX6_show, Cond.selects RX6 yX6_show yX6_show, Cond.code yX6_show cX6_show 4 none, Cond.methodLink RX6 327 yX5_addRock, Cond.instanceMethod yX5_addRock]
def wsX7_isSame_r9 : List Cond := [Cond.selects RX5 yX5_addRock yX5_addRock, Cond.code yX5_addRock cX5_addRock 4 none, Cond.methodLink RX6 330 yX4_sizesIn, Cond.instanceMethod yX4_sizesIn, Cond.selects RX4 yX4_sizesIn yX4_sizesIn, Cond.code yX4_sizesIn cX4_sizesIn 5 (some .int), Cond.methodLink RX4 30 yX0_carpSize, Cond.methodLink RX6 333 yX5_addPondCell, Cond.instanceMethod yX5_addPondCell, Cond.selects RX5 yX5_addPondCell yX5_addPondCell, Cond.code yX5_addPondCell cX5_addPondCell 2 none, Cond.methodLink RX6 324 yX1_isGreatRock, Cond.instanceMethod yX1_isGreatRock, Cond.selects RX1 yX1_isGreatRock yX1_isGreatRock, Cond.code yX1_isGreatRock cX1_isGreatRock 2 (some .boolean), Cond.methodLink RX1 65 yX1_sizeAt, Cond.methodLink RX6 197 yX3_manyAt, Cond.instanceMethod yX3_manyAt, Cond.selects RX3 yX3_manyAt yX3_manyAt, Cond.initialized RX3, Cond.code yX3_manyAt cX3_manyAt 4 (some .int), Cond.fieldLink RX3 15 "MoonGate$Poets" "many" "I", Cond.methodLink RX3 23 yX3_gateOf, Cond.instanceMethod yX3_gateOf]
def wsX7_isSame_r10 : List Cond := [Cond.selects RX3 yX3_gateOf yX3_gateOf, Cond.code yX3_gateOf cX3_gateOf 2 (some .int), Cond.fieldLink RX3 9 "MoonGate$Poets" "gatesOf" "[I", Cond.methodLink RX3 19 yX3_isNumber, Cond.instanceMethod yX3_isNumber, Cond.selects RX3 yX3_isNumber yX3_isNumber, Cond.code yX3_isNumber cX3_isNumber 2 (some .boolean), Cond.methodLink RX7 80 yX6_lines, Cond.instanceMethod yX6_lines, Cond.selects RX6 yX6_lines yX6_lines, Cond.code yX6_lines cX6_lines 2 (some .int), Cond.methodLink RX6 204 yX6_checkPoet, Cond.instanceMethod yX6_checkPoet, Cond.selects RX6 yX6_checkPoet yX6_checkPoet, Cond.code yX6_checkPoet cX6_checkPoet 2 none, Cond.fieldLink RX6 200 "MoonGate$Poets" "many" "I", Cond.methodLink RX6 213 yX0_written, Cond.instanceMethod yX0_written, Cond.selects RX0 yX0_written yX0_written, Cond.code yX0_written cX0_written 2 (some .int), Cond.fieldLink RX0 22 "MoonGate$Course" "linesWritten" "[I", Cond.methodLink RX7 84 yX7_counts, Cond.instanceMethod yX7_counts, Cond.selects RX7 yX7_counts yX7_counts]
def wsX7_isSame_r11 : List Cond := [Cond.code yX7_counts cX7_counts 12 (some (.array .int)), Cond.fieldLink RX7 59 "MoonGateLaw$Sim" "day" "I", Cond.fieldLink RX7 7 "MoonGateLaw$Sim" "coins" "I", Cond.methodLink RX7 88 yX6_count, Cond.instanceMethod yX6_count, Cond.selects RX6 yX6_count yX6_count, Cond.code yX6_count cX6_count 2 (some .int), Cond.fieldLink RX6 216 "MoonGate$Course" "day" "I", Cond.fieldLink RX6 226 "MoonGate$Garden" "ponds" "I", Cond.methodLink RX6 219 yX0_isFullMoon, Cond.instanceMethod yX0_isFullMoon, Cond.selects RX0 yX0_isFullMoon yX0_isFullMoon, Cond.code yX0_isFullMoon cX0_isFullMoon 1 (some .boolean), Cond.fieldLink RX0 9 "MoonGate$Course" "day" "I", Cond.methodLink RX6 223 yX1_manyOf, Cond.instanceMethod yX1_manyOf, Cond.selects RX1 yX1_manyOf yX1_manyOf, Cond.code yX1_manyOf cX1_manyOf 4 (some .int), Cond.methodLink RX6 229 yX4_manyHere, Cond.instanceMethod yX4_manyHere, Cond.selects RX4 yX4_manyHere yX4_manyHere, Cond.code yX4_manyHere cX4_manyHere 3 (some .int), Cond.methodLink RX4 27 yX4_isHere, Cond.methodLink RX6 233 yX6_changingCount]
def wsX7_isSame_r12 : List Cond := [Cond.instanceMethod yX6_changingCount, Cond.selects RX6 yX6_changingCount yX6_changingCount, Cond.code yX6_changingCount cX6_changingCount 3 (some .int), Cond.fieldLink RX6 76 "MoonGate$Course" "coins" "I", Cond.methodLink RX6 236 yX4_sizesHere, Cond.instanceMethod yX4_sizesHere, Cond.selects RX4 yX4_sizesHere yX4_sizesHere, Cond.code yX4_sizesHere cX4_sizesHere 4 (some .int), Cond.methodLink RX6 240 yX0_writtenByAll, Cond.instanceMethod yX0_writtenByAll, Cond.selects RX0 yX0_writtenByAll yX0_writtenByAll, Cond.code yX0_writtenByAll cX0_writtenByAll 3 (some .int), Cond.methodLink RX7 91 yX6_finest, Cond.instanceMethod yX6_finest, Cond.selects RX6 yX6_finest yX6_finest, Cond.code yX6_finest cX6_finest 5 (some .int), Cond.methodLink RX7 95 yX6_mean, Cond.instanceMethod yX6_mean, Cond.selects RX6 yX6_mean yX6_mean, Cond.code yX6_mean cX6_mean 3 (some .double)]
def wsX7_isSame : List Cond := .code yX7_isSame cX7_isSame 13 (some .boolean) :: ((wsX7_isSame_r1 ++ (wsX7_isSame_r2 ++ (wsX7_isSame_r3 ++ (wsX7_isSame_r4 ++ (wsX7_isSame_r5 ++ (wsX7_isSame_r6 ++ (wsX7_isSame_r7 ++ (wsX7_isSame_r8 ++ (wsX7_isSame_r9 ++ (wsX7_isSame_r10 ++ (wsX7_isSame_r11 ++ wsX7_isSame_r12))))))))))) ++ wsX70 ++ wsX60 ++ wsX10 ++ wsX40 ++ wsX00 ++ wsX50 ++ wsX20 ++ wsX30 ++ (vx_atS RX6 253 "java/lang/IndexOutOfBoundsException" ["java/lang/RuntimeException", "java/lang/Exception"]).filter goodWord)
def wsJ9_abs_0f7a4 : List Cond := .code yJ9_abs_0f7a4 cJ9_abs_0f7a4 1 (some .int) :: ([])
def wsJ9_max_7cf53 : List Cond := .code yJ9_max_7cf53 cJ9_max_7cf53 2 (some .int) :: ([])
def wsJ9_min_7cf53 : List Cond := .code yJ9_min_7cf53 cJ9_min_7cf53 2 (some .int) :: ([])
def wsL_below : List Cond := .code yL_below cL_below 2 (some .int) :: ([.constant RL 7 (2147483647)])
def wsL_cell : List Cond := .code yL_cell cL_cell 2 (some .int) :: ([.constant RL 8 (790386105)])
def wsL_act_r1 : List Cond := [Cond.classLink RL 31 "java/lang/IllegalStateException", Cond.fieldLink RL 15 "MoonGateLaw$Sim" "cells" "[[[I", Cond.fieldLink RL 21 "MoonGateLaw$Sim" "coins" "I", Cond.arrayClass .int, Cond.fieldLink RL 47 "MoonGateLaw$Sim" "carps" "[[I", Cond.fieldLink RL 65 "MoonGateLaw$Sim" "gates" "[[I", Cond.fieldLink RL 72 "MoonGateLaw$Sim" "poets" "[[I", Cond.methodLink RL 9 yL_below, Cond.static yL_below, Cond.initialized RL, Cond.code yL_below cL_below 2 (some .int), Cond.constant RL 7 (2147483647), Cond.methodLink RL 25 yX6_rock, Cond.instanceMethod yX6_rock, Cond.selects RX6 yX6_rock yX6_rock, Cond.initialized RX6, Cond.code yX6_rock cX6_rock 6 (some .int), Cond.fieldLink RX6 10 "MoonGate" "garden" "LMoonGate$Garden;", Cond.fieldLink RX6 40 "MoonGate" "now" "LMoonGate$Course;", Cond.fieldLink RX6 76 "MoonGate$Course" "coins" "I", Cond.methodLink RX6 54 yX6_checkPlace, Cond.instanceMethod yX6_checkPlace, Cond.selects RX6 yX6_checkPlace yX6_checkPlace, Cond.code yX6_checkPlace cX6_checkPlace 3 none]
def wsL_act_r2 : List Cond := [Cond.classLink RX6 249 "java/lang/IndexOutOfBoundsException", Cond.initialized "java/lang/IndexOutOfBoundsException", Cond.methodLink RX6 336 yX1_isInside, Cond.static yX1_isInside, Cond.initialized RX1, Cond.code yX1_isInside cX1_isInside 2 (some .boolean), Cond.methodLink RX6 58 yX6_checkRock, Cond.instanceMethod yX6_checkRock, Cond.selects RX6 yX6_checkRock yX6_checkRock, Cond.code yX6_checkRock cX6_checkRock 3 none, Cond.classLink RX6 166 "java/lang/IllegalArgumentException", Cond.initialized "java/lang/IllegalArgumentException", Cond.methodLink RX6 61 yX1_numberOf, Cond.static yX1_numberOf, Cond.code yX1_numberOf cX1_numberOf 2 (some .int), Cond.methodLink RX6 65 yX6_checkBare, Cond.instanceMethod yX6_checkBare, Cond.selects RX6 yX6_checkBare yX6_checkBare, Cond.code yX6_checkBare cX6_checkBare 2 none, Cond.classLink RX6 94 "java/lang/IllegalStateException", Cond.initialized "java/lang/IllegalStateException", Cond.methodLink RX6 90 yX1_isBare, Cond.instanceMethod yX1_isBare, Cond.selects RX1 yX1_isBare yX1_isBare]
def wsL_act_r3 : List Cond := [Cond.code yX1_isBare cX1_isBare 2 (some .boolean), Cond.methodLink RX1 61 yX1_kindAt, Cond.instanceMethod yX1_kindAt, Cond.selects RX1 yX1_kindAt yX1_kindAt, Cond.code yX1_kindAt cX1_kindAt 2 (some .int), Cond.fieldLink RX1 11 "MoonGate$Garden" "kinds" "[I", Cond.methodLink RX1 40 yX1_isPlace, Cond.static yX1_isPlace, Cond.code yX1_isPlace cX1_isPlace 1 (some .boolean), Cond.methodLink RX6 69 yX6_spend, Cond.instanceMethod yX6_spend, Cond.selects RX6 yX6_spend yX6_spend, Cond.code yX6_spend cX6_spend 2 none, Cond.methodLink RX6 72 yX1_setRock, Cond.instanceMethod yX1_setRock, Cond.selects RX1 yX1_setRock yX1_setRock, Cond.code yX1_setRock cX1_setRock 4 none, Cond.methodLink RX1 68 yX1_setCell, Cond.instanceMethod yX1_setCell, Cond.selects RX1 yX1_setCell yX1_setCell, Cond.code yX1_setCell cX1_setCell 5 none, Cond.fieldLink RX1 15 "MoonGate$Garden" "shapes" "[I", Cond.fieldLink RX1 18 "MoonGate$Garden" "sizes" "[I", Cond.methodLink RL 33 yX6_dig]
def wsL_act_r4 : List Cond := [Cond.instanceMethod yX6_dig, Cond.selects RX6 yX6_dig yX6_dig, Cond.code yX6_dig cX6_dig 4 (some .int), Cond.methodLink RX6 80 yX1_setPond, Cond.instanceMethod yX1_setPond, Cond.selects RX1 yX1_setPond yX1_setPond, Cond.code yX1_setPond cX1_setPond 2 none, Cond.methodLink RX1 72 yX1_surveyPonds, Cond.instanceMethod yX1_surveyPonds, Cond.selects RX1 yX1_surveyPonds yX1_surveyPonds, Cond.code yX1_surveyPonds cX1_surveyPonds 2 none, Cond.fieldLink RX1 24 "MoonGate$Garden" "pondOf" "[I", Cond.fieldLink RX1 36 "MoonGate$Garden" "ponds" "I", Cond.methodLink RX1 87 yX1_isUnknownPond, Cond.instanceMethod yX1_isUnknownPond, Cond.selects RX1 yX1_isUnknownPond yX1_isUnknownPond, Cond.code yX1_isUnknownPond cX1_isUnknownPond 2 (some .boolean), Cond.methodLink RX1 90 yX1_surveyPond, Cond.instanceMethod yX1_surveyPond, Cond.selects RX1 yX1_surveyPond yX1_surveyPond, Cond.code yX1_surveyPond cX1_surveyPond 6 none, Cond.fieldLink RX1 27 "MoonGate$Garden" "pondCells" "[I", Cond.fieldLink RX1 30 "MoonGate$Garden" "pondCarps" "[I", Cond.fieldLink RX1 33 "MoonGate$Garden" "reached" "[I"]
def wsL_act_r5 : List Cond := [Cond.fieldLink RX1 21 "MoonGate$Garden" "carps" "[I", Cond.methodLink RX1 94 yX1_reachOnFrom, Cond.instanceMethod yX1_reachOnFrom, Cond.selects RX1 yX1_reachOnFrom yX1_reachOnFrom, Cond.code yX1_reachOnFrom cX1_reachOnFrom 7 (some .int), Cond.methodLink RX1 98 yX1_beside, Cond.instanceMethod yX1_beside, Cond.selects RX1 yX1_beside yX1_beside, Cond.code yX1_beside cX1_beside 5 (some .int), Cond.fieldLink RX1 47 "MoonGate$Garden" "STEP_X" "[I", Cond.fieldLink RX1 50 "MoonGate$Garden" "STEP_Y" "[I", Cond.methodLink RX1 44 yX1_isDirection, Cond.static yX1_isDirection, Cond.code yX1_isDirection cX1_isDirection 1 (some .boolean), Cond.methodLink RX1 53 yX1_isInside, Cond.methodLink RX1 57 yX1_numberOf, Cond.methodLink RX6 83 yX1_cellsOfPondAt, Cond.instanceMethod yX1_cellsOfPondAt, Cond.selects RX1 yX1_cellsOfPondAt yX1_cellsOfPondAt, Cond.code yX1_cellsOfPondAt cX1_cellsOfPondAt 3 (some .int), Cond.methodLink RX1 78 yX1_pondAt, Cond.instanceMethod yX1_pondAt, Cond.selects RX1 yX1_pondAt yX1_pondAt, Cond.code yX1_pondAt cX1_pondAt 3 (some .int)]
def wsL_act_r6 : List Cond := [Cond.methodLink RL 36 yX7_pond, Cond.instanceMethod yX7_pond, Cond.selects RX7 yX7_pond yX7_pond, Cond.initialized RX7, Cond.code yX7_pond cX7_pond 8 (some (.array (.array .boolean))), Cond.classLink RX7 34 "[[Z", Cond.arrayClass .boolean, Cond.fieldLink RX7 15 "MoonGateLaw$Sim" "cells" "[[[I", Cond.methodLink RL 40 yX7_many, Cond.static yX7_many, Cond.code yX7_many cX7_many 10 (some .int), Cond.methodLink RL 44 yX6_wall, Cond.instanceMethod yX6_wall, Cond.selects RX6 yX6_wall yX6_wall, Cond.code yX6_wall cX6_wall 4 (some .int), Cond.methodLink RX6 87 yX1_setWall, Cond.instanceMethod yX1_setWall, Cond.selects RX1 yX1_setWall yX1_setWall, Cond.code yX1_setWall cX1_setWall 2 none, Cond.methodLink RL 51 yX6_clear, Cond.instanceMethod yX6_clear, Cond.selects RX6 yX6_clear yX6_clear, Cond.code yX6_clear cX6_clear 4 (some .int), Cond.methodLink RX6 101 yX1_hasCarps]
def wsL_act_r7 : List Cond := [Cond.instanceMethod yX1_hasCarps, Cond.selects RX1 yX1_hasCarps yX1_hasCarps, Cond.code yX1_hasCarps cX1_hasCarps 2 (some .boolean), Cond.methodLink RX6 106 yX1_sizeAt, Cond.instanceMethod yX1_sizeAt, Cond.selects RX1 yX1_sizeAt yX1_sizeAt, Cond.code yX1_sizeAt cX1_sizeAt 2 (some .int), Cond.methodLink RX6 109 yX1_setBare, Cond.instanceMethod yX1_setBare, Cond.selects RX1 yX1_setBare yX1_setBare, Cond.code yX1_setBare cX1_setBare 3 none, Cond.methodLink RX1 75 yX1_isPond, Cond.instanceMethod yX1_isPond, Cond.selects RX1 yX1_isPond yX1_isPond, Cond.code yX1_isPond cX1_isPond 2 (some .boolean), Cond.methodLink RL 54 yX6_carp, Cond.instanceMethod yX6_carp, Cond.selects RX6 yX6_carp yX6_carp, Cond.code yX6_carp cX6_carp 5 (some .int), Cond.fieldLink RX6 19 "MoonGate" "shoal" "LMoonGate$Shoal;", Cond.fieldLink RX6 129 "MoonGate$Shoal" "came" "I", Cond.methodLink RX6 124 yX1_isPond, Cond.methodLink RX6 134 yX4_add, Cond.instanceMethod yX4_add]
def wsL_act_r8 : List Cond := [Cond.selects RX4 yX4_add yX4_add, Cond.initialized RX4, Cond.code yX4_add cX4_add 3 (some .int), Cond.fieldLink RX4 19 "MoonGate$Shoal" "came" "I", Cond.fieldLink RX4 9 "MoonGate$Shoal" "places" "[I", Cond.fieldLink RX4 15 "MoonGate$Shoal" "sold" "[Z", Cond.methodLink RX6 137 yX0_setCarpSize, Cond.instanceMethod yX0_setCarpSize, Cond.selects RX0 yX0_setCarpSize yX0_setCarpSize, Cond.initialized RX0, Cond.code yX0_setCarpSize cX0_setCarpSize 3 none, Cond.fieldLink RX0 18 "MoonGate$Course" "carpSizes" "[I", Cond.methodLink RX0 25 Lib.Math.min.name, Cond.static Lib.Math.min.name, Cond.initialized "java/lang/Math", Cond.code Lib.Math.min.name Lib.Math.min.code 2 (some .int), Cond.methodLink RX0 31 Lib.Math.max.name, Cond.static Lib.Math.max.name, Cond.code Lib.Math.max.name Lib.Math.max.code 2 (some .int), Cond.methodLink RX6 140 yX1_changeCarps, Cond.instanceMethod yX1_changeCarps, Cond.selects RX1 yX1_changeCarps yX1_changeCarps, Cond.code yX1_changeCarps cX1_changeCarps 4 none, Cond.methodLink RL 57 yX7_more]
def wsL_act_r9 : List Cond := [Cond.static yX7_more, Cond.code yX7_more cX7_more 4 (some (.array (.array .int))), Cond.classLink RX7 18 "[I", Cond.methodLink RL 61 yX6_sell, Cond.instanceMethod yX6_sell, Cond.selects RX6 yX6_sell yX6_sell, Cond.code yX6_sell cX6_sell 2 (some .int), Cond.methodLink RX6 143 yX6_checkCarp, Cond.instanceMethod yX6_checkCarp, Cond.selects RX6 yX6_checkCarp yX6_checkCarp, Cond.code yX6_checkCarp cX6_checkCarp 2 none, Cond.methodLink RX6 146 yX4_isHere, Cond.instanceMethod yX4_isHere, Cond.selects RX4 yX4_isHere yX4_isHere, Cond.code yX4_isHere cX4_isHere 2 (some .boolean), Cond.methodLink RX4 23 yX4_isNumber, Cond.instanceMethod yX4_isNumber, Cond.selects RX4 yX4_isNumber yX4_isNumber, Cond.code yX4_isNumber cX4_isNumber 2 (some .boolean), Cond.methodLink RX6 151 yX4_takeOut, Cond.instanceMethod yX4_takeOut, Cond.selects RX4 yX4_takeOut yX4_takeOut, Cond.code yX4_takeOut cX4_takeOut 2 none, Cond.methodLink RX6 154 yX4_placeOf]
def wsL_act_r10 : List Cond := [Cond.instanceMethod yX4_placeOf, Cond.selects RX4 yX4_placeOf yX4_placeOf, Cond.code yX4_placeOf cX4_placeOf 2 (some .int), Cond.methodLink RX6 157 yX0_carpSize, Cond.instanceMethod yX0_carpSize, Cond.selects RX0 yX0_carpSize yX0_carpSize, Cond.code yX0_carpSize cX0_carpSize 2 (some .int), Cond.methodLink RL 68 yX6_gate, Cond.instanceMethod yX6_gate, Cond.selects RX6 yX6_gate yX6_gate, Cond.code yX6_gate cX6_gate 4 (some .int), Cond.fieldLink RX6 26 "MoonGate" "gates" "LMoonGate$Gates;", Cond.fieldLink RX6 171 "MoonGate$Gates" "many" "I", Cond.methodLink RX6 163 yX1_isDirection, Cond.methodLink RX6 176 yX2_add, Cond.instanceMethod yX2_add, Cond.selects RX2 yX2_add yX2_add, Cond.initialized RX2, Cond.code yX2_add cX2_add 4 (some .int), Cond.fieldLink RX2 18 "MoonGate$Gates" "many" "I", Cond.fieldLink RX2 9 "MoonGate$Gates" "places" "[I", Cond.fieldLink RX2 15 "MoonGate$Gates" "directions" "[I", Cond.methodLink RL 75 yX6_invite, Cond.instanceMethod yX6_invite]
def wsL_act_r11 : List Cond := [Cond.selects RX6 yX6_invite yX6_invite, Cond.code yX6_invite cX6_invite 2 (some .int), Cond.fieldLink RX6 33 "MoonGate" "poets" "LMoonGate$Poets;", Cond.fieldLink RX6 200 "MoonGate$Poets" "many" "I", Cond.methodLink RX6 178 yX6_checkGate, Cond.instanceMethod yX6_checkGate, Cond.selects RX6 yX6_checkGate yX6_checkGate, Cond.code yX6_checkGate cX6_checkGate 2 none, Cond.methodLink RX6 203 yX3_add, Cond.instanceMethod yX3_add, Cond.selects RX3 yX3_add yX3_add, Cond.initialized RX3, Cond.code yX3_add cX3_add 3 (some .int), Cond.fieldLink RX3 15 "MoonGate$Poets" "many" "I", Cond.fieldLink RX3 9 "MoonGate$Poets" "gatesOf" "[I", Cond.methodLink RL 78 yX6_lead, Cond.instanceMethod yX6_lead, Cond.selects RX6 yX6_lead yX6_lead, Cond.code yX6_lead cX6_lead 4 (some .int), Cond.methodLink RX6 204 yX6_checkPoet, Cond.instanceMethod yX6_checkPoet, Cond.selects RX6 yX6_checkPoet yX6_checkPoet, Cond.code yX6_checkPoet cX6_checkPoet 2 none, Cond.methodLink RX6 207 yX3_gateOf]
def wsL_act_r12 : List Cond := [Cond.instanceMethod yX3_gateOf, Cond.selects RX3 yX3_gateOf yX3_gateOf, Cond.code yX3_gateOf cX3_gateOf 2 (some .int), Cond.methodLink RX3 19 yX3_isNumber, Cond.instanceMethod yX3_isNumber, Cond.selects RX3 yX3_isNumber yX3_isNumber, Cond.code yX3_isNumber cX3_isNumber 2 (some .boolean), Cond.methodLink RX6 210 yX3_setGate, Cond.instanceMethod yX3_setGate, Cond.selects RX3 yX3_setGate yX3_setGate, Cond.code yX3_setGate cX3_setGate 3 none]
def wsL_act : List Cond := .codeWith yL_act cL_act 12 (some .boolean) [(214, 227, 230, 31), (329, 338, 341, 31), (419, 428, 431, 31), (563, 572, 575, 31), (672, 681, 684, 31), (821, 829, 832, 31), (919, 932, 935, 31), (1020, 1030, 1033, 31)] :: ((wsL_act_r1 ++ (wsL_act_r2 ++ (wsL_act_r3 ++ (wsL_act_r4 ++ (wsL_act_r5 ++ (wsL_act_r6 ++ (wsL_act_r7 ++ (wsL_act_r8 ++ (wsL_act_r9 ++ (wsL_act_r10 ++ (wsL_act_r11 ++ wsL_act_r12))))))))))) ++ wsX70 ++ wsX60 ++ wsX00 ++ wsX10 ++ wsX40 ++ wsX20 ++ wsX30 ++ (vx_atS RX6 253 "java/lang/IndexOutOfBoundsException" ["java/lang/RuntimeException", "java/lang/Exception"]).filter goodWord ++ (vx_atS RX6 170 "java/lang/IllegalArgumentException" ["java/lang/RuntimeException", "java/lang/Exception"]).filter goodWord ++ (vx_atS RX6 98 "java/lang/IllegalStateException" ["java/lang/RuntimeException", "java/lang/Exception"]).filter goodWord)
def wsL_build_r1 : List Cond := [Cond.classLink RL 16 RX7, Cond.instantiable RX7 6, Cond.initialized RX7, Cond.arrayClass .int, Cond.constant RL 86 (100000), Cond.instanceMethod yX7_init, Cond.code yX7_init cX7_init 1 none, Cond.methodLink RX7 1 objectInit, Cond.instanceMethod objectInit, Cond.code objectInit ⟨#[0xb1]⟩ 1 none, Cond.fieldLink RX7 7 "MoonGateLaw$Sim" "coins" "I", Cond.fieldLink RX7 15 "MoonGateLaw$Sim" "cells" "[[[I", Cond.classLink RX7 18 "[I", Cond.fieldLink RX7 20 "MoonGateLaw$Sim" "carps" "[[I", Cond.fieldLink RX7 24 "MoonGateLaw$Sim" "gates" "[[I", Cond.fieldLink RX7 27 "MoonGateLaw$Sim" "poets" "[[I", Cond.methodLink RL 82 yL_cell, Cond.static yL_cell, Cond.initialized RL, Cond.code yL_cell cL_cell 2 (some .int), Cond.constant RL 8 (790386105), Cond.methodLink RL 9 yL_below, Cond.static yL_below, Cond.code yL_below cL_below 2 (some .int)]
def wsL_build_r2 : List Cond := [Cond.constant RL 7 (2147483647), Cond.methodLink RL 87 yL_act, Cond.static yL_act, Cond.codeWith yL_act cL_act 12 (some .boolean) [(214, 227, 230, 31), (329, 338, 341, 31), (419, 428, 431, 31), (563, 572, 575, 31), (672, 681, 684, 31), (821, 829, 832, 31), (919, 932, 935, 31), (1020, 1030, 1033, 31)], Cond.classLink RL 31 "java/lang/IllegalStateException", Cond.fieldLink RL 15 "MoonGateLaw$Sim" "cells" "[[[I", Cond.fieldLink RL 21 "MoonGateLaw$Sim" "coins" "I", Cond.fieldLink RL 47 "MoonGateLaw$Sim" "carps" "[[I", Cond.fieldLink RL 65 "MoonGateLaw$Sim" "gates" "[[I", Cond.fieldLink RL 72 "MoonGateLaw$Sim" "poets" "[[I", Cond.methodLink RL 25 yX6_rock, Cond.instanceMethod yX6_rock, Cond.selects RX6 yX6_rock yX6_rock, Cond.initialized RX6, Cond.code yX6_rock cX6_rock 6 (some .int), Cond.fieldLink RX6 10 "MoonGate" "garden" "LMoonGate$Garden;", Cond.fieldLink RX6 40 "MoonGate" "now" "LMoonGate$Course;", Cond.fieldLink RX6 76 "MoonGate$Course" "coins" "I", Cond.methodLink RX6 54 yX6_checkPlace, Cond.instanceMethod yX6_checkPlace, Cond.selects RX6 yX6_checkPlace yX6_checkPlace, Cond.code yX6_checkPlace cX6_checkPlace 3 none, Cond.classLink RX6 249 "java/lang/IndexOutOfBoundsException", Cond.initialized "java/lang/IndexOutOfBoundsException"]
def wsL_build_r3 : List Cond := [Cond.methodLink RX6 336 yX1_isInside, Cond.static yX1_isInside, Cond.initialized RX1, Cond.code yX1_isInside cX1_isInside 2 (some .boolean), Cond.methodLink RX6 58 yX6_checkRock, Cond.instanceMethod yX6_checkRock, Cond.selects RX6 yX6_checkRock yX6_checkRock, Cond.code yX6_checkRock cX6_checkRock 3 none, Cond.classLink RX6 166 "java/lang/IllegalArgumentException", Cond.initialized "java/lang/IllegalArgumentException", Cond.methodLink RX6 61 yX1_numberOf, Cond.static yX1_numberOf, Cond.code yX1_numberOf cX1_numberOf 2 (some .int), Cond.methodLink RX6 65 yX6_checkBare, Cond.instanceMethod yX6_checkBare, Cond.selects RX6 yX6_checkBare yX6_checkBare, Cond.code yX6_checkBare cX6_checkBare 2 none, Cond.classLink RX6 94 "java/lang/IllegalStateException", Cond.initialized "java/lang/IllegalStateException", Cond.methodLink RX6 90 yX1_isBare, Cond.instanceMethod yX1_isBare, Cond.selects RX1 yX1_isBare yX1_isBare, Cond.code yX1_isBare cX1_isBare 2 (some .boolean), Cond.methodLink RX1 61 yX1_kindAt]
def wsL_build_r4 : List Cond := [Cond.instanceMethod yX1_kindAt, Cond.selects RX1 yX1_kindAt yX1_kindAt, Cond.code yX1_kindAt cX1_kindAt 2 (some .int), Cond.fieldLink RX1 11 "MoonGate$Garden" "kinds" "[I", Cond.methodLink RX1 40 yX1_isPlace, Cond.static yX1_isPlace, Cond.code yX1_isPlace cX1_isPlace 1 (some .boolean), Cond.methodLink RX6 69 yX6_spend, Cond.instanceMethod yX6_spend, Cond.selects RX6 yX6_spend yX6_spend, Cond.code yX6_spend cX6_spend 2 none, Cond.methodLink RX6 72 yX1_setRock, Cond.instanceMethod yX1_setRock, Cond.selects RX1 yX1_setRock yX1_setRock, Cond.code yX1_setRock cX1_setRock 4 none, Cond.methodLink RX1 68 yX1_setCell, Cond.instanceMethod yX1_setCell, Cond.selects RX1 yX1_setCell yX1_setCell, Cond.code yX1_setCell cX1_setCell 5 none, Cond.fieldLink RX1 15 "MoonGate$Garden" "shapes" "[I", Cond.fieldLink RX1 18 "MoonGate$Garden" "sizes" "[I", Cond.methodLink RL 33 yX6_dig, Cond.instanceMethod yX6_dig, Cond.selects RX6 yX6_dig yX6_dig]
def wsL_build_r5 : List Cond := [Cond.code yX6_dig cX6_dig 4 (some .int), Cond.methodLink RX6 80 yX1_setPond, Cond.instanceMethod yX1_setPond, Cond.selects RX1 yX1_setPond yX1_setPond, Cond.code yX1_setPond cX1_setPond 2 none, Cond.methodLink RX1 72 yX1_surveyPonds, Cond.instanceMethod yX1_surveyPonds, Cond.selects RX1 yX1_surveyPonds yX1_surveyPonds, Cond.code yX1_surveyPonds cX1_surveyPonds 2 none, Cond.fieldLink RX1 24 "MoonGate$Garden" "pondOf" "[I", Cond.fieldLink RX1 36 "MoonGate$Garden" "ponds" "I", Cond.methodLink RX1 87 yX1_isUnknownPond, Cond.instanceMethod yX1_isUnknownPond, Cond.selects RX1 yX1_isUnknownPond yX1_isUnknownPond, Cond.code yX1_isUnknownPond cX1_isUnknownPond 2 (some .boolean), Cond.methodLink RX1 90 yX1_surveyPond, Cond.instanceMethod yX1_surveyPond, Cond.selects RX1 yX1_surveyPond yX1_surveyPond, Cond.code yX1_surveyPond cX1_surveyPond 6 none, Cond.fieldLink RX1 27 "MoonGate$Garden" "pondCells" "[I", Cond.fieldLink RX1 30 "MoonGate$Garden" "pondCarps" "[I", Cond.fieldLink RX1 33 "MoonGate$Garden" "reached" "[I", Cond.fieldLink RX1 21 "MoonGate$Garden" "carps" "[I", Cond.methodLink RX1 94 yX1_reachOnFrom]
def wsL_build_r6 : List Cond := [Cond.instanceMethod yX1_reachOnFrom, Cond.selects RX1 yX1_reachOnFrom yX1_reachOnFrom, Cond.code yX1_reachOnFrom cX1_reachOnFrom 7 (some .int), Cond.methodLink RX1 98 yX1_beside, Cond.instanceMethod yX1_beside, Cond.selects RX1 yX1_beside yX1_beside, Cond.code yX1_beside cX1_beside 5 (some .int), Cond.fieldLink RX1 47 "MoonGate$Garden" "STEP_X" "[I", Cond.fieldLink RX1 50 "MoonGate$Garden" "STEP_Y" "[I", Cond.methodLink RX1 44 yX1_isDirection, Cond.static yX1_isDirection, Cond.code yX1_isDirection cX1_isDirection 1 (some .boolean), Cond.methodLink RX1 53 yX1_isInside, Cond.methodLink RX1 57 yX1_numberOf, Cond.methodLink RX6 83 yX1_cellsOfPondAt, Cond.instanceMethod yX1_cellsOfPondAt, Cond.selects RX1 yX1_cellsOfPondAt yX1_cellsOfPondAt, Cond.code yX1_cellsOfPondAt cX1_cellsOfPondAt 3 (some .int), Cond.methodLink RX1 78 yX1_pondAt, Cond.instanceMethod yX1_pondAt, Cond.selects RX1 yX1_pondAt yX1_pondAt, Cond.code yX1_pondAt cX1_pondAt 3 (some .int), Cond.methodLink RL 36 yX7_pond, Cond.instanceMethod yX7_pond]
def wsL_build_r7 : List Cond := [Cond.selects RX7 yX7_pond yX7_pond, Cond.code yX7_pond cX7_pond 8 (some (.array (.array .boolean))), Cond.classLink RX7 34 "[[Z", Cond.arrayClass .boolean, Cond.methodLink RL 40 yX7_many, Cond.static yX7_many, Cond.code yX7_many cX7_many 10 (some .int), Cond.methodLink RL 44 yX6_wall, Cond.instanceMethod yX6_wall, Cond.selects RX6 yX6_wall yX6_wall, Cond.code yX6_wall cX6_wall 4 (some .int), Cond.methodLink RX6 87 yX1_setWall, Cond.instanceMethod yX1_setWall, Cond.selects RX1 yX1_setWall yX1_setWall, Cond.code yX1_setWall cX1_setWall 2 none, Cond.methodLink RL 51 yX6_clear, Cond.instanceMethod yX6_clear, Cond.selects RX6 yX6_clear yX6_clear, Cond.code yX6_clear cX6_clear 4 (some .int), Cond.methodLink RX6 101 yX1_hasCarps, Cond.instanceMethod yX1_hasCarps, Cond.selects RX1 yX1_hasCarps yX1_hasCarps, Cond.code yX1_hasCarps cX1_hasCarps 2 (some .boolean), Cond.methodLink RX6 106 yX1_sizeAt]
def wsL_build_r8 : List Cond := [Cond.instanceMethod yX1_sizeAt, Cond.selects RX1 yX1_sizeAt yX1_sizeAt, Cond.code yX1_sizeAt cX1_sizeAt 2 (some .int), Cond.methodLink RX6 109 yX1_setBare, Cond.instanceMethod yX1_setBare, Cond.selects RX1 yX1_setBare yX1_setBare, Cond.code yX1_setBare cX1_setBare 3 none, Cond.methodLink RX1 75 yX1_isPond, Cond.instanceMethod yX1_isPond, Cond.selects RX1 yX1_isPond yX1_isPond, Cond.code yX1_isPond cX1_isPond 2 (some .boolean), Cond.methodLink RL 54 yX6_carp, Cond.instanceMethod yX6_carp, Cond.selects RX6 yX6_carp yX6_carp, Cond.code yX6_carp cX6_carp 5 (some .int), Cond.fieldLink RX6 19 "MoonGate" "shoal" "LMoonGate$Shoal;", Cond.fieldLink RX6 129 "MoonGate$Shoal" "came" "I", Cond.methodLink RX6 124 yX1_isPond, Cond.methodLink RX6 134 yX4_add, Cond.instanceMethod yX4_add, Cond.selects RX4 yX4_add yX4_add, Cond.initialized RX4, Cond.code yX4_add cX4_add 3 (some .int), Cond.fieldLink RX4 19 "MoonGate$Shoal" "came" "I"]
def wsL_build_r9 : List Cond := [Cond.fieldLink RX4 9 "MoonGate$Shoal" "places" "[I", Cond.fieldLink RX4 15 "MoonGate$Shoal" "sold" "[Z", Cond.methodLink RX6 137 yX0_setCarpSize, Cond.instanceMethod yX0_setCarpSize, Cond.selects RX0 yX0_setCarpSize yX0_setCarpSize, Cond.initialized RX0, Cond.code yX0_setCarpSize cX0_setCarpSize 3 none, Cond.fieldLink RX0 18 "MoonGate$Course" "carpSizes" "[I", Cond.methodLink RX0 25 Lib.Math.min.name, Cond.static Lib.Math.min.name, Cond.initialized "java/lang/Math", Cond.code Lib.Math.min.name Lib.Math.min.code 2 (some .int), Cond.methodLink RX0 31 Lib.Math.max.name, Cond.static Lib.Math.max.name, Cond.code Lib.Math.max.name Lib.Math.max.code 2 (some .int), Cond.methodLink RX6 140 yX1_changeCarps, Cond.instanceMethod yX1_changeCarps, Cond.selects RX1 yX1_changeCarps yX1_changeCarps, Cond.code yX1_changeCarps cX1_changeCarps 4 none, Cond.methodLink RL 57 yX7_more, Cond.static yX7_more, Cond.code yX7_more cX7_more 4 (some (.array (.array .int))), Cond.methodLink RL 61 yX6_sell, Cond.instanceMethod yX6_sell]
def wsL_build_r10 : List Cond := [Cond.selects RX6 yX6_sell yX6_sell, Cond.code yX6_sell cX6_sell 2 (some .int), Cond.methodLink RX6 143 yX6_checkCarp, Cond.instanceMethod yX6_checkCarp, Cond.selects RX6 yX6_checkCarp yX6_checkCarp, Cond.code yX6_checkCarp cX6_checkCarp 2 none, Cond.methodLink RX6 146 yX4_isHere, Cond.instanceMethod yX4_isHere, Cond.selects RX4 yX4_isHere yX4_isHere, Cond.code yX4_isHere cX4_isHere 2 (some .boolean), Cond.methodLink RX4 23 yX4_isNumber, Cond.instanceMethod yX4_isNumber, Cond.selects RX4 yX4_isNumber yX4_isNumber, Cond.code yX4_isNumber cX4_isNumber 2 (some .boolean), Cond.methodLink RX6 151 yX4_takeOut, Cond.instanceMethod yX4_takeOut, Cond.selects RX4 yX4_takeOut yX4_takeOut, Cond.code yX4_takeOut cX4_takeOut 2 none, Cond.methodLink RX6 154 yX4_placeOf, Cond.instanceMethod yX4_placeOf, Cond.selects RX4 yX4_placeOf yX4_placeOf, Cond.code yX4_placeOf cX4_placeOf 2 (some .int), Cond.methodLink RX6 157 yX0_carpSize, Cond.instanceMethod yX0_carpSize]
def wsL_build_r11 : List Cond := [Cond.selects RX0 yX0_carpSize yX0_carpSize, Cond.code yX0_carpSize cX0_carpSize 2 (some .int), Cond.methodLink RL 68 yX6_gate, Cond.instanceMethod yX6_gate, Cond.selects RX6 yX6_gate yX6_gate, Cond.code yX6_gate cX6_gate 4 (some .int), Cond.fieldLink RX6 26 "MoonGate" "gates" "LMoonGate$Gates;", Cond.fieldLink RX6 171 "MoonGate$Gates" "many" "I", Cond.methodLink RX6 163 yX1_isDirection, Cond.methodLink RX6 176 yX2_add, Cond.instanceMethod yX2_add, Cond.selects RX2 yX2_add yX2_add, Cond.initialized RX2, Cond.code yX2_add cX2_add 4 (some .int), Cond.fieldLink RX2 18 "MoonGate$Gates" "many" "I", Cond.fieldLink RX2 9 "MoonGate$Gates" "places" "[I", Cond.fieldLink RX2 15 "MoonGate$Gates" "directions" "[I", Cond.methodLink RL 75 yX6_invite, Cond.instanceMethod yX6_invite, Cond.selects RX6 yX6_invite yX6_invite, Cond.code yX6_invite cX6_invite 2 (some .int), Cond.fieldLink RX6 33 "MoonGate" "poets" "LMoonGate$Poets;", Cond.fieldLink RX6 200 "MoonGate$Poets" "many" "I", Cond.methodLink RX6 178 yX6_checkGate]
def wsL_build_r12 : List Cond := [Cond.instanceMethod yX6_checkGate, Cond.selects RX6 yX6_checkGate yX6_checkGate, Cond.code yX6_checkGate cX6_checkGate 2 none, Cond.methodLink RX6 203 yX3_add, Cond.instanceMethod yX3_add, Cond.selects RX3 yX3_add yX3_add, Cond.initialized RX3, Cond.code yX3_add cX3_add 3 (some .int), Cond.fieldLink RX3 15 "MoonGate$Poets" "many" "I", Cond.fieldLink RX3 9 "MoonGate$Poets" "gatesOf" "[I", Cond.methodLink RL 78 yX6_lead, Cond.instanceMethod yX6_lead, Cond.selects RX6 yX6_lead yX6_lead, Cond.code yX6_lead cX6_lead 4 (some .int), Cond.methodLink RX6 204 yX6_checkPoet, Cond.instanceMethod yX6_checkPoet, Cond.selects RX6 yX6_checkPoet yX6_checkPoet, Cond.code yX6_checkPoet cX6_checkPoet 2 none, Cond.methodLink RX6 207 yX3_gateOf, Cond.instanceMethod yX3_gateOf, Cond.selects RX3 yX3_gateOf yX3_gateOf, Cond.code yX3_gateOf cX3_gateOf 2 (some .int), Cond.methodLink RX3 19 yX3_isNumber, Cond.instanceMethod yX3_isNumber]
def wsL_build_r13 : List Cond := [Cond.selects RX3 yX3_isNumber yX3_isNumber, Cond.code yX3_isNumber cX3_isNumber 2 (some .boolean), Cond.methodLink RX6 210 yX3_setGate, Cond.instanceMethod yX3_setGate, Cond.selects RX3 yX3_setGate yX3_setGate, Cond.code yX3_setGate cX3_setGate 3 none, Cond.methodLink RL 91 yX6_pass, Cond.instanceMethod yX6_pass, Cond.selects RX6 yX6_pass yX6_pass, Cond.code yX6_pass cX6_pass 2 (some .int), Cond.methodLink RX6 243 yX6_checkDays, Cond.instanceMethod yX6_checkDays, Cond.selects RX6 yX6_checkDays yX6_checkDays, Cond.code yX6_checkDays cX6_checkDays 2 none, Cond.methodLink RX6 246 yX6_letPass, Cond.instanceMethod yX6_letPass, Cond.selects RX6 yX6_letPass yX6_letPass, Cond.code yX6_letPass cX6_letPass 6 (some .int), Cond.fieldLink RX6 216 "MoonGate$Course" "day" "I", Cond.methodLink RX6 292 yX6_letCarpsGrow, Cond.instanceMethod yX6_letCarpsGrow, Cond.selects RX6 yX6_letCarpsGrow yX6_letCarpsGrow, Cond.code yX6_letCarpsGrow cX6_letCarpsGrow 4 none, Cond.methodLink RX6 298 yX1_isTooFull]
def wsL_build_r14 : List Cond := [Cond.instanceMethod yX1_isTooFull, Cond.selects RX1 yX1_isTooFull yX1_isTooFull, Cond.code yX1_isTooFull cX1_isTooFull 2 (some .boolean), Cond.methodLink RX1 81 yX1_carpsOfPondAt, Cond.instanceMethod yX1_carpsOfPondAt, Cond.selects RX1 yX1_carpsOfPondAt yX1_carpsOfPondAt, Cond.code yX1_carpsOfPondAt cX1_carpsOfPondAt 3 (some .int), Cond.methodLink RX1 84 yX1_cellsOfPondAt, Cond.methodLink RX6 295 yX6_letPoetsWrite, Cond.instanceMethod yX6_letPoetsWrite, Cond.selects RX6 yX6_letPoetsWrite yX6_letPoetsWrite, Cond.code yX6_letPoetsWrite cX6_letPoetsWrite 6 (some .int), Cond.methodLink RX6 219 yX0_isFullMoon, Cond.instanceMethod yX0_isFullMoon, Cond.selects RX0 yX0_isFullMoon yX0_isFullMoon, Cond.code yX0_isFullMoon cX0_isFullMoon 1 (some .boolean), Cond.fieldLink RX0 9 "MoonGate$Course" "day" "I", Cond.methodLink RX6 181 yX6_look, Cond.instanceMethod yX6_look, Cond.selects RX6 yX6_look yX6_look, Cond.code yX6_look cX6_look 6 (some .int), Cond.fieldLink RX6 50 "MoonGate" "view" "LMoonGate$View;", Cond.fieldLink RX6 194 "MoonGate$View" "beauty" "I", Cond.methodLink RX6 307 yX5_begin]
def wsL_build_r15 : List Cond := [Cond.instanceMethod yX5_begin, Cond.selects RX5 yX5_begin yX5_begin, Cond.initialized RX5, Cond.code yX5_begin cX5_begin 1 none, Cond.fieldLink RX5 7 "MoonGate$View" "cells" "I", Cond.fieldLink RX5 13 "MoonGate$View" "rocks" "I", Cond.fieldLink RX5 16 "MoonGate$View" "pondCells" "I", Cond.fieldLink RX5 19 "MoonGate$View" "beauty" "I", Cond.fieldLink RX5 22 "MoonGate$View" "shapesShown" "I", Cond.methodLink RX6 310 yX2_directionOf, Cond.instanceMethod yX2_directionOf, Cond.selects RX2 yX2_directionOf yX2_directionOf, Cond.code yX2_directionOf cX2_directionOf 2 (some .int), Cond.methodLink RX2 22 yX2_isNumber, Cond.instanceMethod yX2_isNumber, Cond.selects RX2 yX2_isNumber yX2_isNumber, Cond.code yX2_isNumber cX2_isNumber 2 (some .boolean), Cond.methodLink RX6 313 yX2_placeOf, Cond.instanceMethod yX2_placeOf, Cond.selects RX2 yX2_placeOf yX2_placeOf, Cond.code yX2_placeOf cX2_placeOf 2 (some .int), Cond.methodLink RX6 314 yX1_beside, Cond.methodLink RX6 317 yX1_isWall, Cond.instanceMethod yX1_isWall]
def wsL_build_r16 : List Cond := [Cond.selects RX1 yX1_isWall yX1_isWall, Cond.code yX1_isWall cX1_isWall 2 (some .boolean), Cond.methodLink RX6 320 yX6_show, Cond.instanceMethod yX6_show, Cond.selects RX6 yX6_show yX6_show, Cond.code yX6_show cX6_show 4 none, Cond.fieldLink RX6 185 "MoonGate$View" "cells" "I", Cond.methodLink RX6 115 yX1_kindAt, Cond.methodLink RX6 118 yX1_shapeAt, Cond.instanceMethod yX1_shapeAt, Cond.selects RX1 yX1_shapeAt yX1_shapeAt, Cond.code yX1_shapeAt cX1_shapeAt 2 (some .int), Cond.methodLink RX6 327 yX5_addRock, Cond.instanceMethod yX5_addRock, Cond.selects RX5 yX5_addRock yX5_addRock, Cond.code yX5_addRock cX5_addRock 4 none, Cond.methodLink RX6 330 yX4_sizesIn, Cond.instanceMethod yX4_sizesIn, Cond.selects RX4 yX4_sizesIn yX4_sizesIn, Cond.code yX4_sizesIn cX4_sizesIn 5 (some .int), Cond.methodLink RX4 30 yX0_carpSize, Cond.methodLink RX6 333 yX5_addPondCell, Cond.instanceMethod yX5_addPondCell, Cond.selects RX5 yX5_addPondCell yX5_addPondCell]
def wsL_build_r17 : List Cond := [Cond.code yX5_addPondCell cX5_addPondCell 2 none, Cond.methodLink RX6 324 yX1_isGreatRock, Cond.instanceMethod yX1_isGreatRock, Cond.selects RX1 yX1_isGreatRock yX1_isGreatRock, Cond.code yX1_isGreatRock cX1_isGreatRock 2 (some .boolean), Cond.methodLink RX1 65 yX1_sizeAt, Cond.methodLink RX6 301 yX0_addWritten, Cond.instanceMethod yX0_addWritten, Cond.selects RX0 yX0_addWritten yX0_addWritten, Cond.code yX0_addWritten cX0_addWritten 3 none, Cond.fieldLink RX0 22 "MoonGate$Course" "linesWritten" "[I", Cond.methodLink RL 94 yX7_pass, Cond.instanceMethod yX7_pass, Cond.selects RX7 yX7_pass yX7_pass, Cond.code yX7_pass cX7_pass 7 (some .int), Cond.fieldLink RX7 59 "MoonGateLaw$Sim" "day" "I", Cond.methodLink RX7 44 yX7_pond, Cond.methodLink RX7 48 yX7_carpsIn, Cond.instanceMethod yX7_carpsIn, Cond.selects RX7 yX7_carpsIn yX7_carpsIn, Cond.code yX7_carpsIn cX7_carpsIn 7 (some .int), Cond.methodLink RX7 52 yX7_many, Cond.methodLink RX7 55 yX7_beauty, Cond.instanceMethod yX7_beauty]
def wsL_build_r18 : List Cond := [Cond.selects RX7 yX7_beauty yX7_beauty, Cond.code yX7_beauty cX7_beauty 11 (some .int), Cond.methodLink RX7 40 yX7_shows, Cond.instanceMethod yX7_shows, Cond.selects RX7 yX7_shows yX7_shows, Cond.code yX7_shows cX7_shows 6 (some (.array (.array .int))), Cond.methodLink RX7 36 yX7_more]
def wsL_build : List Cond := .code yL_build cL_build 6 (some (.object "MoonGateLaw$Sim")) :: ((wsL_build_r1 ++ (wsL_build_r2 ++ (wsL_build_r3 ++ (wsL_build_r4 ++ (wsL_build_r5 ++ (wsL_build_r6 ++ (wsL_build_r7 ++ (wsL_build_r8 ++ (wsL_build_r9 ++ (wsL_build_r10 ++ (wsL_build_r11 ++ (wsL_build_r12 ++ (wsL_build_r13 ++ (wsL_build_r14 ++ (wsL_build_r15 ++ (wsL_build_r16 ++ (wsL_build_r17 ++ wsL_build_r18))))))))))))))))) ++ wsX70 ++ wsX60 ++ wsX00 ++ wsX10 ++ wsX40 ++ wsX20 ++ wsX30 ++ wsX50 ++ (vx_atS RX6 253 "java/lang/IndexOutOfBoundsException" ["java/lang/RuntimeException", "java/lang/Exception"]).filter goodWord ++ (vx_atS RX6 170 "java/lang/IllegalArgumentException" ["java/lang/RuntimeException", "java/lang/Exception"]).filter goodWord ++ (vx_atS RX6 98 "java/lang/IllegalStateException" ["java/lang/RuntimeException", "java/lang/Exception"]).filter goodWord)
def wsL_law0_r1 : List Cond := [Cond.classLink RL 26 RX6, Cond.instantiable RX6 7, Cond.initialized RX6, Cond.methodLink RL 105 Lib.Math.abs.name, Cond.static Lib.Math.abs.name, Cond.initialized "java/lang/Math", Cond.code Lib.Math.abs.name Lib.Math.abs.code 1 (some .int), Cond.fieldLink RL 47 "MoonGateLaw$Sim" "carps" "[[I", Cond.arrayClass .int, Cond.arrayClass .boolean, Cond.methodLink RL 121 Lib.Math.max.name, Cond.static Lib.Math.max.name, Cond.code Lib.Math.max.name Lib.Math.max.code 2 (some .int), Cond.methodLink RL 137 Lib.Math.min.name, Cond.static Lib.Math.min.name, Cond.code Lib.Math.min.name Lib.Math.min.code 2 (some .int), Cond.fieldLink RL 72 "MoonGateLaw$Sim" "poets" "[[I", Cond.methodLink RL 97 yX6_init, Cond.instanceMethod yX6_init, Cond.code yX6_init cX6_init 1 none, Cond.methodLink RX6 1 objectInit, Cond.instanceMethod objectInit, Cond.code objectInit ⟨#[0xb1]⟩ 1 none, Cond.classLink RX6 7 RX1]
def wsL_law0_r2 : List Cond := [Cond.instantiable RX1 9, Cond.initialized RX1, Cond.fieldLink RX6 10 "MoonGate" "garden" "LMoonGate$Garden;", Cond.classLink RX6 16 RX4, Cond.instantiable RX4 3, Cond.initialized RX4, Cond.fieldLink RX6 19 "MoonGate" "shoal" "LMoonGate$Shoal;", Cond.classLink RX6 23 RX2, Cond.instantiable RX2 3, Cond.initialized RX2, Cond.fieldLink RX6 26 "MoonGate" "gates" "LMoonGate$Gates;", Cond.classLink RX6 30 RX3, Cond.instantiable RX3 2, Cond.initialized RX3, Cond.fieldLink RX6 33 "MoonGate" "poets" "LMoonGate$Poets;", Cond.classLink RX6 37 RX0, Cond.instantiable RX0 4, Cond.initialized RX0, Cond.fieldLink RX6 40 "MoonGate" "now" "LMoonGate$Course;", Cond.fieldLink RX6 44 "MoonGate" "ahead" "LMoonGate$Course;", Cond.classLink RX6 47 RX5, Cond.instantiable RX5 5, Cond.initialized RX5, Cond.fieldLink RX6 50 "MoonGate" "view" "LMoonGate$View;"]
def wsL_law0_r3 : List Cond := [Cond.methodLink RX6 9 yX1_init, Cond.instanceMethod yX1_init, Cond.code yX1_init cX1_init 2 none, Cond.methodLink RX1 3 objectInit, Cond.fieldLink RX1 11 "MoonGate$Garden" "kinds" "[I", Cond.fieldLink RX1 15 "MoonGate$Garden" "shapes" "[I", Cond.fieldLink RX1 18 "MoonGate$Garden" "sizes" "[I", Cond.fieldLink RX1 21 "MoonGate$Garden" "carps" "[I", Cond.fieldLink RX1 24 "MoonGate$Garden" "pondOf" "[I", Cond.fieldLink RX1 27 "MoonGate$Garden" "pondCells" "[I", Cond.fieldLink RX1 30 "MoonGate$Garden" "pondCarps" "[I", Cond.fieldLink RX1 33 "MoonGate$Garden" "reached" "[I", Cond.fieldLink RX1 36 "MoonGate$Garden" "ponds" "I", Cond.methodLink RX6 18 yX4_init, Cond.instanceMethod yX4_init, Cond.code yX4_init cX4_init 1 none, Cond.methodLink RX4 3 objectInit, Cond.fieldLink RX4 9 "MoonGate$Shoal" "places" "[I", Cond.fieldLink RX4 15 "MoonGate$Shoal" "sold" "[Z", Cond.fieldLink RX4 19 "MoonGate$Shoal" "came" "I", Cond.methodLink RX6 25 yX2_init, Cond.instanceMethod yX2_init, Cond.code yX2_init cX2_init 1 none, Cond.methodLink RX2 3 objectInit]
def wsL_law0_r4 : List Cond := [Cond.fieldLink RX2 9 "MoonGate$Gates" "places" "[I", Cond.fieldLink RX2 15 "MoonGate$Gates" "directions" "[I", Cond.fieldLink RX2 18 "MoonGate$Gates" "many" "I", Cond.methodLink RX6 32 yX3_init, Cond.instanceMethod yX3_init, Cond.code yX3_init cX3_init 1 none, Cond.methodLink RX3 3 objectInit, Cond.fieldLink RX3 9 "MoonGate$Poets" "gatesOf" "[I", Cond.fieldLink RX3 15 "MoonGate$Poets" "many" "I", Cond.methodLink RX6 39 yX0_init, Cond.instanceMethod yX0_init, Cond.code yX0_init cX0_init 1 none, Cond.methodLink RX0 3 objectInit, Cond.fieldLink RX0 9 "MoonGate$Course" "day" "I", Cond.fieldLink RX0 15 "MoonGate$Course" "coins" "I", Cond.fieldLink RX0 18 "MoonGate$Course" "carpSizes" "[I", Cond.fieldLink RX0 22 "MoonGate$Course" "linesWritten" "[I", Cond.instanceMethod yX5_init, Cond.code yX5_init cX5_init 1 none, Cond.methodLink RX5 1 objectInit, Cond.methodLink RL 98 yL_build, Cond.static yL_build, Cond.initialized RL, Cond.code yL_build cL_build 6 (some (.object "MoonGateLaw$Sim"))]
def wsL_law0_r5 : List Cond := [Cond.classLink RL 16 RX7, Cond.instantiable RX7 6, Cond.initialized RX7, Cond.constant RL 86 (100000), Cond.instanceMethod yX7_init, Cond.code yX7_init cX7_init 1 none, Cond.methodLink RX7 1 objectInit, Cond.fieldLink RX7 7 "MoonGateLaw$Sim" "coins" "I", Cond.fieldLink RX7 15 "MoonGateLaw$Sim" "cells" "[[[I", Cond.classLink RX7 18 "[I", Cond.fieldLink RX7 20 "MoonGateLaw$Sim" "carps" "[[I", Cond.fieldLink RX7 24 "MoonGateLaw$Sim" "gates" "[[I", Cond.fieldLink RX7 27 "MoonGateLaw$Sim" "poets" "[[I", Cond.methodLink RL 82 yL_cell, Cond.static yL_cell, Cond.code yL_cell cL_cell 2 (some .int), Cond.constant RL 8 (790386105), Cond.methodLink RL 9 yL_below, Cond.static yL_below, Cond.code yL_below cL_below 2 (some .int), Cond.constant RL 7 (2147483647), Cond.methodLink RL 87 yL_act, Cond.static yL_act, Cond.codeWith yL_act cL_act 12 (some .boolean) [(214, 227, 230, 31), (329, 338, 341, 31), (419, 428, 431, 31), (563, 572, 575, 31), (672, 681, 684, 31), (821, 829, 832, 31), (919, 932, 935, 31), (1020, 1030, 1033, 31)]]
def wsL_law0_r6 : List Cond := [Cond.classLink RL 31 "java/lang/IllegalStateException", Cond.fieldLink RL 15 "MoonGateLaw$Sim" "cells" "[[[I", Cond.fieldLink RL 21 "MoonGateLaw$Sim" "coins" "I", Cond.fieldLink RL 65 "MoonGateLaw$Sim" "gates" "[[I", Cond.methodLink RL 25 yX6_rock, Cond.instanceMethod yX6_rock, Cond.selects RX6 yX6_rock yX6_rock, Cond.code yX6_rock cX6_rock 6 (some .int), Cond.fieldLink RX6 76 "MoonGate$Course" "coins" "I", Cond.methodLink RX6 54 yX6_checkPlace, Cond.instanceMethod yX6_checkPlace, Cond.selects RX6 yX6_checkPlace yX6_checkPlace, Cond.code yX6_checkPlace cX6_checkPlace 3 none, Cond.classLink RX6 249 "java/lang/IndexOutOfBoundsException", Cond.initialized "java/lang/IndexOutOfBoundsException", Cond.methodLink RX6 336 yX1_isInside, Cond.static yX1_isInside, Cond.code yX1_isInside cX1_isInside 2 (some .boolean), Cond.methodLink RX6 58 yX6_checkRock, Cond.instanceMethod yX6_checkRock, Cond.selects RX6 yX6_checkRock yX6_checkRock, Cond.code yX6_checkRock cX6_checkRock 3 none, Cond.classLink RX6 166 "java/lang/IllegalArgumentException", Cond.initialized "java/lang/IllegalArgumentException"]
def wsL_law0_r7 : List Cond := [Cond.methodLink RX6 61 yX1_numberOf, Cond.static yX1_numberOf, Cond.code yX1_numberOf cX1_numberOf 2 (some .int), Cond.methodLink RX6 65 yX6_checkBare, Cond.instanceMethod yX6_checkBare, Cond.selects RX6 yX6_checkBare yX6_checkBare, Cond.code yX6_checkBare cX6_checkBare 2 none, Cond.classLink RX6 94 "java/lang/IllegalStateException", Cond.initialized "java/lang/IllegalStateException", Cond.methodLink RX6 90 yX1_isBare, Cond.instanceMethod yX1_isBare, Cond.selects RX1 yX1_isBare yX1_isBare, Cond.code yX1_isBare cX1_isBare 2 (some .boolean), Cond.methodLink RX1 61 yX1_kindAt, Cond.instanceMethod yX1_kindAt, Cond.selects RX1 yX1_kindAt yX1_kindAt, Cond.code yX1_kindAt cX1_kindAt 2 (some .int), Cond.methodLink RX1 40 yX1_isPlace, Cond.static yX1_isPlace, Cond.code yX1_isPlace cX1_isPlace 1 (some .boolean), Cond.methodLink RX6 69 yX6_spend, Cond.instanceMethod yX6_spend, Cond.selects RX6 yX6_spend yX6_spend, Cond.code yX6_spend cX6_spend 2 none]
def wsL_law0_r8 : List Cond := [Cond.methodLink RX6 72 yX1_setRock, Cond.instanceMethod yX1_setRock, Cond.selects RX1 yX1_setRock yX1_setRock, Cond.code yX1_setRock cX1_setRock 4 none, Cond.methodLink RX1 68 yX1_setCell, Cond.instanceMethod yX1_setCell, Cond.selects RX1 yX1_setCell yX1_setCell, Cond.code yX1_setCell cX1_setCell 5 none, Cond.methodLink RL 33 yX6_dig, Cond.instanceMethod yX6_dig, Cond.selects RX6 yX6_dig yX6_dig, Cond.code yX6_dig cX6_dig 4 (some .int), Cond.methodLink RX6 80 yX1_setPond, Cond.instanceMethod yX1_setPond, Cond.selects RX1 yX1_setPond yX1_setPond, Cond.code yX1_setPond cX1_setPond 2 none, Cond.methodLink RX1 72 yX1_surveyPonds, Cond.instanceMethod yX1_surveyPonds, Cond.selects RX1 yX1_surveyPonds yX1_surveyPonds, Cond.code yX1_surveyPonds cX1_surveyPonds 2 none, Cond.methodLink RX1 87 yX1_isUnknownPond, Cond.instanceMethod yX1_isUnknownPond, Cond.selects RX1 yX1_isUnknownPond yX1_isUnknownPond, Cond.code yX1_isUnknownPond cX1_isUnknownPond 2 (some .boolean)]
def wsL_law0_r9 : List Cond := [Cond.methodLink RX1 90 yX1_surveyPond, Cond.instanceMethod yX1_surveyPond, Cond.selects RX1 yX1_surveyPond yX1_surveyPond, Cond.code yX1_surveyPond cX1_surveyPond 6 none, Cond.methodLink RX1 94 yX1_reachOnFrom, Cond.instanceMethod yX1_reachOnFrom, Cond.selects RX1 yX1_reachOnFrom yX1_reachOnFrom, Cond.code yX1_reachOnFrom cX1_reachOnFrom 7 (some .int), Cond.methodLink RX1 98 yX1_beside, Cond.instanceMethod yX1_beside, Cond.selects RX1 yX1_beside yX1_beside, Cond.code yX1_beside cX1_beside 5 (some .int), Cond.fieldLink RX1 47 "MoonGate$Garden" "STEP_X" "[I", Cond.fieldLink RX1 50 "MoonGate$Garden" "STEP_Y" "[I", Cond.methodLink RX1 44 yX1_isDirection, Cond.static yX1_isDirection, Cond.code yX1_isDirection cX1_isDirection 1 (some .boolean), Cond.methodLink RX1 53 yX1_isInside, Cond.methodLink RX1 57 yX1_numberOf, Cond.methodLink RX6 83 yX1_cellsOfPondAt, Cond.instanceMethod yX1_cellsOfPondAt, Cond.selects RX1 yX1_cellsOfPondAt yX1_cellsOfPondAt, Cond.code yX1_cellsOfPondAt cX1_cellsOfPondAt 3 (some .int), Cond.methodLink RX1 78 yX1_pondAt]
def wsL_law0_r10 : List Cond := [Cond.instanceMethod yX1_pondAt, Cond.selects RX1 yX1_pondAt yX1_pondAt, Cond.code yX1_pondAt cX1_pondAt 3 (some .int), Cond.methodLink RL 36 yX7_pond, Cond.instanceMethod yX7_pond, Cond.selects RX7 yX7_pond yX7_pond, Cond.code yX7_pond cX7_pond 8 (some (.array (.array .boolean))), Cond.classLink RX7 34 "[[Z", Cond.methodLink RL 40 yX7_many, Cond.static yX7_many, Cond.code yX7_many cX7_many 10 (some .int), Cond.methodLink RL 44 yX6_wall, Cond.instanceMethod yX6_wall, Cond.selects RX6 yX6_wall yX6_wall, Cond.code yX6_wall cX6_wall 4 (some .int), Cond.methodLink RX6 87 yX1_setWall, Cond.instanceMethod yX1_setWall, Cond.selects RX1 yX1_setWall yX1_setWall, Cond.code yX1_setWall cX1_setWall 2 none, Cond.methodLink RL 51 yX6_clear, Cond.instanceMethod yX6_clear, Cond.selects RX6 yX6_clear yX6_clear, Cond.code yX6_clear cX6_clear 4 (some .int), Cond.methodLink RX6 101 yX1_hasCarps]
def wsL_law0_r11 : List Cond := [Cond.instanceMethod yX1_hasCarps, Cond.selects RX1 yX1_hasCarps yX1_hasCarps, Cond.code yX1_hasCarps cX1_hasCarps 2 (some .boolean), Cond.methodLink RX6 106 yX1_sizeAt, Cond.instanceMethod yX1_sizeAt, Cond.selects RX1 yX1_sizeAt yX1_sizeAt, Cond.code yX1_sizeAt cX1_sizeAt 2 (some .int), Cond.methodLink RX6 109 yX1_setBare, Cond.instanceMethod yX1_setBare, Cond.selects RX1 yX1_setBare yX1_setBare, Cond.code yX1_setBare cX1_setBare 3 none, Cond.methodLink RX1 75 yX1_isPond, Cond.instanceMethod yX1_isPond, Cond.selects RX1 yX1_isPond yX1_isPond, Cond.code yX1_isPond cX1_isPond 2 (some .boolean), Cond.methodLink RL 54 yX6_carp, Cond.instanceMethod yX6_carp, Cond.selects RX6 yX6_carp yX6_carp, Cond.code yX6_carp cX6_carp 5 (some .int), Cond.fieldLink RX6 129 "MoonGate$Shoal" "came" "I", Cond.methodLink RX6 124 yX1_isPond, Cond.methodLink RX6 134 yX4_add, Cond.instanceMethod yX4_add, Cond.selects RX4 yX4_add yX4_add]
def wsL_law0_r12 : List Cond := [Cond.code yX4_add cX4_add 3 (some .int), Cond.methodLink RX6 137 yX0_setCarpSize, Cond.instanceMethod yX0_setCarpSize, Cond.selects RX0 yX0_setCarpSize yX0_setCarpSize, Cond.code yX0_setCarpSize cX0_setCarpSize 3 none, Cond.methodLink RX0 25 Lib.Math.min.name, Cond.methodLink RX0 31 Lib.Math.max.name, Cond.methodLink RX6 140 yX1_changeCarps, Cond.instanceMethod yX1_changeCarps, Cond.selects RX1 yX1_changeCarps yX1_changeCarps, Cond.code yX1_changeCarps cX1_changeCarps 4 none, Cond.methodLink RL 57 yX7_more, Cond.static yX7_more, Cond.code yX7_more cX7_more 4 (some (.array (.array .int))), Cond.methodLink RL 61 yX6_sell, Cond.instanceMethod yX6_sell, Cond.selects RX6 yX6_sell yX6_sell, Cond.code yX6_sell cX6_sell 2 (some .int), Cond.methodLink RX6 143 yX6_checkCarp, Cond.instanceMethod yX6_checkCarp, Cond.selects RX6 yX6_checkCarp yX6_checkCarp, Cond.code yX6_checkCarp cX6_checkCarp 2 none, Cond.methodLink RX6 146 yX4_isHere, Cond.instanceMethod yX4_isHere]
def wsL_law0_r13 : List Cond := [Cond.selects RX4 yX4_isHere yX4_isHere, Cond.code yX4_isHere cX4_isHere 2 (some .boolean), Cond.methodLink RX4 23 yX4_isNumber, Cond.instanceMethod yX4_isNumber, Cond.selects RX4 yX4_isNumber yX4_isNumber, Cond.code yX4_isNumber cX4_isNumber 2 (some .boolean), Cond.methodLink RX6 151 yX4_takeOut, Cond.instanceMethod yX4_takeOut, Cond.selects RX4 yX4_takeOut yX4_takeOut, Cond.code yX4_takeOut cX4_takeOut 2 none, Cond.methodLink RX6 154 yX4_placeOf, Cond.instanceMethod yX4_placeOf, Cond.selects RX4 yX4_placeOf yX4_placeOf, Cond.code yX4_placeOf cX4_placeOf 2 (some .int), Cond.methodLink RX6 157 yX0_carpSize, Cond.instanceMethod yX0_carpSize, Cond.selects RX0 yX0_carpSize yX0_carpSize, Cond.code yX0_carpSize cX0_carpSize 2 (some .int), Cond.methodLink RL 68 yX6_gate, Cond.instanceMethod yX6_gate, Cond.selects RX6 yX6_gate yX6_gate, Cond.code yX6_gate cX6_gate 4 (some .int), Cond.fieldLink RX6 171 "MoonGate$Gates" "many" "I", Cond.methodLink RX6 163 yX1_isDirection]
def wsL_law0_r14 : List Cond := [Cond.methodLink RX6 176 yX2_add, Cond.instanceMethod yX2_add, Cond.selects RX2 yX2_add yX2_add, Cond.code yX2_add cX2_add 4 (some .int), Cond.methodLink RL 75 yX6_invite, Cond.instanceMethod yX6_invite, Cond.selects RX6 yX6_invite yX6_invite, Cond.code yX6_invite cX6_invite 2 (some .int), Cond.fieldLink RX6 200 "MoonGate$Poets" "many" "I", Cond.methodLink RX6 178 yX6_checkGate, Cond.instanceMethod yX6_checkGate, Cond.selects RX6 yX6_checkGate yX6_checkGate, Cond.code yX6_checkGate cX6_checkGate 2 none, Cond.methodLink RX6 203 yX3_add, Cond.instanceMethod yX3_add, Cond.selects RX3 yX3_add yX3_add, Cond.code yX3_add cX3_add 3 (some .int), Cond.methodLink RL 78 yX6_lead, Cond.instanceMethod yX6_lead, Cond.selects RX6 yX6_lead yX6_lead, Cond.code yX6_lead cX6_lead 4 (some .int), Cond.methodLink RX6 204 yX6_checkPoet, Cond.instanceMethod yX6_checkPoet, Cond.selects RX6 yX6_checkPoet yX6_checkPoet]
def wsL_law0_r15 : List Cond := [Cond.code yX6_checkPoet cX6_checkPoet 2 none, Cond.methodLink RX6 207 yX3_gateOf, Cond.instanceMethod yX3_gateOf, Cond.selects RX3 yX3_gateOf yX3_gateOf, Cond.code yX3_gateOf cX3_gateOf 2 (some .int), Cond.methodLink RX3 19 yX3_isNumber, Cond.instanceMethod yX3_isNumber, Cond.selects RX3 yX3_isNumber yX3_isNumber, Cond.code yX3_isNumber cX3_isNumber 2 (some .boolean), Cond.methodLink RX6 210 yX3_setGate, Cond.instanceMethod yX3_setGate, Cond.selects RX3 yX3_setGate yX3_setGate, Cond.code yX3_setGate cX3_setGate 3 none, Cond.methodLink RL 91 yX6_pass, Cond.instanceMethod yX6_pass, Cond.selects RX6 yX6_pass yX6_pass, Cond.code yX6_pass cX6_pass 2 (some .int), Cond.methodLink RX6 243 yX6_checkDays, Cond.instanceMethod yX6_checkDays, Cond.selects RX6 yX6_checkDays yX6_checkDays, Cond.code yX6_checkDays cX6_checkDays 2 none, Cond.methodLink RX6 246 yX6_letPass, Cond.instanceMethod yX6_letPass, Cond.selects RX6 yX6_letPass yX6_letPass]
def wsL_law0_r16 : List Cond := [Cond.code yX6_letPass cX6_letPass 6 (some .int), Cond.fieldLink RX6 216 "MoonGate$Course" "day" "I", Cond.methodLink RX6 292 yX6_letCarpsGrow, Cond.instanceMethod yX6_letCarpsGrow, Cond.selects RX6 yX6_letCarpsGrow yX6_letCarpsGrow, Cond.code yX6_letCarpsGrow cX6_letCarpsGrow 4 none, Cond.methodLink RX6 298 yX1_isTooFull, Cond.instanceMethod yX1_isTooFull, Cond.selects RX1 yX1_isTooFull yX1_isTooFull, Cond.code yX1_isTooFull cX1_isTooFull 2 (some .boolean), Cond.methodLink RX1 81 yX1_carpsOfPondAt, Cond.instanceMethod yX1_carpsOfPondAt, Cond.selects RX1 yX1_carpsOfPondAt yX1_carpsOfPondAt, Cond.code yX1_carpsOfPondAt cX1_carpsOfPondAt 3 (some .int), Cond.methodLink RX1 84 yX1_cellsOfPondAt, Cond.methodLink RX6 295 yX6_letPoetsWrite, Cond.instanceMethod yX6_letPoetsWrite, Cond.selects RX6 yX6_letPoetsWrite yX6_letPoetsWrite, Cond.code yX6_letPoetsWrite cX6_letPoetsWrite 6 (some .int), Cond.methodLink RX6 219 yX0_isFullMoon, Cond.instanceMethod yX0_isFullMoon, Cond.selects RX0 yX0_isFullMoon yX0_isFullMoon, Cond.code yX0_isFullMoon cX0_isFullMoon 1 (some .boolean), Cond.methodLink RX6 181 yX6_look]
def wsL_law0_r17 : List Cond := [Cond.instanceMethod yX6_look, Cond.selects RX6 yX6_look yX6_look, Cond.code yX6_look cX6_look 6 (some .int), Cond.fieldLink RX6 194 "MoonGate$View" "beauty" "I", Cond.methodLink RX6 307 yX5_begin, Cond.instanceMethod yX5_begin, Cond.selects RX5 yX5_begin yX5_begin, Cond.code yX5_begin cX5_begin 1 none, Cond.fieldLink RX5 7 "MoonGate$View" "cells" "I", Cond.fieldLink RX5 13 "MoonGate$View" "rocks" "I", Cond.fieldLink RX5 16 "MoonGate$View" "pondCells" "I", Cond.fieldLink RX5 19 "MoonGate$View" "beauty" "I", Cond.fieldLink RX5 22 "MoonGate$View" "shapesShown" "I", Cond.methodLink RX6 310 yX2_directionOf, Cond.instanceMethod yX2_directionOf, Cond.selects RX2 yX2_directionOf yX2_directionOf, Cond.code yX2_directionOf cX2_directionOf 2 (some .int), Cond.methodLink RX2 22 yX2_isNumber, Cond.instanceMethod yX2_isNumber, Cond.selects RX2 yX2_isNumber yX2_isNumber, Cond.code yX2_isNumber cX2_isNumber 2 (some .boolean), Cond.methodLink RX6 313 yX2_placeOf, Cond.instanceMethod yX2_placeOf, Cond.selects RX2 yX2_placeOf yX2_placeOf]
def wsL_law0_r18 : List Cond := [Cond.code yX2_placeOf cX2_placeOf 2 (some .int), Cond.methodLink RX6 314 yX1_beside, Cond.methodLink RX6 317 yX1_isWall, Cond.instanceMethod yX1_isWall, Cond.selects RX1 yX1_isWall yX1_isWall, Cond.code yX1_isWall cX1_isWall 2 (some .boolean), Cond.methodLink RX6 320 yX6_show, Cond.instanceMethod yX6_show, Cond.selects RX6 yX6_show yX6_show, Cond.code yX6_show cX6_show 4 none, Cond.fieldLink RX6 185 "MoonGate$View" "cells" "I", Cond.methodLink RX6 115 yX1_kindAt, Cond.methodLink RX6 118 yX1_shapeAt, Cond.instanceMethod yX1_shapeAt, Cond.selects RX1 yX1_shapeAt yX1_shapeAt, Cond.code yX1_shapeAt cX1_shapeAt 2 (some .int), Cond.methodLink RX6 327 yX5_addRock, Cond.instanceMethod yX5_addRock, Cond.selects RX5 yX5_addRock yX5_addRock, Cond.code yX5_addRock cX5_addRock 4 none, Cond.methodLink RX6 330 yX4_sizesIn, Cond.instanceMethod yX4_sizesIn, Cond.selects RX4 yX4_sizesIn yX4_sizesIn, Cond.code yX4_sizesIn cX4_sizesIn 5 (some .int)]
def wsL_law0_r19 : List Cond := [Cond.methodLink RX4 30 yX0_carpSize, Cond.methodLink RX6 333 yX5_addPondCell, Cond.instanceMethod yX5_addPondCell, Cond.selects RX5 yX5_addPondCell yX5_addPondCell, Cond.code yX5_addPondCell cX5_addPondCell 2 none, Cond.methodLink RX6 324 yX1_isGreatRock, Cond.instanceMethod yX1_isGreatRock, Cond.selects RX1 yX1_isGreatRock yX1_isGreatRock, Cond.code yX1_isGreatRock cX1_isGreatRock 2 (some .boolean), Cond.methodLink RX1 65 yX1_sizeAt, Cond.methodLink RX6 301 yX0_addWritten, Cond.instanceMethod yX0_addWritten, Cond.selects RX0 yX0_addWritten yX0_addWritten, Cond.code yX0_addWritten cX0_addWritten 3 none, Cond.methodLink RL 94 yX7_pass, Cond.instanceMethod yX7_pass, Cond.selects RX7 yX7_pass yX7_pass, Cond.code yX7_pass cX7_pass 7 (some .int), Cond.fieldLink RX7 59 "MoonGateLaw$Sim" "day" "I", Cond.methodLink RX7 44 yX7_pond, Cond.methodLink RX7 48 yX7_carpsIn, Cond.instanceMethod yX7_carpsIn, Cond.selects RX7 yX7_carpsIn yX7_carpsIn, Cond.code yX7_carpsIn cX7_carpsIn 7 (some .int)]
def wsL_law0_r20 : List Cond := [Cond.methodLink RX7 52 yX7_many, Cond.methodLink RX7 55 yX7_beauty, Cond.instanceMethod yX7_beauty, Cond.selects RX7 yX7_beauty yX7_beauty, Cond.code yX7_beauty cX7_beauty 11 (some .int), Cond.methodLink RX7 40 yX7_shows, Cond.instanceMethod yX7_shows, Cond.selects RX7 yX7_shows yX7_shows, Cond.code yX7_shows cX7_shows 6 (some (.array (.array .int))), Cond.methodLink RX7 36 yX7_more, Cond.methodLink RL 102 yX6_count, Cond.instanceMethod yX6_count, Cond.selects RX6 yX6_count yX6_count, Cond.code yX6_count cX6_count 2 (some .int), Cond.fieldLink RX6 226 "MoonGate$Garden" "ponds" "I", Cond.methodLink RX6 112 yX6_checkWhat, Cond.instanceMethod yX6_checkWhat, Cond.selects RX6 yX6_checkWhat yX6_checkWhat, Cond.code yX6_checkWhat cX6_checkWhat 3 none, Cond.methodLink RX6 223 yX1_manyOf, Cond.instanceMethod yX1_manyOf, Cond.selects RX1 yX1_manyOf yX1_manyOf, Cond.code yX1_manyOf cX1_manyOf 4 (some .int), Cond.methodLink RX6 229 yX4_manyHere]
def wsL_law0_r21 : List Cond := [Cond.instanceMethod yX4_manyHere, Cond.selects RX4 yX4_manyHere yX4_manyHere, Cond.code yX4_manyHere cX4_manyHere 3 (some .int), Cond.methodLink RX4 27 yX4_isHere, Cond.methodLink RX6 233 yX6_changingCount, Cond.instanceMethod yX6_changingCount, Cond.selects RX6 yX6_changingCount yX6_changingCount, Cond.code yX6_changingCount cX6_changingCount 3 (some .int), Cond.methodLink RX6 236 yX4_sizesHere, Cond.instanceMethod yX4_sizesHere, Cond.selects RX4 yX4_sizesHere yX4_sizesHere, Cond.code yX4_sizesHere cX4_sizesHere 4 (some .int), Cond.methodLink RX6 240 yX0_writtenByAll, Cond.instanceMethod yX0_writtenByAll, Cond.selects RX0 yX0_writtenByAll yX0_writtenByAll, Cond.code yX0_writtenByAll cX0_writtenByAll 3 (some .int), Cond.methodLink RL 110 yX6_cell, Cond.instanceMethod yX6_cell, Cond.selects RX6 yX6_cell yX6_cell, Cond.code yX6_cell cX6_cell 5 (some .int), Cond.methodLink RX6 121 yX1_carpsOfPondAt, Cond.methodLink RL 112 yX6_told, Cond.instanceMethod yX6_told, Cond.selects RX6 yX6_told yX6_told]
def wsL_law0_r22 : List Cond := [Cond.code yX6_told cX6_told 3 (some .int), Cond.methodLink RX6 160 yX6_rankOf, Cond.instanceMethod yX6_rankOf, Cond.selects RX6 yX6_rankOf yX6_rankOf, Cond.code yX6_rankOf cX6_rankOf 4 (some .int), Cond.methodLink RL 115 yX6_lines, Cond.instanceMethod yX6_lines, Cond.selects RX6 yX6_lines yX6_lines, Cond.code yX6_lines cX6_lines 2 (some .int), Cond.methodLink RX6 213 yX0_written, Cond.instanceMethod yX0_written, Cond.selects RX0 yX0_written yX0_written, Cond.code yX0_written cX0_written 2 (some .int), Cond.methodLink RL 118 yX6_about, Cond.instanceMethod yX6_about, Cond.selects RX6 yX6_about yX6_about, Cond.code yX6_about cX6_about 3 (some .int), Cond.fieldLink RX6 188 "MoonGate$View" "rocks" "I", Cond.fieldLink RX6 191 "MoonGate$View" "pondCells" "I", Cond.methodLink RX6 197 yX3_manyAt, Cond.instanceMethod yX3_manyAt, Cond.selects RX3 yX3_manyAt yX3_manyAt, Cond.code yX3_manyAt cX3_manyAt 4 (some .int), Cond.methodLink RX3 23 yX3_gateOf]
def wsL_law0_r23 : List Cond := [Cond.methodLink RL 124 yX6_finest, Cond.instanceMethod yX6_finest, Cond.selects RX6 yX6_finest yX6_finest, Cond.code yX6_finest cX6_finest 5 (some .int), Cond.methodLink RL 127 yX6_digest, Cond.instanceMethod yX6_digest, Cond.selects RX6 yX6_digest yX6_digest, Cond.code yX6_digest cX6_digest 4 (some .long), Cond.constantLong RX6 262 (1193), Cond.constantLong RX6 264 (31), Cond.methodLink RX6 266 yX6_count, Cond.methodLink RX6 269 yX6_digestOfCells, Cond.instanceMethod yX6_digestOfCells, Cond.selects RX6 yX6_digestOfCells yX6_digestOfCells, Cond.code yX6_digestOfCells cX6_digestOfCells 8 (some .long), Cond.methodLink RX6 282 yX6_cell, Cond.methodLink RX6 273 yX6_digestOfCarps, Cond.instanceMethod yX6_digestOfCarps, Cond.selects RX6 yX6_digestOfCarps yX6_digestOfCarps, Cond.code yX6_digestOfCarps cX6_digestOfCarps 7 (some .long), Cond.methodLink RX6 286 yX6_told, Cond.methodLink RX6 276 yX6_digestOfGates, Cond.instanceMethod yX6_digestOfGates, Cond.selects RX6 yX6_digestOfGates yX6_digestOfGates]
def wsL_law0_r24 : List Cond := [Cond.code yX6_digestOfGates cX6_digestOfGates 7 (some .long), Cond.methodLink RX6 289 yX6_about, Cond.methodLink RX6 279 yX6_lines, Cond.methodLink RL 131 yX6_foresee, Cond.instanceMethod yX6_foresee, Cond.selects RX6 yX6_foresee yX6_foresee, Cond.code yX6_foresee cX6_foresee 3 (some .int), Cond.methodLink RX6 254 yX0_becomeLike, Cond.instanceMethod yX0_becomeLike, Cond.selects RX0 yX0_becomeLike yX0_becomeLike, Cond.code yX0_becomeLike cX0_becomeLike 3 none, Cond.methodLink RL 134 yX6_advise, Cond.instanceMethod yX6_advise, Cond.selects RX6 yX6_advise yX6_advise, Cond.code yX6_advise cX6_advise 8 (some .int), Cond.methodLink RX6 258 yX6_beautyWithRock, Cond.instanceMethod yX6_beautyWithRock, Cond.selects RX6 yX6_beautyWithRock yX6_beautyWithRock, Cond.code yX6_beautyWithRock cX6_beautyWithRock 6 (some .int), Cond.methodLink RX6 304 yX1_takeRock, Cond.instanceMethod yX1_takeRock, Cond.selects RX1 yX1_takeRock yX1_takeRock, Cond.code yX1_takeRock cX1_takeRock 2 none, Cond.methodLink RL 140 yX7_isSame]
def wsL_law0_r25 : List Cond := [Cond.instanceMethod yX7_isSame, Cond.selects RX7 yX7_isSame yX7_isSame, Cond.code yX7_isSame cX7_isSame 13 (some .boolean), Cond.methodLink RX7 67 yX6_cell, Cond.methodLink RX7 73 yX6_told, Cond.methodLink RX7 77 yX6_about, Cond.methodLink RX7 80 yX6_lines, Cond.methodLink RX7 84 yX7_counts, Cond.instanceMethod yX7_counts, Cond.selects RX7 yX7_counts yX7_counts, Cond.code yX7_counts cX7_counts 12 (some (.array .int)), Cond.methodLink RX7 88 yX6_count, Cond.methodLink RX7 91 yX6_finest, Cond.methodLink RX7 95 yX6_mean, Cond.instanceMethod yX6_mean, Cond.selects RX6 yX6_mean yX6_mean, Cond.code yX6_mean cX6_mean 3 (some .double)]
def wsL_law0 : List Cond := (wsL_law0_r1 ++ (wsL_law0_r2 ++ (wsL_law0_r3 ++ (wsL_law0_r4 ++ (wsL_law0_r5 ++ (wsL_law0_r6 ++ (wsL_law0_r7 ++ (wsL_law0_r8 ++ (wsL_law0_r9 ++ (wsL_law0_r10 ++ (wsL_law0_r11 ++ (wsL_law0_r12 ++ (wsL_law0_r13 ++ (wsL_law0_r14 ++ (wsL_law0_r15 ++ (wsL_law0_r16 ++ (wsL_law0_r17 ++ (wsL_law0_r18 ++ (wsL_law0_r19 ++ (wsL_law0_r20 ++ (wsL_law0_r21 ++ (wsL_law0_r22 ++ (wsL_law0_r23 ++ (wsL_law0_r24 ++ wsL_law0_r25)))))))))))))))))))))))) ++ wsX60 ++ wsX70 ++ wsX10 ++ wsX40 ++ wsX20 ++ wsX30 ++ wsX00 ++ wsX50 ++ ([] : List Cond)
def wsL_law : List Cond := wsL_law0 ++ (vx_atS RX6 253 "java/lang/IndexOutOfBoundsException" ["java/lang/RuntimeException", "java/lang/Exception"]).filter goodWord ++ (vx_atS RX6 170 "java/lang/IllegalArgumentException" ["java/lang/RuntimeException", "java/lang/Exception"]).filter goodWord ++ (vx_atS RX6 98 "java/lang/IllegalStateException" ["java/lang/RuntimeException", "java/lang/Exception"]).filter goodWord
abbrev vwCl : List vw_C := [(RX0, TX0, 4), (RX1, TX1, 9), (RX2, TX2, 3), (RX3, TX3, 2), (RX4, TX4, 3), (RX5, TX5, 5), (RX6, TX6, 7), (RX7, TX7, 6)]
end
section
theorem dX0_init_0 : decode cX0_init 0 = .ok (.aload_n 0, 1) := by decide +kernel
theorem dX0_init_1 : decode cX0_init 1 = .ok (.invokespecial 3, 3) := by decide +kernel
theorem dX0_init_4 : decode cX0_init 4 = .ok (.aload_n 0, 1) := by decide +kernel
theorem dX0_init_5 : decode cX0_init 5 = .ok (.iconst 0, 1) := by decide +kernel
theorem dX0_init_6 : decode cX0_init 6 = .ok (.putfield 9, 3) := by decide +kernel
theorem dX0_init_9 : decode cX0_init 9 = .ok (.aload_n 0, 1) := by decide +kernel
theorem dX0_init_10 : decode cX0_init 10 = .ok (.bipush 100, 2) := by decide +kernel
theorem dX0_init_12 : decode cX0_init 12 = .ok (.putfield 15, 3) := by decide +kernel
theorem dX0_init_15 : decode cX0_init 15 = .ok (.aload_n 0, 1) := by decide +kernel
theorem dX0_init_16 : decode cX0_init 16 = .ok (.bipush 30, 2) := by decide +kernel
theorem dX0_init_18 : decode cX0_init 18 = .ok (.newarray .int, 2) := by decide +kernel
theorem dX0_init_20 : decode cX0_init 20 = .ok (.putfield 18, 3) := by decide +kernel
theorem dX0_init_23 : decode cX0_init 23 = .ok (.aload_n 0, 1) := by decide +kernel
theorem dX0_init_24 : decode cX0_init 24 = .ok (.iconst 5, 1) := by decide +kernel
theorem dX0_init_25 : decode cX0_init 25 = .ok (.newarray .int, 2) := by decide +kernel
theorem dX0_init_27 : decode cX0_init 27 = .ok (.putfield 22, 3) := by decide +kernel
theorem dX0_init_30 : decode cX0_init 30 = .ok (.return_, 1) := by decide +kernel
theorem dX0_becomeLike_0 : decode cX0_becomeLike 0 = .ok (.aload_n 0, 1) := by decide +kernel
theorem dX0_becomeLike_1 : decode cX0_becomeLike 1 = .ok (.aload_n 1, 1) := by decide +kernel
theorem dX0_becomeLike_2 : decode cX0_becomeLike 2 = .ok (.getfield 9, 3) := by decide +kernel
theorem dX0_becomeLike_5 : decode cX0_becomeLike 5 = .ok (.putfield 9, 3) := by decide +kernel
theorem dX0_becomeLike_8 : decode cX0_becomeLike 8 = .ok (.aload_n 0, 1) := by decide +kernel
theorem dX0_becomeLike_9 : decode cX0_becomeLike 9 = .ok (.aload_n 1, 1) := by decide +kernel
theorem dX0_becomeLike_10 : decode cX0_becomeLike 10 = .ok (.getfield 15, 3) := by decide +kernel
theorem dX0_becomeLike_13 : decode cX0_becomeLike 13 = .ok (.putfield 15, 3) := by decide +kernel
theorem dX0_becomeLike_16 : decode cX0_becomeLike 16 = .ok (.iconst 0, 1) := by decide +kernel
theorem dX0_becomeLike_17 : decode cX0_becomeLike 17 = .ok (.istore_n 2, 1) := by decide +kernel
theorem dX0_becomeLike_18 : decode cX0_becomeLike 18 = .ok (.iload_n 2, 1) := by decide +kernel
theorem dX0_becomeLike_19 : decode cX0_becomeLike 19 = .ok (.bipush 30, 2) := by decide +kernel
theorem dX0_becomeLike_21 : decode cX0_becomeLike 21 = .ok (.if_icmp .ge 21, 3) := by decide +kernel
theorem dX0_becomeLike_24 : decode cX0_becomeLike 24 = .ok (.aload_n 0, 1) := by decide +kernel
theorem dX0_becomeLike_25 : decode cX0_becomeLike 25 = .ok (.getfield 18, 3) := by decide +kernel
theorem dX0_becomeLike_28 : decode cX0_becomeLike 28 = .ok (.iload_n 2, 1) := by decide +kernel
theorem dX0_becomeLike_29 : decode cX0_becomeLike 29 = .ok (.aload_n 1, 1) := by decide +kernel
theorem dX0_becomeLike_30 : decode cX0_becomeLike 30 = .ok (.getfield 18, 3) := by decide +kernel
theorem dX0_becomeLike_33 : decode cX0_becomeLike 33 = .ok (.iload_n 2, 1) := by decide +kernel
theorem dX0_becomeLike_34 : decode cX0_becomeLike 34 = .ok (.iaload, 1) := by decide +kernel
theorem dX0_becomeLike_35 : decode cX0_becomeLike 35 = .ok (.iastore, 1) := by decide +kernel
theorem dX0_becomeLike_36 : decode cX0_becomeLike 36 = .ok (.iinc 2 1, 3) := by decide +kernel
theorem dX0_becomeLike_39 : decode cX0_becomeLike 39 = .ok (.goto (-21), 3) := by decide +kernel
theorem dX0_becomeLike_42 : decode cX0_becomeLike 42 = .ok (.iconst 0, 1) := by decide +kernel
theorem dX0_becomeLike_43 : decode cX0_becomeLike 43 = .ok (.istore_n 2, 1) := by decide +kernel
theorem dX0_becomeLike_44 : decode cX0_becomeLike 44 = .ok (.iload_n 2, 1) := by decide +kernel
theorem dX0_becomeLike_45 : decode cX0_becomeLike 45 = .ok (.iconst 5, 1) := by decide +kernel
theorem dX0_becomeLike_46 : decode cX0_becomeLike 46 = .ok (.if_icmp .ge 21, 3) := by decide +kernel
theorem dX0_becomeLike_49 : decode cX0_becomeLike 49 = .ok (.aload_n 0, 1) := by decide +kernel
theorem dX0_becomeLike_50 : decode cX0_becomeLike 50 = .ok (.getfield 22, 3) := by decide +kernel
theorem dX0_becomeLike_53 : decode cX0_becomeLike 53 = .ok (.iload_n 2, 1) := by decide +kernel
theorem dX0_becomeLike_54 : decode cX0_becomeLike 54 = .ok (.aload_n 1, 1) := by decide +kernel
theorem dX0_becomeLike_55 : decode cX0_becomeLike 55 = .ok (.getfield 22, 3) := by decide +kernel
theorem dX0_becomeLike_58 : decode cX0_becomeLike 58 = .ok (.iload_n 2, 1) := by decide +kernel
theorem dX0_becomeLike_59 : decode cX0_becomeLike 59 = .ok (.iaload, 1) := by decide +kernel
theorem dX0_becomeLike_60 : decode cX0_becomeLike 60 = .ok (.iastore, 1) := by decide +kernel
theorem dX0_becomeLike_61 : decode cX0_becomeLike 61 = .ok (.iinc 2 1, 3) := by decide +kernel
theorem dX0_becomeLike_64 : decode cX0_becomeLike 64 = .ok (.goto (-20), 3) := by decide +kernel
theorem dX0_becomeLike_67 : decode cX0_becomeLike 67 = .ok (.return_, 1) := by decide +kernel
theorem dX0_isFullMoon_0 : decode cX0_isFullMoon 0 = .ok (.aload_n 0, 1) := by decide +kernel
theorem dX0_isFullMoon_1 : decode cX0_isFullMoon 1 = .ok (.getfield 9, 3) := by decide +kernel
theorem dX0_isFullMoon_4 : decode cX0_isFullMoon 4 = .ok (.bipush 8, 2) := by decide +kernel
theorem dX0_isFullMoon_6 : decode cX0_isFullMoon 6 = .ok (.irem, 1) := by decide +kernel
theorem dX0_isFullMoon_7 : decode cX0_isFullMoon 7 = .ok (.iconst 4, 1) := by decide +kernel
theorem dX0_isFullMoon_8 : decode cX0_isFullMoon 8 = .ok (.if_icmp .ne 7, 3) := by decide +kernel
theorem dX0_isFullMoon_11 : decode cX0_isFullMoon 11 = .ok (.iconst 1, 1) := by decide +kernel
theorem dX0_isFullMoon_12 : decode cX0_isFullMoon 12 = .ok (.goto 4, 3) := by decide +kernel
theorem dX0_isFullMoon_15 : decode cX0_isFullMoon 15 = .ok (.iconst 0, 1) := by decide +kernel
theorem dX0_isFullMoon_16 : decode cX0_isFullMoon 16 = .ok (.ireturn, 1) := by decide +kernel
theorem dX0_carpSize_0 : decode cX0_carpSize 0 = .ok (.iload_n 1, 1) := by decide +kernel
theorem dX0_carpSize_1 : decode cX0_carpSize 1 = .ok (.ifCond .lt 18, 3) := by decide +kernel
theorem dX0_carpSize_4 : decode cX0_carpSize 4 = .ok (.iload_n 1, 1) := by decide +kernel
theorem dX0_carpSize_5 : decode cX0_carpSize 5 = .ok (.bipush 30, 2) := by decide +kernel
theorem dX0_carpSize_7 : decode cX0_carpSize 7 = .ok (.if_icmp .ge 12, 3) := by decide +kernel
theorem dX0_carpSize_10 : decode cX0_carpSize 10 = .ok (.aload_n 0, 1) := by decide +kernel
theorem dX0_carpSize_11 : decode cX0_carpSize 11 = .ok (.getfield 18, 3) := by decide +kernel
theorem dX0_carpSize_14 : decode cX0_carpSize 14 = .ok (.iload_n 1, 1) := by decide +kernel
theorem dX0_carpSize_15 : decode cX0_carpSize 15 = .ok (.iaload, 1) := by decide +kernel
theorem dX0_carpSize_16 : decode cX0_carpSize 16 = .ok (.goto 4, 3) := by decide +kernel
theorem dX0_carpSize_19 : decode cX0_carpSize 19 = .ok (.iconst 0, 1) := by decide +kernel
theorem dX0_carpSize_20 : decode cX0_carpSize 20 = .ok (.ireturn, 1) := by decide +kernel
theorem dX0_setCarpSize_0 : decode cX0_setCarpSize 0 = .ok (.iload_n 1, 1) := by decide +kernel
theorem dX0_setCarpSize_1 : decode cX0_setCarpSize 1 = .ok (.ifCond .lt 25, 3) := by decide +kernel
theorem dX0_setCarpSize_4 : decode cX0_setCarpSize 4 = .ok (.iload_n 1, 1) := by decide +kernel
theorem dX0_setCarpSize_5 : decode cX0_setCarpSize 5 = .ok (.bipush 30, 2) := by decide +kernel
theorem dX0_setCarpSize_7 : decode cX0_setCarpSize 7 = .ok (.if_icmp .ge 19, 3) := by decide +kernel
theorem dX0_setCarpSize_10 : decode cX0_setCarpSize 10 = .ok (.aload_n 0, 1) := by decide +kernel
theorem dX0_setCarpSize_11 : decode cX0_setCarpSize 11 = .ok (.getfield 18, 3) := by decide +kernel
theorem dX0_setCarpSize_14 : decode cX0_setCarpSize 14 = .ok (.iload_n 1, 1) := by decide +kernel
theorem dX0_setCarpSize_15 : decode cX0_setCarpSize 15 = .ok (.iconst 1, 1) := by decide +kernel
theorem dX0_setCarpSize_16 : decode cX0_setCarpSize 16 = .ok (.bipush 40, 2) := by decide +kernel
theorem dX0_setCarpSize_18 : decode cX0_setCarpSize 18 = .ok (.iload_n 2, 1) := by decide +kernel
theorem dX0_setCarpSize_19 : decode cX0_setCarpSize 19 = .ok (.invokestatic 25, 3) := by decide +kernel
theorem dX0_setCarpSize_22 : decode cX0_setCarpSize 22 = .ok (.invokestatic 31, 3) := by decide +kernel
theorem dX0_setCarpSize_25 : decode cX0_setCarpSize 25 = .ok (.iastore, 1) := by decide +kernel
theorem dX0_setCarpSize_26 : decode cX0_setCarpSize 26 = .ok (.return_, 1) := by decide +kernel
theorem dX0_written_0 : decode cX0_written 0 = .ok (.iload_n 1, 1) := by decide +kernel
theorem dX0_written_1 : decode cX0_written 1 = .ok (.ifCond .lt 17, 3) := by decide +kernel
theorem dX0_written_4 : decode cX0_written 4 = .ok (.iload_n 1, 1) := by decide +kernel
theorem dX0_written_5 : decode cX0_written 5 = .ok (.iconst 5, 1) := by decide +kernel
theorem dX0_written_6 : decode cX0_written 6 = .ok (.if_icmp .ge 12, 3) := by decide +kernel
theorem dX0_written_9 : decode cX0_written 9 = .ok (.aload_n 0, 1) := by decide +kernel
theorem dX0_written_10 : decode cX0_written 10 = .ok (.getfield 22, 3) := by decide +kernel
theorem dX0_written_13 : decode cX0_written 13 = .ok (.iload_n 1, 1) := by decide +kernel
theorem dX0_written_14 : decode cX0_written 14 = .ok (.iaload, 1) := by decide +kernel
theorem dX0_written_15 : decode cX0_written 15 = .ok (.goto 4, 3) := by decide +kernel
theorem dX0_written_18 : decode cX0_written 18 = .ok (.iconst 0, 1) := by decide +kernel
theorem dX0_written_19 : decode cX0_written 19 = .ok (.ireturn, 1) := by decide +kernel
theorem dX0_addWritten_0 : decode cX0_addWritten 0 = .ok (.iload_n 1, 1) := by decide +kernel
theorem dX0_addWritten_1 : decode cX0_addWritten 1 = .ok (.ifCond .lt 18, 3) := by decide +kernel
theorem dX0_addWritten_4 : decode cX0_addWritten 4 = .ok (.iload_n 1, 1) := by decide +kernel
theorem dX0_addWritten_5 : decode cX0_addWritten 5 = .ok (.iconst 5, 1) := by decide +kernel
theorem dX0_addWritten_6 : decode cX0_addWritten 6 = .ok (.if_icmp .ge 13, 3) := by decide +kernel
theorem dX0_addWritten_9 : decode cX0_addWritten 9 = .ok (.aload_n 0, 1) := by decide +kernel
theorem dX0_addWritten_10 : decode cX0_addWritten 10 = .ok (.getfield 22, 3) := by decide +kernel
theorem dX0_addWritten_13 : decode cX0_addWritten 13 = .ok (.iload_n 1, 1) := by decide +kernel
theorem dX0_addWritten_14 : decode cX0_addWritten 14 = .ok (.dup2, 1) := by decide +kernel
theorem dX0_addWritten_15 : decode cX0_addWritten 15 = .ok (.iaload, 1) := by decide +kernel
theorem dX0_addWritten_16 : decode cX0_addWritten 16 = .ok (.iload_n 2, 1) := by decide +kernel
theorem dX0_addWritten_17 : decode cX0_addWritten 17 = .ok (.iadd, 1) := by decide +kernel
theorem dX0_addWritten_18 : decode cX0_addWritten 18 = .ok (.iastore, 1) := by decide +kernel
theorem dX0_addWritten_19 : decode cX0_addWritten 19 = .ok (.return_, 1) := by decide +kernel
theorem dX0_writtenByAll_0 : decode cX0_writtenByAll 0 = .ok (.iconst 0, 1) := by decide +kernel
theorem dX0_writtenByAll_1 : decode cX0_writtenByAll 1 = .ok (.istore_n 1, 1) := by decide +kernel
theorem dX0_writtenByAll_2 : decode cX0_writtenByAll 2 = .ok (.iconst 0, 1) := by decide +kernel
theorem dX0_writtenByAll_3 : decode cX0_writtenByAll 3 = .ok (.istore_n 2, 1) := by decide +kernel
theorem dX0_writtenByAll_4 : decode cX0_writtenByAll 4 = .ok (.iload_n 2, 1) := by decide +kernel
theorem dX0_writtenByAll_5 : decode cX0_writtenByAll 5 = .ok (.iconst 5, 1) := by decide +kernel
theorem dX0_writtenByAll_6 : decode cX0_writtenByAll 6 = .ok (.if_icmp .ge 18, 3) := by decide +kernel
theorem dX0_writtenByAll_9 : decode cX0_writtenByAll 9 = .ok (.iload_n 1, 1) := by decide +kernel
theorem dX0_writtenByAll_10 : decode cX0_writtenByAll 10 = .ok (.aload_n 0, 1) := by decide +kernel
theorem dX0_writtenByAll_11 : decode cX0_writtenByAll 11 = .ok (.getfield 22, 3) := by decide +kernel
theorem dX0_writtenByAll_14 : decode cX0_writtenByAll 14 = .ok (.iload_n 2, 1) := by decide +kernel
theorem dX0_writtenByAll_15 : decode cX0_writtenByAll 15 = .ok (.iaload, 1) := by decide +kernel
theorem dX0_writtenByAll_16 : decode cX0_writtenByAll 16 = .ok (.iadd, 1) := by decide +kernel
theorem dX0_writtenByAll_17 : decode cX0_writtenByAll 17 = .ok (.istore_n 1, 1) := by decide +kernel
theorem dX0_writtenByAll_18 : decode cX0_writtenByAll 18 = .ok (.iinc 2 1, 3) := by decide +kernel
theorem dX0_writtenByAll_21 : decode cX0_writtenByAll 21 = .ok (.goto (-17), 3) := by decide +kernel
theorem dX0_writtenByAll_24 : decode cX0_writtenByAll 24 = .ok (.iload_n 1, 1) := by decide +kernel
theorem dX0_writtenByAll_25 : decode cX0_writtenByAll 25 = .ok (.ireturn, 1) := by decide +kernel
theorem dX1_init_0 : decode cX1_init 0 = .ok (.aload_n 0, 1) := by decide +kernel
theorem dX1_init_1 : decode cX1_init 1 = .ok (.invokespecial 3, 3) := by decide +kernel
theorem dX1_init_4 : decode cX1_init 4 = .ok (.aload_n 0, 1) := by decide +kernel
theorem dX1_init_5 : decode cX1_init 5 = .ok (.bipush 70, 2) := by decide +kernel
theorem dX1_init_7 : decode cX1_init 7 = .ok (.newarray .int, 2) := by decide +kernel
theorem dX1_init_9 : decode cX1_init 9 = .ok (.putfield 11, 3) := by decide +kernel
theorem dX1_init_12 : decode cX1_init 12 = .ok (.aload_n 0, 1) := by decide +kernel
theorem dX1_init_13 : decode cX1_init 13 = .ok (.bipush 70, 2) := by decide +kernel
theorem dX1_init_15 : decode cX1_init 15 = .ok (.newarray .int, 2) := by decide +kernel
theorem dX1_init_17 : decode cX1_init 17 = .ok (.putfield 15, 3) := by decide +kernel
theorem dX1_init_20 : decode cX1_init 20 = .ok (.aload_n 0, 1) := by decide +kernel
theorem dX1_init_21 : decode cX1_init 21 = .ok (.bipush 70, 2) := by decide +kernel
theorem dX1_init_23 : decode cX1_init 23 = .ok (.newarray .int, 2) := by decide +kernel
theorem dX1_init_25 : decode cX1_init 25 = .ok (.putfield 18, 3) := by decide +kernel
theorem dX1_init_28 : decode cX1_init 28 = .ok (.aload_n 0, 1) := by decide +kernel
theorem dX1_init_29 : decode cX1_init 29 = .ok (.bipush 70, 2) := by decide +kernel
theorem dX1_init_31 : decode cX1_init 31 = .ok (.newarray .int, 2) := by decide +kernel
theorem dX1_init_33 : decode cX1_init 33 = .ok (.putfield 21, 3) := by decide +kernel
theorem dX1_init_36 : decode cX1_init 36 = .ok (.aload_n 0, 1) := by decide +kernel
theorem dX1_init_37 : decode cX1_init 37 = .ok (.bipush 70, 2) := by decide +kernel
theorem dX1_init_39 : decode cX1_init 39 = .ok (.newarray .int, 2) := by decide +kernel
theorem dX1_init_41 : decode cX1_init 41 = .ok (.putfield 24, 3) := by decide +kernel
theorem dX1_init_44 : decode cX1_init 44 = .ok (.aload_n 0, 1) := by decide +kernel
theorem dX1_init_45 : decode cX1_init 45 = .ok (.bipush 70, 2) := by decide +kernel
theorem dX1_init_47 : decode cX1_init 47 = .ok (.newarray .int, 2) := by decide +kernel
theorem dX1_init_49 : decode cX1_init 49 = .ok (.putfield 27, 3) := by decide +kernel
theorem dX1_init_52 : decode cX1_init 52 = .ok (.aload_n 0, 1) := by decide +kernel
theorem dX1_init_53 : decode cX1_init 53 = .ok (.bipush 70, 2) := by decide +kernel
theorem dX1_init_55 : decode cX1_init 55 = .ok (.newarray .int, 2) := by decide +kernel
theorem dX1_init_57 : decode cX1_init 57 = .ok (.putfield 30, 3) := by decide +kernel
theorem dX1_init_60 : decode cX1_init 60 = .ok (.aload_n 0, 1) := by decide +kernel
theorem dX1_init_61 : decode cX1_init 61 = .ok (.bipush 70, 2) := by decide +kernel
theorem dX1_init_63 : decode cX1_init 63 = .ok (.newarray .int, 2) := by decide +kernel
theorem dX1_init_65 : decode cX1_init 65 = .ok (.putfield 33, 3) := by decide +kernel
theorem dX1_init_68 : decode cX1_init 68 = .ok (.aload_n 0, 1) := by decide +kernel
theorem dX1_init_69 : decode cX1_init 69 = .ok (.iconst 0, 1) := by decide +kernel
theorem dX1_init_70 : decode cX1_init 70 = .ok (.putfield 36, 3) := by decide +kernel
theorem dX1_init_73 : decode cX1_init 73 = .ok (.iconst 0, 1) := by decide +kernel
theorem dX1_init_74 : decode cX1_init 74 = .ok (.istore_n 1, 1) := by decide +kernel
theorem dX1_init_75 : decode cX1_init 75 = .ok (.iload_n 1, 1) := by decide +kernel
theorem dX1_init_76 : decode cX1_init 76 = .ok (.bipush 70, 2) := by decide +kernel
theorem dX1_init_78 : decode cX1_init 78 = .ok (.if_icmp .ge 23, 3) := by decide +kernel
theorem dX1_init_81 : decode cX1_init 81 = .ok (.aload_n 0, 1) := by decide +kernel
theorem dX1_init_82 : decode cX1_init 82 = .ok (.getfield 15, 3) := by decide +kernel
theorem dX1_init_85 : decode cX1_init 85 = .ok (.iload_n 1, 1) := by decide +kernel
theorem dX1_init_86 : decode cX1_init 86 = .ok (.iconst (-1), 1) := by decide +kernel
theorem dX1_init_87 : decode cX1_init 87 = .ok (.iastore, 1) := by decide +kernel
theorem dX1_init_88 : decode cX1_init 88 = .ok (.aload_n 0, 1) := by decide +kernel
theorem dX1_init_89 : decode cX1_init 89 = .ok (.getfield 24, 3) := by decide +kernel
theorem dX1_init_92 : decode cX1_init 92 = .ok (.iload_n 1, 1) := by decide +kernel
theorem dX1_init_93 : decode cX1_init 93 = .ok (.iconst (-1), 1) := by decide +kernel
theorem dX1_init_94 : decode cX1_init 94 = .ok (.iastore, 1) := by decide +kernel
theorem dX1_init_95 : decode cX1_init 95 = .ok (.iinc 1 1, 3) := by decide +kernel
theorem dX1_init_98 : decode cX1_init 98 = .ok (.goto (-23), 3) := by decide +kernel
theorem dX1_init_101 : decode cX1_init 101 = .ok (.return_, 1) := by decide +kernel
theorem dX1_isInside_0 : decode cX1_isInside 0 = .ok (.iload_n 0, 1) := by decide +kernel
theorem dX1_isInside_1 : decode cX1_isInside 1 = .ok (.ifCond .lt 23, 3) := by decide +kernel
theorem dX1_isInside_4 : decode cX1_isInside 4 = .ok (.iload_n 0, 1) := by decide +kernel
theorem dX1_isInside_5 : decode cX1_isInside 5 = .ok (.bipush 10, 2) := by decide +kernel
theorem dX1_isInside_7 : decode cX1_isInside 7 = .ok (.if_icmp .ge 17, 3) := by decide +kernel
theorem dX1_isInside_10 : decode cX1_isInside 10 = .ok (.iload_n 1, 1) := by decide +kernel
theorem dX1_isInside_11 : decode cX1_isInside 11 = .ok (.ifCond .lt 13, 3) := by decide +kernel
theorem dX1_isInside_14 : decode cX1_isInside 14 = .ok (.iload_n 1, 1) := by decide +kernel
theorem dX1_isInside_15 : decode cX1_isInside 15 = .ok (.bipush 7, 2) := by decide +kernel
theorem dX1_isInside_17 : decode cX1_isInside 17 = .ok (.if_icmp .ge 7, 3) := by decide +kernel
theorem dX1_isInside_20 : decode cX1_isInside 20 = .ok (.iconst 1, 1) := by decide +kernel
theorem dX1_isInside_21 : decode cX1_isInside 21 = .ok (.goto 4, 3) := by decide +kernel
theorem dX1_isInside_24 : decode cX1_isInside 24 = .ok (.iconst 0, 1) := by decide +kernel
theorem dX1_isInside_25 : decode cX1_isInside 25 = .ok (.ireturn, 1) := by decide +kernel
theorem dX1_numberOf_0 : decode cX1_numberOf 0 = .ok (.bipush 10, 2) := by decide +kernel
theorem dX1_numberOf_2 : decode cX1_numberOf 2 = .ok (.iload_n 1, 1) := by decide +kernel
theorem dX1_numberOf_3 : decode cX1_numberOf 3 = .ok (.imul, 1) := by decide +kernel
theorem dX1_numberOf_4 : decode cX1_numberOf 4 = .ok (.iload_n 0, 1) := by decide +kernel
theorem dX1_numberOf_5 : decode cX1_numberOf 5 = .ok (.iadd, 1) := by decide +kernel
theorem dX1_numberOf_6 : decode cX1_numberOf 6 = .ok (.ireturn, 1) := by decide +kernel
theorem dX1_isDirection_0 : decode cX1_isDirection 0 = .ok (.iload_n 0, 1) := by decide +kernel
theorem dX1_isDirection_1 : decode cX1_isDirection 1 = .ok (.ifCond .lt 12, 3) := by decide +kernel
theorem dX1_isDirection_4 : decode cX1_isDirection 4 = .ok (.iload_n 0, 1) := by decide +kernel
theorem dX1_isDirection_5 : decode cX1_isDirection 5 = .ok (.iconst 4, 1) := by decide +kernel
theorem dX1_isDirection_6 : decode cX1_isDirection 6 = .ok (.if_icmp .ge 7, 3) := by decide +kernel
theorem dX1_isDirection_9 : decode cX1_isDirection 9 = .ok (.iconst 1, 1) := by decide +kernel
theorem dX1_isDirection_10 : decode cX1_isDirection 10 = .ok (.goto 4, 3) := by decide +kernel
theorem dX1_isDirection_13 : decode cX1_isDirection 13 = .ok (.iconst 0, 1) := by decide +kernel
theorem dX1_isDirection_14 : decode cX1_isDirection 14 = .ok (.ireturn, 1) := by decide +kernel
theorem dX1_isPlace_0 : decode cX1_isPlace 0 = .ok (.iload_n 0, 1) := by decide +kernel
theorem dX1_isPlace_1 : decode cX1_isPlace 1 = .ok (.ifCond .lt 13, 3) := by decide +kernel
theorem dX1_isPlace_4 : decode cX1_isPlace 4 = .ok (.iload_n 0, 1) := by decide +kernel
theorem dX1_isPlace_5 : decode cX1_isPlace 5 = .ok (.bipush 70, 2) := by decide +kernel
theorem dX1_isPlace_7 : decode cX1_isPlace 7 = .ok (.if_icmp .ge 7, 3) := by decide +kernel
theorem dX1_isPlace_10 : decode cX1_isPlace 10 = .ok (.iconst 1, 1) := by decide +kernel
theorem dX1_isPlace_11 : decode cX1_isPlace 11 = .ok (.goto 4, 3) := by decide +kernel
theorem dX1_isPlace_14 : decode cX1_isPlace 14 = .ok (.iconst 0, 1) := by decide +kernel
theorem dX1_isPlace_15 : decode cX1_isPlace 15 = .ok (.ireturn, 1) := by decide +kernel
set_option maxRecDepth 20000 in
theorem ggX1_beside_X1_isPlace : GoodIn wsX1_beside wsX1_isPlace := goodIn_r _ [6] (by decide +kernel) (by decide +kernel)
set_option maxRecDepth 20000 in
theorem gX1_beside_X1_isPlace : GoodIn wsX1_beside (va_wsS RX1 40 yX1_isPlace wsX1_isPlace) := goodIn_app (goodIn_of _ (by decide +kernel)) ggX1_beside_X1_isPlace
set_option maxRecDepth 20000 in
theorem ggX1_beside_X1_isDirection : GoodIn wsX1_beside wsX1_isDirection := goodIn_r _ [9] (by decide +kernel) (by decide +kernel)
set_option maxRecDepth 20000 in
theorem gX1_beside_X1_isDirection : GoodIn wsX1_beside (va_wsS RX1 44 yX1_isDirection wsX1_isDirection) := goodIn_app (goodIn_of _ (by decide +kernel)) ggX1_beside_X1_isDirection
set_option maxRecDepth 20000 in
theorem ggX1_beside_X1_isInside : GoodIn wsX1_beside wsX1_isInside := goodIn_r _ [12] (by decide +kernel) (by decide +kernel)
set_option maxRecDepth 20000 in
theorem gX1_beside_X1_isInside : GoodIn wsX1_beside (va_wsS RX1 53 yX1_isInside wsX1_isInside) := goodIn_app (goodIn_of _ (by decide +kernel)) ggX1_beside_X1_isInside
set_option maxRecDepth 20000 in
theorem ggX1_beside_X1_numberOf : GoodIn wsX1_beside wsX1_numberOf := goodIn_r _ [15] (by decide +kernel) (by decide +kernel)
set_option maxRecDepth 20000 in
theorem gX1_beside_X1_numberOf : GoodIn wsX1_beside (va_wsS RX1 57 yX1_numberOf wsX1_numberOf) := goodIn_app (goodIn_of _ (by decide +kernel)) ggX1_beside_X1_numberOf
theorem dX1_beside_0 : decode cX1_beside 0 = .ok (.iload_n 1, 1) := by decide +kernel
theorem dX1_beside_1 : decode cX1_beside 1 = .ok (.invokestatic 40, 3) := by decide +kernel
theorem dX1_beside_4 : decode cX1_beside 4 = .ok (.ifCond .eq 10, 3) := by decide +kernel
theorem dX1_beside_7 : decode cX1_beside 7 = .ok (.iload_n 2, 1) := by decide +kernel
theorem dX1_beside_8 : decode cX1_beside 8 = .ok (.invokestatic 44, 3) := by decide +kernel
theorem dX1_beside_11 : decode cX1_beside 11 = .ok (.ifCond .ne 5, 3) := by decide +kernel
theorem dX1_beside_14 : decode cX1_beside 14 = .ok (.iconst (-1), 1) := by decide +kernel
theorem dX1_beside_15 : decode cX1_beside 15 = .ok (.ireturn, 1) := by decide +kernel
theorem dX1_beside_16 : decode cX1_beside 16 = .ok (.iload_n 1, 1) := by decide +kernel
theorem dX1_beside_17 : decode cX1_beside 17 = .ok (.bipush 10, 2) := by decide +kernel
theorem dX1_beside_19 : decode cX1_beside 19 = .ok (.irem, 1) := by decide +kernel
theorem dX1_beside_20 : decode cX1_beside 20 = .ok (.getstatic 47, 3) := by decide +kernel
theorem dX1_beside_23 : decode cX1_beside 23 = .ok (.iload_n 2, 1) := by decide +kernel
theorem dX1_beside_24 : decode cX1_beside 24 = .ok (.iaload, 1) := by decide +kernel
theorem dX1_beside_25 : decode cX1_beside 25 = .ok (.iadd, 1) := by decide +kernel
theorem dX1_beside_26 : decode cX1_beside 26 = .ok (.istore_n 3, 1) := by decide +kernel
theorem dX1_beside_27 : decode cX1_beside 27 = .ok (.iload_n 1, 1) := by decide +kernel
theorem dX1_beside_28 : decode cX1_beside 28 = .ok (.bipush 10, 2) := by decide +kernel
theorem dX1_beside_30 : decode cX1_beside 30 = .ok (.idiv, 1) := by decide +kernel
theorem dX1_beside_31 : decode cX1_beside 31 = .ok (.getstatic 50, 3) := by decide +kernel
theorem dX1_beside_34 : decode cX1_beside 34 = .ok (.iload_n 2, 1) := by decide +kernel
theorem dX1_beside_35 : decode cX1_beside 35 = .ok (.iaload, 1) := by decide +kernel
theorem dX1_beside_36 : decode cX1_beside 36 = .ok (.iadd, 1) := by decide +kernel
theorem dX1_beside_37 : decode cX1_beside 37 = .ok (.istore 4, 2) := by decide +kernel
theorem dX1_beside_39 : decode cX1_beside 39 = .ok (.iload_n 3, 1) := by decide +kernel
theorem dX1_beside_40 : decode cX1_beside 40 = .ok (.iload 4, 2) := by decide +kernel
theorem dX1_beside_42 : decode cX1_beside 42 = .ok (.invokestatic 53, 3) := by decide +kernel
theorem dX1_beside_45 : decode cX1_beside 45 = .ok (.ifCond .eq 12, 3) := by decide +kernel
theorem dX1_beside_48 : decode cX1_beside 48 = .ok (.iload_n 3, 1) := by decide +kernel
theorem dX1_beside_49 : decode cX1_beside 49 = .ok (.iload 4, 2) := by decide +kernel
theorem dX1_beside_51 : decode cX1_beside 51 = .ok (.invokestatic 57, 3) := by decide +kernel
theorem dX1_beside_54 : decode cX1_beside 54 = .ok (.goto 4, 3) := by decide +kernel
theorem dX1_beside_57 : decode cX1_beside 57 = .ok (.iconst (-1), 1) := by decide +kernel
theorem dX1_beside_58 : decode cX1_beside 58 = .ok (.ireturn, 1) := by decide +kernel
set_option maxRecDepth 20000 in
theorem ggX1_kindAt_X1_isPlace : GoodIn wsX1_kindAt wsX1_isPlace := goodIn_r _ [5] (by decide +kernel) (by decide +kernel)
set_option maxRecDepth 20000 in
theorem gX1_kindAt_X1_isPlace : GoodIn wsX1_kindAt (va_wsS RX1 40 yX1_isPlace wsX1_isPlace) := goodIn_app (goodIn_of _ (by decide +kernel)) ggX1_kindAt_X1_isPlace
theorem dX1_kindAt_0 : decode cX1_kindAt 0 = .ok (.iload_n 1, 1) := by decide +kernel
theorem dX1_kindAt_1 : decode cX1_kindAt 1 = .ok (.invokestatic 40, 3) := by decide +kernel
theorem dX1_kindAt_4 : decode cX1_kindAt 4 = .ok (.ifCond .eq 12, 3) := by decide +kernel
theorem dX1_kindAt_7 : decode cX1_kindAt 7 = .ok (.aload_n 0, 1) := by decide +kernel
theorem dX1_kindAt_8 : decode cX1_kindAt 8 = .ok (.getfield 11, 3) := by decide +kernel
theorem dX1_kindAt_11 : decode cX1_kindAt 11 = .ok (.iload_n 1, 1) := by decide +kernel
theorem dX1_kindAt_12 : decode cX1_kindAt 12 = .ok (.iaload, 1) := by decide +kernel
theorem dX1_kindAt_13 : decode cX1_kindAt 13 = .ok (.goto 4, 3) := by decide +kernel
theorem dX1_kindAt_16 : decode cX1_kindAt 16 = .ok (.iconst (-1), 1) := by decide +kernel
theorem dX1_kindAt_17 : decode cX1_kindAt 17 = .ok (.ireturn, 1) := by decide +kernel
set_option maxRecDepth 20000 in
theorem ggX1_shapeAt_X1_isPlace : GoodIn wsX1_shapeAt wsX1_isPlace := goodIn_r _ [5] (by decide +kernel) (by decide +kernel)
set_option maxRecDepth 20000 in
theorem gX1_shapeAt_X1_isPlace : GoodIn wsX1_shapeAt (va_wsS RX1 40 yX1_isPlace wsX1_isPlace) := goodIn_app (goodIn_of _ (by decide +kernel)) ggX1_shapeAt_X1_isPlace
theorem dX1_shapeAt_0 : decode cX1_shapeAt 0 = .ok (.iload_n 1, 1) := by decide +kernel
theorem dX1_shapeAt_1 : decode cX1_shapeAt 1 = .ok (.invokestatic 40, 3) := by decide +kernel
theorem dX1_shapeAt_4 : decode cX1_shapeAt 4 = .ok (.ifCond .eq 12, 3) := by decide +kernel
theorem dX1_shapeAt_7 : decode cX1_shapeAt 7 = .ok (.aload_n 0, 1) := by decide +kernel
theorem dX1_shapeAt_8 : decode cX1_shapeAt 8 = .ok (.getfield 15, 3) := by decide +kernel
theorem dX1_shapeAt_11 : decode cX1_shapeAt 11 = .ok (.iload_n 1, 1) := by decide +kernel
theorem dX1_shapeAt_12 : decode cX1_shapeAt 12 = .ok (.iaload, 1) := by decide +kernel
theorem dX1_shapeAt_13 : decode cX1_shapeAt 13 = .ok (.goto 4, 3) := by decide +kernel
theorem dX1_shapeAt_16 : decode cX1_shapeAt 16 = .ok (.iconst (-1), 1) := by decide +kernel
theorem dX1_shapeAt_17 : decode cX1_shapeAt 17 = .ok (.ireturn, 1) := by decide +kernel
set_option maxRecDepth 20000 in
theorem ggX1_sizeAt_X1_isPlace : GoodIn wsX1_sizeAt wsX1_isPlace := goodIn_r _ [5] (by decide +kernel) (by decide +kernel)
set_option maxRecDepth 20000 in
theorem gX1_sizeAt_X1_isPlace : GoodIn wsX1_sizeAt (va_wsS RX1 40 yX1_isPlace wsX1_isPlace) := goodIn_app (goodIn_of _ (by decide +kernel)) ggX1_sizeAt_X1_isPlace
theorem dX1_sizeAt_0 : decode cX1_sizeAt 0 = .ok (.iload_n 1, 1) := by decide +kernel
theorem dX1_sizeAt_1 : decode cX1_sizeAt 1 = .ok (.invokestatic 40, 3) := by decide +kernel
theorem dX1_sizeAt_4 : decode cX1_sizeAt 4 = .ok (.ifCond .eq 12, 3) := by decide +kernel
theorem dX1_sizeAt_7 : decode cX1_sizeAt 7 = .ok (.aload_n 0, 1) := by decide +kernel
theorem dX1_sizeAt_8 : decode cX1_sizeAt 8 = .ok (.getfield 18, 3) := by decide +kernel
theorem dX1_sizeAt_11 : decode cX1_sizeAt 11 = .ok (.iload_n 1, 1) := by decide +kernel
theorem dX1_sizeAt_12 : decode cX1_sizeAt 12 = .ok (.iaload, 1) := by decide +kernel
theorem dX1_sizeAt_13 : decode cX1_sizeAt 13 = .ok (.goto 4, 3) := by decide +kernel
theorem dX1_sizeAt_16 : decode cX1_sizeAt 16 = .ok (.iconst 0, 1) := by decide +kernel
theorem dX1_sizeAt_17 : decode cX1_sizeAt 17 = .ok (.ireturn, 1) := by decide +kernel
set_option maxRecDepth 20000 in
theorem ggX1_isBare_X1_kindAt : GoodIn wsX1_isBare wsX1_kindAt := goodIn_r _ [5, 6, 7, 8, 4, 9, 10, 11, 12, 13, 14, 15, 16, 17, 18] (by decide +kernel) (by decide +kernel)
set_option maxRecDepth 20000 in
theorem gX1_isBare_X1_kindAt : GoodIn wsX1_isBare (wsV RX1 61 RX1 yX1_kindAt wsX1_kindAt) := goodIn_app (goodIn_of _ (by decide +kernel)) ggX1_isBare_X1_kindAt
theorem dX1_isBare_0 : decode cX1_isBare 0 = .ok (.aload_n 0, 1) := by decide +kernel
theorem dX1_isBare_1 : decode cX1_isBare 1 = .ok (.iload_n 1, 1) := by decide +kernel
theorem dX1_isBare_2 : decode cX1_isBare 2 = .ok (.invokevirtual 61, 3) := by decide +kernel
theorem dX1_isBare_5 : decode cX1_isBare 5 = .ok (.ifCond .ne 7, 3) := by decide +kernel
theorem dX1_isBare_8 : decode cX1_isBare 8 = .ok (.iconst 1, 1) := by decide +kernel
theorem dX1_isBare_9 : decode cX1_isBare 9 = .ok (.goto 4, 3) := by decide +kernel
theorem dX1_isBare_12 : decode cX1_isBare 12 = .ok (.iconst 0, 1) := by decide +kernel
theorem dX1_isBare_13 : decode cX1_isBare 13 = .ok (.ireturn, 1) := by decide +kernel
set_option maxRecDepth 20000 in
theorem ggX1_isPond_X1_kindAt : GoodIn wsX1_isPond wsX1_kindAt := goodIn_r _ [5, 6, 7, 8, 4, 9, 10, 11, 12, 13, 14, 15, 16, 17, 18] (by decide +kernel) (by decide +kernel)
set_option maxRecDepth 20000 in
theorem gX1_isPond_X1_kindAt : GoodIn wsX1_isPond (wsV RX1 61 RX1 yX1_kindAt wsX1_kindAt) := goodIn_app (goodIn_of _ (by decide +kernel)) ggX1_isPond_X1_kindAt
theorem dX1_isPond_0 : decode cX1_isPond 0 = .ok (.aload_n 0, 1) := by decide +kernel
theorem dX1_isPond_1 : decode cX1_isPond 1 = .ok (.iload_n 1, 1) := by decide +kernel
theorem dX1_isPond_2 : decode cX1_isPond 2 = .ok (.invokevirtual 61, 3) := by decide +kernel
theorem dX1_isPond_5 : decode cX1_isPond 5 = .ok (.iconst 2, 1) := by decide +kernel
theorem dX1_isPond_6 : decode cX1_isPond 6 = .ok (.if_icmp .ne 7, 3) := by decide +kernel
theorem dX1_isPond_9 : decode cX1_isPond 9 = .ok (.iconst 1, 1) := by decide +kernel
theorem dX1_isPond_10 : decode cX1_isPond 10 = .ok (.goto 4, 3) := by decide +kernel
theorem dX1_isPond_13 : decode cX1_isPond 13 = .ok (.iconst 0, 1) := by decide +kernel
theorem dX1_isPond_14 : decode cX1_isPond 14 = .ok (.ireturn, 1) := by decide +kernel
set_option maxRecDepth 20000 in
theorem ggX1_isWall_X1_kindAt : GoodIn wsX1_isWall wsX1_kindAt := goodIn_r _ [5, 6, 7, 8, 4, 9, 10, 11, 12, 13, 14, 15, 16, 17, 18] (by decide +kernel) (by decide +kernel)
set_option maxRecDepth 20000 in
theorem gX1_isWall_X1_kindAt : GoodIn wsX1_isWall (wsV RX1 61 RX1 yX1_kindAt wsX1_kindAt) := goodIn_app (goodIn_of _ (by decide +kernel)) ggX1_isWall_X1_kindAt
theorem dX1_isWall_0 : decode cX1_isWall 0 = .ok (.aload_n 0, 1) := by decide +kernel
theorem dX1_isWall_1 : decode cX1_isWall 1 = .ok (.iload_n 1, 1) := by decide +kernel
theorem dX1_isWall_2 : decode cX1_isWall 2 = .ok (.invokevirtual 61, 3) := by decide +kernel
theorem dX1_isWall_5 : decode cX1_isWall 5 = .ok (.iconst 3, 1) := by decide +kernel
theorem dX1_isWall_6 : decode cX1_isWall 6 = .ok (.if_icmp .ne 7, 3) := by decide +kernel
theorem dX1_isWall_9 : decode cX1_isWall 9 = .ok (.iconst 1, 1) := by decide +kernel
theorem dX1_isWall_10 : decode cX1_isWall 10 = .ok (.goto 4, 3) := by decide +kernel
theorem dX1_isWall_13 : decode cX1_isWall 13 = .ok (.iconst 0, 1) := by decide +kernel
theorem dX1_isWall_14 : decode cX1_isWall 14 = .ok (.ireturn, 1) := by decide +kernel
set_option maxRecDepth 20000 in
theorem ggX1_isGreatRock_X1_kindAt : GoodIn wsX1_isGreatRock wsX1_kindAt := goodIn_r _ [5, 6, 7, 8, 4, 9, 15, 16, 17, 18, 19, 20, 21, 22, 23] (by decide +kernel) (by decide +kernel)
set_option maxRecDepth 20000 in
theorem gX1_isGreatRock_X1_kindAt : GoodIn wsX1_isGreatRock (wsV RX1 61 RX1 yX1_kindAt wsX1_kindAt) := goodIn_app (goodIn_of _ (by decide +kernel)) ggX1_isGreatRock_X1_kindAt
set_option maxRecDepth 20000 in
theorem ggX1_isGreatRock_X1_sizeAt : GoodIn wsX1_isGreatRock wsX1_sizeAt := goodIn_r _ [13, 14, 7, 8, 4, 9, 15, 16, 17, 18, 19, 20, 21, 22, 23] (by decide +kernel) (by decide +kernel)
set_option maxRecDepth 20000 in
theorem gX1_isGreatRock_X1_sizeAt : GoodIn wsX1_isGreatRock (wsV RX1 65 RX1 yX1_sizeAt wsX1_sizeAt) := goodIn_app (goodIn_of _ (by decide +kernel)) ggX1_isGreatRock_X1_sizeAt
theorem dX1_isGreatRock_0 : decode cX1_isGreatRock 0 = .ok (.aload_n 0, 1) := by decide +kernel
theorem dX1_isGreatRock_1 : decode cX1_isGreatRock 1 = .ok (.iload_n 1, 1) := by decide +kernel
theorem dX1_isGreatRock_2 : decode cX1_isGreatRock 2 = .ok (.invokevirtual 61, 3) := by decide +kernel
theorem dX1_isGreatRock_5 : decode cX1_isGreatRock 5 = .ok (.iconst 1, 1) := by decide +kernel
theorem dX1_isGreatRock_6 : decode cX1_isGreatRock 6 = .ok (.if_icmp .ne 17, 3) := by decide +kernel
theorem dX1_isGreatRock_9 : decode cX1_isGreatRock 9 = .ok (.aload_n 0, 1) := by decide +kernel
theorem dX1_isGreatRock_10 : decode cX1_isGreatRock 10 = .ok (.iload_n 1, 1) := by decide +kernel
theorem dX1_isGreatRock_11 : decode cX1_isGreatRock 11 = .ok (.invokevirtual 65, 3) := by decide +kernel
theorem dX1_isGreatRock_14 : decode cX1_isGreatRock 14 = .ok (.bipush 7, 2) := by decide +kernel
theorem dX1_isGreatRock_16 : decode cX1_isGreatRock 16 = .ok (.if_icmp .lt 7, 3) := by decide +kernel
theorem dX1_isGreatRock_19 : decode cX1_isGreatRock 19 = .ok (.iconst 1, 1) := by decide +kernel
theorem dX1_isGreatRock_20 : decode cX1_isGreatRock 20 = .ok (.goto 4, 3) := by decide +kernel
theorem dX1_isGreatRock_23 : decode cX1_isGreatRock 23 = .ok (.iconst 0, 1) := by decide +kernel
theorem dX1_isGreatRock_24 : decode cX1_isGreatRock 24 = .ok (.ireturn, 1) := by decide +kernel
set_option maxRecDepth 20000 in
theorem ggX1_hasCarps_X1_isPlace : GoodIn wsX1_hasCarps wsX1_isPlace := goodIn_r _ [5] (by decide +kernel) (by decide +kernel)
set_option maxRecDepth 20000 in
theorem gX1_hasCarps_X1_isPlace : GoodIn wsX1_hasCarps (va_wsS RX1 40 yX1_isPlace wsX1_isPlace) := goodIn_app (goodIn_of _ (by decide +kernel)) ggX1_hasCarps_X1_isPlace
theorem dX1_hasCarps_0 : decode cX1_hasCarps 0 = .ok (.iload_n 1, 1) := by decide +kernel
theorem dX1_hasCarps_1 : decode cX1_hasCarps 1 = .ok (.invokestatic 40, 3) := by decide +kernel
theorem dX1_hasCarps_4 : decode cX1_hasCarps 4 = .ok (.ifCond .eq 16, 3) := by decide +kernel
theorem dX1_hasCarps_7 : decode cX1_hasCarps 7 = .ok (.aload_n 0, 1) := by decide +kernel
theorem dX1_hasCarps_8 : decode cX1_hasCarps 8 = .ok (.getfield 21, 3) := by decide +kernel
theorem dX1_hasCarps_11 : decode cX1_hasCarps 11 = .ok (.iload_n 1, 1) := by decide +kernel
theorem dX1_hasCarps_12 : decode cX1_hasCarps 12 = .ok (.iaload, 1) := by decide +kernel
theorem dX1_hasCarps_13 : decode cX1_hasCarps 13 = .ok (.ifCond .le 7, 3) := by decide +kernel
theorem dX1_hasCarps_16 : decode cX1_hasCarps 16 = .ok (.iconst 1, 1) := by decide +kernel
theorem dX1_hasCarps_17 : decode cX1_hasCarps 17 = .ok (.goto 4, 3) := by decide +kernel
theorem dX1_hasCarps_20 : decode cX1_hasCarps 20 = .ok (.iconst 0, 1) := by decide +kernel
theorem dX1_hasCarps_21 : decode cX1_hasCarps 21 = .ok (.ireturn, 1) := by decide +kernel
theorem dX1_manyOf_0 : decode cX1_manyOf 0 = .ok (.iconst 0, 1) := by decide +kernel
theorem dX1_manyOf_1 : decode cX1_manyOf 1 = .ok (.istore_n 2, 1) := by decide +kernel
theorem dX1_manyOf_2 : decode cX1_manyOf 2 = .ok (.iconst 0, 1) := by decide +kernel
theorem dX1_manyOf_3 : decode cX1_manyOf 3 = .ok (.istore_n 3, 1) := by decide +kernel
theorem dX1_manyOf_4 : decode cX1_manyOf 4 = .ok (.iload_n 3, 1) := by decide +kernel
theorem dX1_manyOf_5 : decode cX1_manyOf 5 = .ok (.bipush 70, 2) := by decide +kernel
theorem dX1_manyOf_7 : decode cX1_manyOf 7 = .ok (.if_icmp .ge 22, 3) := by decide +kernel
theorem dX1_manyOf_10 : decode cX1_manyOf 10 = .ok (.aload_n 0, 1) := by decide +kernel
theorem dX1_manyOf_11 : decode cX1_manyOf 11 = .ok (.getfield 11, 3) := by decide +kernel
theorem dX1_manyOf_14 : decode cX1_manyOf 14 = .ok (.iload_n 3, 1) := by decide +kernel
theorem dX1_manyOf_15 : decode cX1_manyOf 15 = .ok (.iaload, 1) := by decide +kernel
theorem dX1_manyOf_16 : decode cX1_manyOf 16 = .ok (.iload_n 1, 1) := by decide +kernel
theorem dX1_manyOf_17 : decode cX1_manyOf 17 = .ok (.if_icmp .ne 6, 3) := by decide +kernel
theorem dX1_manyOf_20 : decode cX1_manyOf 20 = .ok (.iinc 2 1, 3) := by decide +kernel
theorem dX1_manyOf_23 : decode cX1_manyOf 23 = .ok (.iinc 3 1, 3) := by decide +kernel
theorem dX1_manyOf_26 : decode cX1_manyOf 26 = .ok (.goto (-22), 3) := by decide +kernel
theorem dX1_manyOf_29 : decode cX1_manyOf 29 = .ok (.iload_n 2, 1) := by decide +kernel
theorem dX1_manyOf_30 : decode cX1_manyOf 30 = .ok (.ireturn, 1) := by decide +kernel
set_option maxRecDepth 20000 in
theorem ggX1_setRock_X1_setCell : GoodIn wsX1_setRock wsX1_setCell := goodIn_r _ [5, 6, 7, 8, 9, 10, 4, 11, 12, 13, 14, 15, 16, 17, 18, 19, 20] (by decide +kernel) (by decide +kernel)
set_option maxRecDepth 20000 in
theorem gX1_setRock_X1_setCell : GoodIn wsX1_setRock (wsV RX1 68 RX1 yX1_setCell wsX1_setCell) := goodIn_app (goodIn_of _ (by decide +kernel)) ggX1_setRock_X1_setCell
theorem dX1_setRock_0 : decode cX1_setRock 0 = .ok (.aload_n 0, 1) := by decide +kernel
theorem dX1_setRock_1 : decode cX1_setRock 1 = .ok (.iload_n 1, 1) := by decide +kernel
theorem dX1_setRock_2 : decode cX1_setRock 2 = .ok (.iconst 1, 1) := by decide +kernel
theorem dX1_setRock_3 : decode cX1_setRock 3 = .ok (.iload_n 2, 1) := by decide +kernel
theorem dX1_setRock_4 : decode cX1_setRock 4 = .ok (.iload_n 3, 1) := by decide +kernel
theorem dX1_setRock_5 : decode cX1_setRock 5 = .ok (.invokevirtual 68, 3) := by decide +kernel
theorem dX1_setRock_8 : decode cX1_setRock 8 = .ok (.return_, 1) := by decide +kernel
set_option maxRecDepth 20000 in
theorem ggX1_takeRock_X1_setCell : GoodIn wsX1_takeRock wsX1_setCell := goodIn_r _ [5, 6, 7, 8, 9, 10, 4, 11, 12, 13, 14, 15, 16, 17, 18, 19, 20] (by decide +kernel) (by decide +kernel)
set_option maxRecDepth 20000 in
theorem gX1_takeRock_X1_setCell : GoodIn wsX1_takeRock (wsV RX1 68 RX1 yX1_setCell wsX1_setCell) := goodIn_app (goodIn_of _ (by decide +kernel)) ggX1_takeRock_X1_setCell
theorem dX1_takeRock_0 : decode cX1_takeRock 0 = .ok (.aload_n 0, 1) := by decide +kernel
theorem dX1_takeRock_1 : decode cX1_takeRock 1 = .ok (.iload_n 1, 1) := by decide +kernel
theorem dX1_takeRock_2 : decode cX1_takeRock 2 = .ok (.iconst 0, 1) := by decide +kernel
theorem dX1_takeRock_3 : decode cX1_takeRock 3 = .ok (.iconst (-1), 1) := by decide +kernel
theorem dX1_takeRock_4 : decode cX1_takeRock 4 = .ok (.iconst 0, 1) := by decide +kernel
theorem dX1_takeRock_5 : decode cX1_takeRock 5 = .ok (.invokevirtual 68, 3) := by decide +kernel
theorem dX1_takeRock_8 : decode cX1_takeRock 8 = .ok (.return_, 1) := by decide +kernel
set_option maxRecDepth 20000 in
theorem ggX1_setPond_X1_setCell : GoodIn wsX1_setPond wsX1_setCell := goodIn_r _ [5, 6, 7, 8, 9, 10, 4, 11, 49, 50, 51, 52, 53, 54, 55, 56, 57] (by decide +kernel) (by decide +kernel)
set_option maxRecDepth 20000 in
theorem gX1_setPond_X1_setCell : GoodIn wsX1_setPond (wsV RX1 68 RX1 yX1_setCell wsX1_setCell) := goodIn_app (goodIn_of _ (by decide +kernel)) ggX1_setPond_X1_setCell
set_option maxRecDepth 20000 in
theorem ggX1_setPond_X1_surveyPonds : GoodIn wsX1_setPond wsX1_surveyPonds := goodIn_r _ [15, 16, 17, 18, 19, 20, 4, 21, 6, 9, 10, 11, 22, 23, 24, 25, 26, 27, 28, 29, 30, 31, 32, 33, 34, 35, 36, 37, 38, 39, 40, 41, 42, 43, 44, 45, 46, 47, 48, 49, 50, 51, 52, 53, 54, 55, 56, 57] (by decide +kernel) (by decide +kernel)
set_option maxRecDepth 20000 in
theorem gX1_setPond_X1_surveyPonds : GoodIn wsX1_setPond (wsV RX1 72 RX1 yX1_surveyPonds wsX1_surveyPonds) := goodIn_app (goodIn_of _ (by decide +kernel)) ggX1_setPond_X1_surveyPonds
theorem dX1_setPond_0 : decode cX1_setPond 0 = .ok (.aload_n 0, 1) := by decide +kernel
theorem dX1_setPond_1 : decode cX1_setPond 1 = .ok (.iload_n 1, 1) := by decide +kernel
theorem dX1_setPond_2 : decode cX1_setPond 2 = .ok (.iconst 2, 1) := by decide +kernel
theorem dX1_setPond_3 : decode cX1_setPond 3 = .ok (.iconst (-1), 1) := by decide +kernel
theorem dX1_setPond_4 : decode cX1_setPond 4 = .ok (.iconst 0, 1) := by decide +kernel
theorem dX1_setPond_5 : decode cX1_setPond 5 = .ok (.invokevirtual 68, 3) := by decide +kernel
theorem dX1_setPond_8 : decode cX1_setPond 8 = .ok (.aload_n 0, 1) := by decide +kernel
theorem dX1_setPond_9 : decode cX1_setPond 9 = .ok (.invokevirtual 72, 3) := by decide +kernel
theorem dX1_setPond_12 : decode cX1_setPond 12 = .ok (.return_, 1) := by decide +kernel
set_option maxRecDepth 20000 in
theorem ggX1_setWall_X1_setCell : GoodIn wsX1_setWall wsX1_setCell := goodIn_r _ [5, 6, 7, 8, 9, 10, 4, 11, 12, 13, 14, 15, 16, 17, 18, 19, 20] (by decide +kernel) (by decide +kernel)
set_option maxRecDepth 20000 in
theorem gX1_setWall_X1_setCell : GoodIn wsX1_setWall (wsV RX1 68 RX1 yX1_setCell wsX1_setCell) := goodIn_app (goodIn_of _ (by decide +kernel)) ggX1_setWall_X1_setCell
theorem dX1_setWall_0 : decode cX1_setWall 0 = .ok (.aload_n 0, 1) := by decide +kernel
theorem dX1_setWall_1 : decode cX1_setWall 1 = .ok (.iload_n 1, 1) := by decide +kernel
theorem dX1_setWall_2 : decode cX1_setWall 2 = .ok (.iconst 3, 1) := by decide +kernel
theorem dX1_setWall_3 : decode cX1_setWall 3 = .ok (.iconst (-1), 1) := by decide +kernel
theorem dX1_setWall_4 : decode cX1_setWall 4 = .ok (.iconst 0, 1) := by decide +kernel
theorem dX1_setWall_5 : decode cX1_setWall 5 = .ok (.invokevirtual 68, 3) := by decide +kernel
theorem dX1_setWall_8 : decode cX1_setWall 8 = .ok (.return_, 1) := by decide +kernel
set_option maxRecDepth 20000 in
theorem ggX1_setBare_X1_isPond : GoodIn wsX1_setBare wsX1_isPond := goodIn_r _ [5, 6, 7, 8, 4, 9, 10, 11, 12, 13, 57, 58, 59, 60, 61, 62, 63, 64, 65] (by decide +kernel) (by decide +kernel)
set_option maxRecDepth 20000 in
theorem gX1_setBare_X1_isPond : GoodIn wsX1_setBare (wsV RX1 75 RX1 yX1_isPond wsX1_isPond) := goodIn_app (goodIn_of _ (by decide +kernel)) ggX1_setBare_X1_isPond
set_option maxRecDepth 20000 in
theorem ggX1_setBare_X1_setCell : GoodIn wsX1_setBare wsX1_setCell := goodIn_r _ [17, 10, 18, 19, 11, 12, 4, 13, 57, 58, 59, 60, 61, 62, 63, 64, 65] (by decide +kernel) (by decide +kernel)
set_option maxRecDepth 20000 in
theorem gX1_setBare_X1_setCell : GoodIn wsX1_setBare (wsV RX1 68 RX1 yX1_setCell wsX1_setCell) := goodIn_app (goodIn_of _ (by decide +kernel)) ggX1_setBare_X1_setCell
set_option maxRecDepth 20000 in
theorem ggX1_setBare_X1_surveyPonds : GoodIn wsX1_setBare wsX1_surveyPonds := goodIn_r _ [23, 24, 25, 26, 27, 28, 4, 29, 10, 11, 12, 13, 30, 31, 32, 33, 34, 35, 36, 37, 38, 39, 40, 41, 42, 43, 44, 45, 46, 47, 48, 49, 50, 51, 52, 53, 54, 55, 56, 57, 58, 59, 60, 61, 62, 63, 64, 65] (by decide +kernel) (by decide +kernel)
set_option maxRecDepth 20000 in
theorem gX1_setBare_X1_surveyPonds : GoodIn wsX1_setBare (wsV RX1 72 RX1 yX1_surveyPonds wsX1_surveyPonds) := goodIn_app (goodIn_of _ (by decide +kernel)) ggX1_setBare_X1_surveyPonds
theorem dX1_setBare_0 : decode cX1_setBare 0 = .ok (.aload_n 0, 1) := by decide +kernel
theorem dX1_setBare_1 : decode cX1_setBare 1 = .ok (.iload_n 1, 1) := by decide +kernel
theorem dX1_setBare_2 : decode cX1_setBare 2 = .ok (.invokevirtual 75, 3) := by decide +kernel
theorem dX1_setBare_5 : decode cX1_setBare 5 = .ok (.istore_n 2, 1) := by decide +kernel
theorem dX1_setBare_6 : decode cX1_setBare 6 = .ok (.aload_n 0, 1) := by decide +kernel
theorem dX1_setBare_7 : decode cX1_setBare 7 = .ok (.iload_n 1, 1) := by decide +kernel
theorem dX1_setBare_8 : decode cX1_setBare 8 = .ok (.iconst 0, 1) := by decide +kernel
theorem dX1_setBare_9 : decode cX1_setBare 9 = .ok (.iconst (-1), 1) := by decide +kernel
theorem dX1_setBare_10 : decode cX1_setBare 10 = .ok (.iconst 0, 1) := by decide +kernel
theorem dX1_setBare_11 : decode cX1_setBare 11 = .ok (.invokevirtual 68, 3) := by decide +kernel
theorem dX1_setBare_14 : decode cX1_setBare 14 = .ok (.iload_n 2, 1) := by decide +kernel
theorem dX1_setBare_15 : decode cX1_setBare 15 = .ok (.ifCond .eq 7, 3) := by decide +kernel
theorem dX1_setBare_18 : decode cX1_setBare 18 = .ok (.aload_n 0, 1) := by decide +kernel
theorem dX1_setBare_19 : decode cX1_setBare 19 = .ok (.invokevirtual 72, 3) := by decide +kernel
theorem dX1_setBare_22 : decode cX1_setBare 22 = .ok (.return_, 1) := by decide +kernel
set_option maxRecDepth 20000 in
theorem ggX1_setCell_X1_isPlace : GoodIn wsX1_setCell wsX1_isPlace := goodIn_r _ [7] (by decide +kernel) (by decide +kernel)
set_option maxRecDepth 20000 in
theorem gX1_setCell_X1_isPlace : GoodIn wsX1_setCell (va_wsS RX1 40 yX1_isPlace wsX1_isPlace) := goodIn_app (goodIn_of _ (by decide +kernel)) ggX1_setCell_X1_isPlace
theorem dX1_setCell_0 : decode cX1_setCell 0 = .ok (.iload_n 1, 1) := by decide +kernel
theorem dX1_setCell_1 : decode cX1_setCell 1 = .ok (.invokestatic 40, 3) := by decide +kernel
theorem dX1_setCell_4 : decode cX1_setCell 4 = .ok (.ifCond .eq 25, 3) := by decide +kernel
theorem dX1_setCell_7 : decode cX1_setCell 7 = .ok (.aload_n 0, 1) := by decide +kernel
theorem dX1_setCell_8 : decode cX1_setCell 8 = .ok (.getfield 11, 3) := by decide +kernel
theorem dX1_setCell_11 : decode cX1_setCell 11 = .ok (.iload_n 1, 1) := by decide +kernel
theorem dX1_setCell_12 : decode cX1_setCell 12 = .ok (.iload_n 2, 1) := by decide +kernel
theorem dX1_setCell_13 : decode cX1_setCell 13 = .ok (.iastore, 1) := by decide +kernel
theorem dX1_setCell_14 : decode cX1_setCell 14 = .ok (.aload_n 0, 1) := by decide +kernel
theorem dX1_setCell_15 : decode cX1_setCell 15 = .ok (.getfield 15, 3) := by decide +kernel
theorem dX1_setCell_18 : decode cX1_setCell 18 = .ok (.iload_n 1, 1) := by decide +kernel
theorem dX1_setCell_19 : decode cX1_setCell 19 = .ok (.iload_n 3, 1) := by decide +kernel
theorem dX1_setCell_20 : decode cX1_setCell 20 = .ok (.iastore, 1) := by decide +kernel
theorem dX1_setCell_21 : decode cX1_setCell 21 = .ok (.aload_n 0, 1) := by decide +kernel
theorem dX1_setCell_22 : decode cX1_setCell 22 = .ok (.getfield 18, 3) := by decide +kernel
theorem dX1_setCell_25 : decode cX1_setCell 25 = .ok (.iload_n 1, 1) := by decide +kernel
theorem dX1_setCell_26 : decode cX1_setCell 26 = .ok (.iload 4, 2) := by decide +kernel
theorem dX1_setCell_28 : decode cX1_setCell 28 = .ok (.iastore, 1) := by decide +kernel
theorem dX1_setCell_29 : decode cX1_setCell 29 = .ok (.return_, 1) := by decide +kernel
set_option maxRecDepth 20000 in
theorem ggX1_changeCarps_X1_pondAt : GoodIn wsX1_changeCarps wsX1_pondAt := goodIn_r _ [7, 8, 9, 10, 6, 11, 12, 13, 14, 15, 16, 17, 18, 19, 20] (by decide +kernel) (by decide +kernel)
set_option maxRecDepth 20000 in
theorem gX1_changeCarps_X1_pondAt : GoodIn wsX1_changeCarps (wsV RX1 78 RX1 yX1_pondAt wsX1_pondAt) := goodIn_app (goodIn_of _ (by decide +kernel)) ggX1_changeCarps_X1_pondAt
theorem dX1_changeCarps_0 : decode cX1_changeCarps 0 = .ok (.aload_n 0, 1) := by decide +kernel
theorem dX1_changeCarps_1 : decode cX1_changeCarps 1 = .ok (.iload_n 1, 1) := by decide +kernel
theorem dX1_changeCarps_2 : decode cX1_changeCarps 2 = .ok (.invokevirtual 78, 3) := by decide +kernel
theorem dX1_changeCarps_5 : decode cX1_changeCarps 5 = .ok (.istore_n 3, 1) := by decide +kernel
theorem dX1_changeCarps_6 : decode cX1_changeCarps 6 = .ok (.iload_n 3, 1) := by decide +kernel
theorem dX1_changeCarps_7 : decode cX1_changeCarps 7 = .ok (.iconst (-1), 1) := by decide +kernel
theorem dX1_changeCarps_8 : decode cX1_changeCarps 8 = .ok (.if_icmp .eq 23, 3) := by decide +kernel
theorem dX1_changeCarps_11 : decode cX1_changeCarps 11 = .ok (.aload_n 0, 1) := by decide +kernel
theorem dX1_changeCarps_12 : decode cX1_changeCarps 12 = .ok (.getfield 21, 3) := by decide +kernel
theorem dX1_changeCarps_15 : decode cX1_changeCarps 15 = .ok (.iload_n 1, 1) := by decide +kernel
theorem dX1_changeCarps_16 : decode cX1_changeCarps 16 = .ok (.dup2, 1) := by decide +kernel
theorem dX1_changeCarps_17 : decode cX1_changeCarps 17 = .ok (.iaload, 1) := by decide +kernel
theorem dX1_changeCarps_18 : decode cX1_changeCarps 18 = .ok (.iload_n 2, 1) := by decide +kernel
theorem dX1_changeCarps_19 : decode cX1_changeCarps 19 = .ok (.iadd, 1) := by decide +kernel
theorem dX1_changeCarps_20 : decode cX1_changeCarps 20 = .ok (.iastore, 1) := by decide +kernel
theorem dX1_changeCarps_21 : decode cX1_changeCarps 21 = .ok (.aload_n 0, 1) := by decide +kernel
theorem dX1_changeCarps_22 : decode cX1_changeCarps 22 = .ok (.getfield 30, 3) := by decide +kernel
theorem dX1_changeCarps_25 : decode cX1_changeCarps 25 = .ok (.iload_n 3, 1) := by decide +kernel
theorem dX1_changeCarps_26 : decode cX1_changeCarps 26 = .ok (.dup2, 1) := by decide +kernel
theorem dX1_changeCarps_27 : decode cX1_changeCarps 27 = .ok (.iaload, 1) := by decide +kernel
theorem dX1_changeCarps_28 : decode cX1_changeCarps 28 = .ok (.iload_n 2, 1) := by decide +kernel
theorem dX1_changeCarps_29 : decode cX1_changeCarps 29 = .ok (.iadd, 1) := by decide +kernel
theorem dX1_changeCarps_30 : decode cX1_changeCarps 30 = .ok (.iastore, 1) := by decide +kernel
theorem dX1_changeCarps_31 : decode cX1_changeCarps 31 = .ok (.return_, 1) := by decide +kernel
set_option maxRecDepth 20000 in
theorem ggX1_cellsOfPondAt_X1_pondAt : GoodIn wsX1_cellsOfPondAt wsX1_pondAt := goodIn_r _ [6, 7, 8, 9, 5, 10, 11, 12, 13, 14, 15, 16, 17, 18, 19] (by decide +kernel) (by decide +kernel)
set_option maxRecDepth 20000 in
theorem gX1_cellsOfPondAt_X1_pondAt : GoodIn wsX1_cellsOfPondAt (wsV RX1 78 RX1 yX1_pondAt wsX1_pondAt) := goodIn_app (goodIn_of _ (by decide +kernel)) ggX1_cellsOfPondAt_X1_pondAt
theorem dX1_cellsOfPondAt_0 : decode cX1_cellsOfPondAt 0 = .ok (.aload_n 0, 1) := by decide +kernel
theorem dX1_cellsOfPondAt_1 : decode cX1_cellsOfPondAt 1 = .ok (.iload_n 1, 1) := by decide +kernel
theorem dX1_cellsOfPondAt_2 : decode cX1_cellsOfPondAt 2 = .ok (.invokevirtual 78, 3) := by decide +kernel
theorem dX1_cellsOfPondAt_5 : decode cX1_cellsOfPondAt 5 = .ok (.istore_n 2, 1) := by decide +kernel
theorem dX1_cellsOfPondAt_6 : decode cX1_cellsOfPondAt 6 = .ok (.iload_n 2, 1) := by decide +kernel
theorem dX1_cellsOfPondAt_7 : decode cX1_cellsOfPondAt 7 = .ok (.iconst (-1), 1) := by decide +kernel
theorem dX1_cellsOfPondAt_8 : decode cX1_cellsOfPondAt 8 = .ok (.if_icmp .ne 7, 3) := by decide +kernel
theorem dX1_cellsOfPondAt_11 : decode cX1_cellsOfPondAt 11 = .ok (.iconst 0, 1) := by decide +kernel
theorem dX1_cellsOfPondAt_12 : decode cX1_cellsOfPondAt 12 = .ok (.goto 9, 3) := by decide +kernel
theorem dX1_cellsOfPondAt_15 : decode cX1_cellsOfPondAt 15 = .ok (.aload_n 0, 1) := by decide +kernel
theorem dX1_cellsOfPondAt_16 : decode cX1_cellsOfPondAt 16 = .ok (.getfield 27, 3) := by decide +kernel
theorem dX1_cellsOfPondAt_19 : decode cX1_cellsOfPondAt 19 = .ok (.iload_n 2, 1) := by decide +kernel
theorem dX1_cellsOfPondAt_20 : decode cX1_cellsOfPondAt 20 = .ok (.iaload, 1) := by decide +kernel
theorem dX1_cellsOfPondAt_21 : decode cX1_cellsOfPondAt 21 = .ok (.ireturn, 1) := by decide +kernel
set_option maxRecDepth 20000 in
theorem ggX1_carpsOfPondAt_X1_pondAt : GoodIn wsX1_carpsOfPondAt wsX1_pondAt := goodIn_r _ [6, 7, 8, 9, 5, 10, 11, 12, 13, 14, 15, 16, 17, 18, 19] (by decide +kernel) (by decide +kernel)
set_option maxRecDepth 20000 in
theorem gX1_carpsOfPondAt_X1_pondAt : GoodIn wsX1_carpsOfPondAt (wsV RX1 78 RX1 yX1_pondAt wsX1_pondAt) := goodIn_app (goodIn_of _ (by decide +kernel)) ggX1_carpsOfPondAt_X1_pondAt
theorem dX1_carpsOfPondAt_0 : decode cX1_carpsOfPondAt 0 = .ok (.aload_n 0, 1) := by decide +kernel
theorem dX1_carpsOfPondAt_1 : decode cX1_carpsOfPondAt 1 = .ok (.iload_n 1, 1) := by decide +kernel
theorem dX1_carpsOfPondAt_2 : decode cX1_carpsOfPondAt 2 = .ok (.invokevirtual 78, 3) := by decide +kernel
theorem dX1_carpsOfPondAt_5 : decode cX1_carpsOfPondAt 5 = .ok (.istore_n 2, 1) := by decide +kernel
theorem dX1_carpsOfPondAt_6 : decode cX1_carpsOfPondAt 6 = .ok (.iload_n 2, 1) := by decide +kernel
theorem dX1_carpsOfPondAt_7 : decode cX1_carpsOfPondAt 7 = .ok (.iconst (-1), 1) := by decide +kernel
theorem dX1_carpsOfPondAt_8 : decode cX1_carpsOfPondAt 8 = .ok (.if_icmp .ne 7, 3) := by decide +kernel
theorem dX1_carpsOfPondAt_11 : decode cX1_carpsOfPondAt 11 = .ok (.iconst 0, 1) := by decide +kernel
theorem dX1_carpsOfPondAt_12 : decode cX1_carpsOfPondAt 12 = .ok (.goto 9, 3) := by decide +kernel
theorem dX1_carpsOfPondAt_15 : decode cX1_carpsOfPondAt 15 = .ok (.aload_n 0, 1) := by decide +kernel
theorem dX1_carpsOfPondAt_16 : decode cX1_carpsOfPondAt 16 = .ok (.getfield 30, 3) := by decide +kernel
theorem dX1_carpsOfPondAt_19 : decode cX1_carpsOfPondAt 19 = .ok (.iload_n 2, 1) := by decide +kernel
theorem dX1_carpsOfPondAt_20 : decode cX1_carpsOfPondAt 20 = .ok (.iaload, 1) := by decide +kernel
theorem dX1_carpsOfPondAt_21 : decode cX1_carpsOfPondAt 21 = .ok (.ireturn, 1) := by decide +kernel
set_option maxRecDepth 20000 in
theorem ggX1_isTooFull_X1_carpsOfPondAt : GoodIn wsX1_isTooFull wsX1_carpsOfPondAt := goodIn_r _ [5, 6, 7, 8, 9, 4, 10, 11, 12, 13, 14, 20, 21, 22, 23, 24, 25, 26, 27, 28] (by decide +kernel) (by decide +kernel)
set_option maxRecDepth 20000 in
theorem gX1_isTooFull_X1_carpsOfPondAt : GoodIn wsX1_isTooFull (wsV RX1 81 RX1 yX1_carpsOfPondAt wsX1_carpsOfPondAt) := goodIn_app (goodIn_of _ (by decide +kernel)) ggX1_isTooFull_X1_carpsOfPondAt
set_option maxRecDepth 20000 in
theorem ggX1_isTooFull_X1_cellsOfPondAt : GoodIn wsX1_isTooFull wsX1_cellsOfPondAt := goodIn_r _ [18, 19, 7, 8, 9, 4, 10, 11, 12, 13, 14, 20, 21, 22, 23, 24, 25, 26, 27, 28] (by decide +kernel) (by decide +kernel)
set_option maxRecDepth 20000 in
theorem gX1_isTooFull_X1_cellsOfPondAt : GoodIn wsX1_isTooFull (wsV RX1 84 RX1 yX1_cellsOfPondAt wsX1_cellsOfPondAt) := goodIn_app (goodIn_of _ (by decide +kernel)) ggX1_isTooFull_X1_cellsOfPondAt
theorem dX1_isTooFull_0 : decode cX1_isTooFull 0 = .ok (.aload_n 0, 1) := by decide +kernel
theorem dX1_isTooFull_1 : decode cX1_isTooFull 1 = .ok (.iload_n 1, 1) := by decide +kernel
theorem dX1_isTooFull_2 : decode cX1_isTooFull 2 = .ok (.invokevirtual 81, 3) := by decide +kernel
theorem dX1_isTooFull_5 : decode cX1_isTooFull 5 = .ok (.iconst 2, 1) := by decide +kernel
theorem dX1_isTooFull_6 : decode cX1_isTooFull 6 = .ok (.aload_n 0, 1) := by decide +kernel
theorem dX1_isTooFull_7 : decode cX1_isTooFull 7 = .ok (.iload_n 1, 1) := by decide +kernel
theorem dX1_isTooFull_8 : decode cX1_isTooFull 8 = .ok (.invokevirtual 84, 3) := by decide +kernel
theorem dX1_isTooFull_11 : decode cX1_isTooFull 11 = .ok (.imul, 1) := by decide +kernel
theorem dX1_isTooFull_12 : decode cX1_isTooFull 12 = .ok (.if_icmp .le 7, 3) := by decide +kernel
theorem dX1_isTooFull_15 : decode cX1_isTooFull 15 = .ok (.iconst 1, 1) := by decide +kernel
theorem dX1_isTooFull_16 : decode cX1_isTooFull 16 = .ok (.goto 4, 3) := by decide +kernel
theorem dX1_isTooFull_19 : decode cX1_isTooFull 19 = .ok (.iconst 0, 1) := by decide +kernel
theorem dX1_isTooFull_20 : decode cX1_isTooFull 20 = .ok (.ireturn, 1) := by decide +kernel
set_option maxRecDepth 20000 in
theorem ggX1_pondAt_X1_isPlace : GoodIn wsX1_pondAt wsX1_isPlace := goodIn_r _ [5] (by decide +kernel) (by decide +kernel)
set_option maxRecDepth 20000 in
theorem gX1_pondAt_X1_isPlace : GoodIn wsX1_pondAt (va_wsS RX1 40 yX1_isPlace wsX1_isPlace) := goodIn_app (goodIn_of _ (by decide +kernel)) ggX1_pondAt_X1_isPlace
theorem dX1_pondAt_0 : decode cX1_pondAt 0 = .ok (.iload_n 1, 1) := by decide +kernel
theorem dX1_pondAt_1 : decode cX1_pondAt 1 = .ok (.invokestatic 40, 3) := by decide +kernel
theorem dX1_pondAt_4 : decode cX1_pondAt 4 = .ok (.ifCond .eq 12, 3) := by decide +kernel
theorem dX1_pondAt_7 : decode cX1_pondAt 7 = .ok (.aload_n 0, 1) := by decide +kernel
theorem dX1_pondAt_8 : decode cX1_pondAt 8 = .ok (.getfield 24, 3) := by decide +kernel
theorem dX1_pondAt_11 : decode cX1_pondAt 11 = .ok (.iload_n 1, 1) := by decide +kernel
theorem dX1_pondAt_12 : decode cX1_pondAt 12 = .ok (.iaload, 1) := by decide +kernel
theorem dX1_pondAt_13 : decode cX1_pondAt 13 = .ok (.goto 4, 3) := by decide +kernel
theorem dX1_pondAt_16 : decode cX1_pondAt 16 = .ok (.iconst (-1), 1) := by decide +kernel
theorem dX1_pondAt_17 : decode cX1_pondAt 17 = .ok (.istore_n 2, 1) := by decide +kernel
theorem dX1_pondAt_18 : decode cX1_pondAt 18 = .ok (.iload_n 2, 1) := by decide +kernel
theorem dX1_pondAt_19 : decode cX1_pondAt 19 = .ok (.ifCond .lt 13, 3) := by decide +kernel
theorem dX1_pondAt_22 : decode cX1_pondAt 22 = .ok (.iload_n 2, 1) := by decide +kernel
theorem dX1_pondAt_23 : decode cX1_pondAt 23 = .ok (.bipush 70, 2) := by decide +kernel
theorem dX1_pondAt_25 : decode cX1_pondAt 25 = .ok (.if_icmp .ge 7, 3) := by decide +kernel
theorem dX1_pondAt_28 : decode cX1_pondAt 28 = .ok (.iload_n 2, 1) := by decide +kernel
theorem dX1_pondAt_29 : decode cX1_pondAt 29 = .ok (.goto 4, 3) := by decide +kernel
theorem dX1_pondAt_32 : decode cX1_pondAt 32 = .ok (.iconst (-1), 1) := by decide +kernel
theorem dX1_pondAt_33 : decode cX1_pondAt 33 = .ok (.ireturn, 1) := by decide +kernel
set_option maxRecDepth 20000 in
theorem ggX1_surveyPonds_X1_isUnknownPond : GoodIn wsX1_surveyPonds wsX1_isUnknownPond := goodIn_r _ [7, 8, 1, 9, 10, 6, 11, 39, 40, 41, 42, 43, 44, 45, 46, 47] (by decide +kernel) (by decide +kernel)
set_option maxRecDepth 20000 in
theorem gX1_surveyPonds_X1_isUnknownPond : GoodIn wsX1_surveyPonds (wsV RX1 87 RX1 yX1_isUnknownPond wsX1_isUnknownPond) := goodIn_app (goodIn_of _ (by decide +kernel)) ggX1_surveyPonds_X1_isUnknownPond
set_option maxRecDepth 20000 in
theorem ggX1_surveyPonds_X1_surveyPond : GoodIn wsX1_surveyPonds wsX1_surveyPond := goodIn_r _ [15, 16, 17, 1, 18, 19, 9, 10, 6, 11, 20, 21, 22, 23, 24, 25, 26, 27, 28, 29, 30, 31, 32, 33, 34, 35, 36, 37, 38, 3, 4, 5, 7, 8, 39, 40, 41, 42, 43, 44, 45, 46, 47] (by decide +kernel) (by decide +kernel)
set_option maxRecDepth 20000 in
theorem gX1_surveyPonds_X1_surveyPond : GoodIn wsX1_surveyPonds (wsV RX1 90 RX1 yX1_surveyPond wsX1_surveyPond) := goodIn_app (goodIn_of _ (by decide +kernel)) ggX1_surveyPonds_X1_surveyPond
theorem dX1_surveyPonds_0 : decode cX1_surveyPonds 0 = .ok (.iconst 0, 1) := by decide +kernel
theorem dX1_surveyPonds_1 : decode cX1_surveyPonds 1 = .ok (.istore_n 1, 1) := by decide +kernel
theorem dX1_surveyPonds_2 : decode cX1_surveyPonds 2 = .ok (.iload_n 1, 1) := by decide +kernel
theorem dX1_surveyPonds_3 : decode cX1_surveyPonds 3 = .ok (.bipush 70, 2) := by decide +kernel
theorem dX1_surveyPonds_5 : decode cX1_surveyPonds 5 = .ok (.if_icmp .ge 16, 3) := by decide +kernel
theorem dX1_surveyPonds_8 : decode cX1_surveyPonds 8 = .ok (.aload_n 0, 1) := by decide +kernel
theorem dX1_surveyPonds_9 : decode cX1_surveyPonds 9 = .ok (.getfield 24, 3) := by decide +kernel
theorem dX1_surveyPonds_12 : decode cX1_surveyPonds 12 = .ok (.iload_n 1, 1) := by decide +kernel
theorem dX1_surveyPonds_13 : decode cX1_surveyPonds 13 = .ok (.iconst (-1), 1) := by decide +kernel
theorem dX1_surveyPonds_14 : decode cX1_surveyPonds 14 = .ok (.iastore, 1) := by decide +kernel
theorem dX1_surveyPonds_15 : decode cX1_surveyPonds 15 = .ok (.iinc 1 1, 3) := by decide +kernel
theorem dX1_surveyPonds_18 : decode cX1_surveyPonds 18 = .ok (.goto (-16), 3) := by decide +kernel
theorem dX1_surveyPonds_21 : decode cX1_surveyPonds 21 = .ok (.aload_n 0, 1) := by decide +kernel
theorem dX1_surveyPonds_22 : decode cX1_surveyPonds 22 = .ok (.iconst 0, 1) := by decide +kernel
theorem dX1_surveyPonds_23 : decode cX1_surveyPonds 23 = .ok (.putfield 36, 3) := by decide +kernel
theorem dX1_surveyPonds_26 : decode cX1_surveyPonds 26 = .ok (.iconst 0, 1) := by decide +kernel
theorem dX1_surveyPonds_27 : decode cX1_surveyPonds 27 = .ok (.istore_n 1, 1) := by decide +kernel
theorem dX1_surveyPonds_28 : decode cX1_surveyPonds 28 = .ok (.iload_n 1, 1) := by decide +kernel
theorem dX1_surveyPonds_29 : decode cX1_surveyPonds 29 = .ok (.bipush 70, 2) := by decide +kernel
theorem dX1_surveyPonds_31 : decode cX1_surveyPonds 31 = .ok (.if_icmp .ge 36, 3) := by decide +kernel
theorem dX1_surveyPonds_34 : decode cX1_surveyPonds 34 = .ok (.aload_n 0, 1) := by decide +kernel
theorem dX1_surveyPonds_35 : decode cX1_surveyPonds 35 = .ok (.iload_n 1, 1) := by decide +kernel
theorem dX1_surveyPonds_36 : decode cX1_surveyPonds 36 = .ok (.invokevirtual 87, 3) := by decide +kernel
theorem dX1_surveyPonds_39 : decode cX1_surveyPonds 39 = .ok (.ifCond .eq 22, 3) := by decide +kernel
theorem dX1_surveyPonds_42 : decode cX1_surveyPonds 42 = .ok (.aload_n 0, 1) := by decide +kernel
theorem dX1_surveyPonds_43 : decode cX1_surveyPonds 43 = .ok (.aload_n 0, 1) := by decide +kernel
theorem dX1_surveyPonds_44 : decode cX1_surveyPonds 44 = .ok (.getfield 36, 3) := by decide +kernel
theorem dX1_surveyPonds_47 : decode cX1_surveyPonds 47 = .ok (.iload_n 1, 1) := by decide +kernel
theorem dX1_surveyPonds_48 : decode cX1_surveyPonds 48 = .ok (.invokevirtual 90, 3) := by decide +kernel
theorem dX1_surveyPonds_51 : decode cX1_surveyPonds 51 = .ok (.aload_n 0, 1) := by decide +kernel
theorem dX1_surveyPonds_52 : decode cX1_surveyPonds 52 = .ok (.dup, 1) := by decide +kernel
theorem dX1_surveyPonds_53 : decode cX1_surveyPonds 53 = .ok (.getfield 36, 3) := by decide +kernel
theorem dX1_surveyPonds_56 : decode cX1_surveyPonds 56 = .ok (.iconst 1, 1) := by decide +kernel
theorem dX1_surveyPonds_57 : decode cX1_surveyPonds 57 = .ok (.iadd, 1) := by decide +kernel
theorem dX1_surveyPonds_58 : decode cX1_surveyPonds 58 = .ok (.putfield 36, 3) := by decide +kernel
theorem dX1_surveyPonds_61 : decode cX1_surveyPonds 61 = .ok (.iinc 1 1, 3) := by decide +kernel
theorem dX1_surveyPonds_64 : decode cX1_surveyPonds 64 = .ok (.goto (-36), 3) := by decide +kernel
theorem dX1_surveyPonds_67 : decode cX1_surveyPonds 67 = .ok (.return_, 1) := by decide +kernel
set_option maxRecDepth 20000 in
theorem ggX1_surveyPond_X1_isPlace : GoodIn wsX1_surveyPond wsX1_isPlace := goodIn_r _ [9] (by decide +kernel) (by decide +kernel)
set_option maxRecDepth 20000 in
theorem gX1_surveyPond_X1_isPlace : GoodIn wsX1_surveyPond (va_wsS RX1 40 yX1_isPlace wsX1_isPlace) := goodIn_app (goodIn_of _ (by decide +kernel)) ggX1_surveyPond_X1_isPlace
set_option maxRecDepth 20000 in
theorem ggX1_surveyPond_X1_reachOnFrom : GoodIn wsX1_surveyPond wsX1_reachOnFrom := goodIn_r _ [13, 3, 4, 14, 15, 16, 8, 17, 18, 19, 6, 7, 9, 20, 21, 22, 23, 24, 25, 26, 27, 28, 29, 30, 31, 32, 33, 34, 35, 36, 37, 38, 39, 40, 41, 42] (by decide +kernel) (by decide +kernel)
set_option maxRecDepth 20000 in
theorem gX1_surveyPond_X1_reachOnFrom : GoodIn wsX1_surveyPond (wsV RX1 94 RX1 yX1_reachOnFrom wsX1_reachOnFrom) := goodIn_app (goodIn_of _ (by decide +kernel)) ggX1_surveyPond_X1_reachOnFrom
theorem dX1_surveyPond_0 : decode cX1_surveyPond 0 = .ok (.iload_n 1, 1) := by decide +kernel
theorem dX1_surveyPond_1 : decode cX1_surveyPond 1 = .ok (.invokestatic 40, 3) := by decide +kernel
theorem dX1_surveyPond_4 : decode cX1_surveyPond 4 = .ok (.ifCond .eq 10, 3) := by decide +kernel
theorem dX1_surveyPond_7 : decode cX1_surveyPond 7 = .ok (.iload_n 2, 1) := by decide +kernel
theorem dX1_surveyPond_8 : decode cX1_surveyPond 8 = .ok (.invokestatic 40, 3) := by decide +kernel
theorem dX1_surveyPond_11 : decode cX1_surveyPond 11 = .ok (.ifCond .ne 4, 3) := by decide +kernel
theorem dX1_surveyPond_14 : decode cX1_surveyPond 14 = .ok (.return_, 1) := by decide +kernel
theorem dX1_surveyPond_15 : decode cX1_surveyPond 15 = .ok (.aload_n 0, 1) := by decide +kernel
theorem dX1_surveyPond_16 : decode cX1_surveyPond 16 = .ok (.getfield 27, 3) := by decide +kernel
theorem dX1_surveyPond_19 : decode cX1_surveyPond 19 = .ok (.iload_n 1, 1) := by decide +kernel
theorem dX1_surveyPond_20 : decode cX1_surveyPond 20 = .ok (.iconst 0, 1) := by decide +kernel
theorem dX1_surveyPond_21 : decode cX1_surveyPond 21 = .ok (.iastore, 1) := by decide +kernel
theorem dX1_surveyPond_22 : decode cX1_surveyPond 22 = .ok (.aload_n 0, 1) := by decide +kernel
theorem dX1_surveyPond_23 : decode cX1_surveyPond 23 = .ok (.getfield 30, 3) := by decide +kernel
theorem dX1_surveyPond_26 : decode cX1_surveyPond 26 = .ok (.iload_n 1, 1) := by decide +kernel
theorem dX1_surveyPond_27 : decode cX1_surveyPond 27 = .ok (.iconst 0, 1) := by decide +kernel
theorem dX1_surveyPond_28 : decode cX1_surveyPond 28 = .ok (.iastore, 1) := by decide +kernel
theorem dX1_surveyPond_29 : decode cX1_surveyPond 29 = .ok (.aload_n 0, 1) := by decide +kernel
theorem dX1_surveyPond_30 : decode cX1_surveyPond 30 = .ok (.getfield 24, 3) := by decide +kernel
theorem dX1_surveyPond_33 : decode cX1_surveyPond 33 = .ok (.iload_n 2, 1) := by decide +kernel
theorem dX1_surveyPond_34 : decode cX1_surveyPond 34 = .ok (.iload_n 1, 1) := by decide +kernel
theorem dX1_surveyPond_35 : decode cX1_surveyPond 35 = .ok (.iastore, 1) := by decide +kernel
theorem dX1_surveyPond_36 : decode cX1_surveyPond 36 = .ok (.aload_n 0, 1) := by decide +kernel
theorem dX1_surveyPond_37 : decode cX1_surveyPond 37 = .ok (.getfield 33, 3) := by decide +kernel
theorem dX1_surveyPond_40 : decode cX1_surveyPond 40 = .ok (.iconst 0, 1) := by decide +kernel
theorem dX1_surveyPond_41 : decode cX1_surveyPond 41 = .ok (.iload_n 2, 1) := by decide +kernel
theorem dX1_surveyPond_42 : decode cX1_surveyPond 42 = .ok (.iastore, 1) := by decide +kernel
theorem dX1_surveyPond_43 : decode cX1_surveyPond 43 = .ok (.iconst 1, 1) := by decide +kernel
theorem dX1_surveyPond_44 : decode cX1_surveyPond 44 = .ok (.istore_n 3, 1) := by decide +kernel
theorem dX1_surveyPond_45 : decode cX1_surveyPond 45 = .ok (.iconst 0, 1) := by decide +kernel
theorem dX1_surveyPond_46 : decode cX1_surveyPond 46 = .ok (.istore 4, 2) := by decide +kernel
theorem dX1_surveyPond_48 : decode cX1_surveyPond 48 = .ok (.iload 4, 2) := by decide +kernel
theorem dX1_surveyPond_50 : decode cX1_surveyPond 50 = .ok (.iload_n 3, 1) := by decide +kernel
theorem dX1_surveyPond_51 : decode cX1_surveyPond 51 = .ok (.if_icmp .ge 72, 3) := by decide +kernel
theorem dX1_surveyPond_54 : decode cX1_surveyPond 54 = .ok (.iload 4, 2) := by decide +kernel
theorem dX1_surveyPond_56 : decode cX1_surveyPond 56 = .ok (.bipush 70, 2) := by decide +kernel
theorem dX1_surveyPond_58 : decode cX1_surveyPond 58 = .ok (.if_icmp .ge 65, 3) := by decide +kernel
theorem dX1_surveyPond_61 : decode cX1_surveyPond 61 = .ok (.aload_n 0, 1) := by decide +kernel
theorem dX1_surveyPond_62 : decode cX1_surveyPond 62 = .ok (.getfield 33, 3) := by decide +kernel
theorem dX1_surveyPond_65 : decode cX1_surveyPond 65 = .ok (.iload 4, 2) := by decide +kernel
theorem dX1_surveyPond_67 : decode cX1_surveyPond 67 = .ok (.iaload, 1) := by decide +kernel
theorem dX1_surveyPond_68 : decode cX1_surveyPond 68 = .ok (.istore 5, 2) := by decide +kernel
theorem dX1_surveyPond_70 : decode cX1_surveyPond 70 = .ok (.aload_n 0, 1) := by decide +kernel
theorem dX1_surveyPond_71 : decode cX1_surveyPond 71 = .ok (.getfield 27, 3) := by decide +kernel
theorem dX1_surveyPond_74 : decode cX1_surveyPond 74 = .ok (.iload_n 1, 1) := by decide +kernel
theorem dX1_surveyPond_75 : decode cX1_surveyPond 75 = .ok (.dup2, 1) := by decide +kernel
theorem dX1_surveyPond_76 : decode cX1_surveyPond 76 = .ok (.iaload, 1) := by decide +kernel
theorem dX1_surveyPond_77 : decode cX1_surveyPond 77 = .ok (.iconst 1, 1) := by decide +kernel
theorem dX1_surveyPond_78 : decode cX1_surveyPond 78 = .ok (.iadd, 1) := by decide +kernel
theorem dX1_surveyPond_79 : decode cX1_surveyPond 79 = .ok (.iastore, 1) := by decide +kernel
theorem dX1_surveyPond_80 : decode cX1_surveyPond 80 = .ok (.aload_n 0, 1) := by decide +kernel
theorem dX1_surveyPond_81 : decode cX1_surveyPond 81 = .ok (.getfield 30, 3) := by decide +kernel
theorem dX1_surveyPond_84 : decode cX1_surveyPond 84 = .ok (.iload_n 1, 1) := by decide +kernel
theorem dX1_surveyPond_85 : decode cX1_surveyPond 85 = .ok (.dup2, 1) := by decide +kernel
theorem dX1_surveyPond_86 : decode cX1_surveyPond 86 = .ok (.iaload, 1) := by decide +kernel
theorem dX1_surveyPond_87 : decode cX1_surveyPond 87 = .ok (.iload 5, 2) := by decide +kernel
theorem dX1_surveyPond_89 : decode cX1_surveyPond 89 = .ok (.invokestatic 40, 3) := by decide +kernel
theorem dX1_surveyPond_92 : decode cX1_surveyPond 92 = .ok (.ifCond .eq 13, 3) := by decide +kernel
theorem dX1_surveyPond_95 : decode cX1_surveyPond 95 = .ok (.aload_n 0, 1) := by decide +kernel
theorem dX1_surveyPond_96 : decode cX1_surveyPond 96 = .ok (.getfield 21, 3) := by decide +kernel
theorem dX1_surveyPond_99 : decode cX1_surveyPond 99 = .ok (.iload 5, 2) := by decide +kernel
theorem dX1_surveyPond_101 : decode cX1_surveyPond 101 = .ok (.iaload, 1) := by decide +kernel
theorem dX1_surveyPond_102 : decode cX1_surveyPond 102 = .ok (.goto 4, 3) := by decide +kernel
theorem dX1_surveyPond_105 : decode cX1_surveyPond 105 = .ok (.iconst 0, 1) := by decide +kernel
theorem dX1_surveyPond_106 : decode cX1_surveyPond 106 = .ok (.iadd, 1) := by decide +kernel
theorem dX1_surveyPond_107 : decode cX1_surveyPond 107 = .ok (.iastore, 1) := by decide +kernel
theorem dX1_surveyPond_108 : decode cX1_surveyPond 108 = .ok (.aload_n 0, 1) := by decide +kernel
theorem dX1_surveyPond_109 : decode cX1_surveyPond 109 = .ok (.iload 5, 2) := by decide +kernel
theorem dX1_surveyPond_111 : decode cX1_surveyPond 111 = .ok (.iload_n 1, 1) := by decide +kernel
theorem dX1_surveyPond_112 : decode cX1_surveyPond 112 = .ok (.iload_n 3, 1) := by decide +kernel
theorem dX1_surveyPond_113 : decode cX1_surveyPond 113 = .ok (.invokevirtual 94, 3) := by decide +kernel
theorem dX1_surveyPond_116 : decode cX1_surveyPond 116 = .ok (.istore_n 3, 1) := by decide +kernel
theorem dX1_surveyPond_117 : decode cX1_surveyPond 117 = .ok (.iinc 4 1, 3) := by decide +kernel
theorem dX1_surveyPond_120 : decode cX1_surveyPond 120 = .ok (.goto (-72), 3) := by decide +kernel
theorem dX1_surveyPond_123 : decode cX1_surveyPond 123 = .ok (.return_, 1) := by decide +kernel
set_option maxRecDepth 20000 in
theorem ggX1_reachOnFrom_X1_beside : GoodIn wsX1_reachOnFrom wsX1_beside := goodIn_r _ [7, 8, 9, 10, 11, 6, 12, 13, 14, 15, 16, 17, 18, 19, 20, 21] (by decide +kernel) (by decide +kernel)
set_option maxRecDepth 20000 in
theorem gX1_reachOnFrom_X1_beside : GoodIn wsX1_reachOnFrom (wsV RX1 98 RX1 yX1_beside wsX1_beside) := goodIn_app (goodIn_of _ (by decide +kernel)) ggX1_reachOnFrom_X1_beside
set_option maxRecDepth 20000 in
theorem ggX1_reachOnFrom_X1_isUnknownPond : GoodIn wsX1_reachOnFrom wsX1_isUnknownPond := goodIn_r _ [25, 26, 1, 10, 11, 6, 12, 27, 28, 29, 30, 31, 32, 33, 34, 35] (by decide +kernel) (by decide +kernel)
set_option maxRecDepth 20000 in
theorem gX1_reachOnFrom_X1_isUnknownPond : GoodIn wsX1_reachOnFrom (wsV RX1 87 RX1 yX1_isUnknownPond wsX1_isUnknownPond) := goodIn_app (goodIn_of _ (by decide +kernel)) ggX1_reachOnFrom_X1_isUnknownPond
theorem dX1_reachOnFrom_0 : decode cX1_reachOnFrom 0 = .ok (.iload_n 3, 1) := by decide +kernel
theorem dX1_reachOnFrom_1 : decode cX1_reachOnFrom 1 = .ok (.istore 4, 2) := by decide +kernel
theorem dX1_reachOnFrom_3 : decode cX1_reachOnFrom 3 = .ok (.iconst 0, 1) := by decide +kernel
theorem dX1_reachOnFrom_4 : decode cX1_reachOnFrom 4 = .ok (.istore 5, 2) := by decide +kernel
theorem dX1_reachOnFrom_6 : decode cX1_reachOnFrom 6 = .ok (.iload 5, 2) := by decide +kernel
theorem dX1_reachOnFrom_8 : decode cX1_reachOnFrom 8 = .ok (.iconst 4, 1) := by decide +kernel
theorem dX1_reachOnFrom_9 : decode cX1_reachOnFrom 9 = .ok (.if_icmp .ge 59, 3) := by decide +kernel
theorem dX1_reachOnFrom_12 : decode cX1_reachOnFrom 12 = .ok (.aload_n 0, 1) := by decide +kernel
theorem dX1_reachOnFrom_13 : decode cX1_reachOnFrom 13 = .ok (.iload_n 1, 1) := by decide +kernel
theorem dX1_reachOnFrom_14 : decode cX1_reachOnFrom 14 = .ok (.iload 5, 2) := by decide +kernel
theorem dX1_reachOnFrom_16 : decode cX1_reachOnFrom 16 = .ok (.invokevirtual 98, 3) := by decide +kernel
theorem dX1_reachOnFrom_19 : decode cX1_reachOnFrom 19 = .ok (.istore 6, 2) := by decide +kernel
theorem dX1_reachOnFrom_21 : decode cX1_reachOnFrom 21 = .ok (.aload_n 0, 1) := by decide +kernel
theorem dX1_reachOnFrom_22 : decode cX1_reachOnFrom 22 = .ok (.iload 6, 2) := by decide +kernel
theorem dX1_reachOnFrom_24 : decode cX1_reachOnFrom 24 = .ok (.invokevirtual 87, 3) := by decide +kernel
theorem dX1_reachOnFrom_27 : decode cX1_reachOnFrom 27 = .ok (.ifCond .eq 35, 3) := by decide +kernel
theorem dX1_reachOnFrom_30 : decode cX1_reachOnFrom 30 = .ok (.iload 4, 2) := by decide +kernel
theorem dX1_reachOnFrom_32 : decode cX1_reachOnFrom 32 = .ok (.ifCond .lt 30, 3) := by decide +kernel
theorem dX1_reachOnFrom_35 : decode cX1_reachOnFrom 35 = .ok (.iload 4, 2) := by decide +kernel
theorem dX1_reachOnFrom_37 : decode cX1_reachOnFrom 37 = .ok (.bipush 70, 2) := by decide +kernel
theorem dX1_reachOnFrom_39 : decode cX1_reachOnFrom 39 = .ok (.if_icmp .ge 23, 3) := by decide +kernel
theorem dX1_reachOnFrom_42 : decode cX1_reachOnFrom 42 = .ok (.aload_n 0, 1) := by decide +kernel
theorem dX1_reachOnFrom_43 : decode cX1_reachOnFrom 43 = .ok (.getfield 24, 3) := by decide +kernel
theorem dX1_reachOnFrom_46 : decode cX1_reachOnFrom 46 = .ok (.iload 6, 2) := by decide +kernel
theorem dX1_reachOnFrom_48 : decode cX1_reachOnFrom 48 = .ok (.iload_n 2, 1) := by decide +kernel
theorem dX1_reachOnFrom_49 : decode cX1_reachOnFrom 49 = .ok (.iastore, 1) := by decide +kernel
theorem dX1_reachOnFrom_50 : decode cX1_reachOnFrom 50 = .ok (.aload_n 0, 1) := by decide +kernel
theorem dX1_reachOnFrom_51 : decode cX1_reachOnFrom 51 = .ok (.getfield 33, 3) := by decide +kernel
theorem dX1_reachOnFrom_54 : decode cX1_reachOnFrom 54 = .ok (.iload 4, 2) := by decide +kernel
theorem dX1_reachOnFrom_56 : decode cX1_reachOnFrom 56 = .ok (.iload 6, 2) := by decide +kernel
theorem dX1_reachOnFrom_58 : decode cX1_reachOnFrom 58 = .ok (.iastore, 1) := by decide +kernel
theorem dX1_reachOnFrom_59 : decode cX1_reachOnFrom 59 = .ok (.iinc 4 1, 3) := by decide +kernel
theorem dX1_reachOnFrom_62 : decode cX1_reachOnFrom 62 = .ok (.iinc 5 1, 3) := by decide +kernel
theorem dX1_reachOnFrom_65 : decode cX1_reachOnFrom 65 = .ok (.goto (-59), 3) := by decide +kernel
theorem dX1_reachOnFrom_68 : decode cX1_reachOnFrom 68 = .ok (.iload 4, 2) := by decide +kernel
theorem dX1_reachOnFrom_70 : decode cX1_reachOnFrom 70 = .ok (.ireturn, 1) := by decide +kernel
set_option maxRecDepth 20000 in
theorem ggX1_isUnknownPond_X1_isPlace : GoodIn wsX1_isUnknownPond wsX1_isPlace := goodIn_r _ [6] (by decide +kernel) (by decide +kernel)
set_option maxRecDepth 20000 in
theorem gX1_isUnknownPond_X1_isPlace : GoodIn wsX1_isUnknownPond (va_wsS RX1 40 yX1_isPlace wsX1_isPlace) := goodIn_app (goodIn_of _ (by decide +kernel)) ggX1_isUnknownPond_X1_isPlace
theorem dX1_isUnknownPond_0 : decode cX1_isUnknownPond 0 = .ok (.iload_n 1, 1) := by decide +kernel
theorem dX1_isUnknownPond_1 : decode cX1_isUnknownPond 1 = .ok (.invokestatic 40, 3) := by decide +kernel
theorem dX1_isUnknownPond_4 : decode cX1_isUnknownPond 4 = .ok (.ifCond .eq 27, 3) := by decide +kernel
theorem dX1_isUnknownPond_7 : decode cX1_isUnknownPond 7 = .ok (.aload_n 0, 1) := by decide +kernel
theorem dX1_isUnknownPond_8 : decode cX1_isUnknownPond 8 = .ok (.getfield 11, 3) := by decide +kernel
theorem dX1_isUnknownPond_11 : decode cX1_isUnknownPond 11 = .ok (.iload_n 1, 1) := by decide +kernel
theorem dX1_isUnknownPond_12 : decode cX1_isUnknownPond 12 = .ok (.iaload, 1) := by decide +kernel
theorem dX1_isUnknownPond_13 : decode cX1_isUnknownPond 13 = .ok (.iconst 2, 1) := by decide +kernel
theorem dX1_isUnknownPond_14 : decode cX1_isUnknownPond 14 = .ok (.if_icmp .ne 17, 3) := by decide +kernel
theorem dX1_isUnknownPond_17 : decode cX1_isUnknownPond 17 = .ok (.aload_n 0, 1) := by decide +kernel
theorem dX1_isUnknownPond_18 : decode cX1_isUnknownPond 18 = .ok (.getfield 24, 3) := by decide +kernel
theorem dX1_isUnknownPond_21 : decode cX1_isUnknownPond 21 = .ok (.iload_n 1, 1) := by decide +kernel
theorem dX1_isUnknownPond_22 : decode cX1_isUnknownPond 22 = .ok (.iaload, 1) := by decide +kernel
theorem dX1_isUnknownPond_23 : decode cX1_isUnknownPond 23 = .ok (.iconst (-1), 1) := by decide +kernel
theorem dX1_isUnknownPond_24 : decode cX1_isUnknownPond 24 = .ok (.if_icmp .ne 7, 3) := by decide +kernel
theorem dX1_isUnknownPond_27 : decode cX1_isUnknownPond 27 = .ok (.iconst 1, 1) := by decide +kernel
theorem dX1_isUnknownPond_28 : decode cX1_isUnknownPond 28 = .ok (.goto 4, 3) := by decide +kernel
theorem dX1_isUnknownPond_31 : decode cX1_isUnknownPond 31 = .ok (.iconst 0, 1) := by decide +kernel
theorem dX1_isUnknownPond_32 : decode cX1_isUnknownPond 32 = .ok (.ireturn, 1) := by decide +kernel
theorem dX2_init_0 : decode cX2_init 0 = .ok (.aload_n 0, 1) := by decide +kernel
theorem dX2_init_1 : decode cX2_init 1 = .ok (.invokespecial 3, 3) := by decide +kernel
theorem dX2_init_4 : decode cX2_init 4 = .ok (.aload_n 0, 1) := by decide +kernel
theorem dX2_init_5 : decode cX2_init 5 = .ok (.bipush 6, 2) := by decide +kernel
theorem dX2_init_7 : decode cX2_init 7 = .ok (.newarray .int, 2) := by decide +kernel
theorem dX2_init_9 : decode cX2_init 9 = .ok (.putfield 9, 3) := by decide +kernel
theorem dX2_init_12 : decode cX2_init 12 = .ok (.aload_n 0, 1) := by decide +kernel
theorem dX2_init_13 : decode cX2_init 13 = .ok (.bipush 6, 2) := by decide +kernel
theorem dX2_init_15 : decode cX2_init 15 = .ok (.newarray .int, 2) := by decide +kernel
theorem dX2_init_17 : decode cX2_init 17 = .ok (.putfield 15, 3) := by decide +kernel
theorem dX2_init_20 : decode cX2_init 20 = .ok (.aload_n 0, 1) := by decide +kernel
theorem dX2_init_21 : decode cX2_init 21 = .ok (.iconst 0, 1) := by decide +kernel
theorem dX2_init_22 : decode cX2_init 22 = .ok (.putfield 18, 3) := by decide +kernel
theorem dX2_init_25 : decode cX2_init 25 = .ok (.return_, 1) := by decide +kernel
theorem dX2_isNumber_0 : decode cX2_isNumber 0 = .ok (.iload_n 1, 1) := by decide +kernel
theorem dX2_isNumber_1 : decode cX2_isNumber 1 = .ok (.ifCond .lt 21, 3) := by decide +kernel
theorem dX2_isNumber_4 : decode cX2_isNumber 4 = .ok (.iload_n 1, 1) := by decide +kernel
theorem dX2_isNumber_5 : decode cX2_isNumber 5 = .ok (.aload_n 0, 1) := by decide +kernel
theorem dX2_isNumber_6 : decode cX2_isNumber 6 = .ok (.getfield 18, 3) := by decide +kernel
theorem dX2_isNumber_9 : decode cX2_isNumber 9 = .ok (.if_icmp .ge 13, 3) := by decide +kernel
theorem dX2_isNumber_12 : decode cX2_isNumber 12 = .ok (.iload_n 1, 1) := by decide +kernel
theorem dX2_isNumber_13 : decode cX2_isNumber 13 = .ok (.bipush 6, 2) := by decide +kernel
theorem dX2_isNumber_15 : decode cX2_isNumber 15 = .ok (.if_icmp .ge 7, 3) := by decide +kernel
theorem dX2_isNumber_18 : decode cX2_isNumber 18 = .ok (.iconst 1, 1) := by decide +kernel
theorem dX2_isNumber_19 : decode cX2_isNumber 19 = .ok (.goto 4, 3) := by decide +kernel
theorem dX2_isNumber_22 : decode cX2_isNumber 22 = .ok (.iconst 0, 1) := by decide +kernel
theorem dX2_isNumber_23 : decode cX2_isNumber 23 = .ok (.ireturn, 1) := by decide +kernel
theorem dX2_add_0 : decode cX2_add 0 = .ok (.aload_n 0, 1) := by decide +kernel
theorem dX2_add_1 : decode cX2_add 1 = .ok (.getfield 18, 3) := by decide +kernel
theorem dX2_add_4 : decode cX2_add 4 = .ok (.istore_n 3, 1) := by decide +kernel
theorem dX2_add_5 : decode cX2_add 5 = .ok (.iload_n 3, 1) := by decide +kernel
theorem dX2_add_6 : decode cX2_add 6 = .ok (.ifCond .lt 33, 3) := by decide +kernel
theorem dX2_add_9 : decode cX2_add 9 = .ok (.iload_n 3, 1) := by decide +kernel
theorem dX2_add_10 : decode cX2_add 10 = .ok (.bipush 6, 2) := by decide +kernel
theorem dX2_add_12 : decode cX2_add 12 = .ok (.if_icmp .ge 27, 3) := by decide +kernel
theorem dX2_add_15 : decode cX2_add 15 = .ok (.aload_n 0, 1) := by decide +kernel
theorem dX2_add_16 : decode cX2_add 16 = .ok (.getfield 9, 3) := by decide +kernel
theorem dX2_add_19 : decode cX2_add 19 = .ok (.iload_n 3, 1) := by decide +kernel
theorem dX2_add_20 : decode cX2_add 20 = .ok (.iload_n 1, 1) := by decide +kernel
theorem dX2_add_21 : decode cX2_add 21 = .ok (.iastore, 1) := by decide +kernel
theorem dX2_add_22 : decode cX2_add 22 = .ok (.aload_n 0, 1) := by decide +kernel
theorem dX2_add_23 : decode cX2_add 23 = .ok (.getfield 15, 3) := by decide +kernel
theorem dX2_add_26 : decode cX2_add 26 = .ok (.iload_n 3, 1) := by decide +kernel
theorem dX2_add_27 : decode cX2_add 27 = .ok (.iload_n 2, 1) := by decide +kernel
theorem dX2_add_28 : decode cX2_add 28 = .ok (.iastore, 1) := by decide +kernel
theorem dX2_add_29 : decode cX2_add 29 = .ok (.aload_n 0, 1) := by decide +kernel
theorem dX2_add_30 : decode cX2_add 30 = .ok (.dup, 1) := by decide +kernel
theorem dX2_add_31 : decode cX2_add 31 = .ok (.getfield 18, 3) := by decide +kernel
theorem dX2_add_34 : decode cX2_add 34 = .ok (.iconst 1, 1) := by decide +kernel
theorem dX2_add_35 : decode cX2_add 35 = .ok (.iadd, 1) := by decide +kernel
theorem dX2_add_36 : decode cX2_add 36 = .ok (.putfield 18, 3) := by decide +kernel
theorem dX2_add_39 : decode cX2_add 39 = .ok (.iload_n 3, 1) := by decide +kernel
theorem dX2_add_40 : decode cX2_add 40 = .ok (.ireturn, 1) := by decide +kernel
set_option maxRecDepth 20000 in
theorem ggX2_placeOf_X2_isNumber : GoodIn wsX2_placeOf wsX2_isNumber := goodIn_r _ [6, 7, 8, 9, 10] (by decide +kernel) (by decide +kernel)
set_option maxRecDepth 20000 in
theorem gX2_placeOf_X2_isNumber : GoodIn wsX2_placeOf (wsV RX2 22 RX2 yX2_isNumber wsX2_isNumber) := goodIn_app (goodIn_of _ (by decide +kernel)) ggX2_placeOf_X2_isNumber
theorem dX2_placeOf_0 : decode cX2_placeOf 0 = .ok (.aload_n 0, 1) := by decide +kernel
theorem dX2_placeOf_1 : decode cX2_placeOf 1 = .ok (.iload_n 1, 1) := by decide +kernel
theorem dX2_placeOf_2 : decode cX2_placeOf 2 = .ok (.invokevirtual 22, 3) := by decide +kernel
theorem dX2_placeOf_5 : decode cX2_placeOf 5 = .ok (.ifCond .eq 12, 3) := by decide +kernel
theorem dX2_placeOf_8 : decode cX2_placeOf 8 = .ok (.aload_n 0, 1) := by decide +kernel
theorem dX2_placeOf_9 : decode cX2_placeOf 9 = .ok (.getfield 9, 3) := by decide +kernel
theorem dX2_placeOf_12 : decode cX2_placeOf 12 = .ok (.iload_n 1, 1) := by decide +kernel
theorem dX2_placeOf_13 : decode cX2_placeOf 13 = .ok (.iaload, 1) := by decide +kernel
theorem dX2_placeOf_14 : decode cX2_placeOf 14 = .ok (.goto 4, 3) := by decide +kernel
theorem dX2_placeOf_17 : decode cX2_placeOf 17 = .ok (.iconst (-1), 1) := by decide +kernel
theorem dX2_placeOf_18 : decode cX2_placeOf 18 = .ok (.ireturn, 1) := by decide +kernel
set_option maxRecDepth 20000 in
theorem ggX2_directionOf_X2_isNumber : GoodIn wsX2_directionOf wsX2_isNumber := goodIn_r _ [6, 7, 8, 9, 10] (by decide +kernel) (by decide +kernel)
set_option maxRecDepth 20000 in
theorem gX2_directionOf_X2_isNumber : GoodIn wsX2_directionOf (wsV RX2 22 RX2 yX2_isNumber wsX2_isNumber) := goodIn_app (goodIn_of _ (by decide +kernel)) ggX2_directionOf_X2_isNumber
theorem dX2_directionOf_0 : decode cX2_directionOf 0 = .ok (.aload_n 0, 1) := by decide +kernel
theorem dX2_directionOf_1 : decode cX2_directionOf 1 = .ok (.iload_n 1, 1) := by decide +kernel
theorem dX2_directionOf_2 : decode cX2_directionOf 2 = .ok (.invokevirtual 22, 3) := by decide +kernel
theorem dX2_directionOf_5 : decode cX2_directionOf 5 = .ok (.ifCond .eq 12, 3) := by decide +kernel
theorem dX2_directionOf_8 : decode cX2_directionOf 8 = .ok (.aload_n 0, 1) := by decide +kernel
theorem dX2_directionOf_9 : decode cX2_directionOf 9 = .ok (.getfield 15, 3) := by decide +kernel
theorem dX2_directionOf_12 : decode cX2_directionOf 12 = .ok (.iload_n 1, 1) := by decide +kernel
theorem dX2_directionOf_13 : decode cX2_directionOf 13 = .ok (.iaload, 1) := by decide +kernel
theorem dX2_directionOf_14 : decode cX2_directionOf 14 = .ok (.goto 4, 3) := by decide +kernel
theorem dX2_directionOf_17 : decode cX2_directionOf 17 = .ok (.iconst (-1), 1) := by decide +kernel
theorem dX2_directionOf_18 : decode cX2_directionOf 18 = .ok (.ireturn, 1) := by decide +kernel
theorem dX3_init_0 : decode cX3_init 0 = .ok (.aload_n 0, 1) := by decide +kernel
theorem dX3_init_1 : decode cX3_init 1 = .ok (.invokespecial 3, 3) := by decide +kernel
theorem dX3_init_4 : decode cX3_init 4 = .ok (.aload_n 0, 1) := by decide +kernel
theorem dX3_init_5 : decode cX3_init 5 = .ok (.iconst 5, 1) := by decide +kernel
theorem dX3_init_6 : decode cX3_init 6 = .ok (.newarray .int, 2) := by decide +kernel
theorem dX3_init_8 : decode cX3_init 8 = .ok (.putfield 9, 3) := by decide +kernel
theorem dX3_init_11 : decode cX3_init 11 = .ok (.aload_n 0, 1) := by decide +kernel
theorem dX3_init_12 : decode cX3_init 12 = .ok (.iconst 0, 1) := by decide +kernel
theorem dX3_init_13 : decode cX3_init 13 = .ok (.putfield 15, 3) := by decide +kernel
theorem dX3_init_16 : decode cX3_init 16 = .ok (.return_, 1) := by decide +kernel
theorem dX3_isNumber_0 : decode cX3_isNumber 0 = .ok (.iload_n 1, 1) := by decide +kernel
theorem dX3_isNumber_1 : decode cX3_isNumber 1 = .ok (.ifCond .lt 20, 3) := by decide +kernel
theorem dX3_isNumber_4 : decode cX3_isNumber 4 = .ok (.iload_n 1, 1) := by decide +kernel
theorem dX3_isNumber_5 : decode cX3_isNumber 5 = .ok (.aload_n 0, 1) := by decide +kernel
theorem dX3_isNumber_6 : decode cX3_isNumber 6 = .ok (.getfield 15, 3) := by decide +kernel
theorem dX3_isNumber_9 : decode cX3_isNumber 9 = .ok (.if_icmp .ge 12, 3) := by decide +kernel
theorem dX3_isNumber_12 : decode cX3_isNumber 12 = .ok (.iload_n 1, 1) := by decide +kernel
theorem dX3_isNumber_13 : decode cX3_isNumber 13 = .ok (.iconst 5, 1) := by decide +kernel
theorem dX3_isNumber_14 : decode cX3_isNumber 14 = .ok (.if_icmp .ge 7, 3) := by decide +kernel
theorem dX3_isNumber_17 : decode cX3_isNumber 17 = .ok (.iconst 1, 1) := by decide +kernel
theorem dX3_isNumber_18 : decode cX3_isNumber 18 = .ok (.goto 4, 3) := by decide +kernel
theorem dX3_isNumber_21 : decode cX3_isNumber 21 = .ok (.iconst 0, 1) := by decide +kernel
theorem dX3_isNumber_22 : decode cX3_isNumber 22 = .ok (.ireturn, 1) := by decide +kernel
theorem dX3_add_0 : decode cX3_add 0 = .ok (.aload_n 0, 1) := by decide +kernel
theorem dX3_add_1 : decode cX3_add 1 = .ok (.getfield 15, 3) := by decide +kernel
theorem dX3_add_4 : decode cX3_add 4 = .ok (.istore_n 2, 1) := by decide +kernel
theorem dX3_add_5 : decode cX3_add 5 = .ok (.iload_n 2, 1) := by decide +kernel
theorem dX3_add_6 : decode cX3_add 6 = .ok (.ifCond .lt 25, 3) := by decide +kernel
theorem dX3_add_9 : decode cX3_add 9 = .ok (.iload_n 2, 1) := by decide +kernel
theorem dX3_add_10 : decode cX3_add 10 = .ok (.iconst 5, 1) := by decide +kernel
theorem dX3_add_11 : decode cX3_add 11 = .ok (.if_icmp .ge 20, 3) := by decide +kernel
theorem dX3_add_14 : decode cX3_add 14 = .ok (.aload_n 0, 1) := by decide +kernel
theorem dX3_add_15 : decode cX3_add 15 = .ok (.getfield 9, 3) := by decide +kernel
theorem dX3_add_18 : decode cX3_add 18 = .ok (.iload_n 2, 1) := by decide +kernel
theorem dX3_add_19 : decode cX3_add 19 = .ok (.iload_n 1, 1) := by decide +kernel
theorem dX3_add_20 : decode cX3_add 20 = .ok (.iastore, 1) := by decide +kernel
theorem dX3_add_21 : decode cX3_add 21 = .ok (.aload_n 0, 1) := by decide +kernel
theorem dX3_add_22 : decode cX3_add 22 = .ok (.dup, 1) := by decide +kernel
theorem dX3_add_23 : decode cX3_add 23 = .ok (.getfield 15, 3) := by decide +kernel
theorem dX3_add_26 : decode cX3_add 26 = .ok (.iconst 1, 1) := by decide +kernel
theorem dX3_add_27 : decode cX3_add 27 = .ok (.iadd, 1) := by decide +kernel
theorem dX3_add_28 : decode cX3_add 28 = .ok (.putfield 15, 3) := by decide +kernel
theorem dX3_add_31 : decode cX3_add 31 = .ok (.iload_n 2, 1) := by decide +kernel
theorem dX3_add_32 : decode cX3_add 32 = .ok (.ireturn, 1) := by decide +kernel
set_option maxRecDepth 20000 in
theorem ggX3_gateOf_X3_isNumber : GoodIn wsX3_gateOf wsX3_isNumber := goodIn_r _ [6, 7, 8, 9] (by decide +kernel) (by decide +kernel)
set_option maxRecDepth 20000 in
theorem gX3_gateOf_X3_isNumber : GoodIn wsX3_gateOf (wsV RX3 19 RX3 yX3_isNumber wsX3_isNumber) := goodIn_app (goodIn_of _ (by decide +kernel)) ggX3_gateOf_X3_isNumber
theorem dX3_gateOf_0 : decode cX3_gateOf 0 = .ok (.aload_n 0, 1) := by decide +kernel
theorem dX3_gateOf_1 : decode cX3_gateOf 1 = .ok (.iload_n 1, 1) := by decide +kernel
theorem dX3_gateOf_2 : decode cX3_gateOf 2 = .ok (.invokevirtual 19, 3) := by decide +kernel
theorem dX3_gateOf_5 : decode cX3_gateOf 5 = .ok (.ifCond .eq 12, 3) := by decide +kernel
theorem dX3_gateOf_8 : decode cX3_gateOf 8 = .ok (.aload_n 0, 1) := by decide +kernel
theorem dX3_gateOf_9 : decode cX3_gateOf 9 = .ok (.getfield 9, 3) := by decide +kernel
theorem dX3_gateOf_12 : decode cX3_gateOf 12 = .ok (.iload_n 1, 1) := by decide +kernel
theorem dX3_gateOf_13 : decode cX3_gateOf 13 = .ok (.iaload, 1) := by decide +kernel
theorem dX3_gateOf_14 : decode cX3_gateOf 14 = .ok (.goto 4, 3) := by decide +kernel
theorem dX3_gateOf_17 : decode cX3_gateOf 17 = .ok (.iconst (-1), 1) := by decide +kernel
theorem dX3_gateOf_18 : decode cX3_gateOf 18 = .ok (.ireturn, 1) := by decide +kernel
set_option maxRecDepth 20000 in
theorem ggX3_setGate_X3_isNumber : GoodIn wsX3_setGate wsX3_isNumber := goodIn_r _ [6, 7, 8, 9] (by decide +kernel) (by decide +kernel)
set_option maxRecDepth 20000 in
theorem gX3_setGate_X3_isNumber : GoodIn wsX3_setGate (wsV RX3 19 RX3 yX3_isNumber wsX3_isNumber) := goodIn_app (goodIn_of _ (by decide +kernel)) ggX3_setGate_X3_isNumber
theorem dX3_setGate_0 : decode cX3_setGate 0 = .ok (.aload_n 0, 1) := by decide +kernel
theorem dX3_setGate_1 : decode cX3_setGate 1 = .ok (.iload_n 1, 1) := by decide +kernel
theorem dX3_setGate_2 : decode cX3_setGate 2 = .ok (.invokevirtual 19, 3) := by decide +kernel
theorem dX3_setGate_5 : decode cX3_setGate 5 = .ok (.ifCond .eq 10, 3) := by decide +kernel
theorem dX3_setGate_8 : decode cX3_setGate 8 = .ok (.aload_n 0, 1) := by decide +kernel
theorem dX3_setGate_9 : decode cX3_setGate 9 = .ok (.getfield 9, 3) := by decide +kernel
theorem dX3_setGate_12 : decode cX3_setGate 12 = .ok (.iload_n 1, 1) := by decide +kernel
theorem dX3_setGate_13 : decode cX3_setGate 13 = .ok (.iload_n 2, 1) := by decide +kernel
theorem dX3_setGate_14 : decode cX3_setGate 14 = .ok (.iastore, 1) := by decide +kernel
theorem dX3_setGate_15 : decode cX3_setGate 15 = .ok (.return_, 1) := by decide +kernel
set_option maxRecDepth 20000 in
theorem ggX3_manyAt_X3_gateOf : GoodIn wsX3_manyAt wsX3_gateOf := goodIn_r _ [6, 7, 8, 9, 10, 5, 11, 1, 12, 13] (by decide +kernel) (by decide +kernel)
set_option maxRecDepth 20000 in
theorem gX3_manyAt_X3_gateOf : GoodIn wsX3_manyAt (wsV RX3 23 RX3 yX3_gateOf wsX3_gateOf) := goodIn_app (goodIn_of _ (by decide +kernel)) ggX3_manyAt_X3_gateOf
theorem dX3_manyAt_0 : decode cX3_manyAt 0 = .ok (.iconst 0, 1) := by decide +kernel
theorem dX3_manyAt_1 : decode cX3_manyAt 1 = .ok (.istore_n 2, 1) := by decide +kernel
theorem dX3_manyAt_2 : decode cX3_manyAt 2 = .ok (.iconst 0, 1) := by decide +kernel
theorem dX3_manyAt_3 : decode cX3_manyAt 3 = .ok (.istore_n 3, 1) := by decide +kernel
theorem dX3_manyAt_4 : decode cX3_manyAt 4 = .ok (.iload_n 3, 1) := by decide +kernel
theorem dX3_manyAt_5 : decode cX3_manyAt 5 = .ok (.aload_n 0, 1) := by decide +kernel
theorem dX3_manyAt_6 : decode cX3_manyAt 6 = .ok (.getfield 15, 3) := by decide +kernel
theorem dX3_manyAt_9 : decode cX3_manyAt 9 = .ok (.if_icmp .ge 21, 3) := by decide +kernel
theorem dX3_manyAt_12 : decode cX3_manyAt 12 = .ok (.aload_n 0, 1) := by decide +kernel
theorem dX3_manyAt_13 : decode cX3_manyAt 13 = .ok (.iload_n 3, 1) := by decide +kernel
theorem dX3_manyAt_14 : decode cX3_manyAt 14 = .ok (.invokevirtual 23, 3) := by decide +kernel
theorem dX3_manyAt_17 : decode cX3_manyAt 17 = .ok (.iload_n 1, 1) := by decide +kernel
theorem dX3_manyAt_18 : decode cX3_manyAt 18 = .ok (.if_icmp .ne 6, 3) := by decide +kernel
theorem dX3_manyAt_21 : decode cX3_manyAt 21 = .ok (.iinc 2 1, 3) := by decide +kernel
theorem dX3_manyAt_24 : decode cX3_manyAt 24 = .ok (.iinc 3 1, 3) := by decide +kernel
theorem dX3_manyAt_27 : decode cX3_manyAt 27 = .ok (.goto (-23), 3) := by decide +kernel
theorem dX3_manyAt_30 : decode cX3_manyAt 30 = .ok (.iload_n 2, 1) := by decide +kernel
theorem dX3_manyAt_31 : decode cX3_manyAt 31 = .ok (.ireturn, 1) := by decide +kernel
theorem dX4_init_0 : decode cX4_init 0 = .ok (.aload_n 0, 1) := by decide +kernel
theorem dX4_init_1 : decode cX4_init 1 = .ok (.invokespecial 3, 3) := by decide +kernel
theorem dX4_init_4 : decode cX4_init 4 = .ok (.aload_n 0, 1) := by decide +kernel
theorem dX4_init_5 : decode cX4_init 5 = .ok (.bipush 30, 2) := by decide +kernel
theorem dX4_init_7 : decode cX4_init 7 = .ok (.newarray .int, 2) := by decide +kernel
theorem dX4_init_9 : decode cX4_init 9 = .ok (.putfield 9, 3) := by decide +kernel
theorem dX4_init_12 : decode cX4_init 12 = .ok (.aload_n 0, 1) := by decide +kernel
theorem dX4_init_13 : decode cX4_init 13 = .ok (.bipush 30, 2) := by decide +kernel
theorem dX4_init_15 : decode cX4_init 15 = .ok (.newarray .boolean, 2) := by decide +kernel
theorem dX4_init_17 : decode cX4_init 17 = .ok (.putfield 15, 3) := by decide +kernel
theorem dX4_init_20 : decode cX4_init 20 = .ok (.aload_n 0, 1) := by decide +kernel
theorem dX4_init_21 : decode cX4_init 21 = .ok (.iconst 0, 1) := by decide +kernel
theorem dX4_init_22 : decode cX4_init 22 = .ok (.putfield 19, 3) := by decide +kernel
theorem dX4_init_25 : decode cX4_init 25 = .ok (.return_, 1) := by decide +kernel
theorem dX4_isNumber_0 : decode cX4_isNumber 0 = .ok (.iload_n 1, 1) := by decide +kernel
theorem dX4_isNumber_1 : decode cX4_isNumber 1 = .ok (.ifCond .lt 21, 3) := by decide +kernel
theorem dX4_isNumber_4 : decode cX4_isNumber 4 = .ok (.iload_n 1, 1) := by decide +kernel
theorem dX4_isNumber_5 : decode cX4_isNumber 5 = .ok (.aload_n 0, 1) := by decide +kernel
theorem dX4_isNumber_6 : decode cX4_isNumber 6 = .ok (.getfield 19, 3) := by decide +kernel
theorem dX4_isNumber_9 : decode cX4_isNumber 9 = .ok (.if_icmp .ge 13, 3) := by decide +kernel
theorem dX4_isNumber_12 : decode cX4_isNumber 12 = .ok (.iload_n 1, 1) := by decide +kernel
theorem dX4_isNumber_13 : decode cX4_isNumber 13 = .ok (.bipush 30, 2) := by decide +kernel
theorem dX4_isNumber_15 : decode cX4_isNumber 15 = .ok (.if_icmp .ge 7, 3) := by decide +kernel
theorem dX4_isNumber_18 : decode cX4_isNumber 18 = .ok (.iconst 1, 1) := by decide +kernel
theorem dX4_isNumber_19 : decode cX4_isNumber 19 = .ok (.goto 4, 3) := by decide +kernel
theorem dX4_isNumber_22 : decode cX4_isNumber 22 = .ok (.iconst 0, 1) := by decide +kernel
theorem dX4_isNumber_23 : decode cX4_isNumber 23 = .ok (.ireturn, 1) := by decide +kernel
theorem dX4_add_0 : decode cX4_add 0 = .ok (.aload_n 0, 1) := by decide +kernel
theorem dX4_add_1 : decode cX4_add 1 = .ok (.getfield 19, 3) := by decide +kernel
theorem dX4_add_4 : decode cX4_add 4 = .ok (.istore_n 2, 1) := by decide +kernel
theorem dX4_add_5 : decode cX4_add 5 = .ok (.iload_n 2, 1) := by decide +kernel
theorem dX4_add_6 : decode cX4_add 6 = .ok (.ifCond .lt 33, 3) := by decide +kernel
theorem dX4_add_9 : decode cX4_add 9 = .ok (.iload_n 2, 1) := by decide +kernel
theorem dX4_add_10 : decode cX4_add 10 = .ok (.bipush 30, 2) := by decide +kernel
theorem dX4_add_12 : decode cX4_add 12 = .ok (.if_icmp .ge 27, 3) := by decide +kernel
theorem dX4_add_15 : decode cX4_add 15 = .ok (.aload_n 0, 1) := by decide +kernel
theorem dX4_add_16 : decode cX4_add 16 = .ok (.getfield 9, 3) := by decide +kernel
theorem dX4_add_19 : decode cX4_add 19 = .ok (.iload_n 2, 1) := by decide +kernel
theorem dX4_add_20 : decode cX4_add 20 = .ok (.iload_n 1, 1) := by decide +kernel
theorem dX4_add_21 : decode cX4_add 21 = .ok (.iastore, 1) := by decide +kernel
theorem dX4_add_22 : decode cX4_add 22 = .ok (.aload_n 0, 1) := by decide +kernel
theorem dX4_add_23 : decode cX4_add 23 = .ok (.getfield 15, 3) := by decide +kernel
theorem dX4_add_26 : decode cX4_add 26 = .ok (.iload_n 2, 1) := by decide +kernel
theorem dX4_add_27 : decode cX4_add 27 = .ok (.iconst 0, 1) := by decide +kernel
theorem dX4_add_28 : decode cX4_add 28 = .ok (.bastore, 1) := by decide +kernel
theorem dX4_add_29 : decode cX4_add 29 = .ok (.aload_n 0, 1) := by decide +kernel
theorem dX4_add_30 : decode cX4_add 30 = .ok (.dup, 1) := by decide +kernel
theorem dX4_add_31 : decode cX4_add 31 = .ok (.getfield 19, 3) := by decide +kernel
theorem dX4_add_34 : decode cX4_add 34 = .ok (.iconst 1, 1) := by decide +kernel
theorem dX4_add_35 : decode cX4_add 35 = .ok (.iadd, 1) := by decide +kernel
theorem dX4_add_36 : decode cX4_add 36 = .ok (.putfield 19, 3) := by decide +kernel
theorem dX4_add_39 : decode cX4_add 39 = .ok (.iload_n 2, 1) := by decide +kernel
theorem dX4_add_40 : decode cX4_add 40 = .ok (.ireturn, 1) := by decide +kernel
set_option maxRecDepth 20000 in
theorem ggX4_takeOut_X4_isNumber : GoodIn wsX4_takeOut wsX4_isNumber := goodIn_r _ [6, 7, 8, 9, 10] (by decide +kernel) (by decide +kernel)
set_option maxRecDepth 20000 in
theorem gX4_takeOut_X4_isNumber : GoodIn wsX4_takeOut (wsV RX4 23 RX4 yX4_isNumber wsX4_isNumber) := goodIn_app (goodIn_of _ (by decide +kernel)) ggX4_takeOut_X4_isNumber
theorem dX4_takeOut_0 : decode cX4_takeOut 0 = .ok (.aload_n 0, 1) := by decide +kernel
theorem dX4_takeOut_1 : decode cX4_takeOut 1 = .ok (.iload_n 1, 1) := by decide +kernel
theorem dX4_takeOut_2 : decode cX4_takeOut 2 = .ok (.invokevirtual 23, 3) := by decide +kernel
theorem dX4_takeOut_5 : decode cX4_takeOut 5 = .ok (.ifCond .eq 10, 3) := by decide +kernel
theorem dX4_takeOut_8 : decode cX4_takeOut 8 = .ok (.aload_n 0, 1) := by decide +kernel
theorem dX4_takeOut_9 : decode cX4_takeOut 9 = .ok (.getfield 15, 3) := by decide +kernel
theorem dX4_takeOut_12 : decode cX4_takeOut 12 = .ok (.iload_n 1, 1) := by decide +kernel
theorem dX4_takeOut_13 : decode cX4_takeOut 13 = .ok (.iconst 1, 1) := by decide +kernel
theorem dX4_takeOut_14 : decode cX4_takeOut 14 = .ok (.bastore, 1) := by decide +kernel
theorem dX4_takeOut_15 : decode cX4_takeOut 15 = .ok (.return_, 1) := by decide +kernel
set_option maxRecDepth 20000 in
theorem ggX4_isHere_X4_isNumber : GoodIn wsX4_isHere wsX4_isNumber := goodIn_r _ [6, 7, 8, 9, 10] (by decide +kernel) (by decide +kernel)
set_option maxRecDepth 20000 in
theorem gX4_isHere_X4_isNumber : GoodIn wsX4_isHere (wsV RX4 23 RX4 yX4_isNumber wsX4_isNumber) := goodIn_app (goodIn_of _ (by decide +kernel)) ggX4_isHere_X4_isNumber
theorem dX4_isHere_0 : decode cX4_isHere 0 = .ok (.aload_n 0, 1) := by decide +kernel
theorem dX4_isHere_1 : decode cX4_isHere 1 = .ok (.iload_n 1, 1) := by decide +kernel
theorem dX4_isHere_2 : decode cX4_isHere 2 = .ok (.invokevirtual 23, 3) := by decide +kernel
theorem dX4_isHere_5 : decode cX4_isHere 5 = .ok (.ifCond .eq 16, 3) := by decide +kernel
theorem dX4_isHere_8 : decode cX4_isHere 8 = .ok (.aload_n 0, 1) := by decide +kernel
theorem dX4_isHere_9 : decode cX4_isHere 9 = .ok (.getfield 15, 3) := by decide +kernel
theorem dX4_isHere_12 : decode cX4_isHere 12 = .ok (.iload_n 1, 1) := by decide +kernel
theorem dX4_isHere_13 : decode cX4_isHere 13 = .ok (.baload, 1) := by decide +kernel
theorem dX4_isHere_14 : decode cX4_isHere 14 = .ok (.ifCond .ne 7, 3) := by decide +kernel
theorem dX4_isHere_17 : decode cX4_isHere 17 = .ok (.iconst 1, 1) := by decide +kernel
theorem dX4_isHere_18 : decode cX4_isHere 18 = .ok (.goto 4, 3) := by decide +kernel
theorem dX4_isHere_21 : decode cX4_isHere 21 = .ok (.iconst 0, 1) := by decide +kernel
theorem dX4_isHere_22 : decode cX4_isHere 22 = .ok (.ireturn, 1) := by decide +kernel
set_option maxRecDepth 20000 in
theorem ggX4_placeOf_X4_isNumber : GoodIn wsX4_placeOf wsX4_isNumber := goodIn_r _ [6, 7, 8, 9, 10] (by decide +kernel) (by decide +kernel)
set_option maxRecDepth 20000 in
theorem gX4_placeOf_X4_isNumber : GoodIn wsX4_placeOf (wsV RX4 23 RX4 yX4_isNumber wsX4_isNumber) := goodIn_app (goodIn_of _ (by decide +kernel)) ggX4_placeOf_X4_isNumber
theorem dX4_placeOf_0 : decode cX4_placeOf 0 = .ok (.aload_n 0, 1) := by decide +kernel
theorem dX4_placeOf_1 : decode cX4_placeOf 1 = .ok (.iload_n 1, 1) := by decide +kernel
theorem dX4_placeOf_2 : decode cX4_placeOf 2 = .ok (.invokevirtual 23, 3) := by decide +kernel
theorem dX4_placeOf_5 : decode cX4_placeOf 5 = .ok (.ifCond .eq 12, 3) := by decide +kernel
theorem dX4_placeOf_8 : decode cX4_placeOf 8 = .ok (.aload_n 0, 1) := by decide +kernel
theorem dX4_placeOf_9 : decode cX4_placeOf 9 = .ok (.getfield 9, 3) := by decide +kernel
theorem dX4_placeOf_12 : decode cX4_placeOf 12 = .ok (.iload_n 1, 1) := by decide +kernel
theorem dX4_placeOf_13 : decode cX4_placeOf 13 = .ok (.iaload, 1) := by decide +kernel
theorem dX4_placeOf_14 : decode cX4_placeOf 14 = .ok (.goto 4, 3) := by decide +kernel
theorem dX4_placeOf_17 : decode cX4_placeOf 17 = .ok (.iconst (-1), 1) := by decide +kernel
theorem dX4_placeOf_18 : decode cX4_placeOf 18 = .ok (.ireturn, 1) := by decide +kernel
set_option maxRecDepth 20000 in
theorem ggX4_manyHere_X4_isHere : GoodIn wsX4_manyHere wsX4_isHere := goodIn_r _ [6, 7, 8, 9, 10, 5, 11, 1, 12, 13, 14] (by decide +kernel) (by decide +kernel)
set_option maxRecDepth 20000 in
theorem gX4_manyHere_X4_isHere : GoodIn wsX4_manyHere (wsV RX4 27 RX4 yX4_isHere wsX4_isHere) := goodIn_app (goodIn_of _ (by decide +kernel)) ggX4_manyHere_X4_isHere
theorem dX4_manyHere_0 : decode cX4_manyHere 0 = .ok (.iconst 0, 1) := by decide +kernel
theorem dX4_manyHere_1 : decode cX4_manyHere 1 = .ok (.istore_n 1, 1) := by decide +kernel
theorem dX4_manyHere_2 : decode cX4_manyHere 2 = .ok (.iconst 0, 1) := by decide +kernel
theorem dX4_manyHere_3 : decode cX4_manyHere 3 = .ok (.istore_n 2, 1) := by decide +kernel
theorem dX4_manyHere_4 : decode cX4_manyHere 4 = .ok (.iload_n 2, 1) := by decide +kernel
theorem dX4_manyHere_5 : decode cX4_manyHere 5 = .ok (.aload_n 0, 1) := by decide +kernel
theorem dX4_manyHere_6 : decode cX4_manyHere 6 = .ok (.getfield 19, 3) := by decide +kernel
theorem dX4_manyHere_9 : decode cX4_manyHere 9 = .ok (.if_icmp .ge 20, 3) := by decide +kernel
theorem dX4_manyHere_12 : decode cX4_manyHere 12 = .ok (.aload_n 0, 1) := by decide +kernel
theorem dX4_manyHere_13 : decode cX4_manyHere 13 = .ok (.iload_n 2, 1) := by decide +kernel
theorem dX4_manyHere_14 : decode cX4_manyHere 14 = .ok (.invokevirtual 27, 3) := by decide +kernel
theorem dX4_manyHere_17 : decode cX4_manyHere 17 = .ok (.ifCond .eq 6, 3) := by decide +kernel
theorem dX4_manyHere_20 : decode cX4_manyHere 20 = .ok (.iinc 1 1, 3) := by decide +kernel
theorem dX4_manyHere_23 : decode cX4_manyHere 23 = .ok (.iinc 2 1, 3) := by decide +kernel
theorem dX4_manyHere_26 : decode cX4_manyHere 26 = .ok (.goto (-22), 3) := by decide +kernel
theorem dX4_manyHere_29 : decode cX4_manyHere 29 = .ok (.iload_n 1, 1) := by decide +kernel
theorem dX4_manyHere_30 : decode cX4_manyHere 30 = .ok (.ireturn, 1) := by decide +kernel
set_option maxRecDepth 20000 in
theorem ggX4_sizesHere_X4_isHere : GoodIn wsX4_sizesHere wsX4_isHere := goodIn_r _ [6, 7, 8, 9, 10, 5, 11, 1, 18, 19, 20] (by decide +kernel) (by decide +kernel)
set_option maxRecDepth 20000 in
theorem gX4_sizesHere_X4_isHere : GoodIn wsX4_sizesHere (wsV RX4 27 RX4 yX4_isHere wsX4_isHere) := goodIn_app (goodIn_of _ (by decide +kernel)) ggX4_sizesHere_X4_isHere
set_option maxRecDepth 20000 in
theorem ggX4_sizesHere_X0_carpSize : GoodIn wsX4_sizesHere wsX0_carpSize := goodIn_r _ [16, 17, 21, 22, 23, 24] (by decide +kernel) (by decide +kernel)
set_option maxRecDepth 20000 in
theorem gX4_sizesHere_X0_carpSize : GoodIn wsX4_sizesHere (wsV RX4 30 RX0 yX0_carpSize wsX0_carpSize) := goodIn_app (goodIn_of _ (by decide +kernel)) ggX4_sizesHere_X0_carpSize
theorem dX4_sizesHere_0 : decode cX4_sizesHere 0 = .ok (.iconst 0, 1) := by decide +kernel
theorem dX4_sizesHere_1 : decode cX4_sizesHere 1 = .ok (.istore_n 2, 1) := by decide +kernel
theorem dX4_sizesHere_2 : decode cX4_sizesHere 2 = .ok (.iconst 0, 1) := by decide +kernel
theorem dX4_sizesHere_3 : decode cX4_sizesHere 3 = .ok (.istore_n 3, 1) := by decide +kernel
theorem dX4_sizesHere_4 : decode cX4_sizesHere 4 = .ok (.iload_n 3, 1) := by decide +kernel
theorem dX4_sizesHere_5 : decode cX4_sizesHere 5 = .ok (.aload_n 0, 1) := by decide +kernel
theorem dX4_sizesHere_6 : decode cX4_sizesHere 6 = .ok (.getfield 19, 3) := by decide +kernel
theorem dX4_sizesHere_9 : decode cX4_sizesHere 9 = .ok (.if_icmp .ge 25, 3) := by decide +kernel
theorem dX4_sizesHere_12 : decode cX4_sizesHere 12 = .ok (.aload_n 0, 1) := by decide +kernel
theorem dX4_sizesHere_13 : decode cX4_sizesHere 13 = .ok (.iload_n 3, 1) := by decide +kernel
theorem dX4_sizesHere_14 : decode cX4_sizesHere 14 = .ok (.invokevirtual 27, 3) := by decide +kernel
theorem dX4_sizesHere_17 : decode cX4_sizesHere 17 = .ok (.ifCond .eq 11, 3) := by decide +kernel
theorem dX4_sizesHere_20 : decode cX4_sizesHere 20 = .ok (.iload_n 2, 1) := by decide +kernel
theorem dX4_sizesHere_21 : decode cX4_sizesHere 21 = .ok (.aload_n 1, 1) := by decide +kernel
theorem dX4_sizesHere_22 : decode cX4_sizesHere 22 = .ok (.iload_n 3, 1) := by decide +kernel
theorem dX4_sizesHere_23 : decode cX4_sizesHere 23 = .ok (.invokevirtual 30, 3) := by decide +kernel
theorem dX4_sizesHere_26 : decode cX4_sizesHere 26 = .ok (.iadd, 1) := by decide +kernel
theorem dX4_sizesHere_27 : decode cX4_sizesHere 27 = .ok (.istore_n 2, 1) := by decide +kernel
theorem dX4_sizesHere_28 : decode cX4_sizesHere 28 = .ok (.iinc 3 1, 3) := by decide +kernel
theorem dX4_sizesHere_31 : decode cX4_sizesHere 31 = .ok (.goto (-27), 3) := by decide +kernel
theorem dX4_sizesHere_34 : decode cX4_sizesHere 34 = .ok (.iload_n 2, 1) := by decide +kernel
theorem dX4_sizesHere_35 : decode cX4_sizesHere 35 = .ok (.ireturn, 1) := by decide +kernel
set_option maxRecDepth 20000 in
theorem ggX4_sizesIn_X0_carpSize : GoodIn wsX4_sizesIn wsX0_carpSize := goodIn_r _ [8, 9, 13, 14, 15, 16] (by decide +kernel) (by decide +kernel)
set_option maxRecDepth 20000 in
theorem gX4_sizesIn_X0_carpSize : GoodIn wsX4_sizesIn (wsV RX4 30 RX0 yX0_carpSize wsX0_carpSize) := goodIn_app (goodIn_of _ (by decide +kernel)) ggX4_sizesIn_X0_carpSize
theorem dX4_sizesIn_0 : decode cX4_sizesIn 0 = .ok (.iconst 0, 1) := by decide +kernel
theorem dX4_sizesIn_1 : decode cX4_sizesIn 1 = .ok (.istore_n 3, 1) := by decide +kernel
theorem dX4_sizesIn_2 : decode cX4_sizesIn 2 = .ok (.iconst 0, 1) := by decide +kernel
theorem dX4_sizesIn_3 : decode cX4_sizesIn 3 = .ok (.istore 4, 2) := by decide +kernel
theorem dX4_sizesIn_5 : decode cX4_sizesIn 5 = .ok (.iload 4, 2) := by decide +kernel
theorem dX4_sizesIn_7 : decode cX4_sizesIn 7 = .ok (.aload_n 0, 1) := by decide +kernel
theorem dX4_sizesIn_8 : decode cX4_sizesIn 8 = .ok (.getfield 19, 3) := by decide +kernel
theorem dX4_sizesIn_11 : decode cX4_sizesIn 11 = .ok (.if_icmp .ge 46, 3) := by decide +kernel
theorem dX4_sizesIn_14 : decode cX4_sizesIn 14 = .ok (.iload 4, 2) := by decide +kernel
theorem dX4_sizesIn_16 : decode cX4_sizesIn 16 = .ok (.bipush 30, 2) := by decide +kernel
theorem dX4_sizesIn_18 : decode cX4_sizesIn 18 = .ok (.if_icmp .ge 39, 3) := by decide +kernel
theorem dX4_sizesIn_21 : decode cX4_sizesIn 21 = .ok (.aload_n 0, 1) := by decide +kernel
theorem dX4_sizesIn_22 : decode cX4_sizesIn 22 = .ok (.getfield 9, 3) := by decide +kernel
theorem dX4_sizesIn_25 : decode cX4_sizesIn 25 = .ok (.iload 4, 2) := by decide +kernel
theorem dX4_sizesIn_27 : decode cX4_sizesIn 27 = .ok (.iaload, 1) := by decide +kernel
theorem dX4_sizesIn_28 : decode cX4_sizesIn 28 = .ok (.iload_n 1, 1) := by decide +kernel
theorem dX4_sizesIn_29 : decode cX4_sizesIn 29 = .ok (.if_icmp .ne 22, 3) := by decide +kernel
theorem dX4_sizesIn_32 : decode cX4_sizesIn 32 = .ok (.aload_n 0, 1) := by decide +kernel
theorem dX4_sizesIn_33 : decode cX4_sizesIn 33 = .ok (.getfield 15, 3) := by decide +kernel
theorem dX4_sizesIn_36 : decode cX4_sizesIn 36 = .ok (.iload 4, 2) := by decide +kernel
theorem dX4_sizesIn_38 : decode cX4_sizesIn 38 = .ok (.baload, 1) := by decide +kernel
theorem dX4_sizesIn_39 : decode cX4_sizesIn 39 = .ok (.ifCond .ne 12, 3) := by decide +kernel
theorem dX4_sizesIn_42 : decode cX4_sizesIn 42 = .ok (.iload_n 3, 1) := by decide +kernel
theorem dX4_sizesIn_43 : decode cX4_sizesIn 43 = .ok (.aload_n 2, 1) := by decide +kernel
theorem dX4_sizesIn_44 : decode cX4_sizesIn 44 = .ok (.iload 4, 2) := by decide +kernel
theorem dX4_sizesIn_46 : decode cX4_sizesIn 46 = .ok (.invokevirtual 30, 3) := by decide +kernel
theorem dX4_sizesIn_49 : decode cX4_sizesIn 49 = .ok (.iadd, 1) := by decide +kernel
theorem dX4_sizesIn_50 : decode cX4_sizesIn 50 = .ok (.istore_n 3, 1) := by decide +kernel
theorem dX4_sizesIn_51 : decode cX4_sizesIn 51 = .ok (.iinc 4 1, 3) := by decide +kernel
theorem dX4_sizesIn_54 : decode cX4_sizesIn 54 = .ok (.goto (-49), 3) := by decide +kernel
theorem dX4_sizesIn_57 : decode cX4_sizesIn 57 = .ok (.iload_n 3, 1) := by decide +kernel
theorem dX4_sizesIn_58 : decode cX4_sizesIn 58 = .ok (.ireturn, 1) := by decide +kernel
theorem dX5_init_0 : decode cX5_init 0 = .ok (.aload_n 0, 1) := by decide +kernel
theorem dX5_init_1 : decode cX5_init 1 = .ok (.invokespecial 1, 3) := by decide +kernel
theorem dX5_init_4 : decode cX5_init 4 = .ok (.return_, 1) := by decide +kernel
theorem dX5_begin_0 : decode cX5_begin 0 = .ok (.aload_n 0, 1) := by decide +kernel
theorem dX5_begin_1 : decode cX5_begin 1 = .ok (.iconst 0, 1) := by decide +kernel
theorem dX5_begin_2 : decode cX5_begin 2 = .ok (.putfield 7, 3) := by decide +kernel
theorem dX5_begin_5 : decode cX5_begin 5 = .ok (.aload_n 0, 1) := by decide +kernel
theorem dX5_begin_6 : decode cX5_begin 6 = .ok (.iconst 0, 1) := by decide +kernel
theorem dX5_begin_7 : decode cX5_begin 7 = .ok (.putfield 13, 3) := by decide +kernel
theorem dX5_begin_10 : decode cX5_begin 10 = .ok (.aload_n 0, 1) := by decide +kernel
theorem dX5_begin_11 : decode cX5_begin 11 = .ok (.iconst 0, 1) := by decide +kernel
theorem dX5_begin_12 : decode cX5_begin 12 = .ok (.putfield 16, 3) := by decide +kernel
theorem dX5_begin_15 : decode cX5_begin 15 = .ok (.aload_n 0, 1) := by decide +kernel
theorem dX5_begin_16 : decode cX5_begin 16 = .ok (.iconst 0, 1) := by decide +kernel
theorem dX5_begin_17 : decode cX5_begin 17 = .ok (.putfield 19, 3) := by decide +kernel
theorem dX5_begin_20 : decode cX5_begin 20 = .ok (.aload_n 0, 1) := by decide +kernel
theorem dX5_begin_21 : decode cX5_begin 21 = .ok (.iconst 0, 1) := by decide +kernel
theorem dX5_begin_22 : decode cX5_begin 22 = .ok (.putfield 22, 3) := by decide +kernel
theorem dX5_begin_25 : decode cX5_begin 25 = .ok (.return_, 1) := by decide +kernel
theorem dX5_addRock_0 : decode cX5_addRock 0 = .ok (.iconst 1, 1) := by decide +kernel
theorem dX5_addRock_1 : decode cX5_addRock 1 = .ok (.iload_n 1, 1) := by decide +kernel
theorem dX5_addRock_2 : decode cX5_addRock 2 = .ok (.ishl, 1) := by decide +kernel
theorem dX5_addRock_3 : decode cX5_addRock 3 = .ok (.istore_n 3, 1) := by decide +kernel
theorem dX5_addRock_4 : decode cX5_addRock 4 = .ok (.aload_n 0, 1) := by decide +kernel
theorem dX5_addRock_5 : decode cX5_addRock 5 = .ok (.dup, 1) := by decide +kernel
theorem dX5_addRock_6 : decode cX5_addRock 6 = .ok (.getfield 13, 3) := by decide +kernel
theorem dX5_addRock_9 : decode cX5_addRock 9 = .ok (.iconst 1, 1) := by decide +kernel
theorem dX5_addRock_10 : decode cX5_addRock 10 = .ok (.iadd, 1) := by decide +kernel
theorem dX5_addRock_11 : decode cX5_addRock 11 = .ok (.putfield 13, 3) := by decide +kernel
theorem dX5_addRock_14 : decode cX5_addRock 14 = .ok (.aload_n 0, 1) := by decide +kernel
theorem dX5_addRock_15 : decode cX5_addRock 15 = .ok (.dup, 1) := by decide +kernel
theorem dX5_addRock_16 : decode cX5_addRock 16 = .ok (.getfield 19, 3) := by decide +kernel
theorem dX5_addRock_19 : decode cX5_addRock 19 = .ok (.iload_n 2, 1) := by decide +kernel
theorem dX5_addRock_20 : decode cX5_addRock 20 = .ok (.iadd, 1) := by decide +kernel
theorem dX5_addRock_21 : decode cX5_addRock 21 = .ok (.putfield 19, 3) := by decide +kernel
theorem dX5_addRock_24 : decode cX5_addRock 24 = .ok (.aload_n 0, 1) := by decide +kernel
theorem dX5_addRock_25 : decode cX5_addRock 25 = .ok (.getfield 22, 3) := by decide +kernel
theorem dX5_addRock_28 : decode cX5_addRock 28 = .ok (.iload_n 3, 1) := by decide +kernel
theorem dX5_addRock_29 : decode cX5_addRock 29 = .ok (.iand, 1) := by decide +kernel
theorem dX5_addRock_30 : decode cX5_addRock 30 = .ok (.ifCond .ne 13, 3) := by decide +kernel
theorem dX5_addRock_33 : decode cX5_addRock 33 = .ok (.aload_n 0, 1) := by decide +kernel
theorem dX5_addRock_34 : decode cX5_addRock 34 = .ok (.dup, 1) := by decide +kernel
theorem dX5_addRock_35 : decode cX5_addRock 35 = .ok (.getfield 19, 3) := by decide +kernel
theorem dX5_addRock_38 : decode cX5_addRock 38 = .ok (.iconst 4, 1) := by decide +kernel
theorem dX5_addRock_39 : decode cX5_addRock 39 = .ok (.iadd, 1) := by decide +kernel
theorem dX5_addRock_40 : decode cX5_addRock 40 = .ok (.putfield 19, 3) := by decide +kernel
theorem dX5_addRock_43 : decode cX5_addRock 43 = .ok (.aload_n 0, 1) := by decide +kernel
theorem dX5_addRock_44 : decode cX5_addRock 44 = .ok (.dup, 1) := by decide +kernel
theorem dX5_addRock_45 : decode cX5_addRock 45 = .ok (.getfield 22, 3) := by decide +kernel
theorem dX5_addRock_48 : decode cX5_addRock 48 = .ok (.iload_n 3, 1) := by decide +kernel
theorem dX5_addRock_49 : decode cX5_addRock 49 = .ok (.ior, 1) := by decide +kernel
theorem dX5_addRock_50 : decode cX5_addRock 50 = .ok (.putfield 22, 3) := by decide +kernel
theorem dX5_addRock_53 : decode cX5_addRock 53 = .ok (.return_, 1) := by decide +kernel
theorem dX5_addPondCell_0 : decode cX5_addPondCell 0 = .ok (.aload_n 0, 1) := by decide +kernel
theorem dX5_addPondCell_1 : decode cX5_addPondCell 1 = .ok (.dup, 1) := by decide +kernel
theorem dX5_addPondCell_2 : decode cX5_addPondCell 2 = .ok (.getfield 16, 3) := by decide +kernel
theorem dX5_addPondCell_5 : decode cX5_addPondCell 5 = .ok (.iconst 1, 1) := by decide +kernel
theorem dX5_addPondCell_6 : decode cX5_addPondCell 6 = .ok (.iadd, 1) := by decide +kernel
theorem dX5_addPondCell_7 : decode cX5_addPondCell 7 = .ok (.putfield 16, 3) := by decide +kernel
theorem dX5_addPondCell_10 : decode cX5_addPondCell 10 = .ok (.aload_n 0, 1) := by decide +kernel
theorem dX5_addPondCell_11 : decode cX5_addPondCell 11 = .ok (.dup, 1) := by decide +kernel
theorem dX5_addPondCell_12 : decode cX5_addPondCell 12 = .ok (.getfield 19, 3) := by decide +kernel
theorem dX5_addPondCell_15 : decode cX5_addPondCell 15 = .ok (.iconst 3, 1) := by decide +kernel
theorem dX5_addPondCell_16 : decode cX5_addPondCell 16 = .ok (.iload_n 1, 1) := by decide +kernel
theorem dX5_addPondCell_17 : decode cX5_addPondCell 17 = .ok (.bipush 10, 2) := by decide +kernel
theorem dX5_addPondCell_19 : decode cX5_addPondCell 19 = .ok (.idiv, 1) := by decide +kernel
theorem dX5_addPondCell_20 : decode cX5_addPondCell 20 = .ok (.iadd, 1) := by decide +kernel
theorem dX5_addPondCell_21 : decode cX5_addPondCell 21 = .ok (.iadd, 1) := by decide +kernel
theorem dX5_addPondCell_22 : decode cX5_addPondCell 22 = .ok (.putfield 19, 3) := by decide +kernel
theorem dX5_addPondCell_25 : decode cX5_addPondCell 25 = .ok (.return_, 1) := by decide +kernel
theorem dJ9_abs_0f7a4_0 : decode cJ9_abs_0f7a4 0 = .ok (.iload_n 0, 1) := by decide +kernel
theorem dJ9_abs_0f7a4_1 : decode cJ9_abs_0f7a4 1 = .ok (.ifCond .ge 8, 3) := by decide +kernel
theorem dJ9_abs_0f7a4_4 : decode cJ9_abs_0f7a4 4 = .ok (.iload_n 0, 1) := by decide +kernel
theorem dJ9_abs_0f7a4_5 : decode cJ9_abs_0f7a4 5 = .ok (.ineg, 1) := by decide +kernel
theorem dJ9_abs_0f7a4_6 : decode cJ9_abs_0f7a4 6 = .ok (.goto 4, 3) := by decide +kernel
theorem dJ9_abs_0f7a4_9 : decode cJ9_abs_0f7a4 9 = .ok (.iload_n 0, 1) := by decide +kernel
theorem dJ9_abs_0f7a4_10 : decode cJ9_abs_0f7a4 10 = .ok (.ireturn, 1) := by decide +kernel
theorem dJ9_max_7cf53_0 : decode cJ9_max_7cf53 0 = .ok (.iload_n 0, 1) := by decide +kernel
theorem dJ9_max_7cf53_1 : decode cJ9_max_7cf53 1 = .ok (.iload_n 1, 1) := by decide +kernel
theorem dJ9_max_7cf53_2 : decode cJ9_max_7cf53 2 = .ok (.if_icmp .lt 7, 3) := by decide +kernel
theorem dJ9_max_7cf53_5 : decode cJ9_max_7cf53 5 = .ok (.iload_n 0, 1) := by decide +kernel
theorem dJ9_max_7cf53_6 : decode cJ9_max_7cf53 6 = .ok (.goto 4, 3) := by decide +kernel
theorem dJ9_max_7cf53_9 : decode cJ9_max_7cf53 9 = .ok (.iload_n 1, 1) := by decide +kernel
theorem dJ9_max_7cf53_10 : decode cJ9_max_7cf53 10 = .ok (.ireturn, 1) := by decide +kernel
theorem dJ9_min_7cf53_0 : decode cJ9_min_7cf53 0 = .ok (.iload_n 0, 1) := by decide +kernel
theorem dJ9_min_7cf53_1 : decode cJ9_min_7cf53 1 = .ok (.iload_n 1, 1) := by decide +kernel
theorem dJ9_min_7cf53_2 : decode cJ9_min_7cf53 2 = .ok (.if_icmp .gt 7, 3) := by decide +kernel
theorem dJ9_min_7cf53_5 : decode cJ9_min_7cf53 5 = .ok (.iload_n 0, 1) := by decide +kernel
theorem dJ9_min_7cf53_6 : decode cJ9_min_7cf53 6 = .ok (.goto 4, 3) := by decide +kernel
theorem dJ9_min_7cf53_9 : decode cJ9_min_7cf53 9 = .ok (.iload_n 1, 1) := by decide +kernel
theorem dJ9_min_7cf53_10 : decode cJ9_min_7cf53 10 = .ok (.ireturn, 1) := by decide +kernel
end
section
set_option maxRecDepth 20000 in
theorem ggX6_init_X1_init : GoodIn wsX6_init wsX1_init := goodIn_r _ [31, 32, 2, 3, 33, 34, 35, 36, 37, 38, 39, 40, 41, 42, 75, 76, 77, 78, 79, 80, 81, 82, 83] (by decide +kernel) (by decide +kernel)
set_option maxRecDepth 20000 in
theorem gX6_init_X1_init : GoodIn wsX6_init (wsX1_init) := ggX6_init_X1_init
set_option maxRecDepth 20000 in
theorem ggX6_init_X4_init : GoodIn wsX6_init wsX4_init := goodIn_r _ [45, 46, 2, 3, 33, 47, 48, 49, 50, 91, 92, 93] (by decide +kernel) (by decide +kernel)
set_option maxRecDepth 20000 in
theorem gX6_init_X4_init : GoodIn wsX6_init (wsX4_init) := ggX6_init_X4_init
set_option maxRecDepth 20000 in
theorem ggX6_init_X2_init : GoodIn wsX6_init wsX2_init := goodIn_r _ [53, 54, 2, 3, 33, 55, 56, 57, 94, 95, 96] (by decide +kernel) (by decide +kernel)
set_option maxRecDepth 20000 in
theorem gX6_init_X2_init : GoodIn wsX6_init (wsX2_init) := ggX6_init_X2_init
set_option maxRecDepth 20000 in
theorem ggX6_init_X3_init : GoodIn wsX6_init wsX3_init := goodIn_r _ [60, 61, 2, 3, 33, 62, 63, 97, 98] (by decide +kernel) (by decide +kernel)
set_option maxRecDepth 20000 in
theorem gX6_init_X3_init : GoodIn wsX6_init (wsX3_init) := ggX6_init_X3_init
set_option maxRecDepth 20000 in
theorem ggX6_init_X0_init : GoodIn wsX6_init wsX0_init := goodIn_r _ [66, 67, 2, 3, 68, 69, 33, 70, 71, 99, 100, 101, 102] (by decide +kernel) (by decide +kernel)
set_option maxRecDepth 20000 in
theorem gX6_init_X0_init : GoodIn wsX6_init (wsX0_init) := ggX6_init_X0_init
set_option maxRecDepth 20000 in
theorem ggX6_init_X5_init : GoodIn wsX6_init wsX5_init := goodIn_r _ [73, 74, 2, 3] (by decide +kernel) (by decide +kernel)
set_option maxRecDepth 20000 in
theorem gX6_init_X5_init_n49 : GoodIn wsX6_init (wsX5_init) := ggX6_init_X5_init
theorem dX6_init_0 : decode cX6_init 0 = .ok (.aload_n 0, 1) := by decide +kernel
theorem dX6_init_1 : decode cX6_init 1 = .ok (.invokespecial 1, 3) := by decide +kernel
theorem dX6_init_4 : decode cX6_init 4 = .ok (.aload_n 0, 1) := by decide +kernel
theorem dX6_init_5 : decode cX6_init 5 = .ok (.new 7, 3) := by decide +kernel
theorem dX6_init_8 : decode cX6_init 8 = .ok (.dup, 1) := by decide +kernel
theorem dX6_init_9 : decode cX6_init 9 = .ok (.invokespecial 9, 3) := by decide +kernel
theorem dX6_init_12 : decode cX6_init 12 = .ok (.putfield 10, 3) := by decide +kernel
theorem dX6_init_15 : decode cX6_init 15 = .ok (.aload_n 0, 1) := by decide +kernel
theorem dX6_init_16 : decode cX6_init 16 = .ok (.new 16, 3) := by decide +kernel
theorem dX6_init_19 : decode cX6_init 19 = .ok (.dup, 1) := by decide +kernel
theorem dX6_init_20 : decode cX6_init 20 = .ok (.invokespecial 18, 3) := by decide +kernel
theorem dX6_init_23 : decode cX6_init 23 = .ok (.putfield 19, 3) := by decide +kernel
theorem dX6_init_26 : decode cX6_init 26 = .ok (.aload_n 0, 1) := by decide +kernel
theorem dX6_init_27 : decode cX6_init 27 = .ok (.new 23, 3) := by decide +kernel
theorem dX6_init_30 : decode cX6_init 30 = .ok (.dup, 1) := by decide +kernel
theorem dX6_init_31 : decode cX6_init 31 = .ok (.invokespecial 25, 3) := by decide +kernel
theorem dX6_init_34 : decode cX6_init 34 = .ok (.putfield 26, 3) := by decide +kernel
theorem dX6_init_37 : decode cX6_init 37 = .ok (.aload_n 0, 1) := by decide +kernel
theorem dX6_init_38 : decode cX6_init 38 = .ok (.new 30, 3) := by decide +kernel
theorem dX6_init_41 : decode cX6_init 41 = .ok (.dup, 1) := by decide +kernel
theorem dX6_init_42 : decode cX6_init 42 = .ok (.invokespecial 32, 3) := by decide +kernel
theorem dX6_init_45 : decode cX6_init 45 = .ok (.putfield 33, 3) := by decide +kernel
theorem dX6_init_48 : decode cX6_init 48 = .ok (.aload_n 0, 1) := by decide +kernel
theorem dX6_init_49 : decode cX6_init 49 = .ok (.new 37, 3) := by decide +kernel
theorem dX6_init_52 : decode cX6_init 52 = .ok (.dup, 1) := by decide +kernel
theorem dX6_init_53 : decode cX6_init 53 = .ok (.invokespecial 39, 3) := by decide +kernel
theorem dX6_init_56 : decode cX6_init 56 = .ok (.putfield 40, 3) := by decide +kernel
theorem dX6_init_59 : decode cX6_init 59 = .ok (.aload_n 0, 1) := by decide +kernel
theorem dX6_init_60 : decode cX6_init 60 = .ok (.new 37, 3) := by decide +kernel
theorem dX6_init_63 : decode cX6_init 63 = .ok (.dup, 1) := by decide +kernel
theorem dX6_init_64 : decode cX6_init 64 = .ok (.invokespecial 39, 3) := by decide +kernel
theorem dX6_init_67 : decode cX6_init 67 = .ok (.putfield 44, 3) := by decide +kernel
theorem dX6_init_70 : decode cX6_init 70 = .ok (.aload_n 0, 1) := by decide +kernel
theorem dX6_init_71 : decode cX6_init 71 = .ok (.new 47, 3) := by decide +kernel
theorem dX6_init_74 : decode cX6_init 74 = .ok (.dup, 1) := by decide +kernel
theorem dX6_init_75 : decode cX6_init 75 = .ok (.invokespecial 49, 3) := by decide +kernel
theorem dX6_init_78 : decode cX6_init 78 = .ok (.putfield 50, 3) := by decide +kernel
theorem dX6_init_81 : decode cX6_init 81 = .ok (.return_, 1) := by decide +kernel
set_option maxRecDepth 20000 in
theorem ggX6_rock_X6_checkPlace : GoodIn wsX6_rock wsX6_checkPlace := goodIn_ca (goodIn_r _ [8, 9, 10, 11, 12, 13, 14] (by decide +kernel) (by decide +kernel)) (goodIn_sub (fun _ h => List.mem_cons_of_mem _ (List.mem_append_left _ (List.mem_append_left _ (List.mem_append_right _ h)))) (by decide +kernel))
set_option maxRecDepth 20000 in
theorem gX6_rock_X6_checkPlace : GoodIn wsX6_rock (wsV RX6 54 RX6 yX6_checkPlace wsX6_checkPlace) := goodIn_app (goodIn_of _ (by decide +kernel)) ggX6_rock_X6_checkPlace
set_option maxRecDepth 20000 in
theorem ggX6_rock_X6_checkRock : GoodIn wsX6_rock wsX6_checkRock := goodIn_ca (goodIn_r _ [18, 19, 20] (by decide +kernel) (by decide +kernel)) (goodIn_sub (fun _ h => List.mem_cons_of_mem _ (List.mem_append_left _ (List.mem_append_right _ h))) (by decide +kernel))
set_option maxRecDepth 20000 in
theorem gX6_rock_X6_checkRock : GoodIn wsX6_rock (wsV RX6 58 RX6 yX6_checkRock wsX6_checkRock) := goodIn_app (goodIn_of _ (by decide +kernel)) ggX6_rock_X6_checkRock
set_option maxRecDepth 20000 in
theorem ggX6_rock_X1_numberOf : GoodIn wsX6_rock wsX1_numberOf := goodIn_r _ [23] (by decide +kernel) (by decide +kernel)
set_option maxRecDepth 20000 in
theorem gX6_rock_X1_numberOf : GoodIn wsX6_rock (va_wsS RX6 61 yX1_numberOf wsX1_numberOf) := goodIn_app (goodIn_of _ (by decide +kernel)) ggX6_rock_X1_numberOf
set_option maxRecDepth 20000 in
theorem ggX6_rock_X6_checkBare : GoodIn wsX6_rock wsX6_checkBare := goodIn_ca (goodIn_r _ [27, 28, 29, 1, 30, 31, 32, 13, 33, 34, 35, 36, 37, 38, 39, 40, 41, 56, 57, 58, 59, 60, 61, 62, 67, 68, 69, 70, 71, 72, 73, 74, 75] (by decide +kernel) (by decide +kernel)) (goodIn_sub (fun _ h => List.mem_cons_of_mem _ (List.mem_append_right _ h)) (by decide +kernel))
set_option maxRecDepth 20000 in
theorem gX6_rock_X6_checkBare : GoodIn wsX6_rock (wsV RX6 65 RX6 yX6_checkBare wsX6_checkBare) := goodIn_app (goodIn_of _ (by decide +kernel)) ggX6_rock_X6_checkBare
set_option maxRecDepth 20000 in
theorem ggX6_rock_X6_spend : GoodIn wsX6_rock wsX6_spend := goodIn_ca (goodIn_r _ [45, 28, 29, 2, 3, 56, 57, 58, 59, 60, 61, 62, 63, 64, 65, 66] (by decide +kernel) (by decide +kernel)) (goodIn_sub (fun _ h => List.mem_cons_of_mem _ (List.mem_append_right _ h)) (by decide +kernel))
set_option maxRecDepth 20000 in
theorem gX6_rock_X6_spend : GoodIn wsX6_rock (wsV RX6 69 RX6 yX6_spend wsX6_spend) := goodIn_app (goodIn_of _ (by decide +kernel)) ggX6_rock_X6_spend
set_option maxRecDepth 20000 in
theorem ggX6_rock_X1_setRock : GoodIn wsX6_rock wsX1_setRock := goodIn_r _ [49, 50, 51, 52, 13, 53, 38, 54, 55, 39, 40, 41, 67, 68, 69, 70, 71, 72, 73, 74, 75] (by decide +kernel) (by decide +kernel)
set_option maxRecDepth 20000 in
theorem gX6_rock_X1_setRock : GoodIn wsX6_rock (wsV RX6 72 RX1 yX1_setRock wsX1_setRock) := goodIn_app (goodIn_of _ (by decide +kernel)) ggX6_rock_X1_setRock
theorem dX6_rock_0 : decode cX6_rock 0 = .ok (.aload_n 0, 1) := by decide +kernel
theorem dX6_rock_1 : decode cX6_rock 1 = .ok (.iload_n 1, 1) := by decide +kernel
theorem dX6_rock_2 : decode cX6_rock 2 = .ok (.iload_n 2, 1) := by decide +kernel
theorem dX6_rock_3 : decode cX6_rock 3 = .ok (.invokevirtual 54, 3) := by decide +kernel
theorem dX6_rock_6 : decode cX6_rock 6 = .ok (.aload_n 0, 1) := by decide +kernel
theorem dX6_rock_7 : decode cX6_rock 7 = .ok (.iload_n 3, 1) := by decide +kernel
theorem dX6_rock_8 : decode cX6_rock 8 = .ok (.iload 4, 2) := by decide +kernel
theorem dX6_rock_10 : decode cX6_rock 10 = .ok (.invokevirtual 58, 3) := by decide +kernel
theorem dX6_rock_13 : decode cX6_rock 13 = .ok (.iload_n 1, 1) := by decide +kernel
theorem dX6_rock_14 : decode cX6_rock 14 = .ok (.iload_n 2, 1) := by decide +kernel
theorem dX6_rock_15 : decode cX6_rock 15 = .ok (.invokestatic 61, 3) := by decide +kernel
theorem dX6_rock_18 : decode cX6_rock 18 = .ok (.istore 5, 2) := by decide +kernel
theorem dX6_rock_20 : decode cX6_rock 20 = .ok (.aload_n 0, 1) := by decide +kernel
theorem dX6_rock_21 : decode cX6_rock 21 = .ok (.iload 5, 2) := by decide +kernel
theorem dX6_rock_23 : decode cX6_rock 23 = .ok (.invokevirtual 65, 3) := by decide +kernel
theorem dX6_rock_26 : decode cX6_rock 26 = .ok (.aload_n 0, 1) := by decide +kernel
theorem dX6_rock_27 : decode cX6_rock 27 = .ok (.iconst 2, 1) := by decide +kernel
theorem dX6_rock_28 : decode cX6_rock 28 = .ok (.iload 4, 2) := by decide +kernel
theorem dX6_rock_30 : decode cX6_rock 30 = .ok (.imul, 1) := by decide +kernel
theorem dX6_rock_31 : decode cX6_rock 31 = .ok (.invokevirtual 69, 3) := by decide +kernel
theorem dX6_rock_34 : decode cX6_rock 34 = .ok (.aload_n 0, 1) := by decide +kernel
theorem dX6_rock_35 : decode cX6_rock 35 = .ok (.getfield 10, 3) := by decide +kernel
theorem dX6_rock_38 : decode cX6_rock 38 = .ok (.iload 5, 2) := by decide +kernel
theorem dX6_rock_40 : decode cX6_rock 40 = .ok (.iload_n 3, 1) := by decide +kernel
theorem dX6_rock_41 : decode cX6_rock 41 = .ok (.iload 4, 2) := by decide +kernel
theorem dX6_rock_43 : decode cX6_rock 43 = .ok (.invokevirtual 72, 3) := by decide +kernel
theorem dX6_rock_46 : decode cX6_rock 46 = .ok (.aload_n 0, 1) := by decide +kernel
theorem dX6_rock_47 : decode cX6_rock 47 = .ok (.getfield 40, 3) := by decide +kernel
theorem dX6_rock_50 : decode cX6_rock 50 = .ok (.getfield 76, 3) := by decide +kernel
theorem dX6_rock_53 : decode cX6_rock 53 = .ok (.ireturn, 1) := by decide +kernel
set_option maxRecDepth 20000 in
theorem ggX6_dig_X6_checkPlace : GoodIn wsX6_dig wsX6_checkPlace := goodIn_ca (goodIn_r _ [6, 7, 8, 9, 10, 11, 12] (by decide +kernel) (by decide +kernel)) (goodIn_sub (fun _ h => List.mem_cons_of_mem _ (List.mem_append_left _ (List.mem_append_right _ h))) (by decide +kernel))
set_option maxRecDepth 20000 in
theorem gX6_dig_X6_checkPlace : GoodIn wsX6_dig (wsV RX6 54 RX6 yX6_checkPlace wsX6_checkPlace) := goodIn_app (goodIn_of _ (by decide +kernel)) ggX6_dig_X6_checkPlace
set_option maxRecDepth 20000 in
theorem ggX6_dig_X1_numberOf : GoodIn wsX6_dig wsX1_numberOf := goodIn_r _ [15] (by decide +kernel) (by decide +kernel)
set_option maxRecDepth 20000 in
theorem gX6_dig_X1_numberOf : GoodIn wsX6_dig (va_wsS RX6 61 yX1_numberOf wsX1_numberOf) := goodIn_app (goodIn_of _ (by decide +kernel)) ggX6_dig_X1_numberOf
set_option maxRecDepth 20000 in
theorem ggX6_dig_X6_checkBare : GoodIn wsX6_dig wsX6_checkBare := goodIn_ca (goodIn_r _ [19, 20, 21, 1, 22, 23, 24, 11, 25, 26, 27, 28, 29, 30, 31, 32, 33, 91, 92, 93, 94, 95, 96, 97, 98, 99, 100, 101, 102, 103, 104, 105, 106] (by decide +kernel) (by decide +kernel)) (goodIn_sub (fun _ h => List.mem_cons_of_mem _ (List.mem_append_right _ h)) (by decide +kernel))
set_option maxRecDepth 20000 in
theorem gX6_dig_X6_checkBare : GoodIn wsX6_dig (wsV RX6 65 RX6 yX6_checkBare wsX6_checkBare) := goodIn_app (goodIn_of _ (by decide +kernel)) ggX6_dig_X6_checkBare
set_option maxRecDepth 20000 in
theorem ggX6_dig_X6_spend : GoodIn wsX6_dig wsX6_spend := goodIn_ca (goodIn_r _ [37, 20, 21, 38, 39, 91, 92, 93, 94, 95, 96, 97, 107, 108, 109, 110] (by decide +kernel) (by decide +kernel)) (goodIn_sub (fun _ h => List.mem_cons_of_mem _ (List.mem_append_right _ h)) (by decide +kernel))
set_option maxRecDepth 20000 in
theorem gX6_dig_X6_spend : GoodIn wsX6_dig (wsV RX6 69 RX6 yX6_spend wsX6_spend) := goodIn_app (goodIn_of _ (by decide +kernel)) ggX6_dig_X6_spend
set_option maxRecDepth 20000 in
theorem ggX6_dig_X1_setPond : GoodIn wsX6_dig wsX1_setPond := goodIn_r _ [43, 44, 45, 46, 11, 47, 30, 48, 49, 31, 32, 33, 50, 51, 52, 53, 54, 55, 56, 57, 58, 59, 60, 61, 62, 63, 64, 65, 66, 67, 68, 69, 70, 71, 72, 73, 74, 75, 76, 77, 78, 79, 80, 81, 10, 12, 82, 14, 15, 98, 99, 100, 101, 102, 103, 104, 105, 106] (by decide +kernel) (by decide +kernel)
set_option maxRecDepth 20000 in
theorem gX6_dig_X1_setPond : GoodIn wsX6_dig (wsV RX6 80 RX1 yX1_setPond wsX1_setPond) := goodIn_app (goodIn_of _ (by decide +kernel)) ggX6_dig_X1_setPond
set_option maxRecDepth 20000 in
theorem ggX6_dig_X1_cellsOfPondAt : GoodIn wsX6_dig wsX1_cellsOfPondAt := goodIn_r _ [86, 64, 87, 88, 89, 11, 90, 54, 31, 32, 33, 98, 99, 100, 101, 102, 103, 104, 105, 106] (by decide +kernel) (by decide +kernel)
set_option maxRecDepth 20000 in
theorem gX6_dig_X1_cellsOfPondAt : GoodIn wsX6_dig (wsV RX6 83 RX1 yX1_cellsOfPondAt wsX1_cellsOfPondAt) := goodIn_app (goodIn_of _ (by decide +kernel)) ggX6_dig_X1_cellsOfPondAt
theorem dX6_dig_0 : decode cX6_dig 0 = .ok (.aload_n 0, 1) := by decide +kernel
theorem dX6_dig_1 : decode cX6_dig 1 = .ok (.iload_n 1, 1) := by decide +kernel
theorem dX6_dig_2 : decode cX6_dig 2 = .ok (.iload_n 2, 1) := by decide +kernel
theorem dX6_dig_3 : decode cX6_dig 3 = .ok (.invokevirtual 54, 3) := by decide +kernel
theorem dX6_dig_6 : decode cX6_dig 6 = .ok (.iload_n 1, 1) := by decide +kernel
theorem dX6_dig_7 : decode cX6_dig 7 = .ok (.iload_n 2, 1) := by decide +kernel
theorem dX6_dig_8 : decode cX6_dig 8 = .ok (.invokestatic 61, 3) := by decide +kernel
theorem dX6_dig_11 : decode cX6_dig 11 = .ok (.istore_n 3, 1) := by decide +kernel
theorem dX6_dig_12 : decode cX6_dig 12 = .ok (.aload_n 0, 1) := by decide +kernel
theorem dX6_dig_13 : decode cX6_dig 13 = .ok (.iload_n 3, 1) := by decide +kernel
theorem dX6_dig_14 : decode cX6_dig 14 = .ok (.invokevirtual 65, 3) := by decide +kernel
theorem dX6_dig_17 : decode cX6_dig 17 = .ok (.aload_n 0, 1) := by decide +kernel
theorem dX6_dig_18 : decode cX6_dig 18 = .ok (.bipush 6, 2) := by decide +kernel
theorem dX6_dig_20 : decode cX6_dig 20 = .ok (.invokevirtual 69, 3) := by decide +kernel
theorem dX6_dig_23 : decode cX6_dig 23 = .ok (.aload_n 0, 1) := by decide +kernel
theorem dX6_dig_24 : decode cX6_dig 24 = .ok (.getfield 10, 3) := by decide +kernel
theorem dX6_dig_27 : decode cX6_dig 27 = .ok (.iload_n 3, 1) := by decide +kernel
theorem dX6_dig_28 : decode cX6_dig 28 = .ok (.invokevirtual 80, 3) := by decide +kernel
theorem dX6_dig_31 : decode cX6_dig 31 = .ok (.aload_n 0, 1) := by decide +kernel
theorem dX6_dig_32 : decode cX6_dig 32 = .ok (.getfield 10, 3) := by decide +kernel
theorem dX6_dig_35 : decode cX6_dig 35 = .ok (.iload_n 3, 1) := by decide +kernel
theorem dX6_dig_36 : decode cX6_dig 36 = .ok (.invokevirtual 83, 3) := by decide +kernel
theorem dX6_dig_39 : decode cX6_dig 39 = .ok (.ireturn, 1) := by decide +kernel
set_option maxRecDepth 20000 in
theorem ggX6_wall_X6_checkPlace : GoodIn wsX6_wall wsX6_checkPlace := goodIn_ca (goodIn_r _ [8, 9, 10, 11, 12, 13, 14] (by decide +kernel) (by decide +kernel)) (goodIn_sub (fun _ h => List.mem_cons_of_mem _ (List.mem_append_left _ (List.mem_append_right _ h))) (by decide +kernel))
set_option maxRecDepth 20000 in
theorem gX6_wall_X6_checkPlace : GoodIn wsX6_wall (wsV RX6 54 RX6 yX6_checkPlace wsX6_checkPlace) := goodIn_app (goodIn_of _ (by decide +kernel)) ggX6_wall_X6_checkPlace
set_option maxRecDepth 20000 in
theorem ggX6_wall_X1_numberOf : GoodIn wsX6_wall wsX1_numberOf := goodIn_r _ [17] (by decide +kernel) (by decide +kernel)
set_option maxRecDepth 20000 in
theorem gX6_wall_X1_numberOf : GoodIn wsX6_wall (va_wsS RX6 61 yX1_numberOf wsX1_numberOf) := goodIn_app (goodIn_of _ (by decide +kernel)) ggX6_wall_X1_numberOf
set_option maxRecDepth 20000 in
theorem ggX6_wall_X6_checkBare : GoodIn wsX6_wall wsX6_checkBare := goodIn_ca (goodIn_r _ [21, 22, 23, 1, 24, 25, 26, 13, 27, 28, 29, 30, 31, 32, 33, 34, 35, 50, 51, 52, 53, 54, 55, 56, 61, 62, 63, 64, 65, 66, 67, 68, 69] (by decide +kernel) (by decide +kernel)) (goodIn_sub (fun _ h => List.mem_cons_of_mem _ (List.mem_append_right _ h)) (by decide +kernel))
set_option maxRecDepth 20000 in
theorem gX6_wall_X6_checkBare : GoodIn wsX6_wall (wsV RX6 65 RX6 yX6_checkBare wsX6_checkBare) := goodIn_app (goodIn_of _ (by decide +kernel)) ggX6_wall_X6_checkBare
set_option maxRecDepth 20000 in
theorem ggX6_wall_X6_spend : GoodIn wsX6_wall wsX6_spend := goodIn_ca (goodIn_r _ [39, 22, 23, 2, 3, 50, 51, 52, 53, 54, 55, 56, 57, 58, 59, 60] (by decide +kernel) (by decide +kernel)) (goodIn_sub (fun _ h => List.mem_cons_of_mem _ (List.mem_append_right _ h)) (by decide +kernel))
set_option maxRecDepth 20000 in
theorem gX6_wall_X6_spend : GoodIn wsX6_wall (wsV RX6 69 RX6 yX6_spend wsX6_spend) := goodIn_app (goodIn_of _ (by decide +kernel)) ggX6_wall_X6_spend
set_option maxRecDepth 20000 in
theorem ggX6_wall_X1_setWall : GoodIn wsX6_wall wsX1_setWall := goodIn_r _ [43, 44, 45, 46, 13, 47, 32, 48, 49, 33, 34, 35, 61, 62, 63, 64, 65, 66, 67, 68, 69] (by decide +kernel) (by decide +kernel)
set_option maxRecDepth 20000 in
theorem gX6_wall_X1_setWall : GoodIn wsX6_wall (wsV RX6 87 RX1 yX1_setWall wsX1_setWall) := goodIn_app (goodIn_of _ (by decide +kernel)) ggX6_wall_X1_setWall
theorem dX6_wall_0 : decode cX6_wall 0 = .ok (.aload_n 0, 1) := by decide +kernel
theorem dX6_wall_1 : decode cX6_wall 1 = .ok (.iload_n 1, 1) := by decide +kernel
theorem dX6_wall_2 : decode cX6_wall 2 = .ok (.iload_n 2, 1) := by decide +kernel
theorem dX6_wall_3 : decode cX6_wall 3 = .ok (.invokevirtual 54, 3) := by decide +kernel
theorem dX6_wall_6 : decode cX6_wall 6 = .ok (.iload_n 1, 1) := by decide +kernel
theorem dX6_wall_7 : decode cX6_wall 7 = .ok (.iload_n 2, 1) := by decide +kernel
theorem dX6_wall_8 : decode cX6_wall 8 = .ok (.invokestatic 61, 3) := by decide +kernel
theorem dX6_wall_11 : decode cX6_wall 11 = .ok (.istore_n 3, 1) := by decide +kernel
theorem dX6_wall_12 : decode cX6_wall 12 = .ok (.aload_n 0, 1) := by decide +kernel
theorem dX6_wall_13 : decode cX6_wall 13 = .ok (.iload_n 3, 1) := by decide +kernel
theorem dX6_wall_14 : decode cX6_wall 14 = .ok (.invokevirtual 65, 3) := by decide +kernel
theorem dX6_wall_17 : decode cX6_wall 17 = .ok (.aload_n 0, 1) := by decide +kernel
theorem dX6_wall_18 : decode cX6_wall 18 = .ok (.iconst 3, 1) := by decide +kernel
theorem dX6_wall_19 : decode cX6_wall 19 = .ok (.invokevirtual 69, 3) := by decide +kernel
theorem dX6_wall_22 : decode cX6_wall 22 = .ok (.aload_n 0, 1) := by decide +kernel
theorem dX6_wall_23 : decode cX6_wall 23 = .ok (.getfield 10, 3) := by decide +kernel
theorem dX6_wall_26 : decode cX6_wall 26 = .ok (.iload_n 3, 1) := by decide +kernel
theorem dX6_wall_27 : decode cX6_wall 27 = .ok (.invokevirtual 87, 3) := by decide +kernel
theorem dX6_wall_30 : decode cX6_wall 30 = .ok (.aload_n 0, 1) := by decide +kernel
theorem dX6_wall_31 : decode cX6_wall 31 = .ok (.getfield 40, 3) := by decide +kernel
theorem dX6_wall_34 : decode cX6_wall 34 = .ok (.getfield 76, 3) := by decide +kernel
theorem dX6_wall_37 : decode cX6_wall 37 = .ok (.ireturn, 1) := by decide +kernel
set_option maxRecDepth 20000 in
theorem ggX6_clear_X6_checkPlace : GoodIn wsX6_clear wsX6_checkPlace := goodIn_ca (goodIn_r _ [10, 11, 12, 13, 14, 15, 16] (by decide +kernel) (by decide +kernel)) (goodIn_sub (fun _ h => List.mem_cons_of_mem _ (List.mem_append_right _ h)) (by decide +kernel))
set_option maxRecDepth 20000 in
theorem gX6_clear_X6_checkPlace : GoodIn wsX6_clear (wsV RX6 54 RX6 yX6_checkPlace wsX6_checkPlace) := goodIn_app (goodIn_of _ (by decide +kernel)) ggX6_clear_X6_checkPlace
set_option maxRecDepth 20000 in
theorem ggX6_clear_X1_numberOf : GoodIn wsX6_clear wsX1_numberOf := goodIn_r _ [19] (by decide +kernel) (by decide +kernel)
set_option maxRecDepth 20000 in
theorem gX6_clear_X1_numberOf : GoodIn wsX6_clear (va_wsS RX6 61 yX1_numberOf wsX1_numberOf) := goodIn_app (goodIn_of _ (by decide +kernel)) ggX6_clear_X1_numberOf
set_option maxRecDepth 20000 in
theorem ggX6_clear_X1_isBare : GoodIn wsX6_clear wsX1_isBare := goodIn_r _ [23, 24, 25, 26, 15, 27, 28, 29, 30, 31, 98, 99, 100, 101, 102, 103, 104, 105, 106] (by decide +kernel) (by decide +kernel)
set_option maxRecDepth 20000 in
theorem gX6_clear_X1_isBare : GoodIn wsX6_clear (wsV RX6 90 RX1 yX1_isBare wsX1_isBare) := goodIn_app (goodIn_of _ (by decide +kernel)) ggX6_clear_X1_isBare
set_option maxRecDepth 20000 in
theorem ggX6_clear_X1_hasCarps : GoodIn wsX6_clear wsX1_hasCarps := goodIn_r _ [35, 36, 29, 30, 15, 31, 98, 99, 100, 101, 102, 103, 104, 105, 106] (by decide +kernel) (by decide +kernel)
set_option maxRecDepth 20000 in
theorem gX6_clear_X1_hasCarps : GoodIn wsX6_clear (wsV RX6 101 RX1 yX1_hasCarps wsX1_hasCarps) := goodIn_app (goodIn_of _ (by decide +kernel)) ggX6_clear_X1_hasCarps
set_option maxRecDepth 20000 in
theorem ggX6_clear_X1_sizeAt : GoodIn wsX6_clear wsX1_sizeAt := goodIn_r _ [40, 41, 29, 30, 15, 31, 98, 99, 100, 101, 102, 103, 104, 105, 106] (by decide +kernel) (by decide +kernel)
set_option maxRecDepth 20000 in
theorem gX6_clear_X1_sizeAt : GoodIn wsX6_clear (wsV RX6 106 RX1 yX1_sizeAt wsX1_sizeAt) := goodIn_app (goodIn_of _ (by decide +kernel)) ggX6_clear_X1_sizeAt
set_option maxRecDepth 20000 in
theorem ggX6_clear_X1_setBare : GoodIn wsX6_clear wsX1_setBare := goodIn_r _ [45, 46, 47, 48, 15, 49, 24, 25, 26, 27, 28, 29, 30, 31, 50, 51, 52, 53, 54, 41, 55, 56, 57, 58, 59, 60, 61, 62, 63, 64, 65, 66, 67, 68, 69, 70, 71, 36, 72, 73, 74, 75, 76, 77, 78, 79, 80, 81, 82, 83, 84, 85, 14, 16, 86, 18, 19, 98, 99, 100, 101, 102, 103, 104, 105, 106] (by decide +kernel) (by decide +kernel)
set_option maxRecDepth 20000 in
theorem gX6_clear_X1_setBare : GoodIn wsX6_clear (wsV RX6 109 RX1 yX1_setBare wsX1_setBare) := goodIn_app (goodIn_of _ (by decide +kernel)) ggX6_clear_X1_setBare
theorem dX6_clear_0 : decode cX6_clear 0 = .ok (.aload_n 0, 1) := by decide +kernel
theorem dX6_clear_1 : decode cX6_clear 1 = .ok (.iload_n 1, 1) := by decide +kernel
theorem dX6_clear_2 : decode cX6_clear 2 = .ok (.iload_n 2, 1) := by decide +kernel
theorem dX6_clear_3 : decode cX6_clear 3 = .ok (.invokevirtual 54, 3) := by decide +kernel
theorem dX6_clear_6 : decode cX6_clear 6 = .ok (.iload_n 1, 1) := by decide +kernel
theorem dX6_clear_7 : decode cX6_clear 7 = .ok (.iload_n 2, 1) := by decide +kernel
theorem dX6_clear_8 : decode cX6_clear 8 = .ok (.invokestatic 61, 3) := by decide +kernel
theorem dX6_clear_11 : decode cX6_clear 11 = .ok (.istore_n 3, 1) := by decide +kernel
theorem dX6_clear_12 : decode cX6_clear 12 = .ok (.aload_n 0, 1) := by decide +kernel
theorem dX6_clear_13 : decode cX6_clear 13 = .ok (.getfield 10, 3) := by decide +kernel
theorem dX6_clear_16 : decode cX6_clear 16 = .ok (.iload_n 3, 1) := by decide +kernel
theorem dX6_clear_17 : decode cX6_clear 17 = .ok (.invokevirtual 90, 3) := by decide +kernel
theorem dX6_clear_20 : decode cX6_clear 20 = .ok (.ifCond .eq 13, 3) := by decide +kernel
theorem dX6_clear_23 : decode cX6_clear 23 = .ok (.new 94, 3) := by decide +kernel
theorem dX6_clear_26 : decode cX6_clear 26 = .ok (.dup, 1) := by decide +kernel
theorem dX6_clear_27 : decode cX6_clear 27 = .ok (.ldc 96, 2) := by decide +kernel
theorem dX6_clear_29 : decode cX6_clear 29 = .ok (.invokespecial 98, 3) := by decide +kernel
theorem dX6_clear_32 : decode cX6_clear 32 = .ok (.athrow, 1) := by decide +kernel
theorem dX6_clear_33 : decode cX6_clear 33 = .ok (.aload_n 0, 1) := by decide +kernel
theorem dX6_clear_34 : decode cX6_clear 34 = .ok (.getfield 10, 3) := by decide +kernel
theorem dX6_clear_37 : decode cX6_clear 37 = .ok (.iload_n 3, 1) := by decide +kernel
theorem dX6_clear_38 : decode cX6_clear 38 = .ok (.invokevirtual 101, 3) := by decide +kernel
theorem dX6_clear_41 : decode cX6_clear 41 = .ok (.ifCond .eq 13, 3) := by decide +kernel
theorem dX6_clear_44 : decode cX6_clear 44 = .ok (.new 94, 3) := by decide +kernel
theorem dX6_clear_47 : decode cX6_clear 47 = .ok (.dup, 1) := by decide +kernel
theorem dX6_clear_48 : decode cX6_clear 48 = .ok (.ldc 104, 2) := by decide +kernel
theorem dX6_clear_50 : decode cX6_clear 50 = .ok (.invokespecial 98, 3) := by decide +kernel
theorem dX6_clear_53 : decode cX6_clear 53 = .ok (.athrow, 1) := by decide +kernel
theorem dX6_clear_54 : decode cX6_clear 54 = .ok (.aload_n 0, 1) := by decide +kernel
theorem dX6_clear_55 : decode cX6_clear 55 = .ok (.getfield 40, 3) := by decide +kernel
theorem dX6_clear_58 : decode cX6_clear 58 = .ok (.dup, 1) := by decide +kernel
theorem dX6_clear_59 : decode cX6_clear 59 = .ok (.getfield 76, 3) := by decide +kernel
theorem dX6_clear_62 : decode cX6_clear 62 = .ok (.aload_n 0, 1) := by decide +kernel
theorem dX6_clear_63 : decode cX6_clear 63 = .ok (.getfield 10, 3) := by decide +kernel
theorem dX6_clear_66 : decode cX6_clear 66 = .ok (.iload_n 3, 1) := by decide +kernel
theorem dX6_clear_67 : decode cX6_clear 67 = .ok (.invokevirtual 106, 3) := by decide +kernel
theorem dX6_clear_70 : decode cX6_clear 70 = .ok (.iadd, 1) := by decide +kernel
theorem dX6_clear_71 : decode cX6_clear 71 = .ok (.putfield 76, 3) := by decide +kernel
theorem dX6_clear_74 : decode cX6_clear 74 = .ok (.aload_n 0, 1) := by decide +kernel
theorem dX6_clear_75 : decode cX6_clear 75 = .ok (.getfield 10, 3) := by decide +kernel
theorem dX6_clear_78 : decode cX6_clear 78 = .ok (.iload_n 3, 1) := by decide +kernel
theorem dX6_clear_79 : decode cX6_clear 79 = .ok (.invokevirtual 109, 3) := by decide +kernel
theorem dX6_clear_82 : decode cX6_clear 82 = .ok (.aload_n 0, 1) := by decide +kernel
theorem dX6_clear_83 : decode cX6_clear 83 = .ok (.getfield 40, 3) := by decide +kernel
theorem dX6_clear_86 : decode cX6_clear 86 = .ok (.getfield 76, 3) := by decide +kernel
theorem dX6_clear_89 : decode cX6_clear 89 = .ok (.ireturn, 1) := by decide +kernel
set_option maxRecDepth 20000 in
theorem ggX6_cell_X6_checkPlace : GoodIn wsX6_cell wsX6_checkPlace := goodIn_ca (goodIn_r _ [6, 7, 8, 9, 10, 11, 12] (by decide +kernel) (by decide +kernel)) (goodIn_sub (fun _ h => List.mem_cons_of_mem _ (List.mem_append_right _ h)) (by decide +kernel))
set_option maxRecDepth 20000 in
theorem gX6_cell_X6_checkPlace : GoodIn wsX6_cell (wsV RX6 54 RX6 yX6_checkPlace wsX6_checkPlace) := goodIn_app (goodIn_of _ (by decide +kernel)) ggX6_cell_X6_checkPlace
set_option maxRecDepth 20000 in
theorem ggX6_cell_X6_checkWhat : GoodIn wsX6_cell wsX6_checkWhat := goodIn_ca (goodIn_r _ [16, 7, 8] (by decide +kernel) (by decide +kernel)) (goodIn_sub (fun _ h => List.mem_cons_of_mem _ (List.mem_append_right _ h)) (by decide +kernel))
set_option maxRecDepth 20000 in
theorem gX6_cell_X6_checkWhat : GoodIn wsX6_cell (wsV RX6 112 RX6 yX6_checkWhat wsX6_checkWhat) := goodIn_app (goodIn_of _ (by decide +kernel)) ggX6_cell_X6_checkWhat
set_option maxRecDepth 20000 in
theorem ggX6_cell_X1_numberOf : GoodIn wsX6_cell wsX1_numberOf := goodIn_r _ [19] (by decide +kernel) (by decide +kernel)
set_option maxRecDepth 20000 in
theorem gX6_cell_X1_numberOf : GoodIn wsX6_cell (va_wsS RX6 61 yX1_numberOf wsX1_numberOf) := goodIn_app (goodIn_of _ (by decide +kernel)) ggX6_cell_X1_numberOf
set_option maxRecDepth 20000 in
theorem ggX6_cell_X1_kindAt : GoodIn wsX6_cell wsX1_kindAt := goodIn_r _ [23, 24, 25, 26, 11, 27, 60, 61, 62, 63, 64, 65, 66, 67, 68] (by decide +kernel) (by decide +kernel)
set_option maxRecDepth 20000 in
theorem gX6_cell_X1_kindAt : GoodIn wsX6_cell (wsV RX6 115 RX1 yX1_kindAt wsX1_kindAt) := goodIn_app (goodIn_of _ (by decide +kernel)) ggX6_cell_X1_kindAt
set_option maxRecDepth 20000 in
theorem ggX6_cell_X1_shapeAt : GoodIn wsX6_cell wsX1_shapeAt := goodIn_r _ [31, 32, 25, 26, 11, 27, 60, 61, 62, 63, 64, 65, 66, 67, 68] (by decide +kernel) (by decide +kernel)
set_option maxRecDepth 20000 in
theorem gX6_cell_X1_shapeAt : GoodIn wsX6_cell (wsV RX6 118 RX1 yX1_shapeAt wsX1_shapeAt) := goodIn_app (goodIn_of _ (by decide +kernel)) ggX6_cell_X1_shapeAt
set_option maxRecDepth 20000 in
theorem ggX6_cell_X1_sizeAt : GoodIn wsX6_cell wsX1_sizeAt := goodIn_r _ [36, 37, 25, 26, 11, 27, 60, 61, 62, 63, 64, 65, 66, 67, 68] (by decide +kernel) (by decide +kernel)
set_option maxRecDepth 20000 in
theorem gX6_cell_X1_sizeAt : GoodIn wsX6_cell (wsV RX6 106 RX1 yX1_sizeAt wsX1_sizeAt) := goodIn_app (goodIn_of _ (by decide +kernel)) ggX6_cell_X1_sizeAt
set_option maxRecDepth 20000 in
theorem ggX6_cell_X1_cellsOfPondAt : GoodIn wsX6_cell wsX1_cellsOfPondAt := goodIn_r _ [41, 42, 43, 44, 45, 11, 46, 47, 25, 26, 27, 60, 61, 62, 63, 64, 65, 66, 67, 68] (by decide +kernel) (by decide +kernel)
set_option maxRecDepth 20000 in
theorem gX6_cell_X1_cellsOfPondAt : GoodIn wsX6_cell (wsV RX6 83 RX1 yX1_cellsOfPondAt wsX1_cellsOfPondAt) := goodIn_app (goodIn_of _ (by decide +kernel)) ggX6_cell_X1_cellsOfPondAt
set_option maxRecDepth 20000 in
theorem ggX6_cell_X1_carpsOfPondAt : GoodIn wsX6_cell wsX1_carpsOfPondAt := goodIn_r _ [51, 52, 43, 44, 45, 11, 46, 47, 25, 26, 27, 60, 61, 62, 63, 64, 65, 66, 67, 68] (by decide +kernel) (by decide +kernel)
set_option maxRecDepth 20000 in
theorem gX6_cell_X1_carpsOfPondAt : GoodIn wsX6_cell (wsV RX6 121 RX1 yX1_carpsOfPondAt wsX1_carpsOfPondAt) := goodIn_app (goodIn_of _ (by decide +kernel)) ggX6_cell_X1_carpsOfPondAt
theorem dX6_cell_0 : decode cX6_cell 0 = .ok (.aload_n 0, 1) := by decide +kernel
theorem dX6_cell_1 : decode cX6_cell 1 = .ok (.iload_n 1, 1) := by decide +kernel
theorem dX6_cell_2 : decode cX6_cell 2 = .ok (.iload_n 2, 1) := by decide +kernel
theorem dX6_cell_3 : decode cX6_cell 3 = .ok (.invokevirtual 54, 3) := by decide +kernel
theorem dX6_cell_6 : decode cX6_cell 6 = .ok (.aload_n 0, 1) := by decide +kernel
theorem dX6_cell_7 : decode cX6_cell 7 = .ok (.iload_n 3, 1) := by decide +kernel
theorem dX6_cell_8 : decode cX6_cell 8 = .ok (.iconst 5, 1) := by decide +kernel
theorem dX6_cell_9 : decode cX6_cell 9 = .ok (.invokevirtual 112, 3) := by decide +kernel
theorem dX6_cell_12 : decode cX6_cell 12 = .ok (.iload_n 1, 1) := by decide +kernel
theorem dX6_cell_13 : decode cX6_cell 13 = .ok (.iload_n 2, 1) := by decide +kernel
theorem dX6_cell_14 : decode cX6_cell 14 = .ok (.invokestatic 61, 3) := by decide +kernel
theorem dX6_cell_17 : decode cX6_cell 17 = .ok (.istore 4, 2) := by decide +kernel
theorem dX6_cell_19 : decode cX6_cell 19 = .ok (.iload_n 3, 1) := by decide +kernel
theorem dX6_cell_20 : decode cX6_cell 20 = .ok (.tableswitch 72 0 3 #[32, 42, 52, 62], 32) := by decide +kernel
theorem dX6_cell_52 : decode cX6_cell 52 = .ok (.aload_n 0, 1) := by decide +kernel
theorem dX6_cell_53 : decode cX6_cell 53 = .ok (.getfield 10, 3) := by decide +kernel
theorem dX6_cell_56 : decode cX6_cell 56 = .ok (.iload 4, 2) := by decide +kernel
theorem dX6_cell_58 : decode cX6_cell 58 = .ok (.invokevirtual 115, 3) := by decide +kernel
theorem dX6_cell_61 : decode cX6_cell 61 = .ok (.ireturn, 1) := by decide +kernel
theorem dX6_cell_62 : decode cX6_cell 62 = .ok (.aload_n 0, 1) := by decide +kernel
theorem dX6_cell_63 : decode cX6_cell 63 = .ok (.getfield 10, 3) := by decide +kernel
theorem dX6_cell_66 : decode cX6_cell 66 = .ok (.iload 4, 2) := by decide +kernel
theorem dX6_cell_68 : decode cX6_cell 68 = .ok (.invokevirtual 118, 3) := by decide +kernel
theorem dX6_cell_71 : decode cX6_cell 71 = .ok (.ireturn, 1) := by decide +kernel
theorem dX6_cell_72 : decode cX6_cell 72 = .ok (.aload_n 0, 1) := by decide +kernel
theorem dX6_cell_73 : decode cX6_cell 73 = .ok (.getfield 10, 3) := by decide +kernel
theorem dX6_cell_76 : decode cX6_cell 76 = .ok (.iload 4, 2) := by decide +kernel
theorem dX6_cell_78 : decode cX6_cell 78 = .ok (.invokevirtual 106, 3) := by decide +kernel
theorem dX6_cell_81 : decode cX6_cell 81 = .ok (.ireturn, 1) := by decide +kernel
theorem dX6_cell_82 : decode cX6_cell 82 = .ok (.aload_n 0, 1) := by decide +kernel
theorem dX6_cell_83 : decode cX6_cell 83 = .ok (.getfield 10, 3) := by decide +kernel
theorem dX6_cell_86 : decode cX6_cell 86 = .ok (.iload 4, 2) := by decide +kernel
theorem dX6_cell_88 : decode cX6_cell 88 = .ok (.invokevirtual 83, 3) := by decide +kernel
theorem dX6_cell_91 : decode cX6_cell 91 = .ok (.ireturn, 1) := by decide +kernel
theorem dX6_cell_92 : decode cX6_cell 92 = .ok (.aload_n 0, 1) := by decide +kernel
theorem dX6_cell_93 : decode cX6_cell 93 = .ok (.getfield 10, 3) := by decide +kernel
theorem dX6_cell_96 : decode cX6_cell 96 = .ok (.iload 4, 2) := by decide +kernel
theorem dX6_cell_98 : decode cX6_cell 98 = .ok (.invokevirtual 121, 3) := by decide +kernel
theorem dX6_cell_101 : decode cX6_cell 101 = .ok (.ireturn, 1) := by decide +kernel
set_option maxRecDepth 20000 in
theorem ggX6_carp_X6_checkPlace : GoodIn wsX6_carp wsX6_checkPlace := goodIn_ca (goodIn_r _ [11, 12, 13, 14, 15, 16, 17] (by decide +kernel) (by decide +kernel)) (goodIn_sub (fun _ h => List.mem_cons_of_mem _ (List.mem_append_right _ h)) (by decide +kernel))
set_option maxRecDepth 20000 in
theorem gX6_carp_X6_checkPlace : GoodIn wsX6_carp (wsV RX6 54 RX6 yX6_checkPlace wsX6_checkPlace) := goodIn_app (goodIn_of _ (by decide +kernel)) ggX6_carp_X6_checkPlace
set_option maxRecDepth 20000 in
theorem ggX6_carp_X1_numberOf : GoodIn wsX6_carp wsX1_numberOf := goodIn_r _ [20] (by decide +kernel) (by decide +kernel)
set_option maxRecDepth 20000 in
theorem gX6_carp_X1_numberOf : GoodIn wsX6_carp (va_wsS RX6 61 yX1_numberOf wsX1_numberOf) := goodIn_app (goodIn_of _ (by decide +kernel)) ggX6_carp_X1_numberOf
set_option maxRecDepth 20000 in
theorem ggX6_carp_X1_isPond : GoodIn wsX6_carp wsX1_isPond := goodIn_r _ [24, 25, 26, 27, 16, 28, 29, 30, 31, 32, 80, 81, 82, 83, 84, 85, 86, 87, 88] (by decide +kernel) (by decide +kernel)
set_option maxRecDepth 20000 in
theorem gX6_carp_X1_isPond : GoodIn wsX6_carp (wsV RX6 124 RX1 yX1_isPond wsX1_isPond) := goodIn_app (goodIn_of _ (by decide +kernel)) ggX6_carp_X1_isPond
set_option maxRecDepth 20000 in
theorem ggX6_carp_X6_spend : GoodIn wsX6_carp wsX6_spend := goodIn_ca (goodIn_r _ [36, 1, 2, 6, 37, 70, 71, 72, 73, 74, 75, 76, 89, 90, 91, 92] (by decide +kernel) (by decide +kernel)) (goodIn_sub (fun _ h => List.mem_cons_of_mem _ (List.mem_append_left _ (List.mem_append_right _ h))) (by decide +kernel))
set_option maxRecDepth 20000 in
theorem gX6_carp_X6_spend : GoodIn wsX6_carp (wsV RX6 69 RX6 yX6_spend wsX6_spend) := goodIn_app (goodIn_of _ (by decide +kernel)) ggX6_carp_X6_spend
set_option maxRecDepth 20000 in
theorem ggX6_carp_X4_add : GoodIn wsX6_carp wsX4_add := goodIn_r _ [42, 43, 44, 45, 77, 78, 79] (by decide +kernel) (by decide +kernel)
set_option maxRecDepth 20000 in
theorem gX6_carp_X4_add : GoodIn wsX6_carp (wsV RX6 134 RX4 yX4_add wsX4_add) := goodIn_app (goodIn_of _ (by decide +kernel)) ggX6_carp_X4_add
set_option maxRecDepth 20000 in
theorem ggX6_carp_X0_setCarpSize : GoodIn wsX6_carp wsX0_setCarpSize := goodIn_r _ [50, 51, 52, 53, 54, 55, 56, 57, 58, 89, 90, 91, 92] (by decide +kernel) (by decide +kernel)
set_option maxRecDepth 20000 in
theorem gX6_carp_X0_setCarpSize : GoodIn wsX6_carp (wsV RX6 137 RX0 yX0_setCarpSize wsX0_setCarpSize) := goodIn_app (goodIn_of _ (by decide +kernel)) ggX6_carp_X0_setCarpSize
set_option maxRecDepth 20000 in
theorem ggX6_carp_X1_changeCarps : GoodIn wsX6_carp wsX1_changeCarps := goodIn_r _ [62, 63, 64, 65, 66, 67, 16, 68, 69, 30, 31, 32, 80, 81, 82, 83, 84, 85, 86, 87, 88] (by decide +kernel) (by decide +kernel)
set_option maxRecDepth 20000 in
theorem gX6_carp_X1_changeCarps : GoodIn wsX6_carp (wsV RX6 140 RX1 yX1_changeCarps wsX1_changeCarps) := goodIn_app (goodIn_of _ (by decide +kernel)) ggX6_carp_X1_changeCarps
theorem dX6_carp_0 : decode cX6_carp 0 = .ok (.aload_n 0, 1) := by decide +kernel
theorem dX6_carp_1 : decode cX6_carp 1 = .ok (.iload_n 1, 1) := by decide +kernel
theorem dX6_carp_2 : decode cX6_carp 2 = .ok (.iload_n 2, 1) := by decide +kernel
theorem dX6_carp_3 : decode cX6_carp 3 = .ok (.invokevirtual 54, 3) := by decide +kernel
theorem dX6_carp_6 : decode cX6_carp 6 = .ok (.iload_n 1, 1) := by decide +kernel
theorem dX6_carp_7 : decode cX6_carp 7 = .ok (.iload_n 2, 1) := by decide +kernel
theorem dX6_carp_8 : decode cX6_carp 8 = .ok (.invokestatic 61, 3) := by decide +kernel
theorem dX6_carp_11 : decode cX6_carp 11 = .ok (.istore_n 3, 1) := by decide +kernel
theorem dX6_carp_12 : decode cX6_carp 12 = .ok (.aload_n 0, 1) := by decide +kernel
theorem dX6_carp_13 : decode cX6_carp 13 = .ok (.getfield 10, 3) := by decide +kernel
theorem dX6_carp_16 : decode cX6_carp 16 = .ok (.iload_n 3, 1) := by decide +kernel
theorem dX6_carp_17 : decode cX6_carp 17 = .ok (.invokevirtual 124, 3) := by decide +kernel
theorem dX6_carp_20 : decode cX6_carp 20 = .ok (.ifCond .ne 13, 3) := by decide +kernel
theorem dX6_carp_23 : decode cX6_carp 23 = .ok (.new 94, 3) := by decide +kernel
theorem dX6_carp_26 : decode cX6_carp 26 = .ok (.dup, 1) := by decide +kernel
theorem dX6_carp_27 : decode cX6_carp 27 = .ok (.ldc 127, 2) := by decide +kernel
theorem dX6_carp_29 : decode cX6_carp 29 = .ok (.invokespecial 98, 3) := by decide +kernel
theorem dX6_carp_32 : decode cX6_carp 32 = .ok (.athrow, 1) := by decide +kernel
theorem dX6_carp_33 : decode cX6_carp 33 = .ok (.aload_n 0, 1) := by decide +kernel
theorem dX6_carp_34 : decode cX6_carp 34 = .ok (.getfield 19, 3) := by decide +kernel
theorem dX6_carp_37 : decode cX6_carp 37 = .ok (.getfield 129, 3) := by decide +kernel
theorem dX6_carp_40 : decode cX6_carp 40 = .ok (.bipush 30, 2) := by decide +kernel
theorem dX6_carp_42 : decode cX6_carp 42 = .ok (.if_icmp .lt 13, 3) := by decide +kernel
theorem dX6_carp_45 : decode cX6_carp 45 = .ok (.new 94, 3) := by decide +kernel
theorem dX6_carp_48 : decode cX6_carp 48 = .ok (.dup, 1) := by decide +kernel
theorem dX6_carp_49 : decode cX6_carp 49 = .ok (.ldc 132, 2) := by decide +kernel
theorem dX6_carp_51 : decode cX6_carp 51 = .ok (.invokespecial 98, 3) := by decide +kernel
theorem dX6_carp_54 : decode cX6_carp 54 = .ok (.athrow, 1) := by decide +kernel
theorem dX6_carp_55 : decode cX6_carp 55 = .ok (.aload_n 0, 1) := by decide +kernel
theorem dX6_carp_56 : decode cX6_carp 56 = .ok (.iconst 4, 1) := by decide +kernel
theorem dX6_carp_57 : decode cX6_carp 57 = .ok (.invokevirtual 69, 3) := by decide +kernel
theorem dX6_carp_60 : decode cX6_carp 60 = .ok (.aload_n 0, 1) := by decide +kernel
theorem dX6_carp_61 : decode cX6_carp 61 = .ok (.getfield 19, 3) := by decide +kernel
theorem dX6_carp_64 : decode cX6_carp 64 = .ok (.iload_n 3, 1) := by decide +kernel
theorem dX6_carp_65 : decode cX6_carp 65 = .ok (.invokevirtual 134, 3) := by decide +kernel
theorem dX6_carp_68 : decode cX6_carp 68 = .ok (.istore 4, 2) := by decide +kernel
theorem dX6_carp_70 : decode cX6_carp 70 = .ok (.aload_n 0, 1) := by decide +kernel
theorem dX6_carp_71 : decode cX6_carp 71 = .ok (.getfield 40, 3) := by decide +kernel
theorem dX6_carp_74 : decode cX6_carp 74 = .ok (.iload 4, 2) := by decide +kernel
theorem dX6_carp_76 : decode cX6_carp 76 = .ok (.iconst 1, 1) := by decide +kernel
theorem dX6_carp_77 : decode cX6_carp 77 = .ok (.invokevirtual 137, 3) := by decide +kernel
theorem dX6_carp_80 : decode cX6_carp 80 = .ok (.aload_n 0, 1) := by decide +kernel
theorem dX6_carp_81 : decode cX6_carp 81 = .ok (.getfield 10, 3) := by decide +kernel
theorem dX6_carp_84 : decode cX6_carp 84 = .ok (.iload_n 3, 1) := by decide +kernel
theorem dX6_carp_85 : decode cX6_carp 85 = .ok (.iconst 1, 1) := by decide +kernel
theorem dX6_carp_86 : decode cX6_carp 86 = .ok (.invokevirtual 140, 3) := by decide +kernel
theorem dX6_carp_89 : decode cX6_carp 89 = .ok (.iload 4, 2) := by decide +kernel
theorem dX6_carp_91 : decode cX6_carp 91 = .ok (.ireturn, 1) := by decide +kernel
set_option maxRecDepth 20000 in
theorem ggX6_sell_X6_checkCarp : GoodIn wsX6_sell wsX6_checkCarp := goodIn_ca (goodIn_r _ [11, 12, 13, 3, 14, 56, 57, 58, 59, 60, 61, 62, 67, 68, 69] (by decide +kernel) (by decide +kernel)) (goodIn_sub (fun _ h => List.mem_cons_of_mem _ (List.mem_append_right _ h)) (by decide +kernel))
set_option maxRecDepth 20000 in
theorem gX6_sell_X6_checkCarp : GoodIn wsX6_sell (wsV RX6 143 RX6 yX6_checkCarp wsX6_checkCarp) := goodIn_app (goodIn_of _ (by decide +kernel)) ggX6_sell_X6_checkCarp
set_option maxRecDepth 20000 in
theorem ggX6_sell_X4_isHere : GoodIn wsX6_sell wsX4_isHere := goodIn_r _ [19, 20, 21, 22, 23, 18, 24, 25, 67, 68, 69] (by decide +kernel) (by decide +kernel)
set_option maxRecDepth 20000 in
theorem gX6_sell_X4_isHere : GoodIn wsX6_sell (wsV RX6 146 RX4 yX4_isHere wsX4_isHere) := goodIn_app (goodIn_of _ (by decide +kernel)) ggX6_sell_X4_isHere
set_option maxRecDepth 20000 in
theorem ggX6_sell_X4_takeOut : GoodIn wsX6_sell wsX4_takeOut := goodIn_r _ [29, 20, 21, 22, 23, 18, 24, 25, 67, 68, 69] (by decide +kernel) (by decide +kernel)
set_option maxRecDepth 20000 in
theorem gX6_sell_X4_takeOut : GoodIn wsX6_sell (wsV RX6 151 RX4 yX4_takeOut wsX4_takeOut) := goodIn_app (goodIn_of _ (by decide +kernel)) ggX6_sell_X4_takeOut
set_option maxRecDepth 20000 in
theorem ggX6_sell_X4_placeOf : GoodIn wsX6_sell wsX4_placeOf := goodIn_r _ [33, 34, 21, 22, 23, 18, 24, 25, 67, 68, 69] (by decide +kernel) (by decide +kernel)
set_option maxRecDepth 20000 in
theorem gX6_sell_X4_placeOf : GoodIn wsX6_sell (wsV RX6 154 RX4 yX4_placeOf wsX4_placeOf) := goodIn_app (goodIn_of _ (by decide +kernel)) ggX6_sell_X4_placeOf
set_option maxRecDepth 20000 in
theorem ggX6_sell_X1_changeCarps : GoodIn wsX6_sell wsX1_changeCarps := goodIn_r _ [39, 40, 41, 42, 43, 44, 38, 45, 46, 47, 48, 49, 70, 71, 72, 73, 74, 75, 76, 77, 78] (by decide +kernel) (by decide +kernel)
set_option maxRecDepth 20000 in
theorem gX6_sell_X1_changeCarps : GoodIn wsX6_sell (wsV RX6 140 RX1 yX1_changeCarps wsX1_changeCarps) := goodIn_app (goodIn_of _ (by decide +kernel)) ggX6_sell_X1_changeCarps
set_option maxRecDepth 20000 in
theorem ggX6_sell_X0_carpSize : GoodIn wsX6_sell wsX0_carpSize := goodIn_r _ [54, 55, 63, 64, 65, 66] (by decide +kernel) (by decide +kernel)
set_option maxRecDepth 20000 in
theorem gX6_sell_X0_carpSize : GoodIn wsX6_sell (wsV RX6 157 RX0 yX0_carpSize wsX0_carpSize) := goodIn_app (goodIn_of _ (by decide +kernel)) ggX6_sell_X0_carpSize
theorem dX6_sell_0 : decode cX6_sell 0 = .ok (.aload_n 0, 1) := by decide +kernel
theorem dX6_sell_1 : decode cX6_sell 1 = .ok (.iload_n 1, 1) := by decide +kernel
theorem dX6_sell_2 : decode cX6_sell 2 = .ok (.invokevirtual 143, 3) := by decide +kernel
theorem dX6_sell_5 : decode cX6_sell 5 = .ok (.aload_n 0, 1) := by decide +kernel
theorem dX6_sell_6 : decode cX6_sell 6 = .ok (.getfield 19, 3) := by decide +kernel
theorem dX6_sell_9 : decode cX6_sell 9 = .ok (.iload_n 1, 1) := by decide +kernel
theorem dX6_sell_10 : decode cX6_sell 10 = .ok (.invokevirtual 146, 3) := by decide +kernel
theorem dX6_sell_13 : decode cX6_sell 13 = .ok (.ifCond .ne 13, 3) := by decide +kernel
theorem dX6_sell_16 : decode cX6_sell 16 = .ok (.new 94, 3) := by decide +kernel
theorem dX6_sell_19 : decode cX6_sell 19 = .ok (.dup, 1) := by decide +kernel
theorem dX6_sell_20 : decode cX6_sell 20 = .ok (.ldc 149, 2) := by decide +kernel
theorem dX6_sell_22 : decode cX6_sell 22 = .ok (.invokespecial 98, 3) := by decide +kernel
theorem dX6_sell_25 : decode cX6_sell 25 = .ok (.athrow, 1) := by decide +kernel
theorem dX6_sell_26 : decode cX6_sell 26 = .ok (.aload_n 0, 1) := by decide +kernel
theorem dX6_sell_27 : decode cX6_sell 27 = .ok (.getfield 19, 3) := by decide +kernel
theorem dX6_sell_30 : decode cX6_sell 30 = .ok (.iload_n 1, 1) := by decide +kernel
theorem dX6_sell_31 : decode cX6_sell 31 = .ok (.invokevirtual 151, 3) := by decide +kernel
theorem dX6_sell_34 : decode cX6_sell 34 = .ok (.aload_n 0, 1) := by decide +kernel
theorem dX6_sell_35 : decode cX6_sell 35 = .ok (.getfield 10, 3) := by decide +kernel
theorem dX6_sell_38 : decode cX6_sell 38 = .ok (.aload_n 0, 1) := by decide +kernel
theorem dX6_sell_39 : decode cX6_sell 39 = .ok (.getfield 19, 3) := by decide +kernel
theorem dX6_sell_42 : decode cX6_sell 42 = .ok (.iload_n 1, 1) := by decide +kernel
theorem dX6_sell_43 : decode cX6_sell 43 = .ok (.invokevirtual 154, 3) := by decide +kernel
theorem dX6_sell_46 : decode cX6_sell 46 = .ok (.iconst (-1), 1) := by decide +kernel
theorem dX6_sell_47 : decode cX6_sell 47 = .ok (.invokevirtual 140, 3) := by decide +kernel
theorem dX6_sell_50 : decode cX6_sell 50 = .ok (.aload_n 0, 1) := by decide +kernel
theorem dX6_sell_51 : decode cX6_sell 51 = .ok (.getfield 40, 3) := by decide +kernel
theorem dX6_sell_54 : decode cX6_sell 54 = .ok (.dup, 1) := by decide +kernel
theorem dX6_sell_55 : decode cX6_sell 55 = .ok (.getfield 76, 3) := by decide +kernel
theorem dX6_sell_58 : decode cX6_sell 58 = .ok (.aload_n 0, 1) := by decide +kernel
theorem dX6_sell_59 : decode cX6_sell 59 = .ok (.getfield 40, 3) := by decide +kernel
theorem dX6_sell_62 : decode cX6_sell 62 = .ok (.iload_n 1, 1) := by decide +kernel
theorem dX6_sell_63 : decode cX6_sell 63 = .ok (.invokevirtual 157, 3) := by decide +kernel
theorem dX6_sell_66 : decode cX6_sell 66 = .ok (.iconst 2, 1) := by decide +kernel
theorem dX6_sell_67 : decode cX6_sell 67 = .ok (.idiv, 1) := by decide +kernel
theorem dX6_sell_68 : decode cX6_sell 68 = .ok (.iconst 1, 1) := by decide +kernel
theorem dX6_sell_69 : decode cX6_sell 69 = .ok (.iadd, 1) := by decide +kernel
theorem dX6_sell_70 : decode cX6_sell 70 = .ok (.iadd, 1) := by decide +kernel
theorem dX6_sell_71 : decode cX6_sell 71 = .ok (.putfield 76, 3) := by decide +kernel
theorem dX6_sell_74 : decode cX6_sell 74 = .ok (.aload_n 0, 1) := by decide +kernel
theorem dX6_sell_75 : decode cX6_sell 75 = .ok (.getfield 40, 3) := by decide +kernel
theorem dX6_sell_78 : decode cX6_sell 78 = .ok (.getfield 76, 3) := by decide +kernel
theorem dX6_sell_81 : decode cX6_sell 81 = .ok (.ireturn, 1) := by decide +kernel
set_option maxRecDepth 20000 in
theorem ggX6_told_X6_checkCarp : GoodIn wsX6_told wsX6_checkCarp := goodIn_ca (goodIn_r _ [7, 8, 9, 1, 10, 41, 42, 43, 44, 45, 46, 47, 48, 49, 50] (by decide +kernel) (by decide +kernel)) (goodIn_sub (fun _ h => List.mem_cons_of_mem _ (List.mem_append_right _ h)) (by decide +kernel))
set_option maxRecDepth 20000 in
theorem gX6_told_X6_checkCarp : GoodIn wsX6_told (wsV RX6 143 RX6 yX6_checkCarp wsX6_checkCarp) := goodIn_app (goodIn_of _ (by decide +kernel)) ggX6_told_X6_checkCarp
set_option maxRecDepth 20000 in
theorem ggX6_told_X6_checkWhat : GoodIn wsX6_told wsX6_checkWhat := goodIn_ca (goodIn_r _ [14, 8, 9] (by decide +kernel) (by decide +kernel)) (goodIn_sub (fun _ h => List.mem_cons_of_mem _ (List.mem_append_right _ h)) (by decide +kernel))
set_option maxRecDepth 20000 in
theorem gX6_told_X6_checkWhat : GoodIn wsX6_told (wsV RX6 112 RX6 yX6_checkWhat wsX6_checkWhat) := goodIn_app (goodIn_of _ (by decide +kernel)) ggX6_told_X6_checkWhat
set_option maxRecDepth 20000 in
theorem ggX6_told_X4_placeOf : GoodIn wsX6_told wsX4_placeOf := goodIn_r _ [19, 20, 21, 22, 23, 18, 24, 25, 48, 49, 50] (by decide +kernel) (by decide +kernel)
set_option maxRecDepth 20000 in
theorem gX6_told_X4_placeOf : GoodIn wsX6_told (wsV RX6 154 RX4 yX4_placeOf wsX4_placeOf) := goodIn_app (goodIn_of _ (by decide +kernel)) ggX6_told_X4_placeOf
set_option maxRecDepth 20000 in
theorem ggX6_told_X0_carpSize : GoodIn wsX6_told wsX0_carpSize := goodIn_r _ [30, 31, 51, 52, 53, 54] (by decide +kernel) (by decide +kernel)
set_option maxRecDepth 20000 in
theorem gX6_told_X0_carpSize : GoodIn wsX6_told (wsV RX6 157 RX0 yX0_carpSize wsX0_carpSize) := goodIn_app (goodIn_of _ (by decide +kernel)) ggX6_told_X0_carpSize
set_option maxRecDepth 20000 in
theorem ggX6_told_X4_isHere : GoodIn wsX6_told wsX4_isHere := goodIn_r _ [35, 36, 21, 22, 23, 18, 24, 25, 48, 49, 50] (by decide +kernel) (by decide +kernel)
set_option maxRecDepth 20000 in
theorem gX6_told_X4_isHere : GoodIn wsX6_told (wsV RX6 146 RX4 yX4_isHere wsX4_isHere) := goodIn_app (goodIn_of _ (by decide +kernel)) ggX6_told_X4_isHere
set_option maxRecDepth 20000 in
theorem ggX6_told_X6_rankOf : GoodIn wsX6_told wsX6_rankOf := goodIn_r _ [40, 1, 10, 2, 32, 33, 34, 18, 35, 36, 21, 22, 23, 24, 25, 26, 27, 28, 29, 30, 31, 41, 42, 43, 44, 45, 46, 47, 48, 49, 50, 51, 52, 53, 54] (by decide +kernel) (by decide +kernel)
set_option maxRecDepth 20000 in
theorem gX6_told_X6_rankOf : GoodIn wsX6_told (wsV RX6 160 RX6 yX6_rankOf wsX6_rankOf) := goodIn_app (goodIn_of _ (by decide +kernel)) ggX6_told_X6_rankOf
theorem dX6_told_0 : decode cX6_told 0 = .ok (.aload_n 0, 1) := by decide +kernel
theorem dX6_told_1 : decode cX6_told 1 = .ok (.iload_n 1, 1) := by decide +kernel
theorem dX6_told_2 : decode cX6_told 2 = .ok (.invokevirtual 143, 3) := by decide +kernel
theorem dX6_told_5 : decode cX6_told 5 = .ok (.aload_n 0, 1) := by decide +kernel
theorem dX6_told_6 : decode cX6_told 6 = .ok (.iload_n 2, 1) := by decide +kernel
theorem dX6_told_7 : decode cX6_told 7 = .ok (.iconst 5, 1) := by decide +kernel
theorem dX6_told_8 : decode cX6_told 8 = .ok (.invokevirtual 112, 3) := by decide +kernel
theorem dX6_told_11 : decode cX6_told 11 = .ok (.iload_n 2, 1) := by decide +kernel
theorem dX6_told_12 : decode cX6_told 12 = .ok (.tableswitch 82 0 3 #[32, 44, 56, 65], 32) := by decide +kernel
theorem dX6_told_44 : decode cX6_told 44 = .ok (.aload_n 0, 1) := by decide +kernel
theorem dX6_told_45 : decode cX6_told 45 = .ok (.getfield 19, 3) := by decide +kernel
theorem dX6_told_48 : decode cX6_told 48 = .ok (.iload_n 1, 1) := by decide +kernel
theorem dX6_told_49 : decode cX6_told 49 = .ok (.invokevirtual 154, 3) := by decide +kernel
theorem dX6_told_52 : decode cX6_told 52 = .ok (.bipush 10, 2) := by decide +kernel
theorem dX6_told_54 : decode cX6_told 54 = .ok (.irem, 1) := by decide +kernel
theorem dX6_told_55 : decode cX6_told 55 = .ok (.ireturn, 1) := by decide +kernel
theorem dX6_told_56 : decode cX6_told 56 = .ok (.aload_n 0, 1) := by decide +kernel
theorem dX6_told_57 : decode cX6_told 57 = .ok (.getfield 19, 3) := by decide +kernel
theorem dX6_told_60 : decode cX6_told 60 = .ok (.iload_n 1, 1) := by decide +kernel
theorem dX6_told_61 : decode cX6_told 61 = .ok (.invokevirtual 154, 3) := by decide +kernel
theorem dX6_told_64 : decode cX6_told 64 = .ok (.bipush 10, 2) := by decide +kernel
theorem dX6_told_66 : decode cX6_told 66 = .ok (.idiv, 1) := by decide +kernel
theorem dX6_told_67 : decode cX6_told 67 = .ok (.ireturn, 1) := by decide +kernel
theorem dX6_told_68 : decode cX6_told 68 = .ok (.aload_n 0, 1) := by decide +kernel
theorem dX6_told_69 : decode cX6_told 69 = .ok (.getfield 40, 3) := by decide +kernel
theorem dX6_told_72 : decode cX6_told 72 = .ok (.iload_n 1, 1) := by decide +kernel
theorem dX6_told_73 : decode cX6_told 73 = .ok (.invokevirtual 157, 3) := by decide +kernel
theorem dX6_told_76 : decode cX6_told 76 = .ok (.ireturn, 1) := by decide +kernel
theorem dX6_told_77 : decode cX6_told 77 = .ok (.aload_n 0, 1) := by decide +kernel
theorem dX6_told_78 : decode cX6_told 78 = .ok (.getfield 19, 3) := by decide +kernel
theorem dX6_told_81 : decode cX6_told 81 = .ok (.iload_n 1, 1) := by decide +kernel
theorem dX6_told_82 : decode cX6_told 82 = .ok (.invokevirtual 146, 3) := by decide +kernel
theorem dX6_told_85 : decode cX6_told 85 = .ok (.ifCond .eq 7, 3) := by decide +kernel
theorem dX6_told_88 : decode cX6_told 88 = .ok (.iconst 0, 1) := by decide +kernel
theorem dX6_told_89 : decode cX6_told 89 = .ok (.goto 4, 3) := by decide +kernel
theorem dX6_told_92 : decode cX6_told 92 = .ok (.iconst 1, 1) := by decide +kernel
theorem dX6_told_93 : decode cX6_told 93 = .ok (.ireturn, 1) := by decide +kernel
theorem dX6_told_94 : decode cX6_told 94 = .ok (.aload_n 0, 1) := by decide +kernel
theorem dX6_told_95 : decode cX6_told 95 = .ok (.iload_n 1, 1) := by decide +kernel
theorem dX6_told_96 : decode cX6_told 96 = .ok (.invokevirtual 160, 3) := by decide +kernel
theorem dX6_told_99 : decode cX6_told 99 = .ok (.ireturn, 1) := by decide +kernel
set_option maxRecDepth 20000 in
theorem ggX6_rankOf_X4_isHere : GoodIn wsX6_rankOf wsX4_isHere := goodIn_r _ [8, 9, 10, 11, 12, 7, 13, 14, 28, 29, 30] (by decide +kernel) (by decide +kernel)
set_option maxRecDepth 20000 in
theorem gX6_rankOf_X4_isHere : GoodIn wsX6_rankOf (wsV RX6 146 RX4 yX4_isHere wsX4_isHere) := goodIn_app (goodIn_of _ (by decide +kernel)) ggX6_rankOf_X4_isHere
set_option maxRecDepth 20000 in
theorem ggX6_rankOf_X0_carpSize : GoodIn wsX6_rankOf wsX0_carpSize := goodIn_r _ [19, 20, 31, 32, 33, 34] (by decide +kernel) (by decide +kernel)
set_option maxRecDepth 20000 in
theorem gX6_rankOf_X0_carpSize : GoodIn wsX6_rankOf (wsV RX6 157 RX0 yX0_carpSize wsX0_carpSize) := goodIn_app (goodIn_of _ (by decide +kernel)) ggX6_rankOf_X0_carpSize
theorem dX6_rankOf_0 : decode cX6_rankOf 0 = .ok (.aload_n 0, 1) := by decide +kernel
theorem dX6_rankOf_1 : decode cX6_rankOf 1 = .ok (.getfield 19, 3) := by decide +kernel
theorem dX6_rankOf_4 : decode cX6_rankOf 4 = .ok (.iload_n 1, 1) := by decide +kernel
theorem dX6_rankOf_5 : decode cX6_rankOf 5 = .ok (.invokevirtual 146, 3) := by decide +kernel
theorem dX6_rankOf_8 : decode cX6_rankOf 8 = .ok (.ifCond .ne 5, 3) := by decide +kernel
theorem dX6_rankOf_11 : decode cX6_rankOf 11 = .ok (.iconst 0, 1) := by decide +kernel
theorem dX6_rankOf_12 : decode cX6_rankOf 12 = .ok (.ireturn, 1) := by decide +kernel
theorem dX6_rankOf_13 : decode cX6_rankOf 13 = .ok (.iconst 1, 1) := by decide +kernel
theorem dX6_rankOf_14 : decode cX6_rankOf 14 = .ok (.istore_n 2, 1) := by decide +kernel
theorem dX6_rankOf_15 : decode cX6_rankOf 15 = .ok (.iconst 0, 1) := by decide +kernel
theorem dX6_rankOf_16 : decode cX6_rankOf 16 = .ok (.istore_n 3, 1) := by decide +kernel
theorem dX6_rankOf_17 : decode cX6_rankOf 17 = .ok (.iload_n 3, 1) := by decide +kernel
theorem dX6_rankOf_18 : decode cX6_rankOf 18 = .ok (.aload_n 0, 1) := by decide +kernel
theorem dX6_rankOf_19 : decode cX6_rankOf 19 = .ok (.getfield 19, 3) := by decide +kernel
theorem dX6_rankOf_22 : decode cX6_rankOf 22 = .ok (.getfield 129, 3) := by decide +kernel
theorem dX6_rankOf_25 : decode cX6_rankOf 25 = .ok (.if_icmp .ge 42, 3) := by decide +kernel
theorem dX6_rankOf_28 : decode cX6_rankOf 28 = .ok (.aload_n 0, 1) := by decide +kernel
theorem dX6_rankOf_29 : decode cX6_rankOf 29 = .ok (.getfield 19, 3) := by decide +kernel
theorem dX6_rankOf_32 : decode cX6_rankOf 32 = .ok (.iload_n 3, 1) := by decide +kernel
theorem dX6_rankOf_33 : decode cX6_rankOf 33 = .ok (.invokevirtual 146, 3) := by decide +kernel
theorem dX6_rankOf_36 : decode cX6_rankOf 36 = .ok (.ifCond .eq 25, 3) := by decide +kernel
theorem dX6_rankOf_39 : decode cX6_rankOf 39 = .ok (.aload_n 0, 1) := by decide +kernel
theorem dX6_rankOf_40 : decode cX6_rankOf 40 = .ok (.getfield 40, 3) := by decide +kernel
theorem dX6_rankOf_43 : decode cX6_rankOf 43 = .ok (.iload_n 3, 1) := by decide +kernel
theorem dX6_rankOf_44 : decode cX6_rankOf 44 = .ok (.invokevirtual 157, 3) := by decide +kernel
theorem dX6_rankOf_47 : decode cX6_rankOf 47 = .ok (.aload_n 0, 1) := by decide +kernel
theorem dX6_rankOf_48 : decode cX6_rankOf 48 = .ok (.getfield 40, 3) := by decide +kernel
theorem dX6_rankOf_51 : decode cX6_rankOf 51 = .ok (.iload_n 1, 1) := by decide +kernel
theorem dX6_rankOf_52 : decode cX6_rankOf 52 = .ok (.invokevirtual 157, 3) := by decide +kernel
theorem dX6_rankOf_55 : decode cX6_rankOf 55 = .ok (.if_icmp .le 6, 3) := by decide +kernel
theorem dX6_rankOf_58 : decode cX6_rankOf 58 = .ok (.iinc 2 1, 3) := by decide +kernel
theorem dX6_rankOf_61 : decode cX6_rankOf 61 = .ok (.iinc 3 1, 3) := by decide +kernel
theorem dX6_rankOf_64 : decode cX6_rankOf 64 = .ok (.goto (-47), 3) := by decide +kernel
theorem dX6_rankOf_67 : decode cX6_rankOf 67 = .ok (.iload_n 2, 1) := by decide +kernel
theorem dX6_rankOf_68 : decode cX6_rankOf 68 = .ok (.ireturn, 1) := by decide +kernel
set_option maxRecDepth 20000 in
theorem ggX6_gate_X6_checkPlace : GoodIn wsX6_gate wsX6_checkPlace := goodIn_ca (goodIn_r _ [11, 12, 13, 14, 15, 16, 17] (by decide +kernel) (by decide +kernel)) (goodIn_sub (fun _ h => List.mem_cons_of_mem _ (List.mem_append_right _ h)) (by decide +kernel))
set_option maxRecDepth 20000 in
theorem gX6_gate_X6_checkPlace : GoodIn wsX6_gate (wsV RX6 54 RX6 yX6_checkPlace wsX6_checkPlace) := goodIn_app (goodIn_of _ (by decide +kernel)) ggX6_gate_X6_checkPlace
set_option maxRecDepth 20000 in
theorem ggX6_gate_X1_isDirection : GoodIn wsX6_gate wsX1_isDirection := goodIn_r _ [20] (by decide +kernel) (by decide +kernel)
set_option maxRecDepth 20000 in
theorem gX6_gate_X1_isDirection : GoodIn wsX6_gate (va_wsS RX6 163 yX1_isDirection wsX1_isDirection) := goodIn_app (goodIn_of _ (by decide +kernel)) ggX6_gate_X1_isDirection
set_option maxRecDepth 20000 in
theorem ggX6_gate_X1_numberOf : GoodIn wsX6_gate wsX1_numberOf := goodIn_r _ [23] (by decide +kernel) (by decide +kernel)
set_option maxRecDepth 20000 in
theorem gX6_gate_X1_numberOf : GoodIn wsX6_gate (va_wsS RX6 61 yX1_numberOf wsX1_numberOf) := goodIn_app (goodIn_of _ (by decide +kernel)) ggX6_gate_X1_numberOf
set_option maxRecDepth 20000 in
theorem ggX6_gate_X2_add : GoodIn wsX6_gate wsX2_add := goodIn_r _ [28, 29, 30, 31, 39, 40, 41] (by decide +kernel) (by decide +kernel)
set_option maxRecDepth 20000 in
theorem gX6_gate_X2_add : GoodIn wsX6_gate (wsV RX6 176 RX2 yX2_add wsX2_add) := goodIn_app (goodIn_of _ (by decide +kernel)) ggX6_gate_X2_add
theorem dX6_gate_0 : decode cX6_gate 0 = .ok (.aload_n 0, 1) := by decide +kernel
theorem dX6_gate_1 : decode cX6_gate 1 = .ok (.iload_n 1, 1) := by decide +kernel
theorem dX6_gate_2 : decode cX6_gate 2 = .ok (.iload_n 2, 1) := by decide +kernel
theorem dX6_gate_3 : decode cX6_gate 3 = .ok (.invokevirtual 54, 3) := by decide +kernel
theorem dX6_gate_6 : decode cX6_gate 6 = .ok (.iload_n 3, 1) := by decide +kernel
theorem dX6_gate_7 : decode cX6_gate 7 = .ok (.invokestatic 163, 3) := by decide +kernel
theorem dX6_gate_10 : decode cX6_gate 10 = .ok (.ifCond .ne 13, 3) := by decide +kernel
theorem dX6_gate_13 : decode cX6_gate 13 = .ok (.new 166, 3) := by decide +kernel
theorem dX6_gate_16 : decode cX6_gate 16 = .ok (.dup, 1) := by decide +kernel
theorem dX6_gate_17 : decode cX6_gate 17 = .ok (.ldc 168, 2) := by decide +kernel
theorem dX6_gate_19 : decode cX6_gate 19 = .ok (.invokespecial 170, 3) := by decide +kernel
theorem dX6_gate_22 : decode cX6_gate 22 = .ok (.athrow, 1) := by decide +kernel
theorem dX6_gate_23 : decode cX6_gate 23 = .ok (.aload_n 0, 1) := by decide +kernel
theorem dX6_gate_24 : decode cX6_gate 24 = .ok (.getfield 26, 3) := by decide +kernel
theorem dX6_gate_27 : decode cX6_gate 27 = .ok (.getfield 171, 3) := by decide +kernel
theorem dX6_gate_30 : decode cX6_gate 30 = .ok (.bipush 6, 2) := by decide +kernel
theorem dX6_gate_32 : decode cX6_gate 32 = .ok (.if_icmp .lt 13, 3) := by decide +kernel
theorem dX6_gate_35 : decode cX6_gate 35 = .ok (.new 94, 3) := by decide +kernel
theorem dX6_gate_38 : decode cX6_gate 38 = .ok (.dup, 1) := by decide +kernel
theorem dX6_gate_39 : decode cX6_gate 39 = .ok (.ldc 174, 2) := by decide +kernel
theorem dX6_gate_41 : decode cX6_gate 41 = .ok (.invokespecial 98, 3) := by decide +kernel
theorem dX6_gate_44 : decode cX6_gate 44 = .ok (.athrow, 1) := by decide +kernel
theorem dX6_gate_45 : decode cX6_gate 45 = .ok (.aload_n 0, 1) := by decide +kernel
theorem dX6_gate_46 : decode cX6_gate 46 = .ok (.getfield 26, 3) := by decide +kernel
theorem dX6_gate_49 : decode cX6_gate 49 = .ok (.iload_n 1, 1) := by decide +kernel
theorem dX6_gate_50 : decode cX6_gate 50 = .ok (.iload_n 2, 1) := by decide +kernel
theorem dX6_gate_51 : decode cX6_gate 51 = .ok (.invokestatic 61, 3) := by decide +kernel
theorem dX6_gate_54 : decode cX6_gate 54 = .ok (.iload_n 3, 1) := by decide +kernel
theorem dX6_gate_55 : decode cX6_gate 55 = .ok (.invokevirtual 176, 3) := by decide +kernel
theorem dX6_gate_58 : decode cX6_gate 58 = .ok (.ireturn, 1) := by decide +kernel
set_option maxRecDepth 20000 in
theorem ggX6_about_X6_checkGate : GoodIn wsX6_about wsX6_checkGate := goodIn_ca (goodIn_r _ [12, 13, 14, 15, 16, 138, 139, 140, 141, 142, 143, 144, 150, 151, 152] (by decide +kernel) (by decide +kernel)) (goodIn_sub (fun _ h => List.mem_cons_of_mem _ (List.mem_append_right _ h)) (by decide +kernel))
set_option maxRecDepth 20000 in
theorem gX6_about_X6_checkGate : GoodIn wsX6_about (wsV RX6 178 RX6 yX6_checkGate wsX6_checkGate) := goodIn_app (goodIn_of _ (by decide +kernel)) ggX6_about_X6_checkGate
set_option maxRecDepth 20000 in
theorem ggX6_about_X6_checkWhat : GoodIn wsX6_about wsX6_checkWhat := goodIn_ca (goodIn_r _ [20, 13, 14] (by decide +kernel) (by decide +kernel)) (goodIn_sub (fun _ h => List.mem_cons_of_mem _ (List.mem_append_right _ h)) (by decide +kernel))
set_option maxRecDepth 20000 in
theorem gX6_about_X6_checkWhat : GoodIn wsX6_about (wsV RX6 112 RX6 yX6_checkWhat wsX6_checkWhat) := goodIn_app (goodIn_of _ (by decide +kernel)) ggX6_about_X6_checkWhat
set_option maxRecDepth 20000 in
theorem ggX6_about_X6_look : GoodIn wsX6_about wsX6_look := goodIn_r _ [24, 2, 15, 25, 6, 26, 27, 28, 29, 30, 31, 32, 33, 34, 35, 36, 37, 38, 39, 40, 41, 42, 43, 44, 45, 46, 47, 48, 49, 50, 51, 52, 53, 54, 55, 56, 57, 58, 59, 60, 61, 62, 63, 64, 65, 66, 67, 68, 69, 70, 71, 72, 73, 74, 75, 76, 77, 78, 79, 80, 81, 82, 11, 83, 3, 84, 85, 86, 87, 88, 89, 90, 91, 92, 93, 94, 95, 96, 97, 98, 99, 100, 101, 102, 103, 104, 105, 106, 107, 108, 109, 110, 111, 112, 113, 114, 115, 116, 117, 118, 119, 120, 121, 122, 138, 139, 140, 141, 142, 143, 144, 145, 146, 147, 148, 149, 150, 151, 152, 153, 154, 155, 156, 157, 158, 159, 160, 161, 162, 163, 164, 165, 166, 167, 168] (by decide +kernel) (by decide +kernel)
set_option maxRecDepth 20000 in
theorem gX6_about_X6_look : GoodIn wsX6_about (wsV RX6 181 RX6 yX6_look wsX6_look) := goodIn_app (goodIn_of _ (by decide +kernel)) ggX6_about_X6_look
set_option maxRecDepth 20000 in
theorem ggX6_about_X3_manyAt : GoodIn wsX6_about wsX3_manyAt := goodIn_r _ [127, 128, 129, 130, 131, 126, 132, 133, 134, 135, 136, 137, 169, 170] (by decide +kernel) (by decide +kernel)
set_option maxRecDepth 20000 in
theorem gX6_about_X3_manyAt : GoodIn wsX6_about (wsV RX6 197 RX3 yX3_manyAt wsX3_manyAt) := goodIn_app (goodIn_of _ (by decide +kernel)) ggX6_about_X3_manyAt
theorem dX6_about_0 : decode cX6_about 0 = .ok (.aload_n 0, 1) := by decide +kernel
theorem dX6_about_1 : decode cX6_about 1 = .ok (.iload_n 1, 1) := by decide +kernel
theorem dX6_about_2 : decode cX6_about 2 = .ok (.invokevirtual 178, 3) := by decide +kernel
theorem dX6_about_5 : decode cX6_about 5 = .ok (.aload_n 0, 1) := by decide +kernel
theorem dX6_about_6 : decode cX6_about 6 = .ok (.iload_n 2, 1) := by decide +kernel
theorem dX6_about_7 : decode cX6_about 7 = .ok (.iconst 5, 1) := by decide +kernel
theorem dX6_about_8 : decode cX6_about 8 = .ok (.invokevirtual 112, 3) := by decide +kernel
theorem dX6_about_11 : decode cX6_about 11 = .ok (.aload_n 0, 1) := by decide +kernel
theorem dX6_about_12 : decode cX6_about 12 = .ok (.iload_n 1, 1) := by decide +kernel
theorem dX6_about_13 : decode cX6_about 13 = .ok (.aload_n 0, 1) := by decide +kernel
theorem dX6_about_14 : decode cX6_about 14 = .ok (.getfield 40, 3) := by decide +kernel
theorem dX6_about_17 : decode cX6_about 17 = .ok (.invokevirtual 181, 3) := by decide +kernel
theorem dX6_about_20 : decode cX6_about 20 = .ok (.pop, 1) := by decide +kernel
theorem dX6_about_21 : decode cX6_about 21 = .ok (.iload_n 2, 1) := by decide +kernel
theorem dX6_about_22 : decode cX6_about 22 = .ok (.tableswitch 62 0 3 #[30, 38, 46, 54], 30) := by decide +kernel
theorem dX6_about_52 : decode cX6_about 52 = .ok (.aload_n 0, 1) := by decide +kernel
theorem dX6_about_53 : decode cX6_about 53 = .ok (.getfield 50, 3) := by decide +kernel
theorem dX6_about_56 : decode cX6_about 56 = .ok (.getfield 185, 3) := by decide +kernel
theorem dX6_about_59 : decode cX6_about 59 = .ok (.ireturn, 1) := by decide +kernel
theorem dX6_about_60 : decode cX6_about 60 = .ok (.aload_n 0, 1) := by decide +kernel
theorem dX6_about_61 : decode cX6_about 61 = .ok (.getfield 50, 3) := by decide +kernel
theorem dX6_about_64 : decode cX6_about 64 = .ok (.getfield 188, 3) := by decide +kernel
theorem dX6_about_67 : decode cX6_about 67 = .ok (.ireturn, 1) := by decide +kernel
theorem dX6_about_68 : decode cX6_about 68 = .ok (.aload_n 0, 1) := by decide +kernel
theorem dX6_about_69 : decode cX6_about 69 = .ok (.getfield 50, 3) := by decide +kernel
theorem dX6_about_72 : decode cX6_about 72 = .ok (.getfield 191, 3) := by decide +kernel
theorem dX6_about_75 : decode cX6_about 75 = .ok (.ireturn, 1) := by decide +kernel
theorem dX6_about_76 : decode cX6_about 76 = .ok (.aload_n 0, 1) := by decide +kernel
theorem dX6_about_77 : decode cX6_about 77 = .ok (.getfield 50, 3) := by decide +kernel
theorem dX6_about_80 : decode cX6_about 80 = .ok (.getfield 194, 3) := by decide +kernel
theorem dX6_about_83 : decode cX6_about 83 = .ok (.ireturn, 1) := by decide +kernel
theorem dX6_about_84 : decode cX6_about 84 = .ok (.aload_n 0, 1) := by decide +kernel
theorem dX6_about_85 : decode cX6_about 85 = .ok (.getfield 33, 3) := by decide +kernel
theorem dX6_about_88 : decode cX6_about 88 = .ok (.iload_n 1, 1) := by decide +kernel
theorem dX6_about_89 : decode cX6_about 89 = .ok (.invokevirtual 197, 3) := by decide +kernel
theorem dX6_about_92 : decode cX6_about 92 = .ok (.ireturn, 1) := by decide +kernel
set_option maxRecDepth 20000 in
theorem ggX6_invite_X6_checkGate : GoodIn wsX6_invite wsX6_checkGate := goodIn_ca (goodIn_r _ [9, 10, 11, 12, 13, 21, 22, 23, 24, 25, 26, 27, 30, 31, 32] (by decide +kernel) (by decide +kernel)) (goodIn_sub (fun _ h => List.mem_cons_of_mem _ (List.mem_append_right _ h)) (by decide +kernel))
set_option maxRecDepth 20000 in
theorem gX6_invite_X6_checkGate : GoodIn wsX6_invite (wsV RX6 178 RX6 yX6_checkGate wsX6_checkGate) := goodIn_app (goodIn_of _ (by decide +kernel)) ggX6_invite_X6_checkGate
set_option maxRecDepth 20000 in
theorem ggX6_invite_X3_add : GoodIn wsX6_invite wsX3_add := goodIn_r _ [18, 19, 20, 28, 29] (by decide +kernel) (by decide +kernel)
set_option maxRecDepth 20000 in
theorem gX6_invite_X3_add : GoodIn wsX6_invite (wsV RX6 203 RX3 yX3_add wsX3_add) := goodIn_app (goodIn_of _ (by decide +kernel)) ggX6_invite_X3_add
theorem dX6_invite_0 : decode cX6_invite 0 = .ok (.aload_n 0, 1) := by decide +kernel
theorem dX6_invite_1 : decode cX6_invite 1 = .ok (.iload_n 1, 1) := by decide +kernel
theorem dX6_invite_2 : decode cX6_invite 2 = .ok (.invokevirtual 178, 3) := by decide +kernel
theorem dX6_invite_5 : decode cX6_invite 5 = .ok (.aload_n 0, 1) := by decide +kernel
theorem dX6_invite_6 : decode cX6_invite 6 = .ok (.getfield 33, 3) := by decide +kernel
theorem dX6_invite_9 : decode cX6_invite 9 = .ok (.getfield 200, 3) := by decide +kernel
theorem dX6_invite_12 : decode cX6_invite 12 = .ok (.iconst 5, 1) := by decide +kernel
theorem dX6_invite_13 : decode cX6_invite 13 = .ok (.if_icmp .lt 13, 3) := by decide +kernel
theorem dX6_invite_16 : decode cX6_invite 16 = .ok (.new 94, 3) := by decide +kernel
theorem dX6_invite_19 : decode cX6_invite 19 = .ok (.dup, 1) := by decide +kernel
theorem dX6_invite_20 : decode cX6_invite 20 = .ok (.ldc 201, 2) := by decide +kernel
theorem dX6_invite_22 : decode cX6_invite 22 = .ok (.invokespecial 98, 3) := by decide +kernel
theorem dX6_invite_25 : decode cX6_invite 25 = .ok (.athrow, 1) := by decide +kernel
theorem dX6_invite_26 : decode cX6_invite 26 = .ok (.aload_n 0, 1) := by decide +kernel
theorem dX6_invite_27 : decode cX6_invite 27 = .ok (.getfield 33, 3) := by decide +kernel
theorem dX6_invite_30 : decode cX6_invite 30 = .ok (.iload_n 1, 1) := by decide +kernel
theorem dX6_invite_31 : decode cX6_invite 31 = .ok (.invokevirtual 203, 3) := by decide +kernel
theorem dX6_invite_34 : decode cX6_invite 34 = .ok (.ireturn, 1) := by decide +kernel
set_option maxRecDepth 20000 in
theorem ggX6_lead_X6_checkPoet : GoodIn wsX6_lead wsX6_checkPoet := goodIn_ca (goodIn_r _ [6, 7, 8, 1, 9, 31, 32, 33, 34, 35, 36, 37, 38, 39] (by decide +kernel) (by decide +kernel)) (goodIn_sub (fun _ h => List.mem_cons_of_mem _ (List.mem_append_right _ h)) (by decide +kernel))
set_option maxRecDepth 20000 in
theorem gX6_lead_X6_checkPoet : GoodIn wsX6_lead (wsV RX6 204 RX6 yX6_checkPoet wsX6_checkPoet) := goodIn_app (goodIn_of _ (by decide +kernel)) ggX6_lead_X6_checkPoet
set_option maxRecDepth 20000 in
theorem ggX6_lead_X6_checkGate : GoodIn wsX6_lead wsX6_checkGate := goodIn_ca (goodIn_r _ [13, 7, 8, 14, 15, 31, 32, 33, 34, 35, 36, 37, 40, 41, 42] (by decide +kernel) (by decide +kernel)) (goodIn_sub (fun _ h => List.mem_cons_of_mem _ (List.mem_append_right _ h)) (by decide +kernel))
set_option maxRecDepth 20000 in
theorem gX6_lead_X6_checkGate : GoodIn wsX6_lead (wsV RX6 178 RX6 yX6_checkGate wsX6_checkGate) := goodIn_app (goodIn_of _ (by decide +kernel)) ggX6_lead_X6_checkGate
set_option maxRecDepth 20000 in
theorem ggX6_lead_X3_gateOf : GoodIn wsX6_lead wsX3_gateOf := goodIn_r _ [20, 21, 22, 23, 24, 19, 25, 26, 38, 39] (by decide +kernel) (by decide +kernel)
set_option maxRecDepth 20000 in
theorem gX6_lead_X3_gateOf : GoodIn wsX6_lead (wsV RX6 207 RX3 yX3_gateOf wsX3_gateOf) := goodIn_app (goodIn_of _ (by decide +kernel)) ggX6_lead_X3_gateOf
set_option maxRecDepth 20000 in
theorem ggX6_lead_X3_setGate : GoodIn wsX6_lead wsX3_setGate := goodIn_r _ [30, 21, 22, 23, 24, 19, 25, 26, 38, 39] (by decide +kernel) (by decide +kernel)
set_option maxRecDepth 20000 in
theorem gX6_lead_X3_setGate : GoodIn wsX6_lead (wsV RX6 210 RX3 yX3_setGate wsX3_setGate) := goodIn_app (goodIn_of _ (by decide +kernel)) ggX6_lead_X3_setGate
theorem dX6_lead_0 : decode cX6_lead 0 = .ok (.aload_n 0, 1) := by decide +kernel
theorem dX6_lead_1 : decode cX6_lead 1 = .ok (.iload_n 1, 1) := by decide +kernel
theorem dX6_lead_2 : decode cX6_lead 2 = .ok (.invokevirtual 204, 3) := by decide +kernel
theorem dX6_lead_5 : decode cX6_lead 5 = .ok (.aload_n 0, 1) := by decide +kernel
theorem dX6_lead_6 : decode cX6_lead 6 = .ok (.iload_n 2, 1) := by decide +kernel
theorem dX6_lead_7 : decode cX6_lead 7 = .ok (.invokevirtual 178, 3) := by decide +kernel
theorem dX6_lead_10 : decode cX6_lead 10 = .ok (.aload_n 0, 1) := by decide +kernel
theorem dX6_lead_11 : decode cX6_lead 11 = .ok (.getfield 33, 3) := by decide +kernel
theorem dX6_lead_14 : decode cX6_lead 14 = .ok (.iload_n 1, 1) := by decide +kernel
theorem dX6_lead_15 : decode cX6_lead 15 = .ok (.invokevirtual 207, 3) := by decide +kernel
theorem dX6_lead_18 : decode cX6_lead 18 = .ok (.istore_n 3, 1) := by decide +kernel
theorem dX6_lead_19 : decode cX6_lead 19 = .ok (.aload_n 0, 1) := by decide +kernel
theorem dX6_lead_20 : decode cX6_lead 20 = .ok (.getfield 33, 3) := by decide +kernel
theorem dX6_lead_23 : decode cX6_lead 23 = .ok (.iload_n 1, 1) := by decide +kernel
theorem dX6_lead_24 : decode cX6_lead 24 = .ok (.iload_n 2, 1) := by decide +kernel
theorem dX6_lead_25 : decode cX6_lead 25 = .ok (.invokevirtual 210, 3) := by decide +kernel
theorem dX6_lead_28 : decode cX6_lead 28 = .ok (.iload_n 3, 1) := by decide +kernel
theorem dX6_lead_29 : decode cX6_lead 29 = .ok (.ireturn, 1) := by decide +kernel
set_option maxRecDepth 20000 in
theorem ggX6_lines_X6_checkPoet : GoodIn wsX6_lines wsX6_checkPoet := goodIn_ca (goodIn_r _ [6, 7, 8, 9, 10, 17, 18, 19, 20, 21, 22, 23, 24, 25] (by decide +kernel) (by decide +kernel)) (goodIn_sub (fun _ h => List.mem_cons_of_mem _ (List.mem_append_right _ h)) (by decide +kernel))
set_option maxRecDepth 20000 in
theorem gX6_lines_X6_checkPoet : GoodIn wsX6_lines (wsV RX6 204 RX6 yX6_checkPoet wsX6_checkPoet) := goodIn_app (goodIn_of _ (by decide +kernel)) ggX6_lines_X6_checkPoet
set_option maxRecDepth 20000 in
theorem ggX6_lines_X0_written : GoodIn wsX6_lines wsX0_written := goodIn_r _ [15, 16, 26, 27, 28, 29] (by decide +kernel) (by decide +kernel)
set_option maxRecDepth 20000 in
theorem gX6_lines_X0_written : GoodIn wsX6_lines (wsV RX6 213 RX0 yX0_written wsX0_written) := goodIn_app (goodIn_of _ (by decide +kernel)) ggX6_lines_X0_written
theorem dX6_lines_0 : decode cX6_lines 0 = .ok (.aload_n 0, 1) := by decide +kernel
theorem dX6_lines_1 : decode cX6_lines 1 = .ok (.iload_n 1, 1) := by decide +kernel
theorem dX6_lines_2 : decode cX6_lines 2 = .ok (.invokevirtual 204, 3) := by decide +kernel
theorem dX6_lines_5 : decode cX6_lines 5 = .ok (.aload_n 0, 1) := by decide +kernel
theorem dX6_lines_6 : decode cX6_lines 6 = .ok (.getfield 40, 3) := by decide +kernel
theorem dX6_lines_9 : decode cX6_lines 9 = .ok (.iload_n 1, 1) := by decide +kernel
theorem dX6_lines_10 : decode cX6_lines 10 = .ok (.invokevirtual 213, 3) := by decide +kernel
theorem dX6_lines_13 : decode cX6_lines 13 = .ok (.ireturn, 1) := by decide +kernel
set_option maxRecDepth 20000 in
theorem ggX6_count_X6_checkWhat : GoodIn wsX6_count wsX6_checkWhat := goodIn_ca (goodIn_r _ [14, 15, 16] (by decide +kernel) (by decide +kernel)) (goodIn_sub (fun _ h => List.mem_cons_of_mem _ (List.mem_append_right _ h)) (by decide +kernel))
set_option maxRecDepth 20000 in
theorem gX6_count_X6_checkWhat : GoodIn wsX6_count (wsV RX6 112 RX6 yX6_checkWhat wsX6_checkWhat) := goodIn_app (goodIn_of _ (by decide +kernel)) ggX6_count_X6_checkWhat
set_option maxRecDepth 20000 in
theorem ggX6_count_X0_isFullMoon : GoodIn wsX6_count wsX0_isFullMoon := goodIn_r _ [21, 22, 70, 71, 72, 73] (by decide +kernel) (by decide +kernel)
set_option maxRecDepth 20000 in
theorem gX6_count_X0_isFullMoon : GoodIn wsX6_count (wsV RX6 219 RX0 yX0_isFullMoon wsX0_isFullMoon) := goodIn_app (goodIn_of _ (by decide +kernel)) ggX6_count_X0_isFullMoon
set_option maxRecDepth 20000 in
theorem ggX6_count_X1_manyOf : GoodIn wsX6_count wsX1_manyOf := goodIn_r _ [27, 28, 74, 75, 76, 77, 78, 79, 80, 81, 82] (by decide +kernel) (by decide +kernel)
set_option maxRecDepth 20000 in
theorem gX6_count_X1_manyOf : GoodIn wsX6_count (wsV RX6 223 RX1 yX1_manyOf wsX1_manyOf) := goodIn_app (goodIn_of _ (by decide +kernel)) ggX6_count_X1_manyOf
set_option maxRecDepth 20000 in
theorem ggX6_count_X4_manyHere : GoodIn wsX6_count wsX4_manyHere := goodIn_r _ [33, 34, 35, 36, 37, 32, 38, 39, 40, 41, 42, 43, 88, 89, 90] (by decide +kernel) (by decide +kernel)
set_option maxRecDepth 20000 in
theorem gX6_count_X4_manyHere : GoodIn wsX6_count (wsV RX6 229 RX4 yX4_manyHere wsX4_manyHere) := goodIn_app (goodIn_of _ (by decide +kernel)) ggX6_count_X4_manyHere
set_option maxRecDepth 20000 in
theorem ggX6_count_X6_changingCount : GoodIn wsX6_count wsX6_changingCount := goodIn_r _ [47, 48, 5, 49, 50, 51, 32, 52, 34, 35, 36, 37, 38, 39, 40, 41, 42, 43, 53, 54, 55, 20, 56, 57, 58, 59, 60, 61, 62, 70, 71, 72, 73, 63, 64, 65, 66, 67, 68, 69, 88, 89, 90] (by decide +kernel) (by decide +kernel)
set_option maxRecDepth 20000 in
theorem gX6_count_X6_changingCount : GoodIn wsX6_count (wsV RX6 233 RX6 yX6_changingCount wsX6_changingCount) := goodIn_app (goodIn_of _ (by decide +kernel)) ggX6_count_X6_changingCount
theorem dX6_count_0 : decode cX6_count 0 = .ok (.aload_n 0, 1) := by decide +kernel
theorem dX6_count_1 : decode cX6_count 1 = .ok (.iload_n 1, 1) := by decide +kernel
theorem dX6_count_2 : decode cX6_count 2 = .ok (.bipush 11, 2) := by decide +kernel
theorem dX6_count_4 : decode cX6_count 4 = .ok (.invokevirtual 112, 3) := by decide +kernel
theorem dX6_count_7 : decode cX6_count 7 = .ok (.iload_n 1, 1) := by decide +kernel
theorem dX6_count_8 : decode cX6_count 8 = .ok (.tableswitch 130 0 9 #[56, 64, 130, 80, 89, 98, 106, 130, 114, 122], 56) := by decide +kernel
theorem dX6_count_64 : decode cX6_count 64 = .ok (.aload_n 0, 1) := by decide +kernel
theorem dX6_count_65 : decode cX6_count 65 = .ok (.getfield 40, 3) := by decide +kernel
theorem dX6_count_68 : decode cX6_count 68 = .ok (.getfield 216, 3) := by decide +kernel
theorem dX6_count_71 : decode cX6_count 71 = .ok (.ireturn, 1) := by decide +kernel
theorem dX6_count_72 : decode cX6_count 72 = .ok (.aload_n 0, 1) := by decide +kernel
theorem dX6_count_73 : decode cX6_count 73 = .ok (.getfield 40, 3) := by decide +kernel
theorem dX6_count_76 : decode cX6_count 76 = .ok (.invokevirtual 219, 3) := by decide +kernel
theorem dX6_count_79 : decode cX6_count 79 = .ok (.ifCond .eq 7, 3) := by decide +kernel
theorem dX6_count_82 : decode cX6_count 82 = .ok (.iconst 1, 1) := by decide +kernel
theorem dX6_count_83 : decode cX6_count 83 = .ok (.goto 4, 3) := by decide +kernel
theorem dX6_count_86 : decode cX6_count 86 = .ok (.iconst 0, 1) := by decide +kernel
theorem dX6_count_87 : decode cX6_count 87 = .ok (.ireturn, 1) := by decide +kernel
theorem dX6_count_88 : decode cX6_count 88 = .ok (.aload_n 0, 1) := by decide +kernel
theorem dX6_count_89 : decode cX6_count 89 = .ok (.getfield 10, 3) := by decide +kernel
theorem dX6_count_92 : decode cX6_count 92 = .ok (.iconst 1, 1) := by decide +kernel
theorem dX6_count_93 : decode cX6_count 93 = .ok (.invokevirtual 223, 3) := by decide +kernel
theorem dX6_count_96 : decode cX6_count 96 = .ok (.ireturn, 1) := by decide +kernel
theorem dX6_count_97 : decode cX6_count 97 = .ok (.aload_n 0, 1) := by decide +kernel
theorem dX6_count_98 : decode cX6_count 98 = .ok (.getfield 10, 3) := by decide +kernel
theorem dX6_count_101 : decode cX6_count 101 = .ok (.iconst 2, 1) := by decide +kernel
theorem dX6_count_102 : decode cX6_count 102 = .ok (.invokevirtual 223, 3) := by decide +kernel
theorem dX6_count_105 : decode cX6_count 105 = .ok (.ireturn, 1) := by decide +kernel
theorem dX6_count_106 : decode cX6_count 106 = .ok (.aload_n 0, 1) := by decide +kernel
theorem dX6_count_107 : decode cX6_count 107 = .ok (.getfield 10, 3) := by decide +kernel
theorem dX6_count_110 : decode cX6_count 110 = .ok (.getfield 226, 3) := by decide +kernel
theorem dX6_count_113 : decode cX6_count 113 = .ok (.ireturn, 1) := by decide +kernel
theorem dX6_count_114 : decode cX6_count 114 = .ok (.aload_n 0, 1) := by decide +kernel
theorem dX6_count_115 : decode cX6_count 115 = .ok (.getfield 19, 3) := by decide +kernel
theorem dX6_count_118 : decode cX6_count 118 = .ok (.invokevirtual 229, 3) := by decide +kernel
theorem dX6_count_121 : decode cX6_count 121 = .ok (.ireturn, 1) := by decide +kernel
theorem dX6_count_122 : decode cX6_count 122 = .ok (.aload_n 0, 1) := by decide +kernel
theorem dX6_count_123 : decode cX6_count 123 = .ok (.getfield 26, 3) := by decide +kernel
theorem dX6_count_126 : decode cX6_count 126 = .ok (.getfield 171, 3) := by decide +kernel
theorem dX6_count_129 : decode cX6_count 129 = .ok (.ireturn, 1) := by decide +kernel
theorem dX6_count_130 : decode cX6_count 130 = .ok (.aload_n 0, 1) := by decide +kernel
theorem dX6_count_131 : decode cX6_count 131 = .ok (.getfield 33, 3) := by decide +kernel
theorem dX6_count_134 : decode cX6_count 134 = .ok (.getfield 200, 3) := by decide +kernel
theorem dX6_count_137 : decode cX6_count 137 = .ok (.ireturn, 1) := by decide +kernel
theorem dX6_count_138 : decode cX6_count 138 = .ok (.aload_n 0, 1) := by decide +kernel
theorem dX6_count_139 : decode cX6_count 139 = .ok (.iload_n 1, 1) := by decide +kernel
theorem dX6_count_140 : decode cX6_count 140 = .ok (.aload_n 0, 1) := by decide +kernel
theorem dX6_count_141 : decode cX6_count 141 = .ok (.getfield 40, 3) := by decide +kernel
theorem dX6_count_144 : decode cX6_count 144 = .ok (.invokevirtual 233, 3) := by decide +kernel
theorem dX6_count_147 : decode cX6_count 147 = .ok (.ireturn, 1) := by decide +kernel
set_option maxRecDepth 20000 in
theorem ggX6_changingCount_X4_sizesHere : GoodIn wsX6_changingCount wsX4_sizesHere := goodIn_r _ [7, 8, 9, 10, 11, 6, 12, 13, 14, 15, 16, 17, 18, 19, 20, 21, 22, 23, 40, 41, 42, 29, 30, 31, 32] (by decide +kernel) (by decide +kernel)
set_option maxRecDepth 20000 in
theorem gX6_changingCount_X4_sizesHere : GoodIn wsX6_changingCount (wsV RX6 236 RX4 yX4_sizesHere wsX4_sizesHere) := goodIn_app (goodIn_of _ (by decide +kernel)) ggX6_changingCount_X4_sizesHere
set_option maxRecDepth 20000 in
theorem ggX6_changingCount_X0_writtenByAll : GoodIn wsX6_changingCount wsX0_writtenByAll := goodIn_r _ [27, 28, 29, 30, 31, 32] (by decide +kernel) (by decide +kernel)
set_option maxRecDepth 20000 in
theorem gX6_changingCount_X0_writtenByAll : GoodIn wsX6_changingCount (wsV RX6 240 RX0 yX0_writtenByAll wsX0_writtenByAll) := goodIn_app (goodIn_of _ (by decide +kernel)) ggX6_changingCount_X0_writtenByAll
theorem dX6_changingCount_0 : decode cX6_changingCount 0 = .ok (.iload_n 1, 1) := by decide +kernel
theorem dX6_changingCount_1 : decode cX6_changingCount 1 = .ok (.lookupswitch 41 #[(2, 27), (7, 32)], 27) := by decide +kernel
theorem dX6_changingCount_28 : decode cX6_changingCount 28 = .ok (.aload_n 2, 1) := by decide +kernel
theorem dX6_changingCount_29 : decode cX6_changingCount 29 = .ok (.getfield 76, 3) := by decide +kernel
theorem dX6_changingCount_32 : decode cX6_changingCount 32 = .ok (.ireturn, 1) := by decide +kernel
theorem dX6_changingCount_33 : decode cX6_changingCount 33 = .ok (.aload_n 0, 1) := by decide +kernel
theorem dX6_changingCount_34 : decode cX6_changingCount 34 = .ok (.getfield 19, 3) := by decide +kernel
theorem dX6_changingCount_37 : decode cX6_changingCount 37 = .ok (.aload_n 2, 1) := by decide +kernel
theorem dX6_changingCount_38 : decode cX6_changingCount 38 = .ok (.invokevirtual 236, 3) := by decide +kernel
theorem dX6_changingCount_41 : decode cX6_changingCount 41 = .ok (.ireturn, 1) := by decide +kernel
theorem dX6_changingCount_42 : decode cX6_changingCount 42 = .ok (.aload_n 2, 1) := by decide +kernel
theorem dX6_changingCount_43 : decode cX6_changingCount 43 = .ok (.invokevirtual 240, 3) := by decide +kernel
theorem dX6_changingCount_46 : decode cX6_changingCount 46 = .ok (.ireturn, 1) := by decide +kernel
set_option maxRecDepth 20000 in
theorem ggX6_pass_X6_checkDays : GoodIn wsX6_pass wsX6_checkDays := goodIn_ca (goodIn_r _ [6, 7, 8] (by decide +kernel) (by decide +kernel)) (goodIn_sub (fun _ h => List.mem_cons_of_mem _ (List.mem_append_right _ h)) (by decide +kernel))
set_option maxRecDepth 20000 in
theorem gX6_pass_X6_checkDays : GoodIn wsX6_pass (wsV RX6 243 RX6 yX6_checkDays wsX6_checkDays) := goodIn_app (goodIn_of _ (by decide +kernel)) ggX6_pass_X6_checkDays
set_option maxRecDepth 20000 in
theorem ggX6_pass_X6_letPass : GoodIn wsX6_pass wsX6_letPass := goodIn_r _ [12, 13, 14, 15, 16, 17, 5, 18, 19, 20, 21, 22, 23, 24, 25, 26, 27, 28, 29, 30, 31, 32, 33, 34, 35, 36, 37, 38, 39, 40, 41, 42, 43, 44, 45, 46, 47, 48, 49, 50, 51, 52, 53, 54, 55, 56, 57, 58, 59, 60, 61, 62, 63, 64, 65, 66, 67, 68, 69, 70, 71, 72, 73, 74, 75, 76, 77, 78, 79, 80, 81, 82, 83, 84, 85, 86, 87, 88, 89, 90, 91, 92, 93, 94, 95, 96, 97, 98, 99, 100, 101, 102, 103, 104, 105, 106, 107, 108, 109, 110, 111, 112, 113, 114, 115, 116, 117, 118, 119, 120, 121, 122, 123, 124, 125, 126, 127, 128, 129, 130, 131, 132, 133, 134, 135, 136, 137, 138, 139, 140, 141, 142, 143, 144, 145, 146, 147, 148, 149, 150, 151, 152, 153, 154, 155, 156, 157, 158, 159, 160, 161, 162, 163, 164, 165, 166, 167, 168, 169, 170, 171, 172, 173, 174, 175, 176, 177, 178, 179, 180, 181, 182, 183, 184, 185, 186, 187, 188, 189, 190, 191, 192, 193, 194, 195, 203, 204, 205, 206, 196, 197, 198, 199, 200, 201, 202, 207, 208, 209, 210, 211, 212, 213, 214, 215, 216, 217, 218, 219, 220, 221, 222, 223, 224, 225, 226, 227, 228] (by decide +kernel) (by decide +kernel)
set_option maxRecDepth 20000 in
theorem gX6_pass_X6_letPass : GoodIn wsX6_pass (wsV RX6 246 RX6 yX6_letPass wsX6_letPass) := goodIn_app (goodIn_of _ (by decide +kernel)) ggX6_pass_X6_letPass
theorem dX6_pass_0 : decode cX6_pass 0 = .ok (.aload_n 0, 1) := by decide +kernel
theorem dX6_pass_1 : decode cX6_pass 1 = .ok (.iload_n 1, 1) := by decide +kernel
theorem dX6_pass_2 : decode cX6_pass 2 = .ok (.invokevirtual 243, 3) := by decide +kernel
theorem dX6_pass_5 : decode cX6_pass 5 = .ok (.aload_n 0, 1) := by decide +kernel
theorem dX6_pass_6 : decode cX6_pass 6 = .ok (.iload_n 1, 1) := by decide +kernel
theorem dX6_pass_7 : decode cX6_pass 7 = .ok (.aload_n 0, 1) := by decide +kernel
theorem dX6_pass_8 : decode cX6_pass 8 = .ok (.getfield 40, 3) := by decide +kernel
theorem dX6_pass_11 : decode cX6_pass 11 = .ok (.invokevirtual 246, 3) := by decide +kernel
theorem dX6_pass_14 : decode cX6_pass 14 = .ok (.ireturn, 1) := by decide +kernel
set_option maxRecDepth 20000 in
theorem ggX6_foresee_X6_checkDays : GoodIn wsX6_foresee wsX6_checkDays := goodIn_ca (goodIn_r _ [9, 10, 11] (by decide +kernel) (by decide +kernel)) (goodIn_sub (fun _ h => List.mem_cons_of_mem _ (List.mem_append_right _ h)) (by decide +kernel))
set_option maxRecDepth 20000 in
theorem gX6_foresee_X6_checkDays : GoodIn wsX6_foresee (wsV RX6 243 RX6 yX6_checkDays wsX6_checkDays) := goodIn_app (goodIn_of _ (by decide +kernel)) ggX6_foresee_X6_checkDays
set_option maxRecDepth 20000 in
theorem ggX6_foresee_X0_becomeLike : GoodIn wsX6_foresee wsX0_becomeLike := goodIn_r _ [16, 17, 18, 19, 20, 224, 225, 226, 227] (by decide +kernel) (by decide +kernel)
set_option maxRecDepth 20000 in
theorem gX6_foresee_X0_becomeLike : GoodIn wsX6_foresee (wsV RX6 254 RX0 yX0_becomeLike wsX0_becomeLike) := goodIn_app (goodIn_of _ (by decide +kernel)) ggX6_foresee_X0_becomeLike
set_option maxRecDepth 20000 in
theorem ggX6_foresee_X6_letPass : GoodIn wsX6_foresee wsX6_letPass := goodIn_r _ [24, 25, 26, 27, 28, 29, 8, 30, 31, 32, 33, 34, 35, 36, 37, 38, 39, 40, 41, 42, 43, 44, 45, 46, 47, 48, 49, 50, 51, 52, 53, 54, 55, 56, 57, 58, 59, 60, 61, 62, 63, 64, 65, 66, 67, 68, 69, 70, 71, 72, 73, 74, 75, 15, 76, 19, 77, 78, 79, 80, 81, 82, 83, 84, 85, 86, 87, 88, 89, 90, 91, 92, 93, 94, 95, 96, 97, 17, 98, 99, 100, 101, 102, 103, 104, 105, 106, 107, 108, 109, 110, 111, 112, 113, 114, 115, 116, 117, 118, 119, 120, 121, 122, 123, 124, 125, 126, 127, 128, 129, 130, 131, 132, 133, 134, 135, 136, 137, 138, 139, 140, 141, 142, 143, 144, 145, 146, 147, 148, 149, 150, 151, 152, 153, 154, 155, 156, 157, 158, 159, 160, 161, 162, 163, 164, 165, 166, 167, 168, 169, 170, 171, 172, 173, 174, 175, 176, 177, 178, 179, 180, 181, 182, 183, 184, 185, 186, 187, 188, 189, 190, 191, 192, 193, 194, 195, 196, 197, 198, 199, 200, 201, 202, 203, 20, 224, 225, 226, 227, 217, 218, 219, 220, 221, 222, 223, 228, 229, 230, 231, 232, 233, 234, 235, 236, 237, 238, 239, 240, 241, 242, 243, 244, 245, 246, 247, 248, 249] (by decide +kernel) (by decide +kernel)
set_option maxRecDepth 20000 in
theorem gX6_foresee_X6_letPass : GoodIn wsX6_foresee (wsV RX6 246 RX6 yX6_letPass wsX6_letPass) := goodIn_app (goodIn_of _ (by decide +kernel)) ggX6_foresee_X6_letPass
set_option maxRecDepth 20000 in
theorem ggX6_foresee_X6_changingCount : GoodIn wsX6_foresee wsX6_changingCount := goodIn_r _ [207, 25, 31, 208, 209, 210, 37, 211, 44, 212, 35, 36, 38, 39, 40, 41, 42, 43, 190, 74, 75, 15, 76, 19, 213, 214, 215, 216, 20, 224, 225, 226, 227, 217, 218, 219, 220, 221, 222, 223, 228, 229, 230] (by decide +kernel) (by decide +kernel)
set_option maxRecDepth 20000 in
theorem gX6_foresee_X6_changingCount : GoodIn wsX6_foresee (wsV RX6 233 RX6 yX6_changingCount wsX6_changingCount) := goodIn_app (goodIn_of _ (by decide +kernel)) ggX6_foresee_X6_changingCount
theorem dX6_foresee_0 : decode cX6_foresee 0 = .ok (.aload_n 0, 1) := by decide +kernel
theorem dX6_foresee_1 : decode cX6_foresee 1 = .ok (.iload_n 1, 1) := by decide +kernel
theorem dX6_foresee_2 : decode cX6_foresee 2 = .ok (.invokevirtual 243, 3) := by decide +kernel
theorem dX6_foresee_5 : decode cX6_foresee 5 = .ok (.iload_n 2, 1) := by decide +kernel
theorem dX6_foresee_6 : decode cX6_foresee 6 = .ok (.iconst 2, 1) := by decide +kernel
theorem dX6_foresee_7 : decode cX6_foresee 7 = .ok (.if_icmp .eq 25, 3) := by decide +kernel
theorem dX6_foresee_10 : decode cX6_foresee 10 = .ok (.iload_n 2, 1) := by decide +kernel
theorem dX6_foresee_11 : decode cX6_foresee 11 = .ok (.bipush 7, 2) := by decide +kernel
theorem dX6_foresee_13 : decode cX6_foresee 13 = .ok (.if_icmp .eq 19, 3) := by decide +kernel
theorem dX6_foresee_16 : decode cX6_foresee 16 = .ok (.iload_n 2, 1) := by decide +kernel
theorem dX6_foresee_17 : decode cX6_foresee 17 = .ok (.bipush 10, 2) := by decide +kernel
theorem dX6_foresee_19 : decode cX6_foresee 19 = .ok (.if_icmp .eq 13, 3) := by decide +kernel
theorem dX6_foresee_22 : decode cX6_foresee 22 = .ok (.new 249, 3) := by decide +kernel
theorem dX6_foresee_25 : decode cX6_foresee 25 = .ok (.dup, 1) := by decide +kernel
theorem dX6_foresee_26 : decode cX6_foresee 26 = .ok (.ldc 251, 2) := by decide +kernel
theorem dX6_foresee_28 : decode cX6_foresee 28 = .ok (.invokespecial 253, 3) := by decide +kernel
theorem dX6_foresee_31 : decode cX6_foresee 31 = .ok (.athrow, 1) := by decide +kernel
theorem dX6_foresee_32 : decode cX6_foresee 32 = .ok (.aload_n 0, 1) := by decide +kernel
theorem dX6_foresee_33 : decode cX6_foresee 33 = .ok (.getfield 44, 3) := by decide +kernel
theorem dX6_foresee_36 : decode cX6_foresee 36 = .ok (.aload_n 0, 1) := by decide +kernel
theorem dX6_foresee_37 : decode cX6_foresee 37 = .ok (.getfield 40, 3) := by decide +kernel
theorem dX6_foresee_40 : decode cX6_foresee 40 = .ok (.invokevirtual 254, 3) := by decide +kernel
theorem dX6_foresee_43 : decode cX6_foresee 43 = .ok (.aload_n 0, 1) := by decide +kernel
theorem dX6_foresee_44 : decode cX6_foresee 44 = .ok (.iload_n 1, 1) := by decide +kernel
theorem dX6_foresee_45 : decode cX6_foresee 45 = .ok (.aload_n 0, 1) := by decide +kernel
theorem dX6_foresee_46 : decode cX6_foresee 46 = .ok (.getfield 44, 3) := by decide +kernel
theorem dX6_foresee_49 : decode cX6_foresee 49 = .ok (.invokevirtual 246, 3) := by decide +kernel
theorem dX6_foresee_52 : decode cX6_foresee 52 = .ok (.pop, 1) := by decide +kernel
theorem dX6_foresee_53 : decode cX6_foresee 53 = .ok (.aload_n 0, 1) := by decide +kernel
theorem dX6_foresee_54 : decode cX6_foresee 54 = .ok (.iload_n 2, 1) := by decide +kernel
theorem dX6_foresee_55 : decode cX6_foresee 55 = .ok (.aload_n 0, 1) := by decide +kernel
theorem dX6_foresee_56 : decode cX6_foresee 56 = .ok (.getfield 44, 3) := by decide +kernel
theorem dX6_foresee_59 : decode cX6_foresee 59 = .ok (.invokevirtual 233, 3) := by decide +kernel
theorem dX6_foresee_62 : decode cX6_foresee 62 = .ok (.ireturn, 1) := by decide +kernel
set_option maxRecDepth 20000 in
theorem ggX6_advise_X6_checkGate : GoodIn wsX6_advise wsX6_checkGate := goodIn_ca (goodIn_r _ [7, 8, 9, 10, 11, 142, 143, 144, 145, 146, 147, 148, 149, 150, 151] (by decide +kernel) (by decide +kernel)) (goodIn_sub (fun _ h => List.mem_cons_of_mem _ (List.mem_append_left _ (List.mem_append_right _ h))) (by decide +kernel))
set_option maxRecDepth 20000 in
theorem gX6_advise_X6_checkGate : GoodIn wsX6_advise (wsV RX6 178 RX6 yX6_checkGate wsX6_checkGate) := goodIn_app (goodIn_of _ (by decide +kernel)) ggX6_advise_X6_checkGate
set_option maxRecDepth 20000 in
theorem ggX6_advise_X6_checkRock : GoodIn wsX6_advise wsX6_checkRock := goodIn_ca (goodIn_r _ [15, 16, 17] (by decide +kernel) (by decide +kernel)) (goodIn_sub (fun _ h => List.mem_cons_of_mem _ (List.mem_append_right _ h)) (by decide +kernel))
set_option maxRecDepth 20000 in
theorem gX6_advise_X6_checkRock : GoodIn wsX6_advise (wsV RX6 58 RX6 yX6_checkRock wsX6_checkRock) := goodIn_app (goodIn_of _ (by decide +kernel)) ggX6_advise_X6_checkRock
set_option maxRecDepth 20000 in
theorem ggX6_advise_X6_look : GoodIn wsX6_advise wsX6_look := goodIn_r _ [21, 22, 10, 2, 23, 24, 25, 26, 27, 28, 29, 30, 31, 32, 33, 34, 35, 36, 37, 38, 39, 40, 41, 42, 43, 44, 45, 46, 47, 48, 49, 50, 51, 52, 53, 54, 55, 56, 57, 58, 59, 60, 61, 62, 63, 64, 65, 66, 67, 68, 69, 70, 71, 72, 73, 74, 75, 76, 77, 78, 79, 80, 6, 81, 82, 83, 84, 85, 86, 87, 88, 89, 90, 91, 92, 93, 94, 95, 96, 97, 98, 99, 100, 101, 102, 103, 104, 105, 106, 107, 108, 109, 110, 111, 112, 113, 114, 115, 116, 117, 118, 119, 120, 121, 142, 143, 144, 145, 146, 147, 148, 152, 153, 154, 155, 156, 149, 150, 151, 157, 158, 159, 160, 161, 162, 163, 164, 165, 166, 167, 168, 169, 170, 171, 172] (by decide +kernel) (by decide +kernel)
set_option maxRecDepth 20000 in
theorem gX6_advise_X6_look : GoodIn wsX6_advise (wsV RX6 181 RX6 yX6_look wsX6_look) := goodIn_app (goodIn_of _ (by decide +kernel)) ggX6_advise_X6_look
set_option maxRecDepth 20000 in
theorem ggX6_advise_X1_isBare : GoodIn wsX6_advise wsX1_isBare := goodIn_r _ [125, 73, 74, 75, 53, 76, 77, 57, 58, 59, 157, 158, 159, 160, 161, 162, 163, 164, 165] (by decide +kernel) (by decide +kernel)
set_option maxRecDepth 20000 in
theorem gX6_advise_X1_isBare : GoodIn wsX6_advise (wsV RX6 90 RX1 yX1_isBare wsX1_isBare) := goodIn_app (goodIn_of _ (by decide +kernel)) ggX6_advise_X1_isBare
set_option maxRecDepth 20000 in
theorem ggX6_advise_X6_beautyWithRock : GoodIn wsX6_advise wsX6_beautyWithRock := goodIn_r _ [129, 2, 1, 130, 131, 132, 53, 133, 134, 135, 136, 137, 77, 89, 94, 57, 58, 59, 18, 19, 20, 6, 21, 22, 10, 23, 24, 25, 26, 27, 28, 29, 30, 31, 32, 33, 34, 35, 36, 37, 38, 39, 40, 41, 42, 43, 44, 45, 46, 47, 48, 49, 50, 51, 52, 54, 55, 56, 60, 61, 62, 63, 64, 65, 66, 67, 68, 69, 70, 71, 72, 73, 74, 75, 76, 78, 79, 80, 81, 82, 83, 84, 85, 86, 87, 88, 90, 91, 92, 93, 95, 96, 97, 98, 99, 100, 101, 102, 103, 104, 105, 106, 107, 108, 109, 110, 111, 112, 113, 114, 115, 116, 117, 118, 119, 120, 121, 138, 139, 140, 141, 142, 143, 144, 145, 146, 147, 148, 157, 158, 159, 160, 161, 162, 163, 164, 165, 152, 153, 154, 155, 156, 149, 150, 151, 166, 167, 168, 169, 170, 171, 172] (by decide +kernel) (by decide +kernel)
set_option maxRecDepth 20000 in
theorem gX6_advise_X6_beautyWithRock : GoodIn wsX6_advise (wsV RX6 258 RX6 yX6_beautyWithRock wsX6_beautyWithRock) := goodIn_app (goodIn_of _ (by decide +kernel)) ggX6_advise_X6_beautyWithRock
theorem dX6_advise_0 : decode cX6_advise 0 = .ok (.aload_n 0, 1) := by decide +kernel
theorem dX6_advise_1 : decode cX6_advise 1 = .ok (.iload_n 1, 1) := by decide +kernel
theorem dX6_advise_2 : decode cX6_advise 2 = .ok (.invokevirtual 178, 3) := by decide +kernel
theorem dX6_advise_5 : decode cX6_advise 5 = .ok (.aload_n 0, 1) := by decide +kernel
theorem dX6_advise_6 : decode cX6_advise 6 = .ok (.iload_n 2, 1) := by decide +kernel
theorem dX6_advise_7 : decode cX6_advise 7 = .ok (.iload_n 3, 1) := by decide +kernel
theorem dX6_advise_8 : decode cX6_advise 8 = .ok (.invokevirtual 58, 3) := by decide +kernel
theorem dX6_advise_11 : decode cX6_advise 11 = .ok (.iconst (-1), 1) := by decide +kernel
theorem dX6_advise_12 : decode cX6_advise 12 = .ok (.istore 4, 2) := by decide +kernel
theorem dX6_advise_14 : decode cX6_advise 14 = .ok (.aload_n 0, 1) := by decide +kernel
theorem dX6_advise_15 : decode cX6_advise 15 = .ok (.iload_n 1, 1) := by decide +kernel
theorem dX6_advise_16 : decode cX6_advise 16 = .ok (.aload_n 0, 1) := by decide +kernel
theorem dX6_advise_17 : decode cX6_advise 17 = .ok (.getfield 40, 3) := by decide +kernel
theorem dX6_advise_20 : decode cX6_advise 20 = .ok (.invokevirtual 181, 3) := by decide +kernel
theorem dX6_advise_23 : decode cX6_advise 23 = .ok (.istore 5, 2) := by decide +kernel
theorem dX6_advise_25 : decode cX6_advise 25 = .ok (.iconst 0, 1) := by decide +kernel
theorem dX6_advise_26 : decode cX6_advise 26 = .ok (.istore 6, 2) := by decide +kernel
theorem dX6_advise_28 : decode cX6_advise 28 = .ok (.iload 6, 2) := by decide +kernel
theorem dX6_advise_30 : decode cX6_advise 30 = .ok (.bipush 70, 2) := by decide +kernel
theorem dX6_advise_32 : decode cX6_advise 32 = .ok (.if_icmp .ge 47, 3) := by decide +kernel
theorem dX6_advise_35 : decode cX6_advise 35 = .ok (.aload_n 0, 1) := by decide +kernel
theorem dX6_advise_36 : decode cX6_advise 36 = .ok (.getfield 10, 3) := by decide +kernel
theorem dX6_advise_39 : decode cX6_advise 39 = .ok (.iload 6, 2) := by decide +kernel
theorem dX6_advise_41 : decode cX6_advise 41 = .ok (.invokevirtual 90, 3) := by decide +kernel
theorem dX6_advise_44 : decode cX6_advise 44 = .ok (.ifCond .eq 29, 3) := by decide +kernel
theorem dX6_advise_47 : decode cX6_advise 47 = .ok (.aload_n 0, 1) := by decide +kernel
theorem dX6_advise_48 : decode cX6_advise 48 = .ok (.iload_n 1, 1) := by decide +kernel
theorem dX6_advise_49 : decode cX6_advise 49 = .ok (.iload 6, 2) := by decide +kernel
theorem dX6_advise_51 : decode cX6_advise 51 = .ok (.iload_n 2, 1) := by decide +kernel
theorem dX6_advise_52 : decode cX6_advise 52 = .ok (.iload_n 3, 1) := by decide +kernel
theorem dX6_advise_53 : decode cX6_advise 53 = .ok (.invokevirtual 258, 3) := by decide +kernel
theorem dX6_advise_56 : decode cX6_advise 56 = .ok (.istore 7, 2) := by decide +kernel
theorem dX6_advise_58 : decode cX6_advise 58 = .ok (.iload 7, 2) := by decide +kernel
theorem dX6_advise_60 : decode cX6_advise 60 = .ok (.iload 5, 2) := by decide +kernel
theorem dX6_advise_62 : decode cX6_advise 62 = .ok (.if_icmp .le 11, 3) := by decide +kernel
theorem dX6_advise_65 : decode cX6_advise 65 = .ok (.iload 6, 2) := by decide +kernel
theorem dX6_advise_67 : decode cX6_advise 67 = .ok (.istore 4, 2) := by decide +kernel
theorem dX6_advise_69 : decode cX6_advise 69 = .ok (.iload 7, 2) := by decide +kernel
theorem dX6_advise_71 : decode cX6_advise 71 = .ok (.istore 5, 2) := by decide +kernel
theorem dX6_advise_73 : decode cX6_advise 73 = .ok (.iinc 6 1, 3) := by decide +kernel
theorem dX6_advise_76 : decode cX6_advise 76 = .ok (.goto (-48), 3) := by decide +kernel
theorem dX6_advise_79 : decode cX6_advise 79 = .ok (.iload 4, 2) := by decide +kernel
theorem dX6_advise_81 : decode cX6_advise 81 = .ok (.ireturn, 1) := by decide +kernel
set_option maxRecDepth 20000 in
theorem ggX6_finest_X6_look : GoodIn wsX6_finest wsX6_look := goodIn_r _ [8, 9, 1, 10, 11, 12, 13, 14, 15, 16, 17, 18, 19, 20, 21, 22, 23, 24, 25, 26, 27, 28, 29, 30, 31, 32, 33, 34, 35, 36, 37, 38, 39, 40, 41, 42, 43, 44, 45, 46, 47, 48, 49, 50, 51, 52, 53, 54, 55, 56, 57, 58, 59, 60, 61, 62, 63, 64, 65, 66, 67, 68, 7, 69, 70, 71, 72, 73, 74, 75, 76, 77, 78, 79, 80, 81, 82, 83, 84, 85, 86, 87, 88, 89, 90, 91, 92, 93, 94, 95, 96, 97, 98, 99, 100, 101, 102, 103, 104, 105, 106, 107, 108, 109, 110, 111, 112, 113, 114, 115, 116, 120, 121, 122, 123, 124, 117, 118, 119, 125, 126, 127, 128, 129, 130, 131, 132, 133, 134, 135, 136, 137, 138, 139, 140] (by decide +kernel) (by decide +kernel)
set_option maxRecDepth 20000 in
theorem gX6_finest_X6_look : GoodIn wsX6_finest (wsV RX6 181 RX6 yX6_look wsX6_look) := goodIn_app (goodIn_of _ (by decide +kernel)) ggX6_finest_X6_look
theorem dX6_finest_0 : decode cX6_finest 0 = .ok (.iconst (-1), 1) := by decide +kernel
theorem dX6_finest_1 : decode cX6_finest 1 = .ok (.istore_n 1, 1) := by decide +kernel
theorem dX6_finest_2 : decode cX6_finest 2 = .ok (.iconst (-1), 1) := by decide +kernel
theorem dX6_finest_3 : decode cX6_finest 3 = .ok (.istore_n 2, 1) := by decide +kernel
theorem dX6_finest_4 : decode cX6_finest 4 = .ok (.iconst 0, 1) := by decide +kernel
theorem dX6_finest_5 : decode cX6_finest 5 = .ok (.istore_n 3, 1) := by decide +kernel
theorem dX6_finest_6 : decode cX6_finest 6 = .ok (.iload_n 3, 1) := by decide +kernel
theorem dX6_finest_7 : decode cX6_finest 7 = .ok (.aload_n 0, 1) := by decide +kernel
theorem dX6_finest_8 : decode cX6_finest 8 = .ok (.getfield 26, 3) := by decide +kernel
theorem dX6_finest_11 : decode cX6_finest 11 = .ok (.getfield 171, 3) := by decide +kernel
theorem dX6_finest_14 : decode cX6_finest 14 = .ok (.if_icmp .ge 31, 3) := by decide +kernel
theorem dX6_finest_17 : decode cX6_finest 17 = .ok (.aload_n 0, 1) := by decide +kernel
theorem dX6_finest_18 : decode cX6_finest 18 = .ok (.iload_n 3, 1) := by decide +kernel
theorem dX6_finest_19 : decode cX6_finest 19 = .ok (.aload_n 0, 1) := by decide +kernel
theorem dX6_finest_20 : decode cX6_finest 20 = .ok (.getfield 40, 3) := by decide +kernel
theorem dX6_finest_23 : decode cX6_finest 23 = .ok (.invokevirtual 181, 3) := by decide +kernel
theorem dX6_finest_26 : decode cX6_finest 26 = .ok (.istore 4, 2) := by decide +kernel
theorem dX6_finest_28 : decode cX6_finest 28 = .ok (.iload 4, 2) := by decide +kernel
theorem dX6_finest_30 : decode cX6_finest 30 = .ok (.iload_n 2, 1) := by decide +kernel
theorem dX6_finest_31 : decode cX6_finest 31 = .ok (.if_icmp .le 8, 3) := by decide +kernel
theorem dX6_finest_34 : decode cX6_finest 34 = .ok (.iload_n 3, 1) := by decide +kernel
theorem dX6_finest_35 : decode cX6_finest 35 = .ok (.istore_n 1, 1) := by decide +kernel
theorem dX6_finest_36 : decode cX6_finest 36 = .ok (.iload 4, 2) := by decide +kernel
theorem dX6_finest_38 : decode cX6_finest 38 = .ok (.istore_n 2, 1) := by decide +kernel
theorem dX6_finest_39 : decode cX6_finest 39 = .ok (.iinc 3 1, 3) := by decide +kernel
theorem dX6_finest_42 : decode cX6_finest 42 = .ok (.goto (-36), 3) := by decide +kernel
theorem dX6_finest_45 : decode cX6_finest 45 = .ok (.iload_n 1, 1) := by decide +kernel
theorem dX6_finest_46 : decode cX6_finest 46 = .ok (.ireturn, 1) := by decide +kernel
set_option maxRecDepth 20000 in
theorem ggX6_mean_X6_look : GoodIn wsX6_mean wsX6_look := goodIn_r _ [8, 9, 1, 10, 11, 12, 13, 14, 15, 16, 17, 18, 19, 20, 21, 22, 23, 24, 25, 26, 27, 28, 29, 30, 31, 32, 33, 34, 35, 36, 37, 38, 39, 40, 41, 42, 43, 44, 45, 46, 47, 48, 49, 50, 51, 52, 53, 54, 55, 56, 57, 58, 59, 60, 61, 62, 63, 64, 65, 66, 67, 68, 7, 69, 70, 71, 72, 73, 74, 75, 76, 77, 78, 79, 80, 81, 82, 83, 84, 85, 86, 87, 88, 89, 90, 91, 92, 93, 94, 95, 96, 97, 98, 99, 100, 101, 102, 103, 104, 105, 106, 107, 108, 109, 110, 111, 112, 113, 114, 115, 116, 120, 121, 122, 123, 124, 117, 118, 119, 125, 126, 127, 128, 129, 130, 131, 132, 133, 134, 135, 136, 137, 138, 139, 140] (by decide +kernel) (by decide +kernel)
set_option maxRecDepth 20000 in
theorem gX6_mean_X6_look : GoodIn wsX6_mean (wsV RX6 181 RX6 yX6_look wsX6_look) := goodIn_app (goodIn_of _ (by decide +kernel)) ggX6_mean_X6_look
theorem dX6_mean_0 : decode cX6_mean 0 = .ok (.aload_n 0, 1) := by decide +kernel
theorem dX6_mean_1 : decode cX6_mean 1 = .ok (.getfield 26, 3) := by decide +kernel
theorem dX6_mean_4 : decode cX6_mean 4 = .ok (.getfield 171, 3) := by decide +kernel
theorem dX6_mean_7 : decode cX6_mean 7 = .ok (.ifCond .gt 5, 3) := by decide +kernel
theorem dX6_mean_10 : decode cX6_mean 10 = .ok (.dconst 0, 1) := by decide +kernel
theorem dX6_mean_11 : decode cX6_mean 11 = .ok (.dreturn, 1) := by decide +kernel
theorem dX6_mean_12 : decode cX6_mean 12 = .ok (.iconst 0, 1) := by decide +kernel
theorem dX6_mean_13 : decode cX6_mean 13 = .ok (.istore_n 1, 1) := by decide +kernel
theorem dX6_mean_14 : decode cX6_mean 14 = .ok (.iconst 0, 1) := by decide +kernel
theorem dX6_mean_15 : decode cX6_mean 15 = .ok (.istore_n 2, 1) := by decide +kernel
theorem dX6_mean_16 : decode cX6_mean 16 = .ok (.iload_n 2, 1) := by decide +kernel
theorem dX6_mean_17 : decode cX6_mean 17 = .ok (.aload_n 0, 1) := by decide +kernel
theorem dX6_mean_18 : decode cX6_mean 18 = .ok (.getfield 26, 3) := by decide +kernel
theorem dX6_mean_21 : decode cX6_mean 21 = .ok (.getfield 171, 3) := by decide +kernel
theorem dX6_mean_24 : decode cX6_mean 24 = .ok (.if_icmp .ge 21, 3) := by decide +kernel
theorem dX6_mean_27 : decode cX6_mean 27 = .ok (.iload_n 1, 1) := by decide +kernel
theorem dX6_mean_28 : decode cX6_mean 28 = .ok (.aload_n 0, 1) := by decide +kernel
theorem dX6_mean_29 : decode cX6_mean 29 = .ok (.iload_n 2, 1) := by decide +kernel
theorem dX6_mean_30 : decode cX6_mean 30 = .ok (.aload_n 0, 1) := by decide +kernel
theorem dX6_mean_31 : decode cX6_mean 31 = .ok (.getfield 40, 3) := by decide +kernel
theorem dX6_mean_34 : decode cX6_mean 34 = .ok (.invokevirtual 181, 3) := by decide +kernel
theorem dX6_mean_37 : decode cX6_mean 37 = .ok (.iadd, 1) := by decide +kernel
theorem dX6_mean_38 : decode cX6_mean 38 = .ok (.istore_n 1, 1) := by decide +kernel
theorem dX6_mean_39 : decode cX6_mean 39 = .ok (.iinc 2 1, 3) := by decide +kernel
theorem dX6_mean_42 : decode cX6_mean 42 = .ok (.goto (-26), 3) := by decide +kernel
theorem dX6_mean_45 : decode cX6_mean 45 = .ok (.iload_n 1, 1) := by decide +kernel
theorem dX6_mean_46 : decode cX6_mean 46 = .ok (.i2d, 1) := by decide +kernel
theorem dX6_mean_47 : decode cX6_mean 47 = .ok (.aload_n 0, 1) := by decide +kernel
theorem dX6_mean_48 : decode cX6_mean 48 = .ok (.getfield 26, 3) := by decide +kernel
theorem dX6_mean_51 : decode cX6_mean 51 = .ok (.getfield 171, 3) := by decide +kernel
theorem dX6_mean_54 : decode cX6_mean 54 = .ok (.i2d, 1) := by decide +kernel
theorem dX6_mean_55 : decode cX6_mean 55 = .ok (.ddiv, 1) := by decide +kernel
theorem dX6_mean_56 : decode cX6_mean 56 = .ok (.dreturn, 1) := by decide +kernel
set_option maxRecDepth 20000 in
theorem ggX6_digest_X6_count : GoodIn wsX6_digest wsX6_count := goodIn_ca (goodIn_r _ [9, 10, 11, 12, 13, 14, 15, 16, 3, 4, 17, 18, 19, 8, 20, 21, 22, 23, 24, 25, 26, 27, 28, 29, 30, 31, 32, 33, 34, 35, 36, 37, 38, 39, 40, 41, 42, 43, 44, 45, 46, 47, 48, 49, 50, 51, 52, 53, 54, 55, 56, 57, 58, 59, 60, 61, 62, 63, 64, 65, 66, 67, 68, 254, 255, 256, 257, 258, 259, 260, 263, 264, 265, 266, 267, 268, 269, 270, 271, 272, 273, 274, 275, 276, 277, 278, 261, 262, 279, 280, 281] (by decide +kernel) (by decide +kernel)) (goodIn_sub (fun _ h => List.mem_cons_of_mem _ (List.mem_append_right _ h)) (by decide +kernel))
set_option maxRecDepth 20000 in
theorem gX6_digest_X6_count : GoodIn wsX6_digest (wsV RX6 266 RX6 yX6_count wsX6_count) := goodIn_app (goodIn_of _ (by decide +kernel)) ggX6_digest_X6_count
set_option maxRecDepth 20000 in
theorem ggX6_digest_X6_digestOfCells : GoodIn wsX6_digest wsX6_digestOfCells := goodIn_ca (goodIn_r _ [72, 2, 73, 74, 75, 8, 76, 12, 77, 78, 79, 80, 21, 22, 81, 82, 32, 83, 17, 18, 19, 20, 84, 85, 86, 87, 88, 89, 90, 34, 91, 92, 93, 94, 95, 96, 97, 98, 99, 100, 101, 102, 103, 104, 105, 106, 107, 108, 109, 110, 111, 112, 113, 114, 115, 116, 117, 118, 254, 255, 256, 257, 258, 259, 260, 267, 268, 269, 270, 271, 272, 273, 274, 275] (by decide +kernel) (by decide +kernel)) (goodIn_sub (fun _ h => List.mem_cons_of_mem _ (List.mem_append_right _ h)) (by decide +kernel))
set_option maxRecDepth 20000 in
theorem gX6_digest_X6_digestOfCells : GoodIn wsX6_digest (wsV RX6 269 RX6 yX6_digestOfCells wsX6_digestOfCells) := goodIn_app (goodIn_of _ (by decide +kernel)) ggX6_digest_X6_digestOfCells
set_option maxRecDepth 20000 in
theorem ggX6_digest_X6_digestOfCarps : GoodIn wsX6_digest wsX6_digestOfCarps := goodIn_ca (goodIn_r _ [122, 14, 123, 2, 124, 125, 126, 8, 127, 10, 128, 129, 130, 131, 21, 22, 17, 18, 19, 20, 132, 133, 134, 38, 135, 136, 46, 47, 48, 49, 40, 137, 60, 61, 26, 62, 63, 138, 42, 43, 44, 45, 139, 140, 141, 142, 254, 255, 256, 257, 258, 259, 260, 279, 280, 281, 263, 264, 265, 266] (by decide +kernel) (by decide +kernel)) (goodIn_sub (fun _ h => List.mem_cons_of_mem _ (List.mem_append_right _ h)) (by decide +kernel))
set_option maxRecDepth 20000 in
theorem gX6_digest_X6_digestOfCarps : GoodIn wsX6_digest (wsV RX6 273 RX6 yX6_digestOfCarps wsX6_digestOfCarps) := goodIn_app (goodIn_of _ (by decide +kernel)) ggX6_digest_X6_digestOfCarps
set_option maxRecDepth 20000 in
theorem ggX6_digest_X6_digestOfGates : GoodIn wsX6_digest wsX6_digestOfGates := goodIn_ca (goodIn_r _ [146, 15, 16, 2, 147, 148, 149, 8, 150, 10, 151, 152, 153, 154, 155, 3, 156, 157, 158, 159, 21, 22, 17, 18, 19, 20, 160, 161, 162, 163, 12, 164, 165, 166, 167, 168, 169, 170, 171, 172, 173, 174, 175, 176, 177, 178, 179, 180, 181, 182, 183, 184, 185, 186, 187, 188, 189, 190, 191, 192, 32, 193, 194, 195, 91, 92, 93, 196, 197, 198, 199, 82, 83, 200, 85, 86, 201, 202, 203, 204, 205, 88, 89, 90, 34, 206, 207, 208, 209, 14, 87, 94, 95, 96, 97, 98, 99, 100, 101, 102, 103, 210, 211, 212, 213, 214, 215, 216, 38, 217, 40, 136, 45, 59, 60, 61, 26, 62, 63, 218, 219, 220, 221, 222, 223, 224, 225, 226, 227, 228, 229, 230, 231, 232, 233, 234, 235, 236, 237, 238, 239, 240, 241, 254, 255, 256, 257, 258, 259, 260, 276, 277, 278, 282, 283, 284, 285, 286, 267, 268, 269, 270, 271, 272, 273, 274, 275, 279, 280, 281, 263, 264, 265, 266, 261, 262] (by decide +kernel) (by decide +kernel)) (goodIn_sub (fun _ h => List.mem_cons_of_mem _ (List.mem_append_right _ h)) (by decide +kernel))
set_option maxRecDepth 20000 in
theorem gX6_digest_X6_digestOfGates : GoodIn wsX6_digest (wsV RX6 276 RX6 yX6_digestOfGates wsX6_digestOfGates) := goodIn_app (goodIn_of _ (by decide +kernel)) ggX6_digest_X6_digestOfGates
set_option maxRecDepth 20000 in
theorem ggX6_digest_X6_lines : GoodIn wsX6_digest wsX6_lines := goodIn_ca (goodIn_r _ [245, 10, 246, 247, 248, 8, 249, 21, 22, 3, 4, 250, 251, 252, 26, 253, 68, 254, 255, 256, 257, 258, 259, 260, 261, 262, 263, 264, 265, 266] (by decide +kernel) (by decide +kernel)) (goodIn_sub (fun _ h => List.mem_cons_of_mem _ (List.mem_append_right _ h)) (by decide +kernel))
set_option maxRecDepth 20000 in
theorem gX6_digest_X6_lines : GoodIn wsX6_digest (wsV RX6 279 RX6 yX6_lines wsX6_lines) := goodIn_app (goodIn_of _ (by decide +kernel)) ggX6_digest_X6_lines
theorem dX6_digest_0 : decode cX6_digest 0 = .ok (.ldc2_w 262, 3) := by decide +kernel
theorem dX6_digest_3 : decode cX6_digest 3 = .ok (.lstore_n 1, 1) := by decide +kernel
theorem dX6_digest_4 : decode cX6_digest 4 = .ok (.iconst 0, 1) := by decide +kernel
theorem dX6_digest_5 : decode cX6_digest 5 = .ok (.istore_n 3, 1) := by decide +kernel
theorem dX6_digest_6 : decode cX6_digest 6 = .ok (.iload_n 3, 1) := by decide +kernel
theorem dX6_digest_7 : decode cX6_digest 7 = .ok (.bipush 11, 2) := by decide +kernel
theorem dX6_digest_9 : decode cX6_digest 9 = .ok (.if_icmp .ge 22, 3) := by decide +kernel
theorem dX6_digest_12 : decode cX6_digest 12 = .ok (.lload_n 1, 1) := by decide +kernel
theorem dX6_digest_13 : decode cX6_digest 13 = .ok (.ldc2_w 264, 3) := by decide +kernel
theorem dX6_digest_16 : decode cX6_digest 16 = .ok (.lmul, 1) := by decide +kernel
theorem dX6_digest_17 : decode cX6_digest 17 = .ok (.aload_n 0, 1) := by decide +kernel
theorem dX6_digest_18 : decode cX6_digest 18 = .ok (.iload_n 3, 1) := by decide +kernel
theorem dX6_digest_19 : decode cX6_digest 19 = .ok (.invokevirtual 266, 3) := by decide +kernel
theorem dX6_digest_22 : decode cX6_digest 22 = .ok (.i2l, 1) := by decide +kernel
theorem dX6_digest_23 : decode cX6_digest 23 = .ok (.ladd, 1) := by decide +kernel
theorem dX6_digest_24 : decode cX6_digest 24 = .ok (.lstore_n 1, 1) := by decide +kernel
theorem dX6_digest_25 : decode cX6_digest 25 = .ok (.iinc 3 1, 3) := by decide +kernel
theorem dX6_digest_28 : decode cX6_digest 28 = .ok (.goto (-22), 3) := by decide +kernel
theorem dX6_digest_31 : decode cX6_digest 31 = .ok (.aload_n 0, 1) := by decide +kernel
theorem dX6_digest_32 : decode cX6_digest 32 = .ok (.lload_n 1, 1) := by decide +kernel
theorem dX6_digest_33 : decode cX6_digest 33 = .ok (.invokevirtual 269, 3) := by decide +kernel
theorem dX6_digest_36 : decode cX6_digest 36 = .ok (.lstore_n 1, 1) := by decide +kernel
theorem dX6_digest_37 : decode cX6_digest 37 = .ok (.aload_n 0, 1) := by decide +kernel
theorem dX6_digest_38 : decode cX6_digest 38 = .ok (.lload_n 1, 1) := by decide +kernel
theorem dX6_digest_39 : decode cX6_digest 39 = .ok (.invokevirtual 273, 3) := by decide +kernel
theorem dX6_digest_42 : decode cX6_digest 42 = .ok (.lstore_n 1, 1) := by decide +kernel
theorem dX6_digest_43 : decode cX6_digest 43 = .ok (.aload_n 0, 1) := by decide +kernel
theorem dX6_digest_44 : decode cX6_digest 44 = .ok (.lload_n 1, 1) := by decide +kernel
theorem dX6_digest_45 : decode cX6_digest 45 = .ok (.invokevirtual 276, 3) := by decide +kernel
theorem dX6_digest_48 : decode cX6_digest 48 = .ok (.lstore_n 1, 1) := by decide +kernel
theorem dX6_digest_49 : decode cX6_digest 49 = .ok (.iconst 0, 1) := by decide +kernel
theorem dX6_digest_50 : decode cX6_digest 50 = .ok (.istore_n 3, 1) := by decide +kernel
theorem dX6_digest_51 : decode cX6_digest 51 = .ok (.iload_n 3, 1) := by decide +kernel
theorem dX6_digest_52 : decode cX6_digest 52 = .ok (.aload_n 0, 1) := by decide +kernel
theorem dX6_digest_53 : decode cX6_digest 53 = .ok (.getfield 33, 3) := by decide +kernel
theorem dX6_digest_56 : decode cX6_digest 56 = .ok (.getfield 200, 3) := by decide +kernel
theorem dX6_digest_59 : decode cX6_digest 59 = .ok (.if_icmp .ge 22, 3) := by decide +kernel
theorem dX6_digest_62 : decode cX6_digest 62 = .ok (.lload_n 1, 1) := by decide +kernel
theorem dX6_digest_63 : decode cX6_digest 63 = .ok (.ldc2_w 264, 3) := by decide +kernel
theorem dX6_digest_66 : decode cX6_digest 66 = .ok (.lmul, 1) := by decide +kernel
theorem dX6_digest_67 : decode cX6_digest 67 = .ok (.aload_n 0, 1) := by decide +kernel
theorem dX6_digest_68 : decode cX6_digest 68 = .ok (.iload_n 3, 1) := by decide +kernel
theorem dX6_digest_69 : decode cX6_digest 69 = .ok (.invokevirtual 279, 3) := by decide +kernel
theorem dX6_digest_72 : decode cX6_digest 72 = .ok (.i2l, 1) := by decide +kernel
theorem dX6_digest_73 : decode cX6_digest 73 = .ok (.ladd, 1) := by decide +kernel
theorem dX6_digest_74 : decode cX6_digest 74 = .ok (.lstore_n 1, 1) := by decide +kernel
theorem dX6_digest_75 : decode cX6_digest 75 = .ok (.iinc 3 1, 3) := by decide +kernel
theorem dX6_digest_78 : decode cX6_digest 78 = .ok (.goto (-27), 3) := by decide +kernel
theorem dX6_digest_81 : decode cX6_digest 81 = .ok (.lload_n 1, 1) := by decide +kernel
theorem dX6_digest_82 : decode cX6_digest 82 = .ok (.lreturn, 1) := by decide +kernel
set_option maxRecDepth 20000 in
theorem ggX6_digestOfCells_X6_cell : GoodIn wsX6_digestOfCells wsX6_cell := goodIn_ca (goodIn_r _ [6, 7, 8, 9, 10, 5, 11, 12, 13, 14, 15, 16, 17, 18, 19, 20, 21, 22, 23, 24, 25, 26, 27, 28, 29, 30, 31, 32, 33, 34, 35, 36, 37, 38, 39, 40, 41, 42, 43, 44, 45, 46, 47, 48, 49, 50, 51, 52, 53, 54, 55, 56, 57, 58, 59, 60, 61, 62, 63, 64, 65, 66, 67, 68, 69, 70, 71, 72, 73] (by decide +kernel) (by decide +kernel)) (goodIn_sub (fun _ h => List.mem_cons_of_mem _ (List.mem_append_right _ h)) (by decide +kernel))
set_option maxRecDepth 20000 in
theorem gX6_digestOfCells_X6_cell : GoodIn wsX6_digestOfCells (wsV RX6 282 RX6 yX6_cell wsX6_cell) := goodIn_app (goodIn_of _ (by decide +kernel)) ggX6_digestOfCells_X6_cell
theorem dX6_digestOfCells_0 : decode cX6_digestOfCells 0 = .ok (.lload_n 1, 1) := by decide +kernel
theorem dX6_digestOfCells_1 : decode cX6_digestOfCells 1 = .ok (.lstore_n 3, 1) := by decide +kernel
theorem dX6_digestOfCells_2 : decode cX6_digestOfCells 2 = .ok (.iconst 0, 1) := by decide +kernel
theorem dX6_digestOfCells_3 : decode cX6_digestOfCells 3 = .ok (.istore 5, 2) := by decide +kernel
theorem dX6_digestOfCells_5 : decode cX6_digestOfCells 5 = .ok (.iload 5, 2) := by decide +kernel
theorem dX6_digestOfCells_7 : decode cX6_digestOfCells 7 = .ok (.bipush 7, 2) := by decide +kernel
theorem dX6_digestOfCells_9 : decode cX6_digestOfCells 9 = .ok (.if_icmp .ge 58, 3) := by decide +kernel
theorem dX6_digestOfCells_12 : decode cX6_digestOfCells 12 = .ok (.iconst 0, 1) := by decide +kernel
theorem dX6_digestOfCells_13 : decode cX6_digestOfCells 13 = .ok (.istore 6, 2) := by decide +kernel
theorem dX6_digestOfCells_15 : decode cX6_digestOfCells 15 = .ok (.iload 6, 2) := by decide +kernel
theorem dX6_digestOfCells_17 : decode cX6_digestOfCells 17 = .ok (.bipush 10, 2) := by decide +kernel
theorem dX6_digestOfCells_19 : decode cX6_digestOfCells 19 = .ok (.if_icmp .ge 42, 3) := by decide +kernel
theorem dX6_digestOfCells_22 : decode cX6_digestOfCells 22 = .ok (.iconst 0, 1) := by decide +kernel
theorem dX6_digestOfCells_23 : decode cX6_digestOfCells 23 = .ok (.istore 7, 2) := by decide +kernel
theorem dX6_digestOfCells_25 : decode cX6_digestOfCells 25 = .ok (.iload 7, 2) := by decide +kernel
theorem dX6_digestOfCells_27 : decode cX6_digestOfCells 27 = .ok (.iconst 5, 1) := by decide +kernel
theorem dX6_digestOfCells_28 : decode cX6_digestOfCells 28 = .ok (.if_icmp .ge 27, 3) := by decide +kernel
theorem dX6_digestOfCells_31 : decode cX6_digestOfCells 31 = .ok (.lload_n 3, 1) := by decide +kernel
theorem dX6_digestOfCells_32 : decode cX6_digestOfCells 32 = .ok (.ldc2_w 264, 3) := by decide +kernel
theorem dX6_digestOfCells_35 : decode cX6_digestOfCells 35 = .ok (.lmul, 1) := by decide +kernel
theorem dX6_digestOfCells_36 : decode cX6_digestOfCells 36 = .ok (.aload_n 0, 1) := by decide +kernel
theorem dX6_digestOfCells_37 : decode cX6_digestOfCells 37 = .ok (.iload 6, 2) := by decide +kernel
theorem dX6_digestOfCells_39 : decode cX6_digestOfCells 39 = .ok (.iload 5, 2) := by decide +kernel
theorem dX6_digestOfCells_41 : decode cX6_digestOfCells 41 = .ok (.iload 7, 2) := by decide +kernel
theorem dX6_digestOfCells_43 : decode cX6_digestOfCells 43 = .ok (.invokevirtual 282, 3) := by decide +kernel
theorem dX6_digestOfCells_46 : decode cX6_digestOfCells 46 = .ok (.i2l, 1) := by decide +kernel
theorem dX6_digestOfCells_47 : decode cX6_digestOfCells 47 = .ok (.ladd, 1) := by decide +kernel
theorem dX6_digestOfCells_48 : decode cX6_digestOfCells 48 = .ok (.lstore_n 3, 1) := by decide +kernel
theorem dX6_digestOfCells_49 : decode cX6_digestOfCells 49 = .ok (.iinc 7 1, 3) := by decide +kernel
theorem dX6_digestOfCells_52 : decode cX6_digestOfCells 52 = .ok (.goto (-27), 3) := by decide +kernel
theorem dX6_digestOfCells_55 : decode cX6_digestOfCells 55 = .ok (.iinc 6 1, 3) := by decide +kernel
theorem dX6_digestOfCells_58 : decode cX6_digestOfCells 58 = .ok (.goto (-43), 3) := by decide +kernel
theorem dX6_digestOfCells_61 : decode cX6_digestOfCells 61 = .ok (.iinc 5 1, 3) := by decide +kernel
theorem dX6_digestOfCells_64 : decode cX6_digestOfCells 64 = .ok (.goto (-59), 3) := by decide +kernel
theorem dX6_digestOfCells_67 : decode cX6_digestOfCells 67 = .ok (.lload_n 3, 1) := by decide +kernel
theorem dX6_digestOfCells_68 : decode cX6_digestOfCells 68 = .ok (.lreturn, 1) := by decide +kernel
set_option maxRecDepth 20000 in
theorem ggX6_digestOfCarps_X6_told : GoodIn wsX6_digestOfCarps wsX6_told := goodIn_ca (goodIn_r _ [8, 1, 9, 10, 11, 12, 7, 13, 14, 15, 2, 16, 17, 18, 19, 20, 21, 22, 23, 24, 25, 26, 27, 28, 29, 30, 31, 32, 33, 34, 35, 36, 37, 38, 39, 40, 41, 42, 43, 44, 45, 46, 47, 48, 49, 50, 51, 52, 53, 54, 55, 56, 57, 58, 59] (by decide +kernel) (by decide +kernel)) (goodIn_sub (fun _ h => List.mem_cons_of_mem _ (List.mem_append_right _ h)) (by decide +kernel))
set_option maxRecDepth 20000 in
theorem gX6_digestOfCarps_X6_told : GoodIn wsX6_digestOfCarps (wsV RX6 286 RX6 yX6_told wsX6_told) := goodIn_app (goodIn_of _ (by decide +kernel)) ggX6_digestOfCarps_X6_told
theorem dX6_digestOfCarps_0 : decode cX6_digestOfCarps 0 = .ok (.lload_n 1, 1) := by decide +kernel
theorem dX6_digestOfCarps_1 : decode cX6_digestOfCarps 1 = .ok (.lstore_n 3, 1) := by decide +kernel
theorem dX6_digestOfCarps_2 : decode cX6_digestOfCarps 2 = .ok (.iconst 0, 1) := by decide +kernel
theorem dX6_digestOfCarps_3 : decode cX6_digestOfCarps 3 = .ok (.istore 5, 2) := by decide +kernel
theorem dX6_digestOfCarps_5 : decode cX6_digestOfCarps 5 = .ok (.iload 5, 2) := by decide +kernel
theorem dX6_digestOfCarps_7 : decode cX6_digestOfCarps 7 = .ok (.aload_n 0, 1) := by decide +kernel
theorem dX6_digestOfCarps_8 : decode cX6_digestOfCarps 8 = .ok (.getfield 19, 3) := by decide +kernel
theorem dX6_digestOfCarps_11 : decode cX6_digestOfCarps 11 = .ok (.getfield 129, 3) := by decide +kernel
theorem dX6_digestOfCarps_14 : decode cX6_digestOfCarps 14 = .ok (.if_icmp .ge 40, 3) := by decide +kernel
theorem dX6_digestOfCarps_17 : decode cX6_digestOfCarps 17 = .ok (.iconst 0, 1) := by decide +kernel
theorem dX6_digestOfCarps_18 : decode cX6_digestOfCarps 18 = .ok (.istore 6, 2) := by decide +kernel
theorem dX6_digestOfCarps_20 : decode cX6_digestOfCarps 20 = .ok (.iload 6, 2) := by decide +kernel
theorem dX6_digestOfCarps_22 : decode cX6_digestOfCarps 22 = .ok (.iconst 5, 1) := by decide +kernel
theorem dX6_digestOfCarps_23 : decode cX6_digestOfCarps 23 = .ok (.if_icmp .ge 25, 3) := by decide +kernel
theorem dX6_digestOfCarps_26 : decode cX6_digestOfCarps 26 = .ok (.lload_n 3, 1) := by decide +kernel
theorem dX6_digestOfCarps_27 : decode cX6_digestOfCarps 27 = .ok (.ldc2_w 264, 3) := by decide +kernel
theorem dX6_digestOfCarps_30 : decode cX6_digestOfCarps 30 = .ok (.lmul, 1) := by decide +kernel
theorem dX6_digestOfCarps_31 : decode cX6_digestOfCarps 31 = .ok (.aload_n 0, 1) := by decide +kernel
theorem dX6_digestOfCarps_32 : decode cX6_digestOfCarps 32 = .ok (.iload 5, 2) := by decide +kernel
theorem dX6_digestOfCarps_34 : decode cX6_digestOfCarps 34 = .ok (.iload 6, 2) := by decide +kernel
theorem dX6_digestOfCarps_36 : decode cX6_digestOfCarps 36 = .ok (.invokevirtual 286, 3) := by decide +kernel
theorem dX6_digestOfCarps_39 : decode cX6_digestOfCarps 39 = .ok (.i2l, 1) := by decide +kernel
theorem dX6_digestOfCarps_40 : decode cX6_digestOfCarps 40 = .ok (.ladd, 1) := by decide +kernel
theorem dX6_digestOfCarps_41 : decode cX6_digestOfCarps 41 = .ok (.lstore_n 3, 1) := by decide +kernel
theorem dX6_digestOfCarps_42 : decode cX6_digestOfCarps 42 = .ok (.iinc 6 1, 3) := by decide +kernel
theorem dX6_digestOfCarps_45 : decode cX6_digestOfCarps 45 = .ok (.goto (-25), 3) := by decide +kernel
theorem dX6_digestOfCarps_48 : decode cX6_digestOfCarps 48 = .ok (.iinc 5 1, 3) := by decide +kernel
theorem dX6_digestOfCarps_51 : decode cX6_digestOfCarps 51 = .ok (.goto (-46), 3) := by decide +kernel
theorem dX6_digestOfCarps_54 : decode cX6_digestOfCarps 54 = .ok (.lload_n 3, 1) := by decide +kernel
theorem dX6_digestOfCarps_55 : decode cX6_digestOfCarps 55 = .ok (.lreturn, 1) := by decide +kernel
set_option maxRecDepth 20000 in
theorem ggX6_digestOfGates_X6_about : GoodIn wsX6_digestOfGates wsX6_about := goodIn_ca (goodIn_r _ [8, 9, 10, 11, 12, 13, 14, 15, 16, 17, 18, 7, 19, 20, 21, 1, 2, 22, 23, 24, 25, 26, 27, 28, 29, 30, 31, 32, 33, 34, 35, 36, 37, 38, 39, 40, 41, 42, 43, 44, 45, 46, 47, 48, 49, 50, 51, 52, 53, 54, 55, 56, 57, 58, 59, 60, 61, 62, 63, 64, 65, 66, 67, 68, 69, 70, 71, 72, 73, 74, 75, 76, 77, 78, 79, 80, 81, 82, 83, 84, 85, 86, 87, 88, 89, 90, 91, 92, 93, 94, 95, 96, 97, 98, 99, 100, 101, 102, 103, 104, 105, 106, 107, 108, 109, 110, 111, 112, 113, 114, 115, 116, 117, 118, 119, 120, 121, 122, 123, 124, 125, 126, 127, 128, 129, 130, 131, 132, 133, 134, 135, 136, 137, 138, 139, 140, 141, 142, 143, 144, 145, 146, 147, 148, 149, 153, 154, 155, 156, 157, 150, 151, 152, 158, 159, 160, 161, 162, 163, 164, 165, 166, 167, 168, 169, 170, 171, 172, 173, 174, 175] (by decide +kernel) (by decide +kernel)) (goodIn_sub (fun _ h => List.mem_cons_of_mem _ (List.mem_append_right _ h)) (by decide +kernel))
set_option maxRecDepth 20000 in
theorem gX6_digestOfGates_X6_about : GoodIn wsX6_digestOfGates (wsV RX6 289 RX6 yX6_about wsX6_about) := goodIn_app (goodIn_of _ (by decide +kernel)) ggX6_digestOfGates_X6_about
theorem dX6_digestOfGates_0 : decode cX6_digestOfGates 0 = .ok (.lload_n 1, 1) := by decide +kernel
theorem dX6_digestOfGates_1 : decode cX6_digestOfGates 1 = .ok (.lstore_n 3, 1) := by decide +kernel
theorem dX6_digestOfGates_2 : decode cX6_digestOfGates 2 = .ok (.iconst 0, 1) := by decide +kernel
theorem dX6_digestOfGates_3 : decode cX6_digestOfGates 3 = .ok (.istore 5, 2) := by decide +kernel
theorem dX6_digestOfGates_5 : decode cX6_digestOfGates 5 = .ok (.iload 5, 2) := by decide +kernel
theorem dX6_digestOfGates_7 : decode cX6_digestOfGates 7 = .ok (.aload_n 0, 1) := by decide +kernel
theorem dX6_digestOfGates_8 : decode cX6_digestOfGates 8 = .ok (.getfield 26, 3) := by decide +kernel
theorem dX6_digestOfGates_11 : decode cX6_digestOfGates 11 = .ok (.getfield 171, 3) := by decide +kernel
theorem dX6_digestOfGates_14 : decode cX6_digestOfGates 14 = .ok (.if_icmp .ge 40, 3) := by decide +kernel
theorem dX6_digestOfGates_17 : decode cX6_digestOfGates 17 = .ok (.iconst 0, 1) := by decide +kernel
theorem dX6_digestOfGates_18 : decode cX6_digestOfGates 18 = .ok (.istore 6, 2) := by decide +kernel
theorem dX6_digestOfGates_20 : decode cX6_digestOfGates 20 = .ok (.iload 6, 2) := by decide +kernel
theorem dX6_digestOfGates_22 : decode cX6_digestOfGates 22 = .ok (.iconst 5, 1) := by decide +kernel
theorem dX6_digestOfGates_23 : decode cX6_digestOfGates 23 = .ok (.if_icmp .ge 25, 3) := by decide +kernel
theorem dX6_digestOfGates_26 : decode cX6_digestOfGates 26 = .ok (.lload_n 3, 1) := by decide +kernel
theorem dX6_digestOfGates_27 : decode cX6_digestOfGates 27 = .ok (.ldc2_w 264, 3) := by decide +kernel
theorem dX6_digestOfGates_30 : decode cX6_digestOfGates 30 = .ok (.lmul, 1) := by decide +kernel
theorem dX6_digestOfGates_31 : decode cX6_digestOfGates 31 = .ok (.aload_n 0, 1) := by decide +kernel
theorem dX6_digestOfGates_32 : decode cX6_digestOfGates 32 = .ok (.iload 5, 2) := by decide +kernel
theorem dX6_digestOfGates_34 : decode cX6_digestOfGates 34 = .ok (.iload 6, 2) := by decide +kernel
theorem dX6_digestOfGates_36 : decode cX6_digestOfGates 36 = .ok (.invokevirtual 289, 3) := by decide +kernel
theorem dX6_digestOfGates_39 : decode cX6_digestOfGates 39 = .ok (.i2l, 1) := by decide +kernel
theorem dX6_digestOfGates_40 : decode cX6_digestOfGates 40 = .ok (.ladd, 1) := by decide +kernel
theorem dX6_digestOfGates_41 : decode cX6_digestOfGates 41 = .ok (.lstore_n 3, 1) := by decide +kernel
theorem dX6_digestOfGates_42 : decode cX6_digestOfGates 42 = .ok (.iinc 6 1, 3) := by decide +kernel
theorem dX6_digestOfGates_45 : decode cX6_digestOfGates 45 = .ok (.goto (-25), 3) := by decide +kernel
theorem dX6_digestOfGates_48 : decode cX6_digestOfGates 48 = .ok (.iinc 5 1, 3) := by decide +kernel
theorem dX6_digestOfGates_51 : decode cX6_digestOfGates 51 = .ok (.goto (-46), 3) := by decide +kernel
theorem dX6_digestOfGates_54 : decode cX6_digestOfGates 54 = .ok (.lload_n 3, 1) := by decide +kernel
theorem dX6_digestOfGates_55 : decode cX6_digestOfGates 55 = .ok (.lreturn, 1) := by decide +kernel
set_option maxRecDepth 20000 in
theorem ggX6_letPass_X6_letCarpsGrow : GoodIn wsX6_letPass wsX6_letCarpsGrow := goodIn_r _ [7, 8, 9, 10, 11, 12, 13, 14, 15, 16, 17, 18, 19, 20, 21, 22, 23, 24, 25, 26, 27, 28, 29, 30, 31, 32, 33, 34, 35, 36, 37, 38, 39, 40, 41, 42, 43, 44, 45, 46, 47, 48, 49, 50, 51, 52, 53, 54, 55, 56, 57, 58, 59, 60, 61, 62, 63, 64, 65, 66, 189, 190, 191, 192, 193, 194, 195, 196, 197, 198, 199, 200, 201, 202, 203, 204, 205, 206, 207, 185, 186, 187, 188] (by decide +kernel) (by decide +kernel)
set_option maxRecDepth 20000 in
theorem gX6_letPass_X6_letCarpsGrow : GoodIn wsX6_letPass (wsV RX6 292 RX6 yX6_letCarpsGrow wsX6_letCarpsGrow) := goodIn_app (goodIn_of _ (by decide +kernel)) ggX6_letPass_X6_letCarpsGrow
set_option maxRecDepth 20000 in
theorem ggX6_letPass_X6_letPoetsWrite : GoodIn wsX6_letPass wsX6_letPoetsWrite := goodIn_r _ [70, 71, 72, 73, 74, 75, 53, 76, 77, 78, 79, 80, 81, 82, 83, 84, 85, 86, 87, 88, 89, 90, 91, 6, 92, 93, 94, 10, 95, 96, 97, 98, 99, 100, 101, 102, 103, 104, 105, 106, 107, 108, 109, 110, 111, 112, 113, 114, 115, 116, 117, 118, 119, 120, 121, 122, 123, 124, 30, 125, 126, 127, 42, 43, 44, 128, 129, 130, 131, 132, 133, 134, 135, 136, 137, 138, 139, 140, 141, 142, 143, 144, 145, 146, 147, 148, 149, 150, 8, 151, 152, 153, 154, 155, 156, 157, 158, 159, 160, 161, 162, 163, 164, 165, 166, 167, 168, 14, 169, 21, 26, 16, 170, 51, 52, 54, 55, 171, 172, 173, 174, 175, 176, 177, 178, 179, 180, 181, 182, 183, 184, 189, 190, 191, 192, 193, 194, 195, 208, 209, 185, 186, 187, 188, 210, 211, 212, 213, 214, 215, 216, 217, 199, 200, 201, 202, 203, 204, 205, 206, 207, 196, 197, 198] (by decide +kernel) (by decide +kernel)
set_option maxRecDepth 20000 in
theorem gX6_letPass_X6_letPoetsWrite : GoodIn wsX6_letPass (wsV RX6 295 RX6 yX6_letPoetsWrite wsX6_letPoetsWrite) := goodIn_app (goodIn_of _ (by decide +kernel)) ggX6_letPass_X6_letPoetsWrite
theorem dX6_letPass_0 : decode cX6_letPass 0 = .ok (.iconst 0, 1) := by decide +kernel
theorem dX6_letPass_1 : decode cX6_letPass 1 = .ok (.istore_n 3, 1) := by decide +kernel
theorem dX6_letPass_2 : decode cX6_letPass 2 = .ok (.iconst 0, 1) := by decide +kernel
theorem dX6_letPass_3 : decode cX6_letPass 3 = .ok (.istore 4, 2) := by decide +kernel
theorem dX6_letPass_5 : decode cX6_letPass 5 = .ok (.iload 4, 2) := by decide +kernel
theorem dX6_letPass_7 : decode cX6_letPass 7 = .ok (.iload_n 1, 1) := by decide +kernel
theorem dX6_letPass_8 : decode cX6_letPass 8 = .ok (.if_icmp .ge 50, 3) := by decide +kernel
theorem dX6_letPass_11 : decode cX6_letPass 11 = .ok (.aload_n 0, 1) := by decide +kernel
theorem dX6_letPass_12 : decode cX6_letPass 12 = .ok (.aload_n 2, 1) := by decide +kernel
theorem dX6_letPass_13 : decode cX6_letPass 13 = .ok (.invokevirtual 292, 3) := by decide +kernel
theorem dX6_letPass_16 : decode cX6_letPass 16 = .ok (.aload_n 0, 1) := by decide +kernel
theorem dX6_letPass_17 : decode cX6_letPass 17 = .ok (.aload_n 2, 1) := by decide +kernel
theorem dX6_letPass_18 : decode cX6_letPass 18 = .ok (.invokevirtual 295, 3) := by decide +kernel
theorem dX6_letPass_21 : decode cX6_letPass 21 = .ok (.istore 5, 2) := by decide +kernel
theorem dX6_letPass_23 : decode cX6_letPass 23 = .ok (.aload_n 2, 1) := by decide +kernel
theorem dX6_letPass_24 : decode cX6_letPass 24 = .ok (.dup, 1) := by decide +kernel
theorem dX6_letPass_25 : decode cX6_letPass 25 = .ok (.getfield 76, 3) := by decide +kernel
theorem dX6_letPass_28 : decode cX6_letPass 28 = .ok (.iload 5, 2) := by decide +kernel
theorem dX6_letPass_30 : decode cX6_letPass 30 = .ok (.bipush 10, 2) := by decide +kernel
theorem dX6_letPass_32 : decode cX6_letPass 32 = .ok (.idiv, 1) := by decide +kernel
theorem dX6_letPass_33 : decode cX6_letPass 33 = .ok (.iadd, 1) := by decide +kernel
theorem dX6_letPass_34 : decode cX6_letPass 34 = .ok (.putfield 76, 3) := by decide +kernel
theorem dX6_letPass_37 : decode cX6_letPass 37 = .ok (.aload_n 2, 1) := by decide +kernel
theorem dX6_letPass_38 : decode cX6_letPass 38 = .ok (.dup, 1) := by decide +kernel
theorem dX6_letPass_39 : decode cX6_letPass 39 = .ok (.getfield 216, 3) := by decide +kernel
theorem dX6_letPass_42 : decode cX6_letPass 42 = .ok (.iconst 1, 1) := by decide +kernel
theorem dX6_letPass_43 : decode cX6_letPass 43 = .ok (.iadd, 1) := by decide +kernel
theorem dX6_letPass_44 : decode cX6_letPass 44 = .ok (.putfield 216, 3) := by decide +kernel
theorem dX6_letPass_47 : decode cX6_letPass 47 = .ok (.iload_n 3, 1) := by decide +kernel
theorem dX6_letPass_48 : decode cX6_letPass 48 = .ok (.iload 5, 2) := by decide +kernel
theorem dX6_letPass_50 : decode cX6_letPass 50 = .ok (.iadd, 1) := by decide +kernel
theorem dX6_letPass_51 : decode cX6_letPass 51 = .ok (.istore_n 3, 1) := by decide +kernel
theorem dX6_letPass_52 : decode cX6_letPass 52 = .ok (.iinc 4 1, 3) := by decide +kernel
theorem dX6_letPass_55 : decode cX6_letPass 55 = .ok (.goto (-50), 3) := by decide +kernel
theorem dX6_letPass_58 : decode cX6_letPass 58 = .ok (.iload_n 3, 1) := by decide +kernel
theorem dX6_letPass_59 : decode cX6_letPass 59 = .ok (.ireturn, 1) := by decide +kernel
set_option maxRecDepth 20000 in
theorem ggX6_letCarpsGrow_X4_isHere : GoodIn wsX6_letCarpsGrow wsX4_isHere := goodIn_r _ [8, 9, 10, 11, 12, 7, 13, 14, 67, 68, 69] (by decide +kernel) (by decide +kernel)
set_option maxRecDepth 20000 in
theorem gX6_letCarpsGrow_X4_isHere : GoodIn wsX6_letCarpsGrow (wsV RX6 146 RX4 yX4_isHere wsX4_isHere) := goodIn_app (goodIn_of _ (by decide +kernel)) ggX6_letCarpsGrow_X4_isHere
set_option maxRecDepth 20000 in
theorem ggX6_letCarpsGrow_X4_placeOf : GoodIn wsX6_letCarpsGrow wsX4_placeOf := goodIn_r _ [18, 19, 10, 11, 12, 7, 13, 14, 67, 68, 69] (by decide +kernel) (by decide +kernel)
set_option maxRecDepth 20000 in
theorem gX6_letCarpsGrow_X4_placeOf : GoodIn wsX6_letCarpsGrow (wsV RX6 154 RX4 yX4_placeOf wsX4_placeOf) := goodIn_app (goodIn_of _ (by decide +kernel)) ggX6_letCarpsGrow_X4_placeOf
set_option maxRecDepth 20000 in
theorem ggX6_letCarpsGrow_X1_isTooFull : GoodIn wsX6_letCarpsGrow wsX1_isTooFull := goodIn_r _ [24, 25, 26, 27, 23, 28, 29, 30, 31, 32, 33, 34, 35, 36, 37, 38, 39, 40, 41, 42, 70, 71, 72, 73, 74, 75, 76, 77, 78] (by decide +kernel) (by decide +kernel)
set_option maxRecDepth 20000 in
theorem gX6_letCarpsGrow_X1_isTooFull : GoodIn wsX6_letCarpsGrow (wsV RX6 298 RX1 yX1_isTooFull wsX1_isTooFull) := goodIn_app (goodIn_of _ (by decide +kernel)) ggX6_letCarpsGrow_X1_isTooFull
set_option maxRecDepth 20000 in
theorem ggX6_letCarpsGrow_X0_carpSize : GoodIn wsX6_letCarpsGrow wsX0_carpSize := goodIn_r _ [47, 48, 79, 80, 81, 82] (by decide +kernel) (by decide +kernel)
set_option maxRecDepth 20000 in
theorem gX6_letCarpsGrow_X0_carpSize : GoodIn wsX6_letCarpsGrow (wsV RX6 157 RX0 yX0_carpSize wsX0_carpSize) := goodIn_app (goodIn_of _ (by decide +kernel)) ggX6_letCarpsGrow_X0_carpSize
set_option maxRecDepth 20000 in
theorem ggX6_letCarpsGrow_X0_setCarpSize : GoodIn wsX6_letCarpsGrow wsX0_setCarpSize := goodIn_r _ [52, 48, 53, 54, 55, 56, 57, 58, 59, 79, 80, 81, 82] (by decide +kernel) (by decide +kernel)
set_option maxRecDepth 20000 in
theorem gX6_letCarpsGrow_X0_setCarpSize : GoodIn wsX6_letCarpsGrow (wsV RX6 137 RX0 yX0_setCarpSize wsX0_setCarpSize) := goodIn_app (goodIn_of _ (by decide +kernel)) ggX6_letCarpsGrow_X0_setCarpSize
theorem dX6_letCarpsGrow_0 : decode cX6_letCarpsGrow 0 = .ok (.iconst 0, 1) := by decide +kernel
theorem dX6_letCarpsGrow_1 : decode cX6_letCarpsGrow 1 = .ok (.istore_n 2, 1) := by decide +kernel
theorem dX6_letCarpsGrow_2 : decode cX6_letCarpsGrow 2 = .ok (.iload_n 2, 1) := by decide +kernel
theorem dX6_letCarpsGrow_3 : decode cX6_letCarpsGrow 3 = .ok (.aload_n 0, 1) := by decide +kernel
theorem dX6_letCarpsGrow_4 : decode cX6_letCarpsGrow 4 = .ok (.getfield 19, 3) := by decide +kernel
theorem dX6_letCarpsGrow_7 : decode cX6_letCarpsGrow 7 = .ok (.getfield 129, 3) := by decide +kernel
theorem dX6_letCarpsGrow_10 : decode cX6_letCarpsGrow 10 = .ok (.if_icmp .ge 56, 3) := by decide +kernel
theorem dX6_letCarpsGrow_13 : decode cX6_letCarpsGrow 13 = .ok (.aload_n 0, 1) := by decide +kernel
theorem dX6_letCarpsGrow_14 : decode cX6_letCarpsGrow 14 = .ok (.getfield 19, 3) := by decide +kernel
theorem dX6_letCarpsGrow_17 : decode cX6_letCarpsGrow 17 = .ok (.iload_n 2, 1) := by decide +kernel
theorem dX6_letCarpsGrow_18 : decode cX6_letCarpsGrow 18 = .ok (.invokevirtual 146, 3) := by decide +kernel
theorem dX6_letCarpsGrow_21 : decode cX6_letCarpsGrow 21 = .ok (.ifCond .eq 39, 3) := by decide +kernel
theorem dX6_letCarpsGrow_24 : decode cX6_letCarpsGrow 24 = .ok (.aload_n 0, 1) := by decide +kernel
theorem dX6_letCarpsGrow_25 : decode cX6_letCarpsGrow 25 = .ok (.getfield 10, 3) := by decide +kernel
theorem dX6_letCarpsGrow_28 : decode cX6_letCarpsGrow 28 = .ok (.aload_n 0, 1) := by decide +kernel
theorem dX6_letCarpsGrow_29 : decode cX6_letCarpsGrow 29 = .ok (.getfield 19, 3) := by decide +kernel
theorem dX6_letCarpsGrow_32 : decode cX6_letCarpsGrow 32 = .ok (.iload_n 2, 1) := by decide +kernel
theorem dX6_letCarpsGrow_33 : decode cX6_letCarpsGrow 33 = .ok (.invokevirtual 154, 3) := by decide +kernel
theorem dX6_letCarpsGrow_36 : decode cX6_letCarpsGrow 36 = .ok (.invokevirtual 298, 3) := by decide +kernel
theorem dX6_letCarpsGrow_39 : decode cX6_letCarpsGrow 39 = .ok (.ifCond .eq 7, 3) := by decide +kernel
theorem dX6_letCarpsGrow_42 : decode cX6_letCarpsGrow 42 = .ok (.iconst (-1), 1) := by decide +kernel
theorem dX6_letCarpsGrow_43 : decode cX6_letCarpsGrow 43 = .ok (.goto 4, 3) := by decide +kernel
theorem dX6_letCarpsGrow_46 : decode cX6_letCarpsGrow 46 = .ok (.iconst 1, 1) := by decide +kernel
theorem dX6_letCarpsGrow_47 : decode cX6_letCarpsGrow 47 = .ok (.istore_n 3, 1) := by decide +kernel
theorem dX6_letCarpsGrow_48 : decode cX6_letCarpsGrow 48 = .ok (.aload_n 1, 1) := by decide +kernel
theorem dX6_letCarpsGrow_49 : decode cX6_letCarpsGrow 49 = .ok (.iload_n 2, 1) := by decide +kernel
theorem dX6_letCarpsGrow_50 : decode cX6_letCarpsGrow 50 = .ok (.aload_n 1, 1) := by decide +kernel
theorem dX6_letCarpsGrow_51 : decode cX6_letCarpsGrow 51 = .ok (.iload_n 2, 1) := by decide +kernel
theorem dX6_letCarpsGrow_52 : decode cX6_letCarpsGrow 52 = .ok (.invokevirtual 157, 3) := by decide +kernel
theorem dX6_letCarpsGrow_55 : decode cX6_letCarpsGrow 55 = .ok (.iload_n 3, 1) := by decide +kernel
theorem dX6_letCarpsGrow_56 : decode cX6_letCarpsGrow 56 = .ok (.iadd, 1) := by decide +kernel
theorem dX6_letCarpsGrow_57 : decode cX6_letCarpsGrow 57 = .ok (.invokevirtual 137, 3) := by decide +kernel
theorem dX6_letCarpsGrow_60 : decode cX6_letCarpsGrow 60 = .ok (.iinc 2 1, 3) := by decide +kernel
theorem dX6_letCarpsGrow_63 : decode cX6_letCarpsGrow 63 = .ok (.goto (-61), 3) := by decide +kernel
theorem dX6_letCarpsGrow_66 : decode cX6_letCarpsGrow 66 = .ok (.return_, 1) := by decide +kernel
set_option maxRecDepth 20000 in
theorem ggX6_letPoetsWrite_X0_isFullMoon : GoodIn wsX6_letPoetsWrite wsX0_isFullMoon := goodIn_r _ [7, 8, 140, 141, 142, 143] (by decide +kernel) (by decide +kernel)
set_option maxRecDepth 20000 in
theorem gX6_letPoetsWrite_X0_isFullMoon : GoodIn wsX6_letPoetsWrite (wsV RX6 219 RX0 yX0_isFullMoon wsX0_isFullMoon) := goodIn_app (goodIn_of _ (by decide +kernel)) ggX6_letPoetsWrite_X0_isFullMoon
set_option maxRecDepth 20000 in
theorem ggX6_letPoetsWrite_X3_gateOf : GoodIn wsX6_letPoetsWrite wsX3_gateOf := goodIn_r _ [13, 14, 15, 16, 17, 12, 18, 19, 138, 139] (by decide +kernel) (by decide +kernel)
set_option maxRecDepth 20000 in
theorem gX6_letPoetsWrite_X3_gateOf : GoodIn wsX6_letPoetsWrite (wsV RX6 207 RX3 yX3_gateOf wsX3_gateOf) := goodIn_app (goodIn_of _ (by decide +kernel)) ggX6_letPoetsWrite_X3_gateOf
set_option maxRecDepth 20000 in
theorem ggX6_letPoetsWrite_X6_look : GoodIn wsX6_letPoetsWrite wsX6_look := goodIn_r _ [24, 25, 26, 27, 28, 29, 30, 31, 32, 33, 34, 35, 36, 37, 38, 39, 40, 41, 42, 43, 44, 45, 46, 47, 48, 49, 50, 51, 52, 53, 54, 55, 56, 57, 58, 59, 60, 61, 62, 63, 64, 65, 66, 67, 68, 69, 70, 71, 72, 73, 74, 75, 76, 77, 78, 79, 80, 81, 82, 83, 84, 85, 23, 86, 87, 88, 89, 90, 91, 92, 93, 94, 95, 96, 97, 98, 99, 100, 101, 102, 103, 104, 105, 106, 107, 108, 109, 110, 111, 112, 113, 114, 6, 115, 116, 117, 118, 119, 120, 121, 122, 123, 124, 125, 131, 132, 133, 134, 135, 136, 137, 144, 145, 146, 147, 148, 149, 150, 151, 152, 153, 154, 155, 156, 157, 158, 159, 160, 161, 162, 163, 140, 141, 142, 143] (by decide +kernel) (by decide +kernel)
set_option maxRecDepth 20000 in
theorem gX6_letPoetsWrite_X6_look : GoodIn wsX6_letPoetsWrite (wsV RX6 181 RX6 yX6_look wsX6_look) := goodIn_app (goodIn_of _ (by decide +kernel)) ggX6_letPoetsWrite_X6_look
set_option maxRecDepth 20000 in
theorem ggX6_letPoetsWrite_X0_addWritten : GoodIn wsX6_letPoetsWrite wsX0_addWritten := goodIn_r _ [129, 130, 140, 141, 142, 143] (by decide +kernel) (by decide +kernel)
set_option maxRecDepth 20000 in
theorem gX6_letPoetsWrite_X0_addWritten : GoodIn wsX6_letPoetsWrite (wsV RX6 301 RX0 yX0_addWritten wsX0_addWritten) := goodIn_app (goodIn_of _ (by decide +kernel)) ggX6_letPoetsWrite_X0_addWritten
theorem dX6_letPoetsWrite_0 : decode cX6_letPoetsWrite 0 = .ok (.iconst 0, 1) := by decide +kernel
theorem dX6_letPoetsWrite_1 : decode cX6_letPoetsWrite 1 = .ok (.istore_n 2, 1) := by decide +kernel
theorem dX6_letPoetsWrite_2 : decode cX6_letPoetsWrite 2 = .ok (.aload_n 1, 1) := by decide +kernel
theorem dX6_letPoetsWrite_3 : decode cX6_letPoetsWrite 3 = .ok (.invokevirtual 219, 3) := by decide +kernel
theorem dX6_letPoetsWrite_6 : decode cX6_letPoetsWrite 6 = .ok (.ifCond .eq 7, 3) := by decide +kernel
theorem dX6_letPoetsWrite_9 : decode cX6_letPoetsWrite 9 = .ok (.iconst 2, 1) := by decide +kernel
theorem dX6_letPoetsWrite_10 : decode cX6_letPoetsWrite 10 = .ok (.goto 4, 3) := by decide +kernel
theorem dX6_letPoetsWrite_13 : decode cX6_letPoetsWrite 13 = .ok (.iconst 1, 1) := by decide +kernel
theorem dX6_letPoetsWrite_14 : decode cX6_letPoetsWrite 14 = .ok (.istore_n 3, 1) := by decide +kernel
theorem dX6_letPoetsWrite_15 : decode cX6_letPoetsWrite 15 = .ok (.iconst 0, 1) := by decide +kernel
theorem dX6_letPoetsWrite_16 : decode cX6_letPoetsWrite 16 = .ok (.istore 4, 2) := by decide +kernel
theorem dX6_letPoetsWrite_18 : decode cX6_letPoetsWrite 18 = .ok (.iload 4, 2) := by decide +kernel
theorem dX6_letPoetsWrite_20 : decode cX6_letPoetsWrite 20 = .ok (.aload_n 0, 1) := by decide +kernel
theorem dX6_letPoetsWrite_21 : decode cX6_letPoetsWrite 21 = .ok (.getfield 33, 3) := by decide +kernel
theorem dX6_letPoetsWrite_24 : decode cX6_letPoetsWrite 24 = .ok (.getfield 200, 3) := by decide +kernel
theorem dX6_letPoetsWrite_27 : decode cX6_letPoetsWrite 27 = .ok (.if_icmp .ge 42, 3) := by decide +kernel
theorem dX6_letPoetsWrite_30 : decode cX6_letPoetsWrite 30 = .ok (.iload_n 3, 1) := by decide +kernel
theorem dX6_letPoetsWrite_31 : decode cX6_letPoetsWrite 31 = .ok (.aload_n 0, 1) := by decide +kernel
theorem dX6_letPoetsWrite_32 : decode cX6_letPoetsWrite 32 = .ok (.aload_n 0, 1) := by decide +kernel
theorem dX6_letPoetsWrite_33 : decode cX6_letPoetsWrite 33 = .ok (.getfield 33, 3) := by decide +kernel
theorem dX6_letPoetsWrite_36 : decode cX6_letPoetsWrite 36 = .ok (.iload 4, 2) := by decide +kernel
theorem dX6_letPoetsWrite_38 : decode cX6_letPoetsWrite 38 = .ok (.invokevirtual 207, 3) := by decide +kernel
theorem dX6_letPoetsWrite_41 : decode cX6_letPoetsWrite 41 = .ok (.aload_n 1, 1) := by decide +kernel
theorem dX6_letPoetsWrite_42 : decode cX6_letPoetsWrite 42 = .ok (.invokevirtual 181, 3) := by decide +kernel
theorem dX6_letPoetsWrite_45 : decode cX6_letPoetsWrite 45 = .ok (.iconst 5, 1) := by decide +kernel
theorem dX6_letPoetsWrite_46 : decode cX6_letPoetsWrite 46 = .ok (.idiv, 1) := by decide +kernel
theorem dX6_letPoetsWrite_47 : decode cX6_letPoetsWrite 47 = .ok (.imul, 1) := by decide +kernel
theorem dX6_letPoetsWrite_48 : decode cX6_letPoetsWrite 48 = .ok (.istore 5, 2) := by decide +kernel
theorem dX6_letPoetsWrite_50 : decode cX6_letPoetsWrite 50 = .ok (.aload_n 1, 1) := by decide +kernel
theorem dX6_letPoetsWrite_51 : decode cX6_letPoetsWrite 51 = .ok (.iload 4, 2) := by decide +kernel
theorem dX6_letPoetsWrite_53 : decode cX6_letPoetsWrite 53 = .ok (.iload 5, 2) := by decide +kernel
theorem dX6_letPoetsWrite_55 : decode cX6_letPoetsWrite 55 = .ok (.invokevirtual 301, 3) := by decide +kernel
theorem dX6_letPoetsWrite_58 : decode cX6_letPoetsWrite 58 = .ok (.iload_n 2, 1) := by decide +kernel
theorem dX6_letPoetsWrite_59 : decode cX6_letPoetsWrite 59 = .ok (.iload 5, 2) := by decide +kernel
theorem dX6_letPoetsWrite_61 : decode cX6_letPoetsWrite 61 = .ok (.iadd, 1) := by decide +kernel
theorem dX6_letPoetsWrite_62 : decode cX6_letPoetsWrite 62 = .ok (.istore_n 2, 1) := by decide +kernel
theorem dX6_letPoetsWrite_63 : decode cX6_letPoetsWrite 63 = .ok (.iinc 4 1, 3) := by decide +kernel
theorem dX6_letPoetsWrite_66 : decode cX6_letPoetsWrite 66 = .ok (.goto (-48), 3) := by decide +kernel
theorem dX6_letPoetsWrite_69 : decode cX6_letPoetsWrite 69 = .ok (.iload_n 2, 1) := by decide +kernel
theorem dX6_letPoetsWrite_70 : decode cX6_letPoetsWrite 70 = .ok (.ireturn, 1) := by decide +kernel
set_option maxRecDepth 20000 in
theorem ggX6_beautyWithRock_X1_setRock : GoodIn wsX6_beautyWithRock wsX1_setRock := goodIn_r _ [7, 8, 9, 10, 6, 11, 12, 13, 14, 15, 16, 17, 128, 129, 130, 131, 132, 133, 134, 135, 136] (by decide +kernel) (by decide +kernel)
set_option maxRecDepth 20000 in
theorem gX6_beautyWithRock_X1_setRock : GoodIn wsX6_beautyWithRock (wsV RX6 72 RX1 yX1_setRock wsX1_setRock) := goodIn_app (goodIn_of _ (by decide +kernel)) ggX6_beautyWithRock_X1_setRock
set_option maxRecDepth 20000 in
theorem ggX6_beautyWithRock_X6_look : GoodIn wsX6_beautyWithRock wsX6_look := goodIn_r _ [22, 23, 24, 1, 25, 26, 27, 28, 29, 30, 31, 32, 33, 34, 35, 36, 37, 38, 39, 40, 41, 42, 43, 44, 45, 46, 47, 48, 49, 50, 51, 52, 53, 54, 6, 55, 56, 57, 15, 16, 17, 58, 59, 60, 61, 62, 63, 64, 65, 66, 67, 68, 69, 70, 71, 72, 73, 74, 12, 75, 76, 77, 21, 78, 79, 80, 81, 82, 83, 84, 85, 13, 86, 87, 88, 89, 14, 90, 91, 92, 93, 94, 95, 96, 97, 98, 99, 100, 101, 102, 103, 104, 105, 106, 107, 108, 109, 110, 111, 112, 113, 114, 115, 116, 121, 122, 123, 124, 125, 126, 127, 137, 138, 139, 140, 141, 142, 143, 144, 128, 129, 130, 131, 132, 133, 134, 135, 136, 145, 146, 147, 148, 149, 150, 151] (by decide +kernel) (by decide +kernel)
set_option maxRecDepth 20000 in
theorem gX6_beautyWithRock_X6_look : GoodIn wsX6_beautyWithRock (wsV RX6 181 RX6 yX6_look wsX6_look) := goodIn_app (goodIn_of _ (by decide +kernel)) ggX6_beautyWithRock_X6_look
set_option maxRecDepth 20000 in
theorem ggX6_beautyWithRock_X1_takeRock : GoodIn wsX6_beautyWithRock wsX1_takeRock := goodIn_r _ [120, 8, 9, 10, 6, 11, 12, 13, 14, 15, 16, 17, 128, 129, 130, 131, 132, 133, 134, 135, 136] (by decide +kernel) (by decide +kernel)
set_option maxRecDepth 20000 in
theorem gX6_beautyWithRock_X1_takeRock : GoodIn wsX6_beautyWithRock (wsV RX6 304 RX1 yX1_takeRock wsX1_takeRock) := goodIn_app (goodIn_of _ (by decide +kernel)) ggX6_beautyWithRock_X1_takeRock
theorem dX6_beautyWithRock_0 : decode cX6_beautyWithRock 0 = .ok (.aload_n 0, 1) := by decide +kernel
theorem dX6_beautyWithRock_1 : decode cX6_beautyWithRock 1 = .ok (.getfield 10, 3) := by decide +kernel
theorem dX6_beautyWithRock_4 : decode cX6_beautyWithRock 4 = .ok (.iload_n 2, 1) := by decide +kernel
theorem dX6_beautyWithRock_5 : decode cX6_beautyWithRock 5 = .ok (.iload_n 3, 1) := by decide +kernel
theorem dX6_beautyWithRock_6 : decode cX6_beautyWithRock 6 = .ok (.iload 4, 2) := by decide +kernel
theorem dX6_beautyWithRock_8 : decode cX6_beautyWithRock 8 = .ok (.invokevirtual 72, 3) := by decide +kernel
theorem dX6_beautyWithRock_11 : decode cX6_beautyWithRock 11 = .ok (.aload_n 0, 1) := by decide +kernel
theorem dX6_beautyWithRock_12 : decode cX6_beautyWithRock 12 = .ok (.iload_n 1, 1) := by decide +kernel
theorem dX6_beautyWithRock_13 : decode cX6_beautyWithRock 13 = .ok (.aload_n 0, 1) := by decide +kernel
theorem dX6_beautyWithRock_14 : decode cX6_beautyWithRock 14 = .ok (.getfield 40, 3) := by decide +kernel
theorem dX6_beautyWithRock_17 : decode cX6_beautyWithRock 17 = .ok (.invokevirtual 181, 3) := by decide +kernel
theorem dX6_beautyWithRock_20 : decode cX6_beautyWithRock 20 = .ok (.istore 5, 2) := by decide +kernel
theorem dX6_beautyWithRock_22 : decode cX6_beautyWithRock 22 = .ok (.aload_n 0, 1) := by decide +kernel
theorem dX6_beautyWithRock_23 : decode cX6_beautyWithRock 23 = .ok (.getfield 10, 3) := by decide +kernel
theorem dX6_beautyWithRock_26 : decode cX6_beautyWithRock 26 = .ok (.iload_n 2, 1) := by decide +kernel
theorem dX6_beautyWithRock_27 : decode cX6_beautyWithRock 27 = .ok (.invokevirtual 304, 3) := by decide +kernel
theorem dX6_beautyWithRock_30 : decode cX6_beautyWithRock 30 = .ok (.iload 5, 2) := by decide +kernel
theorem dX6_beautyWithRock_32 : decode cX6_beautyWithRock 32 = .ok (.ireturn, 1) := by decide +kernel
set_option maxRecDepth 20000 in
theorem ggX6_look_X5_begin : GoodIn wsX6_look wsX5_begin := goodIn_r _ [9, 10, 11, 12, 13, 14, 111, 112, 113, 114, 115] (by decide +kernel) (by decide +kernel)
set_option maxRecDepth 20000 in
theorem gX6_look_X5_begin : GoodIn wsX6_look (wsV RX6 307 RX5 yX5_begin wsX5_begin) := goodIn_app (goodIn_of _ (by decide +kernel)) ggX6_look_X5_begin
set_option maxRecDepth 20000 in
theorem ggX6_look_X2_directionOf : GoodIn wsX6_look wsX2_directionOf := goodIn_r _ [19, 20, 21, 22, 23, 18, 24, 25, 116, 117, 118] (by decide +kernel) (by decide +kernel)
set_option maxRecDepth 20000 in
theorem gX6_look_X2_directionOf : GoodIn wsX6_look (wsV RX6 310 RX2 yX2_directionOf wsX2_directionOf) := goodIn_app (goodIn_of _ (by decide +kernel)) ggX6_look_X2_directionOf
set_option maxRecDepth 20000 in
theorem ggX6_look_X2_placeOf : GoodIn wsX6_look wsX2_placeOf := goodIn_r _ [29, 30, 21, 22, 23, 18, 24, 25, 116, 117, 118] (by decide +kernel) (by decide +kernel)
set_option maxRecDepth 20000 in
theorem gX6_look_X2_placeOf : GoodIn wsX6_look (wsV RX6 313 RX2 yX2_placeOf wsX2_placeOf) := goodIn_app (goodIn_of _ (by decide +kernel)) ggX6_look_X2_placeOf
set_option maxRecDepth 20000 in
theorem ggX6_look_X1_beside : GoodIn wsX6_look wsX1_beside := goodIn_r _ [35, 36, 37, 38, 39, 34, 40, 41, 42, 43, 44, 45, 46, 47, 48, 49] (by decide +kernel) (by decide +kernel)
set_option maxRecDepth 20000 in
theorem gX6_look_X1_beside : GoodIn wsX6_look (wsV RX6 314 RX1 yX1_beside wsX1_beside) := goodIn_app (goodIn_of _ (by decide +kernel)) ggX6_look_X1_beside
set_option maxRecDepth 20000 in
theorem ggX6_look_X1_isWall : GoodIn wsX6_look wsX1_isWall := goodIn_r _ [53, 54, 55, 56, 34, 57, 58, 38, 39, 40, 119, 120, 121, 122, 123, 124, 125, 126, 127] (by decide +kernel) (by decide +kernel)
set_option maxRecDepth 20000 in
theorem gX6_look_X1_isWall : GoodIn wsX6_look (wsV RX6 317 RX1 yX1_isWall wsX1_isWall) := goodIn_app (goodIn_of _ (by decide +kernel)) ggX6_look_X1_isWall
set_option maxRecDepth 20000 in
theorem ggX6_look_X6_show : GoodIn wsX6_look wsX6_show := goodIn_r _ [63, 1, 64, 3, 65, 66, 55, 56, 34, 57, 58, 38, 39, 40, 67, 68, 69, 70, 71, 72, 73, 74, 75, 76, 77, 78, 79, 8, 80, 11, 13, 14, 81, 82, 83, 84, 85, 86, 87, 88, 89, 90, 91, 92, 93, 94, 95, 96, 97, 98, 12, 104, 105, 106, 107, 108, 109, 110, 111, 112, 113, 114, 115, 119, 120, 121, 122, 123, 124, 125, 126, 127, 128, 129, 130, 131, 132, 133, 134] (by decide +kernel) (by decide +kernel)
set_option maxRecDepth 20000 in
theorem gX6_look_X6_show : GoodIn wsX6_look (wsV RX6 320 RX6 yX6_show wsX6_show) := goodIn_app (goodIn_of _ (by decide +kernel)) ggX6_look_X6_show
set_option maxRecDepth 20000 in
theorem ggX6_look_X1_isGreatRock : GoodIn wsX6_look wsX1_isGreatRock := goodIn_r _ [102, 54, 55, 56, 34, 57, 58, 38, 39, 40, 103, 73, 74, 75, 76, 119, 120, 121, 122, 123, 124, 125, 126, 127] (by decide +kernel) (by decide +kernel)
set_option maxRecDepth 20000 in
theorem gX6_look_X1_isGreatRock : GoodIn wsX6_look (wsV RX6 324 RX1 yX1_isGreatRock wsX1_isGreatRock) := goodIn_app (goodIn_of _ (by decide +kernel)) ggX6_look_X1_isGreatRock
theorem dX6_look_0 : decode cX6_look 0 = .ok (.aload_n 0, 1) := by decide +kernel
theorem dX6_look_1 : decode cX6_look 1 = .ok (.getfield 50, 3) := by decide +kernel
theorem dX6_look_4 : decode cX6_look 4 = .ok (.invokevirtual 307, 3) := by decide +kernel
theorem dX6_look_7 : decode cX6_look 7 = .ok (.aload_n 0, 1) := by decide +kernel
theorem dX6_look_8 : decode cX6_look 8 = .ok (.getfield 26, 3) := by decide +kernel
theorem dX6_look_11 : decode cX6_look 11 = .ok (.iload_n 1, 1) := by decide +kernel
theorem dX6_look_12 : decode cX6_look 12 = .ok (.invokevirtual 310, 3) := by decide +kernel
theorem dX6_look_15 : decode cX6_look 15 = .ok (.istore_n 3, 1) := by decide +kernel
theorem dX6_look_16 : decode cX6_look 16 = .ok (.aload_n 0, 1) := by decide +kernel
theorem dX6_look_17 : decode cX6_look 17 = .ok (.getfield 10, 3) := by decide +kernel
theorem dX6_look_20 : decode cX6_look 20 = .ok (.aload_n 0, 1) := by decide +kernel
theorem dX6_look_21 : decode cX6_look 21 = .ok (.getfield 26, 3) := by decide +kernel
theorem dX6_look_24 : decode cX6_look 24 = .ok (.iload_n 1, 1) := by decide +kernel
theorem dX6_look_25 : decode cX6_look 25 = .ok (.invokevirtual 313, 3) := by decide +kernel
theorem dX6_look_28 : decode cX6_look 28 = .ok (.iload_n 3, 1) := by decide +kernel
theorem dX6_look_29 : decode cX6_look 29 = .ok (.invokevirtual 314, 3) := by decide +kernel
theorem dX6_look_32 : decode cX6_look 32 = .ok (.istore 4, 2) := by decide +kernel
theorem dX6_look_34 : decode cX6_look 34 = .ok (.iconst 0, 1) := by decide +kernel
theorem dX6_look_35 : decode cX6_look 35 = .ok (.istore 5, 2) := by decide +kernel
theorem dX6_look_37 : decode cX6_look 37 = .ok (.iload 5, 2) := by decide +kernel
theorem dX6_look_39 : decode cX6_look 39 = .ok (.bipush 10, 2) := by decide +kernel
theorem dX6_look_41 : decode cX6_look 41 = .ok (.if_icmp .ge 62, 3) := by decide +kernel
theorem dX6_look_44 : decode cX6_look 44 = .ok (.iload 4, 2) := by decide +kernel
theorem dX6_look_46 : decode cX6_look 46 = .ok (.iconst (-1), 1) := by decide +kernel
theorem dX6_look_47 : decode cX6_look 47 = .ok (.if_icmp .eq 56, 3) := by decide +kernel
theorem dX6_look_50 : decode cX6_look 50 = .ok (.aload_n 0, 1) := by decide +kernel
theorem dX6_look_51 : decode cX6_look 51 = .ok (.getfield 10, 3) := by decide +kernel
theorem dX6_look_54 : decode cX6_look 54 = .ok (.iload 4, 2) := by decide +kernel
theorem dX6_look_56 : decode cX6_look 56 = .ok (.invokevirtual 317, 3) := by decide +kernel
theorem dX6_look_59 : decode cX6_look 59 = .ok (.ifCond .ne 44, 3) := by decide +kernel
theorem dX6_look_62 : decode cX6_look 62 = .ok (.aload_n 0, 1) := by decide +kernel
theorem dX6_look_63 : decode cX6_look 63 = .ok (.iload 4, 2) := by decide +kernel
theorem dX6_look_65 : decode cX6_look 65 = .ok (.aload_n 2, 1) := by decide +kernel
theorem dX6_look_66 : decode cX6_look 66 = .ok (.invokevirtual 320, 3) := by decide +kernel
theorem dX6_look_69 : decode cX6_look 69 = .ok (.aload_n 0, 1) := by decide +kernel
theorem dX6_look_70 : decode cX6_look 70 = .ok (.getfield 10, 3) := by decide +kernel
theorem dX6_look_73 : decode cX6_look 73 = .ok (.iload 4, 2) := by decide +kernel
theorem dX6_look_75 : decode cX6_look 75 = .ok (.invokevirtual 324, 3) := by decide +kernel
theorem dX6_look_78 : decode cX6_look 78 = .ok (.ifCond .eq 7, 3) := by decide +kernel
theorem dX6_look_81 : decode cX6_look 81 = .ok (.iconst (-1), 1) := by decide +kernel
theorem dX6_look_82 : decode cX6_look 82 = .ok (.goto 13, 3) := by decide +kernel
theorem dX6_look_85 : decode cX6_look 85 = .ok (.aload_n 0, 1) := by decide +kernel
theorem dX6_look_86 : decode cX6_look 86 = .ok (.getfield 10, 3) := by decide +kernel
theorem dX6_look_89 : decode cX6_look 89 = .ok (.iload 4, 2) := by decide +kernel
theorem dX6_look_91 : decode cX6_look 91 = .ok (.iload_n 3, 1) := by decide +kernel
theorem dX6_look_92 : decode cX6_look 92 = .ok (.invokevirtual 314, 3) := by decide +kernel
theorem dX6_look_95 : decode cX6_look 95 = .ok (.istore 4, 2) := by decide +kernel
theorem dX6_look_97 : decode cX6_look 97 = .ok (.iinc 5 1, 3) := by decide +kernel
theorem dX6_look_100 : decode cX6_look 100 = .ok (.goto (-63), 3) := by decide +kernel
theorem dX6_look_103 : decode cX6_look 103 = .ok (.aload_n 0, 1) := by decide +kernel
theorem dX6_look_104 : decode cX6_look 104 = .ok (.getfield 50, 3) := by decide +kernel
theorem dX6_look_107 : decode cX6_look 107 = .ok (.getfield 194, 3) := by decide +kernel
theorem dX6_look_110 : decode cX6_look 110 = .ok (.ireturn, 1) := by decide +kernel
set_option maxRecDepth 20000 in
theorem ggX6_show_X1_kindAt : GoodIn wsX6_show wsX1_kindAt := goodIn_r _ [9, 10, 11, 12, 8, 13, 63, 64, 65, 66, 67, 68, 69, 70, 71] (by decide +kernel) (by decide +kernel)
set_option maxRecDepth 20000 in
theorem gX6_show_X1_kindAt : GoodIn wsX6_show (wsV RX6 115 RX1 yX1_kindAt wsX1_kindAt) := goodIn_app (goodIn_of _ (by decide +kernel)) ggX6_show_X1_kindAt
set_option maxRecDepth 20000 in
theorem ggX6_show_X1_shapeAt : GoodIn wsX6_show wsX1_shapeAt := goodIn_r _ [17, 18, 11, 12, 8, 13, 63, 64, 65, 66, 67, 68, 69, 70, 71] (by decide +kernel) (by decide +kernel)
set_option maxRecDepth 20000 in
theorem gX6_show_X1_shapeAt : GoodIn wsX6_show (wsV RX6 118 RX1 yX1_shapeAt wsX1_shapeAt) := goodIn_app (goodIn_of _ (by decide +kernel)) ggX6_show_X1_shapeAt
set_option maxRecDepth 20000 in
theorem ggX6_show_X1_sizeAt : GoodIn wsX6_show wsX1_sizeAt := goodIn_r _ [22, 23, 11, 12, 8, 13, 63, 64, 65, 66, 67, 68, 69, 70, 71] (by decide +kernel) (by decide +kernel)
set_option maxRecDepth 20000 in
theorem gX6_show_X1_sizeAt : GoodIn wsX6_show (wsV RX6 106 RX1 yX1_sizeAt wsX1_sizeAt) := goodIn_app (goodIn_of _ (by decide +kernel)) ggX6_show_X1_sizeAt
set_option maxRecDepth 20000 in
theorem ggX6_show_X5_addRock : GoodIn wsX6_show wsX5_addRock := goodIn_r _ [28, 29, 30, 31, 58, 59, 60, 61, 62] (by decide +kernel) (by decide +kernel)
set_option maxRecDepth 20000 in
theorem gX6_show_X5_addRock : GoodIn wsX6_show (wsV RX6 327 RX5 yX5_addRock wsX5_addRock) := goodIn_app (goodIn_of _ (by decide +kernel)) ggX6_show_X5_addRock
set_option maxRecDepth 20000 in
theorem ggX6_show_X4_sizesIn : GoodIn wsX6_show wsX4_sizesIn := goodIn_r _ [36, 37, 38, 39, 40, 41, 42, 43, 44, 45, 72, 73, 74, 75, 76, 77, 78] (by decide +kernel) (by decide +kernel)
set_option maxRecDepth 20000 in
theorem gX6_show_X4_sizesIn : GoodIn wsX6_show (wsV RX6 330 RX4 yX4_sizesIn wsX4_sizesIn) := goodIn_app (goodIn_of _ (by decide +kernel)) ggX6_show_X4_sizesIn
set_option maxRecDepth 20000 in
theorem ggX6_show_X5_addPondCell : GoodIn wsX6_show wsX5_addPondCell := goodIn_r _ [49, 50, 30, 58, 59, 60, 61, 62] (by decide +kernel) (by decide +kernel)
set_option maxRecDepth 20000 in
theorem gX6_show_X5_addPondCell : GoodIn wsX6_show (wsV RX6 333 RX5 yX5_addPondCell wsX5_addPondCell) := goodIn_app (goodIn_of _ (by decide +kernel)) ggX6_show_X5_addPondCell
theorem dX6_show_0 : decode cX6_show 0 = .ok (.aload_n 0, 1) := by decide +kernel
theorem dX6_show_1 : decode cX6_show 1 = .ok (.getfield 50, 3) := by decide +kernel
theorem dX6_show_4 : decode cX6_show 4 = .ok (.dup, 1) := by decide +kernel
theorem dX6_show_5 : decode cX6_show 5 = .ok (.getfield 185, 3) := by decide +kernel
theorem dX6_show_8 : decode cX6_show 8 = .ok (.iconst 1, 1) := by decide +kernel
theorem dX6_show_9 : decode cX6_show 9 = .ok (.iadd, 1) := by decide +kernel
theorem dX6_show_10 : decode cX6_show 10 = .ok (.putfield 185, 3) := by decide +kernel
theorem dX6_show_13 : decode cX6_show 13 = .ok (.aload_n 0, 1) := by decide +kernel
theorem dX6_show_14 : decode cX6_show 14 = .ok (.getfield 10, 3) := by decide +kernel
theorem dX6_show_17 : decode cX6_show 17 = .ok (.iload_n 1, 1) := by decide +kernel
theorem dX6_show_18 : decode cX6_show 18 = .ok (.invokevirtual 115, 3) := by decide +kernel
theorem dX6_show_21 : decode cX6_show 21 = .ok (.istore_n 3, 1) := by decide +kernel
theorem dX6_show_22 : decode cX6_show 22 = .ok (.iload_n 3, 1) := by decide +kernel
theorem dX6_show_23 : decode cX6_show 23 = .ok (.iconst 1, 1) := by decide +kernel
theorem dX6_show_24 : decode cX6_show 24 = .ok (.if_icmp .ne 29, 3) := by decide +kernel
theorem dX6_show_27 : decode cX6_show 27 = .ok (.aload_n 0, 1) := by decide +kernel
theorem dX6_show_28 : decode cX6_show 28 = .ok (.getfield 50, 3) := by decide +kernel
theorem dX6_show_31 : decode cX6_show 31 = .ok (.aload_n 0, 1) := by decide +kernel
theorem dX6_show_32 : decode cX6_show 32 = .ok (.getfield 10, 3) := by decide +kernel
theorem dX6_show_35 : decode cX6_show 35 = .ok (.iload_n 1, 1) := by decide +kernel
theorem dX6_show_36 : decode cX6_show 36 = .ok (.invokevirtual 118, 3) := by decide +kernel
theorem dX6_show_39 : decode cX6_show 39 = .ok (.aload_n 0, 1) := by decide +kernel
theorem dX6_show_40 : decode cX6_show 40 = .ok (.getfield 10, 3) := by decide +kernel
theorem dX6_show_43 : decode cX6_show 43 = .ok (.iload_n 1, 1) := by decide +kernel
theorem dX6_show_44 : decode cX6_show 44 = .ok (.invokevirtual 106, 3) := by decide +kernel
theorem dX6_show_47 : decode cX6_show 47 = .ok (.invokevirtual 327, 3) := by decide +kernel
theorem dX6_show_50 : decode cX6_show 50 = .ok (.goto 24, 3) := by decide +kernel
theorem dX6_show_53 : decode cX6_show 53 = .ok (.iload_n 3, 1) := by decide +kernel
theorem dX6_show_54 : decode cX6_show 54 = .ok (.iconst 2, 1) := by decide +kernel
theorem dX6_show_55 : decode cX6_show 55 = .ok (.if_icmp .ne 19, 3) := by decide +kernel
theorem dX6_show_58 : decode cX6_show 58 = .ok (.aload_n 0, 1) := by decide +kernel
theorem dX6_show_59 : decode cX6_show 59 = .ok (.getfield 50, 3) := by decide +kernel
theorem dX6_show_62 : decode cX6_show 62 = .ok (.aload_n 0, 1) := by decide +kernel
theorem dX6_show_63 : decode cX6_show 63 = .ok (.getfield 19, 3) := by decide +kernel
theorem dX6_show_66 : decode cX6_show 66 = .ok (.iload_n 1, 1) := by decide +kernel
theorem dX6_show_67 : decode cX6_show 67 = .ok (.aload_n 2, 1) := by decide +kernel
theorem dX6_show_68 : decode cX6_show 68 = .ok (.invokevirtual 330, 3) := by decide +kernel
theorem dX6_show_71 : decode cX6_show 71 = .ok (.invokevirtual 333, 3) := by decide +kernel
theorem dX6_show_74 : decode cX6_show 74 = .ok (.return_, 1) := by decide +kernel
set_option maxRecDepth 20000 in
theorem ggX6_checkPlace_X1_isInside : GoodIn wsX6_checkPlace wsX1_isInside := goodIn_r _ [6] (by decide +kernel) (by decide +kernel)
set_option maxRecDepth 20000 in
theorem gX6_checkPlace_X1_isInside : GoodIn wsX6_checkPlace (va_wsS RX6 336 yX1_isInside wsX1_isInside) := goodIn_app (goodIn_of _ (by decide +kernel)) ggX6_checkPlace_X1_isInside
theorem dX6_checkPlace_0 : decode cX6_checkPlace 0 = .ok (.iload_n 1, 1) := by decide +kernel
theorem dX6_checkPlace_1 : decode cX6_checkPlace 1 = .ok (.iload_n 2, 1) := by decide +kernel
theorem dX6_checkPlace_2 : decode cX6_checkPlace 2 = .ok (.invokestatic 336, 3) := by decide +kernel
theorem dX6_checkPlace_5 : decode cX6_checkPlace 5 = .ok (.ifCond .ne 14, 3) := by decide +kernel
theorem dX6_checkPlace_8 : decode cX6_checkPlace 8 = .ok (.new 249, 3) := by decide +kernel
theorem dX6_checkPlace_11 : decode cX6_checkPlace 11 = .ok (.dup, 1) := by decide +kernel
theorem dX6_checkPlace_12 : decode cX6_checkPlace 12 = .ok (.ldc_w 340, 3) := by decide +kernel
theorem dX6_checkPlace_15 : decode cX6_checkPlace 15 = .ok (.invokespecial 253, 3) := by decide +kernel
theorem dX6_checkPlace_18 : decode cX6_checkPlace 18 = .ok (.athrow, 1) := by decide +kernel
theorem dX6_checkPlace_19 : decode cX6_checkPlace 19 = .ok (.return_, 1) := by decide +kernel
theorem dX6_checkRock_0 : decode cX6_checkRock 0 = .ok (.iload_n 1, 1) := by decide +kernel
theorem dX6_checkRock_1 : decode cX6_checkRock 1 = .ok (.ifCond .lt 8, 3) := by decide +kernel
theorem dX6_checkRock_4 : decode cX6_checkRock 4 = .ok (.iload_n 1, 1) := by decide +kernel
theorem dX6_checkRock_5 : decode cX6_checkRock 5 = .ok (.iconst 5, 1) := by decide +kernel
theorem dX6_checkRock_6 : decode cX6_checkRock 6 = .ok (.if_icmp .le 14, 3) := by decide +kernel
theorem dX6_checkRock_9 : decode cX6_checkRock 9 = .ok (.new 166, 3) := by decide +kernel
theorem dX6_checkRock_12 : decode cX6_checkRock 12 = .ok (.dup, 1) := by decide +kernel
theorem dX6_checkRock_13 : decode cX6_checkRock 13 = .ok (.ldc_w 342, 3) := by decide +kernel
theorem dX6_checkRock_16 : decode cX6_checkRock 16 = .ok (.invokespecial 170, 3) := by decide +kernel
theorem dX6_checkRock_19 : decode cX6_checkRock 19 = .ok (.athrow, 1) := by decide +kernel
theorem dX6_checkRock_20 : decode cX6_checkRock 20 = .ok (.iload_n 2, 1) := by decide +kernel
theorem dX6_checkRock_21 : decode cX6_checkRock 21 = .ok (.iconst 1, 1) := by decide +kernel
theorem dX6_checkRock_22 : decode cX6_checkRock 22 = .ok (.if_icmp .lt 9, 3) := by decide +kernel
theorem dX6_checkRock_25 : decode cX6_checkRock 25 = .ok (.iload_n 2, 1) := by decide +kernel
theorem dX6_checkRock_26 : decode cX6_checkRock 26 = .ok (.bipush 9, 2) := by decide +kernel
theorem dX6_checkRock_28 : decode cX6_checkRock 28 = .ok (.if_icmp .le 14, 3) := by decide +kernel
theorem dX6_checkRock_31 : decode cX6_checkRock 31 = .ok (.new 166, 3) := by decide +kernel
theorem dX6_checkRock_34 : decode cX6_checkRock 34 = .ok (.dup, 1) := by decide +kernel
theorem dX6_checkRock_35 : decode cX6_checkRock 35 = .ok (.ldc_w 344, 3) := by decide +kernel
theorem dX6_checkRock_38 : decode cX6_checkRock 38 = .ok (.invokespecial 170, 3) := by decide +kernel
theorem dX6_checkRock_41 : decode cX6_checkRock 41 = .ok (.athrow, 1) := by decide +kernel
theorem dX6_checkRock_42 : decode cX6_checkRock 42 = .ok (.return_, 1) := by decide +kernel
set_option maxRecDepth 20000 in
theorem ggX6_checkBare_X1_isBare : GoodIn wsX6_checkBare wsX1_isBare := goodIn_r _ [8, 9, 10, 11, 7, 12, 13, 14, 15, 16, 24, 25, 26, 27, 28, 29, 30, 31, 32] (by decide +kernel) (by decide +kernel)
set_option maxRecDepth 20000 in
theorem gX6_checkBare_X1_isBare : GoodIn wsX6_checkBare (wsV RX6 90 RX1 yX1_isBare wsX1_isBare) := goodIn_app (goodIn_of _ (by decide +kernel)) ggX6_checkBare_X1_isBare
theorem dX6_checkBare_0 : decode cX6_checkBare 0 = .ok (.aload_n 0, 1) := by decide +kernel
theorem dX6_checkBare_1 : decode cX6_checkBare 1 = .ok (.getfield 10, 3) := by decide +kernel
theorem dX6_checkBare_4 : decode cX6_checkBare 4 = .ok (.iload_n 1, 1) := by decide +kernel
theorem dX6_checkBare_5 : decode cX6_checkBare 5 = .ok (.invokevirtual 90, 3) := by decide +kernel
theorem dX6_checkBare_8 : decode cX6_checkBare 8 = .ok (.ifCond .ne 14, 3) := by decide +kernel
theorem dX6_checkBare_11 : decode cX6_checkBare 11 = .ok (.new 94, 3) := by decide +kernel
theorem dX6_checkBare_14 : decode cX6_checkBare 14 = .ok (.dup, 1) := by decide +kernel
theorem dX6_checkBare_15 : decode cX6_checkBare 15 = .ok (.ldc_w 346, 3) := by decide +kernel
theorem dX6_checkBare_18 : decode cX6_checkBare 18 = .ok (.invokespecial 98, 3) := by decide +kernel
theorem dX6_checkBare_21 : decode cX6_checkBare 21 = .ok (.athrow, 1) := by decide +kernel
theorem dX6_checkBare_22 : decode cX6_checkBare 22 = .ok (.return_, 1) := by decide +kernel
theorem dX6_spend_0 : decode cX6_spend 0 = .ok (.aload_n 0, 1) := by decide +kernel
theorem dX6_spend_1 : decode cX6_spend 1 = .ok (.getfield 40, 3) := by decide +kernel
theorem dX6_spend_4 : decode cX6_spend 4 = .ok (.getfield 76, 3) := by decide +kernel
theorem dX6_spend_7 : decode cX6_spend 7 = .ok (.iload_n 1, 1) := by decide +kernel
theorem dX6_spend_8 : decode cX6_spend 8 = .ok (.if_icmp .ge 14, 3) := by decide +kernel
theorem dX6_spend_11 : decode cX6_spend 11 = .ok (.new 94, 3) := by decide +kernel
theorem dX6_spend_14 : decode cX6_spend 14 = .ok (.dup, 1) := by decide +kernel
theorem dX6_spend_15 : decode cX6_spend 15 = .ok (.ldc_w 348, 3) := by decide +kernel
theorem dX6_spend_18 : decode cX6_spend 18 = .ok (.invokespecial 98, 3) := by decide +kernel
theorem dX6_spend_21 : decode cX6_spend 21 = .ok (.athrow, 1) := by decide +kernel
theorem dX6_spend_22 : decode cX6_spend 22 = .ok (.aload_n 0, 1) := by decide +kernel
theorem dX6_spend_23 : decode cX6_spend 23 = .ok (.getfield 40, 3) := by decide +kernel
theorem dX6_spend_26 : decode cX6_spend 26 = .ok (.dup, 1) := by decide +kernel
theorem dX6_spend_27 : decode cX6_spend 27 = .ok (.getfield 76, 3) := by decide +kernel
theorem dX6_spend_30 : decode cX6_spend 30 = .ok (.iload_n 1, 1) := by decide +kernel
theorem dX6_spend_31 : decode cX6_spend 31 = .ok (.isub, 1) := by decide +kernel
theorem dX6_spend_32 : decode cX6_spend 32 = .ok (.putfield 76, 3) := by decide +kernel
theorem dX6_spend_35 : decode cX6_spend 35 = .ok (.return_, 1) := by decide +kernel
theorem dX6_checkWhat_0 : decode cX6_checkWhat 0 = .ok (.iload_n 1, 1) := by decide +kernel
theorem dX6_checkWhat_1 : decode cX6_checkWhat 1 = .ok (.ifCond .lt 8, 3) := by decide +kernel
theorem dX6_checkWhat_4 : decode cX6_checkWhat 4 = .ok (.iload_n 1, 1) := by decide +kernel
theorem dX6_checkWhat_5 : decode cX6_checkWhat 5 = .ok (.iload_n 2, 1) := by decide +kernel
theorem dX6_checkWhat_6 : decode cX6_checkWhat 6 = .ok (.if_icmp .lt 14, 3) := by decide +kernel
theorem dX6_checkWhat_9 : decode cX6_checkWhat 9 = .ok (.new 249, 3) := by decide +kernel
theorem dX6_checkWhat_12 : decode cX6_checkWhat 12 = .ok (.dup, 1) := by decide +kernel
theorem dX6_checkWhat_13 : decode cX6_checkWhat 13 = .ok (.ldc_w 350, 3) := by decide +kernel
theorem dX6_checkWhat_16 : decode cX6_checkWhat 16 = .ok (.invokespecial 253, 3) := by decide +kernel
theorem dX6_checkWhat_19 : decode cX6_checkWhat 19 = .ok (.athrow, 1) := by decide +kernel
theorem dX6_checkWhat_20 : decode cX6_checkWhat 20 = .ok (.return_, 1) := by decide +kernel
theorem dX6_checkCarp_0 : decode cX6_checkCarp 0 = .ok (.iload_n 1, 1) := by decide +kernel
theorem dX6_checkCarp_1 : decode cX6_checkCarp 1 = .ok (.ifCond .lt 14, 3) := by decide +kernel
theorem dX6_checkCarp_4 : decode cX6_checkCarp 4 = .ok (.iload_n 1, 1) := by decide +kernel
theorem dX6_checkCarp_5 : decode cX6_checkCarp 5 = .ok (.aload_n 0, 1) := by decide +kernel
theorem dX6_checkCarp_6 : decode cX6_checkCarp 6 = .ok (.getfield 19, 3) := by decide +kernel
theorem dX6_checkCarp_9 : decode cX6_checkCarp 9 = .ok (.getfield 129, 3) := by decide +kernel
theorem dX6_checkCarp_12 : decode cX6_checkCarp 12 = .ok (.if_icmp .lt 14, 3) := by decide +kernel
theorem dX6_checkCarp_15 : decode cX6_checkCarp 15 = .ok (.new 249, 3) := by decide +kernel
theorem dX6_checkCarp_18 : decode cX6_checkCarp 18 = .ok (.dup, 1) := by decide +kernel
theorem dX6_checkCarp_19 : decode cX6_checkCarp 19 = .ok (.ldc_w 352, 3) := by decide +kernel
theorem dX6_checkCarp_22 : decode cX6_checkCarp 22 = .ok (.invokespecial 253, 3) := by decide +kernel
theorem dX6_checkCarp_25 : decode cX6_checkCarp 25 = .ok (.athrow, 1) := by decide +kernel
theorem dX6_checkCarp_26 : decode cX6_checkCarp 26 = .ok (.return_, 1) := by decide +kernel
theorem dX6_checkGate_0 : decode cX6_checkGate 0 = .ok (.iload_n 1, 1) := by decide +kernel
theorem dX6_checkGate_1 : decode cX6_checkGate 1 = .ok (.ifCond .lt 14, 3) := by decide +kernel
theorem dX6_checkGate_4 : decode cX6_checkGate 4 = .ok (.iload_n 1, 1) := by decide +kernel
theorem dX6_checkGate_5 : decode cX6_checkGate 5 = .ok (.aload_n 0, 1) := by decide +kernel
theorem dX6_checkGate_6 : decode cX6_checkGate 6 = .ok (.getfield 26, 3) := by decide +kernel
theorem dX6_checkGate_9 : decode cX6_checkGate 9 = .ok (.getfield 171, 3) := by decide +kernel
theorem dX6_checkGate_12 : decode cX6_checkGate 12 = .ok (.if_icmp .lt 14, 3) := by decide +kernel
theorem dX6_checkGate_15 : decode cX6_checkGate 15 = .ok (.new 249, 3) := by decide +kernel
theorem dX6_checkGate_18 : decode cX6_checkGate 18 = .ok (.dup, 1) := by decide +kernel
theorem dX6_checkGate_19 : decode cX6_checkGate 19 = .ok (.ldc_w 354, 3) := by decide +kernel
theorem dX6_checkGate_22 : decode cX6_checkGate 22 = .ok (.invokespecial 253, 3) := by decide +kernel
theorem dX6_checkGate_25 : decode cX6_checkGate 25 = .ok (.athrow, 1) := by decide +kernel
theorem dX6_checkGate_26 : decode cX6_checkGate 26 = .ok (.return_, 1) := by decide +kernel
theorem dX6_checkPoet_0 : decode cX6_checkPoet 0 = .ok (.iload_n 1, 1) := by decide +kernel
theorem dX6_checkPoet_1 : decode cX6_checkPoet 1 = .ok (.ifCond .lt 14, 3) := by decide +kernel
theorem dX6_checkPoet_4 : decode cX6_checkPoet 4 = .ok (.iload_n 1, 1) := by decide +kernel
theorem dX6_checkPoet_5 : decode cX6_checkPoet 5 = .ok (.aload_n 0, 1) := by decide +kernel
theorem dX6_checkPoet_6 : decode cX6_checkPoet 6 = .ok (.getfield 33, 3) := by decide +kernel
theorem dX6_checkPoet_9 : decode cX6_checkPoet 9 = .ok (.getfield 200, 3) := by decide +kernel
theorem dX6_checkPoet_12 : decode cX6_checkPoet 12 = .ok (.if_icmp .lt 14, 3) := by decide +kernel
theorem dX6_checkPoet_15 : decode cX6_checkPoet 15 = .ok (.new 249, 3) := by decide +kernel
theorem dX6_checkPoet_18 : decode cX6_checkPoet 18 = .ok (.dup, 1) := by decide +kernel
theorem dX6_checkPoet_19 : decode cX6_checkPoet 19 = .ok (.ldc_w 356, 3) := by decide +kernel
theorem dX6_checkPoet_22 : decode cX6_checkPoet 22 = .ok (.invokespecial 253, 3) := by decide +kernel
theorem dX6_checkPoet_25 : decode cX6_checkPoet 25 = .ok (.athrow, 1) := by decide +kernel
theorem dX6_checkPoet_26 : decode cX6_checkPoet 26 = .ok (.return_, 1) := by decide +kernel
theorem dX6_checkDays_0 : decode cX6_checkDays 0 = .ok (.iload_n 1, 1) := by decide +kernel
theorem dX6_checkDays_1 : decode cX6_checkDays 1 = .ok (.iconst 1, 1) := by decide +kernel
theorem dX6_checkDays_2 : decode cX6_checkDays 2 = .ok (.if_icmp .lt 9, 3) := by decide +kernel
theorem dX6_checkDays_5 : decode cX6_checkDays 5 = .ok (.iload_n 1, 1) := by decide +kernel
theorem dX6_checkDays_6 : decode cX6_checkDays 6 = .ok (.bipush 60, 2) := by decide +kernel
theorem dX6_checkDays_8 : decode cX6_checkDays 8 = .ok (.if_icmp .le 14, 3) := by decide +kernel
theorem dX6_checkDays_11 : decode cX6_checkDays 11 = .ok (.new 166, 3) := by decide +kernel
theorem dX6_checkDays_14 : decode cX6_checkDays 14 = .ok (.dup, 1) := by decide +kernel
theorem dX6_checkDays_15 : decode cX6_checkDays 15 = .ok (.ldc_w 358, 3) := by decide +kernel
theorem dX6_checkDays_18 : decode cX6_checkDays 18 = .ok (.invokespecial 170, 3) := by decide +kernel
theorem dX6_checkDays_21 : decode cX6_checkDays 21 = .ok (.athrow, 1) := by decide +kernel
theorem dX6_checkDays_22 : decode cX6_checkDays 22 = .ok (.return_, 1) := by decide +kernel
end
section
theorem dX7_init_0 : decode cX7_init 0 = .ok (.aload_n 0, 1) := by decide +kernel
theorem dX7_init_1 : decode cX7_init 1 = .ok (.invokespecial 1, 3) := by decide +kernel
theorem dX7_init_4 : decode cX7_init 4 = .ok (.aload_n 0, 1) := by decide +kernel
theorem dX7_init_5 : decode cX7_init 5 = .ok (.bipush 100, 2) := by decide +kernel
theorem dX7_init_7 : decode cX7_init 7 = .ok (.putfield 7, 3) := by decide +kernel
theorem dX7_init_10 : decode cX7_init 10 = .ok (.aload_n 0, 1) := by decide +kernel
theorem dX7_init_11 : decode cX7_init 11 = .ok (.bipush 7, 2) := by decide +kernel
theorem dX7_init_13 : decode cX7_init 13 = .ok (.bipush 10, 2) := by decide +kernel
theorem dX7_init_15 : decode cX7_init 15 = .ok (.iconst 3, 1) := by decide +kernel
theorem dX7_init_16 : decode cX7_init 16 = .ok (.multianewarray 13 3, 4) := by decide +kernel
theorem dX7_init_20 : decode cX7_init 20 = .ok (.putfield 15, 3) := by decide +kernel
theorem dX7_init_23 : decode cX7_init 23 = .ok (.aload_n 0, 1) := by decide +kernel
theorem dX7_init_24 : decode cX7_init 24 = .ok (.iconst 0, 1) := by decide +kernel
theorem dX7_init_25 : decode cX7_init 25 = .ok (.anewarray 18, 3) := by decide +kernel
theorem dX7_init_28 : decode cX7_init 28 = .ok (.putfield 20, 3) := by decide +kernel
theorem dX7_init_31 : decode cX7_init 31 = .ok (.aload_n 0, 1) := by decide +kernel
theorem dX7_init_32 : decode cX7_init 32 = .ok (.iconst 0, 1) := by decide +kernel
theorem dX7_init_33 : decode cX7_init 33 = .ok (.anewarray 18, 3) := by decide +kernel
theorem dX7_init_36 : decode cX7_init 36 = .ok (.putfield 24, 3) := by decide +kernel
theorem dX7_init_39 : decode cX7_init 39 = .ok (.aload_n 0, 1) := by decide +kernel
theorem dX7_init_40 : decode cX7_init 40 = .ok (.iconst 0, 1) := by decide +kernel
theorem dX7_init_41 : decode cX7_init 41 = .ok (.anewarray 18, 3) := by decide +kernel
theorem dX7_init_44 : decode cX7_init 44 = .ok (.putfield 27, 3) := by decide +kernel
theorem dX7_init_47 : decode cX7_init 47 = .ok (.return_, 1) := by decide +kernel
theorem dX7_more_0 : decode cX7_more 0 = .ok (.aload_n 0, 1) := by decide +kernel
theorem dX7_more_1 : decode cX7_more 1 = .ok (.arraylength, 1) := by decide +kernel
theorem dX7_more_2 : decode cX7_more 2 = .ok (.iconst 1, 1) := by decide +kernel
theorem dX7_more_3 : decode cX7_more 3 = .ok (.iadd, 1) := by decide +kernel
theorem dX7_more_4 : decode cX7_more 4 = .ok (.anewarray 18, 3) := by decide +kernel
theorem dX7_more_7 : decode cX7_more 7 = .ok (.astore_n 2, 1) := by decide +kernel
theorem dX7_more_8 : decode cX7_more 8 = .ok (.iconst 0, 1) := by decide +kernel
theorem dX7_more_9 : decode cX7_more 9 = .ok (.istore_n 3, 1) := by decide +kernel
theorem dX7_more_10 : decode cX7_more 10 = .ok (.iload_n 3, 1) := by decide +kernel
theorem dX7_more_11 : decode cX7_more 11 = .ok (.aload_n 0, 1) := by decide +kernel
theorem dX7_more_12 : decode cX7_more 12 = .ok (.arraylength, 1) := by decide +kernel
theorem dX7_more_13 : decode cX7_more 13 = .ok (.if_icmp .ge 15, 3) := by decide +kernel
theorem dX7_more_16 : decode cX7_more 16 = .ok (.aload_n 2, 1) := by decide +kernel
theorem dX7_more_17 : decode cX7_more 17 = .ok (.iload_n 3, 1) := by decide +kernel
theorem dX7_more_18 : decode cX7_more 18 = .ok (.aload_n 0, 1) := by decide +kernel
theorem dX7_more_19 : decode cX7_more 19 = .ok (.iload_n 3, 1) := by decide +kernel
theorem dX7_more_20 : decode cX7_more 20 = .ok (.aaload, 1) := by decide +kernel
theorem dX7_more_21 : decode cX7_more 21 = .ok (.aastore, 1) := by decide +kernel
theorem dX7_more_22 : decode cX7_more 22 = .ok (.iinc 3 1, 3) := by decide +kernel
theorem dX7_more_25 : decode cX7_more 25 = .ok (.goto (-15), 3) := by decide +kernel
theorem dX7_more_28 : decode cX7_more 28 = .ok (.aload_n 2, 1) := by decide +kernel
theorem dX7_more_29 : decode cX7_more 29 = .ok (.aload_n 0, 1) := by decide +kernel
theorem dX7_more_30 : decode cX7_more 30 = .ok (.arraylength, 1) := by decide +kernel
theorem dX7_more_31 : decode cX7_more 31 = .ok (.aload_n 1, 1) := by decide +kernel
theorem dX7_more_32 : decode cX7_more 32 = .ok (.aastore, 1) := by decide +kernel
theorem dX7_more_33 : decode cX7_more 33 = .ok (.aload_n 2, 1) := by decide +kernel
theorem dX7_more_34 : decode cX7_more 34 = .ok (.areturn, 1) := by decide +kernel
theorem dX7_pond_0 : decode cX7_pond 0 = .ok (.bipush 7, 2) := by decide +kernel
theorem dX7_pond_2 : decode cX7_pond 2 = .ok (.bipush 10, 2) := by decide +kernel
theorem dX7_pond_4 : decode cX7_pond 4 = .ok (.multianewarray 34 2, 4) := by decide +kernel
theorem dX7_pond_8 : decode cX7_pond 8 = .ok (.astore_n 3, 1) := by decide +kernel
theorem dX7_pond_9 : decode cX7_pond 9 = .ok (.aload_n 3, 1) := by decide +kernel
theorem dX7_pond_10 : decode cX7_pond 10 = .ok (.iload_n 2, 1) := by decide +kernel
theorem dX7_pond_11 : decode cX7_pond 11 = .ok (.aaload, 1) := by decide +kernel
theorem dX7_pond_12 : decode cX7_pond 12 = .ok (.iload_n 1, 1) := by decide +kernel
theorem dX7_pond_13 : decode cX7_pond 13 = .ok (.aload_n 0, 1) := by decide +kernel
theorem dX7_pond_14 : decode cX7_pond 14 = .ok (.getfield 15, 3) := by decide +kernel
theorem dX7_pond_17 : decode cX7_pond 17 = .ok (.iload_n 2, 1) := by decide +kernel
theorem dX7_pond_18 : decode cX7_pond 18 = .ok (.aaload, 1) := by decide +kernel
theorem dX7_pond_19 : decode cX7_pond 19 = .ok (.iload_n 1, 1) := by decide +kernel
theorem dX7_pond_20 : decode cX7_pond 20 = .ok (.aaload, 1) := by decide +kernel
theorem dX7_pond_21 : decode cX7_pond 21 = .ok (.iconst 0, 1) := by decide +kernel
theorem dX7_pond_22 : decode cX7_pond 22 = .ok (.iaload, 1) := by decide +kernel
theorem dX7_pond_23 : decode cX7_pond 23 = .ok (.iconst 2, 1) := by decide +kernel
theorem dX7_pond_24 : decode cX7_pond 24 = .ok (.if_icmp .ne 7, 3) := by decide +kernel
theorem dX7_pond_27 : decode cX7_pond 27 = .ok (.iconst 1, 1) := by decide +kernel
theorem dX7_pond_28 : decode cX7_pond 28 = .ok (.goto 4, 3) := by decide +kernel
theorem dX7_pond_31 : decode cX7_pond 31 = .ok (.iconst 0, 1) := by decide +kernel
theorem dX7_pond_32 : decode cX7_pond 32 = .ok (.bastore, 1) := by decide +kernel
theorem dX7_pond_33 : decode cX7_pond 33 = .ok (.aload_n 3, 1) := by decide +kernel
theorem dX7_pond_34 : decode cX7_pond 34 = .ok (.iload_n 2, 1) := by decide +kernel
theorem dX7_pond_35 : decode cX7_pond 35 = .ok (.aaload, 1) := by decide +kernel
theorem dX7_pond_36 : decode cX7_pond 36 = .ok (.iload_n 1, 1) := by decide +kernel
theorem dX7_pond_37 : decode cX7_pond 37 = .ok (.baload, 1) := by decide +kernel
theorem dX7_pond_38 : decode cX7_pond 38 = .ok (.istore 4, 2) := by decide +kernel
theorem dX7_pond_40 : decode cX7_pond 40 = .ok (.iload 4, 2) := by decide +kernel
theorem dX7_pond_42 : decode cX7_pond 42 = .ok (.ifCond .eq 165, 3) := by decide +kernel
theorem dX7_pond_45 : decode cX7_pond 45 = .ok (.iconst 0, 1) := by decide +kernel
theorem dX7_pond_46 : decode cX7_pond 46 = .ok (.istore 4, 2) := by decide +kernel
theorem dX7_pond_48 : decode cX7_pond 48 = .ok (.iconst 0, 1) := by decide +kernel
theorem dX7_pond_49 : decode cX7_pond 49 = .ok (.istore 5, 2) := by decide +kernel
theorem dX7_pond_51 : decode cX7_pond 51 = .ok (.iload 5, 2) := by decide +kernel
theorem dX7_pond_53 : decode cX7_pond 53 = .ok (.bipush 7, 2) := by decide +kernel
theorem dX7_pond_55 : decode cX7_pond 55 = .ok (.if_icmp .ge 149, 3) := by decide +kernel
theorem dX7_pond_58 : decode cX7_pond 58 = .ok (.iconst 0, 1) := by decide +kernel
theorem dX7_pond_59 : decode cX7_pond 59 = .ok (.istore 6, 2) := by decide +kernel
theorem dX7_pond_61 : decode cX7_pond 61 = .ok (.iload 6, 2) := by decide +kernel
theorem dX7_pond_63 : decode cX7_pond 63 = .ok (.bipush 10, 2) := by decide +kernel
theorem dX7_pond_65 : decode cX7_pond 65 = .ok (.if_icmp .ge 133, 3) := by decide +kernel
theorem dX7_pond_68 : decode cX7_pond 68 = .ok (.iload 6, 2) := by decide +kernel
theorem dX7_pond_70 : decode cX7_pond 70 = .ok (.ifCond .le 15, 3) := by decide +kernel
theorem dX7_pond_73 : decode cX7_pond 73 = .ok (.aload_n 3, 1) := by decide +kernel
theorem dX7_pond_74 : decode cX7_pond 74 = .ok (.iload 5, 2) := by decide +kernel
theorem dX7_pond_76 : decode cX7_pond 76 = .ok (.aaload, 1) := by decide +kernel
theorem dX7_pond_77 : decode cX7_pond 77 = .ok (.iload 6, 2) := by decide +kernel
theorem dX7_pond_79 : decode cX7_pond 79 = .ok (.iconst 1, 1) := by decide +kernel
theorem dX7_pond_80 : decode cX7_pond 80 = .ok (.isub, 1) := by decide +kernel
theorem dX7_pond_81 : decode cX7_pond 81 = .ok (.baload, 1) := by decide +kernel
theorem dX7_pond_82 : decode cX7_pond 82 = .ok (.ifCond .ne 58, 3) := by decide +kernel
theorem dX7_pond_85 : decode cX7_pond 85 = .ok (.iload 6, 2) := by decide +kernel
theorem dX7_pond_87 : decode cX7_pond 87 = .ok (.bipush 9, 2) := by decide +kernel
theorem dX7_pond_89 : decode cX7_pond 89 = .ok (.if_icmp .ge 15, 3) := by decide +kernel
theorem dX7_pond_92 : decode cX7_pond 92 = .ok (.aload_n 3, 1) := by decide +kernel
theorem dX7_pond_93 : decode cX7_pond 93 = .ok (.iload 5, 2) := by decide +kernel
theorem dX7_pond_95 : decode cX7_pond 95 = .ok (.aaload, 1) := by decide +kernel
theorem dX7_pond_96 : decode cX7_pond 96 = .ok (.iload 6, 2) := by decide +kernel
theorem dX7_pond_98 : decode cX7_pond 98 = .ok (.iconst 1, 1) := by decide +kernel
theorem dX7_pond_99 : decode cX7_pond 99 = .ok (.iadd, 1) := by decide +kernel
theorem dX7_pond_100 : decode cX7_pond 100 = .ok (.baload, 1) := by decide +kernel
theorem dX7_pond_101 : decode cX7_pond 101 = .ok (.ifCond .ne 39, 3) := by decide +kernel
theorem dX7_pond_104 : decode cX7_pond 104 = .ok (.iload 5, 2) := by decide +kernel
theorem dX7_pond_106 : decode cX7_pond 106 = .ok (.ifCond .le 15, 3) := by decide +kernel
theorem dX7_pond_109 : decode cX7_pond 109 = .ok (.aload_n 3, 1) := by decide +kernel
theorem dX7_pond_110 : decode cX7_pond 110 = .ok (.iload 5, 2) := by decide +kernel
theorem dX7_pond_112 : decode cX7_pond 112 = .ok (.iconst 1, 1) := by decide +kernel
theorem dX7_pond_113 : decode cX7_pond 113 = .ok (.isub, 1) := by decide +kernel
theorem dX7_pond_114 : decode cX7_pond 114 = .ok (.aaload, 1) := by decide +kernel
theorem dX7_pond_115 : decode cX7_pond 115 = .ok (.iload 6, 2) := by decide +kernel
theorem dX7_pond_117 : decode cX7_pond 117 = .ok (.baload, 1) := by decide +kernel
theorem dX7_pond_118 : decode cX7_pond 118 = .ok (.ifCond .ne 22, 3) := by decide +kernel
theorem dX7_pond_121 : decode cX7_pond 121 = .ok (.iload 5, 2) := by decide +kernel
theorem dX7_pond_123 : decode cX7_pond 123 = .ok (.bipush 6, 2) := by decide +kernel
theorem dX7_pond_125 : decode cX7_pond 125 = .ok (.if_icmp .ge 19, 3) := by decide +kernel
theorem dX7_pond_128 : decode cX7_pond 128 = .ok (.aload_n 3, 1) := by decide +kernel
theorem dX7_pond_129 : decode cX7_pond 129 = .ok (.iload 5, 2) := by decide +kernel
theorem dX7_pond_131 : decode cX7_pond 131 = .ok (.iconst 1, 1) := by decide +kernel
theorem dX7_pond_132 : decode cX7_pond 132 = .ok (.iadd, 1) := by decide +kernel
theorem dX7_pond_133 : decode cX7_pond 133 = .ok (.aaload, 1) := by decide +kernel
theorem dX7_pond_134 : decode cX7_pond 134 = .ok (.iload 6, 2) := by decide +kernel
theorem dX7_pond_136 : decode cX7_pond 136 = .ok (.baload, 1) := by decide +kernel
theorem dX7_pond_137 : decode cX7_pond 137 = .ok (.ifCond .eq 7, 3) := by decide +kernel
theorem dX7_pond_140 : decode cX7_pond 140 = .ok (.iconst 1, 1) := by decide +kernel
theorem dX7_pond_141 : decode cX7_pond 141 = .ok (.goto 4, 3) := by decide +kernel
theorem dX7_pond_144 : decode cX7_pond 144 = .ok (.iconst 0, 1) := by decide +kernel
theorem dX7_pond_145 : decode cX7_pond 145 = .ok (.istore 7, 2) := by decide +kernel
theorem dX7_pond_147 : decode cX7_pond 147 = .ok (.aload_n 3, 1) := by decide +kernel
theorem dX7_pond_148 : decode cX7_pond 148 = .ok (.iload 5, 2) := by decide +kernel
theorem dX7_pond_150 : decode cX7_pond 150 = .ok (.aaload, 1) := by decide +kernel
theorem dX7_pond_151 : decode cX7_pond 151 = .ok (.iload 6, 2) := by decide +kernel
theorem dX7_pond_153 : decode cX7_pond 153 = .ok (.baload, 1) := by decide +kernel
theorem dX7_pond_154 : decode cX7_pond 154 = .ok (.ifCond .ne 38, 3) := by decide +kernel
theorem dX7_pond_157 : decode cX7_pond 157 = .ok (.aload_n 0, 1) := by decide +kernel
theorem dX7_pond_158 : decode cX7_pond 158 = .ok (.getfield 15, 3) := by decide +kernel
theorem dX7_pond_161 : decode cX7_pond 161 = .ok (.iload 5, 2) := by decide +kernel
theorem dX7_pond_163 : decode cX7_pond 163 = .ok (.aaload, 1) := by decide +kernel
theorem dX7_pond_164 : decode cX7_pond 164 = .ok (.iload 6, 2) := by decide +kernel
theorem dX7_pond_166 : decode cX7_pond 166 = .ok (.aaload, 1) := by decide +kernel
theorem dX7_pond_167 : decode cX7_pond 167 = .ok (.iconst 0, 1) := by decide +kernel
theorem dX7_pond_168 : decode cX7_pond 168 = .ok (.iaload, 1) := by decide +kernel
theorem dX7_pond_169 : decode cX7_pond 169 = .ok (.iconst 2, 1) := by decide +kernel
theorem dX7_pond_170 : decode cX7_pond 170 = .ok (.if_icmp .ne 22, 3) := by decide +kernel
theorem dX7_pond_173 : decode cX7_pond 173 = .ok (.iload 7, 2) := by decide +kernel
theorem dX7_pond_175 : decode cX7_pond 175 = .ok (.ifCond .ne 6, 3) := by decide +kernel
theorem dX7_pond_178 : decode cX7_pond 178 = .ok (.goto 14, 3) := by decide +kernel
theorem dX7_pond_181 : decode cX7_pond 181 = .ok (.aload_n 3, 1) := by decide +kernel
theorem dX7_pond_182 : decode cX7_pond 182 = .ok (.iload 5, 2) := by decide +kernel
theorem dX7_pond_184 : decode cX7_pond 184 = .ok (.aaload, 1) := by decide +kernel
theorem dX7_pond_185 : decode cX7_pond 185 = .ok (.iload 6, 2) := by decide +kernel
theorem dX7_pond_187 : decode cX7_pond 187 = .ok (.iconst 1, 1) := by decide +kernel
theorem dX7_pond_188 : decode cX7_pond 188 = .ok (.bastore, 1) := by decide +kernel
theorem dX7_pond_189 : decode cX7_pond 189 = .ok (.iconst 1, 1) := by decide +kernel
theorem dX7_pond_190 : decode cX7_pond 190 = .ok (.istore 4, 2) := by decide +kernel
theorem dX7_pond_192 : decode cX7_pond 192 = .ok (.iinc 6 1, 3) := by decide +kernel
theorem dX7_pond_195 : decode cX7_pond 195 = .ok (.goto (-134), 3) := by decide +kernel
theorem dX7_pond_198 : decode cX7_pond 198 = .ok (.iinc 5 1, 3) := by decide +kernel
theorem dX7_pond_201 : decode cX7_pond 201 = .ok (.goto (-150), 3) := by decide +kernel
theorem dX7_pond_204 : decode cX7_pond 204 = .ok (.goto (-164), 3) := by decide +kernel
theorem dX7_pond_207 : decode cX7_pond 207 = .ok (.aload_n 3, 1) := by decide +kernel
theorem dX7_pond_208 : decode cX7_pond 208 = .ok (.areturn, 1) := by decide +kernel
theorem dX7_many_0 : decode cX7_many 0 = .ok (.iconst 0, 1) := by decide +kernel
theorem dX7_many_1 : decode cX7_many 1 = .ok (.istore_n 1, 1) := by decide +kernel
theorem dX7_many_2 : decode cX7_many 2 = .ok (.aload_n 0, 1) := by decide +kernel
theorem dX7_many_3 : decode cX7_many 3 = .ok (.astore_n 2, 1) := by decide +kernel
theorem dX7_many_4 : decode cX7_many 4 = .ok (.aload_n 2, 1) := by decide +kernel
theorem dX7_many_5 : decode cX7_many 5 = .ok (.arraylength, 1) := by decide +kernel
theorem dX7_many_6 : decode cX7_many 6 = .ok (.istore_n 3, 1) := by decide +kernel
theorem dX7_many_7 : decode cX7_many 7 = .ok (.iconst 0, 1) := by decide +kernel
theorem dX7_many_8 : decode cX7_many 8 = .ok (.istore 4, 2) := by decide +kernel
theorem dX7_many_10 : decode cX7_many 10 = .ok (.iload 4, 2) := by decide +kernel
theorem dX7_many_12 : decode cX7_many 12 = .ok (.iload_n 3, 1) := by decide +kernel
theorem dX7_many_13 : decode cX7_many 13 = .ok (.if_icmp .ge 60, 3) := by decide +kernel
theorem dX7_many_16 : decode cX7_many 16 = .ok (.aload_n 2, 1) := by decide +kernel
theorem dX7_many_17 : decode cX7_many 17 = .ok (.iload 4, 2) := by decide +kernel
theorem dX7_many_19 : decode cX7_many 19 = .ok (.aaload, 1) := by decide +kernel
theorem dX7_many_20 : decode cX7_many 20 = .ok (.astore 5, 2) := by decide +kernel
theorem dX7_many_22 : decode cX7_many 22 = .ok (.aload 5, 2) := by decide +kernel
theorem dX7_many_24 : decode cX7_many 24 = .ok (.astore 6, 2) := by decide +kernel
theorem dX7_many_26 : decode cX7_many 26 = .ok (.aload 6, 2) := by decide +kernel
theorem dX7_many_28 : decode cX7_many 28 = .ok (.arraylength, 1) := by decide +kernel
theorem dX7_many_29 : decode cX7_many 29 = .ok (.istore 7, 2) := by decide +kernel
theorem dX7_many_31 : decode cX7_many 31 = .ok (.iconst 0, 1) := by decide +kernel
theorem dX7_many_32 : decode cX7_many 32 = .ok (.istore 8, 2) := by decide +kernel
theorem dX7_many_34 : decode cX7_many 34 = .ok (.iload 8, 2) := by decide +kernel
theorem dX7_many_36 : decode cX7_many 36 = .ok (.iload 7, 2) := by decide +kernel
theorem dX7_many_38 : decode cX7_many 38 = .ok (.if_icmp .ge 29, 3) := by decide +kernel
theorem dX7_many_41 : decode cX7_many 41 = .ok (.aload 6, 2) := by decide +kernel
theorem dX7_many_43 : decode cX7_many 43 = .ok (.iload 8, 2) := by decide +kernel
theorem dX7_many_45 : decode cX7_many 45 = .ok (.baload, 1) := by decide +kernel
theorem dX7_many_46 : decode cX7_many 46 = .ok (.istore 9, 2) := by decide +kernel
theorem dX7_many_48 : decode cX7_many 48 = .ok (.iload_n 1, 1) := by decide +kernel
theorem dX7_many_49 : decode cX7_many 49 = .ok (.iload 9, 2) := by decide +kernel
theorem dX7_many_51 : decode cX7_many 51 = .ok (.ifCond .eq 7, 3) := by decide +kernel
theorem dX7_many_54 : decode cX7_many 54 = .ok (.iconst 1, 1) := by decide +kernel
theorem dX7_many_55 : decode cX7_many 55 = .ok (.goto 4, 3) := by decide +kernel
theorem dX7_many_58 : decode cX7_many 58 = .ok (.iconst 0, 1) := by decide +kernel
theorem dX7_many_59 : decode cX7_many 59 = .ok (.iadd, 1) := by decide +kernel
theorem dX7_many_60 : decode cX7_many 60 = .ok (.istore_n 1, 1) := by decide +kernel
theorem dX7_many_61 : decode cX7_many 61 = .ok (.iinc 8 1, 3) := by decide +kernel
theorem dX7_many_64 : decode cX7_many 64 = .ok (.goto (-30), 3) := by decide +kernel
theorem dX7_many_67 : decode cX7_many 67 = .ok (.iinc 4 1, 3) := by decide +kernel
theorem dX7_many_70 : decode cX7_many 70 = .ok (.goto (-60), 3) := by decide +kernel
theorem dX7_many_73 : decode cX7_many 73 = .ok (.iload_n 1, 1) := by decide +kernel
theorem dX7_many_74 : decode cX7_many 74 = .ok (.ireturn, 1) := by decide +kernel
theorem dX7_carpsIn_0 : decode cX7_carpsIn 0 = .ok (.iconst 0, 1) := by decide +kernel
theorem dX7_carpsIn_1 : decode cX7_carpsIn 1 = .ok (.istore_n 2, 1) := by decide +kernel
theorem dX7_carpsIn_2 : decode cX7_carpsIn 2 = .ok (.aload_n 0, 1) := by decide +kernel
theorem dX7_carpsIn_3 : decode cX7_carpsIn 3 = .ok (.getfield 20, 3) := by decide +kernel
theorem dX7_carpsIn_6 : decode cX7_carpsIn 6 = .ok (.astore_n 3, 1) := by decide +kernel
theorem dX7_carpsIn_7 : decode cX7_carpsIn 7 = .ok (.aload_n 3, 1) := by decide +kernel
theorem dX7_carpsIn_8 : decode cX7_carpsIn 8 = .ok (.arraylength, 1) := by decide +kernel
theorem dX7_carpsIn_9 : decode cX7_carpsIn 9 = .ok (.istore 4, 2) := by decide +kernel
theorem dX7_carpsIn_11 : decode cX7_carpsIn 11 = .ok (.iconst 0, 1) := by decide +kernel
theorem dX7_carpsIn_12 : decode cX7_carpsIn 12 = .ok (.istore 5, 2) := by decide +kernel
theorem dX7_carpsIn_14 : decode cX7_carpsIn 14 = .ok (.iload 5, 2) := by decide +kernel
theorem dX7_carpsIn_16 : decode cX7_carpsIn 16 = .ok (.iload 4, 2) := by decide +kernel
theorem dX7_carpsIn_18 : decode cX7_carpsIn 18 = .ok (.if_icmp .ge 44, 3) := by decide +kernel
theorem dX7_carpsIn_21 : decode cX7_carpsIn 21 = .ok (.aload_n 3, 1) := by decide +kernel
theorem dX7_carpsIn_22 : decode cX7_carpsIn 22 = .ok (.iload 5, 2) := by decide +kernel
theorem dX7_carpsIn_24 : decode cX7_carpsIn 24 = .ok (.aaload, 1) := by decide +kernel
theorem dX7_carpsIn_25 : decode cX7_carpsIn 25 = .ok (.astore 6, 2) := by decide +kernel
theorem dX7_carpsIn_27 : decode cX7_carpsIn 27 = .ok (.iload_n 2, 1) := by decide +kernel
theorem dX7_carpsIn_28 : decode cX7_carpsIn 28 = .ok (.aload 6, 2) := by decide +kernel
theorem dX7_carpsIn_30 : decode cX7_carpsIn 30 = .ok (.iconst 3, 1) := by decide +kernel
theorem dX7_carpsIn_31 : decode cX7_carpsIn 31 = .ok (.iaload, 1) := by decide +kernel
theorem dX7_carpsIn_32 : decode cX7_carpsIn 32 = .ok (.ifCond .ne 21, 3) := by decide +kernel
theorem dX7_carpsIn_35 : decode cX7_carpsIn 35 = .ok (.aload_n 1, 1) := by decide +kernel
theorem dX7_carpsIn_36 : decode cX7_carpsIn 36 = .ok (.aload 6, 2) := by decide +kernel
theorem dX7_carpsIn_38 : decode cX7_carpsIn 38 = .ok (.iconst 1, 1) := by decide +kernel
theorem dX7_carpsIn_39 : decode cX7_carpsIn 39 = .ok (.iaload, 1) := by decide +kernel
theorem dX7_carpsIn_40 : decode cX7_carpsIn 40 = .ok (.aaload, 1) := by decide +kernel
theorem dX7_carpsIn_41 : decode cX7_carpsIn 41 = .ok (.aload 6, 2) := by decide +kernel
theorem dX7_carpsIn_43 : decode cX7_carpsIn 43 = .ok (.iconst 0, 1) := by decide +kernel
theorem dX7_carpsIn_44 : decode cX7_carpsIn 44 = .ok (.iaload, 1) := by decide +kernel
theorem dX7_carpsIn_45 : decode cX7_carpsIn 45 = .ok (.baload, 1) := by decide +kernel
theorem dX7_carpsIn_46 : decode cX7_carpsIn 46 = .ok (.ifCond .eq 7, 3) := by decide +kernel
theorem dX7_carpsIn_49 : decode cX7_carpsIn 49 = .ok (.iconst 1, 1) := by decide +kernel
theorem dX7_carpsIn_50 : decode cX7_carpsIn 50 = .ok (.goto 4, 3) := by decide +kernel
theorem dX7_carpsIn_53 : decode cX7_carpsIn 53 = .ok (.iconst 0, 1) := by decide +kernel
theorem dX7_carpsIn_54 : decode cX7_carpsIn 54 = .ok (.iadd, 1) := by decide +kernel
theorem dX7_carpsIn_55 : decode cX7_carpsIn 55 = .ok (.istore_n 2, 1) := by decide +kernel
theorem dX7_carpsIn_56 : decode cX7_carpsIn 56 = .ok (.iinc 5 1, 3) := by decide +kernel
theorem dX7_carpsIn_59 : decode cX7_carpsIn 59 = .ok (.goto (-45), 3) := by decide +kernel
theorem dX7_carpsIn_62 : decode cX7_carpsIn 62 = .ok (.iload_n 2, 1) := by decide +kernel
theorem dX7_carpsIn_63 : decode cX7_carpsIn 63 = .ok (.ireturn, 1) := by decide +kernel
set_option maxRecDepth 20000 in
theorem ggX7_shows_X7_more : GoodIn wsX7_shows wsX7_more := goodIn_r _ [7, 1] (by decide +kernel) (by decide +kernel)
set_option maxRecDepth 20000 in
theorem gX7_shows_X7_more : GoodIn wsX7_shows (va_wsS RX7 36 yX7_more wsX7_more) := goodIn_app (goodIn_of _ (by decide +kernel)) ggX7_shows_X7_more
theorem dX7_shows_0 : decode cX7_shows 0 = .ok (.iconst 0, 1) := by decide +kernel
theorem dX7_shows_1 : decode cX7_shows 1 = .ok (.anewarray 18, 3) := by decide +kernel
theorem dX7_shows_4 : decode cX7_shows 4 = .ok (.astore_n 2, 1) := by decide +kernel
theorem dX7_shows_5 : decode cX7_shows 5 = .ok (.aload_n 1, 1) := by decide +kernel
theorem dX7_shows_6 : decode cX7_shows 6 = .ok (.iconst 0, 1) := by decide +kernel
theorem dX7_shows_7 : decode cX7_shows 7 = .ok (.iaload, 1) := by decide +kernel
theorem dX7_shows_8 : decode cX7_shows 8 = .ok (.istore_n 3, 1) := by decide +kernel
theorem dX7_shows_9 : decode cX7_shows 9 = .ok (.aload_n 1, 1) := by decide +kernel
theorem dX7_shows_10 : decode cX7_shows 10 = .ok (.iconst 1, 1) := by decide +kernel
theorem dX7_shows_11 : decode cX7_shows 11 = .ok (.iaload, 1) := by decide +kernel
theorem dX7_shows_12 : decode cX7_shows 12 = .ok (.istore 4, 2) := by decide +kernel
theorem dX7_shows_14 : decode cX7_shows 14 = .ok (.iload_n 3, 1) := by decide +kernel
theorem dX7_shows_15 : decode cX7_shows 15 = .ok (.aload_n 1, 1) := by decide +kernel
theorem dX7_shows_16 : decode cX7_shows 16 = .ok (.iconst 2, 1) := by decide +kernel
theorem dX7_shows_17 : decode cX7_shows 17 = .ok (.iaload, 1) := by decide +kernel
theorem dX7_shows_18 : decode cX7_shows 18 = .ok (.iconst 1, 1) := by decide +kernel
theorem dX7_shows_19 : decode cX7_shows 19 = .ok (.if_icmp .ne 7, 3) := by decide +kernel
theorem dX7_shows_22 : decode cX7_shows 22 = .ok (.iconst 1, 1) := by decide +kernel
theorem dX7_shows_23 : decode cX7_shows 23 = .ok (.goto 15, 3) := by decide +kernel
theorem dX7_shows_26 : decode cX7_shows 26 = .ok (.aload_n 1, 1) := by decide +kernel
theorem dX7_shows_27 : decode cX7_shows 27 = .ok (.iconst 2, 1) := by decide +kernel
theorem dX7_shows_28 : decode cX7_shows 28 = .ok (.iaload, 1) := by decide +kernel
theorem dX7_shows_29 : decode cX7_shows 29 = .ok (.iconst 3, 1) := by decide +kernel
theorem dX7_shows_30 : decode cX7_shows 30 = .ok (.if_icmp .ne 7, 3) := by decide +kernel
theorem dX7_shows_33 : decode cX7_shows 33 = .ok (.iconst (-1), 1) := by decide +kernel
theorem dX7_shows_34 : decode cX7_shows 34 = .ok (.goto 4, 3) := by decide +kernel
theorem dX7_shows_37 : decode cX7_shows 37 = .ok (.iconst 0, 1) := by decide +kernel
theorem dX7_shows_38 : decode cX7_shows 38 = .ok (.iadd, 1) := by decide +kernel
theorem dX7_shows_39 : decode cX7_shows 39 = .ok (.istore_n 3, 1) := by decide +kernel
theorem dX7_shows_40 : decode cX7_shows 40 = .ok (.iload 4, 2) := by decide +kernel
theorem dX7_shows_42 : decode cX7_shows 42 = .ok (.aload_n 1, 1) := by decide +kernel
theorem dX7_shows_43 : decode cX7_shows 43 = .ok (.iconst 2, 1) := by decide +kernel
theorem dX7_shows_44 : decode cX7_shows 44 = .ok (.iaload, 1) := by decide +kernel
theorem dX7_shows_45 : decode cX7_shows 45 = .ok (.iconst 2, 1) := by decide +kernel
theorem dX7_shows_46 : decode cX7_shows 46 = .ok (.if_icmp .ne 7, 3) := by decide +kernel
theorem dX7_shows_49 : decode cX7_shows 49 = .ok (.iconst 1, 1) := by decide +kernel
theorem dX7_shows_50 : decode cX7_shows 50 = .ok (.goto 14, 3) := by decide +kernel
theorem dX7_shows_53 : decode cX7_shows 53 = .ok (.aload_n 1, 1) := by decide +kernel
theorem dX7_shows_54 : decode cX7_shows 54 = .ok (.iconst 2, 1) := by decide +kernel
theorem dX7_shows_55 : decode cX7_shows 55 = .ok (.iaload, 1) := by decide +kernel
theorem dX7_shows_56 : decode cX7_shows 56 = .ok (.ifCond .ne 7, 3) := by decide +kernel
theorem dX7_shows_59 : decode cX7_shows 59 = .ok (.iconst (-1), 1) := by decide +kernel
theorem dX7_shows_60 : decode cX7_shows 60 = .ok (.goto 4, 3) := by decide +kernel
theorem dX7_shows_63 : decode cX7_shows 63 = .ok (.iconst 0, 1) := by decide +kernel
theorem dX7_shows_64 : decode cX7_shows 64 = .ok (.iadd, 1) := by decide +kernel
theorem dX7_shows_65 : decode cX7_shows 65 = .ok (.istore 4, 2) := by decide +kernel
theorem dX7_shows_67 : decode cX7_shows 67 = .ok (.iload_n 3, 1) := by decide +kernel
theorem dX7_shows_68 : decode cX7_shows 68 = .ok (.ifCond .lt 36, 3) := by decide +kernel
theorem dX7_shows_71 : decode cX7_shows 71 = .ok (.iload_n 3, 1) := by decide +kernel
theorem dX7_shows_72 : decode cX7_shows 72 = .ok (.bipush 9, 2) := by decide +kernel
theorem dX7_shows_74 : decode cX7_shows 74 = .ok (.if_icmp .gt 30, 3) := by decide +kernel
theorem dX7_shows_77 : decode cX7_shows 77 = .ok (.iload 4, 2) := by decide +kernel
theorem dX7_shows_79 : decode cX7_shows 79 = .ok (.ifCond .lt 25, 3) := by decide +kernel
theorem dX7_shows_82 : decode cX7_shows 82 = .ok (.iload 4, 2) := by decide +kernel
theorem dX7_shows_84 : decode cX7_shows 84 = .ok (.bipush 6, 2) := by decide +kernel
theorem dX7_shows_86 : decode cX7_shows 86 = .ok (.if_icmp .gt 18, 3) := by decide +kernel
theorem dX7_shows_89 : decode cX7_shows 89 = .ok (.aload_n 0, 1) := by decide +kernel
theorem dX7_shows_90 : decode cX7_shows 90 = .ok (.getfield 15, 3) := by decide +kernel
theorem dX7_shows_93 : decode cX7_shows 93 = .ok (.iload 4, 2) := by decide +kernel
theorem dX7_shows_95 : decode cX7_shows 95 = .ok (.aaload, 1) := by decide +kernel
theorem dX7_shows_96 : decode cX7_shows 96 = .ok (.iload_n 3, 1) := by decide +kernel
theorem dX7_shows_97 : decode cX7_shows 97 = .ok (.aaload, 1) := by decide +kernel
theorem dX7_shows_98 : decode cX7_shows 98 = .ok (.iconst 0, 1) := by decide +kernel
theorem dX7_shows_99 : decode cX7_shows 99 = .ok (.iaload, 1) := by decide +kernel
theorem dX7_shows_100 : decode cX7_shows 100 = .ok (.iconst 3, 1) := by decide +kernel
theorem dX7_shows_101 : decode cX7_shows 101 = .ok (.if_icmp .ne 5, 3) := by decide +kernel
theorem dX7_shows_104 : decode cX7_shows 104 = .ok (.aload_n 2, 1) := by decide +kernel
theorem dX7_shows_105 : decode cX7_shows 105 = .ok (.areturn, 1) := by decide +kernel
theorem dX7_shows_106 : decode cX7_shows 106 = .ok (.iconst 2, 1) := by decide +kernel
theorem dX7_shows_107 : decode cX7_shows 107 = .ok (.newarray .int, 2) := by decide +kernel
theorem dX7_shows_109 : decode cX7_shows 109 = .ok (.dup, 1) := by decide +kernel
theorem dX7_shows_110 : decode cX7_shows 110 = .ok (.iconst 0, 1) := by decide +kernel
theorem dX7_shows_111 : decode cX7_shows 111 = .ok (.iload_n 3, 1) := by decide +kernel
theorem dX7_shows_112 : decode cX7_shows 112 = .ok (.iastore, 1) := by decide +kernel
theorem dX7_shows_113 : decode cX7_shows 113 = .ok (.dup, 1) := by decide +kernel
theorem dX7_shows_114 : decode cX7_shows 114 = .ok (.iconst 1, 1) := by decide +kernel
theorem dX7_shows_115 : decode cX7_shows 115 = .ok (.iload 4, 2) := by decide +kernel
theorem dX7_shows_117 : decode cX7_shows 117 = .ok (.iastore, 1) := by decide +kernel
theorem dX7_shows_118 : decode cX7_shows 118 = .ok (.astore 5, 2) := by decide +kernel
theorem dX7_shows_120 : decode cX7_shows 120 = .ok (.aload_n 2, 1) := by decide +kernel
theorem dX7_shows_121 : decode cX7_shows 121 = .ok (.aload 5, 2) := by decide +kernel
theorem dX7_shows_123 : decode cX7_shows 123 = .ok (.invokestatic 36, 3) := by decide +kernel
theorem dX7_shows_126 : decode cX7_shows 126 = .ok (.astore_n 2, 1) := by decide +kernel
theorem dX7_shows_127 : decode cX7_shows 127 = .ok (.aload_n 0, 1) := by decide +kernel
theorem dX7_shows_128 : decode cX7_shows 128 = .ok (.getfield 15, 3) := by decide +kernel
theorem dX7_shows_131 : decode cX7_shows 131 = .ok (.iload 4, 2) := by decide +kernel
theorem dX7_shows_133 : decode cX7_shows 133 = .ok (.aaload, 1) := by decide +kernel
theorem dX7_shows_134 : decode cX7_shows 134 = .ok (.iload_n 3, 1) := by decide +kernel
theorem dX7_shows_135 : decode cX7_shows 135 = .ok (.aaload, 1) := by decide +kernel
theorem dX7_shows_136 : decode cX7_shows 136 = .ok (.iconst 0, 1) := by decide +kernel
theorem dX7_shows_137 : decode cX7_shows 137 = .ok (.iaload, 1) := by decide +kernel
theorem dX7_shows_138 : decode cX7_shows 138 = .ok (.iconst 1, 1) := by decide +kernel
theorem dX7_shows_139 : decode cX7_shows 139 = .ok (.if_icmp .ne 21, 3) := by decide +kernel
theorem dX7_shows_142 : decode cX7_shows 142 = .ok (.aload_n 0, 1) := by decide +kernel
theorem dX7_shows_143 : decode cX7_shows 143 = .ok (.getfield 15, 3) := by decide +kernel
theorem dX7_shows_146 : decode cX7_shows 146 = .ok (.iload 4, 2) := by decide +kernel
theorem dX7_shows_148 : decode cX7_shows 148 = .ok (.aaload, 1) := by decide +kernel
theorem dX7_shows_149 : decode cX7_shows 149 = .ok (.iload_n 3, 1) := by decide +kernel
theorem dX7_shows_150 : decode cX7_shows 150 = .ok (.aaload, 1) := by decide +kernel
theorem dX7_shows_151 : decode cX7_shows 151 = .ok (.iconst 2, 1) := by decide +kernel
theorem dX7_shows_152 : decode cX7_shows 152 = .ok (.iaload, 1) := by decide +kernel
theorem dX7_shows_153 : decode cX7_shows 153 = .ok (.bipush 6, 2) := by decide +kernel
theorem dX7_shows_155 : decode cX7_shows 155 = .ok (.if_icmp .le 5, 3) := by decide +kernel
theorem dX7_shows_158 : decode cX7_shows 158 = .ok (.aload_n 2, 1) := by decide +kernel
theorem dX7_shows_159 : decode cX7_shows 159 = .ok (.areturn, 1) := by decide +kernel
theorem dX7_shows_160 : decode cX7_shows 160 = .ok (.goto (-146), 3) := by decide +kernel
set_option maxRecDepth 20000 in
theorem ggX7_beauty_X7_shows : GoodIn wsX7_beauty wsX7_shows := goodIn_r _ [7, 8, 1, 9, 10, 11, 6, 12, 13, 14, 15, 16, 17, 18] (by decide +kernel) (by decide +kernel)
set_option maxRecDepth 20000 in
theorem gX7_beauty_X7_shows : GoodIn wsX7_beauty (wsV RX7 40 RX7 yX7_shows wsX7_shows) := goodIn_app (goodIn_of _ (by decide +kernel)) ggX7_beauty_X7_shows
theorem dX7_beauty_0 : decode cX7_beauty 0 = .ok (.aload_n 0, 1) := by decide +kernel
theorem dX7_beauty_1 : decode cX7_beauty 1 = .ok (.aload_n 1, 1) := by decide +kernel
theorem dX7_beauty_2 : decode cX7_beauty 2 = .ok (.invokevirtual 40, 3) := by decide +kernel
theorem dX7_beauty_5 : decode cX7_beauty 5 = .ok (.astore_n 2, 1) := by decide +kernel
theorem dX7_beauty_6 : decode cX7_beauty 6 = .ok (.iconst 0, 1) := by decide +kernel
theorem dX7_beauty_7 : decode cX7_beauty 7 = .ok (.istore_n 3, 1) := by decide +kernel
theorem dX7_beauty_8 : decode cX7_beauty 8 = .ok (.iconst 0, 1) := by decide +kernel
theorem dX7_beauty_9 : decode cX7_beauty 9 = .ok (.istore 4, 2) := by decide +kernel
theorem dX7_beauty_11 : decode cX7_beauty 11 = .ok (.iload 4, 2) := by decide +kernel
theorem dX7_beauty_13 : decode cX7_beauty 13 = .ok (.aload_n 2, 1) := by decide +kernel
theorem dX7_beauty_14 : decode cX7_beauty 14 = .ok (.arraylength, 1) := by decide +kernel
theorem dX7_beauty_15 : decode cX7_beauty 15 = .ok (.if_icmp .ge 232, 3) := by decide +kernel
theorem dX7_beauty_18 : decode cX7_beauty 18 = .ok (.aload_n 0, 1) := by decide +kernel
theorem dX7_beauty_19 : decode cX7_beauty 19 = .ok (.getfield 15, 3) := by decide +kernel
theorem dX7_beauty_22 : decode cX7_beauty 22 = .ok (.aload_n 2, 1) := by decide +kernel
theorem dX7_beauty_23 : decode cX7_beauty 23 = .ok (.iload 4, 2) := by decide +kernel
theorem dX7_beauty_25 : decode cX7_beauty 25 = .ok (.aaload, 1) := by decide +kernel
theorem dX7_beauty_26 : decode cX7_beauty 26 = .ok (.iconst 1, 1) := by decide +kernel
theorem dX7_beauty_27 : decode cX7_beauty 27 = .ok (.iaload, 1) := by decide +kernel
theorem dX7_beauty_28 : decode cX7_beauty 28 = .ok (.aaload, 1) := by decide +kernel
theorem dX7_beauty_29 : decode cX7_beauty 29 = .ok (.aload_n 2, 1) := by decide +kernel
theorem dX7_beauty_30 : decode cX7_beauty 30 = .ok (.iload 4, 2) := by decide +kernel
theorem dX7_beauty_32 : decode cX7_beauty 32 = .ok (.aaload, 1) := by decide +kernel
theorem dX7_beauty_33 : decode cX7_beauty 33 = .ok (.iconst 0, 1) := by decide +kernel
theorem dX7_beauty_34 : decode cX7_beauty 34 = .ok (.iaload, 1) := by decide +kernel
theorem dX7_beauty_35 : decode cX7_beauty 35 = .ok (.aaload, 1) := by decide +kernel
theorem dX7_beauty_36 : decode cX7_beauty 36 = .ok (.astore 5, 2) := by decide +kernel
theorem dX7_beauty_38 : decode cX7_beauty 38 = .ok (.aload 5, 2) := by decide +kernel
theorem dX7_beauty_40 : decode cX7_beauty 40 = .ok (.iconst 0, 1) := by decide +kernel
theorem dX7_beauty_41 : decode cX7_beauty 41 = .ok (.iaload, 1) := by decide +kernel
theorem dX7_beauty_42 : decode cX7_beauty 42 = .ok (.iconst 1, 1) := by decide +kernel
theorem dX7_beauty_43 : decode cX7_beauty 43 = .ok (.if_icmp .ne 101, 3) := by decide +kernel
theorem dX7_beauty_46 : decode cX7_beauty 46 = .ok (.iconst 1, 1) := by decide +kernel
theorem dX7_beauty_47 : decode cX7_beauty 47 = .ok (.istore 6, 2) := by decide +kernel
theorem dX7_beauty_49 : decode cX7_beauty 49 = .ok (.iconst 0, 1) := by decide +kernel
theorem dX7_beauty_50 : decode cX7_beauty 50 = .ok (.istore 7, 2) := by decide +kernel
theorem dX7_beauty_52 : decode cX7_beauty 52 = .ok (.iload 7, 2) := by decide +kernel
theorem dX7_beauty_54 : decode cX7_beauty 54 = .ok (.iload 4, 2) := by decide +kernel
theorem dX7_beauty_56 : decode cX7_beauty 56 = .ok (.if_icmp .ge 70, 3) := by decide +kernel
theorem dX7_beauty_59 : decode cX7_beauty 59 = .ok (.iload 6, 2) := by decide +kernel
theorem dX7_beauty_61 : decode cX7_beauty 61 = .ok (.aload_n 0, 1) := by decide +kernel
theorem dX7_beauty_62 : decode cX7_beauty 62 = .ok (.getfield 15, 3) := by decide +kernel
theorem dX7_beauty_65 : decode cX7_beauty 65 = .ok (.aload_n 2, 1) := by decide +kernel
theorem dX7_beauty_66 : decode cX7_beauty 66 = .ok (.iload 7, 2) := by decide +kernel
theorem dX7_beauty_68 : decode cX7_beauty 68 = .ok (.aaload, 1) := by decide +kernel
theorem dX7_beauty_69 : decode cX7_beauty 69 = .ok (.iconst 1, 1) := by decide +kernel
theorem dX7_beauty_70 : decode cX7_beauty 70 = .ok (.iaload, 1) := by decide +kernel
theorem dX7_beauty_71 : decode cX7_beauty 71 = .ok (.aaload, 1) := by decide +kernel
theorem dX7_beauty_72 : decode cX7_beauty 72 = .ok (.aload_n 2, 1) := by decide +kernel
theorem dX7_beauty_73 : decode cX7_beauty 73 = .ok (.iload 7, 2) := by decide +kernel
theorem dX7_beauty_75 : decode cX7_beauty 75 = .ok (.aaload, 1) := by decide +kernel
theorem dX7_beauty_76 : decode cX7_beauty 76 = .ok (.iconst 0, 1) := by decide +kernel
theorem dX7_beauty_77 : decode cX7_beauty 77 = .ok (.iaload, 1) := by decide +kernel
theorem dX7_beauty_78 : decode cX7_beauty 78 = .ok (.aaload, 1) := by decide +kernel
theorem dX7_beauty_79 : decode cX7_beauty 79 = .ok (.iconst 0, 1) := by decide +kernel
theorem dX7_beauty_80 : decode cX7_beauty 80 = .ok (.iaload, 1) := by decide +kernel
theorem dX7_beauty_81 : decode cX7_beauty 81 = .ok (.iconst 1, 1) := by decide +kernel
theorem dX7_beauty_82 : decode cX7_beauty 82 = .ok (.if_icmp .ne 30, 3) := by decide +kernel
theorem dX7_beauty_85 : decode cX7_beauty 85 = .ok (.aload_n 0, 1) := by decide +kernel
theorem dX7_beauty_86 : decode cX7_beauty 86 = .ok (.getfield 15, 3) := by decide +kernel
theorem dX7_beauty_89 : decode cX7_beauty 89 = .ok (.aload_n 2, 1) := by decide +kernel
theorem dX7_beauty_90 : decode cX7_beauty 90 = .ok (.iload 7, 2) := by decide +kernel
theorem dX7_beauty_92 : decode cX7_beauty 92 = .ok (.aaload, 1) := by decide +kernel
theorem dX7_beauty_93 : decode cX7_beauty 93 = .ok (.iconst 1, 1) := by decide +kernel
theorem dX7_beauty_94 : decode cX7_beauty 94 = .ok (.iaload, 1) := by decide +kernel
theorem dX7_beauty_95 : decode cX7_beauty 95 = .ok (.aaload, 1) := by decide +kernel
theorem dX7_beauty_96 : decode cX7_beauty 96 = .ok (.aload_n 2, 1) := by decide +kernel
theorem dX7_beauty_97 : decode cX7_beauty 97 = .ok (.iload 7, 2) := by decide +kernel
theorem dX7_beauty_99 : decode cX7_beauty 99 = .ok (.aaload, 1) := by decide +kernel
theorem dX7_beauty_100 : decode cX7_beauty 100 = .ok (.iconst 0, 1) := by decide +kernel
theorem dX7_beauty_101 : decode cX7_beauty 101 = .ok (.iaload, 1) := by decide +kernel
theorem dX7_beauty_102 : decode cX7_beauty 102 = .ok (.aaload, 1) := by decide +kernel
theorem dX7_beauty_103 : decode cX7_beauty 103 = .ok (.iconst 1, 1) := by decide +kernel
theorem dX7_beauty_104 : decode cX7_beauty 104 = .ok (.iaload, 1) := by decide +kernel
theorem dX7_beauty_105 : decode cX7_beauty 105 = .ok (.aload 5, 2) := by decide +kernel
theorem dX7_beauty_107 : decode cX7_beauty 107 = .ok (.iconst 1, 1) := by decide +kernel
theorem dX7_beauty_108 : decode cX7_beauty 108 = .ok (.iaload, 1) := by decide +kernel
theorem dX7_beauty_109 : decode cX7_beauty 109 = .ok (.if_icmp .eq 7, 3) := by decide +kernel
theorem dX7_beauty_112 : decode cX7_beauty 112 = .ok (.iconst 1, 1) := by decide +kernel
theorem dX7_beauty_113 : decode cX7_beauty 113 = .ok (.goto 4, 3) := by decide +kernel
theorem dX7_beauty_116 : decode cX7_beauty 116 = .ok (.iconst 0, 1) := by decide +kernel
theorem dX7_beauty_117 : decode cX7_beauty 117 = .ok (.iand, 1) := by decide +kernel
theorem dX7_beauty_118 : decode cX7_beauty 118 = .ok (.istore 6, 2) := by decide +kernel
theorem dX7_beauty_120 : decode cX7_beauty 120 = .ok (.iinc 7 1, 3) := by decide +kernel
theorem dX7_beauty_123 : decode cX7_beauty 123 = .ok (.goto (-71), 3) := by decide +kernel
theorem dX7_beauty_126 : decode cX7_beauty 126 = .ok (.iload_n 3, 1) := by decide +kernel
theorem dX7_beauty_127 : decode cX7_beauty 127 = .ok (.aload 5, 2) := by decide +kernel
theorem dX7_beauty_129 : decode cX7_beauty 129 = .ok (.iconst 2, 1) := by decide +kernel
theorem dX7_beauty_130 : decode cX7_beauty 130 = .ok (.iaload, 1) := by decide +kernel
theorem dX7_beauty_131 : decode cX7_beauty 131 = .ok (.iload 6, 2) := by decide +kernel
theorem dX7_beauty_133 : decode cX7_beauty 133 = .ok (.ifCond .eq 7, 3) := by decide +kernel
theorem dX7_beauty_136 : decode cX7_beauty 136 = .ok (.iconst 4, 1) := by decide +kernel
theorem dX7_beauty_137 : decode cX7_beauty 137 = .ok (.goto 4, 3) := by decide +kernel
theorem dX7_beauty_140 : decode cX7_beauty 140 = .ok (.iconst 0, 1) := by decide +kernel
theorem dX7_beauty_141 : decode cX7_beauty 141 = .ok (.iadd, 1) := by decide +kernel
theorem dX7_beauty_142 : decode cX7_beauty 142 = .ok (.iadd, 1) := by decide +kernel
theorem dX7_beauty_143 : decode cX7_beauty 143 = .ok (.istore_n 3, 1) := by decide +kernel
theorem dX7_beauty_144 : decode cX7_beauty 144 = .ok (.aload 5, 2) := by decide +kernel
theorem dX7_beauty_146 : decode cX7_beauty 146 = .ok (.iconst 0, 1) := by decide +kernel
theorem dX7_beauty_147 : decode cX7_beauty 147 = .ok (.iaload, 1) := by decide +kernel
theorem dX7_beauty_148 : decode cX7_beauty 148 = .ok (.iconst 2, 1) := by decide +kernel
theorem dX7_beauty_149 : decode cX7_beauty 149 = .ok (.if_icmp .ne 92, 3) := by decide +kernel
theorem dX7_beauty_152 : decode cX7_beauty 152 = .ok (.iconst 0, 1) := by decide +kernel
theorem dX7_beauty_153 : decode cX7_beauty 153 = .ok (.istore 6, 2) := by decide +kernel
theorem dX7_beauty_155 : decode cX7_beauty 155 = .ok (.aload_n 0, 1) := by decide +kernel
theorem dX7_beauty_156 : decode cX7_beauty 156 = .ok (.getfield 20, 3) := by decide +kernel
theorem dX7_beauty_159 : decode cX7_beauty 159 = .ok (.astore 7, 2) := by decide +kernel
theorem dX7_beauty_161 : decode cX7_beauty 161 = .ok (.aload 7, 2) := by decide +kernel
theorem dX7_beauty_163 : decode cX7_beauty 163 = .ok (.arraylength, 1) := by decide +kernel
theorem dX7_beauty_164 : decode cX7_beauty 164 = .ok (.istore 8, 2) := by decide +kernel
theorem dX7_beauty_166 : decode cX7_beauty 166 = .ok (.iconst 0, 1) := by decide +kernel
theorem dX7_beauty_167 : decode cX7_beauty 167 = .ok (.istore 9, 2) := by decide +kernel
theorem dX7_beauty_169 : decode cX7_beauty 169 = .ok (.iload 9, 2) := by decide +kernel
theorem dX7_beauty_171 : decode cX7_beauty 171 = .ok (.iload 8, 2) := by decide +kernel
theorem dX7_beauty_173 : decode cX7_beauty 173 = .ok (.if_icmp .ge 58, 3) := by decide +kernel
theorem dX7_beauty_176 : decode cX7_beauty 176 = .ok (.aload 7, 2) := by decide +kernel
theorem dX7_beauty_178 : decode cX7_beauty 178 = .ok (.iload 9, 2) := by decide +kernel
theorem dX7_beauty_180 : decode cX7_beauty 180 = .ok (.aaload, 1) := by decide +kernel
theorem dX7_beauty_181 : decode cX7_beauty 181 = .ok (.astore 10, 2) := by decide +kernel
theorem dX7_beauty_183 : decode cX7_beauty 183 = .ok (.aload 10, 2) := by decide +kernel
theorem dX7_beauty_185 : decode cX7_beauty 185 = .ok (.iconst 3, 1) := by decide +kernel
theorem dX7_beauty_186 : decode cX7_beauty 186 = .ok (.iaload, 1) := by decide +kernel
theorem dX7_beauty_187 : decode cX7_beauty 187 = .ok (.ifCond .ne 38, 3) := by decide +kernel
theorem dX7_beauty_190 : decode cX7_beauty 190 = .ok (.aload 10, 2) := by decide +kernel
theorem dX7_beauty_192 : decode cX7_beauty 192 = .ok (.iconst 0, 1) := by decide +kernel
theorem dX7_beauty_193 : decode cX7_beauty 193 = .ok (.iaload, 1) := by decide +kernel
theorem dX7_beauty_194 : decode cX7_beauty 194 = .ok (.aload_n 2, 1) := by decide +kernel
theorem dX7_beauty_195 : decode cX7_beauty 195 = .ok (.iload 4, 2) := by decide +kernel
theorem dX7_beauty_197 : decode cX7_beauty 197 = .ok (.aaload, 1) := by decide +kernel
theorem dX7_beauty_198 : decode cX7_beauty 198 = .ok (.iconst 0, 1) := by decide +kernel
theorem dX7_beauty_199 : decode cX7_beauty 199 = .ok (.iaload, 1) := by decide +kernel
theorem dX7_beauty_200 : decode cX7_beauty 200 = .ok (.if_icmp .ne 25, 3) := by decide +kernel
theorem dX7_beauty_203 : decode cX7_beauty 203 = .ok (.aload 10, 2) := by decide +kernel
theorem dX7_beauty_205 : decode cX7_beauty 205 = .ok (.iconst 1, 1) := by decide +kernel
theorem dX7_beauty_206 : decode cX7_beauty 206 = .ok (.iaload, 1) := by decide +kernel
theorem dX7_beauty_207 : decode cX7_beauty 207 = .ok (.aload_n 2, 1) := by decide +kernel
theorem dX7_beauty_208 : decode cX7_beauty 208 = .ok (.iload 4, 2) := by decide +kernel
theorem dX7_beauty_210 : decode cX7_beauty 210 = .ok (.aaload, 1) := by decide +kernel
theorem dX7_beauty_211 : decode cX7_beauty 211 = .ok (.iconst 1, 1) := by decide +kernel
theorem dX7_beauty_212 : decode cX7_beauty 212 = .ok (.iaload, 1) := by decide +kernel
theorem dX7_beauty_213 : decode cX7_beauty 213 = .ok (.if_icmp .ne 12, 3) := by decide +kernel
theorem dX7_beauty_216 : decode cX7_beauty 216 = .ok (.iload 6, 2) := by decide +kernel
theorem dX7_beauty_218 : decode cX7_beauty 218 = .ok (.aload 10, 2) := by decide +kernel
theorem dX7_beauty_220 : decode cX7_beauty 220 = .ok (.iconst 2, 1) := by decide +kernel
theorem dX7_beauty_221 : decode cX7_beauty 221 = .ok (.iaload, 1) := by decide +kernel
theorem dX7_beauty_222 : decode cX7_beauty 222 = .ok (.iadd, 1) := by decide +kernel
theorem dX7_beauty_223 : decode cX7_beauty 223 = .ok (.istore 6, 2) := by decide +kernel
theorem dX7_beauty_225 : decode cX7_beauty 225 = .ok (.iinc 9 1, 3) := by decide +kernel
theorem dX7_beauty_228 : decode cX7_beauty 228 = .ok (.goto (-59), 3) := by decide +kernel
theorem dX7_beauty_231 : decode cX7_beauty 231 = .ok (.iload_n 3, 1) := by decide +kernel
theorem dX7_beauty_232 : decode cX7_beauty 232 = .ok (.iconst 3, 1) := by decide +kernel
theorem dX7_beauty_233 : decode cX7_beauty 233 = .ok (.iload 6, 2) := by decide +kernel
theorem dX7_beauty_235 : decode cX7_beauty 235 = .ok (.bipush 10, 2) := by decide +kernel
theorem dX7_beauty_237 : decode cX7_beauty 237 = .ok (.idiv, 1) := by decide +kernel
theorem dX7_beauty_238 : decode cX7_beauty 238 = .ok (.iadd, 1) := by decide +kernel
theorem dX7_beauty_239 : decode cX7_beauty 239 = .ok (.iadd, 1) := by decide +kernel
theorem dX7_beauty_240 : decode cX7_beauty 240 = .ok (.istore_n 3, 1) := by decide +kernel
theorem dX7_beauty_241 : decode cX7_beauty 241 = .ok (.iinc 4 1, 3) := by decide +kernel
theorem dX7_beauty_244 : decode cX7_beauty 244 = .ok (.goto (-233), 3) := by decide +kernel
theorem dX7_beauty_247 : decode cX7_beauty 247 = .ok (.iload_n 3, 1) := by decide +kernel
theorem dX7_beauty_248 : decode cX7_beauty 248 = .ok (.ireturn, 1) := by decide +kernel
set_option maxRecDepth 20000 in
theorem ggX7_pass_X7_pond : GoodIn wsX7_pass wsX7_pond := goodIn_r _ [10, 11, 12, 13, 34, 35, 36, 37, 38, 39] (by decide +kernel) (by decide +kernel)
set_option maxRecDepth 20000 in
theorem gX7_pass_X7_pond : GoodIn wsX7_pass (wsV RX7 44 RX7 yX7_pond wsX7_pond) := goodIn_app (goodIn_of _ (by decide +kernel)) ggX7_pass_X7_pond
set_option maxRecDepth 20000 in
theorem ggX7_pass_X7_carpsIn : GoodIn wsX7_pass wsX7_carpsIn := goodIn_r _ [17, 1, 34, 35, 36, 37, 38, 39] (by decide +kernel) (by decide +kernel)
set_option maxRecDepth 20000 in
theorem gX7_pass_X7_carpsIn : GoodIn wsX7_pass (wsV RX7 48 RX7 yX7_carpsIn wsX7_carpsIn) := goodIn_app (goodIn_of _ (by decide +kernel)) ggX7_pass_X7_carpsIn
set_option maxRecDepth 20000 in
theorem ggX7_pass_X7_many : GoodIn wsX7_pass wsX7_many := goodIn_r _ [20] (by decide +kernel) (by decide +kernel)
set_option maxRecDepth 20000 in
theorem gX7_pass_X7_many : GoodIn wsX7_pass (va_wsS RX7 52 yX7_many wsX7_many) := goodIn_app (goodIn_of _ (by decide +kernel)) ggX7_pass_X7_many
set_option maxRecDepth 20000 in
theorem ggX7_pass_X7_beauty : GoodIn wsX7_pass wsX7_beauty := goodIn_r _ [24, 13, 1, 25, 26, 27, 9, 28, 29, 30, 31, 32, 33, 34, 35, 36, 37, 38, 39] (by decide +kernel) (by decide +kernel)
set_option maxRecDepth 20000 in
theorem gX7_pass_X7_beauty : GoodIn wsX7_pass (wsV RX7 55 RX7 yX7_beauty wsX7_beauty) := goodIn_app (goodIn_of _ (by decide +kernel)) ggX7_pass_X7_beauty
theorem dX7_pass_0 : decode cX7_pass 0 = .ok (.aload_n 0, 1) := by decide +kernel
theorem dX7_pass_1 : decode cX7_pass 1 = .ok (.getfield 20, 3) := by decide +kernel
theorem dX7_pass_4 : decode cX7_pass 4 = .ok (.astore_n 1, 1) := by decide +kernel
theorem dX7_pass_5 : decode cX7_pass 5 = .ok (.aload_n 1, 1) := by decide +kernel
theorem dX7_pass_6 : decode cX7_pass 6 = .ok (.arraylength, 1) := by decide +kernel
theorem dX7_pass_7 : decode cX7_pass 7 = .ok (.istore_n 2, 1) := by decide +kernel
theorem dX7_pass_8 : decode cX7_pass 8 = .ok (.iconst 0, 1) := by decide +kernel
theorem dX7_pass_9 : decode cX7_pass 9 = .ok (.istore_n 3, 1) := by decide +kernel
theorem dX7_pass_10 : decode cX7_pass 10 = .ok (.iload_n 3, 1) := by decide +kernel
theorem dX7_pass_11 : decode cX7_pass 11 = .ok (.iload_n 2, 1) := by decide +kernel
theorem dX7_pass_12 : decode cX7_pass 12 = .ok (.if_icmp .ge 104, 3) := by decide +kernel
theorem dX7_pass_15 : decode cX7_pass 15 = .ok (.aload_n 1, 1) := by decide +kernel
theorem dX7_pass_16 : decode cX7_pass 16 = .ok (.iload_n 3, 1) := by decide +kernel
theorem dX7_pass_17 : decode cX7_pass 17 = .ok (.aaload, 1) := by decide +kernel
theorem dX7_pass_18 : decode cX7_pass 18 = .ok (.astore 4, 2) := by decide +kernel
theorem dX7_pass_20 : decode cX7_pass 20 = .ok (.aload 4, 2) := by decide +kernel
theorem dX7_pass_22 : decode cX7_pass 22 = .ok (.iconst 3, 1) := by decide +kernel
theorem dX7_pass_23 : decode cX7_pass 23 = .ok (.iaload, 1) := by decide +kernel
theorem dX7_pass_24 : decode cX7_pass 24 = .ok (.iconst 1, 1) := by decide +kernel
theorem dX7_pass_25 : decode cX7_pass 25 = .ok (.if_icmp .ne 6, 3) := by decide +kernel
theorem dX7_pass_28 : decode cX7_pass 28 = .ok (.goto 82, 3) := by decide +kernel
theorem dX7_pass_31 : decode cX7_pass 31 = .ok (.aload_n 0, 1) := by decide +kernel
theorem dX7_pass_32 : decode cX7_pass 32 = .ok (.aload 4, 2) := by decide +kernel
theorem dX7_pass_34 : decode cX7_pass 34 = .ok (.iconst 0, 1) := by decide +kernel
theorem dX7_pass_35 : decode cX7_pass 35 = .ok (.iaload, 1) := by decide +kernel
theorem dX7_pass_36 : decode cX7_pass 36 = .ok (.aload 4, 2) := by decide +kernel
theorem dX7_pass_38 : decode cX7_pass 38 = .ok (.iconst 1, 1) := by decide +kernel
theorem dX7_pass_39 : decode cX7_pass 39 = .ok (.iaload, 1) := by decide +kernel
theorem dX7_pass_40 : decode cX7_pass 40 = .ok (.invokevirtual 44, 3) := by decide +kernel
theorem dX7_pass_43 : decode cX7_pass 43 = .ok (.astore 5, 2) := by decide +kernel
theorem dX7_pass_45 : decode cX7_pass 45 = .ok (.aload_n 0, 1) := by decide +kernel
theorem dX7_pass_46 : decode cX7_pass 46 = .ok (.aload 5, 2) := by decide +kernel
theorem dX7_pass_48 : decode cX7_pass 48 = .ok (.invokevirtual 48, 3) := by decide +kernel
theorem dX7_pass_51 : decode cX7_pass 51 = .ok (.iconst 2, 1) := by decide +kernel
theorem dX7_pass_52 : decode cX7_pass 52 = .ok (.aload 5, 2) := by decide +kernel
theorem dX7_pass_54 : decode cX7_pass 54 = .ok (.invokestatic 52, 3) := by decide +kernel
theorem dX7_pass_57 : decode cX7_pass 57 = .ok (.imul, 1) := by decide +kernel
theorem dX7_pass_58 : decode cX7_pass 58 = .ok (.if_icmp .le 28, 3) := by decide +kernel
theorem dX7_pass_61 : decode cX7_pass 61 = .ok (.aload 4, 2) := by decide +kernel
theorem dX7_pass_63 : decode cX7_pass 63 = .ok (.iconst 2, 1) := by decide +kernel
theorem dX7_pass_64 : decode cX7_pass 64 = .ok (.aload 4, 2) := by decide +kernel
theorem dX7_pass_66 : decode cX7_pass 66 = .ok (.iconst 2, 1) := by decide +kernel
theorem dX7_pass_67 : decode cX7_pass 67 = .ok (.iaload, 1) := by decide +kernel
theorem dX7_pass_68 : decode cX7_pass 68 = .ok (.iconst 1, 1) := by decide +kernel
theorem dX7_pass_69 : decode cX7_pass 69 = .ok (.if_icmp .le 12, 3) := by decide +kernel
theorem dX7_pass_72 : decode cX7_pass 72 = .ok (.aload 4, 2) := by decide +kernel
theorem dX7_pass_74 : decode cX7_pass 74 = .ok (.iconst 2, 1) := by decide +kernel
theorem dX7_pass_75 : decode cX7_pass 75 = .ok (.iaload, 1) := by decide +kernel
theorem dX7_pass_76 : decode cX7_pass 76 = .ok (.iconst 1, 1) := by decide +kernel
theorem dX7_pass_77 : decode cX7_pass 77 = .ok (.isub, 1) := by decide +kernel
theorem dX7_pass_78 : decode cX7_pass 78 = .ok (.goto 4, 3) := by decide +kernel
theorem dX7_pass_81 : decode cX7_pass 81 = .ok (.iconst 1, 1) := by decide +kernel
theorem dX7_pass_82 : decode cX7_pass 82 = .ok (.iastore, 1) := by decide +kernel
theorem dX7_pass_83 : decode cX7_pass 83 = .ok (.goto 27, 3) := by decide +kernel
theorem dX7_pass_86 : decode cX7_pass 86 = .ok (.aload 4, 2) := by decide +kernel
theorem dX7_pass_88 : decode cX7_pass 88 = .ok (.iconst 2, 1) := by decide +kernel
theorem dX7_pass_89 : decode cX7_pass 89 = .ok (.aload 4, 2) := by decide +kernel
theorem dX7_pass_91 : decode cX7_pass 91 = .ok (.iconst 2, 1) := by decide +kernel
theorem dX7_pass_92 : decode cX7_pass 92 = .ok (.iaload, 1) := by decide +kernel
theorem dX7_pass_93 : decode cX7_pass 93 = .ok (.bipush 40, 2) := by decide +kernel
theorem dX7_pass_95 : decode cX7_pass 95 = .ok (.if_icmp .ge 12, 3) := by decide +kernel
theorem dX7_pass_98 : decode cX7_pass 98 = .ok (.aload 4, 2) := by decide +kernel
theorem dX7_pass_100 : decode cX7_pass 100 = .ok (.iconst 2, 1) := by decide +kernel
theorem dX7_pass_101 : decode cX7_pass 101 = .ok (.iaload, 1) := by decide +kernel
theorem dX7_pass_102 : decode cX7_pass 102 = .ok (.iconst 1, 1) := by decide +kernel
theorem dX7_pass_103 : decode cX7_pass 103 = .ok (.iadd, 1) := by decide +kernel
theorem dX7_pass_104 : decode cX7_pass 104 = .ok (.goto 5, 3) := by decide +kernel
theorem dX7_pass_107 : decode cX7_pass 107 = .ok (.bipush 40, 2) := by decide +kernel
theorem dX7_pass_109 : decode cX7_pass 109 = .ok (.iastore, 1) := by decide +kernel
theorem dX7_pass_110 : decode cX7_pass 110 = .ok (.iinc 3 1, 3) := by decide +kernel
theorem dX7_pass_113 : decode cX7_pass 113 = .ok (.goto (-103), 3) := by decide +kernel
theorem dX7_pass_116 : decode cX7_pass 116 = .ok (.iconst 0, 1) := by decide +kernel
theorem dX7_pass_117 : decode cX7_pass 117 = .ok (.istore_n 1, 1) := by decide +kernel
theorem dX7_pass_118 : decode cX7_pass 118 = .ok (.aload_n 0, 1) := by decide +kernel
theorem dX7_pass_119 : decode cX7_pass 119 = .ok (.getfield 27, 3) := by decide +kernel
theorem dX7_pass_122 : decode cX7_pass 122 = .ok (.astore_n 2, 1) := by decide +kernel
theorem dX7_pass_123 : decode cX7_pass 123 = .ok (.aload_n 2, 1) := by decide +kernel
theorem dX7_pass_124 : decode cX7_pass 124 = .ok (.arraylength, 1) := by decide +kernel
theorem dX7_pass_125 : decode cX7_pass 125 = .ok (.istore_n 3, 1) := by decide +kernel
theorem dX7_pass_126 : decode cX7_pass 126 = .ok (.iconst 0, 1) := by decide +kernel
theorem dX7_pass_127 : decode cX7_pass 127 = .ok (.istore 4, 2) := by decide +kernel
theorem dX7_pass_129 : decode cX7_pass 129 = .ok (.iload 4, 2) := by decide +kernel
theorem dX7_pass_131 : decode cX7_pass 131 = .ok (.iload_n 3, 1) := by decide +kernel
theorem dX7_pass_132 : decode cX7_pass 132 = .ok (.if_icmp .ge 64, 3) := by decide +kernel
theorem dX7_pass_135 : decode cX7_pass 135 = .ok (.aload_n 2, 1) := by decide +kernel
theorem dX7_pass_136 : decode cX7_pass 136 = .ok (.iload 4, 2) := by decide +kernel
theorem dX7_pass_138 : decode cX7_pass 138 = .ok (.aaload, 1) := by decide +kernel
theorem dX7_pass_139 : decode cX7_pass 139 = .ok (.astore 5, 2) := by decide +kernel
theorem dX7_pass_141 : decode cX7_pass 141 = .ok (.aload_n 0, 1) := by decide +kernel
theorem dX7_pass_142 : decode cX7_pass 142 = .ok (.aload_n 0, 1) := by decide +kernel
theorem dX7_pass_143 : decode cX7_pass 143 = .ok (.getfield 24, 3) := by decide +kernel
theorem dX7_pass_146 : decode cX7_pass 146 = .ok (.aload 5, 2) := by decide +kernel
theorem dX7_pass_148 : decode cX7_pass 148 = .ok (.iconst 0, 1) := by decide +kernel
theorem dX7_pass_149 : decode cX7_pass 149 = .ok (.iaload, 1) := by decide +kernel
theorem dX7_pass_150 : decode cX7_pass 150 = .ok (.aaload, 1) := by decide +kernel
theorem dX7_pass_151 : decode cX7_pass 151 = .ok (.invokevirtual 55, 3) := by decide +kernel
theorem dX7_pass_154 : decode cX7_pass 154 = .ok (.iconst 5, 1) := by decide +kernel
theorem dX7_pass_155 : decode cX7_pass 155 = .ok (.idiv, 1) := by decide +kernel
theorem dX7_pass_156 : decode cX7_pass 156 = .ok (.istore 6, 2) := by decide +kernel
theorem dX7_pass_158 : decode cX7_pass 158 = .ok (.aload_n 0, 1) := by decide +kernel
theorem dX7_pass_159 : decode cX7_pass 159 = .ok (.getfield 59, 3) := by decide +kernel
theorem dX7_pass_162 : decode cX7_pass 162 = .ok (.bipush 8, 2) := by decide +kernel
theorem dX7_pass_164 : decode cX7_pass 164 = .ok (.irem, 1) := by decide +kernel
theorem dX7_pass_165 : decode cX7_pass 165 = .ok (.iconst 4, 1) := by decide +kernel
theorem dX7_pass_166 : decode cX7_pass 166 = .ok (.if_icmp .ne 10, 3) := by decide +kernel
theorem dX7_pass_169 : decode cX7_pass 169 = .ok (.iload 6, 2) := by decide +kernel
theorem dX7_pass_171 : decode cX7_pass 171 = .ok (.iload 6, 2) := by decide +kernel
theorem dX7_pass_173 : decode cX7_pass 173 = .ok (.iadd, 1) := by decide +kernel
theorem dX7_pass_174 : decode cX7_pass 174 = .ok (.istore 6, 2) := by decide +kernel
theorem dX7_pass_176 : decode cX7_pass 176 = .ok (.aload 5, 2) := by decide +kernel
theorem dX7_pass_178 : decode cX7_pass 178 = .ok (.iconst 1, 1) := by decide +kernel
theorem dX7_pass_179 : decode cX7_pass 179 = .ok (.dup2, 1) := by decide +kernel
theorem dX7_pass_180 : decode cX7_pass 180 = .ok (.iaload, 1) := by decide +kernel
theorem dX7_pass_181 : decode cX7_pass 181 = .ok (.iload 6, 2) := by decide +kernel
theorem dX7_pass_183 : decode cX7_pass 183 = .ok (.iadd, 1) := by decide +kernel
theorem dX7_pass_184 : decode cX7_pass 184 = .ok (.iastore, 1) := by decide +kernel
theorem dX7_pass_185 : decode cX7_pass 185 = .ok (.iload_n 1, 1) := by decide +kernel
theorem dX7_pass_186 : decode cX7_pass 186 = .ok (.iload 6, 2) := by decide +kernel
theorem dX7_pass_188 : decode cX7_pass 188 = .ok (.iadd, 1) := by decide +kernel
theorem dX7_pass_189 : decode cX7_pass 189 = .ok (.istore_n 1, 1) := by decide +kernel
theorem dX7_pass_190 : decode cX7_pass 190 = .ok (.iinc 4 1, 3) := by decide +kernel
theorem dX7_pass_193 : decode cX7_pass 193 = .ok (.goto (-64), 3) := by decide +kernel
theorem dX7_pass_196 : decode cX7_pass 196 = .ok (.aload_n 0, 1) := by decide +kernel
theorem dX7_pass_197 : decode cX7_pass 197 = .ok (.dup, 1) := by decide +kernel
theorem dX7_pass_198 : decode cX7_pass 198 = .ok (.getfield 7, 3) := by decide +kernel
theorem dX7_pass_201 : decode cX7_pass 201 = .ok (.iload_n 1, 1) := by decide +kernel
theorem dX7_pass_202 : decode cX7_pass 202 = .ok (.bipush 10, 2) := by decide +kernel
theorem dX7_pass_204 : decode cX7_pass 204 = .ok (.idiv, 1) := by decide +kernel
theorem dX7_pass_205 : decode cX7_pass 205 = .ok (.iadd, 1) := by decide +kernel
theorem dX7_pass_206 : decode cX7_pass 206 = .ok (.putfield 7, 3) := by decide +kernel
theorem dX7_pass_209 : decode cX7_pass 209 = .ok (.aload_n 0, 1) := by decide +kernel
theorem dX7_pass_210 : decode cX7_pass 210 = .ok (.dup, 1) := by decide +kernel
theorem dX7_pass_211 : decode cX7_pass 211 = .ok (.getfield 59, 3) := by decide +kernel
theorem dX7_pass_214 : decode cX7_pass 214 = .ok (.iconst 1, 1) := by decide +kernel
theorem dX7_pass_215 : decode cX7_pass 215 = .ok (.iadd, 1) := by decide +kernel
theorem dX7_pass_216 : decode cX7_pass 216 = .ok (.putfield 59, 3) := by decide +kernel
theorem dX7_pass_219 : decode cX7_pass 219 = .ok (.iload_n 1, 1) := by decide +kernel
theorem dX7_pass_220 : decode cX7_pass 220 = .ok (.ireturn, 1) := by decide +kernel
set_option maxRecDepth 20000 in
theorem ggX7_counts_X7_pond : GoodIn wsX7_counts wsX7_pond := goodIn_r _ [14, 1, 2, 3, 15, 16, 17, 18, 19, 20] (by decide +kernel) (by decide +kernel)
set_option maxRecDepth 20000 in
theorem gX7_counts_X7_pond : GoodIn wsX7_counts (wsV RX7 44 RX7 yX7_pond wsX7_pond) := goodIn_app (goodIn_of _ (by decide +kernel)) ggX7_counts_X7_pond
theorem dX7_counts_0 : decode cX7_counts 0 = .ok (.iconst 0, 1) := by decide +kernel
theorem dX7_counts_1 : decode cX7_counts 1 = .ok (.istore_n 1, 1) := by decide +kernel
theorem dX7_counts_2 : decode cX7_counts 2 = .ok (.iconst 0, 1) := by decide +kernel
theorem dX7_counts_3 : decode cX7_counts 3 = .ok (.istore_n 2, 1) := by decide +kernel
theorem dX7_counts_4 : decode cX7_counts 4 = .ok (.iconst 0, 1) := by decide +kernel
theorem dX7_counts_5 : decode cX7_counts 5 = .ok (.istore_n 3, 1) := by decide +kernel
theorem dX7_counts_6 : decode cX7_counts 6 = .ok (.bipush 7, 2) := by decide +kernel
theorem dX7_counts_8 : decode cX7_counts 8 = .ok (.bipush 10, 2) := by decide +kernel
theorem dX7_counts_10 : decode cX7_counts 10 = .ok (.multianewarray 34 2, 4) := by decide +kernel
theorem dX7_counts_14 : decode cX7_counts 14 = .ok (.astore 4, 2) := by decide +kernel
theorem dX7_counts_16 : decode cX7_counts 16 = .ok (.iconst 0, 1) := by decide +kernel
theorem dX7_counts_17 : decode cX7_counts 17 = .ok (.istore 5, 2) := by decide +kernel
theorem dX7_counts_19 : decode cX7_counts 19 = .ok (.iload 5, 2) := by decide +kernel
theorem dX7_counts_21 : decode cX7_counts 21 = .ok (.bipush 7, 2) := by decide +kernel
theorem dX7_counts_23 : decode cX7_counts 23 = .ok (.if_icmp .ge 149, 3) := by decide +kernel
theorem dX7_counts_26 : decode cX7_counts 26 = .ok (.iconst 0, 1) := by decide +kernel
theorem dX7_counts_27 : decode cX7_counts 27 = .ok (.istore 6, 2) := by decide +kernel
theorem dX7_counts_29 : decode cX7_counts 29 = .ok (.iload 6, 2) := by decide +kernel
theorem dX7_counts_31 : decode cX7_counts 31 = .ok (.bipush 10, 2) := by decide +kernel
theorem dX7_counts_33 : decode cX7_counts 33 = .ok (.if_icmp .ge 133, 3) := by decide +kernel
theorem dX7_counts_36 : decode cX7_counts 36 = .ok (.iload_n 1, 1) := by decide +kernel
theorem dX7_counts_37 : decode cX7_counts 37 = .ok (.aload_n 0, 1) := by decide +kernel
theorem dX7_counts_38 : decode cX7_counts 38 = .ok (.getfield 15, 3) := by decide +kernel
theorem dX7_counts_41 : decode cX7_counts 41 = .ok (.iload 5, 2) := by decide +kernel
theorem dX7_counts_43 : decode cX7_counts 43 = .ok (.aaload, 1) := by decide +kernel
theorem dX7_counts_44 : decode cX7_counts 44 = .ok (.iload 6, 2) := by decide +kernel
theorem dX7_counts_46 : decode cX7_counts 46 = .ok (.aaload, 1) := by decide +kernel
theorem dX7_counts_47 : decode cX7_counts 47 = .ok (.iconst 0, 1) := by decide +kernel
theorem dX7_counts_48 : decode cX7_counts 48 = .ok (.iaload, 1) := by decide +kernel
theorem dX7_counts_49 : decode cX7_counts 49 = .ok (.iconst 1, 1) := by decide +kernel
theorem dX7_counts_50 : decode cX7_counts 50 = .ok (.if_icmp .ne 7, 3) := by decide +kernel
theorem dX7_counts_53 : decode cX7_counts 53 = .ok (.iconst 1, 1) := by decide +kernel
theorem dX7_counts_54 : decode cX7_counts 54 = .ok (.goto 4, 3) := by decide +kernel
theorem dX7_counts_57 : decode cX7_counts 57 = .ok (.iconst 0, 1) := by decide +kernel
theorem dX7_counts_58 : decode cX7_counts 58 = .ok (.iadd, 1) := by decide +kernel
theorem dX7_counts_59 : decode cX7_counts 59 = .ok (.istore_n 1, 1) := by decide +kernel
theorem dX7_counts_60 : decode cX7_counts 60 = .ok (.aload_n 0, 1) := by decide +kernel
theorem dX7_counts_61 : decode cX7_counts 61 = .ok (.getfield 15, 3) := by decide +kernel
theorem dX7_counts_64 : decode cX7_counts 64 = .ok (.iload 5, 2) := by decide +kernel
theorem dX7_counts_66 : decode cX7_counts 66 = .ok (.aaload, 1) := by decide +kernel
theorem dX7_counts_67 : decode cX7_counts 67 = .ok (.iload 6, 2) := by decide +kernel
theorem dX7_counts_69 : decode cX7_counts 69 = .ok (.aaload, 1) := by decide +kernel
theorem dX7_counts_70 : decode cX7_counts 70 = .ok (.iconst 0, 1) := by decide +kernel
theorem dX7_counts_71 : decode cX7_counts 71 = .ok (.iaload, 1) := by decide +kernel
theorem dX7_counts_72 : decode cX7_counts 72 = .ok (.iconst 2, 1) := by decide +kernel
theorem dX7_counts_73 : decode cX7_counts 73 = .ok (.if_icmp .eq 6, 3) := by decide +kernel
theorem dX7_counts_76 : decode cX7_counts 76 = .ok (.goto 84, 3) := by decide +kernel
theorem dX7_counts_79 : decode cX7_counts 79 = .ok (.iinc 2 1, 3) := by decide +kernel
theorem dX7_counts_82 : decode cX7_counts 82 = .ok (.aload 4, 2) := by decide +kernel
theorem dX7_counts_84 : decode cX7_counts 84 = .ok (.iload 5, 2) := by decide +kernel
theorem dX7_counts_86 : decode cX7_counts 86 = .ok (.aaload, 1) := by decide +kernel
theorem dX7_counts_87 : decode cX7_counts 87 = .ok (.iload 6, 2) := by decide +kernel
theorem dX7_counts_89 : decode cX7_counts 89 = .ok (.baload, 1) := by decide +kernel
theorem dX7_counts_90 : decode cX7_counts 90 = .ok (.ifCond .eq 6, 3) := by decide +kernel
theorem dX7_counts_93 : decode cX7_counts 93 = .ok (.goto 67, 3) := by decide +kernel
theorem dX7_counts_96 : decode cX7_counts 96 = .ok (.iinc 3 1, 3) := by decide +kernel
theorem dX7_counts_99 : decode cX7_counts 99 = .ok (.aload_n 0, 1) := by decide +kernel
theorem dX7_counts_100 : decode cX7_counts 100 = .ok (.iload 6, 2) := by decide +kernel
theorem dX7_counts_102 : decode cX7_counts 102 = .ok (.iload 5, 2) := by decide +kernel
theorem dX7_counts_104 : decode cX7_counts 104 = .ok (.invokevirtual 44, 3) := by decide +kernel
theorem dX7_counts_107 : decode cX7_counts 107 = .ok (.astore 7, 2) := by decide +kernel
theorem dX7_counts_109 : decode cX7_counts 109 = .ok (.iconst 0, 1) := by decide +kernel
theorem dX7_counts_110 : decode cX7_counts 110 = .ok (.istore 8, 2) := by decide +kernel
theorem dX7_counts_112 : decode cX7_counts 112 = .ok (.iload 8, 2) := by decide +kernel
theorem dX7_counts_114 : decode cX7_counts 114 = .ok (.bipush 7, 2) := by decide +kernel
theorem dX7_counts_116 : decode cX7_counts 116 = .ok (.if_icmp .ge 44, 3) := by decide +kernel
theorem dX7_counts_119 : decode cX7_counts 119 = .ok (.iconst 0, 1) := by decide +kernel
theorem dX7_counts_120 : decode cX7_counts 120 = .ok (.istore 9, 2) := by decide +kernel
theorem dX7_counts_122 : decode cX7_counts 122 = .ok (.iload 9, 2) := by decide +kernel
theorem dX7_counts_124 : decode cX7_counts 124 = .ok (.bipush 10, 2) := by decide +kernel
theorem dX7_counts_126 : decode cX7_counts 126 = .ok (.if_icmp .ge 28, 3) := by decide +kernel
theorem dX7_counts_129 : decode cX7_counts 129 = .ok (.aload 4, 2) := by decide +kernel
theorem dX7_counts_131 : decode cX7_counts 131 = .ok (.iload 8, 2) := by decide +kernel
theorem dX7_counts_133 : decode cX7_counts 133 = .ok (.aaload, 1) := by decide +kernel
theorem dX7_counts_134 : decode cX7_counts 134 = .ok (.iload 9, 2) := by decide +kernel
theorem dX7_counts_136 : decode cX7_counts 136 = .ok (.dup2, 1) := by decide +kernel
theorem dX7_counts_137 : decode cX7_counts 137 = .ok (.baload, 1) := by decide +kernel
theorem dX7_counts_138 : decode cX7_counts 138 = .ok (.aload 7, 2) := by decide +kernel
theorem dX7_counts_140 : decode cX7_counts 140 = .ok (.iload 8, 2) := by decide +kernel
theorem dX7_counts_142 : decode cX7_counts 142 = .ok (.aaload, 1) := by decide +kernel
theorem dX7_counts_143 : decode cX7_counts 143 = .ok (.iload 9, 2) := by decide +kernel
theorem dX7_counts_145 : decode cX7_counts 145 = .ok (.baload, 1) := by decide +kernel
theorem dX7_counts_146 : decode cX7_counts 146 = .ok (.ior, 1) := by decide +kernel
theorem dX7_counts_147 : decode cX7_counts 147 = .ok (.bastore, 1) := by decide +kernel
theorem dX7_counts_148 : decode cX7_counts 148 = .ok (.iinc 9 1, 3) := by decide +kernel
theorem dX7_counts_151 : decode cX7_counts 151 = .ok (.goto (-29), 3) := by decide +kernel
theorem dX7_counts_154 : decode cX7_counts 154 = .ok (.iinc 8 1, 3) := by decide +kernel
theorem dX7_counts_157 : decode cX7_counts 157 = .ok (.goto (-45), 3) := by decide +kernel
theorem dX7_counts_160 : decode cX7_counts 160 = .ok (.iinc 6 1, 3) := by decide +kernel
theorem dX7_counts_163 : decode cX7_counts 163 = .ok (.goto (-134), 3) := by decide +kernel
theorem dX7_counts_166 : decode cX7_counts 166 = .ok (.iinc 5 1, 3) := by decide +kernel
theorem dX7_counts_169 : decode cX7_counts 169 = .ok (.goto (-150), 3) := by decide +kernel
theorem dX7_counts_172 : decode cX7_counts 172 = .ok (.iconst 0, 1) := by decide +kernel
theorem dX7_counts_173 : decode cX7_counts 173 = .ok (.istore 5, 2) := by decide +kernel
theorem dX7_counts_175 : decode cX7_counts 175 = .ok (.iconst 0, 1) := by decide +kernel
theorem dX7_counts_176 : decode cX7_counts 176 = .ok (.istore 6, 2) := by decide +kernel
theorem dX7_counts_178 : decode cX7_counts 178 = .ok (.aload_n 0, 1) := by decide +kernel
theorem dX7_counts_179 : decode cX7_counts 179 = .ok (.getfield 20, 3) := by decide +kernel
theorem dX7_counts_182 : decode cX7_counts 182 = .ok (.astore 7, 2) := by decide +kernel
theorem dX7_counts_184 : decode cX7_counts 184 = .ok (.aload 7, 2) := by decide +kernel
theorem dX7_counts_186 : decode cX7_counts 186 = .ok (.arraylength, 1) := by decide +kernel
theorem dX7_counts_187 : decode cX7_counts 187 = .ok (.istore 8, 2) := by decide +kernel
theorem dX7_counts_189 : decode cX7_counts 189 = .ok (.iconst 0, 1) := by decide +kernel
theorem dX7_counts_190 : decode cX7_counts 190 = .ok (.istore 9, 2) := by decide +kernel
theorem dX7_counts_192 : decode cX7_counts 192 = .ok (.iload 9, 2) := by decide +kernel
theorem dX7_counts_194 : decode cX7_counts 194 = .ok (.iload 8, 2) := by decide +kernel
theorem dX7_counts_196 : decode cX7_counts 196 = .ok (.if_icmp .ge 47, 3) := by decide +kernel
theorem dX7_counts_199 : decode cX7_counts 199 = .ok (.aload 7, 2) := by decide +kernel
theorem dX7_counts_201 : decode cX7_counts 201 = .ok (.iload 9, 2) := by decide +kernel
theorem dX7_counts_203 : decode cX7_counts 203 = .ok (.aaload, 1) := by decide +kernel
theorem dX7_counts_204 : decode cX7_counts 204 = .ok (.astore 10, 2) := by decide +kernel
theorem dX7_counts_206 : decode cX7_counts 206 = .ok (.iload 5, 2) := by decide +kernel
theorem dX7_counts_208 : decode cX7_counts 208 = .ok (.iconst 1, 1) := by decide +kernel
theorem dX7_counts_209 : decode cX7_counts 209 = .ok (.aload 10, 2) := by decide +kernel
theorem dX7_counts_211 : decode cX7_counts 211 = .ok (.iconst 3, 1) := by decide +kernel
theorem dX7_counts_212 : decode cX7_counts 212 = .ok (.iaload, 1) := by decide +kernel
theorem dX7_counts_213 : decode cX7_counts 213 = .ok (.isub, 1) := by decide +kernel
theorem dX7_counts_214 : decode cX7_counts 214 = .ok (.iadd, 1) := by decide +kernel
theorem dX7_counts_215 : decode cX7_counts 215 = .ok (.istore 5, 2) := by decide +kernel
theorem dX7_counts_217 : decode cX7_counts 217 = .ok (.iload 6, 2) := by decide +kernel
theorem dX7_counts_219 : decode cX7_counts 219 = .ok (.aload 10, 2) := by decide +kernel
theorem dX7_counts_221 : decode cX7_counts 221 = .ok (.iconst 3, 1) := by decide +kernel
theorem dX7_counts_222 : decode cX7_counts 222 = .ok (.iaload, 1) := by decide +kernel
theorem dX7_counts_223 : decode cX7_counts 223 = .ok (.ifCond .ne 10, 3) := by decide +kernel
theorem dX7_counts_226 : decode cX7_counts 226 = .ok (.aload 10, 2) := by decide +kernel
theorem dX7_counts_228 : decode cX7_counts 228 = .ok (.iconst 2, 1) := by decide +kernel
theorem dX7_counts_229 : decode cX7_counts 229 = .ok (.iaload, 1) := by decide +kernel
theorem dX7_counts_230 : decode cX7_counts 230 = .ok (.goto 4, 3) := by decide +kernel
theorem dX7_counts_233 : decode cX7_counts 233 = .ok (.iconst 0, 1) := by decide +kernel
theorem dX7_counts_234 : decode cX7_counts 234 = .ok (.iadd, 1) := by decide +kernel
theorem dX7_counts_235 : decode cX7_counts 235 = .ok (.istore 6, 2) := by decide +kernel
theorem dX7_counts_237 : decode cX7_counts 237 = .ok (.iinc 9 1, 3) := by decide +kernel
theorem dX7_counts_240 : decode cX7_counts 240 = .ok (.goto (-48), 3) := by decide +kernel
theorem dX7_counts_243 : decode cX7_counts 243 = .ok (.iconst 0, 1) := by decide +kernel
theorem dX7_counts_244 : decode cX7_counts 244 = .ok (.istore 7, 2) := by decide +kernel
theorem dX7_counts_246 : decode cX7_counts 246 = .ok (.aload_n 0, 1) := by decide +kernel
theorem dX7_counts_247 : decode cX7_counts 247 = .ok (.getfield 27, 3) := by decide +kernel
theorem dX7_counts_250 : decode cX7_counts 250 = .ok (.astore 8, 2) := by decide +kernel
theorem dX7_counts_252 : decode cX7_counts 252 = .ok (.aload 8, 2) := by decide +kernel
theorem dX7_counts_254 : decode cX7_counts 254 = .ok (.arraylength, 1) := by decide +kernel
theorem dX7_counts_255 : decode cX7_counts 255 = .ok (.istore 9, 2) := by decide +kernel
theorem dX7_counts_257 : decode cX7_counts 257 = .ok (.iconst 0, 1) := by decide +kernel
theorem dX7_counts_258 : decode cX7_counts 258 = .ok (.istore 10, 2) := by decide +kernel
theorem dX7_counts_260 : decode cX7_counts 260 = .ok (.iload 10, 2) := by decide +kernel
theorem dX7_counts_262 : decode cX7_counts 262 = .ok (.iload 9, 2) := by decide +kernel
theorem dX7_counts_264 : decode cX7_counts 264 = .ok (.if_icmp .ge 25, 3) := by decide +kernel
theorem dX7_counts_267 : decode cX7_counts 267 = .ok (.aload 8, 2) := by decide +kernel
theorem dX7_counts_269 : decode cX7_counts 269 = .ok (.iload 10, 2) := by decide +kernel
theorem dX7_counts_271 : decode cX7_counts 271 = .ok (.aaload, 1) := by decide +kernel
theorem dX7_counts_272 : decode cX7_counts 272 = .ok (.astore 11, 2) := by decide +kernel
theorem dX7_counts_274 : decode cX7_counts 274 = .ok (.iload 7, 2) := by decide +kernel
theorem dX7_counts_276 : decode cX7_counts 276 = .ok (.aload 11, 2) := by decide +kernel
theorem dX7_counts_278 : decode cX7_counts 278 = .ok (.iconst 1, 1) := by decide +kernel
theorem dX7_counts_279 : decode cX7_counts 279 = .ok (.iaload, 1) := by decide +kernel
theorem dX7_counts_280 : decode cX7_counts 280 = .ok (.iadd, 1) := by decide +kernel
theorem dX7_counts_281 : decode cX7_counts 281 = .ok (.istore 7, 2) := by decide +kernel
theorem dX7_counts_283 : decode cX7_counts 283 = .ok (.iinc 10 1, 3) := by decide +kernel
theorem dX7_counts_286 : decode cX7_counts 286 = .ok (.goto (-26), 3) := by decide +kernel
theorem dX7_counts_289 : decode cX7_counts 289 = .ok (.bipush 11, 2) := by decide +kernel
theorem dX7_counts_291 : decode cX7_counts 291 = .ok (.newarray .int, 2) := by decide +kernel
theorem dX7_counts_293 : decode cX7_counts 293 = .ok (.dup, 1) := by decide +kernel
theorem dX7_counts_294 : decode cX7_counts 294 = .ok (.iconst 0, 1) := by decide +kernel
theorem dX7_counts_295 : decode cX7_counts 295 = .ok (.aload_n 0, 1) := by decide +kernel
theorem dX7_counts_296 : decode cX7_counts 296 = .ok (.getfield 59, 3) := by decide +kernel
theorem dX7_counts_299 : decode cX7_counts 299 = .ok (.iastore, 1) := by decide +kernel
theorem dX7_counts_300 : decode cX7_counts 300 = .ok (.dup, 1) := by decide +kernel
theorem dX7_counts_301 : decode cX7_counts 301 = .ok (.iconst 1, 1) := by decide +kernel
theorem dX7_counts_302 : decode cX7_counts 302 = .ok (.aload_n 0, 1) := by decide +kernel
theorem dX7_counts_303 : decode cX7_counts 303 = .ok (.getfield 59, 3) := by decide +kernel
theorem dX7_counts_306 : decode cX7_counts 306 = .ok (.bipush 8, 2) := by decide +kernel
theorem dX7_counts_308 : decode cX7_counts 308 = .ok (.irem, 1) := by decide +kernel
theorem dX7_counts_309 : decode cX7_counts 309 = .ok (.iconst 4, 1) := by decide +kernel
theorem dX7_counts_310 : decode cX7_counts 310 = .ok (.if_icmp .ne 7, 3) := by decide +kernel
theorem dX7_counts_313 : decode cX7_counts 313 = .ok (.iconst 1, 1) := by decide +kernel
theorem dX7_counts_314 : decode cX7_counts 314 = .ok (.goto 4, 3) := by decide +kernel
theorem dX7_counts_317 : decode cX7_counts 317 = .ok (.iconst 0, 1) := by decide +kernel
theorem dX7_counts_318 : decode cX7_counts 318 = .ok (.iastore, 1) := by decide +kernel
theorem dX7_counts_319 : decode cX7_counts 319 = .ok (.dup, 1) := by decide +kernel
theorem dX7_counts_320 : decode cX7_counts 320 = .ok (.iconst 2, 1) := by decide +kernel
theorem dX7_counts_321 : decode cX7_counts 321 = .ok (.aload_n 0, 1) := by decide +kernel
theorem dX7_counts_322 : decode cX7_counts 322 = .ok (.getfield 7, 3) := by decide +kernel
theorem dX7_counts_325 : decode cX7_counts 325 = .ok (.iastore, 1) := by decide +kernel
theorem dX7_counts_326 : decode cX7_counts 326 = .ok (.dup, 1) := by decide +kernel
theorem dX7_counts_327 : decode cX7_counts 327 = .ok (.iconst 3, 1) := by decide +kernel
theorem dX7_counts_328 : decode cX7_counts 328 = .ok (.iload_n 1, 1) := by decide +kernel
theorem dX7_counts_329 : decode cX7_counts 329 = .ok (.iastore, 1) := by decide +kernel
theorem dX7_counts_330 : decode cX7_counts 330 = .ok (.dup, 1) := by decide +kernel
theorem dX7_counts_331 : decode cX7_counts 331 = .ok (.iconst 4, 1) := by decide +kernel
theorem dX7_counts_332 : decode cX7_counts 332 = .ok (.iload_n 2, 1) := by decide +kernel
theorem dX7_counts_333 : decode cX7_counts 333 = .ok (.iastore, 1) := by decide +kernel
theorem dX7_counts_334 : decode cX7_counts 334 = .ok (.dup, 1) := by decide +kernel
theorem dX7_counts_335 : decode cX7_counts 335 = .ok (.iconst 5, 1) := by decide +kernel
theorem dX7_counts_336 : decode cX7_counts 336 = .ok (.iload_n 3, 1) := by decide +kernel
theorem dX7_counts_337 : decode cX7_counts 337 = .ok (.iastore, 1) := by decide +kernel
theorem dX7_counts_338 : decode cX7_counts 338 = .ok (.dup, 1) := by decide +kernel
theorem dX7_counts_339 : decode cX7_counts 339 = .ok (.bipush 6, 2) := by decide +kernel
theorem dX7_counts_341 : decode cX7_counts 341 = .ok (.iload 5, 2) := by decide +kernel
theorem dX7_counts_343 : decode cX7_counts 343 = .ok (.iastore, 1) := by decide +kernel
theorem dX7_counts_344 : decode cX7_counts 344 = .ok (.dup, 1) := by decide +kernel
theorem dX7_counts_345 : decode cX7_counts 345 = .ok (.bipush 7, 2) := by decide +kernel
theorem dX7_counts_347 : decode cX7_counts 347 = .ok (.iload 6, 2) := by decide +kernel
theorem dX7_counts_349 : decode cX7_counts 349 = .ok (.iastore, 1) := by decide +kernel
theorem dX7_counts_350 : decode cX7_counts 350 = .ok (.dup, 1) := by decide +kernel
theorem dX7_counts_351 : decode cX7_counts 351 = .ok (.bipush 8, 2) := by decide +kernel
theorem dX7_counts_353 : decode cX7_counts 353 = .ok (.aload_n 0, 1) := by decide +kernel
theorem dX7_counts_354 : decode cX7_counts 354 = .ok (.getfield 24, 3) := by decide +kernel
theorem dX7_counts_357 : decode cX7_counts 357 = .ok (.arraylength, 1) := by decide +kernel
theorem dX7_counts_358 : decode cX7_counts 358 = .ok (.iastore, 1) := by decide +kernel
theorem dX7_counts_359 : decode cX7_counts 359 = .ok (.dup, 1) := by decide +kernel
theorem dX7_counts_360 : decode cX7_counts 360 = .ok (.bipush 9, 2) := by decide +kernel
theorem dX7_counts_362 : decode cX7_counts 362 = .ok (.aload_n 0, 1) := by decide +kernel
theorem dX7_counts_363 : decode cX7_counts 363 = .ok (.getfield 27, 3) := by decide +kernel
theorem dX7_counts_366 : decode cX7_counts 366 = .ok (.arraylength, 1) := by decide +kernel
theorem dX7_counts_367 : decode cX7_counts 367 = .ok (.iastore, 1) := by decide +kernel
theorem dX7_counts_368 : decode cX7_counts 368 = .ok (.dup, 1) := by decide +kernel
theorem dX7_counts_369 : decode cX7_counts 369 = .ok (.bipush 10, 2) := by decide +kernel
theorem dX7_counts_371 : decode cX7_counts 371 = .ok (.iload 7, 2) := by decide +kernel
theorem dX7_counts_373 : decode cX7_counts 373 = .ok (.iastore, 1) := by decide +kernel
theorem dX7_counts_374 : decode cX7_counts 374 = .ok (.astore 8, 2) := by decide +kernel
theorem dX7_counts_376 : decode cX7_counts 376 = .ok (.aload 8, 2) := by decide +kernel
theorem dX7_counts_378 : decode cX7_counts 378 = .ok (.areturn, 1) := by decide +kernel
set_option maxRecDepth 20000 in
theorem ggX7_isSame_X7_pond : GoodIn wsX7_isSame wsX7_pond := goodIn_r _ [10, 11, 12, 1, 285, 286, 287, 288, 289, 290] (by decide +kernel) (by decide +kernel)
set_option maxRecDepth 20000 in
theorem gX7_isSame_X7_pond : GoodIn wsX7_isSame (wsV RX7 44 RX7 yX7_pond wsX7_pond) := goodIn_app (goodIn_of _ (by decide +kernel)) ggX7_isSame_X7_pond
set_option maxRecDepth 20000 in
theorem ggX7_isSame_X7_many : GoodIn wsX7_isSame wsX7_many := goodIn_r _ [15] (by decide +kernel) (by decide +kernel)
set_option maxRecDepth 20000 in
theorem gX7_isSame_X7_many : GoodIn wsX7_isSame (va_wsS RX7 52 yX7_many wsX7_many) := goodIn_app (goodIn_of _ (by decide +kernel)) ggX7_isSame_X7_many
set_option maxRecDepth 20000 in
theorem ggX7_isSame_X7_carpsIn : GoodIn wsX7_isSame wsX7_carpsIn := goodIn_r _ [19, 3, 285, 286, 287, 288, 289, 290] (by decide +kernel) (by decide +kernel)
set_option maxRecDepth 20000 in
theorem gX7_isSame_X7_carpsIn : GoodIn wsX7_isSame (wsV RX7 48 RX7 yX7_carpsIn wsX7_carpsIn) := goodIn_app (goodIn_of _ (by decide +kernel)) ggX7_isSame_X7_carpsIn
set_option maxRecDepth 20000 in
theorem ggX7_isSame_X6_cell : GoodIn wsX7_isSame wsX6_cell := goodIn_ca (goodIn_r _ [24, 25, 26, 27, 28, 23, 29, 30, 31, 32, 33, 34, 35, 36, 37, 38, 39, 40, 41, 42, 43, 44, 45, 46, 47, 48, 49, 50, 51, 52, 53, 54, 55, 56, 57, 58, 59, 60, 61, 62, 63, 64, 65, 66, 67, 68, 69, 70, 71, 72, 73, 74, 75, 291, 292, 293, 294, 295, 296, 297, 298, 299, 300, 301, 302, 303, 304, 305, 306] (by decide +kernel) (by decide +kernel)) (goodIn_sub (fun _ h => List.mem_cons_of_mem _ (List.mem_append_right _ h)) (by decide +kernel))
set_option maxRecDepth 20000 in
theorem gX7_isSame_X6_cell : GoodIn wsX7_isSame (wsV RX7 67 RX6 yX6_cell wsX6_cell) := goodIn_app (goodIn_of _ (by decide +kernel)) ggX7_isSame_X6_cell
set_option maxRecDepth 20000 in
theorem ggX7_isSame_X6_told : GoodIn wsX7_isSame wsX6_told := goodIn_ca (goodIn_r _ [79, 80, 81, 82, 83, 84, 23, 85, 30, 31, 86, 36, 37, 38, 39, 87, 88, 89, 90, 91, 92, 93, 94, 95, 96, 97, 98, 99, 100, 101, 102, 103, 104, 105, 106, 107, 108, 109, 110, 111, 112, 291, 292, 293, 294, 295, 296, 297, 307, 308, 309, 310, 311, 312, 313] (by decide +kernel) (by decide +kernel)) (goodIn_sub (fun _ h => List.mem_cons_of_mem _ (List.mem_append_right _ h)) (by decide +kernel))
set_option maxRecDepth 20000 in
theorem gX7_isSame_X6_told : GoodIn wsX7_isSame (wsV RX7 73 RX6 yX6_told wsX6_told) := goodIn_app (goodIn_of _ (by decide +kernel)) ggX7_isSame_X6_told
set_option maxRecDepth 20000 in
theorem ggX7_isSame_X7_shows : GoodIn wsX7_isSame wsX7_shows := goodIn_r _ [116, 117, 1, 2, 118, 119, 9, 120, 285, 286, 287, 288, 289, 290] (by decide +kernel) (by decide +kernel)
set_option maxRecDepth 20000 in
theorem gX7_isSame_X7_shows : GoodIn wsX7_isSame (wsV RX7 40 RX7 yX7_shows wsX7_shows) := goodIn_app (goodIn_of _ (by decide +kernel)) ggX7_isSame_X7_shows
set_option maxRecDepth 20000 in
theorem ggX7_isSame_X7_beauty : GoodIn wsX7_isSame wsX7_beauty := goodIn_r _ [124, 1, 3, 113, 114, 115, 9, 116, 117, 2, 118, 119, 120, 285, 286, 287, 288, 289, 290] (by decide +kernel) (by decide +kernel)
set_option maxRecDepth 20000 in
theorem gX7_isSame_X7_beauty : GoodIn wsX7_isSame (wsV RX7 55 RX7 yX7_beauty wsX7_beauty) := goodIn_app (goodIn_of _ (by decide +kernel)) ggX7_isSame_X7_beauty
set_option maxRecDepth 20000 in
theorem ggX7_isSame_X6_about : GoodIn wsX7_isSame wsX6_about := goodIn_ca (goodIn_r _ [128, 81, 129, 130, 131, 132, 133, 134, 135, 136, 137, 23, 138, 30, 31, 139, 140, 36, 37, 38, 39, 141, 142, 143, 144, 25, 145, 146, 147, 148, 149, 150, 151, 152, 153, 154, 155, 156, 157, 158, 159, 160, 161, 162, 163, 164, 165, 166, 167, 168, 169, 170, 171, 172, 173, 34, 174, 175, 176, 48, 49, 50, 177, 178, 179, 180, 33, 35, 181, 41, 42, 182, 183, 184, 185, 186, 44, 45, 46, 47, 187, 188, 189, 190, 80, 43, 51, 52, 53, 54, 55, 56, 57, 58, 59, 60, 191, 192, 193, 194, 195, 196, 197, 90, 198, 97, 92, 108, 199, 99, 100, 101, 102, 103, 200, 201, 202, 203, 204, 205, 206, 207, 208, 209, 210, 211, 212, 213, 214, 215, 216, 217, 218, 219, 220, 221, 222, 223, 291, 292, 293, 294, 295, 296, 297, 314, 315, 316, 317, 318, 319, 320, 321, 298, 299, 300, 301, 302, 303, 304, 305, 306, 307, 308, 309, 310, 311, 312, 313, 322, 323] (by decide +kernel) (by decide +kernel)) (goodIn_sub (fun _ h => List.mem_cons_of_mem _ (List.mem_append_right _ h)) (by decide +kernel))
set_option maxRecDepth 20000 in
theorem gX7_isSame_X6_about : GoodIn wsX7_isSame (wsV RX7 77 RX6 yX6_about wsX6_about) := goodIn_app (goodIn_of _ (by decide +kernel)) ggX7_isSame_X6_about
set_option maxRecDepth 20000 in
theorem ggX7_isSame_X6_lines : GoodIn wsX7_isSame wsX6_lines := goodIn_ca (goodIn_r _ [227, 81, 228, 229, 230, 23, 231, 30, 31, 134, 232, 233, 234, 235, 101, 236, 237, 291, 292, 293, 294, 295, 296, 297, 322, 323, 310, 311, 312, 313] (by decide +kernel) (by decide +kernel)) (goodIn_sub (fun _ h => List.mem_cons_of_mem _ (List.mem_append_right _ h)) (by decide +kernel))
set_option maxRecDepth 20000 in
theorem gX7_isSame_X6_lines : GoodIn wsX7_isSame (wsV RX7 80 RX6 yX6_lines wsX6_lines) := goodIn_app (goodIn_of _ (by decide +kernel)) ggX7_isSame_X6_lines
set_option maxRecDepth 20000 in
theorem ggX7_isSame_X7_counts : GoodIn wsX7_isSame wsX7_counts := goodIn_r _ [241, 11, 12, 1, 3, 5, 2, 242, 243, 4, 6, 7, 8, 9, 10, 285, 286, 287, 288, 289, 290] (by decide +kernel) (by decide +kernel)
set_option maxRecDepth 20000 in
theorem gX7_isSame_X7_counts : GoodIn wsX7_isSame (wsV RX7 84 RX7 yX7_counts wsX7_counts) := goodIn_app (goodIn_of _ (by decide +kernel)) ggX7_isSame_X7_counts
set_option maxRecDepth 20000 in
theorem ggX7_isSame_X6_count : GoodIn wsX7_isSame wsX6_count := goodIn_ca (goodIn_r _ [247, 81, 248, 25, 249, 80, 139, 140, 134, 232, 36, 37, 38, 23, 39, 30, 31, 250, 251, 252, 101, 253, 254, 255, 256, 257, 34, 258, 47, 259, 260, 261, 90, 262, 97, 263, 105, 106, 107, 108, 93, 94, 95, 96, 264, 265, 266, 267, 268, 269, 270, 271, 272, 199, 99, 100, 102, 103, 273, 274, 275, 276, 237, 291, 292, 293, 294, 295, 296, 297, 310, 311, 312, 313, 298, 299, 300, 301, 302, 303, 304, 305, 306, 319, 320, 321, 322, 323, 307, 308, 309] (by decide +kernel) (by decide +kernel)) (goodIn_sub (fun _ h => List.mem_cons_of_mem _ (List.mem_append_right _ h)) (by decide +kernel))
set_option maxRecDepth 20000 in
theorem gX7_isSame_X6_count : GoodIn wsX7_isSame (wsV RX7 88 RX6 yX6_count wsX6_count) := goodIn_app (goodIn_of _ (by decide +kernel)) ggX7_isSame_X6_count
set_option maxRecDepth 20000 in
theorem ggX7_isSame_X6_finest : GoodIn wsX7_isSame wsX6_finest := goodIn_r _ [280, 139, 140, 81, 141, 142, 143, 23, 144, 129, 25, 133, 145, 146, 147, 148, 149, 150, 151, 152, 153, 154, 155, 156, 157, 158, 159, 160, 161, 162, 163, 164, 165, 166, 167, 168, 169, 170, 171, 172, 173, 34, 174, 175, 176, 48, 49, 50, 177, 178, 179, 180, 33, 35, 181, 41, 42, 182, 183, 184, 185, 186, 44, 45, 46, 47, 187, 188, 189, 190, 130, 80, 43, 51, 52, 53, 54, 55, 56, 57, 58, 59, 60, 191, 192, 193, 194, 195, 196, 197, 90, 198, 97, 92, 108, 199, 99, 100, 101, 102, 103, 200, 201, 202, 203, 204, 205, 206, 207, 208, 291, 292, 293, 294, 295, 296, 297, 319, 320, 321, 314, 315, 316, 317, 318, 298, 299, 300, 301, 302, 303, 304, 305, 306, 307, 308, 309, 310, 311, 312, 313] (by decide +kernel) (by decide +kernel)
set_option maxRecDepth 20000 in
theorem gX7_isSame_X6_finest : GoodIn wsX7_isSame (wsV RX7 91 RX6 yX6_finest wsX6_finest) := goodIn_app (goodIn_of _ (by decide +kernel)) ggX7_isSame_X6_finest
set_option maxRecDepth 20000 in
theorem ggX7_isSame_X6_mean : GoodIn wsX7_isSame wsX6_mean := goodIn_r _ [284, 139, 140, 81, 141, 142, 143, 23, 144, 129, 25, 133, 145, 146, 147, 148, 149, 150, 151, 152, 153, 154, 155, 156, 157, 158, 159, 160, 161, 162, 163, 164, 165, 166, 167, 168, 169, 170, 171, 172, 173, 34, 174, 175, 176, 48, 49, 50, 177, 178, 179, 180, 33, 35, 181, 41, 42, 182, 183, 184, 185, 186, 44, 45, 46, 47, 187, 188, 189, 190, 130, 80, 43, 51, 52, 53, 54, 55, 56, 57, 58, 59, 60, 191, 192, 193, 194, 195, 196, 197, 90, 198, 97, 92, 108, 199, 99, 100, 101, 102, 103, 200, 201, 202, 203, 204, 205, 206, 207, 208, 291, 292, 293, 294, 295, 296, 297, 319, 320, 321, 314, 315, 316, 317, 318, 298, 299, 300, 301, 302, 303, 304, 305, 306, 307, 308, 309, 310, 311, 312, 313] (by decide +kernel) (by decide +kernel)
set_option maxRecDepth 20000 in
theorem gX7_isSame_X6_mean : GoodIn wsX7_isSame (wsV RX7 95 RX6 yX6_mean wsX6_mean) := goodIn_app (goodIn_of _ (by decide +kernel)) ggX7_isSame_X6_mean
theorem dX7_isSame_0 : decode cX7_isSame 0 = .ok (.iconst 0, 1) := by decide +kernel
theorem dX7_isSame_1 : decode cX7_isSame 1 = .ok (.istore_n 2, 1) := by decide +kernel
theorem dX7_isSame_2 : decode cX7_isSame 2 = .ok (.iload_n 2, 1) := by decide +kernel
theorem dX7_isSame_3 : decode cX7_isSame 3 = .ok (.bipush 7, 2) := by decide +kernel
theorem dX7_isSame_5 : decode cX7_isSame 5 = .ok (.if_icmp .ge 141, 3) := by decide +kernel
theorem dX7_isSame_8 : decode cX7_isSame 8 = .ok (.iconst 0, 1) := by decide +kernel
theorem dX7_isSame_9 : decode cX7_isSame 9 = .ok (.istore_n 3, 1) := by decide +kernel
theorem dX7_isSame_10 : decode cX7_isSame 10 = .ok (.iload_n 3, 1) := by decide +kernel
theorem dX7_isSame_11 : decode cX7_isSame 11 = .ok (.bipush 10, 2) := by decide +kernel
theorem dX7_isSame_13 : decode cX7_isSame 13 = .ok (.if_icmp .ge 127, 3) := by decide +kernel
theorem dX7_isSame_16 : decode cX7_isSame 16 = .ok (.aload_n 0, 1) := by decide +kernel
theorem dX7_isSame_17 : decode cX7_isSame 17 = .ok (.getfield 15, 3) := by decide +kernel
theorem dX7_isSame_20 : decode cX7_isSame 20 = .ok (.iload_n 2, 1) := by decide +kernel
theorem dX7_isSame_21 : decode cX7_isSame 21 = .ok (.aaload, 1) := by decide +kernel
theorem dX7_isSame_22 : decode cX7_isSame 22 = .ok (.iload_n 3, 1) := by decide +kernel
theorem dX7_isSame_23 : decode cX7_isSame 23 = .ok (.aaload, 1) := by decide +kernel
theorem dX7_isSame_24 : decode cX7_isSame 24 = .ok (.astore 4, 2) := by decide +kernel
theorem dX7_isSame_26 : decode cX7_isSame 26 = .ok (.aload_n 0, 1) := by decide +kernel
theorem dX7_isSame_27 : decode cX7_isSame 27 = .ok (.iload_n 3, 1) := by decide +kernel
theorem dX7_isSame_28 : decode cX7_isSame 28 = .ok (.iload_n 2, 1) := by decide +kernel
theorem dX7_isSame_29 : decode cX7_isSame 29 = .ok (.invokevirtual 44, 3) := by decide +kernel
theorem dX7_isSame_32 : decode cX7_isSame 32 = .ok (.astore 5, 2) := by decide +kernel
theorem dX7_isSame_34 : decode cX7_isSame 34 = .ok (.iconst 5, 1) := by decide +kernel
theorem dX7_isSame_35 : decode cX7_isSame 35 = .ok (.newarray .int, 2) := by decide +kernel
theorem dX7_isSame_37 : decode cX7_isSame 37 = .ok (.dup, 1) := by decide +kernel
theorem dX7_isSame_38 : decode cX7_isSame 38 = .ok (.iconst 0, 1) := by decide +kernel
theorem dX7_isSame_39 : decode cX7_isSame 39 = .ok (.aload 4, 2) := by decide +kernel
theorem dX7_isSame_41 : decode cX7_isSame 41 = .ok (.iconst 0, 1) := by decide +kernel
theorem dX7_isSame_42 : decode cX7_isSame 42 = .ok (.iaload, 1) := by decide +kernel
theorem dX7_isSame_43 : decode cX7_isSame 43 = .ok (.iastore, 1) := by decide +kernel
theorem dX7_isSame_44 : decode cX7_isSame 44 = .ok (.dup, 1) := by decide +kernel
theorem dX7_isSame_45 : decode cX7_isSame 45 = .ok (.iconst 1, 1) := by decide +kernel
theorem dX7_isSame_46 : decode cX7_isSame 46 = .ok (.aload 4, 2) := by decide +kernel
theorem dX7_isSame_48 : decode cX7_isSame 48 = .ok (.iconst 0, 1) := by decide +kernel
theorem dX7_isSame_49 : decode cX7_isSame 49 = .ok (.iaload, 1) := by decide +kernel
theorem dX7_isSame_50 : decode cX7_isSame 50 = .ok (.iconst 1, 1) := by decide +kernel
theorem dX7_isSame_51 : decode cX7_isSame 51 = .ok (.if_icmp .ne 10, 3) := by decide +kernel
theorem dX7_isSame_54 : decode cX7_isSame 54 = .ok (.aload 4, 2) := by decide +kernel
theorem dX7_isSame_56 : decode cX7_isSame 56 = .ok (.iconst 1, 1) := by decide +kernel
theorem dX7_isSame_57 : decode cX7_isSame 57 = .ok (.iaload, 1) := by decide +kernel
theorem dX7_isSame_58 : decode cX7_isSame 58 = .ok (.goto 4, 3) := by decide +kernel
theorem dX7_isSame_61 : decode cX7_isSame 61 = .ok (.iconst (-1), 1) := by decide +kernel
theorem dX7_isSame_62 : decode cX7_isSame 62 = .ok (.iastore, 1) := by decide +kernel
theorem dX7_isSame_63 : decode cX7_isSame 63 = .ok (.dup, 1) := by decide +kernel
theorem dX7_isSame_64 : decode cX7_isSame 64 = .ok (.iconst 2, 1) := by decide +kernel
theorem dX7_isSame_65 : decode cX7_isSame 65 = .ok (.aload 4, 2) := by decide +kernel
theorem dX7_isSame_67 : decode cX7_isSame 67 = .ok (.iconst 0, 1) := by decide +kernel
theorem dX7_isSame_68 : decode cX7_isSame 68 = .ok (.iaload, 1) := by decide +kernel
theorem dX7_isSame_69 : decode cX7_isSame 69 = .ok (.iconst 1, 1) := by decide +kernel
theorem dX7_isSame_70 : decode cX7_isSame 70 = .ok (.if_icmp .ne 10, 3) := by decide +kernel
theorem dX7_isSame_73 : decode cX7_isSame 73 = .ok (.aload 4, 2) := by decide +kernel
theorem dX7_isSame_75 : decode cX7_isSame 75 = .ok (.iconst 2, 1) := by decide +kernel
theorem dX7_isSame_76 : decode cX7_isSame 76 = .ok (.iaload, 1) := by decide +kernel
theorem dX7_isSame_77 : decode cX7_isSame 77 = .ok (.goto 4, 3) := by decide +kernel
theorem dX7_isSame_80 : decode cX7_isSame 80 = .ok (.iconst 0, 1) := by decide +kernel
theorem dX7_isSame_81 : decode cX7_isSame 81 = .ok (.iastore, 1) := by decide +kernel
theorem dX7_isSame_82 : decode cX7_isSame 82 = .ok (.dup, 1) := by decide +kernel
theorem dX7_isSame_83 : decode cX7_isSame 83 = .ok (.iconst 3, 1) := by decide +kernel
theorem dX7_isSame_84 : decode cX7_isSame 84 = .ok (.aload 5, 2) := by decide +kernel
theorem dX7_isSame_86 : decode cX7_isSame 86 = .ok (.invokestatic 52, 3) := by decide +kernel
theorem dX7_isSame_89 : decode cX7_isSame 89 = .ok (.iastore, 1) := by decide +kernel
theorem dX7_isSame_90 : decode cX7_isSame 90 = .ok (.dup, 1) := by decide +kernel
theorem dX7_isSame_91 : decode cX7_isSame 91 = .ok (.iconst 4, 1) := by decide +kernel
theorem dX7_isSame_92 : decode cX7_isSame 92 = .ok (.aload_n 0, 1) := by decide +kernel
theorem dX7_isSame_93 : decode cX7_isSame 93 = .ok (.aload 5, 2) := by decide +kernel
theorem dX7_isSame_95 : decode cX7_isSame 95 = .ok (.invokevirtual 48, 3) := by decide +kernel
theorem dX7_isSame_98 : decode cX7_isSame 98 = .ok (.iastore, 1) := by decide +kernel
theorem dX7_isSame_99 : decode cX7_isSame 99 = .ok (.astore 6, 2) := by decide +kernel
theorem dX7_isSame_101 : decode cX7_isSame 101 = .ok (.iconst 0, 1) := by decide +kernel
theorem dX7_isSame_102 : decode cX7_isSame 102 = .ok (.istore 7, 2) := by decide +kernel
theorem dX7_isSame_104 : decode cX7_isSame 104 = .ok (.iload 7, 2) := by decide +kernel
theorem dX7_isSame_106 : decode cX7_isSame 106 = .ok (.iconst 5, 1) := by decide +kernel
theorem dX7_isSame_107 : decode cX7_isSame 107 = .ok (.if_icmp .ge 27, 3) := by decide +kernel
theorem dX7_isSame_110 : decode cX7_isSame 110 = .ok (.aload_n 1, 1) := by decide +kernel
theorem dX7_isSame_111 : decode cX7_isSame 111 = .ok (.iload_n 3, 1) := by decide +kernel
theorem dX7_isSame_112 : decode cX7_isSame 112 = .ok (.iload_n 2, 1) := by decide +kernel
theorem dX7_isSame_113 : decode cX7_isSame 113 = .ok (.iload 7, 2) := by decide +kernel
theorem dX7_isSame_115 : decode cX7_isSame 115 = .ok (.invokevirtual 67, 3) := by decide +kernel
theorem dX7_isSame_118 : decode cX7_isSame 118 = .ok (.aload 6, 2) := by decide +kernel
theorem dX7_isSame_120 : decode cX7_isSame 120 = .ok (.iload 7, 2) := by decide +kernel
theorem dX7_isSame_122 : decode cX7_isSame 122 = .ok (.iaload, 1) := by decide +kernel
theorem dX7_isSame_123 : decode cX7_isSame 123 = .ok (.if_icmp .eq 5, 3) := by decide +kernel
theorem dX7_isSame_126 : decode cX7_isSame 126 = .ok (.iconst 0, 1) := by decide +kernel
theorem dX7_isSame_127 : decode cX7_isSame 127 = .ok (.ireturn, 1) := by decide +kernel
theorem dX7_isSame_128 : decode cX7_isSame 128 = .ok (.iinc 7 1, 3) := by decide +kernel
theorem dX7_isSame_131 : decode cX7_isSame 131 = .ok (.goto (-27), 3) := by decide +kernel
theorem dX7_isSame_134 : decode cX7_isSame 134 = .ok (.iinc 3 1, 3) := by decide +kernel
theorem dX7_isSame_137 : decode cX7_isSame 137 = .ok (.goto (-127), 3) := by decide +kernel
theorem dX7_isSame_140 : decode cX7_isSame 140 = .ok (.iinc 2 1, 3) := by decide +kernel
theorem dX7_isSame_143 : decode cX7_isSame 143 = .ok (.goto (-141), 3) := by decide +kernel
theorem dX7_isSame_146 : decode cX7_isSame 146 = .ok (.iconst 0, 1) := by decide +kernel
theorem dX7_isSame_147 : decode cX7_isSame 147 = .ok (.istore_n 2, 1) := by decide +kernel
theorem dX7_isSame_148 : decode cX7_isSame 148 = .ok (.iload_n 2, 1) := by decide +kernel
theorem dX7_isSame_149 : decode cX7_isSame 149 = .ok (.aload_n 0, 1) := by decide +kernel
theorem dX7_isSame_150 : decode cX7_isSame 150 = .ok (.getfield 20, 3) := by decide +kernel
theorem dX7_isSame_153 : decode cX7_isSame 153 = .ok (.arraylength, 1) := by decide +kernel
theorem dX7_isSame_154 : decode cX7_isSame 154 = .ok (.if_icmp .ge 157, 3) := by decide +kernel
theorem dX7_isSame_157 : decode cX7_isSame 157 = .ok (.aload_n 0, 1) := by decide +kernel
theorem dX7_isSame_158 : decode cX7_isSame 158 = .ok (.getfield 20, 3) := by decide +kernel
theorem dX7_isSame_161 : decode cX7_isSame 161 = .ok (.iload_n 2, 1) := by decide +kernel
theorem dX7_isSame_162 : decode cX7_isSame 162 = .ok (.aaload, 1) := by decide +kernel
theorem dX7_isSame_163 : decode cX7_isSame 163 = .ok (.astore_n 3, 1) := by decide +kernel
theorem dX7_isSame_164 : decode cX7_isSame 164 = .ok (.iconst 1, 1) := by decide +kernel
theorem dX7_isSame_165 : decode cX7_isSame 165 = .ok (.istore 4, 2) := by decide +kernel
theorem dX7_isSame_167 : decode cX7_isSame 167 = .ok (.aload_n 0, 1) := by decide +kernel
theorem dX7_isSame_168 : decode cX7_isSame 168 = .ok (.getfield 20, 3) := by decide +kernel
theorem dX7_isSame_171 : decode cX7_isSame 171 = .ok (.astore 5, 2) := by decide +kernel
theorem dX7_isSame_173 : decode cX7_isSame 173 = .ok (.aload 5, 2) := by decide +kernel
theorem dX7_isSame_175 : decode cX7_isSame 175 = .ok (.arraylength, 1) := by decide +kernel
theorem dX7_isSame_176 : decode cX7_isSame 176 = .ok (.istore 6, 2) := by decide +kernel
theorem dX7_isSame_178 : decode cX7_isSame 178 = .ok (.iconst 0, 1) := by decide +kernel
theorem dX7_isSame_179 : decode cX7_isSame 179 = .ok (.istore 7, 2) := by decide +kernel
theorem dX7_isSame_181 : decode cX7_isSame 181 = .ok (.iload 7, 2) := by decide +kernel
theorem dX7_isSame_183 : decode cX7_isSame 183 = .ok (.iload 6, 2) := by decide +kernel
theorem dX7_isSame_185 : decode cX7_isSame 185 = .ok (.if_icmp .ge 43, 3) := by decide +kernel
theorem dX7_isSame_188 : decode cX7_isSame 188 = .ok (.aload 5, 2) := by decide +kernel
theorem dX7_isSame_190 : decode cX7_isSame 190 = .ok (.iload 7, 2) := by decide +kernel
theorem dX7_isSame_192 : decode cX7_isSame 192 = .ok (.aaload, 1) := by decide +kernel
theorem dX7_isSame_193 : decode cX7_isSame 193 = .ok (.astore 8, 2) := by decide +kernel
theorem dX7_isSame_195 : decode cX7_isSame 195 = .ok (.iload 4, 2) := by decide +kernel
theorem dX7_isSame_197 : decode cX7_isSame 197 = .ok (.aload 8, 2) := by decide +kernel
theorem dX7_isSame_199 : decode cX7_isSame 199 = .ok (.iconst 3, 1) := by decide +kernel
theorem dX7_isSame_200 : decode cX7_isSame 200 = .ok (.iaload, 1) := by decide +kernel
theorem dX7_isSame_201 : decode cX7_isSame 201 = .ok (.ifCond .ne 17, 3) := by decide +kernel
theorem dX7_isSame_204 : decode cX7_isSame 204 = .ok (.aload 8, 2) := by decide +kernel
theorem dX7_isSame_206 : decode cX7_isSame 206 = .ok (.iconst 2, 1) := by decide +kernel
theorem dX7_isSame_207 : decode cX7_isSame 207 = .ok (.iaload, 1) := by decide +kernel
theorem dX7_isSame_208 : decode cX7_isSame 208 = .ok (.aload_n 3, 1) := by decide +kernel
theorem dX7_isSame_209 : decode cX7_isSame 209 = .ok (.iconst 2, 1) := by decide +kernel
theorem dX7_isSame_210 : decode cX7_isSame 210 = .ok (.iaload, 1) := by decide +kernel
theorem dX7_isSame_211 : decode cX7_isSame 211 = .ok (.if_icmp .le 7, 3) := by decide +kernel
theorem dX7_isSame_214 : decode cX7_isSame 214 = .ok (.iconst 1, 1) := by decide +kernel
theorem dX7_isSame_215 : decode cX7_isSame 215 = .ok (.goto 4, 3) := by decide +kernel
theorem dX7_isSame_218 : decode cX7_isSame 218 = .ok (.iconst 0, 1) := by decide +kernel
theorem dX7_isSame_219 : decode cX7_isSame 219 = .ok (.iadd, 1) := by decide +kernel
theorem dX7_isSame_220 : decode cX7_isSame 220 = .ok (.istore 4, 2) := by decide +kernel
theorem dX7_isSame_222 : decode cX7_isSame 222 = .ok (.iinc 7 1, 3) := by decide +kernel
theorem dX7_isSame_225 : decode cX7_isSame 225 = .ok (.goto (-44), 3) := by decide +kernel
theorem dX7_isSame_228 : decode cX7_isSame 228 = .ok (.iconst 5, 1) := by decide +kernel
theorem dX7_isSame_229 : decode cX7_isSame 229 = .ok (.newarray .int, 2) := by decide +kernel
theorem dX7_isSame_231 : decode cX7_isSame 231 = .ok (.dup, 1) := by decide +kernel
theorem dX7_isSame_232 : decode cX7_isSame 232 = .ok (.iconst 0, 1) := by decide +kernel
theorem dX7_isSame_233 : decode cX7_isSame 233 = .ok (.aload_n 3, 1) := by decide +kernel
theorem dX7_isSame_234 : decode cX7_isSame 234 = .ok (.iconst 0, 1) := by decide +kernel
theorem dX7_isSame_235 : decode cX7_isSame 235 = .ok (.iaload, 1) := by decide +kernel
theorem dX7_isSame_236 : decode cX7_isSame 236 = .ok (.iastore, 1) := by decide +kernel
theorem dX7_isSame_237 : decode cX7_isSame 237 = .ok (.dup, 1) := by decide +kernel
theorem dX7_isSame_238 : decode cX7_isSame 238 = .ok (.iconst 1, 1) := by decide +kernel
theorem dX7_isSame_239 : decode cX7_isSame 239 = .ok (.aload_n 3, 1) := by decide +kernel
theorem dX7_isSame_240 : decode cX7_isSame 240 = .ok (.iconst 1, 1) := by decide +kernel
theorem dX7_isSame_241 : decode cX7_isSame 241 = .ok (.iaload, 1) := by decide +kernel
theorem dX7_isSame_242 : decode cX7_isSame 242 = .ok (.iastore, 1) := by decide +kernel
theorem dX7_isSame_243 : decode cX7_isSame 243 = .ok (.dup, 1) := by decide +kernel
theorem dX7_isSame_244 : decode cX7_isSame 244 = .ok (.iconst 2, 1) := by decide +kernel
theorem dX7_isSame_245 : decode cX7_isSame 245 = .ok (.aload_n 3, 1) := by decide +kernel
theorem dX7_isSame_246 : decode cX7_isSame 246 = .ok (.iconst 2, 1) := by decide +kernel
theorem dX7_isSame_247 : decode cX7_isSame 247 = .ok (.iaload, 1) := by decide +kernel
theorem dX7_isSame_248 : decode cX7_isSame 248 = .ok (.iastore, 1) := by decide +kernel
theorem dX7_isSame_249 : decode cX7_isSame 249 = .ok (.dup, 1) := by decide +kernel
theorem dX7_isSame_250 : decode cX7_isSame 250 = .ok (.iconst 3, 1) := by decide +kernel
theorem dX7_isSame_251 : decode cX7_isSame 251 = .ok (.aload_n 3, 1) := by decide +kernel
theorem dX7_isSame_252 : decode cX7_isSame 252 = .ok (.iconst 3, 1) := by decide +kernel
theorem dX7_isSame_253 : decode cX7_isSame 253 = .ok (.iaload, 1) := by decide +kernel
theorem dX7_isSame_254 : decode cX7_isSame 254 = .ok (.iastore, 1) := by decide +kernel
theorem dX7_isSame_255 : decode cX7_isSame 255 = .ok (.dup, 1) := by decide +kernel
theorem dX7_isSame_256 : decode cX7_isSame 256 = .ok (.iconst 4, 1) := by decide +kernel
theorem dX7_isSame_257 : decode cX7_isSame 257 = .ok (.aload_n 3, 1) := by decide +kernel
theorem dX7_isSame_258 : decode cX7_isSame 258 = .ok (.iconst 3, 1) := by decide +kernel
theorem dX7_isSame_259 : decode cX7_isSame 259 = .ok (.iaload, 1) := by decide +kernel
theorem dX7_isSame_260 : decode cX7_isSame 260 = .ok (.iconst 1, 1) := by decide +kernel
theorem dX7_isSame_261 : decode cX7_isSame 261 = .ok (.if_icmp .ne 7, 3) := by decide +kernel
theorem dX7_isSame_264 : decode cX7_isSame 264 = .ok (.iconst 0, 1) := by decide +kernel
theorem dX7_isSame_265 : decode cX7_isSame 265 = .ok (.goto 5, 3) := by decide +kernel
theorem dX7_isSame_268 : decode cX7_isSame 268 = .ok (.iload 4, 2) := by decide +kernel
theorem dX7_isSame_270 : decode cX7_isSame 270 = .ok (.iastore, 1) := by decide +kernel
theorem dX7_isSame_271 : decode cX7_isSame 271 = .ok (.astore 5, 2) := by decide +kernel
theorem dX7_isSame_273 : decode cX7_isSame 273 = .ok (.iconst 0, 1) := by decide +kernel
theorem dX7_isSame_274 : decode cX7_isSame 274 = .ok (.istore 6, 2) := by decide +kernel
theorem dX7_isSame_276 : decode cX7_isSame 276 = .ok (.iload 6, 2) := by decide +kernel
theorem dX7_isSame_278 : decode cX7_isSame 278 = .ok (.iconst 5, 1) := by decide +kernel
theorem dX7_isSame_279 : decode cX7_isSame 279 = .ok (.if_icmp .ge 26, 3) := by decide +kernel
theorem dX7_isSame_282 : decode cX7_isSame 282 = .ok (.aload_n 1, 1) := by decide +kernel
theorem dX7_isSame_283 : decode cX7_isSame 283 = .ok (.iload_n 2, 1) := by decide +kernel
theorem dX7_isSame_284 : decode cX7_isSame 284 = .ok (.iload 6, 2) := by decide +kernel
theorem dX7_isSame_286 : decode cX7_isSame 286 = .ok (.invokevirtual 73, 3) := by decide +kernel
theorem dX7_isSame_289 : decode cX7_isSame 289 = .ok (.aload 5, 2) := by decide +kernel
theorem dX7_isSame_291 : decode cX7_isSame 291 = .ok (.iload 6, 2) := by decide +kernel
theorem dX7_isSame_293 : decode cX7_isSame 293 = .ok (.iaload, 1) := by decide +kernel
theorem dX7_isSame_294 : decode cX7_isSame 294 = .ok (.if_icmp .eq 5, 3) := by decide +kernel
theorem dX7_isSame_297 : decode cX7_isSame 297 = .ok (.iconst 0, 1) := by decide +kernel
theorem dX7_isSame_298 : decode cX7_isSame 298 = .ok (.ireturn, 1) := by decide +kernel
theorem dX7_isSame_299 : decode cX7_isSame 299 = .ok (.iinc 6 1, 3) := by decide +kernel
theorem dX7_isSame_302 : decode cX7_isSame 302 = .ok (.goto (-26), 3) := by decide +kernel
theorem dX7_isSame_305 : decode cX7_isSame 305 = .ok (.iinc 2 1, 3) := by decide +kernel
theorem dX7_isSame_308 : decode cX7_isSame 308 = .ok (.goto (-160), 3) := by decide +kernel
theorem dX7_isSame_311 : decode cX7_isSame 311 = .ok (.iconst 0, 1) := by decide +kernel
theorem dX7_isSame_312 : decode cX7_isSame 312 = .ok (.istore_n 2, 1) := by decide +kernel
theorem dX7_isSame_313 : decode cX7_isSame 313 = .ok (.iconst (-1), 1) := by decide +kernel
theorem dX7_isSame_314 : decode cX7_isSame 314 = .ok (.istore_n 3, 1) := by decide +kernel
theorem dX7_isSame_315 : decode cX7_isSame 315 = .ok (.aload_n 0, 1) := by decide +kernel
theorem dX7_isSame_316 : decode cX7_isSame 316 = .ok (.getfield 24, 3) := by decide +kernel
theorem dX7_isSame_319 : decode cX7_isSame 319 = .ok (.arraylength, 1) := by decide +kernel
theorem dX7_isSame_320 : decode cX7_isSame 320 = .ok (.iconst 1, 1) := by decide +kernel
theorem dX7_isSame_321 : decode cX7_isSame 321 = .ok (.isub, 1) := by decide +kernel
theorem dX7_isSame_322 : decode cX7_isSame 322 = .ok (.istore 4, 2) := by decide +kernel
theorem dX7_isSame_324 : decode cX7_isSame 324 = .ok (.iload 4, 2) := by decide +kernel
theorem dX7_isSame_326 : decode cX7_isSame 326 = .ok (.ifCond .lt 280, 3) := by decide +kernel
theorem dX7_isSame_329 : decode cX7_isSame 329 = .ok (.aload_n 0, 1) := by decide +kernel
theorem dX7_isSame_330 : decode cX7_isSame 330 = .ok (.aload_n 0, 1) := by decide +kernel
theorem dX7_isSame_331 : decode cX7_isSame 331 = .ok (.getfield 24, 3) := by decide +kernel
theorem dX7_isSame_334 : decode cX7_isSame 334 = .ok (.iload 4, 2) := by decide +kernel
theorem dX7_isSame_336 : decode cX7_isSame 336 = .ok (.aaload, 1) := by decide +kernel
theorem dX7_isSame_337 : decode cX7_isSame 337 = .ok (.invokevirtual 40, 3) := by decide +kernel
theorem dX7_isSame_340 : decode cX7_isSame 340 = .ok (.astore 5, 2) := by decide +kernel
theorem dX7_isSame_342 : decode cX7_isSame 342 = .ok (.iconst 0, 1) := by decide +kernel
theorem dX7_isSame_343 : decode cX7_isSame 343 = .ok (.istore 6, 2) := by decide +kernel
theorem dX7_isSame_345 : decode cX7_isSame 345 = .ok (.iconst 0, 1) := by decide +kernel
theorem dX7_isSame_346 : decode cX7_isSame 346 = .ok (.istore 7, 2) := by decide +kernel
theorem dX7_isSame_348 : decode cX7_isSame 348 = .ok (.aload 5, 2) := by decide +kernel
theorem dX7_isSame_350 : decode cX7_isSame 350 = .ok (.astore 8, 2) := by decide +kernel
theorem dX7_isSame_352 : decode cX7_isSame 352 = .ok (.aload 8, 2) := by decide +kernel
theorem dX7_isSame_354 : decode cX7_isSame 354 = .ok (.arraylength, 1) := by decide +kernel
theorem dX7_isSame_355 : decode cX7_isSame 355 = .ok (.istore 9, 2) := by decide +kernel
theorem dX7_isSame_357 : decode cX7_isSame 357 = .ok (.iconst 0, 1) := by decide +kernel
theorem dX7_isSame_358 : decode cX7_isSame 358 = .ok (.istore 10, 2) := by decide +kernel
theorem dX7_isSame_360 : decode cX7_isSame 360 = .ok (.iload 10, 2) := by decide +kernel
theorem dX7_isSame_362 : decode cX7_isSame 362 = .ok (.iload 9, 2) := by decide +kernel
theorem dX7_isSame_364 : decode cX7_isSame 364 = .ok (.if_icmp .ge 76, 3) := by decide +kernel
theorem dX7_isSame_367 : decode cX7_isSame 367 = .ok (.aload 8, 2) := by decide +kernel
theorem dX7_isSame_369 : decode cX7_isSame 369 = .ok (.iload 10, 2) := by decide +kernel
theorem dX7_isSame_371 : decode cX7_isSame 371 = .ok (.aaload, 1) := by decide +kernel
theorem dX7_isSame_372 : decode cX7_isSame 372 = .ok (.astore 11, 2) := by decide +kernel
theorem dX7_isSame_374 : decode cX7_isSame 374 = .ok (.iload 6, 2) := by decide +kernel
theorem dX7_isSame_376 : decode cX7_isSame 376 = .ok (.aload_n 0, 1) := by decide +kernel
theorem dX7_isSame_377 : decode cX7_isSame 377 = .ok (.getfield 15, 3) := by decide +kernel
theorem dX7_isSame_380 : decode cX7_isSame 380 = .ok (.aload 11, 2) := by decide +kernel
theorem dX7_isSame_382 : decode cX7_isSame 382 = .ok (.iconst 1, 1) := by decide +kernel
theorem dX7_isSame_383 : decode cX7_isSame 383 = .ok (.iaload, 1) := by decide +kernel
theorem dX7_isSame_384 : decode cX7_isSame 384 = .ok (.aaload, 1) := by decide +kernel
theorem dX7_isSame_385 : decode cX7_isSame 385 = .ok (.aload 11, 2) := by decide +kernel
theorem dX7_isSame_387 : decode cX7_isSame 387 = .ok (.iconst 0, 1) := by decide +kernel
theorem dX7_isSame_388 : decode cX7_isSame 388 = .ok (.iaload, 1) := by decide +kernel
theorem dX7_isSame_389 : decode cX7_isSame 389 = .ok (.aaload, 1) := by decide +kernel
theorem dX7_isSame_390 : decode cX7_isSame 390 = .ok (.iconst 0, 1) := by decide +kernel
theorem dX7_isSame_391 : decode cX7_isSame 391 = .ok (.iaload, 1) := by decide +kernel
theorem dX7_isSame_392 : decode cX7_isSame 392 = .ok (.iconst 1, 1) := by decide +kernel
theorem dX7_isSame_393 : decode cX7_isSame 393 = .ok (.if_icmp .ne 7, 3) := by decide +kernel
theorem dX7_isSame_396 : decode cX7_isSame 396 = .ok (.iconst 1, 1) := by decide +kernel
theorem dX7_isSame_397 : decode cX7_isSame 397 = .ok (.goto 4, 3) := by decide +kernel
theorem dX7_isSame_400 : decode cX7_isSame 400 = .ok (.iconst 0, 1) := by decide +kernel
theorem dX7_isSame_401 : decode cX7_isSame 401 = .ok (.iadd, 1) := by decide +kernel
theorem dX7_isSame_402 : decode cX7_isSame 402 = .ok (.istore 6, 2) := by decide +kernel
theorem dX7_isSame_404 : decode cX7_isSame 404 = .ok (.iload 7, 2) := by decide +kernel
theorem dX7_isSame_406 : decode cX7_isSame 406 = .ok (.aload_n 0, 1) := by decide +kernel
theorem dX7_isSame_407 : decode cX7_isSame 407 = .ok (.getfield 15, 3) := by decide +kernel
theorem dX7_isSame_410 : decode cX7_isSame 410 = .ok (.aload 11, 2) := by decide +kernel
theorem dX7_isSame_412 : decode cX7_isSame 412 = .ok (.iconst 1, 1) := by decide +kernel
theorem dX7_isSame_413 : decode cX7_isSame 413 = .ok (.iaload, 1) := by decide +kernel
theorem dX7_isSame_414 : decode cX7_isSame 414 = .ok (.aaload, 1) := by decide +kernel
theorem dX7_isSame_415 : decode cX7_isSame 415 = .ok (.aload 11, 2) := by decide +kernel
theorem dX7_isSame_417 : decode cX7_isSame 417 = .ok (.iconst 0, 1) := by decide +kernel
theorem dX7_isSame_418 : decode cX7_isSame 418 = .ok (.iaload, 1) := by decide +kernel
theorem dX7_isSame_419 : decode cX7_isSame 419 = .ok (.aaload, 1) := by decide +kernel
theorem dX7_isSame_420 : decode cX7_isSame 420 = .ok (.iconst 0, 1) := by decide +kernel
theorem dX7_isSame_421 : decode cX7_isSame 421 = .ok (.iaload, 1) := by decide +kernel
theorem dX7_isSame_422 : decode cX7_isSame 422 = .ok (.iconst 2, 1) := by decide +kernel
theorem dX7_isSame_423 : decode cX7_isSame 423 = .ok (.if_icmp .ne 7, 3) := by decide +kernel
theorem dX7_isSame_426 : decode cX7_isSame 426 = .ok (.iconst 1, 1) := by decide +kernel
theorem dX7_isSame_427 : decode cX7_isSame 427 = .ok (.goto 4, 3) := by decide +kernel
theorem dX7_isSame_430 : decode cX7_isSame 430 = .ok (.iconst 0, 1) := by decide +kernel
theorem dX7_isSame_431 : decode cX7_isSame 431 = .ok (.iadd, 1) := by decide +kernel
theorem dX7_isSame_432 : decode cX7_isSame 432 = .ok (.istore 7, 2) := by decide +kernel
theorem dX7_isSame_434 : decode cX7_isSame 434 = .ok (.iinc 10 1, 3) := by decide +kernel
theorem dX7_isSame_437 : decode cX7_isSame 437 = .ok (.goto (-77), 3) := by decide +kernel
theorem dX7_isSame_440 : decode cX7_isSame 440 = .ok (.iconst 0, 1) := by decide +kernel
theorem dX7_isSame_441 : decode cX7_isSame 441 = .ok (.istore 8, 2) := by decide +kernel
theorem dX7_isSame_443 : decode cX7_isSame 443 = .ok (.aload_n 0, 1) := by decide +kernel
theorem dX7_isSame_444 : decode cX7_isSame 444 = .ok (.getfield 27, 3) := by decide +kernel
theorem dX7_isSame_447 : decode cX7_isSame 447 = .ok (.astore 9, 2) := by decide +kernel
theorem dX7_isSame_449 : decode cX7_isSame 449 = .ok (.aload 9, 2) := by decide +kernel
theorem dX7_isSame_451 : decode cX7_isSame 451 = .ok (.arraylength, 1) := by decide +kernel
theorem dX7_isSame_452 : decode cX7_isSame 452 = .ok (.istore 10, 2) := by decide +kernel
theorem dX7_isSame_454 : decode cX7_isSame 454 = .ok (.iconst 0, 1) := by decide +kernel
theorem dX7_isSame_455 : decode cX7_isSame 455 = .ok (.istore 11, 2) := by decide +kernel
theorem dX7_isSame_457 : decode cX7_isSame 457 = .ok (.iload 11, 2) := by decide +kernel
theorem dX7_isSame_459 : decode cX7_isSame 459 = .ok (.iload 10, 2) := by decide +kernel
theorem dX7_isSame_461 : decode cX7_isSame 461 = .ok (.if_icmp .ge 35, 3) := by decide +kernel
theorem dX7_isSame_464 : decode cX7_isSame 464 = .ok (.aload 9, 2) := by decide +kernel
theorem dX7_isSame_466 : decode cX7_isSame 466 = .ok (.iload 11, 2) := by decide +kernel
theorem dX7_isSame_468 : decode cX7_isSame 468 = .ok (.aaload, 1) := by decide +kernel
theorem dX7_isSame_469 : decode cX7_isSame 469 = .ok (.astore 12, 2) := by decide +kernel
theorem dX7_isSame_471 : decode cX7_isSame 471 = .ok (.iload 8, 2) := by decide +kernel
theorem dX7_isSame_473 : decode cX7_isSame 473 = .ok (.aload 12, 2) := by decide +kernel
theorem dX7_isSame_475 : decode cX7_isSame 475 = .ok (.iconst 0, 1) := by decide +kernel
theorem dX7_isSame_476 : decode cX7_isSame 476 = .ok (.iaload, 1) := by decide +kernel
theorem dX7_isSame_477 : decode cX7_isSame 477 = .ok (.iload 4, 2) := by decide +kernel
theorem dX7_isSame_479 : decode cX7_isSame 479 = .ok (.if_icmp .ne 7, 3) := by decide +kernel
theorem dX7_isSame_482 : decode cX7_isSame 482 = .ok (.iconst 1, 1) := by decide +kernel
theorem dX7_isSame_483 : decode cX7_isSame 483 = .ok (.goto 4, 3) := by decide +kernel
theorem dX7_isSame_486 : decode cX7_isSame 486 = .ok (.iconst 0, 1) := by decide +kernel
theorem dX7_isSame_487 : decode cX7_isSame 487 = .ok (.iadd, 1) := by decide +kernel
theorem dX7_isSame_488 : decode cX7_isSame 488 = .ok (.istore 8, 2) := by decide +kernel
theorem dX7_isSame_490 : decode cX7_isSame 490 = .ok (.iinc 11 1, 3) := by decide +kernel
theorem dX7_isSame_493 : decode cX7_isSame 493 = .ok (.goto (-36), 3) := by decide +kernel
theorem dX7_isSame_496 : decode cX7_isSame 496 = .ok (.iconst 5, 1) := by decide +kernel
theorem dX7_isSame_497 : decode cX7_isSame 497 = .ok (.newarray .int, 2) := by decide +kernel
theorem dX7_isSame_499 : decode cX7_isSame 499 = .ok (.dup, 1) := by decide +kernel
theorem dX7_isSame_500 : decode cX7_isSame 500 = .ok (.iconst 0, 1) := by decide +kernel
theorem dX7_isSame_501 : decode cX7_isSame 501 = .ok (.aload 5, 2) := by decide +kernel
theorem dX7_isSame_503 : decode cX7_isSame 503 = .ok (.arraylength, 1) := by decide +kernel
theorem dX7_isSame_504 : decode cX7_isSame 504 = .ok (.iastore, 1) := by decide +kernel
theorem dX7_isSame_505 : decode cX7_isSame 505 = .ok (.dup, 1) := by decide +kernel
theorem dX7_isSame_506 : decode cX7_isSame 506 = .ok (.iconst 1, 1) := by decide +kernel
theorem dX7_isSame_507 : decode cX7_isSame 507 = .ok (.iload 6, 2) := by decide +kernel
theorem dX7_isSame_509 : decode cX7_isSame 509 = .ok (.iastore, 1) := by decide +kernel
theorem dX7_isSame_510 : decode cX7_isSame 510 = .ok (.dup, 1) := by decide +kernel
theorem dX7_isSame_511 : decode cX7_isSame 511 = .ok (.iconst 2, 1) := by decide +kernel
theorem dX7_isSame_512 : decode cX7_isSame 512 = .ok (.iload 7, 2) := by decide +kernel
theorem dX7_isSame_514 : decode cX7_isSame 514 = .ok (.iastore, 1) := by decide +kernel
theorem dX7_isSame_515 : decode cX7_isSame 515 = .ok (.dup, 1) := by decide +kernel
theorem dX7_isSame_516 : decode cX7_isSame 516 = .ok (.iconst 3, 1) := by decide +kernel
theorem dX7_isSame_517 : decode cX7_isSame 517 = .ok (.aload_n 0, 1) := by decide +kernel
theorem dX7_isSame_518 : decode cX7_isSame 518 = .ok (.aload_n 0, 1) := by decide +kernel
theorem dX7_isSame_519 : decode cX7_isSame 519 = .ok (.getfield 24, 3) := by decide +kernel
theorem dX7_isSame_522 : decode cX7_isSame 522 = .ok (.iload 4, 2) := by decide +kernel
theorem dX7_isSame_524 : decode cX7_isSame 524 = .ok (.aaload, 1) := by decide +kernel
theorem dX7_isSame_525 : decode cX7_isSame 525 = .ok (.invokevirtual 55, 3) := by decide +kernel
theorem dX7_isSame_528 : decode cX7_isSame 528 = .ok (.iastore, 1) := by decide +kernel
theorem dX7_isSame_529 : decode cX7_isSame 529 = .ok (.dup, 1) := by decide +kernel
theorem dX7_isSame_530 : decode cX7_isSame 530 = .ok (.iconst 4, 1) := by decide +kernel
theorem dX7_isSame_531 : decode cX7_isSame 531 = .ok (.iload 8, 2) := by decide +kernel
theorem dX7_isSame_533 : decode cX7_isSame 533 = .ok (.iastore, 1) := by decide +kernel
theorem dX7_isSame_534 : decode cX7_isSame 534 = .ok (.astore 9, 2) := by decide +kernel
theorem dX7_isSame_536 : decode cX7_isSame 536 = .ok (.iconst 0, 1) := by decide +kernel
theorem dX7_isSame_537 : decode cX7_isSame 537 = .ok (.istore 10, 2) := by decide +kernel
theorem dX7_isSame_539 : decode cX7_isSame 539 = .ok (.iload 10, 2) := by decide +kernel
theorem dX7_isSame_541 : decode cX7_isSame 541 = .ok (.iconst 5, 1) := by decide +kernel
theorem dX7_isSame_542 : decode cX7_isSame 542 = .ok (.if_icmp .ge 27, 3) := by decide +kernel
theorem dX7_isSame_545 : decode cX7_isSame 545 = .ok (.aload_n 1, 1) := by decide +kernel
theorem dX7_isSame_546 : decode cX7_isSame 546 = .ok (.iload 4, 2) := by decide +kernel
theorem dX7_isSame_548 : decode cX7_isSame 548 = .ok (.iload 10, 2) := by decide +kernel
theorem dX7_isSame_550 : decode cX7_isSame 550 = .ok (.invokevirtual 77, 3) := by decide +kernel
theorem dX7_isSame_553 : decode cX7_isSame 553 = .ok (.aload 9, 2) := by decide +kernel
theorem dX7_isSame_555 : decode cX7_isSame 555 = .ok (.iload 10, 2) := by decide +kernel
theorem dX7_isSame_557 : decode cX7_isSame 557 = .ok (.iaload, 1) := by decide +kernel
theorem dX7_isSame_558 : decode cX7_isSame 558 = .ok (.if_icmp .eq 5, 3) := by decide +kernel
theorem dX7_isSame_561 : decode cX7_isSame 561 = .ok (.iconst 0, 1) := by decide +kernel
theorem dX7_isSame_562 : decode cX7_isSame 562 = .ok (.ireturn, 1) := by decide +kernel
theorem dX7_isSame_563 : decode cX7_isSame 563 = .ok (.iinc 10 1, 3) := by decide +kernel
theorem dX7_isSame_566 : decode cX7_isSame 566 = .ok (.goto (-27), 3) := by decide +kernel
theorem dX7_isSame_569 : decode cX7_isSame 569 = .ok (.iload_n 2, 1) := by decide +kernel
theorem dX7_isSame_570 : decode cX7_isSame 570 = .ok (.aload 9, 2) := by decide +kernel
theorem dX7_isSame_572 : decode cX7_isSame 572 = .ok (.iconst 3, 1) := by decide +kernel
theorem dX7_isSame_573 : decode cX7_isSame 573 = .ok (.iaload, 1) := by decide +kernel
theorem dX7_isSame_574 : decode cX7_isSame 574 = .ok (.iadd, 1) := by decide +kernel
theorem dX7_isSame_575 : decode cX7_isSame 575 = .ok (.istore_n 2, 1) := by decide +kernel
theorem dX7_isSame_576 : decode cX7_isSame 576 = .ok (.iload_n 3, 1) := by decide +kernel
theorem dX7_isSame_577 : decode cX7_isSame 577 = .ok (.ifCond .lt 20, 3) := by decide +kernel
theorem dX7_isSame_580 : decode cX7_isSame 580 = .ok (.aload 9, 2) := by decide +kernel
theorem dX7_isSame_582 : decode cX7_isSame 582 = .ok (.iconst 3, 1) := by decide +kernel
theorem dX7_isSame_583 : decode cX7_isSame 583 = .ok (.iaload, 1) := by decide +kernel
theorem dX7_isSame_584 : decode cX7_isSame 584 = .ok (.aload_n 0, 1) := by decide +kernel
theorem dX7_isSame_585 : decode cX7_isSame 585 = .ok (.aload_n 0, 1) := by decide +kernel
theorem dX7_isSame_586 : decode cX7_isSame 586 = .ok (.getfield 24, 3) := by decide +kernel
theorem dX7_isSame_589 : decode cX7_isSame 589 = .ok (.iload_n 3, 1) := by decide +kernel
theorem dX7_isSame_590 : decode cX7_isSame 590 = .ok (.aaload, 1) := by decide +kernel
theorem dX7_isSame_591 : decode cX7_isSame 591 = .ok (.invokevirtual 55, 3) := by decide +kernel
theorem dX7_isSame_594 : decode cX7_isSame 594 = .ok (.if_icmp .lt 6, 3) := by decide +kernel
theorem dX7_isSame_597 : decode cX7_isSame 597 = .ok (.iload 4, 2) := by decide +kernel
theorem dX7_isSame_599 : decode cX7_isSame 599 = .ok (.istore_n 3, 1) := by decide +kernel
theorem dX7_isSame_600 : decode cX7_isSame 600 = .ok (.iinc 4 (-1), 3) := by decide +kernel
theorem dX7_isSame_603 : decode cX7_isSame 603 = .ok (.goto (-279), 3) := by decide +kernel
theorem dX7_isSame_606 : decode cX7_isSame 606 = .ok (.iconst 0, 1) := by decide +kernel
theorem dX7_isSame_607 : decode cX7_isSame 607 = .ok (.istore 4, 2) := by decide +kernel
theorem dX7_isSame_609 : decode cX7_isSame 609 = .ok (.iload 4, 2) := by decide +kernel
theorem dX7_isSame_611 : decode cX7_isSame 611 = .ok (.aload_n 0, 1) := by decide +kernel
theorem dX7_isSame_612 : decode cX7_isSame 612 = .ok (.getfield 27, 3) := by decide +kernel
theorem dX7_isSame_615 : decode cX7_isSame 615 = .ok (.arraylength, 1) := by decide +kernel
theorem dX7_isSame_616 : decode cX7_isSame 616 = .ok (.if_icmp .ge 29, 3) := by decide +kernel
theorem dX7_isSame_619 : decode cX7_isSame 619 = .ok (.aload_n 1, 1) := by decide +kernel
theorem dX7_isSame_620 : decode cX7_isSame 620 = .ok (.iload 4, 2) := by decide +kernel
theorem dX7_isSame_622 : decode cX7_isSame 622 = .ok (.invokevirtual 80, 3) := by decide +kernel
theorem dX7_isSame_625 : decode cX7_isSame 625 = .ok (.aload_n 0, 1) := by decide +kernel
theorem dX7_isSame_626 : decode cX7_isSame 626 = .ok (.getfield 27, 3) := by decide +kernel
theorem dX7_isSame_629 : decode cX7_isSame 629 = .ok (.iload 4, 2) := by decide +kernel
theorem dX7_isSame_631 : decode cX7_isSame 631 = .ok (.aaload, 1) := by decide +kernel
theorem dX7_isSame_632 : decode cX7_isSame 632 = .ok (.iconst 1, 1) := by decide +kernel
theorem dX7_isSame_633 : decode cX7_isSame 633 = .ok (.iaload, 1) := by decide +kernel
theorem dX7_isSame_634 : decode cX7_isSame 634 = .ok (.if_icmp .eq 5, 3) := by decide +kernel
theorem dX7_isSame_637 : decode cX7_isSame 637 = .ok (.iconst 0, 1) := by decide +kernel
theorem dX7_isSame_638 : decode cX7_isSame 638 = .ok (.ireturn, 1) := by decide +kernel
theorem dX7_isSame_639 : decode cX7_isSame 639 = .ok (.iinc 4 1, 3) := by decide +kernel
theorem dX7_isSame_642 : decode cX7_isSame 642 = .ok (.goto (-33), 3) := by decide +kernel
theorem dX7_isSame_645 : decode cX7_isSame 645 = .ok (.aload_n 0, 1) := by decide +kernel
theorem dX7_isSame_646 : decode cX7_isSame 646 = .ok (.invokevirtual 84, 3) := by decide +kernel
theorem dX7_isSame_649 : decode cX7_isSame 649 = .ok (.astore 4, 2) := by decide +kernel
theorem dX7_isSame_651 : decode cX7_isSame 651 = .ok (.iconst 0, 1) := by decide +kernel
theorem dX7_isSame_652 : decode cX7_isSame 652 = .ok (.istore 5, 2) := by decide +kernel
theorem dX7_isSame_654 : decode cX7_isSame 654 = .ok (.iload 5, 2) := by decide +kernel
theorem dX7_isSame_656 : decode cX7_isSame 656 = .ok (.bipush 11, 2) := by decide +kernel
theorem dX7_isSame_658 : decode cX7_isSame 658 = .ok (.if_icmp .ge 25, 3) := by decide +kernel
theorem dX7_isSame_661 : decode cX7_isSame 661 = .ok (.aload_n 1, 1) := by decide +kernel
theorem dX7_isSame_662 : decode cX7_isSame 662 = .ok (.iload 5, 2) := by decide +kernel
theorem dX7_isSame_664 : decode cX7_isSame 664 = .ok (.invokevirtual 88, 3) := by decide +kernel
theorem dX7_isSame_667 : decode cX7_isSame 667 = .ok (.aload 4, 2) := by decide +kernel
theorem dX7_isSame_669 : decode cX7_isSame 669 = .ok (.iload 5, 2) := by decide +kernel
theorem dX7_isSame_671 : decode cX7_isSame 671 = .ok (.iaload, 1) := by decide +kernel
theorem dX7_isSame_672 : decode cX7_isSame 672 = .ok (.if_icmp .eq 5, 3) := by decide +kernel
theorem dX7_isSame_675 : decode cX7_isSame 675 = .ok (.iconst 0, 1) := by decide +kernel
theorem dX7_isSame_676 : decode cX7_isSame 676 = .ok (.ireturn, 1) := by decide +kernel
theorem dX7_isSame_677 : decode cX7_isSame 677 = .ok (.iinc 5 1, 3) := by decide +kernel
theorem dX7_isSame_680 : decode cX7_isSame 680 = .ok (.goto (-26), 3) := by decide +kernel
theorem dX7_isSame_683 : decode cX7_isSame 683 = .ok (.aload_n 1, 1) := by decide +kernel
theorem dX7_isSame_684 : decode cX7_isSame 684 = .ok (.invokevirtual 91, 3) := by decide +kernel
theorem dX7_isSame_687 : decode cX7_isSame 687 = .ok (.iload_n 3, 1) := by decide +kernel
theorem dX7_isSame_688 : decode cX7_isSame 688 = .ok (.if_icmp .ne 36, 3) := by decide +kernel
theorem dX7_isSame_691 : decode cX7_isSame 691 = .ok (.aload_n 1, 1) := by decide +kernel
theorem dX7_isSame_692 : decode cX7_isSame 692 = .ok (.invokevirtual 95, 3) := by decide +kernel
theorem dX7_isSame_695 : decode cX7_isSame 695 = .ok (.aload_n 0, 1) := by decide +kernel
theorem dX7_isSame_696 : decode cX7_isSame 696 = .ok (.getfield 24, 3) := by decide +kernel
theorem dX7_isSame_699 : decode cX7_isSame 699 = .ok (.arraylength, 1) := by decide +kernel
theorem dX7_isSame_700 : decode cX7_isSame 700 = .ok (.ifCond .ne 7, 3) := by decide +kernel
theorem dX7_isSame_703 : decode cX7_isSame 703 = .ok (.dconst 0, 1) := by decide +kernel
theorem dX7_isSame_704 : decode cX7_isSame 704 = .ok (.goto 12, 3) := by decide +kernel
theorem dX7_isSame_707 : decode cX7_isSame 707 = .ok (.iload_n 2, 1) := by decide +kernel
theorem dX7_isSame_708 : decode cX7_isSame 708 = .ok (.i2d, 1) := by decide +kernel
theorem dX7_isSame_709 : decode cX7_isSame 709 = .ok (.aload_n 0, 1) := by decide +kernel
theorem dX7_isSame_710 : decode cX7_isSame 710 = .ok (.getfield 24, 3) := by decide +kernel
theorem dX7_isSame_713 : decode cX7_isSame 713 = .ok (.arraylength, 1) := by decide +kernel
theorem dX7_isSame_714 : decode cX7_isSame 714 = .ok (.i2d, 1) := by decide +kernel
theorem dX7_isSame_715 : decode cX7_isSame 715 = .ok (.ddiv, 1) := by decide +kernel
theorem dX7_isSame_716 : decode cX7_isSame 716 = .ok (.dcmp .l, 1) := by decide +kernel
theorem dX7_isSame_717 : decode cX7_isSame 717 = .ok (.ifCond .ne 7, 3) := by decide +kernel
theorem dX7_isSame_720 : decode cX7_isSame 720 = .ok (.iconst 1, 1) := by decide +kernel
theorem dX7_isSame_721 : decode cX7_isSame 721 = .ok (.goto 4, 3) := by decide +kernel
theorem dX7_isSame_724 : decode cX7_isSame 724 = .ok (.iconst 0, 1) := by decide +kernel
theorem dX7_isSame_725 : decode cX7_isSame 725 = .ok (.ireturn, 1) := by decide +kernel
end
section
theorem dL_below_0 : decode cL_below 0 = .ok (.iload_n 0, 1) := by decide +kernel
theorem dL_below_1 : decode cL_below 1 = .ok (.ldc 7, 2) := by decide +kernel
theorem dL_below_3 : decode cL_below 3 = .ok (.iand, 1) := by decide +kernel
theorem dL_below_4 : decode cL_below 4 = .ok (.iload_n 1, 1) := by decide +kernel
theorem dL_below_5 : decode cL_below 5 = .ok (.irem, 1) := by decide +kernel
theorem dL_below_6 : decode cL_below 6 = .ok (.ireturn, 1) := by decide +kernel
theorem dL_cell_0 : decode cL_cell 0 = .ok (.iload_n 1, 1) := by decide +kernel
theorem dL_cell_1 : decode cL_cell 1 = .ok (.aload_n 0, 1) := by decide +kernel
theorem dL_cell_2 : decode cL_cell 2 = .ok (.arraylength, 1) := by decide +kernel
theorem dL_cell_3 : decode cL_cell 3 = .ok (.if_icmp .ge 9, 3) := by decide +kernel
theorem dL_cell_6 : decode cL_cell 6 = .ok (.aload_n 0, 1) := by decide +kernel
theorem dL_cell_7 : decode cL_cell 7 = .ok (.iload_n 1, 1) := by decide +kernel
theorem dL_cell_8 : decode cL_cell 8 = .ok (.iaload, 1) := by decide +kernel
theorem dL_cell_9 : decode cL_cell 9 = .ok (.goto 9, 3) := by decide +kernel
theorem dL_cell_12 : decode cL_cell 12 = .ok (.ldc 8, 2) := by decide +kernel
theorem dL_cell_14 : decode cL_cell 14 = .ok (.iload_n 1, 1) := by decide +kernel
theorem dL_cell_15 : decode cL_cell 15 = .ok (.iconst 3, 1) := by decide +kernel
theorem dL_cell_16 : decode cL_cell 16 = .ok (.iadd, 1) := by decide +kernel
theorem dL_cell_17 : decode cL_cell 17 = .ok (.imul, 1) := by decide +kernel
theorem dL_cell_18 : decode cL_cell 18 = .ok (.ireturn, 1) := by decide +kernel
set_option maxRecDepth 20000 in
theorem ggL_act_L_below : GoodIn wsL_act wsL_below := goodIn_r _ [11, 12] (by decide +kernel) (by decide +kernel)
set_option maxRecDepth 20000 in
theorem gL_act_L_below : GoodIn wsL_act (va_wsS RL 9 yL_below wsL_below) := goodIn_app (goodIn_of _ (by decide +kernel)) ggL_act_L_below
set_option maxRecDepth 20000 in
theorem ggL_act_X6_rock : GoodIn wsL_act wsX6_rock := goodIn_ca (goodIn_ca (goodIn_ca (goodIn_r _ [17, 18, 19, 20, 21, 22, 23, 16, 24, 25, 26, 27, 28, 29, 30, 31, 32, 33, 34, 35, 36, 37, 38, 39, 40, 41, 42, 43, 44, 45, 46, 47, 48, 49, 50, 51, 52, 53, 54, 55, 56, 57, 58, 59, 60, 61, 62, 63, 64, 65, 66, 67, 68, 69, 70, 71, 282, 283, 284, 285, 286, 287, 288, 289, 290, 291, 292, 293, 294, 295, 296, 297, 298, 299, 300, 301] (by decide +kernel) (by decide +kernel)) (goodIn_sub (fun _ h => List.mem_cons_of_mem _ (List.mem_append_left _ (List.mem_append_left _ (List.mem_append_right _ h)))) (by decide +kernel))) (goodIn_sub (fun _ h => List.mem_cons_of_mem _ (List.mem_append_left _ (List.mem_append_right _ h))) (by decide +kernel))) (goodIn_sub (fun _ h => List.mem_cons_of_mem _ (List.mem_append_right _ h)) (by decide +kernel))
set_option maxRecDepth 20000 in
theorem gL_act_X6_rock : GoodIn wsL_act (wsV RL 25 RX6 yX6_rock wsX6_rock) := goodIn_app (goodIn_of _ (by decide +kernel)) ggL_act_X6_rock
set_option maxRecDepth 20000 in
theorem ggL_act_X6_dig : GoodIn wsL_act wsX6_dig := goodIn_ca (goodIn_ca (goodIn_r _ [75, 18, 21, 22, 23, 16, 24, 25, 26, 27, 28, 29, 30, 37, 38, 39, 40, 41, 42, 43, 44, 45, 46, 47, 48, 49, 50, 51, 52, 53, 54, 55, 56, 57, 58, 59, 60, 61, 19, 20, 76, 77, 78, 79, 66, 67, 68, 69, 70, 71, 80, 81, 82, 83, 84, 85, 86, 87, 88, 89, 90, 91, 92, 93, 94, 95, 96, 97, 98, 99, 100, 101, 102, 103, 104, 105, 106, 107, 108, 109, 110, 111, 112, 113, 114, 115, 116, 117, 118, 119, 120, 282, 283, 284, 285, 286, 287, 288, 293, 294, 295, 296, 297, 298, 299, 300, 301, 289, 290, 291, 292] (by decide +kernel) (by decide +kernel)) (goodIn_sub (fun _ h => List.mem_cons_of_mem _ (List.mem_append_left _ (List.mem_append_left _ (List.mem_append_right _ h)))) (by decide +kernel))) (goodIn_sub (fun _ h => List.mem_cons_of_mem _ (List.mem_append_right _ h)) (by decide +kernel))
set_option maxRecDepth 20000 in
theorem gL_act_X6_dig : GoodIn wsL_act (wsV RL 33 RX6 yX6_dig wsX6_dig) := goodIn_app (goodIn_of _ (by decide +kernel)) ggL_act_X6_dig
set_option maxRecDepth 20000 in
theorem ggL_act_X7_pond : GoodIn wsL_act wsX7_pond := goodIn_r _ [125, 126, 127, 128, 276, 277, 278, 279, 280, 281] (by decide +kernel) (by decide +kernel)
set_option maxRecDepth 20000 in
theorem gL_act_X7_pond : GoodIn wsL_act (wsV RL 36 RX7 yX7_pond wsX7_pond) := goodIn_app (goodIn_of _ (by decide +kernel)) ggL_act_X7_pond
set_option maxRecDepth 20000 in
theorem ggL_act_X7_many : GoodIn wsL_act wsX7_many := goodIn_r _ [131] (by decide +kernel) (by decide +kernel)
set_option maxRecDepth 20000 in
theorem gL_act_X7_many : GoodIn wsL_act (va_wsS RL 40 yX7_many wsX7_many) := goodIn_app (goodIn_of _ (by decide +kernel)) ggL_act_X7_many
set_option maxRecDepth 20000 in
theorem ggL_act_X6_wall : GoodIn wsL_act wsX6_wall := goodIn_ca (goodIn_ca (goodIn_r _ [135, 18, 19, 20, 21, 22, 23, 16, 24, 25, 26, 27, 28, 29, 30, 37, 38, 39, 40, 41, 42, 43, 44, 45, 46, 47, 48, 49, 50, 51, 52, 53, 54, 55, 56, 57, 58, 59, 60, 61, 136, 137, 138, 139, 66, 67, 68, 69, 70, 71, 282, 283, 284, 285, 286, 287, 288, 289, 290, 291, 292, 293, 294, 295, 296, 297, 298, 299, 300, 301] (by decide +kernel) (by decide +kernel)) (goodIn_sub (fun _ h => List.mem_cons_of_mem _ (List.mem_append_left _ (List.mem_append_left _ (List.mem_append_right _ h)))) (by decide +kernel))) (goodIn_sub (fun _ h => List.mem_cons_of_mem _ (List.mem_append_right _ h)) (by decide +kernel))
set_option maxRecDepth 20000 in
theorem gL_act_X6_wall : GoodIn wsL_act (wsV RL 44 RX6 yX6_wall wsX6_wall) := goodIn_app (goodIn_of _ (by decide +kernel)) ggL_act_X6_wall
set_option maxRecDepth 20000 in
theorem ggL_act_X6_clear : GoodIn wsL_act wsX6_clear := goodIn_ca (goodIn_ca (goodIn_r _ [143, 44, 45, 18, 19, 20, 21, 22, 23, 16, 24, 25, 26, 27, 28, 29, 30, 37, 38, 39, 46, 47, 48, 49, 50, 51, 52, 53, 54, 55, 56, 57, 144, 145, 146, 147, 97, 148, 149, 150, 151, 71, 152, 153, 154, 155, 156, 157, 158, 159, 66, 67, 68, 69, 70, 80, 81, 82, 83, 84, 85, 86, 87, 88, 89, 90, 91, 92, 93, 94, 95, 96, 98, 99, 100, 101, 102, 103, 104, 105, 106, 107, 108, 109, 110, 111, 112, 282, 283, 284, 285, 286, 287, 288, 289, 290, 291, 292, 293, 294, 295, 296, 297, 298, 299, 300, 301] (by decide +kernel) (by decide +kernel)) (goodIn_sub (fun _ h => List.mem_cons_of_mem _ (List.mem_append_right _ h)) (by decide +kernel))) (goodIn_sub (fun _ h => List.mem_cons_of_mem _ (List.mem_append_left _ (List.mem_append_left _ (List.mem_append_right _ h)))) (by decide +kernel))
set_option maxRecDepth 20000 in
theorem gL_act_X6_clear : GoodIn wsL_act (wsV RL 51 RX6 yX6_clear wsX6_clear) := goodIn_app (goodIn_of _ (by decide +kernel)) ggL_act_X6_clear
set_option maxRecDepth 20000 in
theorem ggL_act_X6_carp : GoodIn wsL_act wsX6_carp := goodIn_ca (goodIn_ca (goodIn_r _ [163, 44, 45, 18, 164, 165, 19, 21, 22, 23, 16, 24, 25, 26, 27, 28, 29, 30, 37, 38, 39, 166, 157, 158, 159, 50, 51, 52, 53, 54, 55, 56, 57, 58, 59, 60, 61, 20, 167, 168, 169, 170, 171, 172, 173, 174, 175, 176, 177, 178, 179, 180, 181, 182, 183, 184, 185, 186, 187, 188, 189, 190, 191, 97, 95, 117, 118, 119, 120, 84, 282, 283, 284, 285, 286, 287, 288, 302, 303, 304, 293, 294, 295, 296, 297, 298, 299, 300, 301, 289, 290, 291, 292] (by decide +kernel) (by decide +kernel)) (goodIn_sub (fun _ h => List.mem_cons_of_mem _ (List.mem_append_right _ h)) (by decide +kernel))) (goodIn_sub (fun _ h => List.mem_cons_of_mem _ (List.mem_append_left _ (List.mem_append_left _ (List.mem_append_right _ h)))) (by decide +kernel))
set_option maxRecDepth 20000 in
theorem gL_act_X6_carp : GoodIn wsL_act (wsV RL 54 RX6 yX6_carp wsX6_carp) := goodIn_app (goodIn_of _ (by decide +kernel)) ggL_act_X6_carp
set_option maxRecDepth 20000 in
theorem ggL_act_X7_more : GoodIn wsL_act wsX7_more := goodIn_r _ [194, 195] (by decide +kernel) (by decide +kernel)
set_option maxRecDepth 20000 in
theorem gL_act_X7_more : GoodIn wsL_act (va_wsS RL 57 yX7_more wsX7_more) := goodIn_app (goodIn_of _ (by decide +kernel)) ggL_act_X7_more
set_option maxRecDepth 20000 in
theorem ggL_act_X6_sell : GoodIn wsL_act wsX6_sell := goodIn_ca (goodIn_ca (goodIn_r _ [199, 44, 45, 164, 18, 19, 20, 200, 201, 202, 16, 203, 25, 26, 165, 204, 205, 206, 170, 207, 174, 208, 209, 210, 211, 172, 212, 213, 214, 215, 216, 217, 218, 219, 173, 188, 189, 190, 29, 191, 97, 95, 117, 118, 119, 120, 84, 55, 56, 57, 220, 221, 222, 178, 223, 180, 282, 283, 284, 285, 286, 287, 288, 289, 290, 291, 292, 302, 303, 304, 293, 294, 295, 296, 297, 298, 299, 300, 301] (by decide +kernel) (by decide +kernel)) (goodIn_sub (fun _ h => List.mem_cons_of_mem _ (List.mem_append_right _ h)) (by decide +kernel))) (goodIn_sub (fun _ h => List.mem_cons_of_mem _ (List.mem_append_left _ (List.mem_append_left _ (List.mem_append_right _ h)))) (by decide +kernel))
set_option maxRecDepth 20000 in
theorem gL_act_X6_sell : GoodIn wsL_act (wsV RL 61 RX6 yX6_sell wsX6_sell) := goodIn_app (goodIn_of _ (by decide +kernel)) ggL_act_X6_sell
set_option maxRecDepth 20000 in
theorem ggL_act_X6_gate : GoodIn wsL_act wsX6_gate := goodIn_ca (goodIn_ca (goodIn_ca (goodIn_r _ [227, 35, 36, 44, 45, 228, 229, 21, 22, 23, 16, 24, 25, 26, 27, 28, 29, 30, 230, 109, 110, 37, 38, 39, 231, 232, 233, 234, 235, 236, 237, 238, 282, 283, 284, 285, 286, 287, 288, 305, 306, 307] (by decide +kernel) (by decide +kernel)) (goodIn_sub (fun _ h => List.mem_cons_of_mem _ (List.mem_append_left _ (List.mem_append_right _ h))) (by decide +kernel))) (goodIn_sub (fun _ h => List.mem_cons_of_mem _ (List.mem_append_right _ h)) (by decide +kernel))) (goodIn_sub (fun _ h => List.mem_cons_of_mem _ (List.mem_append_left _ (List.mem_append_left _ (List.mem_append_right _ h)))) (by decide +kernel))
set_option maxRecDepth 20000 in
theorem gL_act_X6_gate : GoodIn wsL_act (wsV RL 68 RX6 yX6_gate wsX6_gate) := goodIn_app (goodIn_of _ (by decide +kernel)) ggL_act_X6_gate
set_option maxRecDepth 20000 in
theorem ggL_act_X6_invite : GoodIn wsL_act wsX6_invite := goodIn_ca (goodIn_ca (goodIn_r _ [242, 44, 45, 243, 244, 245, 246, 247, 16, 248, 25, 26, 228, 229, 249, 250, 251, 252, 253, 254, 255, 282, 283, 284, 285, 286, 287, 288, 308, 309, 305, 306, 307] (by decide +kernel) (by decide +kernel)) (goodIn_sub (fun _ h => List.mem_cons_of_mem _ (List.mem_append_right _ h)) (by decide +kernel))) (goodIn_sub (fun _ h => List.mem_cons_of_mem _ (List.mem_append_left _ (List.mem_append_left _ (List.mem_append_right _ h)))) (by decide +kernel))
set_option maxRecDepth 20000 in
theorem gL_act_X6_invite : GoodIn wsL_act (wsV RL 75 RX6 yX6_invite wsX6_invite) := goodIn_app (goodIn_of _ (by decide +kernel)) ggL_act_X6_invite
set_option maxRecDepth 20000 in
theorem ggL_act_X6_lead : GoodIn wsL_act wsX6_lead := goodIn_ca (goodIn_r _ [259, 243, 260, 261, 262, 16, 263, 25, 26, 244, 245, 246, 247, 248, 228, 229, 264, 265, 266, 252, 267, 255, 268, 269, 270, 271, 254, 272, 273, 274, 275, 282, 283, 284, 285, 286, 287, 288, 308, 309, 305, 306, 307] (by decide +kernel) (by decide +kernel)) (goodIn_sub (fun _ h => List.mem_cons_of_mem _ (List.mem_append_left _ (List.mem_append_left _ (List.mem_append_right _ h)))) (by decide +kernel))
set_option maxRecDepth 20000 in
theorem gL_act_X6_lead : GoodIn wsL_act (wsV RL 78 RX6 yX6_lead wsX6_lead) := goodIn_app (goodIn_of _ (by decide +kernel)) ggL_act_X6_lead
theorem dL_act_0 : decode cL_act 0 = .ok (.iload_n 2, 1) := by decide +kernel
theorem dL_act_1 : decode cL_act 1 = .ok (.bipush 9, 2) := by decide +kernel
theorem dL_act_3 : decode cL_act 3 = .ok (.ishr, 1) := by decide +kernel
theorem dL_act_4 : decode cL_act 4 = .ok (.iconst 2, 1) := by decide +kernel
theorem dL_act_5 : decode cL_act 5 = .ok (.invokestatic 9, 3) := by decide +kernel
theorem dL_act_8 : decode cL_act 8 = .ok (.ifCond .ne 14, 3) := by decide +kernel
theorem dL_act_11 : decode cL_act 11 = .ok (.iload_n 2, 1) := by decide +kernel
theorem dL_act_12 : decode cL_act 12 = .ok (.iconst 3, 1) := by decide +kernel
theorem dL_act_13 : decode cL_act 13 = .ok (.ishr, 1) := by decide +kernel
theorem dL_act_14 : decode cL_act 14 = .ok (.bipush 10, 2) := by decide +kernel
theorem dL_act_16 : decode cL_act 16 = .ok (.invokestatic 9, 3) := by decide +kernel
theorem dL_act_19 : decode cL_act 19 = .ok (.goto 12, 3) := by decide +kernel
theorem dL_act_22 : decode cL_act 22 = .ok (.iconst 3, 1) := by decide +kernel
theorem dL_act_23 : decode cL_act 23 = .ok (.iload_n 2, 1) := by decide +kernel
theorem dL_act_24 : decode cL_act 24 = .ok (.iconst 4, 1) := by decide +kernel
theorem dL_act_25 : decode cL_act 25 = .ok (.ishr, 1) := by decide +kernel
theorem dL_act_26 : decode cL_act 26 = .ok (.iconst 4, 1) := by decide +kernel
theorem dL_act_27 : decode cL_act 27 = .ok (.invokestatic 9, 3) := by decide +kernel
theorem dL_act_30 : decode cL_act 30 = .ok (.iadd, 1) := by decide +kernel
theorem dL_act_31 : decode cL_act 31 = .ok (.istore_n 3, 1) := by decide +kernel
theorem dL_act_32 : decode cL_act 32 = .ok (.iload_n 2, 1) := by decide +kernel
theorem dL_act_33 : decode cL_act 33 = .ok (.bipush 8, 2) := by decide +kernel
theorem dL_act_35 : decode cL_act 35 = .ok (.ishr, 1) := by decide +kernel
theorem dL_act_36 : decode cL_act 36 = .ok (.iconst 2, 1) := by decide +kernel
theorem dL_act_37 : decode cL_act 37 = .ok (.invokestatic 9, 3) := by decide +kernel
theorem dL_act_40 : decode cL_act 40 = .ok (.ifCond .ne 15, 3) := by decide +kernel
theorem dL_act_43 : decode cL_act 43 = .ok (.iload_n 2, 1) := by decide +kernel
theorem dL_act_44 : decode cL_act 44 = .ok (.bipush 6, 2) := by decide +kernel
theorem dL_act_46 : decode cL_act 46 = .ok (.ishr, 1) := by decide +kernel
theorem dL_act_47 : decode cL_act 47 = .ok (.bipush 7, 2) := by decide +kernel
theorem dL_act_49 : decode cL_act 49 = .ok (.invokestatic 9, 3) := by decide +kernel
theorem dL_act_52 : decode cL_act 52 = .ok (.goto 12, 3) := by decide +kernel
theorem dL_act_55 : decode cL_act 55 = .ok (.iconst 2, 1) := by decide +kernel
theorem dL_act_56 : decode cL_act 56 = .ok (.iload_n 2, 1) := by decide +kernel
theorem dL_act_57 : decode cL_act 57 = .ok (.iconst 5, 1) := by decide +kernel
theorem dL_act_58 : decode cL_act 58 = .ok (.ishr, 1) := by decide +kernel
theorem dL_act_59 : decode cL_act 59 = .ok (.iconst 3, 1) := by decide +kernel
theorem dL_act_60 : decode cL_act 60 = .ok (.invokestatic 9, 3) := by decide +kernel
theorem dL_act_63 : decode cL_act 63 = .ok (.iadd, 1) := by decide +kernel
theorem dL_act_64 : decode cL_act 64 = .ok (.istore 4, 2) := by decide +kernel
theorem dL_act_66 : decode cL_act 66 = .ok (.aload_n 1, 1) := by decide +kernel
theorem dL_act_67 : decode cL_act 67 = .ok (.getfield 15, 3) := by decide +kernel
theorem dL_act_70 : decode cL_act 70 = .ok (.iload 4, 2) := by decide +kernel
theorem dL_act_72 : decode cL_act 72 = .ok (.aaload, 1) := by decide +kernel
theorem dL_act_73 : decode cL_act 73 = .ok (.iload_n 3, 1) := by decide +kernel
theorem dL_act_74 : decode cL_act 74 = .ok (.aaload, 1) := by decide +kernel
theorem dL_act_75 : decode cL_act 75 = .ok (.astore 5, 2) := by decide +kernel
theorem dL_act_77 : decode cL_act 77 = .ok (.iload_n 2, 1) := by decide +kernel
theorem dL_act_78 : decode cL_act 78 = .ok (.bipush 15, 2) := by decide +kernel
theorem dL_act_80 : decode cL_act 80 = .ok (.invokestatic 9, 3) := by decide +kernel
theorem dL_act_83 : decode cL_act 83 = .ok (.tableswitch 994 0 13 #[69, 69, 224, 224, 224, 314, 397, 556, 556, 556, 681, 805, 805, 897], 69) := by decide +kernel
theorem dL_act_152 : decode cL_act 152 = .ok (.iload_n 2, 1) := by decide +kernel
theorem dL_act_153 : decode cL_act 153 = .ok (.iconst 4, 1) := by decide +kernel
theorem dL_act_154 : decode cL_act 154 = .ok (.ishr, 1) := by decide +kernel
theorem dL_act_155 : decode cL_act 155 = .ok (.bipush 6, 2) := by decide +kernel
theorem dL_act_157 : decode cL_act 157 = .ok (.invokestatic 9, 3) := by decide +kernel
theorem dL_act_160 : decode cL_act 160 = .ok (.istore 7, 2) := by decide +kernel
theorem dL_act_162 : decode cL_act 162 = .ok (.iconst 1, 1) := by decide +kernel
theorem dL_act_163 : decode cL_act 163 = .ok (.iload_n 2, 1) := by decide +kernel
theorem dL_act_164 : decode cL_act 164 = .ok (.bipush 7, 2) := by decide +kernel
theorem dL_act_166 : decode cL_act 166 = .ok (.ishr, 1) := by decide +kernel
theorem dL_act_167 : decode cL_act 167 = .ok (.iload_n 2, 1) := by decide +kernel
theorem dL_act_168 : decode cL_act 168 = .ok (.iconst 3, 1) := by decide +kernel
theorem dL_act_169 : decode cL_act 169 = .ok (.ishr, 1) := by decide +kernel
theorem dL_act_170 : decode cL_act 170 = .ok (.iconst 2, 1) := by decide +kernel
theorem dL_act_171 : decode cL_act 171 = .ok (.invokestatic 9, 3) := by decide +kernel
theorem dL_act_174 : decode cL_act 174 = .ok (.ifCond .ne 8, 3) := by decide +kernel
theorem dL_act_177 : decode cL_act 177 = .ok (.bipush 9, 2) := by decide +kernel
theorem dL_act_179 : decode cL_act 179 = .ok (.goto 4, 3) := by decide +kernel
theorem dL_act_182 : decode cL_act 182 = .ok (.iconst 4, 1) := by decide +kernel
theorem dL_act_183 : decode cL_act 183 = .ok (.invokestatic 9, 3) := by decide +kernel
theorem dL_act_186 : decode cL_act 186 = .ok (.iadd, 1) := by decide +kernel
theorem dL_act_187 : decode cL_act 187 = .ok (.istore 8, 2) := by decide +kernel
theorem dL_act_189 : decode cL_act 189 = .ok (.aload 5, 2) := by decide +kernel
theorem dL_act_191 : decode cL_act 191 = .ok (.iconst 0, 1) := by decide +kernel
theorem dL_act_192 : decode cL_act 192 = .ok (.iaload, 1) := by decide +kernel
theorem dL_act_193 : decode cL_act 193 = .ok (.ifCond .ne 18, 3) := by decide +kernel
theorem dL_act_196 : decode cL_act 196 = .ok (.aload_n 1, 1) := by decide +kernel
theorem dL_act_197 : decode cL_act 197 = .ok (.getfield 21, 3) := by decide +kernel
theorem dL_act_200 : decode cL_act 200 = .ok (.iconst 2, 1) := by decide +kernel
theorem dL_act_201 : decode cL_act 201 = .ok (.iload 8, 2) := by decide +kernel
theorem dL_act_203 : decode cL_act 203 = .ok (.imul, 1) := by decide +kernel
theorem dL_act_204 : decode cL_act 204 = .ok (.if_icmp .lt 7, 3) := by decide +kernel
theorem dL_act_207 : decode cL_act 207 = .ok (.iconst 1, 1) := by decide +kernel
theorem dL_act_208 : decode cL_act 208 = .ok (.goto 4, 3) := by decide +kernel
theorem dL_act_211 : decode cL_act 211 = .ok (.iconst 0, 1) := by decide +kernel
theorem dL_act_212 : decode cL_act 212 = .ok (.istore 9, 2) := by decide +kernel
theorem dL_act_214 : decode cL_act 214 = .ok (.aload_n 0, 1) := by decide +kernel
theorem dL_act_215 : decode cL_act 215 = .ok (.iload_n 3, 1) := by decide +kernel
theorem dL_act_216 : decode cL_act 216 = .ok (.iload 4, 2) := by decide +kernel
theorem dL_act_218 : decode cL_act 218 = .ok (.iload 7, 2) := by decide +kernel
theorem dL_act_220 : decode cL_act 220 = .ok (.iload 8, 2) := by decide +kernel
theorem dL_act_222 : decode cL_act 222 = .ok (.invokevirtual 25, 3) := by decide +kernel
theorem dL_act_225 : decode cL_act 225 = .ok (.istore 6, 2) := by decide +kernel
theorem dL_act_227 : decode cL_act 227 = .ok (.goto 8, 3) := by decide +kernel
theorem dL_act_230 : decode cL_act 230 = .ok (.astore 10, 2) := by decide +kernel
theorem dL_act_232 : decode cL_act 232 = .ok (.iconst (-1), 1) := by decide +kernel
theorem dL_act_233 : decode cL_act 233 = .ok (.istore 6, 2) := by decide +kernel
theorem dL_act_235 : decode cL_act 235 = .ok (.iload 9, 2) := by decide +kernel
theorem dL_act_237 : decode cL_act 237 = .ok (.ifCond .eq 46, 3) := by decide +kernel
theorem dL_act_240 : decode cL_act 240 = .ok (.iconst 3, 1) := by decide +kernel
theorem dL_act_241 : decode cL_act 241 = .ok (.newarray .int, 2) := by decide +kernel
theorem dL_act_243 : decode cL_act 243 = .ok (.dup, 1) := by decide +kernel
theorem dL_act_244 : decode cL_act 244 = .ok (.iconst 0, 1) := by decide +kernel
theorem dL_act_245 : decode cL_act 245 = .ok (.iconst 1, 1) := by decide +kernel
theorem dL_act_246 : decode cL_act 246 = .ok (.iastore, 1) := by decide +kernel
theorem dL_act_247 : decode cL_act 247 = .ok (.dup, 1) := by decide +kernel
theorem dL_act_248 : decode cL_act 248 = .ok (.iconst 1, 1) := by decide +kernel
theorem dL_act_249 : decode cL_act 249 = .ok (.iload 7, 2) := by decide +kernel
theorem dL_act_251 : decode cL_act 251 = .ok (.iastore, 1) := by decide +kernel
theorem dL_act_252 : decode cL_act 252 = .ok (.dup, 1) := by decide +kernel
theorem dL_act_253 : decode cL_act 253 = .ok (.iconst 2, 1) := by decide +kernel
theorem dL_act_254 : decode cL_act 254 = .ok (.iload 8, 2) := by decide +kernel
theorem dL_act_256 : decode cL_act 256 = .ok (.iastore, 1) := by decide +kernel
theorem dL_act_257 : decode cL_act 257 = .ok (.astore 10, 2) := by decide +kernel
theorem dL_act_259 : decode cL_act 259 = .ok (.aload_n 1, 1) := by decide +kernel
theorem dL_act_260 : decode cL_act 260 = .ok (.getfield 15, 3) := by decide +kernel
theorem dL_act_263 : decode cL_act 263 = .ok (.iload 4, 2) := by decide +kernel
theorem dL_act_265 : decode cL_act 265 = .ok (.aaload, 1) := by decide +kernel
theorem dL_act_266 : decode cL_act 266 = .ok (.iload_n 3, 1) := by decide +kernel
theorem dL_act_267 : decode cL_act 267 = .ok (.aload 10, 2) := by decide +kernel
theorem dL_act_269 : decode cL_act 269 = .ok (.aastore, 1) := by decide +kernel
theorem dL_act_270 : decode cL_act 270 = .ok (.aload_n 1, 1) := by decide +kernel
theorem dL_act_271 : decode cL_act 271 = .ok (.dup, 1) := by decide +kernel
theorem dL_act_272 : decode cL_act 272 = .ok (.getfield 21, 3) := by decide +kernel
theorem dL_act_275 : decode cL_act 275 = .ok (.iconst 2, 1) := by decide +kernel
theorem dL_act_276 : decode cL_act 276 = .ok (.iload 8, 2) := by decide +kernel
theorem dL_act_278 : decode cL_act 278 = .ok (.imul, 1) := by decide +kernel
theorem dL_act_279 : decode cL_act 279 = .ok (.isub, 1) := by decide +kernel
theorem dL_act_280 : decode cL_act 280 = .ok (.putfield 21, 3) := by decide +kernel
theorem dL_act_283 : decode cL_act 283 = .ok (.iload 6, 2) := by decide +kernel
theorem dL_act_285 : decode cL_act 285 = .ok (.iload 9, 2) := by decide +kernel
theorem dL_act_287 : decode cL_act 287 = .ok (.ifCond .eq 10, 3) := by decide +kernel
theorem dL_act_290 : decode cL_act 290 = .ok (.aload_n 1, 1) := by decide +kernel
theorem dL_act_291 : decode cL_act 291 = .ok (.getfield 21, 3) := by decide +kernel
theorem dL_act_294 : decode cL_act 294 = .ok (.goto 4, 3) := by decide +kernel
theorem dL_act_297 : decode cL_act 297 = .ok (.iconst (-1), 1) := by decide +kernel
theorem dL_act_298 : decode cL_act 298 = .ok (.if_icmp .ne 7, 3) := by decide +kernel
theorem dL_act_301 : decode cL_act 301 = .ok (.iconst 1, 1) := by decide +kernel
theorem dL_act_302 : decode cL_act 302 = .ok (.goto 4, 3) := by decide +kernel
theorem dL_act_305 : decode cL_act 305 = .ok (.iconst 0, 1) := by decide +kernel
theorem dL_act_306 : decode cL_act 306 = .ok (.ireturn, 1) := by decide +kernel
theorem dL_act_307 : decode cL_act 307 = .ok (.aload 5, 2) := by decide +kernel
theorem dL_act_309 : decode cL_act 309 = .ok (.iconst 0, 1) := by decide +kernel
theorem dL_act_310 : decode cL_act 310 = .ok (.iaload, 1) := by decide +kernel
theorem dL_act_311 : decode cL_act 311 = .ok (.ifCond .ne 15, 3) := by decide +kernel
theorem dL_act_314 : decode cL_act 314 = .ok (.aload_n 1, 1) := by decide +kernel
theorem dL_act_315 : decode cL_act 315 = .ok (.getfield 21, 3) := by decide +kernel
theorem dL_act_318 : decode cL_act 318 = .ok (.iconst 5, 1) := by decide +kernel
theorem dL_act_319 : decode cL_act 319 = .ok (.if_icmp .le 7, 3) := by decide +kernel
theorem dL_act_322 : decode cL_act 322 = .ok (.iconst 1, 1) := by decide +kernel
theorem dL_act_323 : decode cL_act 323 = .ok (.goto 4, 3) := by decide +kernel
theorem dL_act_326 : decode cL_act 326 = .ok (.iconst 0, 1) := by decide +kernel
theorem dL_act_327 : decode cL_act 327 = .ok (.istore 7, 2) := by decide +kernel
theorem dL_act_329 : decode cL_act 329 = .ok (.aload_n 0, 1) := by decide +kernel
theorem dL_act_330 : decode cL_act 330 = .ok (.iload_n 3, 1) := by decide +kernel
theorem dL_act_331 : decode cL_act 331 = .ok (.iload 4, 2) := by decide +kernel
theorem dL_act_333 : decode cL_act 333 = .ok (.invokevirtual 33, 3) := by decide +kernel
theorem dL_act_336 : decode cL_act 336 = .ok (.istore 6, 2) := by decide +kernel
theorem dL_act_338 : decode cL_act 338 = .ok (.goto 8, 3) := by decide +kernel
theorem dL_act_341 : decode cL_act 341 = .ok (.astore 8, 2) := by decide +kernel
theorem dL_act_343 : decode cL_act 343 = .ok (.iconst (-1), 1) := by decide +kernel
theorem dL_act_344 : decode cL_act 344 = .ok (.istore 6, 2) := by decide +kernel
theorem dL_act_346 : decode cL_act 346 = .ok (.iload 7, 2) := by decide +kernel
theorem dL_act_348 : decode cL_act 348 = .ok (.ifCond .eq 19, 3) := by decide +kernel
theorem dL_act_351 : decode cL_act 351 = .ok (.aload 5, 2) := by decide +kernel
theorem dL_act_353 : decode cL_act 353 = .ok (.iconst 0, 1) := by decide +kernel
theorem dL_act_354 : decode cL_act 354 = .ok (.iconst 2, 1) := by decide +kernel
theorem dL_act_355 : decode cL_act 355 = .ok (.iastore, 1) := by decide +kernel
theorem dL_act_356 : decode cL_act 356 = .ok (.aload_n 1, 1) := by decide +kernel
theorem dL_act_357 : decode cL_act 357 = .ok (.dup, 1) := by decide +kernel
theorem dL_act_358 : decode cL_act 358 = .ok (.getfield 21, 3) := by decide +kernel
theorem dL_act_361 : decode cL_act 361 = .ok (.bipush 6, 2) := by decide +kernel
theorem dL_act_363 : decode cL_act 363 = .ok (.isub, 1) := by decide +kernel
theorem dL_act_364 : decode cL_act 364 = .ok (.putfield 21, 3) := by decide +kernel
theorem dL_act_367 : decode cL_act 367 = .ok (.iload 6, 2) := by decide +kernel
theorem dL_act_369 : decode cL_act 369 = .ok (.iload 7, 2) := by decide +kernel
theorem dL_act_371 : decode cL_act 371 = .ok (.ifCond .eq 16, 3) := by decide +kernel
theorem dL_act_374 : decode cL_act 374 = .ok (.aload_n 1, 1) := by decide +kernel
theorem dL_act_375 : decode cL_act 375 = .ok (.iload_n 3, 1) := by decide +kernel
theorem dL_act_376 : decode cL_act 376 = .ok (.iload 4, 2) := by decide +kernel
theorem dL_act_378 : decode cL_act 378 = .ok (.invokevirtual 36, 3) := by decide +kernel
theorem dL_act_381 : decode cL_act 381 = .ok (.invokestatic 40, 3) := by decide +kernel
theorem dL_act_384 : decode cL_act 384 = .ok (.goto 4, 3) := by decide +kernel
theorem dL_act_387 : decode cL_act 387 = .ok (.iconst (-1), 1) := by decide +kernel
theorem dL_act_388 : decode cL_act 388 = .ok (.if_icmp .ne 7, 3) := by decide +kernel
theorem dL_act_391 : decode cL_act 391 = .ok (.iconst 1, 1) := by decide +kernel
theorem dL_act_392 : decode cL_act 392 = .ok (.goto 4, 3) := by decide +kernel
theorem dL_act_395 : decode cL_act 395 = .ok (.iconst 0, 1) := by decide +kernel
theorem dL_act_396 : decode cL_act 396 = .ok (.ireturn, 1) := by decide +kernel
theorem dL_act_397 : decode cL_act 397 = .ok (.aload 5, 2) := by decide +kernel
theorem dL_act_399 : decode cL_act 399 = .ok (.iconst 0, 1) := by decide +kernel
theorem dL_act_400 : decode cL_act 400 = .ok (.iaload, 1) := by decide +kernel
theorem dL_act_401 : decode cL_act 401 = .ok (.ifCond .ne 15, 3) := by decide +kernel
theorem dL_act_404 : decode cL_act 404 = .ok (.aload_n 1, 1) := by decide +kernel
theorem dL_act_405 : decode cL_act 405 = .ok (.getfield 21, 3) := by decide +kernel
theorem dL_act_408 : decode cL_act 408 = .ok (.iconst 2, 1) := by decide +kernel
theorem dL_act_409 : decode cL_act 409 = .ok (.if_icmp .le 7, 3) := by decide +kernel
theorem dL_act_412 : decode cL_act 412 = .ok (.iconst 1, 1) := by decide +kernel
theorem dL_act_413 : decode cL_act 413 = .ok (.goto 4, 3) := by decide +kernel
theorem dL_act_416 : decode cL_act 416 = .ok (.iconst 0, 1) := by decide +kernel
theorem dL_act_417 : decode cL_act 417 = .ok (.istore 7, 2) := by decide +kernel
theorem dL_act_419 : decode cL_act 419 = .ok (.aload_n 0, 1) := by decide +kernel
theorem dL_act_420 : decode cL_act 420 = .ok (.iload_n 3, 1) := by decide +kernel
theorem dL_act_421 : decode cL_act 421 = .ok (.iload 4, 2) := by decide +kernel
theorem dL_act_423 : decode cL_act 423 = .ok (.invokevirtual 44, 3) := by decide +kernel
theorem dL_act_426 : decode cL_act 426 = .ok (.istore 6, 2) := by decide +kernel
theorem dL_act_428 : decode cL_act 428 = .ok (.goto 8, 3) := by decide +kernel
theorem dL_act_431 : decode cL_act 431 = .ok (.astore 8, 2) := by decide +kernel
theorem dL_act_433 : decode cL_act 433 = .ok (.iconst (-1), 1) := by decide +kernel
theorem dL_act_434 : decode cL_act 434 = .ok (.istore 6, 2) := by decide +kernel
theorem dL_act_436 : decode cL_act 436 = .ok (.iload 7, 2) := by decide +kernel
theorem dL_act_438 : decode cL_act 438 = .ok (.ifCond .eq 18, 3) := by decide +kernel
theorem dL_act_441 : decode cL_act 441 = .ok (.aload 5, 2) := by decide +kernel
theorem dL_act_443 : decode cL_act 443 = .ok (.iconst 0, 1) := by decide +kernel
theorem dL_act_444 : decode cL_act 444 = .ok (.iconst 3, 1) := by decide +kernel
theorem dL_act_445 : decode cL_act 445 = .ok (.iastore, 1) := by decide +kernel
theorem dL_act_446 : decode cL_act 446 = .ok (.aload_n 1, 1) := by decide +kernel
theorem dL_act_447 : decode cL_act 447 = .ok (.dup, 1) := by decide +kernel
theorem dL_act_448 : decode cL_act 448 = .ok (.getfield 21, 3) := by decide +kernel
theorem dL_act_451 : decode cL_act 451 = .ok (.iconst 3, 1) := by decide +kernel
theorem dL_act_452 : decode cL_act 452 = .ok (.isub, 1) := by decide +kernel
theorem dL_act_453 : decode cL_act 453 = .ok (.putfield 21, 3) := by decide +kernel
theorem dL_act_456 : decode cL_act 456 = .ok (.iload 6, 2) := by decide +kernel
theorem dL_act_458 : decode cL_act 458 = .ok (.iload 7, 2) := by decide +kernel
theorem dL_act_460 : decode cL_act 460 = .ok (.ifCond .eq 10, 3) := by decide +kernel
theorem dL_act_463 : decode cL_act 463 = .ok (.aload_n 1, 1) := by decide +kernel
theorem dL_act_464 : decode cL_act 464 = .ok (.getfield 21, 3) := by decide +kernel
theorem dL_act_467 : decode cL_act 467 = .ok (.goto 4, 3) := by decide +kernel
theorem dL_act_470 : decode cL_act 470 = .ok (.iconst (-1), 1) := by decide +kernel
theorem dL_act_471 : decode cL_act 471 = .ok (.if_icmp .ne 7, 3) := by decide +kernel
theorem dL_act_474 : decode cL_act 474 = .ok (.iconst 1, 1) := by decide +kernel
theorem dL_act_475 : decode cL_act 475 = .ok (.goto 4, 3) := by decide +kernel
theorem dL_act_478 : decode cL_act 478 = .ok (.iconst 0, 1) := by decide +kernel
theorem dL_act_479 : decode cL_act 479 = .ok (.ireturn, 1) := by decide +kernel
theorem dL_act_480 : decode cL_act 480 = .ok (.aload 5, 2) := by decide +kernel
theorem dL_act_482 : decode cL_act 482 = .ok (.iconst 0, 1) := by decide +kernel
theorem dL_act_483 : decode cL_act 483 = .ok (.iaload, 1) := by decide +kernel
theorem dL_act_484 : decode cL_act 484 = .ok (.ifCond .eq 7, 3) := by decide +kernel
theorem dL_act_487 : decode cL_act 487 = .ok (.iconst 1, 1) := by decide +kernel
theorem dL_act_488 : decode cL_act 488 = .ok (.goto 4, 3) := by decide +kernel
theorem dL_act_491 : decode cL_act 491 = .ok (.iconst 0, 1) := by decide +kernel
theorem dL_act_492 : decode cL_act 492 = .ok (.istore 7, 2) := by decide +kernel
theorem dL_act_494 : decode cL_act 494 = .ok (.aload_n 1, 1) := by decide +kernel
theorem dL_act_495 : decode cL_act 495 = .ok (.getfield 47, 3) := by decide +kernel
theorem dL_act_498 : decode cL_act 498 = .ok (.astore 8, 2) := by decide +kernel
theorem dL_act_500 : decode cL_act 500 = .ok (.aload 8, 2) := by decide +kernel
theorem dL_act_502 : decode cL_act 502 = .ok (.arraylength, 1) := by decide +kernel
theorem dL_act_503 : decode cL_act 503 = .ok (.istore 9, 2) := by decide +kernel
theorem dL_act_505 : decode cL_act 505 = .ok (.iconst 0, 1) := by decide +kernel
theorem dL_act_506 : decode cL_act 506 = .ok (.istore 10, 2) := by decide +kernel
theorem dL_act_508 : decode cL_act 508 = .ok (.iload 10, 2) := by decide +kernel
theorem dL_act_510 : decode cL_act 510 = .ok (.iload 9, 2) := by decide +kernel
theorem dL_act_512 : decode cL_act 512 = .ok (.if_icmp .ge 51, 3) := by decide +kernel
theorem dL_act_515 : decode cL_act 515 = .ok (.aload 8, 2) := by decide +kernel
theorem dL_act_517 : decode cL_act 517 = .ok (.iload 10, 2) := by decide +kernel
theorem dL_act_519 : decode cL_act 519 = .ok (.aaload, 1) := by decide +kernel
theorem dL_act_520 : decode cL_act 520 = .ok (.astore 11, 2) := by decide +kernel
theorem dL_act_522 : decode cL_act 522 = .ok (.iload 7, 2) := by decide +kernel
theorem dL_act_524 : decode cL_act 524 = .ok (.aload 11, 2) := by decide +kernel
theorem dL_act_526 : decode cL_act 526 = .ok (.iconst 3, 1) := by decide +kernel
theorem dL_act_527 : decode cL_act 527 = .ok (.iaload, 1) := by decide +kernel
theorem dL_act_528 : decode cL_act 528 = .ok (.iconst 1, 1) := by decide +kernel
theorem dL_act_529 : decode cL_act 529 = .ok (.if_icmp .eq 20, 3) := by decide +kernel
theorem dL_act_532 : decode cL_act 532 = .ok (.aload 11, 2) := by decide +kernel
theorem dL_act_534 : decode cL_act 534 = .ok (.iconst 0, 1) := by decide +kernel
theorem dL_act_535 : decode cL_act 535 = .ok (.iaload, 1) := by decide +kernel
theorem dL_act_536 : decode cL_act 536 = .ok (.iload_n 3, 1) := by decide +kernel
theorem dL_act_537 : decode cL_act 537 = .ok (.if_icmp .ne 12, 3) := by decide +kernel
theorem dL_act_540 : decode cL_act 540 = .ok (.aload 11, 2) := by decide +kernel
theorem dL_act_542 : decode cL_act 542 = .ok (.iconst 1, 1) := by decide +kernel
theorem dL_act_543 : decode cL_act 543 = .ok (.iaload, 1) := by decide +kernel
theorem dL_act_544 : decode cL_act 544 = .ok (.iload 4, 2) := by decide +kernel
theorem dL_act_546 : decode cL_act 546 = .ok (.if_icmp .eq 7, 3) := by decide +kernel
theorem dL_act_549 : decode cL_act 549 = .ok (.iconst 1, 1) := by decide +kernel
theorem dL_act_550 : decode cL_act 550 = .ok (.goto 4, 3) := by decide +kernel
theorem dL_act_553 : decode cL_act 553 = .ok (.iconst 0, 1) := by decide +kernel
theorem dL_act_554 : decode cL_act 554 = .ok (.iand, 1) := by decide +kernel
theorem dL_act_555 : decode cL_act 555 = .ok (.istore 7, 2) := by decide +kernel
theorem dL_act_557 : decode cL_act 557 = .ok (.iinc 10 1, 3) := by decide +kernel
theorem dL_act_560 : decode cL_act 560 = .ok (.goto (-52), 3) := by decide +kernel
theorem dL_act_563 : decode cL_act 563 = .ok (.aload_n 0, 1) := by decide +kernel
theorem dL_act_564 : decode cL_act 564 = .ok (.iload_n 3, 1) := by decide +kernel
theorem dL_act_565 : decode cL_act 565 = .ok (.iload 4, 2) := by decide +kernel
theorem dL_act_567 : decode cL_act 567 = .ok (.invokevirtual 51, 3) := by decide +kernel
theorem dL_act_570 : decode cL_act 570 = .ok (.istore 6, 2) := by decide +kernel
theorem dL_act_572 : decode cL_act 572 = .ok (.goto 8, 3) := by decide +kernel
theorem dL_act_575 : decode cL_act 575 = .ok (.astore 8, 2) := by decide +kernel
theorem dL_act_577 : decode cL_act 577 = .ok (.iconst (-1), 1) := by decide +kernel
theorem dL_act_578 : decode cL_act 578 = .ok (.istore 6, 2) := by decide +kernel
theorem dL_act_580 : decode cL_act 580 = .ok (.iload 7, 2) := by decide +kernel
theorem dL_act_582 : decode cL_act 582 = .ok (.ifCond .eq 33, 3) := by decide +kernel
theorem dL_act_585 : decode cL_act 585 = .ok (.aload_n 1, 1) := by decide +kernel
theorem dL_act_586 : decode cL_act 586 = .ok (.dup, 1) := by decide +kernel
theorem dL_act_587 : decode cL_act 587 = .ok (.getfield 21, 3) := by decide +kernel
theorem dL_act_590 : decode cL_act 590 = .ok (.aload 5, 2) := by decide +kernel
theorem dL_act_592 : decode cL_act 592 = .ok (.iconst 0, 1) := by decide +kernel
theorem dL_act_593 : decode cL_act 593 = .ok (.iaload, 1) := by decide +kernel
theorem dL_act_594 : decode cL_act 594 = .ok (.iconst 1, 1) := by decide +kernel
theorem dL_act_595 : decode cL_act 595 = .ok (.if_icmp .ne 10, 3) := by decide +kernel
theorem dL_act_598 : decode cL_act 598 = .ok (.aload 5, 2) := by decide +kernel
theorem dL_act_600 : decode cL_act 600 = .ok (.iconst 2, 1) := by decide +kernel
theorem dL_act_601 : decode cL_act 601 = .ok (.iaload, 1) := by decide +kernel
theorem dL_act_602 : decode cL_act 602 = .ok (.goto 4, 3) := by decide +kernel
theorem dL_act_605 : decode cL_act 605 = .ok (.iconst 0, 1) := by decide +kernel
theorem dL_act_606 : decode cL_act 606 = .ok (.iadd, 1) := by decide +kernel
theorem dL_act_607 : decode cL_act 607 = .ok (.putfield 21, 3) := by decide +kernel
theorem dL_act_610 : decode cL_act 610 = .ok (.aload 5, 2) := by decide +kernel
theorem dL_act_612 : decode cL_act 612 = .ok (.iconst 0, 1) := by decide +kernel
theorem dL_act_613 : decode cL_act 613 = .ok (.iconst 0, 1) := by decide +kernel
theorem dL_act_614 : decode cL_act 614 = .ok (.iastore, 1) := by decide +kernel
theorem dL_act_615 : decode cL_act 615 = .ok (.iload 6, 2) := by decide +kernel
theorem dL_act_617 : decode cL_act 617 = .ok (.iload 7, 2) := by decide +kernel
theorem dL_act_619 : decode cL_act 619 = .ok (.ifCond .eq 10, 3) := by decide +kernel
theorem dL_act_622 : decode cL_act 622 = .ok (.aload_n 1, 1) := by decide +kernel
theorem dL_act_623 : decode cL_act 623 = .ok (.getfield 21, 3) := by decide +kernel
theorem dL_act_626 : decode cL_act 626 = .ok (.goto 4, 3) := by decide +kernel
theorem dL_act_629 : decode cL_act 629 = .ok (.iconst (-1), 1) := by decide +kernel
theorem dL_act_630 : decode cL_act 630 = .ok (.if_icmp .ne 7, 3) := by decide +kernel
theorem dL_act_633 : decode cL_act 633 = .ok (.iconst 1, 1) := by decide +kernel
theorem dL_act_634 : decode cL_act 634 = .ok (.goto 4, 3) := by decide +kernel
theorem dL_act_637 : decode cL_act 637 = .ok (.iconst 0, 1) := by decide +kernel
theorem dL_act_638 : decode cL_act 638 = .ok (.ireturn, 1) := by decide +kernel
theorem dL_act_639 : decode cL_act 639 = .ok (.aload 5, 2) := by decide +kernel
theorem dL_act_641 : decode cL_act 641 = .ok (.iconst 0, 1) := by decide +kernel
theorem dL_act_642 : decode cL_act 642 = .ok (.iaload, 1) := by decide +kernel
theorem dL_act_643 : decode cL_act 643 = .ok (.iconst 2, 1) := by decide +kernel
theorem dL_act_644 : decode cL_act 644 = .ok (.if_icmp .ne 25, 3) := by decide +kernel
theorem dL_act_647 : decode cL_act 647 = .ok (.aload_n 1, 1) := by decide +kernel
theorem dL_act_648 : decode cL_act 648 = .ok (.getfield 21, 3) := by decide +kernel
theorem dL_act_651 : decode cL_act 651 = .ok (.iconst 3, 1) := by decide +kernel
theorem dL_act_652 : decode cL_act 652 = .ok (.if_icmp .le 17, 3) := by decide +kernel
theorem dL_act_655 : decode cL_act 655 = .ok (.aload_n 1, 1) := by decide +kernel
theorem dL_act_656 : decode cL_act 656 = .ok (.getfield 47, 3) := by decide +kernel
theorem dL_act_659 : decode cL_act 659 = .ok (.arraylength, 1) := by decide +kernel
theorem dL_act_660 : decode cL_act 660 = .ok (.bipush 30, 2) := by decide +kernel
theorem dL_act_662 : decode cL_act 662 = .ok (.if_icmp .ge 7, 3) := by decide +kernel
theorem dL_act_665 : decode cL_act 665 = .ok (.iconst 1, 1) := by decide +kernel
theorem dL_act_666 : decode cL_act 666 = .ok (.goto 4, 3) := by decide +kernel
theorem dL_act_669 : decode cL_act 669 = .ok (.iconst 0, 1) := by decide +kernel
theorem dL_act_670 : decode cL_act 670 = .ok (.istore 7, 2) := by decide +kernel
theorem dL_act_672 : decode cL_act 672 = .ok (.aload_n 0, 1) := by decide +kernel
theorem dL_act_673 : decode cL_act 673 = .ok (.iload_n 3, 1) := by decide +kernel
theorem dL_act_674 : decode cL_act 674 = .ok (.iload 4, 2) := by decide +kernel
theorem dL_act_676 : decode cL_act 676 = .ok (.invokevirtual 54, 3) := by decide +kernel
theorem dL_act_679 : decode cL_act 679 = .ok (.istore 6, 2) := by decide +kernel
theorem dL_act_681 : decode cL_act 681 = .ok (.goto 8, 3) := by decide +kernel
theorem dL_act_684 : decode cL_act 684 = .ok (.astore 8, 2) := by decide +kernel
theorem dL_act_686 : decode cL_act 686 = .ok (.iconst (-1), 1) := by decide +kernel
theorem dL_act_687 : decode cL_act 687 = .ok (.istore 6, 2) := by decide +kernel
theorem dL_act_689 : decode cL_act 689 = .ok (.iload 6, 2) := by decide +kernel
theorem dL_act_691 : decode cL_act 691 = .ok (.iload 7, 2) := by decide +kernel
theorem dL_act_693 : decode cL_act 693 = .ok (.ifCond .eq 11, 3) := by decide +kernel
theorem dL_act_696 : decode cL_act 696 = .ok (.aload_n 1, 1) := by decide +kernel
theorem dL_act_697 : decode cL_act 697 = .ok (.getfield 47, 3) := by decide +kernel
theorem dL_act_700 : decode cL_act 700 = .ok (.arraylength, 1) := by decide +kernel
theorem dL_act_701 : decode cL_act 701 = .ok (.goto 4, 3) := by decide +kernel
theorem dL_act_704 : decode cL_act 704 = .ok (.iconst (-1), 1) := by decide +kernel
theorem dL_act_705 : decode cL_act 705 = .ok (.if_icmp .eq 5, 3) := by decide +kernel
theorem dL_act_708 : decode cL_act 708 = .ok (.iconst 0, 1) := by decide +kernel
theorem dL_act_709 : decode cL_act 709 = .ok (.ireturn, 1) := by decide +kernel
theorem dL_act_710 : decode cL_act 710 = .ok (.iload 7, 2) := by decide +kernel
theorem dL_act_712 : decode cL_act 712 = .ok (.ifCond .ne 5, 3) := by decide +kernel
theorem dL_act_715 : decode cL_act 715 = .ok (.iconst 1, 1) := by decide +kernel
theorem dL_act_716 : decode cL_act 716 = .ok (.ireturn, 1) := by decide +kernel
theorem dL_act_717 : decode cL_act 717 = .ok (.iconst 4, 1) := by decide +kernel
theorem dL_act_718 : decode cL_act 718 = .ok (.newarray .int, 2) := by decide +kernel
theorem dL_act_720 : decode cL_act 720 = .ok (.dup, 1) := by decide +kernel
theorem dL_act_721 : decode cL_act 721 = .ok (.iconst 0, 1) := by decide +kernel
theorem dL_act_722 : decode cL_act 722 = .ok (.iload_n 3, 1) := by decide +kernel
theorem dL_act_723 : decode cL_act 723 = .ok (.iastore, 1) := by decide +kernel
theorem dL_act_724 : decode cL_act 724 = .ok (.dup, 1) := by decide +kernel
theorem dL_act_725 : decode cL_act 725 = .ok (.iconst 1, 1) := by decide +kernel
theorem dL_act_726 : decode cL_act 726 = .ok (.iload 4, 2) := by decide +kernel
theorem dL_act_728 : decode cL_act 728 = .ok (.iastore, 1) := by decide +kernel
theorem dL_act_729 : decode cL_act 729 = .ok (.dup, 1) := by decide +kernel
theorem dL_act_730 : decode cL_act 730 = .ok (.iconst 2, 1) := by decide +kernel
theorem dL_act_731 : decode cL_act 731 = .ok (.iconst 1, 1) := by decide +kernel
theorem dL_act_732 : decode cL_act 732 = .ok (.iastore, 1) := by decide +kernel
theorem dL_act_733 : decode cL_act 733 = .ok (.dup, 1) := by decide +kernel
theorem dL_act_734 : decode cL_act 734 = .ok (.iconst 3, 1) := by decide +kernel
theorem dL_act_735 : decode cL_act 735 = .ok (.iconst 0, 1) := by decide +kernel
theorem dL_act_736 : decode cL_act 736 = .ok (.iastore, 1) := by decide +kernel
theorem dL_act_737 : decode cL_act 737 = .ok (.astore 8, 2) := by decide +kernel
theorem dL_act_739 : decode cL_act 739 = .ok (.aload_n 1, 1) := by decide +kernel
theorem dL_act_740 : decode cL_act 740 = .ok (.aload_n 1, 1) := by decide +kernel
theorem dL_act_741 : decode cL_act 741 = .ok (.getfield 47, 3) := by decide +kernel
theorem dL_act_744 : decode cL_act 744 = .ok (.aload 8, 2) := by decide +kernel
theorem dL_act_746 : decode cL_act 746 = .ok (.invokestatic 57, 3) := by decide +kernel
theorem dL_act_749 : decode cL_act 749 = .ok (.putfield 47, 3) := by decide +kernel
theorem dL_act_752 : decode cL_act 752 = .ok (.aload_n 1, 1) := by decide +kernel
theorem dL_act_753 : decode cL_act 753 = .ok (.dup, 1) := by decide +kernel
theorem dL_act_754 : decode cL_act 754 = .ok (.getfield 21, 3) := by decide +kernel
theorem dL_act_757 : decode cL_act 757 = .ok (.iconst 4, 1) := by decide +kernel
theorem dL_act_758 : decode cL_act 758 = .ok (.isub, 1) := by decide +kernel
theorem dL_act_759 : decode cL_act 759 = .ok (.putfield 21, 3) := by decide +kernel
theorem dL_act_762 : decode cL_act 762 = .ok (.iconst 1, 1) := by decide +kernel
theorem dL_act_763 : decode cL_act 763 = .ok (.ireturn, 1) := by decide +kernel
theorem dL_act_764 : decode cL_act 764 = .ok (.aload_n 1, 1) := by decide +kernel
theorem dL_act_765 : decode cL_act 765 = .ok (.getfield 47, 3) := by decide +kernel
theorem dL_act_768 : decode cL_act 768 = .ok (.arraylength, 1) := by decide +kernel
theorem dL_act_769 : decode cL_act 769 = .ok (.ifCond .eq 14, 3) := by decide +kernel
theorem dL_act_772 : decode cL_act 772 = .ok (.iload_n 2, 1) := by decide +kernel
theorem dL_act_773 : decode cL_act 773 = .ok (.bipush 7, 2) := by decide +kernel
theorem dL_act_775 : decode cL_act 775 = .ok (.ishr, 1) := by decide +kernel
theorem dL_act_776 : decode cL_act 776 = .ok (.iconst 3, 1) := by decide +kernel
theorem dL_act_777 : decode cL_act 777 = .ok (.invokestatic 9, 3) := by decide +kernel
theorem dL_act_780 : decode cL_act 780 = .ok (.ifCond .le 5, 3) := by decide +kernel
theorem dL_act_783 : decode cL_act 783 = .ok (.iconst 1, 1) := by decide +kernel
theorem dL_act_784 : decode cL_act 784 = .ok (.ireturn, 1) := by decide +kernel
theorem dL_act_785 : decode cL_act 785 = .ok (.iload_n 2, 1) := by decide +kernel
theorem dL_act_786 : decode cL_act 786 = .ok (.iconst 4, 1) := by decide +kernel
theorem dL_act_787 : decode cL_act 787 = .ok (.ishr, 1) := by decide +kernel
theorem dL_act_788 : decode cL_act 788 = .ok (.aload_n 1, 1) := by decide +kernel
theorem dL_act_789 : decode cL_act 789 = .ok (.getfield 47, 3) := by decide +kernel
theorem dL_act_792 : decode cL_act 792 = .ok (.arraylength, 1) := by decide +kernel
theorem dL_act_793 : decode cL_act 793 = .ok (.invokestatic 9, 3) := by decide +kernel
theorem dL_act_796 : decode cL_act 796 = .ok (.istore 7, 2) := by decide +kernel
theorem dL_act_798 : decode cL_act 798 = .ok (.aload_n 1, 1) := by decide +kernel
theorem dL_act_799 : decode cL_act 799 = .ok (.getfield 47, 3) := by decide +kernel
theorem dL_act_802 : decode cL_act 802 = .ok (.iload 7, 2) := by decide +kernel
theorem dL_act_804 : decode cL_act 804 = .ok (.aaload, 1) := by decide +kernel
theorem dL_act_805 : decode cL_act 805 = .ok (.astore 8, 2) := by decide +kernel
theorem dL_act_807 : decode cL_act 807 = .ok (.aload 8, 2) := by decide +kernel
theorem dL_act_809 : decode cL_act 809 = .ok (.iconst 3, 1) := by decide +kernel
theorem dL_act_810 : decode cL_act 810 = .ok (.iaload, 1) := by decide +kernel
theorem dL_act_811 : decode cL_act 811 = .ok (.ifCond .ne 7, 3) := by decide +kernel
theorem dL_act_814 : decode cL_act 814 = .ok (.iconst 1, 1) := by decide +kernel
theorem dL_act_815 : decode cL_act 815 = .ok (.goto 4, 3) := by decide +kernel
theorem dL_act_818 : decode cL_act 818 = .ok (.iconst 0, 1) := by decide +kernel
theorem dL_act_819 : decode cL_act 819 = .ok (.istore 9, 2) := by decide +kernel
theorem dL_act_821 : decode cL_act 821 = .ok (.aload_n 0, 1) := by decide +kernel
theorem dL_act_822 : decode cL_act 822 = .ok (.iload 7, 2) := by decide +kernel
theorem dL_act_824 : decode cL_act 824 = .ok (.invokevirtual 61, 3) := by decide +kernel
theorem dL_act_827 : decode cL_act 827 = .ok (.istore 6, 2) := by decide +kernel
theorem dL_act_829 : decode cL_act 829 = .ok (.goto 8, 3) := by decide +kernel
theorem dL_act_832 : decode cL_act 832 = .ok (.astore 10, 2) := by decide +kernel
theorem dL_act_834 : decode cL_act 834 = .ok (.iconst (-1), 1) := by decide +kernel
theorem dL_act_835 : decode cL_act 835 = .ok (.istore 6, 2) := by decide +kernel
theorem dL_act_837 : decode cL_act 837 = .ok (.iload 9, 2) := by decide +kernel
theorem dL_act_839 : decode cL_act 839 = .ok (.ifCond .eq 25, 3) := by decide +kernel
theorem dL_act_842 : decode cL_act 842 = .ok (.aload 8, 2) := by decide +kernel
theorem dL_act_844 : decode cL_act 844 = .ok (.iconst 3, 1) := by decide +kernel
theorem dL_act_845 : decode cL_act 845 = .ok (.iconst 1, 1) := by decide +kernel
theorem dL_act_846 : decode cL_act 846 = .ok (.iastore, 1) := by decide +kernel
theorem dL_act_847 : decode cL_act 847 = .ok (.aload_n 1, 1) := by decide +kernel
theorem dL_act_848 : decode cL_act 848 = .ok (.dup, 1) := by decide +kernel
theorem dL_act_849 : decode cL_act 849 = .ok (.getfield 21, 3) := by decide +kernel
theorem dL_act_852 : decode cL_act 852 = .ok (.aload 8, 2) := by decide +kernel
theorem dL_act_854 : decode cL_act 854 = .ok (.iconst 2, 1) := by decide +kernel
theorem dL_act_855 : decode cL_act 855 = .ok (.iaload, 1) := by decide +kernel
theorem dL_act_856 : decode cL_act 856 = .ok (.iconst 2, 1) := by decide +kernel
theorem dL_act_857 : decode cL_act 857 = .ok (.idiv, 1) := by decide +kernel
theorem dL_act_858 : decode cL_act 858 = .ok (.iconst 1, 1) := by decide +kernel
theorem dL_act_859 : decode cL_act 859 = .ok (.iadd, 1) := by decide +kernel
theorem dL_act_860 : decode cL_act 860 = .ok (.iadd, 1) := by decide +kernel
theorem dL_act_861 : decode cL_act 861 = .ok (.putfield 21, 3) := by decide +kernel
theorem dL_act_864 : decode cL_act 864 = .ok (.iload 6, 2) := by decide +kernel
theorem dL_act_866 : decode cL_act 866 = .ok (.iload 9, 2) := by decide +kernel
theorem dL_act_868 : decode cL_act 868 = .ok (.ifCond .eq 10, 3) := by decide +kernel
theorem dL_act_871 : decode cL_act 871 = .ok (.aload_n 1, 1) := by decide +kernel
theorem dL_act_872 : decode cL_act 872 = .ok (.getfield 21, 3) := by decide +kernel
theorem dL_act_875 : decode cL_act 875 = .ok (.goto 4, 3) := by decide +kernel
theorem dL_act_878 : decode cL_act 878 = .ok (.iconst (-1), 1) := by decide +kernel
theorem dL_act_879 : decode cL_act 879 = .ok (.if_icmp .ne 7, 3) := by decide +kernel
theorem dL_act_882 : decode cL_act 882 = .ok (.iconst 1, 1) := by decide +kernel
theorem dL_act_883 : decode cL_act 883 = .ok (.goto 4, 3) := by decide +kernel
theorem dL_act_886 : decode cL_act 886 = .ok (.iconst 0, 1) := by decide +kernel
theorem dL_act_887 : decode cL_act 887 = .ok (.ireturn, 1) := by decide +kernel
theorem dL_act_888 : decode cL_act 888 = .ok (.iconst 3, 1) := by decide +kernel
theorem dL_act_889 : decode cL_act 889 = .ok (.newarray .int, 2) := by decide +kernel
theorem dL_act_891 : decode cL_act 891 = .ok (.dup, 1) := by decide +kernel
theorem dL_act_892 : decode cL_act 892 = .ok (.iconst 0, 1) := by decide +kernel
theorem dL_act_893 : decode cL_act 893 = .ok (.iload_n 3, 1) := by decide +kernel
theorem dL_act_894 : decode cL_act 894 = .ok (.iastore, 1) := by decide +kernel
theorem dL_act_895 : decode cL_act 895 = .ok (.dup, 1) := by decide +kernel
theorem dL_act_896 : decode cL_act 896 = .ok (.iconst 1, 1) := by decide +kernel
theorem dL_act_897 : decode cL_act 897 = .ok (.iload 4, 2) := by decide +kernel
theorem dL_act_899 : decode cL_act 899 = .ok (.iastore, 1) := by decide +kernel
theorem dL_act_900 : decode cL_act 900 = .ok (.dup, 1) := by decide +kernel
theorem dL_act_901 : decode cL_act 901 = .ok (.iconst 2, 1) := by decide +kernel
theorem dL_act_902 : decode cL_act 902 = .ok (.iload_n 2, 1) := by decide +kernel
theorem dL_act_903 : decode cL_act 903 = .ok (.iconst 5, 1) := by decide +kernel
theorem dL_act_904 : decode cL_act 904 = .ok (.ishr, 1) := by decide +kernel
theorem dL_act_905 : decode cL_act 905 = .ok (.iconst 4, 1) := by decide +kernel
theorem dL_act_906 : decode cL_act 906 = .ok (.invokestatic 9, 3) := by decide +kernel
theorem dL_act_909 : decode cL_act 909 = .ok (.iastore, 1) := by decide +kernel
theorem dL_act_910 : decode cL_act 910 = .ok (.astore 7, 2) := by decide +kernel
theorem dL_act_912 : decode cL_act 912 = .ok (.aload_n 1, 1) := by decide +kernel
theorem dL_act_913 : decode cL_act 913 = .ok (.getfield 65, 3) := by decide +kernel
theorem dL_act_916 : decode cL_act 916 = .ok (.arraylength, 1) := by decide +kernel
theorem dL_act_917 : decode cL_act 917 = .ok (.istore 8, 2) := by decide +kernel
theorem dL_act_919 : decode cL_act 919 = .ok (.aload_n 0, 1) := by decide +kernel
theorem dL_act_920 : decode cL_act 920 = .ok (.iload_n 3, 1) := by decide +kernel
theorem dL_act_921 : decode cL_act 921 = .ok (.iload 4, 2) := by decide +kernel
theorem dL_act_923 : decode cL_act 923 = .ok (.aload 7, 2) := by decide +kernel
theorem dL_act_925 : decode cL_act 925 = .ok (.iconst 2, 1) := by decide +kernel
theorem dL_act_926 : decode cL_act 926 = .ok (.iaload, 1) := by decide +kernel
theorem dL_act_927 : decode cL_act 927 = .ok (.invokevirtual 68, 3) := by decide +kernel
theorem dL_act_930 : decode cL_act 930 = .ok (.istore 6, 2) := by decide +kernel
theorem dL_act_932 : decode cL_act 932 = .ok (.goto 8, 3) := by decide +kernel
theorem dL_act_935 : decode cL_act 935 = .ok (.astore 9, 2) := by decide +kernel
theorem dL_act_937 : decode cL_act 937 = .ok (.iconst (-1), 1) := by decide +kernel
theorem dL_act_938 : decode cL_act 938 = .ok (.istore 6, 2) := by decide +kernel
theorem dL_act_940 : decode cL_act 940 = .ok (.iload 6, 2) := by decide +kernel
theorem dL_act_942 : decode cL_act 942 = .ok (.iload 8, 2) := by decide +kernel
theorem dL_act_944 : decode cL_act 944 = .ok (.bipush 6, 2) := by decide +kernel
theorem dL_act_946 : decode cL_act 946 = .ok (.if_icmp .ge 8, 3) := by decide +kernel
theorem dL_act_949 : decode cL_act 949 = .ok (.iload 8, 2) := by decide +kernel
theorem dL_act_951 : decode cL_act 951 = .ok (.goto 4, 3) := by decide +kernel
theorem dL_act_954 : decode cL_act 954 = .ok (.iconst (-1), 1) := by decide +kernel
theorem dL_act_955 : decode cL_act 955 = .ok (.if_icmp .eq 5, 3) := by decide +kernel
theorem dL_act_958 : decode cL_act 958 = .ok (.iconst 0, 1) := by decide +kernel
theorem dL_act_959 : decode cL_act 959 = .ok (.ireturn, 1) := by decide +kernel
theorem dL_act_960 : decode cL_act 960 = .ok (.iload 6, 2) := by decide +kernel
theorem dL_act_962 : decode cL_act 962 = .ok (.ifCond .lt 16, 3) := by decide +kernel
theorem dL_act_965 : decode cL_act 965 = .ok (.aload_n 1, 1) := by decide +kernel
theorem dL_act_966 : decode cL_act 966 = .ok (.aload_n 1, 1) := by decide +kernel
theorem dL_act_967 : decode cL_act 967 = .ok (.getfield 65, 3) := by decide +kernel
theorem dL_act_970 : decode cL_act 970 = .ok (.aload 7, 2) := by decide +kernel
theorem dL_act_972 : decode cL_act 972 = .ok (.invokestatic 57, 3) := by decide +kernel
theorem dL_act_975 : decode cL_act 975 = .ok (.putfield 65, 3) := by decide +kernel
theorem dL_act_978 : decode cL_act 978 = .ok (.iconst 1, 1) := by decide +kernel
theorem dL_act_979 : decode cL_act 979 = .ok (.ireturn, 1) := by decide +kernel
theorem dL_act_980 : decode cL_act 980 = .ok (.aload_n 1, 1) := by decide +kernel
theorem dL_act_981 : decode cL_act 981 = .ok (.getfield 65, 3) := by decide +kernel
theorem dL_act_984 : decode cL_act 984 = .ok (.arraylength, 1) := by decide +kernel
theorem dL_act_985 : decode cL_act 985 = .ok (.ifCond .ne 5, 3) := by decide +kernel
theorem dL_act_988 : decode cL_act 988 = .ok (.iconst 1, 1) := by decide +kernel
theorem dL_act_989 : decode cL_act 989 = .ok (.ireturn, 1) := by decide +kernel
theorem dL_act_990 : decode cL_act 990 = .ok (.iconst 2, 1) := by decide +kernel
theorem dL_act_991 : decode cL_act 991 = .ok (.newarray .int, 2) := by decide +kernel
theorem dL_act_993 : decode cL_act 993 = .ok (.dup, 1) := by decide +kernel
theorem dL_act_994 : decode cL_act 994 = .ok (.iconst 0, 1) := by decide +kernel
theorem dL_act_995 : decode cL_act 995 = .ok (.iload_n 2, 1) := by decide +kernel
theorem dL_act_996 : decode cL_act 996 = .ok (.iconst 4, 1) := by decide +kernel
theorem dL_act_997 : decode cL_act 997 = .ok (.ishr, 1) := by decide +kernel
theorem dL_act_998 : decode cL_act 998 = .ok (.aload_n 1, 1) := by decide +kernel
theorem dL_act_999 : decode cL_act 999 = .ok (.getfield 65, 3) := by decide +kernel
theorem dL_act_1002 : decode cL_act 1002 = .ok (.arraylength, 1) := by decide +kernel
theorem dL_act_1003 : decode cL_act 1003 = .ok (.invokestatic 9, 3) := by decide +kernel
theorem dL_act_1006 : decode cL_act 1006 = .ok (.iastore, 1) := by decide +kernel
theorem dL_act_1007 : decode cL_act 1007 = .ok (.dup, 1) := by decide +kernel
theorem dL_act_1008 : decode cL_act 1008 = .ok (.iconst 1, 1) := by decide +kernel
theorem dL_act_1009 : decode cL_act 1009 = .ok (.iconst 0, 1) := by decide +kernel
theorem dL_act_1010 : decode cL_act 1010 = .ok (.iastore, 1) := by decide +kernel
theorem dL_act_1011 : decode cL_act 1011 = .ok (.astore 7, 2) := by decide +kernel
theorem dL_act_1013 : decode cL_act 1013 = .ok (.aload_n 1, 1) := by decide +kernel
theorem dL_act_1014 : decode cL_act 1014 = .ok (.getfield 72, 3) := by decide +kernel
theorem dL_act_1017 : decode cL_act 1017 = .ok (.arraylength, 1) := by decide +kernel
theorem dL_act_1018 : decode cL_act 1018 = .ok (.istore 8, 2) := by decide +kernel
theorem dL_act_1020 : decode cL_act 1020 = .ok (.aload_n 0, 1) := by decide +kernel
theorem dL_act_1021 : decode cL_act 1021 = .ok (.aload 7, 2) := by decide +kernel
theorem dL_act_1023 : decode cL_act 1023 = .ok (.iconst 0, 1) := by decide +kernel
theorem dL_act_1024 : decode cL_act 1024 = .ok (.iaload, 1) := by decide +kernel
theorem dL_act_1025 : decode cL_act 1025 = .ok (.invokevirtual 75, 3) := by decide +kernel
theorem dL_act_1028 : decode cL_act 1028 = .ok (.istore 6, 2) := by decide +kernel
theorem dL_act_1030 : decode cL_act 1030 = .ok (.goto 8, 3) := by decide +kernel
theorem dL_act_1033 : decode cL_act 1033 = .ok (.astore 9, 2) := by decide +kernel
theorem dL_act_1035 : decode cL_act 1035 = .ok (.iconst (-1), 1) := by decide +kernel
theorem dL_act_1036 : decode cL_act 1036 = .ok (.istore 6, 2) := by decide +kernel
theorem dL_act_1038 : decode cL_act 1038 = .ok (.iload 6, 2) := by decide +kernel
theorem dL_act_1040 : decode cL_act 1040 = .ok (.iload 8, 2) := by decide +kernel
theorem dL_act_1042 : decode cL_act 1042 = .ok (.iconst 5, 1) := by decide +kernel
theorem dL_act_1043 : decode cL_act 1043 = .ok (.if_icmp .ge 8, 3) := by decide +kernel
theorem dL_act_1046 : decode cL_act 1046 = .ok (.iload 8, 2) := by decide +kernel
theorem dL_act_1048 : decode cL_act 1048 = .ok (.goto 4, 3) := by decide +kernel
theorem dL_act_1051 : decode cL_act 1051 = .ok (.iconst (-1), 1) := by decide +kernel
theorem dL_act_1052 : decode cL_act 1052 = .ok (.if_icmp .eq 5, 3) := by decide +kernel
theorem dL_act_1055 : decode cL_act 1055 = .ok (.iconst 0, 1) := by decide +kernel
theorem dL_act_1056 : decode cL_act 1056 = .ok (.ireturn, 1) := by decide +kernel
theorem dL_act_1057 : decode cL_act 1057 = .ok (.iload 6, 2) := by decide +kernel
theorem dL_act_1059 : decode cL_act 1059 = .ok (.ifCond .lt 16, 3) := by decide +kernel
theorem dL_act_1062 : decode cL_act 1062 = .ok (.aload_n 1, 1) := by decide +kernel
theorem dL_act_1063 : decode cL_act 1063 = .ok (.aload_n 1, 1) := by decide +kernel
theorem dL_act_1064 : decode cL_act 1064 = .ok (.getfield 72, 3) := by decide +kernel
theorem dL_act_1067 : decode cL_act 1067 = .ok (.aload 7, 2) := by decide +kernel
theorem dL_act_1069 : decode cL_act 1069 = .ok (.invokestatic 57, 3) := by decide +kernel
theorem dL_act_1072 : decode cL_act 1072 = .ok (.putfield 72, 3) := by decide +kernel
theorem dL_act_1075 : decode cL_act 1075 = .ok (.iconst 1, 1) := by decide +kernel
theorem dL_act_1076 : decode cL_act 1076 = .ok (.ireturn, 1) := by decide +kernel
theorem dL_act_1077 : decode cL_act 1077 = .ok (.aload_n 1, 1) := by decide +kernel
theorem dL_act_1078 : decode cL_act 1078 = .ok (.getfield 72, 3) := by decide +kernel
theorem dL_act_1081 : decode cL_act 1081 = .ok (.arraylength, 1) := by decide +kernel
theorem dL_act_1082 : decode cL_act 1082 = .ok (.ifCond .ne 5, 3) := by decide +kernel
theorem dL_act_1085 : decode cL_act 1085 = .ok (.iconst 1, 1) := by decide +kernel
theorem dL_act_1086 : decode cL_act 1086 = .ok (.ireturn, 1) := by decide +kernel
theorem dL_act_1087 : decode cL_act 1087 = .ok (.iload_n 2, 1) := by decide +kernel
theorem dL_act_1088 : decode cL_act 1088 = .ok (.iconst 4, 1) := by decide +kernel
theorem dL_act_1089 : decode cL_act 1089 = .ok (.ishr, 1) := by decide +kernel
theorem dL_act_1090 : decode cL_act 1090 = .ok (.aload_n 1, 1) := by decide +kernel
theorem dL_act_1091 : decode cL_act 1091 = .ok (.getfield 72, 3) := by decide +kernel
theorem dL_act_1094 : decode cL_act 1094 = .ok (.arraylength, 1) := by decide +kernel
theorem dL_act_1095 : decode cL_act 1095 = .ok (.invokestatic 9, 3) := by decide +kernel
theorem dL_act_1098 : decode cL_act 1098 = .ok (.istore 7, 2) := by decide +kernel
theorem dL_act_1100 : decode cL_act 1100 = .ok (.aload_n 1, 1) := by decide +kernel
theorem dL_act_1101 : decode cL_act 1101 = .ok (.getfield 72, 3) := by decide +kernel
theorem dL_act_1104 : decode cL_act 1104 = .ok (.iload 7, 2) := by decide +kernel
theorem dL_act_1106 : decode cL_act 1106 = .ok (.aaload, 1) := by decide +kernel
theorem dL_act_1107 : decode cL_act 1107 = .ok (.iconst 0, 1) := by decide +kernel
theorem dL_act_1108 : decode cL_act 1108 = .ok (.iaload, 1) := by decide +kernel
theorem dL_act_1109 : decode cL_act 1109 = .ok (.istore 8, 2) := by decide +kernel
theorem dL_act_1111 : decode cL_act 1111 = .ok (.aload_n 1, 1) := by decide +kernel
theorem dL_act_1112 : decode cL_act 1112 = .ok (.getfield 72, 3) := by decide +kernel
theorem dL_act_1115 : decode cL_act 1115 = .ok (.iload 7, 2) := by decide +kernel
theorem dL_act_1117 : decode cL_act 1117 = .ok (.aaload, 1) := by decide +kernel
theorem dL_act_1118 : decode cL_act 1118 = .ok (.iconst 0, 1) := by decide +kernel
theorem dL_act_1119 : decode cL_act 1119 = .ok (.iload_n 2, 1) := by decide +kernel
theorem dL_act_1120 : decode cL_act 1120 = .ok (.bipush 6, 2) := by decide +kernel
theorem dL_act_1122 : decode cL_act 1122 = .ok (.ishr, 1) := by decide +kernel
theorem dL_act_1123 : decode cL_act 1123 = .ok (.aload_n 1, 1) := by decide +kernel
theorem dL_act_1124 : decode cL_act 1124 = .ok (.getfield 65, 3) := by decide +kernel
theorem dL_act_1127 : decode cL_act 1127 = .ok (.arraylength, 1) := by decide +kernel
theorem dL_act_1128 : decode cL_act 1128 = .ok (.invokestatic 9, 3) := by decide +kernel
theorem dL_act_1131 : decode cL_act 1131 = .ok (.iastore, 1) := by decide +kernel
theorem dL_act_1132 : decode cL_act 1132 = .ok (.aload_n 0, 1) := by decide +kernel
theorem dL_act_1133 : decode cL_act 1133 = .ok (.iload 7, 2) := by decide +kernel
theorem dL_act_1135 : decode cL_act 1135 = .ok (.aload_n 1, 1) := by decide +kernel
theorem dL_act_1136 : decode cL_act 1136 = .ok (.getfield 72, 3) := by decide +kernel
theorem dL_act_1139 : decode cL_act 1139 = .ok (.iload 7, 2) := by decide +kernel
theorem dL_act_1141 : decode cL_act 1141 = .ok (.aaload, 1) := by decide +kernel
theorem dL_act_1142 : decode cL_act 1142 = .ok (.iconst 0, 1) := by decide +kernel
theorem dL_act_1143 : decode cL_act 1143 = .ok (.iaload, 1) := by decide +kernel
theorem dL_act_1144 : decode cL_act 1144 = .ok (.invokevirtual 78, 3) := by decide +kernel
theorem dL_act_1147 : decode cL_act 1147 = .ok (.iload 8, 2) := by decide +kernel
theorem dL_act_1149 : decode cL_act 1149 = .ok (.if_icmp .ne 7, 3) := by decide +kernel
theorem dL_act_1152 : decode cL_act 1152 = .ok (.iconst 1, 1) := by decide +kernel
theorem dL_act_1153 : decode cL_act 1153 = .ok (.goto 4, 3) := by decide +kernel
theorem dL_act_1156 : decode cL_act 1156 = .ok (.iconst 0, 1) := by decide +kernel
theorem dL_act_1157 : decode cL_act 1157 = .ok (.ireturn, 1) := by decide +kernel
set_option maxRecDepth 20000 in
theorem ggL_build_X7_init : GoodIn wsL_build wsX7_init := goodIn_r _ [7, 8, 9, 10, 11, 12, 13, 14, 15, 16, 416, 417, 418, 419, 420, 421] (by decide +kernel) (by decide +kernel)
set_option maxRecDepth 20000 in
theorem gL_build_X7_init_n81 : GoodIn wsL_build (wsX7_init) := ggL_build_X7_init
set_option maxRecDepth 20000 in
theorem ggL_build_L_cell : GoodIn wsL_build wsL_cell := goodIn_r _ [20, 21] (by decide +kernel) (by decide +kernel)
set_option maxRecDepth 20000 in
theorem gL_build_L_cell : GoodIn wsL_build (va_wsS RL 82 yL_cell wsL_cell) := goodIn_app (goodIn_of _ (by decide +kernel)) ggL_build_L_cell
set_option maxRecDepth 20000 in
theorem ggL_build_L_below : GoodIn wsL_build wsL_below := goodIn_r _ [24, 25] (by decide +kernel) (by decide +kernel)
set_option maxRecDepth 20000 in
theorem gL_build_L_below : GoodIn wsL_build (va_wsS RL 9 yL_below wsL_below) := goodIn_app (goodIn_of _ (by decide +kernel)) ggL_build_L_below
set_option maxRecDepth 20000 in
theorem ggL_build_L_act : GoodIn wsL_build wsL_act := goodIn_ca (goodIn_ca (goodIn_ca (goodIn_r _ [28, 29, 30, 31, 4, 32, 33, 34, 22, 23, 19, 24, 25, 35, 36, 37, 38, 39, 40, 41, 42, 43, 44, 45, 46, 47, 48, 49, 50, 51, 52, 53, 54, 55, 56, 57, 58, 59, 60, 61, 62, 63, 64, 65, 66, 67, 68, 69, 70, 71, 72, 73, 74, 75, 76, 77, 78, 79, 80, 81, 82, 83, 84, 85, 86, 87, 88, 89, 90, 91, 92, 93, 94, 95, 96, 97, 98, 99, 100, 101, 102, 103, 104, 105, 106, 107, 108, 109, 110, 111, 112, 113, 114, 115, 116, 117, 118, 119, 120, 121, 122, 123, 124, 125, 126, 127, 128, 129, 130, 131, 132, 133, 134, 135, 136, 137, 138, 139, 140, 141, 142, 143, 144, 145, 3, 146, 147, 148, 12, 149, 150, 151, 152, 153, 154, 155, 156, 157, 158, 159, 160, 161, 162, 163, 164, 165, 166, 167, 168, 169, 170, 171, 172, 173, 174, 175, 176, 177, 178, 179, 180, 181, 182, 183, 184, 185, 186, 187, 188, 189, 190, 191, 192, 193, 194, 195, 196, 197, 198, 199, 200, 201, 202, 203, 204, 205, 206, 207, 208, 209, 210, 211, 212, 213, 214, 13, 215, 216, 217, 218, 219, 220, 221, 222, 223, 224, 225, 226, 227, 228, 229, 230, 231, 232, 233, 234, 235, 236, 237, 238, 239, 240, 241, 242, 243, 244, 245, 246, 247, 248, 249, 250, 251, 252, 253, 254, 255, 256, 257, 258, 259, 260, 261, 262, 263, 264, 265, 266, 267, 268, 269, 270, 271, 272, 273, 274, 275, 276, 277, 278, 279, 280, 281, 282, 283, 284, 285, 286, 287, 288, 289, 290, 291, 292, 293, 294, 416, 417, 418, 419, 420, 421, 422, 423, 424, 425, 426, 427, 428, 429, 430, 431, 432, 433, 434, 435, 436, 437, 438, 439, 440, 441, 442, 443, 444, 445, 446, 447, 448, 449] (by decide +kernel) (by decide +kernel)) (goodIn_sub (fun _ h => List.mem_cons_of_mem _ (List.mem_append_left _ (List.mem_append_left _ (List.mem_append_right _ h)))) (by decide +kernel))) (goodIn_sub (fun _ h => List.mem_cons_of_mem _ (List.mem_append_left _ (List.mem_append_right _ h))) (by decide +kernel))) (goodIn_sub (fun _ h => List.mem_cons_of_mem _ (List.mem_append_right _ h)) (by decide +kernel))
set_option maxRecDepth 20000 in
theorem gL_build_L_act : GoodIn wsL_build (va_wsS RL 87 yL_act wsL_act) := goodIn_app (goodIn_of _ (by decide +kernel)) ggL_build_L_act
set_option maxRecDepth 20000 in
theorem ggL_build_X6_pass : GoodIn wsL_build wsX6_pass := goodIn_ca (goodIn_r _ [298, 41, 299, 300, 301, 38, 302, 57, 58, 303, 304, 305, 306, 42, 307, 308, 309, 310, 311, 184, 185, 40, 223, 224, 225, 190, 226, 194, 227, 228, 229, 230, 192, 235, 236, 237, 238, 193, 312, 313, 314, 51, 315, 316, 317, 318, 319, 117, 139, 140, 141, 142, 106, 77, 78, 79, 320, 136, 137, 138, 116, 239, 240, 241, 198, 242, 200, 195, 196, 197, 199, 201, 202, 203, 204, 205, 206, 207, 321, 322, 323, 324, 262, 263, 325, 326, 327, 328, 329, 283, 284, 285, 271, 286, 274, 287, 288, 289, 290, 273, 330, 331, 332, 333, 334, 247, 335, 336, 337, 338, 339, 340, 341, 342, 343, 344, 345, 346, 347, 348, 253, 349, 257, 350, 351, 352, 353, 255, 354, 355, 356, 357, 256, 358, 125, 126, 127, 128, 129, 130, 131, 132, 133, 50, 52, 134, 60, 61, 359, 360, 361, 362, 72, 73, 74, 75, 76, 363, 364, 365, 366, 367, 368, 369, 370, 371, 372, 92, 168, 169, 170, 171, 93, 373, 374, 375, 376, 377, 378, 379, 380, 381, 382, 383, 384, 385, 386, 387, 388, 389, 390, 391, 392, 393, 394, 395, 422, 423, 424, 425, 426, 427, 428, 429, 430, 431, 432, 442, 443, 444, 433, 434, 435, 436, 437, 438, 439, 440, 441, 448, 449, 450, 451, 452, 453, 454, 445, 446, 447] (by decide +kernel) (by decide +kernel)) (goodIn_sub (fun _ h => List.mem_cons_of_mem _ (List.mem_append_left _ (List.mem_append_right _ h))) (by decide +kernel))
set_option maxRecDepth 20000 in
theorem gL_build_X6_pass : GoodIn wsL_build (wsV RL 91 RX6 yX6_pass wsX6_pass) := goodIn_app (goodIn_of _ (by decide +kernel)) ggL_build_X6_pass
set_option maxRecDepth 20000 in
theorem ggL_build_X7_pass : GoodIn wsL_build wsX7_pass := goodIn_r _ [399, 14, 16, 15, 400, 11, 401, 144, 145, 3, 146, 147, 148, 12, 402, 403, 404, 405, 406, 150, 151, 407, 408, 409, 410, 411, 412, 413, 414, 13, 4, 415, 213, 214, 416, 417, 418, 419, 420, 421] (by decide +kernel) (by decide +kernel)
set_option maxRecDepth 20000 in
theorem gL_build_X7_pass : GoodIn wsL_build (wsV RL 94 RX7 yX7_pass wsX7_pass) := goodIn_app (goodIn_of _ (by decide +kernel)) ggL_build_X7_pass
theorem dL_build_0 : decode cL_build 0 = .ok (.new 16, 3) := by decide +kernel
theorem dL_build_3 : decode cL_build 3 = .ok (.dup, 1) := by decide +kernel
theorem dL_build_4 : decode cL_build 4 = .ok (.invokespecial 81, 3) := by decide +kernel
theorem dL_build_7 : decode cL_build 7 = .ok (.astore_n 2, 1) := by decide +kernel
theorem dL_build_8 : decode cL_build 8 = .ok (.bipush 12, 2) := by decide +kernel
theorem dL_build_10 : decode cL_build 10 = .ok (.newarray .int, 2) := by decide +kernel
theorem dL_build_12 : decode cL_build 12 = .ok (.dup, 1) := by decide +kernel
theorem dL_build_13 : decode cL_build 13 = .ok (.iconst 0, 1) := by decide +kernel
theorem dL_build_14 : decode cL_build 14 = .ok (.iconst 2, 1) := by decide +kernel
theorem dL_build_15 : decode cL_build 15 = .ok (.iastore, 1) := by decide +kernel
theorem dL_build_16 : decode cL_build 16 = .ok (.dup, 1) := by decide +kernel
theorem dL_build_17 : decode cL_build 17 = .ok (.iconst 1, 1) := by decide +kernel
theorem dL_build_18 : decode cL_build 18 = .ok (.iconst 3, 1) := by decide +kernel
theorem dL_build_19 : decode cL_build 19 = .ok (.iastore, 1) := by decide +kernel
theorem dL_build_20 : decode cL_build 20 = .ok (.dup, 1) := by decide +kernel
theorem dL_build_21 : decode cL_build 21 = .ok (.iconst 2, 1) := by decide +kernel
theorem dL_build_22 : decode cL_build 22 = .ok (.iconst 0, 1) := by decide +kernel
theorem dL_build_23 : decode cL_build 23 = .ok (.iastore, 1) := by decide +kernel
theorem dL_build_24 : decode cL_build 24 = .ok (.dup, 1) := by decide +kernel
theorem dL_build_25 : decode cL_build 25 = .ok (.iconst 3, 1) := by decide +kernel
theorem dL_build_26 : decode cL_build 26 = .ok (.bipush 11, 2) := by decide +kernel
theorem dL_build_28 : decode cL_build 28 = .ok (.iastore, 1) := by decide +kernel
theorem dL_build_29 : decode cL_build 29 = .ok (.dup, 1) := by decide +kernel
theorem dL_build_30 : decode cL_build 30 = .ok (.iconst 4, 1) := by decide +kernel
theorem dL_build_31 : decode cL_build 31 = .ok (.bipush 13, 2) := by decide +kernel
theorem dL_build_33 : decode cL_build 33 = .ok (.iastore, 1) := by decide +kernel
theorem dL_build_34 : decode cL_build 34 = .ok (.dup, 1) := by decide +kernel
theorem dL_build_35 : decode cL_build 35 = .ok (.iconst 5, 1) := by decide +kernel
theorem dL_build_36 : decode cL_build 36 = .ok (.bipush 7, 2) := by decide +kernel
theorem dL_build_38 : decode cL_build 38 = .ok (.iastore, 1) := by decide +kernel
theorem dL_build_39 : decode cL_build 39 = .ok (.dup, 1) := by decide +kernel
theorem dL_build_40 : decode cL_build 40 = .ok (.bipush 6, 2) := by decide +kernel
theorem dL_build_42 : decode cL_build 42 = .ok (.iconst 1, 1) := by decide +kernel
theorem dL_build_43 : decode cL_build 43 = .ok (.iastore, 1) := by decide +kernel
theorem dL_build_44 : decode cL_build 44 = .ok (.dup, 1) := by decide +kernel
theorem dL_build_45 : decode cL_build 45 = .ok (.bipush 7, 2) := by decide +kernel
theorem dL_build_47 : decode cL_build 47 = .ok (.bipush 8, 2) := by decide +kernel
theorem dL_build_49 : decode cL_build 49 = .ok (.iastore, 1) := by decide +kernel
theorem dL_build_50 : decode cL_build 50 = .ok (.dup, 1) := by decide +kernel
theorem dL_build_51 : decode cL_build 51 = .ok (.bipush 8, 2) := by decide +kernel
theorem dL_build_53 : decode cL_build 53 = .ok (.bipush 12, 2) := by decide +kernel
theorem dL_build_55 : decode cL_build 55 = .ok (.iastore, 1) := by decide +kernel
theorem dL_build_56 : decode cL_build 56 = .ok (.dup, 1) := by decide +kernel
theorem dL_build_57 : decode cL_build 57 = .ok (.bipush 9, 2) := by decide +kernel
theorem dL_build_59 : decode cL_build 59 = .ok (.bipush 13, 2) := by decide +kernel
theorem dL_build_61 : decode cL_build 61 = .ok (.iastore, 1) := by decide +kernel
theorem dL_build_62 : decode cL_build 62 = .ok (.dup, 1) := by decide +kernel
theorem dL_build_63 : decode cL_build 63 = .ok (.bipush 10, 2) := by decide +kernel
theorem dL_build_65 : decode cL_build 65 = .ok (.iconst 2, 1) := by decide +kernel
theorem dL_build_66 : decode cL_build 66 = .ok (.iastore, 1) := by decide +kernel
theorem dL_build_67 : decode cL_build 67 = .ok (.dup, 1) := by decide +kernel
theorem dL_build_68 : decode cL_build 68 = .ok (.bipush 11, 2) := by decide +kernel
theorem dL_build_70 : decode cL_build 70 = .ok (.bipush 9, 2) := by decide +kernel
theorem dL_build_72 : decode cL_build 72 = .ok (.iastore, 1) := by decide +kernel
theorem dL_build_73 : decode cL_build 73 = .ok (.astore_n 3, 1) := by decide +kernel
theorem dL_build_74 : decode cL_build 74 = .ok (.iconst 0, 1) := by decide +kernel
theorem dL_build_75 : decode cL_build 75 = .ok (.istore 4, 2) := by decide +kernel
theorem dL_build_77 : decode cL_build 77 = .ok (.iload 4, 2) := by decide +kernel
theorem dL_build_79 : decode cL_build 79 = .ok (.bipush 44, 2) := by decide +kernel
theorem dL_build_81 : decode cL_build 81 = .ok (.if_icmp .ge 102, 3) := by decide +kernel
theorem dL_build_84 : decode cL_build 84 = .ok (.aload_n 1, 1) := by decide +kernel
theorem dL_build_85 : decode cL_build 85 = .ok (.iload 4, 2) := by decide +kernel
theorem dL_build_87 : decode cL_build 87 = .ok (.bipush 16, 2) := by decide +kernel
theorem dL_build_89 : decode cL_build 89 = .ok (.irem, 1) := by decide +kernel
theorem dL_build_90 : decode cL_build 90 = .ok (.invokestatic 82, 3) := by decide +kernel
theorem dL_build_93 : decode cL_build 93 = .ok (.iload 4, 2) := by decide +kernel
theorem dL_build_95 : decode cL_build 95 = .ok (.bipush 16, 2) := by decide +kernel
theorem dL_build_97 : decode cL_build 97 = .ok (.idiv, 1) := by decide +kernel
theorem dL_build_98 : decode cL_build 98 = .ok (.iconst 5, 1) := by decide +kernel
theorem dL_build_99 : decode cL_build 99 = .ok (.imul, 1) := by decide +kernel
theorem dL_build_100 : decode cL_build 100 = .ok (.ishr, 1) := by decide +kernel
theorem dL_build_101 : decode cL_build 101 = .ok (.bipush 61, 2) := by decide +kernel
theorem dL_build_103 : decode cL_build 103 = .ok (.iload 4, 2) := by decide +kernel
theorem dL_build_105 : decode cL_build 105 = .ok (.imul, 1) := by decide +kernel
theorem dL_build_106 : decode cL_build 106 = .ok (.iadd, 1) := by decide +kernel
theorem dL_build_107 : decode cL_build 107 = .ok (.istore 5, 2) := by decide +kernel
theorem dL_build_109 : decode cL_build 109 = .ok (.iload 4, 2) := by decide +kernel
theorem dL_build_111 : decode cL_build 111 = .ok (.bipush 12, 2) := by decide +kernel
theorem dL_build_113 : decode cL_build 113 = .ok (.if_icmp .ge 20, 3) := by decide +kernel
theorem dL_build_116 : decode cL_build 116 = .ok (.iload 5, 2) := by decide +kernel
theorem dL_build_118 : decode cL_build 118 = .ok (.ldc 86, 2) := by decide +kernel
theorem dL_build_120 : decode cL_build 120 = .ok (.invokestatic 9, 3) := by decide +kernel
theorem dL_build_123 : decode cL_build 123 = .ok (.bipush 15, 2) := by decide +kernel
theorem dL_build_125 : decode cL_build 125 = .ok (.imul, 1) := by decide +kernel
theorem dL_build_126 : decode cL_build 126 = .ok (.aload_n 3, 1) := by decide +kernel
theorem dL_build_127 : decode cL_build 127 = .ok (.iload 4, 2) := by decide +kernel
theorem dL_build_129 : decode cL_build 129 = .ok (.iaload, 1) := by decide +kernel
theorem dL_build_130 : decode cL_build 130 = .ok (.iadd, 1) := by decide +kernel
theorem dL_build_131 : decode cL_build 131 = .ok (.istore 5, 2) := by decide +kernel
theorem dL_build_133 : decode cL_build 133 = .ok (.aload_n 0, 1) := by decide +kernel
theorem dL_build_134 : decode cL_build 134 = .ok (.aload_n 2, 1) := by decide +kernel
theorem dL_build_135 : decode cL_build 135 = .ok (.iload 5, 2) := by decide +kernel
theorem dL_build_137 : decode cL_build 137 = .ok (.invokestatic 87, 3) := by decide +kernel
theorem dL_build_140 : decode cL_build 140 = .ok (.ifCond .ne 5, 3) := by decide +kernel
theorem dL_build_143 : decode cL_build 143 = .ok (.aconst_null, 1) := by decide +kernel
theorem dL_build_144 : decode cL_build 144 = .ok (.areturn, 1) := by decide +kernel
theorem dL_build_145 : decode cL_build 145 = .ok (.iload 4, 2) := by decide +kernel
theorem dL_build_147 : decode cL_build 147 = .ok (.bipush 9, 2) := by decide +kernel
theorem dL_build_149 : decode cL_build 149 = .ok (.if_icmp .le 28, 3) := by decide +kernel
theorem dL_build_152 : decode cL_build 152 = .ok (.iload 5, 2) := by decide +kernel
theorem dL_build_154 : decode cL_build 154 = .ok (.iconst 5, 1) := by decide +kernel
theorem dL_build_155 : decode cL_build 155 = .ok (.ishr, 1) := by decide +kernel
theorem dL_build_156 : decode cL_build 156 = .ok (.iconst 2, 1) := by decide +kernel
theorem dL_build_157 : decode cL_build 157 = .ok (.invokestatic 9, 3) := by decide +kernel
theorem dL_build_160 : decode cL_build 160 = .ok (.ifCond .ne 17, 3) := by decide +kernel
theorem dL_build_163 : decode cL_build 163 = .ok (.aload_n 0, 1) := by decide +kernel
theorem dL_build_164 : decode cL_build 164 = .ok (.iconst 1, 1) := by decide +kernel
theorem dL_build_165 : decode cL_build 165 = .ok (.invokevirtual 91, 3) := by decide +kernel
theorem dL_build_168 : decode cL_build 168 = .ok (.aload_n 2, 1) := by decide +kernel
theorem dL_build_169 : decode cL_build 169 = .ok (.invokevirtual 94, 3) := by decide +kernel
theorem dL_build_172 : decode cL_build 172 = .ok (.if_icmp .eq 5, 3) := by decide +kernel
theorem dL_build_175 : decode cL_build 175 = .ok (.aconst_null, 1) := by decide +kernel
theorem dL_build_176 : decode cL_build 176 = .ok (.areturn, 1) := by decide +kernel
theorem dL_build_177 : decode cL_build 177 = .ok (.iinc 4 1, 3) := by decide +kernel
theorem dL_build_180 : decode cL_build 180 = .ok (.goto (-103), 3) := by decide +kernel
theorem dL_build_183 : decode cL_build 183 = .ok (.aload_n 2, 1) := by decide +kernel
theorem dL_build_184 : decode cL_build 184 = .ok (.areturn, 1) := by decide +kernel
set_option maxRecDepth 20000 in
theorem ggL_law_X6_init : GoodIn wsL_law wsX6_init := goodIn_r _ [19, 20, 21, 22, 23, 24, 25, 26, 27, 28, 29, 30, 31, 32, 33, 34, 35, 36, 37, 38, 39, 40, 41, 42, 43, 44, 45, 46, 47, 48, 49, 50, 51, 8, 52, 53, 54, 55, 56, 57, 58, 59, 60, 61, 62, 63, 64, 65, 9, 66, 67, 68, 69, 70, 71, 72, 73, 74, 75, 76, 77, 78, 79, 80, 81, 82, 83, 84, 85, 86, 87, 88, 89, 90, 91, 606, 607, 608, 609, 610, 611, 612, 613, 614, 593, 594, 595, 596, 597, 598, 599, 615, 616, 617, 618, 619, 620, 621, 622, 623, 624, 625, 626, 627, 628, 629, 630, 631] (by decide +kernel) (by decide +kernel)
set_option maxRecDepth 20000 in
theorem gL_law_X6_init : GoodIn wsL_law (wsX6_init) := ggL_law_X6_init
set_option maxRecDepth 20000 in
theorem ggL_law_L_build : GoodIn wsL_law wsL_build := goodIn_ca (goodIn_ca (goodIn_ca (goodIn_r _ [95, 96, 97, 98, 8, 99, 100, 101, 102, 21, 22, 103, 104, 105, 106, 107, 108, 109, 110, 94, 111, 112, 113, 114, 115, 116, 117, 118, 119, 120, 121, 122, 7, 123, 16, 124, 125, 126, 2, 127, 26, 42, 128, 129, 130, 131, 132, 133, 134, 135, 136, 25, 137, 138, 139, 140, 141, 142, 143, 144, 145, 146, 147, 148, 149, 150, 151, 152, 153, 154, 155, 156, 157, 158, 159, 160, 52, 161, 162, 163, 164, 165, 166, 167, 168, 169, 170, 171, 172, 173, 174, 175, 53, 54, 176, 177, 178, 179, 180, 181, 182, 183, 184, 185, 186, 187, 56, 60, 188, 189, 190, 191, 192, 193, 194, 195, 57, 58, 59, 55, 196, 197, 198, 199, 200, 201, 202, 203, 204, 205, 206, 207, 208, 209, 210, 211, 212, 213, 214, 215, 216, 217, 218, 219, 220, 221, 222, 223, 9, 224, 225, 226, 227, 228, 229, 230, 231, 232, 233, 234, 235, 236, 237, 238, 239, 240, 241, 242, 243, 244, 245, 246, 247, 248, 249, 250, 251, 252, 253, 254, 255, 256, 257, 258, 30, 259, 260, 261, 262, 263, 29, 264, 67, 65, 66, 265, 266, 267, 41, 268, 87, 269, 14, 5, 15, 270, 11, 12, 271, 272, 273, 274, 275, 276, 277, 278, 279, 280, 281, 282, 283, 284, 285, 286, 287, 288, 289, 290, 291, 292, 293, 294, 295, 296, 297, 298, 299, 300, 301, 302, 303, 304, 305, 306, 307, 308, 309, 34, 310, 311, 312, 313, 314, 33, 315, 74, 72, 73, 316, 317, 318, 319, 38, 320, 321, 322, 323, 324, 325, 326, 327, 37, 328, 80, 79, 329, 330, 331, 332, 333, 334, 335, 336, 337, 338, 339, 340, 341, 342, 343, 344, 345, 346, 347, 348, 349, 350, 351, 352, 353, 354, 355, 356, 357, 358, 359, 360, 361, 362, 363, 364, 365, 366, 367, 368, 369, 370, 371, 372, 373, 374, 375, 376, 377, 378, 379, 380, 381, 382, 85, 383, 384, 385, 386, 47, 387, 388, 389, 390, 46, 391, 392, 393, 394, 395, 396, 397, 398, 399, 400, 401, 402, 403, 404, 405, 406, 407, 408, 409, 410, 411, 412, 413, 414, 415, 416, 417, 418, 419, 420, 421, 422, 423, 424, 425, 426, 427, 428, 429, 430, 431, 432, 433, 434, 435, 436, 437, 438, 439, 440, 441, 442, 443, 444, 445, 88, 446, 447, 448, 449, 450, 451, 452, 453, 454, 455, 456, 457, 458, 459, 460, 461, 462, 463, 464, 465, 600, 601, 602, 603, 604, 605, 593, 594, 595, 596, 597, 598, 599, 623, 624, 625, 626, 606, 607, 608, 609, 610, 611, 612, 613, 614, 615, 616, 617, 618, 619, 620, 621, 622, 627, 628, 629, 630, 631] (by decide +kernel) (by decide +kernel)) (goodIn_sub (fun _ h => List.mem_append_left _ (List.mem_append_left _ (List.mem_append_right _ h))) (by decide +kernel))) (goodIn_sub (fun _ h => List.mem_append_left _ (List.mem_append_right _ h)) (by decide +kernel))) (goodIn_sub (fun _ h => List.mem_append_right _ h) (by decide +kernel))
set_option maxRecDepth 20000 in
theorem gL_law_L_build : GoodIn wsL_law (va_wsS RL 98 yL_build wsL_build) := goodIn_app (goodIn_of _ (by decide +kernel)) ggL_law_L_build
set_option maxRecDepth 20000 in
theorem ggL_law_L_cell : GoodIn wsL_law wsL_cell := goodIn_r _ [111, 112] (by decide +kernel) (by decide +kernel)
set_option maxRecDepth 20000 in
theorem gL_law_L_cell : GoodIn wsL_law (va_wsS RL 82 yL_cell wsL_cell) := goodIn_app (goodIn_of _ (by decide +kernel)) ggL_law_L_cell
set_option maxRecDepth 20000 in
theorem ggL_law_X6_count : GoodIn wsL_law wsX6_count := goodIn_ca (goodIn_r _ [469, 42, 361, 26, 470, 30, 34, 310, 38, 320, 471, 472, 473, 2, 474, 133, 134, 379, 380, 381, 41, 382, 85, 475, 476, 477, 25, 478, 52, 479, 480, 481, 29, 482, 67, 483, 287, 288, 289, 66, 290, 291, 292, 293, 484, 485, 486, 487, 128, 488, 489, 490, 491, 432, 303, 304, 305, 87, 492, 493, 494, 495, 88, 593, 594, 595, 596, 597, 598, 599, 623, 624, 625, 626, 606, 607, 608, 609, 610, 611, 612, 613, 614, 618, 619, 620, 621, 622, 615, 616, 617] (by decide +kernel) (by decide +kernel)) (goodIn_sub (fun _ h => List.mem_append_left _ (List.mem_append_left _ (List.mem_append_right _ h))) (by decide +kernel))
set_option maxRecDepth 20000 in
theorem gL_law_X6_count : GoodIn wsL_law (wsV RL 102 RX6 yX6_count wsX6_count) := goodIn_app (goodIn_of _ (by decide +kernel)) ggL_law_X6_count
set_option maxRecDepth 20000 in
theorem ggL_law_L_act : GoodIn wsL_law wsL_act := goodIn_ca (goodIn_ca (goodIn_ca (goodIn_r _ [119, 120, 121, 122, 8, 7, 123, 16, 113, 114, 94, 115, 116, 124, 125, 126, 2, 127, 26, 42, 128, 129, 130, 131, 132, 133, 134, 135, 136, 25, 137, 138, 139, 140, 141, 142, 143, 144, 145, 146, 147, 148, 149, 150, 151, 152, 153, 154, 155, 156, 157, 158, 159, 160, 52, 161, 162, 163, 164, 165, 166, 167, 168, 169, 170, 171, 172, 173, 174, 175, 53, 54, 176, 177, 178, 179, 180, 181, 182, 183, 184, 185, 186, 187, 56, 60, 188, 189, 190, 191, 192, 193, 194, 195, 57, 58, 59, 55, 196, 197, 198, 199, 200, 201, 202, 203, 204, 205, 206, 207, 208, 209, 210, 211, 212, 213, 214, 215, 216, 217, 218, 219, 220, 221, 98, 222, 223, 9, 104, 224, 225, 226, 227, 228, 229, 230, 231, 232, 233, 234, 235, 236, 237, 238, 239, 240, 241, 242, 243, 244, 245, 246, 247, 248, 249, 250, 251, 252, 253, 254, 255, 256, 257, 258, 30, 259, 260, 261, 262, 263, 29, 264, 67, 65, 66, 265, 266, 267, 41, 268, 87, 269, 14, 5, 15, 270, 11, 12, 271, 272, 273, 274, 275, 276, 277, 105, 278, 279, 280, 281, 282, 283, 284, 285, 286, 287, 288, 289, 290, 291, 292, 293, 294, 295, 296, 297, 298, 299, 300, 301, 302, 303, 304, 305, 306, 307, 308, 309, 34, 310, 311, 312, 313, 314, 33, 315, 74, 72, 73, 316, 317, 318, 319, 38, 320, 321, 322, 323, 324, 325, 326, 327, 37, 328, 80, 79, 329, 330, 331, 332, 333, 334, 335, 336, 337, 338, 339, 340, 341, 342, 343, 344, 345, 346, 347, 348, 600, 601, 602, 603, 604, 605, 593, 594, 595, 596, 597, 598, 599, 623, 624, 625, 626, 606, 607, 608, 609, 610, 611, 612, 613, 614, 615, 616, 617, 618, 619, 620, 621, 622] (by decide +kernel) (by decide +kernel)) (goodIn_sub (fun _ h => List.mem_append_left _ (List.mem_append_left _ (List.mem_append_right _ h))) (by decide +kernel))) (goodIn_sub (fun _ h => List.mem_append_left _ (List.mem_append_right _ h)) (by decide +kernel))) (goodIn_sub (fun _ h => List.mem_append_right _ h) (by decide +kernel))
set_option maxRecDepth 20000 in
theorem gL_law_L_act : GoodIn wsL_law (va_wsS RL 87 yL_act wsL_act) := goodIn_app (goodIn_of _ (by decide +kernel)) ggL_law_L_act
set_option maxRecDepth 20000 in
theorem ggL_law_X6_cell : GoodIn wsL_law wsX6_cell := goodIn_ca (goodIn_r _ [499, 26, 129, 130, 131, 2, 132, 133, 134, 135, 136, 25, 137, 471, 472, 473, 474, 144, 145, 146, 419, 158, 159, 160, 52, 161, 162, 163, 420, 421, 422, 423, 53, 243, 244, 245, 246, 54, 211, 212, 213, 214, 57, 215, 216, 217, 218, 56, 500, 371, 372, 373, 58, 593, 594, 595, 596, 597, 598, 599, 606, 607, 608, 609, 610, 611, 612, 613, 614] (by decide +kernel) (by decide +kernel)) (goodIn_sub (fun _ h => List.mem_append_left _ (List.mem_append_left _ (List.mem_append_right _ h))) (by decide +kernel))
set_option maxRecDepth 20000 in
theorem gL_law_X6_cell : GoodIn wsL_law (wsV RL 110 RX6 yX6_cell wsX6_cell) := goodIn_app (goodIn_of _ (by decide +kernel)) ggL_law_X6_cell
set_option maxRecDepth 20000 in
theorem ggL_law_X6_told : GoodIn wsL_law wsX6_told := goodIn_ca (goodIn_r _ [504, 30, 42, 282, 283, 284, 2, 285, 133, 134, 259, 471, 472, 473, 474, 298, 299, 300, 29, 301, 65, 290, 291, 292, 293, 67, 302, 303, 304, 41, 305, 87, 286, 287, 288, 289, 66, 505, 506, 507, 508, 593, 594, 595, 596, 597, 598, 599, 615, 616, 617, 623, 624, 625, 626] (by decide +kernel) (by decide +kernel)) (goodIn_sub (fun _ h => List.mem_append_left _ (List.mem_append_left _ (List.mem_append_right _ h))) (by decide +kernel))
set_option maxRecDepth 20000 in
theorem gL_law_X6_told : GoodIn wsL_law (wsV RL 112 RX6 yX6_told wsX6_told) := goodIn_app (goodIn_of _ (by decide +kernel)) ggL_law_X6_told
set_option maxRecDepth 20000 in
theorem ggL_law_X6_lines : GoodIn wsL_law wsX6_lines := goodIn_ca (goodIn_r _ [512, 42, 333, 334, 335, 2, 336, 133, 134, 38, 320, 513, 514, 515, 41, 516, 88, 593, 594, 595, 596, 597, 598, 599, 621, 622, 623, 624, 625, 626] (by decide +kernel) (by decide +kernel)) (goodIn_sub (fun _ h => List.mem_append_left _ (List.mem_append_left _ (List.mem_append_right _ h))) (by decide +kernel))
set_option maxRecDepth 20000 in
theorem gL_law_X6_lines : GoodIn wsL_law (wsV RL 115 RX6 yX6_lines wsX6_lines) := goodIn_app (goodIn_of _ (by decide +kernel)) ggL_law_X6_lines
set_option maxRecDepth 20000 in
theorem ggL_law_X6_about : GoodIn wsL_law wsX6_about := goodIn_ca (goodIn_r _ [520, 42, 47, 418, 521, 522, 387, 38, 321, 322, 323, 2, 324, 133, 134, 34, 310, 471, 472, 473, 474, 383, 384, 385, 386, 26, 388, 389, 390, 46, 391, 392, 393, 394, 395, 396, 397, 398, 399, 33, 400, 73, 401, 402, 403, 404, 74, 405, 406, 407, 408, 72, 409, 201, 202, 25, 203, 204, 205, 161, 162, 163, 206, 207, 208, 209, 136, 137, 210, 145, 146, 410, 411, 412, 413, 157, 158, 159, 160, 52, 414, 415, 416, 417, 30, 419, 420, 421, 422, 423, 53, 243, 244, 245, 246, 54, 424, 425, 426, 427, 428, 429, 430, 29, 431, 67, 65, 66, 432, 303, 304, 41, 305, 87, 433, 434, 435, 436, 437, 438, 439, 440, 441, 523, 524, 525, 37, 526, 80, 527, 338, 339, 340, 79, 341, 342, 343, 344, 593, 594, 595, 596, 597, 598, 599, 627, 628, 629, 630, 631, 618, 619, 620, 606, 607, 608, 609, 610, 611, 612, 613, 614, 615, 616, 617, 623, 624, 625, 626, 621, 622] (by decide +kernel) (by decide +kernel)) (goodIn_sub (fun _ h => List.mem_append_left _ (List.mem_append_left _ (List.mem_append_right _ h))) (by decide +kernel))
set_option maxRecDepth 20000 in
theorem gL_law_X6_about : GoodIn wsL_law (wsV RL 118 RX6 yX6_about wsX6_about) := goodIn_app (goodIn_of _ (by decide +kernel)) ggL_law_X6_about
set_option maxRecDepth 20000 in
theorem ggL_law_X6_finest : GoodIn wsL_law wsX6_finest := goodIn_r _ [531, 34, 310, 42, 383, 384, 385, 2, 386, 47, 26, 387, 388, 389, 390, 46, 391, 392, 393, 394, 395, 396, 397, 398, 399, 33, 400, 73, 401, 402, 403, 404, 74, 405, 406, 407, 408, 72, 409, 201, 202, 25, 203, 204, 205, 161, 162, 163, 206, 207, 208, 209, 136, 137, 210, 145, 146, 410, 411, 412, 413, 157, 158, 159, 160, 52, 414, 415, 416, 417, 418, 30, 419, 420, 421, 422, 423, 53, 243, 244, 245, 246, 54, 424, 425, 426, 427, 428, 429, 430, 29, 431, 67, 65, 66, 432, 303, 304, 41, 305, 87, 433, 434, 435, 436, 437, 438, 439, 440, 441, 593, 594, 595, 596, 597, 598, 599, 618, 619, 620, 627, 628, 629, 630, 631, 606, 607, 608, 609, 610, 611, 612, 613, 614, 615, 616, 617, 623, 624, 625, 626] (by decide +kernel) (by decide +kernel)
set_option maxRecDepth 20000 in
theorem gL_law_X6_finest : GoodIn wsL_law (wsV RL 124 RX6 yX6_finest wsX6_finest) := goodIn_app (goodIn_of _ (by decide +kernel)) ggL_law_X6_finest
set_option maxRecDepth 20000 in
theorem ggL_law_X6_digest : GoodIn wsL_law wsX6_digest := goodIn_ca (goodIn_r _ [535, 536, 537, 38, 320, 538, 467, 468, 2, 469, 42, 361, 26, 470, 30, 34, 310, 471, 472, 473, 474, 133, 134, 379, 380, 381, 41, 382, 85, 475, 476, 477, 25, 478, 52, 479, 480, 481, 29, 482, 67, 483, 287, 288, 289, 66, 290, 291, 292, 293, 484, 485, 486, 487, 128, 488, 489, 490, 491, 432, 303, 304, 305, 87, 492, 493, 494, 495, 88, 539, 540, 541, 542, 543, 497, 498, 499, 129, 130, 131, 132, 135, 136, 137, 144, 145, 146, 419, 158, 159, 160, 161, 162, 163, 420, 421, 422, 423, 53, 243, 244, 245, 246, 54, 211, 212, 213, 214, 57, 215, 216, 217, 218, 56, 500, 371, 372, 373, 58, 544, 545, 546, 547, 259, 548, 502, 503, 504, 282, 283, 284, 285, 298, 299, 300, 301, 65, 302, 286, 505, 506, 507, 508, 549, 550, 551, 552, 553, 518, 519, 520, 47, 418, 521, 522, 387, 321, 322, 323, 324, 383, 384, 385, 386, 388, 389, 390, 46, 391, 392, 393, 394, 395, 396, 397, 398, 399, 33, 400, 73, 401, 402, 403, 404, 74, 405, 406, 407, 408, 72, 409, 201, 202, 203, 204, 205, 206, 207, 208, 209, 210, 410, 411, 412, 413, 157, 414, 415, 416, 417, 424, 425, 426, 427, 428, 429, 430, 431, 433, 434, 435, 436, 437, 438, 439, 440, 441, 523, 524, 525, 37, 526, 80, 527, 338, 339, 340, 79, 341, 342, 343, 344, 554, 510, 511, 512, 333, 334, 335, 336, 513, 514, 515, 516, 593, 594, 595, 596, 597, 598, 599, 621, 622, 623, 624, 625, 626, 606, 607, 608, 609, 610, 611, 612, 613, 614, 618, 619, 620, 615, 616, 617, 627, 628, 629, 630, 631] (by decide +kernel) (by decide +kernel)) (goodIn_sub (fun _ h => List.mem_append_left _ (List.mem_append_left _ (List.mem_append_right _ h))) (by decide +kernel))
set_option maxRecDepth 20000 in
theorem gL_law_X6_digest : GoodIn wsL_law (wsV RL 127 RX6 yX6_digest wsX6_digest) := goodIn_app (goodIn_of _ (by decide +kernel)) ggL_law_X6_digest
set_option maxRecDepth 20000 in
theorem ggL_law_X6_foresee : GoodIn wsL_law wsX6_foresee := goodIn_ca (goodIn_ca (goodIn_r _ [558, 133, 134, 43, 42, 353, 354, 355, 2, 356, 142, 143, 559, 560, 561, 41, 562, 85, 86, 87, 88, 357, 358, 359, 360, 128, 361, 362, 363, 364, 365, 30, 259, 26, 286, 287, 288, 29, 289, 66, 290, 291, 292, 293, 67, 298, 299, 300, 301, 65, 366, 367, 368, 25, 369, 370, 371, 372, 373, 58, 215, 216, 217, 218, 56, 161, 162, 163, 374, 212, 213, 214, 57, 302, 303, 304, 305, 265, 266, 267, 268, 269, 14, 5, 15, 270, 11, 12, 375, 376, 377, 378, 38, 320, 379, 380, 381, 382, 337, 338, 339, 37, 340, 79, 341, 342, 343, 344, 80, 383, 384, 385, 386, 47, 34, 387, 388, 389, 390, 46, 391, 392, 393, 394, 395, 396, 397, 398, 399, 33, 400, 73, 401, 402, 403, 404, 74, 405, 406, 407, 408, 72, 409, 201, 202, 203, 204, 205, 206, 207, 208, 209, 136, 137, 210, 145, 146, 410, 411, 412, 413, 157, 158, 159, 160, 52, 414, 415, 416, 417, 418, 419, 420, 421, 422, 423, 53, 243, 244, 245, 246, 54, 424, 425, 426, 427, 428, 429, 430, 431, 432, 433, 434, 435, 436, 437, 438, 439, 440, 441, 442, 443, 444, 445, 484, 485, 486, 487, 488, 489, 490, 491, 483, 492, 493, 494, 495, 593, 594, 595, 596, 597, 598, 599, 623, 624, 625, 626, 615, 616, 617, 606, 607, 608, 609, 610, 611, 612, 613, 614, 621, 622, 627, 628, 629, 630, 631, 618, 619, 620] (by decide +kernel) (by decide +kernel)) (goodIn_sub (fun _ h => List.mem_append_left _ (List.mem_append_left _ (List.mem_append_right _ h))) (by decide +kernel))) (goodIn_sub (fun _ h => List.mem_append_left _ (List.mem_append_right _ h)) (by decide +kernel))
set_option maxRecDepth 20000 in
theorem gL_law_X6_foresee : GoodIn wsL_law (wsV RL 131 RX6 yX6_foresee wsX6_foresee) := goodIn_app (goodIn_of _ (by decide +kernel)) ggL_law_X6_foresee
set_option maxRecDepth 20000 in
theorem ggL_law_L_below : GoodIn wsL_law wsL_below := goodIn_r _ [115, 116] (by decide +kernel) (by decide +kernel)
set_option maxRecDepth 20000 in
theorem gL_law_L_below : GoodIn wsL_law (va_wsS RL 9 yL_below wsL_below) := goodIn_app (goodIn_of _ (by decide +kernel)) ggL_law_L_below
set_option maxRecDepth 20000 in
theorem ggL_law_X6_advise : GoodIn wsL_law wsX6_advise := goodIn_ca (goodIn_ca (goodIn_r _ [566, 42, 26, 321, 322, 323, 2, 324, 133, 134, 34, 310, 138, 139, 140, 141, 142, 143, 383, 384, 385, 386, 47, 387, 388, 389, 390, 46, 391, 392, 393, 394, 395, 396, 397, 398, 399, 33, 400, 73, 401, 402, 403, 404, 74, 405, 406, 407, 408, 72, 409, 201, 202, 25, 203, 204, 205, 161, 162, 163, 206, 207, 208, 209, 136, 137, 210, 145, 146, 410, 411, 412, 413, 157, 158, 159, 160, 52, 414, 415, 416, 417, 418, 30, 419, 420, 421, 422, 423, 53, 243, 244, 245, 246, 54, 424, 425, 426, 427, 428, 429, 430, 29, 431, 67, 65, 66, 432, 303, 304, 41, 305, 87, 433, 434, 435, 436, 437, 438, 439, 440, 441, 153, 154, 155, 156, 567, 568, 569, 570, 168, 169, 170, 171, 172, 173, 174, 175, 571, 572, 573, 574, 593, 594, 595, 596, 597, 598, 599, 618, 619, 620, 627, 628, 629, 630, 631, 606, 607, 608, 609, 610, 611, 612, 613, 614, 615, 616, 617, 623, 624, 625, 626] (by decide +kernel) (by decide +kernel)) (goodIn_sub (fun _ h => List.mem_append_left _ (List.mem_append_left _ (List.mem_append_right _ h))) (by decide +kernel))) (goodIn_sub (fun _ h => List.mem_append_left _ (List.mem_append_right _ h)) (by decide +kernel))
set_option maxRecDepth 20000 in
theorem gL_law_X6_advise : GoodIn wsL_law (wsV RL 134 RX6 yX6_advise wsX6_advise) := goodIn_app (goodIn_of _ (by decide +kernel)) ggL_law_X6_advise
set_option maxRecDepth 20000 in
theorem ggL_law_X6_pass : GoodIn wsL_law wsX6_pass := goodIn_ca (goodIn_r _ [352, 42, 353, 354, 355, 2, 356, 142, 143, 357, 358, 359, 360, 128, 361, 362, 363, 364, 365, 30, 259, 26, 286, 287, 288, 29, 289, 66, 290, 291, 292, 293, 67, 298, 299, 300, 301, 65, 366, 367, 368, 25, 369, 370, 371, 372, 373, 58, 215, 216, 217, 218, 56, 161, 162, 163, 374, 212, 213, 214, 57, 302, 303, 304, 41, 305, 87, 265, 266, 267, 268, 269, 14, 5, 15, 270, 11, 12, 375, 376, 377, 378, 38, 320, 379, 380, 381, 382, 85, 337, 338, 339, 37, 340, 79, 341, 342, 343, 344, 80, 383, 384, 385, 386, 47, 34, 387, 388, 389, 390, 46, 391, 392, 393, 394, 395, 396, 397, 398, 399, 33, 400, 73, 401, 402, 403, 404, 74, 405, 406, 407, 408, 72, 409, 201, 202, 203, 204, 205, 206, 207, 208, 209, 136, 137, 210, 145, 146, 410, 411, 412, 413, 157, 158, 159, 160, 52, 414, 415, 416, 417, 418, 419, 420, 421, 422, 423, 53, 243, 244, 245, 246, 54, 424, 425, 426, 427, 428, 429, 430, 431, 432, 433, 434, 435, 436, 437, 438, 439, 440, 441, 442, 443, 444, 445, 88, 593, 594, 595, 596, 597, 598, 599, 623, 624, 625, 626, 615, 616, 617, 606, 607, 608, 609, 610, 611, 612, 613, 614, 621, 622, 627, 628, 629, 630, 631, 618, 619, 620] (by decide +kernel) (by decide +kernel)) (goodIn_sub (fun _ h => List.mem_append_left _ (List.mem_append_right _ h)) (by decide +kernel))
set_option maxRecDepth 20000 in
theorem gL_law_X6_pass : GoodIn wsL_law (wsV RL 91 RX6 yX6_pass wsX6_pass) := goodIn_app (goodIn_of _ (by decide +kernel)) ggL_law_X6_pass
set_option maxRecDepth 20000 in
theorem ggL_law_X7_pass : GoodIn wsL_law wsX7_pass := goodIn_r _ [449, 106, 108, 107, 450, 103, 451, 220, 221, 98, 222, 223, 9, 104, 452, 453, 454, 455, 456, 225, 226, 457, 458, 459, 460, 461, 462, 463, 464, 105, 8, 465, 276, 277, 600, 601, 602, 603, 604, 605] (by decide +kernel) (by decide +kernel)
set_option maxRecDepth 20000 in
theorem gL_law_X7_pass : GoodIn wsL_law (wsV RL 94 RX7 yX7_pass wsX7_pass) := goodIn_app (goodIn_of _ (by decide +kernel)) ggL_law_X7_pass
set_option maxRecDepth 20000 in
theorem ggL_law_X7_isSame : GoodIn wsL_law wsX7_isSame := goodIn_ca (goodIn_r _ [578, 104, 8, 106, 107, 108, 451, 220, 221, 98, 222, 223, 9, 456, 225, 226, 452, 453, 454, 455, 579, 497, 498, 2, 499, 26, 129, 130, 131, 132, 133, 134, 135, 136, 25, 137, 471, 472, 473, 474, 144, 145, 146, 419, 158, 159, 160, 52, 161, 162, 163, 420, 421, 422, 423, 53, 243, 244, 245, 246, 54, 211, 212, 213, 214, 57, 215, 216, 217, 218, 56, 500, 371, 372, 373, 58, 580, 502, 503, 504, 30, 42, 282, 283, 284, 285, 259, 298, 299, 300, 29, 301, 65, 290, 291, 292, 293, 67, 302, 303, 304, 41, 305, 87, 286, 287, 288, 289, 66, 505, 506, 507, 508, 461, 462, 463, 464, 105, 465, 276, 277, 457, 458, 459, 460, 581, 518, 519, 520, 47, 418, 521, 522, 387, 38, 321, 322, 323, 324, 34, 310, 383, 384, 385, 386, 388, 389, 390, 46, 391, 392, 393, 394, 395, 396, 397, 398, 399, 33, 400, 73, 401, 402, 403, 404, 74, 405, 406, 407, 408, 72, 409, 201, 202, 203, 204, 205, 206, 207, 208, 209, 210, 410, 411, 412, 413, 157, 414, 415, 416, 417, 424, 425, 426, 427, 428, 429, 430, 431, 432, 433, 434, 435, 436, 437, 438, 439, 440, 441, 523, 524, 525, 37, 526, 80, 527, 338, 339, 340, 79, 341, 342, 343, 344, 582, 510, 511, 512, 333, 334, 335, 336, 320, 513, 514, 515, 516, 88, 583, 584, 585, 586, 450, 103, 587, 467, 468, 469, 361, 470, 379, 380, 381, 382, 85, 475, 476, 477, 478, 479, 480, 481, 482, 483, 484, 485, 486, 487, 128, 488, 489, 490, 491, 492, 493, 494, 495, 588, 529, 530, 531, 589, 590, 591, 592, 600, 601, 602, 603, 604, 605, 593, 594, 595, 596, 597, 598, 599, 606, 607, 608, 609, 610, 611, 612, 613, 614, 615, 616, 617, 623, 624, 625, 626, 627, 628, 629, 630, 631, 618, 619, 620, 621, 622] (by decide +kernel) (by decide +kernel)) (goodIn_sub (fun _ h => List.mem_append_left _ (List.mem_append_left _ (List.mem_append_right _ h))) (by decide +kernel))
set_option maxRecDepth 20000 in
theorem gL_law_X7_isSame : GoodIn wsL_law (wsV RL 140 RX7 yX7_isSame wsX7_isSame) := goodIn_app (goodIn_of _ (by decide +kernel)) ggL_law_X7_isSame
theorem dL_law_0 : decode cL_law 0 = .ok (.new 26, 3) := by decide +kernel
theorem dL_law_3 : decode cL_law 3 = .ok (.dup, 1) := by decide +kernel
theorem dL_law_4 : decode cL_law 4 = .ok (.invokespecial 97, 3) := by decide +kernel
theorem dL_law_7 : decode cL_law 7 = .ok (.astore_n 1, 1) := by decide +kernel
theorem dL_law_8 : decode cL_law 8 = .ok (.aload_n 1, 1) := by decide +kernel
theorem dL_law_9 : decode cL_law 9 = .ok (.aload_n 0, 1) := by decide +kernel
theorem dL_law_10 : decode cL_law 10 = .ok (.invokestatic 98, 3) := by decide +kernel
theorem dL_law_13 : decode cL_law 13 = .ok (.astore_n 2, 1) := by decide +kernel
theorem dL_law_14 : decode cL_law 14 = .ok (.aload_n 2, 1) := by decide +kernel
theorem dL_law_15 : decode cL_law 15 = .ok (.ifnonnull 5, 3) := by decide +kernel
theorem dL_law_18 : decode cL_law 18 = .ok (.iconst 0, 1) := by decide +kernel
theorem dL_law_19 : decode cL_law 19 = .ok (.ireturn, 1) := by decide +kernel
theorem dL_law_20 : decode cL_law 20 = .ok (.iconst 0, 1) := by decide +kernel
theorem dL_law_21 : decode cL_law 21 = .ok (.istore_n 3, 1) := by decide +kernel
theorem dL_law_22 : decode cL_law 22 = .ok (.iload_n 3, 1) := by decide +kernel
theorem dL_law_23 : decode cL_law 23 = .ok (.bipush 40, 2) := by decide +kernel
theorem dL_law_25 : decode cL_law 25 = .ok (.if_icmp .ge 1374, 3) := by decide +kernel
theorem dL_law_28 : decode cL_law 28 = .ok (.aload_n 0, 1) := by decide +kernel
theorem dL_law_29 : decode cL_law 29 = .ok (.iload_n 3, 1) := by decide +kernel
theorem dL_law_30 : decode cL_law 30 = .ok (.bipush 16, 2) := by decide +kernel
theorem dL_law_32 : decode cL_law 32 = .ok (.irem, 1) := by decide +kernel
theorem dL_law_33 : decode cL_law 33 = .ok (.invokestatic 82, 3) := by decide +kernel
theorem dL_law_36 : decode cL_law 36 = .ok (.iload_n 3, 1) := by decide +kernel
theorem dL_law_37 : decode cL_law 37 = .ok (.bipush 16, 2) := by decide +kernel
theorem dL_law_39 : decode cL_law 39 = .ok (.idiv, 1) := by decide +kernel
theorem dL_law_40 : decode cL_law 40 = .ok (.iconst 5, 1) := by decide +kernel
theorem dL_law_41 : decode cL_law 41 = .ok (.imul, 1) := by decide +kernel
theorem dL_law_42 : decode cL_law 42 = .ok (.ishr, 1) := by decide +kernel
theorem dL_law_43 : decode cL_law 43 = .ok (.bipush 59, 2) := by decide +kernel
theorem dL_law_45 : decode cL_law 45 = .ok (.iload_n 3, 1) := by decide +kernel
theorem dL_law_46 : decode cL_law 46 = .ok (.imul, 1) := by decide +kernel
theorem dL_law_47 : decode cL_law 47 = .ok (.iadd, 1) := by decide +kernel
theorem dL_law_48 : decode cL_law 48 = .ok (.istore 4, 2) := by decide +kernel
theorem dL_law_50 : decode cL_law 50 = .ok (.aload_n 1, 1) := by decide +kernel
theorem dL_law_51 : decode cL_law 51 = .ok (.iconst 2, 1) := by decide +kernel
theorem dL_law_52 : decode cL_law 52 = .ok (.invokevirtual 102, 3) := by decide +kernel
theorem dL_law_55 : decode cL_law 55 = .ok (.istore 5, 2) := by decide +kernel
theorem dL_law_57 : decode cL_law 57 = .ok (.aload_n 1, 1) := by decide +kernel
theorem dL_law_58 : decode cL_law 58 = .ok (.aload_n 2, 1) := by decide +kernel
theorem dL_law_59 : decode cL_law 59 = .ok (.iload 4, 2) := by decide +kernel
theorem dL_law_61 : decode cL_law 61 = .ok (.iconst 2, 1) := by decide +kernel
theorem dL_law_62 : decode cL_law 62 = .ok (.idiv, 1) := by decide +kernel
theorem dL_law_63 : decode cL_law 63 = .ok (.invokestatic 87, 3) := by decide +kernel
theorem dL_law_66 : decode cL_law 66 = .ok (.ifCond .ne 5, 3) := by decide +kernel
theorem dL_law_69 : decode cL_law 69 = .ok (.iconst 0, 1) := by decide +kernel
theorem dL_law_70 : decode cL_law 70 = .ok (.ireturn, 1) := by decide +kernel
theorem dL_law_71 : decode cL_law 71 = .ok (.aload_n 1, 1) := by decide +kernel
theorem dL_law_72 : decode cL_law 72 = .ok (.iconst 2, 1) := by decide +kernel
theorem dL_law_73 : decode cL_law 73 = .ok (.invokevirtual 102, 3) := by decide +kernel
theorem dL_law_76 : decode cL_law 76 = .ok (.ifCond .lt 19, 3) := by decide +kernel
theorem dL_law_79 : decode cL_law 79 = .ok (.aload_n 1, 1) := by decide +kernel
theorem dL_law_80 : decode cL_law 80 = .ok (.iconst 2, 1) := by decide +kernel
theorem dL_law_81 : decode cL_law 81 = .ok (.invokevirtual 102, 3) := by decide +kernel
theorem dL_law_84 : decode cL_law 84 = .ok (.iload 5, 2) := by decide +kernel
theorem dL_law_86 : decode cL_law 86 = .ok (.isub, 1) := by decide +kernel
theorem dL_law_87 : decode cL_law 87 = .ok (.invokestatic 105, 3) := by decide +kernel
theorem dL_law_90 : decode cL_law 90 = .ok (.bipush 21, 2) := by decide +kernel
theorem dL_law_92 : decode cL_law 92 = .ok (.if_icmp .le 5, 3) := by decide +kernel
theorem dL_law_95 : decode cL_law 95 = .ok (.iconst 0, 1) := by decide +kernel
theorem dL_law_96 : decode cL_law 96 = .ok (.ireturn, 1) := by decide +kernel
theorem dL_law_97 : decode cL_law 97 = .ok (.aload_n 2, 1) := by decide +kernel
theorem dL_law_98 : decode cL_law 98 = .ok (.getfield 47, 3) := by decide +kernel
theorem dL_law_101 : decode cL_law 101 = .ok (.arraylength, 1) := by decide +kernel
theorem dL_law_102 : decode cL_law 102 = .ok (.istore 6, 2) := by decide +kernel
theorem dL_law_104 : decode cL_law 104 = .ok (.aload_n 1, 1) := by decide +kernel
theorem dL_law_105 : decode cL_law 105 = .ok (.bipush 8, 2) := by decide +kernel
theorem dL_law_107 : decode cL_law 107 = .ok (.invokevirtual 102, 3) := by decide +kernel
theorem dL_law_110 : decode cL_law 110 = .ok (.istore 7, 2) := by decide +kernel
theorem dL_law_112 : decode cL_law 112 = .ok (.aload_n 1, 1) := by decide +kernel
theorem dL_law_113 : decode cL_law 113 = .ok (.bipush 9, 2) := by decide +kernel
theorem dL_law_115 : decode cL_law 115 = .ok (.invokevirtual 102, 3) := by decide +kernel
theorem dL_law_118 : decode cL_law 118 = .ok (.istore 8, 2) := by decide +kernel
theorem dL_law_120 : decode cL_law 120 = .ok (.iconst 0, 1) := by decide +kernel
theorem dL_law_121 : decode cL_law 121 = .ok (.istore 9, 2) := by decide +kernel
theorem dL_law_123 : decode cL_law 123 = .ok (.iconst 0, 1) := by decide +kernel
theorem dL_law_124 : decode cL_law 124 = .ok (.istore 10, 2) := by decide +kernel
theorem dL_law_126 : decode cL_law 126 = .ok (.iconst 0, 1) := by decide +kernel
theorem dL_law_127 : decode cL_law 127 = .ok (.istore 11, 2) := by decide +kernel
theorem dL_law_129 : decode cL_law 129 = .ok (.iconst 0, 1) := by decide +kernel
theorem dL_law_130 : decode cL_law 130 = .ok (.istore 12, 2) := by decide +kernel
theorem dL_law_132 : decode cL_law 132 = .ok (.iload 12, 2) := by decide +kernel
theorem dL_law_134 : decode cL_law 134 = .ok (.bipush 7, 2) := by decide +kernel
theorem dL_law_136 : decode cL_law 136 = .ok (.if_icmp .ge 321, 3) := by decide +kernel
theorem dL_law_139 : decode cL_law 139 = .ok (.iconst 0, 1) := by decide +kernel
theorem dL_law_140 : decode cL_law 140 = .ok (.istore 13, 2) := by decide +kernel
theorem dL_law_142 : decode cL_law 142 = .ok (.iload 13, 2) := by decide +kernel
theorem dL_law_144 : decode cL_law 144 = .ok (.bipush 10, 2) := by decide +kernel
theorem dL_law_146 : decode cL_law 146 = .ok (.if_icmp .ge 305, 3) := by decide +kernel
theorem dL_law_149 : decode cL_law 149 = .ok (.aload_n 1, 1) := by decide +kernel
theorem dL_law_150 : decode cL_law 150 = .ok (.iload 13, 2) := by decide +kernel
theorem dL_law_152 : decode cL_law 152 = .ok (.iload 12, 2) := by decide +kernel
theorem dL_law_154 : decode cL_law 154 = .ok (.iconst 0, 1) := by decide +kernel
theorem dL_law_155 : decode cL_law 155 = .ok (.invokevirtual 110, 3) := by decide +kernel
theorem dL_law_158 : decode cL_law 158 = .ok (.istore 14, 2) := by decide +kernel
theorem dL_law_160 : decode cL_law 160 = .ok (.iload 9, 2) := by decide +kernel
theorem dL_law_162 : decode cL_law 162 = .ok (.iload 14, 2) := by decide +kernel
theorem dL_law_164 : decode cL_law 164 = .ok (.iconst 2, 1) := by decide +kernel
theorem dL_law_165 : decode cL_law 165 = .ok (.if_icmp .ne 7, 3) := by decide +kernel
theorem dL_law_168 : decode cL_law 168 = .ok (.iconst 1, 1) := by decide +kernel
theorem dL_law_169 : decode cL_law 169 = .ok (.goto 4, 3) := by decide +kernel
theorem dL_law_172 : decode cL_law 172 = .ok (.iconst 0, 1) := by decide +kernel
theorem dL_law_173 : decode cL_law 173 = .ok (.iadd, 1) := by decide +kernel
theorem dL_law_174 : decode cL_law 174 = .ok (.istore 9, 2) := by decide +kernel
theorem dL_law_176 : decode cL_law 176 = .ok (.iload 10, 2) := by decide +kernel
theorem dL_law_178 : decode cL_law 178 = .ok (.iload 14, 2) := by decide +kernel
theorem dL_law_180 : decode cL_law 180 = .ok (.iconst 1, 1) := by decide +kernel
theorem dL_law_181 : decode cL_law 181 = .ok (.if_icmp .ne 7, 3) := by decide +kernel
theorem dL_law_184 : decode cL_law 184 = .ok (.iconst 1, 1) := by decide +kernel
theorem dL_law_185 : decode cL_law 185 = .ok (.goto 4, 3) := by decide +kernel
theorem dL_law_188 : decode cL_law 188 = .ok (.iconst 0, 1) := by decide +kernel
theorem dL_law_189 : decode cL_law 189 = .ok (.iadd, 1) := by decide +kernel
theorem dL_law_190 : decode cL_law 190 = .ok (.istore 10, 2) := by decide +kernel
theorem dL_law_192 : decode cL_law 192 = .ok (.iload 14, 2) := by decide +kernel
theorem dL_law_194 : decode cL_law 194 = .ok (.ifCond .lt 120, 3) := by decide +kernel
theorem dL_law_197 : decode cL_law 197 = .ok (.iload 14, 2) := by decide +kernel
theorem dL_law_199 : decode cL_law 199 = .ok (.iconst 3, 1) := by decide +kernel
theorem dL_law_200 : decode cL_law 200 = .ok (.if_icmp .gt 114, 3) := by decide +kernel
theorem dL_law_203 : decode cL_law 203 = .ok (.iload 14, 2) := by decide +kernel
theorem dL_law_205 : decode cL_law 205 = .ok (.iconst 1, 1) := by decide +kernel
theorem dL_law_206 : decode cL_law 206 = .ok (.if_icmp .ne 7, 3) := by decide +kernel
theorem dL_law_209 : decode cL_law 209 = .ok (.iconst 1, 1) := by decide +kernel
theorem dL_law_210 : decode cL_law 210 = .ok (.goto 4, 3) := by decide +kernel
theorem dL_law_213 : decode cL_law 213 = .ok (.iconst 0, 1) := by decide +kernel
theorem dL_law_214 : decode cL_law 214 = .ok (.aload_n 1, 1) := by decide +kernel
theorem dL_law_215 : decode cL_law 215 = .ok (.iload 13, 2) := by decide +kernel
theorem dL_law_217 : decode cL_law 217 = .ok (.iload 12, 2) := by decide +kernel
theorem dL_law_219 : decode cL_law 219 = .ok (.iconst 1, 1) := by decide +kernel
theorem dL_law_220 : decode cL_law 220 = .ok (.invokevirtual 110, 3) := by decide +kernel
theorem dL_law_223 : decode cL_law 223 = .ok (.ifCond .lt 7, 3) := by decide +kernel
theorem dL_law_226 : decode cL_law 226 = .ok (.iconst 1, 1) := by decide +kernel
theorem dL_law_227 : decode cL_law 227 = .ok (.goto 4, 3) := by decide +kernel
theorem dL_law_230 : decode cL_law 230 = .ok (.iconst 0, 1) := by decide +kernel
theorem dL_law_231 : decode cL_law 231 = .ok (.if_icmp .ne 83, 3) := by decide +kernel
theorem dL_law_234 : decode cL_law 234 = .ok (.iload 14, 2) := by decide +kernel
theorem dL_law_236 : decode cL_law 236 = .ok (.iconst 1, 1) := by decide +kernel
theorem dL_law_237 : decode cL_law 237 = .ok (.if_icmp .ne 7, 3) := by decide +kernel
theorem dL_law_240 : decode cL_law 240 = .ok (.iconst 1, 1) := by decide +kernel
theorem dL_law_241 : decode cL_law 241 = .ok (.goto 4, 3) := by decide +kernel
theorem dL_law_244 : decode cL_law 244 = .ok (.iconst 0, 1) := by decide +kernel
theorem dL_law_245 : decode cL_law 245 = .ok (.aload_n 1, 1) := by decide +kernel
theorem dL_law_246 : decode cL_law 246 = .ok (.iload 13, 2) := by decide +kernel
theorem dL_law_248 : decode cL_law 248 = .ok (.iload 12, 2) := by decide +kernel
theorem dL_law_250 : decode cL_law 250 = .ok (.iconst 2, 1) := by decide +kernel
theorem dL_law_251 : decode cL_law 251 = .ok (.invokevirtual 110, 3) := by decide +kernel
theorem dL_law_254 : decode cL_law 254 = .ok (.ifCond .le 7, 3) := by decide +kernel
theorem dL_law_257 : decode cL_law 257 = .ok (.iconst 1, 1) := by decide +kernel
theorem dL_law_258 : decode cL_law 258 = .ok (.goto 4, 3) := by decide +kernel
theorem dL_law_261 : decode cL_law 261 = .ok (.iconst 0, 1) := by decide +kernel
theorem dL_law_262 : decode cL_law 262 = .ok (.if_icmp .ne 52, 3) := by decide +kernel
theorem dL_law_265 : decode cL_law 265 = .ok (.iload 14, 2) := by decide +kernel
theorem dL_law_267 : decode cL_law 267 = .ok (.iconst 2, 1) := by decide +kernel
theorem dL_law_268 : decode cL_law 268 = .ok (.if_icmp .ne 7, 3) := by decide +kernel
theorem dL_law_271 : decode cL_law 271 = .ok (.iconst 1, 1) := by decide +kernel
theorem dL_law_272 : decode cL_law 272 = .ok (.goto 4, 3) := by decide +kernel
theorem dL_law_275 : decode cL_law 275 = .ok (.iconst 0, 1) := by decide +kernel
theorem dL_law_276 : decode cL_law 276 = .ok (.aload_n 1, 1) := by decide +kernel
theorem dL_law_277 : decode cL_law 277 = .ok (.iload 13, 2) := by decide +kernel
theorem dL_law_279 : decode cL_law 279 = .ok (.iload 12, 2) := by decide +kernel
theorem dL_law_281 : decode cL_law 281 = .ok (.iconst 3, 1) := by decide +kernel
theorem dL_law_282 : decode cL_law 282 = .ok (.invokevirtual 110, 3) := by decide +kernel
theorem dL_law_285 : decode cL_law 285 = .ok (.ifCond .le 7, 3) := by decide +kernel
theorem dL_law_288 : decode cL_law 288 = .ok (.iconst 1, 1) := by decide +kernel
theorem dL_law_289 : decode cL_law 289 = .ok (.goto 4, 3) := by decide +kernel
theorem dL_law_292 : decode cL_law 292 = .ok (.iconst 0, 1) := by decide +kernel
theorem dL_law_293 : decode cL_law 293 = .ok (.if_icmp .ne 21, 3) := by decide +kernel
theorem dL_law_296 : decode cL_law 296 = .ok (.iload 14, 2) := by decide +kernel
theorem dL_law_298 : decode cL_law 298 = .ok (.iconst 2, 1) := by decide +kernel
theorem dL_law_299 : decode cL_law 299 = .ok (.if_icmp .eq 17, 3) := by decide +kernel
theorem dL_law_302 : decode cL_law 302 = .ok (.aload_n 1, 1) := by decide +kernel
theorem dL_law_303 : decode cL_law 303 = .ok (.iload 13, 2) := by decide +kernel
theorem dL_law_305 : decode cL_law 305 = .ok (.iload 12, 2) := by decide +kernel
theorem dL_law_307 : decode cL_law 307 = .ok (.iconst 4, 1) := by decide +kernel
theorem dL_law_308 : decode cL_law 308 = .ok (.invokevirtual 110, 3) := by decide +kernel
theorem dL_law_311 : decode cL_law 311 = .ok (.ifCond .eq 5, 3) := by decide +kernel
theorem dL_law_314 : decode cL_law 314 = .ok (.iconst 0, 1) := by decide +kernel
theorem dL_law_315 : decode cL_law 315 = .ok (.ireturn, 1) := by decide +kernel
theorem dL_law_316 : decode cL_law 316 = .ok (.iload 14, 2) := by decide +kernel
theorem dL_law_318 : decode cL_law 318 = .ok (.iconst 2, 1) := by decide +kernel
theorem dL_law_319 : decode cL_law 319 = .ok (.if_icmp .ne 73, 3) := by decide +kernel
theorem dL_law_322 : decode cL_law 322 = .ok (.iload 13, 2) := by decide +kernel
theorem dL_law_324 : decode cL_law 324 = .ok (.bipush 9, 2) := by decide +kernel
theorem dL_law_326 : decode cL_law 326 = .ok (.if_icmp .ge 66, 3) := by decide +kernel
theorem dL_law_329 : decode cL_law 329 = .ok (.aload_n 1, 1) := by decide +kernel
theorem dL_law_330 : decode cL_law 330 = .ok (.iload 13, 2) := by decide +kernel
theorem dL_law_332 : decode cL_law 332 = .ok (.iconst 1, 1) := by decide +kernel
theorem dL_law_333 : decode cL_law 333 = .ok (.iadd, 1) := by decide +kernel
theorem dL_law_334 : decode cL_law 334 = .ok (.iload 12, 2) := by decide +kernel
theorem dL_law_336 : decode cL_law 336 = .ok (.iconst 0, 1) := by decide +kernel
theorem dL_law_337 : decode cL_law 337 = .ok (.invokevirtual 110, 3) := by decide +kernel
theorem dL_law_340 : decode cL_law 340 = .ok (.iconst 2, 1) := by decide +kernel
theorem dL_law_341 : decode cL_law 341 = .ok (.if_icmp .ne 51, 3) := by decide +kernel
theorem dL_law_344 : decode cL_law 344 = .ok (.aload_n 1, 1) := by decide +kernel
theorem dL_law_345 : decode cL_law 345 = .ok (.iload 13, 2) := by decide +kernel
theorem dL_law_347 : decode cL_law 347 = .ok (.iconst 1, 1) := by decide +kernel
theorem dL_law_348 : decode cL_law 348 = .ok (.iadd, 1) := by decide +kernel
theorem dL_law_349 : decode cL_law 349 = .ok (.iload 12, 2) := by decide +kernel
theorem dL_law_351 : decode cL_law 351 = .ok (.iconst 3, 1) := by decide +kernel
theorem dL_law_352 : decode cL_law 352 = .ok (.invokevirtual 110, 3) := by decide +kernel
theorem dL_law_355 : decode cL_law 355 = .ok (.aload_n 1, 1) := by decide +kernel
theorem dL_law_356 : decode cL_law 356 = .ok (.iload 13, 2) := by decide +kernel
theorem dL_law_358 : decode cL_law 358 = .ok (.iload 12, 2) := by decide +kernel
theorem dL_law_360 : decode cL_law 360 = .ok (.iconst 3, 1) := by decide +kernel
theorem dL_law_361 : decode cL_law 361 = .ok (.invokevirtual 110, 3) := by decide +kernel
theorem dL_law_364 : decode cL_law 364 = .ok (.if_icmp .ne 26, 3) := by decide +kernel
theorem dL_law_367 : decode cL_law 367 = .ok (.aload_n 1, 1) := by decide +kernel
theorem dL_law_368 : decode cL_law 368 = .ok (.iload 13, 2) := by decide +kernel
theorem dL_law_370 : decode cL_law 370 = .ok (.iconst 1, 1) := by decide +kernel
theorem dL_law_371 : decode cL_law 371 = .ok (.iadd, 1) := by decide +kernel
theorem dL_law_372 : decode cL_law 372 = .ok (.iload 12, 2) := by decide +kernel
theorem dL_law_374 : decode cL_law 374 = .ok (.iconst 4, 1) := by decide +kernel
theorem dL_law_375 : decode cL_law 375 = .ok (.invokevirtual 110, 3) := by decide +kernel
theorem dL_law_378 : decode cL_law 378 = .ok (.aload_n 1, 1) := by decide +kernel
theorem dL_law_379 : decode cL_law 379 = .ok (.iload 13, 2) := by decide +kernel
theorem dL_law_381 : decode cL_law 381 = .ok (.iload 12, 2) := by decide +kernel
theorem dL_law_383 : decode cL_law 383 = .ok (.iconst 4, 1) := by decide +kernel
theorem dL_law_384 : decode cL_law 384 = .ok (.invokevirtual 110, 3) := by decide +kernel
theorem dL_law_387 : decode cL_law 387 = .ok (.if_icmp .eq 5, 3) := by decide +kernel
theorem dL_law_390 : decode cL_law 390 = .ok (.iconst 0, 1) := by decide +kernel
theorem dL_law_391 : decode cL_law 391 = .ok (.ireturn, 1) := by decide +kernel
theorem dL_law_392 : decode cL_law 392 = .ok (.iload 14, 2) := by decide +kernel
theorem dL_law_394 : decode cL_law 394 = .ok (.iconst 2, 1) := by decide +kernel
theorem dL_law_395 : decode cL_law 395 = .ok (.if_icmp .ne 50, 3) := by decide +kernel
theorem dL_law_398 : decode cL_law 398 = .ok (.iload 12, 2) := by decide +kernel
theorem dL_law_400 : decode cL_law 400 = .ok (.bipush 6, 2) := by decide +kernel
theorem dL_law_402 : decode cL_law 402 = .ok (.if_icmp .ge 43, 3) := by decide +kernel
theorem dL_law_405 : decode cL_law 405 = .ok (.aload_n 1, 1) := by decide +kernel
theorem dL_law_406 : decode cL_law 406 = .ok (.iload 13, 2) := by decide +kernel
theorem dL_law_408 : decode cL_law 408 = .ok (.iload 12, 2) := by decide +kernel
theorem dL_law_410 : decode cL_law 410 = .ok (.iconst 1, 1) := by decide +kernel
theorem dL_law_411 : decode cL_law 411 = .ok (.iadd, 1) := by decide +kernel
theorem dL_law_412 : decode cL_law 412 = .ok (.iconst 0, 1) := by decide +kernel
theorem dL_law_413 : decode cL_law 413 = .ok (.invokevirtual 110, 3) := by decide +kernel
theorem dL_law_416 : decode cL_law 416 = .ok (.iconst 2, 1) := by decide +kernel
theorem dL_law_417 : decode cL_law 417 = .ok (.if_icmp .ne 28, 3) := by decide +kernel
theorem dL_law_420 : decode cL_law 420 = .ok (.aload_n 1, 1) := by decide +kernel
theorem dL_law_421 : decode cL_law 421 = .ok (.iload 13, 2) := by decide +kernel
theorem dL_law_423 : decode cL_law 423 = .ok (.iload 12, 2) := by decide +kernel
theorem dL_law_425 : decode cL_law 425 = .ok (.iconst 1, 1) := by decide +kernel
theorem dL_law_426 : decode cL_law 426 = .ok (.iadd, 1) := by decide +kernel
theorem dL_law_427 : decode cL_law 427 = .ok (.iconst 3, 1) := by decide +kernel
theorem dL_law_428 : decode cL_law 428 = .ok (.invokevirtual 110, 3) := by decide +kernel
theorem dL_law_431 : decode cL_law 431 = .ok (.aload_n 1, 1) := by decide +kernel
theorem dL_law_432 : decode cL_law 432 = .ok (.iload 13, 2) := by decide +kernel
theorem dL_law_434 : decode cL_law 434 = .ok (.iload 12, 2) := by decide +kernel
theorem dL_law_436 : decode cL_law 436 = .ok (.iconst 3, 1) := by decide +kernel
theorem dL_law_437 : decode cL_law 437 = .ok (.invokevirtual 110, 3) := by decide +kernel
theorem dL_law_440 : decode cL_law 440 = .ok (.if_icmp .eq 5, 3) := by decide +kernel
theorem dL_law_443 : decode cL_law 443 = .ok (.iconst 0, 1) := by decide +kernel
theorem dL_law_444 : decode cL_law 444 = .ok (.ireturn, 1) := by decide +kernel
theorem dL_law_445 : decode cL_law 445 = .ok (.iinc 13 1, 3) := by decide +kernel
theorem dL_law_448 : decode cL_law 448 = .ok (.goto (-306), 3) := by decide +kernel
theorem dL_law_451 : decode cL_law 451 = .ok (.iinc 12 1, 3) := by decide +kernel
theorem dL_law_454 : decode cL_law 454 = .ok (.goto (-322), 3) := by decide +kernel
theorem dL_law_457 : decode cL_law 457 = .ok (.iload 9, 2) := by decide +kernel
theorem dL_law_459 : decode cL_law 459 = .ok (.aload_n 1, 1) := by decide +kernel
theorem dL_law_460 : decode cL_law 460 = .ok (.iconst 4, 1) := by decide +kernel
theorem dL_law_461 : decode cL_law 461 = .ok (.invokevirtual 102, 3) := by decide +kernel
theorem dL_law_464 : decode cL_law 464 = .ok (.if_icmp .ne 49, 3) := by decide +kernel
theorem dL_law_467 : decode cL_law 467 = .ok (.iload 10, 2) := by decide +kernel
theorem dL_law_469 : decode cL_law 469 = .ok (.aload_n 1, 1) := by decide +kernel
theorem dL_law_470 : decode cL_law 470 = .ok (.iconst 3, 1) := by decide +kernel
theorem dL_law_471 : decode cL_law 471 = .ok (.invokevirtual 102, 3) := by decide +kernel
theorem dL_law_474 : decode cL_law 474 = .ok (.if_icmp .ne 39, 3) := by decide +kernel
theorem dL_law_477 : decode cL_law 477 = .ok (.aload_n 1, 1) := by decide +kernel
theorem dL_law_478 : decode cL_law 478 = .ok (.iconst 5, 1) := by decide +kernel
theorem dL_law_479 : decode cL_law 479 = .ok (.invokevirtual 102, 3) := by decide +kernel
theorem dL_law_482 : decode cL_law 482 = .ok (.iload 9, 2) := by decide +kernel
theorem dL_law_484 : decode cL_law 484 = .ok (.if_icmp .gt 29, 3) := by decide +kernel
theorem dL_law_487 : decode cL_law 487 = .ok (.aload_n 1, 1) := by decide +kernel
theorem dL_law_488 : decode cL_law 488 = .ok (.iconst 5, 1) := by decide +kernel
theorem dL_law_489 : decode cL_law 489 = .ok (.invokevirtual 102, 3) := by decide +kernel
theorem dL_law_492 : decode cL_law 492 = .ok (.ifCond .ne 7, 3) := by decide +kernel
theorem dL_law_495 : decode cL_law 495 = .ok (.iconst 1, 1) := by decide +kernel
theorem dL_law_496 : decode cL_law 496 = .ok (.goto 4, 3) := by decide +kernel
theorem dL_law_499 : decode cL_law 499 = .ok (.iconst 0, 1) := by decide +kernel
theorem dL_law_500 : decode cL_law 500 = .ok (.iload 9, 2) := by decide +kernel
theorem dL_law_502 : decode cL_law 502 = .ok (.ifCond .ne 7, 3) := by decide +kernel
theorem dL_law_505 : decode cL_law 505 = .ok (.iconst 1, 1) := by decide +kernel
theorem dL_law_506 : decode cL_law 506 = .ok (.goto 4, 3) := by decide +kernel
theorem dL_law_509 : decode cL_law 509 = .ok (.iconst 0, 1) := by decide +kernel
theorem dL_law_510 : decode cL_law 510 = .ok (.if_icmp .eq 5, 3) := by decide +kernel
theorem dL_law_513 : decode cL_law 513 = .ok (.iconst 0, 1) := by decide +kernel
theorem dL_law_514 : decode cL_law 514 = .ok (.ireturn, 1) := by decide +kernel
theorem dL_law_515 : decode cL_law 515 = .ok (.iload 6, 2) := by decide +kernel
theorem dL_law_517 : decode cL_law 517 = .ok (.newarray .int, 2) := by decide +kernel
theorem dL_law_519 : decode cL_law 519 = .ok (.astore 12, 2) := by decide +kernel
theorem dL_law_521 : decode cL_law 521 = .ok (.iload 6, 2) := by decide +kernel
theorem dL_law_523 : decode cL_law 523 = .ok (.newarray .boolean, 2) := by decide +kernel
theorem dL_law_525 : decode cL_law 525 = .ok (.astore 13, 2) := by decide +kernel
theorem dL_law_527 : decode cL_law 527 = .ok (.iconst 0, 1) := by decide +kernel
theorem dL_law_528 : decode cL_law 528 = .ok (.istore 14, 2) := by decide +kernel
theorem dL_law_530 : decode cL_law 530 = .ok (.iload 14, 2) := by decide +kernel
theorem dL_law_532 : decode cL_law 532 = .ok (.iload 6, 2) := by decide +kernel
theorem dL_law_534 : decode cL_law 534 = .ok (.if_icmp .ge 181, 3) := by decide +kernel
theorem dL_law_537 : decode cL_law 537 = .ok (.aload 12, 2) := by decide +kernel
theorem dL_law_539 : decode cL_law 539 = .ok (.iload 14, 2) := by decide +kernel
theorem dL_law_541 : decode cL_law 541 = .ok (.aload_n 1, 1) := by decide +kernel
theorem dL_law_542 : decode cL_law 542 = .ok (.iload 14, 2) := by decide +kernel
theorem dL_law_544 : decode cL_law 544 = .ok (.iconst 2, 1) := by decide +kernel
theorem dL_law_545 : decode cL_law 545 = .ok (.invokevirtual 112, 3) := by decide +kernel
theorem dL_law_548 : decode cL_law 548 = .ok (.iastore, 1) := by decide +kernel
theorem dL_law_549 : decode cL_law 549 = .ok (.aload_n 1, 1) := by decide +kernel
theorem dL_law_550 : decode cL_law 550 = .ok (.iload 14, 2) := by decide +kernel
theorem dL_law_552 : decode cL_law 552 = .ok (.iconst 3, 1) := by decide +kernel
theorem dL_law_553 : decode cL_law 553 = .ok (.invokevirtual 112, 3) := by decide +kernel
theorem dL_law_556 : decode cL_law 556 = .ok (.iconst 1, 1) := by decide +kernel
theorem dL_law_557 : decode cL_law 557 = .ok (.if_icmp .ne 7, 3) := by decide +kernel
theorem dL_law_560 : decode cL_law 560 = .ok (.iconst 1, 1) := by decide +kernel
theorem dL_law_561 : decode cL_law 561 = .ok (.goto 4, 3) := by decide +kernel
theorem dL_law_564 : decode cL_law 564 = .ok (.iconst 0, 1) := by decide +kernel
theorem dL_law_565 : decode cL_law 565 = .ok (.istore 15, 2) := by decide +kernel
theorem dL_law_567 : decode cL_law 567 = .ok (.iload 11, 2) := by decide +kernel
theorem dL_law_569 : decode cL_law 569 = .ok (.iload 15, 2) := by decide +kernel
theorem dL_law_571 : decode cL_law 571 = .ok (.ifCond .eq 7, 3) := by decide +kernel
theorem dL_law_574 : decode cL_law 574 = .ok (.iconst 0, 1) := by decide +kernel
theorem dL_law_575 : decode cL_law 575 = .ok (.goto 4, 3) := by decide +kernel
theorem dL_law_578 : decode cL_law 578 = .ok (.iconst 1, 1) := by decide +kernel
theorem dL_law_579 : decode cL_law 579 = .ok (.iadd, 1) := by decide +kernel
theorem dL_law_580 : decode cL_law 580 = .ok (.istore 11, 2) := by decide +kernel
theorem dL_law_582 : decode cL_law 582 = .ok (.aload 12, 2) := by decide +kernel
theorem dL_law_584 : decode cL_law 584 = .ok (.iload 14, 2) := by decide +kernel
theorem dL_law_586 : decode cL_law 586 = .ok (.iaload, 1) := by decide +kernel
theorem dL_law_587 : decode cL_law 587 = .ok (.iconst 1, 1) := by decide +kernel
theorem dL_law_588 : decode cL_law 588 = .ok (.if_icmp .lt 61, 3) := by decide +kernel
theorem dL_law_591 : decode cL_law 591 = .ok (.aload 12, 2) := by decide +kernel
theorem dL_law_593 : decode cL_law 593 = .ok (.iload 14, 2) := by decide +kernel
theorem dL_law_595 : decode cL_law 595 = .ok (.iaload, 1) := by decide +kernel
theorem dL_law_596 : decode cL_law 596 = .ok (.bipush 40, 2) := by decide +kernel
theorem dL_law_598 : decode cL_law 598 = .ok (.if_icmp .gt 51, 3) := by decide +kernel
theorem dL_law_601 : decode cL_law 601 = .ok (.iload 15, 2) := by decide +kernel
theorem dL_law_603 : decode cL_law 603 = .ok (.aload_n 1, 1) := by decide +kernel
theorem dL_law_604 : decode cL_law 604 = .ok (.iload 14, 2) := by decide +kernel
theorem dL_law_606 : decode cL_law 606 = .ok (.iconst 4, 1) := by decide +kernel
theorem dL_law_607 : decode cL_law 607 = .ok (.invokevirtual 112, 3) := by decide +kernel
theorem dL_law_610 : decode cL_law 610 = .ok (.ifCond .ne 7, 3) := by decide +kernel
theorem dL_law_613 : decode cL_law 613 = .ok (.iconst 1, 1) := by decide +kernel
theorem dL_law_614 : decode cL_law 614 = .ok (.goto 4, 3) := by decide +kernel
theorem dL_law_617 : decode cL_law 617 = .ok (.iconst 0, 1) := by decide +kernel
theorem dL_law_618 : decode cL_law 618 = .ok (.if_icmp .ne 31, 3) := by decide +kernel
theorem dL_law_621 : decode cL_law 621 = .ok (.iload 15, 2) := by decide +kernel
theorem dL_law_623 : decode cL_law 623 = .ok (.ifCond .ne 28, 3) := by decide +kernel
theorem dL_law_626 : decode cL_law 626 = .ok (.aload_n 1, 1) := by decide +kernel
theorem dL_law_627 : decode cL_law 627 = .ok (.aload_n 1, 1) := by decide +kernel
theorem dL_law_628 : decode cL_law 628 = .ok (.iload 14, 2) := by decide +kernel
theorem dL_law_630 : decode cL_law 630 = .ok (.iconst 0, 1) := by decide +kernel
theorem dL_law_631 : decode cL_law 631 = .ok (.invokevirtual 112, 3) := by decide +kernel
theorem dL_law_634 : decode cL_law 634 = .ok (.aload_n 1, 1) := by decide +kernel
theorem dL_law_635 : decode cL_law 635 = .ok (.iload 14, 2) := by decide +kernel
theorem dL_law_637 : decode cL_law 637 = .ok (.iconst 1, 1) := by decide +kernel
theorem dL_law_638 : decode cL_law 638 = .ok (.invokevirtual 112, 3) := by decide +kernel
theorem dL_law_641 : decode cL_law 641 = .ok (.iconst 0, 1) := by decide +kernel
theorem dL_law_642 : decode cL_law 642 = .ok (.invokevirtual 110, 3) := by decide +kernel
theorem dL_law_645 : decode cL_law 645 = .ok (.iconst 2, 1) := by decide +kernel
theorem dL_law_646 : decode cL_law 646 = .ok (.if_icmp .eq 5, 3) := by decide +kernel
theorem dL_law_649 : decode cL_law 649 = .ok (.iconst 0, 1) := by decide +kernel
theorem dL_law_650 : decode cL_law 650 = .ok (.ireturn, 1) := by decide +kernel
theorem dL_law_651 : decode cL_law 651 = .ok (.aload 13, 2) := by decide +kernel
theorem dL_law_653 : decode cL_law 653 = .ok (.iload 14, 2) := by decide +kernel
theorem dL_law_655 : decode cL_law 655 = .ok (.iload 15, 2) := by decide +kernel
theorem dL_law_657 : decode cL_law 657 = .ok (.ifCond .ne 50, 3) := by decide +kernel
theorem dL_law_660 : decode cL_law 660 = .ok (.aload_n 1, 1) := by decide +kernel
theorem dL_law_661 : decode cL_law 661 = .ok (.aload_n 1, 1) := by decide +kernel
theorem dL_law_662 : decode cL_law 662 = .ok (.iload 14, 2) := by decide +kernel
theorem dL_law_664 : decode cL_law 664 = .ok (.iconst 0, 1) := by decide +kernel
theorem dL_law_665 : decode cL_law 665 = .ok (.invokevirtual 112, 3) := by decide +kernel
theorem dL_law_668 : decode cL_law 668 = .ok (.aload_n 1, 1) := by decide +kernel
theorem dL_law_669 : decode cL_law 669 = .ok (.iload 14, 2) := by decide +kernel
theorem dL_law_671 : decode cL_law 671 = .ok (.iconst 1, 1) := by decide +kernel
theorem dL_law_672 : decode cL_law 672 = .ok (.invokevirtual 112, 3) := by decide +kernel
theorem dL_law_675 : decode cL_law 675 = .ok (.iconst 4, 1) := by decide +kernel
theorem dL_law_676 : decode cL_law 676 = .ok (.invokevirtual 110, 3) := by decide +kernel
theorem dL_law_679 : decode cL_law 679 = .ok (.iconst 2, 1) := by decide +kernel
theorem dL_law_680 : decode cL_law 680 = .ok (.aload_n 1, 1) := by decide +kernel
theorem dL_law_681 : decode cL_law 681 = .ok (.aload_n 1, 1) := by decide +kernel
theorem dL_law_682 : decode cL_law 682 = .ok (.iload 14, 2) := by decide +kernel
theorem dL_law_684 : decode cL_law 684 = .ok (.iconst 0, 1) := by decide +kernel
theorem dL_law_685 : decode cL_law 685 = .ok (.invokevirtual 112, 3) := by decide +kernel
theorem dL_law_688 : decode cL_law 688 = .ok (.aload_n 1, 1) := by decide +kernel
theorem dL_law_689 : decode cL_law 689 = .ok (.iload 14, 2) := by decide +kernel
theorem dL_law_691 : decode cL_law 691 = .ok (.iconst 1, 1) := by decide +kernel
theorem dL_law_692 : decode cL_law 692 = .ok (.invokevirtual 112, 3) := by decide +kernel
theorem dL_law_695 : decode cL_law 695 = .ok (.iconst 3, 1) := by decide +kernel
theorem dL_law_696 : decode cL_law 696 = .ok (.invokevirtual 110, 3) := by decide +kernel
theorem dL_law_699 : decode cL_law 699 = .ok (.imul, 1) := by decide +kernel
theorem dL_law_700 : decode cL_law 700 = .ok (.if_icmp .gt 7, 3) := by decide +kernel
theorem dL_law_703 : decode cL_law 703 = .ok (.iconst 1, 1) := by decide +kernel
theorem dL_law_704 : decode cL_law 704 = .ok (.goto 4, 3) := by decide +kernel
theorem dL_law_707 : decode cL_law 707 = .ok (.iconst 0, 1) := by decide +kernel
theorem dL_law_708 : decode cL_law 708 = .ok (.bastore, 1) := by decide +kernel
theorem dL_law_709 : decode cL_law 709 = .ok (.iinc 14 1, 3) := by decide +kernel
theorem dL_law_712 : decode cL_law 712 = .ok (.goto (-182), 3) := by decide +kernel
theorem dL_law_715 : decode cL_law 715 = .ok (.iload 11, 2) := by decide +kernel
theorem dL_law_717 : decode cL_law 717 = .ok (.aload_n 1, 1) := by decide +kernel
theorem dL_law_718 : decode cL_law 718 = .ok (.bipush 6, 2) := by decide +kernel
theorem dL_law_720 : decode cL_law 720 = .ok (.invokevirtual 102, 3) := by decide +kernel
theorem dL_law_723 : decode cL_law 723 = .ok (.if_icmp .eq 5, 3) := by decide +kernel
theorem dL_law_726 : decode cL_law 726 = .ok (.iconst 0, 1) := by decide +kernel
theorem dL_law_727 : decode cL_law 727 = .ok (.ireturn, 1) := by decide +kernel
theorem dL_law_728 : decode cL_law 728 = .ok (.iload 8, 2) := by decide +kernel
theorem dL_law_730 : decode cL_law 730 = .ok (.newarray .int, 2) := by decide +kernel
theorem dL_law_732 : decode cL_law 732 = .ok (.astore 14, 2) := by decide +kernel
theorem dL_law_734 : decode cL_law 734 = .ok (.iconst 0, 1) := by decide +kernel
theorem dL_law_735 : decode cL_law 735 = .ok (.istore 15, 2) := by decide +kernel
theorem dL_law_737 : decode cL_law 737 = .ok (.iload 15, 2) := by decide +kernel
theorem dL_law_739 : decode cL_law 739 = .ok (.iload 8, 2) := by decide +kernel
theorem dL_law_741 : decode cL_law 741 = .ok (.if_icmp .ge 20, 3) := by decide +kernel
theorem dL_law_744 : decode cL_law 744 = .ok (.aload 14, 2) := by decide +kernel
theorem dL_law_746 : decode cL_law 746 = .ok (.iload 15, 2) := by decide +kernel
theorem dL_law_748 : decode cL_law 748 = .ok (.aload_n 1, 1) := by decide +kernel
theorem dL_law_749 : decode cL_law 749 = .ok (.iload 15, 2) := by decide +kernel
theorem dL_law_751 : decode cL_law 751 = .ok (.invokevirtual 115, 3) := by decide +kernel
theorem dL_law_754 : decode cL_law 754 = .ok (.iastore, 1) := by decide +kernel
theorem dL_law_755 : decode cL_law 755 = .ok (.iinc 15 1, 3) := by decide +kernel
theorem dL_law_758 : decode cL_law 758 = .ok (.goto (-21), 3) := by decide +kernel
theorem dL_law_761 : decode cL_law 761 = .ok (.iconst 0, 1) := by decide +kernel
theorem dL_law_762 : decode cL_law 762 = .ok (.istore 15, 2) := by decide +kernel
theorem dL_law_764 : decode cL_law 764 = .ok (.iconst 0, 1) := by decide +kernel
theorem dL_law_765 : decode cL_law 765 = .ok (.istore 16, 2) := by decide +kernel
theorem dL_law_767 : decode cL_law 767 = .ok (.iload 16, 2) := by decide +kernel
theorem dL_law_769 : decode cL_law 769 = .ok (.iload 7, 2) := by decide +kernel
theorem dL_law_771 : decode cL_law 771 = .ok (.if_icmp .ge 123, 3) := by decide +kernel
theorem dL_law_774 : decode cL_law 774 = .ok (.aload_n 1, 1) := by decide +kernel
theorem dL_law_775 : decode cL_law 775 = .ok (.iload 16, 2) := by decide +kernel
theorem dL_law_777 : decode cL_law 777 = .ok (.iconst 3, 1) := by decide +kernel
theorem dL_law_778 : decode cL_law 778 = .ok (.invokevirtual 118, 3) := by decide +kernel
theorem dL_law_781 : decode cL_law 781 = .ok (.istore 17, 2) := by decide +kernel
theorem dL_law_783 : decode cL_law 783 = .ok (.iload 15, 2) := by decide +kernel
theorem dL_law_785 : decode cL_law 785 = .ok (.iload 17, 2) := by decide +kernel
theorem dL_law_787 : decode cL_law 787 = .ok (.invokestatic 121, 3) := by decide +kernel
theorem dL_law_790 : decode cL_law 790 = .ok (.istore 15, 2) := by decide +kernel
theorem dL_law_792 : decode cL_law 792 = .ok (.aload_n 1, 1) := by decide +kernel
theorem dL_law_793 : decode cL_law 793 = .ok (.iload 16, 2) := by decide +kernel
theorem dL_law_795 : decode cL_law 795 = .ok (.iconst 0, 1) := by decide +kernel
theorem dL_law_796 : decode cL_law 796 = .ok (.invokevirtual 118, 3) := by decide +kernel
theorem dL_law_799 : decode cL_law 799 = .ok (.bipush 9, 2) := by decide +kernel
theorem dL_law_801 : decode cL_law 801 = .ok (.if_icmp .gt 85, 3) := by decide +kernel
theorem dL_law_804 : decode cL_law 804 = .ok (.aload_n 1, 1) := by decide +kernel
theorem dL_law_805 : decode cL_law 805 = .ok (.iload 16, 2) := by decide +kernel
theorem dL_law_807 : decode cL_law 807 = .ok (.iconst 1, 1) := by decide +kernel
theorem dL_law_808 : decode cL_law 808 = .ok (.invokevirtual 118, 3) := by decide +kernel
theorem dL_law_811 : decode cL_law 811 = .ok (.aload_n 1, 1) := by decide +kernel
theorem dL_law_812 : decode cL_law 812 = .ok (.iload 16, 2) := by decide +kernel
theorem dL_law_814 : decode cL_law 814 = .ok (.iconst 2, 1) := by decide +kernel
theorem dL_law_815 : decode cL_law 815 = .ok (.invokevirtual 118, 3) := by decide +kernel
theorem dL_law_818 : decode cL_law 818 = .ok (.iadd, 1) := by decide +kernel
theorem dL_law_819 : decode cL_law 819 = .ok (.aload_n 1, 1) := by decide +kernel
theorem dL_law_820 : decode cL_law 820 = .ok (.iload 16, 2) := by decide +kernel
theorem dL_law_822 : decode cL_law 822 = .ok (.iconst 0, 1) := by decide +kernel
theorem dL_law_823 : decode cL_law 823 = .ok (.invokevirtual 118, 3) := by decide +kernel
theorem dL_law_826 : decode cL_law 826 = .ok (.if_icmp .gt 60, 3) := by decide +kernel
theorem dL_law_829 : decode cL_law 829 = .ok (.iload 17, 2) := by decide +kernel
theorem dL_law_831 : decode cL_law 831 = .ok (.aload_n 1, 1) := by decide +kernel
theorem dL_law_832 : decode cL_law 832 = .ok (.iload 16, 2) := by decide +kernel
theorem dL_law_834 : decode cL_law 834 = .ok (.iconst 1, 1) := by decide +kernel
theorem dL_law_835 : decode cL_law 835 = .ok (.invokevirtual 118, 3) := by decide +kernel
theorem dL_law_838 : decode cL_law 838 = .ok (.iconst 3, 1) := by decide +kernel
theorem dL_law_839 : decode cL_law 839 = .ok (.aload_n 1, 1) := by decide +kernel
theorem dL_law_840 : decode cL_law 840 = .ok (.iload 16, 2) := by decide +kernel
theorem dL_law_842 : decode cL_law 842 = .ok (.iconst 2, 1) := by decide +kernel
theorem dL_law_843 : decode cL_law 843 = .ok (.invokevirtual 118, 3) := by decide +kernel
theorem dL_law_846 : decode cL_law 846 = .ok (.imul, 1) := by decide +kernel
theorem dL_law_847 : decode cL_law 847 = .ok (.iadd, 1) := by decide +kernel
theorem dL_law_848 : decode cL_law 848 = .ok (.if_icmp .lt 38, 3) := by decide +kernel
theorem dL_law_851 : decode cL_law 851 = .ok (.iload 17, 2) := by decide +kernel
theorem dL_law_853 : decode cL_law 853 = .ok (.bipush 13, 2) := by decide +kernel
theorem dL_law_855 : decode cL_law 855 = .ok (.aload_n 1, 1) := by decide +kernel
theorem dL_law_856 : decode cL_law 856 = .ok (.iload 16, 2) := by decide +kernel
theorem dL_law_858 : decode cL_law 858 = .ok (.iconst 1, 1) := by decide +kernel
theorem dL_law_859 : decode cL_law 859 = .ok (.invokevirtual 118, 3) := by decide +kernel
theorem dL_law_862 : decode cL_law 862 = .ok (.imul, 1) := by decide +kernel
theorem dL_law_863 : decode cL_law 863 = .ok (.iconst 3, 1) := by decide +kernel
theorem dL_law_864 : decode cL_law 864 = .ok (.aload_n 1, 1) := by decide +kernel
theorem dL_law_865 : decode cL_law 865 = .ok (.iload 16, 2) := by decide +kernel
theorem dL_law_867 : decode cL_law 867 = .ok (.iconst 2, 1) := by decide +kernel
theorem dL_law_868 : decode cL_law 868 = .ok (.invokevirtual 118, 3) := by decide +kernel
theorem dL_law_871 : decode cL_law 871 = .ok (.imul, 1) := by decide +kernel
theorem dL_law_872 : decode cL_law 872 = .ok (.iadd, 1) := by decide +kernel
theorem dL_law_873 : decode cL_law 873 = .ok (.aload_n 1, 1) := by decide +kernel
theorem dL_law_874 : decode cL_law 874 = .ok (.bipush 7, 2) := by decide +kernel
theorem dL_law_876 : decode cL_law 876 = .ok (.invokevirtual 102, 3) := by decide +kernel
theorem dL_law_879 : decode cL_law 879 = .ok (.bipush 10, 2) := by decide +kernel
theorem dL_law_881 : decode cL_law 881 = .ok (.idiv, 1) := by decide +kernel
theorem dL_law_882 : decode cL_law 882 = .ok (.iadd, 1) := by decide +kernel
theorem dL_law_883 : decode cL_law 883 = .ok (.if_icmp .le 5, 3) := by decide +kernel
theorem dL_law_886 : decode cL_law 886 = .ok (.iconst 0, 1) := by decide +kernel
theorem dL_law_887 : decode cL_law 887 = .ok (.ireturn, 1) := by decide +kernel
theorem dL_law_888 : decode cL_law 888 = .ok (.iinc 16 1, 3) := by decide +kernel
theorem dL_law_891 : decode cL_law 891 = .ok (.goto (-124), 3) := by decide +kernel
theorem dL_law_894 : decode cL_law 894 = .ok (.aload_n 1, 1) := by decide +kernel
theorem dL_law_895 : decode cL_law 895 = .ok (.invokevirtual 124, 3) := by decide +kernel
theorem dL_law_898 : decode cL_law 898 = .ok (.ifCond .ge 7, 3) := by decide +kernel
theorem dL_law_901 : decode cL_law 901 = .ok (.iconst 1, 1) := by decide +kernel
theorem dL_law_902 : decode cL_law 902 = .ok (.goto 4, 3) := by decide +kernel
theorem dL_law_905 : decode cL_law 905 = .ok (.iconst 0, 1) := by decide +kernel
theorem dL_law_906 : decode cL_law 906 = .ok (.iload 7, 2) := by decide +kernel
theorem dL_law_908 : decode cL_law 908 = .ok (.ifCond .ne 7, 3) := by decide +kernel
theorem dL_law_911 : decode cL_law 911 = .ok (.iconst 1, 1) := by decide +kernel
theorem dL_law_912 : decode cL_law 912 = .ok (.goto 4, 3) := by decide +kernel
theorem dL_law_915 : decode cL_law 915 = .ok (.iconst 0, 1) := by decide +kernel
theorem dL_law_916 : decode cL_law 916 = .ok (.if_icmp .ne 22, 3) := by decide +kernel
theorem dL_law_919 : decode cL_law 919 = .ok (.iload 7, 2) := by decide +kernel
theorem dL_law_921 : decode cL_law 921 = .ok (.ifCond .le 19, 3) := by decide +kernel
theorem dL_law_924 : decode cL_law 924 = .ok (.aload_n 1, 1) := by decide +kernel
theorem dL_law_925 : decode cL_law 925 = .ok (.aload_n 1, 1) := by decide +kernel
theorem dL_law_926 : decode cL_law 926 = .ok (.invokevirtual 124, 3) := by decide +kernel
theorem dL_law_929 : decode cL_law 929 = .ok (.iconst 3, 1) := by decide +kernel
theorem dL_law_930 : decode cL_law 930 = .ok (.invokevirtual 118, 3) := by decide +kernel
theorem dL_law_933 : decode cL_law 933 = .ok (.iload 15, 2) := by decide +kernel
theorem dL_law_935 : decode cL_law 935 = .ok (.if_icmp .eq 5, 3) := by decide +kernel
theorem dL_law_938 : decode cL_law 938 = .ok (.iconst 0, 1) := by decide +kernel
theorem dL_law_939 : decode cL_law 939 = .ok (.ireturn, 1) := by decide +kernel
theorem dL_law_940 : decode cL_law 940 = .ok (.aload_n 1, 1) := by decide +kernel
theorem dL_law_941 : decode cL_law 941 = .ok (.iconst 2, 1) := by decide +kernel
theorem dL_law_942 : decode cL_law 942 = .ok (.invokevirtual 102, 3) := by decide +kernel
theorem dL_law_945 : decode cL_law 945 = .ok (.istore 5, 2) := by decide +kernel
theorem dL_law_947 : decode cL_law 947 = .ok (.aload_n 1, 1) := by decide +kernel
theorem dL_law_948 : decode cL_law 948 = .ok (.iconst 0, 1) := by decide +kernel
theorem dL_law_949 : decode cL_law 949 = .ok (.invokevirtual 102, 3) := by decide +kernel
theorem dL_law_952 : decode cL_law 952 = .ok (.istore 16, 2) := by decide +kernel
theorem dL_law_954 : decode cL_law 954 = .ok (.aload_n 1, 1) := by decide +kernel
theorem dL_law_955 : decode cL_law 955 = .ok (.bipush 10, 2) := by decide +kernel
theorem dL_law_957 : decode cL_law 957 = .ok (.invokevirtual 102, 3) := by decide +kernel
theorem dL_law_960 : decode cL_law 960 = .ok (.istore 17, 2) := by decide +kernel
theorem dL_law_962 : decode cL_law 962 = .ok (.aload_n 1, 1) := by decide +kernel
theorem dL_law_963 : decode cL_law 963 = .ok (.iconst 1, 1) := by decide +kernel
theorem dL_law_964 : decode cL_law 964 = .ok (.invokevirtual 102, 3) := by decide +kernel
theorem dL_law_967 : decode cL_law 967 = .ok (.iconst 1, 1) := by decide +kernel
theorem dL_law_968 : decode cL_law 968 = .ok (.if_icmp .ne 7, 3) := by decide +kernel
theorem dL_law_971 : decode cL_law 971 = .ok (.iconst 1, 1) := by decide +kernel
theorem dL_law_972 : decode cL_law 972 = .ok (.goto 4, 3) := by decide +kernel
theorem dL_law_975 : decode cL_law 975 = .ok (.iconst 0, 1) := by decide +kernel
theorem dL_law_976 : decode cL_law 976 = .ok (.istore 18, 2) := by decide +kernel
theorem dL_law_978 : decode cL_law 978 = .ok (.aload_n 1, 1) := by decide +kernel
theorem dL_law_979 : decode cL_law 979 = .ok (.invokevirtual 127, 3) := by decide +kernel
theorem dL_law_982 : decode cL_law 982 = .ok (.lstore 19, 2) := by decide +kernel
theorem dL_law_984 : decode cL_law 984 = .ok (.iconst 3, 1) := by decide +kernel
theorem dL_law_985 : decode cL_law 985 = .ok (.newarray .int, 2) := by decide +kernel
theorem dL_law_987 : decode cL_law 987 = .ok (.dup, 1) := by decide +kernel
theorem dL_law_988 : decode cL_law 988 = .ok (.iconst 0, 1) := by decide +kernel
theorem dL_law_989 : decode cL_law 989 = .ok (.aload_n 1, 1) := by decide +kernel
theorem dL_law_990 : decode cL_law 990 = .ok (.iconst 1, 1) := by decide +kernel
theorem dL_law_991 : decode cL_law 991 = .ok (.iconst 2, 1) := by decide +kernel
theorem dL_law_992 : decode cL_law 992 = .ok (.invokevirtual 131, 3) := by decide +kernel
theorem dL_law_995 : decode cL_law 995 = .ok (.iastore, 1) := by decide +kernel
theorem dL_law_996 : decode cL_law 996 = .ok (.dup, 1) := by decide +kernel
theorem dL_law_997 : decode cL_law 997 = .ok (.iconst 1, 1) := by decide +kernel
theorem dL_law_998 : decode cL_law 998 = .ok (.aload_n 1, 1) := by decide +kernel
theorem dL_law_999 : decode cL_law 999 = .ok (.iconst 1, 1) := by decide +kernel
theorem dL_law_1000 : decode cL_law 1000 = .ok (.bipush 7, 2) := by decide +kernel
theorem dL_law_1002 : decode cL_law 1002 = .ok (.invokevirtual 131, 3) := by decide +kernel
theorem dL_law_1005 : decode cL_law 1005 = .ok (.iastore, 1) := by decide +kernel
theorem dL_law_1006 : decode cL_law 1006 = .ok (.dup, 1) := by decide +kernel
theorem dL_law_1007 : decode cL_law 1007 = .ok (.iconst 2, 1) := by decide +kernel
theorem dL_law_1008 : decode cL_law 1008 = .ok (.aload_n 1, 1) := by decide +kernel
theorem dL_law_1009 : decode cL_law 1009 = .ok (.iconst 1, 1) := by decide +kernel
theorem dL_law_1010 : decode cL_law 1010 = .ok (.bipush 10, 2) := by decide +kernel
theorem dL_law_1012 : decode cL_law 1012 = .ok (.invokevirtual 131, 3) := by decide +kernel
theorem dL_law_1015 : decode cL_law 1015 = .ok (.iastore, 1) := by decide +kernel
theorem dL_law_1016 : decode cL_law 1016 = .ok (.astore 21, 2) := by decide +kernel
theorem dL_law_1018 : decode cL_law 1018 = .ok (.iload 7, 2) := by decide +kernel
theorem dL_law_1020 : decode cL_law 1020 = .ok (.ifCond .ne 7, 3) := by decide +kernel
theorem dL_law_1023 : decode cL_law 1023 = .ok (.iconst (-1), 1) := by decide +kernel
theorem dL_law_1024 : decode cL_law 1024 = .ok (.goto 12, 3) := by decide +kernel
theorem dL_law_1027 : decode cL_law 1027 = .ok (.iload 4, 2) := by decide +kernel
theorem dL_law_1029 : decode cL_law 1029 = .ok (.iconst 4, 1) := by decide +kernel
theorem dL_law_1030 : decode cL_law 1030 = .ok (.ishr, 1) := by decide +kernel
theorem dL_law_1031 : decode cL_law 1031 = .ok (.iload 7, 2) := by decide +kernel
theorem dL_law_1033 : decode cL_law 1033 = .ok (.invokestatic 9, 3) := by decide +kernel
theorem dL_law_1036 : decode cL_law 1036 = .ok (.istore 22, 2) := by decide +kernel
theorem dL_law_1038 : decode cL_law 1038 = .ok (.iload 4, 2) := by decide +kernel
theorem dL_law_1040 : decode cL_law 1040 = .ok (.iconst 5, 1) := by decide +kernel
theorem dL_law_1041 : decode cL_law 1041 = .ok (.ishr, 1) := by decide +kernel
theorem dL_law_1042 : decode cL_law 1042 = .ok (.bipush 6, 2) := by decide +kernel
theorem dL_law_1044 : decode cL_law 1044 = .ok (.invokestatic 9, 3) := by decide +kernel
theorem dL_law_1047 : decode cL_law 1047 = .ok (.istore 23, 2) := by decide +kernel
theorem dL_law_1049 : decode cL_law 1049 = .ok (.iconst 1, 1) := by decide +kernel
theorem dL_law_1050 : decode cL_law 1050 = .ok (.iload 4, 2) := by decide +kernel
theorem dL_law_1052 : decode cL_law 1052 = .ok (.bipush 6, 2) := by decide +kernel
theorem dL_law_1054 : decode cL_law 1054 = .ok (.ishr, 1) := by decide +kernel
theorem dL_law_1055 : decode cL_law 1055 = .ok (.bipush 9, 2) := by decide +kernel
theorem dL_law_1057 : decode cL_law 1057 = .ok (.invokestatic 9, 3) := by decide +kernel
theorem dL_law_1060 : decode cL_law 1060 = .ok (.iadd, 1) := by decide +kernel
theorem dL_law_1061 : decode cL_law 1061 = .ok (.istore 24, 2) := by decide +kernel
theorem dL_law_1063 : decode cL_law 1063 = .ok (.iload 22, 2) := by decide +kernel
theorem dL_law_1065 : decode cL_law 1065 = .ok (.ifCond .ge 7, 3) := by decide +kernel
theorem dL_law_1068 : decode cL_law 1068 = .ok (.iconst (-1), 1) := by decide +kernel
theorem dL_law_1069 : decode cL_law 1069 = .ok (.goto 13, 3) := by decide +kernel
theorem dL_law_1072 : decode cL_law 1072 = .ok (.aload_n 1, 1) := by decide +kernel
theorem dL_law_1073 : decode cL_law 1073 = .ok (.iload 22, 2) := by decide +kernel
theorem dL_law_1075 : decode cL_law 1075 = .ok (.iload 23, 2) := by decide +kernel
theorem dL_law_1077 : decode cL_law 1077 = .ok (.iload 24, 2) := by decide +kernel
theorem dL_law_1079 : decode cL_law 1079 = .ok (.invokevirtual 134, 3) := by decide +kernel
theorem dL_law_1082 : decode cL_law 1082 = .ok (.istore 25, 2) := by decide +kernel
theorem dL_law_1084 : decode cL_law 1084 = .ok (.aload_n 1, 1) := by decide +kernel
theorem dL_law_1085 : decode cL_law 1085 = .ok (.invokevirtual 127, 3) := by decide +kernel
theorem dL_law_1088 : decode cL_law 1088 = .ok (.lload 19, 2) := by decide +kernel
theorem dL_law_1090 : decode cL_law 1090 = .ok (.lcmp, 1) := by decide +kernel
theorem dL_law_1091 : decode cL_law 1091 = .ok (.ifCond .ne 45, 3) := by decide +kernel
theorem dL_law_1094 : decode cL_law 1094 = .ok (.iload 18, 2) := by decide +kernel
theorem dL_law_1096 : decode cL_law 1096 = .ok (.iload 16, 2) := by decide +kernel
theorem dL_law_1098 : decode cL_law 1098 = .ok (.bipush 8, 2) := by decide +kernel
theorem dL_law_1100 : decode cL_law 1100 = .ok (.irem, 1) := by decide +kernel
theorem dL_law_1101 : decode cL_law 1101 = .ok (.iconst 4, 1) := by decide +kernel
theorem dL_law_1102 : decode cL_law 1102 = .ok (.if_icmp .ne 7, 3) := by decide +kernel
theorem dL_law_1105 : decode cL_law 1105 = .ok (.iconst 1, 1) := by decide +kernel
theorem dL_law_1106 : decode cL_law 1106 = .ok (.goto 4, 3) := by decide +kernel
theorem dL_law_1109 : decode cL_law 1109 = .ok (.iconst 0, 1) := by decide +kernel
theorem dL_law_1110 : decode cL_law 1110 = .ok (.if_icmp .ne 26, 3) := by decide +kernel
theorem dL_law_1113 : decode cL_law 1113 = .ok (.iload 25, 2) := by decide +kernel
theorem dL_law_1115 : decode cL_law 1115 = .ok (.ifCond .lt 23, 3) := by decide +kernel
theorem dL_law_1118 : decode cL_law 1118 = .ok (.aload_n 1, 1) := by decide +kernel
theorem dL_law_1119 : decode cL_law 1119 = .ok (.iload 25, 2) := by decide +kernel
theorem dL_law_1121 : decode cL_law 1121 = .ok (.bipush 10, 2) := by decide +kernel
theorem dL_law_1123 : decode cL_law 1123 = .ok (.irem, 1) := by decide +kernel
theorem dL_law_1124 : decode cL_law 1124 = .ok (.iload 25, 2) := by decide +kernel
theorem dL_law_1126 : decode cL_law 1126 = .ok (.bipush 10, 2) := by decide +kernel
theorem dL_law_1128 : decode cL_law 1128 = .ok (.idiv, 1) := by decide +kernel
theorem dL_law_1129 : decode cL_law 1129 = .ok (.iconst 0, 1) := by decide +kernel
theorem dL_law_1130 : decode cL_law 1130 = .ok (.invokevirtual 110, 3) := by decide +kernel
theorem dL_law_1133 : decode cL_law 1133 = .ok (.ifCond .eq 5, 3) := by decide +kernel
theorem dL_law_1136 : decode cL_law 1136 = .ok (.iconst 0, 1) := by decide +kernel
theorem dL_law_1137 : decode cL_law 1137 = .ok (.ireturn, 1) := by decide +kernel
theorem dL_law_1138 : decode cL_law 1138 = .ok (.aload_n 1, 1) := by decide +kernel
theorem dL_law_1139 : decode cL_law 1139 = .ok (.iconst 1, 1) := by decide +kernel
theorem dL_law_1140 : decode cL_law 1140 = .ok (.invokevirtual 91, 3) := by decide +kernel
theorem dL_law_1143 : decode cL_law 1143 = .ok (.istore 26, 2) := by decide +kernel
theorem dL_law_1145 : decode cL_law 1145 = .ok (.iload 26, 2) := by decide +kernel
theorem dL_law_1147 : decode cL_law 1147 = .ok (.aload_n 2, 1) := by decide +kernel
theorem dL_law_1148 : decode cL_law 1148 = .ok (.invokevirtual 94, 3) := by decide +kernel
theorem dL_law_1151 : decode cL_law 1151 = .ok (.if_icmp .ne 83, 3) := by decide +kernel
theorem dL_law_1154 : decode cL_law 1154 = .ok (.aload_n 1, 1) := by decide +kernel
theorem dL_law_1155 : decode cL_law 1155 = .ok (.iconst 2, 1) := by decide +kernel
theorem dL_law_1156 : decode cL_law 1156 = .ok (.invokevirtual 102, 3) := by decide +kernel
theorem dL_law_1159 : decode cL_law 1159 = .ok (.aload 21, 2) := by decide +kernel
theorem dL_law_1161 : decode cL_law 1161 = .ok (.iconst 0, 1) := by decide +kernel
theorem dL_law_1162 : decode cL_law 1162 = .ok (.iaload, 1) := by decide +kernel
theorem dL_law_1163 : decode cL_law 1163 = .ok (.if_icmp .ne 71, 3) := by decide +kernel
theorem dL_law_1166 : decode cL_law 1166 = .ok (.aload_n 1, 1) := by decide +kernel
theorem dL_law_1167 : decode cL_law 1167 = .ok (.bipush 7, 2) := by decide +kernel
theorem dL_law_1169 : decode cL_law 1169 = .ok (.invokevirtual 102, 3) := by decide +kernel
theorem dL_law_1172 : decode cL_law 1172 = .ok (.aload 21, 2) := by decide +kernel
theorem dL_law_1174 : decode cL_law 1174 = .ok (.iconst 1, 1) := by decide +kernel
theorem dL_law_1175 : decode cL_law 1175 = .ok (.iaload, 1) := by decide +kernel
theorem dL_law_1176 : decode cL_law 1176 = .ok (.if_icmp .ne 58, 3) := by decide +kernel
theorem dL_law_1179 : decode cL_law 1179 = .ok (.aload_n 1, 1) := by decide +kernel
theorem dL_law_1180 : decode cL_law 1180 = .ok (.bipush 10, 2) := by decide +kernel
theorem dL_law_1182 : decode cL_law 1182 = .ok (.invokevirtual 102, 3) := by decide +kernel
theorem dL_law_1185 : decode cL_law 1185 = .ok (.aload 21, 2) := by decide +kernel
theorem dL_law_1187 : decode cL_law 1187 = .ok (.iconst 2, 1) := by decide +kernel
theorem dL_law_1188 : decode cL_law 1188 = .ok (.iaload, 1) := by decide +kernel
theorem dL_law_1189 : decode cL_law 1189 = .ok (.if_icmp .ne 45, 3) := by decide +kernel
theorem dL_law_1192 : decode cL_law 1192 = .ok (.aload_n 1, 1) := by decide +kernel
theorem dL_law_1193 : decode cL_law 1193 = .ok (.iconst 2, 1) := by decide +kernel
theorem dL_law_1194 : decode cL_law 1194 = .ok (.invokevirtual 102, 3) := by decide +kernel
theorem dL_law_1197 : decode cL_law 1197 = .ok (.iload 5, 2) := by decide +kernel
theorem dL_law_1199 : decode cL_law 1199 = .ok (.iload 26, 2) := by decide +kernel
theorem dL_law_1201 : decode cL_law 1201 = .ok (.bipush 10, 2) := by decide +kernel
theorem dL_law_1203 : decode cL_law 1203 = .ok (.idiv, 1) := by decide +kernel
theorem dL_law_1204 : decode cL_law 1204 = .ok (.iadd, 1) := by decide +kernel
theorem dL_law_1205 : decode cL_law 1205 = .ok (.if_icmp .ne 29, 3) := by decide +kernel
theorem dL_law_1208 : decode cL_law 1208 = .ok (.aload_n 1, 1) := by decide +kernel
theorem dL_law_1209 : decode cL_law 1209 = .ok (.bipush 10, 2) := by decide +kernel
theorem dL_law_1211 : decode cL_law 1211 = .ok (.invokevirtual 102, 3) := by decide +kernel
theorem dL_law_1214 : decode cL_law 1214 = .ok (.iload 17, 2) := by decide +kernel
theorem dL_law_1216 : decode cL_law 1216 = .ok (.iload 26, 2) := by decide +kernel
theorem dL_law_1218 : decode cL_law 1218 = .ok (.iadd, 1) := by decide +kernel
theorem dL_law_1219 : decode cL_law 1219 = .ok (.if_icmp .ne 15, 3) := by decide +kernel
theorem dL_law_1222 : decode cL_law 1222 = .ok (.aload_n 1, 1) := by decide +kernel
theorem dL_law_1223 : decode cL_law 1223 = .ok (.iconst 0, 1) := by decide +kernel
theorem dL_law_1224 : decode cL_law 1224 = .ok (.invokevirtual 102, 3) := by decide +kernel
theorem dL_law_1227 : decode cL_law 1227 = .ok (.iload 16, 2) := by decide +kernel
theorem dL_law_1229 : decode cL_law 1229 = .ok (.iconst 1, 1) := by decide +kernel
theorem dL_law_1230 : decode cL_law 1230 = .ok (.iadd, 1) := by decide +kernel
theorem dL_law_1231 : decode cL_law 1231 = .ok (.if_icmp .eq 5, 3) := by decide +kernel
theorem dL_law_1234 : decode cL_law 1234 = .ok (.iconst 0, 1) := by decide +kernel
theorem dL_law_1235 : decode cL_law 1235 = .ok (.ireturn, 1) := by decide +kernel
theorem dL_law_1236 : decode cL_law 1236 = .ok (.iconst 0, 1) := by decide +kernel
theorem dL_law_1237 : decode cL_law 1237 = .ok (.istore 27, 2) := by decide +kernel
theorem dL_law_1239 : decode cL_law 1239 = .ok (.iload 27, 2) := by decide +kernel
theorem dL_law_1241 : decode cL_law 1241 = .ok (.iload 6, 2) := by decide +kernel
theorem dL_law_1243 : decode cL_law 1243 = .ok (.if_icmp .ge 90, 3) := by decide +kernel
theorem dL_law_1246 : decode cL_law 1246 = .ok (.aload_n 1, 1) := by decide +kernel
theorem dL_law_1247 : decode cL_law 1247 = .ok (.iload 27, 2) := by decide +kernel
theorem dL_law_1249 : decode cL_law 1249 = .ok (.iconst 3, 1) := by decide +kernel
theorem dL_law_1250 : decode cL_law 1250 = .ok (.invokevirtual 112, 3) := by decide +kernel
theorem dL_law_1253 : decode cL_law 1253 = .ok (.iconst 1, 1) := by decide +kernel
theorem dL_law_1254 : decode cL_law 1254 = .ok (.if_icmp .ne 7, 3) := by decide +kernel
theorem dL_law_1257 : decode cL_law 1257 = .ok (.iconst 1, 1) := by decide +kernel
theorem dL_law_1258 : decode cL_law 1258 = .ok (.goto 4, 3) := by decide +kernel
theorem dL_law_1261 : decode cL_law 1261 = .ok (.iconst 0, 1) := by decide +kernel
theorem dL_law_1262 : decode cL_law 1262 = .ok (.istore 28, 2) := by decide +kernel
theorem dL_law_1264 : decode cL_law 1264 = .ok (.iload 28, 2) := by decide +kernel
theorem dL_law_1266 : decode cL_law 1266 = .ok (.ifCond .eq 11, 3) := by decide +kernel
theorem dL_law_1269 : decode cL_law 1269 = .ok (.aload 12, 2) := by decide +kernel
theorem dL_law_1271 : decode cL_law 1271 = .ok (.iload 27, 2) := by decide +kernel
theorem dL_law_1273 : decode cL_law 1273 = .ok (.iaload, 1) := by decide +kernel
theorem dL_law_1274 : decode cL_law 1274 = .ok (.goto 37, 3) := by decide +kernel
theorem dL_law_1277 : decode cL_law 1277 = .ok (.aload 13, 2) := by decide +kernel
theorem dL_law_1279 : decode cL_law 1279 = .ok (.iload 27, 2) := by decide +kernel
theorem dL_law_1281 : decode cL_law 1281 = .ok (.baload, 1) := by decide +kernel
theorem dL_law_1282 : decode cL_law 1282 = .ok (.ifCond .eq 18, 3) := by decide +kernel
theorem dL_law_1285 : decode cL_law 1285 = .ok (.bipush 40, 2) := by decide +kernel
theorem dL_law_1287 : decode cL_law 1287 = .ok (.aload 12, 2) := by decide +kernel
theorem dL_law_1289 : decode cL_law 1289 = .ok (.iload 27, 2) := by decide +kernel
theorem dL_law_1291 : decode cL_law 1291 = .ok (.iaload, 1) := by decide +kernel
theorem dL_law_1292 : decode cL_law 1292 = .ok (.iconst 1, 1) := by decide +kernel
theorem dL_law_1293 : decode cL_law 1293 = .ok (.iadd, 1) := by decide +kernel
theorem dL_law_1294 : decode cL_law 1294 = .ok (.invokestatic 137, 3) := by decide +kernel
theorem dL_law_1297 : decode cL_law 1297 = .ok (.goto 14, 3) := by decide +kernel
theorem dL_law_1300 : decode cL_law 1300 = .ok (.iconst 1, 1) := by decide +kernel
theorem dL_law_1301 : decode cL_law 1301 = .ok (.aload 12, 2) := by decide +kernel
theorem dL_law_1303 : decode cL_law 1303 = .ok (.iload 27, 2) := by decide +kernel
theorem dL_law_1305 : decode cL_law 1305 = .ok (.iaload, 1) := by decide +kernel
theorem dL_law_1306 : decode cL_law 1306 = .ok (.iconst 1, 1) := by decide +kernel
theorem dL_law_1307 : decode cL_law 1307 = .ok (.isub, 1) := by decide +kernel
theorem dL_law_1308 : decode cL_law 1308 = .ok (.invokestatic 121, 3) := by decide +kernel
theorem dL_law_1311 : decode cL_law 1311 = .ok (.istore 29, 2) := by decide +kernel
theorem dL_law_1313 : decode cL_law 1313 = .ok (.aload_n 1, 1) := by decide +kernel
theorem dL_law_1314 : decode cL_law 1314 = .ok (.iload 27, 2) := by decide +kernel
theorem dL_law_1316 : decode cL_law 1316 = .ok (.iconst 2, 1) := by decide +kernel
theorem dL_law_1317 : decode cL_law 1317 = .ok (.invokevirtual 112, 3) := by decide +kernel
theorem dL_law_1320 : decode cL_law 1320 = .ok (.iload 29, 2) := by decide +kernel
theorem dL_law_1322 : decode cL_law 1322 = .ok (.if_icmp .eq 5, 3) := by decide +kernel
theorem dL_law_1325 : decode cL_law 1325 = .ok (.iconst 0, 1) := by decide +kernel
theorem dL_law_1326 : decode cL_law 1326 = .ok (.ireturn, 1) := by decide +kernel
theorem dL_law_1327 : decode cL_law 1327 = .ok (.iinc 27 1, 3) := by decide +kernel
theorem dL_law_1330 : decode cL_law 1330 = .ok (.goto (-91), 3) := by decide +kernel
theorem dL_law_1333 : decode cL_law 1333 = .ok (.iconst 0, 1) := by decide +kernel
theorem dL_law_1334 : decode cL_law 1334 = .ok (.istore 27, 2) := by decide +kernel
theorem dL_law_1336 : decode cL_law 1336 = .ok (.iload 27, 2) := by decide +kernel
theorem dL_law_1338 : decode cL_law 1338 = .ok (.iload 8, 2) := by decide +kernel
theorem dL_law_1340 : decode cL_law 1340 = .ok (.if_icmp .ge 53, 3) := by decide +kernel
theorem dL_law_1343 : decode cL_law 1343 = .ok (.aload_n 1, 1) := by decide +kernel
theorem dL_law_1344 : decode cL_law 1344 = .ok (.iload 27, 2) := by decide +kernel
theorem dL_law_1346 : decode cL_law 1346 = .ok (.invokevirtual 115, 3) := by decide +kernel
theorem dL_law_1349 : decode cL_law 1349 = .ok (.aload 14, 2) := by decide +kernel
theorem dL_law_1351 : decode cL_law 1351 = .ok (.iload 27, 2) := by decide +kernel
theorem dL_law_1353 : decode cL_law 1353 = .ok (.iaload, 1) := by decide +kernel
theorem dL_law_1354 : decode cL_law 1354 = .ok (.isub, 1) := by decide +kernel
theorem dL_law_1355 : decode cL_law 1355 = .ok (.aload_n 1, 1) := by decide +kernel
theorem dL_law_1356 : decode cL_law 1356 = .ok (.aload_n 2, 1) := by decide +kernel
theorem dL_law_1357 : decode cL_law 1357 = .ok (.getfield 72, 3) := by decide +kernel
theorem dL_law_1360 : decode cL_law 1360 = .ok (.iload 27, 2) := by decide +kernel
theorem dL_law_1362 : decode cL_law 1362 = .ok (.aaload, 1) := by decide +kernel
theorem dL_law_1363 : decode cL_law 1363 = .ok (.iconst 0, 1) := by decide +kernel
theorem dL_law_1364 : decode cL_law 1364 = .ok (.iaload, 1) := by decide +kernel
theorem dL_law_1365 : decode cL_law 1365 = .ok (.iconst 3, 1) := by decide +kernel
theorem dL_law_1366 : decode cL_law 1366 = .ok (.invokevirtual 118, 3) := by decide +kernel
theorem dL_law_1369 : decode cL_law 1369 = .ok (.iconst 5, 1) := by decide +kernel
theorem dL_law_1370 : decode cL_law 1370 = .ok (.idiv, 1) := by decide +kernel
theorem dL_law_1371 : decode cL_law 1371 = .ok (.iload 18, 2) := by decide +kernel
theorem dL_law_1373 : decode cL_law 1373 = .ok (.ifCond .eq 7, 3) := by decide +kernel
theorem dL_law_1376 : decode cL_law 1376 = .ok (.iconst 2, 1) := by decide +kernel
theorem dL_law_1377 : decode cL_law 1377 = .ok (.goto 4, 3) := by decide +kernel
theorem dL_law_1380 : decode cL_law 1380 = .ok (.iconst 1, 1) := by decide +kernel
theorem dL_law_1381 : decode cL_law 1381 = .ok (.imul, 1) := by decide +kernel
theorem dL_law_1382 : decode cL_law 1382 = .ok (.if_icmp .eq 5, 3) := by decide +kernel
theorem dL_law_1385 : decode cL_law 1385 = .ok (.iconst 0, 1) := by decide +kernel
theorem dL_law_1386 : decode cL_law 1386 = .ok (.ireturn, 1) := by decide +kernel
theorem dL_law_1387 : decode cL_law 1387 = .ok (.iinc 27 1, 3) := by decide +kernel
theorem dL_law_1390 : decode cL_law 1390 = .ok (.goto (-54), 3) := by decide +kernel
theorem dL_law_1393 : decode cL_law 1393 = .ok (.iinc 3 1, 3) := by decide +kernel
theorem dL_law_1396 : decode cL_law 1396 = .ok (.goto (-1374), 3) := by decide +kernel
theorem dL_law_1399 : decode cL_law 1399 = .ok (.aload_n 2, 1) := by decide +kernel
theorem dL_law_1400 : decode cL_law 1400 = .ok (.aload_n 1, 1) := by decide +kernel
theorem dL_law_1401 : decode cL_law 1401 = .ok (.invokevirtual 140, 3) := by decide +kernel
theorem dL_law_1404 : decode cL_law 1404 = .ok (.ireturn, 1) := by decide +kernel
end
section
set_option maxRecDepth 20000 in
theorem mg_lwin_1 : ∀ w ∈ wsL_law0_r1, w ∈ lw_tbl := fun w h => (goodIn_p wsL_law0_r1 [830, 521, 518, 50, 53] (by decide +kernel) (by decide +kernel) w h).1
set_option maxRecDepth 20000 in
theorem mg_lwin_2 : ∀ w ∈ wsL_law0_r2, w ∈ lw_tbl := fun w h => (goodIn_p wsL_law0_r2 [] (by decide +kernel) (by decide +kernel) w h).1
set_option maxRecDepth 20000 in
theorem mg_lwin_3 : ∀ w ∈ wsL_law0_r3, w ∈ lw_tbl := fun w h => (goodIn_p wsL_law0_r3 [58, 94, 112] (by decide +kernel) (by decide +kernel) w h).1
set_option maxRecDepth 20000 in
theorem mg_lwin_4 : ∀ w ∈ wsL_law0_r4, w ∈ lw_tbl := fun w h => (goodIn_p wsL_law0_r4 [129, 143, 164, 794] (by decide +kernel) (by decide +kernel) w h).1
set_option maxRecDepth 20000 in
theorem mg_lwin_5 : ∀ w ∈ wsL_law0_r5, w ∈ lw_tbl := fun w h => (goodIn_p wsL_law0_r5 [799, 651, 647, 660] (by decide +kernel) (by decide +kernel) w h).1
set_option maxRecDepth 20000 in
theorem mg_lwin_6 : ∀ w ∈ wsL_law0_r6, w ∈ lw_tbl := fun w h => (goodIn_p wsL_law0_r6 [215, 218, 547, 294] (by decide +kernel) (by decide +kernel) w h).1
set_option maxRecDepth 20000 in
theorem mg_lwin_7 : ∀ w ∈ wsL_law0_r7, w ∈ lw_tbl := fun w h => (goodIn_p wsL_law0_r7 [664, 553, 298, 301, 684, 561] (by decide +kernel) (by decide +kernel) w h).1
set_option maxRecDepth 20000 in
theorem mg_lwin_8 : ∀ w ∈ wsL_law0_r8, w ∈ lw_tbl := fun w h => (goodIn_p wsL_law0_r8 [565, 689, 693, 697, 701, 705] (by decide +kernel) (by decide +kernel) w h).1
set_option maxRecDepth 20000 in
theorem mg_lwin_9 : ∀ w ∈ wsL_law0_r9, w ∈ lw_tbl := fun w h => (goodIn_p wsL_law0_r9 [709, 383, 386, 313, 317] (by decide +kernel) (by decide +kernel) w h).1
set_option maxRecDepth 20000 in
theorem mg_lwin_10 : ∀ w ∈ wsL_law0_r10, w ∈ lw_tbl := fun w h => (goodIn_p wsL_law0_r10 [604, 613, 716, 720, 724, 729] (by decide +kernel) (by decide +kernel) w h).1
set_option maxRecDepth 20000 in
theorem mg_lwin_11 : ∀ w ∈ wsL_law0_r11, w ∈ lw_tbl := fun w h => (goodIn_p wsL_law0_r11 [309, 734, 738, 742, 749] (by decide +kernel) (by decide +kernel) w h).1
set_option maxRecDepth 20000 in
theorem mg_lwin_12 : ∀ w ∈ wsL_law0_r12, w ∈ lw_tbl := fun w h => (goodIn_p wsL_law0_r12 [515, 753, 626, 758, 329, 346] (by decide +kernel) (by decide +kernel) w h).1
set_option maxRecDepth 20000 in
theorem mg_lwin_13 : ∀ w ∈ wsL_law0_r13, w ∈ lw_tbl := fun w h => (goodIn_p wsL_law0_r13 [338, 763, 334, 342, 767, 774] (by decide +kernel) (by decide +kernel) w h).1
set_option maxRecDepth 20000 in
theorem mg_lwin_14 : ∀ w ∈ wsL_law0_r14, w ∈ lw_tbl := fun w h => (goodIn_p wsL_law0_r14 [778, 358, 783, 787, 439] (by decide +kernel) (by decide +kernel) w h).1
set_option maxRecDepth 20000 in
theorem mg_lwin_15 : ∀ w ∈ wsL_law0_r15, w ∈ lw_tbl := fun w h => (goodIn_p wsL_law0_r15 [427, 431, 791, 477, 481, 501] (by decide +kernel) (by decide +kernel) w h).1
set_option maxRecDepth 20000 in
theorem mg_lwin_16 : ∀ w ∈ wsL_law0_r16, w ∈ lw_tbl := fun w h => (goodIn_p wsL_law0_r16 [505, 509, 321, 525, 452, 363] (by decide +kernel) (by decide +kernel) w h).1
set_option maxRecDepth 20000 in
theorem mg_lwin_17 : ∀ w ∈ wsL_law0_r17, w ∈ lw_tbl := fun w h => (goodIn_p wsL_law0_r17 [367, 371, 375, 379] (by decide +kernel) (by decide +kernel) w h).1
set_option maxRecDepth 20000 in
theorem mg_lwin_18 : ∀ w ∈ wsL_law0_r18, w ∈ lw_tbl := fun w h => (goodIn_p wsL_law0_r18 [396, 401, 305, 405, 409, 414] (by decide +kernel) (by decide +kernel) w h).1
set_option maxRecDepth 20000 in
theorem mg_lwin_19 : ∀ w ∈ wsL_law0_r19, w ∈ lw_tbl := fun w h => (goodIn_p wsL_law0_r19 [418, 530, 600, 610, 617] (by decide +kernel) (by decide +kernel) w h).1
set_option maxRecDepth 20000 in
theorem mg_lwin_20 : ∀ w ∈ wsL_law0_r20, w ∈ lw_tbl := fun w h => (goodIn_p wsL_law0_r20 [621, 448, 290, 456, 460] (by decide +kernel) (by decide +kernel) w h).1
set_option maxRecDepth 20000 in
theorem mg_lwin_21 : ∀ w ∈ wsL_law0_r21, w ∈ lw_tbl := fun w h => (goodIn_p wsL_law0_r21 [465, 469, 473, 211, 325] (by decide +kernel) (by decide +kernel) w h).1
set_option maxRecDepth 20000 in
theorem mg_lwin_22 : ∀ w ∈ wsL_law0_r22, w ∈ lw_tbl := fun w h => (goodIn_p wsL_law0_r22 [350, 435, 444, 354, 423, 573] (by decide +kernel) (by decide +kernel) w h).1
set_option maxRecDepth 20000 in
theorem mg_lwin_23 : ∀ w ∈ wsL_law0_r23, w ∈ lw_tbl := fun w h => (goodIn_p wsL_law0_r23 [577, 584, 589, 594] (by decide +kernel) (by decide +kernel) w h).1
set_option maxRecDepth 20000 in
theorem mg_lwin_24 : ∀ w ∈ wsL_law0_r24, w ∈ lw_tbl := fun w h => (goodIn_p wsL_law0_r24 [534, 539, 543, 557, 569, 630] (by decide +kernel) (by decide +kernel) w h).1
set_option maxRecDepth 20000 in
theorem mg_lwin_25 : ∀ w ∈ wsL_law0_r25, w ∈ lw_tbl := fun w h => (goodIn_p wsL_law0_r25 [638, 644] (by decide +kernel) (by decide +kernel) w h).1
theorem mg_lwin_wsX60 : ∀ w ∈ wsX60, w ∈ lw_tbl := by decide +kernel
theorem mg_lwin_wsX70 : ∀ w ∈ wsX70, w ∈ lw_tbl := by decide +kernel
theorem mg_lwin_wsX10 : ∀ w ∈ wsX10, w ∈ lw_tbl := by decide +kernel
theorem mg_lwin_wsX40 : ∀ w ∈ wsX40, w ∈ lw_tbl := by decide +kernel
theorem mg_lwin_wsX20 : ∀ w ∈ wsX20, w ∈ lw_tbl := by decide +kernel
theorem mg_lwin_wsX30 : ∀ w ∈ wsX30, w ∈ lw_tbl := by decide +kernel
theorem mg_lwin_wsX00 : ∀ w ∈ wsX00, w ∈ lw_tbl := by decide +kernel
theorem mg_lwin_wsX50 : ∀ w ∈ wsX50, w ∈ lw_tbl := by decide +kernel
theorem mg_app {a b t : List Cond} (ha : ∀ w ∈ a, w ∈ t) (hb : ∀ w ∈ b, w ∈ t) : ∀ w ∈ a ++ b, w ∈ t := fun w h => (List.mem_append.mp h).elim (ha w) (hb w)
theorem wsL_law_in0 : ∀ w ∈ wsL_law0, w ∈ lw_tbl := (mg_app (mg_app (mg_app (mg_app (mg_app (mg_app (mg_app (mg_app (mg_app (mg_app mg_lwin_1 (mg_app mg_lwin_2 (mg_app mg_lwin_3 (mg_app mg_lwin_4 (mg_app mg_lwin_5 (mg_app mg_lwin_6 (mg_app mg_lwin_7 (mg_app mg_lwin_8 (mg_app mg_lwin_9 (mg_app mg_lwin_10 (mg_app mg_lwin_11 (mg_app mg_lwin_12 (mg_app mg_lwin_13 (mg_app mg_lwin_14 (mg_app mg_lwin_15 (mg_app mg_lwin_16 (mg_app mg_lwin_17 (mg_app mg_lwin_18 (mg_app mg_lwin_19 (mg_app mg_lwin_20 (mg_app mg_lwin_21 (mg_app mg_lwin_22 (mg_app mg_lwin_23 (mg_app mg_lwin_24 mg_lwin_25)))))))))))))))))))))))) mg_lwin_wsX60) mg_lwin_wsX70) mg_lwin_wsX10) mg_lwin_wsX40) mg_lwin_wsX20) mg_lwin_wsX30) mg_lwin_wsX00) mg_lwin_wsX50) (fun _ h => absurd h List.not_mem_nil))
theorem wsL_law_x0 : ∀ w ∈ (vx_atS RX6 253 "java/lang/IndexOutOfBoundsException" ["java/lang/RuntimeException", "java/lang/Exception"]).filter goodWord, w ∈ lw_tbl := by decide +kernel
theorem wsL_law_x1 : ∀ w ∈ (vx_atS RX6 170 "java/lang/IllegalArgumentException" ["java/lang/RuntimeException", "java/lang/Exception"]).filter goodWord, w ∈ lw_tbl := by decide +kernel
theorem wsL_law_x2 : ∀ w ∈ (vx_atS RX6 98 "java/lang/IllegalStateException" ["java/lang/RuntimeException", "java/lang/Exception"]).filter goodWord, w ∈ lw_tbl := by decide +kernel
theorem wsL_law_in : ∀ w ∈ wsL_law, w ∈ lw_tbl := fun w h => (List.mem_append.mp h).elim (fun h => (List.mem_append.mp h).elim (fun h => (List.mem_append.mp h).elim (fun h => wsL_law_in0 w h) (fun h => wsL_law_x0 w h)) (fun h => wsL_law_x1 w h)) (fun h => wsL_law_x2 w h)
theorem inlX0 : ∀ w ∈ wsX00, w ∈ wsL_law := fun _ h => List.mem_append_left _ (List.mem_append_left _ (List.mem_append_left _ (List.mem_append_left _ (List.mem_append_left _ (List.mem_append_right _ h)))))
theorem inX0 : ∀ w ∈ wsX00, w ∈ lw_tbl := fun w h => wsL_law_in w (inlX0 w h)
theorem inlX1 : ∀ w ∈ wsX10, w ∈ wsL_law := fun _ h => List.mem_append_left _ (List.mem_append_left _ (List.mem_append_left _ (List.mem_append_left _ (List.mem_append_left _ (List.mem_append_left _ (List.mem_append_left _ (List.mem_append_left _ (List.mem_append_left _ (List.mem_append_right _ h)))))))))
theorem inX1 : ∀ w ∈ wsX10, w ∈ lw_tbl := fun w h => wsL_law_in w (inlX1 w h)
theorem inlX2 : ∀ w ∈ wsX20, w ∈ wsL_law := fun _ h => List.mem_append_left _ (List.mem_append_left _ (List.mem_append_left _ (List.mem_append_left _ (List.mem_append_left _ (List.mem_append_left _ (List.mem_append_left _ (List.mem_append_right _ h)))))))
theorem inX2 : ∀ w ∈ wsX20, w ∈ lw_tbl := fun w h => wsL_law_in w (inlX2 w h)
theorem inlX3 : ∀ w ∈ wsX30, w ∈ wsL_law := fun _ h => List.mem_append_left _ (List.mem_append_left _ (List.mem_append_left _ (List.mem_append_left _ (List.mem_append_left _ (List.mem_append_left _ (List.mem_append_right _ h))))))
theorem inX3 : ∀ w ∈ wsX30, w ∈ lw_tbl := fun w h => wsL_law_in w (inlX3 w h)
theorem inlX4 : ∀ w ∈ wsX40, w ∈ wsL_law := fun _ h => List.mem_append_left _ (List.mem_append_left _ (List.mem_append_left _ (List.mem_append_left _ (List.mem_append_left _ (List.mem_append_left _ (List.mem_append_left _ (List.mem_append_left _ (List.mem_append_right _ h))))))))
theorem inX4 : ∀ w ∈ wsX40, w ∈ lw_tbl := fun w h => wsL_law_in w (inlX4 w h)
theorem inlX5 : ∀ w ∈ wsX50, w ∈ wsL_law := fun _ h => List.mem_append_left _ (List.mem_append_left _ (List.mem_append_left _ (List.mem_append_left _ (List.mem_append_right _ h))))
theorem inX5 : ∀ w ∈ wsX50, w ∈ lw_tbl := fun w h => wsL_law_in w (inlX5 w h)
theorem inlX6 : ∀ w ∈ wsX60, w ∈ wsL_law := fun _ h => List.mem_append_left _ (List.mem_append_left _ (List.mem_append_left _ (List.mem_append_left _ (List.mem_append_left _ (List.mem_append_left _ (List.mem_append_left _ (List.mem_append_left _ (List.mem_append_left _ (List.mem_append_left _ (List.mem_append_left _ (List.mem_append_right _ h)))))))))))
theorem inX6 : ∀ w ∈ wsX60, w ∈ lw_tbl := fun w h => wsL_law_in w (inlX6 w h)
theorem inlX7 : ∀ w ∈ wsX70, w ∈ wsL_law := fun _ h => List.mem_append_left _ (List.mem_append_left _ (List.mem_append_left _ (List.mem_append_left _ (List.mem_append_left _ (List.mem_append_left _ (List.mem_append_left _ (List.mem_append_left _ (List.mem_append_left _ (List.mem_append_left _ (List.mem_append_right _ h))))))))))
theorem inX7 : ∀ w ∈ wsX70, w ∈ lw_tbl := fun w h => wsL_law_in w (inlX7 w h)
theorem inX8 : ∀ w ∈ wsX80, w ∈ lw_tbl := by decide +kernel
theorem inX9 : ∀ w ∈ wsX90, w ∈ lw_tbl := by decide +kernel
theorem inJ9 : ∀ w ∈ wsJ90, w ∈ lw_tbl := by decide +kernel
theorem inJ0 : ∀ w ∈ wsJ00, w ∈ lw_tbl := by decide +kernel
end
