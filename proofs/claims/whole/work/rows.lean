section
-- ===== PART A: goes FIRST, ahead of the names: the tables' words, and 'selects' of the private methods out of them =====
/-- a private method of a class that the tables say can be made, by its rows of tables_1 -/
def lw_okq (q : MethodName × Nat) : Prop := (q.1.cls ≠ "java/lang/invoke/MethodHandle" ∧ q.1.cls ≠ "java/lang/invoke/VarHandle") ∧ Cond.instantiable q.1.cls q.2 ∈ tables_1 ∧ Cond.privateMethod q.1 ∈ tables_1 ∧ Cond.instanceMethod q.1 ∈ tables_1
theorem lw_p0 : lw_okq (⟨"WordArithmetic", "put", "(IZ)V"⟩, 1) := ⟨⟨by decide +kernel, by decide +kernel⟩, List.mem_of_getElem? (i := 11) (by decide +kernel), List.mem_of_getElem? (i := 48) (by decide +kernel), List.mem_of_getElem? (i := 49) (by decide +kernel)⟩
theorem lw_p1 : lw_okq (⟨"WordArithmetic", "sum", "(ZIII)I"⟩, 1) := ⟨⟨by decide +kernel, by decide +kernel⟩, List.mem_of_getElem? (i := 11) (by decide +kernel), List.mem_of_getElem? (i := 64) (by decide +kernel), List.mem_of_getElem? (i := 65) (by decide +kernel)⟩
theorem lw_p2 : lw_okq (⟨"WordArithmetic", "putOverflow", "(ZI)V"⟩, 1) := ⟨⟨by decide +kernel, by decide +kernel⟩, List.mem_of_getElem? (i := 11) (by decide +kernel), List.mem_of_getElem? (i := 68) (by decide +kernel), List.mem_of_getElem? (i := 69) (by decide +kernel)⟩
theorem lw_p3 : lw_okq (⟨"WordArithmetic", "kept", "(ZI)I"⟩, 1) := ⟨⟨by decide +kernel, by decide +kernel⟩, List.mem_of_getElem? (i := 11) (by decide +kernel), List.mem_of_getElem? (i := 72) (by decide +kernel), List.mem_of_getElem? (i := 73) (by decide +kernel)⟩
theorem lw_p4 : lw_okq (⟨"WordArithmetic", "goByAnswer", "(ZI)V"⟩, 1) := ⟨⟨by decide +kernel, by decide +kernel⟩, List.mem_of_getElem? (i := 11) (by decide +kernel), List.mem_of_getElem? (i := 76) (by decide +kernel), List.mem_of_getElem? (i := 77) (by decide +kernel)⟩
theorem lw_p5 : lw_okq (⟨"WordArithmetic", "logic", "(ZI)I"⟩, 1) := ⟨⟨by decide +kernel, by decide +kernel⟩, List.mem_of_getElem? (i := 11) (by decide +kernel), List.mem_of_getElem? (i := 93) (by decide +kernel), List.mem_of_getElem? (i := 94) (by decide +kernel)⟩
theorem lw_p6 : lw_okq (⟨"WordArithmetic", "difference", "(ZIII)I"⟩, 1) := ⟨⟨by decide +kernel, by decide +kernel⟩, List.mem_of_getElem? (i := 11) (by decide +kernel), List.mem_of_getElem? (i := 97) (by decide +kernel), List.mem_of_getElem? (i := 98) (by decide +kernel)⟩
theorem lw_p7 : lw_okq (⟨"WordArithmetic", "oneMore", "(ZI)I"⟩, 1) := ⟨⟨by decide +kernel, by decide +kernel⟩, List.mem_of_getElem? (i := 11) (by decide +kernel), List.mem_of_getElem? (i := 101) (by decide +kernel), List.mem_of_getElem? (i := 102) (by decide +kernel)⟩
theorem lw_p8 : lw_okq (⟨"WordArithmetic", "isSet", "(I)Z"⟩, 1) := ⟨⟨by decide +kernel, by decide +kernel⟩, List.mem_of_getElem? (i := 11) (by decide +kernel), List.mem_of_getElem? (i := 105) (by decide +kernel), List.mem_of_getElem? (i := 106) (by decide +kernel)⟩
theorem lw_p9 : lw_okq (⟨"WordArithmetic", "oneLess", "(ZI)I"⟩, 1) := ⟨⟨by decide +kernel, by decide +kernel⟩, List.mem_of_getElem? (i := 11) (by decide +kernel), List.mem_of_getElem? (i := 109) (by decide +kernel), List.mem_of_getElem? (i := 110) (by decide +kernel)⟩
theorem lw_p10 : lw_okq (⟨"java/lang/Throwable", "fillInStackTrace", "(I)Ljava/lang/Throwable;"⟩, 6) := ⟨⟨by decide +kernel, by decide +kernel⟩, List.mem_of_getElem? (i := 150) (by decide +kernel), List.mem_of_getElem? (i := 148) (by decide +kernel), List.mem_of_getElem? (i := 149) (by decide +kernel)⟩
theorem lw_p11 : lw_okq (⟨"WordArithmetic", "leftByOne", "(IZI)I"⟩, 1) := ⟨⟨by decide +kernel, by decide +kernel⟩, List.mem_of_getElem? (i := 11) (by decide +kernel), List.mem_of_getElem? (i := 189) (by decide +kernel), List.mem_of_getElem? (i := 190) (by decide +kernel)⟩
theorem lw_p12 : lw_okq (⟨"WordArithmetic", "rightByOne", "(IZI)I"⟩, 1) := ⟨⟨by decide +kernel, by decide +kernel⟩, List.mem_of_getElem? (i := 11) (by decide +kernel), List.mem_of_getElem? (i := 193) (by decide +kernel), List.mem_of_getElem? (i := 194) (by decide +kernel)⟩
theorem lw_p13 : lw_okq (⟨"WordArithmetic", "comesInFromLeft", "(IZZ)Z"⟩, 1) := ⟨⟨by decide +kernel, by decide +kernel⟩, List.mem_of_getElem? (i := 11) (by decide +kernel), List.mem_of_getElem? (i := 197) (by decide +kernel), List.mem_of_getElem? (i := 198) (by decide +kernel)⟩
theorem lw_p14 : lw_okq (⟨"WordArithmetic", "adjustedSum", "(I)I"⟩, 1) := ⟨⟨by decide +kernel, by decide +kernel⟩, List.mem_of_getElem? (i := 11) (by decide +kernel), List.mem_of_getElem? (i := 248) (by decide +kernel), List.mem_of_getElem? (i := 249) (by decide +kernel)⟩
theorem lw_p15 : lw_okq (⟨"WordArithmetic", "needsLowerGap", "(I)Z"⟩, 1) := ⟨⟨by decide +kernel, by decide +kernel⟩, List.mem_of_getElem? (i := 11) (by decide +kernel), List.mem_of_getElem? (i := 252) (by decide +kernel), List.mem_of_getElem? (i := 253) (by decide +kernel)⟩
def lw_privs_1 : List (MethodName × Nat) := [(⟨"WordArithmetic", "put", "(IZ)V"⟩, 1), (⟨"WordArithmetic", "sum", "(ZIII)I"⟩, 1), (⟨"WordArithmetic", "putOverflow", "(ZI)V"⟩, 1), (⟨"WordArithmetic", "kept", "(ZI)I"⟩, 1), (⟨"WordArithmetic", "goByAnswer", "(ZI)V"⟩, 1), (⟨"WordArithmetic", "logic", "(ZI)I"⟩, 1), (⟨"WordArithmetic", "difference", "(ZIII)I"⟩, 1), (⟨"WordArithmetic", "oneMore", "(ZI)I"⟩, 1), (⟨"WordArithmetic", "isSet", "(I)Z"⟩, 1), (⟨"WordArithmetic", "oneLess", "(ZI)I"⟩, 1), (⟨"java/lang/Throwable", "fillInStackTrace", "(I)Ljava/lang/Throwable;"⟩, 6), (⟨"WordArithmetic", "leftByOne", "(IZI)I"⟩, 1), (⟨"WordArithmetic", "rightByOne", "(IZI)I"⟩, 1), (⟨"WordArithmetic", "comesInFromLeft", "(IZZ)Z"⟩, 1), (⟨"WordArithmetic", "adjustedSum", "(I)I"⟩, 1), (⟨"WordArithmetic", "needsLowerGap", "(I)Z"⟩, 1)]
theorem lw_r1 : ∀ q ∈ lw_privs_1, lw_okq q := List.forall_mem_cons.mpr ⟨lw_p0, List.forall_mem_cons.mpr ⟨lw_p1, List.forall_mem_cons.mpr ⟨lw_p2, List.forall_mem_cons.mpr ⟨lw_p3, List.forall_mem_cons.mpr ⟨lw_p4, List.forall_mem_cons.mpr ⟨lw_p5, List.forall_mem_cons.mpr ⟨lw_p6, List.forall_mem_cons.mpr ⟨lw_p7, List.forall_mem_cons.mpr ⟨lw_p8, List.forall_mem_cons.mpr ⟨lw_p9, List.forall_mem_cons.mpr ⟨lw_p10, List.forall_mem_cons.mpr ⟨lw_p11, List.forall_mem_cons.mpr ⟨lw_p12, List.forall_mem_cons.mpr ⟨lw_p13, List.forall_mem_cons.mpr ⟨lw_p14, List.forall_mem_cons.mpr ⟨lw_p15, fun _ h => absurd h List.not_mem_nil⟩⟩⟩⟩⟩⟩⟩⟩⟩⟩⟩⟩⟩⟩⟩⟩
theorem lw_p16 : lw_okq (⟨"WordArithmetic", "needsUpperGap", "(I)Z"⟩, 1) := ⟨⟨by decide +kernel, by decide +kernel⟩, List.mem_of_getElem? (i := 11) (by decide +kernel), List.mem_of_getElem? (i := 256) (by decide +kernel), List.mem_of_getElem? (i := 257) (by decide +kernel)⟩
theorem lw_p17 : lw_okq (⟨"WordArithmetic", "adjustedByte", "(I)I"⟩, 1) := ⟨⟨by decide +kernel, by decide +kernel⟩, List.mem_of_getElem? (i := 11) (by decide +kernel), List.mem_of_getElem? (i := 263) (by decide +kernel), List.mem_of_getElem? (i := 264) (by decide +kernel)⟩
theorem lw_p18 : lw_okq (⟨"WordArithmetic", "adjustedDifference", "(I)I"⟩, 1) := ⟨⟨by decide +kernel, by decide +kernel⟩, List.mem_of_getElem? (i := 11) (by decide +kernel), List.mem_of_getElem? (i := 270) (by decide +kernel), List.mem_of_getElem? (i := 271) (by decide +kernel)⟩
theorem lw_p19 : lw_okq (⟨"WordArithmetic", "adjustedDigit", "(III)I"⟩, 1) := ⟨⟨by decide +kernel, by decide +kernel⟩, List.mem_of_getElem? (i := 11) (by decide +kernel), List.mem_of_getElem? (i := 274) (by decide +kernel), List.mem_of_getElem? (i := 275) (by decide +kernel)⟩
theorem lw_p20 : lw_okq (⟨"WordArithmetic", "isLess", "()Z"⟩, 1) := ⟨⟨by decide +kernel, by decide +kernel⟩, List.mem_of_getElem? (i := 11) (by decide +kernel), List.mem_of_getElem? (i := 287) (by decide +kernel), List.mem_of_getElem? (i := 288) (by decide +kernel)⟩
theorem lw_p21 : lw_okq (⟨"WordArithmeticModel", "length", "(Z)V"⟩, 3) := ⟨⟨by decide +kernel, by decide +kernel⟩, List.mem_of_getElem? (i := 292) (by decide +kernel), List.mem_of_getElem? (i := 324) (by decide +kernel), List.mem_of_getElem? (i := 325) (by decide +kernel)⟩
theorem lw_p22 : lw_okq (⟨"WordArithmeticModel", "operand", "(I)I"⟩, 3) := ⟨⟨by decide +kernel, by decide +kernel⟩, List.mem_of_getElem? (i := 292) (by decide +kernel), List.mem_of_getElem? (i := 329) (by decide +kernel), List.mem_of_getElem? (i := 330) (by decide +kernel)⟩
theorem lw_p23 : lw_okq (⟨"WordArithmeticModel", "is", "(I)Z"⟩, 3) := ⟨⟨by decide +kernel, by decide +kernel⟩, List.mem_of_getElem? (i := 292) (by decide +kernel), List.mem_of_getElem? (i := 333) (by decide +kernel), List.mem_of_getElem? (i := 334) (by decide +kernel)⟩
theorem lw_p24 : lw_okq (⟨"WordArithmeticModel", "sum", "(III)I"⟩, 3) := ⟨⟨by decide +kernel, by decide +kernel⟩, List.mem_of_getElem? (i := 292) (by decide +kernel), List.mem_of_getElem? (i := 337) (by decide +kernel), List.mem_of_getElem? (i := 338) (by decide +kernel)⟩
theorem lw_p25 : lw_okq (⟨"WordArithmeticModel", "signed", "(I)I"⟩, 3) := ⟨⟨by decide +kernel, by decide +kernel⟩, List.mem_of_getElem? (i := 292) (by decide +kernel), List.mem_of_getElem? (i := 341) (by decide +kernel), List.mem_of_getElem? (i := 342) (by decide +kernel)⟩
theorem lw_p26 : lw_okq (⟨"WordArithmeticModel", "put", "(IZ)V"⟩, 3) := ⟨⟨by decide +kernel, by decide +kernel⟩, List.mem_of_getElem? (i := 292) (by decide +kernel), List.mem_of_getElem? (i := 345) (by decide +kernel), List.mem_of_getElem? (i := 346) (by decide +kernel)⟩
theorem lw_p27 : lw_okq (⟨"WordArithmeticModel", "byAnswer", "(I)V"⟩, 3) := ⟨⟨by decide +kernel, by decide +kernel⟩, List.mem_of_getElem? (i := 292) (by decide +kernel), List.mem_of_getElem? (i := 349) (by decide +kernel), List.mem_of_getElem? (i := 350) (by decide +kernel)⟩
theorem lw_p28 : lw_okq (⟨"WordArithmeticModel", "logic", "(III)I"⟩, 3) := ⟨⟨by decide +kernel, by decide +kernel⟩, List.mem_of_getElem? (i := 292) (by decide +kernel), List.mem_of_getElem? (i := 353) (by decide +kernel), List.mem_of_getElem? (i := 354) (by decide +kernel)⟩
theorem lw_p29 : lw_okq (⟨"WordArithmeticModel", "difference", "(III)I"⟩, 3) := ⟨⟨by decide +kernel, by decide +kernel⟩, List.mem_of_getElem? (i := 292) (by decide +kernel), List.mem_of_getElem? (i := 357) (by decide +kernel), List.mem_of_getElem? (i := 358) (by decide +kernel)⟩
theorem lw_p30 : lw_okq (⟨"WordArithmeticModel", "once", "(II)I"⟩, 3) := ⟨⟨by decide +kernel, by decide +kernel⟩, List.mem_of_getElem? (i := 292) (by decide +kernel), List.mem_of_getElem? (i := 365) (by decide +kernel), List.mem_of_getElem? (i := 366) (by decide +kernel)⟩
def lw_privs_2 : List (MethodName × Nat) := [(⟨"WordArithmetic", "needsUpperGap", "(I)Z"⟩, 1), (⟨"WordArithmetic", "adjustedByte", "(I)I"⟩, 1), (⟨"WordArithmetic", "adjustedDifference", "(I)I"⟩, 1), (⟨"WordArithmetic", "adjustedDigit", "(III)I"⟩, 1), (⟨"WordArithmetic", "isLess", "()Z"⟩, 1), (⟨"WordArithmeticModel", "length", "(Z)V"⟩, 3), (⟨"WordArithmeticModel", "operand", "(I)I"⟩, 3), (⟨"WordArithmeticModel", "is", "(I)Z"⟩, 3), (⟨"WordArithmeticModel", "sum", "(III)I"⟩, 3), (⟨"WordArithmeticModel", "signed", "(I)I"⟩, 3), (⟨"WordArithmeticModel", "put", "(IZ)V"⟩, 3), (⟨"WordArithmeticModel", "byAnswer", "(I)V"⟩, 3), (⟨"WordArithmeticModel", "logic", "(III)I"⟩, 3), (⟨"WordArithmeticModel", "difference", "(III)I"⟩, 3), (⟨"WordArithmeticModel", "once", "(II)I"⟩, 3)]
theorem lw_r2 : ∀ q ∈ lw_privs_2, lw_okq q := List.forall_mem_cons.mpr ⟨lw_p16, List.forall_mem_cons.mpr ⟨lw_p17, List.forall_mem_cons.mpr ⟨lw_p18, List.forall_mem_cons.mpr ⟨lw_p19, List.forall_mem_cons.mpr ⟨lw_p20, List.forall_mem_cons.mpr ⟨lw_p21, List.forall_mem_cons.mpr ⟨lw_p22, List.forall_mem_cons.mpr ⟨lw_p23, List.forall_mem_cons.mpr ⟨lw_p24, List.forall_mem_cons.mpr ⟨lw_p25, List.forall_mem_cons.mpr ⟨lw_p26, List.forall_mem_cons.mpr ⟨lw_p27, List.forall_mem_cons.mpr ⟨lw_p28, List.forall_mem_cons.mpr ⟨lw_p29, List.forall_mem_cons.mpr ⟨lw_p30, fun _ h => absurd h List.not_mem_nil⟩⟩⟩⟩⟩⟩⟩⟩⟩⟩⟩⟩⟩⟩⟩
def lw_privs : List (MethodName × Nat) := lw_privs_1 ++ (lw_privs_2)
def lw_tbl : List Cond := k2_sels lw_privs ++ tables_1
theorem lw_privs_ok : ∀ q ∈ lw_privs, lw_okq q := by
  show ∀ q ∈ lw_privs_1 ++ (lw_privs_2), lw_okq q
  exact List.forall_mem_append.mpr ⟨lw_r1, lw_r2⟩
end
section
/-! ===== BEGIN words of one list among another's, by their places ===== -/
theorem goodIn_r {big : List Cond} (ws : List Cond) (ps : List Nat) (hp : ws = ps.filterMap (fun i => big[i]?)) (h : ws.all goodWord = true) : GoodIn big ws := by
  intro w hw
  have h1 := List.all_eq_true.mp h w hw
  rw [hp] at hw
  obtain ⟨i, -, hi⟩ := List.mem_filterMap.mp hw
  have hm : w ∈ big := by first | exact List.mem_of_getElem? hi | exact List.getElem?_mem hi
  exact ⟨hm, good_of_word h1⟩
theorem goodIn_app {big a b : List Cond} (ha : GoodIn big a) (hb : GoodIn big b) : GoodIn big (a ++ b) := fun w h => (List.mem_append.mp h).elim (ha w) (hb w)
theorem goodIn_ca {big a b : List Cond} {c : Cond} (ha : GoodIn big (c :: a)) (hb : GoodIn big b) : GoodIn big (c :: (a ++ b)) := fun w h => (List.mem_cons.mp h).elim (fun e => ha w (List.mem_cons.mpr (Or.inl e))) (fun h => (List.mem_append.mp h).elim (fun h => ha w (List.mem_cons.mpr (Or.inr h))) (hb w))
theorem goodIn_sub {big ws : List Cond} (hm : ∀ w ∈ ws, w ∈ big) (h : ws.all goodWord = true) : GoodIn big ws := fun w hw => ⟨hm w hw, good_of_word (List.all_eq_true.mp h w hw)⟩
/-! ===== END ===== -/

/-! ===== BEGIN exceptions that leave a method, and their catching by the caller (launches without stack traces) ===== -/
section VXA
/-! The laws vx_back, vx_callV, vx_callS, vx_callSW, vx_throw0, vx_throwS follow proofs of the library, with one case more: JvmDerived/Free/Laws.lean (Back.of_free), Shelf42/LK1.lean (callV, callS), Shelf/KitTraced.lean (throwNew0V, throwNewS). -/
/-- where a method has thrown q: the class by its name, the cell, what was written, the world -/
def vx_T (XC : String → State → State → Prop) (st : State) (q : Addr) (t : State) (mc ms : Nat) (free : Addr → Prop) : Prop :=
  ∃ (E : String) (ce : Cell) (L : List Loc), XC E st t ∧ t.heap[q]? = some ce ∧ ce.vm = .none ∧ st.vm.findClass E = some ce.cls ∧ st.WarmedH t.vm ∧ st.sameButNew ({ t with vm := st.vm } : State) L mc ms ∧ ∀ z ∈ L, free z.base
def vx_Q (Qc : Array Value → State → Outcome → State → Prop) (XC : String → State → State → Prop) (mc ms : Nat) (free : Addr → Prop) : Array Value → State → Outcome → State → Prop := fun a st o t =>
  (Qc a st o t ∧ ∃ L, FrameEnd st o t L mc ms ∧ ∀ q ∈ L, free q.base) ∨ ∃ q, o = .threw q ∧ vx_T XC st q t mc ms free
/-- a callee that returns or throws -/
def vx_Met (l : Launch) (y : MethodName) (ws : List Cond) (rm : Room) (Pc : Array Value → State → Prop) (Qc : Array Value → State → Outcome → State → Prop) (XC : String → State → State → Prop) (mc ms : Nat) (free : Addr → Prop) : Prop :=
  MetFree l y (headSpec ws rm) Pc (fun _ _ _ _ _ => True) (vx_Q Qc XC mc ms free)
def vx_Post (XC : String → State → State → Prop) (mc ms : Nat) (free : Addr → Prop) : Pt → Array Value → Addr → Pt → Prop := fun A a q B =>
  ∃ (g : JFrame) (mk : MethodId) (t : State) (L : List Loc) (E : String) (ce : Cell), B.U.heap = t.heap ∧ B.U.vm = t.vm ∧ XC E (A.U.calling g mk a) t ∧ t.heap[q]? = some ce ∧ ce.vm = .none ∧ A.U.vm.findClass E = some ce.cls ∧ B.locs = A.locs ++ L ∧ (∀ z ∈ L, free z.base) ∧ B.cells = A.cells + mc ∧ B.slots = A.slots + ms
def vx_Back (l : Launch) (R : Room) (p : Program) (e : Env) (below : List Frame) (s : State) (sargs : Array Value) (y : MethodName) (len W9 : Nat)
    (Pre : Pt → Array Value → Prop) (Post : Pt → Array Value → Option Value → Pt → Prop) (PostX : Pt → Array Value → Addr → Pt → Prop) : Prop :=
  ∀ (m : MethodId) (meth : Method) (c : Code) (A : Pt) (g : JFrame) (ig : Instr) (mk : MethodId) (a : Array Value),
    Stand p l e R s m sargs below meth c A.U A.locs A.cells A.slots → g.method = m → g.locals.size = c.maxLocals → decode c.code g.pc = .ok (ig, len) →
    2 * g.monitorRoom + (g.stack.map fun v => v.category).sum ≤ W9 → A.U.methodNamed? y = some mk → Pre A a →
    (∃ (v : Option Value) (B : Pt), Stand p l e R s m sargs below meth c B.U B.locs B.cells B.slots ∧ Post A a v B ∧
      Steps p.tables e below (doInvoke e (A.U.setTop g) [] mk a).1 (B.U.setTop { g with pc := g.pc + len, stack := v.toList ++ g.stack })) ∨
    (∃ (q : Addr) (B : Pt), Stand p l e R s m sargs below meth c B.U B.locs B.cells B.slots ∧ PostX A a q B ∧
      Steps p.tables e below (doInvoke e (A.U.setTop g) [] mk a).1 ((B.U.setTop g).pushFrame (.throwing q)))
section Payer
variable {l : Launch} {R : Room} {p : Program} {e : Env} {below : List Frame} {s : State} {sargs : Array Value} {y : MethodName} {len W9 : Nat}
theorem vx_back {ws : List Cond} {rm : Room} {Pc : Array Value → State → Prop} {Qc : Array Value → State → Outcome → State → Prop} {XC : String → State → State → Prop} {mc ms : Nat} {free : Addr → Prop} {bytes : ByteArray} {maxL : Nat} {ret : Option FieldType}
    (hM : vx_Met l y ws rm Pc Qc XC mc ms free) (hblind : FrameBlind Pc) (hrc : rm.cells = mc) (hrs : rm.slots = ms)
    (hframes : rm.frames + 1 ≤ R.frames) (hlocals : W9 + (maxL + 11) + rm.locals ≤ R.locals)
    (hws : ∀ w ∈ ws, ∀ a' U, s.WarmedH U.vm → w.before a' U = true) (hcode : Cond.code y bytes maxL ret ∈ ws) (hinit : ∀ a' U, s.WarmedH U.vm → (Cond.initialized y.cls).before a' U = true) :
    vx_Back l R p e below s sargs y len W9 (PreOf R mc ms Pc) (PostOf Qc mc ms free) (vx_Post XC mc ms free) := by
  intro m meth c A g ig mk a X hg hsize hdg hW hn hp
  have h1 : (headSpec ws rm).pre.before a A.U = true := atoms_intro fun w hw => hws w hw _ _ X.warmed
  have h2 : (Cond.code y bytes maxL ret).before a A.U = true := hws _ hcode _ _ X.warmed
  have h3 : (Cond.initialized y.cls).before a A.U = true := hinit _ _ X.warmed
  have h4 : A.cells + (headSpec ws rm).room.cells ≤ R.cells := by rw [show (headSpec ws rm).room.cells = mc from hrc]; exact hp.1
  have h5 : A.slots + (headSpec ws rm).room.slots ≤ R.slots := by rw [show (headSpec ws rm).room.slots = ms from hrs]; exact hp.2.1
  have hPc : Pc a (A.U.calling g mk a) := hblind _ _ _ _ hp.2.2
  obtain ⟨U, Ls, c0, s0⟩ := A
  dsimp only [Pt.U, Pt.locs, Pt.cells, Pt.slots] at h1 h2 h3 h4 h5 X hn hPc ⊢
  obtain ⟨methY, cY, hmY, hcY, -, hlY, -, -, -, -⟩ := Cond.code_spec hn h2
  obtain ⟨kY, hkY, -⟩ := className_of_methodNamed hn
  have hinitY : kY.init = .initialized := Cond.initialized_spec (findClass_of_methodNamed hn) hkY h3
  have h : At U g.method c below := by rw [hg]; exact X.here
  have hlocals9 : W9 + (maxL + 11) + (headSpec ws rm).room.locals ≤ R.locals := hlocals
  have happ : (headSpec ws rm).appliesLoose y e.platform (U.calling g mk a) = true :=
    Spec.appliesLoose_calling (g := g) h hdg hn hkY hinitY
      (X.room_calling (g := g) (R' := (headSpec ws rm).room) hsize hmY hcY hframes (by rw [hlY]; omega) h4 h5) h1
  obtain ⟨mid, hmid⟩ := h.above
  have hfr : (U.setTop g).frames = (.java g :: mid) ++ below := by rw [State.frames_setTop' g h.top, hmid]; rfl
  obtain ⟨o, s₂, hsteps, -, hend, hq⟩ := Steps.callFree hM p X.admits X.cas X.clock (acts := []) hfr happ hPc trivial
  have hq' : vx_Q Qc XC mc ms free a (U.calling g mk a) o s₂ := hq
  rw [State.frames_setTop' g h.top] at hend
  obtain ⟨g₀, hg0⟩ := Option.isSome_iff_exists.mp h.top
  obtain ⟨r, hr⟩ := State.topJava?_eq_some.mp hg0
  have hr' : (({ U with heap := s₂.heap, slotsUsed := s₂.slotsUsed } : State).setVm s₂.vm).frames = .java g₀ :: r := hr
  rcases hq' with ⟨hqc, L, hfe, hL⟩ | ⟨q, rfl, E, ce, L, hx, hce, hcv, hcl, hW₂, hsm, hL⟩
  · obtain ⟨⟨v, rfl⟩, hW₂, e2, q2, q3, q4, q5, q6⟩ := id hfe
    have e3 : s₂ = ({ (U.calling g mk a).setFrames s₂.frames with heap := s₂.heap, slotsUsed := s₂.slotsUsed } : State).setVm s₂.vm := by
      have : s₂ = ({ s₂ with vm := (U.calling g mk a).vm } : State).setVm s₂.vm := rfl
      rw [e2] at this
      exact this
    obtain ⟨c₂, i₂, len₂, hc₂, hd₂, hf₂⟩ := hend
    have hW' : U.WarmedH s₂.vm := hW₂
    have hcc : c₂ = c := by
      have h1 : s₂.code? g.method = U.code? g.method := by
        rw [State.code?_eq, State.code?_eq, hW'.alike.method?]
      exact Option.some.inj (hc₂.symm.trans (h1.trans h.code))
    subst hcc
    have hlen : len₂ = len := by rw [hdg] at hd₂; cases hd₂; rfl
    subst hlen
    have hs₂ : s₂ = (({ U with heap := s₂.heap, slotsUsed := s₂.slotsUsed } : State).setVm s₂.vm).setTop { g with pc := g.pc + len₂, stack := v.toList ++ g.stack } := by
      refine e3.trans ?_
      rw [hf₂, State.calling_eq h.top, State.setFrames_setFrames, State.setTop_of_frames _ hr', hr]
      rfl
    have hsame : U.sameButNew ({ U with heap := s₂.heap, slotsUsed := s₂.slotsUsed } : State) L mc ms := by
      refine ⟨?_, q2, q3, q4, q5, q6⟩
      obtain ⟨t, ht, -⟩ := State.frames_cons hr
      show ({ U with heap := s₂.heap, slotsUsed := s₂.slotsUsed } : State) = { U.setFrames U.frames with heap := s₂.heap, slotsUsed := s₂.slotsUsed }
      rw [State.setFrames_self ht]
    subst hg
    refine Or.inl ⟨v, ⟨(({ U with heap := s₂.heap, slotsUsed := s₂.slotsUsed } : State).setVm s₂.vm), Ls ++ L, c0 + mc, s0 + ms⟩,
      ⟨X.admits, X.cas, X.clock, X.frames, X.room, X.hears, X.method, X.code, (X.here.setHeapUsed s₂.heap s₂.slotsUsed).setVm hW'.alike, X.tail, State.WarmedH.trans X.warmed hW', X.limits, X.bytes, X.same.trans (hsame.setVm s.vm)⟩,
      ⟨g, mk, s₂, L, rfl, rfl, hqc, rfl, hL, rfl, rfl⟩, ?_⟩
    show Steps p.tables e below _ ((({ U with heap := s₂.heap, slotsUsed := s₂.slotsUsed } : State).setVm s₂.vm).setTop { g with pc := g.pc + len₂, stack := v.toList ++ g.stack })
    rw [← hs₂]
    exact hsteps
  · obtain ⟨e2, q2, q3, q4, q5, q6⟩ := id hsm
    have e3 : s₂ = ({ (U.calling g mk a).setFrames s₂.frames with heap := s₂.heap, slotsUsed := s₂.slotsUsed } : State).setVm s₂.vm := by
      have : s₂ = ({ s₂ with vm := (U.calling g mk a).vm } : State).setVm s₂.vm := rfl
      rw [e2] at this
      exact this
    have hf₂ : s₂.frames = .throwing q :: .java g :: U.frames.tail := hend
    have hW' : U.WarmedH s₂.vm := hW₂
    have hs₂ : s₂ = ((({ U with heap := s₂.heap, slotsUsed := s₂.slotsUsed } : State).setVm s₂.vm).setTop g).pushFrame (.throwing q) := by
      refine e3.trans ?_
      rw [hf₂, State.calling_eq h.top, State.setFrames_setFrames, State.pushFrame, State.frames_setTop _ hr', State.setTop_of_frames _ hr', State.setFrames_setFrames, hr]
      rfl
    have hsame : U.sameButNew ({ U with heap := s₂.heap, slotsUsed := s₂.slotsUsed } : State) L mc ms := by
      refine ⟨?_, q2, q3, q4, q5, q6⟩
      obtain ⟨t, ht, -⟩ := State.frames_cons hr
      show ({ U with heap := s₂.heap, slotsUsed := s₂.slotsUsed } : State) = { U.setFrames U.frames with heap := s₂.heap, slotsUsed := s₂.slotsUsed }
      rw [State.setFrames_self ht]
    subst hg
    refine Or.inr ⟨q, ⟨(({ U with heap := s₂.heap, slotsUsed := s₂.slotsUsed } : State).setVm s₂.vm), Ls ++ L, c0 + mc, s0 + ms⟩,
      ⟨X.admits, X.cas, X.clock, X.frames, X.room, X.hears, X.method, X.code, (X.here.setHeapUsed s₂.heap s₂.slotsUsed).setVm hW'.alike, X.tail, State.WarmedH.trans X.warmed hW', X.limits, X.bytes, X.same.trans (hsame.setVm s.vm)⟩,
      ⟨g, mk, s₂, L, E, ce, rfl, rfl, hx, hce, hcv, hcl, rfl, hL, rfl, rfl⟩, ?_⟩
    show Steps p.tables e below _ (((({ U with heap := s₂.heap, slotsUsed := s₂.slotsUsed } : State).setVm s₂.vm).setTop g).pushFrame (.throwing q))
    rw [← hs₂]
    exact hsteps
end Payer
section Calls
variable {p : Program} {l : Launch} {e : Env} {R : Room} {s : State} {m : MethodId} {args : Array Value} {below : List Frame} {meth : Method} {c : Code} {T : State} {locs : List Loc} {cells slots : Nat}
theorem vx_callV (X : Stand p l e R s m args below meth c T locs cells slots) (hexec : p.tables.exec = Jvm.exec) {own C : String} {index : Nat} {y : MethodName} {bytes : ByteArray} {maxL : Nat} {ret : Option FieldType}
    (hown : s.vm.findClass own = some m.cls) (hlink : (Cond.methodLink own index y).before args s = true) (hinst : (Cond.instanceMethod y).before args s = true) (hsel : (Cond.selects C y y).before args s = true)
    (hcode : (Cond.code y bytes maxL ret).before args s = true) (hy : y.cls ≠ "java/lang/invoke/MethodHandle" ∧ y.cls ≠ "java/lang/invoke/VarHandle")
    {W9 : Nat} {Pre : Pt → Array Value → Prop} {Post : Pt → Array Value → Option Value → Pt → Prop} {PostX : Pt → Array Value → Addr → Pt → Prop} (hK : vx_Back l R p e below s args y 3 W9 Pre Post PostX)
    {b : Addr} {cellB : Cell} (hcell : T.heap[b]? = some cellB) (hobj : cellB.vm.isStatics = false) (hcls : s.vm.findClass C = some cellB.cls)
    {g : JFrame} (hg : g.method = m) (hsize : g.locals.size = c.maxLocals) {argsL rest : List Value} (hlen : ∀ sig, parseMethodDescriptor y.desc = some sig → argsL.length = sig.parameters.length)
    (hstack : g.stack = argsL.reverse ++ .ref b :: rest) (hW : 2 * g.monitorRoom + (rest.map fun v => v.category).sum ≤ W9) (hdg : decode c.code g.pc = .ok (.invokevirtual index, 3))
    (hpre : ∀ vm₁, s.WarmedH vm₁ → Pre ⟨T.setVm vm₁, locs, cells, slots⟩ (Value.ref b :: argsL).toArray) :
    (∃ (v : Option Value) (vm₁ : Vm) (B : Pt), s.WarmedH vm₁ ∧ Stand p l e R s m args below meth c B.U B.locs B.cells B.slots ∧ Post ⟨T.setVm vm₁, locs, cells, slots⟩ (Value.ref b :: argsL).toArray v B ∧
      ∀ target, Steps p.tables e below (B.U.setTop { g with pc := g.pc + 3, stack := v.toList ++ rest }) target → Steps p.tables e below (T.setTop g) target) ∨
    (∃ (q : Addr) (vm₁ : Vm) (B : Pt), s.WarmedH vm₁ ∧ Stand p l e R s m args below meth c B.U B.locs B.cells B.slots ∧ PostX ⟨T.setVm vm₁, locs, cells, slots⟩ (Value.ref b :: argsL).toArray q B ∧
      Steps p.tables e below (T.setTop g) ((B.U.setTop { g with stack := rest }).pushFrame (.throwing q))) := by
  obtain ⟨mk, methM, hnamed, hmethM, hstM, habM⟩ := Cond.instanceMethod_spec hinst
  obtain ⟨methM', cM, hmethM', -, -, -, -, -, -, hsigM⟩ := Cond.code_spec hnamed hcode
  cases hmethM.symm.trans hmethM'
  obtain ⟨c2, r2, m2, q1, q2, q3, q4, kP, hkP, hkPi⟩ := Cond.selects_spec hsel
  cases hcls.symm.trans q1
  cases (State.methodFound?_of_named hnamed hy).symm.trans q2
  cases hnamed.symm.trans q3
  have hselP : selectMethod e.platform s.vm cellB.cls mk = .method mk := by rw [Launch.admits_selectMethod X.admits]; exact q4
  obtain ⟨vm₁, X₁, hstep₁⟩ := X.invokevirtual hexec hown hlink hnamed hmethM hstM hkP hkPi hy (a := b) (cell := cellB) hcell
    (fun z h => by rw [h] at hobj; cases hobj) hselP hmethM habM hkP hkPi (g := g) hg (argsL := argsL) (rest := rest) (hlen _ hsigM) hstack hdg
  rcases hK m meth c ⟨T.setVm vm₁, locs, cells, slots⟩ { g with stack := rest } (.invokevirtual index) mk (Value.ref b :: argsL).toArray X₁ hg hsize hdg hW (X₁.named hnamed) (hpre vm₁ X₁.warmed) with ⟨v, B, X', hpost, hsteps⟩ | ⟨q, B, X', hpost, hsteps⟩
  · exact Or.inl ⟨v, vm₁, B, X₁.warmed, X', hpost, fun target h => hstep₁ _ fun acts => by rw [doInvoke_state]; exact hsteps.trans h⟩
  · exact Or.inr ⟨q, vm₁, B, X₁.warmed, X', hpost, hstep₁ _ fun acts => by rw [doInvoke_state]; exact hsteps⟩
theorem vx_callS (X : Stand p l e R s m args below meth c T locs cells slots) (hexec : p.tables.exec = Jvm.exec) {own : String} {index : Nat} {y : MethodName} {bytes : ByteArray} {maxL : Nat} {ret : Option FieldType}
    (hown : s.vm.findClass own = some m.cls) (hlink : (Cond.methodLink own index y).before args s = true) (hstat : (Cond.static y).before args s = true) (hinit : (Cond.initialized y.cls).before args s = true)
    (hcode : (Cond.code y bytes maxL ret).before args s = true) (hy : y.cls ≠ "java/lang/invoke/MethodHandle" ∧ y.cls ≠ "java/lang/invoke/VarHandle")
    {W9 : Nat} {Pre : Pt → Array Value → Prop} {Post : Pt → Array Value → Option Value → Pt → Prop} {PostX : Pt → Array Value → Addr → Pt → Prop} (hK : vx_Back l R p e below s args y 3 W9 Pre Post PostX)
    {g : JFrame} (hg : g.method = m) (hsize : g.locals.size = c.maxLocals) {argsL rest : List Value} (hlen : ∀ sig, parseMethodDescriptor y.desc = some sig → argsL.length = sig.parameters.length)
    (hstack : g.stack = argsL.reverse ++ rest) (hW : 2 * g.monitorRoom + (rest.map fun v => v.category).sum ≤ W9) (hdg : decode c.code g.pc = .ok (.invokestatic index, 3))
    (hpre : ∀ vm₁, s.WarmedH vm₁ → Pre ⟨T.setVm vm₁, locs, cells, slots⟩ argsL.toArray) :
    (∃ (v : Option Value) (vm₁ : Vm) (B : Pt), s.WarmedH vm₁ ∧ Stand p l e R s m args below meth c B.U B.locs B.cells B.slots ∧ Post ⟨T.setVm vm₁, locs, cells, slots⟩ argsL.toArray v B ∧
      ∀ target, Steps p.tables e below (B.U.setTop { g with pc := g.pc + 3, stack := v.toList ++ rest }) target → Steps p.tables e below (T.setTop g) target) ∨
    (∃ (q : Addr) (vm₁ : Vm) (B : Pt), s.WarmedH vm₁ ∧ Stand p l e R s m args below meth c B.U B.locs B.cells B.slots ∧ PostX ⟨T.setVm vm₁, locs, cells, slots⟩ argsL.toArray q B ∧
      Steps p.tables e below (T.setTop g) ((B.U.setTop { g with stack := rest }).pushFrame (.throwing q))) := by
  obtain ⟨mk, hnamed⟩ := Cond.code_named hcode
  obtain ⟨methM, cM, hmethM, -, -, -, -, -, -, hsigM⟩ := Cond.code_spec hnamed hcode
  have hstatic : methM.isStatic = true := Cond.static_spec hnamed hmethM hstat
  obtain ⟨kP, hkP, -⟩ := className_of_methodNamed hnamed
  have hinitP : kP.init = .initialized := Cond.initialized_spec (findClass_of_methodNamed hnamed) hkP hinit
  obtain ⟨vm₁, X₁, hstep₁⟩ := X.invokestatic hexec hown hlink hnamed hmethM hstatic hkP hinitP hy (g := g) hg (argsL := argsL) (rest := rest) (hlen _ hsigM) hstack hdg
  rcases hK m meth c ⟨T.setVm vm₁, locs, cells, slots⟩ { g with stack := rest } (.invokestatic index) mk argsL.toArray X₁ hg hsize hdg hW (X₁.named hnamed) (hpre vm₁ X₁.warmed) with ⟨v, B, X', hpost, hsteps⟩ | ⟨q, B, X', hpost, hsteps⟩
  · exact Or.inl ⟨v, vm₁, B, X₁.warmed, X', hpost, fun target h => hstep₁ _ fun acts => by rw [doInvoke_state]; exact hsteps.trans h⟩
  · exact Or.inr ⟨q, vm₁, B, X₁.warmed, X', hpost, hstep₁ _ fun acts => by rw [doInvoke_state]; exact hsteps⟩
end Calls
theorem vx_cls {s : State} {T : State} {vm₁ : Vm} {E : String} {k : ClassId} (hW : s.WarmedH vm₁) (h : (T.setVm vm₁).vm.findClass E = some k) : s.vm.findClass E = some k := by
  have h1 : vm₁.findClass E = some k := h
  rw [hW.alike.findClass] at h1
  exact h1
/-- the method's frame g, with q thrown over it -/
def vx_W (p : Program) (l : Launch) (e : Env) (R : Room) (s : State) (m : MethodId) (args : Array Value) (below : List Frame) (meth : Method) (c : Code) (H : Heap) (locs : List Loc) (cells slots : Nat) (Q : State → Prop) (g : JFrame) (q : Addr) : Prop :=
  ∀ T : State, T.heap = H → Stand p l e R s m args below meth c T locs cells slots → ∃ t, Steps p.tables e below ((T.setTop g).pushFrame (.throwing q)) t ∧ Q t
def vx_Run (p : Program) (l : Launch) (e : Env) (R : Room) (s : State) (m : MethodId) (args : Array Value) (below : List Frame) (meth : Method) (c : Code) (H : Heap) (locs : List Loc) (cells slots mc ms : Nat) (g : JFrame) (rest : List Value) (Qa : State → Outcome → State → Prop) (XC : String → State → State → Prop) (free : Addr → Prop) : Prop :=
  ∀ T : State, T.heap = H → Stand p l e R s m args below meth c T locs cells slots →
    (∃ (v : Option Value) (st₀ t T' : State) (L : List Loc), st₀.heap = H ∧ Stand p l e R s m args below meth c T' (locs ++ L) (cells + mc) (slots + ms) ∧ (∀ q ∈ L, free q.base) ∧ T'.heap = t.heap ∧ T'.vm = t.vm ∧ Qa st₀ (.returned v) t ∧
      Goes p e below T g T' { g with pc := g.pc + 3, stack := v.toList ++ rest }) ∨
    (∃ (q : Addr) (st₀ t T' : State) (L : List Loc) (E : String) (ce : Cell), st₀.heap = H ∧ Stand p l e R s m args below meth c T' (locs ++ L) (cells + mc) (slots + ms) ∧ (∀ z ∈ L, free z.base) ∧ T'.heap = t.heap ∧ T'.vm = t.vm ∧ XC E st₀ t ∧ t.heap[q]? = some ce ∧ ce.vm = .none ∧ s.vm.findClass E = some ce.cls ∧
      Steps p.tables e below (T.setTop g) ((T'.setTop { g with stack := rest }).pushFrame (.throwing q)))
def vx_X {S : Type} (px : S → Prop) (B : String → S → State → Prop) (A : Nat → Prop) : String → State → State → Prop := fun E st t => ∃ u : S, px u ∧ B E u t ∧ va_F A st t
section Runs
variable {p : Program} {l : Launch} {e : Env} {R : Room} {s : State} {m : MethodId} {args : Array Value} {below : List Frame} {meth : Method} {c : Code} {H : Heap} {locs : List Loc} {cells slots : Nat}
variable {y : MethodName} {bytes cc : ByteArray} {maxL nL mc ms n index : Nat} {ret : Option FieldType} {ws : List Cond} {rm : Room} {Pc : Array Value → State → Prop} {Qc : Array Value → State → Outcome → State → Prop} {XC : String → State → State → Prop} {free : Addr → Prop} {Ts : List Cond} {own C : String} {b : Addr} {As rest : List Value} {g : JFrame}
theorem vx_callBack (cb : CallB R s args own index y bytes maxL ret ws rm mc ms n) (hM : vx_Met l y ws rm Pc Qc XC mc ms free) (hbl : FrameBlind Pc) : vx_Back l R p e below s args y 3 8 (PreOf R mc ms Pc) (PostOf Qc mc ms free) (vx_Post XC mc ms free) := by
  obtain ⟨hrc, hrs, hfr, hlo, hws, hcw, -, hini, -⟩ := cb
  exact vx_back (bytes := bytes) (maxL := maxL) (ret := ret) hM hbl hrc hrs hfr hlo hws hcw (fun a' U hW => word_at hW (Or.inl (by first | rfl | simp [Cond.onTables, Cond.keeps, Cond.steady])) hini)
theorem vx_runV (S : CallFix p m c cc nL s args Ts own) (hM : vx_Met l y ws rm Pc Qc XC mc ms free) (cw : CallW R s args own C index y bytes maxL ret ws rm mc ms n) (hp : PreV s H C b Pc As)
    (hg : g.method = m) (hn : As.length = n) (hsize : g.locals.size = nL) (hstack : g.stack = As.reverse ++ .ref b :: rest) (hW : 2 * g.monitorRoom + (rest.map fun v => v.category).sum ≤ 8) (hdg : decode cc g.pc = .ok (.invokevirtual index, 3)) (hf : cells + mc ≤ R.cells ∧ slots + ms ≤ R.slots) :
    vx_Run p l e R s m args below meth c H locs cells slots mc ms g rest (Qc (Value.ref b :: As).toArray) XC free := by
  have hK : vx_Back l R p e below s args y 3 8 (PreOf R mc ms Pc) (PostOf Qc mc ms free) (vx_Post XC mc ms free) := vx_callBack cw.1 hM hp.1
  obtain ⟨⟨-, -, -, -, -, -, hcode, -, hy, hlen, hl⟩, hin, hse⟩ := cw
  obtain ⟨hx, hb, hml, ho, -⟩ := S
  obtain ⟨-, ⟨cellB, hcB, hoB, hclB⟩, hPc⟩ := hp
  intro T hT X
  rcases vx_callV X hx (C := C) (bytes := bytes) (maxL := maxL) (ret := ret) ho hl hin hse hcode hy hK (by rw [hT]; exact hcB) hoB hclB hg (hsize.trans hml.symm) (argsL := As) (rest := rest) (fun sig h => hn.trans (hlen sig h)) hstack hW (by rw [hb]; exact hdg)
    (fun vm₁ hW₁ => ⟨hf.1, hf.2, hPc (T.setVm vm₁) hT hW₁⟩) with ⟨v, vm₁, ⟨U', l2, c2, s2⟩, hW₁, X', ⟨g', mk, t, L, e1, e2, hq, h1, hL, h2, h3⟩, st⟩ | ⟨q, vm₁, ⟨U', l2, c2, s2⟩, hW₁, X', ⟨g', mk, t, L, E, ce, e1, e2, hq, hce, hcv, hcl, h1, hL, h2, h3⟩, st⟩
  · dsimp only [Pt.U, Pt.locs, Pt.cells, Pt.slots] at X' e1 e2 h1 h2 h3 st
    subst h1; subst h2; subst h3
    exact Or.inl ⟨v, (T.setVm vm₁).calling g' mk (Value.ref b :: As).toArray, t, U', L, hT, X', hL, e1, e2, hq, st⟩
  · dsimp only [Pt.U, Pt.locs, Pt.cells, Pt.slots] at X' e1 e2 h1 h2 h3 st hcl
    subst h1; subst h2; subst h3
    exact Or.inr ⟨q, (T.setVm vm₁).calling g' mk (Value.ref b :: As).toArray, t, U', L, E, ce, hT, X', hL, e1, e2, hq, hce, hcv, vx_cls hW₁ hcl, st⟩
theorem vx_runS (S : CallFix p m c cc nL s args Ts own) (hM : vx_Met l y ws rm Pc Qc XC mc ms free) (cw : CallB R s args own index y bytes maxL ret ws rm mc ms n ∧ (Cond.static y).before args s = true) (hp : PreS s H Pc As)
    (hg : g.method = m) (hn : As.length = n) (hsize : g.locals.size = nL) (hstack : g.stack = As.reverse ++ rest) (hW : 2 * g.monitorRoom + (rest.map fun v => v.category).sum ≤ 8) (hdg : decode cc g.pc = .ok (.invokestatic index, 3)) (hf : cells + mc ≤ R.cells ∧ slots + ms ≤ R.slots) :
    vx_Run p l e R s m args below meth c H locs cells slots mc ms g rest (Qc As.toArray) XC free := by
  have hK : vx_Back l R p e below s args y 3 8 (PreOf R mc ms Pc) (PostOf Qc mc ms free) (vx_Post XC mc ms free) := vx_callBack cw.1 hM hp.1
  obtain ⟨⟨-, -, -, -, -, -, hcode, hini, hy, hlen, hl⟩, hstt⟩ := cw
  obtain ⟨hx, hb, hml, ho, -⟩ := S
  intro T hT X
  rcases vx_callS X hx (bytes := bytes) (maxL := maxL) (ret := ret) ho hl hstt hini hcode hy hK hg (hsize.trans hml.symm) (argsL := As) (rest := rest) (fun sig h => hn.trans (hlen sig h)) hstack hW (by rw [hb]; exact hdg)
    (fun vm₁ hW₁ => ⟨hf.1, hf.2, hp.2 (T.setVm vm₁) hT hW₁⟩) with ⟨v, vm₁, ⟨U', l2, c2, s2⟩, hW₁, X', ⟨g', mk, t, L, e1, e2, hq, h1, hL, h2, h3⟩, st⟩ | ⟨q, vm₁, ⟨U', l2, c2, s2⟩, hW₁, X', ⟨g', mk, t, L, E, ce, e1, e2, hq, hce, hcv, hcl, h1, hL, h2, h3⟩, st⟩
  · dsimp only [Pt.U, Pt.locs, Pt.cells, Pt.slots] at X' e1 e2 h1 h2 h3 st
    subst h1; subst h2; subst h3
    exact Or.inl ⟨v, (T.setVm vm₁).calling g' mk As.toArray, t, U', L, hT, X', hL, e1, e2, hq, st⟩
  · dsimp only [Pt.U, Pt.locs, Pt.cells, Pt.slots] at X' e1 e2 h1 h2 h3 st hcl
    subst h1; subst h2; subst h3
    exact Or.inr ⟨q, (T.setVm vm₁).calling g' mk As.toArray, t, U', L, E, ce, hT, X', hL, e1, e2, hq, hce, hcv, vx_cls hW₁ hcl, st⟩
end Runs
section Rows
variable {p : Program} {l : Launch} {e : Env} {R : Room} {s : State} {m : MethodId} {args : Array Value} {below : List Frame} {meth : Method} {c : Code} {H : Heap} {locs : List Loc} {cells slots : Nat} {Q : State → Prop}
variable {mc ms : Nat} {free : Addr → Prop} {A0 A1 : Nat → Prop} {H0 : Heap} {a : Array Value} {pc : Nat} {ls : Array Slot} {st0 rest : List Value}
theorem vx_keep {st₀ t T' : State} {L : List Loc} (h0 : st₀.heap = H) (e1 : T'.heap = t.heap) (hS : va_S A0 H0 H locs) (hA : ∀ q, q < H.size → A1 q → A0 q) (hf : ∀ q, free q → A0 q) (hL : ∀ q ∈ L, free q.base) (hF : va_F A1 st₀ t) :
    H.size ≤ T'.heap.size ∧ (∀ q : Nat, q < H.size → ¬ A1 q → T'.heap[q]? = H[q]?) ∧ va_S A0 H0 T'.heap (locs ++ L) := by
  obtain ⟨hz, hk⟩ := hF
  rw [h0] at hz hk
  exact ⟨by rw [e1]; exact hz, fun q h1 h2 => by rw [e1]; exact hk q h1 h2,
    ⟨Nat.le_trans hS.1 (by rw [e1]; exact hz), fun q h1 h2 => by rw [e1, hk q (Nat.lt_of_lt_of_le h1 hS.1) (fun z => h2 (hA q (Nat.lt_of_lt_of_le h1 hS.1) z))]; exact hS.2.1 q h1 h2, fun q hq => by
      rcases List.mem_append.mp hq with h | h
      · exact hS.2.2 q h
      · exact hf _ (hL q h)⟩⟩
theorem vx_calli {S SX : Type} {post : Int32 → S → Prop} {px : SX → Prop} {B : S → State → Prop} {BX : String → SX → State → Prop} {AX : Nat → Prop} (hr : vx_Run p l e R s m args below meth c H locs cells slots mc ms (F0 m pc ls st0) rest (va_Qi post B A1 a) (vx_X px BX AX) free) (hS : va_S A0 H0 H locs) (hA : ∀ q, q < H.size → A1 q → A0 q) (hf : ∀ q, free q → A0 q) (hAX : ∀ q, q < H.size → AX q → A0 q)
    (kx : ∀ (E : String) (ce : Cell) (q9 : Addr) (u : SX) (t : State) (H1 : Heap) (locs1 : List Loc), t.heap = H1 → s.vm.Alike t.vm → px u → BX E u t → H.size ≤ H1.size → (∀ q : Nat, q < H.size → ¬ AX q → H1[q]? = H[q]?) → va_S A0 H0 H1 locs1 → H1[q9]? = some ce → ce.vm = .none → s.vm.findClass E = some ce.cls → vx_W p l e R s m args below meth c H1 locs1 (cells + mc) (slots + ms) Q (F0 m pc ls rest) q9)
    (kk : ∀ (r : Int32) (u : S) (t : State) (H1 : Heap) (locs1 : List Loc), t.heap = H1 → s.vm.Alike t.vm → post r u → B u t → H.size ≤ H1.size → (∀ q : Nat, q < H.size → ¬ A1 q → H1[q]? = H[q]?) → va_S A0 H0 H1 locs1 → W p l e R s m args below meth c H1 locs1 (cells + mc) (slots + ms) Q (F0 m (pc + 3) ls (.int r :: rest))) : W p l e R s m args below meth c H locs cells slots Q (F0 m pc ls st0) := by
  intro T hT X
  rcases hr T hT X with ⟨v, st₀, t, T', L, h0, X', hL, e1, e2, ⟨⟨r, u, hv, hp, hb⟩, hF⟩, st⟩ | ⟨q, st₀, t, T', L, E, ce, h0, X', hL, e1, e2, ⟨u, hp, hb, hF⟩, hce, hcv, hcl, st⟩
  · cases hv
    obtain ⟨k1, k2, k3⟩ := vx_keep h0 e1 hS hA hf hL hF
    obtain ⟨t2, a1, b1⟩ := kk r u t T'.heap (locs ++ L) e1.symm (by rw [← e2]; exact X'.warmed.alike) hp hb k1 k2 k3 T' rfl X'
    exact ⟨t2, st t2 a1, b1⟩
  · obtain ⟨k1, k2, k3⟩ := vx_keep h0 e1 hS hAX hf hL hF
    obtain ⟨t2, a1, b1⟩ := kx E ce q u t T'.heap (locs ++ L) e1.symm (by rw [← e2]; exact X'.warmed.alike) hp hb k1 k2 k3 (by rw [e1]; exact hce) hcv hcl T' rfl X'
    exact ⟨t2, st.trans a1, b1⟩
theorem vx_calll {S SX : Type} {post : Int64 → S → Prop} {px : SX → Prop} {B : S → State → Prop} {BX : String → SX → State → Prop} {AX : Nat → Prop} (hr : vx_Run p l e R s m args below meth c H locs cells slots mc ms (F0 m pc ls st0) rest (va_Ql post B A1 a) (vx_X px BX AX) free) (hS : va_S A0 H0 H locs) (hA : ∀ q, q < H.size → A1 q → A0 q) (hf : ∀ q, free q → A0 q) (hAX : ∀ q, q < H.size → AX q → A0 q)
    (kx : ∀ (E : String) (ce : Cell) (q9 : Addr) (u : SX) (t : State) (H1 : Heap) (locs1 : List Loc), t.heap = H1 → s.vm.Alike t.vm → px u → BX E u t → H.size ≤ H1.size → (∀ q : Nat, q < H.size → ¬ AX q → H1[q]? = H[q]?) → va_S A0 H0 H1 locs1 → H1[q9]? = some ce → ce.vm = .none → s.vm.findClass E = some ce.cls → vx_W p l e R s m args below meth c H1 locs1 (cells + mc) (slots + ms) Q (F0 m pc ls rest) q9)
    (kk : ∀ (r : Int64) (u : S) (t : State) (H1 : Heap) (locs1 : List Loc), t.heap = H1 → s.vm.Alike t.vm → post r u → B u t → H.size ≤ H1.size → (∀ q : Nat, q < H.size → ¬ A1 q → H1[q]? = H[q]?) → va_S A0 H0 H1 locs1 → W p l e R s m args below meth c H1 locs1 (cells + mc) (slots + ms) Q (F0 m (pc + 3) ls (.long r :: rest))) : W p l e R s m args below meth c H locs cells slots Q (F0 m pc ls st0) := by
  intro T hT X
  rcases hr T hT X with ⟨v, st₀, t, T', L, h0, X', hL, e1, e2, ⟨⟨r, u, hv, hp, hb⟩, hF⟩, st⟩ | ⟨q, st₀, t, T', L, E, ce, h0, X', hL, e1, e2, ⟨u, hp, hb, hF⟩, hce, hcv, hcl, st⟩
  · cases hv
    obtain ⟨k1, k2, k3⟩ := vx_keep h0 e1 hS hA hf hL hF
    obtain ⟨t2, a1, b1⟩ := kk r u t T'.heap (locs ++ L) e1.symm (by rw [← e2]; exact X'.warmed.alike) hp hb k1 k2 k3 T' rfl X'
    exact ⟨t2, st t2 a1, b1⟩
  · obtain ⟨k1, k2, k3⟩ := vx_keep h0 e1 hS hAX hf hL hF
    obtain ⟨t2, a1, b1⟩ := kx E ce q u t T'.heap (locs ++ L) e1.symm (by rw [← e2]; exact X'.warmed.alike) hp hb k1 k2 k3 (by rw [e1]; exact hce) hcv hcl T' rfl X'
    exact ⟨t2, st.trans a1, b1⟩
theorem vx_callf {S SX : Type} {post : UInt32 → S → Prop} {px : SX → Prop} {B : S → State → Prop} {BX : String → SX → State → Prop} {AX : Nat → Prop} (hr : vx_Run p l e R s m args below meth c H locs cells slots mc ms (F0 m pc ls st0) rest (va_Qf post B A1 a) (vx_X px BX AX) free) (hS : va_S A0 H0 H locs) (hA : ∀ q, q < H.size → A1 q → A0 q) (hf : ∀ q, free q → A0 q) (hAX : ∀ q, q < H.size → AX q → A0 q)
    (kx : ∀ (E : String) (ce : Cell) (q9 : Addr) (u : SX) (t : State) (H1 : Heap) (locs1 : List Loc), t.heap = H1 → s.vm.Alike t.vm → px u → BX E u t → H.size ≤ H1.size → (∀ q : Nat, q < H.size → ¬ AX q → H1[q]? = H[q]?) → va_S A0 H0 H1 locs1 → H1[q9]? = some ce → ce.vm = .none → s.vm.findClass E = some ce.cls → vx_W p l e R s m args below meth c H1 locs1 (cells + mc) (slots + ms) Q (F0 m pc ls rest) q9)
    (kk : ∀ (r : UInt32) (u : S) (t : State) (H1 : Heap) (locs1 : List Loc), t.heap = H1 → s.vm.Alike t.vm → post r u → B u t → H.size ≤ H1.size → (∀ q : Nat, q < H.size → ¬ A1 q → H1[q]? = H[q]?) → va_S A0 H0 H1 locs1 → W p l e R s m args below meth c H1 locs1 (cells + mc) (slots + ms) Q (F0 m (pc + 3) ls (.float r :: rest))) : W p l e R s m args below meth c H locs cells slots Q (F0 m pc ls st0) := by
  intro T hT X
  rcases hr T hT X with ⟨v, st₀, t, T', L, h0, X', hL, e1, e2, ⟨⟨r, u, hv, hp, hb⟩, hF⟩, st⟩ | ⟨q, st₀, t, T', L, E, ce, h0, X', hL, e1, e2, ⟨u, hp, hb, hF⟩, hce, hcv, hcl, st⟩
  · cases hv
    obtain ⟨k1, k2, k3⟩ := vx_keep h0 e1 hS hA hf hL hF
    obtain ⟨t2, a1, b1⟩ := kk r u t T'.heap (locs ++ L) e1.symm (by rw [← e2]; exact X'.warmed.alike) hp hb k1 k2 k3 T' rfl X'
    exact ⟨t2, st t2 a1, b1⟩
  · obtain ⟨k1, k2, k3⟩ := vx_keep h0 e1 hS hAX hf hL hF
    obtain ⟨t2, a1, b1⟩ := kx E ce q u t T'.heap (locs ++ L) e1.symm (by rw [← e2]; exact X'.warmed.alike) hp hb k1 k2 k3 (by rw [e1]; exact hce) hcv hcl T' rfl X'
    exact ⟨t2, st.trans a1, b1⟩
theorem vx_calld {S SX : Type} {post : UInt64 → S → Prop} {px : SX → Prop} {B : S → State → Prop} {BX : String → SX → State → Prop} {AX : Nat → Prop} (hr : vx_Run p l e R s m args below meth c H locs cells slots mc ms (F0 m pc ls st0) rest (va_Qd post B A1 a) (vx_X px BX AX) free) (hS : va_S A0 H0 H locs) (hA : ∀ q, q < H.size → A1 q → A0 q) (hf : ∀ q, free q → A0 q) (hAX : ∀ q, q < H.size → AX q → A0 q)
    (kx : ∀ (E : String) (ce : Cell) (q9 : Addr) (u : SX) (t : State) (H1 : Heap) (locs1 : List Loc), t.heap = H1 → s.vm.Alike t.vm → px u → BX E u t → H.size ≤ H1.size → (∀ q : Nat, q < H.size → ¬ AX q → H1[q]? = H[q]?) → va_S A0 H0 H1 locs1 → H1[q9]? = some ce → ce.vm = .none → s.vm.findClass E = some ce.cls → vx_W p l e R s m args below meth c H1 locs1 (cells + mc) (slots + ms) Q (F0 m pc ls rest) q9)
    (kk : ∀ (r : UInt64) (u : S) (t : State) (H1 : Heap) (locs1 : List Loc), t.heap = H1 → s.vm.Alike t.vm → post r u → B u t → H.size ≤ H1.size → (∀ q : Nat, q < H.size → ¬ A1 q → H1[q]? = H[q]?) → va_S A0 H0 H1 locs1 → W p l e R s m args below meth c H1 locs1 (cells + mc) (slots + ms) Q (F0 m (pc + 3) ls (.double r :: rest))) : W p l e R s m args below meth c H locs cells slots Q (F0 m pc ls st0) := by
  intro T hT X
  rcases hr T hT X with ⟨v, st₀, t, T', L, h0, X', hL, e1, e2, ⟨⟨r, u, hv, hp, hb⟩, hF⟩, st⟩ | ⟨q, st₀, t, T', L, E, ce, h0, X', hL, e1, e2, ⟨u, hp, hb, hF⟩, hce, hcv, hcl, st⟩
  · cases hv
    obtain ⟨k1, k2, k3⟩ := vx_keep h0 e1 hS hA hf hL hF
    obtain ⟨t2, a1, b1⟩ := kk r u t T'.heap (locs ++ L) e1.symm (by rw [← e2]; exact X'.warmed.alike) hp hb k1 k2 k3 T' rfl X'
    exact ⟨t2, st t2 a1, b1⟩
  · obtain ⟨k1, k2, k3⟩ := vx_keep h0 e1 hS hAX hf hL hF
    obtain ⟨t2, a1, b1⟩ := kx E ce q u t T'.heap (locs ++ L) e1.symm (by rw [← e2]; exact X'.warmed.alike) hp hb k1 k2 k3 (by rw [e1]; exact hce) hcv hcl T' rfl X'
    exact ⟨t2, st.trans a1, b1⟩
theorem vx_callv {S SX : Type} {post : S → Prop} {px : SX → Prop} {B : S → State → Prop} {BX : String → SX → State → Prop} {AX : Nat → Prop} (hr : vx_Run p l e R s m args below meth c H locs cells slots mc ms (F0 m pc ls st0) rest (va_Qv post B A1 a) (vx_X px BX AX) free) (hS : va_S A0 H0 H locs) (hA : ∀ q, q < H.size → A1 q → A0 q) (hf : ∀ q, free q → A0 q) (hAX : ∀ q, q < H.size → AX q → A0 q)
    (kx : ∀ (E : String) (ce : Cell) (q9 : Addr) (u : SX) (t : State) (H1 : Heap) (locs1 : List Loc), t.heap = H1 → s.vm.Alike t.vm → px u → BX E u t → H.size ≤ H1.size → (∀ q : Nat, q < H.size → ¬ AX q → H1[q]? = H[q]?) → va_S A0 H0 H1 locs1 → H1[q9]? = some ce → ce.vm = .none → s.vm.findClass E = some ce.cls → vx_W p l e R s m args below meth c H1 locs1 (cells + mc) (slots + ms) Q (F0 m pc ls rest) q9)
    (kk : ∀ (u : S) (t : State) (H1 : Heap) (locs1 : List Loc), t.heap = H1 → s.vm.Alike t.vm → post u → B u t → H.size ≤ H1.size → (∀ q : Nat, q < H.size → ¬ A1 q → H1[q]? = H[q]?) → va_S A0 H0 H1 locs1 → W p l e R s m args below meth c H1 locs1 (cells + mc) (slots + ms) Q (F0 m (pc + 3) ls (rest))) : W p l e R s m args below meth c H locs cells slots Q (F0 m pc ls st0) := by
  intro T hT X
  rcases hr T hT X with ⟨v, st₀, t, T', L, h0, X', hL, e1, e2, ⟨⟨u, hv, hp, hb⟩, hF⟩, st⟩ | ⟨q, st₀, t, T', L, E, ce, h0, X', hL, e1, e2, ⟨u, hp, hb, hF⟩, hce, hcv, hcl, st⟩
  · cases hv
    obtain ⟨k1, k2, k3⟩ := vx_keep h0 e1 hS hA hf hL hF
    obtain ⟨t2, a1, b1⟩ := kk u t T'.heap (locs ++ L) e1.symm (by rw [← e2]; exact X'.warmed.alike) hp hb k1 k2 k3 T' rfl X'
    exact ⟨t2, st t2 a1, b1⟩
  · obtain ⟨k1, k2, k3⟩ := vx_keep h0 e1 hS hAX hf hL hF
    obtain ⟨t2, a1, b1⟩ := kx E ce q u t T'.heap (locs ++ L) e1.symm (by rw [← e2]; exact X'.warmed.alike) hp hb k1 k2 k3 (by rw [e1]; exact hce) hcv hcl T' rfl X'
    exact ⟨t2, st.trans a1, b1⟩
/-- caught by the row x of this method's table; the rows ahead don't take it -/
theorem vx_catch {own name : String} {E : String} {ce : Cell} {q : Addr} (hown : s.vm.findClass own = some m.cls) (pre : List ExceptionTableEntry) (x : ExceptionTableEntry) (suf : List ExceptionTableEntry) (hsplit : c.exceptionTable.toList = pre ++ x :: suf)
    (hpass : ∀ z ∈ pre, covers z pc = false ∨ (z.catchType ≠ 0 ∧ ∃ nm : String, (Cond.classLink own z.catchType nm).before args s = true ∧ va_Nc E nm s)) (hx : covers x pc = true) (h0 : x.catchType ≠ 0)
    (hlink : (Cond.classLink own x.catchType name).before args s = true) (hcast : (Cond.castable E name).before args s = true) (hcell : H[q]? = some ce) (hv : ce.vm = .none) (hcl : s.vm.findClass E = some ce.cls)
    (kk : W p l e R s m args below meth c H locs cells slots Q (F0 m x.handlerPc ls [.ref q])) : vx_W p l e R s m args below meth c H locs cells slots Q (F0 m pc ls rest) q := by
  intro T hT X
  have hpl : e.platform.magicAccessors = ({} : Platform).magicAccessors := by rw [X.admits.platform]
  obtain ⟨c3, c4, hc3, hc4, hasg⟩ := Cond.castable_spec hcast
  cases Option.some.inj (hc3.symm.trans hcl)
  obtain ⟨c5, hc5, hcl5⟩ := Cond.classLink_spec hown hlink e.platform hpl
  cases Option.some.inj (hc4.symm.trans hc5)
  obtain ⟨vm', X', st⟩ := X.thenCaughtThrough q (g := F0 m pc ls rest) rfl (Steps.refl _) (by rw [hT]; exact hcell) (by rw [hv]; rfl) (by obtain ⟨k9, h9, -⟩ := Vm.findClass_spec hcl; exact ⟨k9, h9⟩) pre x suf hsplit
    (fun z hz => by
      rcases hpass z hz with h | ⟨hz0, nm, hl1, hn1⟩
      · exact Or.inl h
      · obtain ⟨c6, hc6, hcl6⟩ := Cond.classLink_spec hown hl1 e.platform hpl
        obtain ⟨a8, b8, h1, h2, h3⟩ := hn1
        cases Option.some.inj (h1.symm.trans hcl)
        cases Option.some.inj (h2.symm.trans hc6)
        exact Or.inr ⟨hz0, _, hcl6, h3⟩) hx (Or.inr ⟨h0, c4, hcl5, hasg⟩)
  obtain ⟨t, a1, b1⟩ := kk (T.setVm vm') hT X'
  exact ⟨t, st.trans a1, b1⟩
end Rows
section Ends
variable {p : Program} {l : Launch} {e : Env} {R : Room} {s : State} {m : MethodId} {args : Array Value} {below : List Frame} {meth : Method} {c : Code} {H : Heap} {locs : List Loc} {cells slots : Nat} {Q : State → Prop}
variable {mc ms : Nat} {free : Addr → Prop} {A0 A1 : Nat → Prop} {H0 : Heap} {a : Array Value} {ls : Array Slot} {st0 rest : List Value}
variable {Qc : Array Value → State → Outcome → State → Prop} {XC : String → State → State → Prop}
/-- what a body that may throw owes at its end -/
def vx_MQ (below : List Frame) (Qc : Array Value → State → Outcome → State → Prop) (XC : String → State → State → Prop) (a : Array Value) (s : State) (mc ms : Nat) (free : Addr → Prop) : State → Prop := fun t =>
  ∃ o, t.status = .running ∧ Ended t below o ∧ vx_Q Qc XC mc ms free a s o t
theorem vx_ret {g : JFrame} {mc ms : Nat} (k : W p l e R s m args below meth c H locs cells slots (MQ below Qc args s mc ms free) g) : W p l e R s m args below meth c H locs cells slots (vx_MQ below Qc XC args s mc ms free) g := by
  intro T hT X
  obtain ⟨t, a1, o, b1, b2, b3, b4⟩ := k T hT X
  exact ⟨t, a1, o, b1, b2, Or.inl ⟨b3, b4⟩⟩
/-- not caught here: it goes on to the caller -/
theorem vx_widen {g : JFrame} {q : Addr} {k n : Nat} (h1 : cells ≤ k) (h2 : slots ≤ n) (kk : vx_W p l e R s m args below meth c H locs k n Q g q) : vx_W p l e R s m args below meth c H locs cells slots Q g q := fun T hT X => kk T hT (stand_widen X h1 h2)
theorem vx_out {pc : Nat} {E : String} {ce : Cell} {q : Addr} {mc ms : Nat} (hout : ∀ x ∈ c.exceptionTable.toList, covers x pc = false) (hlocks : meth.locks = false) (hcell : H[q]? = some ce) (hv : ce.vm = .none) (hcl : s.vm.findClass E = some ce.cls)
    (hx : ∀ t : State, t.heap = H → s.vm.Alike t.vm → XC E s t) (hf : ∀ z ∈ locs, free z.base) (hc : cells ≤ mc) (hs : slots ≤ ms) :
    vx_W p l e R s m args below meth c H locs cells slots (vx_MQ below Qc XC args s mc ms free) (F0 m pc ls rest) q := by
  intro T hT X
  obtain ⟨st1, hrun, hend, hW, hsm⟩ := X.leaveThrown q (g := F0 m pc ls rest) rfl rfl rfl hout hlocks
  have hcell9 : (T.setFrames (.throwing q :: below)).heap[q]? = some ce := by
    show T.heap[q]? = some ce
    rw [hT]; exact hcell
  exact ⟨_, st1, .threw q, hrun, hend, Or.inr ⟨q, rfl, E, ce, locs, hx _ hT hW.alike, hcell9, hv, hcl, hW, hsm.mono hc hs, hf⟩⟩
theorem vx_frame {U : State} {k n : Nat} (h : s.sameButNew ({ U with vm := s.vm } : State) locs k n) : s.heap.size ≤ U.heap.size ∧ ∀ q : Nat, q < s.heap.size → (∀ z ∈ locs, z.base ≠ q) → U.heap[q]? = s.heap[q]? := by
  obtain ⟨-, h2, -, -, -, h6⟩ := h
  refine ⟨h2, fun q hq hz => ?_⟩
  obtain ⟨c9, e1, e2, e3, e4⟩ := h6 q _ (Array.getElem?_eq_getElem hq)
  have hs : c9.slots = (s.heap[q]).slots := Array.ext_getElem? fun i => e4 i fun hm => hz _ hm rfl
  have h9 : c9 = s.heap[q] := by
    rw [hs] at e2
    exact e2
  have e5 : U.heap[q]? = some c9 := e1
  rw [e5, h9, Array.getElem?_eq_getElem hq]
/-- the words of a throw but the four that speak of the heap -/
def vx_no (w : Cond) : Bool := decide (w ≠ .isRef (.static Bundle.tN "UNASSIGNED_STACK" Bundle.steD)) && decide (w ≠ .isRef (.static Bundle.tN "SUPPRESSED_SENTINEL" Bundle.listD)) && decide (w ≠ .laysStatic Bundle.tN "UNASSIGNED_STACK" Bundle.steD) && decide (w ≠ .laysStatic Bundle.tN "SUPPRESSED_SENTINEL" Bundle.listD)
def vx_at0 (own : String) (ic : Nat) (X : String) (names : List String) : List Cond := (Bundle.ownAtoms0 own ic X names).filter vx_no
def vx_atS (own : String) (ic : Nat) (X : String) (names : List String) : List Cond := (Bundle.ownAtoms own ic X names).filter vx_no
/-- a word that the tables alone decide, or a good one -/
def vx_ot (w : Cond) : Bool := w.onTables || goodWord w
theorem vx_ot_at {args a' : Array Value} {s U : State} {w : Cond} (hW : s.WarmedH U.vm) (hvm : s.vm = U.vm) (hg : vx_ot w = true) (h : w.before args s = true) : w.before a' U = true := by
  simp only [vx_ot, Bool.or_eq_true] at hg
  rcases hg with hg | hg
  · exact va_tabs hg hvm h
  · exact word_at hW (good_of_word hg) h
/-- a list's words: the good ones out of the method's own list, the others by premises of their own -/
theorem vx_hat {args : Array Value} {s : State} {L B : List Cond} (h1 : ∀ w ∈ L.filter goodWord, w.before args s = true) (h2 : ∀ w ∈ L.filter (fun w => !goodWord w), w ∈ B) (h3 : ∀ w ∈ B, w.before args s = true) : ∀ w ∈ L, w.before args s = true := by
  intro w hw
  by_cases g : goodWord w = true
  · exact h1 w (List.mem_filter.mpr ⟨hw, g⟩)
  · refine h3 w (h2 w (List.mem_filter.mpr ⟨hw, ?_⟩))
    show (!goodWord w) = true
    cases hgw : goodWord w
    · rfl
    · exact absurd hgw g
theorem vx_c {args : Array Value} {s : State} {w : Cond} {B : List Cond} (h : w.before args s = true) (t : ∀ w ∈ B, w.before args s = true) : ∀ w' ∈ w :: B, w'.before args s = true := fun w' h' => (List.mem_cons.mp h').elim (fun e => by rw [e]; exact h) (t w')
theorem vx_n {args : Array Value} {s : State} : ∀ w ∈ ([] : List Cond), w.before args s = true := fun _ h => nomatch h
theorem vx_own {args : Array Value} {s : State} {L : List Cond} (h1 : ∀ w ∈ L.filter vx_no, w.before args s = true)
    (hU : (Cond.isRef (.static Bundle.tN "UNASSIGNED_STACK" Bundle.steD)).before args s = true) (hN : (Cond.isRef (.static Bundle.tN "SUPPRESSED_SENTINEL" Bundle.listD)).before args s = true)
    (lU : (Cond.laysStatic Bundle.tN "UNASSIGNED_STACK" Bundle.steD).before args s = true) (lN : (Cond.laysStatic Bundle.tN "SUPPRESSED_SENTINEL" Bundle.listD).before args s = true) : ∀ w ∈ L, w.before args s = true := by
  intro w hw
  by_cases e1 : w = .isRef (.static Bundle.tN "UNASSIGNED_STACK" Bundle.steD)
  · rw [e1]; exact hU
  · by_cases e2 : w = .isRef (.static Bundle.tN "SUPPRESSED_SENTINEL" Bundle.listD)
    · rw [e2]; exact hN
    · by_cases e3 : w = .laysStatic Bundle.tN "UNASSIGNED_STACK" Bundle.steD
      · rw [e3]; exact lU
      · by_cases e4 : w = .laysStatic Bundle.tN "SUPPRESSED_SENTINEL" Bundle.listD
        · rw [e4]; exact lN
        · exact h1 w (List.mem_filter.mpr ⟨hw, by unfold vx_no; rw [decide_eq_true e1, decide_eq_true e2, decide_eq_true e3, decide_eq_true e4]; rfl⟩)
/-- where a static field lies, its class's statics cell in H -/
def vx_L (C n d : String) (A : Nat → Prop) (U : State) (H : Heap) : Prop := ∃ (c : ClassId) (k : Class) (i : Nat) (f : Field) (a : Nat) (cell : Cell), U.vm.findClass C = some c ∧ U.fieldFound? C n d = some (c, k, i, f) ∧ f.isStatic = true ∧ k.statics = some a ∧ H[a]? = some cell ∧ cell.vm.isStatics = true ∧ cell.cls = c ∧ f.slot < cell.slots.size ∧ k.staticTypes[f.slot]? = some f.type ∧ ¬ A a
theorem vx_L.moved {C n d : String} {A : Nat → Prop} {u U : State} {H : Heap} (hvm : u.vm.Alike U.vm) (h : vx_L C n d A u H) : vx_L C n d A U H := by
  obtain ⟨c, k, i, f, a, cell, h1, h2, h3, h4, h5, h6, h7, h8, h9, h10⟩ := h
  obtain ⟨k', hi', he⟩ := State.fieldFound?_setVm hvm h2
  exact ⟨c, k', i, f, a, cell, by rw [hvm.findClass]; exact h1, hi', h3, by rw [he]; exact h4, h5, h6, h7, h8, by rw [he]; exact h9, h10⟩
theorem vx_L.kept {C n d : String} {A : Nat → Prop} {U : State} {H H1 : Heap} (h : vx_L C n d A U H) (hq : ∀ a : Nat, a < H.size → ¬ A a → H1[a]? = H[a]?) : vx_L C n d A U H1 := by
  obtain ⟨c, k, i, f, a, cell, h1, h2, h3, h4, h5, h6, h7, h8, h9, h10⟩ := h
  exact ⟨c, k, i, f, a, cell, h1, h2, h3, h4, by rw [hq a (Array.getElem?_eq_some_iff.mp h5).1 h10]; exact h5, h6, h7, h8, h9, h10⟩
theorem vx_L.narrow {C n d : String} {A B : Nat → Prop} {U : State} {H : Heap} (h : vx_L C n d A U H) (hAB : ∀ q, B q → A q) : vx_L C n d B U H := by
  obtain ⟨c, k, i, f, a, cell, h1, h2, h3, h4, h5, h6, h7, h8, h9, h10⟩ := h
  exact ⟨c, k, i, f, a, cell, h1, h2, h3, h4, h5, h6, h7, h8, h9, fun z => h10 (hAB _ z)⟩
theorem vx_L.word {C n d : String} {A : Nat → Prop} {s : State} {args : Array Value} (h : vx_L C n d A s s.heap) : (Cond.laysStatic C n d).before args s = true := by
  obtain ⟨c, k, i, f, a, cell, h1, h2, h3, h4, h5, h6, h7, h8, h9, -⟩ := h
  show (Cond.laysStatic C n d).holds args s none s [] = true
  exact Cond.laysStatic_of h1 h2 h3 h4 h5 h6 h7 h8 h9
/-- .. and what it holds: null or some reference -/
def vx_Zq (C n d : String) (A : Nat → Prop) (U : State) (H : Heap) : Prop := va_Zq C n d A U H ∧ vx_L C n d A U H
theorem vx_Zq.moved {C n d : String} {A : Nat → Prop} {u U : State} {H : Heap} (hvm : u.vm.Alike U.vm) (h : vx_Zq C n d A u H) : vx_Zq C n d A U H := ⟨va_Zq.moved hvm h.1, vx_L.moved hvm h.2⟩
theorem vx_Zq.kept {C n d : String} {A : Nat → Prop} {U : State} {H H1 : Heap} (h : vx_Zq C n d A U H) (hq : ∀ a : Nat, a < H.size → ¬ A a → H1[a]? = H[a]?) : vx_Zq C n d A U H1 := ⟨va_Zq.kept h.1 hq, vx_L.kept h.2 hq⟩
theorem vx_Zq.narrow {C n d : String} {A B : Nat → Prop} {U : State} {H : Heap} (h : vx_Zq C n d A U H) (hAB : ∀ q, B q → A q) : vx_Zq C n d B U H := ⟨va_Zq.narrow h.1 hAB, vx_L.narrow h.2 hAB⟩
theorem vx_Zqof {args : Array Value} {s : State} {C n d : String} {A : Nat → Prop} (hl : (Cond.laysStatic C n d).before args s = true) (hini : (Cond.initialized C).before args s = true) (h : (Cond.isRef (.static C n d)).before args s = true) (hA : ∀ a : Nat, a < s.heap.size → ¬ A a) : vx_Zq C n d A s s.heap := by
  refine ⟨va_Zqof hl hini h hA, ?_⟩
  obtain ⟨c, k, i, f, a, cell, h1, h2, h3, h4, h5, h6, h7, h8, h9⟩ := Cond.laysStatic_spec hl
  exact ⟨c, k, i, f, a, cell, h1, h2, h3, h4, h5, h6, h7, h8, h9, hA a (Array.getElem?_eq_some_iff.mp h5).1⟩
theorem vx_isRef {C n d : String} {v : Value} {A : Nat → Prop} {s : State} {args : Array Value} (h : va_Z C n d v A s s.heap) (hv : v.isRef = true) : (Cond.isRef (.static C n d)).before args s = true := by
  obtain ⟨cf, kf, fi, f, a, cell, h1, h2, h3, h4, h5, h6, h7, -⟩ := h
  have he : (Term.static C n d).eval args s none [] s = some v := by
    simp [Term.eval, State.fieldNamed?, h1, h2, h4, h5, h6, h7]
  simp only [Cond.before, Cond.holds, Cond.value, he]
  cases v <;> simp_all [Value.isRef]
theorem vx_isRefq {C n d : String} {A : Nat → Prop} {s : State} {args : Array Value} (h : va_Zq C n d A s s.heap) : (Cond.isRef (.static C n d)).before args s = true := by
  rcases h with h | ⟨t, h⟩
  · exact vx_isRef h rfl
  · exact vx_isRef h rfl
/-- the same frame, seen from here: as if the method were called anew in this heap -/
theorem vx_rebase {T : State} (X : Stand p l e R s m args below meth c T locs cells slots) {R' : Room} (hf : R'.frames ≤ R.frames) (hl : R'.locals ≤ R.locals) (hc : cells + R'.cells ≤ R.cells) (hs : slots + R'.slots ≤ R.slots) :
    Stand p l e R' ((T.setVm s.vm).setFrames (.invoking m args :: below)) m args below meth c T [] 0 0 := by
  have htop : (T.setVm s.vm).topJava?.isSome := X.here.top
  have hF : ((T.setVm s.vm).setFrames (.invoking m args :: below)).frames = .invoking m args :: below := State.frames_setFrames _ (State.cur_lt_of_top htop)
  obtain ⟨g₀, hg0⟩ := Option.isSome_iff_exists.mp htop
  obtain ⟨r, hr⟩ := State.topJava?_eq_some.mp hg0
  have hl9 : e.platform.stackLimits (T.setVm s.vm).me = e.platform.stackLimits s.me := X.limits
  have hb9 : (T.setVm s.vm).me.stackBytes = s.me.stackBytes := X.bytes
  refine ⟨X.admits, X.cas, X.clock, hF, ?_, X.hears, X.method, X.code, X.here, X.tail, X.warmed, ?_, ?_, ?_⟩
  · have h := X.room
    have hU : ((T.setVm s.vm).setFrames (.invoking m args :: below)).localsInUse = s.localsInUse := by
      rw [State.localsInUse_invoking hF (meth := meth) (c := c) X.method X.code, State.localsInUse_invoking X.frames X.method X.code]
    simp only [State.hasRoom, Bool.and_eq_true, decide_eq_true_eq] at h ⊢
    obtain ⟨⟨⟨⟨h1, h2, h3, h4, h5, h6⟩, h7⟩, h8⟩, h9⟩ := h
    rw [X.frames, List.length_cons] at h2 h3
    have q1 := X.heapSize
    have q2 := X.used
    simp only [hF, hU, List.length_cons, State.stackLimits_setFrames, State.stackBytes_setFrames, hl9, hb9]
    refine ⟨⟨⟨⟨by omega, by omega, by omega, by omega, by omega, h6⟩, ?_⟩, ?_⟩, X.book⟩
    · show T.heap.size + R'.cells ≤ e.platform.maxCells
      omega
    · show T.slotsUsed + R'.slots ≤ e.platform.maxSlots
      omega
  · rw [State.stackLimits_setFrames]; rfl
  · rw [State.stackBytes_setFrames]; rfl
  · refine ⟨?_, Nat.le_refl _, Nat.le_refl _, ?_, ?_, fun a c9 h9 => ⟨c9, h9, rfl, rfl, fun _ _ => rfl⟩⟩
    · obtain ⟨t, ht, -⟩ := State.frames_cons hr
      show T.setVm s.vm = { ((T.setVm s.vm).setFrames (.invoking m args :: below)).setFrames (T.setVm s.vm).frames with heap := T.heap, slotsUsed := T.slotsUsed }
      rw [State.setFrames_setFrames, State.setFrames_self ht]
      rfl
    · show T.slotsUsed = T.slotsUsed + ((T.heap.toList.drop T.heap.size).map (·.slots.size)).sum
      rw [List.drop_eq_nil_of_le (Nat.le_of_eq Array.length_toList)]
      rfl
    · show ((T.heap.toList.drop T.heap.size).map (·.slots.size)).sum ≤ 0
      rw [List.drop_eq_nil_of_le (Nat.le_of_eq Array.length_toList)]
      exact Nat.le_refl _
/-- 'throw new E()': new; dup; invokespecial; athrow -/
theorem vx_throw0 {cc : ByteArray} {pc : Nat} (hexec : p.tables.exec = Jvm.exec) (hb : c.code = cc) (hl : l.stackTraces = false) {own cls : String} {names : List String} {ik ic mc ms : Nat} {A : Nat → Prop}
    (hown : s.vm.findClass own = some m.cls) (hcls : Bundle.fit cls = true) (hnames : ∀ n ∈ names, Bundle.fit n = true)
    (hk : (Cond.classLink own ik cls).before args s = true) (hini : (Cond.initialized cls).before args s = true) (hat : ∀ w ∈ vx_at0 own ic cls names, w.before args s = true)
    (hgood : ∀ w ∈ Cond.classLink own ik cls :: Cond.initialized cls :: vx_at0 own ic cls names, vx_ot w = true)
    (hU : vx_Zq Bundle.tN "UNASSIGNED_STACK" Bundle.steD A s s.heap) (hN : vx_Zq Bundle.tN "SUPPRESSED_SENTINEL" Bundle.listD A s s.heap) (hS : va_S A s.heap H locs) (hsize : ls.size = c.maxLocals)
    (d0 : decode cc pc = .ok (.new ik, 3)) (d3 : decode cc (pc + 3) = .ok (.dup, 1)) (d4 : decode cc (pc + 4) = .ok (.invokespecial ic, 3)) (d7 : decode cc (pc + 7) = .ok (.athrow, 1))
    (hout : ∀ x ∈ c.exceptionTable.toList, covers x (pc + 7) = false)
    (hRframes : names.length + 3 < R.frames) (hRlocals : (rest.map fun v => v.category).sum + (13 * (names.length + 1) + 42) ≤ R.locals) (hRcells : cells + 1 ≤ R.cells) (hRslots : slots + 6 ≤ R.slots) (hlocks : meth.locks = false)
    (hx : ∀ t : State, s.vm.Alike t.vm → H.size ≤ t.heap.size → (∀ q : Nat, q < H.size → t.heap[q]? = H[q]?) → XC cls s t)
    (hf : ∀ z ∈ locs, free z.base) (hc : cells + 1 ≤ mc) (hs : slots + 6 ≤ ms) :
    W p l e R s m args below meth c H locs cells slots (vx_MQ below Qc XC args s mc ms free) (F0 m pc ls rest) := by
  intro T hT X
  have htr : e.platform.stackTraces = false := (show e.platform.stackTraces = l.stackTraces by rw [X.admits.platform]).trans hl
  have Y := vx_rebase X (R' := { frames := R.frames, locals := R.locals, cells := 1, slots := 6 }) (Nat.le_refl _) (Nat.le_refl _) hRcells hRslots
  obtain ⟨s', hA⟩ : ∃ z, z = (T.setVm s.vm).setFrames (.invoking m args :: below) := ⟨_, rfl⟩
  rw [← hA] at Y
  have hvm : s'.vm = s.vm := by rw [hA]; rfl
  have hhp : s'.heap = H := by rw [hA]; exact hT
  have hW0 : s.WarmedH s'.vm := by rw [hvm]; exact State.WarmedH.refl s
  have hat' : ∀ w ∈ vx_at0 own ic cls names, w.before args s' = true := fun w hw => vx_ot_at hW0 hvm.symm (hgood w (List.mem_cons_of_mem _ (List.mem_cons_of_mem _ hw))) (hat w hw)
  have hk' : (Cond.classLink own ik cls).before args s' = true := vx_ot_at hW0 hvm.symm (hgood _ List.mem_cons_self) hk
  have hini' : (Cond.initialized cls).before args s' = true := vx_ot_at hW0 hvm.symm (hgood _ (List.mem_cons_of_mem _ List.mem_cons_self)) hini
  have hU' : vx_Zq Bundle.tN "UNASSIGNED_STACK" Bundle.steD A s' s'.heap := by rw [hhp]; exact vx_Zq.moved hW0.alike (hU.kept hS.2.1)
  have hN' : vx_Zq Bundle.tN "SUPPRESSED_SENTINEL" Bundle.listD A s' s'.heap := by rw [hhp]; exact vx_Zq.moved hW0.alike (hN.kept hS.2.1)
  have h : ∀ w ∈ Bundle.ownAtoms0 own ic cls names, w.before args s' = true := vx_own hat' (vx_isRefq hU'.1) (vx_isRefq hN'.1) hU'.2.word hN'.2.word
  have hown' : s'.vm.findClass own = some m.cls := by rw [hvm]; exact hown
  have hins : (Cond.instantiable cls 6).before args s' = true := h _ (by simp [Bundle.ownAtoms0])
  obtain ⟨vm₁, cX, kX, hfX, hkX, -, -, X₁, st1⟩ := Y.newCold hexec (own := own) (C := cls) (index := ik) (n := 6) hown' hk' hins hini'
    (g := F0 m pc ls rest) rfl (by rw [hb]; exact d0) (Nat.le_refl _) (Nat.le_refl _)
  generalize hT1 : (T.setVm vm₁).pushCell { cls := cX, slots := kX.instanceTypes.map defaultValue, vm := .none } = T1 at X₁ st1
  have hcat : (Value.ref T.heap.size).category = 1 := rfl
  have hcellA : T1.heap[T.heap.size]? = some (freshCell cX kX) := by rw [← hT1]; exact State.heap_pushCell_size _ _
  have d3' : decode c.code (pc + 3) = .ok (.dup, 1) := by rw [hb]; exact d3
  obtain ⟨U, hsteps, hrun, hend, hW, hsame, ce, hce, hO⟩ := X₁.ctorThrow0 hexec htr (own := own) (cls := cls) (names := names) (ic := ic) hown' hcls hnames h (fun x hx => nomatch hx) hfX hkX hcellA (by rw [hhp, hT]; exact Nat.le_refl _)
    (g := { method := m, pc := pc + 4, locals := ls, stack := .ref T.heap.size :: .ref T.heap.size :: rest, locked := none }) rfl hsize rfl rfl (rest := rest) rfl
    (by rw [hb]; exact d4) (by rw [hb]; exact d7) hout hRframes (by simp only [List.map_cons, List.sum_cons, hcat]; omega) hlocks
  obtain ⟨f1, f2⟩ := vx_frame hsame
  rw [hhp] at f1 f2
  have hWs : s.WarmedH U.vm := State.WarmedH.trans hW0 hW
  have hcl : s.vm.findClass cls = some ce.cls := by
    have h9 := hO.cls
    rw [hvm] at h9
    exact h9
  have hall : s.sameButNew ({ U with vm := s.vm } : State) locs mc ms := by
    subst hA
    obtain ⟨e1, e2⟩ := hsame
    rw [State.setFrames_setFrames] at e1
    have h2 : (T.setVm s.vm).sameButNew ({ U with vm := s.vm } : State) [] (0 + 1) (0 + 6) := ⟨e1, e2⟩
    have h3 := X.same.trans h2
    rw [List.append_nil] at h3
    exact h3.mono hc hs
  refine ⟨U, ?_, .threw T.heap.size, hrun, hend, Or.inr ⟨T.heap.size, rfl, cls, ce, locs, hx U hWs.alike f1 (fun q hq => f2 q hq (fun z hz => nomatch hz)), hce, hO.vm, hcl, hWs, hall, hf⟩⟩
  refine st1 _ ?_
  show Steps p.tables e below (T1.setTop { method := m, pc := pc + 3, locals := ls, stack := .ref T.heap.size :: rest, locked := none }) _
  jvm_step X₁.here [X₁.here.top, hexec, d3', Value.category]
  exact hsteps
/-- 'throw new E("text")': new; dup; ldc; invokespecial; athrow -/
theorem vx_throwS {cc : ByteArray} {pc : Nat} (hexec : p.tables.exec = Jvm.exec) (hb : c.code = cc) (hl : l.stackTraces = false) {own cls text : String} {names : List String} {ik is ic mc ms sa : Nat} {A : Nat → Prop}
    (hown : s.vm.findClass own = some m.cls) (hcls : Bundle.fit cls = true) (hnames : ∀ n ∈ names, Bundle.fit n = true)
    (hk : (Cond.classLink own ik cls).before args s = true) (hini : (Cond.initialized cls).before args s = true) (hstr : vk_R own is text sa s) (hat : ∀ w ∈ vx_atS own ic cls names, w.before args s = true)
    (hgood : ∀ w ∈ Cond.classLink own ik cls :: Cond.initialized cls :: vx_atS own ic cls names, vx_ot w = true)
    (hU : vx_Zq Bundle.tN "UNASSIGNED_STACK" Bundle.steD A s s.heap) (hN : vx_Zq Bundle.tN "SUPPRESSED_SENTINEL" Bundle.listD A s s.heap) (hS : va_S A s.heap H locs) (hsize : ls.size = c.maxLocals)
    (d0 : decode cc pc = .ok (.new ik, 3)) (d3 : decode cc (pc + 3) = .ok (.dup, 1)) (d4 : decode cc (pc + 4) = .ok (.ldc is, 2)) (d6 : decode cc (pc + 6) = .ok (.invokespecial ic, 3)) (d9 : decode cc (pc + 9) = .ok (.athrow, 1))
    (hout : ∀ x ∈ c.exceptionTable.toList, covers x (pc + 9) = false)
    (hRframes : names.length + 3 < R.frames) (hRlocals : (rest.map fun v => v.category).sum + (13 * (names.length + 1) + 43) ≤ R.locals) (hRcells : cells + 1 ≤ R.cells) (hRslots : slots + 6 ≤ R.slots) (hlocks : meth.locks = false)
    (hx : ∀ t : State, s.vm.Alike t.vm → H.size ≤ t.heap.size → (∀ q : Nat, q < H.size → t.heap[q]? = H[q]?) → XC cls s t)
    (hf : ∀ z ∈ locs, free z.base) (hc : cells + 1 ≤ mc) (hs : slots + 6 ≤ ms) :
    W p l e R s m args below meth c H locs cells slots (vx_MQ below Qc XC args s mc ms free) (F0 m pc ls rest) := by
  intro T hT X
  have htr : e.platform.stackTraces = false := (show e.platform.stackTraces = l.stackTraces by rw [X.admits.platform]).trans hl
  have Y := vx_rebase X (R' := { frames := R.frames, locals := R.locals, cells := 1, slots := 6 }) (Nat.le_refl _) (Nat.le_refl _) hRcells hRslots
  obtain ⟨s', hA⟩ : ∃ z, z = (T.setVm s.vm).setFrames (.invoking m args :: below) := ⟨_, rfl⟩
  rw [← hA] at Y
  have hvm : s'.vm = s.vm := by rw [hA]; rfl
  have hhp : s'.heap = H := by rw [hA]; exact hT
  have hW0 : s.WarmedH s'.vm := by rw [hvm]; exact State.WarmedH.refl s
  have hat' : ∀ w ∈ vx_atS own ic cls names, w.before args s' = true := fun w hw => vx_ot_at hW0 hvm.symm (hgood w (List.mem_cons_of_mem _ (List.mem_cons_of_mem _ hw))) (hat w hw)
  have hk' : (Cond.classLink own ik cls).before args s' = true := vx_ot_at hW0 hvm.symm (hgood _ List.mem_cons_self) hk
  have hini' : (Cond.initialized cls).before args s' = true := vx_ot_at hW0 hvm.symm (hgood _ (List.mem_cons_of_mem _ List.mem_cons_self)) hini
  have hU' : vx_Zq Bundle.tN "UNASSIGNED_STACK" Bundle.steD A s' s'.heap := by rw [hhp]; exact vx_Zq.moved hW0.alike (hU.kept hS.2.1)
  have hN' : vx_Zq Bundle.tN "SUPPRESSED_SENTINEL" Bundle.listD A s' s'.heap := by rw [hhp]; exact vx_Zq.moved hW0.alike (hN.kept hS.2.1)
  have h : ∀ w ∈ Bundle.ownAtoms own ic cls names, w.before args s' = true := vx_own hat' (vx_isRefq hU'.1) (vx_isRefq hN'.1) hU'.2.word hN'.2.word
  have hown' : s'.vm.findClass own = some m.cls := by rw [hvm]; exact hown
  have hins : (Cond.instantiable cls 6).before args s' = true := h _ (by simp [Bundle.ownAtoms])
  obtain ⟨vm₁, cX, kX, hfX, hkX, -, -, X₁, st1⟩ := Y.newCold hexec (own := own) (C := cls) (index := ik) (n := 6) hown' hk' hins hini'
    (g := F0 m pc ls rest) rfl (by rw [hb]; exact d0) (Nat.le_refl _) (Nat.le_refl _)
  generalize hT1 : (T.setVm vm₁).pushCell { cls := cX, slots := kX.instanceTypes.map defaultValue, vm := .none } = T1 at X₁ st1
  have hcat : (Value.ref T.heap.size).category = 1 := rfl
  have hcellA : T1.heap[T.heap.size]? = some (freshCell cX kX) := by rw [← hT1]; exact State.heap_pushCell_size _ _
  have d3' : decode c.code (pc + 3) = .ok (.dup, 1) := by rw [hb]; exact d3
  have d4' : decode c.code (pc + 4) = .ok (.ldc is, 2) := by rw [hb]; exact d4
  have hstr' : vk_R own is text sa s' := vk_R.warm hW0 hstr
  obtain ⟨U, hsteps, hrun, hend, hW, hsame, ce, hce, hO⟩ := X₁.ctorThrowS hexec htr (own := own) (cls := cls) (names := names) (ic := ic) hown' hcls hnames h (fun x hx => nomatch hx) hfX hkX hcellA (by rw [hhp, hT]; exact Nat.le_refl _) (msg := .ref sa) rfl
    (g := { method := m, pc := pc + 6, locals := ls, stack := .ref sa :: .ref T.heap.size :: .ref T.heap.size :: rest, locked := none }) rfl hsize rfl rfl (rest := rest) rfl
    (by rw [hb]; exact d6) (by rw [hb]; exact d9) hout hRframes (by simp only [List.map_cons, List.sum_cons, hcat]; omega) hlocks
  obtain ⟨f1, f2⟩ := vx_frame hsame
  rw [hhp] at f1 f2
  have hWs : s.WarmedH U.vm := State.WarmedH.trans hW0 hW
  have hcl : s.vm.findClass cls = some ce.cls := by
    have h9 := hO.cls
    rw [hvm] at h9
    exact h9
  have hall : s.sameButNew ({ U with vm := s.vm } : State) locs mc ms := by
    subst hA
    obtain ⟨e1, e2⟩ := hsame
    rw [State.setFrames_setFrames] at e1
    have h2 : (T.setVm s.vm).sameButNew ({ U with vm := s.vm } : State) [] (0 + 1) (0 + 6) := ⟨e1, e2⟩
    have h3 := X.same.trans h2
    rw [List.append_nil] at h3
    exact h3.mono hc hs
  refine ⟨U, ?_, .threw T.heap.size, hrun, hend, Or.inr ⟨T.heap.size, rfl, cls, ce, locs, hx U hWs.alike f1 (fun q hq => f2 q hq (fun z hz => nomatch hz)), hce, hO.vm, hcl, hWs, hall, hf⟩⟩
  refine st1 _ ?_
  show Steps p.tables e below (T1.setTop { method := m, pc := pc + 3, locals := ls, stack := .ref T.heap.size :: rest, locked := none }) _
  jvm_step X₁.here [X₁.here.top, hexec, d3', Value.category]
  exact X₁.ldcString hexec (own := own) (text := text) (index := is) (a := sa) hown' hstr'.1 hstr'.2
    (g := { method := m, pc := pc + 4, locals := ls, stack := .ref T.heap.size :: .ref T.heap.size :: rest, locked := none }) rfl d4' _ hsteps
/-- 'throw new E("text")', the text by a wide index -/
theorem vx_throwSW {cc : ByteArray} {pc : Nat} (hexec : p.tables.exec = Jvm.exec) (hb : c.code = cc) (hl : l.stackTraces = false) {own cls text : String} {names : List String} {ik is ic mc ms sa : Nat} {A : Nat → Prop}
    (hown : s.vm.findClass own = some m.cls) (hcls : Bundle.fit cls = true) (hnames : ∀ n ∈ names, Bundle.fit n = true)
    (hk : (Cond.classLink own ik cls).before args s = true) (hini : (Cond.initialized cls).before args s = true) (hstr : vk_R own is text sa s) (hat : ∀ w ∈ vx_atS own ic cls names, w.before args s = true)
    (hgood : ∀ w ∈ Cond.classLink own ik cls :: Cond.initialized cls :: vx_atS own ic cls names, vx_ot w = true)
    (hU : vx_Zq Bundle.tN "UNASSIGNED_STACK" Bundle.steD A s s.heap) (hN : vx_Zq Bundle.tN "SUPPRESSED_SENTINEL" Bundle.listD A s s.heap) (hS : va_S A s.heap H locs) (hsize : ls.size = c.maxLocals)
    (d0 : decode cc pc = .ok (.new ik, 3)) (d3 : decode cc (pc + 3) = .ok (.dup, 1)) (d4 : decode cc (pc + 4) = .ok (.ldc_w is, 3)) (d7 : decode cc (pc + 7) = .ok (.invokespecial ic, 3)) (d10 : decode cc (pc + 10) = .ok (.athrow, 1))
    (hout : ∀ x ∈ c.exceptionTable.toList, covers x (pc + 10) = false)
    (hRframes : names.length + 3 < R.frames) (hRlocals : (rest.map fun v => v.category).sum + (13 * (names.length + 1) + 43) ≤ R.locals) (hRcells : cells + 1 ≤ R.cells) (hRslots : slots + 6 ≤ R.slots) (hlocks : meth.locks = false)
    (hx : ∀ t : State, s.vm.Alike t.vm → H.size ≤ t.heap.size → (∀ q : Nat, q < H.size → t.heap[q]? = H[q]?) → XC cls s t)
    (hf : ∀ z ∈ locs, free z.base) (hc : cells + 1 ≤ mc) (hs : slots + 6 ≤ ms) :
    W p l e R s m args below meth c H locs cells slots (vx_MQ below Qc XC args s mc ms free) (F0 m pc ls rest) := by
  intro T hT X
  have htr : e.platform.stackTraces = false := (show e.platform.stackTraces = l.stackTraces by rw [X.admits.platform]).trans hl
  have Y := vx_rebase X (R' := { frames := R.frames, locals := R.locals, cells := 1, slots := 6 }) (Nat.le_refl _) (Nat.le_refl _) hRcells hRslots
  obtain ⟨s', hA⟩ : ∃ z, z = (T.setVm s.vm).setFrames (.invoking m args :: below) := ⟨_, rfl⟩
  rw [← hA] at Y
  have hvm : s'.vm = s.vm := by rw [hA]; rfl
  have hhp : s'.heap = H := by rw [hA]; exact hT
  have hW0 : s.WarmedH s'.vm := by rw [hvm]; exact State.WarmedH.refl s
  have hat' : ∀ w ∈ vx_atS own ic cls names, w.before args s' = true := fun w hw => vx_ot_at hW0 hvm.symm (hgood w (List.mem_cons_of_mem _ (List.mem_cons_of_mem _ hw))) (hat w hw)
  have hk' : (Cond.classLink own ik cls).before args s' = true := vx_ot_at hW0 hvm.symm (hgood _ List.mem_cons_self) hk
  have hini' : (Cond.initialized cls).before args s' = true := vx_ot_at hW0 hvm.symm (hgood _ (List.mem_cons_of_mem _ List.mem_cons_self)) hini
  have hU' : vx_Zq Bundle.tN "UNASSIGNED_STACK" Bundle.steD A s' s'.heap := by rw [hhp]; exact vx_Zq.moved hW0.alike (hU.kept hS.2.1)
  have hN' : vx_Zq Bundle.tN "SUPPRESSED_SENTINEL" Bundle.listD A s' s'.heap := by rw [hhp]; exact vx_Zq.moved hW0.alike (hN.kept hS.2.1)
  have h : ∀ w ∈ Bundle.ownAtoms own ic cls names, w.before args s' = true := vx_own hat' (vx_isRefq hU'.1) (vx_isRefq hN'.1) hU'.2.word hN'.2.word
  have hown' : s'.vm.findClass own = some m.cls := by rw [hvm]; exact hown
  have hins : (Cond.instantiable cls 6).before args s' = true := h _ (by simp [Bundle.ownAtoms])
  obtain ⟨vm₁, cX, kX, hfX, hkX, -, -, X₁, st1⟩ := Y.newCold hexec (own := own) (C := cls) (index := ik) (n := 6) hown' hk' hins hini'
    (g := F0 m pc ls rest) rfl (by rw [hb]; exact d0) (Nat.le_refl _) (Nat.le_refl _)
  generalize hT1 : (T.setVm vm₁).pushCell { cls := cX, slots := kX.instanceTypes.map defaultValue, vm := .none } = T1 at X₁ st1
  have hcat : (Value.ref T.heap.size).category = 1 := rfl
  have hcellA : T1.heap[T.heap.size]? = some (freshCell cX kX) := by rw [← hT1]; exact State.heap_pushCell_size _ _
  have d3' : decode c.code (pc + 3) = .ok (.dup, 1) := by rw [hb]; exact d3
  have d4' : decode c.code (pc + 4) = .ok (.ldc_w is, 3) := by rw [hb]; exact d4
  have hstr' : vk_R own is text sa s' := vk_R.warm hW0 hstr
  obtain ⟨U, hsteps, hrun, hend, hW, hsame, ce, hce, hO⟩ := X₁.ctorThrowS hexec htr (own := own) (cls := cls) (names := names) (ic := ic) hown' hcls hnames h (fun x hx => nomatch hx) hfX hkX hcellA (by rw [hhp, hT]; exact Nat.le_refl _) (msg := .ref sa) rfl
    (g := { method := m, pc := pc + 7, locals := ls, stack := .ref sa :: .ref T.heap.size :: .ref T.heap.size :: rest, locked := none }) rfl hsize rfl rfl (rest := rest) rfl
    (by rw [hb]; exact d7) (by rw [hb]; exact d10) hout hRframes (by simp only [List.map_cons, List.sum_cons, hcat]; omega) hlocks
  obtain ⟨f1, f2⟩ := vx_frame hsame
  rw [hhp] at f1 f2
  have hWs : s.WarmedH U.vm := State.WarmedH.trans hW0 hW
  have hcl : s.vm.findClass cls = some ce.cls := by
    have h9 := hO.cls
    rw [hvm] at h9
    exact h9
  have hall : s.sameButNew ({ U with vm := s.vm } : State) locs mc ms := by
    subst hA
    obtain ⟨e1, e2⟩ := hsame
    rw [State.setFrames_setFrames] at e1
    have h2 : (T.setVm s.vm).sameButNew ({ U with vm := s.vm } : State) [] (0 + 1) (0 + 6) := ⟨e1, e2⟩
    have h3 := X.same.trans h2
    rw [List.append_nil] at h3
    exact h3.mono hc hs
  refine ⟨U, ?_, .threw T.heap.size, hrun, hend, Or.inr ⟨T.heap.size, rfl, cls, ce, locs, hx U hWs.alike f1 (fun q hq => f2 q hq (fun z hz => nomatch hz)), hce, hO.vm, hcl, hWs, hall, hf⟩⟩
  refine st1 _ ?_
  show Steps p.tables e below (T1.setTop { method := m, pc := pc + 3, locals := ls, stack := .ref T.heap.size :: rest, locked := none }) _
  jvm_step X₁.here [X₁.here.top, hexec, d3', Value.category]
  exact X₁.ldcStringW hexec (own := own) (text := text) (index := is) (a := sa) hown' hstr'.1 hstr'.2
    (g := { method := m, pc := pc + 4, locals := ls, stack := .ref T.heap.size :: .ref T.heap.size :: rest, locked := none }) rfl d4' _ hsteps
end Ends
section Bodies
variable {l : Launch}
theorem vx_ofW {y : MethodName} {ws ws' : List Cond} {rm : Room} {Pc : Array Value → State → Prop} {Qc : Array Value → State → Outcome → State → Prop} {XC : String → State → State → Prop} {mc ms : Nat} {free : Addr → Prop} {cc : ByteArray} {maxL : Nat} {ret : Option FieldType}
    (hy : plainName y.cls = true) (hw : ws = Cond.code y cc maxL ret :: ws')
    (body : ∀ p e s m args below meth c s₁, BodyLoose p l y (headSpec ws rm) cc maxL ret e s m args below meth c s₁ → c.maxLocals = maxL → (∀ x ∈ c.exceptionTable.toList, False) → Pc args s →
      W p l e (headSpec ws rm).room s m args below meth c s.heap [] 0 0 (vx_MQ below Qc XC args s mc ms free) (entryFrame m args maxL)) : vx_Met l y ws rm Pc Qc XC mc ms free := by
  refine MetFree.of_bodyS (code := cc) (maxLocals := maxL) (ret := ret) hy ?_ ?_
  · intro args s m h hn
    obtain ⟨meth, c, h1, h2, h3, h4, h5, h6, -, -⟩ := Cond.code_spec hn (atoms_spec (ws := ws) h _ (by rw [hw]; exact List.mem_cons_self))
    exact ⟨meth, c, h1, h2, h3, h4, h5, h6⟩
  · intro p e s m args below meth c s₁ B hml hP _
    have hh0 : s₁.heap = s.heap := by rw [B.state]; rfl
    have ht : ∀ x ∈ c.exceptionTable.toList, False := by
      obtain ⟨meth9, c9, h1, h2, -, -, -, -, h7, -⟩ := Cond.code_spec B.named (atoms_spec (ws := ws) B.pre _ (by rw [hw]; exact List.mem_cons_self))
      cases Option.some.inj (h1.symm.trans B.method)
      cases Option.some.inj (h2.symm.trans (Stand.of_body B).code)
      intro x hx
      rw [Array.isEmpty_iff.mp h7] at hx
      cases hx
    obtain ⟨t, a1, o, b1, b2, b3⟩ := body p e s m args below meth c s₁ B hml ht hP s₁ hh0 (Stand.of_body B)
    exact ⟨t, o, a1, b1, b2, b3⟩
/-- the table of a body with handlers -/
theorem vx_table {p : Program} {x y : MethodName} {S : Spec} {cc bytes : ByteArray} {maxL maxL' : Nat} {ret ret' : Option FieldType} {e : Env} {s s₁ : State} {m : MethodId} {args : Array Value} {below : List Frame} {meth : Method} {c : Code} {hh : List (Nat × Nat × Nat × Nat)}
    (B : BodyLoose p l y S cc maxL ret e s m args below meth c s₁) (h : (Cond.codeWith y bytes maxL' ret' hh).before args s = true) : c.exceptionTable.toList = tableOf hh := by
  obtain ⟨m9, meth9, c9, hn9, h1, h2, -, -, h6, -⟩ := Cond.codeWith_spec h
  cases Option.some.inj (hn9.symm.trans B.named)
  cases Option.some.inj (h1.symm.trans B.method)
  cases Option.some.inj (h2.symm.trans (Stand.of_body B).code)
  rw [← h6, table_eq]
end Bodies
end VXA
/-! ===== END ===== -/
/-! ===== BEGIN a static call of a method with an exception table ===== -/
section VXS
variable {p : Program} {l : Launch} {e : Env} {R : Room} {s : State} {m : MethodId} {args : Array Value} {below : List Frame} {meth : Method} {c : Code} {T : State} {H : Heap} {locs : List Loc} {cells slots : Nat}
abbrev vx_CSW (R : Room) (s : State) (args : Array Value) (own : String) (index : Nat) (y : MethodName) (bytes : ByteArray) (maxL : Nat) (ret : Option FieldType) (hh : List (Nat × Nat × Nat × Nat)) (ws : List Cond) (rm : Room) (mc ms n : Nat) : Prop :=
  (rm.cells = mc ∧ rm.slots = ms ∧ rm.frames + 1 ≤ R.frames ∧ 8 + (maxL + 11) + rm.locals ≤ R.locals ∧ (∀ w ∈ ws, ∀ (a' : Array Value) (U : State), s.WarmedH U.vm → w.before a' U = true) ∧ Cond.codeWith y bytes maxL ret hh ∈ ws) ∧
  (Cond.codeWith y bytes maxL ret hh).before args s = true ∧ (Cond.initialized y.cls).before args s = true ∧ (y.cls ≠ "java/lang/invoke/MethodHandle" ∧ y.cls ≠ "java/lang/invoke/VarHandle") ∧
  (∀ sig, parseMethodDescriptor y.desc = some sig → n = sig.parameters.length) ∧ (Cond.methodLink own index y).before args s = true ∧ (Cond.static y).before args s = true
theorem vx_cwSW {own : String} {index maxL mc ms : Nat} {y : MethodName} {bytes : ByteArray} {ret : Option FieldType} {hh : List (Nat × Nat × Nat × Nat)} {Ts ws ws' : List Cond} {rm : Room} (n : Nat) (ht : ∀ w ∈ Ts, w.before args s = true) (hT : GoodIn Ts (va_wsS own index y ws)) (hw : ws = Cond.codeWith y bytes maxL ret hh :: ws') (hrc : rm.cells = mc) (hrs : rm.slots = ms)
    (hd : y.cls ≠ "java/lang/invoke/MethodHandle" ∧ y.cls ≠ "java/lang/invoke/VarHandle" ∧ (parseMethodDescriptor y.desc).map (fun d => d.parameters.length) = some n) (hR : rm.frames + 1 ≤ R.frames ∧ 8 + (maxL + 11) + rm.locals ≤ R.locals) :
    vx_CSW R s args own index y bytes maxL ret hh ws rm mc ms n := by
  have ok : ∀ w ∈ va_wsS own index y ws, w.before args s = true := fun w h => ht w (hT w h).1
  have hG : GoodIn Ts ws := fun w h => hT w (by unfold va_wsS; exact List.mem_append_right _ h)
  have hc : Cond.codeWith y bytes maxL ret hh ∈ ws := by rw [hw]; exact List.mem_cons_self
  refine ⟨⟨hrc, hrs, hR.1, hR.2, pay_in ht hG, hc⟩, ht _ (hG _ hc).1, ok _ (by simp [va_wsS]), ⟨hd.1, hd.2.1⟩, fun sig h => ?_, ok _ (by simp [va_wsS]), ok _ (by simp [va_wsS])⟩
  have h2 := hd.2.2
  rw [h] at h2
  exact (Option.some.inj h2).symm
theorem vx_callSW (X : Stand p l e R s m args below meth c T locs cells slots) (hexec : p.tables.exec = Jvm.exec) {own : String} {index : Nat} {y : MethodName} {bytes : ByteArray} {maxL : Nat} {ret : Option FieldType} {hh : List (Nat × Nat × Nat × Nat)}
    (hown : s.vm.findClass own = some m.cls) (hlink : (Cond.methodLink own index y).before args s = true) (hstat : (Cond.static y).before args s = true) (hinit : (Cond.initialized y.cls).before args s = true)
    (hcode : (Cond.codeWith y bytes maxL ret hh).before args s = true) (hy : y.cls ≠ "java/lang/invoke/MethodHandle" ∧ y.cls ≠ "java/lang/invoke/VarHandle")
    {W9 : Nat} {Pre : Pt → Array Value → Prop} {Post : Pt → Array Value → Option Value → Pt → Prop} (hK : Back l R p e below s args y 3 W9 Pre Post)
    {g : JFrame} (hg : g.method = m) (hsize : g.locals.size = c.maxLocals) {argsL rest : List Value} (hlen : ∀ sig, parseMethodDescriptor y.desc = some sig → argsL.length = sig.parameters.length)
    (hstack : g.stack = argsL.reverse ++ rest) (hW : 2 * g.monitorRoom + (rest.map fun v => v.category).sum ≤ W9) (hdg : decode c.code g.pc = .ok (.invokestatic index, 3))
    (hpre : ∀ vm₁, s.WarmedH vm₁ → Pre ⟨T.setVm vm₁, locs, cells, slots⟩ argsL.toArray) :
    ∃ (v : Option Value) (vm₁ : Vm) (B : Pt), s.WarmedH vm₁ ∧ Stand p l e R s m args below meth c B.U B.locs B.cells B.slots ∧ Post ⟨T.setVm vm₁, locs, cells, slots⟩ argsL.toArray v B ∧
      ∀ target, Steps p.tables e below (B.U.setTop { g with pc := g.pc + 3, stack := v.toList ++ rest }) target → Steps p.tables e below (T.setTop g) target := by
  obtain ⟨mk, methM, cM, hnamed, hmethM, -, -, -, -, -, -, hsigM⟩ := Cond.codeWith_spec hcode
  have hstatic : methM.isStatic = true := Cond.static_spec hnamed hmethM hstat
  obtain ⟨kP, hkP, -⟩ := className_of_methodNamed hnamed
  have hinitP : kP.init = .initialized := Cond.initialized_spec (findClass_of_methodNamed hnamed) hkP hinit
  obtain ⟨vm₁, X₁, hstep₁⟩ := X.invokestatic hexec hown hlink hnamed hmethM hstatic hkP hinitP hy (g := g) hg (argsL := argsL) (rest := rest) (hlen _ hsigM) hstack hdg
  obtain ⟨v, B, X', hpost, hsteps⟩ := hK m meth c ⟨T.setVm vm₁, locs, cells, slots⟩ { g with stack := rest } (.invokestatic index) mk argsL.toArray X₁ hg hsize hdg hW (X₁.named hnamed) (hpre vm₁ X₁.warmed)
  exact ⟨v, vm₁, B, X₁.warmed, X', hpost, fun target h => hstep₁ _ fun acts => by rw [doInvoke_state]; exact hsteps.trans h⟩
theorem vx_runSW {y : MethodName} {bytes cc : ByteArray} {maxL nL mc ms n index : Nat} {ret : Option FieldType} {hh : List (Nat × Nat × Nat × Nat)} {ws : List Cond} {rm : Room} {Pc : Array Value → State → Prop} {Qc : Array Value → State → Outcome → State → Prop} {free : Addr → Prop} {Ts : List Cond} {own : String} {As rest : List Value} {g : JFrame}
    (S : CallFix p m c cc nL s args Ts own) (hM : Met l y ws rm Pc Qc mc ms free) (cw : vx_CSW R s args own index y bytes maxL ret hh ws rm mc ms n) (hp : PreS s H Pc As)
    (hg : g.method = m) (hn : As.length = n) (hsize : g.locals.size = nL) (hstack : g.stack = As.reverse ++ rest) (hW : 2 * g.monitorRoom + (rest.map fun v => v.category).sum ≤ 8) (hdg : decode cc g.pc = .ok (.invokestatic index, 3)) (hf : cells + mc ≤ R.cells ∧ slots + ms ≤ R.slots) :
    va_Run p l e R s m args below meth c H locs cells slots mc ms g rest (Qc As.toArray) (free) := by
  obtain ⟨⟨hrc, hrs, hfr, hlo, hws, hcw⟩, hcode, hini, hy, hlen, hl, hstt⟩ := cw
  have hK : Back l R p e below s args y 3 8 (PreOf R mc ms Pc) (PostOf Qc mc ms free) := va_backW (hh := hh) (bytes := bytes) (maxL := maxL) (ret := ret) hM hp.1 hrc hrs hfr hlo hws hcw (fun a' U hW => word_at hW (Or.inl (by first | rfl | simp [Cond.onTables, Cond.keeps, Cond.steady])) hini)
  obtain ⟨hx, hb, hml, ho, -⟩ := S
  intro T hT X
  obtain ⟨v, vm₁, ⟨U', l2, c2, s2⟩, hW₁, X', ⟨g', mk, t, L, e1, e2, hq, h1, hL, h2, h3⟩, st⟩ := vx_callSW X hx (hh := hh) (bytes := bytes) (maxL := maxL) (ret := ret) ho hl hstt hini hcode hy hK hg (hsize.trans hml.symm) (argsL := As) (rest := rest) (fun sig h => hn.trans (hlen sig h)) hstack hW (by rw [hb]; exact hdg)
    (fun vm₁ hW₁ => ⟨hf.1, hf.2, hp.2 (T.setVm vm₁) hT hW₁⟩)
  dsimp only [Pt.U, Pt.locs, Pt.cells, Pt.slots] at X' e1 e2 h1 h2 h3 st
  subst h1; subst h2; subst h3
  exact ⟨v, (T.setVm vm₁).calling g' mk As.toArray, t, U', L, hT, X', hL, e1, e2, hq, st⟩
/-- not caught here, past rows that name other classes: it goes on to the caller -/
theorem vx_outP {p : Program} {l : Launch} {e : Env} {R : Room} {s : State} {m : MethodId} {args : Array Value} {below : List Frame} {meth : Method} {c : Code} {H : Heap} {locs : List Loc} {cells slots : Nat} {free : Addr → Prop} {ls : Array Slot} {rest : List Value} {Qc : Array Value → State → Outcome → State → Prop} {XC : String → State → State → Prop}
    {pc : Nat} {own E : String} {ce : Cell} {q : Addr} {mc ms : Nat} (hown : s.vm.findClass own = some m.cls) (hlocks : meth.locks = false)
    (hpass : ∀ z ∈ c.exceptionTable.toList, covers z pc = false ∨ (z.catchType ≠ 0 ∧ ∃ nm : String, (Cond.classLink own z.catchType nm).before args s = true ∧ va_Nc E nm s)) (hcell : H[q]? = some ce) (hv : ce.vm = .none) (hcl : s.vm.findClass E = some ce.cls)
    (hx : ∀ t : State, t.heap = H → s.vm.Alike t.vm → XC E s t) (hf : ∀ z ∈ locs, free z.base) (hc : cells ≤ mc) (hs : slots ≤ ms) :
    vx_W p l e R s m args below meth c H locs cells slots (vx_MQ below Qc XC args s mc ms free) (F0 m pc ls rest) q := by
  intro T hT X
  have hpl : e.platform.magicAccessors = ({} : Platform).magicAccessors := by rw [X.admits.platform]
  obtain ⟨vm', hW', X', st⟩ := X.outThrough hlocks q (g := F0 m pc ls rest) rfl rfl rfl (cell := ce) (by rw [hT]; exact hcell) (by rw [hv]; rfl)
    (by obtain ⟨k9, h9, -⟩ := Vm.findClass_spec hcl; exact ⟨k9, h9⟩) (fun z hz => by
      rcases hpass z hz with h | ⟨hz0, nm, hl1, hn1⟩
      · exact Or.inl h
      · obtain ⟨c6, hc6, hcl6⟩ := Cond.classLink_spec hown hl1 e.platform hpl
        obtain ⟨a8, b8, h1, h2, h3⟩ := hn1
        cases Option.some.inj (h1.symm.trans hcl)
        cases Option.some.inj (h2.symm.trans hc6)
        exact Or.inr ⟨hz0, _, hcl6, h3⟩)
  obtain ⟨g₀, hfr⟩ := X'.frames_eq
  have hcell9 : ((T.setVm vm').setFrames (.throwing q :: below)).heap[q]? = some ce := by
    show T.heap[q]? = some ce
    rw [hT]; exact hcell
  have hend : Ended ((T.setVm vm').setFrames (.throwing q :: below)) below (.threw q) := State.frames_setFrames _ (State.cur_lt_of_frames hfr)
  refine ⟨(T.setVm vm').setFrames (.throwing q :: below), ?_, .threw q, X'.here.running, hend, Or.inr ⟨q, rfl, E, ce, locs, hx _ hT (X'.ends _).1.alike, hcell9, hv, hcl, (X'.ends _).1, (X'.ends _).2.mono hc hs, hf⟩⟩
  rw [X.pushThrowing_eq]
  exact st
/-- a thing of a world lies in the heap -/
theorem vx_lt {D : va_G} {cl : List vw_C} {ws : va_W} {H1 : Heap} (h : va_P D cl ws H1) {k : Nat} {q : Nat × va_E} (hk : ws[k]? = some q) : q.1 < H1.size := (h k q hk).lt
end VXS
/-! ===== END ===== -/
/-! ===== BEGIN methods with a table of their own: called by a name, returning or throwing ===== -/
section VXH
/-! vx_backW, vx_callVX, vx_callSX, vx_callVW, vx_runVW, vx_runVX, vx_runSX, vx_ofWH follow the same proofs as their sisters above (Free/Laws.lean, Shelf42/LK1.lean); vx_outP calls Shelf42/NT130.lean (outThrough). -/
section
variable {l : Launch} {R : Room} {p : Program} {e : Env} {below : List Frame} {s : State} {sargs : Array Value} {y : MethodName} {len W9 : Nat}
theorem vx_backW {ws : List Cond} {rm : Room} {Pc : Array Value → State → Prop} {Qc : Array Value → State → Outcome → State → Prop} {XC : String → State → State → Prop} {mc ms : Nat} {free : Addr → Prop} {bytes : ByteArray} {maxL : Nat} {ret : Option FieldType} {hh : List (Nat × Nat × Nat × Nat)}
    (hM : vx_Met l y ws rm Pc Qc XC mc ms free) (hblind : FrameBlind Pc) (hrc : rm.cells = mc) (hrs : rm.slots = ms)
    (hframes : rm.frames + 1 ≤ R.frames) (hlocals : W9 + (maxL + 11) + rm.locals ≤ R.locals)
    (hws : ∀ w ∈ ws, ∀ a' U, s.WarmedH U.vm → w.before a' U = true) (hcode : Cond.codeWith y bytes maxL ret hh ∈ ws) (hinit : ∀ a' U, s.WarmedH U.vm → (Cond.initialized y.cls).before a' U = true) :
    vx_Back l R p e below s sargs y len W9 (PreOf R mc ms Pc) (PostOf Qc mc ms free) (vx_Post XC mc ms free) := by
  intro m meth c A g ig mk a X hg hsize hdg hW hn hp
  have h1 : (headSpec ws rm).pre.before a A.U = true := atoms_intro fun w hw => hws w hw _ _ X.warmed
  have h2 : (Cond.codeWith y bytes maxL ret hh).before a A.U = true := hws _ hcode _ _ X.warmed
  have h3 : (Cond.initialized y.cls).before a A.U = true := hinit _ _ X.warmed
  have h4 : A.cells + (headSpec ws rm).room.cells ≤ R.cells := by rw [show (headSpec ws rm).room.cells = mc from hrc]; exact hp.1
  have h5 : A.slots + (headSpec ws rm).room.slots ≤ R.slots := by rw [show (headSpec ws rm).room.slots = ms from hrs]; exact hp.2.1
  have hPc : Pc a (A.U.calling g mk a) := hblind _ _ _ _ hp.2.2
  obtain ⟨U, Ls, c0, s0⟩ := A
  dsimp only [Pt.U, Pt.locs, Pt.cells, Pt.slots] at h1 h2 h3 h4 h5 X hn hPc ⊢
  obtain ⟨m9, methY, cY, hn9, hmY, hcY, -, hlY, -⟩ := Cond.codeWith_spec h2
  cases Option.some.inj (hn9.symm.trans hn)
  obtain ⟨kY, hkY, -⟩ := className_of_methodNamed hn
  have hinitY : kY.init = .initialized := Cond.initialized_spec (findClass_of_methodNamed hn) hkY h3
  have h : At U g.method c below := by rw [hg]; exact X.here
  have hlocals9 : W9 + (maxL + 11) + (headSpec ws rm).room.locals ≤ R.locals := hlocals
  have happ : (headSpec ws rm).appliesLoose y e.platform (U.calling g mk a) = true :=
    Spec.appliesLoose_calling (g := g) h hdg hn hkY hinitY
      (X.room_calling (g := g) (R' := (headSpec ws rm).room) hsize hmY hcY hframes (by rw [hlY]; omega) h4 h5) h1
  obtain ⟨mid, hmid⟩ := h.above
  have hfr : (U.setTop g).frames = (.java g :: mid) ++ below := by rw [State.frames_setTop' g h.top, hmid]; rfl
  obtain ⟨o, s₂, hsteps, -, hend, hq⟩ := Steps.callFree hM p X.admits X.cas X.clock (acts := []) hfr happ hPc trivial
  have hq' : vx_Q Qc XC mc ms free a (U.calling g mk a) o s₂ := hq
  rw [State.frames_setTop' g h.top] at hend
  obtain ⟨g₀, hg0⟩ := Option.isSome_iff_exists.mp h.top
  obtain ⟨r, hr⟩ := State.topJava?_eq_some.mp hg0
  have hr' : (({ U with heap := s₂.heap, slotsUsed := s₂.slotsUsed } : State).setVm s₂.vm).frames = .java g₀ :: r := hr
  rcases hq' with ⟨hqc, L, hfe, hL⟩ | ⟨q, rfl, E, ce, L, hx, hce, hcv, hcl, hW₂, hsm, hL⟩
  · obtain ⟨⟨v, rfl⟩, hW₂, e2, q2, q3, q4, q5, q6⟩ := id hfe
    have e3 : s₂ = ({ (U.calling g mk a).setFrames s₂.frames with heap := s₂.heap, slotsUsed := s₂.slotsUsed } : State).setVm s₂.vm := by
      have : s₂ = ({ s₂ with vm := (U.calling g mk a).vm } : State).setVm s₂.vm := rfl
      rw [e2] at this
      exact this
    obtain ⟨c₂, i₂, len₂, hc₂, hd₂, hf₂⟩ := hend
    have hW' : U.WarmedH s₂.vm := hW₂
    have hcc : c₂ = c := by
      have h1 : s₂.code? g.method = U.code? g.method := by
        rw [State.code?_eq, State.code?_eq, hW'.alike.method?]
      exact Option.some.inj (hc₂.symm.trans (h1.trans h.code))
    subst hcc
    have hlen : len₂ = len := by rw [hdg] at hd₂; cases hd₂; rfl
    subst hlen
    have hs₂ : s₂ = (({ U with heap := s₂.heap, slotsUsed := s₂.slotsUsed } : State).setVm s₂.vm).setTop { g with pc := g.pc + len₂, stack := v.toList ++ g.stack } := by
      refine e3.trans ?_
      rw [hf₂, State.calling_eq h.top, State.setFrames_setFrames, State.setTop_of_frames _ hr', hr]
      rfl
    have hsame : U.sameButNew ({ U with heap := s₂.heap, slotsUsed := s₂.slotsUsed } : State) L mc ms := by
      refine ⟨?_, q2, q3, q4, q5, q6⟩
      obtain ⟨t, ht, -⟩ := State.frames_cons hr
      show ({ U with heap := s₂.heap, slotsUsed := s₂.slotsUsed } : State) = { U.setFrames U.frames with heap := s₂.heap, slotsUsed := s₂.slotsUsed }
      rw [State.setFrames_self ht]
    subst hg
    refine Or.inl ⟨v, ⟨(({ U with heap := s₂.heap, slotsUsed := s₂.slotsUsed } : State).setVm s₂.vm), Ls ++ L, c0 + mc, s0 + ms⟩,
      ⟨X.admits, X.cas, X.clock, X.frames, X.room, X.hears, X.method, X.code, (X.here.setHeapUsed s₂.heap s₂.slotsUsed).setVm hW'.alike, X.tail, State.WarmedH.trans X.warmed hW', X.limits, X.bytes, X.same.trans (hsame.setVm s.vm)⟩,
      ⟨g, mk, s₂, L, rfl, rfl, hqc, rfl, hL, rfl, rfl⟩, ?_⟩
    show Steps p.tables e below _ ((({ U with heap := s₂.heap, slotsUsed := s₂.slotsUsed } : State).setVm s₂.vm).setTop { g with pc := g.pc + len₂, stack := v.toList ++ g.stack })
    rw [← hs₂]
    exact hsteps
  · obtain ⟨e2, q2, q3, q4, q5, q6⟩ := id hsm
    have e3 : s₂ = ({ (U.calling g mk a).setFrames s₂.frames with heap := s₂.heap, slotsUsed := s₂.slotsUsed } : State).setVm s₂.vm := by
      have : s₂ = ({ s₂ with vm := (U.calling g mk a).vm } : State).setVm s₂.vm := rfl
      rw [e2] at this
      exact this
    have hf₂ : s₂.frames = .throwing q :: .java g :: U.frames.tail := hend
    have hW' : U.WarmedH s₂.vm := hW₂
    have hs₂ : s₂ = ((({ U with heap := s₂.heap, slotsUsed := s₂.slotsUsed } : State).setVm s₂.vm).setTop g).pushFrame (.throwing q) := by
      refine e3.trans ?_
      rw [hf₂, State.calling_eq h.top, State.setFrames_setFrames, State.pushFrame, State.frames_setTop _ hr', State.setTop_of_frames _ hr', State.setFrames_setFrames, hr]
      rfl
    have hsame : U.sameButNew ({ U with heap := s₂.heap, slotsUsed := s₂.slotsUsed } : State) L mc ms := by
      refine ⟨?_, q2, q3, q4, q5, q6⟩
      obtain ⟨t, ht, -⟩ := State.frames_cons hr
      show ({ U with heap := s₂.heap, slotsUsed := s₂.slotsUsed } : State) = { U.setFrames U.frames with heap := s₂.heap, slotsUsed := s₂.slotsUsed }
      rw [State.setFrames_self ht]
    subst hg
    refine Or.inr ⟨q, ⟨(({ U with heap := s₂.heap, slotsUsed := s₂.slotsUsed } : State).setVm s₂.vm), Ls ++ L, c0 + mc, s0 + ms⟩,
      ⟨X.admits, X.cas, X.clock, X.frames, X.room, X.hears, X.method, X.code, (X.here.setHeapUsed s₂.heap s₂.slotsUsed).setVm hW'.alike, X.tail, State.WarmedH.trans X.warmed hW', X.limits, X.bytes, X.same.trans (hsame.setVm s.vm)⟩,
      ⟨g, mk, s₂, L, E, ce, rfl, rfl, hx, hce, hcv, hcl, rfl, hL, rfl, rfl⟩, ?_⟩
    show Steps p.tables e below _ (((({ U with heap := s₂.heap, slotsUsed := s₂.slotsUsed } : State).setVm s₂.vm).setTop g).pushFrame (.throwing q))
    rw [← hs₂]
    exact hsteps
end
variable {p : Program} {l : Launch} {e : Env} {R : Room} {s : State} {m : MethodId} {args : Array Value} {below : List Frame} {meth : Method} {c : Code} {T : State} {H : Heap} {locs : List Loc} {cells slots : Nat}
theorem vx_callVX (X : Stand p l e R s m args below meth c T locs cells slots) (hexec : p.tables.exec = Jvm.exec) {own C : String} {index : Nat} {y : MethodName} {bytes : ByteArray} {maxL : Nat} {ret : Option FieldType} {hh : List (Nat × Nat × Nat × Nat)}
    (hown : s.vm.findClass own = some m.cls) (hlink : (Cond.methodLink own index y).before args s = true) (hinst : (Cond.instanceMethod y).before args s = true) (hsel : (Cond.selects C y y).before args s = true)
    (hcode : (Cond.codeWith y bytes maxL ret hh).before args s = true) (hy : y.cls ≠ "java/lang/invoke/MethodHandle" ∧ y.cls ≠ "java/lang/invoke/VarHandle")
    {W9 : Nat} {Pre : Pt → Array Value → Prop} {Post : Pt → Array Value → Option Value → Pt → Prop} {PostX : Pt → Array Value → Addr → Pt → Prop} (hK : vx_Back l R p e below s args y 3 W9 Pre Post PostX)
    {b : Addr} {cellB : Cell} (hcell : T.heap[b]? = some cellB) (hobj : cellB.vm.isStatics = false) (hcls : s.vm.findClass C = some cellB.cls)
    {g : JFrame} (hg : g.method = m) (hsize : g.locals.size = c.maxLocals) {argsL rest : List Value} (hlen : ∀ sig, parseMethodDescriptor y.desc = some sig → argsL.length = sig.parameters.length)
    (hstack : g.stack = argsL.reverse ++ .ref b :: rest) (hW : 2 * g.monitorRoom + (rest.map fun v => v.category).sum ≤ W9) (hdg : decode c.code g.pc = .ok (.invokevirtual index, 3))
    (hpre : ∀ vm₁, s.WarmedH vm₁ → Pre ⟨T.setVm vm₁, locs, cells, slots⟩ (Value.ref b :: argsL).toArray) :
    (∃ (v : Option Value) (vm₁ : Vm) (B : Pt), s.WarmedH vm₁ ∧ Stand p l e R s m args below meth c B.U B.locs B.cells B.slots ∧ Post ⟨T.setVm vm₁, locs, cells, slots⟩ (Value.ref b :: argsL).toArray v B ∧
      ∀ target, Steps p.tables e below (B.U.setTop { g with pc := g.pc + 3, stack := v.toList ++ rest }) target → Steps p.tables e below (T.setTop g) target) ∨
    (∃ (q : Addr) (vm₁ : Vm) (B : Pt), s.WarmedH vm₁ ∧ Stand p l e R s m args below meth c B.U B.locs B.cells B.slots ∧ PostX ⟨T.setVm vm₁, locs, cells, slots⟩ (Value.ref b :: argsL).toArray q B ∧
      Steps p.tables e below (T.setTop g) ((B.U.setTop { g with stack := rest }).pushFrame (.throwing q))) := by
  obtain ⟨mk, methM, hnamed, hmethM, hstM, habM⟩ := Cond.instanceMethod_spec hinst
  obtain ⟨m8, methM', cM, hn8, hmethM', -, -, -, -, -, -, hsigM⟩ := Cond.codeWith_spec hcode
  cases Option.some.inj (hn8.symm.trans hnamed)
  cases hmethM.symm.trans hmethM'
  obtain ⟨c2, r2, m2, q1, q2, q3, q4, kP, hkP, hkPi⟩ := Cond.selects_spec hsel
  cases hcls.symm.trans q1
  cases (State.methodFound?_of_named hnamed hy).symm.trans q2
  cases hnamed.symm.trans q3
  have hselP : selectMethod e.platform s.vm cellB.cls mk = .method mk := by rw [Launch.admits_selectMethod X.admits]; exact q4
  obtain ⟨vm₁, X₁, hstep₁⟩ := X.invokevirtual hexec hown hlink hnamed hmethM hstM hkP hkPi hy (a := b) (cell := cellB) hcell
    (fun z h => by rw [h] at hobj; cases hobj) hselP hmethM habM hkP hkPi (g := g) hg (argsL := argsL) (rest := rest) (hlen _ hsigM) hstack hdg
  rcases hK m meth c ⟨T.setVm vm₁, locs, cells, slots⟩ { g with stack := rest } (.invokevirtual index) mk (Value.ref b :: argsL).toArray X₁ hg hsize hdg hW (X₁.named hnamed) (hpre vm₁ X₁.warmed) with ⟨v, B, X', hpost, hsteps⟩ | ⟨q, B, X', hpost, hsteps⟩
  · exact Or.inl ⟨v, vm₁, B, X₁.warmed, X', hpost, fun target h => hstep₁ _ fun acts => by rw [doInvoke_state]; exact hsteps.trans h⟩
  · exact Or.inr ⟨q, vm₁, B, X₁.warmed, X', hpost, hstep₁ _ fun acts => by rw [doInvoke_state]; exact hsteps⟩
theorem vx_callSX (X : Stand p l e R s m args below meth c T locs cells slots) (hexec : p.tables.exec = Jvm.exec) {own : String} {index : Nat} {y : MethodName} {bytes : ByteArray} {maxL : Nat} {ret : Option FieldType} {hh : List (Nat × Nat × Nat × Nat)}
    (hown : s.vm.findClass own = some m.cls) (hlink : (Cond.methodLink own index y).before args s = true) (hstat : (Cond.static y).before args s = true) (hinit : (Cond.initialized y.cls).before args s = true)
    (hcode : (Cond.codeWith y bytes maxL ret hh).before args s = true) (hy : y.cls ≠ "java/lang/invoke/MethodHandle" ∧ y.cls ≠ "java/lang/invoke/VarHandle")
    {W9 : Nat} {Pre : Pt → Array Value → Prop} {Post : Pt → Array Value → Option Value → Pt → Prop} {PostX : Pt → Array Value → Addr → Pt → Prop} (hK : vx_Back l R p e below s args y 3 W9 Pre Post PostX)
    {g : JFrame} (hg : g.method = m) (hsize : g.locals.size = c.maxLocals) {argsL rest : List Value} (hlen : ∀ sig, parseMethodDescriptor y.desc = some sig → argsL.length = sig.parameters.length)
    (hstack : g.stack = argsL.reverse ++ rest) (hW : 2 * g.monitorRoom + (rest.map fun v => v.category).sum ≤ W9) (hdg : decode c.code g.pc = .ok (.invokestatic index, 3))
    (hpre : ∀ vm₁, s.WarmedH vm₁ → Pre ⟨T.setVm vm₁, locs, cells, slots⟩ argsL.toArray) :
    (∃ (v : Option Value) (vm₁ : Vm) (B : Pt), s.WarmedH vm₁ ∧ Stand p l e R s m args below meth c B.U B.locs B.cells B.slots ∧ Post ⟨T.setVm vm₁, locs, cells, slots⟩ argsL.toArray v B ∧
      ∀ target, Steps p.tables e below (B.U.setTop { g with pc := g.pc + 3, stack := v.toList ++ rest }) target → Steps p.tables e below (T.setTop g) target) ∨
    (∃ (q : Addr) (vm₁ : Vm) (B : Pt), s.WarmedH vm₁ ∧ Stand p l e R s m args below meth c B.U B.locs B.cells B.slots ∧ PostX ⟨T.setVm vm₁, locs, cells, slots⟩ argsL.toArray q B ∧
      Steps p.tables e below (T.setTop g) ((B.U.setTop { g with stack := rest }).pushFrame (.throwing q))) := by
  obtain ⟨mk, methM, cM, hnamed, hmethM, -, -, -, -, -, -, hsigM⟩ := Cond.codeWith_spec hcode
  have hstatic : methM.isStatic = true := Cond.static_spec hnamed hmethM hstat
  obtain ⟨kP, hkP, -⟩ := className_of_methodNamed hnamed
  have hinitP : kP.init = .initialized := Cond.initialized_spec (findClass_of_methodNamed hnamed) hkP hinit
  obtain ⟨vm₁, X₁, hstep₁⟩ := X.invokestatic hexec hown hlink hnamed hmethM hstatic hkP hinitP hy (g := g) hg (argsL := argsL) (rest := rest) (hlen _ hsigM) hstack hdg
  rcases hK m meth c ⟨T.setVm vm₁, locs, cells, slots⟩ { g with stack := rest } (.invokestatic index) mk argsL.toArray X₁ hg hsize hdg hW (X₁.named hnamed) (hpre vm₁ X₁.warmed) with ⟨v, B, X', hpost, hsteps⟩ | ⟨q, B, X', hpost, hsteps⟩
  · exact Or.inl ⟨v, vm₁, B, X₁.warmed, X', hpost, fun target h => hstep₁ _ fun acts => by rw [doInvoke_state]; exact hsteps.trans h⟩
  · exact Or.inr ⟨q, vm₁, B, X₁.warmed, X', hpost, hstep₁ _ fun acts => by rw [doInvoke_state]; exact hsteps⟩
theorem vx_callVW (X : Stand p l e R s m args below meth c T locs cells slots) (hexec : p.tables.exec = Jvm.exec) {own C : String} {index : Nat} {y : MethodName} {bytes : ByteArray} {maxL : Nat} {ret : Option FieldType} {hh : List (Nat × Nat × Nat × Nat)}
    (hown : s.vm.findClass own = some m.cls) (hlink : (Cond.methodLink own index y).before args s = true) (hinst : (Cond.instanceMethod y).before args s = true) (hsel : (Cond.selects C y y).before args s = true)
    (hcode : (Cond.codeWith y bytes maxL ret hh).before args s = true) (hy : y.cls ≠ "java/lang/invoke/MethodHandle" ∧ y.cls ≠ "java/lang/invoke/VarHandle")
    {W9 : Nat} {Pre : Pt → Array Value → Prop} {Post : Pt → Array Value → Option Value → Pt → Prop} (hK : Back l R p e below s args y 3 W9 Pre Post)
    {b : Addr} {cellB : Cell} (hcell : T.heap[b]? = some cellB) (hobj : cellB.vm.isStatics = false) (hcls : s.vm.findClass C = some cellB.cls)
    {g : JFrame} (hg : g.method = m) (hsize : g.locals.size = c.maxLocals) {argsL rest : List Value} (hlen : ∀ sig, parseMethodDescriptor y.desc = some sig → argsL.length = sig.parameters.length)
    (hstack : g.stack = argsL.reverse ++ .ref b :: rest) (hW : 2 * g.monitorRoom + (rest.map fun v => v.category).sum ≤ W9) (hdg : decode c.code g.pc = .ok (.invokevirtual index, 3))
    (hpre : ∀ vm₁, s.WarmedH vm₁ → Pre ⟨T.setVm vm₁, locs, cells, slots⟩ (Value.ref b :: argsL).toArray) :
    ∃ (v : Option Value) (vm₁ : Vm) (B : Pt), s.WarmedH vm₁ ∧ Stand p l e R s m args below meth c B.U B.locs B.cells B.slots ∧ Post ⟨T.setVm vm₁, locs, cells, slots⟩ (Value.ref b :: argsL).toArray v B ∧
      ∀ target, Steps p.tables e below (B.U.setTop { g with pc := g.pc + 3, stack := v.toList ++ rest }) target → Steps p.tables e below (T.setTop g) target := by
  obtain ⟨mk, methM, hnamed, hmethM, hstM, habM⟩ := Cond.instanceMethod_spec hinst
  obtain ⟨m8, methM', cM, hn8, hmethM', -, -, -, -, -, -, hsigM⟩ := Cond.codeWith_spec hcode
  cases Option.some.inj (hn8.symm.trans hnamed)
  cases hmethM.symm.trans hmethM'
  obtain ⟨c2, r2, m2, q1, q2, q3, q4, kP, hkP, hkPi⟩ := Cond.selects_spec hsel
  cases hcls.symm.trans q1
  cases (State.methodFound?_of_named hnamed hy).symm.trans q2
  cases hnamed.symm.trans q3
  have hselP : selectMethod e.platform s.vm cellB.cls mk = .method mk := by rw [Launch.admits_selectMethod X.admits]; exact q4
  obtain ⟨vm₁, X₁, hstep₁⟩ := X.invokevirtual hexec hown hlink hnamed hmethM hstM hkP hkPi hy (a := b) (cell := cellB) hcell
    (fun z h => by rw [h] at hobj; cases hobj) hselP hmethM habM hkP hkPi (g := g) hg (argsL := argsL) (rest := rest) (hlen _ hsigM) hstack hdg
  obtain ⟨v, B, X', hpost, hsteps⟩ := hK m meth c ⟨T.setVm vm₁, locs, cells, slots⟩ { g with stack := rest } (.invokevirtual index) mk (Value.ref b :: argsL).toArray X₁ hg hsize hdg hW (X₁.named hnamed) (hpre vm₁ X₁.warmed)
  exact ⟨v, vm₁, B, X₁.warmed, X', hpost, fun target h => hstep₁ _ fun acts => by rw [doInvoke_state]; exact hsteps.trans h⟩
abbrev vx_CVW (R : Room) (s : State) (args : Array Value) (own C : String) (index : Nat) (y : MethodName) (bytes : ByteArray) (maxL : Nat) (ret : Option FieldType) (hh : List (Nat × Nat × Nat × Nat)) (ws : List Cond) (rm : Room) (mc ms n : Nat) : Prop :=
  (rm.cells = mc ∧ rm.slots = ms ∧ rm.frames + 1 ≤ R.frames ∧ 8 + (maxL + 11) + rm.locals ≤ R.locals ∧ (∀ w ∈ ws, ∀ (a' : Array Value) (U : State), s.WarmedH U.vm → w.before a' U = true) ∧ Cond.codeWith y bytes maxL ret hh ∈ ws) ∧
  (Cond.codeWith y bytes maxL ret hh).before args s = true ∧ (Cond.initialized y.cls).before args s = true ∧ (y.cls ≠ "java/lang/invoke/MethodHandle" ∧ y.cls ≠ "java/lang/invoke/VarHandle") ∧
  (∀ sig, parseMethodDescriptor y.desc = some sig → n = sig.parameters.length) ∧ (Cond.methodLink own index y).before args s = true ∧ (Cond.instanceMethod y).before args s = true ∧ (Cond.selects C y y).before args s = true
theorem vx_cwVW {own C : String} {index maxL mc ms : Nat} {y : MethodName} {bytes : ByteArray} {ret : Option FieldType} {hh : List (Nat × Nat × Nat × Nat)} {Ts ws ws' : List Cond} {rm : Room} (n : Nat) (ht : ∀ w ∈ Ts, w.before args s = true) (hT : GoodIn Ts (wsV own index C y ws)) (hw : ws = Cond.codeWith y bytes maxL ret hh :: ws') (hrc : rm.cells = mc) (hrs : rm.slots = ms)
    (hd : y.cls = C ∧ y.cls ≠ "java/lang/invoke/MethodHandle" ∧ y.cls ≠ "java/lang/invoke/VarHandle" ∧ (parseMethodDescriptor y.desc).map (fun d => d.parameters.length) = some n) (hR : rm.frames + 1 ≤ R.frames ∧ 8 + (maxL + 11) + rm.locals ≤ R.locals) :
    vx_CVW R s args own C index y bytes maxL ret hh ws rm mc ms n := by
  obtain ⟨hC, hd⟩ := hd
  subst hC
  have ok : ∀ w ∈ wsV own index y.cls y ws, w.before args s = true := fun w h => ht w (hT w h).1
  have hG : GoodIn Ts ws := fun w h => hT w (by unfold wsV; exact List.mem_append_right _ h)
  have hc : Cond.codeWith y bytes maxL ret hh ∈ ws := by rw [hw]; exact List.mem_cons_self
  refine ⟨⟨hrc, hrs, hR.1, hR.2, pay_in ht hG, hc⟩, ht _ (hG _ hc).1, ok _ (by simp [wsV]), ⟨hd.1, hd.2.1⟩, fun sig h => ?_, ok _ (by simp [wsV]), ok _ (by simp [wsV]), ok _ (by simp [wsV])⟩
  have h2 := hd.2.2
  rw [h] at h2
  exact (Option.some.inj h2).symm
theorem vx_runVW {y : MethodName} {bytes cc : ByteArray} {maxL nL mc ms n index : Nat} {ret : Option FieldType} {hh : List (Nat × Nat × Nat × Nat)} {ws : List Cond} {rm : Room} {Pc : Array Value → State → Prop} {Qc : Array Value → State → Outcome → State → Prop} {free : Addr → Prop} {Ts : List Cond} {own C : String} {b : Addr} {As rest : List Value} {g : JFrame}
    (S : CallFix p m c cc nL s args Ts own) (hM : Met l y ws rm Pc Qc mc ms free) (cw : vx_CVW R s args own C index y bytes maxL ret hh ws rm mc ms n) (hp : PreV s H C b Pc As)
    (hg : g.method = m) (hn : As.length = n) (hsize : g.locals.size = nL) (hstack : g.stack = As.reverse ++ .ref b :: rest) (hW : 2 * g.monitorRoom + (rest.map fun v => v.category).sum ≤ 8) (hdg : decode cc g.pc = .ok (.invokevirtual index, 3)) (hf : cells + mc ≤ R.cells ∧ slots + ms ≤ R.slots) :
    va_Run p l e R s m args below meth c H locs cells slots mc ms g rest (Qc (Value.ref b :: As).toArray) free := by
  obtain ⟨⟨hrc, hrs, hfr, hlo, hws, hcw⟩, hcode, hini, hy, hlen, hl, hin, hse⟩ := cw
  have hK : Back l R p e below s args y 3 8 (PreOf R mc ms Pc) (PostOf Qc mc ms free) := va_backW (hh := hh) (bytes := bytes) (maxL := maxL) (ret := ret) hM hp.1 hrc hrs hfr hlo hws hcw (fun a' U hW => word_at hW (Or.inl (by first | rfl | simp [Cond.onTables, Cond.keeps, Cond.steady])) hini)
  obtain ⟨hx, hb, hml, ho, -⟩ := S
  obtain ⟨-, ⟨cellB, hcB, hoB, hclB⟩, hPc⟩ := hp
  intro T hT X
  obtain ⟨v, vm₁, ⟨U', l2, c2, s2⟩, hW₁, X', ⟨g', mk, t, L, e1, e2, hq, h1, hL, h2, h3⟩, st⟩ := vx_callVW X hx (C := C) (hh := hh) (bytes := bytes) (maxL := maxL) (ret := ret) ho hl hin hse hcode hy hK (by rw [hT]; exact hcB) hoB hclB hg (hsize.trans hml.symm) (argsL := As) (rest := rest) (fun sig h => hn.trans (hlen sig h)) hstack hW (by rw [hb]; exact hdg)
    (fun vm₁ hW₁ => ⟨hf.1, hf.2, hPc (T.setVm vm₁) hT hW₁⟩)
  dsimp only [Pt.U, Pt.locs, Pt.cells, Pt.slots] at X' e1 e2 h1 h2 h3 st
  subst h1; subst h2; subst h3
  exact ⟨v, (T.setVm vm₁).calling g' mk (Value.ref b :: As).toArray, t, U', L, hT, X', hL, e1, e2, hq, st⟩
section
variable {y : MethodName} {bytes cc : ByteArray} {maxL nL mc ms n index : Nat} {ret : Option FieldType} {ws : List Cond} {rm : Room} {Pc : Array Value → State → Prop} {Qc : Array Value → State → Outcome → State → Prop} {XC : String → State → State → Prop} {free : Addr → Prop} {Ts : List Cond} {own C : String} {b : Addr} {As rest : List Value} {g : JFrame}
theorem vx_runVX {hh : List (Nat × Nat × Nat × Nat)} (S : CallFix p m c cc nL s args Ts own) (hM : vx_Met l y ws rm Pc Qc XC mc ms free) (cw : vx_CVW R s args own C index y bytes maxL ret hh ws rm mc ms n) (hp : PreV s H C b Pc As)
    (hg : g.method = m) (hn : As.length = n) (hsize : g.locals.size = nL) (hstack : g.stack = As.reverse ++ .ref b :: rest) (hW : 2 * g.monitorRoom + (rest.map fun v => v.category).sum ≤ 8) (hdg : decode cc g.pc = .ok (.invokevirtual index, 3)) (hf : cells + mc ≤ R.cells ∧ slots + ms ≤ R.slots) :
    vx_Run p l e R s m args below meth c H locs cells slots mc ms g rest (Qc (Value.ref b :: As).toArray) XC free := by
  obtain ⟨⟨hrc, hrs, hfr, hlo, hws, hcw⟩, hcode, hini, hy, hlen, hl, hin, hse⟩ := cw
  have hK : vx_Back l R p e below s args y 3 8 (PreOf R mc ms Pc) (PostOf Qc mc ms free) (vx_Post XC mc ms free) := vx_backW (hh := hh) (bytes := bytes) (maxL := maxL) (ret := ret) hM hp.1 hrc hrs hfr hlo hws hcw (fun a' U hW => word_at hW (Or.inl (by first | rfl | simp [Cond.onTables, Cond.keeps, Cond.steady])) hini)
  obtain ⟨hx, hb, hml, ho, -⟩ := S
  obtain ⟨-, ⟨cellB, hcB, hoB, hclB⟩, hPc⟩ := hp
  intro T hT X
  rcases vx_callVX X hx (C := C) (hh := hh) (bytes := bytes) (maxL := maxL) (ret := ret) ho hl hin hse hcode hy hK (by rw [hT]; exact hcB) hoB hclB hg (hsize.trans hml.symm) (argsL := As) (rest := rest) (fun sig h => hn.trans (hlen sig h)) hstack hW (by rw [hb]; exact hdg)
    (fun vm₁ hW₁ => ⟨hf.1, hf.2, hPc (T.setVm vm₁) hT hW₁⟩) with ⟨v, vm₁, ⟨U', l2, c2, s2⟩, hW₁, X', ⟨g', mk, t, L, e1, e2, hq, h1, hL, h2, h3⟩, st⟩ | ⟨q, vm₁, ⟨U', l2, c2, s2⟩, hW₁, X', ⟨g', mk, t, L, E, ce, e1, e2, hq, hce, hcv, hcl, h1, hL, h2, h3⟩, st⟩
  · dsimp only [Pt.U, Pt.locs, Pt.cells, Pt.slots] at X' e1 e2 h1 h2 h3 st
    subst h1; subst h2; subst h3
    exact Or.inl ⟨v, (T.setVm vm₁).calling g' mk (Value.ref b :: As).toArray, t, U', L, hT, X', hL, e1, e2, hq, st⟩
  · dsimp only [Pt.U, Pt.locs, Pt.cells, Pt.slots] at X' e1 e2 h1 h2 h3 st hcl
    subst h1; subst h2; subst h3
    exact Or.inr ⟨q, (T.setVm vm₁).calling g' mk (Value.ref b :: As).toArray, t, U', L, E, ce, hT, X', hL, e1, e2, hq, hce, hcv, vx_cls hW₁ hcl, st⟩
theorem vx_runSX {hh : List (Nat × Nat × Nat × Nat)} (S : CallFix p m c cc nL s args Ts own) (hM : vx_Met l y ws rm Pc Qc XC mc ms free) (cw : vx_CSW R s args own index y bytes maxL ret hh ws rm mc ms n) (hp : PreS s H Pc As)
    (hg : g.method = m) (hn : As.length = n) (hsize : g.locals.size = nL) (hstack : g.stack = As.reverse ++ rest) (hW : 2 * g.monitorRoom + (rest.map fun v => v.category).sum ≤ 8) (hdg : decode cc g.pc = .ok (.invokestatic index, 3)) (hf : cells + mc ≤ R.cells ∧ slots + ms ≤ R.slots) :
    vx_Run p l e R s m args below meth c H locs cells slots mc ms g rest (Qc As.toArray) XC free := by
  obtain ⟨⟨hrc, hrs, hfr, hlo, hws, hcw⟩, hcode, hini, hy, hlen, hl, hstt⟩ := cw
  have hK : vx_Back l R p e below s args y 3 8 (PreOf R mc ms Pc) (PostOf Qc mc ms free) (vx_Post XC mc ms free) := vx_backW (hh := hh) (bytes := bytes) (maxL := maxL) (ret := ret) hM hp.1 hrc hrs hfr hlo hws hcw (fun a' U hW => word_at hW (Or.inl (by first | rfl | simp [Cond.onTables, Cond.keeps, Cond.steady])) hini)
  obtain ⟨hx, hb, hml, ho, -⟩ := S
  intro T hT X
  rcases vx_callSX X hx (hh := hh) (bytes := bytes) (maxL := maxL) (ret := ret) ho hl hstt hini hcode hy hK hg (hsize.trans hml.symm) (argsL := As) (rest := rest) (fun sig h => hn.trans (hlen sig h)) hstack hW (by rw [hb]; exact hdg)
    (fun vm₁ hW₁ => ⟨hf.1, hf.2, hp.2 (T.setVm vm₁) hT hW₁⟩) with ⟨v, vm₁, ⟨U', l2, c2, s2⟩, hW₁, X', ⟨g', mk, t, L, e1, e2, hq, h1, hL, h2, h3⟩, st⟩ | ⟨q, vm₁, ⟨U', l2, c2, s2⟩, hW₁, X', ⟨g', mk, t, L, E, ce, e1, e2, hq, hce, hcv, hcl, h1, hL, h2, h3⟩, st⟩
  · dsimp only [Pt.U, Pt.locs, Pt.cells, Pt.slots] at X' e1 e2 h1 h2 h3 st
    subst h1; subst h2; subst h3
    exact Or.inl ⟨v, (T.setVm vm₁).calling g' mk As.toArray, t, U', L, hT, X', hL, e1, e2, hq, st⟩
  · dsimp only [Pt.U, Pt.locs, Pt.cells, Pt.slots] at X' e1 e2 h1 h2 h3 st hcl
    subst h1; subst h2; subst h3
    exact Or.inr ⟨q, (T.setVm vm₁).calling g' mk As.toArray, t, U', L, E, ce, hT, X', hL, e1, e2, hq, hce, hcv, vx_cls hW₁ hcl, st⟩
end
end VXH
theorem vx_ofWH {l : Launch} {y : MethodName} {ws ws' : List Cond} {rm : Room} {Pc : Array Value → State → Prop} {Qc : Array Value → State → Outcome → State → Prop} {XC : String → State → State → Prop} {mc ms : Nat} {free : Addr → Prop} {cc : ByteArray} {maxL : Nat} {ret : Option FieldType} {hh : List (Nat × Nat × Nat × Nat)}
    (hy : plainName y.cls = true) (hw : ws = Cond.codeWith y cc maxL ret hh :: ws')
    (body : ∀ p e s m args below meth c s₁, BodyLoose p l y (headSpec ws rm) cc maxL ret e s m args below meth c s₁ → c.maxLocals = maxL → Pc args s →
      W p l e (headSpec ws rm).room s m args below meth c s.heap [] 0 0 (vx_MQ below Qc XC args s mc ms free) (entryFrame m args maxL)) : vx_Met l y ws rm Pc Qc XC mc ms free := by
  refine MetFree.of_bodyS (code := cc) (maxLocals := maxL) (ret := ret) hy ?_ ?_
  · intro args s m h hn
    obtain ⟨m9, meth, c, hn9, h1, h2, h3, h4, -, h5, h6, -⟩ := Cond.codeWith_spec (atoms_spec (ws := ws) h _ (by rw [hw]; exact List.mem_cons_self))
    cases hn.symm.trans hn9
    exact ⟨meth, c, h1, h2, h3, h4, h5, h6⟩
  · intro p e s m args below meth c s₁ B hml hP _
    have hh0 : s₁.heap = s.heap := by rw [B.state]; rfl
    obtain ⟨t, a1, o, b1, b2, b3⟩ := body p e s m args below meth c s₁ B hml hP s₁ hh0 (Stand.of_body B)
    exact ⟨t, o, a1, b1, b2, b3⟩
/-! ===== END ===== -/

/-! ===== BEGIN what the machine throws by itself, no traces kept ===== -/
section VXM
set_option maxHeartbeats 1000000 in
/-- the machine throws cls with the message text, no traces kept: from its note over the frame g to 'throwing' over the same frame (follows the proofs of Stand.vmThrowsMessage, Shelf/KitTracedVmS.lean, and Stand.throwsMessageColdBareV, StandMessageColdV.lean, without the step out of the frame) -/
theorem vx_vmAt {p : Program} {l : Launch} {e : Env} {R : Room} {s : State} {m₀ : MethodId} {args : Array Value} {below : List Frame} {meth : Method} {c : Code} {W : State} {locs : List Loc} {cells slots : Nat}
    (X : Stand p l e R s m₀ args below meth c W locs cells slots) (hexec : p.tables.exec = Jvm.exec) (htr : e.platform.stackTraces = false) {cls : String} {names : List String} {text : String}
    (hcls : Bundle.fit cls = true) (hnames : ∀ n ∈ names, Bundle.fit n = true) (hsoe : (cls == "java/lang/StackOverflowError") = false) (hoom : (cls == "java/lang/OutOfMemoryError") = false)
    (h : ∀ a ∈ Bundle.messageArmAtoms cls names, a.before args s = true)
    (hlocs : ∀ x ∈ locs, ∀ cell, s.heap[x.base]? = some cell → cell.vm.isStatics = false)
    (htext : (text == notModelled) = false) (hlimit : ¬ (stringBytes (stringToUtf16 text)).size > e.platform.arrayLengthLimit) (hheap : ¬ (stringBytes (stringToUtf16 text)).size * componentBytes .byte > e.platform.maxHeapBytes)
    {g : JFrame} (hg : g.method = m₀) (hsize : g.locals.size = c.maxLocals)
    (hRframes : names.length + 4 < R.frames) (hRlocals : 2 * g.monitorRoom + (g.stack.map fun v => v.category).sum + 10240 ≤ R.locals) (hshort : 13 * names.length + 55 ≤ 10240)
    (hRcells : cells + 3 ≤ R.cells) (hRslots : slots + ((stringBytes (stringToUtf16 text)).size + 4 + 6) ≤ R.slots) (hlocks : meth.locks = false) :
    ∃ (S : State) (q : Addr) (ce : Cell), (∀ target, Steps p.tables e below ((S.setTop g).pushFrame (.throwing q)) target → Steps p.tables e below ((W.setTop g).pushFrame (.throwNew cls (some text) none)) target) ∧
      Stand p l e R s m₀ args below meth c S locs (cells + 3) (slots + ((stringBytes (stringToUtf16 text)).size + 4 + 6)) ∧ S.heap[q]? = some ce ∧ s.vm.findClass cls = some ce.cls ∧ ce.vm = .none := by
  have howns : e.platform.frameOwnsMonitors = true := by rw [X.admits.platform]
  have hfin : e.platform.finalization = false := by rw [X.admits.platform]
  have hpl : e.platform.magicAccessors = ({} : Platform).magicAccessors := by rw [X.admits.platform]
  have a : ∀ x, x ∈ Bundle.messageArmAtoms cls names → x.holds args s none s [] = true := fun x hx => h x hx
  obtain ⟨T, Z0, L, -, Y⟩ := ThrowableC.of_atoms (args := args) howns hfin hpl (fun x hx => h x (by simp [Bundle.messageArmAtoms, hx]))
  obtain ⟨Z, M, LZ, LM, hnZ⟩ := Init0T.ofS_atoms (args := args) hpl L Y (fun x hx => h x (by simp [Bundle.messageArmAtoms, hx]))
  obtain ⟨P1, Ps, hlen, L1, hL, hP1m, hlink1, hlink⟩ := Bundle.chainS (args := args) hpl hnZ names cls hcls hnames (fun x hx => h x (by simp [Bundle.messageArmAtoms, hx]))
  obtain ⟨Zs, LZs, hn4, hfitv, hfitc⟩ := StringT.of_atoms (args := args) (fun x hx => h x (by simp [Bundle.messageArmAtoms, hx]))
  have hfound : s.vm.findClass cls = some P1.m.cls := findClass_of_methodNamed hP1m
  obtain ⟨c1, kX, hc1, hk, hord, -, -, hn6⟩ := Cond.instantiable_spec (a (.instantiable cls 6) (by simp [Bundle.messageArmAtoms]))
  cases Option.some.inj (hc1.symm.trans hfound)
  have hinit := Cond.initialized_spec hfound hk (a (.initialized cls) (by simp [Bundle.messageArmAtoms]))
  have hctor : kX.findMethod "<init>" "(Ljava/lang/String;)V" = some P1.m.idx := findMethod_of_methodNamed hP1m hk
  have hsel0 : selectMethod e.platform s.vm P1.m.cls T.fill0 = .method T.fill0 := by
    obtain ⟨c2, r2, m2, q1, q2, q3, q4, -⟩ := Cond.selects_spec (a (.selects cls Bundle.tFill0 Bundle.tFill0) (by simp [Bundle.messageArmAtoms]))
    cases Option.some.inj (q1.symm.trans hfound)
    cases Option.some.inj (q2.symm.trans (State.methodFound?_of_named Y.fill0 (by decide)))
    cases Option.some.inj (q3.symm.trans Y.fill0)
    rw [Launch.admits_selectMethod X.admits]; exact q4
  have hselF : selectMethod e.platform s.vm P1.m.cls T.fill = .method T.fill := by
    obtain ⟨c2, r2, m2, q1, q2, q3, q4, -⟩ := Cond.selects_spec (a (.selects cls Bundle.tFill Bundle.tFill) (by simp [Bundle.messageArmAtoms]))
    cases Option.some.inj (q1.symm.trans hfound)
    cases Option.some.inj (q2.symm.trans (State.methodFound?_of_named Y.fill (by decide)))
    cases Option.some.inj (q3.symm.trans Y.fill)
    rw [Launch.admits_selectMethod X.admits]; exact q4
  obtain ⟨cellS0, hcS0, hiss⟩ := Y.statics
  obtain ⟨u0, hu0⟩ := Cond.staticRefV Y.unassigned L.unassignedStatic L.statics hcS0 hiss (a (.isRef (.static Bundle.tN "UNASSIGNED_STACK" Bundle.steD)) (by simp [Bundle.messageArmAtoms]))
  obtain ⟨sen, hsen⟩ := Cond.staticRefV Y.sentinel L.sentinelStatic L.statics hcS0 hiss (a (.isRef (.static Bundle.tN "SUPPRESSED_SENTINEL" Bundle.listD)) (by simp [Bundle.messageArmAtoms]))
  obtain ⟨ci198, i198, fB, hk198, hg198, ha198, hsB, -, hnB, htB, hffB⟩ := Cond.ownField (t := .object "java/lang/Object") Y.found L.cls (by decide +kernel) (a (.fieldLink Bundle.tN 198 Bundle.tN "backtrace" "Ljava/lang/Object;") (by simp [Bundle.messageArmAtoms])) (a (.lays Bundle.tN Bundle.tN "backtrace" "Ljava/lang/Object;") (by simp [Bundle.messageArmAtoms])) e.platform hpl
  obtain ⟨cellS, hcS', heS, -, hkeep⟩ := X.same.2.2.2.2.2 T.aS cellS0 hcS0
  have hcellS : W.heap[T.aS]? = some cellS := hcS'
  have hout' : ∀ i, (⟨T.aS, i⟩ : Loc) ∉ locs := fun i hmem => by
    have := hlocs _ hmem cellS0 hcS0
    rw [hiss] at this; cases this
  have hknownS : cellS.vm ≠ .unknown := by
    rw [heS]; intro hu
    rw [show cellS0.vm = .unknown from hu] at hiss
    cases hiss
  have hvU : cellS.slots[T.fUnassigned.slot]? = some u0.v := by rw [hkeep _ (hout' _)]; exact hu0
  have hvSen : cellS.slots[T.fSentinel.slot]? = some sen.v := by rw [hkeep _ (hout' _)]; exact hsen
  obtain ⟨iM, hffM⟩ := Y.msg
  obtain ⟨tyC, dC, hdC, hdnC⟩ := Cond.laysAt hfound hk Y.cause (a (.lays cls Bundle.tN "cause" "Ljava/lang/Throwable;") (by simp [Bundle.messageArmAtoms]))
  obtain ⟨tyS, dS, hdS, hdnS⟩ := Cond.laysAt hfound hk Y.stack (a (.lays cls Bundle.tN "stackTrace" Bundle.steD) (by simp [Bundle.messageArmAtoms]))
  obtain ⟨tyP, dP, hdP, hdnP⟩ := Cond.laysAt hfound hk Y.supp (a (.lays cls Bundle.tN "suppressedExceptions" Bundle.listD) (by simp [Bundle.messageArmAtoms]))
  obtain ⟨tyM, dM, hdM, hdnM⟩ := Cond.laysAt hfound hk hffM (a (.lays cls Bundle.tN "detailMessage" "Ljava/lang/String;") (by simp [Bundle.messageArmAtoms]))
  obtain ⟨tyB, dB, hdB, hdnB⟩ := Cond.laysAt hfound hk hffB (a (.lays cls Bundle.tN "backtrace" "Ljava/lang/Object;") (by simp [Bundle.messageArmAtoms]))
  have bC := Cond.laysApart hdB hdC hdnB hdnC (by rw [hnB, Y.causeName]; decide)
  have bS := Cond.laysApart hdB hdS hdnB hdnS (by rw [hnB, Y.stackName]; decide)
  have bP := Cond.laysApart hdB hdP hdnB hdnP (by rw [hnB, Y.suppName]; decide)
  have hbk : ((preparedCellV T.toThrowableT (freshCell P1.m.cls kX) (W.heap.size + 2) u0 sen).withEntry W.cur).slots[fB.slot]? = some .null := by
    have := fresh_default (c := P1.m.cls) tyB
    rw [htB] at this
    simpa [preparedCellV, Cell.setSlot, Cell.withEntry, Array.getElem?_setIfInBounds, bC, bS, bP, bC.symm, bS.symm, bP.symm, defaultValue] using this
  have tkC := Takes.of_laid (v := .ref (W.heap.size + 2)) hk hord tyC (by rw [Y.causeType]; rfl)
  have tkS := Takes.of_laid (v := u0.v) hk hord tyS (by rw [Y.stackType]; exact fits_refV_array _ u0)
  have tkP := Takes.of_laid (v := sen.v) hk hord tyP (by rw [Y.suppType]; exact fits_refV_object _ sen)
  have tkM := Takes.of_laid (v := .ref (W.heap.size + 1)) hk hord tyM (by rw [Y.msgType]; rfl)
  have hskip : SkipFacts T e.platform s (fun u => u) u0 ((preparedCellV T.toThrowableT (freshCell P1.m.cls kX) (W.heap.size + 2) u0 sen).withEntry W.cur) := ⟨{ ci198 := ci198, i198 := i198, fBack := fB }, ⟨hk198, hg198, ha198, hsB⟩, hbk, fun _ _ => rfl⟩
  have h0 : At W g.method c below := by rw [hg]; exact X.here
  obtain ⟨hbeyond, hfreeW⟩ := X.vmMayThrow hsize (.throwNew cls (some text) none) (fun f hf => by cases hf) rfl hRlocals
  have hfr' : W.frames.length + Ps.length + 4 < (e.platform.stackLimits W.me).1 := by have := X.framesAbove hRframes; omega
  have hwd' : (stackUse (.java g :: W.frames.tail)).2 + 13 * Ps.length + 55 ≤ (e.platform.stackLimits W.me).2 := by have := X.stackAbove hsize (K := 13 * Ps.length + 55) (by omega); omega
  have hslots : W.slotsUsed + (stringBytes (stringToUtf16 text)).size + Zs.kS.instanceTypes.size + kX.instanceTypes.size ≤ e.platform.maxSlots := by
    have := X.slotsAbove hRslots
    rw [hn4, hn6]
    omega
  obtain ⟨vm', hW', st⟩ := Steps.vmThrowsMessageColdByV p (s₀ := s) (S := W) (g := g) h0 hexec T L Z LZ M LM X.warmed (t := W.cur) rfl Zs LZs P1 L1 Ps hL hlink1 hlink hsoe hoom hfound hk hinit hord hctor
    (Launch.admits_hotImplicitExceptions X.admits) hbeyond hfreeW htext hlimit hheap (X.cellsAbove hRcells) hslots (hfitv _) (hfitc _)
    (Nn := fun u => u) heapOnly_id (fun _ _ => rfl) (fun _ => rfl) (fun u x y => setCell_twice _ _ _ _) (fun _ => Nat.le_refl _) (cN := ((preparedCellV T.toThrowableT (freshCell P1.m.cls kX) (W.heap.size + 2) u0 sen).withEntry W.cur))
    hsel0 hcellS hknownS hvU tkS (fun _ hu => hu) (fun _ hu => hu) rfl rfl rfl (by simp [preparedCellV, Cell.setSlot, Cell.withEntry]) hskip (fun _ _ hA hW _ hroom _ hrest => L.nativeOff p htr hA hW hroom hrest) hselF hvSen tkC tkP tkM Y.objLocals rfl hfr' hwd'
  rw [plainBareV_eq T.toThrowableT (W.heap.size + 2) u0 sen (.ref (W.heap.size + 1)) W.cur rfl rfl] at st
  obtain ⟨-, -, w3, w4, -, -, -⟩ := withThrown_facts e.platform W Zs text P1.m.cls kX
  have X3 := ((X.pushed (bytesOf Zs.cB (stringToUtf16 text))).pushed (stringAt Zs.cS Zs.kS Zs.fv Zs.fc (stringToUtf16 text) W.heap.size)).pushed (freshCell P1.m.cls kX)
  rw [← withString_eq] at X3
  have X4 := X3.noted hW'
  have ha : (W.heap.size + 2) < ((withThrown W Zs text P1.m.cls kX).setVm vm').heap.size := by show _ < (withThrown W Zs text P1.m.cls kX).heap.size; rw [w3]; omega
  have hcell : ((withThrown W Zs text P1.m.cls kX).setVm vm').heap[(W.heap.size + 2)]? = some (freshCell P1.m.cls kX) := w4
  have X5 := ((((X4.stored hcell T.fCause.slot (.ref (W.heap.size + 2))).storedAgain ha T.fStack.slot u0.v).storedAgain ha T.fSupp.slot sen.v).storedAgain ha T.fStack.slot u0.v).storedAgain ha T.fMsg.slot (.ref (W.heap.size + 1))
  obtain ⟨g₁, hfrM⟩ := X5.frames_eq
  have hU : ((((withThrown W Zs text P1.m.cls kX).setVm vm').setCell (W.heap.size + 2) (plainBareV T.toThrowableT (freshCell P1.m.cls kX) (W.heap.size + 2) u0 sen (.ref (W.heap.size + 1)))).setTop g).pushFrame (.throwing (W.heap.size + 2)) = (((withThrown W Zs text P1.m.cls kX).setVm vm').setCell (W.heap.size + 2) (plainBareV T.toThrowableT (freshCell P1.m.cls kX) (W.heap.size + 2) u0 sen (.ref (W.heap.size + 1)))).setFrames (.throwing (W.heap.size + 2) :: .java g :: below) := by
    rw [State.pushFrame, State.frames_setTop _ hfrM, State.setTop_of_frames _ hfrM, State.setFrames_setFrames]
  have b1 : (bytesOf Zs.cB (stringToUtf16 text)).slots.size = (stringBytes (stringToUtf16 text)).size := by
    rw [(Cell.writeAll_facts _ _).2.2]; simp [bytes0]
  have b2 : (stringAt Zs.cS Zs.kS Zs.fv Zs.fc (stringToUtf16 text) W.heap.size).slots.size = 4 := by simp [string0, Cell.setSlot, hn4]
  have b3 : (freshCell P1.m.cls kX).slots.size = 6 := by simp [hn6]
  rw [b1, b2, b3] at X5
  have e9 : slots + (stringBytes (stringToUtf16 text)).size + 4 + 6 = slots + ((stringBytes (stringToUtf16 text)).size + 4 + 6) := by omega
  rw [e9] at X5
  simp only [List.append_assoc, List.cons_append, List.nil_append] at X5
  refine ⟨((withThrown W Zs text P1.m.cls kX).setVm vm').setCell (W.heap.size + 2) (plainBareV T.toThrowableT (freshCell P1.m.cls kX) (W.heap.size + 2) u0 sen (.ref (W.heap.size + 1))), W.heap.size + 2, _, fun target ht => st _ (by rw [X.tail, ← hU]; exact ht),
    X5.forget (fun y hy => ?_), heapAt_setCell_self _ ha, hfound, rfl⟩
  simp only [List.mem_cons, List.not_mem_nil, or_false] at hy
  have hge : s.heap.size ≤ W.heap.size := X.same.2.1
  rcases hy with rfl | rfl | rfl | rfl | rfl <;> exact Nat.le_trans hge (Nat.le_add_right _ 2)
set_option maxHeartbeats 1000000 in
/-- the machine throws NullPointerException, no traces kept: from its note over the frame g to 'throwing' over the same frame (follows the proof of Stand.vmThrowsNpe, Shelf42/KT2.lean; throwsNpeColdBareVAt, Shelf42/NT91.lean, called) -/
theorem vx_npeAt {p : Program} {l : Launch} {e : Env} {R : Room} {s : State} {m₀ : MethodId} {args : Array Value} {below : List Frame} {meth : Method} {c : Code} {W : State} {locs : List Loc} {cells slots : Nat}
    (X : Stand p l e R s m₀ args below meth c W locs cells slots) (hexec : p.tables.exec = Jvm.exec) (htr : e.platform.stackTraces = false) {n : Nat}
    (h : ∀ a ∈ Bundle.npeArmAtoms n, a.before args s = true)
    (hlocs : ∀ x ∈ locs, ∀ cell, s.heap[x.base]? = some cell → cell.vm.isStatics = false)
    {g : JFrame} (hg : g.method = m₀) (hsize : g.locals.size = c.maxLocals)
    (hRframes : 7 < R.frames) (hRlocals : 2 * g.monitorRoom + (g.stack.map fun v => v.category).sum + 10240 ≤ R.locals)
    (hRcells : cells + 1 ≤ R.cells) (hRslots : slots + n ≤ R.slots) (hlocks : meth.locks = false) :
    ∃ (S : State) (q : Addr) (ce : Cell), (∀ target, Steps p.tables e below ((S.setTop g).pushFrame (.throwing q)) target → Steps p.tables e below ((W.setTop g).pushFrame (.throwNew "java/lang/NullPointerException" none none)) target) ∧
      Stand p l e R s m₀ args below meth c S locs (cells + 1) (slots + n) ∧ S.heap[q]? = some ce ∧ s.vm.findClass "java/lang/NullPointerException" = some ce.cls ∧ ce.vm = .none := by
  have howns : e.platform.frameOwnsMonitors = true := by rw [X.admits.platform]
  have hfin : e.platform.finalization = false := by rw [X.admits.platform]
  have hpl : e.platform.magicAccessors = ({} : Platform).magicAccessors := by rw [X.admits.platform]
  have hpl2 : e.platform.arrayCloneIsPublic = true := by rw [X.admits.platform]
  have a' : ∀ x, x ∈ Bundle.npeArmAtoms n → x.holds args s none s [] = true := fun x hx => h x hx
  obtain ⟨T, Z, L, LZ, Y⟩ := ThrowableC.of_atoms (args := args) howns hfin hpl (fun x hx => h x (by simp [Bundle.npeArmAtoms, hx]))
  obtain ⟨N, LN, hcN, hnNF, hordN, hffS⟩ := NpeC.of_atoms (args := args) hpl hpl2 L Y (fun x hx => h x (by simp [Bundle.npeArmAtoms, hx]))
  obtain ⟨P1, L1, hP1m, hP1s⟩ := PassC.of_atoms (args := args) (s := s) hpl (X := Bundle.nN) (Y := Bundle.rN) (by decide) (by decide) LibCode.NullPointerException.Init0.at_0 LibCode.NullPointerException.Init0.at_1 LibCode.NullPointerException.Init0.at_4 (fun x hx => h x (by simp [Bundle.npeArmAtoms, hx]))
  obtain ⟨PR, LR, hPRm, hPRs⟩ := PassC.of_atoms (args := args) (s := s) hpl (X := Bundle.rN) (Y := Bundle.eN) (by decide) (by decide) LibCode.RuntimeException.Init0.at_0 LibCode.RuntimeException.Init0.at_1 LibCode.RuntimeException.Init0.at_4 (fun x hx => h x (by simp [Bundle.npeArmAtoms, hx]))
  obtain ⟨PE, LEx, hPEm, hPEs⟩ := PassC.of_atoms (args := args) (s := s) hpl (X := Bundle.eN) (Y := Bundle.tN) (by decide) (by decide) LibCode.Exception.Init0.at_0 LibCode.Exception.Init0.at_1 LibCode.Exception.Init0.at_4 (fun x hx => h x (by simp [Bundle.npeArmAtoms, hx]))
  have hfound : s.vm.findClass Bundle.nN = some P1.m.cls := findClass_of_methodNamed hP1m
  have ecls : N.cN = P1.m.cls := Option.some.inj (hcN.symm.trans hfound)
  have hk : s.vm.classes[P1.m.cls]? = some N.kN := by rw [← ecls]; exact LN.cls
  have hinit := Cond.initialized_spec hfound hk (a' (.initialized Bundle.nN) (by simp [Bundle.npeArmAtoms]))
  have hctor : N.kN.findMethod "<init>" "()V" = some P1.m.idx := findMethod_of_methodNamed hP1m hk
  obtain ⟨c1, k1, hc1, hk1, -, -, -, hn⟩ := Cond.instantiable_spec (a' (.instantiable Bundle.nN n) (by simp [Bundle.npeArmAtoms]))
  cases Option.some.inj (hc1.symm.trans hfound)
  cases Option.some.inj (hk1.symm.trans hk)
  have hfsz : (freshCell P1.m.cls N.kN).slots.size = n := by simp [hn]
  have hlink1 : P1.sup = PR.m := Option.some.inj (hP1s.symm.trans hPRm)
  have hlinkR : PR.sup = PE.m := Option.some.inj (hPRs.symm.trans hPEm)
  have hlinkE : PE.sup = Z.m T.toThrowableT := Option.some.inj (hPEs.symm.trans Y.init0)
  have hLs : ∀ P, P ∈ [PR, PE] → P.Links0 e.platform s := fun P hP => by
    simp only [List.mem_cons, List.not_mem_nil, or_false] at hP
    rcases hP with rfl | rfl
    · exact LR
    · exact LEx
  have hsel0 : selectMethod e.platform s.vm P1.m.cls T.fill0 = .method T.fill0 := by
    obtain ⟨c2, r2, m2, q1, q2, q3, q4, -⟩ := Cond.selects_spec (a' (.selects Bundle.nN Bundle.tFill0 Bundle.tFill0) (by simp [Bundle.npeArmAtoms]))
    cases Option.some.inj (q1.symm.trans hfound)
    cases Option.some.inj (q2.symm.trans (State.methodFound?_of_named Y.fill0 (by decide)))
    cases Option.some.inj (q3.symm.trans Y.fill0)
    rw [Launch.admits_selectMethod X.admits]; exact q4
  have hselF : selectMethod e.platform s.vm P1.m.cls T.fill = .method N.fill := by
    obtain ⟨c2, r2, m2, q1, q2, q3, q4, -⟩ := Cond.selects_spec (a' (.selects Bundle.nN Bundle.tFill Bundle.nFill) (by simp [Bundle.npeArmAtoms]))
    cases Option.some.inj (q1.symm.trans hfound)
    cases Option.some.inj (q2.symm.trans (State.methodFound?_of_named Y.fill (by decide)))
    cases Option.some.inj (q3.symm.trans hnNF)
    rw [Launch.admits_selectMethod X.admits]; exact q4
  obtain ⟨cellS0, hcS0, hiss⟩ := Y.statics
  obtain ⟨u0, hu0⟩ := Cond.staticRefV Y.unassigned L.unassignedStatic L.statics hcS0 hiss (a' (.isRef (.static Bundle.tN "UNASSIGNED_STACK" Bundle.steD)) (by simp [Bundle.npeArmAtoms]))
  obtain ⟨sen, hsen⟩ := Cond.staticRefV Y.sentinel L.sentinelStatic L.statics hcS0 hiss (a' (.isRef (.static Bundle.tN "SUPPRESSED_SENTINEL" Bundle.listD)) (by simp [Bundle.npeArmAtoms]))
  obtain ⟨ci198, i198, fB, hk198, hg198, ha198, hsB, -, hnB, htB, hffB⟩ := Cond.ownField (t := .object "java/lang/Object") Y.found L.cls (by decide +kernel) (a' (.fieldLink Bundle.tN 198 Bundle.tN "backtrace" Bundle.objD) (by simp [Bundle.npeArmAtoms])) (a' (.lays Bundle.tN Bundle.tN "backtrace" Bundle.objD) (by simp [Bundle.npeArmAtoms])) e.platform hpl
  obtain ⟨cellS, hcS', heS, -, hkeep⟩ := X.same.2.2.2.2.2 T.aS cellS0 hcS0
  have hcellS : W.heap[T.aS]? = some cellS := hcS'
  have hout' : ∀ i, (⟨T.aS, i⟩ : Loc) ∉ locs := fun i hmem => by
    have := hlocs _ hmem cellS0 hcS0
    rw [hiss] at this; cases this
  have hknownS : cellS.vm ≠ .unknown := by
    rw [heS]; intro hu
    rw [show cellS0.vm = .unknown from hu] at hiss
    cases hiss
  have hvU : cellS.slots[T.fUnassigned.slot]? = some u0.v := by rw [hkeep _ (hout' _)]; exact hu0
  have hvSen : cellS.slots[T.fSentinel.slot]? = some sen.v := by rw [hkeep _ (hout' _)]; exact hsen
  obtain ⟨tyC, dC, hdC, hdnC⟩ := Cond.laysAt hfound hk Y.cause (a' (.lays Bundle.nN Bundle.tN "cause" "Ljava/lang/Throwable;") (by simp [Bundle.npeArmAtoms]))
  obtain ⟨tyS, dS, hdS, hdnS⟩ := Cond.laysAt hfound hk Y.stack (a' (.lays Bundle.nN Bundle.tN "stackTrace" Bundle.steD) (by simp [Bundle.npeArmAtoms]))
  obtain ⟨tyP, dP, hdP, hdnP⟩ := Cond.laysAt hfound hk Y.supp (a' (.lays Bundle.nN Bundle.tN "suppressedExceptions" Bundle.listD) (by simp [Bundle.npeArmAtoms]))
  obtain ⟨tyX, dX, hdX, hdnX⟩ := Cond.laysAt hfound hk hffS (a' (.lays Bundle.nN Bundle.nN "extendedMessageState" "I") (by simp [Bundle.npeArmAtoms, Bundle.npeAtoms]))
  obtain ⟨hnX, htX⟩ := State.fieldFound?_type hffS (t := .int) (by decide +kernel)
  have xC := Cond.laysApart hdC hdX hdnC hdnX (by rw [hnX, Y.causeName]; decide)
  have xS := Cond.laysApart hdS hdX hdnS hdnX (by rw [hnX, Y.stackName]; decide)
  have xP := Cond.laysApart hdP hdX hdnP hdnX (by rw [hnX, Y.suppName]; decide)
  have hv0 : (freshCell P1.m.cls N.kN).slots[N.fState.slot]? = some (.int 0) := by
    have := fresh_default (c := P1.m.cls) tyX
    rw [htX] at this; exact this
  obtain ⟨tyB, dB, hdB, hdnB⟩ := Cond.laysAt hfound hk hffB (a' (.lays Bundle.nN Bundle.tN "backtrace" Bundle.objD) (by simp [Bundle.npeArmAtoms]))
  have bC := Cond.laysApart hdB hdC hdnB hdnC (by rw [hnB, Y.causeName]; decide)
  have bS := Cond.laysApart hdB hdS hdnB hdnS (by rw [hnB, Y.stackName]; decide)
  have bP := Cond.laysApart hdB hdP hdnB hdnP (by rw [hnB, Y.suppName]; decide)
  have bX := Cond.laysApart hdB hdX hdnB hdnX (by rw [hnB, hnX]; decide)
  have hbk : ((npeCell N.toNpeT (preparedCellV T.toThrowableT (freshCell P1.m.cls N.kN) W.heap.size u0 sen) W.cur).withEntry W.cur).slots[fB.slot]? = some .null := by
    have := fresh_default (c := P1.m.cls) tyB
    rw [htB] at this
    simpa [npeCell, preparedCellV, Cell.setSlot, Cell.withEntry, Array.getElem?_setIfInBounds, bC, bS, bP, bX, bC.symm, bS.symm, bP.symm, bX.symm, defaultValue] using this
  have tkC := Takes.of_laid (v := .ref W.heap.size) hk hordN tyC (by rw [Y.causeType]; rfl)
  have tkS := Takes.of_laid (v := u0.v) hk hordN tyS (by rw [Y.stackType]; exact fits_refV_array _ u0)
  have tkP := Takes.of_laid (v := sen.v) hk hordN tyP (by rw [Y.suppType]; exact fits_refV_object _ sen)
  have tkX := Takes.of_laid (v := .int 1) hk hordN tyX (by rw [htX]; rfl)
  have hskip : SkipFacts T e.platform s (fun u => u) u0 ((npeCell N.toNpeT (preparedCellV T.toThrowableT (freshCell P1.m.cls N.kN) W.heap.size u0 sen) W.cur).withEntry W.cur) := ⟨{ ci198 := ci198, i198 := i198, fBack := fB }, ⟨hk198, hg198, ha198, hsB⟩, hbk, fun _ _ => rfl⟩
  obtain ⟨vm', X3, st, -⟩ := X.throwsNpeColdBareVAt hexec hg hsize T L Z LZ N LN P1 L1 [PR, PE] hLs hlink1 ⟨hlinkR, hlinkE, trivial⟩ hfound hk hinit hordN hctor hsel0 hselF hcellS hknownS hvU hvSen
    hv0 xC xS xP tkC tkS tkP tkX Y.objLocals hskip (fun _ _ hA hW _ hroom _ hrest => L.nativeOff p htr hA hW hroom hrest) (by simpa using hRframes) hRlocals (by simp) hRcells (by rw [hn]; exact hRslots)
  have hlt : W.heap.size < ((W.pushCell (freshCell P1.m.cls N.kN)).setVm vm').heap.size := by
    show W.heap.size < (W.pushCell (freshCell P1.m.cls N.kN)).heap.size
    rw [State.heap_size_pushCell]; omega
  rw [hfsz] at X3
  obtain ⟨g₁, hfrM⟩ := X3.frames_eq
  have hU : ((((W.pushCell (freshCell P1.m.cls N.kN)).setVm vm').setCell W.heap.size (npeBareV T.toThrowableT N.toNpeT (freshCell P1.m.cls N.kN) W.heap.size u0 sen)).setTop g).pushFrame (.throwing W.heap.size) = (((W.pushCell (freshCell P1.m.cls N.kN)).setVm vm').setCell W.heap.size (npeBareV T.toThrowableT N.toNpeT (freshCell P1.m.cls N.kN) W.heap.size u0 sen)).setFrames (.throwing W.heap.size :: .java g :: below) := by
    rw [State.pushFrame, State.frames_setTop _ hfrM, State.setTop_of_frames _ hfrM, State.setFrames_setFrames]
  refine ⟨_, W.heap.size, _, fun target ht => st.trans (by rw [← hU]; exact ht), X3.forget (fun y hy => ?_), heapAt_setCell_self _ hlt, hfound, rfl⟩
  simp only [List.mem_cons, List.not_mem_nil, or_false] at hy
  have hge : s.heap.size ≤ W.heap.size := X.same.2.1
  rcases hy with rfl | rfl | rfl | rfl | rfl <;> exact hge
/-- the words of a machine's NullPointerException, but the four that speak of the heap -/
def vx_atN (n : Nat) : List Cond := (Bundle.npeArmAtoms n).filter vx_no
/-- the words of a machine's throw with a message, but the four that speak of the heap -/
def vx_atM (X : String) (names : List String) : List Cond := (Bundle.messageArmAtoms X names).filter vx_no
section
variable {p : Program} {l : Launch} {e : Env} {R : Room} {s : State} {m : MethodId} {args : Array Value} {below : List Frame} {meth : Method} {c : Code} {H : Heap} {locs : List Loc} {cells slots : Nat}
/-- a frame seen from a rebased start, seen from the first start again -/
theorem vx_back9 {T S : State} {R' : Room} {k n : Nat} (X : Stand p l e R s m args below meth c T locs cells slots) (Y : Stand p l e R' ((T.setVm s.vm).setFrames (.invoking m args :: below)) m args below meth c T [] 0 0) (Z : Stand p l e R' ((T.setVm s.vm).setFrames (.invoking m args :: below)) m args below meth c S [] k n) :
    Stand p l e R s m args below meth c S locs (cells + k) (slots + n) := by
  have hW0 : s.WarmedH ((T.setVm s.vm).setFrames (.invoking m args :: below)).vm := State.WarmedH.refl s
  refine { admits := X.admits, cas := X.cas, clock := X.clock, frames := X.frames, room := X.room, hears := X.hears, method := X.method, code := X.code, here := Z.here, tail := Z.tail, warmed := State.WarmedH.trans hW0 Z.warmed, limits := Z.limits.trans (Y.limits.symm.trans X.limits), bytes := Z.bytes.trans (Y.bytes.symm.trans X.bytes), same := ?_ }
  obtain ⟨e1, e2⟩ := Z.same
  rw [State.setFrames_setFrames] at e1
  have h2 : (T.setVm s.vm).sameButNew (S.setVm s.vm) [] k n := ⟨e1, e2⟩
  have h3 := X.same.trans h2
  rw [List.append_nil] at h3
  exact h3
/-- from the machine's note that E is thrown here with this text -/
def vx_Note (p : Program) (l : Launch) (e : Env) (R : Room) (s : State) (m : MethodId) (args : Array Value) (below : List Frame) (meth : Method) (c : Code) (H : Heap) (locs : List Loc) (cells slots : Nat) (Q : State → Prop) (g : JFrame) (E text : String) : Prop :=
  ∀ T : State, T.heap = H → Stand p l e R s m args below meth c T locs cells slots → ∃ t, Steps p.tables e below ((T.setTop g).pushFrame (.throwNew E (some text) none)) t ∧ Q t
theorem vx_vm {pc : Nat} {ls : Array Slot} {rest : List Value} {Q : State → Prop} (hexec : p.tables.exec = Jvm.exec) (hl : l.stackTraces = false) {cls text : String} {names : List String} {nb : Nat} {A : Nat → Prop}
    (hcls : Bundle.fit cls = true) (hnames : ∀ n ∈ names, Bundle.fit n = true) (hsoe : (cls == "java/lang/StackOverflowError") = false) (hoom : (cls == "java/lang/OutOfMemoryError") = false)
    (hat : ∀ w ∈ vx_atM cls names, w.before args s = true) (hgood : ∀ w ∈ vx_atM cls names, vx_ot w = true)
    (hU : vx_Zq Bundle.tN "UNASSIGNED_STACK" Bundle.steD A s s.heap) (hN : vx_Zq Bundle.tN "SUPPRESSED_SENTINEL" Bundle.listD A s s.heap) (hS : va_S A s.heap H locs) (hsize : ls.size = c.maxLocals)
    (htext : (text == notModelled) = false) (hnb : (stringBytes (stringToUtf16 text)).size ≤ nb) (hnb1 : nb ≤ 1000)
    (hRframes : names.length + 4 < R.frames) (hRlocals : (rest.map fun v => v.category).sum + 10240 ≤ R.locals) (hshort : 13 * names.length + 55 ≤ 10240) (hRcells : cells + 3 ≤ R.cells) (hRslots : slots + (nb + 10) ≤ R.slots) (hlocks : meth.locks = false)
    (k : ∀ (H1 : Heap) (q9 : Addr) (ce : Cell), H.size ≤ H1.size → (∀ q : Nat, q < H.size → H1[q]? = H[q]?) → va_S A s.heap H1 locs → H1[q9]? = some ce → ce.vm = .none → s.vm.findClass cls = some ce.cls → vx_W p l e R s m args below meth c H1 locs (cells + 3) (slots + (nb + 10)) Q (F0 m pc ls rest) q9) :
    vx_Note p l e R s m args below meth c H locs cells slots Q (F0 m pc ls rest) cls text := by
  intro T hT X
  have htr : e.platform.stackTraces = false := (show e.platform.stackTraces = l.stackTraces by rw [X.admits.platform]).trans hl
  have Y := vx_rebase X (R' := { frames := R.frames, locals := R.locals, cells := 3, slots := nb + 10 }) (Nat.le_refl _) (Nat.le_refl _) hRcells hRslots
  have hhp : ((T.setVm s.vm).setFrames (.invoking m args :: below)).heap = H := hT
  have hW0 : s.WarmedH ((T.setVm s.vm).setFrames (.invoking m args :: below)).vm := State.WarmedH.refl s
  have hat' : ∀ w ∈ vx_atM cls names, w.before args ((T.setVm s.vm).setFrames (.invoking m args :: below)) = true := fun w hw => vx_ot_at hW0 rfl (hgood w hw) (hat w hw)
  have hU' : vx_Zq Bundle.tN "UNASSIGNED_STACK" Bundle.steD A ((T.setVm s.vm).setFrames (.invoking m args :: below)) ((T.setVm s.vm).setFrames (.invoking m args :: below)).heap := by rw [hhp]; exact vx_Zq.moved hW0.alike (hU.kept hS.2.1)
  have hN' : vx_Zq Bundle.tN "SUPPRESSED_SENTINEL" Bundle.listD A ((T.setVm s.vm).setFrames (.invoking m args :: below)) ((T.setVm s.vm).setFrames (.invoking m args :: below)).heap := by rw [hhp]; exact vx_Zq.moved hW0.alike (hN.kept hS.2.1)
  obtain ⟨S, q, ce, st, Z, hce, hcl', hv⟩ := vx_vmAt Y hexec htr (cls := cls) (names := names) (text := text) hcls hnames hsoe hoom (vx_own hat' (vx_isRefq hU'.1) (vx_isRefq hN'.1) hU'.2.word hN'.2.word) (fun x hx => nomatch hx) htext
    (by rw [Launch.admits_arrayLengthLimit X.admits]; omega) (by rw [Launch.admits_maxHeapBytes X.admits]; simp only [componentBytes]; omega)
    (g := F0 m pc ls rest) rfl hsize hRframes (by show 2 * 0 + (rest.map fun v => v.category).sum + 10240 ≤ R.locals; omega) hshort (by show 0 + 3 ≤ 3; omega) (by show 0 + (_ + 4 + 6) ≤ nb + 10; omega) hlocks
  obtain ⟨f1, f2⟩ := vx_frame Z.same
  have f1' : H.size ≤ S.heap.size := by rw [← hT]; exact f1
  have f2' : ∀ q : Nat, q < H.size → S.heap[q]? = H[q]? := fun q hq => by
    rw [← hT]
    exact f2 q (by rw [← hT] at hq; exact hq) (fun z hz => nomatch hz)
  have X5 := vx_back9 X Y Z
  have X6 : Stand p l e R s m args below meth c S locs (cells + 3) (slots + (nb + 10)) := { X5 with same := X5.same.mono (by omega) (by omega) }
  obtain ⟨t, a1, b1⟩ := k S.heap q ce f1' f2' ⟨Nat.le_trans hS.1 f1', fun q h1 h2 => (f2' q (Nat.lt_of_lt_of_le h1 hS.1)).trans (hS.2.1 q h1 h2), hS.2.2⟩ hce hv hcl' S rfl X6
  exact ⟨t, st t a1, b1⟩
/-- from the machine's note that NullPointerException is thrown here -/
def vx_NoteN (p : Program) (l : Launch) (e : Env) (R : Room) (s : State) (m : MethodId) (args : Array Value) (below : List Frame) (meth : Method) (c : Code) (H : Heap) (locs : List Loc) (cells slots : Nat) (Q : State → Prop) (g : JFrame) : Prop :=
  ∀ T : State, T.heap = H → Stand p l e R s m args below meth c T locs cells slots → ∃ t, Steps p.tables e below ((T.setTop g).pushFrame (.throwNew "java/lang/NullPointerException" none none)) t ∧ Q t
theorem vx_npe {pc : Nat} {ls : Array Slot} {rest : List Value} {Q : State → Prop} (hexec : p.tables.exec = Jvm.exec) (hl : l.stackTraces = false) {nb : Nat} {A : Nat → Prop}
    (hat : ∀ w ∈ vx_atN nb, w.before args s = true) (hgood : ∀ w ∈ vx_atN nb, vx_ot w = true)
    (hU : vx_Zq Bundle.tN "UNASSIGNED_STACK" Bundle.steD A s s.heap) (hN : vx_Zq Bundle.tN "SUPPRESSED_SENTINEL" Bundle.listD A s s.heap) (hS : va_S A s.heap H locs) (hsize : ls.size = c.maxLocals)
    (hRframes : 7 < R.frames) (hRlocals : (rest.map fun v => v.category).sum + 10240 ≤ R.locals) (hRcells : cells + 1 ≤ R.cells) (hRslots : slots + nb ≤ R.slots) (hlocks : meth.locks = false)
    (k : ∀ (H1 : Heap) (q9 : Addr) (ce : Cell), H.size ≤ H1.size → (∀ q : Nat, q < H.size → H1[q]? = H[q]?) → va_S A s.heap H1 locs → H1[q9]? = some ce → ce.vm = .none → s.vm.findClass "java/lang/NullPointerException" = some ce.cls → vx_W p l e R s m args below meth c H1 locs (cells + 1) (slots + nb) Q (F0 m pc ls rest) q9) :
    vx_NoteN p l e R s m args below meth c H locs cells slots Q (F0 m pc ls rest) := by
  intro T hT X
  have htr : e.platform.stackTraces = false := (show e.platform.stackTraces = l.stackTraces by rw [X.admits.platform]).trans hl
  have Y := vx_rebase X (R' := { frames := R.frames, locals := R.locals, cells := 1, slots := nb }) (Nat.le_refl _) (Nat.le_refl _) hRcells hRslots
  have hhp : ((T.setVm s.vm).setFrames (.invoking m args :: below)).heap = H := hT
  have hW0 : s.WarmedH ((T.setVm s.vm).setFrames (.invoking m args :: below)).vm := State.WarmedH.refl s
  have hat' : ∀ w ∈ vx_atN nb, w.before args ((T.setVm s.vm).setFrames (.invoking m args :: below)) = true := fun w hw => vx_ot_at hW0 rfl (hgood w hw) (hat w hw)
  have hU' : vx_Zq Bundle.tN "UNASSIGNED_STACK" Bundle.steD A ((T.setVm s.vm).setFrames (.invoking m args :: below)) ((T.setVm s.vm).setFrames (.invoking m args :: below)).heap := by rw [hhp]; exact vx_Zq.moved hW0.alike (hU.kept hS.2.1)
  have hN' : vx_Zq Bundle.tN "SUPPRESSED_SENTINEL" Bundle.listD A ((T.setVm s.vm).setFrames (.invoking m args :: below)) ((T.setVm s.vm).setFrames (.invoking m args :: below)).heap := by rw [hhp]; exact vx_Zq.moved hW0.alike (hN.kept hS.2.1)
  obtain ⟨S, q, ce, st, Z, hce, hcl', hv⟩ := vx_npeAt Y hexec htr (n := nb) (vx_own hat' (vx_isRefq hU'.1) (vx_isRefq hN'.1) hU'.2.word hN'.2.word) (fun x hx => nomatch hx)
    (g := F0 m pc ls rest) rfl hsize hRframes (by show 2 * 0 + (rest.map fun v => v.category).sum + 10240 ≤ R.locals; omega) (by show 0 + 1 ≤ 1; omega) (by show 0 + nb ≤ nb; omega) hlocks
  obtain ⟨f1, f2⟩ := vx_frame Z.same
  have f1' : H.size ≤ S.heap.size := by rw [← hT]; exact f1
  have f2' : ∀ q : Nat, q < H.size → S.heap[q]? = H[q]? := fun q hq => by
    rw [← hT]
    exact f2 q (by rw [← hT] at hq; exact hq) (fun z hz => nomatch hz)
  have X5 := vx_back9 X Y Z
  have X6 : Stand p l e R s m args below meth c S locs (cells + 1) (slots + nb) := { X5 with same := X5.same.mono (by omega) (by omega) }
  obtain ⟨t, a1, b1⟩ := k S.heap q ce f1' f2' ⟨Nat.le_trans hS.1 f1', fun q h1 h2 => (f2' q (Nat.lt_of_lt_of_le h1 hS.1)).trans (hS.2.1 q h1 h2), hS.2.2⟩ hce hv hcl' S rfl X6
  exact ⟨t, st t a1, b1⟩
variable {Q : State → Prop} {cc : ByteArray} {pc : Nat} {ls : Array Slot} {rest : List Value}
theorem vx_idivZ (hexec : p.tables.exec = Jvm.exec) (hb : c.code = cc) {a b : Int32} (h0 : b = 0) (d : decode cc pc = .ok (.idiv, 1)) (k : vx_Note p l e R s m args below meth c H locs cells slots Q (F0 m pc ls rest) "java/lang/ArithmeticException" "/ by zero") :
    W p l e R s m args below meth c H locs cells slots Q (F0 m pc ls (.int b :: .int a :: rest)) := by
  intro T hT X
  obtain ⟨t, st, q⟩ := k T hT X
  exact ⟨t, X.idivZero hexec (g := F0 m pc ls (.int b :: .int a :: rest)) rfl (a := a) (rest := rest) (by rw [h0]) (by rw [hb]; exact d) t st, q⟩
theorem vx_iremZ (hexec : p.tables.exec = Jvm.exec) (hb : c.code = cc) {a b : Int32} (h0 : b = 0) (d : decode cc pc = .ok (.irem, 1)) (k : vx_Note p l e R s m args below meth c H locs cells slots Q (F0 m pc ls rest) "java/lang/ArithmeticException" "/ by zero") :
    W p l e R s m args below meth c H locs cells slots Q (F0 m pc ls (.int b :: .int a :: rest)) := by
  intro T hT X
  obtain ⟨t, st, q⟩ := k T hT X
  exact ⟨t, X.iremZero hexec (g := F0 m pc ls (.int b :: .int a :: rest)) rfl (a := a) (rest := rest) (by rw [h0]) (by rw [hb]; exact d) t st, q⟩
theorem vx_ldivZ (hexec : p.tables.exec = Jvm.exec) (hb : c.code = cc) {a b : Int64} (h0 : b = 0) (d : decode cc pc = .ok (.ldiv, 1)) (k : vx_Note p l e R s m args below meth c H locs cells slots Q (F0 m pc ls rest) "java/lang/ArithmeticException" "/ by zero") :
    W p l e R s m args below meth c H locs cells slots Q (F0 m pc ls (.long b :: .long a :: rest)) := by
  intro T hT X
  obtain ⟨t, st, q⟩ := k T hT X
  exact ⟨t, X.ldivZero hexec (g := F0 m pc ls (.long b :: .long a :: rest)) rfl (a := a) (rest := rest) (by rw [h0]) (by rw [hb]; exact d) t st, q⟩
theorem vx_lremZ (hexec : p.tables.exec = Jvm.exec) (hb : c.code = cc) {a b : Int64} (h0 : b = 0) (d : decode cc pc = .ok (.lrem, 1)) (k : vx_Note p l e R s m args below meth c H locs cells slots Q (F0 m pc ls rest) "java/lang/ArithmeticException" "/ by zero") :
    W p l e R s m args below meth c H locs cells slots Q (F0 m pc ls (.long b :: .long a :: rest)) := by
  intro T hT X
  obtain ⟨t, st, q⟩ := k T hT X
  exact ⟨t, X.lremZero hexec (g := F0 m pc ls (.long b :: .long a :: rest)) rfl (a := a) (rest := rest) (by rw [h0]) (by rw [hb]; exact d) t st, q⟩
theorem vx_ialdZ {D : va_G} {cl : List vw_C} {ws : va_W} {tys : List (ClassId × FieldType)} {a : Nat} (hexec : p.tables.exec = Jvm.exec) (hb : c.code = cc) (hK : va_K D cl tys s) (hP : va_P D cl ws H) (q0 t0 : Nat) {cA : ClassId} {n : Nat} {f : Nat → Int32} (ha : ws[q0]? = some (a, .inl (cA, n, .inl f))) (ht : tys[t0]? = some (cA, .int)) {i : Int32} (hout : ¬ vp_in i n) (hdg : decode cc pc = .ok (.iaload, 1))
    (k : ∀ tx : String, tx = (toString "Index " ++ toString i ++ toString " out of bounds for length " ++ toString n : String) → vx_Note p l e R s m args below meth c H locs cells slots Q (F0 m pc ls rest) "java/lang/ArrayIndexOutOfBoundsException" tx) : W p l e R s m args below meth c H locs cells slots Q (F0 m pc ls (.int i :: .ref a :: rest)) := by
  intro T hT X
  obtain ⟨t, st, q⟩ := k _ rfl T hT X
  refine ⟨t, ?_, q⟩
  have h1 := X.ialoadOut hexec (by rw [hT]; exact hP q0 _ ha) ((hK.2 t0 _ ht).1 n (fun j => .int (f j))) (j := i) (by show (i < 0 ∨ (arrV _ _ _).slots.size ≤ _); rw [arrV_size]; exact Classical.byContradiction hout) (g := F0 m pc ls (.int i :: .ref a :: rest)) rfl (rest := rest) rfl (by rw [hb]; exact hdg) t
  simp only [arrV_size] at h1
  exact h1 st
theorem vx_iastZ {D : va_G} {cl : List vw_C} {ws : va_W} {tys : List (ClassId × FieldType)} {a : Nat} (hexec : p.tables.exec = Jvm.exec) (hb : c.code = cc) (hK : va_K D cl tys s) (hP : va_P D cl ws H) (q0 t0 : Nat) {cA : ClassId} {n : Nat} {f : Nat → Int32} (ha : ws[q0]? = some (a, .inl (cA, n, .inl f))) (ht : tys[t0]? = some (cA, .int)) {i : Int32} {x : Int32} (hout : ¬ vp_in i n) (hdg : decode cc pc = .ok (.iastore, 1))
    (k : ∀ tx : String, tx = (toString "Index " ++ toString i ++ toString " out of bounds for length " ++ toString n : String) → vx_Note p l e R s m args below meth c H locs cells slots Q (F0 m pc ls rest) "java/lang/ArrayIndexOutOfBoundsException" tx) : W p l e R s m args below meth c H locs cells slots Q (F0 m pc ls (.int x :: .int i :: .ref a :: rest)) := by
  intro T hT X
  obtain ⟨t, st, q⟩ := k _ rfl T hT X
  refine ⟨t, ?_, q⟩
  have h1 := X.iastoreOut hexec (by rw [hT]; exact hP q0 _ ha) ((hK.2 t0 _ ht).1 n (fun j => .int (f j))) (j := i) (by show (i < 0 ∨ (arrV _ _ _).slots.size ≤ _); rw [arrV_size]; exact Classical.byContradiction hout) (g := F0 m pc ls (.int x :: .int i :: .ref a :: rest)) rfl (rest := rest) rfl (by rw [hb]; exact hdg) t
  simp only [arrV_size] at h1
  exact h1 st
theorem vx_baldZ {D : va_G} {cl : List vw_C} {ws : va_W} {tys : List (ClassId × FieldType)} {a : Nat} (hexec : p.tables.exec = Jvm.exec) (hb : c.code = cc) (hK : va_K D cl tys s) (hP : va_P D cl ws H) (q0 t0 : Nat) {cA : ClassId} {n : Nat} {f : Nat → Int32} (ha : ws[q0]? = some (a, .inl (cA, n, .inl f))) (ht : tys[t0]? = some (cA, .byte)) {i : Int32} (hout : ¬ vp_in i n) (hdg : decode cc pc = .ok (.baload, 1))
    (k : ∀ tx : String, tx = (toString "Index " ++ toString i ++ toString " out of bounds for length " ++ toString n : String) → vx_Note p l e R s m args below meth c H locs cells slots Q (F0 m pc ls rest) "java/lang/ArrayIndexOutOfBoundsException" tx) : W p l e R s m args below meth c H locs cells slots Q (F0 m pc ls (.int i :: .ref a :: rest)) := by
  intro T hT X
  obtain ⟨t, st, q⟩ := k _ rfl T hT X
  refine ⟨t, ?_, q⟩
  have h1 := X.baloadOut hexec (by rw [hT]; exact hP q0 _ ha) ((hK.2 t0 _ ht).1 n (fun j => .int (f j))) (j := i) (by show (i < 0 ∨ (arrV _ _ _).slots.size ≤ _); rw [arrV_size]; exact Classical.byContradiction hout) (g := F0 m pc ls (.int i :: .ref a :: rest)) rfl (rest := rest) rfl (by rw [hb]; exact hdg) t
  simp only [arrV_size] at h1
  exact h1 st
theorem vx_bastZ {D : va_G} {cl : List vw_C} {ws : va_W} {tys : List (ClassId × FieldType)} {a : Nat} (hexec : p.tables.exec = Jvm.exec) (hb : c.code = cc) (hK : va_K D cl tys s) (hP : va_P D cl ws H) (q0 t0 : Nat) {cA : ClassId} {n : Nat} {f : Nat → Int32} (ha : ws[q0]? = some (a, .inl (cA, n, .inl f))) (ht : tys[t0]? = some (cA, .byte)) {i : Int32} {x : Int32} (hout : ¬ vp_in i n) (hdg : decode cc pc = .ok (.bastore, 1))
    (k : ∀ tx : String, tx = (toString "Index " ++ toString i ++ toString " out of bounds for length " ++ toString n : String) → vx_Note p l e R s m args below meth c H locs cells slots Q (F0 m pc ls rest) "java/lang/ArrayIndexOutOfBoundsException" tx) : W p l e R s m args below meth c H locs cells slots Q (F0 m pc ls (.int x :: .int i :: .ref a :: rest)) := by
  intro T hT X
  obtain ⟨t, st, q⟩ := k _ rfl T hT X
  refine ⟨t, ?_, q⟩
  have h1 := X.bastoreOut hexec (by rw [hT]; exact hP q0 _ ha) ((hK.2 t0 _ ht).1 n (fun j => .int (f j))) (j := i) (by show (i < 0 ∨ (arrV _ _ _).slots.size ≤ _); rw [arrV_size]; exact Classical.byContradiction hout) (g := F0 m pc ls (.int x :: .int i :: .ref a :: rest)) rfl (rest := rest) rfl (by rw [hb]; exact hdg) t
  simp only [arrV_size] at h1
  exact h1 st
theorem vx_zaldZ {D : va_G} {cl : List vw_C} {ws : va_W} {tys : List (ClassId × FieldType)} {a : Nat} (hexec : p.tables.exec = Jvm.exec) (hb : c.code = cc) (hK : va_K D cl tys s) (hP : va_P D cl ws H) (q0 t0 : Nat) {cA : ClassId} {n : Nat} {f : Nat → Int32} (ha : ws[q0]? = some (a, .inl (cA, n, .inl f))) (ht : tys[t0]? = some (cA, .boolean)) {i : Int32} (hout : ¬ vp_in i n) (hdg : decode cc pc = .ok (.baload, 1))
    (k : ∀ tx : String, tx = (toString "Index " ++ toString i ++ toString " out of bounds for length " ++ toString n : String) → vx_Note p l e R s m args below meth c H locs cells slots Q (F0 m pc ls rest) "java/lang/ArrayIndexOutOfBoundsException" tx) : W p l e R s m args below meth c H locs cells slots Q (F0 m pc ls (.int i :: .ref a :: rest)) := by
  intro T hT X
  obtain ⟨t, st, q⟩ := k _ rfl T hT X
  refine ⟨t, ?_, q⟩
  have h1 := X.baloadOut hexec (by rw [hT]; exact hP q0 _ ha) ((hK.2 t0 _ ht).1 n (fun j => .int (f j))) (j := i) (by show (i < 0 ∨ (arrV _ _ _).slots.size ≤ _); rw [arrV_size]; exact Classical.byContradiction hout) (g := F0 m pc ls (.int i :: .ref a :: rest)) rfl (rest := rest) rfl (by rw [hb]; exact hdg) t
  simp only [arrV_size] at h1
  exact h1 st
theorem vx_zastZ {D : va_G} {cl : List vw_C} {ws : va_W} {tys : List (ClassId × FieldType)} {a : Nat} (hexec : p.tables.exec = Jvm.exec) (hb : c.code = cc) (hK : va_K D cl tys s) (hP : va_P D cl ws H) (q0 t0 : Nat) {cA : ClassId} {n : Nat} {f : Nat → Int32} (ha : ws[q0]? = some (a, .inl (cA, n, .inl f))) (ht : tys[t0]? = some (cA, .boolean)) {i : Int32} {x : Int32} (hout : ¬ vp_in i n) (hdg : decode cc pc = .ok (.bastore, 1))
    (k : ∀ tx : String, tx = (toString "Index " ++ toString i ++ toString " out of bounds for length " ++ toString n : String) → vx_Note p l e R s m args below meth c H locs cells slots Q (F0 m pc ls rest) "java/lang/ArrayIndexOutOfBoundsException" tx) : W p l e R s m args below meth c H locs cells slots Q (F0 m pc ls (.int x :: .int i :: .ref a :: rest)) := by
  intro T hT X
  obtain ⟨t, st, q⟩ := k _ rfl T hT X
  refine ⟨t, ?_, q⟩
  have h1 := X.bastoreOut hexec (by rw [hT]; exact hP q0 _ ha) ((hK.2 t0 _ ht).1 n (fun j => .int (f j))) (j := i) (by show (i < 0 ∨ (arrV _ _ _).slots.size ≤ _); rw [arrV_size]; exact Classical.byContradiction hout) (g := F0 m pc ls (.int x :: .int i :: .ref a :: rest)) rfl (rest := rest) rfl (by rw [hb]; exact hdg) t
  simp only [arrV_size] at h1
  exact h1 st
theorem vx_caldZ {D : va_G} {cl : List vw_C} {ws : va_W} {tys : List (ClassId × FieldType)} {a : Nat} (hexec : p.tables.exec = Jvm.exec) (hb : c.code = cc) (hK : va_K D cl tys s) (hP : va_P D cl ws H) (q0 t0 : Nat) {cA : ClassId} {n : Nat} {f : Nat → Int32} (ha : ws[q0]? = some (a, .inl (cA, n, .inl f))) (ht : tys[t0]? = some (cA, .char)) {i : Int32} (hout : ¬ vp_in i n) (hdg : decode cc pc = .ok (.caload, 1))
    (k : ∀ tx : String, tx = (toString "Index " ++ toString i ++ toString " out of bounds for length " ++ toString n : String) → vx_Note p l e R s m args below meth c H locs cells slots Q (F0 m pc ls rest) "java/lang/ArrayIndexOutOfBoundsException" tx) : W p l e R s m args below meth c H locs cells slots Q (F0 m pc ls (.int i :: .ref a :: rest)) := by
  intro T hT X
  obtain ⟨t, st, q⟩ := k _ rfl T hT X
  refine ⟨t, ?_, q⟩
  have h1 := X.caloadOut hexec (by rw [hT]; exact hP q0 _ ha) ((hK.2 t0 _ ht).1 n (fun j => .int (f j))) (j := i) (by show (i < 0 ∨ (arrV _ _ _).slots.size ≤ _); rw [arrV_size]; exact Classical.byContradiction hout) (g := F0 m pc ls (.int i :: .ref a :: rest)) rfl (rest := rest) rfl (by rw [hb]; exact hdg) t
  simp only [arrV_size] at h1
  exact h1 st
theorem vx_castZ {D : va_G} {cl : List vw_C} {ws : va_W} {tys : List (ClassId × FieldType)} {a : Nat} (hexec : p.tables.exec = Jvm.exec) (hb : c.code = cc) (hK : va_K D cl tys s) (hP : va_P D cl ws H) (q0 t0 : Nat) {cA : ClassId} {n : Nat} {f : Nat → Int32} (ha : ws[q0]? = some (a, .inl (cA, n, .inl f))) (ht : tys[t0]? = some (cA, .char)) {i : Int32} {x : Int32} (hout : ¬ vp_in i n) (hdg : decode cc pc = .ok (.castore, 1))
    (k : ∀ tx : String, tx = (toString "Index " ++ toString i ++ toString " out of bounds for length " ++ toString n : String) → vx_Note p l e R s m args below meth c H locs cells slots Q (F0 m pc ls rest) "java/lang/ArrayIndexOutOfBoundsException" tx) : W p l e R s m args below meth c H locs cells slots Q (F0 m pc ls (.int x :: .int i :: .ref a :: rest)) := by
  intro T hT X
  obtain ⟨t, st, q⟩ := k _ rfl T hT X
  refine ⟨t, ?_, q⟩
  have h1 := X.castoreOut hexec (by rw [hT]; exact hP q0 _ ha) ((hK.2 t0 _ ht).1 n (fun j => .int (f j))) (j := i) (by show (i < 0 ∨ (arrV _ _ _).slots.size ≤ _); rw [arrV_size]; exact Classical.byContradiction hout) (g := F0 m pc ls (.int x :: .int i :: .ref a :: rest)) rfl (rest := rest) rfl (by rw [hb]; exact hdg) t
  simp only [arrV_size] at h1
  exact h1 st
theorem vx_saldZ {D : va_G} {cl : List vw_C} {ws : va_W} {tys : List (ClassId × FieldType)} {a : Nat} (hexec : p.tables.exec = Jvm.exec) (hb : c.code = cc) (hK : va_K D cl tys s) (hP : va_P D cl ws H) (q0 t0 : Nat) {cA : ClassId} {n : Nat} {f : Nat → Int32} (ha : ws[q0]? = some (a, .inl (cA, n, .inl f))) (ht : tys[t0]? = some (cA, .short)) {i : Int32} (hout : ¬ vp_in i n) (hdg : decode cc pc = .ok (.saload, 1))
    (k : ∀ tx : String, tx = (toString "Index " ++ toString i ++ toString " out of bounds for length " ++ toString n : String) → vx_Note p l e R s m args below meth c H locs cells slots Q (F0 m pc ls rest) "java/lang/ArrayIndexOutOfBoundsException" tx) : W p l e R s m args below meth c H locs cells slots Q (F0 m pc ls (.int i :: .ref a :: rest)) := by
  intro T hT X
  obtain ⟨t, st, q⟩ := k _ rfl T hT X
  refine ⟨t, ?_, q⟩
  have h1 := X.saloadOut hexec (by rw [hT]; exact hP q0 _ ha) ((hK.2 t0 _ ht).1 n (fun j => .int (f j))) (j := i) (by show (i < 0 ∨ (arrV _ _ _).slots.size ≤ _); rw [arrV_size]; exact Classical.byContradiction hout) (g := F0 m pc ls (.int i :: .ref a :: rest)) rfl (rest := rest) rfl (by rw [hb]; exact hdg) t
  simp only [arrV_size] at h1
  exact h1 st
theorem vx_sastZ {D : va_G} {cl : List vw_C} {ws : va_W} {tys : List (ClassId × FieldType)} {a : Nat} (hexec : p.tables.exec = Jvm.exec) (hb : c.code = cc) (hK : va_K D cl tys s) (hP : va_P D cl ws H) (q0 t0 : Nat) {cA : ClassId} {n : Nat} {f : Nat → Int32} (ha : ws[q0]? = some (a, .inl (cA, n, .inl f))) (ht : tys[t0]? = some (cA, .short)) {i : Int32} {x : Int32} (hout : ¬ vp_in i n) (hdg : decode cc pc = .ok (.sastore, 1))
    (k : ∀ tx : String, tx = (toString "Index " ++ toString i ++ toString " out of bounds for length " ++ toString n : String) → vx_Note p l e R s m args below meth c H locs cells slots Q (F0 m pc ls rest) "java/lang/ArrayIndexOutOfBoundsException" tx) : W p l e R s m args below meth c H locs cells slots Q (F0 m pc ls (.int x :: .int i :: .ref a :: rest)) := by
  intro T hT X
  obtain ⟨t, st, q⟩ := k _ rfl T hT X
  refine ⟨t, ?_, q⟩
  have h1 := X.sastoreOut hexec (by rw [hT]; exact hP q0 _ ha) ((hK.2 t0 _ ht).1 n (fun j => .int (f j))) (j := i) (by show (i < 0 ∨ (arrV _ _ _).slots.size ≤ _); rw [arrV_size]; exact Classical.byContradiction hout) (g := F0 m pc ls (.int x :: .int i :: .ref a :: rest)) rfl (rest := rest) rfl (by rw [hb]; exact hdg) t
  simp only [arrV_size] at h1
  exact h1 st
theorem vx_laldZ {D : va_G} {cl : List vw_C} {ws : va_W} {tys : List (ClassId × FieldType)} {a : Nat} (hexec : p.tables.exec = Jvm.exec) (hb : c.code = cc) (hK : va_K D cl tys s) (hP : va_P D cl ws H) (q0 t0 : Nat) {cA : ClassId} {n : Nat} {f : Nat → Int64} (ha : ws[q0]? = some (a, .inl (cA, n, .inr (.inl f)))) (ht : tys[t0]? = some (cA, .long)) {i : Int32} (hout : ¬ vp_in i n) (hdg : decode cc pc = .ok (.laload, 1))
    (k : ∀ tx : String, tx = (toString "Index " ++ toString i ++ toString " out of bounds for length " ++ toString n : String) → vx_Note p l e R s m args below meth c H locs cells slots Q (F0 m pc ls rest) "java/lang/ArrayIndexOutOfBoundsException" tx) : W p l e R s m args below meth c H locs cells slots Q (F0 m pc ls (.int i :: .ref a :: rest)) := by
  intro T hT X
  obtain ⟨t, st, q⟩ := k _ rfl T hT X
  refine ⟨t, ?_, q⟩
  have h1 := X.laloadOut hexec (by rw [hT]; exact hP q0 _ ha) ((hK.2 t0 _ ht).1 n (fun j => .long (f j))) (j := i) (by show (i < 0 ∨ (arrV _ _ _).slots.size ≤ _); rw [arrV_size]; exact Classical.byContradiction hout) (g := F0 m pc ls (.int i :: .ref a :: rest)) rfl (rest := rest) rfl (by rw [hb]; exact hdg) t
  simp only [arrV_size] at h1
  exact h1 st
theorem vx_lastZ {D : va_G} {cl : List vw_C} {ws : va_W} {tys : List (ClassId × FieldType)} {a : Nat} (hexec : p.tables.exec = Jvm.exec) (hb : c.code = cc) (hK : va_K D cl tys s) (hP : va_P D cl ws H) (q0 t0 : Nat) {cA : ClassId} {n : Nat} {f : Nat → Int64} (ha : ws[q0]? = some (a, .inl (cA, n, .inr (.inl f)))) (ht : tys[t0]? = some (cA, .long)) {i : Int32} {x : Int64} (hout : ¬ vp_in i n) (hdg : decode cc pc = .ok (.lastore, 1))
    (k : ∀ tx : String, tx = (toString "Index " ++ toString i ++ toString " out of bounds for length " ++ toString n : String) → vx_Note p l e R s m args below meth c H locs cells slots Q (F0 m pc ls rest) "java/lang/ArrayIndexOutOfBoundsException" tx) : W p l e R s m args below meth c H locs cells slots Q (F0 m pc ls (.long x :: .int i :: .ref a :: rest)) := by
  intro T hT X
  obtain ⟨t, st, q⟩ := k _ rfl T hT X
  refine ⟨t, ?_, q⟩
  have h1 := X.lastoreOut hexec (by rw [hT]; exact hP q0 _ ha) ((hK.2 t0 _ ht).1 n (fun j => .long (f j))) (j := i) (by show (i < 0 ∨ (arrV _ _ _).slots.size ≤ _); rw [arrV_size]; exact Classical.byContradiction hout) (g := F0 m pc ls (.long x :: .int i :: .ref a :: rest)) rfl (rest := rest) rfl (by rw [hb]; exact hdg) t
  simp only [arrV_size] at h1
  exact h1 st
theorem vx_faldZ {D : va_G} {cl : List vw_C} {ws : va_W} {tys : List (ClassId × FieldType)} {a : Nat} (hexec : p.tables.exec = Jvm.exec) (hb : c.code = cc) (hK : va_K D cl tys s) (hP : va_P D cl ws H) (q0 t0 : Nat) {cA : ClassId} {n : Nat} {f : Nat → UInt32} (ha : ws[q0]? = some (a, .inl (cA, n, .inr (.inr (.inl f))))) (ht : tys[t0]? = some (cA, .float)) {i : Int32} (hout : ¬ vp_in i n) (hdg : decode cc pc = .ok (.faload, 1))
    (k : ∀ tx : String, tx = (toString "Index " ++ toString i ++ toString " out of bounds for length " ++ toString n : String) → vx_Note p l e R s m args below meth c H locs cells slots Q (F0 m pc ls rest) "java/lang/ArrayIndexOutOfBoundsException" tx) : W p l e R s m args below meth c H locs cells slots Q (F0 m pc ls (.int i :: .ref a :: rest)) := by
  intro T hT X
  obtain ⟨t, st, q⟩ := k _ rfl T hT X
  refine ⟨t, ?_, q⟩
  have h1 := X.faloadOut hexec (by rw [hT]; exact hP q0 _ ha) ((hK.2 t0 _ ht).1 n (fun j => .float (f j))) (j := i) (by show (i < 0 ∨ (arrV _ _ _).slots.size ≤ _); rw [arrV_size]; exact Classical.byContradiction hout) (g := F0 m pc ls (.int i :: .ref a :: rest)) rfl (rest := rest) rfl (by rw [hb]; exact hdg) t
  simp only [arrV_size] at h1
  exact h1 st
theorem vx_fastZ {D : va_G} {cl : List vw_C} {ws : va_W} {tys : List (ClassId × FieldType)} {a : Nat} (hexec : p.tables.exec = Jvm.exec) (hb : c.code = cc) (hK : va_K D cl tys s) (hP : va_P D cl ws H) (q0 t0 : Nat) {cA : ClassId} {n : Nat} {f : Nat → UInt32} (ha : ws[q0]? = some (a, .inl (cA, n, .inr (.inr (.inl f))))) (ht : tys[t0]? = some (cA, .float)) {i : Int32} {x : UInt32} (hout : ¬ vp_in i n) (hdg : decode cc pc = .ok (.fastore, 1))
    (k : ∀ tx : String, tx = (toString "Index " ++ toString i ++ toString " out of bounds for length " ++ toString n : String) → vx_Note p l e R s m args below meth c H locs cells slots Q (F0 m pc ls rest) "java/lang/ArrayIndexOutOfBoundsException" tx) : W p l e R s m args below meth c H locs cells slots Q (F0 m pc ls (.float x :: .int i :: .ref a :: rest)) := by
  intro T hT X
  obtain ⟨t, st, q⟩ := k _ rfl T hT X
  refine ⟨t, ?_, q⟩
  have h1 := X.fastoreOut hexec (by rw [hT]; exact hP q0 _ ha) ((hK.2 t0 _ ht).1 n (fun j => .float (f j))) (j := i) (by show (i < 0 ∨ (arrV _ _ _).slots.size ≤ _); rw [arrV_size]; exact Classical.byContradiction hout) (g := F0 m pc ls (.float x :: .int i :: .ref a :: rest)) rfl (rest := rest) rfl (by rw [hb]; exact hdg) t
  simp only [arrV_size] at h1
  exact h1 st
theorem vx_daldZ {D : va_G} {cl : List vw_C} {ws : va_W} {tys : List (ClassId × FieldType)} {a : Nat} (hexec : p.tables.exec = Jvm.exec) (hb : c.code = cc) (hK : va_K D cl tys s) (hP : va_P D cl ws H) (q0 t0 : Nat) {cA : ClassId} {n : Nat} {f : Nat → UInt64} (ha : ws[q0]? = some (a, .inl (cA, n, .inr (.inr (.inr (.inl f)))))) (ht : tys[t0]? = some (cA, .double)) {i : Int32} (hout : ¬ vp_in i n) (hdg : decode cc pc = .ok (.daload, 1))
    (k : ∀ tx : String, tx = (toString "Index " ++ toString i ++ toString " out of bounds for length " ++ toString n : String) → vx_Note p l e R s m args below meth c H locs cells slots Q (F0 m pc ls rest) "java/lang/ArrayIndexOutOfBoundsException" tx) : W p l e R s m args below meth c H locs cells slots Q (F0 m pc ls (.int i :: .ref a :: rest)) := by
  intro T hT X
  obtain ⟨t, st, q⟩ := k _ rfl T hT X
  refine ⟨t, ?_, q⟩
  have h1 := X.daloadOut hexec (by rw [hT]; exact hP q0 _ ha) ((hK.2 t0 _ ht).1 n (fun j => .double (f j))) (j := i) (by show (i < 0 ∨ (arrV _ _ _).slots.size ≤ _); rw [arrV_size]; exact Classical.byContradiction hout) (g := F0 m pc ls (.int i :: .ref a :: rest)) rfl (rest := rest) rfl (by rw [hb]; exact hdg) t
  simp only [arrV_size] at h1
  exact h1 st
theorem vx_dastZ {D : va_G} {cl : List vw_C} {ws : va_W} {tys : List (ClassId × FieldType)} {a : Nat} (hexec : p.tables.exec = Jvm.exec) (hb : c.code = cc) (hK : va_K D cl tys s) (hP : va_P D cl ws H) (q0 t0 : Nat) {cA : ClassId} {n : Nat} {f : Nat → UInt64} (ha : ws[q0]? = some (a, .inl (cA, n, .inr (.inr (.inr (.inl f)))))) (ht : tys[t0]? = some (cA, .double)) {i : Int32} {x : UInt64} (hout : ¬ vp_in i n) (hdg : decode cc pc = .ok (.dastore, 1))
    (k : ∀ tx : String, tx = (toString "Index " ++ toString i ++ toString " out of bounds for length " ++ toString n : String) → vx_Note p l e R s m args below meth c H locs cells slots Q (F0 m pc ls rest) "java/lang/ArrayIndexOutOfBoundsException" tx) : W p l e R s m args below meth c H locs cells slots Q (F0 m pc ls (.double x :: .int i :: .ref a :: rest)) := by
  intro T hT X
  obtain ⟨t, st, q⟩ := k _ rfl T hT X
  refine ⟨t, ?_, q⟩
  have h1 := X.dastoreOut hexec (by rw [hT]; exact hP q0 _ ha) ((hK.2 t0 _ ht).1 n (fun j => .double (f j))) (j := i) (by show (i < 0 ∨ (arrV _ _ _).slots.size ≤ _); rw [arrV_size]; exact Classical.byContradiction hout) (g := F0 m pc ls (.double x :: .int i :: .ref a :: rest)) rfl (rest := rest) rfl (by rw [hb]; exact hdg) t
  simp only [arrV_size] at h1
  exact h1 st
theorem vx_arraylengthN (hexec : p.tables.exec = Jvm.exec) (hb : c.code = cc) (hdg : decode cc pc = .ok (.arraylength, 1)) (k : vx_NoteN p l e R s m args below meth c H locs cells slots Q (F0 m pc ls rest)) : W p l e R s m args below meth c H locs cells slots Q (F0 m pc ls (.null :: rest)) := by
  intro T hT X
  obtain ⟨t, st, q⟩ := k T hT X
  exact ⟨t, X.arraylengthNull hexec (g := F0 m pc ls (.null :: rest)) rfl (rest := rest) rfl (by rw [hb]; exact hdg) t st, q⟩
theorem vx_ialoadN (hexec : p.tables.exec = Jvm.exec) (hb : c.code = cc) {i : Int32} (hdg : decode cc pc = .ok (.iaload, 1)) (k : vx_NoteN p l e R s m args below meth c H locs cells slots Q (F0 m pc ls rest)) : W p l e R s m args below meth c H locs cells slots Q (F0 m pc ls (.int i :: .null :: rest)) := by
  intro T hT X
  obtain ⟨t, st, q⟩ := k T hT X
  exact ⟨t, X.ialoadNull hexec (g := F0 m pc ls (.int i :: .null :: rest)) rfl (rest := rest) rfl (by rw [hb]; exact hdg) t st, q⟩
theorem vx_laloadN (hexec : p.tables.exec = Jvm.exec) (hb : c.code = cc) {i : Int32} (hdg : decode cc pc = .ok (.laload, 1)) (k : vx_NoteN p l e R s m args below meth c H locs cells slots Q (F0 m pc ls rest)) : W p l e R s m args below meth c H locs cells slots Q (F0 m pc ls (.int i :: .null :: rest)) := by
  intro T hT X
  obtain ⟨t, st, q⟩ := k T hT X
  exact ⟨t, X.laloadNull hexec (g := F0 m pc ls (.int i :: .null :: rest)) rfl (rest := rest) rfl (by rw [hb]; exact hdg) t st, q⟩
theorem vx_faloadN (hexec : p.tables.exec = Jvm.exec) (hb : c.code = cc) {i : Int32} (hdg : decode cc pc = .ok (.faload, 1)) (k : vx_NoteN p l e R s m args below meth c H locs cells slots Q (F0 m pc ls rest)) : W p l e R s m args below meth c H locs cells slots Q (F0 m pc ls (.int i :: .null :: rest)) := by
  intro T hT X
  obtain ⟨t, st, q⟩ := k T hT X
  exact ⟨t, X.faloadNull hexec (g := F0 m pc ls (.int i :: .null :: rest)) rfl (rest := rest) rfl (by rw [hb]; exact hdg) t st, q⟩
theorem vx_daloadN (hexec : p.tables.exec = Jvm.exec) (hb : c.code = cc) {i : Int32} (hdg : decode cc pc = .ok (.daload, 1)) (k : vx_NoteN p l e R s m args below meth c H locs cells slots Q (F0 m pc ls rest)) : W p l e R s m args below meth c H locs cells slots Q (F0 m pc ls (.int i :: .null :: rest)) := by
  intro T hT X
  obtain ⟨t, st, q⟩ := k T hT X
  exact ⟨t, X.daloadNull hexec (g := F0 m pc ls (.int i :: .null :: rest)) rfl (rest := rest) rfl (by rw [hb]; exact hdg) t st, q⟩
theorem vx_aaloadN (hexec : p.tables.exec = Jvm.exec) (hb : c.code = cc) {i : Int32} (hdg : decode cc pc = .ok (.aaload, 1)) (k : vx_NoteN p l e R s m args below meth c H locs cells slots Q (F0 m pc ls rest)) : W p l e R s m args below meth c H locs cells slots Q (F0 m pc ls (.int i :: .null :: rest)) := by
  intro T hT X
  obtain ⟨t, st, q⟩ := k T hT X
  exact ⟨t, X.aaloadNull hexec (g := F0 m pc ls (.int i :: .null :: rest)) rfl (rest := rest) rfl (by rw [hb]; exact hdg) t st, q⟩
theorem vx_baloadN (hexec : p.tables.exec = Jvm.exec) (hb : c.code = cc) {i : Int32} (hdg : decode cc pc = .ok (.baload, 1)) (k : vx_NoteN p l e R s m args below meth c H locs cells slots Q (F0 m pc ls rest)) : W p l e R s m args below meth c H locs cells slots Q (F0 m pc ls (.int i :: .null :: rest)) := by
  intro T hT X
  obtain ⟨t, st, q⟩ := k T hT X
  exact ⟨t, X.baloadNull hexec (g := F0 m pc ls (.int i :: .null :: rest)) rfl (rest := rest) rfl (by rw [hb]; exact hdg) t st, q⟩
theorem vx_caloadN (hexec : p.tables.exec = Jvm.exec) (hb : c.code = cc) {i : Int32} (hdg : decode cc pc = .ok (.caload, 1)) (k : vx_NoteN p l e R s m args below meth c H locs cells slots Q (F0 m pc ls rest)) : W p l e R s m args below meth c H locs cells slots Q (F0 m pc ls (.int i :: .null :: rest)) := by
  intro T hT X
  obtain ⟨t, st, q⟩ := k T hT X
  exact ⟨t, X.caloadNull hexec (g := F0 m pc ls (.int i :: .null :: rest)) rfl (rest := rest) rfl (by rw [hb]; exact hdg) t st, q⟩
theorem vx_saloadN (hexec : p.tables.exec = Jvm.exec) (hb : c.code = cc) {i : Int32} (hdg : decode cc pc = .ok (.saload, 1)) (k : vx_NoteN p l e R s m args below meth c H locs cells slots Q (F0 m pc ls rest)) : W p l e R s m args below meth c H locs cells slots Q (F0 m pc ls (.int i :: .null :: rest)) := by
  intro T hT X
  obtain ⟨t, st, q⟩ := k T hT X
  exact ⟨t, X.saloadNull hexec (g := F0 m pc ls (.int i :: .null :: rest)) rfl (rest := rest) rfl (by rw [hb]; exact hdg) t st, q⟩
theorem vx_iastoreN (hexec : p.tables.exec = Jvm.exec) (hb : c.code = cc) {x : Int32} {i : Int32} (hdg : decode cc pc = .ok (.iastore, 1)) (k : vx_NoteN p l e R s m args below meth c H locs cells slots Q (F0 m pc ls rest)) : W p l e R s m args below meth c H locs cells slots Q (F0 m pc ls (.int x :: .int i :: .null :: rest)) := by
  intro T hT X
  obtain ⟨t, st, q⟩ := k T hT X
  exact ⟨t, X.iastoreNull hexec (g := F0 m pc ls (.int x :: .int i :: .null :: rest)) rfl (rest := rest) rfl (by rw [hb]; exact hdg) t st, q⟩
theorem vx_lastoreN (hexec : p.tables.exec = Jvm.exec) (hb : c.code = cc) {x : Int64} {i : Int32} (hdg : decode cc pc = .ok (.lastore, 1)) (k : vx_NoteN p l e R s m args below meth c H locs cells slots Q (F0 m pc ls rest)) : W p l e R s m args below meth c H locs cells slots Q (F0 m pc ls (.long x :: .int i :: .null :: rest)) := by
  intro T hT X
  obtain ⟨t, st, q⟩ := k T hT X
  exact ⟨t, X.lastoreNull hexec (g := F0 m pc ls (.long x :: .int i :: .null :: rest)) rfl (rest := rest) rfl (by rw [hb]; exact hdg) t st, q⟩
theorem vx_fastoreN (hexec : p.tables.exec = Jvm.exec) (hb : c.code = cc) {x : UInt32} {i : Int32} (hdg : decode cc pc = .ok (.fastore, 1)) (k : vx_NoteN p l e R s m args below meth c H locs cells slots Q (F0 m pc ls rest)) : W p l e R s m args below meth c H locs cells slots Q (F0 m pc ls (.float x :: .int i :: .null :: rest)) := by
  intro T hT X
  obtain ⟨t, st, q⟩ := k T hT X
  exact ⟨t, X.fastoreNull hexec (g := F0 m pc ls (.float x :: .int i :: .null :: rest)) rfl (rest := rest) rfl (by rw [hb]; exact hdg) t st, q⟩
theorem vx_dastoreN (hexec : p.tables.exec = Jvm.exec) (hb : c.code = cc) {x : UInt64} {i : Int32} (hdg : decode cc pc = .ok (.dastore, 1)) (k : vx_NoteN p l e R s m args below meth c H locs cells slots Q (F0 m pc ls rest)) : W p l e R s m args below meth c H locs cells slots Q (F0 m pc ls (.double x :: .int i :: .null :: rest)) := by
  intro T hT X
  obtain ⟨t, st, q⟩ := k T hT X
  exact ⟨t, X.dastoreNull hexec (g := F0 m pc ls (.double x :: .int i :: .null :: rest)) rfl (rest := rest) rfl (by rw [hb]; exact hdg) t st, q⟩
theorem vx_bastoreN (hexec : p.tables.exec = Jvm.exec) (hb : c.code = cc) {x : Int32} {i : Int32} (hdg : decode cc pc = .ok (.bastore, 1)) (k : vx_NoteN p l e R s m args below meth c H locs cells slots Q (F0 m pc ls rest)) : W p l e R s m args below meth c H locs cells slots Q (F0 m pc ls (.int x :: .int i :: .null :: rest)) := by
  intro T hT X
  obtain ⟨t, st, q⟩ := k T hT X
  exact ⟨t, X.bastoreNull hexec (g := F0 m pc ls (.int x :: .int i :: .null :: rest)) rfl (rest := rest) rfl (by rw [hb]; exact hdg) t st, q⟩
theorem vx_castoreN (hexec : p.tables.exec = Jvm.exec) (hb : c.code = cc) {x : Int32} {i : Int32} (hdg : decode cc pc = .ok (.castore, 1)) (k : vx_NoteN p l e R s m args below meth c H locs cells slots Q (F0 m pc ls rest)) : W p l e R s m args below meth c H locs cells slots Q (F0 m pc ls (.int x :: .int i :: .null :: rest)) := by
  intro T hT X
  obtain ⟨t, st, q⟩ := k T hT X
  exact ⟨t, X.castoreNull hexec (g := F0 m pc ls (.int x :: .int i :: .null :: rest)) rfl (rest := rest) rfl (by rw [hb]; exact hdg) t st, q⟩
theorem vx_sastoreN (hexec : p.tables.exec = Jvm.exec) (hb : c.code = cc) {x : Int32} {i : Int32} (hdg : decode cc pc = .ok (.sastore, 1)) (k : vx_NoteN p l e R s m args below meth c H locs cells slots Q (F0 m pc ls rest)) : W p l e R s m args below meth c H locs cells slots Q (F0 m pc ls (.int x :: .int i :: .null :: rest)) := by
  intro T hT X
  obtain ⟨t, st, q⟩ := k T hT X
  exact ⟨t, X.sastoreNull hexec (g := F0 m pc ls (.int x :: .int i :: .null :: rest)) rfl (rest := rest) rfl (by rw [hb]; exact hdg) t st, q⟩
theorem vx_invokeN {own C : String} {index maxL : Nat} {y : MethodName} {bytes : ByteArray} {ret : Option FieldType} (hexec : p.tables.exec = Jvm.exec) (hb : c.code = cc) (hown : s.vm.findClass own = some m.cls) (hlink : (Cond.methodLink own index y).before args s = true) (hinst : (Cond.instanceMethod y).before args s = true) (hcode : (Cond.code y bytes maxL ret).before args s = true) (hsel : (Cond.selects C y y).before args s = true)
    (hx : y.cls ≠ "java/lang/invoke/MethodHandle" ∧ y.cls ≠ "java/lang/invoke/VarHandle") {As : List Value} (hlen : (parseMethodDescriptor y.desc).map (fun d => d.parameters.length) = some As.length) (hdg : decode cc pc = .ok (.invokevirtual index, 3))
    (k : vx_NoteN p l e R s m args below meth c H locs cells slots Q (F0 m pc ls rest)) {st0 : List Value} (hst : st0 = As.reverse ++ .null :: rest) : W p l e R s m args below meth c H locs cells slots Q (F0 m pc ls st0) := by
  intro T hT X
  obtain ⟨r0, r, hn, hrm, hstR, hsigR⟩ := va_Decl.of hinst hcode
  obtain ⟨c2, r2, m2, q1, q2, q3, q4, kP, hkP, hkPi⟩ := Cond.selects_spec hsel
  cases hn.symm.trans q3
  have hl9 : As.length = r.sig.parameters.length := by
    rw [hsigR] at hlen
    exact (Option.some.inj hlen).symm
  obtain ⟨vm', X1, st1⟩ := X.invokevirtualNull hexec hown hlink hn hrm hstR hkP hkPi hx (g := F0 m pc ls st0) rfl (argsL := As) (rest := rest) hl9 hst (by rw [hb]; exact hdg)
  obtain ⟨t, st, q⟩ := k (T.setVm vm') hT X1
  exact ⟨t, st1 t st, q⟩
theorem vx_newarrayZ {atype : ArrayType} (hexec : p.tables.exec = Jvm.exec) (hb : c.code = cc) {n : Int32} (h0 : n < 0) (hdg : decode cc pc = .ok (.newarray atype, 2)) (k : ∀ tx : String, tx = toString n → vx_Note p l e R s m args below meth c H locs cells slots Q (F0 m pc ls rest) "java/lang/NegativeArraySizeException" tx) : W p l e R s m args below meth c H locs cells slots Q (F0 m pc ls (.int n :: rest)) := by
  intro T hT X
  obtain ⟨t, st, q⟩ := k _ rfl T hT X
  exact ⟨t, X.newarrayNegative hexec (g := F0 m pc ls (.int n :: rest)) rfl h0 (rest := rest) rfl (by rw [hb]; exact hdg) t st, q⟩
end
end VXM
/-! ===== END ===== -/
end
section
/-! ===== BEGIN printed: names, fields, word lists, decode rows ===== -/
def RX0 : String := "WordArithmetic"
def TX0 : u_T := fun k => match k with
  | _ => ("WordArithmetic", "held", "I", false)
def tyX0 : Nat → FieldType := fun k => match k with
  | _ => .int
abbrev wsX00 : List Cond := u_ws RX0 TX0 1
theorem nmX0 : ∀ a, a < 1 → ∀ b, b < 1 → a ≠ b → (TX0 a).2.1 ≠ (TX0 b).2.1 := by decide +kernel
theorem tyX0_ok : ∀ k, k < 1 → parseFieldDescriptor (TX0 k).2.2.1 = some (tyX0 k) := by decide +kernel
abbrev cX0_init : ByteArray := prog_1_method_1_code
def yX0_init : MethodName := ⟨RX0, "<init>", "()V"⟩
abbrev cX0_set : ByteArray := prog_1_method_2_code
def yX0_set : MethodName := ⟨RX0, "set", "(I)V"⟩
abbrev cX0_flags : ByteArray := prog_1_method_3_code
def yX0_flags : MethodName := ⟨RX0, "flags", "()I"⟩
abbrev cX0_operate : ByteArray := prog_1_method_4_code
def yX0_operate : MethodName := ⟨RX0, "operate", "(IZII)I"⟩
abbrev cX0_shift : ByteArray := prog_1_method_5_code
def yX0_shift : MethodName := ⟨RX0, "shift", "(IZII)I"⟩
abbrev cX0_multiply : ByteArray := prog_1_method_6_code
def yX0_multiply : MethodName := ⟨RX0, "multiply", "(ZZII)I"⟩
abbrev cX0_divide : ByteArray := prog_1_method_7_code
def yX0_divide : MethodName := ⟨RX0, "divide", "(ZZII)I"⟩
abbrev cX0_adjust : ByteArray := prog_1_method_8_code
def yX0_adjust : MethodName := ⟨RX0, "adjust", "(III)I"⟩
abbrev cX0_extend : ByteArray := prog_1_method_9_code
def yX0_extend : MethodName := ⟨RX0, "extend", "(ZI)I"⟩
abbrev cX0_holds : ByteArray := prog_1_method_10_code
def yX0_holds : MethodName := ⟨RX0, "holds", "(I)Z"⟩
abbrev cX0_isSet : ByteArray := prog_1_method_11_code
def yX0_isSet : MethodName := ⟨RX0, "isSet", "(I)Z"⟩
abbrev cX0_put : ByteArray := prog_1_method_12_code
def yX0_put : MethodName := ⟨RX0, "put", "(IZ)V"⟩
abbrev cX0_goByAnswer : ByteArray := prog_1_method_13_code
def yX0_goByAnswer : MethodName := ⟨RX0, "goByAnswer", "(ZI)V"⟩
abbrev cX0_isLess : ByteArray := prog_1_method_14_code
def yX0_isLess : MethodName := ⟨RX0, "isLess", "()Z"⟩
abbrev cX0_width : ByteArray := prog_1_method_15_code
def yX0_width : MethodName := ⟨RX0, "width", "(Z)I"⟩
abbrev cX0_mask : ByteArray := prog_1_method_16_code
def yX0_mask : MethodName := ⟨RX0, "mask", "(Z)I"⟩
abbrev cX0_highestBit : ByteArray := prog_1_method_17_code
def yX0_highestBit : MethodName := ⟨RX0, "highestBit", "(Z)I"⟩
abbrev cX0_hasHighestBit : ByteArray := prog_1_method_18_code
def yX0_hasHighestBit : MethodName := ⟨RX0, "hasHighestBit", "(ZI)Z"⟩
abbrev cX0_operand : ByteArray := prog_1_method_19_code
def yX0_operand : MethodName := ⟨RX0, "operand", "(ZI)I"⟩
abbrev cX0_signedValue : ByteArray := prog_1_method_20_code
def yX0_signedValue : MethodName := ⟨RX0, "signedValue", "(ZI)I"⟩
abbrev cX0_valueOf : ByteArray := prog_1_method_21_code
def yX0_valueOf : MethodName := ⟨RX0, "valueOf", "(ZZI)I"⟩
abbrev cX0_valueTwiceAsLong : ByteArray := prog_1_method_22_code
def yX0_valueTwiceAsLong : MethodName := ⟨RX0, "valueTwiceAsLong", "(ZZI)J"⟩
abbrev cX0_sum : ByteArray := prog_1_method_23_code
def yX0_sum : MethodName := ⟨RX0, "sum", "(ZIII)I"⟩
abbrev cX0_difference : ByteArray := prog_1_method_24_code
def yX0_difference : MethodName := ⟨RX0, "difference", "(ZIII)I"⟩
abbrev cX0_logic : ByteArray := prog_1_method_25_code
def yX0_logic : MethodName := ⟨RX0, "logic", "(ZI)I"⟩
abbrev cX0_oneMore : ByteArray := prog_1_method_26_code
def yX0_oneMore : MethodName := ⟨RX0, "oneMore", "(ZI)I"⟩
abbrev cX0_oneLess : ByteArray := prog_1_method_27_code
def yX0_oneLess : MethodName := ⟨RX0, "oneLess", "(ZI)I"⟩
abbrev cX0_putOverflow : ByteArray := prog_1_method_28_code
def yX0_putOverflow : MethodName := ⟨RX0, "putOverflow", "(ZI)V"⟩
abbrev cX0_kept : ByteArray := prog_1_method_29_code
def yX0_kept : MethodName := ⟨RX0, "kept", "(ZI)I"⟩
abbrev cX0_leftByOne : ByteArray := prog_1_method_30_code
def yX0_leftByOne : MethodName := ⟨RX0, "leftByOne", "(IZI)I"⟩
abbrev cX0_rightByOne : ByteArray := prog_1_method_31_code
def yX0_rightByOne : MethodName := ⟨RX0, "rightByOne", "(IZI)I"⟩
abbrev cX0_comesInFromLeft : ByteArray := prog_1_method_32_code
def yX0_comesInFromLeft : MethodName := ⟨RX0, "comesInFromLeft", "(IZZ)Z"⟩
abbrev cX0_isQuotient : ByteArray := prog_1_method_33_code
def yX0_isQuotient : MethodName := ⟨RX0, "isQuotient", "(ZZJ)Z"⟩
abbrev cX0_adjustedSum : ByteArray := prog_1_method_34_code
def yX0_adjustedSum : MethodName := ⟨RX0, "adjustedSum", "(I)I"⟩
abbrev cX0_adjustedDifference : ByteArray := prog_1_method_35_code
def yX0_adjustedDifference : MethodName := ⟨RX0, "adjustedDifference", "(I)I"⟩
abbrev cX0_adjustedDigit : ByteArray := prog_1_method_36_code
def yX0_adjustedDigit : MethodName := ⟨RX0, "adjustedDigit", "(III)I"⟩
abbrev cX0_needsLowerGap : ByteArray := prog_1_method_37_code
def yX0_needsLowerGap : MethodName := ⟨RX0, "needsLowerGap", "(I)Z"⟩
abbrev cX0_needsUpperGap : ByteArray := prog_1_method_38_code
def yX0_needsUpperGap : MethodName := ⟨RX0, "needsUpperGap", "(I)Z"⟩
abbrev cX0_gap : ByteArray := prog_1_method_39_code
def yX0_gap : MethodName := ⟨RX0, "gap", "(ZZ)I"⟩
abbrev cX0_adjustedByte : ByteArray := prog_1_method_40_code
def yX0_adjustedByte : MethodName := ⟨RX0, "adjustedByte", "(I)I"⟩
abbrev cX0_joined : ByteArray := prog_1_method_41_code
def yX0_joined : MethodName := ⟨RX0, "joined", "(II)I"⟩
def RX1 : String := "WordArithmeticModel"
def TX1 : u_T := fun k => match k with
  | 0 => ("WordArithmeticModel", "code", "I", false)
  | 1 => ("WordArithmeticModel", "flags", "I", false)
  | _ => ("WordArithmeticModel", "all", "I", false)
def tyX1 : Nat → FieldType := fun k => match k with
  | 0 => .int
  | 1 => .int
  | _ => .int
abbrev wsX10 : List Cond := u_ws RX1 TX1 3
theorem nmX1 : ∀ a, a < 3 → ∀ b, b < 3 → a ≠ b → (TX1 a).2.1 ≠ (TX1 b).2.1 := by decide +kernel
theorem tyX1_ok : ∀ k, k < 3 → parseFieldDescriptor (TX1 k).2.2.1 = some (tyX1 k) := by decide +kernel
abbrev cX1_init : ByteArray := prog_3_method_1_code
def yX1_init : MethodName := ⟨RX1, "<init>", "()V"⟩
abbrev cX1_thrown : ByteArray := prog_3_method_2_code
def yX1_thrown : MethodName := ⟨RX1, "thrown", "()I"⟩
abbrev cX1_length : ByteArray := prog_3_method_3_code
def yX1_length : MethodName := ⟨RX1, "length", "(Z)V"⟩
abbrev cX1_is : ByteArray := prog_3_method_4_code
def yX1_is : MethodName := ⟨RX1, "is", "(I)Z"⟩
abbrev cX1_put : ByteArray := prog_3_method_5_code
def yX1_put : MethodName := ⟨RX1, "put", "(IZ)V"⟩
abbrev cX1_operand : ByteArray := prog_3_method_6_code
def yX1_operand : MethodName := ⟨RX1, "operand", "(I)I"⟩
abbrev cX1_signed : ByteArray := prog_3_method_7_code
def yX1_signed : MethodName := ⟨RX1, "signed", "(I)I"⟩
abbrev cX1_set : ByteArray := prog_3_method_8_code
def yX1_set : MethodName := ⟨RX1, "set", "(I)V"⟩
abbrev cX1_flags : ByteArray := prog_3_method_9_code
def yX1_flags : MethodName := ⟨RX1, "flags", "()I"⟩
abbrev cX1_byAnswer : ByteArray := prog_3_method_10_code
def yX1_byAnswer : MethodName := ⟨RX1, "byAnswer", "(I)V"⟩
abbrev cX1_sum : ByteArray := prog_3_method_11_code
def yX1_sum : MethodName := ⟨RX1, "sum", "(III)I"⟩
abbrev cX1_difference : ByteArray := prog_3_method_12_code
def yX1_difference : MethodName := ⟨RX1, "difference", "(III)I"⟩
abbrev cX1_logic : ByteArray := prog_3_method_13_code
def yX1_logic : MethodName := ⟨RX1, "logic", "(III)I"⟩
abbrev cX1_operate : ByteArray := prog_3_method_14_code
def yX1_operate : MethodName := ⟨RX1, "operate", "(IZII)I"⟩
abbrev cX1_once : ByteArray := prog_3_method_15_code
def yX1_once : MethodName := ⟨RX1, "once", "(II)I"⟩
abbrev cX1_shift : ByteArray := prog_3_method_16_code
def yX1_shift : MethodName := ⟨RX1, "shift", "(IZII)I"⟩
abbrev cX1_multiply : ByteArray := prog_3_method_17_code
def yX1_multiply : MethodName := ⟨RX1, "multiply", "(ZZII)I"⟩
abbrev cX1_divide : ByteArray := prog_3_method_18_code
def yX1_divide : MethodName := ⟨RX1, "divide", "(ZZII)I"⟩
abbrev cX1_byteOf : ByteArray := prog_3_method_19_code
def yX1_byteOf : MethodName := ⟨RX1, "byteOf", "(I)I"⟩
abbrev cX1_adjust : ByteArray := prog_3_method_20_code
def yX1_adjust : MethodName := ⟨RX1, "adjust", "(III)I"⟩
abbrev cX1_extend : ByteArray := prog_3_method_21_code
def yX1_extend : MethodName := ⟨RX1, "extend", "(ZI)I"⟩
abbrev cX1_holds : ByteArray := prog_3_method_22_code
def yX1_holds : MethodName := ⟨RX1, "holds", "(I)Z"⟩
def RJ6 : String := "java/lang/Integer"
def TJ6 : u_T := fun k => match k with
  | _ => ("", "", "", false)
def tyJ6 : Nat → FieldType := fun k => match k with
  | _ => .int
abbrev wsJ60 : List Cond := u_ws RJ6 TJ6 0
theorem nmJ6 : ∀ a, a < 0 → ∀ b, b < 0 → a ≠ b → (TJ6 a).2.1 ≠ (TJ6 b).2.1 := by decide +kernel
theorem tyJ6_ok : ∀ k, k < 0 → parseFieldDescriptor (TJ6 k).2.2.1 = some (tyJ6 k) := by decide +kernel
abbrev cJ6_bitCount_0f7a4 : ByteArray := prog_7_method_49_code
def yJ6_bitCount_0f7a4 : MethodName := ⟨RJ6, "bitCount", "(I)I"⟩
def RJ0 : String := "java/lang/String"
def TJ0 : u_T := fun k => match k with
  | 0 => ("java/lang/String", "value", "[B", true)
  | _ => ("java/lang/String", "coder", "B", true)
def tyJ0 : Nat → FieldType := fun k => match k with
  | 0 => .array .byte
  | _ => .byte
abbrev wsJ00 : List Cond := u_ws RJ0 TJ0 2
theorem nmJ0 : ∀ a, a < 2 → ∀ b, b < 2 → a ≠ b → (TJ0 a).2.1 ≠ (TJ0 b).2.1 := by decide +kernel
theorem tyJ0_ok : ∀ k, k < 2 → parseFieldDescriptor (TJ0 k).2.2.1 = some (tyJ0 k) := by decide +kernel
def RL : String := "WordArithmeticLaw"
abbrev cL_operate : ByteArray := method_3_code
def yL_operate : MethodName := ⟨RL, "operate", "(LWordArithmetic;IZII[J)I"⟩
abbrev cL_shift : ByteArray := method_4_code
def yL_shift : MethodName := ⟨RL, "shift", "(LWordArithmetic;IZII[J)I"⟩
abbrev cL_divide : ByteArray := method_5_code
def yL_divide : MethodName := ⟨RL, "divide", "(LWordArithmetic;ZZII[J)I"⟩
abbrev cL_adjust : ByteArray := method_6_code
def yL_adjust : MethodName := ⟨RL, "adjust", "(LWordArithmetic;III[J)I"⟩
abbrev cL_holds : ByteArray := method_7_code
def yL_holds : MethodName := ⟨RL, "holds", "(LWordArithmetic;I[J)I"⟩
abbrev cL_law : ByteArray := code
def yL_law : MethodName := ⟨RL, "law", "([I)Z"⟩
def wsX0_init : List Cond := .code yX0_init cX0_init 1 none :: ([.methodLink RX0 1 objectInit, .instanceMethod objectInit, .code objectInit ⟨#[0xb1]⟩ 1 none, .fieldLink RX0 7 "WordArithmetic" "held" "I"] ++ wsX00)
def wsX0_set : List Cond := .code yX0_set cX0_set 2 none :: ([.fieldLink RX0 7 "WordArithmetic" "held" "I"] ++ wsX00)
def wsX0_flags : List Cond := .code yX0_flags cX0_flags 1 (some .int) :: ([.fieldLink RX0 7 "WordArithmetic" "held" "I"] ++ wsX00)
def wsX0_mask : List Cond := .code yX0_mask cX0_mask 1 (some .int) :: ([.constant RX0 63 (65535)])
def wsX0_operand : List Cond := .code yX0_operand cX0_operand 2 (some .int) :: ([.methodLink RX0 131 yX0_mask, .static yX0_mask, .initialized RX0, .code yX0_mask cX0_mask 1 (some .int), .constant RX0 63 (65535)])
def wsX0_put : List Cond := .code yX0_put cX0_put 3 none :: ([.fieldLink RX0 7 "WordArithmetic" "held" "I"] ++ wsX00)
def wsX0_signedValue : List Cond := .code yX0_signedValue cX0_signedValue 2 (some .int) :: ([])
def wsX0_putOverflow : List Cond := .code yX0_putOverflow cX0_putOverflow 3 none :: ([.methodLink RX0 105 yX0_signedValue, .static yX0_signedValue, .initialized RX0, .code yX0_signedValue cX0_signedValue 2 (some .int), .methodLink RX0 59 yX0_put, .instanceMethod yX0_put, .selects RX0 yX0_put yX0_put, .code yX0_put cX0_put 3 none, .fieldLink RX0 7 "WordArithmetic" "held" "I"] ++ wsX00)
def wsX0_highestBit : List Cond := .code yX0_highestBit cX0_highestBit 1 (some .int) :: ([.constant RX0 127 (32768)])
def wsX0_hasHighestBit : List Cond := .code yX0_hasHighestBit cX0_hasHighestBit 2 (some .boolean) :: ([.methodLink RX0 128 yX0_highestBit, .static yX0_highestBit, .initialized RX0, .code yX0_highestBit cX0_highestBit 1 (some .int), .constant RX0 127 (32768)])
def wsJ6_bitCount_0f7a4 : List Cond := .code yJ6_bitCount_0f7a4 cJ6_bitCount_0f7a4 1 (some .int) :: ([.constant RJ6 265 (1431655765), .constant RJ6 266 (858993459), .constant RJ6 267 (252645135)])
def wsX0_goByAnswer : List Cond := .code yX0_goByAnswer cX0_goByAnswer 3 none :: ([.methodLink RX0 59 yX0_put, .instanceMethod yX0_put, .selects RX0 yX0_put yX0_put, .initialized RX0, .code yX0_put cX0_put 3 none, .fieldLink RX0 7 "WordArithmetic" "held" "I", .methodLink RX0 118 yX0_hasHighestBit, .static yX0_hasHighestBit, .code yX0_hasHighestBit cX0_hasHighestBit 2 (some .boolean), .methodLink RX0 128 yX0_highestBit, .static yX0_highestBit, .code yX0_highestBit cX0_highestBit 1 (some .int), .constant RX0 127 (32768), .methodLink RX0 122 yJ6_bitCount_0f7a4, .static yJ6_bitCount_0f7a4, .initialized RJ6, .code yJ6_bitCount_0f7a4 cJ6_bitCount_0f7a4 1 (some .int), .constant RJ6 265 (1431655765), .constant RJ6 266 (858993459), .constant RJ6 267 (252645135)] ++ wsX00)
def wsX0_kept_r1 : List Cond := [Cond.methodLink RX0 13 yX0_operand, Cond.static yX0_operand, Cond.initialized RX0, Cond.code yX0_operand cX0_operand 2 (some .int), Cond.methodLink RX0 131 yX0_mask, Cond.static yX0_mask, Cond.code yX0_mask cX0_mask 1 (some .int), Cond.constant RX0 63 (65535), Cond.methodLink RX0 51 yX0_goByAnswer, Cond.instanceMethod yX0_goByAnswer, Cond.selects RX0 yX0_goByAnswer yX0_goByAnswer, Cond.code yX0_goByAnswer cX0_goByAnswer 3 none, Cond.methodLink RX0 59 yX0_put, Cond.instanceMethod yX0_put, Cond.selects RX0 yX0_put yX0_put, Cond.code yX0_put cX0_put 3 none, Cond.fieldLink RX0 7 "WordArithmetic" "held" "I", Cond.methodLink RX0 118 yX0_hasHighestBit, Cond.static yX0_hasHighestBit, Cond.code yX0_hasHighestBit cX0_hasHighestBit 2 (some .boolean), Cond.methodLink RX0 128 yX0_highestBit, Cond.static yX0_highestBit, Cond.code yX0_highestBit cX0_highestBit 1 (some .int), Cond.constant RX0 127 (32768)]
def wsX0_kept_r2 : List Cond := [Cond.methodLink RX0 122 yJ6_bitCount_0f7a4, Cond.static yJ6_bitCount_0f7a4, Cond.initialized RJ6, Cond.code yJ6_bitCount_0f7a4 cJ6_bitCount_0f7a4 1 (some .int), Cond.constant RJ6 265 (1431655765), Cond.constant RJ6 266 (858993459), Cond.constant RJ6 267 (252645135)]
def wsX0_kept : List Cond := .code yX0_kept cX0_kept 4 (some .int) :: ((wsX0_kept_r1 ++ wsX0_kept_r2) ++ wsX00)
def wsX0_sum_r1 : List Cond := [Cond.methodLink RX0 131 yX0_mask, Cond.static yX0_mask, Cond.initialized RX0, Cond.code yX0_mask cX0_mask 1 (some .int), Cond.constant RX0 63 (65535), Cond.methodLink RX0 59 yX0_put, Cond.instanceMethod yX0_put, Cond.selects RX0 yX0_put yX0_put, Cond.code yX0_put cX0_put 3 none, Cond.fieldLink RX0 7 "WordArithmetic" "held" "I", Cond.methodLink RX0 105 yX0_signedValue, Cond.static yX0_signedValue, Cond.code yX0_signedValue cX0_signedValue 2 (some .int), Cond.methodLink RX0 136 yX0_putOverflow, Cond.instanceMethod yX0_putOverflow, Cond.selects RX0 yX0_putOverflow yX0_putOverflow, Cond.code yX0_putOverflow cX0_putOverflow 3 none, Cond.methodLink RX0 139 yX0_kept, Cond.instanceMethod yX0_kept, Cond.selects RX0 yX0_kept yX0_kept, Cond.code yX0_kept cX0_kept 4 (some .int), Cond.methodLink RX0 13 yX0_operand, Cond.static yX0_operand, Cond.code yX0_operand cX0_operand 2 (some .int)]
def wsX0_sum_r2 : List Cond := [Cond.methodLink RX0 51 yX0_goByAnswer, Cond.instanceMethod yX0_goByAnswer, Cond.selects RX0 yX0_goByAnswer yX0_goByAnswer, Cond.code yX0_goByAnswer cX0_goByAnswer 3 none, Cond.methodLink RX0 118 yX0_hasHighestBit, Cond.static yX0_hasHighestBit, Cond.code yX0_hasHighestBit cX0_hasHighestBit 2 (some .boolean), Cond.methodLink RX0 128 yX0_highestBit, Cond.static yX0_highestBit, Cond.code yX0_highestBit cX0_highestBit 1 (some .int), Cond.constant RX0 127 (32768), Cond.methodLink RX0 122 yJ6_bitCount_0f7a4, Cond.static yJ6_bitCount_0f7a4, Cond.initialized RJ6, Cond.code yJ6_bitCount_0f7a4 cJ6_bitCount_0f7a4 1 (some .int), Cond.constant RJ6 265 (1431655765), Cond.constant RJ6 266 (858993459), Cond.constant RJ6 267 (252645135)]
def wsX0_sum : List Cond := .code yX0_sum cX0_sum 6 (some .int) :: ((wsX0_sum_r1 ++ wsX0_sum_r2) ++ wsX00)
def wsX0_logic_r1 : List Cond := [Cond.methodLink RX0 59 yX0_put, Cond.instanceMethod yX0_put, Cond.selects RX0 yX0_put yX0_put, Cond.initialized RX0, Cond.code yX0_put cX0_put 3 none, Cond.fieldLink RX0 7 "WordArithmetic" "held" "I", Cond.methodLink RX0 139 yX0_kept, Cond.instanceMethod yX0_kept, Cond.selects RX0 yX0_kept yX0_kept, Cond.code yX0_kept cX0_kept 4 (some .int), Cond.methodLink RX0 13 yX0_operand, Cond.static yX0_operand, Cond.code yX0_operand cX0_operand 2 (some .int), Cond.methodLink RX0 131 yX0_mask, Cond.static yX0_mask, Cond.code yX0_mask cX0_mask 1 (some .int), Cond.constant RX0 63 (65535), Cond.methodLink RX0 51 yX0_goByAnswer, Cond.instanceMethod yX0_goByAnswer, Cond.selects RX0 yX0_goByAnswer yX0_goByAnswer, Cond.code yX0_goByAnswer cX0_goByAnswer 3 none, Cond.methodLink RX0 118 yX0_hasHighestBit, Cond.static yX0_hasHighestBit, Cond.code yX0_hasHighestBit cX0_hasHighestBit 2 (some .boolean)]
def wsX0_logic_r2 : List Cond := [Cond.methodLink RX0 128 yX0_highestBit, Cond.static yX0_highestBit, Cond.code yX0_highestBit cX0_highestBit 1 (some .int), Cond.constant RX0 127 (32768), Cond.methodLink RX0 122 yJ6_bitCount_0f7a4, Cond.static yJ6_bitCount_0f7a4, Cond.initialized RJ6, Cond.code yJ6_bitCount_0f7a4 cJ6_bitCount_0f7a4 1 (some .int), Cond.constant RJ6 265 (1431655765), Cond.constant RJ6 266 (858993459), Cond.constant RJ6 267 (252645135)]
def wsX0_logic : List Cond := .code yX0_logic cX0_logic 3 (some .int) :: ((wsX0_logic_r1 ++ wsX0_logic_r2) ++ wsX00)
def wsX0_difference_r1 : List Cond := [Cond.methodLink RX0 59 yX0_put, Cond.instanceMethod yX0_put, Cond.selects RX0 yX0_put yX0_put, Cond.initialized RX0, Cond.code yX0_put cX0_put 3 none, Cond.fieldLink RX0 7 "WordArithmetic" "held" "I", Cond.methodLink RX0 105 yX0_signedValue, Cond.static yX0_signedValue, Cond.code yX0_signedValue cX0_signedValue 2 (some .int), Cond.methodLink RX0 136 yX0_putOverflow, Cond.instanceMethod yX0_putOverflow, Cond.selects RX0 yX0_putOverflow yX0_putOverflow, Cond.code yX0_putOverflow cX0_putOverflow 3 none, Cond.methodLink RX0 139 yX0_kept, Cond.instanceMethod yX0_kept, Cond.selects RX0 yX0_kept yX0_kept, Cond.code yX0_kept cX0_kept 4 (some .int), Cond.methodLink RX0 13 yX0_operand, Cond.static yX0_operand, Cond.code yX0_operand cX0_operand 2 (some .int), Cond.methodLink RX0 131 yX0_mask, Cond.static yX0_mask, Cond.code yX0_mask cX0_mask 1 (some .int), Cond.constant RX0 63 (65535)]
def wsX0_difference_r2 : List Cond := [Cond.methodLink RX0 51 yX0_goByAnswer, Cond.instanceMethod yX0_goByAnswer, Cond.selects RX0 yX0_goByAnswer yX0_goByAnswer, Cond.code yX0_goByAnswer cX0_goByAnswer 3 none, Cond.methodLink RX0 118 yX0_hasHighestBit, Cond.static yX0_hasHighestBit, Cond.code yX0_hasHighestBit cX0_hasHighestBit 2 (some .boolean), Cond.methodLink RX0 128 yX0_highestBit, Cond.static yX0_highestBit, Cond.code yX0_highestBit cX0_highestBit 1 (some .int), Cond.constant RX0 127 (32768), Cond.methodLink RX0 122 yJ6_bitCount_0f7a4, Cond.static yJ6_bitCount_0f7a4, Cond.initialized RJ6, Cond.code yJ6_bitCount_0f7a4 cJ6_bitCount_0f7a4 1 (some .int), Cond.constant RJ6 265 (1431655765), Cond.constant RJ6 266 (858993459), Cond.constant RJ6 267 (252645135)]
def wsX0_difference : List Cond := .code yX0_difference cX0_difference 6 (some .int) :: ((wsX0_difference_r1 ++ wsX0_difference_r2) ++ wsX00)
def wsX0_isSet : List Cond := .code yX0_isSet cX0_isSet 2 (some .boolean) :: ([.fieldLink RX0 7 "WordArithmetic" "held" "I"] ++ wsX00)
def wsX0_oneMore_r1 : List Cond := [Cond.methodLink RX0 108 yX0_isSet, Cond.instanceMethod yX0_isSet, Cond.selects RX0 yX0_isSet yX0_isSet, Cond.initialized RX0, Cond.code yX0_isSet cX0_isSet 2 (some .boolean), Cond.fieldLink RX0 7 "WordArithmetic" "held" "I", Cond.methodLink RX0 17 yX0_sum, Cond.instanceMethod yX0_sum, Cond.selects RX0 yX0_sum yX0_sum, Cond.code yX0_sum cX0_sum 6 (some .int), Cond.methodLink RX0 131 yX0_mask, Cond.static yX0_mask, Cond.code yX0_mask cX0_mask 1 (some .int), Cond.constant RX0 63 (65535), Cond.methodLink RX0 59 yX0_put, Cond.instanceMethod yX0_put, Cond.selects RX0 yX0_put yX0_put, Cond.code yX0_put cX0_put 3 none, Cond.methodLink RX0 105 yX0_signedValue, Cond.static yX0_signedValue, Cond.code yX0_signedValue cX0_signedValue 2 (some .int), Cond.methodLink RX0 136 yX0_putOverflow, Cond.instanceMethod yX0_putOverflow, Cond.selects RX0 yX0_putOverflow yX0_putOverflow]
def wsX0_oneMore_r2 : List Cond := [Cond.code yX0_putOverflow cX0_putOverflow 3 none, Cond.methodLink RX0 139 yX0_kept, Cond.instanceMethod yX0_kept, Cond.selects RX0 yX0_kept yX0_kept, Cond.code yX0_kept cX0_kept 4 (some .int), Cond.methodLink RX0 13 yX0_operand, Cond.static yX0_operand, Cond.code yX0_operand cX0_operand 2 (some .int), Cond.methodLink RX0 51 yX0_goByAnswer, Cond.instanceMethod yX0_goByAnswer, Cond.selects RX0 yX0_goByAnswer yX0_goByAnswer, Cond.code yX0_goByAnswer cX0_goByAnswer 3 none, Cond.methodLink RX0 118 yX0_hasHighestBit, Cond.static yX0_hasHighestBit, Cond.code yX0_hasHighestBit cX0_hasHighestBit 2 (some .boolean), Cond.methodLink RX0 128 yX0_highestBit, Cond.static yX0_highestBit, Cond.code yX0_highestBit cX0_highestBit 1 (some .int), Cond.constant RX0 127 (32768), Cond.methodLink RX0 122 yJ6_bitCount_0f7a4, Cond.static yJ6_bitCount_0f7a4, Cond.initialized RJ6, Cond.code yJ6_bitCount_0f7a4 cJ6_bitCount_0f7a4 1 (some .int), Cond.constant RJ6 265 (1431655765)]
def wsX0_oneMore_r3 : List Cond := [Cond.constant RJ6 266 (858993459), Cond.constant RJ6 267 (252645135)]
def wsX0_oneMore : List Cond := .code yX0_oneMore cX0_oneMore 5 (some .int) :: ((wsX0_oneMore_r1 ++ (wsX0_oneMore_r2 ++ wsX0_oneMore_r3)) ++ wsX00)
def wsX0_oneLess_r1 : List Cond := [Cond.methodLink RX0 108 yX0_isSet, Cond.instanceMethod yX0_isSet, Cond.selects RX0 yX0_isSet yX0_isSet, Cond.initialized RX0, Cond.code yX0_isSet cX0_isSet 2 (some .boolean), Cond.fieldLink RX0 7 "WordArithmetic" "held" "I", Cond.methodLink RX0 24 yX0_difference, Cond.instanceMethod yX0_difference, Cond.selects RX0 yX0_difference yX0_difference, Cond.code yX0_difference cX0_difference 6 (some .int), Cond.methodLink RX0 59 yX0_put, Cond.instanceMethod yX0_put, Cond.selects RX0 yX0_put yX0_put, Cond.code yX0_put cX0_put 3 none, Cond.methodLink RX0 105 yX0_signedValue, Cond.static yX0_signedValue, Cond.code yX0_signedValue cX0_signedValue 2 (some .int), Cond.methodLink RX0 136 yX0_putOverflow, Cond.instanceMethod yX0_putOverflow, Cond.selects RX0 yX0_putOverflow yX0_putOverflow, Cond.code yX0_putOverflow cX0_putOverflow 3 none, Cond.methodLink RX0 139 yX0_kept, Cond.instanceMethod yX0_kept, Cond.selects RX0 yX0_kept yX0_kept]
def wsX0_oneLess_r2 : List Cond := [Cond.code yX0_kept cX0_kept 4 (some .int), Cond.methodLink RX0 13 yX0_operand, Cond.static yX0_operand, Cond.code yX0_operand cX0_operand 2 (some .int), Cond.methodLink RX0 131 yX0_mask, Cond.static yX0_mask, Cond.code yX0_mask cX0_mask 1 (some .int), Cond.constant RX0 63 (65535), Cond.methodLink RX0 51 yX0_goByAnswer, Cond.instanceMethod yX0_goByAnswer, Cond.selects RX0 yX0_goByAnswer yX0_goByAnswer, Cond.code yX0_goByAnswer cX0_goByAnswer 3 none, Cond.methodLink RX0 118 yX0_hasHighestBit, Cond.static yX0_hasHighestBit, Cond.code yX0_hasHighestBit cX0_hasHighestBit 2 (some .boolean), Cond.methodLink RX0 128 yX0_highestBit, Cond.static yX0_highestBit, Cond.code yX0_highestBit cX0_highestBit 1 (some .int), Cond.constant RX0 127 (32768), Cond.methodLink RX0 122 yJ6_bitCount_0f7a4, Cond.static yJ6_bitCount_0f7a4, Cond.initialized RJ6, Cond.code yJ6_bitCount_0f7a4 cJ6_bitCount_0f7a4 1 (some .int), Cond.constant RJ6 265 (1431655765)]
def wsX0_oneLess_r3 : List Cond := [Cond.constant RJ6 266 (858993459), Cond.constant RJ6 267 (252645135)]
def wsX0_oneLess : List Cond := .code yX0_oneLess cX0_oneLess 5 (some .int) :: ((wsX0_oneLess_r1 ++ (wsX0_oneLess_r2 ++ wsX0_oneLess_r3)) ++ wsX00)
def wsX0_operate_r1 : List Cond := [Cond.classLink RX0 33 "java/lang/IllegalArgumentException", Cond.initialized "java/lang/IllegalArgumentException", Cond.fieldLink RX0 7 "WordArithmetic" "held" "I", Cond.methodLink RX0 13 yX0_operand, Cond.static yX0_operand, Cond.initialized RX0, Cond.code yX0_operand cX0_operand 2 (some .int), Cond.methodLink RX0 131 yX0_mask, Cond.static yX0_mask, Cond.code yX0_mask cX0_mask 1 (some .int), Cond.constant RX0 63 (65535), Cond.methodLink RX0 17 yX0_sum, Cond.instanceMethod yX0_sum, Cond.selects RX0 yX0_sum yX0_sum, Cond.code yX0_sum cX0_sum 6 (some .int), Cond.methodLink RX0 59 yX0_put, Cond.instanceMethod yX0_put, Cond.selects RX0 yX0_put yX0_put, Cond.code yX0_put cX0_put 3 none, Cond.methodLink RX0 105 yX0_signedValue, Cond.static yX0_signedValue, Cond.code yX0_signedValue cX0_signedValue 2 (some .int), Cond.methodLink RX0 136 yX0_putOverflow, Cond.instanceMethod yX0_putOverflow]
def wsX0_operate_r2 : List Cond := [Cond.selects RX0 yX0_putOverflow yX0_putOverflow, Cond.code yX0_putOverflow cX0_putOverflow 3 none, Cond.methodLink RX0 139 yX0_kept, Cond.instanceMethod yX0_kept, Cond.selects RX0 yX0_kept yX0_kept, Cond.code yX0_kept cX0_kept 4 (some .int), Cond.methodLink RX0 51 yX0_goByAnswer, Cond.instanceMethod yX0_goByAnswer, Cond.selects RX0 yX0_goByAnswer yX0_goByAnswer, Cond.code yX0_goByAnswer cX0_goByAnswer 3 none, Cond.methodLink RX0 118 yX0_hasHighestBit, Cond.static yX0_hasHighestBit, Cond.code yX0_hasHighestBit cX0_hasHighestBit 2 (some .boolean), Cond.methodLink RX0 128 yX0_highestBit, Cond.static yX0_highestBit, Cond.code yX0_highestBit cX0_highestBit 1 (some .int), Cond.constant RX0 127 (32768), Cond.methodLink RX0 122 yJ6_bitCount_0f7a4, Cond.static yJ6_bitCount_0f7a4, Cond.initialized RJ6, Cond.code yJ6_bitCount_0f7a4 cJ6_bitCount_0f7a4 1 (some .int), Cond.constant RJ6 265 (1431655765), Cond.constant RJ6 266 (858993459), Cond.constant RJ6 267 (252645135)]
def wsX0_operate_r3 : List Cond := [Cond.methodLink RX0 21 yX0_logic, Cond.instanceMethod yX0_logic, Cond.selects RX0 yX0_logic yX0_logic, Cond.code yX0_logic cX0_logic 3 (some .int), Cond.methodLink RX0 24 yX0_difference, Cond.instanceMethod yX0_difference, Cond.selects RX0 yX0_difference yX0_difference, Cond.code yX0_difference cX0_difference 6 (some .int), Cond.methodLink RX0 27 yX0_oneMore, Cond.instanceMethod yX0_oneMore, Cond.selects RX0 yX0_oneMore yX0_oneMore, Cond.code yX0_oneMore cX0_oneMore 5 (some .int), Cond.methodLink RX0 108 yX0_isSet, Cond.instanceMethod yX0_isSet, Cond.selects RX0 yX0_isSet yX0_isSet, Cond.code yX0_isSet cX0_isSet 2 (some .boolean), Cond.methodLink RX0 30 yX0_oneLess, Cond.instanceMethod yX0_oneLess, Cond.selects RX0 yX0_oneLess yX0_oneLess, Cond.code yX0_oneLess cX0_oneLess 5 (some .int)]
def wsX0_operate : List Cond := .code yX0_operate cX0_operate 7 (some .int) :: ((wsX0_operate_r1 ++ (wsX0_operate_r2 ++ wsX0_operate_r3)) ++ wsX00 ++ (vx_atS RX0 37 "java/lang/IllegalArgumentException" ["java/lang/RuntimeException", "java/lang/Exception"]).filter goodWord)
def wsX0_leftByOne : List Cond := .code yX0_leftByOne cX0_leftByOne 7 (some .int) :: ([.methodLink RX0 118 yX0_hasHighestBit, .static yX0_hasHighestBit, .initialized RX0, .code yX0_hasHighestBit cX0_hasHighestBit 2 (some .boolean), .methodLink RX0 128 yX0_highestBit, .static yX0_highestBit, .code yX0_highestBit cX0_highestBit 1 (some .int), .constant RX0 127 (32768), .methodLink RX0 108 yX0_isSet, .instanceMethod yX0_isSet, .selects RX0 yX0_isSet yX0_isSet, .code yX0_isSet cX0_isSet 2 (some .boolean), .fieldLink RX0 7 "WordArithmetic" "held" "I", .methodLink RX0 13 yX0_operand, .static yX0_operand, .code yX0_operand cX0_operand 2 (some .int), .methodLink RX0 131 yX0_mask, .static yX0_mask, .code yX0_mask cX0_mask 1 (some .int), .constant RX0 63 (65535), .methodLink RX0 59 yX0_put, .instanceMethod yX0_put, .selects RX0 yX0_put yX0_put, .code yX0_put cX0_put 3 none] ++ wsX00)
def wsX0_comesInFromLeft : List Cond := .code yX0_comesInFromLeft cX0_comesInFromLeft 4 (some .boolean) :: ([.methodLink RX0 108 yX0_isSet, .instanceMethod yX0_isSet, .selects RX0 yX0_isSet yX0_isSet, .initialized RX0, .code yX0_isSet cX0_isSet 2 (some .boolean), .fieldLink RX0 7 "WordArithmetic" "held" "I"] ++ wsX00)
def wsX0_rightByOne : List Cond := .code yX0_rightByOne cX0_rightByOne 7 (some .int) :: ([.methodLink RX0 118 yX0_hasHighestBit, .static yX0_hasHighestBit, .initialized RX0, .code yX0_hasHighestBit cX0_hasHighestBit 2 (some .boolean), .methodLink RX0 128 yX0_highestBit, .static yX0_highestBit, .code yX0_highestBit cX0_highestBit 1 (some .int), .constant RX0 127 (32768), .methodLink RX0 142 yX0_comesInFromLeft, .instanceMethod yX0_comesInFromLeft, .selects RX0 yX0_comesInFromLeft yX0_comesInFromLeft, .code yX0_comesInFromLeft cX0_comesInFromLeft 4 (some .boolean), .methodLink RX0 108 yX0_isSet, .instanceMethod yX0_isSet, .selects RX0 yX0_isSet yX0_isSet, .code yX0_isSet cX0_isSet 2 (some .boolean), .fieldLink RX0 7 "WordArithmetic" "held" "I", .methodLink RX0 59 yX0_put, .instanceMethod yX0_put, .selects RX0 yX0_put yX0_put, .code yX0_put cX0_put 3 none] ++ wsX00)
def wsX0_shift_r1 : List Cond := [Cond.classLink RX0 33 "java/lang/IllegalArgumentException", Cond.initialized "java/lang/IllegalArgumentException", Cond.methodLink RX0 13 yX0_operand, Cond.static yX0_operand, Cond.initialized RX0, Cond.code yX0_operand cX0_operand 2 (some .int), Cond.methodLink RX0 131 yX0_mask, Cond.static yX0_mask, Cond.code yX0_mask cX0_mask 1 (some .int), Cond.constant RX0 63 (65535), Cond.methodLink RX0 44 yX0_leftByOne, Cond.instanceMethod yX0_leftByOne, Cond.selects RX0 yX0_leftByOne yX0_leftByOne, Cond.code yX0_leftByOne cX0_leftByOne 7 (some .int), Cond.methodLink RX0 118 yX0_hasHighestBit, Cond.static yX0_hasHighestBit, Cond.code yX0_hasHighestBit cX0_hasHighestBit 2 (some .boolean), Cond.methodLink RX0 128 yX0_highestBit, Cond.static yX0_highestBit, Cond.code yX0_highestBit cX0_highestBit 1 (some .int), Cond.constant RX0 127 (32768), Cond.methodLink RX0 108 yX0_isSet, Cond.instanceMethod yX0_isSet, Cond.selects RX0 yX0_isSet yX0_isSet]
def wsX0_shift_r2 : List Cond := [Cond.code yX0_isSet cX0_isSet 2 (some .boolean), Cond.fieldLink RX0 7 "WordArithmetic" "held" "I", Cond.methodLink RX0 59 yX0_put, Cond.instanceMethod yX0_put, Cond.selects RX0 yX0_put yX0_put, Cond.code yX0_put cX0_put 3 none, Cond.methodLink RX0 48 yX0_rightByOne, Cond.instanceMethod yX0_rightByOne, Cond.selects RX0 yX0_rightByOne yX0_rightByOne, Cond.code yX0_rightByOne cX0_rightByOne 7 (some .int), Cond.methodLink RX0 142 yX0_comesInFromLeft, Cond.instanceMethod yX0_comesInFromLeft, Cond.selects RX0 yX0_comesInFromLeft yX0_comesInFromLeft, Cond.code yX0_comesInFromLeft cX0_comesInFromLeft 4 (some .boolean), Cond.methodLink RX0 51 yX0_goByAnswer, Cond.instanceMethod yX0_goByAnswer, Cond.selects RX0 yX0_goByAnswer yX0_goByAnswer, Cond.code yX0_goByAnswer cX0_goByAnswer 3 none, Cond.methodLink RX0 122 yJ6_bitCount_0f7a4, Cond.static yJ6_bitCount_0f7a4, Cond.initialized RJ6, Cond.code yJ6_bitCount_0f7a4 cJ6_bitCount_0f7a4 1 (some .int), Cond.constant RJ6 265 (1431655765), Cond.constant RJ6 266 (858993459)]
def wsX0_shift_r3 : List Cond := [Cond.constant RJ6 267 (252645135)]
def wsX0_shift : List Cond := .code yX0_shift cX0_shift 8 (some .int) :: ((wsX0_shift_r1 ++ (wsX0_shift_r2 ++ wsX0_shift_r3)) ++ wsX00 ++ (vx_atS RX0 37 "java/lang/IllegalArgumentException" ["java/lang/RuntimeException", "java/lang/Exception"]).filter goodWord)
def wsX0_valueOf : List Cond := .code yX0_valueOf cX0_valueOf 3 (some .int) :: ([.methodLink RX0 105 yX0_signedValue, .static yX0_signedValue, .initialized RX0, .code yX0_signedValue cX0_signedValue 2 (some .int), .methodLink RX0 13 yX0_operand, .static yX0_operand, .code yX0_operand cX0_operand 2 (some .int), .methodLink RX0 131 yX0_mask, .static yX0_mask, .code yX0_mask cX0_mask 1 (some .int), .constant RX0 63 (65535)])
def wsX0_multiply : List Cond := .code yX0_multiply cX0_multiply 8 (some .int) :: ([.constant RX0 63 (65535), .methodLink RX0 55 yX0_valueOf, .static yX0_valueOf, .initialized RX0, .code yX0_valueOf cX0_valueOf 3 (some .int), .methodLink RX0 105 yX0_signedValue, .static yX0_signedValue, .code yX0_signedValue cX0_signedValue 2 (some .int), .methodLink RX0 13 yX0_operand, .static yX0_operand, .code yX0_operand cX0_operand 2 (some .int), .methodLink RX0 131 yX0_mask, .static yX0_mask, .code yX0_mask cX0_mask 1 (some .int), .methodLink RX0 59 yX0_put, .instanceMethod yX0_put, .selects RX0 yX0_put yX0_put, .code yX0_put cX0_put 3 none, .fieldLink RX0 7 "WordArithmetic" "held" "I"] ++ wsX00)
def wsX0_valueTwiceAsLong : List Cond := .code yX0_valueTwiceAsLong cX0_valueTwiceAsLong 3 (some .long) :: ([.constantLong RX0 134 (4294967295), .methodLink RX0 55 yX0_valueOf, .static yX0_valueOf, .initialized RX0, .code yX0_valueOf cX0_valueOf 3 (some .int), .methodLink RX0 105 yX0_signedValue, .static yX0_signedValue, .code yX0_signedValue cX0_signedValue 2 (some .int), .methodLink RX0 13 yX0_operand, .static yX0_operand, .code yX0_operand cX0_operand 2 (some .int), .methodLink RX0 131 yX0_mask, .static yX0_mask, .code yX0_mask cX0_mask 1 (some .int), .constant RX0 63 (65535)])
def wsX0_isQuotient : List Cond := .code yX0_isQuotient cX0_isQuotient 6 (some .boolean) :: ([.methodLink RX0 131 yX0_mask, .static yX0_mask, .initialized RX0, .code yX0_mask cX0_mask 1 (some .int), .constant RX0 63 (65535)])
def wsX0_width : List Cond := .code yX0_width cX0_width 1 (some .int) :: ([])
def wsX0_divide_r1 : List Cond := [Cond.classLink RX0 68 "java/lang/ArithmeticException", Cond.initialized "java/lang/ArithmeticException", Cond.methodLink RX0 64 yX0_valueTwiceAsLong, Cond.static yX0_valueTwiceAsLong, Cond.initialized RX0, Cond.code yX0_valueTwiceAsLong cX0_valueTwiceAsLong 3 (some .long), Cond.constantLong RX0 134 (4294967295), Cond.methodLink RX0 55 yX0_valueOf, Cond.static yX0_valueOf, Cond.code yX0_valueOf cX0_valueOf 3 (some .int), Cond.methodLink RX0 105 yX0_signedValue, Cond.static yX0_signedValue, Cond.code yX0_signedValue cX0_signedValue 2 (some .int), Cond.methodLink RX0 13 yX0_operand, Cond.static yX0_operand, Cond.code yX0_operand cX0_operand 2 (some .int), Cond.methodLink RX0 131 yX0_mask, Cond.static yX0_mask, Cond.code yX0_mask cX0_mask 1 (some .int), Cond.constant RX0 63 (65535), Cond.methodLink RX0 73 yX0_isQuotient, Cond.static yX0_isQuotient, Cond.code yX0_isQuotient cX0_isQuotient 6 (some .boolean), Cond.methodLink RX0 79 yX0_width]
def wsX0_divide_r2 : List Cond := [Cond.static yX0_width, Cond.code yX0_width cX0_width 1 (some .int)]
def wsX0_divide : List Cond := .code yX0_divide cX0_divide 13 (some .int) :: ((wsX0_divide_r1 ++ wsX0_divide_r2) ++ (vx_atS RX0 72 "java/lang/ArithmeticException" ["java/lang/RuntimeException", "java/lang/Exception"]).filter goodWord ++ (vx_atM "java/lang/ArithmeticException" ["java/lang/RuntimeException", "java/lang/Exception"]).filter goodWord)
def wsX0_needsLowerGap : List Cond := .code yX0_needsLowerGap cX0_needsLowerGap 2 (some .boolean) :: ([.methodLink RX0 108 yX0_isSet, .instanceMethod yX0_isSet, .selects RX0 yX0_isSet yX0_isSet, .initialized RX0, .code yX0_isSet cX0_isSet 2 (some .boolean), .fieldLink RX0 7 "WordArithmetic" "held" "I"] ++ wsX00)
def wsX0_needsUpperGap : List Cond := .code yX0_needsUpperGap cX0_needsUpperGap 2 (some .boolean) :: ([.methodLink RX0 108 yX0_isSet, .instanceMethod yX0_isSet, .selects RX0 yX0_isSet yX0_isSet, .initialized RX0, .code yX0_isSet cX0_isSet 2 (some .boolean), .fieldLink RX0 7 "WordArithmetic" "held" "I"] ++ wsX00)
def wsX0_gap : List Cond := .code yX0_gap cX0_gap 2 (some .int) :: ([])
def wsX0_adjustedByte_r1 : List Cond := [Cond.methodLink RX0 139 yX0_kept, Cond.instanceMethod yX0_kept, Cond.selects RX0 yX0_kept yX0_kept, Cond.initialized RX0, Cond.code yX0_kept cX0_kept 4 (some .int), Cond.methodLink RX0 13 yX0_operand, Cond.static yX0_operand, Cond.code yX0_operand cX0_operand 2 (some .int), Cond.methodLink RX0 131 yX0_mask, Cond.static yX0_mask, Cond.code yX0_mask cX0_mask 1 (some .int), Cond.constant RX0 63 (65535), Cond.methodLink RX0 51 yX0_goByAnswer, Cond.instanceMethod yX0_goByAnswer, Cond.selects RX0 yX0_goByAnswer yX0_goByAnswer, Cond.code yX0_goByAnswer cX0_goByAnswer 3 none, Cond.methodLink RX0 59 yX0_put, Cond.instanceMethod yX0_put, Cond.selects RX0 yX0_put yX0_put, Cond.code yX0_put cX0_put 3 none, Cond.fieldLink RX0 7 "WordArithmetic" "held" "I", Cond.methodLink RX0 118 yX0_hasHighestBit, Cond.static yX0_hasHighestBit, Cond.code yX0_hasHighestBit cX0_hasHighestBit 2 (some .boolean)]
def wsX0_adjustedByte_r2 : List Cond := [Cond.methodLink RX0 128 yX0_highestBit, Cond.static yX0_highestBit, Cond.code yX0_highestBit cX0_highestBit 1 (some .int), Cond.constant RX0 127 (32768), Cond.methodLink RX0 122 yJ6_bitCount_0f7a4, Cond.static yJ6_bitCount_0f7a4, Cond.initialized RJ6, Cond.code yJ6_bitCount_0f7a4 cJ6_bitCount_0f7a4 1 (some .int), Cond.constant RJ6 265 (1431655765), Cond.constant RJ6 266 (858993459), Cond.constant RJ6 267 (252645135)]
def wsX0_adjustedByte : List Cond := .code yX0_adjustedByte cX0_adjustedByte 2 (some .int) :: ((wsX0_adjustedByte_r1 ++ wsX0_adjustedByte_r2) ++ wsX00)
def wsX0_adjustedSum_r1 : List Cond := [Cond.methodLink RX0 146 yX0_needsLowerGap, Cond.instanceMethod yX0_needsLowerGap, Cond.selects RX0 yX0_needsLowerGap yX0_needsLowerGap, Cond.initialized RX0, Cond.code yX0_needsLowerGap cX0_needsLowerGap 2 (some .boolean), Cond.methodLink RX0 108 yX0_isSet, Cond.instanceMethod yX0_isSet, Cond.selects RX0 yX0_isSet yX0_isSet, Cond.code yX0_isSet cX0_isSet 2 (some .boolean), Cond.fieldLink RX0 7 "WordArithmetic" "held" "I", Cond.methodLink RX0 149 yX0_needsUpperGap, Cond.instanceMethod yX0_needsUpperGap, Cond.selects RX0 yX0_needsUpperGap yX0_needsUpperGap, Cond.code yX0_needsUpperGap cX0_needsUpperGap 2 (some .boolean), Cond.methodLink RX0 59 yX0_put, Cond.instanceMethod yX0_put, Cond.selects RX0 yX0_put yX0_put, Cond.code yX0_put cX0_put 3 none, Cond.methodLink RX0 152 yX0_gap, Cond.static yX0_gap, Cond.code yX0_gap cX0_gap 2 (some .int), Cond.methodLink RX0 100 yX0_adjustedByte, Cond.instanceMethod yX0_adjustedByte, Cond.selects RX0 yX0_adjustedByte yX0_adjustedByte]
def wsX0_adjustedSum_r2 : List Cond := [Cond.code yX0_adjustedByte cX0_adjustedByte 2 (some .int), Cond.methodLink RX0 139 yX0_kept, Cond.instanceMethod yX0_kept, Cond.selects RX0 yX0_kept yX0_kept, Cond.code yX0_kept cX0_kept 4 (some .int), Cond.methodLink RX0 13 yX0_operand, Cond.static yX0_operand, Cond.code yX0_operand cX0_operand 2 (some .int), Cond.methodLink RX0 131 yX0_mask, Cond.static yX0_mask, Cond.code yX0_mask cX0_mask 1 (some .int), Cond.constant RX0 63 (65535), Cond.methodLink RX0 51 yX0_goByAnswer, Cond.instanceMethod yX0_goByAnswer, Cond.selects RX0 yX0_goByAnswer yX0_goByAnswer, Cond.code yX0_goByAnswer cX0_goByAnswer 3 none, Cond.methodLink RX0 118 yX0_hasHighestBit, Cond.static yX0_hasHighestBit, Cond.code yX0_hasHighestBit cX0_hasHighestBit 2 (some .boolean), Cond.methodLink RX0 128 yX0_highestBit, Cond.static yX0_highestBit, Cond.code yX0_highestBit cX0_highestBit 1 (some .int), Cond.constant RX0 127 (32768), Cond.methodLink RX0 122 yJ6_bitCount_0f7a4]
def wsX0_adjustedSum_r3 : List Cond := [Cond.static yJ6_bitCount_0f7a4, Cond.initialized RJ6, Cond.code yJ6_bitCount_0f7a4 cJ6_bitCount_0f7a4 1 (some .int), Cond.constant RJ6 265 (1431655765), Cond.constant RJ6 266 (858993459), Cond.constant RJ6 267 (252645135)]
def wsX0_adjustedSum : List Cond := .code yX0_adjustedSum cX0_adjustedSum 4 (some .int) :: ((wsX0_adjustedSum_r1 ++ (wsX0_adjustedSum_r2 ++ wsX0_adjustedSum_r3)) ++ wsX00)
def wsX0_joined : List Cond := .code yX0_joined cX0_joined 2 (some .int) :: ([])
def wsX0_adjustedDifference_r1 : List Cond := [Cond.methodLink RX0 146 yX0_needsLowerGap, Cond.instanceMethod yX0_needsLowerGap, Cond.selects RX0 yX0_needsLowerGap yX0_needsLowerGap, Cond.initialized RX0, Cond.code yX0_needsLowerGap cX0_needsLowerGap 2 (some .boolean), Cond.methodLink RX0 108 yX0_isSet, Cond.instanceMethod yX0_isSet, Cond.selects RX0 yX0_isSet yX0_isSet, Cond.code yX0_isSet cX0_isSet 2 (some .boolean), Cond.fieldLink RX0 7 "WordArithmetic" "held" "I", Cond.methodLink RX0 149 yX0_needsUpperGap, Cond.instanceMethod yX0_needsUpperGap, Cond.selects RX0 yX0_needsUpperGap yX0_needsUpperGap, Cond.code yX0_needsUpperGap cX0_needsUpperGap 2 (some .boolean), Cond.methodLink RX0 59 yX0_put, Cond.instanceMethod yX0_put, Cond.selects RX0 yX0_put yX0_put, Cond.code yX0_put cX0_put 3 none, Cond.methodLink RX0 152 yX0_gap, Cond.static yX0_gap, Cond.code yX0_gap cX0_gap 2 (some .int), Cond.methodLink RX0 100 yX0_adjustedByte, Cond.instanceMethod yX0_adjustedByte, Cond.selects RX0 yX0_adjustedByte yX0_adjustedByte]
def wsX0_adjustedDifference_r2 : List Cond := [Cond.code yX0_adjustedByte cX0_adjustedByte 2 (some .int), Cond.methodLink RX0 139 yX0_kept, Cond.instanceMethod yX0_kept, Cond.selects RX0 yX0_kept yX0_kept, Cond.code yX0_kept cX0_kept 4 (some .int), Cond.methodLink RX0 13 yX0_operand, Cond.static yX0_operand, Cond.code yX0_operand cX0_operand 2 (some .int), Cond.methodLink RX0 131 yX0_mask, Cond.static yX0_mask, Cond.code yX0_mask cX0_mask 1 (some .int), Cond.constant RX0 63 (65535), Cond.methodLink RX0 51 yX0_goByAnswer, Cond.instanceMethod yX0_goByAnswer, Cond.selects RX0 yX0_goByAnswer yX0_goByAnswer, Cond.code yX0_goByAnswer cX0_goByAnswer 3 none, Cond.methodLink RX0 118 yX0_hasHighestBit, Cond.static yX0_hasHighestBit, Cond.code yX0_hasHighestBit cX0_hasHighestBit 2 (some .boolean), Cond.methodLink RX0 128 yX0_highestBit, Cond.static yX0_highestBit, Cond.code yX0_highestBit cX0_highestBit 1 (some .int), Cond.constant RX0 127 (32768), Cond.methodLink RX0 122 yJ6_bitCount_0f7a4]
def wsX0_adjustedDifference_r3 : List Cond := [Cond.static yJ6_bitCount_0f7a4, Cond.initialized RJ6, Cond.code yJ6_bitCount_0f7a4 cJ6_bitCount_0f7a4 1 (some .int), Cond.constant RJ6 265 (1431655765), Cond.constant RJ6 266 (858993459), Cond.constant RJ6 267 (252645135)]
def wsX0_adjustedDifference : List Cond := .code yX0_adjustedDifference cX0_adjustedDifference 4 (some .int) :: ((wsX0_adjustedDifference_r1 ++ (wsX0_adjustedDifference_r2 ++ wsX0_adjustedDifference_r3)) ++ wsX00)
def wsX0_adjustedDigit : List Cond := .code yX0_adjustedDigit cX0_adjustedDigit 7 (some .int) :: ([.methodLink RX0 146 yX0_needsLowerGap, .instanceMethod yX0_needsLowerGap, .selects RX0 yX0_needsLowerGap yX0_needsLowerGap, .initialized RX0, .code yX0_needsLowerGap cX0_needsLowerGap 2 (some .boolean), .methodLink RX0 108 yX0_isSet, .instanceMethod yX0_isSet, .selects RX0 yX0_isSet yX0_isSet, .code yX0_isSet cX0_isSet 2 (some .boolean), .fieldLink RX0 7 "WordArithmetic" "held" "I", .methodLink RX0 59 yX0_put, .instanceMethod yX0_put, .selects RX0 yX0_put yX0_put, .code yX0_put cX0_put 3 none, .methodLink RX0 87 yX0_joined, .static yX0_joined, .code yX0_joined cX0_joined 2 (some .int)] ++ wsX00)
def wsX0_adjust_r1 : List Cond := [Cond.classLink RX0 68 "java/lang/ArithmeticException", Cond.initialized "java/lang/ArithmeticException", Cond.classLink RX0 33 "java/lang/IllegalArgumentException", Cond.initialized "java/lang/IllegalArgumentException", Cond.methodLink RX0 83 yX0_adjustedSum, Cond.instanceMethod yX0_adjustedSum, Cond.selects RX0 yX0_adjustedSum yX0_adjustedSum, Cond.initialized RX0, Cond.code yX0_adjustedSum cX0_adjustedSum 4 (some .int), Cond.methodLink RX0 146 yX0_needsLowerGap, Cond.instanceMethod yX0_needsLowerGap, Cond.selects RX0 yX0_needsLowerGap yX0_needsLowerGap, Cond.code yX0_needsLowerGap cX0_needsLowerGap 2 (some .boolean), Cond.methodLink RX0 108 yX0_isSet, Cond.instanceMethod yX0_isSet, Cond.selects RX0 yX0_isSet yX0_isSet, Cond.code yX0_isSet cX0_isSet 2 (some .boolean), Cond.fieldLink RX0 7 "WordArithmetic" "held" "I", Cond.methodLink RX0 149 yX0_needsUpperGap, Cond.instanceMethod yX0_needsUpperGap, Cond.selects RX0 yX0_needsUpperGap yX0_needsUpperGap, Cond.code yX0_needsUpperGap cX0_needsUpperGap 2 (some .boolean), Cond.methodLink RX0 59 yX0_put, Cond.instanceMethod yX0_put]
def wsX0_adjust_r2 : List Cond := [Cond.selects RX0 yX0_put yX0_put, Cond.code yX0_put cX0_put 3 none, Cond.methodLink RX0 152 yX0_gap, Cond.static yX0_gap, Cond.code yX0_gap cX0_gap 2 (some .int), Cond.methodLink RX0 100 yX0_adjustedByte, Cond.instanceMethod yX0_adjustedByte, Cond.selects RX0 yX0_adjustedByte yX0_adjustedByte, Cond.code yX0_adjustedByte cX0_adjustedByte 2 (some .int), Cond.methodLink RX0 139 yX0_kept, Cond.instanceMethod yX0_kept, Cond.selects RX0 yX0_kept yX0_kept, Cond.code yX0_kept cX0_kept 4 (some .int), Cond.methodLink RX0 13 yX0_operand, Cond.static yX0_operand, Cond.code yX0_operand cX0_operand 2 (some .int), Cond.methodLink RX0 131 yX0_mask, Cond.static yX0_mask, Cond.code yX0_mask cX0_mask 1 (some .int), Cond.constant RX0 63 (65535), Cond.methodLink RX0 51 yX0_goByAnswer, Cond.instanceMethod yX0_goByAnswer, Cond.selects RX0 yX0_goByAnswer yX0_goByAnswer, Cond.code yX0_goByAnswer cX0_goByAnswer 3 none]
def wsX0_adjust_r3 : List Cond := [Cond.methodLink RX0 118 yX0_hasHighestBit, Cond.static yX0_hasHighestBit, Cond.code yX0_hasHighestBit cX0_hasHighestBit 2 (some .boolean), Cond.methodLink RX0 128 yX0_highestBit, Cond.static yX0_highestBit, Cond.code yX0_highestBit cX0_highestBit 1 (some .int), Cond.constant RX0 127 (32768), Cond.methodLink RX0 122 yJ6_bitCount_0f7a4, Cond.static yJ6_bitCount_0f7a4, Cond.initialized RJ6, Cond.code yJ6_bitCount_0f7a4 cJ6_bitCount_0f7a4 1 (some .int), Cond.constant RJ6 265 (1431655765), Cond.constant RJ6 266 (858993459), Cond.constant RJ6 267 (252645135), Cond.methodLink RX0 87 yX0_joined, Cond.static yX0_joined, Cond.code yX0_joined cX0_joined 2 (some .int), Cond.methodLink RX0 91 yX0_adjustedDifference, Cond.instanceMethod yX0_adjustedDifference, Cond.selects RX0 yX0_adjustedDifference yX0_adjustedDifference, Cond.code yX0_adjustedDifference cX0_adjustedDifference 4 (some .int), Cond.methodLink RX0 94 yX0_adjustedDigit, Cond.instanceMethod yX0_adjustedDigit, Cond.selects RX0 yX0_adjustedDigit yX0_adjustedDigit]
def wsX0_adjust_r4 : List Cond := [Cond.code yX0_adjustedDigit cX0_adjustedDigit 7 (some .int)]
def wsX0_adjust : List Cond := .code yX0_adjust cX0_adjust 7 (some .int) :: ((wsX0_adjust_r1 ++ (wsX0_adjust_r2 ++ (wsX0_adjust_r3 ++ wsX0_adjust_r4))) ++ wsX00 ++ (vx_atS RX0 72 "java/lang/ArithmeticException" ["java/lang/RuntimeException", "java/lang/Exception"]).filter goodWord ++ (vx_atM "java/lang/ArithmeticException" ["java/lang/RuntimeException", "java/lang/Exception"]).filter goodWord ++ (vx_atS RX0 37 "java/lang/IllegalArgumentException" ["java/lang/RuntimeException", "java/lang/Exception"]).filter goodWord)
def wsX0_extend : List Cond := .code yX0_extend cX0_extend 4 (some .int) :: ([.constant RX0 63 (65535), .methodLink RX0 105 yX0_signedValue, .static yX0_signedValue, .initialized RX0, .code yX0_signedValue cX0_signedValue 2 (some .int)])
def wsX0_isLess : List Cond := .code yX0_isLess cX0_isLess 1 (some .boolean) :: ([.methodLink RX0 108 yX0_isSet, .instanceMethod yX0_isSet, .selects RX0 yX0_isSet yX0_isSet, .initialized RX0, .code yX0_isSet cX0_isSet 2 (some .boolean), .fieldLink RX0 7 "WordArithmetic" "held" "I"] ++ wsX00)
def wsX0_holds : List Cond := .code yX0_holds cX0_holds 2 (some .boolean) :: ([.classLink RX0 33 "java/lang/IllegalArgumentException", .initialized "java/lang/IllegalArgumentException", .methodLink RX0 108 yX0_isSet, .instanceMethod yX0_isSet, .selects RX0 yX0_isSet yX0_isSet, .initialized RX0, .code yX0_isSet cX0_isSet 2 (some .boolean), .fieldLink RX0 7 "WordArithmetic" "held" "I", .methodLink RX0 112 yX0_isLess, .instanceMethod yX0_isLess, .selects RX0 yX0_isLess yX0_isLess, .code yX0_isLess cX0_isLess 1 (some .boolean)] ++ wsX00 ++ (vx_atS RX0 37 "java/lang/IllegalArgumentException" ["java/lang/RuntimeException", "java/lang/Exception"]).filter goodWord)
def wsX1_init : List Cond := .code yX1_init cX1_init 1 none :: ([.methodLink RX1 1 objectInit, .instanceMethod objectInit, .code objectInit ⟨#[0xb1]⟩ 1 none])
def wsX1_thrown : List Cond := .code yX1_thrown cX1_thrown 1 (some .int) :: ([.fieldLink RX1 7 "WordArithmeticModel" "code" "I"] ++ wsX10)
def wsX1_length : List Cond := .code yX1_length cX1_length 2 none :: ([.constant RX1 13 (65536), .fieldLink RX1 14 "WordArithmeticModel" "all" "I"] ++ wsX10)
def wsX1_is : List Cond := .code yX1_is cX1_is 2 (some .boolean) :: ([.fieldLink RX1 17 "WordArithmeticModel" "flags" "I"] ++ wsX10 ++ (vx_atM "java/lang/ArithmeticException" ["java/lang/RuntimeException", "java/lang/Exception"]).filter goodWord)
def wsX1_put : List Cond := .code yX1_put cX1_put 3 none :: ([.fieldLink RX1 17 "WordArithmeticModel" "flags" "I", .methodLink RX1 20 yX1_is, .instanceMethod yX1_is, .selects RX1 yX1_is yX1_is, .initialized RX1, .code yX1_is cX1_is 2 (some .boolean)] ++ wsX10 ++ (vx_atM "java/lang/ArithmeticException" ["java/lang/RuntimeException", "java/lang/Exception"]).filter goodWord)
def wsX1_operand : List Cond := .code yX1_operand cX1_operand 2 (some .int) :: ([.fieldLink RX1 14 "WordArithmeticModel" "all" "I"] ++ wsX10)
def wsX1_signed : List Cond := .code yX1_signed cX1_signed 2 (some .int) :: ([.fieldLink RX1 14 "WordArithmeticModel" "all" "I"] ++ wsX10)
def wsX1_set : List Cond := .code yX1_set cX1_set 2 none :: ([.fieldLink RX1 7 "WordArithmeticModel" "code" "I", .fieldLink RX1 17 "WordArithmeticModel" "flags" "I"] ++ wsX10)
def wsX1_flags : List Cond := .code yX1_flags cX1_flags 1 (some .int) :: ([.fieldLink RX1 7 "WordArithmeticModel" "code" "I", .fieldLink RX1 17 "WordArithmeticModel" "flags" "I"] ++ wsX10)
def wsX1_byAnswer : List Cond := .code yX1_byAnswer cX1_byAnswer 5 none :: ([.fieldLink RX1 14 "WordArithmeticModel" "all" "I", .methodLink RX1 24 yX1_put, .instanceMethod yX1_put, .selects RX1 yX1_put yX1_put, .initialized RX1, .code yX1_put cX1_put 3 none, .fieldLink RX1 17 "WordArithmeticModel" "flags" "I", .methodLink RX1 20 yX1_is, .instanceMethod yX1_is, .selects RX1 yX1_is yX1_is, .code yX1_is cX1_is 2 (some .boolean)] ++ wsX10 ++ (vx_atM "java/lang/ArithmeticException" ["java/lang/RuntimeException", "java/lang/Exception"]).filter goodWord)
def wsX1_sum : List Cond := .code yX1_sum cX1_sum 6 (some .int) :: ([.fieldLink RX1 14 "WordArithmeticModel" "all" "I", .methodLink RX1 28 yX1_signed, .instanceMethod yX1_signed, .selects RX1 yX1_signed yX1_signed, .initialized RX1, .code yX1_signed cX1_signed 2 (some .int), .methodLink RX1 24 yX1_put, .instanceMethod yX1_put, .selects RX1 yX1_put yX1_put, .code yX1_put cX1_put 3 none, .fieldLink RX1 17 "WordArithmeticModel" "flags" "I", .methodLink RX1 20 yX1_is, .instanceMethod yX1_is, .selects RX1 yX1_is yX1_is, .code yX1_is cX1_is 2 (some .boolean), .methodLink RX1 32 yX1_byAnswer, .instanceMethod yX1_byAnswer, .selects RX1 yX1_byAnswer yX1_byAnswer, .code yX1_byAnswer cX1_byAnswer 5 none] ++ wsX10 ++ (vx_atM "java/lang/ArithmeticException" ["java/lang/RuntimeException", "java/lang/Exception"]).filter goodWord)
def wsX1_difference : List Cond := .code yX1_difference cX1_difference 7 (some .int) :: ([.fieldLink RX1 14 "WordArithmeticModel" "all" "I", .methodLink RX1 28 yX1_signed, .instanceMethod yX1_signed, .selects RX1 yX1_signed yX1_signed, .initialized RX1, .code yX1_signed cX1_signed 2 (some .int), .methodLink RX1 24 yX1_put, .instanceMethod yX1_put, .selects RX1 yX1_put yX1_put, .code yX1_put cX1_put 3 none, .fieldLink RX1 17 "WordArithmeticModel" "flags" "I", .methodLink RX1 20 yX1_is, .instanceMethod yX1_is, .selects RX1 yX1_is yX1_is, .code yX1_is cX1_is 2 (some .boolean), .methodLink RX1 32 yX1_byAnswer, .instanceMethod yX1_byAnswer, .selects RX1 yX1_byAnswer yX1_byAnswer, .code yX1_byAnswer cX1_byAnswer 5 none] ++ wsX10 ++ (vx_atM "java/lang/ArithmeticException" ["java/lang/RuntimeException", "java/lang/Exception"]).filter goodWord)
def wsX1_logic : List Cond := .code yX1_logic cX1_logic 8 (some .int) :: ([.fieldLink RX1 14 "WordArithmeticModel" "all" "I", .methodLink RX1 24 yX1_put, .instanceMethod yX1_put, .selects RX1 yX1_put yX1_put, .initialized RX1, .code yX1_put cX1_put 3 none, .fieldLink RX1 17 "WordArithmeticModel" "flags" "I", .methodLink RX1 20 yX1_is, .instanceMethod yX1_is, .selects RX1 yX1_is yX1_is, .code yX1_is cX1_is 2 (some .boolean), .methodLink RX1 32 yX1_byAnswer, .instanceMethod yX1_byAnswer, .selects RX1 yX1_byAnswer yX1_byAnswer, .code yX1_byAnswer cX1_byAnswer 5 none] ++ wsX10 ++ (vx_atM "java/lang/ArithmeticException" ["java/lang/RuntimeException", "java/lang/Exception"]).filter goodWord)
def wsX1_operate_r1 : List Cond := [Cond.fieldLink RX1 7 "WordArithmeticModel" "code" "I", Cond.fieldLink RX1 14 "WordArithmeticModel" "all" "I", Cond.methodLink RX1 36 yX1_length, Cond.instanceMethod yX1_length, Cond.selects RX1 yX1_length yX1_length, Cond.initialized RX1, Cond.code yX1_length cX1_length 2 none, Cond.constant RX1 13 (65536), Cond.methodLink RX1 40 yX1_operand, Cond.instanceMethod yX1_operand, Cond.selects RX1 yX1_operand yX1_operand, Cond.code yX1_operand cX1_operand 2 (some .int), Cond.methodLink RX1 20 yX1_is, Cond.instanceMethod yX1_is, Cond.selects RX1 yX1_is yX1_is, Cond.code yX1_is cX1_is 2 (some .boolean), Cond.fieldLink RX1 17 "WordArithmeticModel" "flags" "I", Cond.methodLink RX1 43 yX1_sum, Cond.instanceMethod yX1_sum, Cond.selects RX1 yX1_sum yX1_sum, Cond.code yX1_sum cX1_sum 6 (some .int), Cond.methodLink RX1 28 yX1_signed, Cond.instanceMethod yX1_signed, Cond.selects RX1 yX1_signed yX1_signed]
def wsX1_operate_r2 : List Cond := [Cond.code yX1_signed cX1_signed 2 (some .int), Cond.methodLink RX1 24 yX1_put, Cond.instanceMethod yX1_put, Cond.selects RX1 yX1_put yX1_put, Cond.code yX1_put cX1_put 3 none, Cond.methodLink RX1 32 yX1_byAnswer, Cond.instanceMethod yX1_byAnswer, Cond.selects RX1 yX1_byAnswer yX1_byAnswer, Cond.code yX1_byAnswer cX1_byAnswer 5 none, Cond.methodLink RX1 47 yX1_logic, Cond.instanceMethod yX1_logic, Cond.selects RX1 yX1_logic yX1_logic, Cond.code yX1_logic cX1_logic 8 (some .int), Cond.methodLink RX1 50 yX1_difference, Cond.instanceMethod yX1_difference, Cond.selects RX1 yX1_difference yX1_difference, Cond.code yX1_difference cX1_difference 7 (some .int)]
def wsX1_operate : List Cond := .code yX1_operate cX1_operate 9 (some .int) :: ((wsX1_operate_r1 ++ wsX1_operate_r2) ++ wsX10 ++ (vx_atM "java/lang/ArithmeticException" ["java/lang/RuntimeException", "java/lang/Exception"]).filter goodWord)
def wsX1_once : List Cond := .code yX1_once cX1_once 11 (some .int) :: ([.fieldLink RX1 14 "WordArithmeticModel" "all" "I", .methodLink RX1 20 yX1_is, .instanceMethod yX1_is, .selects RX1 yX1_is yX1_is, .initialized RX1, .code yX1_is cX1_is 2 (some .boolean), .fieldLink RX1 17 "WordArithmeticModel" "flags" "I", .methodLink RX1 24 yX1_put, .instanceMethod yX1_put, .selects RX1 yX1_put yX1_put, .code yX1_put cX1_put 3 none, .methodLink RX1 32 yX1_byAnswer, .instanceMethod yX1_byAnswer, .selects RX1 yX1_byAnswer yX1_byAnswer, .code yX1_byAnswer cX1_byAnswer 5 none] ++ wsX10 ++ (vx_atM "java/lang/ArithmeticException" ["java/lang/RuntimeException", "java/lang/Exception"]).filter goodWord)
def wsX1_shift_r1 : List Cond := [Cond.fieldLink RX1 7 "WordArithmeticModel" "code" "I", Cond.methodLink RX1 36 yX1_length, Cond.instanceMethod yX1_length, Cond.selects RX1 yX1_length yX1_length, Cond.initialized RX1, Cond.code yX1_length cX1_length 2 none, Cond.constant RX1 13 (65536), Cond.fieldLink RX1 14 "WordArithmeticModel" "all" "I", Cond.methodLink RX1 40 yX1_operand, Cond.instanceMethod yX1_operand, Cond.selects RX1 yX1_operand yX1_operand, Cond.code yX1_operand cX1_operand 2 (some .int), Cond.methodLink RX1 53 yX1_once, Cond.instanceMethod yX1_once, Cond.selects RX1 yX1_once yX1_once, Cond.code yX1_once cX1_once 11 (some .int), Cond.methodLink RX1 20 yX1_is, Cond.instanceMethod yX1_is, Cond.selects RX1 yX1_is yX1_is, Cond.code yX1_is cX1_is 2 (some .boolean), Cond.fieldLink RX1 17 "WordArithmeticModel" "flags" "I", Cond.methodLink RX1 24 yX1_put, Cond.instanceMethod yX1_put, Cond.selects RX1 yX1_put yX1_put]
def wsX1_shift_r2 : List Cond := [Cond.code yX1_put cX1_put 3 none, Cond.methodLink RX1 32 yX1_byAnswer, Cond.instanceMethod yX1_byAnswer, Cond.selects RX1 yX1_byAnswer yX1_byAnswer, Cond.code yX1_byAnswer cX1_byAnswer 5 none]
def wsX1_shift : List Cond := .code yX1_shift cX1_shift 7 (some .int) :: ((wsX1_shift_r1 ++ wsX1_shift_r2) ++ wsX10 ++ (vx_atM "java/lang/ArithmeticException" ["java/lang/RuntimeException", "java/lang/Exception"]).filter goodWord)
def wsX1_multiply_r1 : List Cond := [Cond.fieldLink RX1 7 "WordArithmeticModel" "code" "I", Cond.fieldLink RX1 14 "WordArithmeticModel" "all" "I", Cond.methodLink RX1 36 yX1_length, Cond.instanceMethod yX1_length, Cond.selects RX1 yX1_length yX1_length, Cond.initialized RX1, Cond.code yX1_length cX1_length 2 none, Cond.constant RX1 13 (65536), Cond.methodLink RX1 40 yX1_operand, Cond.instanceMethod yX1_operand, Cond.selects RX1 yX1_operand yX1_operand, Cond.code yX1_operand cX1_operand 2 (some .int), Cond.methodLink RX1 28 yX1_signed, Cond.instanceMethod yX1_signed, Cond.selects RX1 yX1_signed yX1_signed, Cond.code yX1_signed cX1_signed 2 (some .int), Cond.methodLink RX1 24 yX1_put, Cond.instanceMethod yX1_put, Cond.selects RX1 yX1_put yX1_put, Cond.code yX1_put cX1_put 3 none, Cond.fieldLink RX1 17 "WordArithmeticModel" "flags" "I", Cond.methodLink RX1 20 yX1_is, Cond.instanceMethod yX1_is, Cond.selects RX1 yX1_is yX1_is]
def wsX1_multiply_r2 : List Cond := [Cond.code yX1_is cX1_is 2 (some .boolean)]
def wsX1_multiply : List Cond := .code yX1_multiply cX1_multiply 15 (some .int) :: ((wsX1_multiply_r1 ++ wsX1_multiply_r2) ++ wsX10 ++ (vx_atM "java/lang/ArithmeticException" ["java/lang/RuntimeException", "java/lang/Exception"]).filter goodWord)
def wsX1_divide : List Cond := .code yX1_divide cX1_divide 17 (some .int) :: ([.fieldLink RX1 14 "WordArithmeticModel" "all" "I", .constantLong RX1 57 (2), .fieldLink RX1 7 "WordArithmeticModel" "code" "I", .methodLink RX1 36 yX1_length, .instanceMethod yX1_length, .selects RX1 yX1_length yX1_length, .initialized RX1, .code yX1_length cX1_length 2 none, .constant RX1 13 (65536), .methodLink RX1 40 yX1_operand, .instanceMethod yX1_operand, .selects RX1 yX1_operand yX1_operand, .code yX1_operand cX1_operand 2 (some .int), .methodLink RX1 28 yX1_signed, .instanceMethod yX1_signed, .selects RX1 yX1_signed yX1_signed, .code yX1_signed cX1_signed 2 (some .int)] ++ wsX10 ++ (vx_atM "java/lang/ArithmeticException" ["java/lang/RuntimeException", "java/lang/Exception"]).filter goodWord)
def wsX1_byteOf : List Cond := .code yX1_byteOf cX1_byteOf 1 (some .int) :: ([])
def wsX1_adjust : List Cond := .code yX1_adjust cX1_adjust 10 (some .int) :: ([.fieldLink RX1 7 "WordArithmeticModel" "code" "I", .methodLink RX1 59 yX1_byteOf, .static yX1_byteOf, .initialized RX1, .code yX1_byteOf cX1_byteOf 1 (some .int), .methodLink RX1 36 yX1_length, .instanceMethod yX1_length, .selects RX1 yX1_length yX1_length, .code yX1_length cX1_length 2 none, .constant RX1 13 (65536), .fieldLink RX1 14 "WordArithmeticModel" "all" "I", .methodLink RX1 20 yX1_is, .instanceMethod yX1_is, .selects RX1 yX1_is yX1_is, .code yX1_is cX1_is 2 (some .boolean), .fieldLink RX1 17 "WordArithmeticModel" "flags" "I", .methodLink RX1 24 yX1_put, .instanceMethod yX1_put, .selects RX1 yX1_put yX1_put, .code yX1_put cX1_put 3 none, .methodLink RX1 32 yX1_byAnswer, .instanceMethod yX1_byAnswer, .selects RX1 yX1_byAnswer yX1_byAnswer, .code yX1_byAnswer cX1_byAnswer 5 none] ++ wsX10 ++ (vx_atM "java/lang/ArithmeticException" ["java/lang/RuntimeException", "java/lang/Exception"]).filter goodWord)
def wsX1_extend : List Cond := .code yX1_extend cX1_extend 4 (some .int) :: ([.fieldLink RX1 7 "WordArithmeticModel" "code" "I", .constant RX1 13 (65536), .methodLink RX1 36 yX1_length, .instanceMethod yX1_length, .selects RX1 yX1_length yX1_length, .initialized RX1, .code yX1_length cX1_length 2 none, .fieldLink RX1 14 "WordArithmeticModel" "all" "I", .methodLink RX1 40 yX1_operand, .instanceMethod yX1_operand, .selects RX1 yX1_operand yX1_operand, .code yX1_operand cX1_operand 2 (some .int), .methodLink RX1 28 yX1_signed, .instanceMethod yX1_signed, .selects RX1 yX1_signed yX1_signed, .code yX1_signed cX1_signed 2 (some .int)] ++ wsX10)
def wsX1_holds : List Cond := .code yX1_holds cX1_holds 5 (some .boolean) :: ([.fieldLink RX1 7 "WordArithmeticModel" "code" "I", .methodLink RX1 20 yX1_is, .instanceMethod yX1_is, .selects RX1 yX1_is yX1_is, .initialized RX1, .code yX1_is cX1_is 2 (some .boolean), .fieldLink RX1 17 "WordArithmeticModel" "flags" "I"] ++ wsX10 ++ (vx_atM "java/lang/ArithmeticException" ["java/lang/RuntimeException", "java/lang/Exception"]).filter goodWord)
def wsL_operate_r1 : List Cond := [Cond.classLink RL 13 "java/lang/IllegalArgumentException", Cond.methodLink RL 7 yX0_operate, Cond.instanceMethod yX0_operate, Cond.selects RX0 yX0_operate yX0_operate, Cond.initialized RX0, Cond.code yX0_operate cX0_operate 7 (some .int), Cond.classLink RX0 33 "java/lang/IllegalArgumentException", Cond.initialized "java/lang/IllegalArgumentException", Cond.fieldLink RX0 7 "WordArithmetic" "held" "I", Cond.methodLink RX0 13 yX0_operand, Cond.static yX0_operand, Cond.code yX0_operand cX0_operand 2 (some .int), Cond.methodLink RX0 131 yX0_mask, Cond.static yX0_mask, Cond.code yX0_mask cX0_mask 1 (some .int), Cond.constant RX0 63 (65535), Cond.methodLink RX0 17 yX0_sum, Cond.instanceMethod yX0_sum, Cond.selects RX0 yX0_sum yX0_sum, Cond.code yX0_sum cX0_sum 6 (some .int), Cond.methodLink RX0 59 yX0_put, Cond.instanceMethod yX0_put, Cond.selects RX0 yX0_put yX0_put, Cond.code yX0_put cX0_put 3 none]
def wsL_operate_r2 : List Cond := [Cond.methodLink RX0 105 yX0_signedValue, Cond.static yX0_signedValue, Cond.code yX0_signedValue cX0_signedValue 2 (some .int), Cond.methodLink RX0 136 yX0_putOverflow, Cond.instanceMethod yX0_putOverflow, Cond.selects RX0 yX0_putOverflow yX0_putOverflow, Cond.code yX0_putOverflow cX0_putOverflow 3 none, Cond.methodLink RX0 139 yX0_kept, Cond.instanceMethod yX0_kept, Cond.selects RX0 yX0_kept yX0_kept, Cond.code yX0_kept cX0_kept 4 (some .int), Cond.methodLink RX0 51 yX0_goByAnswer, Cond.instanceMethod yX0_goByAnswer, Cond.selects RX0 yX0_goByAnswer yX0_goByAnswer, Cond.code yX0_goByAnswer cX0_goByAnswer 3 none, Cond.methodLink RX0 118 yX0_hasHighestBit, Cond.static yX0_hasHighestBit, Cond.code yX0_hasHighestBit cX0_hasHighestBit 2 (some .boolean), Cond.methodLink RX0 128 yX0_highestBit, Cond.static yX0_highestBit, Cond.code yX0_highestBit cX0_highestBit 1 (some .int), Cond.constant RX0 127 (32768), Cond.methodLink RX0 122 yJ6_bitCount_0f7a4, Cond.static yJ6_bitCount_0f7a4]
def wsL_operate_r3 : List Cond := [Cond.initialized RJ6, Cond.code yJ6_bitCount_0f7a4 cJ6_bitCount_0f7a4 1 (some .int), Cond.constant RJ6 265 (1431655765), Cond.constant RJ6 266 (858993459), Cond.constant RJ6 267 (252645135), Cond.methodLink RX0 21 yX0_logic, Cond.instanceMethod yX0_logic, Cond.selects RX0 yX0_logic yX0_logic, Cond.code yX0_logic cX0_logic 3 (some .int), Cond.methodLink RX0 24 yX0_difference, Cond.instanceMethod yX0_difference, Cond.selects RX0 yX0_difference yX0_difference, Cond.code yX0_difference cX0_difference 6 (some .int), Cond.methodLink RX0 27 yX0_oneMore, Cond.instanceMethod yX0_oneMore, Cond.selects RX0 yX0_oneMore yX0_oneMore, Cond.code yX0_oneMore cX0_oneMore 5 (some .int), Cond.methodLink RX0 108 yX0_isSet, Cond.instanceMethod yX0_isSet, Cond.selects RX0 yX0_isSet yX0_isSet, Cond.code yX0_isSet cX0_isSet 2 (some .boolean), Cond.methodLink RX0 30 yX0_oneLess, Cond.instanceMethod yX0_oneLess, Cond.selects RX0 yX0_oneLess yX0_oneLess]
def wsL_operate_r4 : List Cond := [Cond.code yX0_oneLess cX0_oneLess 5 (some .int)]
def wsL_operate : List Cond := .codeWith yL_operate cL_operate 7 (some .int) [(0, 14, 17, 13)] :: ((wsL_operate_r1 ++ (wsL_operate_r2 ++ (wsL_operate_r3 ++ wsL_operate_r4))) ++ wsX00 ++ (vx_atS RX0 37 "java/lang/IllegalArgumentException" ["java/lang/RuntimeException", "java/lang/Exception"]).filter goodWord)
def wsL_shift_r1 : List Cond := [Cond.classLink RL 13 "java/lang/IllegalArgumentException", Cond.methodLink RL 15 yX0_shift, Cond.instanceMethod yX0_shift, Cond.selects RX0 yX0_shift yX0_shift, Cond.initialized RX0, Cond.code yX0_shift cX0_shift 8 (some .int), Cond.classLink RX0 33 "java/lang/IllegalArgumentException", Cond.initialized "java/lang/IllegalArgumentException", Cond.methodLink RX0 13 yX0_operand, Cond.static yX0_operand, Cond.code yX0_operand cX0_operand 2 (some .int), Cond.methodLink RX0 131 yX0_mask, Cond.static yX0_mask, Cond.code yX0_mask cX0_mask 1 (some .int), Cond.constant RX0 63 (65535), Cond.methodLink RX0 44 yX0_leftByOne, Cond.instanceMethod yX0_leftByOne, Cond.selects RX0 yX0_leftByOne yX0_leftByOne, Cond.code yX0_leftByOne cX0_leftByOne 7 (some .int), Cond.methodLink RX0 118 yX0_hasHighestBit, Cond.static yX0_hasHighestBit, Cond.code yX0_hasHighestBit cX0_hasHighestBit 2 (some .boolean), Cond.methodLink RX0 128 yX0_highestBit, Cond.static yX0_highestBit]
def wsL_shift_r2 : List Cond := [Cond.code yX0_highestBit cX0_highestBit 1 (some .int), Cond.constant RX0 127 (32768), Cond.methodLink RX0 108 yX0_isSet, Cond.instanceMethod yX0_isSet, Cond.selects RX0 yX0_isSet yX0_isSet, Cond.code yX0_isSet cX0_isSet 2 (some .boolean), Cond.fieldLink RX0 7 "WordArithmetic" "held" "I", Cond.methodLink RX0 59 yX0_put, Cond.instanceMethod yX0_put, Cond.selects RX0 yX0_put yX0_put, Cond.code yX0_put cX0_put 3 none, Cond.methodLink RX0 48 yX0_rightByOne, Cond.instanceMethod yX0_rightByOne, Cond.selects RX0 yX0_rightByOne yX0_rightByOne, Cond.code yX0_rightByOne cX0_rightByOne 7 (some .int), Cond.methodLink RX0 142 yX0_comesInFromLeft, Cond.instanceMethod yX0_comesInFromLeft, Cond.selects RX0 yX0_comesInFromLeft yX0_comesInFromLeft, Cond.code yX0_comesInFromLeft cX0_comesInFromLeft 4 (some .boolean), Cond.methodLink RX0 51 yX0_goByAnswer, Cond.instanceMethod yX0_goByAnswer, Cond.selects RX0 yX0_goByAnswer yX0_goByAnswer, Cond.code yX0_goByAnswer cX0_goByAnswer 3 none, Cond.methodLink RX0 122 yJ6_bitCount_0f7a4]
def wsL_shift_r3 : List Cond := [Cond.static yJ6_bitCount_0f7a4, Cond.initialized RJ6, Cond.code yJ6_bitCount_0f7a4 cJ6_bitCount_0f7a4 1 (some .int), Cond.constant RJ6 265 (1431655765), Cond.constant RJ6 266 (858993459), Cond.constant RJ6 267 (252645135)]
def wsL_shift : List Cond := .codeWith yL_shift cL_shift 7 (some .int) [(0, 14, 17, 13)] :: ((wsL_shift_r1 ++ (wsL_shift_r2 ++ wsL_shift_r3)) ++ wsX00 ++ (vx_atS RX0 37 "java/lang/IllegalArgumentException" ["java/lang/RuntimeException", "java/lang/Exception"]).filter goodWord)
def wsL_divide_r1 : List Cond := [Cond.classLink RL 22 "java/lang/ArithmeticException", Cond.methodLink RL 18 yX0_divide, Cond.instanceMethod yX0_divide, Cond.selects RX0 yX0_divide yX0_divide, Cond.initialized RX0, Cond.code yX0_divide cX0_divide 13 (some .int), Cond.classLink RX0 68 "java/lang/ArithmeticException", Cond.initialized "java/lang/ArithmeticException", Cond.methodLink RX0 64 yX0_valueTwiceAsLong, Cond.static yX0_valueTwiceAsLong, Cond.code yX0_valueTwiceAsLong cX0_valueTwiceAsLong 3 (some .long), Cond.constantLong RX0 134 (4294967295), Cond.methodLink RX0 55 yX0_valueOf, Cond.static yX0_valueOf, Cond.code yX0_valueOf cX0_valueOf 3 (some .int), Cond.methodLink RX0 105 yX0_signedValue, Cond.static yX0_signedValue, Cond.code yX0_signedValue cX0_signedValue 2 (some .int), Cond.methodLink RX0 13 yX0_operand, Cond.static yX0_operand, Cond.code yX0_operand cX0_operand 2 (some .int), Cond.methodLink RX0 131 yX0_mask, Cond.static yX0_mask, Cond.code yX0_mask cX0_mask 1 (some .int)]
def wsL_divide_r2 : List Cond := [Cond.constant RX0 63 (65535), Cond.methodLink RX0 73 yX0_isQuotient, Cond.static yX0_isQuotient, Cond.code yX0_isQuotient cX0_isQuotient 6 (some .boolean), Cond.methodLink RX0 79 yX0_width, Cond.static yX0_width, Cond.code yX0_width cX0_width 1 (some .int)]
def wsL_divide : List Cond := .codeWith yL_divide cL_divide 7 (some .int) [(0, 14, 17, 22)] :: ((wsL_divide_r1 ++ wsL_divide_r2) ++ (vx_atS RX0 72 "java/lang/ArithmeticException" ["java/lang/RuntimeException", "java/lang/Exception"]).filter goodWord ++ (vx_atM "java/lang/ArithmeticException" ["java/lang/RuntimeException", "java/lang/Exception"]).filter goodWord)
def wsL_adjust_r1 : List Cond := [Cond.classLink RL 13 "java/lang/IllegalArgumentException", Cond.classLink RL 22 "java/lang/ArithmeticException", Cond.methodLink RL 24 yX0_adjust, Cond.instanceMethod yX0_adjust, Cond.selects RX0 yX0_adjust yX0_adjust, Cond.initialized RX0, Cond.code yX0_adjust cX0_adjust 7 (some .int), Cond.classLink RX0 68 "java/lang/ArithmeticException", Cond.initialized "java/lang/ArithmeticException", Cond.classLink RX0 33 "java/lang/IllegalArgumentException", Cond.initialized "java/lang/IllegalArgumentException", Cond.methodLink RX0 83 yX0_adjustedSum, Cond.instanceMethod yX0_adjustedSum, Cond.selects RX0 yX0_adjustedSum yX0_adjustedSum, Cond.code yX0_adjustedSum cX0_adjustedSum 4 (some .int), Cond.methodLink RX0 146 yX0_needsLowerGap, Cond.instanceMethod yX0_needsLowerGap, Cond.selects RX0 yX0_needsLowerGap yX0_needsLowerGap, Cond.code yX0_needsLowerGap cX0_needsLowerGap 2 (some .boolean), Cond.methodLink RX0 108 yX0_isSet, Cond.instanceMethod yX0_isSet, Cond.selects RX0 yX0_isSet yX0_isSet, Cond.code yX0_isSet cX0_isSet 2 (some .boolean), Cond.fieldLink RX0 7 "WordArithmetic" "held" "I"]
def wsL_adjust_r2 : List Cond := [Cond.methodLink RX0 149 yX0_needsUpperGap, Cond.instanceMethod yX0_needsUpperGap, Cond.selects RX0 yX0_needsUpperGap yX0_needsUpperGap, Cond.code yX0_needsUpperGap cX0_needsUpperGap 2 (some .boolean), Cond.methodLink RX0 59 yX0_put, Cond.instanceMethod yX0_put, Cond.selects RX0 yX0_put yX0_put, Cond.code yX0_put cX0_put 3 none, Cond.methodLink RX0 152 yX0_gap, Cond.static yX0_gap, Cond.code yX0_gap cX0_gap 2 (some .int), Cond.methodLink RX0 100 yX0_adjustedByte, Cond.instanceMethod yX0_adjustedByte, Cond.selects RX0 yX0_adjustedByte yX0_adjustedByte, Cond.code yX0_adjustedByte cX0_adjustedByte 2 (some .int), Cond.methodLink RX0 139 yX0_kept, Cond.instanceMethod yX0_kept, Cond.selects RX0 yX0_kept yX0_kept, Cond.code yX0_kept cX0_kept 4 (some .int), Cond.methodLink RX0 13 yX0_operand, Cond.static yX0_operand, Cond.code yX0_operand cX0_operand 2 (some .int), Cond.methodLink RX0 131 yX0_mask, Cond.static yX0_mask]
def wsL_adjust_r3 : List Cond := [Cond.code yX0_mask cX0_mask 1 (some .int), Cond.constant RX0 63 (65535), Cond.methodLink RX0 51 yX0_goByAnswer, Cond.instanceMethod yX0_goByAnswer, Cond.selects RX0 yX0_goByAnswer yX0_goByAnswer, Cond.code yX0_goByAnswer cX0_goByAnswer 3 none, Cond.methodLink RX0 118 yX0_hasHighestBit, Cond.static yX0_hasHighestBit, Cond.code yX0_hasHighestBit cX0_hasHighestBit 2 (some .boolean), Cond.methodLink RX0 128 yX0_highestBit, Cond.static yX0_highestBit, Cond.code yX0_highestBit cX0_highestBit 1 (some .int), Cond.constant RX0 127 (32768), Cond.methodLink RX0 122 yJ6_bitCount_0f7a4, Cond.static yJ6_bitCount_0f7a4, Cond.initialized RJ6, Cond.code yJ6_bitCount_0f7a4 cJ6_bitCount_0f7a4 1 (some .int), Cond.constant RJ6 265 (1431655765), Cond.constant RJ6 266 (858993459), Cond.constant RJ6 267 (252645135), Cond.methodLink RX0 87 yX0_joined, Cond.static yX0_joined, Cond.code yX0_joined cX0_joined 2 (some .int), Cond.methodLink RX0 91 yX0_adjustedDifference]
def wsL_adjust_r4 : List Cond := [Cond.instanceMethod yX0_adjustedDifference, Cond.selects RX0 yX0_adjustedDifference yX0_adjustedDifference, Cond.code yX0_adjustedDifference cX0_adjustedDifference 4 (some .int), Cond.methodLink RX0 94 yX0_adjustedDigit, Cond.instanceMethod yX0_adjustedDigit, Cond.selects RX0 yX0_adjustedDigit yX0_adjustedDigit, Cond.code yX0_adjustedDigit cX0_adjustedDigit 7 (some .int)]
def wsL_adjust : List Cond := .codeWith yL_adjust cL_adjust 6 (some .int) [(0, 12, 15, 13), (0, 12, 19, 22)] :: ((wsL_adjust_r1 ++ (wsL_adjust_r2 ++ (wsL_adjust_r3 ++ wsL_adjust_r4))) ++ wsX00 ++ (vx_atS RX0 72 "java/lang/ArithmeticException" ["java/lang/RuntimeException", "java/lang/Exception"]).filter goodWord ++ (vx_atM "java/lang/ArithmeticException" ["java/lang/RuntimeException", "java/lang/Exception"]).filter goodWord ++ (vx_atS RX0 37 "java/lang/IllegalArgumentException" ["java/lang/RuntimeException", "java/lang/Exception"]).filter goodWord)
def wsL_holds : List Cond := .codeWith yL_holds cL_holds 4 (some .int) [(0, 16, 19, 13)] :: ([.classLink RL 13 "java/lang/IllegalArgumentException", .methodLink RL 28 yX0_holds, .instanceMethod yX0_holds, .selects RX0 yX0_holds yX0_holds, .initialized RX0, .code yX0_holds cX0_holds 2 (some .boolean), .classLink RX0 33 "java/lang/IllegalArgumentException", .initialized "java/lang/IllegalArgumentException", .methodLink RX0 108 yX0_isSet, .instanceMethod yX0_isSet, .selects RX0 yX0_isSet yX0_isSet, .code yX0_isSet cX0_isSet 2 (some .boolean), .fieldLink RX0 7 "WordArithmetic" "held" "I", .methodLink RX0 112 yX0_isLess, .instanceMethod yX0_isLess, .selects RX0 yX0_isLess yX0_isLess, .code yX0_isLess cX0_isLess 1 (some .boolean)] ++ wsX00 ++ (vx_atS RX0 37 "java/lang/IllegalArgumentException" ["java/lang/RuntimeException", "java/lang/Exception"]).filter goodWord)
def wsL_law0_r1 : List Cond := [Cond.classLink RL 8 RX0, Cond.instantiable RX0 1, Cond.initialized RX0, Cond.classLink RL 33 RX1, Cond.instantiable RX1 3, Cond.initialized RX1, Cond.arrayClass .long, Cond.methodLink RL 32 yX0_init, Cond.instanceMethod yX0_init, Cond.code yX0_init cX0_init 1 none, Cond.methodLink RX0 1 objectInit, Cond.instanceMethod objectInit, Cond.code objectInit ⟨#[0xb1]⟩ 1 none, Cond.fieldLink RX0 7 "WordArithmetic" "held" "I", Cond.methodLink RL 35 yX1_init, Cond.instanceMethod yX1_init, Cond.code yX1_init cX1_init 1 none, Cond.methodLink RX1 1 objectInit, Cond.methodLink RL 36 yX0_set, Cond.instanceMethod yX0_set, Cond.selects RX0 yX0_set yX0_set, Cond.code yX0_set cX0_set 2 none, Cond.methodLink RL 40 yX1_set, Cond.instanceMethod yX1_set]
def wsL_law0_r2 : List Cond := [Cond.selects RX1 yX1_set yX1_set, Cond.code yX1_set cX1_set 2 none, Cond.fieldLink RX1 7 "WordArithmeticModel" "code" "I", Cond.fieldLink RX1 17 "WordArithmeticModel" "flags" "I", Cond.methodLink RL 41 yX0_flags, Cond.instanceMethod yX0_flags, Cond.selects RX0 yX0_flags yX0_flags, Cond.code yX0_flags cX0_flags 1 (some .int), Cond.methodLink RL 45 yX1_flags, Cond.instanceMethod yX1_flags, Cond.selects RX1 yX1_flags yX1_flags, Cond.code yX1_flags cX1_flags 1 (some .int), Cond.methodLink RL 46 yL_operate, Cond.static yL_operate, Cond.initialized RL, Cond.codeWith yL_operate cL_operate 7 (some .int) [(0, 14, 17, 13)], Cond.classLink RL 13 "java/lang/IllegalArgumentException", Cond.methodLink RL 7 yX0_operate, Cond.instanceMethod yX0_operate, Cond.selects RX0 yX0_operate yX0_operate, Cond.code yX0_operate cX0_operate 7 (some .int), Cond.classLink RX0 33 "java/lang/IllegalArgumentException", Cond.initialized "java/lang/IllegalArgumentException", Cond.methodLink RX0 13 yX0_operand]
def wsL_law0_r3 : List Cond := [Cond.static yX0_operand, Cond.code yX0_operand cX0_operand 2 (some .int), Cond.methodLink RX0 131 yX0_mask, Cond.static yX0_mask, Cond.code yX0_mask cX0_mask 1 (some .int), Cond.constant RX0 63 (65535), Cond.methodLink RX0 17 yX0_sum, Cond.instanceMethod yX0_sum, Cond.selects RX0 yX0_sum yX0_sum, Cond.code yX0_sum cX0_sum 6 (some .int), Cond.methodLink RX0 59 yX0_put, Cond.instanceMethod yX0_put, Cond.selects RX0 yX0_put yX0_put, Cond.code yX0_put cX0_put 3 none, Cond.methodLink RX0 105 yX0_signedValue, Cond.static yX0_signedValue, Cond.code yX0_signedValue cX0_signedValue 2 (some .int), Cond.methodLink RX0 136 yX0_putOverflow, Cond.instanceMethod yX0_putOverflow, Cond.selects RX0 yX0_putOverflow yX0_putOverflow, Cond.code yX0_putOverflow cX0_putOverflow 3 none, Cond.methodLink RX0 139 yX0_kept, Cond.instanceMethod yX0_kept, Cond.selects RX0 yX0_kept yX0_kept]
def wsL_law0_r4 : List Cond := [Cond.code yX0_kept cX0_kept 4 (some .int), Cond.methodLink RX0 51 yX0_goByAnswer, Cond.instanceMethod yX0_goByAnswer, Cond.selects RX0 yX0_goByAnswer yX0_goByAnswer, Cond.code yX0_goByAnswer cX0_goByAnswer 3 none, Cond.methodLink RX0 118 yX0_hasHighestBit, Cond.static yX0_hasHighestBit, Cond.code yX0_hasHighestBit cX0_hasHighestBit 2 (some .boolean), Cond.methodLink RX0 128 yX0_highestBit, Cond.static yX0_highestBit, Cond.code yX0_highestBit cX0_highestBit 1 (some .int), Cond.constant RX0 127 (32768), Cond.methodLink RX0 122 yJ6_bitCount_0f7a4, Cond.static yJ6_bitCount_0f7a4, Cond.initialized RJ6, Cond.code yJ6_bitCount_0f7a4 cJ6_bitCount_0f7a4 1 (some .int), Cond.constant RJ6 265 (1431655765), Cond.constant RJ6 266 (858993459), Cond.constant RJ6 267 (252645135), Cond.methodLink RX0 21 yX0_logic, Cond.instanceMethod yX0_logic, Cond.selects RX0 yX0_logic yX0_logic, Cond.code yX0_logic cX0_logic 3 (some .int), Cond.methodLink RX0 24 yX0_difference]
def wsL_law0_r5 : List Cond := [Cond.instanceMethod yX0_difference, Cond.selects RX0 yX0_difference yX0_difference, Cond.code yX0_difference cX0_difference 6 (some .int), Cond.methodLink RX0 27 yX0_oneMore, Cond.instanceMethod yX0_oneMore, Cond.selects RX0 yX0_oneMore yX0_oneMore, Cond.code yX0_oneMore cX0_oneMore 5 (some .int), Cond.methodLink RX0 108 yX0_isSet, Cond.instanceMethod yX0_isSet, Cond.selects RX0 yX0_isSet yX0_isSet, Cond.code yX0_isSet cX0_isSet 2 (some .boolean), Cond.methodLink RX0 30 yX0_oneLess, Cond.instanceMethod yX0_oneLess, Cond.selects RX0 yX0_oneLess yX0_oneLess, Cond.code yX0_oneLess cX0_oneLess 5 (some .int), Cond.methodLink RL 51 yX1_operate, Cond.instanceMethod yX1_operate, Cond.selects RX1 yX1_operate yX1_operate, Cond.code yX1_operate cX1_operate 9 (some .int), Cond.fieldLink RX1 14 "WordArithmeticModel" "all" "I", Cond.methodLink RX1 36 yX1_length, Cond.instanceMethod yX1_length, Cond.selects RX1 yX1_length yX1_length, Cond.code yX1_length cX1_length 2 none]
def wsL_law0_r6 : List Cond := [Cond.constant RX1 13 (65536), Cond.methodLink RX1 40 yX1_operand, Cond.instanceMethod yX1_operand, Cond.selects RX1 yX1_operand yX1_operand, Cond.code yX1_operand cX1_operand 2 (some .int), Cond.methodLink RX1 20 yX1_is, Cond.instanceMethod yX1_is, Cond.selects RX1 yX1_is yX1_is, Cond.code yX1_is cX1_is 2 (some .boolean), Cond.methodLink RX1 43 yX1_sum, Cond.instanceMethod yX1_sum, Cond.selects RX1 yX1_sum yX1_sum, Cond.code yX1_sum cX1_sum 6 (some .int), Cond.methodLink RX1 28 yX1_signed, Cond.instanceMethod yX1_signed, Cond.selects RX1 yX1_signed yX1_signed, Cond.code yX1_signed cX1_signed 2 (some .int), Cond.methodLink RX1 24 yX1_put, Cond.instanceMethod yX1_put, Cond.selects RX1 yX1_put yX1_put, Cond.code yX1_put cX1_put 3 none, Cond.methodLink RX1 32 yX1_byAnswer, Cond.instanceMethod yX1_byAnswer, Cond.selects RX1 yX1_byAnswer yX1_byAnswer]
def wsL_law0_r7 : List Cond := [Cond.code yX1_byAnswer cX1_byAnswer 5 none, Cond.methodLink RX1 47 yX1_logic, Cond.instanceMethod yX1_logic, Cond.selects RX1 yX1_logic yX1_logic, Cond.code yX1_logic cX1_logic 8 (some .int), Cond.methodLink RX1 50 yX1_difference, Cond.instanceMethod yX1_difference, Cond.selects RX1 yX1_difference yX1_difference, Cond.code yX1_difference cX1_difference 7 (some .int), Cond.methodLink RL 52 yX1_thrown, Cond.instanceMethod yX1_thrown, Cond.selects RX1 yX1_thrown yX1_thrown, Cond.code yX1_thrown cX1_thrown 1 (some .int), Cond.methodLink RL 55 yL_shift, Cond.static yL_shift, Cond.codeWith yL_shift cL_shift 7 (some .int) [(0, 14, 17, 13)], Cond.methodLink RL 15 yX0_shift, Cond.instanceMethod yX0_shift, Cond.selects RX0 yX0_shift yX0_shift, Cond.code yX0_shift cX0_shift 8 (some .int), Cond.methodLink RX0 44 yX0_leftByOne, Cond.instanceMethod yX0_leftByOne, Cond.selects RX0 yX0_leftByOne yX0_leftByOne, Cond.code yX0_leftByOne cX0_leftByOne 7 (some .int)]
def wsL_law0_r8 : List Cond := [Cond.methodLink RX0 48 yX0_rightByOne, Cond.instanceMethod yX0_rightByOne, Cond.selects RX0 yX0_rightByOne yX0_rightByOne, Cond.code yX0_rightByOne cX0_rightByOne 7 (some .int), Cond.methodLink RX0 142 yX0_comesInFromLeft, Cond.instanceMethod yX0_comesInFromLeft, Cond.selects RX0 yX0_comesInFromLeft yX0_comesInFromLeft, Cond.code yX0_comesInFromLeft cX0_comesInFromLeft 4 (some .boolean), Cond.methodLink RL 57 yX1_shift, Cond.instanceMethod yX1_shift, Cond.selects RX1 yX1_shift yX1_shift, Cond.code yX1_shift cX1_shift 7 (some .int), Cond.methodLink RX1 53 yX1_once, Cond.instanceMethod yX1_once, Cond.selects RX1 yX1_once yX1_once, Cond.code yX1_once cX1_once 11 (some .int), Cond.methodLink RL 58 yX0_multiply, Cond.instanceMethod yX0_multiply, Cond.selects RX0 yX0_multiply yX0_multiply, Cond.code yX0_multiply cX0_multiply 8 (some .int), Cond.methodLink RX0 55 yX0_valueOf, Cond.static yX0_valueOf, Cond.code yX0_valueOf cX0_valueOf 3 (some .int), Cond.methodLink RL 61 yX1_multiply]
def wsL_law0_r9 : List Cond := [Cond.instanceMethod yX1_multiply, Cond.selects RX1 yX1_multiply yX1_multiply, Cond.code yX1_multiply cX1_multiply 15 (some .int), Cond.methodLink RL 62 yL_divide, Cond.static yL_divide, Cond.codeWith yL_divide cL_divide 7 (some .int) [(0, 14, 17, 22)], Cond.classLink RL 22 "java/lang/ArithmeticException", Cond.methodLink RL 18 yX0_divide, Cond.instanceMethod yX0_divide, Cond.selects RX0 yX0_divide yX0_divide, Cond.code yX0_divide cX0_divide 13 (some .int), Cond.classLink RX0 68 "java/lang/ArithmeticException", Cond.initialized "java/lang/ArithmeticException", Cond.methodLink RX0 64 yX0_valueTwiceAsLong, Cond.static yX0_valueTwiceAsLong, Cond.code yX0_valueTwiceAsLong cX0_valueTwiceAsLong 3 (some .long), Cond.constantLong RX0 134 (4294967295), Cond.methodLink RX0 73 yX0_isQuotient, Cond.static yX0_isQuotient, Cond.code yX0_isQuotient cX0_isQuotient 6 (some .boolean), Cond.methodLink RX0 79 yX0_width, Cond.static yX0_width, Cond.code yX0_width cX0_width 1 (some .int), Cond.methodLink RL 65 yX1_divide]
def wsL_law0_r10 : List Cond := [Cond.instanceMethod yX1_divide, Cond.selects RX1 yX1_divide yX1_divide, Cond.code yX1_divide cX1_divide 17 (some .int), Cond.constantLong RX1 57 (2), Cond.methodLink RL 66 yL_adjust, Cond.static yL_adjust, Cond.codeWith yL_adjust cL_adjust 6 (some .int) [(0, 12, 15, 13), (0, 12, 19, 22)], Cond.methodLink RL 24 yX0_adjust, Cond.instanceMethod yX0_adjust, Cond.selects RX0 yX0_adjust yX0_adjust, Cond.code yX0_adjust cX0_adjust 7 (some .int), Cond.methodLink RX0 83 yX0_adjustedSum, Cond.instanceMethod yX0_adjustedSum, Cond.selects RX0 yX0_adjustedSum yX0_adjustedSum, Cond.code yX0_adjustedSum cX0_adjustedSum 4 (some .int), Cond.methodLink RX0 146 yX0_needsLowerGap, Cond.instanceMethod yX0_needsLowerGap, Cond.selects RX0 yX0_needsLowerGap yX0_needsLowerGap, Cond.code yX0_needsLowerGap cX0_needsLowerGap 2 (some .boolean), Cond.methodLink RX0 149 yX0_needsUpperGap, Cond.instanceMethod yX0_needsUpperGap, Cond.selects RX0 yX0_needsUpperGap yX0_needsUpperGap, Cond.code yX0_needsUpperGap cX0_needsUpperGap 2 (some .boolean), Cond.methodLink RX0 152 yX0_gap]
def wsL_law0_r11 : List Cond := [Cond.static yX0_gap, Cond.code yX0_gap cX0_gap 2 (some .int), Cond.methodLink RX0 100 yX0_adjustedByte, Cond.instanceMethod yX0_adjustedByte, Cond.selects RX0 yX0_adjustedByte yX0_adjustedByte, Cond.code yX0_adjustedByte cX0_adjustedByte 2 (some .int), Cond.methodLink RX0 87 yX0_joined, Cond.static yX0_joined, Cond.code yX0_joined cX0_joined 2 (some .int), Cond.methodLink RX0 91 yX0_adjustedDifference, Cond.instanceMethod yX0_adjustedDifference, Cond.selects RX0 yX0_adjustedDifference yX0_adjustedDifference, Cond.code yX0_adjustedDifference cX0_adjustedDifference 4 (some .int), Cond.methodLink RX0 94 yX0_adjustedDigit, Cond.instanceMethod yX0_adjustedDigit, Cond.selects RX0 yX0_adjustedDigit yX0_adjustedDigit, Cond.code yX0_adjustedDigit cX0_adjustedDigit 7 (some .int), Cond.methodLink RL 69 yX1_adjust, Cond.instanceMethod yX1_adjust, Cond.selects RX1 yX1_adjust yX1_adjust, Cond.code yX1_adjust cX1_adjust 10 (some .int), Cond.methodLink RX1 59 yX1_byteOf, Cond.static yX1_byteOf, Cond.code yX1_byteOf cX1_byteOf 1 (some .int)]
def wsL_law0_r12 : List Cond := [Cond.methodLink RL 70 yX0_extend, Cond.instanceMethod yX0_extend, Cond.selects RX0 yX0_extend yX0_extend, Cond.code yX0_extend cX0_extend 4 (some .int), Cond.methodLink RL 74 yX1_extend, Cond.instanceMethod yX1_extend, Cond.selects RX1 yX1_extend yX1_extend, Cond.code yX1_extend cX1_extend 4 (some .int), Cond.methodLink RL 75 yL_holds, Cond.static yL_holds, Cond.codeWith yL_holds cL_holds 4 (some .int) [(0, 16, 19, 13)], Cond.methodLink RL 28 yX0_holds, Cond.instanceMethod yX0_holds, Cond.selects RX0 yX0_holds yX0_holds, Cond.code yX0_holds cX0_holds 2 (some .boolean), Cond.methodLink RX0 112 yX0_isLess, Cond.instanceMethod yX0_isLess, Cond.selects RX0 yX0_isLess yX0_isLess, Cond.code yX0_isLess cX0_isLess 1 (some .boolean), Cond.methodLink RL 78 yX1_holds, Cond.instanceMethod yX1_holds, Cond.selects RX1 yX1_holds yX1_holds, Cond.code yX1_holds cX1_holds 5 (some .boolean)]
def wsL_law0 : List Cond := (wsL_law0_r1 ++ (wsL_law0_r2 ++ (wsL_law0_r3 ++ (wsL_law0_r4 ++ (wsL_law0_r5 ++ (wsL_law0_r6 ++ (wsL_law0_r7 ++ (wsL_law0_r8 ++ (wsL_law0_r9 ++ (wsL_law0_r10 ++ (wsL_law0_r11 ++ wsL_law0_r12))))))))))) ++ wsX00 ++ wsX10 ++ ([] : List Cond)
def wsL_law : List Cond := wsL_law0 ++ (vx_atS RX0 37 "java/lang/IllegalArgumentException" ["java/lang/RuntimeException", "java/lang/Exception"]).filter goodWord ++ (vx_atM "java/lang/ArithmeticException" ["java/lang/RuntimeException", "java/lang/Exception"]).filter goodWord ++ (vx_atS RX0 72 "java/lang/ArithmeticException" ["java/lang/RuntimeException", "java/lang/Exception"]).filter goodWord
theorem inJ6 : ∀ w ∈ wsJ60, w ∈ lw_tbl := by decide +kernel
theorem inJ0 : ∀ w ∈ wsJ00, w ∈ lw_tbl := by decide +kernel
theorem dX0_init_0 : decode cX0_init 0 = .ok (.aload_n 0, 1) := by decide +kernel
theorem dX0_init_1 : decode cX0_init 1 = .ok (.invokespecial 1, 3) := by decide +kernel
theorem dX0_init_4 : decode cX0_init 4 = .ok (.aload_n 0, 1) := by decide +kernel
theorem dX0_init_5 : decode cX0_init 5 = .ok (.iconst 0, 1) := by decide +kernel
theorem dX0_init_6 : decode cX0_init 6 = .ok (.putfield 7, 3) := by decide +kernel
theorem dX0_init_9 : decode cX0_init 9 = .ok (.return_, 1) := by decide +kernel
theorem dX0_set_0 : decode cX0_set 0 = .ok (.aload_n 0, 1) := by decide +kernel
theorem dX0_set_1 : decode cX0_set 1 = .ok (.iload_n 1, 1) := by decide +kernel
theorem dX0_set_2 : decode cX0_set 2 = .ok (.sipush 4053, 3) := by decide +kernel
theorem dX0_set_5 : decode cX0_set 5 = .ok (.iand, 1) := by decide +kernel
theorem dX0_set_6 : decode cX0_set 6 = .ok (.putfield 7, 3) := by decide +kernel
theorem dX0_set_9 : decode cX0_set 9 = .ok (.return_, 1) := by decide +kernel
theorem dX0_flags_0 : decode cX0_flags 0 = .ok (.aload_n 0, 1) := by decide +kernel
theorem dX0_flags_1 : decode cX0_flags 1 = .ok (.getfield 7, 3) := by decide +kernel
theorem dX0_flags_4 : decode cX0_flags 4 = .ok (.ireturn, 1) := by decide +kernel
set_option maxRecDepth 20000 in
theorem ggX0_operate_X0_operand : GoodIn wsX0_operate wsX0_operand := goodIn_r _ [7, 8, 9, 6, 10, 11] (by decide +kernel) (by decide +kernel)
set_option maxRecDepth 20000 in
theorem gX0_operate_X0_operand : GoodIn wsX0_operate (va_wsS RX0 13 yX0_operand wsX0_operand) := goodIn_app (goodIn_of _ (by decide +kernel)) ggX0_operate_X0_operand
set_option maxRecDepth 20000 in
theorem ggX0_operate_X0_sum : GoodIn wsX0_operate wsX0_sum := goodIn_r _ [15, 8, 9, 6, 10, 11, 16, 17, 18, 19, 3, 20, 21, 22, 23, 24, 25, 26, 27, 28, 29, 30, 4, 5, 7, 31, 32, 33, 34, 35, 36, 37, 38, 39, 40, 41, 42, 43, 44, 45, 46, 47, 48, 69] (by decide +kernel) (by decide +kernel)
set_option maxRecDepth 20000 in
theorem gX0_operate_X0_sum : GoodIn wsX0_operate (wsV RX0 17 RX0 yX0_sum wsX0_sum) := goodIn_app (goodIn_of _ (by decide +kernel)) ggX0_operate_X0_sum
set_option maxRecDepth 20000 in
theorem ggX0_operate_X0_logic : GoodIn wsX0_operate wsX0_logic := goodIn_r _ [52, 16, 17, 18, 6, 19, 3, 27, 28, 29, 30, 4, 5, 7, 8, 9, 10, 11, 31, 32, 33, 34, 35, 36, 37, 38, 39, 40, 41, 42, 43, 44, 45, 46, 47, 48, 69] (by decide +kernel) (by decide +kernel)
set_option maxRecDepth 20000 in
theorem gX0_operate_X0_logic : GoodIn wsX0_operate (wsV RX0 21 RX0 yX0_logic wsX0_logic) := goodIn_app (goodIn_of _ (by decide +kernel)) ggX0_operate_X0_logic
set_option maxRecDepth 20000 in
theorem ggX0_operate_X0_difference : GoodIn wsX0_operate wsX0_difference := goodIn_r _ [56, 16, 17, 18, 6, 19, 3, 20, 21, 22, 23, 24, 25, 26, 27, 28, 29, 30, 4, 5, 7, 8, 9, 10, 11, 31, 32, 33, 34, 35, 36, 37, 38, 39, 40, 41, 42, 43, 44, 45, 46, 47, 48, 69] (by decide +kernel) (by decide +kernel)
set_option maxRecDepth 20000 in
theorem gX0_operate_X0_difference : GoodIn wsX0_operate (wsV RX0 24 RX0 yX0_difference wsX0_difference) := goodIn_app (goodIn_of _ (by decide +kernel)) ggX0_operate_X0_difference
set_option maxRecDepth 20000 in
theorem ggX0_operate_X0_oneMore : GoodIn wsX0_operate wsX0_oneMore := goodIn_r _ [60, 61, 62, 63, 6, 64, 3, 12, 13, 14, 15, 8, 9, 10, 11, 16, 17, 18, 19, 20, 21, 22, 23, 24, 25, 26, 27, 28, 29, 30, 4, 5, 7, 31, 32, 33, 34, 35, 36, 37, 38, 39, 40, 41, 42, 43, 44, 45, 46, 47, 48, 69] (by decide +kernel) (by decide +kernel)
set_option maxRecDepth 20000 in
theorem gX0_operate_X0_oneMore : GoodIn wsX0_operate (wsV RX0 27 RX0 yX0_oneMore wsX0_oneMore) := goodIn_app (goodIn_of _ (by decide +kernel)) ggX0_operate_X0_oneMore
set_option maxRecDepth 20000 in
theorem ggX0_operate_X0_oneLess : GoodIn wsX0_operate wsX0_oneLess := goodIn_r _ [68, 61, 62, 63, 6, 64, 3, 53, 54, 55, 56, 16, 17, 18, 19, 20, 21, 22, 23, 24, 25, 26, 27, 28, 29, 30, 4, 5, 7, 8, 9, 10, 11, 31, 32, 33, 34, 35, 36, 37, 38, 39, 40, 41, 42, 43, 44, 45, 46, 47, 48, 69] (by decide +kernel) (by decide +kernel)
set_option maxRecDepth 20000 in
theorem gX0_operate_X0_oneLess : GoodIn wsX0_operate (wsV RX0 30 RX0 yX0_oneLess wsX0_oneLess) := goodIn_app (goodIn_of _ (by decide +kernel)) ggX0_operate_X0_oneLess
theorem dX0_operate_0 : decode cX0_operate 0 = .ok (.iload_n 2, 1) := by decide +kernel
theorem dX0_operate_1 : decode cX0_operate 1 = .ok (.iload_n 3, 1) := by decide +kernel
theorem dX0_operate_2 : decode cX0_operate 2 = .ok (.invokestatic 13, 3) := by decide +kernel
theorem dX0_operate_5 : decode cX0_operate 5 = .ok (.istore 5, 2) := by decide +kernel
theorem dX0_operate_7 : decode cX0_operate 7 = .ok (.iload_n 2, 1) := by decide +kernel
theorem dX0_operate_8 : decode cX0_operate 8 = .ok (.iload 4, 2) := by decide +kernel
theorem dX0_operate_10 : decode cX0_operate 10 = .ok (.invokestatic 13, 3) := by decide +kernel
theorem dX0_operate_13 : decode cX0_operate 13 = .ok (.istore 6, 2) := by decide +kernel
theorem dX0_operate_15 : decode cX0_operate 15 = .ok (.iload_n 1, 1) := by decide +kernel
theorem dX0_operate_16 : decode cX0_operate 16 = .ok (.tableswitch 218 0 12 #[68, 79, 90, 106, 122, 133, 144, 155, 169, 183, 191, 199, 209], 68) := by decide +kernel
theorem dX0_operate_84 : decode cX0_operate 84 = .ok (.aload_n 0, 1) := by decide +kernel
theorem dX0_operate_85 : decode cX0_operate 85 = .ok (.iload_n 2, 1) := by decide +kernel
theorem dX0_operate_86 : decode cX0_operate 86 = .ok (.iload 5, 2) := by decide +kernel
theorem dX0_operate_88 : decode cX0_operate 88 = .ok (.iload 6, 2) := by decide +kernel
theorem dX0_operate_90 : decode cX0_operate 90 = .ok (.iconst 0, 1) := by decide +kernel
theorem dX0_operate_91 : decode cX0_operate 91 = .ok (.invokevirtual 17, 3) := by decide +kernel
theorem dX0_operate_94 : decode cX0_operate 94 = .ok (.ireturn, 1) := by decide +kernel
theorem dX0_operate_95 : decode cX0_operate 95 = .ok (.aload_n 0, 1) := by decide +kernel
theorem dX0_operate_96 : decode cX0_operate 96 = .ok (.iload_n 2, 1) := by decide +kernel
theorem dX0_operate_97 : decode cX0_operate 97 = .ok (.iload 5, 2) := by decide +kernel
theorem dX0_operate_99 : decode cX0_operate 99 = .ok (.iload 6, 2) := by decide +kernel
theorem dX0_operate_101 : decode cX0_operate 101 = .ok (.ior, 1) := by decide +kernel
theorem dX0_operate_102 : decode cX0_operate 102 = .ok (.invokevirtual 21, 3) := by decide +kernel
theorem dX0_operate_105 : decode cX0_operate 105 = .ok (.ireturn, 1) := by decide +kernel
theorem dX0_operate_106 : decode cX0_operate 106 = .ok (.aload_n 0, 1) := by decide +kernel
theorem dX0_operate_107 : decode cX0_operate 107 = .ok (.iload_n 2, 1) := by decide +kernel
theorem dX0_operate_108 : decode cX0_operate 108 = .ok (.iload 5, 2) := by decide +kernel
theorem dX0_operate_110 : decode cX0_operate 110 = .ok (.iload 6, 2) := by decide +kernel
theorem dX0_operate_112 : decode cX0_operate 112 = .ok (.aload_n 0, 1) := by decide +kernel
theorem dX0_operate_113 : decode cX0_operate 113 = .ok (.getfield 7, 3) := by decide +kernel
theorem dX0_operate_116 : decode cX0_operate 116 = .ok (.iconst 1, 1) := by decide +kernel
theorem dX0_operate_117 : decode cX0_operate 117 = .ok (.iand, 1) := by decide +kernel
theorem dX0_operate_118 : decode cX0_operate 118 = .ok (.invokevirtual 17, 3) := by decide +kernel
theorem dX0_operate_121 : decode cX0_operate 121 = .ok (.ireturn, 1) := by decide +kernel
theorem dX0_operate_122 : decode cX0_operate 122 = .ok (.aload_n 0, 1) := by decide +kernel
theorem dX0_operate_123 : decode cX0_operate 123 = .ok (.iload_n 2, 1) := by decide +kernel
theorem dX0_operate_124 : decode cX0_operate 124 = .ok (.iload 5, 2) := by decide +kernel
theorem dX0_operate_126 : decode cX0_operate 126 = .ok (.iload 6, 2) := by decide +kernel
theorem dX0_operate_128 : decode cX0_operate 128 = .ok (.aload_n 0, 1) := by decide +kernel
theorem dX0_operate_129 : decode cX0_operate 129 = .ok (.getfield 7, 3) := by decide +kernel
theorem dX0_operate_132 : decode cX0_operate 132 = .ok (.iconst 1, 1) := by decide +kernel
theorem dX0_operate_133 : decode cX0_operate 133 = .ok (.iand, 1) := by decide +kernel
theorem dX0_operate_134 : decode cX0_operate 134 = .ok (.invokevirtual 24, 3) := by decide +kernel
theorem dX0_operate_137 : decode cX0_operate 137 = .ok (.ireturn, 1) := by decide +kernel
theorem dX0_operate_138 : decode cX0_operate 138 = .ok (.aload_n 0, 1) := by decide +kernel
theorem dX0_operate_139 : decode cX0_operate 139 = .ok (.iload_n 2, 1) := by decide +kernel
theorem dX0_operate_140 : decode cX0_operate 140 = .ok (.iload 5, 2) := by decide +kernel
theorem dX0_operate_142 : decode cX0_operate 142 = .ok (.iload 6, 2) := by decide +kernel
theorem dX0_operate_144 : decode cX0_operate 144 = .ok (.iand, 1) := by decide +kernel
theorem dX0_operate_145 : decode cX0_operate 145 = .ok (.invokevirtual 21, 3) := by decide +kernel
theorem dX0_operate_148 : decode cX0_operate 148 = .ok (.ireturn, 1) := by decide +kernel
theorem dX0_operate_149 : decode cX0_operate 149 = .ok (.aload_n 0, 1) := by decide +kernel
theorem dX0_operate_150 : decode cX0_operate 150 = .ok (.iload_n 2, 1) := by decide +kernel
theorem dX0_operate_151 : decode cX0_operate 151 = .ok (.iload 5, 2) := by decide +kernel
theorem dX0_operate_153 : decode cX0_operate 153 = .ok (.iload 6, 2) := by decide +kernel
theorem dX0_operate_155 : decode cX0_operate 155 = .ok (.iconst 0, 1) := by decide +kernel
theorem dX0_operate_156 : decode cX0_operate 156 = .ok (.invokevirtual 24, 3) := by decide +kernel
theorem dX0_operate_159 : decode cX0_operate 159 = .ok (.ireturn, 1) := by decide +kernel
theorem dX0_operate_160 : decode cX0_operate 160 = .ok (.aload_n 0, 1) := by decide +kernel
theorem dX0_operate_161 : decode cX0_operate 161 = .ok (.iload_n 2, 1) := by decide +kernel
theorem dX0_operate_162 : decode cX0_operate 162 = .ok (.iload 5, 2) := by decide +kernel
theorem dX0_operate_164 : decode cX0_operate 164 = .ok (.iload 6, 2) := by decide +kernel
theorem dX0_operate_166 : decode cX0_operate 166 = .ok (.ixor, 1) := by decide +kernel
theorem dX0_operate_167 : decode cX0_operate 167 = .ok (.invokevirtual 21, 3) := by decide +kernel
theorem dX0_operate_170 : decode cX0_operate 170 = .ok (.ireturn, 1) := by decide +kernel
theorem dX0_operate_171 : decode cX0_operate 171 = .ok (.aload_n 0, 1) := by decide +kernel
theorem dX0_operate_172 : decode cX0_operate 172 = .ok (.iload_n 2, 1) := by decide +kernel
theorem dX0_operate_173 : decode cX0_operate 173 = .ok (.iload 5, 2) := by decide +kernel
theorem dX0_operate_175 : decode cX0_operate 175 = .ok (.iload 6, 2) := by decide +kernel
theorem dX0_operate_177 : decode cX0_operate 177 = .ok (.iconst 0, 1) := by decide +kernel
theorem dX0_operate_178 : decode cX0_operate 178 = .ok (.invokevirtual 24, 3) := by decide +kernel
theorem dX0_operate_181 : decode cX0_operate 181 = .ok (.pop, 1) := by decide +kernel
theorem dX0_operate_182 : decode cX0_operate 182 = .ok (.iload 5, 2) := by decide +kernel
theorem dX0_operate_184 : decode cX0_operate 184 = .ok (.ireturn, 1) := by decide +kernel
theorem dX0_operate_185 : decode cX0_operate 185 = .ok (.aload_n 0, 1) := by decide +kernel
theorem dX0_operate_186 : decode cX0_operate 186 = .ok (.iload_n 2, 1) := by decide +kernel
theorem dX0_operate_187 : decode cX0_operate 187 = .ok (.iload 5, 2) := by decide +kernel
theorem dX0_operate_189 : decode cX0_operate 189 = .ok (.iload 6, 2) := by decide +kernel
theorem dX0_operate_191 : decode cX0_operate 191 = .ok (.iand, 1) := by decide +kernel
theorem dX0_operate_192 : decode cX0_operate 192 = .ok (.invokevirtual 21, 3) := by decide +kernel
theorem dX0_operate_195 : decode cX0_operate 195 = .ok (.pop, 1) := by decide +kernel
theorem dX0_operate_196 : decode cX0_operate 196 = .ok (.iload 5, 2) := by decide +kernel
theorem dX0_operate_198 : decode cX0_operate 198 = .ok (.ireturn, 1) := by decide +kernel
theorem dX0_operate_199 : decode cX0_operate 199 = .ok (.aload_n 0, 1) := by decide +kernel
theorem dX0_operate_200 : decode cX0_operate 200 = .ok (.iload_n 2, 1) := by decide +kernel
theorem dX0_operate_201 : decode cX0_operate 201 = .ok (.iload 5, 2) := by decide +kernel
theorem dX0_operate_203 : decode cX0_operate 203 = .ok (.invokevirtual 27, 3) := by decide +kernel
theorem dX0_operate_206 : decode cX0_operate 206 = .ok (.ireturn, 1) := by decide +kernel
theorem dX0_operate_207 : decode cX0_operate 207 = .ok (.aload_n 0, 1) := by decide +kernel
theorem dX0_operate_208 : decode cX0_operate 208 = .ok (.iload_n 2, 1) := by decide +kernel
theorem dX0_operate_209 : decode cX0_operate 209 = .ok (.iload 5, 2) := by decide +kernel
theorem dX0_operate_211 : decode cX0_operate 211 = .ok (.invokevirtual 30, 3) := by decide +kernel
theorem dX0_operate_214 : decode cX0_operate 214 = .ok (.ireturn, 1) := by decide +kernel
theorem dX0_operate_215 : decode cX0_operate 215 = .ok (.aload_n 0, 1) := by decide +kernel
theorem dX0_operate_216 : decode cX0_operate 216 = .ok (.iload_n 2, 1) := by decide +kernel
theorem dX0_operate_217 : decode cX0_operate 217 = .ok (.iconst 0, 1) := by decide +kernel
theorem dX0_operate_218 : decode cX0_operate 218 = .ok (.iload 5, 2) := by decide +kernel
theorem dX0_operate_220 : decode cX0_operate 220 = .ok (.iconst 0, 1) := by decide +kernel
theorem dX0_operate_221 : decode cX0_operate 221 = .ok (.invokevirtual 24, 3) := by decide +kernel
theorem dX0_operate_224 : decode cX0_operate 224 = .ok (.ireturn, 1) := by decide +kernel
theorem dX0_operate_225 : decode cX0_operate 225 = .ok (.iload_n 2, 1) := by decide +kernel
theorem dX0_operate_226 : decode cX0_operate 226 = .ok (.iload 5, 2) := by decide +kernel
theorem dX0_operate_228 : decode cX0_operate 228 = .ok (.iconst (-1), 1) := by decide +kernel
theorem dX0_operate_229 : decode cX0_operate 229 = .ok (.ixor, 1) := by decide +kernel
theorem dX0_operate_230 : decode cX0_operate 230 = .ok (.invokestatic 13, 3) := by decide +kernel
theorem dX0_operate_233 : decode cX0_operate 233 = .ok (.ireturn, 1) := by decide +kernel
theorem dX0_operate_234 : decode cX0_operate 234 = .ok (.new 33, 3) := by decide +kernel
theorem dX0_operate_237 : decode cX0_operate 237 = .ok (.dup, 1) := by decide +kernel
theorem dX0_operate_238 : decode cX0_operate 238 = .ok (.ldc 35, 2) := by decide +kernel
theorem dX0_operate_240 : decode cX0_operate 240 = .ok (.invokespecial 37, 3) := by decide +kernel
theorem dX0_operate_243 : decode cX0_operate 243 = .ok (.athrow, 1) := by decide +kernel
set_option maxRecDepth 20000 in
theorem ggX0_shift_X0_operand : GoodIn wsX0_shift wsX0_operand := goodIn_r _ [6, 7, 8, 5, 9, 10] (by decide +kernel) (by decide +kernel)
set_option maxRecDepth 20000 in
theorem gX0_shift_X0_operand : GoodIn wsX0_shift (va_wsS RX0 13 yX0_operand wsX0_operand) := goodIn_app (goodIn_of _ (by decide +kernel)) ggX0_shift_X0_operand
set_option maxRecDepth 20000 in
theorem ggX0_shift_X0_leftByOne : GoodIn wsX0_shift wsX0_leftByOne := goodIn_r _ [14, 15, 16, 5, 17, 18, 19, 20, 21, 22, 23, 24, 25, 26, 3, 4, 6, 7, 8, 9, 10, 27, 28, 29, 30, 50] (by decide +kernel) (by decide +kernel)
set_option maxRecDepth 20000 in
theorem gX0_shift_X0_leftByOne : GoodIn wsX0_shift (wsV RX0 44 RX0 yX0_leftByOne wsX0_leftByOne) := goodIn_app (goodIn_of _ (by decide +kernel)) ggX0_shift_X0_leftByOne
set_option maxRecDepth 20000 in
theorem ggX0_shift_X0_rightByOne : GoodIn wsX0_shift wsX0_rightByOne := goodIn_r _ [34, 15, 16, 5, 17, 18, 19, 20, 21, 35, 36, 37, 38, 22, 23, 24, 25, 26, 27, 28, 29, 30, 50] (by decide +kernel) (by decide +kernel)
set_option maxRecDepth 20000 in
theorem gX0_shift_X0_rightByOne : GoodIn wsX0_shift (wsV RX0 48 RX0 yX0_rightByOne wsX0_rightByOne) := goodIn_app (goodIn_of _ (by decide +kernel)) ggX0_shift_X0_rightByOne
set_option maxRecDepth 20000 in
theorem ggX0_shift_X0_goByAnswer : GoodIn wsX0_shift wsX0_goByAnswer := goodIn_r _ [42, 27, 28, 29, 5, 30, 26, 15, 16, 17, 18, 19, 20, 21, 43, 44, 45, 46, 47, 48, 49, 50] (by decide +kernel) (by decide +kernel)
set_option maxRecDepth 20000 in
theorem gX0_shift_X0_goByAnswer : GoodIn wsX0_shift (wsV RX0 51 RX0 yX0_goByAnswer wsX0_goByAnswer) := goodIn_app (goodIn_of _ (by decide +kernel)) ggX0_shift_X0_goByAnswer
theorem dX0_shift_0 : decode cX0_shift 0 = .ok (.iload_n 1, 1) := by decide +kernel
theorem dX0_shift_1 : decode cX0_shift 1 = .ok (.ifCond .lt 9, 3) := by decide +kernel
theorem dX0_shift_4 : decode cX0_shift 4 = .ok (.iload_n 1, 1) := by decide +kernel
theorem dX0_shift_5 : decode cX0_shift 5 = .ok (.bipush 7, 2) := by decide +kernel
theorem dX0_shift_7 : decode cX0_shift 7 = .ok (.if_icmp .le 13, 3) := by decide +kernel
theorem dX0_shift_10 : decode cX0_shift 10 = .ok (.new 33, 3) := by decide +kernel
theorem dX0_shift_13 : decode cX0_shift 13 = .ok (.dup, 1) := by decide +kernel
theorem dX0_shift_14 : decode cX0_shift 14 = .ok (.ldc 40, 2) := by decide +kernel
theorem dX0_shift_16 : decode cX0_shift 16 = .ok (.invokespecial 37, 3) := by decide +kernel
theorem dX0_shift_19 : decode cX0_shift 19 = .ok (.athrow, 1) := by decide +kernel
theorem dX0_shift_20 : decode cX0_shift 20 = .ok (.iload 4, 2) := by decide +kernel
theorem dX0_shift_22 : decode cX0_shift 22 = .ok (.ifCond .lt 11, 3) := by decide +kernel
theorem dX0_shift_25 : decode cX0_shift 25 = .ok (.iload 4, 2) := by decide +kernel
theorem dX0_shift_27 : decode cX0_shift 27 = .ok (.sipush 255, 3) := by decide +kernel
theorem dX0_shift_30 : decode cX0_shift 30 = .ok (.if_icmp .le 13, 3) := by decide +kernel
theorem dX0_shift_33 : decode cX0_shift 33 = .ok (.new 33, 3) := by decide +kernel
theorem dX0_shift_36 : decode cX0_shift 36 = .ok (.dup, 1) := by decide +kernel
theorem dX0_shift_37 : decode cX0_shift 37 = .ok (.ldc 42, 2) := by decide +kernel
theorem dX0_shift_39 : decode cX0_shift 39 = .ok (.invokespecial 37, 3) := by decide +kernel
theorem dX0_shift_42 : decode cX0_shift 42 = .ok (.athrow, 1) := by decide +kernel
theorem dX0_shift_43 : decode cX0_shift 43 = .ok (.iload_n 1, 1) := by decide +kernel
theorem dX0_shift_44 : decode cX0_shift 44 = .ok (.iconst 2, 1) := by decide +kernel
theorem dX0_shift_45 : decode cX0_shift 45 = .ok (.irem, 1) := by decide +kernel
theorem dX0_shift_46 : decode cX0_shift 46 = .ok (.ifCond .ne 7, 3) := by decide +kernel
theorem dX0_shift_49 : decode cX0_shift 49 = .ok (.iconst 1, 1) := by decide +kernel
theorem dX0_shift_50 : decode cX0_shift 50 = .ok (.goto 4, 3) := by decide +kernel
theorem dX0_shift_53 : decode cX0_shift 53 = .ok (.iconst 0, 1) := by decide +kernel
theorem dX0_shift_54 : decode cX0_shift 54 = .ok (.istore 5, 2) := by decide +kernel
theorem dX0_shift_56 : decode cX0_shift 56 = .ok (.iload_n 2, 1) := by decide +kernel
theorem dX0_shift_57 : decode cX0_shift 57 = .ok (.iload_n 3, 1) := by decide +kernel
theorem dX0_shift_58 : decode cX0_shift 58 = .ok (.invokestatic 13, 3) := by decide +kernel
theorem dX0_shift_61 : decode cX0_shift 61 = .ok (.istore 6, 2) := by decide +kernel
theorem dX0_shift_63 : decode cX0_shift 63 = .ok (.iconst 0, 1) := by decide +kernel
theorem dX0_shift_64 : decode cX0_shift 64 = .ok (.istore 7, 2) := by decide +kernel
theorem dX0_shift_66 : decode cX0_shift 66 = .ok (.iload 7, 2) := by decide +kernel
theorem dX0_shift_68 : decode cX0_shift 68 = .ok (.iload 4, 2) := by decide +kernel
theorem dX0_shift_70 : decode cX0_shift 70 = .ok (.if_icmp .ge 35, 3) := by decide +kernel
theorem dX0_shift_73 : decode cX0_shift 73 = .ok (.iload 5, 2) := by decide +kernel
theorem dX0_shift_75 : decode cX0_shift 75 = .ok (.ifCond .eq 14, 3) := by decide +kernel
theorem dX0_shift_78 : decode cX0_shift 78 = .ok (.aload_n 0, 1) := by decide +kernel
theorem dX0_shift_79 : decode cX0_shift 79 = .ok (.iload_n 1, 1) := by decide +kernel
theorem dX0_shift_80 : decode cX0_shift 80 = .ok (.iload_n 2, 1) := by decide +kernel
theorem dX0_shift_81 : decode cX0_shift 81 = .ok (.iload 6, 2) := by decide +kernel
theorem dX0_shift_83 : decode cX0_shift 83 = .ok (.invokevirtual 44, 3) := by decide +kernel
theorem dX0_shift_86 : decode cX0_shift 86 = .ok (.goto 11, 3) := by decide +kernel
theorem dX0_shift_89 : decode cX0_shift 89 = .ok (.aload_n 0, 1) := by decide +kernel
theorem dX0_shift_90 : decode cX0_shift 90 = .ok (.iload_n 1, 1) := by decide +kernel
theorem dX0_shift_91 : decode cX0_shift 91 = .ok (.iload_n 2, 1) := by decide +kernel
theorem dX0_shift_92 : decode cX0_shift 92 = .ok (.iload 6, 2) := by decide +kernel
theorem dX0_shift_94 : decode cX0_shift 94 = .ok (.invokevirtual 48, 3) := by decide +kernel
theorem dX0_shift_97 : decode cX0_shift 97 = .ok (.istore 6, 2) := by decide +kernel
theorem dX0_shift_99 : decode cX0_shift 99 = .ok (.iinc 7 1, 3) := by decide +kernel
theorem dX0_shift_102 : decode cX0_shift 102 = .ok (.goto (-36), 3) := by decide +kernel
theorem dX0_shift_105 : decode cX0_shift 105 = .ok (.iload 4, 2) := by decide +kernel
theorem dX0_shift_107 : decode cX0_shift 107 = .ok (.ifCond .le 15, 3) := by decide +kernel
theorem dX0_shift_110 : decode cX0_shift 110 = .ok (.iload_n 1, 1) := by decide +kernel
theorem dX0_shift_111 : decode cX0_shift 111 = .ok (.iconst 4, 1) := by decide +kernel
theorem dX0_shift_112 : decode cX0_shift 112 = .ok (.if_icmp .lt 10, 3) := by decide +kernel
theorem dX0_shift_115 : decode cX0_shift 115 = .ok (.aload_n 0, 1) := by decide +kernel
theorem dX0_shift_116 : decode cX0_shift 116 = .ok (.iload_n 2, 1) := by decide +kernel
theorem dX0_shift_117 : decode cX0_shift 117 = .ok (.iload 6, 2) := by decide +kernel
theorem dX0_shift_119 : decode cX0_shift 119 = .ok (.invokevirtual 51, 3) := by decide +kernel
theorem dX0_shift_122 : decode cX0_shift 122 = .ok (.iload 6, 2) := by decide +kernel
theorem dX0_shift_124 : decode cX0_shift 124 = .ok (.ireturn, 1) := by decide +kernel
set_option maxRecDepth 20000 in
theorem ggX0_multiply_X0_valueOf : GoodIn wsX0_multiply wsX0_valueOf := goodIn_r _ [5, 6, 7, 4, 8, 9, 10, 11, 12, 13, 14, 1] (by decide +kernel) (by decide +kernel)
set_option maxRecDepth 20000 in
theorem gX0_multiply_X0_valueOf : GoodIn wsX0_multiply (va_wsS RX0 55 yX0_valueOf wsX0_valueOf) := goodIn_app (goodIn_of _ (by decide +kernel)) ggX0_multiply_X0_valueOf
set_option maxRecDepth 20000 in
theorem ggX0_multiply_X0_put : GoodIn wsX0_multiply wsX0_put := goodIn_r _ [18, 19, 20] (by decide +kernel) (by decide +kernel)
set_option maxRecDepth 20000 in
theorem gX0_multiply_X0_put : GoodIn wsX0_multiply (wsV RX0 59 RX0 yX0_put wsX0_put) := goodIn_app (goodIn_of _ (by decide +kernel)) ggX0_multiply_X0_put
theorem dX0_multiply_0 : decode cX0_multiply 0 = .ok (.iload_n 1, 1) := by decide +kernel
theorem dX0_multiply_1 : decode cX0_multiply 1 = .ok (.iload_n 2, 1) := by decide +kernel
theorem dX0_multiply_2 : decode cX0_multiply 2 = .ok (.iload_n 3, 1) := by decide +kernel
theorem dX0_multiply_3 : decode cX0_multiply 3 = .ok (.invokestatic 55, 3) := by decide +kernel
theorem dX0_multiply_6 : decode cX0_multiply 6 = .ok (.i2l, 1) := by decide +kernel
theorem dX0_multiply_7 : decode cX0_multiply 7 = .ok (.iload_n 1, 1) := by decide +kernel
theorem dX0_multiply_8 : decode cX0_multiply 8 = .ok (.iload_n 2, 1) := by decide +kernel
theorem dX0_multiply_9 : decode cX0_multiply 9 = .ok (.iload 4, 2) := by decide +kernel
theorem dX0_multiply_11 : decode cX0_multiply 11 = .ok (.invokestatic 55, 3) := by decide +kernel
theorem dX0_multiply_14 : decode cX0_multiply 14 = .ok (.i2l, 1) := by decide +kernel
theorem dX0_multiply_15 : decode cX0_multiply 15 = .ok (.lmul, 1) := by decide +kernel
theorem dX0_multiply_16 : decode cX0_multiply 16 = .ok (.lstore 5, 2) := by decide +kernel
theorem dX0_multiply_18 : decode cX0_multiply 18 = .ok (.lload 5, 2) := by decide +kernel
theorem dX0_multiply_20 : decode cX0_multiply 20 = .ok (.iload_n 1, 1) := by decide +kernel
theorem dX0_multiply_21 : decode cX0_multiply 21 = .ok (.iload_n 2, 1) := by decide +kernel
theorem dX0_multiply_22 : decode cX0_multiply 22 = .ok (.lload 5, 2) := by decide +kernel
theorem dX0_multiply_24 : decode cX0_multiply 24 = .ok (.l2i, 1) := by decide +kernel
theorem dX0_multiply_25 : decode cX0_multiply 25 = .ok (.invokestatic 55, 3) := by decide +kernel
theorem dX0_multiply_28 : decode cX0_multiply 28 = .ok (.i2l, 1) := by decide +kernel
theorem dX0_multiply_29 : decode cX0_multiply 29 = .ok (.lcmp, 1) := by decide +kernel
theorem dX0_multiply_30 : decode cX0_multiply 30 = .ok (.ifCond .eq 7, 3) := by decide +kernel
theorem dX0_multiply_33 : decode cX0_multiply 33 = .ok (.iconst 1, 1) := by decide +kernel
theorem dX0_multiply_34 : decode cX0_multiply 34 = .ok (.goto 4, 3) := by decide +kernel
theorem dX0_multiply_37 : decode cX0_multiply 37 = .ok (.iconst 0, 1) := by decide +kernel
theorem dX0_multiply_38 : decode cX0_multiply 38 = .ok (.istore 7, 2) := by decide +kernel
theorem dX0_multiply_40 : decode cX0_multiply 40 = .ok (.aload_n 0, 1) := by decide +kernel
theorem dX0_multiply_41 : decode cX0_multiply 41 = .ok (.iconst 1, 1) := by decide +kernel
theorem dX0_multiply_42 : decode cX0_multiply 42 = .ok (.iload 7, 2) := by decide +kernel
theorem dX0_multiply_44 : decode cX0_multiply 44 = .ok (.invokevirtual 59, 3) := by decide +kernel
theorem dX0_multiply_47 : decode cX0_multiply 47 = .ok (.aload_n 0, 1) := by decide +kernel
theorem dX0_multiply_48 : decode cX0_multiply 48 = .ok (.sipush 2048, 3) := by decide +kernel
theorem dX0_multiply_51 : decode cX0_multiply 51 = .ok (.iload 7, 2) := by decide +kernel
theorem dX0_multiply_53 : decode cX0_multiply 53 = .ok (.invokevirtual 59, 3) := by decide +kernel
theorem dX0_multiply_56 : decode cX0_multiply 56 = .ok (.iload_n 1, 1) := by decide +kernel
theorem dX0_multiply_57 : decode cX0_multiply 57 = .ok (.ifCond .eq 9, 3) := by decide +kernel
theorem dX0_multiply_60 : decode cX0_multiply 60 = .ok (.lload 5, 2) := by decide +kernel
theorem dX0_multiply_62 : decode cX0_multiply 62 = .ok (.l2i, 1) := by decide +kernel
theorem dX0_multiply_63 : decode cX0_multiply 63 = .ok (.goto 9, 3) := by decide +kernel
theorem dX0_multiply_66 : decode cX0_multiply 66 = .ok (.lload 5, 2) := by decide +kernel
theorem dX0_multiply_68 : decode cX0_multiply 68 = .ok (.l2i, 1) := by decide +kernel
theorem dX0_multiply_69 : decode cX0_multiply 69 = .ok (.ldc 63, 2) := by decide +kernel
theorem dX0_multiply_71 : decode cX0_multiply 71 = .ok (.iand, 1) := by decide +kernel
theorem dX0_multiply_72 : decode cX0_multiply 72 = .ok (.ireturn, 1) := by decide +kernel
set_option maxRecDepth 20000 in
theorem ggX0_divide_X0_valueTwiceAsLong : GoodIn wsX0_divide wsX0_valueTwiceAsLong := goodIn_r _ [6, 7, 8, 9, 5, 10, 11, 12, 13, 14, 15, 16, 17, 18, 19, 20] (by decide +kernel) (by decide +kernel)
set_option maxRecDepth 20000 in
theorem gX0_divide_X0_valueTwiceAsLong : GoodIn wsX0_divide (va_wsS RX0 64 yX0_valueTwiceAsLong wsX0_valueTwiceAsLong) := goodIn_app (goodIn_of _ (by decide +kernel)) ggX0_divide_X0_valueTwiceAsLong
set_option maxRecDepth 20000 in
theorem ggX0_divide_X0_valueOf : GoodIn wsX0_divide wsX0_valueOf := goodIn_r _ [10, 11, 12, 5, 13, 14, 15, 16, 17, 18, 19, 20] (by decide +kernel) (by decide +kernel)
set_option maxRecDepth 20000 in
theorem gX0_divide_X0_valueOf : GoodIn wsX0_divide (va_wsS RX0 55 yX0_valueOf wsX0_valueOf) := goodIn_app (goodIn_of _ (by decide +kernel)) ggX0_divide_X0_valueOf
set_option maxRecDepth 20000 in
theorem ggX0_divide_X0_isQuotient : GoodIn wsX0_divide wsX0_isQuotient := goodIn_r _ [23, 17, 18, 5, 19, 20] (by decide +kernel) (by decide +kernel)
set_option maxRecDepth 20000 in
theorem gX0_divide_X0_isQuotient : GoodIn wsX0_divide (va_wsS RX0 73 yX0_isQuotient wsX0_isQuotient) := goodIn_app (goodIn_of _ (by decide +kernel)) ggX0_divide_X0_isQuotient
set_option maxRecDepth 20000 in
theorem ggX0_divide_X0_operand : GoodIn wsX0_divide wsX0_operand := goodIn_r _ [16, 17, 18, 5, 19, 20] (by decide +kernel) (by decide +kernel)
set_option maxRecDepth 20000 in
theorem gX0_divide_X0_operand : GoodIn wsX0_divide (va_wsS RX0 13 yX0_operand wsX0_operand) := goodIn_app (goodIn_of _ (by decide +kernel)) ggX0_divide_X0_operand
set_option maxRecDepth 20000 in
theorem ggX0_divide_X0_width : GoodIn wsX0_divide wsX0_width := goodIn_r _ [26] (by decide +kernel) (by decide +kernel)
set_option maxRecDepth 20000 in
theorem gX0_divide_X0_width : GoodIn wsX0_divide (va_wsS RX0 79 yX0_width wsX0_width) := goodIn_app (goodIn_of _ (by decide +kernel)) ggX0_divide_X0_width
theorem dX0_divide_0 : decode cX0_divide 0 = .ok (.iload_n 1, 1) := by decide +kernel
theorem dX0_divide_1 : decode cX0_divide 1 = .ok (.iload_n 2, 1) := by decide +kernel
theorem dX0_divide_2 : decode cX0_divide 2 = .ok (.iload_n 3, 1) := by decide +kernel
theorem dX0_divide_3 : decode cX0_divide 3 = .ok (.invokestatic 64, 3) := by decide +kernel
theorem dX0_divide_6 : decode cX0_divide 6 = .ok (.lstore 5, 2) := by decide +kernel
theorem dX0_divide_8 : decode cX0_divide 8 = .ok (.iload_n 1, 1) := by decide +kernel
theorem dX0_divide_9 : decode cX0_divide 9 = .ok (.iload_n 2, 1) := by decide +kernel
theorem dX0_divide_10 : decode cX0_divide 10 = .ok (.iload 4, 2) := by decide +kernel
theorem dX0_divide_12 : decode cX0_divide 12 = .ok (.invokestatic 55, 3) := by decide +kernel
theorem dX0_divide_15 : decode cX0_divide 15 = .ok (.i2l, 1) := by decide +kernel
theorem dX0_divide_16 : decode cX0_divide 16 = .ok (.lstore 7, 2) := by decide +kernel
theorem dX0_divide_18 : decode cX0_divide 18 = .ok (.lload 7, 2) := by decide +kernel
theorem dX0_divide_20 : decode cX0_divide 20 = .ok (.lconst 0, 1) := by decide +kernel
theorem dX0_divide_21 : decode cX0_divide 21 = .ok (.lcmp, 1) := by decide +kernel
theorem dX0_divide_22 : decode cX0_divide 22 = .ok (.ifCond .ne 13, 3) := by decide +kernel
theorem dX0_divide_25 : decode cX0_divide 25 = .ok (.new 68, 3) := by decide +kernel
theorem dX0_divide_28 : decode cX0_divide 28 = .ok (.dup, 1) := by decide +kernel
theorem dX0_divide_29 : decode cX0_divide 29 = .ok (.ldc 70, 2) := by decide +kernel
theorem dX0_divide_31 : decode cX0_divide 31 = .ok (.invokespecial 72, 3) := by decide +kernel
theorem dX0_divide_34 : decode cX0_divide 34 = .ok (.athrow, 1) := by decide +kernel
theorem dX0_divide_35 : decode cX0_divide 35 = .ok (.lload 5, 2) := by decide +kernel
theorem dX0_divide_37 : decode cX0_divide 37 = .ok (.lload 7, 2) := by decide +kernel
theorem dX0_divide_39 : decode cX0_divide 39 = .ok (.ldiv, 1) := by decide +kernel
theorem dX0_divide_40 : decode cX0_divide 40 = .ok (.lstore 9, 2) := by decide +kernel
theorem dX0_divide_42 : decode cX0_divide 42 = .ok (.lload 5, 2) := by decide +kernel
theorem dX0_divide_44 : decode cX0_divide 44 = .ok (.lload 7, 2) := by decide +kernel
theorem dX0_divide_46 : decode cX0_divide 46 = .ok (.lrem, 1) := by decide +kernel
theorem dX0_divide_47 : decode cX0_divide 47 = .ok (.lstore 11, 2) := by decide +kernel
theorem dX0_divide_49 : decode cX0_divide 49 = .ok (.iload_n 1, 1) := by decide +kernel
theorem dX0_divide_50 : decode cX0_divide 50 = .ok (.iload_n 2, 1) := by decide +kernel
theorem dX0_divide_51 : decode cX0_divide 51 = .ok (.lload 9, 2) := by decide +kernel
theorem dX0_divide_53 : decode cX0_divide 53 = .ok (.invokestatic 73, 3) := by decide +kernel
theorem dX0_divide_56 : decode cX0_divide 56 = .ok (.ifCond .ne 13, 3) := by decide +kernel
theorem dX0_divide_59 : decode cX0_divide 59 = .ok (.new 68, 3) := by decide +kernel
theorem dX0_divide_62 : decode cX0_divide 62 = .ok (.dup, 1) := by decide +kernel
theorem dX0_divide_63 : decode cX0_divide 63 = .ok (.ldc 77, 2) := by decide +kernel
theorem dX0_divide_65 : decode cX0_divide 65 = .ok (.invokespecial 72, 3) := by decide +kernel
theorem dX0_divide_68 : decode cX0_divide 68 = .ok (.athrow, 1) := by decide +kernel
theorem dX0_divide_69 : decode cX0_divide 69 = .ok (.iload_n 1, 1) := by decide +kernel
theorem dX0_divide_70 : decode cX0_divide 70 = .ok (.lload 11, 2) := by decide +kernel
theorem dX0_divide_72 : decode cX0_divide 72 = .ok (.l2i, 1) := by decide +kernel
theorem dX0_divide_73 : decode cX0_divide 73 = .ok (.invokestatic 13, 3) := by decide +kernel
theorem dX0_divide_76 : decode cX0_divide 76 = .ok (.iload_n 1, 1) := by decide +kernel
theorem dX0_divide_77 : decode cX0_divide 77 = .ok (.invokestatic 79, 3) := by decide +kernel
theorem dX0_divide_80 : decode cX0_divide 80 = .ok (.ishl, 1) := by decide +kernel
theorem dX0_divide_81 : decode cX0_divide 81 = .ok (.iload_n 1, 1) := by decide +kernel
theorem dX0_divide_82 : decode cX0_divide 82 = .ok (.lload 9, 2) := by decide +kernel
theorem dX0_divide_84 : decode cX0_divide 84 = .ok (.l2i, 1) := by decide +kernel
theorem dX0_divide_85 : decode cX0_divide 85 = .ok (.invokestatic 13, 3) := by decide +kernel
theorem dX0_divide_88 : decode cX0_divide 88 = .ok (.ior, 1) := by decide +kernel
theorem dX0_divide_89 : decode cX0_divide 89 = .ok (.ireturn, 1) := by decide +kernel
set_option maxRecDepth 20000 in
theorem ggX0_adjust_X0_adjustedSum : GoodIn wsX0_adjust wsX0_adjustedSum := goodIn_r _ [9, 10, 11, 12, 8, 13, 14, 15, 16, 17, 18, 19, 20, 21, 22, 23, 24, 25, 26, 27, 28, 29, 30, 31, 32, 33, 34, 35, 36, 37, 38, 39, 40, 41, 42, 43, 44, 45, 46, 47, 48, 49, 50, 51, 52, 53, 54, 55, 56, 57, 58, 59, 60, 61, 62, 74] (by decide +kernel) (by decide +kernel)
set_option maxRecDepth 20000 in
theorem gX0_adjust_X0_adjustedSum : GoodIn wsX0_adjust (wsV RX0 83 RX0 yX0_adjustedSum wsX0_adjustedSum) := goodIn_app (goodIn_of _ (by decide +kernel)) ggX0_adjust_X0_adjustedSum
set_option maxRecDepth 20000 in
theorem ggX0_adjust_X0_joined : GoodIn wsX0_adjust wsX0_joined := goodIn_r _ [65] (by decide +kernel) (by decide +kernel)
set_option maxRecDepth 20000 in
theorem gX0_adjust_X0_joined : GoodIn wsX0_adjust (va_wsS RX0 87 yX0_joined wsX0_joined) := goodIn_app (goodIn_of _ (by decide +kernel)) ggX0_adjust_X0_joined
set_option maxRecDepth 20000 in
theorem ggX0_adjust_X0_adjustedDifference : GoodIn wsX0_adjust wsX0_adjustedDifference := goodIn_r _ [69, 10, 11, 12, 8, 13, 14, 15, 16, 17, 18, 19, 20, 21, 22, 23, 24, 25, 26, 27, 28, 29, 30, 31, 32, 33, 34, 35, 36, 37, 38, 39, 40, 41, 42, 43, 44, 45, 46, 47, 48, 49, 50, 51, 52, 53, 54, 55, 56, 57, 58, 59, 60, 61, 62, 74] (by decide +kernel) (by decide +kernel)
set_option maxRecDepth 20000 in
theorem gX0_adjust_X0_adjustedDifference : GoodIn wsX0_adjust (wsV RX0 91 RX0 yX0_adjustedDifference wsX0_adjustedDifference) := goodIn_app (goodIn_of _ (by decide +kernel)) ggX0_adjust_X0_adjustedDifference
set_option maxRecDepth 20000 in
theorem ggX0_adjust_X0_adjustedDigit : GoodIn wsX0_adjust wsX0_adjustedDigit := goodIn_r _ [73, 10, 11, 12, 8, 13, 14, 15, 16, 17, 18, 23, 24, 25, 26, 63, 64, 65, 74] (by decide +kernel) (by decide +kernel)
set_option maxRecDepth 20000 in
theorem gX0_adjust_X0_adjustedDigit : GoodIn wsX0_adjust (wsV RX0 94 RX0 yX0_adjustedDigit wsX0_adjustedDigit) := goodIn_app (goodIn_of _ (by decide +kernel)) ggX0_adjust_X0_adjustedDigit
set_option maxRecDepth 20000 in
theorem ggX0_adjust_X0_adjustedByte : GoodIn wsX0_adjust wsX0_adjustedByte := goodIn_r _ [33, 34, 35, 36, 8, 37, 38, 39, 40, 41, 42, 43, 44, 45, 46, 47, 48, 23, 24, 25, 26, 18, 49, 50, 51, 52, 53, 54, 55, 56, 57, 58, 59, 60, 61, 62, 74] (by decide +kernel) (by decide +kernel)
set_option maxRecDepth 20000 in
theorem gX0_adjust_X0_adjustedByte : GoodIn wsX0_adjust (wsV RX0 100 RX0 yX0_adjustedByte wsX0_adjustedByte) := goodIn_app (goodIn_of _ (by decide +kernel)) ggX0_adjust_X0_adjustedByte
theorem dX0_adjust_0 : decode cX0_adjust 0 = .ok (.iload_n 2, 1) := by decide +kernel
theorem dX0_adjust_1 : decode cX0_adjust 1 = .ok (.sipush 255, 3) := by decide +kernel
theorem dX0_adjust_4 : decode cX0_adjust 4 = .ok (.iand, 1) := by decide +kernel
theorem dX0_adjust_5 : decode cX0_adjust 5 = .ok (.istore 4, 2) := by decide +kernel
theorem dX0_adjust_7 : decode cX0_adjust 7 = .ok (.iload_n 2, 1) := by decide +kernel
theorem dX0_adjust_8 : decode cX0_adjust 8 = .ok (.bipush 8, 2) := by decide +kernel
theorem dX0_adjust_10 : decode cX0_adjust 10 = .ok (.ishr, 1) := by decide +kernel
theorem dX0_adjust_11 : decode cX0_adjust 11 = .ok (.sipush 255, 3) := by decide +kernel
theorem dX0_adjust_14 : decode cX0_adjust 14 = .ok (.iand, 1) := by decide +kernel
theorem dX0_adjust_15 : decode cX0_adjust 15 = .ok (.istore 5, 2) := by decide +kernel
theorem dX0_adjust_17 : decode cX0_adjust 17 = .ok (.iload_n 3, 1) := by decide +kernel
theorem dX0_adjust_18 : decode cX0_adjust 18 = .ok (.sipush 255, 3) := by decide +kernel
theorem dX0_adjust_21 : decode cX0_adjust 21 = .ok (.iand, 1) := by decide +kernel
theorem dX0_adjust_22 : decode cX0_adjust 22 = .ok (.istore 6, 2) := by decide +kernel
theorem dX0_adjust_24 : decode cX0_adjust 24 = .ok (.iload_n 1, 1) := by decide +kernel
theorem dX0_adjust_25 : decode cX0_adjust 25 = .ok (.tableswitch 133 0 5 #[39, 51, 63, 73, 83, 116], 39) := by decide +kernel
theorem dX0_adjust_64 : decode cX0_adjust 64 = .ok (.iload 5, 2) := by decide +kernel
theorem dX0_adjust_66 : decode cX0_adjust 66 = .ok (.aload_n 0, 1) := by decide +kernel
theorem dX0_adjust_67 : decode cX0_adjust 67 = .ok (.iload 4, 2) := by decide +kernel
theorem dX0_adjust_69 : decode cX0_adjust 69 = .ok (.invokevirtual 83, 3) := by decide +kernel
theorem dX0_adjust_72 : decode cX0_adjust 72 = .ok (.invokestatic 87, 3) := by decide +kernel
theorem dX0_adjust_75 : decode cX0_adjust 75 = .ok (.ireturn, 1) := by decide +kernel
theorem dX0_adjust_76 : decode cX0_adjust 76 = .ok (.iload 5, 2) := by decide +kernel
theorem dX0_adjust_78 : decode cX0_adjust 78 = .ok (.aload_n 0, 1) := by decide +kernel
theorem dX0_adjust_79 : decode cX0_adjust 79 = .ok (.iload 4, 2) := by decide +kernel
theorem dX0_adjust_81 : decode cX0_adjust 81 = .ok (.invokevirtual 91, 3) := by decide +kernel
theorem dX0_adjust_84 : decode cX0_adjust 84 = .ok (.invokestatic 87, 3) := by decide +kernel
theorem dX0_adjust_87 : decode cX0_adjust 87 = .ok (.ireturn, 1) := by decide +kernel
theorem dX0_adjust_88 : decode cX0_adjust 88 = .ok (.aload_n 0, 1) := by decide +kernel
theorem dX0_adjust_89 : decode cX0_adjust 89 = .ok (.iload 5, 2) := by decide +kernel
theorem dX0_adjust_91 : decode cX0_adjust 91 = .ok (.iload 4, 2) := by decide +kernel
theorem dX0_adjust_93 : decode cX0_adjust 93 = .ok (.iconst 1, 1) := by decide +kernel
theorem dX0_adjust_94 : decode cX0_adjust 94 = .ok (.invokevirtual 94, 3) := by decide +kernel
theorem dX0_adjust_97 : decode cX0_adjust 97 = .ok (.ireturn, 1) := by decide +kernel
theorem dX0_adjust_98 : decode cX0_adjust 98 = .ok (.aload_n 0, 1) := by decide +kernel
theorem dX0_adjust_99 : decode cX0_adjust 99 = .ok (.iload 5, 2) := by decide +kernel
theorem dX0_adjust_101 : decode cX0_adjust 101 = .ok (.iload 4, 2) := by decide +kernel
theorem dX0_adjust_103 : decode cX0_adjust 103 = .ok (.iconst (-1), 1) := by decide +kernel
theorem dX0_adjust_104 : decode cX0_adjust 104 = .ok (.invokevirtual 94, 3) := by decide +kernel
theorem dX0_adjust_107 : decode cX0_adjust 107 = .ok (.ireturn, 1) := by decide +kernel
theorem dX0_adjust_108 : decode cX0_adjust 108 = .ok (.iload 6, 2) := by decide +kernel
theorem dX0_adjust_110 : decode cX0_adjust 110 = .ok (.ifCond .ne 13, 3) := by decide +kernel
theorem dX0_adjust_113 : decode cX0_adjust 113 = .ok (.new 68, 3) := by decide +kernel
theorem dX0_adjust_116 : decode cX0_adjust 116 = .ok (.dup, 1) := by decide +kernel
theorem dX0_adjust_117 : decode cX0_adjust 117 = .ok (.ldc 98, 2) := by decide +kernel
theorem dX0_adjust_119 : decode cX0_adjust 119 = .ok (.invokespecial 72, 3) := by decide +kernel
theorem dX0_adjust_122 : decode cX0_adjust 122 = .ok (.athrow, 1) := by decide +kernel
theorem dX0_adjust_123 : decode cX0_adjust 123 = .ok (.iload 4, 2) := by decide +kernel
theorem dX0_adjust_125 : decode cX0_adjust 125 = .ok (.iload 6, 2) := by decide +kernel
theorem dX0_adjust_127 : decode cX0_adjust 127 = .ok (.idiv, 1) := by decide +kernel
theorem dX0_adjust_128 : decode cX0_adjust 128 = .ok (.aload_n 0, 1) := by decide +kernel
theorem dX0_adjust_129 : decode cX0_adjust 129 = .ok (.iload 4, 2) := by decide +kernel
theorem dX0_adjust_131 : decode cX0_adjust 131 = .ok (.iload 6, 2) := by decide +kernel
theorem dX0_adjust_133 : decode cX0_adjust 133 = .ok (.irem, 1) := by decide +kernel
theorem dX0_adjust_134 : decode cX0_adjust 134 = .ok (.invokevirtual 100, 3) := by decide +kernel
theorem dX0_adjust_137 : decode cX0_adjust 137 = .ok (.invokestatic 87, 3) := by decide +kernel
theorem dX0_adjust_140 : decode cX0_adjust 140 = .ok (.ireturn, 1) := by decide +kernel
theorem dX0_adjust_141 : decode cX0_adjust 141 = .ok (.iconst 0, 1) := by decide +kernel
theorem dX0_adjust_142 : decode cX0_adjust 142 = .ok (.aload_n 0, 1) := by decide +kernel
theorem dX0_adjust_143 : decode cX0_adjust 143 = .ok (.iload 5, 2) := by decide +kernel
theorem dX0_adjust_145 : decode cX0_adjust 145 = .ok (.iload 6, 2) := by decide +kernel
theorem dX0_adjust_147 : decode cX0_adjust 147 = .ok (.imul, 1) := by decide +kernel
theorem dX0_adjust_148 : decode cX0_adjust 148 = .ok (.iload 4, 2) := by decide +kernel
theorem dX0_adjust_150 : decode cX0_adjust 150 = .ok (.iadd, 1) := by decide +kernel
theorem dX0_adjust_151 : decode cX0_adjust 151 = .ok (.invokevirtual 100, 3) := by decide +kernel
theorem dX0_adjust_154 : decode cX0_adjust 154 = .ok (.invokestatic 87, 3) := by decide +kernel
theorem dX0_adjust_157 : decode cX0_adjust 157 = .ok (.ireturn, 1) := by decide +kernel
theorem dX0_adjust_158 : decode cX0_adjust 158 = .ok (.new 33, 3) := by decide +kernel
theorem dX0_adjust_161 : decode cX0_adjust 161 = .ok (.dup, 1) := by decide +kernel
theorem dX0_adjust_162 : decode cX0_adjust 162 = .ok (.ldc 103, 2) := by decide +kernel
theorem dX0_adjust_164 : decode cX0_adjust 164 = .ok (.invokespecial 37, 3) := by decide +kernel
theorem dX0_adjust_167 : decode cX0_adjust 167 = .ok (.athrow, 1) := by decide +kernel
set_option maxRecDepth 20000 in
theorem ggX0_extend_X0_signedValue : GoodIn wsX0_extend wsX0_signedValue := goodIn_r _ [5] (by decide +kernel) (by decide +kernel)
set_option maxRecDepth 20000 in
theorem gX0_extend_X0_signedValue : GoodIn wsX0_extend (va_wsS RX0 105 yX0_signedValue wsX0_signedValue) := goodIn_app (goodIn_of _ (by decide +kernel)) ggX0_extend_X0_signedValue
theorem dX0_extend_0 : decode cX0_extend 0 = .ok (.iload_n 1, 1) := by decide +kernel
theorem dX0_extend_1 : decode cX0_extend 1 = .ok (.iload_n 2, 1) := by decide +kernel
theorem dX0_extend_2 : decode cX0_extend 2 = .ok (.invokestatic 105, 3) := by decide +kernel
theorem dX0_extend_5 : decode cX0_extend 5 = .ok (.istore_n 3, 1) := by decide +kernel
theorem dX0_extend_6 : decode cX0_extend 6 = .ok (.iload_n 1, 1) := by decide +kernel
theorem dX0_extend_7 : decode cX0_extend 7 = .ok (.ifCond .eq 7, 3) := by decide +kernel
theorem dX0_extend_10 : decode cX0_extend 10 = .ok (.iload_n 3, 1) := by decide +kernel
theorem dX0_extend_11 : decode cX0_extend 11 = .ok (.goto 7, 3) := by decide +kernel
theorem dX0_extend_14 : decode cX0_extend 14 = .ok (.iload_n 3, 1) := by decide +kernel
theorem dX0_extend_15 : decode cX0_extend 15 = .ok (.ldc 63, 2) := by decide +kernel
theorem dX0_extend_17 : decode cX0_extend 17 = .ok (.iand, 1) := by decide +kernel
theorem dX0_extend_18 : decode cX0_extend 18 = .ok (.ireturn, 1) := by decide +kernel
set_option maxRecDepth 20000 in
theorem ggX0_holds_X0_isSet : GoodIn wsX0_holds wsX0_isSet := goodIn_r _ [7, 8, 13] (by decide +kernel) (by decide +kernel)
set_option maxRecDepth 20000 in
theorem gX0_holds_X0_isSet : GoodIn wsX0_holds (wsV RX0 108 RX0 yX0_isSet wsX0_isSet) := goodIn_app (goodIn_of _ (by decide +kernel)) ggX0_holds_X0_isSet
set_option maxRecDepth 20000 in
theorem ggX0_holds_X0_isLess : GoodIn wsX0_holds wsX0_isLess := goodIn_r _ [12, 3, 4, 5, 6, 7, 8, 13] (by decide +kernel) (by decide +kernel)
set_option maxRecDepth 20000 in
theorem gX0_holds_X0_isLess : GoodIn wsX0_holds (wsV RX0 112 RX0 yX0_isLess wsX0_isLess) := goodIn_app (goodIn_of _ (by decide +kernel)) ggX0_holds_X0_isLess
theorem dX0_holds_0 : decode cX0_holds 0 = .ok (.iload_n 1, 1) := by decide +kernel
theorem dX0_holds_1 : decode cX0_holds 1 = .ok (.tableswitch 297 0 15 #[79, 87, 103, 109, 123, 130, 145, 168, 191, 199, 215, 221, 235, 240, 253, 275], 79) := by decide +kernel
theorem dX0_holds_80 : decode cX0_holds 80 = .ok (.aload_n 0, 1) := by decide +kernel
theorem dX0_holds_81 : decode cX0_holds 81 = .ok (.sipush 2048, 3) := by decide +kernel
theorem dX0_holds_84 : decode cX0_holds 84 = .ok (.invokevirtual 108, 3) := by decide +kernel
theorem dX0_holds_87 : decode cX0_holds 87 = .ok (.ireturn, 1) := by decide +kernel
theorem dX0_holds_88 : decode cX0_holds 88 = .ok (.aload_n 0, 1) := by decide +kernel
theorem dX0_holds_89 : decode cX0_holds 89 = .ok (.sipush 2048, 3) := by decide +kernel
theorem dX0_holds_92 : decode cX0_holds 92 = .ok (.invokevirtual 108, 3) := by decide +kernel
theorem dX0_holds_95 : decode cX0_holds 95 = .ok (.ifCond .ne 7, 3) := by decide +kernel
theorem dX0_holds_98 : decode cX0_holds 98 = .ok (.iconst 1, 1) := by decide +kernel
theorem dX0_holds_99 : decode cX0_holds 99 = .ok (.goto 4, 3) := by decide +kernel
theorem dX0_holds_102 : decode cX0_holds 102 = .ok (.iconst 0, 1) := by decide +kernel
theorem dX0_holds_103 : decode cX0_holds 103 = .ok (.ireturn, 1) := by decide +kernel
theorem dX0_holds_104 : decode cX0_holds 104 = .ok (.aload_n 0, 1) := by decide +kernel
theorem dX0_holds_105 : decode cX0_holds 105 = .ok (.iconst 1, 1) := by decide +kernel
theorem dX0_holds_106 : decode cX0_holds 106 = .ok (.invokevirtual 108, 3) := by decide +kernel
theorem dX0_holds_109 : decode cX0_holds 109 = .ok (.ireturn, 1) := by decide +kernel
theorem dX0_holds_110 : decode cX0_holds 110 = .ok (.aload_n 0, 1) := by decide +kernel
theorem dX0_holds_111 : decode cX0_holds 111 = .ok (.iconst 1, 1) := by decide +kernel
theorem dX0_holds_112 : decode cX0_holds 112 = .ok (.invokevirtual 108, 3) := by decide +kernel
theorem dX0_holds_115 : decode cX0_holds 115 = .ok (.ifCond .ne 7, 3) := by decide +kernel
theorem dX0_holds_118 : decode cX0_holds 118 = .ok (.iconst 1, 1) := by decide +kernel
theorem dX0_holds_119 : decode cX0_holds 119 = .ok (.goto 4, 3) := by decide +kernel
theorem dX0_holds_122 : decode cX0_holds 122 = .ok (.iconst 0, 1) := by decide +kernel
theorem dX0_holds_123 : decode cX0_holds 123 = .ok (.ireturn, 1) := by decide +kernel
theorem dX0_holds_124 : decode cX0_holds 124 = .ok (.aload_n 0, 1) := by decide +kernel
theorem dX0_holds_125 : decode cX0_holds 125 = .ok (.bipush 64, 2) := by decide +kernel
theorem dX0_holds_127 : decode cX0_holds 127 = .ok (.invokevirtual 108, 3) := by decide +kernel
theorem dX0_holds_130 : decode cX0_holds 130 = .ok (.ireturn, 1) := by decide +kernel
theorem dX0_holds_131 : decode cX0_holds 131 = .ok (.aload_n 0, 1) := by decide +kernel
theorem dX0_holds_132 : decode cX0_holds 132 = .ok (.bipush 64, 2) := by decide +kernel
theorem dX0_holds_134 : decode cX0_holds 134 = .ok (.invokevirtual 108, 3) := by decide +kernel
theorem dX0_holds_137 : decode cX0_holds 137 = .ok (.ifCond .ne 7, 3) := by decide +kernel
theorem dX0_holds_140 : decode cX0_holds 140 = .ok (.iconst 1, 1) := by decide +kernel
theorem dX0_holds_141 : decode cX0_holds 141 = .ok (.goto 4, 3) := by decide +kernel
theorem dX0_holds_144 : decode cX0_holds 144 = .ok (.iconst 0, 1) := by decide +kernel
theorem dX0_holds_145 : decode cX0_holds 145 = .ok (.ireturn, 1) := by decide +kernel
theorem dX0_holds_146 : decode cX0_holds 146 = .ok (.aload_n 0, 1) := by decide +kernel
theorem dX0_holds_147 : decode cX0_holds 147 = .ok (.iconst 1, 1) := by decide +kernel
theorem dX0_holds_148 : decode cX0_holds 148 = .ok (.invokevirtual 108, 3) := by decide +kernel
theorem dX0_holds_151 : decode cX0_holds 151 = .ok (.ifCond .ne 12, 3) := by decide +kernel
theorem dX0_holds_154 : decode cX0_holds 154 = .ok (.aload_n 0, 1) := by decide +kernel
theorem dX0_holds_155 : decode cX0_holds 155 = .ok (.bipush 64, 2) := by decide +kernel
theorem dX0_holds_157 : decode cX0_holds 157 = .ok (.invokevirtual 108, 3) := by decide +kernel
theorem dX0_holds_160 : decode cX0_holds 160 = .ok (.ifCond .eq 7, 3) := by decide +kernel
theorem dX0_holds_163 : decode cX0_holds 163 = .ok (.iconst 1, 1) := by decide +kernel
theorem dX0_holds_164 : decode cX0_holds 164 = .ok (.goto 4, 3) := by decide +kernel
theorem dX0_holds_167 : decode cX0_holds 167 = .ok (.iconst 0, 1) := by decide +kernel
theorem dX0_holds_168 : decode cX0_holds 168 = .ok (.ireturn, 1) := by decide +kernel
theorem dX0_holds_169 : decode cX0_holds 169 = .ok (.aload_n 0, 1) := by decide +kernel
theorem dX0_holds_170 : decode cX0_holds 170 = .ok (.iconst 1, 1) := by decide +kernel
theorem dX0_holds_171 : decode cX0_holds 171 = .ok (.invokevirtual 108, 3) := by decide +kernel
theorem dX0_holds_174 : decode cX0_holds 174 = .ok (.ifCond .ne 16, 3) := by decide +kernel
theorem dX0_holds_177 : decode cX0_holds 177 = .ok (.aload_n 0, 1) := by decide +kernel
theorem dX0_holds_178 : decode cX0_holds 178 = .ok (.bipush 64, 2) := by decide +kernel
theorem dX0_holds_180 : decode cX0_holds 180 = .ok (.invokevirtual 108, 3) := by decide +kernel
theorem dX0_holds_183 : decode cX0_holds 183 = .ok (.ifCond .ne 7, 3) := by decide +kernel
theorem dX0_holds_186 : decode cX0_holds 186 = .ok (.iconst 1, 1) := by decide +kernel
theorem dX0_holds_187 : decode cX0_holds 187 = .ok (.goto 4, 3) := by decide +kernel
theorem dX0_holds_190 : decode cX0_holds 190 = .ok (.iconst 0, 1) := by decide +kernel
theorem dX0_holds_191 : decode cX0_holds 191 = .ok (.ireturn, 1) := by decide +kernel
theorem dX0_holds_192 : decode cX0_holds 192 = .ok (.aload_n 0, 1) := by decide +kernel
theorem dX0_holds_193 : decode cX0_holds 193 = .ok (.sipush 128, 3) := by decide +kernel
theorem dX0_holds_196 : decode cX0_holds 196 = .ok (.invokevirtual 108, 3) := by decide +kernel
theorem dX0_holds_199 : decode cX0_holds 199 = .ok (.ireturn, 1) := by decide +kernel
theorem dX0_holds_200 : decode cX0_holds 200 = .ok (.aload_n 0, 1) := by decide +kernel
theorem dX0_holds_201 : decode cX0_holds 201 = .ok (.sipush 128, 3) := by decide +kernel
theorem dX0_holds_204 : decode cX0_holds 204 = .ok (.invokevirtual 108, 3) := by decide +kernel
theorem dX0_holds_207 : decode cX0_holds 207 = .ok (.ifCond .ne 7, 3) := by decide +kernel
theorem dX0_holds_210 : decode cX0_holds 210 = .ok (.iconst 1, 1) := by decide +kernel
theorem dX0_holds_211 : decode cX0_holds 211 = .ok (.goto 4, 3) := by decide +kernel
theorem dX0_holds_214 : decode cX0_holds 214 = .ok (.iconst 0, 1) := by decide +kernel
theorem dX0_holds_215 : decode cX0_holds 215 = .ok (.ireturn, 1) := by decide +kernel
theorem dX0_holds_216 : decode cX0_holds 216 = .ok (.aload_n 0, 1) := by decide +kernel
theorem dX0_holds_217 : decode cX0_holds 217 = .ok (.iconst 4, 1) := by decide +kernel
theorem dX0_holds_218 : decode cX0_holds 218 = .ok (.invokevirtual 108, 3) := by decide +kernel
theorem dX0_holds_221 : decode cX0_holds 221 = .ok (.ireturn, 1) := by decide +kernel
theorem dX0_holds_222 : decode cX0_holds 222 = .ok (.aload_n 0, 1) := by decide +kernel
theorem dX0_holds_223 : decode cX0_holds 223 = .ok (.iconst 4, 1) := by decide +kernel
theorem dX0_holds_224 : decode cX0_holds 224 = .ok (.invokevirtual 108, 3) := by decide +kernel
theorem dX0_holds_227 : decode cX0_holds 227 = .ok (.ifCond .ne 7, 3) := by decide +kernel
theorem dX0_holds_230 : decode cX0_holds 230 = .ok (.iconst 1, 1) := by decide +kernel
theorem dX0_holds_231 : decode cX0_holds 231 = .ok (.goto 4, 3) := by decide +kernel
theorem dX0_holds_234 : decode cX0_holds 234 = .ok (.iconst 0, 1) := by decide +kernel
theorem dX0_holds_235 : decode cX0_holds 235 = .ok (.ireturn, 1) := by decide +kernel
theorem dX0_holds_236 : decode cX0_holds 236 = .ok (.aload_n 0, 1) := by decide +kernel
theorem dX0_holds_237 : decode cX0_holds 237 = .ok (.invokevirtual 112, 3) := by decide +kernel
theorem dX0_holds_240 : decode cX0_holds 240 = .ok (.ireturn, 1) := by decide +kernel
theorem dX0_holds_241 : decode cX0_holds 241 = .ok (.aload_n 0, 1) := by decide +kernel
theorem dX0_holds_242 : decode cX0_holds 242 = .ok (.invokevirtual 112, 3) := by decide +kernel
theorem dX0_holds_245 : decode cX0_holds 245 = .ok (.ifCond .ne 7, 3) := by decide +kernel
theorem dX0_holds_248 : decode cX0_holds 248 = .ok (.iconst 1, 1) := by decide +kernel
theorem dX0_holds_249 : decode cX0_holds 249 = .ok (.goto 4, 3) := by decide +kernel
theorem dX0_holds_252 : decode cX0_holds 252 = .ok (.iconst 0, 1) := by decide +kernel
theorem dX0_holds_253 : decode cX0_holds 253 = .ok (.ireturn, 1) := by decide +kernel
theorem dX0_holds_254 : decode cX0_holds 254 = .ok (.aload_n 0, 1) := by decide +kernel
theorem dX0_holds_255 : decode cX0_holds 255 = .ok (.invokevirtual 112, 3) := by decide +kernel
theorem dX0_holds_258 : decode cX0_holds 258 = .ok (.ifCond .ne 12, 3) := by decide +kernel
theorem dX0_holds_261 : decode cX0_holds 261 = .ok (.aload_n 0, 1) := by decide +kernel
theorem dX0_holds_262 : decode cX0_holds 262 = .ok (.bipush 64, 2) := by decide +kernel
theorem dX0_holds_264 : decode cX0_holds 264 = .ok (.invokevirtual 108, 3) := by decide +kernel
theorem dX0_holds_267 : decode cX0_holds 267 = .ok (.ifCond .eq 7, 3) := by decide +kernel
theorem dX0_holds_270 : decode cX0_holds 270 = .ok (.iconst 1, 1) := by decide +kernel
theorem dX0_holds_271 : decode cX0_holds 271 = .ok (.goto 4, 3) := by decide +kernel
theorem dX0_holds_274 : decode cX0_holds 274 = .ok (.iconst 0, 1) := by decide +kernel
theorem dX0_holds_275 : decode cX0_holds 275 = .ok (.ireturn, 1) := by decide +kernel
theorem dX0_holds_276 : decode cX0_holds 276 = .ok (.aload_n 0, 1) := by decide +kernel
theorem dX0_holds_277 : decode cX0_holds 277 = .ok (.invokevirtual 112, 3) := by decide +kernel
theorem dX0_holds_280 : decode cX0_holds 280 = .ok (.ifCond .ne 16, 3) := by decide +kernel
theorem dX0_holds_283 : decode cX0_holds 283 = .ok (.aload_n 0, 1) := by decide +kernel
theorem dX0_holds_284 : decode cX0_holds 284 = .ok (.bipush 64, 2) := by decide +kernel
theorem dX0_holds_286 : decode cX0_holds 286 = .ok (.invokevirtual 108, 3) := by decide +kernel
theorem dX0_holds_289 : decode cX0_holds 289 = .ok (.ifCond .ne 7, 3) := by decide +kernel
theorem dX0_holds_292 : decode cX0_holds 292 = .ok (.iconst 1, 1) := by decide +kernel
theorem dX0_holds_293 : decode cX0_holds 293 = .ok (.goto 4, 3) := by decide +kernel
theorem dX0_holds_296 : decode cX0_holds 296 = .ok (.iconst 0, 1) := by decide +kernel
theorem dX0_holds_297 : decode cX0_holds 297 = .ok (.ireturn, 1) := by decide +kernel
theorem dX0_holds_298 : decode cX0_holds 298 = .ok (.new 33, 3) := by decide +kernel
theorem dX0_holds_301 : decode cX0_holds 301 = .ok (.dup, 1) := by decide +kernel
theorem dX0_holds_302 : decode cX0_holds 302 = .ok (.ldc 116, 2) := by decide +kernel
theorem dX0_holds_304 : decode cX0_holds 304 = .ok (.invokespecial 37, 3) := by decide +kernel
theorem dX0_holds_307 : decode cX0_holds 307 = .ok (.athrow, 1) := by decide +kernel
theorem dX0_isSet_0 : decode cX0_isSet 0 = .ok (.aload_n 0, 1) := by decide +kernel
theorem dX0_isSet_1 : decode cX0_isSet 1 = .ok (.getfield 7, 3) := by decide +kernel
theorem dX0_isSet_4 : decode cX0_isSet 4 = .ok (.iload_n 1, 1) := by decide +kernel
theorem dX0_isSet_5 : decode cX0_isSet 5 = .ok (.iand, 1) := by decide +kernel
theorem dX0_isSet_6 : decode cX0_isSet 6 = .ok (.ifCond .eq 7, 3) := by decide +kernel
theorem dX0_isSet_9 : decode cX0_isSet 9 = .ok (.iconst 1, 1) := by decide +kernel
theorem dX0_isSet_10 : decode cX0_isSet 10 = .ok (.goto 4, 3) := by decide +kernel
theorem dX0_isSet_13 : decode cX0_isSet 13 = .ok (.iconst 0, 1) := by decide +kernel
theorem dX0_isSet_14 : decode cX0_isSet 14 = .ok (.ireturn, 1) := by decide +kernel
theorem dX0_put_0 : decode cX0_put 0 = .ok (.aload_n 0, 1) := by decide +kernel
theorem dX0_put_1 : decode cX0_put 1 = .ok (.iload_n 2, 1) := by decide +kernel
theorem dX0_put_2 : decode cX0_put 2 = .ok (.ifCond .eq 12, 3) := by decide +kernel
theorem dX0_put_5 : decode cX0_put 5 = .ok (.aload_n 0, 1) := by decide +kernel
theorem dX0_put_6 : decode cX0_put 6 = .ok (.getfield 7, 3) := by decide +kernel
theorem dX0_put_9 : decode cX0_put 9 = .ok (.iload_n 1, 1) := by decide +kernel
theorem dX0_put_10 : decode cX0_put 10 = .ok (.ior, 1) := by decide +kernel
theorem dX0_put_11 : decode cX0_put 11 = .ok (.goto 11, 3) := by decide +kernel
theorem dX0_put_14 : decode cX0_put 14 = .ok (.aload_n 0, 1) := by decide +kernel
theorem dX0_put_15 : decode cX0_put 15 = .ok (.getfield 7, 3) := by decide +kernel
theorem dX0_put_18 : decode cX0_put 18 = .ok (.iload_n 1, 1) := by decide +kernel
theorem dX0_put_19 : decode cX0_put 19 = .ok (.iconst (-1), 1) := by decide +kernel
theorem dX0_put_20 : decode cX0_put 20 = .ok (.ixor, 1) := by decide +kernel
theorem dX0_put_21 : decode cX0_put 21 = .ok (.iand, 1) := by decide +kernel
theorem dX0_put_22 : decode cX0_put 22 = .ok (.putfield 7, 3) := by decide +kernel
theorem dX0_put_25 : decode cX0_put 25 = .ok (.return_, 1) := by decide +kernel
set_option maxRecDepth 20000 in
theorem ggX0_goByAnswer_X0_put : GoodIn wsX0_goByAnswer wsX0_put := goodIn_r _ [5, 6, 21] (by decide +kernel) (by decide +kernel)
set_option maxRecDepth 20000 in
theorem gX0_goByAnswer_X0_put : GoodIn wsX0_goByAnswer (wsV RX0 59 RX0 yX0_put wsX0_put) := goodIn_app (goodIn_of _ (by decide +kernel)) ggX0_goByAnswer_X0_put
set_option maxRecDepth 20000 in
theorem ggX0_goByAnswer_X0_hasHighestBit : GoodIn wsX0_goByAnswer wsX0_hasHighestBit := goodIn_r _ [9, 10, 11, 4, 12, 13] (by decide +kernel) (by decide +kernel)
set_option maxRecDepth 20000 in
theorem gX0_goByAnswer_X0_hasHighestBit : GoodIn wsX0_goByAnswer (va_wsS RX0 118 yX0_hasHighestBit wsX0_hasHighestBit) := goodIn_app (goodIn_of _ (by decide +kernel)) ggX0_goByAnswer_X0_hasHighestBit
set_option maxRecDepth 20000 in
theorem ggX0_goByAnswer_J6_bitCount_0f7a4 : GoodIn wsX0_goByAnswer wsJ6_bitCount_0f7a4 := goodIn_r _ [17, 18, 19, 20] (by decide +kernel) (by decide +kernel)
set_option maxRecDepth 20000 in
theorem gX0_goByAnswer_J6_bitCount_0f7a4 : GoodIn wsX0_goByAnswer (va_wsS RX0 122 yJ6_bitCount_0f7a4 wsJ6_bitCount_0f7a4) := goodIn_app (goodIn_of _ (by decide +kernel)) ggX0_goByAnswer_J6_bitCount_0f7a4
theorem dX0_goByAnswer_0 : decode cX0_goByAnswer 0 = .ok (.aload_n 0, 1) := by decide +kernel
theorem dX0_goByAnswer_1 : decode cX0_goByAnswer 1 = .ok (.bipush 64, 2) := by decide +kernel
theorem dX0_goByAnswer_3 : decode cX0_goByAnswer 3 = .ok (.iload_n 2, 1) := by decide +kernel
theorem dX0_goByAnswer_4 : decode cX0_goByAnswer 4 = .ok (.ifCond .ne 7, 3) := by decide +kernel
theorem dX0_goByAnswer_7 : decode cX0_goByAnswer 7 = .ok (.iconst 1, 1) := by decide +kernel
theorem dX0_goByAnswer_8 : decode cX0_goByAnswer 8 = .ok (.goto 4, 3) := by decide +kernel
theorem dX0_goByAnswer_11 : decode cX0_goByAnswer 11 = .ok (.iconst 0, 1) := by decide +kernel
theorem dX0_goByAnswer_12 : decode cX0_goByAnswer 12 = .ok (.invokevirtual 59, 3) := by decide +kernel
theorem dX0_goByAnswer_15 : decode cX0_goByAnswer 15 = .ok (.aload_n 0, 1) := by decide +kernel
theorem dX0_goByAnswer_16 : decode cX0_goByAnswer 16 = .ok (.sipush 128, 3) := by decide +kernel
theorem dX0_goByAnswer_19 : decode cX0_goByAnswer 19 = .ok (.iload_n 1, 1) := by decide +kernel
theorem dX0_goByAnswer_20 : decode cX0_goByAnswer 20 = .ok (.iload_n 2, 1) := by decide +kernel
theorem dX0_goByAnswer_21 : decode cX0_goByAnswer 21 = .ok (.invokestatic 118, 3) := by decide +kernel
theorem dX0_goByAnswer_24 : decode cX0_goByAnswer 24 = .ok (.invokevirtual 59, 3) := by decide +kernel
theorem dX0_goByAnswer_27 : decode cX0_goByAnswer 27 = .ok (.aload_n 0, 1) := by decide +kernel
theorem dX0_goByAnswer_28 : decode cX0_goByAnswer 28 = .ok (.iconst 4, 1) := by decide +kernel
theorem dX0_goByAnswer_29 : decode cX0_goByAnswer 29 = .ok (.iload_n 2, 1) := by decide +kernel
theorem dX0_goByAnswer_30 : decode cX0_goByAnswer 30 = .ok (.sipush 255, 3) := by decide +kernel
theorem dX0_goByAnswer_33 : decode cX0_goByAnswer 33 = .ok (.iand, 1) := by decide +kernel
theorem dX0_goByAnswer_34 : decode cX0_goByAnswer 34 = .ok (.invokestatic 122, 3) := by decide +kernel
theorem dX0_goByAnswer_37 : decode cX0_goByAnswer 37 = .ok (.iconst 2, 1) := by decide +kernel
theorem dX0_goByAnswer_38 : decode cX0_goByAnswer 38 = .ok (.irem, 1) := by decide +kernel
theorem dX0_goByAnswer_39 : decode cX0_goByAnswer 39 = .ok (.ifCond .ne 7, 3) := by decide +kernel
theorem dX0_goByAnswer_42 : decode cX0_goByAnswer 42 = .ok (.iconst 1, 1) := by decide +kernel
theorem dX0_goByAnswer_43 : decode cX0_goByAnswer 43 = .ok (.goto 4, 3) := by decide +kernel
theorem dX0_goByAnswer_46 : decode cX0_goByAnswer 46 = .ok (.iconst 0, 1) := by decide +kernel
theorem dX0_goByAnswer_47 : decode cX0_goByAnswer 47 = .ok (.invokevirtual 59, 3) := by decide +kernel
theorem dX0_goByAnswer_50 : decode cX0_goByAnswer 50 = .ok (.return_, 1) := by decide +kernel
set_option maxRecDepth 20000 in
theorem ggX0_isLess_X0_isSet : GoodIn wsX0_isLess wsX0_isSet := goodIn_r _ [5, 6, 7] (by decide +kernel) (by decide +kernel)
set_option maxRecDepth 20000 in
theorem gX0_isLess_X0_isSet : GoodIn wsX0_isLess (wsV RX0 108 RX0 yX0_isSet wsX0_isSet) := goodIn_app (goodIn_of _ (by decide +kernel)) ggX0_isLess_X0_isSet
theorem dX0_isLess_0 : decode cX0_isLess 0 = .ok (.aload_n 0, 1) := by decide +kernel
theorem dX0_isLess_1 : decode cX0_isLess 1 = .ok (.sipush 128, 3) := by decide +kernel
theorem dX0_isLess_4 : decode cX0_isLess 4 = .ok (.invokevirtual 108, 3) := by decide +kernel
theorem dX0_isLess_7 : decode cX0_isLess 7 = .ok (.aload_n 0, 1) := by decide +kernel
theorem dX0_isLess_8 : decode cX0_isLess 8 = .ok (.sipush 2048, 3) := by decide +kernel
theorem dX0_isLess_11 : decode cX0_isLess 11 = .ok (.invokevirtual 108, 3) := by decide +kernel
theorem dX0_isLess_14 : decode cX0_isLess 14 = .ok (.if_icmp .eq 7, 3) := by decide +kernel
theorem dX0_isLess_17 : decode cX0_isLess 17 = .ok (.iconst 1, 1) := by decide +kernel
theorem dX0_isLess_18 : decode cX0_isLess 18 = .ok (.goto 4, 3) := by decide +kernel
theorem dX0_isLess_21 : decode cX0_isLess 21 = .ok (.iconst 0, 1) := by decide +kernel
theorem dX0_isLess_22 : decode cX0_isLess 22 = .ok (.ireturn, 1) := by decide +kernel
theorem dX0_width_0 : decode cX0_width 0 = .ok (.iload_n 0, 1) := by decide +kernel
theorem dX0_width_1 : decode cX0_width 1 = .ok (.ifCond .eq 8, 3) := by decide +kernel
theorem dX0_width_4 : decode cX0_width 4 = .ok (.bipush 16, 2) := by decide +kernel
theorem dX0_width_6 : decode cX0_width 6 = .ok (.goto 5, 3) := by decide +kernel
theorem dX0_width_9 : decode cX0_width 9 = .ok (.bipush 8, 2) := by decide +kernel
theorem dX0_width_11 : decode cX0_width 11 = .ok (.ireturn, 1) := by decide +kernel
theorem dX0_mask_0 : decode cX0_mask 0 = .ok (.iload_n 0, 1) := by decide +kernel
theorem dX0_mask_1 : decode cX0_mask 1 = .ok (.ifCond .eq 8, 3) := by decide +kernel
theorem dX0_mask_4 : decode cX0_mask 4 = .ok (.ldc 63, 2) := by decide +kernel
theorem dX0_mask_6 : decode cX0_mask 6 = .ok (.goto 6, 3) := by decide +kernel
theorem dX0_mask_9 : decode cX0_mask 9 = .ok (.sipush 255, 3) := by decide +kernel
theorem dX0_mask_12 : decode cX0_mask 12 = .ok (.ireturn, 1) := by decide +kernel
theorem dX0_highestBit_0 : decode cX0_highestBit 0 = .ok (.iload_n 0, 1) := by decide +kernel
theorem dX0_highestBit_1 : decode cX0_highestBit 1 = .ok (.ifCond .eq 8, 3) := by decide +kernel
theorem dX0_highestBit_4 : decode cX0_highestBit 4 = .ok (.ldc 127, 2) := by decide +kernel
theorem dX0_highestBit_6 : decode cX0_highestBit 6 = .ok (.goto 6, 3) := by decide +kernel
theorem dX0_highestBit_9 : decode cX0_highestBit 9 = .ok (.sipush 128, 3) := by decide +kernel
theorem dX0_highestBit_12 : decode cX0_highestBit 12 = .ok (.ireturn, 1) := by decide +kernel
set_option maxRecDepth 20000 in
theorem ggX0_hasHighestBit_X0_highestBit : GoodIn wsX0_hasHighestBit wsX0_highestBit := goodIn_r _ [4, 5] (by decide +kernel) (by decide +kernel)
set_option maxRecDepth 20000 in
theorem gX0_hasHighestBit_X0_highestBit : GoodIn wsX0_hasHighestBit (va_wsS RX0 128 yX0_highestBit wsX0_highestBit) := goodIn_app (goodIn_of _ (by decide +kernel)) ggX0_hasHighestBit_X0_highestBit
theorem dX0_hasHighestBit_0 : decode cX0_hasHighestBit 0 = .ok (.iload_n 1, 1) := by decide +kernel
theorem dX0_hasHighestBit_1 : decode cX0_hasHighestBit 1 = .ok (.iload_n 0, 1) := by decide +kernel
theorem dX0_hasHighestBit_2 : decode cX0_hasHighestBit 2 = .ok (.invokestatic 128, 3) := by decide +kernel
theorem dX0_hasHighestBit_5 : decode cX0_hasHighestBit 5 = .ok (.iand, 1) := by decide +kernel
theorem dX0_hasHighestBit_6 : decode cX0_hasHighestBit 6 = .ok (.ifCond .eq 7, 3) := by decide +kernel
theorem dX0_hasHighestBit_9 : decode cX0_hasHighestBit 9 = .ok (.iconst 1, 1) := by decide +kernel
theorem dX0_hasHighestBit_10 : decode cX0_hasHighestBit 10 = .ok (.goto 4, 3) := by decide +kernel
theorem dX0_hasHighestBit_13 : decode cX0_hasHighestBit 13 = .ok (.iconst 0, 1) := by decide +kernel
theorem dX0_hasHighestBit_14 : decode cX0_hasHighestBit 14 = .ok (.ireturn, 1) := by decide +kernel
set_option maxRecDepth 20000 in
theorem ggX0_operand_X0_mask : GoodIn wsX0_operand wsX0_mask := goodIn_r _ [4, 5] (by decide +kernel) (by decide +kernel)
set_option maxRecDepth 20000 in
theorem gX0_operand_X0_mask : GoodIn wsX0_operand (va_wsS RX0 131 yX0_mask wsX0_mask) := goodIn_app (goodIn_of _ (by decide +kernel)) ggX0_operand_X0_mask
theorem dX0_operand_0 : decode cX0_operand 0 = .ok (.iload_n 1, 1) := by decide +kernel
theorem dX0_operand_1 : decode cX0_operand 1 = .ok (.iload_n 0, 1) := by decide +kernel
theorem dX0_operand_2 : decode cX0_operand 2 = .ok (.invokestatic 131, 3) := by decide +kernel
theorem dX0_operand_5 : decode cX0_operand 5 = .ok (.iand, 1) := by decide +kernel
theorem dX0_operand_6 : decode cX0_operand 6 = .ok (.ireturn, 1) := by decide +kernel
theorem dX0_signedValue_0 : decode cX0_signedValue 0 = .ok (.iload_n 0, 1) := by decide +kernel
theorem dX0_signedValue_1 : decode cX0_signedValue 1 = .ok (.ifCond .eq 8, 3) := by decide +kernel
theorem dX0_signedValue_4 : decode cX0_signedValue 4 = .ok (.iload_n 1, 1) := by decide +kernel
theorem dX0_signedValue_5 : decode cX0_signedValue 5 = .ok (.i2s, 1) := by decide +kernel
theorem dX0_signedValue_6 : decode cX0_signedValue 6 = .ok (.goto 5, 3) := by decide +kernel
theorem dX0_signedValue_9 : decode cX0_signedValue 9 = .ok (.iload_n 1, 1) := by decide +kernel
theorem dX0_signedValue_10 : decode cX0_signedValue 10 = .ok (.i2b, 1) := by decide +kernel
theorem dX0_signedValue_11 : decode cX0_signedValue 11 = .ok (.ireturn, 1) := by decide +kernel
set_option maxRecDepth 20000 in
theorem ggX0_valueOf_X0_signedValue : GoodIn wsX0_valueOf wsX0_signedValue := goodIn_r _ [4] (by decide +kernel) (by decide +kernel)
set_option maxRecDepth 20000 in
theorem gX0_valueOf_X0_signedValue : GoodIn wsX0_valueOf (va_wsS RX0 105 yX0_signedValue wsX0_signedValue) := goodIn_app (goodIn_of _ (by decide +kernel)) ggX0_valueOf_X0_signedValue
set_option maxRecDepth 20000 in
theorem ggX0_valueOf_X0_operand : GoodIn wsX0_valueOf wsX0_operand := goodIn_r _ [7, 8, 9, 3, 10, 11] (by decide +kernel) (by decide +kernel)
set_option maxRecDepth 20000 in
theorem gX0_valueOf_X0_operand : GoodIn wsX0_valueOf (va_wsS RX0 13 yX0_operand wsX0_operand) := goodIn_app (goodIn_of _ (by decide +kernel)) ggX0_valueOf_X0_operand
theorem dX0_valueOf_0 : decode cX0_valueOf 0 = .ok (.iload_n 1, 1) := by decide +kernel
theorem dX0_valueOf_1 : decode cX0_valueOf 1 = .ok (.ifCond .eq 11, 3) := by decide +kernel
theorem dX0_valueOf_4 : decode cX0_valueOf 4 = .ok (.iload_n 0, 1) := by decide +kernel
theorem dX0_valueOf_5 : decode cX0_valueOf 5 = .ok (.iload_n 2, 1) := by decide +kernel
theorem dX0_valueOf_6 : decode cX0_valueOf 6 = .ok (.invokestatic 105, 3) := by decide +kernel
theorem dX0_valueOf_9 : decode cX0_valueOf 9 = .ok (.goto 8, 3) := by decide +kernel
theorem dX0_valueOf_12 : decode cX0_valueOf 12 = .ok (.iload_n 0, 1) := by decide +kernel
theorem dX0_valueOf_13 : decode cX0_valueOf 13 = .ok (.iload_n 2, 1) := by decide +kernel
theorem dX0_valueOf_14 : decode cX0_valueOf 14 = .ok (.invokestatic 13, 3) := by decide +kernel
theorem dX0_valueOf_17 : decode cX0_valueOf 17 = .ok (.ireturn, 1) := by decide +kernel
set_option maxRecDepth 20000 in
theorem ggX0_valueTwiceAsLong_X0_valueOf : GoodIn wsX0_valueTwiceAsLong wsX0_valueOf := goodIn_r _ [5, 6, 7, 4, 8, 9, 10, 11, 12, 13, 14, 15] (by decide +kernel) (by decide +kernel)
set_option maxRecDepth 20000 in
theorem gX0_valueTwiceAsLong_X0_valueOf : GoodIn wsX0_valueTwiceAsLong (va_wsS RX0 55 yX0_valueOf wsX0_valueOf) := goodIn_app (goodIn_of _ (by decide +kernel)) ggX0_valueTwiceAsLong_X0_valueOf
theorem dX0_valueTwiceAsLong_0 : decode cX0_valueTwiceAsLong 0 = .ok (.iload_n 0, 1) := by decide +kernel
theorem dX0_valueTwiceAsLong_1 : decode cX0_valueTwiceAsLong 1 = .ok (.ifCond .eq 19, 3) := by decide +kernel
theorem dX0_valueTwiceAsLong_4 : decode cX0_valueTwiceAsLong 4 = .ok (.iload_n 1, 1) := by decide +kernel
theorem dX0_valueTwiceAsLong_5 : decode cX0_valueTwiceAsLong 5 = .ok (.ifCond .eq 8, 3) := by decide +kernel
theorem dX0_valueTwiceAsLong_8 : decode cX0_valueTwiceAsLong 8 = .ok (.iload_n 2, 1) := by decide +kernel
theorem dX0_valueTwiceAsLong_9 : decode cX0_valueTwiceAsLong 9 = .ok (.i2l, 1) := by decide +kernel
theorem dX0_valueTwiceAsLong_10 : decode cX0_valueTwiceAsLong 10 = .ok (.goto 9, 3) := by decide +kernel
theorem dX0_valueTwiceAsLong_13 : decode cX0_valueTwiceAsLong 13 = .ok (.iload_n 2, 1) := by decide +kernel
theorem dX0_valueTwiceAsLong_14 : decode cX0_valueTwiceAsLong 14 = .ok (.i2l, 1) := by decide +kernel
theorem dX0_valueTwiceAsLong_15 : decode cX0_valueTwiceAsLong 15 = .ok (.ldc2_w 134, 3) := by decide +kernel
theorem dX0_valueTwiceAsLong_18 : decode cX0_valueTwiceAsLong 18 = .ok (.land, 1) := by decide +kernel
theorem dX0_valueTwiceAsLong_19 : decode cX0_valueTwiceAsLong 19 = .ok (.lreturn, 1) := by decide +kernel
theorem dX0_valueTwiceAsLong_20 : decode cX0_valueTwiceAsLong 20 = .ok (.iconst 1, 1) := by decide +kernel
theorem dX0_valueTwiceAsLong_21 : decode cX0_valueTwiceAsLong 21 = .ok (.iload_n 1, 1) := by decide +kernel
theorem dX0_valueTwiceAsLong_22 : decode cX0_valueTwiceAsLong 22 = .ok (.iload_n 2, 1) := by decide +kernel
theorem dX0_valueTwiceAsLong_23 : decode cX0_valueTwiceAsLong 23 = .ok (.invokestatic 55, 3) := by decide +kernel
theorem dX0_valueTwiceAsLong_26 : decode cX0_valueTwiceAsLong 26 = .ok (.i2l, 1) := by decide +kernel
theorem dX0_valueTwiceAsLong_27 : decode cX0_valueTwiceAsLong 27 = .ok (.lreturn, 1) := by decide +kernel
set_option maxRecDepth 20000 in
theorem ggX0_sum_X0_mask : GoodIn wsX0_sum wsX0_mask := goodIn_r _ [4, 5] (by decide +kernel) (by decide +kernel)
set_option maxRecDepth 20000 in
theorem gX0_sum_X0_mask : GoodIn wsX0_sum (va_wsS RX0 131 yX0_mask wsX0_mask) := goodIn_app (goodIn_of _ (by decide +kernel)) ggX0_sum_X0_mask
set_option maxRecDepth 20000 in
theorem ggX0_sum_X0_put : GoodIn wsX0_sum wsX0_put := goodIn_r _ [9, 10, 43] (by decide +kernel) (by decide +kernel)
set_option maxRecDepth 20000 in
theorem gX0_sum_X0_put : GoodIn wsX0_sum (wsV RX0 59 RX0 yX0_put wsX0_put) := goodIn_app (goodIn_of _ (by decide +kernel)) ggX0_sum_X0_put
set_option maxRecDepth 20000 in
theorem ggX0_sum_X0_signedValue : GoodIn wsX0_sum wsX0_signedValue := goodIn_r _ [13] (by decide +kernel) (by decide +kernel)
set_option maxRecDepth 20000 in
theorem gX0_sum_X0_signedValue : GoodIn wsX0_sum (va_wsS RX0 105 yX0_signedValue wsX0_signedValue) := goodIn_app (goodIn_of _ (by decide +kernel)) ggX0_sum_X0_signedValue
set_option maxRecDepth 20000 in
theorem ggX0_sum_X0_putOverflow : GoodIn wsX0_sum wsX0_putOverflow := goodIn_r _ [17, 11, 12, 3, 13, 6, 7, 8, 9, 10, 43] (by decide +kernel) (by decide +kernel)
set_option maxRecDepth 20000 in
theorem gX0_sum_X0_putOverflow : GoodIn wsX0_sum (wsV RX0 136 RX0 yX0_putOverflow wsX0_putOverflow) := goodIn_app (goodIn_of _ (by decide +kernel)) ggX0_sum_X0_putOverflow
set_option maxRecDepth 20000 in
theorem ggX0_sum_X0_kept : GoodIn wsX0_sum wsX0_kept := goodIn_r _ [21, 22, 23, 3, 24, 1, 2, 4, 5, 25, 26, 27, 28, 6, 7, 8, 9, 10, 29, 30, 31, 32, 33, 34, 35, 36, 37, 38, 39, 40, 41, 42, 43] (by decide +kernel) (by decide +kernel)
set_option maxRecDepth 20000 in
theorem gX0_sum_X0_kept : GoodIn wsX0_sum (wsV RX0 139 RX0 yX0_kept wsX0_kept) := goodIn_app (goodIn_of _ (by decide +kernel)) ggX0_sum_X0_kept
theorem dX0_sum_0 : decode cX0_sum 0 = .ok (.iload_n 2, 1) := by decide +kernel
theorem dX0_sum_1 : decode cX0_sum 1 = .ok (.iload_n 3, 1) := by decide +kernel
theorem dX0_sum_2 : decode cX0_sum 2 = .ok (.iadd, 1) := by decide +kernel
theorem dX0_sum_3 : decode cX0_sum 3 = .ok (.iload 4, 2) := by decide +kernel
theorem dX0_sum_5 : decode cX0_sum 5 = .ok (.iadd, 1) := by decide +kernel
theorem dX0_sum_6 : decode cX0_sum 6 = .ok (.istore 5, 2) := by decide +kernel
theorem dX0_sum_8 : decode cX0_sum 8 = .ok (.aload_n 0, 1) := by decide +kernel
theorem dX0_sum_9 : decode cX0_sum 9 = .ok (.iconst 1, 1) := by decide +kernel
theorem dX0_sum_10 : decode cX0_sum 10 = .ok (.iload 5, 2) := by decide +kernel
theorem dX0_sum_12 : decode cX0_sum 12 = .ok (.iload_n 1, 1) := by decide +kernel
theorem dX0_sum_13 : decode cX0_sum 13 = .ok (.invokestatic 131, 3) := by decide +kernel
theorem dX0_sum_16 : decode cX0_sum 16 = .ok (.if_icmp .le 7, 3) := by decide +kernel
theorem dX0_sum_19 : decode cX0_sum 19 = .ok (.iconst 1, 1) := by decide +kernel
theorem dX0_sum_20 : decode cX0_sum 20 = .ok (.goto 4, 3) := by decide +kernel
theorem dX0_sum_23 : decode cX0_sum 23 = .ok (.iconst 0, 1) := by decide +kernel
theorem dX0_sum_24 : decode cX0_sum 24 = .ok (.invokevirtual 59, 3) := by decide +kernel
theorem dX0_sum_27 : decode cX0_sum 27 = .ok (.aload_n 0, 1) := by decide +kernel
theorem dX0_sum_28 : decode cX0_sum 28 = .ok (.bipush 16, 2) := by decide +kernel
theorem dX0_sum_30 : decode cX0_sum 30 = .ok (.iload_n 2, 1) := by decide +kernel
theorem dX0_sum_31 : decode cX0_sum 31 = .ok (.bipush 15, 2) := by decide +kernel
theorem dX0_sum_33 : decode cX0_sum 33 = .ok (.iand, 1) := by decide +kernel
theorem dX0_sum_34 : decode cX0_sum 34 = .ok (.iload_n 3, 1) := by decide +kernel
theorem dX0_sum_35 : decode cX0_sum 35 = .ok (.bipush 15, 2) := by decide +kernel
theorem dX0_sum_37 : decode cX0_sum 37 = .ok (.iand, 1) := by decide +kernel
theorem dX0_sum_38 : decode cX0_sum 38 = .ok (.iadd, 1) := by decide +kernel
theorem dX0_sum_39 : decode cX0_sum 39 = .ok (.iload 4, 2) := by decide +kernel
theorem dX0_sum_41 : decode cX0_sum 41 = .ok (.iadd, 1) := by decide +kernel
theorem dX0_sum_42 : decode cX0_sum 42 = .ok (.bipush 15, 2) := by decide +kernel
theorem dX0_sum_44 : decode cX0_sum 44 = .ok (.if_icmp .le 7, 3) := by decide +kernel
theorem dX0_sum_47 : decode cX0_sum 47 = .ok (.iconst 1, 1) := by decide +kernel
theorem dX0_sum_48 : decode cX0_sum 48 = .ok (.goto 4, 3) := by decide +kernel
theorem dX0_sum_51 : decode cX0_sum 51 = .ok (.iconst 0, 1) := by decide +kernel
theorem dX0_sum_52 : decode cX0_sum 52 = .ok (.invokevirtual 59, 3) := by decide +kernel
theorem dX0_sum_55 : decode cX0_sum 55 = .ok (.aload_n 0, 1) := by decide +kernel
theorem dX0_sum_56 : decode cX0_sum 56 = .ok (.iload_n 1, 1) := by decide +kernel
theorem dX0_sum_57 : decode cX0_sum 57 = .ok (.iload_n 1, 1) := by decide +kernel
theorem dX0_sum_58 : decode cX0_sum 58 = .ok (.iload_n 2, 1) := by decide +kernel
theorem dX0_sum_59 : decode cX0_sum 59 = .ok (.invokestatic 105, 3) := by decide +kernel
theorem dX0_sum_62 : decode cX0_sum 62 = .ok (.iload_n 1, 1) := by decide +kernel
theorem dX0_sum_63 : decode cX0_sum 63 = .ok (.iload_n 3, 1) := by decide +kernel
theorem dX0_sum_64 : decode cX0_sum 64 = .ok (.invokestatic 105, 3) := by decide +kernel
theorem dX0_sum_67 : decode cX0_sum 67 = .ok (.iadd, 1) := by decide +kernel
theorem dX0_sum_68 : decode cX0_sum 68 = .ok (.iload 4, 2) := by decide +kernel
theorem dX0_sum_70 : decode cX0_sum 70 = .ok (.iadd, 1) := by decide +kernel
theorem dX0_sum_71 : decode cX0_sum 71 = .ok (.invokevirtual 136, 3) := by decide +kernel
theorem dX0_sum_74 : decode cX0_sum 74 = .ok (.aload_n 0, 1) := by decide +kernel
theorem dX0_sum_75 : decode cX0_sum 75 = .ok (.iload_n 1, 1) := by decide +kernel
theorem dX0_sum_76 : decode cX0_sum 76 = .ok (.iload 5, 2) := by decide +kernel
theorem dX0_sum_78 : decode cX0_sum 78 = .ok (.invokevirtual 139, 3) := by decide +kernel
theorem dX0_sum_81 : decode cX0_sum 81 = .ok (.ireturn, 1) := by decide +kernel
set_option maxRecDepth 20000 in
theorem ggX0_difference_X0_put : GoodIn wsX0_difference wsX0_put := goodIn_r _ [5, 6, 43] (by decide +kernel) (by decide +kernel)
set_option maxRecDepth 20000 in
theorem gX0_difference_X0_put : GoodIn wsX0_difference (wsV RX0 59 RX0 yX0_put wsX0_put) := goodIn_app (goodIn_of _ (by decide +kernel)) ggX0_difference_X0_put
set_option maxRecDepth 20000 in
theorem ggX0_difference_X0_signedValue : GoodIn wsX0_difference wsX0_signedValue := goodIn_r _ [9] (by decide +kernel) (by decide +kernel)
set_option maxRecDepth 20000 in
theorem gX0_difference_X0_signedValue : GoodIn wsX0_difference (va_wsS RX0 105 yX0_signedValue wsX0_signedValue) := goodIn_app (goodIn_of _ (by decide +kernel)) ggX0_difference_X0_signedValue
set_option maxRecDepth 20000 in
theorem ggX0_difference_X0_putOverflow : GoodIn wsX0_difference wsX0_putOverflow := goodIn_r _ [13, 7, 8, 4, 9, 1, 2, 3, 5, 6, 43] (by decide +kernel) (by decide +kernel)
set_option maxRecDepth 20000 in
theorem gX0_difference_X0_putOverflow : GoodIn wsX0_difference (wsV RX0 136 RX0 yX0_putOverflow wsX0_putOverflow) := goodIn_app (goodIn_of _ (by decide +kernel)) ggX0_difference_X0_putOverflow
set_option maxRecDepth 20000 in
theorem ggX0_difference_X0_kept : GoodIn wsX0_difference wsX0_kept := goodIn_r _ [17, 18, 19, 4, 20, 21, 22, 23, 24, 25, 26, 27, 28, 1, 2, 3, 5, 6, 29, 30, 31, 32, 33, 34, 35, 36, 37, 38, 39, 40, 41, 42, 43] (by decide +kernel) (by decide +kernel)
set_option maxRecDepth 20000 in
theorem gX0_difference_X0_kept : GoodIn wsX0_difference (wsV RX0 139 RX0 yX0_kept wsX0_kept) := goodIn_app (goodIn_of _ (by decide +kernel)) ggX0_difference_X0_kept
theorem dX0_difference_0 : decode cX0_difference 0 = .ok (.iload_n 2, 1) := by decide +kernel
theorem dX0_difference_1 : decode cX0_difference 1 = .ok (.iload_n 3, 1) := by decide +kernel
theorem dX0_difference_2 : decode cX0_difference 2 = .ok (.isub, 1) := by decide +kernel
theorem dX0_difference_3 : decode cX0_difference 3 = .ok (.iload 4, 2) := by decide +kernel
theorem dX0_difference_5 : decode cX0_difference 5 = .ok (.isub, 1) := by decide +kernel
theorem dX0_difference_6 : decode cX0_difference 6 = .ok (.istore 5, 2) := by decide +kernel
theorem dX0_difference_8 : decode cX0_difference 8 = .ok (.aload_n 0, 1) := by decide +kernel
theorem dX0_difference_9 : decode cX0_difference 9 = .ok (.iconst 1, 1) := by decide +kernel
theorem dX0_difference_10 : decode cX0_difference 10 = .ok (.iload 5, 2) := by decide +kernel
theorem dX0_difference_12 : decode cX0_difference 12 = .ok (.ifCond .ge 7, 3) := by decide +kernel
theorem dX0_difference_15 : decode cX0_difference 15 = .ok (.iconst 1, 1) := by decide +kernel
theorem dX0_difference_16 : decode cX0_difference 16 = .ok (.goto 4, 3) := by decide +kernel
theorem dX0_difference_19 : decode cX0_difference 19 = .ok (.iconst 0, 1) := by decide +kernel
theorem dX0_difference_20 : decode cX0_difference 20 = .ok (.invokevirtual 59, 3) := by decide +kernel
theorem dX0_difference_23 : decode cX0_difference 23 = .ok (.aload_n 0, 1) := by decide +kernel
theorem dX0_difference_24 : decode cX0_difference 24 = .ok (.bipush 16, 2) := by decide +kernel
theorem dX0_difference_26 : decode cX0_difference 26 = .ok (.iload_n 2, 1) := by decide +kernel
theorem dX0_difference_27 : decode cX0_difference 27 = .ok (.bipush 15, 2) := by decide +kernel
theorem dX0_difference_29 : decode cX0_difference 29 = .ok (.iand, 1) := by decide +kernel
theorem dX0_difference_30 : decode cX0_difference 30 = .ok (.iload_n 3, 1) := by decide +kernel
theorem dX0_difference_31 : decode cX0_difference 31 = .ok (.bipush 15, 2) := by decide +kernel
theorem dX0_difference_33 : decode cX0_difference 33 = .ok (.iand, 1) := by decide +kernel
theorem dX0_difference_34 : decode cX0_difference 34 = .ok (.isub, 1) := by decide +kernel
theorem dX0_difference_35 : decode cX0_difference 35 = .ok (.iload 4, 2) := by decide +kernel
theorem dX0_difference_37 : decode cX0_difference 37 = .ok (.isub, 1) := by decide +kernel
theorem dX0_difference_38 : decode cX0_difference 38 = .ok (.ifCond .ge 7, 3) := by decide +kernel
theorem dX0_difference_41 : decode cX0_difference 41 = .ok (.iconst 1, 1) := by decide +kernel
theorem dX0_difference_42 : decode cX0_difference 42 = .ok (.goto 4, 3) := by decide +kernel
theorem dX0_difference_45 : decode cX0_difference 45 = .ok (.iconst 0, 1) := by decide +kernel
theorem dX0_difference_46 : decode cX0_difference 46 = .ok (.invokevirtual 59, 3) := by decide +kernel
theorem dX0_difference_49 : decode cX0_difference 49 = .ok (.aload_n 0, 1) := by decide +kernel
theorem dX0_difference_50 : decode cX0_difference 50 = .ok (.iload_n 1, 1) := by decide +kernel
theorem dX0_difference_51 : decode cX0_difference 51 = .ok (.iload_n 1, 1) := by decide +kernel
theorem dX0_difference_52 : decode cX0_difference 52 = .ok (.iload_n 2, 1) := by decide +kernel
theorem dX0_difference_53 : decode cX0_difference 53 = .ok (.invokestatic 105, 3) := by decide +kernel
theorem dX0_difference_56 : decode cX0_difference 56 = .ok (.iload_n 1, 1) := by decide +kernel
theorem dX0_difference_57 : decode cX0_difference 57 = .ok (.iload_n 3, 1) := by decide +kernel
theorem dX0_difference_58 : decode cX0_difference 58 = .ok (.invokestatic 105, 3) := by decide +kernel
theorem dX0_difference_61 : decode cX0_difference 61 = .ok (.isub, 1) := by decide +kernel
theorem dX0_difference_62 : decode cX0_difference 62 = .ok (.iload 4, 2) := by decide +kernel
theorem dX0_difference_64 : decode cX0_difference 64 = .ok (.isub, 1) := by decide +kernel
theorem dX0_difference_65 : decode cX0_difference 65 = .ok (.invokevirtual 136, 3) := by decide +kernel
theorem dX0_difference_68 : decode cX0_difference 68 = .ok (.aload_n 0, 1) := by decide +kernel
theorem dX0_difference_69 : decode cX0_difference 69 = .ok (.iload_n 1, 1) := by decide +kernel
theorem dX0_difference_70 : decode cX0_difference 70 = .ok (.iload 5, 2) := by decide +kernel
theorem dX0_difference_72 : decode cX0_difference 72 = .ok (.invokevirtual 139, 3) := by decide +kernel
theorem dX0_difference_75 : decode cX0_difference 75 = .ok (.ireturn, 1) := by decide +kernel
set_option maxRecDepth 20000 in
theorem ggX0_logic_X0_put : GoodIn wsX0_logic wsX0_put := goodIn_r _ [5, 6, 36] (by decide +kernel) (by decide +kernel)
set_option maxRecDepth 20000 in
theorem gX0_logic_X0_put : GoodIn wsX0_logic (wsV RX0 59 RX0 yX0_put wsX0_put) := goodIn_app (goodIn_of _ (by decide +kernel)) ggX0_logic_X0_put
set_option maxRecDepth 20000 in
theorem ggX0_logic_X0_kept : GoodIn wsX0_logic wsX0_kept := goodIn_r _ [10, 11, 12, 4, 13, 14, 15, 16, 17, 18, 19, 20, 21, 1, 2, 3, 5, 6, 22, 23, 24, 25, 26, 27, 28, 29, 30, 31, 32, 33, 34, 35, 36] (by decide +kernel) (by decide +kernel)
set_option maxRecDepth 20000 in
theorem gX0_logic_X0_kept : GoodIn wsX0_logic (wsV RX0 139 RX0 yX0_kept wsX0_kept) := goodIn_app (goodIn_of _ (by decide +kernel)) ggX0_logic_X0_kept
theorem dX0_logic_0 : decode cX0_logic 0 = .ok (.aload_n 0, 1) := by decide +kernel
theorem dX0_logic_1 : decode cX0_logic 1 = .ok (.iconst 1, 1) := by decide +kernel
theorem dX0_logic_2 : decode cX0_logic 2 = .ok (.iconst 0, 1) := by decide +kernel
theorem dX0_logic_3 : decode cX0_logic 3 = .ok (.invokevirtual 59, 3) := by decide +kernel
theorem dX0_logic_6 : decode cX0_logic 6 = .ok (.aload_n 0, 1) := by decide +kernel
theorem dX0_logic_7 : decode cX0_logic 7 = .ok (.bipush 16, 2) := by decide +kernel
theorem dX0_logic_9 : decode cX0_logic 9 = .ok (.iconst 0, 1) := by decide +kernel
theorem dX0_logic_10 : decode cX0_logic 10 = .ok (.invokevirtual 59, 3) := by decide +kernel
theorem dX0_logic_13 : decode cX0_logic 13 = .ok (.aload_n 0, 1) := by decide +kernel
theorem dX0_logic_14 : decode cX0_logic 14 = .ok (.sipush 2048, 3) := by decide +kernel
theorem dX0_logic_17 : decode cX0_logic 17 = .ok (.iconst 0, 1) := by decide +kernel
theorem dX0_logic_18 : decode cX0_logic 18 = .ok (.invokevirtual 59, 3) := by decide +kernel
theorem dX0_logic_21 : decode cX0_logic 21 = .ok (.aload_n 0, 1) := by decide +kernel
theorem dX0_logic_22 : decode cX0_logic 22 = .ok (.iload_n 1, 1) := by decide +kernel
theorem dX0_logic_23 : decode cX0_logic 23 = .ok (.iload_n 2, 1) := by decide +kernel
theorem dX0_logic_24 : decode cX0_logic 24 = .ok (.invokevirtual 139, 3) := by decide +kernel
theorem dX0_logic_27 : decode cX0_logic 27 = .ok (.ireturn, 1) := by decide +kernel
set_option maxRecDepth 20000 in
theorem ggX0_oneMore_X0_isSet : GoodIn wsX0_oneMore wsX0_isSet := goodIn_r _ [5, 6, 51] (by decide +kernel) (by decide +kernel)
set_option maxRecDepth 20000 in
theorem gX0_oneMore_X0_isSet : GoodIn wsX0_oneMore (wsV RX0 108 RX0 yX0_isSet wsX0_isSet) := goodIn_app (goodIn_of _ (by decide +kernel)) ggX0_oneMore_X0_isSet
set_option maxRecDepth 20000 in
theorem ggX0_oneMore_X0_sum : GoodIn wsX0_oneMore wsX0_sum := goodIn_r _ [10, 11, 12, 4, 13, 14, 15, 16, 17, 18, 6, 19, 20, 21, 22, 23, 24, 25, 26, 27, 28, 29, 30, 31, 32, 33, 34, 35, 36, 37, 38, 39, 40, 41, 42, 43, 44, 45, 46, 47, 48, 49, 50, 51] (by decide +kernel) (by decide +kernel)
set_option maxRecDepth 20000 in
theorem gX0_oneMore_X0_sum : GoodIn wsX0_oneMore (wsV RX0 17 RX0 yX0_sum wsX0_sum) := goodIn_app (goodIn_of _ (by decide +kernel)) ggX0_oneMore_X0_sum
set_option maxRecDepth 20000 in
theorem ggX0_oneMore_X0_put : GoodIn wsX0_oneMore wsX0_put := goodIn_r _ [18, 6, 51] (by decide +kernel) (by decide +kernel)
set_option maxRecDepth 20000 in
theorem gX0_oneMore_X0_put : GoodIn wsX0_oneMore (wsV RX0 59 RX0 yX0_put wsX0_put) := goodIn_app (goodIn_of _ (by decide +kernel)) ggX0_oneMore_X0_put
theorem dX0_oneMore_0 : decode cX0_oneMore 0 = .ok (.aload_n 0, 1) := by decide +kernel
theorem dX0_oneMore_1 : decode cX0_oneMore 1 = .ok (.iconst 1, 1) := by decide +kernel
theorem dX0_oneMore_2 : decode cX0_oneMore 2 = .ok (.invokevirtual 108, 3) := by decide +kernel
theorem dX0_oneMore_5 : decode cX0_oneMore 5 = .ok (.istore_n 3, 1) := by decide +kernel
theorem dX0_oneMore_6 : decode cX0_oneMore 6 = .ok (.aload_n 0, 1) := by decide +kernel
theorem dX0_oneMore_7 : decode cX0_oneMore 7 = .ok (.iload_n 1, 1) := by decide +kernel
theorem dX0_oneMore_8 : decode cX0_oneMore 8 = .ok (.iload_n 2, 1) := by decide +kernel
theorem dX0_oneMore_9 : decode cX0_oneMore 9 = .ok (.iconst 1, 1) := by decide +kernel
theorem dX0_oneMore_10 : decode cX0_oneMore 10 = .ok (.iconst 0, 1) := by decide +kernel
theorem dX0_oneMore_11 : decode cX0_oneMore 11 = .ok (.invokevirtual 17, 3) := by decide +kernel
theorem dX0_oneMore_14 : decode cX0_oneMore 14 = .ok (.istore 4, 2) := by decide +kernel
theorem dX0_oneMore_16 : decode cX0_oneMore 16 = .ok (.aload_n 0, 1) := by decide +kernel
theorem dX0_oneMore_17 : decode cX0_oneMore 17 = .ok (.iconst 1, 1) := by decide +kernel
theorem dX0_oneMore_18 : decode cX0_oneMore 18 = .ok (.iload_n 3, 1) := by decide +kernel
theorem dX0_oneMore_19 : decode cX0_oneMore 19 = .ok (.invokevirtual 59, 3) := by decide +kernel
theorem dX0_oneMore_22 : decode cX0_oneMore 22 = .ok (.iload 4, 2) := by decide +kernel
theorem dX0_oneMore_24 : decode cX0_oneMore 24 = .ok (.ireturn, 1) := by decide +kernel
set_option maxRecDepth 20000 in
theorem ggX0_oneLess_X0_isSet : GoodIn wsX0_oneLess wsX0_isSet := goodIn_r _ [5, 6, 51] (by decide +kernel) (by decide +kernel)
set_option maxRecDepth 20000 in
theorem gX0_oneLess_X0_isSet : GoodIn wsX0_oneLess (wsV RX0 108 RX0 yX0_isSet wsX0_isSet) := goodIn_app (goodIn_of _ (by decide +kernel)) ggX0_oneLess_X0_isSet
set_option maxRecDepth 20000 in
theorem ggX0_oneLess_X0_difference : GoodIn wsX0_oneLess wsX0_difference := goodIn_r _ [10, 11, 12, 13, 4, 14, 6, 15, 16, 17, 18, 19, 20, 21, 22, 23, 24, 25, 26, 27, 28, 29, 30, 31, 32, 33, 34, 35, 36, 37, 38, 39, 40, 41, 42, 43, 44, 45, 46, 47, 48, 49, 50, 51] (by decide +kernel) (by decide +kernel)
set_option maxRecDepth 20000 in
theorem gX0_oneLess_X0_difference : GoodIn wsX0_oneLess (wsV RX0 24 RX0 yX0_difference wsX0_difference) := goodIn_app (goodIn_of _ (by decide +kernel)) ggX0_oneLess_X0_difference
set_option maxRecDepth 20000 in
theorem ggX0_oneLess_X0_put : GoodIn wsX0_oneLess wsX0_put := goodIn_r _ [14, 6, 51] (by decide +kernel) (by decide +kernel)
set_option maxRecDepth 20000 in
theorem gX0_oneLess_X0_put : GoodIn wsX0_oneLess (wsV RX0 59 RX0 yX0_put wsX0_put) := goodIn_app (goodIn_of _ (by decide +kernel)) ggX0_oneLess_X0_put
theorem dX0_oneLess_0 : decode cX0_oneLess 0 = .ok (.aload_n 0, 1) := by decide +kernel
theorem dX0_oneLess_1 : decode cX0_oneLess 1 = .ok (.iconst 1, 1) := by decide +kernel
theorem dX0_oneLess_2 : decode cX0_oneLess 2 = .ok (.invokevirtual 108, 3) := by decide +kernel
theorem dX0_oneLess_5 : decode cX0_oneLess 5 = .ok (.istore_n 3, 1) := by decide +kernel
theorem dX0_oneLess_6 : decode cX0_oneLess 6 = .ok (.aload_n 0, 1) := by decide +kernel
theorem dX0_oneLess_7 : decode cX0_oneLess 7 = .ok (.iload_n 1, 1) := by decide +kernel
theorem dX0_oneLess_8 : decode cX0_oneLess 8 = .ok (.iload_n 2, 1) := by decide +kernel
theorem dX0_oneLess_9 : decode cX0_oneLess 9 = .ok (.iconst 1, 1) := by decide +kernel
theorem dX0_oneLess_10 : decode cX0_oneLess 10 = .ok (.iconst 0, 1) := by decide +kernel
theorem dX0_oneLess_11 : decode cX0_oneLess 11 = .ok (.invokevirtual 24, 3) := by decide +kernel
theorem dX0_oneLess_14 : decode cX0_oneLess 14 = .ok (.istore 4, 2) := by decide +kernel
theorem dX0_oneLess_16 : decode cX0_oneLess 16 = .ok (.aload_n 0, 1) := by decide +kernel
theorem dX0_oneLess_17 : decode cX0_oneLess 17 = .ok (.iconst 1, 1) := by decide +kernel
theorem dX0_oneLess_18 : decode cX0_oneLess 18 = .ok (.iload_n 3, 1) := by decide +kernel
theorem dX0_oneLess_19 : decode cX0_oneLess 19 = .ok (.invokevirtual 59, 3) := by decide +kernel
theorem dX0_oneLess_22 : decode cX0_oneLess 22 = .ok (.iload 4, 2) := by decide +kernel
theorem dX0_oneLess_24 : decode cX0_oneLess 24 = .ok (.ireturn, 1) := by decide +kernel
set_option maxRecDepth 20000 in
theorem ggX0_putOverflow_X0_signedValue : GoodIn wsX0_putOverflow wsX0_signedValue := goodIn_r _ [4] (by decide +kernel) (by decide +kernel)
set_option maxRecDepth 20000 in
theorem gX0_putOverflow_X0_signedValue : GoodIn wsX0_putOverflow (va_wsS RX0 105 yX0_signedValue wsX0_signedValue) := goodIn_app (goodIn_of _ (by decide +kernel)) ggX0_putOverflow_X0_signedValue
set_option maxRecDepth 20000 in
theorem ggX0_putOverflow_X0_put : GoodIn wsX0_putOverflow wsX0_put := goodIn_r _ [8, 9, 10] (by decide +kernel) (by decide +kernel)
set_option maxRecDepth 20000 in
theorem gX0_putOverflow_X0_put : GoodIn wsX0_putOverflow (wsV RX0 59 RX0 yX0_put wsX0_put) := goodIn_app (goodIn_of _ (by decide +kernel)) ggX0_putOverflow_X0_put
theorem dX0_putOverflow_0 : decode cX0_putOverflow 0 = .ok (.aload_n 0, 1) := by decide +kernel
theorem dX0_putOverflow_1 : decode cX0_putOverflow 1 = .ok (.sipush 2048, 3) := by decide +kernel
theorem dX0_putOverflow_4 : decode cX0_putOverflow 4 = .ok (.iload_n 2, 1) := by decide +kernel
theorem dX0_putOverflow_5 : decode cX0_putOverflow 5 = .ok (.iload_n 1, 1) := by decide +kernel
theorem dX0_putOverflow_6 : decode cX0_putOverflow 6 = .ok (.iload_n 2, 1) := by decide +kernel
theorem dX0_putOverflow_7 : decode cX0_putOverflow 7 = .ok (.invokestatic 105, 3) := by decide +kernel
theorem dX0_putOverflow_10 : decode cX0_putOverflow 10 = .ok (.if_icmp .eq 7, 3) := by decide +kernel
theorem dX0_putOverflow_13 : decode cX0_putOverflow 13 = .ok (.iconst 1, 1) := by decide +kernel
theorem dX0_putOverflow_14 : decode cX0_putOverflow 14 = .ok (.goto 4, 3) := by decide +kernel
theorem dX0_putOverflow_17 : decode cX0_putOverflow 17 = .ok (.iconst 0, 1) := by decide +kernel
theorem dX0_putOverflow_18 : decode cX0_putOverflow 18 = .ok (.invokevirtual 59, 3) := by decide +kernel
theorem dX0_putOverflow_21 : decode cX0_putOverflow 21 = .ok (.return_, 1) := by decide +kernel
set_option maxRecDepth 20000 in
theorem ggX0_kept_X0_operand : GoodIn wsX0_kept wsX0_operand := goodIn_r _ [4, 5, 6, 3, 7, 8] (by decide +kernel) (by decide +kernel)
set_option maxRecDepth 20000 in
theorem gX0_kept_X0_operand : GoodIn wsX0_kept (va_wsS RX0 13 yX0_operand wsX0_operand) := goodIn_app (goodIn_of _ (by decide +kernel)) ggX0_kept_X0_operand
set_option maxRecDepth 20000 in
theorem ggX0_kept_X0_goByAnswer : GoodIn wsX0_kept wsX0_goByAnswer := goodIn_r _ [12, 13, 14, 15, 3, 16, 17, 18, 19, 20, 21, 22, 23, 24, 25, 26, 27, 28, 29, 30, 31, 32] (by decide +kernel) (by decide +kernel)
set_option maxRecDepth 20000 in
theorem gX0_kept_X0_goByAnswer : GoodIn wsX0_kept (wsV RX0 51 RX0 yX0_goByAnswer wsX0_goByAnswer) := goodIn_app (goodIn_of _ (by decide +kernel)) ggX0_kept_X0_goByAnswer
theorem dX0_kept_0 : decode cX0_kept 0 = .ok (.iload_n 1, 1) := by decide +kernel
theorem dX0_kept_1 : decode cX0_kept 1 = .ok (.iload_n 2, 1) := by decide +kernel
theorem dX0_kept_2 : decode cX0_kept 2 = .ok (.invokestatic 13, 3) := by decide +kernel
theorem dX0_kept_5 : decode cX0_kept 5 = .ok (.istore_n 3, 1) := by decide +kernel
theorem dX0_kept_6 : decode cX0_kept 6 = .ok (.aload_n 0, 1) := by decide +kernel
theorem dX0_kept_7 : decode cX0_kept 7 = .ok (.iload_n 1, 1) := by decide +kernel
theorem dX0_kept_8 : decode cX0_kept 8 = .ok (.iload_n 3, 1) := by decide +kernel
theorem dX0_kept_9 : decode cX0_kept 9 = .ok (.invokevirtual 51, 3) := by decide +kernel
theorem dX0_kept_12 : decode cX0_kept 12 = .ok (.iload_n 3, 1) := by decide +kernel
theorem dX0_kept_13 : decode cX0_kept 13 = .ok (.ireturn, 1) := by decide +kernel
set_option maxRecDepth 20000 in
theorem ggX0_leftByOne_X0_hasHighestBit : GoodIn wsX0_leftByOne wsX0_hasHighestBit := goodIn_r _ [4, 5, 6, 3, 7, 8] (by decide +kernel) (by decide +kernel)
set_option maxRecDepth 20000 in
theorem gX0_leftByOne_X0_hasHighestBit : GoodIn wsX0_leftByOne (va_wsS RX0 118 yX0_hasHighestBit wsX0_hasHighestBit) := goodIn_app (goodIn_of _ (by decide +kernel)) ggX0_leftByOne_X0_hasHighestBit
set_option maxRecDepth 20000 in
theorem ggX0_leftByOne_X0_isSet : GoodIn wsX0_leftByOne wsX0_isSet := goodIn_r _ [12, 13, 25] (by decide +kernel) (by decide +kernel)
set_option maxRecDepth 20000 in
theorem gX0_leftByOne_X0_isSet : GoodIn wsX0_leftByOne (wsV RX0 108 RX0 yX0_isSet wsX0_isSet) := goodIn_app (goodIn_of _ (by decide +kernel)) ggX0_leftByOne_X0_isSet
set_option maxRecDepth 20000 in
theorem ggX0_leftByOne_X0_operand : GoodIn wsX0_leftByOne wsX0_operand := goodIn_r _ [16, 17, 18, 3, 19, 20] (by decide +kernel) (by decide +kernel)
set_option maxRecDepth 20000 in
theorem gX0_leftByOne_X0_operand : GoodIn wsX0_leftByOne (va_wsS RX0 13 yX0_operand wsX0_operand) := goodIn_app (goodIn_of _ (by decide +kernel)) ggX0_leftByOne_X0_operand
set_option maxRecDepth 20000 in
theorem ggX0_leftByOne_X0_put : GoodIn wsX0_leftByOne wsX0_put := goodIn_r _ [24, 13, 25] (by decide +kernel) (by decide +kernel)
set_option maxRecDepth 20000 in
theorem gX0_leftByOne_X0_put : GoodIn wsX0_leftByOne (wsV RX0 59 RX0 yX0_put wsX0_put) := goodIn_app (goodIn_of _ (by decide +kernel)) ggX0_leftByOne_X0_put
theorem dX0_leftByOne_0 : decode cX0_leftByOne 0 = .ok (.iload_n 2, 1) := by decide +kernel
theorem dX0_leftByOne_1 : decode cX0_leftByOne 1 = .ok (.iload_n 3, 1) := by decide +kernel
theorem dX0_leftByOne_2 : decode cX0_leftByOne 2 = .ok (.invokestatic 118, 3) := by decide +kernel
theorem dX0_leftByOne_5 : decode cX0_leftByOne 5 = .ok (.istore 4, 2) := by decide +kernel
theorem dX0_leftByOne_7 : decode cX0_leftByOne 7 = .ok (.iload_n 1, 1) := by decide +kernel
theorem dX0_leftByOne_8 : decode cX0_leftByOne 8 = .ok (.ifCond .ne 8, 3) := by decide +kernel
theorem dX0_leftByOne_11 : decode cX0_leftByOne 11 = .ok (.iload 4, 2) := by decide +kernel
theorem dX0_leftByOne_13 : decode cX0_leftByOne 13 = .ok (.ifCond .ne 16, 3) := by decide +kernel
theorem dX0_leftByOne_16 : decode cX0_leftByOne 16 = .ok (.iload_n 1, 1) := by decide +kernel
theorem dX0_leftByOne_17 : decode cX0_leftByOne 17 = .ok (.iconst 2, 1) := by decide +kernel
theorem dX0_leftByOne_18 : decode cX0_leftByOne 18 = .ok (.if_icmp .ne 15, 3) := by decide +kernel
theorem dX0_leftByOne_21 : decode cX0_leftByOne 21 = .ok (.aload_n 0, 1) := by decide +kernel
theorem dX0_leftByOne_22 : decode cX0_leftByOne 22 = .ok (.iconst 1, 1) := by decide +kernel
theorem dX0_leftByOne_23 : decode cX0_leftByOne 23 = .ok (.invokevirtual 108, 3) := by decide +kernel
theorem dX0_leftByOne_26 : decode cX0_leftByOne 26 = .ok (.ifCond .eq 7, 3) := by decide +kernel
theorem dX0_leftByOne_29 : decode cX0_leftByOne 29 = .ok (.iconst 1, 1) := by decide +kernel
theorem dX0_leftByOne_30 : decode cX0_leftByOne 30 = .ok (.goto 4, 3) := by decide +kernel
theorem dX0_leftByOne_33 : decode cX0_leftByOne 33 = .ok (.iconst 0, 1) := by decide +kernel
theorem dX0_leftByOne_34 : decode cX0_leftByOne 34 = .ok (.istore 5, 2) := by decide +kernel
theorem dX0_leftByOne_36 : decode cX0_leftByOne 36 = .ok (.iload_n 2, 1) := by decide +kernel
theorem dX0_leftByOne_37 : decode cX0_leftByOne 37 = .ok (.iload_n 3, 1) := by decide +kernel
theorem dX0_leftByOne_38 : decode cX0_leftByOne 38 = .ok (.iconst 1, 1) := by decide +kernel
theorem dX0_leftByOne_39 : decode cX0_leftByOne 39 = .ok (.ishl, 1) := by decide +kernel
theorem dX0_leftByOne_40 : decode cX0_leftByOne 40 = .ok (.invokestatic 13, 3) := by decide +kernel
theorem dX0_leftByOne_43 : decode cX0_leftByOne 43 = .ok (.iload 5, 2) := by decide +kernel
theorem dX0_leftByOne_45 : decode cX0_leftByOne 45 = .ok (.ifCond .eq 7, 3) := by decide +kernel
theorem dX0_leftByOne_48 : decode cX0_leftByOne 48 = .ok (.iconst 1, 1) := by decide +kernel
theorem dX0_leftByOne_49 : decode cX0_leftByOne 49 = .ok (.goto 4, 3) := by decide +kernel
theorem dX0_leftByOne_52 : decode cX0_leftByOne 52 = .ok (.iconst 0, 1) := by decide +kernel
theorem dX0_leftByOne_53 : decode cX0_leftByOne 53 = .ok (.ior, 1) := by decide +kernel
theorem dX0_leftByOne_54 : decode cX0_leftByOne 54 = .ok (.istore 6, 2) := by decide +kernel
theorem dX0_leftByOne_56 : decode cX0_leftByOne 56 = .ok (.aload_n 0, 1) := by decide +kernel
theorem dX0_leftByOne_57 : decode cX0_leftByOne 57 = .ok (.iconst 1, 1) := by decide +kernel
theorem dX0_leftByOne_58 : decode cX0_leftByOne 58 = .ok (.iload 4, 2) := by decide +kernel
theorem dX0_leftByOne_60 : decode cX0_leftByOne 60 = .ok (.invokevirtual 59, 3) := by decide +kernel
theorem dX0_leftByOne_63 : decode cX0_leftByOne 63 = .ok (.aload_n 0, 1) := by decide +kernel
theorem dX0_leftByOne_64 : decode cX0_leftByOne 64 = .ok (.sipush 2048, 3) := by decide +kernel
theorem dX0_leftByOne_67 : decode cX0_leftByOne 67 = .ok (.iload 4, 2) := by decide +kernel
theorem dX0_leftByOne_69 : decode cX0_leftByOne 69 = .ok (.iload_n 2, 1) := by decide +kernel
theorem dX0_leftByOne_70 : decode cX0_leftByOne 70 = .ok (.iload 6, 2) := by decide +kernel
theorem dX0_leftByOne_72 : decode cX0_leftByOne 72 = .ok (.invokestatic 118, 3) := by decide +kernel
theorem dX0_leftByOne_75 : decode cX0_leftByOne 75 = .ok (.if_icmp .eq 7, 3) := by decide +kernel
theorem dX0_leftByOne_78 : decode cX0_leftByOne 78 = .ok (.iconst 1, 1) := by decide +kernel
theorem dX0_leftByOne_79 : decode cX0_leftByOne 79 = .ok (.goto 4, 3) := by decide +kernel
theorem dX0_leftByOne_82 : decode cX0_leftByOne 82 = .ok (.iconst 0, 1) := by decide +kernel
theorem dX0_leftByOne_83 : decode cX0_leftByOne 83 = .ok (.invokevirtual 59, 3) := by decide +kernel
theorem dX0_leftByOne_86 : decode cX0_leftByOne 86 = .ok (.iload 6, 2) := by decide +kernel
theorem dX0_leftByOne_88 : decode cX0_leftByOne 88 = .ok (.ireturn, 1) := by decide +kernel
set_option maxRecDepth 20000 in
theorem ggX0_rightByOne_X0_hasHighestBit : GoodIn wsX0_rightByOne wsX0_hasHighestBit := goodIn_r _ [4, 5, 6, 3, 7, 8] (by decide +kernel) (by decide +kernel)
set_option maxRecDepth 20000 in
theorem gX0_rightByOne_X0_hasHighestBit : GoodIn wsX0_rightByOne (va_wsS RX0 118 yX0_hasHighestBit wsX0_hasHighestBit) := goodIn_app (goodIn_of _ (by decide +kernel)) ggX0_rightByOne_X0_hasHighestBit
set_option maxRecDepth 20000 in
theorem ggX0_rightByOne_X0_comesInFromLeft : GoodIn wsX0_rightByOne wsX0_comesInFromLeft := goodIn_r _ [12, 13, 14, 15, 3, 16, 17, 22] (by decide +kernel) (by decide +kernel)
set_option maxRecDepth 20000 in
theorem gX0_rightByOne_X0_comesInFromLeft : GoodIn wsX0_rightByOne (wsV RX0 142 RX0 yX0_comesInFromLeft wsX0_comesInFromLeft) := goodIn_app (goodIn_of _ (by decide +kernel)) ggX0_rightByOne_X0_comesInFromLeft
set_option maxRecDepth 20000 in
theorem ggX0_rightByOne_X0_put : GoodIn wsX0_rightByOne wsX0_put := goodIn_r _ [21, 17, 22] (by decide +kernel) (by decide +kernel)
set_option maxRecDepth 20000 in
theorem gX0_rightByOne_X0_put : GoodIn wsX0_rightByOne (wsV RX0 59 RX0 yX0_put wsX0_put) := goodIn_app (goodIn_of _ (by decide +kernel)) ggX0_rightByOne_X0_put
set_option maxRecDepth 20000 in
theorem ggX0_rightByOne_X0_highestBit : GoodIn wsX0_rightByOne wsX0_highestBit := goodIn_r _ [7, 8] (by decide +kernel) (by decide +kernel)
set_option maxRecDepth 20000 in
theorem gX0_rightByOne_X0_highestBit : GoodIn wsX0_rightByOne (va_wsS RX0 128 yX0_highestBit wsX0_highestBit) := goodIn_app (goodIn_of _ (by decide +kernel)) ggX0_rightByOne_X0_highestBit
theorem dX0_rightByOne_0 : decode cX0_rightByOne 0 = .ok (.iload_n 3, 1) := by decide +kernel
theorem dX0_rightByOne_1 : decode cX0_rightByOne 1 = .ok (.iconst 1, 1) := by decide +kernel
theorem dX0_rightByOne_2 : decode cX0_rightByOne 2 = .ok (.iand, 1) := by decide +kernel
theorem dX0_rightByOne_3 : decode cX0_rightByOne 3 = .ok (.ifCond .eq 7, 3) := by decide +kernel
theorem dX0_rightByOne_6 : decode cX0_rightByOne 6 = .ok (.iconst 1, 1) := by decide +kernel
theorem dX0_rightByOne_7 : decode cX0_rightByOne 7 = .ok (.goto 4, 3) := by decide +kernel
theorem dX0_rightByOne_10 : decode cX0_rightByOne 10 = .ok (.iconst 0, 1) := by decide +kernel
theorem dX0_rightByOne_11 : decode cX0_rightByOne 11 = .ok (.istore 4, 2) := by decide +kernel
theorem dX0_rightByOne_13 : decode cX0_rightByOne 13 = .ok (.iload_n 2, 1) := by decide +kernel
theorem dX0_rightByOne_14 : decode cX0_rightByOne 14 = .ok (.iload_n 3, 1) := by decide +kernel
theorem dX0_rightByOne_15 : decode cX0_rightByOne 15 = .ok (.invokestatic 118, 3) := by decide +kernel
theorem dX0_rightByOne_18 : decode cX0_rightByOne 18 = .ok (.istore 5, 2) := by decide +kernel
theorem dX0_rightByOne_20 : decode cX0_rightByOne 20 = .ok (.aload_n 0, 1) := by decide +kernel
theorem dX0_rightByOne_21 : decode cX0_rightByOne 21 = .ok (.iload_n 1, 1) := by decide +kernel
theorem dX0_rightByOne_22 : decode cX0_rightByOne 22 = .ok (.iload 4, 2) := by decide +kernel
theorem dX0_rightByOne_24 : decode cX0_rightByOne 24 = .ok (.iload 5, 2) := by decide +kernel
theorem dX0_rightByOne_26 : decode cX0_rightByOne 26 = .ok (.invokevirtual 142, 3) := by decide +kernel
theorem dX0_rightByOne_29 : decode cX0_rightByOne 29 = .ok (.istore 6, 2) := by decide +kernel
theorem dX0_rightByOne_31 : decode cX0_rightByOne 31 = .ok (.aload_n 0, 1) := by decide +kernel
theorem dX0_rightByOne_32 : decode cX0_rightByOne 32 = .ok (.iconst 1, 1) := by decide +kernel
theorem dX0_rightByOne_33 : decode cX0_rightByOne 33 = .ok (.iload 4, 2) := by decide +kernel
theorem dX0_rightByOne_35 : decode cX0_rightByOne 35 = .ok (.invokevirtual 59, 3) := by decide +kernel
theorem dX0_rightByOne_38 : decode cX0_rightByOne 38 = .ok (.aload_n 0, 1) := by decide +kernel
theorem dX0_rightByOne_39 : decode cX0_rightByOne 39 = .ok (.sipush 2048, 3) := by decide +kernel
theorem dX0_rightByOne_42 : decode cX0_rightByOne 42 = .ok (.iload 6, 2) := by decide +kernel
theorem dX0_rightByOne_44 : decode cX0_rightByOne 44 = .ok (.iload 5, 2) := by decide +kernel
theorem dX0_rightByOne_46 : decode cX0_rightByOne 46 = .ok (.if_icmp .eq 7, 3) := by decide +kernel
theorem dX0_rightByOne_49 : decode cX0_rightByOne 49 = .ok (.iconst 1, 1) := by decide +kernel
theorem dX0_rightByOne_50 : decode cX0_rightByOne 50 = .ok (.goto 4, 3) := by decide +kernel
theorem dX0_rightByOne_53 : decode cX0_rightByOne 53 = .ok (.iconst 0, 1) := by decide +kernel
theorem dX0_rightByOne_54 : decode cX0_rightByOne 54 = .ok (.invokevirtual 59, 3) := by decide +kernel
theorem dX0_rightByOne_57 : decode cX0_rightByOne 57 = .ok (.iload_n 3, 1) := by decide +kernel
theorem dX0_rightByOne_58 : decode cX0_rightByOne 58 = .ok (.iconst 1, 1) := by decide +kernel
theorem dX0_rightByOne_59 : decode cX0_rightByOne 59 = .ok (.ishr, 1) := by decide +kernel
theorem dX0_rightByOne_60 : decode cX0_rightByOne 60 = .ok (.iload 6, 2) := by decide +kernel
theorem dX0_rightByOne_62 : decode cX0_rightByOne 62 = .ok (.ifCond .eq 10, 3) := by decide +kernel
theorem dX0_rightByOne_65 : decode cX0_rightByOne 65 = .ok (.iload_n 2, 1) := by decide +kernel
theorem dX0_rightByOne_66 : decode cX0_rightByOne 66 = .ok (.invokestatic 128, 3) := by decide +kernel
theorem dX0_rightByOne_69 : decode cX0_rightByOne 69 = .ok (.goto 4, 3) := by decide +kernel
theorem dX0_rightByOne_72 : decode cX0_rightByOne 72 = .ok (.iconst 0, 1) := by decide +kernel
theorem dX0_rightByOne_73 : decode cX0_rightByOne 73 = .ok (.ior, 1) := by decide +kernel
theorem dX0_rightByOne_74 : decode cX0_rightByOne 74 = .ok (.ireturn, 1) := by decide +kernel
set_option maxRecDepth 20000 in
theorem ggX0_comesInFromLeft_X0_isSet : GoodIn wsX0_comesInFromLeft wsX0_isSet := goodIn_r _ [5, 6, 7] (by decide +kernel) (by decide +kernel)
set_option maxRecDepth 20000 in
theorem gX0_comesInFromLeft_X0_isSet : GoodIn wsX0_comesInFromLeft (wsV RX0 108 RX0 yX0_isSet wsX0_isSet) := goodIn_app (goodIn_of _ (by decide +kernel)) ggX0_comesInFromLeft_X0_isSet
theorem dX0_comesInFromLeft_0 : decode cX0_comesInFromLeft 0 = .ok (.iload_n 1, 1) := by decide +kernel
theorem dX0_comesInFromLeft_1 : decode cX0_comesInFromLeft 1 = .ok (.lookupswitch 45 #[(1, 35), (3, 37), (7, 43)], 35) := by decide +kernel
theorem dX0_comesInFromLeft_36 : decode cX0_comesInFromLeft 36 = .ok (.iload_n 2, 1) := by decide +kernel
theorem dX0_comesInFromLeft_37 : decode cX0_comesInFromLeft 37 = .ok (.ireturn, 1) := by decide +kernel
theorem dX0_comesInFromLeft_38 : decode cX0_comesInFromLeft 38 = .ok (.aload_n 0, 1) := by decide +kernel
theorem dX0_comesInFromLeft_39 : decode cX0_comesInFromLeft 39 = .ok (.iconst 1, 1) := by decide +kernel
theorem dX0_comesInFromLeft_40 : decode cX0_comesInFromLeft 40 = .ok (.invokevirtual 108, 3) := by decide +kernel
theorem dX0_comesInFromLeft_43 : decode cX0_comesInFromLeft 43 = .ok (.ireturn, 1) := by decide +kernel
theorem dX0_comesInFromLeft_44 : decode cX0_comesInFromLeft 44 = .ok (.iload_n 3, 1) := by decide +kernel
theorem dX0_comesInFromLeft_45 : decode cX0_comesInFromLeft 45 = .ok (.ireturn, 1) := by decide +kernel
theorem dX0_comesInFromLeft_46 : decode cX0_comesInFromLeft 46 = .ok (.iconst 0, 1) := by decide +kernel
theorem dX0_comesInFromLeft_47 : decode cX0_comesInFromLeft 47 = .ok (.ireturn, 1) := by decide +kernel
set_option maxRecDepth 20000 in
theorem ggX0_isQuotient_X0_mask : GoodIn wsX0_isQuotient wsX0_mask := goodIn_r _ [4, 5] (by decide +kernel) (by decide +kernel)
set_option maxRecDepth 20000 in
theorem gX0_isQuotient_X0_mask : GoodIn wsX0_isQuotient (va_wsS RX0 131 yX0_mask wsX0_mask) := goodIn_app (goodIn_of _ (by decide +kernel)) ggX0_isQuotient_X0_mask
theorem dX0_isQuotient_0 : decode cX0_isQuotient 0 = .ok (.iload_n 1, 1) := by decide +kernel
theorem dX0_isQuotient_1 : decode cX0_isQuotient 1 = .ok (.ifCond .eq 12, 3) := by decide +kernel
theorem dX0_isQuotient_4 : decode cX0_isQuotient 4 = .ok (.iload_n 0, 1) := by decide +kernel
theorem dX0_isQuotient_5 : decode cX0_isQuotient 5 = .ok (.invokestatic 131, 3) := by decide +kernel
theorem dX0_isQuotient_8 : decode cX0_isQuotient 8 = .ok (.iconst 1, 1) := by decide +kernel
theorem dX0_isQuotient_9 : decode cX0_isQuotient 9 = .ok (.ishr, 1) := by decide +kernel
theorem dX0_isQuotient_10 : decode cX0_isQuotient 10 = .ok (.goto 7, 3) := by decide +kernel
theorem dX0_isQuotient_13 : decode cX0_isQuotient 13 = .ok (.iload_n 0, 1) := by decide +kernel
theorem dX0_isQuotient_14 : decode cX0_isQuotient 14 = .ok (.invokestatic 131, 3) := by decide +kernel
theorem dX0_isQuotient_17 : decode cX0_isQuotient 17 = .ok (.istore 4, 2) := by decide +kernel
theorem dX0_isQuotient_19 : decode cX0_isQuotient 19 = .ok (.iload_n 1, 1) := by decide +kernel
theorem dX0_isQuotient_20 : decode cX0_isQuotient 20 = .ok (.ifCond .eq 9, 3) := by decide +kernel
theorem dX0_isQuotient_23 : decode cX0_isQuotient 23 = .ok (.iload 4, 2) := by decide +kernel
theorem dX0_isQuotient_25 : decode cX0_isQuotient 25 = .ok (.ineg, 1) := by decide +kernel
theorem dX0_isQuotient_26 : decode cX0_isQuotient 26 = .ok (.goto 4, 3) := by decide +kernel
theorem dX0_isQuotient_29 : decode cX0_isQuotient 29 = .ok (.iconst 0, 1) := by decide +kernel
theorem dX0_isQuotient_30 : decode cX0_isQuotient 30 = .ok (.istore 5, 2) := by decide +kernel
theorem dX0_isQuotient_32 : decode cX0_isQuotient 32 = .ok (.lload_n 2, 1) := by decide +kernel
theorem dX0_isQuotient_33 : decode cX0_isQuotient 33 = .ok (.iload 5, 2) := by decide +kernel
theorem dX0_isQuotient_35 : decode cX0_isQuotient 35 = .ok (.i2l, 1) := by decide +kernel
theorem dX0_isQuotient_36 : decode cX0_isQuotient 36 = .ok (.lcmp, 1) := by decide +kernel
theorem dX0_isQuotient_37 : decode cX0_isQuotient 37 = .ok (.ifCond .lt 15, 3) := by decide +kernel
theorem dX0_isQuotient_40 : decode cX0_isQuotient 40 = .ok (.lload_n 2, 1) := by decide +kernel
theorem dX0_isQuotient_41 : decode cX0_isQuotient 41 = .ok (.iload 4, 2) := by decide +kernel
theorem dX0_isQuotient_43 : decode cX0_isQuotient 43 = .ok (.i2l, 1) := by decide +kernel
theorem dX0_isQuotient_44 : decode cX0_isQuotient 44 = .ok (.lcmp, 1) := by decide +kernel
theorem dX0_isQuotient_45 : decode cX0_isQuotient 45 = .ok (.ifCond .gt 7, 3) := by decide +kernel
theorem dX0_isQuotient_48 : decode cX0_isQuotient 48 = .ok (.iconst 1, 1) := by decide +kernel
theorem dX0_isQuotient_49 : decode cX0_isQuotient 49 = .ok (.goto 4, 3) := by decide +kernel
theorem dX0_isQuotient_52 : decode cX0_isQuotient 52 = .ok (.iconst 0, 1) := by decide +kernel
theorem dX0_isQuotient_53 : decode cX0_isQuotient 53 = .ok (.ireturn, 1) := by decide +kernel
set_option maxRecDepth 20000 in
theorem ggX0_adjustedSum_X0_needsLowerGap : GoodIn wsX0_adjustedSum wsX0_needsLowerGap := goodIn_r _ [5, 6, 7, 8, 4, 9, 10, 55] (by decide +kernel) (by decide +kernel)
set_option maxRecDepth 20000 in
theorem gX0_adjustedSum_X0_needsLowerGap : GoodIn wsX0_adjustedSum (wsV RX0 146 RX0 yX0_needsLowerGap wsX0_needsLowerGap) := goodIn_app (goodIn_of _ (by decide +kernel)) ggX0_adjustedSum_X0_needsLowerGap
set_option maxRecDepth 20000 in
theorem ggX0_adjustedSum_X0_needsUpperGap : GoodIn wsX0_adjustedSum wsX0_needsUpperGap := goodIn_r _ [14, 6, 7, 8, 4, 9, 10, 55] (by decide +kernel) (by decide +kernel)
set_option maxRecDepth 20000 in
theorem gX0_adjustedSum_X0_needsUpperGap : GoodIn wsX0_adjustedSum (wsV RX0 149 RX0 yX0_needsUpperGap wsX0_needsUpperGap) := goodIn_app (goodIn_of _ (by decide +kernel)) ggX0_adjustedSum_X0_needsUpperGap
set_option maxRecDepth 20000 in
theorem ggX0_adjustedSum_X0_put : GoodIn wsX0_adjustedSum wsX0_put := goodIn_r _ [18, 10, 55] (by decide +kernel) (by decide +kernel)
set_option maxRecDepth 20000 in
theorem gX0_adjustedSum_X0_put : GoodIn wsX0_adjustedSum (wsV RX0 59 RX0 yX0_put wsX0_put) := goodIn_app (goodIn_of _ (by decide +kernel)) ggX0_adjustedSum_X0_put
set_option maxRecDepth 20000 in
theorem ggX0_adjustedSum_X0_gap : GoodIn wsX0_adjustedSum wsX0_gap := goodIn_r _ [21] (by decide +kernel) (by decide +kernel)
set_option maxRecDepth 20000 in
theorem gX0_adjustedSum_X0_gap : GoodIn wsX0_adjustedSum (va_wsS RX0 152 yX0_gap wsX0_gap) := goodIn_app (goodIn_of _ (by decide +kernel)) ggX0_adjustedSum_X0_gap
set_option maxRecDepth 20000 in
theorem ggX0_adjustedSum_X0_adjustedByte : GoodIn wsX0_adjustedSum wsX0_adjustedByte := goodIn_r _ [25, 26, 27, 28, 4, 29, 30, 31, 32, 33, 34, 35, 36, 37, 38, 39, 40, 15, 16, 17, 18, 10, 41, 42, 43, 44, 45, 46, 47, 48, 49, 50, 51, 52, 53, 54, 55] (by decide +kernel) (by decide +kernel)
set_option maxRecDepth 20000 in
theorem gX0_adjustedSum_X0_adjustedByte : GoodIn wsX0_adjustedSum (wsV RX0 100 RX0 yX0_adjustedByte wsX0_adjustedByte) := goodIn_app (goodIn_of _ (by decide +kernel)) ggX0_adjustedSum_X0_adjustedByte
theorem dX0_adjustedSum_0 : decode cX0_adjustedSum 0 = .ok (.aload_n 0, 1) := by decide +kernel
theorem dX0_adjustedSum_1 : decode cX0_adjustedSum 1 = .ok (.iload_n 1, 1) := by decide +kernel
theorem dX0_adjustedSum_2 : decode cX0_adjustedSum 2 = .ok (.invokevirtual 146, 3) := by decide +kernel
theorem dX0_adjustedSum_5 : decode cX0_adjustedSum 5 = .ok (.istore_n 2, 1) := by decide +kernel
theorem dX0_adjustedSum_6 : decode cX0_adjustedSum 6 = .ok (.aload_n 0, 1) := by decide +kernel
theorem dX0_adjustedSum_7 : decode cX0_adjustedSum 7 = .ok (.iload_n 1, 1) := by decide +kernel
theorem dX0_adjustedSum_8 : decode cX0_adjustedSum 8 = .ok (.invokevirtual 149, 3) := by decide +kernel
theorem dX0_adjustedSum_11 : decode cX0_adjustedSum 11 = .ok (.istore_n 3, 1) := by decide +kernel
theorem dX0_adjustedSum_12 : decode cX0_adjustedSum 12 = .ok (.aload_n 0, 1) := by decide +kernel
theorem dX0_adjustedSum_13 : decode cX0_adjustedSum 13 = .ok (.bipush 16, 2) := by decide +kernel
theorem dX0_adjustedSum_15 : decode cX0_adjustedSum 15 = .ok (.iload_n 2, 1) := by decide +kernel
theorem dX0_adjustedSum_16 : decode cX0_adjustedSum 16 = .ok (.invokevirtual 59, 3) := by decide +kernel
theorem dX0_adjustedSum_19 : decode cX0_adjustedSum 19 = .ok (.aload_n 0, 1) := by decide +kernel
theorem dX0_adjustedSum_20 : decode cX0_adjustedSum 20 = .ok (.iconst 1, 1) := by decide +kernel
theorem dX0_adjustedSum_21 : decode cX0_adjustedSum 21 = .ok (.iload_n 3, 1) := by decide +kernel
theorem dX0_adjustedSum_22 : decode cX0_adjustedSum 22 = .ok (.invokevirtual 59, 3) := by decide +kernel
theorem dX0_adjustedSum_25 : decode cX0_adjustedSum 25 = .ok (.aload_n 0, 1) := by decide +kernel
theorem dX0_adjustedSum_26 : decode cX0_adjustedSum 26 = .ok (.iload_n 1, 1) := by decide +kernel
theorem dX0_adjustedSum_27 : decode cX0_adjustedSum 27 = .ok (.iload_n 2, 1) := by decide +kernel
theorem dX0_adjustedSum_28 : decode cX0_adjustedSum 28 = .ok (.iload_n 3, 1) := by decide +kernel
theorem dX0_adjustedSum_29 : decode cX0_adjustedSum 29 = .ok (.invokestatic 152, 3) := by decide +kernel
theorem dX0_adjustedSum_32 : decode cX0_adjustedSum 32 = .ok (.iadd, 1) := by decide +kernel
theorem dX0_adjustedSum_33 : decode cX0_adjustedSum 33 = .ok (.invokevirtual 100, 3) := by decide +kernel
theorem dX0_adjustedSum_36 : decode cX0_adjustedSum 36 = .ok (.ireturn, 1) := by decide +kernel
set_option maxRecDepth 20000 in
theorem ggX0_adjustedDifference_X0_needsLowerGap : GoodIn wsX0_adjustedDifference wsX0_needsLowerGap := goodIn_r _ [5, 6, 7, 8, 4, 9, 10, 55] (by decide +kernel) (by decide +kernel)
set_option maxRecDepth 20000 in
theorem gX0_adjustedDifference_X0_needsLowerGap : GoodIn wsX0_adjustedDifference (wsV RX0 146 RX0 yX0_needsLowerGap wsX0_needsLowerGap) := goodIn_app (goodIn_of _ (by decide +kernel)) ggX0_adjustedDifference_X0_needsLowerGap
set_option maxRecDepth 20000 in
theorem ggX0_adjustedDifference_X0_needsUpperGap : GoodIn wsX0_adjustedDifference wsX0_needsUpperGap := goodIn_r _ [14, 6, 7, 8, 4, 9, 10, 55] (by decide +kernel) (by decide +kernel)
set_option maxRecDepth 20000 in
theorem gX0_adjustedDifference_X0_needsUpperGap : GoodIn wsX0_adjustedDifference (wsV RX0 149 RX0 yX0_needsUpperGap wsX0_needsUpperGap) := goodIn_app (goodIn_of _ (by decide +kernel)) ggX0_adjustedDifference_X0_needsUpperGap
set_option maxRecDepth 20000 in
theorem ggX0_adjustedDifference_X0_put : GoodIn wsX0_adjustedDifference wsX0_put := goodIn_r _ [18, 10, 55] (by decide +kernel) (by decide +kernel)
set_option maxRecDepth 20000 in
theorem gX0_adjustedDifference_X0_put : GoodIn wsX0_adjustedDifference (wsV RX0 59 RX0 yX0_put wsX0_put) := goodIn_app (goodIn_of _ (by decide +kernel)) ggX0_adjustedDifference_X0_put
set_option maxRecDepth 20000 in
theorem ggX0_adjustedDifference_X0_gap : GoodIn wsX0_adjustedDifference wsX0_gap := goodIn_r _ [21] (by decide +kernel) (by decide +kernel)
set_option maxRecDepth 20000 in
theorem gX0_adjustedDifference_X0_gap : GoodIn wsX0_adjustedDifference (va_wsS RX0 152 yX0_gap wsX0_gap) := goodIn_app (goodIn_of _ (by decide +kernel)) ggX0_adjustedDifference_X0_gap
set_option maxRecDepth 20000 in
theorem ggX0_adjustedDifference_X0_adjustedByte : GoodIn wsX0_adjustedDifference wsX0_adjustedByte := goodIn_r _ [25, 26, 27, 28, 4, 29, 30, 31, 32, 33, 34, 35, 36, 37, 38, 39, 40, 15, 16, 17, 18, 10, 41, 42, 43, 44, 45, 46, 47, 48, 49, 50, 51, 52, 53, 54, 55] (by decide +kernel) (by decide +kernel)
set_option maxRecDepth 20000 in
theorem gX0_adjustedDifference_X0_adjustedByte : GoodIn wsX0_adjustedDifference (wsV RX0 100 RX0 yX0_adjustedByte wsX0_adjustedByte) := goodIn_app (goodIn_of _ (by decide +kernel)) ggX0_adjustedDifference_X0_adjustedByte
theorem dX0_adjustedDifference_0 : decode cX0_adjustedDifference 0 = .ok (.aload_n 0, 1) := by decide +kernel
theorem dX0_adjustedDifference_1 : decode cX0_adjustedDifference 1 = .ok (.iload_n 1, 1) := by decide +kernel
theorem dX0_adjustedDifference_2 : decode cX0_adjustedDifference 2 = .ok (.invokevirtual 146, 3) := by decide +kernel
theorem dX0_adjustedDifference_5 : decode cX0_adjustedDifference 5 = .ok (.istore_n 2, 1) := by decide +kernel
theorem dX0_adjustedDifference_6 : decode cX0_adjustedDifference 6 = .ok (.aload_n 0, 1) := by decide +kernel
theorem dX0_adjustedDifference_7 : decode cX0_adjustedDifference 7 = .ok (.iload_n 1, 1) := by decide +kernel
theorem dX0_adjustedDifference_8 : decode cX0_adjustedDifference 8 = .ok (.invokevirtual 149, 3) := by decide +kernel
theorem dX0_adjustedDifference_11 : decode cX0_adjustedDifference 11 = .ok (.istore_n 3, 1) := by decide +kernel
theorem dX0_adjustedDifference_12 : decode cX0_adjustedDifference 12 = .ok (.aload_n 0, 1) := by decide +kernel
theorem dX0_adjustedDifference_13 : decode cX0_adjustedDifference 13 = .ok (.bipush 16, 2) := by decide +kernel
theorem dX0_adjustedDifference_15 : decode cX0_adjustedDifference 15 = .ok (.iload_n 2, 1) := by decide +kernel
theorem dX0_adjustedDifference_16 : decode cX0_adjustedDifference 16 = .ok (.invokevirtual 59, 3) := by decide +kernel
theorem dX0_adjustedDifference_19 : decode cX0_adjustedDifference 19 = .ok (.aload_n 0, 1) := by decide +kernel
theorem dX0_adjustedDifference_20 : decode cX0_adjustedDifference 20 = .ok (.iconst 1, 1) := by decide +kernel
theorem dX0_adjustedDifference_21 : decode cX0_adjustedDifference 21 = .ok (.iload_n 3, 1) := by decide +kernel
theorem dX0_adjustedDifference_22 : decode cX0_adjustedDifference 22 = .ok (.ifCond .ne 13, 3) := by decide +kernel
theorem dX0_adjustedDifference_25 : decode cX0_adjustedDifference 25 = .ok (.iload_n 2, 1) := by decide +kernel
theorem dX0_adjustedDifference_26 : decode cX0_adjustedDifference 26 = .ok (.ifCond .eq 13, 3) := by decide +kernel
theorem dX0_adjustedDifference_29 : decode cX0_adjustedDifference 29 = .ok (.iload_n 1, 1) := by decide +kernel
theorem dX0_adjustedDifference_30 : decode cX0_adjustedDifference 30 = .ok (.bipush 6, 2) := by decide +kernel
theorem dX0_adjustedDifference_32 : decode cX0_adjustedDifference 32 = .ok (.if_icmp .ge 7, 3) := by decide +kernel
theorem dX0_adjustedDifference_35 : decode cX0_adjustedDifference 35 = .ok (.iconst 1, 1) := by decide +kernel
theorem dX0_adjustedDifference_36 : decode cX0_adjustedDifference 36 = .ok (.goto 4, 3) := by decide +kernel
theorem dX0_adjustedDifference_39 : decode cX0_adjustedDifference 39 = .ok (.iconst 0, 1) := by decide +kernel
theorem dX0_adjustedDifference_40 : decode cX0_adjustedDifference 40 = .ok (.invokevirtual 59, 3) := by decide +kernel
theorem dX0_adjustedDifference_43 : decode cX0_adjustedDifference 43 = .ok (.aload_n 0, 1) := by decide +kernel
theorem dX0_adjustedDifference_44 : decode cX0_adjustedDifference 44 = .ok (.iload_n 1, 1) := by decide +kernel
theorem dX0_adjustedDifference_45 : decode cX0_adjustedDifference 45 = .ok (.iload_n 2, 1) := by decide +kernel
theorem dX0_adjustedDifference_46 : decode cX0_adjustedDifference 46 = .ok (.iload_n 3, 1) := by decide +kernel
theorem dX0_adjustedDifference_47 : decode cX0_adjustedDifference 47 = .ok (.invokestatic 152, 3) := by decide +kernel
theorem dX0_adjustedDifference_50 : decode cX0_adjustedDifference 50 = .ok (.isub, 1) := by decide +kernel
theorem dX0_adjustedDifference_51 : decode cX0_adjustedDifference 51 = .ok (.invokevirtual 100, 3) := by decide +kernel
theorem dX0_adjustedDifference_54 : decode cX0_adjustedDifference 54 = .ok (.ireturn, 1) := by decide +kernel
set_option maxRecDepth 20000 in
theorem ggX0_adjustedDigit_X0_needsLowerGap : GoodIn wsX0_adjustedDigit wsX0_needsLowerGap := goodIn_r _ [5, 6, 7, 8, 4, 9, 10, 18] (by decide +kernel) (by decide +kernel)
set_option maxRecDepth 20000 in
theorem gX0_adjustedDigit_X0_needsLowerGap : GoodIn wsX0_adjustedDigit (wsV RX0 146 RX0 yX0_needsLowerGap wsX0_needsLowerGap) := goodIn_app (goodIn_of _ (by decide +kernel)) ggX0_adjustedDigit_X0_needsLowerGap
set_option maxRecDepth 20000 in
theorem ggX0_adjustedDigit_X0_put : GoodIn wsX0_adjustedDigit wsX0_put := goodIn_r _ [14, 10, 18] (by decide +kernel) (by decide +kernel)
set_option maxRecDepth 20000 in
theorem gX0_adjustedDigit_X0_put : GoodIn wsX0_adjustedDigit (wsV RX0 59 RX0 yX0_put wsX0_put) := goodIn_app (goodIn_of _ (by decide +kernel)) ggX0_adjustedDigit_X0_put
set_option maxRecDepth 20000 in
theorem ggX0_adjustedDigit_X0_joined : GoodIn wsX0_adjustedDigit wsX0_joined := goodIn_r _ [17] (by decide +kernel) (by decide +kernel)
set_option maxRecDepth 20000 in
theorem gX0_adjustedDigit_X0_joined : GoodIn wsX0_adjustedDigit (va_wsS RX0 87 yX0_joined wsX0_joined) := goodIn_app (goodIn_of _ (by decide +kernel)) ggX0_adjustedDigit_X0_joined
theorem dX0_adjustedDigit_0 : decode cX0_adjustedDigit 0 = .ok (.aload_n 0, 1) := by decide +kernel
theorem dX0_adjustedDigit_1 : decode cX0_adjustedDigit 1 = .ok (.iload_n 2, 1) := by decide +kernel
theorem dX0_adjustedDigit_2 : decode cX0_adjustedDigit 2 = .ok (.invokevirtual 146, 3) := by decide +kernel
theorem dX0_adjustedDigit_5 : decode cX0_adjustedDigit 5 = .ok (.istore 4, 2) := by decide +kernel
theorem dX0_adjustedDigit_7 : decode cX0_adjustedDigit 7 = .ok (.aload_n 0, 1) := by decide +kernel
theorem dX0_adjustedDigit_8 : decode cX0_adjustedDigit 8 = .ok (.bipush 16, 2) := by decide +kernel
theorem dX0_adjustedDigit_10 : decode cX0_adjustedDigit 10 = .ok (.iload 4, 2) := by decide +kernel
theorem dX0_adjustedDigit_12 : decode cX0_adjustedDigit 12 = .ok (.invokevirtual 59, 3) := by decide +kernel
theorem dX0_adjustedDigit_15 : decode cX0_adjustedDigit 15 = .ok (.aload_n 0, 1) := by decide +kernel
theorem dX0_adjustedDigit_16 : decode cX0_adjustedDigit 16 = .ok (.iconst 1, 1) := by decide +kernel
theorem dX0_adjustedDigit_17 : decode cX0_adjustedDigit 17 = .ok (.iload 4, 2) := by decide +kernel
theorem dX0_adjustedDigit_19 : decode cX0_adjustedDigit 19 = .ok (.invokevirtual 59, 3) := by decide +kernel
theorem dX0_adjustedDigit_22 : decode cX0_adjustedDigit 22 = .ok (.iload 4, 2) := by decide +kernel
theorem dX0_adjustedDigit_24 : decode cX0_adjustedDigit 24 = .ok (.ifCond .eq 9, 3) := by decide +kernel
theorem dX0_adjustedDigit_27 : decode cX0_adjustedDigit 27 = .ok (.iload_n 1, 1) := by decide +kernel
theorem dX0_adjustedDigit_28 : decode cX0_adjustedDigit 28 = .ok (.iload_n 3, 1) := by decide +kernel
theorem dX0_adjustedDigit_29 : decode cX0_adjustedDigit 29 = .ok (.iadd, 1) := by decide +kernel
theorem dX0_adjustedDigit_30 : decode cX0_adjustedDigit 30 = .ok (.goto 4, 3) := by decide +kernel
theorem dX0_adjustedDigit_33 : decode cX0_adjustedDigit 33 = .ok (.iload_n 1, 1) := by decide +kernel
theorem dX0_adjustedDigit_34 : decode cX0_adjustedDigit 34 = .ok (.istore 5, 2) := by decide +kernel
theorem dX0_adjustedDigit_36 : decode cX0_adjustedDigit 36 = .ok (.iload 4, 2) := by decide +kernel
theorem dX0_adjustedDigit_38 : decode cX0_adjustedDigit 38 = .ok (.ifCond .eq 12, 3) := by decide +kernel
theorem dX0_adjustedDigit_41 : decode cX0_adjustedDigit 41 = .ok (.iload_n 2, 1) := by decide +kernel
theorem dX0_adjustedDigit_42 : decode cX0_adjustedDigit 42 = .ok (.iload_n 3, 1) := by decide +kernel
theorem dX0_adjustedDigit_43 : decode cX0_adjustedDigit 43 = .ok (.bipush 6, 2) := by decide +kernel
theorem dX0_adjustedDigit_45 : decode cX0_adjustedDigit 45 = .ok (.imul, 1) := by decide +kernel
theorem dX0_adjustedDigit_46 : decode cX0_adjustedDigit 46 = .ok (.iadd, 1) := by decide +kernel
theorem dX0_adjustedDigit_47 : decode cX0_adjustedDigit 47 = .ok (.goto 4, 3) := by decide +kernel
theorem dX0_adjustedDigit_50 : decode cX0_adjustedDigit 50 = .ok (.iload_n 2, 1) := by decide +kernel
theorem dX0_adjustedDigit_51 : decode cX0_adjustedDigit 51 = .ok (.istore 6, 2) := by decide +kernel
theorem dX0_adjustedDigit_53 : decode cX0_adjustedDigit 53 = .ok (.iload 5, 2) := by decide +kernel
theorem dX0_adjustedDigit_55 : decode cX0_adjustedDigit 55 = .ok (.iload 6, 2) := by decide +kernel
theorem dX0_adjustedDigit_57 : decode cX0_adjustedDigit 57 = .ok (.bipush 15, 2) := by decide +kernel
theorem dX0_adjustedDigit_59 : decode cX0_adjustedDigit 59 = .ok (.iand, 1) := by decide +kernel
theorem dX0_adjustedDigit_60 : decode cX0_adjustedDigit 60 = .ok (.invokestatic 87, 3) := by decide +kernel
theorem dX0_adjustedDigit_63 : decode cX0_adjustedDigit 63 = .ok (.ireturn, 1) := by decide +kernel
set_option maxRecDepth 20000 in
theorem ggX0_needsLowerGap_X0_isSet : GoodIn wsX0_needsLowerGap wsX0_isSet := goodIn_r _ [5, 6, 7] (by decide +kernel) (by decide +kernel)
set_option maxRecDepth 20000 in
theorem gX0_needsLowerGap_X0_isSet : GoodIn wsX0_needsLowerGap (wsV RX0 108 RX0 yX0_isSet wsX0_isSet) := goodIn_app (goodIn_of _ (by decide +kernel)) ggX0_needsLowerGap_X0_isSet
theorem dX0_needsLowerGap_0 : decode cX0_needsLowerGap 0 = .ok (.iload_n 1, 1) := by decide +kernel
theorem dX0_needsLowerGap_1 : decode cX0_needsLowerGap 1 = .ok (.bipush 15, 2) := by decide +kernel
theorem dX0_needsLowerGap_3 : decode cX0_needsLowerGap 3 = .ok (.iand, 1) := by decide +kernel
theorem dX0_needsLowerGap_4 : decode cX0_needsLowerGap 4 = .ok (.bipush 9, 2) := by decide +kernel
theorem dX0_needsLowerGap_6 : decode cX0_needsLowerGap 6 = .ok (.if_icmp .gt 12, 3) := by decide +kernel
theorem dX0_needsLowerGap_9 : decode cX0_needsLowerGap 9 = .ok (.aload_n 0, 1) := by decide +kernel
theorem dX0_needsLowerGap_10 : decode cX0_needsLowerGap 10 = .ok (.bipush 16, 2) := by decide +kernel
theorem dX0_needsLowerGap_12 : decode cX0_needsLowerGap 12 = .ok (.invokevirtual 108, 3) := by decide +kernel
theorem dX0_needsLowerGap_15 : decode cX0_needsLowerGap 15 = .ok (.ifCond .eq 7, 3) := by decide +kernel
theorem dX0_needsLowerGap_18 : decode cX0_needsLowerGap 18 = .ok (.iconst 1, 1) := by decide +kernel
theorem dX0_needsLowerGap_19 : decode cX0_needsLowerGap 19 = .ok (.goto 4, 3) := by decide +kernel
theorem dX0_needsLowerGap_22 : decode cX0_needsLowerGap 22 = .ok (.iconst 0, 1) := by decide +kernel
theorem dX0_needsLowerGap_23 : decode cX0_needsLowerGap 23 = .ok (.ireturn, 1) := by decide +kernel
set_option maxRecDepth 20000 in
theorem ggX0_needsUpperGap_X0_isSet : GoodIn wsX0_needsUpperGap wsX0_isSet := goodIn_r _ [5, 6, 7] (by decide +kernel) (by decide +kernel)
set_option maxRecDepth 20000 in
theorem gX0_needsUpperGap_X0_isSet : GoodIn wsX0_needsUpperGap (wsV RX0 108 RX0 yX0_isSet wsX0_isSet) := goodIn_app (goodIn_of _ (by decide +kernel)) ggX0_needsUpperGap_X0_isSet
theorem dX0_needsUpperGap_0 : decode cX0_needsUpperGap 0 = .ok (.iload_n 1, 1) := by decide +kernel
theorem dX0_needsUpperGap_1 : decode cX0_needsUpperGap 1 = .ok (.sipush 153, 3) := by decide +kernel
theorem dX0_needsUpperGap_4 : decode cX0_needsUpperGap 4 = .ok (.if_icmp .gt 11, 3) := by decide +kernel
theorem dX0_needsUpperGap_7 : decode cX0_needsUpperGap 7 = .ok (.aload_n 0, 1) := by decide +kernel
theorem dX0_needsUpperGap_8 : decode cX0_needsUpperGap 8 = .ok (.iconst 1, 1) := by decide +kernel
theorem dX0_needsUpperGap_9 : decode cX0_needsUpperGap 9 = .ok (.invokevirtual 108, 3) := by decide +kernel
theorem dX0_needsUpperGap_12 : decode cX0_needsUpperGap 12 = .ok (.ifCond .eq 7, 3) := by decide +kernel
theorem dX0_needsUpperGap_15 : decode cX0_needsUpperGap 15 = .ok (.iconst 1, 1) := by decide +kernel
theorem dX0_needsUpperGap_16 : decode cX0_needsUpperGap 16 = .ok (.goto 4, 3) := by decide +kernel
theorem dX0_needsUpperGap_19 : decode cX0_needsUpperGap 19 = .ok (.iconst 0, 1) := by decide +kernel
theorem dX0_needsUpperGap_20 : decode cX0_needsUpperGap 20 = .ok (.ireturn, 1) := by decide +kernel
theorem dX0_gap_0 : decode cX0_gap 0 = .ok (.iload_n 0, 1) := by decide +kernel
theorem dX0_gap_1 : decode cX0_gap 1 = .ok (.ifCond .eq 8, 3) := by decide +kernel
theorem dX0_gap_4 : decode cX0_gap 4 = .ok (.bipush 6, 2) := by decide +kernel
theorem dX0_gap_6 : decode cX0_gap 6 = .ok (.goto 4, 3) := by decide +kernel
theorem dX0_gap_9 : decode cX0_gap 9 = .ok (.iconst 0, 1) := by decide +kernel
theorem dX0_gap_10 : decode cX0_gap 10 = .ok (.iload_n 1, 1) := by decide +kernel
theorem dX0_gap_11 : decode cX0_gap 11 = .ok (.ifCond .eq 8, 3) := by decide +kernel
theorem dX0_gap_14 : decode cX0_gap 14 = .ok (.bipush 96, 2) := by decide +kernel
theorem dX0_gap_16 : decode cX0_gap 16 = .ok (.goto 4, 3) := by decide +kernel
theorem dX0_gap_19 : decode cX0_gap 19 = .ok (.iconst 0, 1) := by decide +kernel
theorem dX0_gap_20 : decode cX0_gap 20 = .ok (.iadd, 1) := by decide +kernel
theorem dX0_gap_21 : decode cX0_gap 21 = .ok (.ireturn, 1) := by decide +kernel
set_option maxRecDepth 20000 in
theorem ggX0_adjustedByte_X0_kept : GoodIn wsX0_adjustedByte wsX0_kept := goodIn_r _ [5, 6, 7, 4, 8, 9, 10, 11, 12, 13, 14, 15, 16, 17, 18, 19, 20, 21, 22, 23, 24, 25, 26, 27, 28, 29, 30, 31, 32, 33, 34, 35, 36] (by decide +kernel) (by decide +kernel)
set_option maxRecDepth 20000 in
theorem gX0_adjustedByte_X0_kept : GoodIn wsX0_adjustedByte (wsV RX0 139 RX0 yX0_kept wsX0_kept) := goodIn_app (goodIn_of _ (by decide +kernel)) ggX0_adjustedByte_X0_kept
theorem dX0_adjustedByte_0 : decode cX0_adjustedByte 0 = .ok (.aload_n 0, 1) := by decide +kernel
theorem dX0_adjustedByte_1 : decode cX0_adjustedByte 1 = .ok (.iconst 0, 1) := by decide +kernel
theorem dX0_adjustedByte_2 : decode cX0_adjustedByte 2 = .ok (.iload_n 1, 1) := by decide +kernel
theorem dX0_adjustedByte_3 : decode cX0_adjustedByte 3 = .ok (.invokevirtual 139, 3) := by decide +kernel
theorem dX0_adjustedByte_6 : decode cX0_adjustedByte 6 = .ok (.ireturn, 1) := by decide +kernel
theorem dX0_joined_0 : decode cX0_joined 0 = .ok (.iload_n 0, 1) := by decide +kernel
theorem dX0_joined_1 : decode cX0_joined 1 = .ok (.sipush 255, 3) := by decide +kernel
theorem dX0_joined_4 : decode cX0_joined 4 = .ok (.iand, 1) := by decide +kernel
theorem dX0_joined_5 : decode cX0_joined 5 = .ok (.bipush 8, 2) := by decide +kernel
theorem dX0_joined_7 : decode cX0_joined 7 = .ok (.ishl, 1) := by decide +kernel
theorem dX0_joined_8 : decode cX0_joined 8 = .ok (.iload_n 1, 1) := by decide +kernel
theorem dX0_joined_9 : decode cX0_joined 9 = .ok (.ior, 1) := by decide +kernel
theorem dX0_joined_10 : decode cX0_joined 10 = .ok (.ireturn, 1) := by decide +kernel
theorem dX1_init_0 : decode cX1_init 0 = .ok (.aload_n 0, 1) := by decide +kernel
theorem dX1_init_1 : decode cX1_init 1 = .ok (.invokespecial 1, 3) := by decide +kernel
theorem dX1_init_4 : decode cX1_init 4 = .ok (.return_, 1) := by decide +kernel
theorem dX1_thrown_0 : decode cX1_thrown 0 = .ok (.aload_n 0, 1) := by decide +kernel
theorem dX1_thrown_1 : decode cX1_thrown 1 = .ok (.getfield 7, 3) := by decide +kernel
theorem dX1_thrown_4 : decode cX1_thrown 4 = .ok (.ireturn, 1) := by decide +kernel
theorem dX1_length_0 : decode cX1_length 0 = .ok (.aload_n 0, 1) := by decide +kernel
theorem dX1_length_1 : decode cX1_length 1 = .ok (.iload_n 1, 1) := by decide +kernel
theorem dX1_length_2 : decode cX1_length 2 = .ok (.ifCond .eq 8, 3) := by decide +kernel
theorem dX1_length_5 : decode cX1_length 5 = .ok (.ldc 13, 2) := by decide +kernel
theorem dX1_length_7 : decode cX1_length 7 = .ok (.goto 6, 3) := by decide +kernel
theorem dX1_length_10 : decode cX1_length 10 = .ok (.sipush 256, 3) := by decide +kernel
theorem dX1_length_13 : decode cX1_length 13 = .ok (.putfield 14, 3) := by decide +kernel
theorem dX1_length_16 : decode cX1_length 16 = .ok (.return_, 1) := by decide +kernel
theorem dX1_is_0 : decode cX1_is 0 = .ok (.aload_n 0, 1) := by decide +kernel
theorem dX1_is_1 : decode cX1_is 1 = .ok (.getfield 17, 3) := by decide +kernel
theorem dX1_is_4 : decode cX1_is 4 = .ok (.iload_n 1, 1) := by decide +kernel
theorem dX1_is_5 : decode cX1_is 5 = .ok (.idiv, 1) := by decide +kernel
theorem dX1_is_6 : decode cX1_is 6 = .ok (.iconst 2, 1) := by decide +kernel
theorem dX1_is_7 : decode cX1_is 7 = .ok (.irem, 1) := by decide +kernel
theorem dX1_is_8 : decode cX1_is 8 = .ok (.iconst 1, 1) := by decide +kernel
theorem dX1_is_9 : decode cX1_is 9 = .ok (.if_icmp .ne 7, 3) := by decide +kernel
theorem dX1_is_12 : decode cX1_is 12 = .ok (.iconst 1, 1) := by decide +kernel
theorem dX1_is_13 : decode cX1_is 13 = .ok (.goto 4, 3) := by decide +kernel
theorem dX1_is_16 : decode cX1_is 16 = .ok (.iconst 0, 1) := by decide +kernel
theorem dX1_is_17 : decode cX1_is 17 = .ok (.ireturn, 1) := by decide +kernel
set_option maxRecDepth 20000 in
theorem ggX1_put_X1_is : GoodIn wsX1_put wsX1_is := goodIn_ca (goodIn_r _ [6, 1, 7, 8, 9] (by decide +kernel) (by decide +kernel)) (goodIn_sub (fun _ h => List.mem_cons_of_mem _ (List.mem_append_right _ h)) (by decide +kernel))
set_option maxRecDepth 20000 in
theorem gX1_put_X1_is : GoodIn wsX1_put (wsV RX1 20 RX1 yX1_is wsX1_is) := goodIn_app (goodIn_of _ (by decide +kernel)) ggX1_put_X1_is
theorem dX1_put_0 : decode cX1_put 0 = .ok (.aload_n 0, 1) := by decide +kernel
theorem dX1_put_1 : decode cX1_put 1 = .ok (.aload_n 0, 1) := by decide +kernel
theorem dX1_put_2 : decode cX1_put 2 = .ok (.getfield 17, 3) := by decide +kernel
theorem dX1_put_5 : decode cX1_put 5 = .ok (.iload_n 2, 1) := by decide +kernel
theorem dX1_put_6 : decode cX1_put 6 = .ok (.aload_n 0, 1) := by decide +kernel
theorem dX1_put_7 : decode cX1_put 7 = .ok (.iload_n 1, 1) := by decide +kernel
theorem dX1_put_8 : decode cX1_put 8 = .ok (.invokevirtual 20, 3) := by decide +kernel
theorem dX1_put_11 : decode cX1_put 11 = .ok (.if_icmp .ne 7, 3) := by decide +kernel
theorem dX1_put_14 : decode cX1_put 14 = .ok (.iconst 0, 1) := by decide +kernel
theorem dX1_put_15 : decode cX1_put 15 = .ok (.goto 13, 3) := by decide +kernel
theorem dX1_put_18 : decode cX1_put 18 = .ok (.iload_n 2, 1) := by decide +kernel
theorem dX1_put_19 : decode cX1_put 19 = .ok (.ifCond .eq 7, 3) := by decide +kernel
theorem dX1_put_22 : decode cX1_put 22 = .ok (.iload_n 1, 1) := by decide +kernel
theorem dX1_put_23 : decode cX1_put 23 = .ok (.goto 5, 3) := by decide +kernel
theorem dX1_put_26 : decode cX1_put 26 = .ok (.iload_n 1, 1) := by decide +kernel
theorem dX1_put_27 : decode cX1_put 27 = .ok (.ineg, 1) := by decide +kernel
theorem dX1_put_28 : decode cX1_put 28 = .ok (.iadd, 1) := by decide +kernel
theorem dX1_put_29 : decode cX1_put 29 = .ok (.putfield 17, 3) := by decide +kernel
theorem dX1_put_32 : decode cX1_put 32 = .ok (.return_, 1) := by decide +kernel
theorem dX1_operand_0 : decode cX1_operand 0 = .ok (.iload_n 1, 1) := by decide +kernel
theorem dX1_operand_1 : decode cX1_operand 1 = .ok (.aload_n 0, 1) := by decide +kernel
theorem dX1_operand_2 : decode cX1_operand 2 = .ok (.getfield 14, 3) := by decide +kernel
theorem dX1_operand_5 : decode cX1_operand 5 = .ok (.iconst 1, 1) := by decide +kernel
theorem dX1_operand_6 : decode cX1_operand 6 = .ok (.isub, 1) := by decide +kernel
theorem dX1_operand_7 : decode cX1_operand 7 = .ok (.iand, 1) := by decide +kernel
theorem dX1_operand_8 : decode cX1_operand 8 = .ok (.ireturn, 1) := by decide +kernel
theorem dX1_signed_0 : decode cX1_signed 0 = .ok (.iload_n 1, 1) := by decide +kernel
theorem dX1_signed_1 : decode cX1_signed 1 = .ok (.aload_n 0, 1) := by decide +kernel
theorem dX1_signed_2 : decode cX1_signed 2 = .ok (.getfield 14, 3) := by decide +kernel
theorem dX1_signed_5 : decode cX1_signed 5 = .ok (.iconst 2, 1) := by decide +kernel
theorem dX1_signed_6 : decode cX1_signed 6 = .ok (.idiv, 1) := by decide +kernel
theorem dX1_signed_7 : decode cX1_signed 7 = .ok (.if_icmp .lt 12, 3) := by decide +kernel
theorem dX1_signed_10 : decode cX1_signed 10 = .ok (.iload_n 1, 1) := by decide +kernel
theorem dX1_signed_11 : decode cX1_signed 11 = .ok (.aload_n 0, 1) := by decide +kernel
theorem dX1_signed_12 : decode cX1_signed 12 = .ok (.getfield 14, 3) := by decide +kernel
theorem dX1_signed_15 : decode cX1_signed 15 = .ok (.isub, 1) := by decide +kernel
theorem dX1_signed_16 : decode cX1_signed 16 = .ok (.goto 4, 3) := by decide +kernel
theorem dX1_signed_19 : decode cX1_signed 19 = .ok (.iload_n 1, 1) := by decide +kernel
theorem dX1_signed_20 : decode cX1_signed 20 = .ok (.ireturn, 1) := by decide +kernel
theorem dX1_set_0 : decode cX1_set 0 = .ok (.aload_n 0, 1) := by decide +kernel
theorem dX1_set_1 : decode cX1_set 1 = .ok (.iconst 0, 1) := by decide +kernel
theorem dX1_set_2 : decode cX1_set 2 = .ok (.putfield 7, 3) := by decide +kernel
theorem dX1_set_5 : decode cX1_set 5 = .ok (.aload_n 0, 1) := by decide +kernel
theorem dX1_set_6 : decode cX1_set 6 = .ok (.iload_n 1, 1) := by decide +kernel
theorem dX1_set_7 : decode cX1_set 7 = .ok (.sipush 4053, 3) := by decide +kernel
theorem dX1_set_10 : decode cX1_set 10 = .ok (.iand, 1) := by decide +kernel
theorem dX1_set_11 : decode cX1_set 11 = .ok (.putfield 17, 3) := by decide +kernel
theorem dX1_set_14 : decode cX1_set 14 = .ok (.return_, 1) := by decide +kernel
theorem dX1_flags_0 : decode cX1_flags 0 = .ok (.aload_n 0, 1) := by decide +kernel
theorem dX1_flags_1 : decode cX1_flags 1 = .ok (.iconst 0, 1) := by decide +kernel
theorem dX1_flags_2 : decode cX1_flags 2 = .ok (.putfield 7, 3) := by decide +kernel
theorem dX1_flags_5 : decode cX1_flags 5 = .ok (.aload_n 0, 1) := by decide +kernel
theorem dX1_flags_6 : decode cX1_flags 6 = .ok (.getfield 17, 3) := by decide +kernel
theorem dX1_flags_9 : decode cX1_flags 9 = .ok (.ireturn, 1) := by decide +kernel
set_option maxRecDepth 20000 in
theorem ggX1_byAnswer_X1_put : GoodIn wsX1_byAnswer wsX1_put := goodIn_ca (goodIn_r _ [6, 7, 8, 9, 10, 5, 11, 12, 13, 14] (by decide +kernel) (by decide +kernel)) (goodIn_sub (fun _ h => List.mem_cons_of_mem _ (List.mem_append_right _ h)) (by decide +kernel))
set_option maxRecDepth 20000 in
theorem gX1_byAnswer_X1_put : GoodIn wsX1_byAnswer (wsV RX1 24 RX1 yX1_put wsX1_put) := goodIn_app (goodIn_of _ (by decide +kernel)) ggX1_byAnswer_X1_put
theorem dX1_byAnswer_0 : decode cX1_byAnswer 0 = .ok (.aload_n 0, 1) := by decide +kernel
theorem dX1_byAnswer_1 : decode cX1_byAnswer 1 = .ok (.bipush 64, 2) := by decide +kernel
theorem dX1_byAnswer_3 : decode cX1_byAnswer 3 = .ok (.iload_n 1, 1) := by decide +kernel
theorem dX1_byAnswer_4 : decode cX1_byAnswer 4 = .ok (.ifCond .ne 7, 3) := by decide +kernel
theorem dX1_byAnswer_7 : decode cX1_byAnswer 7 = .ok (.iconst 1, 1) := by decide +kernel
theorem dX1_byAnswer_8 : decode cX1_byAnswer 8 = .ok (.goto 4, 3) := by decide +kernel
theorem dX1_byAnswer_11 : decode cX1_byAnswer 11 = .ok (.iconst 0, 1) := by decide +kernel
theorem dX1_byAnswer_12 : decode cX1_byAnswer 12 = .ok (.invokevirtual 24, 3) := by decide +kernel
theorem dX1_byAnswer_15 : decode cX1_byAnswer 15 = .ok (.aload_n 0, 1) := by decide +kernel
theorem dX1_byAnswer_16 : decode cX1_byAnswer 16 = .ok (.sipush 128, 3) := by decide +kernel
theorem dX1_byAnswer_19 : decode cX1_byAnswer 19 = .ok (.iload_n 1, 1) := by decide +kernel
theorem dX1_byAnswer_20 : decode cX1_byAnswer 20 = .ok (.aload_n 0, 1) := by decide +kernel
theorem dX1_byAnswer_21 : decode cX1_byAnswer 21 = .ok (.getfield 14, 3) := by decide +kernel
theorem dX1_byAnswer_24 : decode cX1_byAnswer 24 = .ok (.iconst 2, 1) := by decide +kernel
theorem dX1_byAnswer_25 : decode cX1_byAnswer 25 = .ok (.idiv, 1) := by decide +kernel
theorem dX1_byAnswer_26 : decode cX1_byAnswer 26 = .ok (.if_icmp .lt 7, 3) := by decide +kernel
theorem dX1_byAnswer_29 : decode cX1_byAnswer 29 = .ok (.iconst 1, 1) := by decide +kernel
theorem dX1_byAnswer_30 : decode cX1_byAnswer 30 = .ok (.goto 4, 3) := by decide +kernel
theorem dX1_byAnswer_33 : decode cX1_byAnswer 33 = .ok (.iconst 0, 1) := by decide +kernel
theorem dX1_byAnswer_34 : decode cX1_byAnswer 34 = .ok (.invokevirtual 24, 3) := by decide +kernel
theorem dX1_byAnswer_37 : decode cX1_byAnswer 37 = .ok (.iconst 0, 1) := by decide +kernel
theorem dX1_byAnswer_38 : decode cX1_byAnswer 38 = .ok (.istore_n 2, 1) := by decide +kernel
theorem dX1_byAnswer_39 : decode cX1_byAnswer 39 = .ok (.iconst 0, 1) := by decide +kernel
theorem dX1_byAnswer_40 : decode cX1_byAnswer 40 = .ok (.istore_n 3, 1) := by decide +kernel
theorem dX1_byAnswer_41 : decode cX1_byAnswer 41 = .ok (.iload_n 1, 1) := by decide +kernel
theorem dX1_byAnswer_42 : decode cX1_byAnswer 42 = .ok (.istore 4, 2) := by decide +kernel
theorem dX1_byAnswer_44 : decode cX1_byAnswer 44 = .ok (.iload_n 3, 1) := by decide +kernel
theorem dX1_byAnswer_45 : decode cX1_byAnswer 45 = .ok (.bipush 8, 2) := by decide +kernel
theorem dX1_byAnswer_47 : decode cX1_byAnswer 47 = .ok (.if_icmp .ge 22, 3) := by decide +kernel
theorem dX1_byAnswer_50 : decode cX1_byAnswer 50 = .ok (.iload_n 2, 1) := by decide +kernel
theorem dX1_byAnswer_51 : decode cX1_byAnswer 51 = .ok (.iload 4, 2) := by decide +kernel
theorem dX1_byAnswer_53 : decode cX1_byAnswer 53 = .ok (.iconst 2, 1) := by decide +kernel
theorem dX1_byAnswer_54 : decode cX1_byAnswer 54 = .ok (.irem, 1) := by decide +kernel
theorem dX1_byAnswer_55 : decode cX1_byAnswer 55 = .ok (.iadd, 1) := by decide +kernel
theorem dX1_byAnswer_56 : decode cX1_byAnswer 56 = .ok (.istore_n 2, 1) := by decide +kernel
theorem dX1_byAnswer_57 : decode cX1_byAnswer 57 = .ok (.iinc 3 1, 3) := by decide +kernel
theorem dX1_byAnswer_60 : decode cX1_byAnswer 60 = .ok (.iload 4, 2) := by decide +kernel
theorem dX1_byAnswer_62 : decode cX1_byAnswer 62 = .ok (.iconst 2, 1) := by decide +kernel
theorem dX1_byAnswer_63 : decode cX1_byAnswer 63 = .ok (.idiv, 1) := by decide +kernel
theorem dX1_byAnswer_64 : decode cX1_byAnswer 64 = .ok (.istore 4, 2) := by decide +kernel
theorem dX1_byAnswer_66 : decode cX1_byAnswer 66 = .ok (.goto (-22), 3) := by decide +kernel
theorem dX1_byAnswer_69 : decode cX1_byAnswer 69 = .ok (.aload_n 0, 1) := by decide +kernel
theorem dX1_byAnswer_70 : decode cX1_byAnswer 70 = .ok (.iconst 4, 1) := by decide +kernel
theorem dX1_byAnswer_71 : decode cX1_byAnswer 71 = .ok (.iload_n 2, 1) := by decide +kernel
theorem dX1_byAnswer_72 : decode cX1_byAnswer 72 = .ok (.iconst 2, 1) := by decide +kernel
theorem dX1_byAnswer_73 : decode cX1_byAnswer 73 = .ok (.irem, 1) := by decide +kernel
theorem dX1_byAnswer_74 : decode cX1_byAnswer 74 = .ok (.ifCond .ne 7, 3) := by decide +kernel
theorem dX1_byAnswer_77 : decode cX1_byAnswer 77 = .ok (.iconst 1, 1) := by decide +kernel
theorem dX1_byAnswer_78 : decode cX1_byAnswer 78 = .ok (.goto 4, 3) := by decide +kernel
theorem dX1_byAnswer_81 : decode cX1_byAnswer 81 = .ok (.iconst 0, 1) := by decide +kernel
theorem dX1_byAnswer_82 : decode cX1_byAnswer 82 = .ok (.invokevirtual 24, 3) := by decide +kernel
theorem dX1_byAnswer_85 : decode cX1_byAnswer 85 = .ok (.return_, 1) := by decide +kernel
set_option maxRecDepth 20000 in
theorem ggX1_sum_X1_signed : GoodIn wsX1_sum wsX1_signed := goodIn_r _ [6, 1, 20, 21, 22] (by decide +kernel) (by decide +kernel)
set_option maxRecDepth 20000 in
theorem gX1_sum_X1_signed : GoodIn wsX1_sum (wsV RX1 28 RX1 yX1_signed wsX1_signed) := goodIn_app (goodIn_of _ (by decide +kernel)) ggX1_sum_X1_signed
set_option maxRecDepth 20000 in
theorem ggX1_sum_X1_put : GoodIn wsX1_sum wsX1_put := goodIn_ca (goodIn_r _ [10, 11, 12, 13, 14, 5, 15, 20, 21, 22] (by decide +kernel) (by decide +kernel)) (goodIn_sub (fun _ h => List.mem_cons_of_mem _ (List.mem_append_right _ h)) (by decide +kernel))
set_option maxRecDepth 20000 in
theorem gX1_sum_X1_put : GoodIn wsX1_sum (wsV RX1 24 RX1 yX1_put wsX1_put) := goodIn_app (goodIn_of _ (by decide +kernel)) ggX1_sum_X1_put
set_option maxRecDepth 20000 in
theorem ggX1_sum_X1_byAnswer : GoodIn wsX1_sum wsX1_byAnswer := goodIn_ca (goodIn_r _ [19, 1, 7, 8, 9, 5, 10, 11, 12, 13, 14, 15, 20, 21, 22] (by decide +kernel) (by decide +kernel)) (goodIn_sub (fun _ h => List.mem_cons_of_mem _ (List.mem_append_right _ h)) (by decide +kernel))
set_option maxRecDepth 20000 in
theorem gX1_sum_X1_byAnswer : GoodIn wsX1_sum (wsV RX1 32 RX1 yX1_byAnswer wsX1_byAnswer) := goodIn_app (goodIn_of _ (by decide +kernel)) ggX1_sum_X1_byAnswer
theorem dX1_sum_0 : decode cX1_sum 0 = .ok (.iload_n 1, 1) := by decide +kernel
theorem dX1_sum_1 : decode cX1_sum 1 = .ok (.iload_n 2, 1) := by decide +kernel
theorem dX1_sum_2 : decode cX1_sum 2 = .ok (.iadd, 1) := by decide +kernel
theorem dX1_sum_3 : decode cX1_sum 3 = .ok (.iload_n 3, 1) := by decide +kernel
theorem dX1_sum_4 : decode cX1_sum 4 = .ok (.iadd, 1) := by decide +kernel
theorem dX1_sum_5 : decode cX1_sum 5 = .ok (.istore 4, 2) := by decide +kernel
theorem dX1_sum_7 : decode cX1_sum 7 = .ok (.aload_n 0, 1) := by decide +kernel
theorem dX1_sum_8 : decode cX1_sum 8 = .ok (.iload_n 1, 1) := by decide +kernel
theorem dX1_sum_9 : decode cX1_sum 9 = .ok (.invokevirtual 28, 3) := by decide +kernel
theorem dX1_sum_12 : decode cX1_sum 12 = .ok (.aload_n 0, 1) := by decide +kernel
theorem dX1_sum_13 : decode cX1_sum 13 = .ok (.iload_n 2, 1) := by decide +kernel
theorem dX1_sum_14 : decode cX1_sum 14 = .ok (.invokevirtual 28, 3) := by decide +kernel
theorem dX1_sum_17 : decode cX1_sum 17 = .ok (.iadd, 1) := by decide +kernel
theorem dX1_sum_18 : decode cX1_sum 18 = .ok (.iload_n 3, 1) := by decide +kernel
theorem dX1_sum_19 : decode cX1_sum 19 = .ok (.iadd, 1) := by decide +kernel
theorem dX1_sum_20 : decode cX1_sum 20 = .ok (.istore 5, 2) := by decide +kernel
theorem dX1_sum_22 : decode cX1_sum 22 = .ok (.aload_n 0, 1) := by decide +kernel
theorem dX1_sum_23 : decode cX1_sum 23 = .ok (.iconst 1, 1) := by decide +kernel
theorem dX1_sum_24 : decode cX1_sum 24 = .ok (.iload 4, 2) := by decide +kernel
theorem dX1_sum_26 : decode cX1_sum 26 = .ok (.aload_n 0, 1) := by decide +kernel
theorem dX1_sum_27 : decode cX1_sum 27 = .ok (.getfield 14, 3) := by decide +kernel
theorem dX1_sum_30 : decode cX1_sum 30 = .ok (.if_icmp .lt 7, 3) := by decide +kernel
theorem dX1_sum_33 : decode cX1_sum 33 = .ok (.iconst 1, 1) := by decide +kernel
theorem dX1_sum_34 : decode cX1_sum 34 = .ok (.goto 4, 3) := by decide +kernel
theorem dX1_sum_37 : decode cX1_sum 37 = .ok (.iconst 0, 1) := by decide +kernel
theorem dX1_sum_38 : decode cX1_sum 38 = .ok (.invokevirtual 24, 3) := by decide +kernel
theorem dX1_sum_41 : decode cX1_sum 41 = .ok (.aload_n 0, 1) := by decide +kernel
theorem dX1_sum_42 : decode cX1_sum 42 = .ok (.bipush 16, 2) := by decide +kernel
theorem dX1_sum_44 : decode cX1_sum 44 = .ok (.iload_n 1, 1) := by decide +kernel
theorem dX1_sum_45 : decode cX1_sum 45 = .ok (.bipush 16, 2) := by decide +kernel
theorem dX1_sum_47 : decode cX1_sum 47 = .ok (.irem, 1) := by decide +kernel
theorem dX1_sum_48 : decode cX1_sum 48 = .ok (.iload_n 2, 1) := by decide +kernel
theorem dX1_sum_49 : decode cX1_sum 49 = .ok (.bipush 16, 2) := by decide +kernel
theorem dX1_sum_51 : decode cX1_sum 51 = .ok (.irem, 1) := by decide +kernel
theorem dX1_sum_52 : decode cX1_sum 52 = .ok (.iadd, 1) := by decide +kernel
theorem dX1_sum_53 : decode cX1_sum 53 = .ok (.iload_n 3, 1) := by decide +kernel
theorem dX1_sum_54 : decode cX1_sum 54 = .ok (.iadd, 1) := by decide +kernel
theorem dX1_sum_55 : decode cX1_sum 55 = .ok (.bipush 16, 2) := by decide +kernel
theorem dX1_sum_57 : decode cX1_sum 57 = .ok (.if_icmp .lt 7, 3) := by decide +kernel
theorem dX1_sum_60 : decode cX1_sum 60 = .ok (.iconst 1, 1) := by decide +kernel
theorem dX1_sum_61 : decode cX1_sum 61 = .ok (.goto 4, 3) := by decide +kernel
theorem dX1_sum_64 : decode cX1_sum 64 = .ok (.iconst 0, 1) := by decide +kernel
theorem dX1_sum_65 : decode cX1_sum 65 = .ok (.invokevirtual 24, 3) := by decide +kernel
theorem dX1_sum_68 : decode cX1_sum 68 = .ok (.aload_n 0, 1) := by decide +kernel
theorem dX1_sum_69 : decode cX1_sum 69 = .ok (.sipush 2048, 3) := by decide +kernel
theorem dX1_sum_72 : decode cX1_sum 72 = .ok (.iload 5, 2) := by decide +kernel
theorem dX1_sum_74 : decode cX1_sum 74 = .ok (.aload_n 0, 1) := by decide +kernel
theorem dX1_sum_75 : decode cX1_sum 75 = .ok (.getfield 14, 3) := by decide +kernel
theorem dX1_sum_78 : decode cX1_sum 78 = .ok (.iconst 2, 1) := by decide +kernel
theorem dX1_sum_79 : decode cX1_sum 79 = .ok (.idiv, 1) := by decide +kernel
theorem dX1_sum_80 : decode cX1_sum 80 = .ok (.if_icmp .ge 15, 3) := by decide +kernel
theorem dX1_sum_83 : decode cX1_sum 83 = .ok (.iload 5, 2) := by decide +kernel
theorem dX1_sum_85 : decode cX1_sum 85 = .ok (.aload_n 0, 1) := by decide +kernel
theorem dX1_sum_86 : decode cX1_sum 86 = .ok (.getfield 14, 3) := by decide +kernel
theorem dX1_sum_89 : decode cX1_sum 89 = .ok (.ineg, 1) := by decide +kernel
theorem dX1_sum_90 : decode cX1_sum 90 = .ok (.iconst 2, 1) := by decide +kernel
theorem dX1_sum_91 : decode cX1_sum 91 = .ok (.idiv, 1) := by decide +kernel
theorem dX1_sum_92 : decode cX1_sum 92 = .ok (.if_icmp .ge 7, 3) := by decide +kernel
theorem dX1_sum_95 : decode cX1_sum 95 = .ok (.iconst 1, 1) := by decide +kernel
theorem dX1_sum_96 : decode cX1_sum 96 = .ok (.goto 4, 3) := by decide +kernel
theorem dX1_sum_99 : decode cX1_sum 99 = .ok (.iconst 0, 1) := by decide +kernel
theorem dX1_sum_100 : decode cX1_sum 100 = .ok (.invokevirtual 24, 3) := by decide +kernel
theorem dX1_sum_103 : decode cX1_sum 103 = .ok (.aload_n 0, 1) := by decide +kernel
theorem dX1_sum_104 : decode cX1_sum 104 = .ok (.iload 4, 2) := by decide +kernel
theorem dX1_sum_106 : decode cX1_sum 106 = .ok (.aload_n 0, 1) := by decide +kernel
theorem dX1_sum_107 : decode cX1_sum 107 = .ok (.getfield 14, 3) := by decide +kernel
theorem dX1_sum_110 : decode cX1_sum 110 = .ok (.irem, 1) := by decide +kernel
theorem dX1_sum_111 : decode cX1_sum 111 = .ok (.invokevirtual 32, 3) := by decide +kernel
theorem dX1_sum_114 : decode cX1_sum 114 = .ok (.iload 4, 2) := by decide +kernel
theorem dX1_sum_116 : decode cX1_sum 116 = .ok (.aload_n 0, 1) := by decide +kernel
theorem dX1_sum_117 : decode cX1_sum 117 = .ok (.getfield 14, 3) := by decide +kernel
theorem dX1_sum_120 : decode cX1_sum 120 = .ok (.irem, 1) := by decide +kernel
theorem dX1_sum_121 : decode cX1_sum 121 = .ok (.ireturn, 1) := by decide +kernel
set_option maxRecDepth 20000 in
theorem ggX1_difference_X1_signed : GoodIn wsX1_difference wsX1_signed := goodIn_r _ [6, 1, 20, 21, 22] (by decide +kernel) (by decide +kernel)
set_option maxRecDepth 20000 in
theorem gX1_difference_X1_signed : GoodIn wsX1_difference (wsV RX1 28 RX1 yX1_signed wsX1_signed) := goodIn_app (goodIn_of _ (by decide +kernel)) ggX1_difference_X1_signed
set_option maxRecDepth 20000 in
theorem ggX1_difference_X1_put : GoodIn wsX1_difference wsX1_put := goodIn_ca (goodIn_r _ [10, 11, 12, 13, 14, 5, 15, 20, 21, 22] (by decide +kernel) (by decide +kernel)) (goodIn_sub (fun _ h => List.mem_cons_of_mem _ (List.mem_append_right _ h)) (by decide +kernel))
set_option maxRecDepth 20000 in
theorem gX1_difference_X1_put : GoodIn wsX1_difference (wsV RX1 24 RX1 yX1_put wsX1_put) := goodIn_app (goodIn_of _ (by decide +kernel)) ggX1_difference_X1_put
set_option maxRecDepth 20000 in
theorem ggX1_difference_X1_byAnswer : GoodIn wsX1_difference wsX1_byAnswer := goodIn_ca (goodIn_r _ [19, 1, 7, 8, 9, 5, 10, 11, 12, 13, 14, 15, 20, 21, 22] (by decide +kernel) (by decide +kernel)) (goodIn_sub (fun _ h => List.mem_cons_of_mem _ (List.mem_append_right _ h)) (by decide +kernel))
set_option maxRecDepth 20000 in
theorem gX1_difference_X1_byAnswer : GoodIn wsX1_difference (wsV RX1 32 RX1 yX1_byAnswer wsX1_byAnswer) := goodIn_app (goodIn_of _ (by decide +kernel)) ggX1_difference_X1_byAnswer
theorem dX1_difference_0 : decode cX1_difference 0 = .ok (.iload_n 1, 1) := by decide +kernel
theorem dX1_difference_1 : decode cX1_difference 1 = .ok (.iload_n 2, 1) := by decide +kernel
theorem dX1_difference_2 : decode cX1_difference 2 = .ok (.isub, 1) := by decide +kernel
theorem dX1_difference_3 : decode cX1_difference 3 = .ok (.iload_n 3, 1) := by decide +kernel
theorem dX1_difference_4 : decode cX1_difference 4 = .ok (.isub, 1) := by decide +kernel
theorem dX1_difference_5 : decode cX1_difference 5 = .ok (.istore 4, 2) := by decide +kernel
theorem dX1_difference_7 : decode cX1_difference 7 = .ok (.aload_n 0, 1) := by decide +kernel
theorem dX1_difference_8 : decode cX1_difference 8 = .ok (.iload_n 1, 1) := by decide +kernel
theorem dX1_difference_9 : decode cX1_difference 9 = .ok (.invokevirtual 28, 3) := by decide +kernel
theorem dX1_difference_12 : decode cX1_difference 12 = .ok (.aload_n 0, 1) := by decide +kernel
theorem dX1_difference_13 : decode cX1_difference 13 = .ok (.iload_n 2, 1) := by decide +kernel
theorem dX1_difference_14 : decode cX1_difference 14 = .ok (.invokevirtual 28, 3) := by decide +kernel
theorem dX1_difference_17 : decode cX1_difference 17 = .ok (.isub, 1) := by decide +kernel
theorem dX1_difference_18 : decode cX1_difference 18 = .ok (.iload_n 3, 1) := by decide +kernel
theorem dX1_difference_19 : decode cX1_difference 19 = .ok (.isub, 1) := by decide +kernel
theorem dX1_difference_20 : decode cX1_difference 20 = .ok (.istore 5, 2) := by decide +kernel
theorem dX1_difference_22 : decode cX1_difference 22 = .ok (.aload_n 0, 1) := by decide +kernel
theorem dX1_difference_23 : decode cX1_difference 23 = .ok (.iconst 1, 1) := by decide +kernel
theorem dX1_difference_24 : decode cX1_difference 24 = .ok (.iload 4, 2) := by decide +kernel
theorem dX1_difference_26 : decode cX1_difference 26 = .ok (.ifCond .ge 7, 3) := by decide +kernel
theorem dX1_difference_29 : decode cX1_difference 29 = .ok (.iconst 1, 1) := by decide +kernel
theorem dX1_difference_30 : decode cX1_difference 30 = .ok (.goto 4, 3) := by decide +kernel
theorem dX1_difference_33 : decode cX1_difference 33 = .ok (.iconst 0, 1) := by decide +kernel
theorem dX1_difference_34 : decode cX1_difference 34 = .ok (.invokevirtual 24, 3) := by decide +kernel
theorem dX1_difference_37 : decode cX1_difference 37 = .ok (.aload_n 0, 1) := by decide +kernel
theorem dX1_difference_38 : decode cX1_difference 38 = .ok (.bipush 16, 2) := by decide +kernel
theorem dX1_difference_40 : decode cX1_difference 40 = .ok (.iload_n 1, 1) := by decide +kernel
theorem dX1_difference_41 : decode cX1_difference 41 = .ok (.bipush 16, 2) := by decide +kernel
theorem dX1_difference_43 : decode cX1_difference 43 = .ok (.irem, 1) := by decide +kernel
theorem dX1_difference_44 : decode cX1_difference 44 = .ok (.iload_n 2, 1) := by decide +kernel
theorem dX1_difference_45 : decode cX1_difference 45 = .ok (.bipush 16, 2) := by decide +kernel
theorem dX1_difference_47 : decode cX1_difference 47 = .ok (.irem, 1) := by decide +kernel
theorem dX1_difference_48 : decode cX1_difference 48 = .ok (.isub, 1) := by decide +kernel
theorem dX1_difference_49 : decode cX1_difference 49 = .ok (.iload_n 3, 1) := by decide +kernel
theorem dX1_difference_50 : decode cX1_difference 50 = .ok (.isub, 1) := by decide +kernel
theorem dX1_difference_51 : decode cX1_difference 51 = .ok (.ifCond .ge 7, 3) := by decide +kernel
theorem dX1_difference_54 : decode cX1_difference 54 = .ok (.iconst 1, 1) := by decide +kernel
theorem dX1_difference_55 : decode cX1_difference 55 = .ok (.goto 4, 3) := by decide +kernel
theorem dX1_difference_58 : decode cX1_difference 58 = .ok (.iconst 0, 1) := by decide +kernel
theorem dX1_difference_59 : decode cX1_difference 59 = .ok (.invokevirtual 24, 3) := by decide +kernel
theorem dX1_difference_62 : decode cX1_difference 62 = .ok (.aload_n 0, 1) := by decide +kernel
theorem dX1_difference_63 : decode cX1_difference 63 = .ok (.sipush 2048, 3) := by decide +kernel
theorem dX1_difference_66 : decode cX1_difference 66 = .ok (.iload 5, 2) := by decide +kernel
theorem dX1_difference_68 : decode cX1_difference 68 = .ok (.aload_n 0, 1) := by decide +kernel
theorem dX1_difference_69 : decode cX1_difference 69 = .ok (.getfield 14, 3) := by decide +kernel
theorem dX1_difference_72 : decode cX1_difference 72 = .ok (.iconst 2, 1) := by decide +kernel
theorem dX1_difference_73 : decode cX1_difference 73 = .ok (.idiv, 1) := by decide +kernel
theorem dX1_difference_74 : decode cX1_difference 74 = .ok (.if_icmp .ge 15, 3) := by decide +kernel
theorem dX1_difference_77 : decode cX1_difference 77 = .ok (.iload 5, 2) := by decide +kernel
theorem dX1_difference_79 : decode cX1_difference 79 = .ok (.aload_n 0, 1) := by decide +kernel
theorem dX1_difference_80 : decode cX1_difference 80 = .ok (.getfield 14, 3) := by decide +kernel
theorem dX1_difference_83 : decode cX1_difference 83 = .ok (.ineg, 1) := by decide +kernel
theorem dX1_difference_84 : decode cX1_difference 84 = .ok (.iconst 2, 1) := by decide +kernel
theorem dX1_difference_85 : decode cX1_difference 85 = .ok (.idiv, 1) := by decide +kernel
theorem dX1_difference_86 : decode cX1_difference 86 = .ok (.if_icmp .ge 7, 3) := by decide +kernel
theorem dX1_difference_89 : decode cX1_difference 89 = .ok (.iconst 1, 1) := by decide +kernel
theorem dX1_difference_90 : decode cX1_difference 90 = .ok (.goto 4, 3) := by decide +kernel
theorem dX1_difference_93 : decode cX1_difference 93 = .ok (.iconst 0, 1) := by decide +kernel
theorem dX1_difference_94 : decode cX1_difference 94 = .ok (.invokevirtual 24, 3) := by decide +kernel
theorem dX1_difference_97 : decode cX1_difference 97 = .ok (.iload 4, 2) := by decide +kernel
theorem dX1_difference_99 : decode cX1_difference 99 = .ok (.ifCond .ge 13, 3) := by decide +kernel
theorem dX1_difference_102 : decode cX1_difference 102 = .ok (.iload 4, 2) := by decide +kernel
theorem dX1_difference_104 : decode cX1_difference 104 = .ok (.aload_n 0, 1) := by decide +kernel
theorem dX1_difference_105 : decode cX1_difference 105 = .ok (.getfield 14, 3) := by decide +kernel
theorem dX1_difference_108 : decode cX1_difference 108 = .ok (.iadd, 1) := by decide +kernel
theorem dX1_difference_109 : decode cX1_difference 109 = .ok (.goto 5, 3) := by decide +kernel
theorem dX1_difference_112 : decode cX1_difference 112 = .ok (.iload 4, 2) := by decide +kernel
theorem dX1_difference_114 : decode cX1_difference 114 = .ok (.istore 6, 2) := by decide +kernel
theorem dX1_difference_116 : decode cX1_difference 116 = .ok (.aload_n 0, 1) := by decide +kernel
theorem dX1_difference_117 : decode cX1_difference 117 = .ok (.iload 6, 2) := by decide +kernel
theorem dX1_difference_119 : decode cX1_difference 119 = .ok (.invokevirtual 32, 3) := by decide +kernel
theorem dX1_difference_122 : decode cX1_difference 122 = .ok (.iload 6, 2) := by decide +kernel
theorem dX1_difference_124 : decode cX1_difference 124 = .ok (.ireturn, 1) := by decide +kernel
set_option maxRecDepth 20000 in
theorem ggX1_logic_X1_put : GoodIn wsX1_logic wsX1_put := goodIn_ca (goodIn_r _ [6, 7, 8, 9, 10, 5, 11, 16, 17, 18] (by decide +kernel) (by decide +kernel)) (goodIn_sub (fun _ h => List.mem_cons_of_mem _ (List.mem_append_right _ h)) (by decide +kernel))
set_option maxRecDepth 20000 in
theorem gX1_logic_X1_put : GoodIn wsX1_logic (wsV RX1 24 RX1 yX1_put wsX1_put) := goodIn_app (goodIn_of _ (by decide +kernel)) ggX1_logic_X1_put
set_option maxRecDepth 20000 in
theorem ggX1_logic_X1_byAnswer : GoodIn wsX1_logic wsX1_byAnswer := goodIn_ca (goodIn_r _ [15, 1, 2, 3, 4, 5, 6, 7, 8, 9, 10, 11, 16, 17, 18] (by decide +kernel) (by decide +kernel)) (goodIn_sub (fun _ h => List.mem_cons_of_mem _ (List.mem_append_right _ h)) (by decide +kernel))
set_option maxRecDepth 20000 in
theorem gX1_logic_X1_byAnswer : GoodIn wsX1_logic (wsV RX1 32 RX1 yX1_byAnswer wsX1_byAnswer) := goodIn_app (goodIn_of _ (by decide +kernel)) ggX1_logic_X1_byAnswer
theorem dX1_logic_0 : decode cX1_logic 0 = .ok (.iconst 0, 1) := by decide +kernel
theorem dX1_logic_1 : decode cX1_logic 1 = .ok (.istore 4, 2) := by decide +kernel
theorem dX1_logic_3 : decode cX1_logic 3 = .ok (.iconst 1, 1) := by decide +kernel
theorem dX1_logic_4 : decode cX1_logic 4 = .ok (.istore 5, 2) := by decide +kernel
theorem dX1_logic_6 : decode cX1_logic 6 = .ok (.iload 5, 2) := by decide +kernel
theorem dX1_logic_8 : decode cX1_logic 8 = .ok (.aload_n 0, 1) := by decide +kernel
theorem dX1_logic_9 : decode cX1_logic 9 = .ok (.getfield 14, 3) := by decide +kernel
theorem dX1_logic_12 : decode cX1_logic 12 = .ok (.if_icmp .ge 94, 3) := by decide +kernel
theorem dX1_logic_15 : decode cX1_logic 15 = .ok (.iload_n 2, 1) := by decide +kernel
theorem dX1_logic_16 : decode cX1_logic 16 = .ok (.iload 5, 2) := by decide +kernel
theorem dX1_logic_18 : decode cX1_logic 18 = .ok (.idiv, 1) := by decide +kernel
theorem dX1_logic_19 : decode cX1_logic 19 = .ok (.iconst 2, 1) := by decide +kernel
theorem dX1_logic_20 : decode cX1_logic 20 = .ok (.irem, 1) := by decide +kernel
theorem dX1_logic_21 : decode cX1_logic 21 = .ok (.iload_n 3, 1) := by decide +kernel
theorem dX1_logic_22 : decode cX1_logic 22 = .ok (.iload 5, 2) := by decide +kernel
theorem dX1_logic_24 : decode cX1_logic 24 = .ok (.idiv, 1) := by decide +kernel
theorem dX1_logic_25 : decode cX1_logic 25 = .ok (.iconst 2, 1) := by decide +kernel
theorem dX1_logic_26 : decode cX1_logic 26 = .ok (.irem, 1) := by decide +kernel
theorem dX1_logic_27 : decode cX1_logic 27 = .ok (.iadd, 1) := by decide +kernel
theorem dX1_logic_28 : decode cX1_logic 28 = .ok (.istore 6, 2) := by decide +kernel
theorem dX1_logic_30 : decode cX1_logic 30 = .ok (.iload_n 1, 1) := by decide +kernel
theorem dX1_logic_31 : decode cX1_logic 31 = .ok (.iconst 1, 1) := by decide +kernel
theorem dX1_logic_32 : decode cX1_logic 32 = .ok (.if_icmp .ne 16, 3) := by decide +kernel
theorem dX1_logic_35 : decode cX1_logic 35 = .ok (.iload 6, 2) := by decide +kernel
theorem dX1_logic_37 : decode cX1_logic 37 = .ok (.ifCond .le 7, 3) := by decide +kernel
theorem dX1_logic_40 : decode cX1_logic 40 = .ok (.iconst 1, 1) := by decide +kernel
theorem dX1_logic_41 : decode cX1_logic 41 = .ok (.goto 37, 3) := by decide +kernel
theorem dX1_logic_44 : decode cX1_logic 44 = .ok (.iconst 0, 1) := by decide +kernel
theorem dX1_logic_45 : decode cX1_logic 45 = .ok (.goto 33, 3) := by decide +kernel
theorem dX1_logic_48 : decode cX1_logic 48 = .ok (.iload_n 1, 1) := by decide +kernel
theorem dX1_logic_49 : decode cX1_logic 49 = .ok (.iconst 4, 1) := by decide +kernel
theorem dX1_logic_50 : decode cX1_logic 50 = .ok (.if_icmp .ne 17, 3) := by decide +kernel
theorem dX1_logic_53 : decode cX1_logic 53 = .ok (.iload 6, 2) := by decide +kernel
theorem dX1_logic_55 : decode cX1_logic 55 = .ok (.iconst 2, 1) := by decide +kernel
theorem dX1_logic_56 : decode cX1_logic 56 = .ok (.if_icmp .ne 7, 3) := by decide +kernel
theorem dX1_logic_59 : decode cX1_logic 59 = .ok (.iconst 1, 1) := by decide +kernel
theorem dX1_logic_60 : decode cX1_logic 60 = .ok (.goto 18, 3) := by decide +kernel
theorem dX1_logic_63 : decode cX1_logic 63 = .ok (.iconst 0, 1) := by decide +kernel
theorem dX1_logic_64 : decode cX1_logic 64 = .ok (.goto 14, 3) := by decide +kernel
theorem dX1_logic_67 : decode cX1_logic 67 = .ok (.iload 6, 2) := by decide +kernel
theorem dX1_logic_69 : decode cX1_logic 69 = .ok (.iconst 1, 1) := by decide +kernel
theorem dX1_logic_70 : decode cX1_logic 70 = .ok (.if_icmp .ne 7, 3) := by decide +kernel
theorem dX1_logic_73 : decode cX1_logic 73 = .ok (.iconst 1, 1) := by decide +kernel
theorem dX1_logic_74 : decode cX1_logic 74 = .ok (.goto 4, 3) := by decide +kernel
theorem dX1_logic_77 : decode cX1_logic 77 = .ok (.iconst 0, 1) := by decide +kernel
theorem dX1_logic_78 : decode cX1_logic 78 = .ok (.istore 7, 2) := by decide +kernel
theorem dX1_logic_80 : decode cX1_logic 80 = .ok (.iload 7, 2) := by decide +kernel
theorem dX1_logic_82 : decode cX1_logic 82 = .ok (.ifCond .eq 11, 3) := by decide +kernel
theorem dX1_logic_85 : decode cX1_logic 85 = .ok (.iload 4, 2) := by decide +kernel
theorem dX1_logic_87 : decode cX1_logic 87 = .ok (.iload 5, 2) := by decide +kernel
theorem dX1_logic_89 : decode cX1_logic 89 = .ok (.iadd, 1) := by decide +kernel
theorem dX1_logic_90 : decode cX1_logic 90 = .ok (.goto 5, 3) := by decide +kernel
theorem dX1_logic_93 : decode cX1_logic 93 = .ok (.iload 4, 2) := by decide +kernel
theorem dX1_logic_95 : decode cX1_logic 95 = .ok (.istore 4, 2) := by decide +kernel
theorem dX1_logic_97 : decode cX1_logic 97 = .ok (.iconst 2, 1) := by decide +kernel
theorem dX1_logic_98 : decode cX1_logic 98 = .ok (.iload 5, 2) := by decide +kernel
theorem dX1_logic_100 : decode cX1_logic 100 = .ok (.imul, 1) := by decide +kernel
theorem dX1_logic_101 : decode cX1_logic 101 = .ok (.istore 5, 2) := by decide +kernel
theorem dX1_logic_103 : decode cX1_logic 103 = .ok (.goto (-97), 3) := by decide +kernel
theorem dX1_logic_106 : decode cX1_logic 106 = .ok (.aload_n 0, 1) := by decide +kernel
theorem dX1_logic_107 : decode cX1_logic 107 = .ok (.iconst 1, 1) := by decide +kernel
theorem dX1_logic_108 : decode cX1_logic 108 = .ok (.iconst 0, 1) := by decide +kernel
theorem dX1_logic_109 : decode cX1_logic 109 = .ok (.invokevirtual 24, 3) := by decide +kernel
theorem dX1_logic_112 : decode cX1_logic 112 = .ok (.aload_n 0, 1) := by decide +kernel
theorem dX1_logic_113 : decode cX1_logic 113 = .ok (.bipush 16, 2) := by decide +kernel
theorem dX1_logic_115 : decode cX1_logic 115 = .ok (.iconst 0, 1) := by decide +kernel
theorem dX1_logic_116 : decode cX1_logic 116 = .ok (.invokevirtual 24, 3) := by decide +kernel
theorem dX1_logic_119 : decode cX1_logic 119 = .ok (.aload_n 0, 1) := by decide +kernel
theorem dX1_logic_120 : decode cX1_logic 120 = .ok (.sipush 2048, 3) := by decide +kernel
theorem dX1_logic_123 : decode cX1_logic 123 = .ok (.iconst 0, 1) := by decide +kernel
theorem dX1_logic_124 : decode cX1_logic 124 = .ok (.invokevirtual 24, 3) := by decide +kernel
theorem dX1_logic_127 : decode cX1_logic 127 = .ok (.aload_n 0, 1) := by decide +kernel
theorem dX1_logic_128 : decode cX1_logic 128 = .ok (.iload 4, 2) := by decide +kernel
theorem dX1_logic_130 : decode cX1_logic 130 = .ok (.invokevirtual 32, 3) := by decide +kernel
theorem dX1_logic_133 : decode cX1_logic 133 = .ok (.iload 4, 2) := by decide +kernel
theorem dX1_logic_135 : decode cX1_logic 135 = .ok (.ireturn, 1) := by decide +kernel
set_option maxRecDepth 20000 in
theorem ggX1_operate_X1_length : GoodIn wsX1_operate wsX1_length := goodIn_r _ [7, 8, 2, 42, 43, 44] (by decide +kernel) (by decide +kernel)
set_option maxRecDepth 20000 in
theorem gX1_operate_X1_length : GoodIn wsX1_operate (wsV RX1 36 RX1 yX1_length wsX1_length) := goodIn_app (goodIn_of _ (by decide +kernel)) ggX1_operate_X1_length
set_option maxRecDepth 20000 in
theorem ggX1_operate_X1_operand : GoodIn wsX1_operate wsX1_operand := goodIn_r _ [12, 2, 42, 43, 44] (by decide +kernel) (by decide +kernel)
set_option maxRecDepth 20000 in
theorem gX1_operate_X1_operand : GoodIn wsX1_operate (wsV RX1 40 RX1 yX1_operand wsX1_operand) := goodIn_app (goodIn_of _ (by decide +kernel)) ggX1_operate_X1_operand
set_option maxRecDepth 20000 in
theorem ggX1_operate_X1_is : GoodIn wsX1_operate wsX1_is := goodIn_ca (goodIn_r _ [16, 17, 42, 43, 44] (by decide +kernel) (by decide +kernel)) (goodIn_sub (fun _ h => List.mem_cons_of_mem _ (List.mem_append_right _ h)) (by decide +kernel))
set_option maxRecDepth 20000 in
theorem gX1_operate_X1_is : GoodIn wsX1_operate (wsV RX1 20 RX1 yX1_is wsX1_is) := goodIn_app (goodIn_of _ (by decide +kernel)) ggX1_operate_X1_is
set_option maxRecDepth 20000 in
theorem ggX1_operate_X1_sum : GoodIn wsX1_operate wsX1_sum := goodIn_ca (goodIn_r _ [21, 2, 22, 23, 24, 6, 25, 26, 27, 28, 29, 17, 13, 14, 15, 16, 30, 31, 32, 33, 42, 43, 44] (by decide +kernel) (by decide +kernel)) (goodIn_sub (fun _ h => List.mem_cons_of_mem _ (List.mem_append_right _ h)) (by decide +kernel))
set_option maxRecDepth 20000 in
theorem gX1_operate_X1_sum : GoodIn wsX1_operate (wsV RX1 43 RX1 yX1_sum wsX1_sum) := goodIn_app (goodIn_of _ (by decide +kernel)) ggX1_operate_X1_sum
set_option maxRecDepth 20000 in
theorem ggX1_operate_X1_logic : GoodIn wsX1_operate wsX1_logic := goodIn_ca (goodIn_r _ [37, 2, 26, 27, 28, 6, 29, 17, 13, 14, 15, 16, 30, 31, 32, 33, 42, 43, 44] (by decide +kernel) (by decide +kernel)) (goodIn_sub (fun _ h => List.mem_cons_of_mem _ (List.mem_append_right _ h)) (by decide +kernel))
set_option maxRecDepth 20000 in
theorem gX1_operate_X1_logic : GoodIn wsX1_operate (wsV RX1 47 RX1 yX1_logic wsX1_logic) := goodIn_app (goodIn_of _ (by decide +kernel)) ggX1_operate_X1_logic
set_option maxRecDepth 20000 in
theorem ggX1_operate_X1_difference : GoodIn wsX1_operate wsX1_difference := goodIn_ca (goodIn_r _ [41, 2, 22, 23, 24, 6, 25, 26, 27, 28, 29, 17, 13, 14, 15, 16, 30, 31, 32, 33, 42, 43, 44] (by decide +kernel) (by decide +kernel)) (goodIn_sub (fun _ h => List.mem_cons_of_mem _ (List.mem_append_right _ h)) (by decide +kernel))
set_option maxRecDepth 20000 in
theorem gX1_operate_X1_difference : GoodIn wsX1_operate (wsV RX1 50 RX1 yX1_difference wsX1_difference) := goodIn_app (goodIn_of _ (by decide +kernel)) ggX1_operate_X1_difference
set_option maxRecDepth 20000 in
theorem ggX1_operate_X1_put : GoodIn wsX1_operate wsX1_put := goodIn_ca (goodIn_r _ [29, 17, 13, 14, 15, 6, 16, 42, 43, 44] (by decide +kernel) (by decide +kernel)) (goodIn_sub (fun _ h => List.mem_cons_of_mem _ (List.mem_append_right _ h)) (by decide +kernel))
set_option maxRecDepth 20000 in
theorem gX1_operate_X1_put : GoodIn wsX1_operate (wsV RX1 24 RX1 yX1_put wsX1_put) := goodIn_app (goodIn_of _ (by decide +kernel)) ggX1_operate_X1_put
theorem dX1_operate_0 : decode cX1_operate 0 = .ok (.aload_n 0, 1) := by decide +kernel
theorem dX1_operate_1 : decode cX1_operate 1 = .ok (.iload_n 1, 1) := by decide +kernel
theorem dX1_operate_2 : decode cX1_operate 2 = .ok (.ifCond .lt 9, 3) := by decide +kernel
theorem dX1_operate_5 : decode cX1_operate 5 = .ok (.iload_n 1, 1) := by decide +kernel
theorem dX1_operate_6 : decode cX1_operate 6 = .ok (.bipush 12, 2) := by decide +kernel
theorem dX1_operate_8 : decode cX1_operate 8 = .ok (.if_icmp .le 7, 3) := by decide +kernel
theorem dX1_operate_11 : decode cX1_operate 11 = .ok (.iconst 1, 1) := by decide +kernel
theorem dX1_operate_12 : decode cX1_operate 12 = .ok (.goto 4, 3) := by decide +kernel
theorem dX1_operate_15 : decode cX1_operate 15 = .ok (.iconst 0, 1) := by decide +kernel
theorem dX1_operate_16 : decode cX1_operate 16 = .ok (.putfield 7, 3) := by decide +kernel
theorem dX1_operate_19 : decode cX1_operate 19 = .ok (.aload_n 0, 1) := by decide +kernel
theorem dX1_operate_20 : decode cX1_operate 20 = .ok (.getfield 7, 3) := by decide +kernel
theorem dX1_operate_23 : decode cX1_operate 23 = .ok (.ifCond .le 5, 3) := by decide +kernel
theorem dX1_operate_26 : decode cX1_operate 26 = .ok (.iconst 0, 1) := by decide +kernel
theorem dX1_operate_27 : decode cX1_operate 27 = .ok (.ireturn, 1) := by decide +kernel
theorem dX1_operate_28 : decode cX1_operate 28 = .ok (.aload_n 0, 1) := by decide +kernel
theorem dX1_operate_29 : decode cX1_operate 29 = .ok (.iload_n 2, 1) := by decide +kernel
theorem dX1_operate_30 : decode cX1_operate 30 = .ok (.invokevirtual 36, 3) := by decide +kernel
theorem dX1_operate_33 : decode cX1_operate 33 = .ok (.aload_n 0, 1) := by decide +kernel
theorem dX1_operate_34 : decode cX1_operate 34 = .ok (.iload_n 3, 1) := by decide +kernel
theorem dX1_operate_35 : decode cX1_operate 35 = .ok (.invokevirtual 40, 3) := by decide +kernel
theorem dX1_operate_38 : decode cX1_operate 38 = .ok (.istore 5, 2) := by decide +kernel
theorem dX1_operate_40 : decode cX1_operate 40 = .ok (.aload_n 0, 1) := by decide +kernel
theorem dX1_operate_41 : decode cX1_operate 41 = .ok (.iload 4, 2) := by decide +kernel
theorem dX1_operate_43 : decode cX1_operate 43 = .ok (.invokevirtual 40, 3) := by decide +kernel
theorem dX1_operate_46 : decode cX1_operate 46 = .ok (.istore 6, 2) := by decide +kernel
theorem dX1_operate_48 : decode cX1_operate 48 = .ok (.aload_n 0, 1) := by decide +kernel
theorem dX1_operate_49 : decode cX1_operate 49 = .ok (.iconst 1, 1) := by decide +kernel
theorem dX1_operate_50 : decode cX1_operate 50 = .ok (.invokevirtual 20, 3) := by decide +kernel
theorem dX1_operate_53 : decode cX1_operate 53 = .ok (.istore 7, 2) := by decide +kernel
theorem dX1_operate_55 : decode cX1_operate 55 = .ok (.iload 5, 2) := by decide +kernel
theorem dX1_operate_57 : decode cX1_operate 57 = .ok (.istore 8, 2) := by decide +kernel
theorem dX1_operate_59 : decode cX1_operate 59 = .ok (.iload_n 1, 1) := by decide +kernel
theorem dX1_operate_60 : decode cX1_operate 60 = .ok (.tableswitch 207 0 11 #[64, 74, 84, 103, 74, 122, 74, 132, 145, 158, 178, 198], 64) := by decide +kernel
theorem dX1_operate_124 : decode cX1_operate 124 = .ok (.aload_n 0, 1) := by decide +kernel
theorem dX1_operate_125 : decode cX1_operate 125 = .ok (.iload 5, 2) := by decide +kernel
theorem dX1_operate_127 : decode cX1_operate 127 = .ok (.iload 6, 2) := by decide +kernel
theorem dX1_operate_129 : decode cX1_operate 129 = .ok (.iconst 0, 1) := by decide +kernel
theorem dX1_operate_130 : decode cX1_operate 130 = .ok (.invokevirtual 43, 3) := by decide +kernel
theorem dX1_operate_133 : decode cX1_operate 133 = .ok (.ireturn, 1) := by decide +kernel
theorem dX1_operate_134 : decode cX1_operate 134 = .ok (.aload_n 0, 1) := by decide +kernel
theorem dX1_operate_135 : decode cX1_operate 135 = .ok (.iload_n 1, 1) := by decide +kernel
theorem dX1_operate_136 : decode cX1_operate 136 = .ok (.iload 5, 2) := by decide +kernel
theorem dX1_operate_138 : decode cX1_operate 138 = .ok (.iload 6, 2) := by decide +kernel
theorem dX1_operate_140 : decode cX1_operate 140 = .ok (.invokevirtual 47, 3) := by decide +kernel
theorem dX1_operate_143 : decode cX1_operate 143 = .ok (.ireturn, 1) := by decide +kernel
theorem dX1_operate_144 : decode cX1_operate 144 = .ok (.aload_n 0, 1) := by decide +kernel
theorem dX1_operate_145 : decode cX1_operate 145 = .ok (.iload 5, 2) := by decide +kernel
theorem dX1_operate_147 : decode cX1_operate 147 = .ok (.iload 6, 2) := by decide +kernel
theorem dX1_operate_149 : decode cX1_operate 149 = .ok (.iload 7, 2) := by decide +kernel
theorem dX1_operate_151 : decode cX1_operate 151 = .ok (.ifCond .eq 7, 3) := by decide +kernel
theorem dX1_operate_154 : decode cX1_operate 154 = .ok (.iconst 1, 1) := by decide +kernel
theorem dX1_operate_155 : decode cX1_operate 155 = .ok (.goto 4, 3) := by decide +kernel
theorem dX1_operate_158 : decode cX1_operate 158 = .ok (.iconst 0, 1) := by decide +kernel
theorem dX1_operate_159 : decode cX1_operate 159 = .ok (.invokevirtual 43, 3) := by decide +kernel
theorem dX1_operate_162 : decode cX1_operate 162 = .ok (.ireturn, 1) := by decide +kernel
theorem dX1_operate_163 : decode cX1_operate 163 = .ok (.aload_n 0, 1) := by decide +kernel
theorem dX1_operate_164 : decode cX1_operate 164 = .ok (.iload 5, 2) := by decide +kernel
theorem dX1_operate_166 : decode cX1_operate 166 = .ok (.iload 6, 2) := by decide +kernel
theorem dX1_operate_168 : decode cX1_operate 168 = .ok (.iload 7, 2) := by decide +kernel
theorem dX1_operate_170 : decode cX1_operate 170 = .ok (.ifCond .eq 7, 3) := by decide +kernel
theorem dX1_operate_173 : decode cX1_operate 173 = .ok (.iconst 1, 1) := by decide +kernel
theorem dX1_operate_174 : decode cX1_operate 174 = .ok (.goto 4, 3) := by decide +kernel
theorem dX1_operate_177 : decode cX1_operate 177 = .ok (.iconst 0, 1) := by decide +kernel
theorem dX1_operate_178 : decode cX1_operate 178 = .ok (.invokevirtual 50, 3) := by decide +kernel
theorem dX1_operate_181 : decode cX1_operate 181 = .ok (.ireturn, 1) := by decide +kernel
theorem dX1_operate_182 : decode cX1_operate 182 = .ok (.aload_n 0, 1) := by decide +kernel
theorem dX1_operate_183 : decode cX1_operate 183 = .ok (.iload 5, 2) := by decide +kernel
theorem dX1_operate_185 : decode cX1_operate 185 = .ok (.iload 6, 2) := by decide +kernel
theorem dX1_operate_187 : decode cX1_operate 187 = .ok (.iconst 0, 1) := by decide +kernel
theorem dX1_operate_188 : decode cX1_operate 188 = .ok (.invokevirtual 50, 3) := by decide +kernel
theorem dX1_operate_191 : decode cX1_operate 191 = .ok (.ireturn, 1) := by decide +kernel
theorem dX1_operate_192 : decode cX1_operate 192 = .ok (.aload_n 0, 1) := by decide +kernel
theorem dX1_operate_193 : decode cX1_operate 193 = .ok (.iload 5, 2) := by decide +kernel
theorem dX1_operate_195 : decode cX1_operate 195 = .ok (.iload 6, 2) := by decide +kernel
theorem dX1_operate_197 : decode cX1_operate 197 = .ok (.iconst 0, 1) := by decide +kernel
theorem dX1_operate_198 : decode cX1_operate 198 = .ok (.invokevirtual 50, 3) := by decide +kernel
theorem dX1_operate_201 : decode cX1_operate 201 = .ok (.pop, 1) := by decide +kernel
theorem dX1_operate_202 : decode cX1_operate 202 = .ok (.iload 5, 2) := by decide +kernel
theorem dX1_operate_204 : decode cX1_operate 204 = .ok (.ireturn, 1) := by decide +kernel
theorem dX1_operate_205 : decode cX1_operate 205 = .ok (.aload_n 0, 1) := by decide +kernel
theorem dX1_operate_206 : decode cX1_operate 206 = .ok (.iconst 4, 1) := by decide +kernel
theorem dX1_operate_207 : decode cX1_operate 207 = .ok (.iload 5, 2) := by decide +kernel
theorem dX1_operate_209 : decode cX1_operate 209 = .ok (.iload 6, 2) := by decide +kernel
theorem dX1_operate_211 : decode cX1_operate 211 = .ok (.invokevirtual 47, 3) := by decide +kernel
theorem dX1_operate_214 : decode cX1_operate 214 = .ok (.pop, 1) := by decide +kernel
theorem dX1_operate_215 : decode cX1_operate 215 = .ok (.iload 5, 2) := by decide +kernel
theorem dX1_operate_217 : decode cX1_operate 217 = .ok (.ireturn, 1) := by decide +kernel
theorem dX1_operate_218 : decode cX1_operate 218 = .ok (.aload_n 0, 1) := by decide +kernel
theorem dX1_operate_219 : decode cX1_operate 219 = .ok (.iload 5, 2) := by decide +kernel
theorem dX1_operate_221 : decode cX1_operate 221 = .ok (.iconst 1, 1) := by decide +kernel
theorem dX1_operate_222 : decode cX1_operate 222 = .ok (.iconst 0, 1) := by decide +kernel
theorem dX1_operate_223 : decode cX1_operate 223 = .ok (.invokevirtual 43, 3) := by decide +kernel
theorem dX1_operate_226 : decode cX1_operate 226 = .ok (.istore 8, 2) := by decide +kernel
theorem dX1_operate_228 : decode cX1_operate 228 = .ok (.aload_n 0, 1) := by decide +kernel
theorem dX1_operate_229 : decode cX1_operate 229 = .ok (.iconst 1, 1) := by decide +kernel
theorem dX1_operate_230 : decode cX1_operate 230 = .ok (.iload 7, 2) := by decide +kernel
theorem dX1_operate_232 : decode cX1_operate 232 = .ok (.invokevirtual 24, 3) := by decide +kernel
theorem dX1_operate_235 : decode cX1_operate 235 = .ok (.iload 8, 2) := by decide +kernel
theorem dX1_operate_237 : decode cX1_operate 237 = .ok (.ireturn, 1) := by decide +kernel
theorem dX1_operate_238 : decode cX1_operate 238 = .ok (.aload_n 0, 1) := by decide +kernel
theorem dX1_operate_239 : decode cX1_operate 239 = .ok (.iload 5, 2) := by decide +kernel
theorem dX1_operate_241 : decode cX1_operate 241 = .ok (.iconst 1, 1) := by decide +kernel
theorem dX1_operate_242 : decode cX1_operate 242 = .ok (.iconst 0, 1) := by decide +kernel
theorem dX1_operate_243 : decode cX1_operate 243 = .ok (.invokevirtual 50, 3) := by decide +kernel
theorem dX1_operate_246 : decode cX1_operate 246 = .ok (.istore 8, 2) := by decide +kernel
theorem dX1_operate_248 : decode cX1_operate 248 = .ok (.aload_n 0, 1) := by decide +kernel
theorem dX1_operate_249 : decode cX1_operate 249 = .ok (.iconst 1, 1) := by decide +kernel
theorem dX1_operate_250 : decode cX1_operate 250 = .ok (.iload 7, 2) := by decide +kernel
theorem dX1_operate_252 : decode cX1_operate 252 = .ok (.invokevirtual 24, 3) := by decide +kernel
theorem dX1_operate_255 : decode cX1_operate 255 = .ok (.iload 8, 2) := by decide +kernel
theorem dX1_operate_257 : decode cX1_operate 257 = .ok (.ireturn, 1) := by decide +kernel
theorem dX1_operate_258 : decode cX1_operate 258 = .ok (.aload_n 0, 1) := by decide +kernel
theorem dX1_operate_259 : decode cX1_operate 259 = .ok (.iconst 0, 1) := by decide +kernel
theorem dX1_operate_260 : decode cX1_operate 260 = .ok (.iload 5, 2) := by decide +kernel
theorem dX1_operate_262 : decode cX1_operate 262 = .ok (.iconst 0, 1) := by decide +kernel
theorem dX1_operate_263 : decode cX1_operate 263 = .ok (.invokevirtual 50, 3) := by decide +kernel
theorem dX1_operate_266 : decode cX1_operate 266 = .ok (.ireturn, 1) := by decide +kernel
theorem dX1_operate_267 : decode cX1_operate 267 = .ok (.aload_n 0, 1) := by decide +kernel
theorem dX1_operate_268 : decode cX1_operate 268 = .ok (.getfield 14, 3) := by decide +kernel
theorem dX1_operate_271 : decode cX1_operate 271 = .ok (.iconst 1, 1) := by decide +kernel
theorem dX1_operate_272 : decode cX1_operate 272 = .ok (.isub, 1) := by decide +kernel
theorem dX1_operate_273 : decode cX1_operate 273 = .ok (.iload 5, 2) := by decide +kernel
theorem dX1_operate_275 : decode cX1_operate 275 = .ok (.isub, 1) := by decide +kernel
theorem dX1_operate_276 : decode cX1_operate 276 = .ok (.ireturn, 1) := by decide +kernel
set_option maxRecDepth 20000 in
theorem ggX1_once_X1_is : GoodIn wsX1_once wsX1_is := goodIn_ca (goodIn_r _ [6, 7, 16, 17, 18] (by decide +kernel) (by decide +kernel)) (goodIn_sub (fun _ h => List.mem_cons_of_mem _ (List.mem_append_right _ h)) (by decide +kernel))
set_option maxRecDepth 20000 in
theorem gX1_once_X1_is : GoodIn wsX1_once (wsV RX1 20 RX1 yX1_is wsX1_is) := goodIn_app (goodIn_of _ (by decide +kernel)) ggX1_once_X1_is
set_option maxRecDepth 20000 in
theorem ggX1_once_X1_put : GoodIn wsX1_once wsX1_put := goodIn_ca (goodIn_r _ [11, 7, 2, 3, 4, 5, 6, 16, 17, 18] (by decide +kernel) (by decide +kernel)) (goodIn_sub (fun _ h => List.mem_cons_of_mem _ (List.mem_append_right _ h)) (by decide +kernel))
set_option maxRecDepth 20000 in
theorem gX1_once_X1_put : GoodIn wsX1_once (wsV RX1 24 RX1 yX1_put wsX1_put) := goodIn_app (goodIn_of _ (by decide +kernel)) ggX1_once_X1_put
set_option maxRecDepth 20000 in
theorem ggX1_once_X1_byAnswer : GoodIn wsX1_once wsX1_byAnswer := goodIn_ca (goodIn_r _ [15, 1, 8, 9, 10, 5, 11, 7, 2, 3, 4, 6, 16, 17, 18] (by decide +kernel) (by decide +kernel)) (goodIn_sub (fun _ h => List.mem_cons_of_mem _ (List.mem_append_right _ h)) (by decide +kernel))
set_option maxRecDepth 20000 in
theorem gX1_once_X1_byAnswer : GoodIn wsX1_once (wsV RX1 32 RX1 yX1_byAnswer wsX1_byAnswer) := goodIn_app (goodIn_of _ (by decide +kernel)) ggX1_once_X1_byAnswer
theorem dX1_once_0 : decode cX1_once 0 = .ok (.iload_n 2, 1) := by decide +kernel
theorem dX1_once_1 : decode cX1_once 1 = .ok (.aload_n 0, 1) := by decide +kernel
theorem dX1_once_2 : decode cX1_once 2 = .ok (.getfield 14, 3) := by decide +kernel
theorem dX1_once_5 : decode cX1_once 5 = .ok (.iconst 2, 1) := by decide +kernel
theorem dX1_once_6 : decode cX1_once 6 = .ok (.idiv, 1) := by decide +kernel
theorem dX1_once_7 : decode cX1_once 7 = .ok (.if_icmp .lt 7, 3) := by decide +kernel
theorem dX1_once_10 : decode cX1_once 10 = .ok (.iconst 1, 1) := by decide +kernel
theorem dX1_once_11 : decode cX1_once 11 = .ok (.goto 4, 3) := by decide +kernel
theorem dX1_once_14 : decode cX1_once 14 = .ok (.iconst 0, 1) := by decide +kernel
theorem dX1_once_15 : decode cX1_once 15 = .ok (.istore_n 3, 1) := by decide +kernel
theorem dX1_once_16 : decode cX1_once 16 = .ok (.iload_n 2, 1) := by decide +kernel
theorem dX1_once_17 : decode cX1_once 17 = .ok (.iconst 2, 1) := by decide +kernel
theorem dX1_once_18 : decode cX1_once 18 = .ok (.irem, 1) := by decide +kernel
theorem dX1_once_19 : decode cX1_once 19 = .ok (.iconst 1, 1) := by decide +kernel
theorem dX1_once_20 : decode cX1_once 20 = .ok (.if_icmp .ne 7, 3) := by decide +kernel
theorem dX1_once_23 : decode cX1_once 23 = .ok (.iconst 1, 1) := by decide +kernel
theorem dX1_once_24 : decode cX1_once 24 = .ok (.goto 4, 3) := by decide +kernel
theorem dX1_once_27 : decode cX1_once 27 = .ok (.iconst 0, 1) := by decide +kernel
theorem dX1_once_28 : decode cX1_once 28 = .ok (.istore 4, 2) := by decide +kernel
theorem dX1_once_30 : decode cX1_once 30 = .ok (.aload_n 0, 1) := by decide +kernel
theorem dX1_once_31 : decode cX1_once 31 = .ok (.iconst 1, 1) := by decide +kernel
theorem dX1_once_32 : decode cX1_once 32 = .ok (.invokevirtual 20, 3) := by decide +kernel
theorem dX1_once_35 : decode cX1_once 35 = .ok (.istore 5, 2) := by decide +kernel
theorem dX1_once_37 : decode cX1_once 37 = .ok (.iload_n 1, 1) := by decide +kernel
theorem dX1_once_38 : decode cX1_once 38 = .ok (.iconst 2, 1) := by decide +kernel
theorem dX1_once_39 : decode cX1_once 39 = .ok (.irem, 1) := by decide +kernel
theorem dX1_once_40 : decode cX1_once 40 = .ok (.ifCond .ne 7, 3) := by decide +kernel
theorem dX1_once_43 : decode cX1_once 43 = .ok (.iconst 1, 1) := by decide +kernel
theorem dX1_once_44 : decode cX1_once 44 = .ok (.goto 4, 3) := by decide +kernel
theorem dX1_once_47 : decode cX1_once 47 = .ok (.iconst 0, 1) := by decide +kernel
theorem dX1_once_48 : decode cX1_once 48 = .ok (.istore 6, 2) := by decide +kernel
theorem dX1_once_50 : decode cX1_once 50 = .ok (.iload_n 1, 1) := by decide +kernel
theorem dX1_once_51 : decode cX1_once 51 = .ok (.ifCond .ne 7, 3) := by decide +kernel
theorem dX1_once_54 : decode cX1_once 54 = .ok (.iload_n 3, 1) := by decide +kernel
theorem dX1_once_55 : decode cX1_once 55 = .ok (.goto 38, 3) := by decide +kernel
theorem dX1_once_58 : decode cX1_once 58 = .ok (.iload_n 1, 1) := by decide +kernel
theorem dX1_once_59 : decode cX1_once 59 = .ok (.iconst 1, 1) := by decide +kernel
theorem dX1_once_60 : decode cX1_once 60 = .ok (.if_icmp .ne 8, 3) := by decide +kernel
theorem dX1_once_63 : decode cX1_once 63 = .ok (.iload 4, 2) := by decide +kernel
theorem dX1_once_65 : decode cX1_once 65 = .ok (.goto 28, 3) := by decide +kernel
theorem dX1_once_68 : decode cX1_once 68 = .ok (.iload_n 1, 1) := by decide +kernel
theorem dX1_once_69 : decode cX1_once 69 = .ok (.iconst 4, 1) := by decide +kernel
theorem dX1_once_70 : decode cX1_once 70 = .ok (.if_icmp .ge 8, 3) := by decide +kernel
theorem dX1_once_73 : decode cX1_once 73 = .ok (.iload 5, 2) := by decide +kernel
theorem dX1_once_75 : decode cX1_once 75 = .ok (.goto 18, 3) := by decide +kernel
theorem dX1_once_78 : decode cX1_once 78 = .ok (.iload_n 1, 1) := by decide +kernel
theorem dX1_once_79 : decode cX1_once 79 = .ok (.bipush 7, 2) := by decide +kernel
theorem dX1_once_81 : decode cX1_once 81 = .ok (.if_icmp .ne 11, 3) := by decide +kernel
theorem dX1_once_84 : decode cX1_once 84 = .ok (.iload_n 3, 1) := by decide +kernel
theorem dX1_once_85 : decode cX1_once 85 = .ok (.ifCond .eq 7, 3) := by decide +kernel
theorem dX1_once_88 : decode cX1_once 88 = .ok (.iconst 1, 1) := by decide +kernel
theorem dX1_once_89 : decode cX1_once 89 = .ok (.goto 4, 3) := by decide +kernel
theorem dX1_once_92 : decode cX1_once 92 = .ok (.iconst 0, 1) := by decide +kernel
theorem dX1_once_93 : decode cX1_once 93 = .ok (.istore 7, 2) := by decide +kernel
theorem dX1_once_95 : decode cX1_once 95 = .ok (.iload 6, 2) := by decide +kernel
theorem dX1_once_97 : decode cX1_once 97 = .ok (.ifCond .eq 25, 3) := by decide +kernel
theorem dX1_once_100 : decode cX1_once 100 = .ok (.iconst 2, 1) := by decide +kernel
theorem dX1_once_101 : decode cX1_once 101 = .ok (.iload_n 2, 1) := by decide +kernel
theorem dX1_once_102 : decode cX1_once 102 = .ok (.imul, 1) := by decide +kernel
theorem dX1_once_103 : decode cX1_once 103 = .ok (.aload_n 0, 1) := by decide +kernel
theorem dX1_once_104 : decode cX1_once 104 = .ok (.getfield 14, 3) := by decide +kernel
theorem dX1_once_107 : decode cX1_once 107 = .ok (.irem, 1) := by decide +kernel
theorem dX1_once_108 : decode cX1_once 108 = .ok (.iload 7, 2) := by decide +kernel
theorem dX1_once_110 : decode cX1_once 110 = .ok (.ifCond .eq 7, 3) := by decide +kernel
theorem dX1_once_113 : decode cX1_once 113 = .ok (.iconst 1, 1) := by decide +kernel
theorem dX1_once_114 : decode cX1_once 114 = .ok (.goto 4, 3) := by decide +kernel
theorem dX1_once_117 : decode cX1_once 117 = .ok (.iconst 0, 1) := by decide +kernel
theorem dX1_once_118 : decode cX1_once 118 = .ok (.iadd, 1) := by decide +kernel
theorem dX1_once_119 : decode cX1_once 119 = .ok (.goto 22, 3) := by decide +kernel
theorem dX1_once_122 : decode cX1_once 122 = .ok (.iload_n 2, 1) := by decide +kernel
theorem dX1_once_123 : decode cX1_once 123 = .ok (.iconst 2, 1) := by decide +kernel
theorem dX1_once_124 : decode cX1_once 124 = .ok (.idiv, 1) := by decide +kernel
theorem dX1_once_125 : decode cX1_once 125 = .ok (.iload 7, 2) := by decide +kernel
theorem dX1_once_127 : decode cX1_once 127 = .ok (.ifCond .eq 12, 3) := by decide +kernel
theorem dX1_once_130 : decode cX1_once 130 = .ok (.aload_n 0, 1) := by decide +kernel
theorem dX1_once_131 : decode cX1_once 131 = .ok (.getfield 14, 3) := by decide +kernel
theorem dX1_once_134 : decode cX1_once 134 = .ok (.iconst 2, 1) := by decide +kernel
theorem dX1_once_135 : decode cX1_once 135 = .ok (.idiv, 1) := by decide +kernel
theorem dX1_once_136 : decode cX1_once 136 = .ok (.goto 4, 3) := by decide +kernel
theorem dX1_once_139 : decode cX1_once 139 = .ok (.iconst 0, 1) := by decide +kernel
theorem dX1_once_140 : decode cX1_once 140 = .ok (.iadd, 1) := by decide +kernel
theorem dX1_once_141 : decode cX1_once 141 = .ok (.istore 8, 2) := by decide +kernel
theorem dX1_once_143 : decode cX1_once 143 = .ok (.aload_n 0, 1) := by decide +kernel
theorem dX1_once_144 : decode cX1_once 144 = .ok (.iconst 1, 1) := by decide +kernel
theorem dX1_once_145 : decode cX1_once 145 = .ok (.iload 6, 2) := by decide +kernel
theorem dX1_once_147 : decode cX1_once 147 = .ok (.ifCond .eq 7, 3) := by decide +kernel
theorem dX1_once_150 : decode cX1_once 150 = .ok (.iload_n 3, 1) := by decide +kernel
theorem dX1_once_151 : decode cX1_once 151 = .ok (.goto 5, 3) := by decide +kernel
theorem dX1_once_154 : decode cX1_once 154 = .ok (.iload 4, 2) := by decide +kernel
theorem dX1_once_156 : decode cX1_once 156 = .ok (.invokevirtual 24, 3) := by decide +kernel
theorem dX1_once_159 : decode cX1_once 159 = .ok (.iload 8, 2) := by decide +kernel
theorem dX1_once_161 : decode cX1_once 161 = .ok (.aload_n 0, 1) := by decide +kernel
theorem dX1_once_162 : decode cX1_once 162 = .ok (.getfield 14, 3) := by decide +kernel
theorem dX1_once_165 : decode cX1_once 165 = .ok (.iconst 2, 1) := by decide +kernel
theorem dX1_once_166 : decode cX1_once 166 = .ok (.idiv, 1) := by decide +kernel
theorem dX1_once_167 : decode cX1_once 167 = .ok (.if_icmp .lt 7, 3) := by decide +kernel
theorem dX1_once_170 : decode cX1_once 170 = .ok (.iconst 1, 1) := by decide +kernel
theorem dX1_once_171 : decode cX1_once 171 = .ok (.goto 4, 3) := by decide +kernel
theorem dX1_once_174 : decode cX1_once 174 = .ok (.iconst 0, 1) := by decide +kernel
theorem dX1_once_175 : decode cX1_once 175 = .ok (.istore 9, 2) := by decide +kernel
theorem dX1_once_177 : decode cX1_once 177 = .ok (.iload 8, 2) := by decide +kernel
theorem dX1_once_179 : decode cX1_once 179 = .ok (.aload_n 0, 1) := by decide +kernel
theorem dX1_once_180 : decode cX1_once 180 = .ok (.getfield 14, 3) := by decide +kernel
theorem dX1_once_183 : decode cX1_once 183 = .ok (.iconst 2, 1) := by decide +kernel
theorem dX1_once_184 : decode cX1_once 184 = .ok (.idiv, 1) := by decide +kernel
theorem dX1_once_185 : decode cX1_once 185 = .ok (.irem, 1) := by decide +kernel
theorem dX1_once_186 : decode cX1_once 186 = .ok (.aload_n 0, 1) := by decide +kernel
theorem dX1_once_187 : decode cX1_once 187 = .ok (.getfield 14, 3) := by decide +kernel
theorem dX1_once_190 : decode cX1_once 190 = .ok (.iconst 4, 1) := by decide +kernel
theorem dX1_once_191 : decode cX1_once 191 = .ok (.idiv, 1) := by decide +kernel
theorem dX1_once_192 : decode cX1_once 192 = .ok (.if_icmp .lt 7, 3) := by decide +kernel
theorem dX1_once_195 : decode cX1_once 195 = .ok (.iconst 1, 1) := by decide +kernel
theorem dX1_once_196 : decode cX1_once 196 = .ok (.goto 4, 3) := by decide +kernel
theorem dX1_once_199 : decode cX1_once 199 = .ok (.iconst 0, 1) := by decide +kernel
theorem dX1_once_200 : decode cX1_once 200 = .ok (.istore 10, 2) := by decide +kernel
theorem dX1_once_202 : decode cX1_once 202 = .ok (.aload_n 0, 1) := by decide +kernel
theorem dX1_once_203 : decode cX1_once 203 = .ok (.sipush 2048, 3) := by decide +kernel
theorem dX1_once_206 : decode cX1_once 206 = .ok (.iload 6, 2) := by decide +kernel
theorem dX1_once_208 : decode cX1_once 208 = .ok (.ifCond .eq 21, 3) := by decide +kernel
theorem dX1_once_211 : decode cX1_once 211 = .ok (.aload_n 0, 1) := by decide +kernel
theorem dX1_once_212 : decode cX1_once 212 = .ok (.iconst 1, 1) := by decide +kernel
theorem dX1_once_213 : decode cX1_once 213 = .ok (.invokevirtual 20, 3) := by decide +kernel
theorem dX1_once_216 : decode cX1_once 216 = .ok (.iload 9, 2) := by decide +kernel
theorem dX1_once_218 : decode cX1_once 218 = .ok (.if_icmp .eq 7, 3) := by decide +kernel
theorem dX1_once_221 : decode cX1_once 221 = .ok (.iconst 1, 1) := by decide +kernel
theorem dX1_once_222 : decode cX1_once 222 = .ok (.goto 41, 3) := by decide +kernel
theorem dX1_once_225 : decode cX1_once 225 = .ok (.iconst 0, 1) := by decide +kernel
theorem dX1_once_226 : decode cX1_once 226 = .ok (.goto 37, 3) := by decide +kernel
theorem dX1_once_229 : decode cX1_once 229 = .ok (.iload_n 1, 1) := by decide +kernel
theorem dX1_once_230 : decode cX1_once 230 = .ok (.iconst 4, 1) := by decide +kernel
theorem dX1_once_231 : decode cX1_once 231 = .ok (.if_icmp .ge 18, 3) := by decide +kernel
theorem dX1_once_234 : decode cX1_once 234 = .ok (.iload 9, 2) := by decide +kernel
theorem dX1_once_236 : decode cX1_once 236 = .ok (.iload 10, 2) := by decide +kernel
theorem dX1_once_238 : decode cX1_once 238 = .ok (.if_icmp .eq 7, 3) := by decide +kernel
theorem dX1_once_241 : decode cX1_once 241 = .ok (.iconst 1, 1) := by decide +kernel
theorem dX1_once_242 : decode cX1_once 242 = .ok (.goto 21, 3) := by decide +kernel
theorem dX1_once_245 : decode cX1_once 245 = .ok (.iconst 0, 1) := by decide +kernel
theorem dX1_once_246 : decode cX1_once 246 = .ok (.goto 17, 3) := by decide +kernel
theorem dX1_once_249 : decode cX1_once 249 = .ok (.iload_n 1, 1) := by decide +kernel
theorem dX1_once_250 : decode cX1_once 250 = .ok (.iconst 5, 1) := by decide +kernel
theorem dX1_once_251 : decode cX1_once 251 = .ok (.if_icmp .ne 11, 3) := by decide +kernel
theorem dX1_once_254 : decode cX1_once 254 = .ok (.iload_n 3, 1) := by decide +kernel
theorem dX1_once_255 : decode cX1_once 255 = .ok (.ifCond .eq 7, 3) := by decide +kernel
theorem dX1_once_258 : decode cX1_once 258 = .ok (.iconst 1, 1) := by decide +kernel
theorem dX1_once_259 : decode cX1_once 259 = .ok (.goto 4, 3) := by decide +kernel
theorem dX1_once_262 : decode cX1_once 262 = .ok (.iconst 0, 1) := by decide +kernel
theorem dX1_once_263 : decode cX1_once 263 = .ok (.invokevirtual 24, 3) := by decide +kernel
theorem dX1_once_266 : decode cX1_once 266 = .ok (.iload_n 1, 1) := by decide +kernel
theorem dX1_once_267 : decode cX1_once 267 = .ok (.iconst 3, 1) := by decide +kernel
theorem dX1_once_268 : decode cX1_once 268 = .ok (.if_icmp .le 9, 3) := by decide +kernel
theorem dX1_once_271 : decode cX1_once 271 = .ok (.aload_n 0, 1) := by decide +kernel
theorem dX1_once_272 : decode cX1_once 272 = .ok (.iload 8, 2) := by decide +kernel
theorem dX1_once_274 : decode cX1_once 274 = .ok (.invokevirtual 32, 3) := by decide +kernel
theorem dX1_once_277 : decode cX1_once 277 = .ok (.iload 8, 2) := by decide +kernel
theorem dX1_once_279 : decode cX1_once 279 = .ok (.ireturn, 1) := by decide +kernel
set_option maxRecDepth 20000 in
theorem ggX1_shift_X1_length : GoodIn wsX1_shift wsX1_length := goodIn_r _ [6, 7, 8, 30, 31, 32] (by decide +kernel) (by decide +kernel)
set_option maxRecDepth 20000 in
theorem gX1_shift_X1_length : GoodIn wsX1_shift (wsV RX1 36 RX1 yX1_length wsX1_length) := goodIn_app (goodIn_of _ (by decide +kernel)) ggX1_shift_X1_length
set_option maxRecDepth 20000 in
theorem ggX1_shift_X1_operand : GoodIn wsX1_shift wsX1_operand := goodIn_r _ [12, 8, 30, 31, 32] (by decide +kernel) (by decide +kernel)
set_option maxRecDepth 20000 in
theorem gX1_shift_X1_operand : GoodIn wsX1_shift (wsV RX1 40 RX1 yX1_operand wsX1_operand) := goodIn_app (goodIn_of _ (by decide +kernel)) ggX1_shift_X1_operand
set_option maxRecDepth 20000 in
theorem ggX1_shift_X1_once : GoodIn wsX1_shift wsX1_once := goodIn_ca (goodIn_r _ [16, 8, 17, 18, 19, 5, 20, 21, 22, 23, 24, 25, 26, 27, 28, 29, 30, 31, 32] (by decide +kernel) (by decide +kernel)) (goodIn_sub (fun _ h => List.mem_cons_of_mem _ (List.mem_append_right _ h)) (by decide +kernel))
set_option maxRecDepth 20000 in
theorem gX1_shift_X1_once : GoodIn wsX1_shift (wsV RX1 53 RX1 yX1_once wsX1_once) := goodIn_app (goodIn_of _ (by decide +kernel)) ggX1_shift_X1_once
theorem dX1_shift_0 : decode cX1_shift 0 = .ok (.aload_n 0, 1) := by decide +kernel
theorem dX1_shift_1 : decode cX1_shift 1 = .ok (.iload_n 1, 1) := by decide +kernel
theorem dX1_shift_2 : decode cX1_shift 2 = .ok (.ifCond .lt 22, 3) := by decide +kernel
theorem dX1_shift_5 : decode cX1_shift 5 = .ok (.iload_n 1, 1) := by decide +kernel
theorem dX1_shift_6 : decode cX1_shift 6 = .ok (.bipush 7, 2) := by decide +kernel
theorem dX1_shift_8 : decode cX1_shift 8 = .ok (.if_icmp .gt 16, 3) := by decide +kernel
theorem dX1_shift_11 : decode cX1_shift 11 = .ok (.iload 4, 2) := by decide +kernel
theorem dX1_shift_13 : decode cX1_shift 13 = .ok (.ifCond .lt 11, 3) := by decide +kernel
theorem dX1_shift_16 : decode cX1_shift 16 = .ok (.iload 4, 2) := by decide +kernel
theorem dX1_shift_18 : decode cX1_shift 18 = .ok (.sipush 255, 3) := by decide +kernel
theorem dX1_shift_21 : decode cX1_shift 21 = .ok (.if_icmp .le 7, 3) := by decide +kernel
theorem dX1_shift_24 : decode cX1_shift 24 = .ok (.iconst 1, 1) := by decide +kernel
theorem dX1_shift_25 : decode cX1_shift 25 = .ok (.goto 4, 3) := by decide +kernel
theorem dX1_shift_28 : decode cX1_shift 28 = .ok (.iconst 0, 1) := by decide +kernel
theorem dX1_shift_29 : decode cX1_shift 29 = .ok (.putfield 7, 3) := by decide +kernel
theorem dX1_shift_32 : decode cX1_shift 32 = .ok (.aload_n 0, 1) := by decide +kernel
theorem dX1_shift_33 : decode cX1_shift 33 = .ok (.getfield 7, 3) := by decide +kernel
theorem dX1_shift_36 : decode cX1_shift 36 = .ok (.ifCond .le 5, 3) := by decide +kernel
theorem dX1_shift_39 : decode cX1_shift 39 = .ok (.iconst 0, 1) := by decide +kernel
theorem dX1_shift_40 : decode cX1_shift 40 = .ok (.ireturn, 1) := by decide +kernel
theorem dX1_shift_41 : decode cX1_shift 41 = .ok (.aload_n 0, 1) := by decide +kernel
theorem dX1_shift_42 : decode cX1_shift 42 = .ok (.iload_n 2, 1) := by decide +kernel
theorem dX1_shift_43 : decode cX1_shift 43 = .ok (.invokevirtual 36, 3) := by decide +kernel
theorem dX1_shift_46 : decode cX1_shift 46 = .ok (.aload_n 0, 1) := by decide +kernel
theorem dX1_shift_47 : decode cX1_shift 47 = .ok (.iload_n 3, 1) := by decide +kernel
theorem dX1_shift_48 : decode cX1_shift 48 = .ok (.invokevirtual 40, 3) := by decide +kernel
theorem dX1_shift_51 : decode cX1_shift 51 = .ok (.istore 5, 2) := by decide +kernel
theorem dX1_shift_53 : decode cX1_shift 53 = .ok (.iconst 0, 1) := by decide +kernel
theorem dX1_shift_54 : decode cX1_shift 54 = .ok (.istore 6, 2) := by decide +kernel
theorem dX1_shift_56 : decode cX1_shift 56 = .ok (.iload 6, 2) := by decide +kernel
theorem dX1_shift_58 : decode cX1_shift 58 = .ok (.iload 4, 2) := by decide +kernel
theorem dX1_shift_60 : decode cX1_shift 60 = .ok (.if_icmp .ge 18, 3) := by decide +kernel
theorem dX1_shift_63 : decode cX1_shift 63 = .ok (.aload_n 0, 1) := by decide +kernel
theorem dX1_shift_64 : decode cX1_shift 64 = .ok (.iload_n 1, 1) := by decide +kernel
theorem dX1_shift_65 : decode cX1_shift 65 = .ok (.iload 5, 2) := by decide +kernel
theorem dX1_shift_67 : decode cX1_shift 67 = .ok (.invokevirtual 53, 3) := by decide +kernel
theorem dX1_shift_70 : decode cX1_shift 70 = .ok (.istore 5, 2) := by decide +kernel
theorem dX1_shift_72 : decode cX1_shift 72 = .ok (.iinc 6 1, 3) := by decide +kernel
theorem dX1_shift_75 : decode cX1_shift 75 = .ok (.goto (-19), 3) := by decide +kernel
theorem dX1_shift_78 : decode cX1_shift 78 = .ok (.iload 5, 2) := by decide +kernel
theorem dX1_shift_80 : decode cX1_shift 80 = .ok (.ireturn, 1) := by decide +kernel
set_option maxRecDepth 20000 in
theorem ggX1_multiply_X1_length : GoodIn wsX1_multiply wsX1_length := goodIn_r _ [7, 8, 2, 26, 27, 28] (by decide +kernel) (by decide +kernel)
set_option maxRecDepth 20000 in
theorem gX1_multiply_X1_length : GoodIn wsX1_multiply (wsV RX1 36 RX1 yX1_length wsX1_length) := goodIn_app (goodIn_of _ (by decide +kernel)) ggX1_multiply_X1_length
set_option maxRecDepth 20000 in
theorem ggX1_multiply_X1_operand : GoodIn wsX1_multiply wsX1_operand := goodIn_r _ [12, 2, 26, 27, 28] (by decide +kernel) (by decide +kernel)
set_option maxRecDepth 20000 in
theorem gX1_multiply_X1_operand : GoodIn wsX1_multiply (wsV RX1 40 RX1 yX1_operand wsX1_operand) := goodIn_app (goodIn_of _ (by decide +kernel)) ggX1_multiply_X1_operand
set_option maxRecDepth 20000 in
theorem ggX1_multiply_X1_signed : GoodIn wsX1_multiply wsX1_signed := goodIn_r _ [16, 2, 26, 27, 28] (by decide +kernel) (by decide +kernel)
set_option maxRecDepth 20000 in
theorem gX1_multiply_X1_signed : GoodIn wsX1_multiply (wsV RX1 28 RX1 yX1_signed wsX1_signed) := goodIn_app (goodIn_of _ (by decide +kernel)) ggX1_multiply_X1_signed
set_option maxRecDepth 20000 in
theorem ggX1_multiply_X1_put : GoodIn wsX1_multiply wsX1_put := goodIn_ca (goodIn_r _ [20, 21, 22, 23, 24, 6, 25, 26, 27, 28] (by decide +kernel) (by decide +kernel)) (goodIn_sub (fun _ h => List.mem_cons_of_mem _ (List.mem_append_right _ h)) (by decide +kernel))
set_option maxRecDepth 20000 in
theorem gX1_multiply_X1_put : GoodIn wsX1_multiply (wsV RX1 24 RX1 yX1_put wsX1_put) := goodIn_app (goodIn_of _ (by decide +kernel)) ggX1_multiply_X1_put
theorem dX1_multiply_0 : decode cX1_multiply 0 = .ok (.aload_n 0, 1) := by decide +kernel
theorem dX1_multiply_1 : decode cX1_multiply 1 = .ok (.iconst 0, 1) := by decide +kernel
theorem dX1_multiply_2 : decode cX1_multiply 2 = .ok (.putfield 7, 3) := by decide +kernel
theorem dX1_multiply_5 : decode cX1_multiply 5 = .ok (.aload_n 0, 1) := by decide +kernel
theorem dX1_multiply_6 : decode cX1_multiply 6 = .ok (.iload_n 1, 1) := by decide +kernel
theorem dX1_multiply_7 : decode cX1_multiply 7 = .ok (.invokevirtual 36, 3) := by decide +kernel
theorem dX1_multiply_10 : decode cX1_multiply 10 = .ok (.aload_n 0, 1) := by decide +kernel
theorem dX1_multiply_11 : decode cX1_multiply 11 = .ok (.iload_n 3, 1) := by decide +kernel
theorem dX1_multiply_12 : decode cX1_multiply 12 = .ok (.invokevirtual 40, 3) := by decide +kernel
theorem dX1_multiply_15 : decode cX1_multiply 15 = .ok (.istore 5, 2) := by decide +kernel
theorem dX1_multiply_17 : decode cX1_multiply 17 = .ok (.aload_n 0, 1) := by decide +kernel
theorem dX1_multiply_18 : decode cX1_multiply 18 = .ok (.iload 4, 2) := by decide +kernel
theorem dX1_multiply_20 : decode cX1_multiply 20 = .ok (.invokevirtual 40, 3) := by decide +kernel
theorem dX1_multiply_23 : decode cX1_multiply 23 = .ok (.istore 6, 2) := by decide +kernel
theorem dX1_multiply_25 : decode cX1_multiply 25 = .ok (.iload_n 2, 1) := by decide +kernel
theorem dX1_multiply_26 : decode cX1_multiply 26 = .ok (.ifCond .eq 21, 3) := by decide +kernel
theorem dX1_multiply_29 : decode cX1_multiply 29 = .ok (.aload_n 0, 1) := by decide +kernel
theorem dX1_multiply_30 : decode cX1_multiply 30 = .ok (.iload 5, 2) := by decide +kernel
theorem dX1_multiply_32 : decode cX1_multiply 32 = .ok (.invokevirtual 28, 3) := by decide +kernel
theorem dX1_multiply_35 : decode cX1_multiply 35 = .ok (.i2l, 1) := by decide +kernel
theorem dX1_multiply_36 : decode cX1_multiply 36 = .ok (.aload_n 0, 1) := by decide +kernel
theorem dX1_multiply_37 : decode cX1_multiply 37 = .ok (.iload 6, 2) := by decide +kernel
theorem dX1_multiply_39 : decode cX1_multiply 39 = .ok (.invokevirtual 28, 3) := by decide +kernel
theorem dX1_multiply_42 : decode cX1_multiply 42 = .ok (.i2l, 1) := by decide +kernel
theorem dX1_multiply_43 : decode cX1_multiply 43 = .ok (.lmul, 1) := by decide +kernel
theorem dX1_multiply_44 : decode cX1_multiply 44 = .ok (.goto 10, 3) := by decide +kernel
theorem dX1_multiply_47 : decode cX1_multiply 47 = .ok (.iload 5, 2) := by decide +kernel
theorem dX1_multiply_49 : decode cX1_multiply 49 = .ok (.i2l, 1) := by decide +kernel
theorem dX1_multiply_50 : decode cX1_multiply 50 = .ok (.iload 6, 2) := by decide +kernel
theorem dX1_multiply_52 : decode cX1_multiply 52 = .ok (.i2l, 1) := by decide +kernel
theorem dX1_multiply_53 : decode cX1_multiply 53 = .ok (.lmul, 1) := by decide +kernel
theorem dX1_multiply_54 : decode cX1_multiply 54 = .ok (.lstore 7, 2) := by decide +kernel
theorem dX1_multiply_56 : decode cX1_multiply 56 = .ok (.aload_n 0, 1) := by decide +kernel
theorem dX1_multiply_57 : decode cX1_multiply 57 = .ok (.getfield 14, 3) := by decide +kernel
theorem dX1_multiply_60 : decode cX1_multiply 60 = .ok (.i2l, 1) := by decide +kernel
theorem dX1_multiply_61 : decode cX1_multiply 61 = .ok (.aload_n 0, 1) := by decide +kernel
theorem dX1_multiply_62 : decode cX1_multiply 62 = .ok (.getfield 14, 3) := by decide +kernel
theorem dX1_multiply_65 : decode cX1_multiply 65 = .ok (.i2l, 1) := by decide +kernel
theorem dX1_multiply_66 : decode cX1_multiply 66 = .ok (.lmul, 1) := by decide +kernel
theorem dX1_multiply_67 : decode cX1_multiply 67 = .ok (.lstore 9, 2) := by decide +kernel
theorem dX1_multiply_69 : decode cX1_multiply 69 = .ok (.lload 7, 2) := by decide +kernel
theorem dX1_multiply_71 : decode cX1_multiply 71 = .ok (.lconst 0, 1) := by decide +kernel
theorem dX1_multiply_72 : decode cX1_multiply 72 = .ok (.lcmp, 1) := by decide +kernel
theorem dX1_multiply_73 : decode cX1_multiply 73 = .ok (.ifCond .ge 11, 3) := by decide +kernel
theorem dX1_multiply_76 : decode cX1_multiply 76 = .ok (.lload 7, 2) := by decide +kernel
theorem dX1_multiply_78 : decode cX1_multiply 78 = .ok (.lload 9, 2) := by decide +kernel
theorem dX1_multiply_80 : decode cX1_multiply 80 = .ok (.ladd, 1) := by decide +kernel
theorem dX1_multiply_81 : decode cX1_multiply 81 = .ok (.goto 5, 3) := by decide +kernel
theorem dX1_multiply_84 : decode cX1_multiply 84 = .ok (.lload 7, 2) := by decide +kernel
theorem dX1_multiply_86 : decode cX1_multiply 86 = .ok (.lstore 11, 2) := by decide +kernel
theorem dX1_multiply_88 : decode cX1_multiply 88 = .ok (.lload 11, 2) := by decide +kernel
theorem dX1_multiply_90 : decode cX1_multiply 90 = .ok (.aload_n 0, 1) := by decide +kernel
theorem dX1_multiply_91 : decode cX1_multiply 91 = .ok (.getfield 14, 3) := by decide +kernel
theorem dX1_multiply_94 : decode cX1_multiply 94 = .ok (.i2l, 1) := by decide +kernel
theorem dX1_multiply_95 : decode cX1_multiply 95 = .ok (.lrem, 1) := by decide +kernel
theorem dX1_multiply_96 : decode cX1_multiply 96 = .ok (.l2i, 1) := by decide +kernel
theorem dX1_multiply_97 : decode cX1_multiply 97 = .ok (.istore 13, 2) := by decide +kernel
theorem dX1_multiply_99 : decode cX1_multiply 99 = .ok (.lload 7, 2) := by decide +kernel
theorem dX1_multiply_101 : decode cX1_multiply 101 = .ok (.iload_n 2, 1) := by decide +kernel
theorem dX1_multiply_102 : decode cX1_multiply 102 = .ok (.ifCond .eq 12, 3) := by decide +kernel
theorem dX1_multiply_105 : decode cX1_multiply 105 = .ok (.aload_n 0, 1) := by decide +kernel
theorem dX1_multiply_106 : decode cX1_multiply 106 = .ok (.iload 13, 2) := by decide +kernel
theorem dX1_multiply_108 : decode cX1_multiply 108 = .ok (.invokevirtual 28, 3) := by decide +kernel
theorem dX1_multiply_111 : decode cX1_multiply 111 = .ok (.goto 5, 3) := by decide +kernel
theorem dX1_multiply_114 : decode cX1_multiply 114 = .ok (.iload 13, 2) := by decide +kernel
theorem dX1_multiply_116 : decode cX1_multiply 116 = .ok (.i2l, 1) := by decide +kernel
theorem dX1_multiply_117 : decode cX1_multiply 117 = .ok (.lcmp, 1) := by decide +kernel
theorem dX1_multiply_118 : decode cX1_multiply 118 = .ok (.ifCond .eq 7, 3) := by decide +kernel
theorem dX1_multiply_121 : decode cX1_multiply 121 = .ok (.iconst 1, 1) := by decide +kernel
theorem dX1_multiply_122 : decode cX1_multiply 122 = .ok (.goto 4, 3) := by decide +kernel
theorem dX1_multiply_125 : decode cX1_multiply 125 = .ok (.iconst 0, 1) := by decide +kernel
theorem dX1_multiply_126 : decode cX1_multiply 126 = .ok (.istore 14, 2) := by decide +kernel
theorem dX1_multiply_128 : decode cX1_multiply 128 = .ok (.aload_n 0, 1) := by decide +kernel
theorem dX1_multiply_129 : decode cX1_multiply 129 = .ok (.iconst 1, 1) := by decide +kernel
theorem dX1_multiply_130 : decode cX1_multiply 130 = .ok (.iload 14, 2) := by decide +kernel
theorem dX1_multiply_132 : decode cX1_multiply 132 = .ok (.invokevirtual 24, 3) := by decide +kernel
theorem dX1_multiply_135 : decode cX1_multiply 135 = .ok (.aload_n 0, 1) := by decide +kernel
theorem dX1_multiply_136 : decode cX1_multiply 136 = .ok (.sipush 2048, 3) := by decide +kernel
theorem dX1_multiply_139 : decode cX1_multiply 139 = .ok (.iload 14, 2) := by decide +kernel
theorem dX1_multiply_141 : decode cX1_multiply 141 = .ok (.invokevirtual 24, 3) := by decide +kernel
theorem dX1_multiply_144 : decode cX1_multiply 144 = .ok (.lload 11, 2) := by decide +kernel
theorem dX1_multiply_146 : decode cX1_multiply 146 = .ok (.l2i, 1) := by decide +kernel
theorem dX1_multiply_147 : decode cX1_multiply 147 = .ok (.ireturn, 1) := by decide +kernel
set_option maxRecDepth 20000 in
theorem ggX1_divide_X1_length : GoodIn wsX1_divide wsX1_length := goodIn_r _ [8, 9, 1, 18, 19, 20] (by decide +kernel) (by decide +kernel)
set_option maxRecDepth 20000 in
theorem gX1_divide_X1_length : GoodIn wsX1_divide (wsV RX1 36 RX1 yX1_length wsX1_length) := goodIn_app (goodIn_of _ (by decide +kernel)) ggX1_divide_X1_length
set_option maxRecDepth 20000 in
theorem ggX1_divide_X1_operand : GoodIn wsX1_divide wsX1_operand := goodIn_r _ [13, 1, 18, 19, 20] (by decide +kernel) (by decide +kernel)
set_option maxRecDepth 20000 in
theorem gX1_divide_X1_operand : GoodIn wsX1_divide (wsV RX1 40 RX1 yX1_operand wsX1_operand) := goodIn_app (goodIn_of _ (by decide +kernel)) ggX1_divide_X1_operand
set_option maxRecDepth 20000 in
theorem ggX1_divide_X1_signed : GoodIn wsX1_divide wsX1_signed := goodIn_r _ [17, 1, 18, 19, 20] (by decide +kernel) (by decide +kernel)
set_option maxRecDepth 20000 in
theorem gX1_divide_X1_signed : GoodIn wsX1_divide (wsV RX1 28 RX1 yX1_signed wsX1_signed) := goodIn_app (goodIn_of _ (by decide +kernel)) ggX1_divide_X1_signed
theorem dX1_divide_0 : decode cX1_divide 0 = .ok (.aload_n 0, 1) := by decide +kernel
theorem dX1_divide_1 : decode cX1_divide 1 = .ok (.iload_n 1, 1) := by decide +kernel
theorem dX1_divide_2 : decode cX1_divide 2 = .ok (.invokevirtual 36, 3) := by decide +kernel
theorem dX1_divide_5 : decode cX1_divide 5 = .ok (.aload_n 0, 1) := by decide +kernel
theorem dX1_divide_6 : decode cX1_divide 6 = .ok (.getfield 14, 3) := by decide +kernel
theorem dX1_divide_9 : decode cX1_divide 9 = .ok (.i2l, 1) := by decide +kernel
theorem dX1_divide_10 : decode cX1_divide 10 = .ok (.aload_n 0, 1) := by decide +kernel
theorem dX1_divide_11 : decode cX1_divide 11 = .ok (.getfield 14, 3) := by decide +kernel
theorem dX1_divide_14 : decode cX1_divide 14 = .ok (.i2l, 1) := by decide +kernel
theorem dX1_divide_15 : decode cX1_divide 15 = .ok (.lmul, 1) := by decide +kernel
theorem dX1_divide_16 : decode cX1_divide 16 = .ok (.lstore 5, 2) := by decide +kernel
theorem dX1_divide_18 : decode cX1_divide 18 = .ok (.iload_n 3, 1) := by decide +kernel
theorem dX1_divide_19 : decode cX1_divide 19 = .ok (.i2l, 1) := by decide +kernel
theorem dX1_divide_20 : decode cX1_divide 20 = .ok (.lload 5, 2) := by decide +kernel
theorem dX1_divide_22 : decode cX1_divide 22 = .ok (.lconst 1, 1) := by decide +kernel
theorem dX1_divide_23 : decode cX1_divide 23 = .ok (.lsub, 1) := by decide +kernel
theorem dX1_divide_24 : decode cX1_divide 24 = .ok (.land, 1) := by decide +kernel
theorem dX1_divide_25 : decode cX1_divide 25 = .ok (.lstore 7, 2) := by decide +kernel
theorem dX1_divide_27 : decode cX1_divide 27 = .ok (.iload_n 2, 1) := by decide +kernel
theorem dX1_divide_28 : decode cX1_divide 28 = .ok (.ifCond .eq 23, 3) := by decide +kernel
theorem dX1_divide_31 : decode cX1_divide 31 = .ok (.lload 7, 2) := by decide +kernel
theorem dX1_divide_33 : decode cX1_divide 33 = .ok (.lload 5, 2) := by decide +kernel
theorem dX1_divide_35 : decode cX1_divide 35 = .ok (.ldc2_w 57, 3) := by decide +kernel
theorem dX1_divide_38 : decode cX1_divide 38 = .ok (.ldiv, 1) := by decide +kernel
theorem dX1_divide_39 : decode cX1_divide 39 = .ok (.lcmp, 1) := by decide +kernel
theorem dX1_divide_40 : decode cX1_divide 40 = .ok (.ifCond .lt 11, 3) := by decide +kernel
theorem dX1_divide_43 : decode cX1_divide 43 = .ok (.lload 7, 2) := by decide +kernel
theorem dX1_divide_45 : decode cX1_divide 45 = .ok (.lload 5, 2) := by decide +kernel
theorem dX1_divide_47 : decode cX1_divide 47 = .ok (.lsub, 1) := by decide +kernel
theorem dX1_divide_48 : decode cX1_divide 48 = .ok (.goto 5, 3) := by decide +kernel
theorem dX1_divide_51 : decode cX1_divide 51 = .ok (.lload 7, 2) := by decide +kernel
theorem dX1_divide_53 : decode cX1_divide 53 = .ok (.lstore 7, 2) := by decide +kernel
theorem dX1_divide_55 : decode cX1_divide 55 = .ok (.aload_n 0, 1) := by decide +kernel
theorem dX1_divide_56 : decode cX1_divide 56 = .ok (.iload 4, 2) := by decide +kernel
theorem dX1_divide_58 : decode cX1_divide 58 = .ok (.invokevirtual 40, 3) := by decide +kernel
theorem dX1_divide_61 : decode cX1_divide 61 = .ok (.istore 9, 2) := by decide +kernel
theorem dX1_divide_63 : decode cX1_divide 63 = .ok (.iload_n 2, 1) := by decide +kernel
theorem dX1_divide_64 : decode cX1_divide 64 = .ok (.ifCond .eq 13, 3) := by decide +kernel
theorem dX1_divide_67 : decode cX1_divide 67 = .ok (.aload_n 0, 1) := by decide +kernel
theorem dX1_divide_68 : decode cX1_divide 68 = .ok (.iload 9, 2) := by decide +kernel
theorem dX1_divide_70 : decode cX1_divide 70 = .ok (.invokevirtual 28, 3) := by decide +kernel
theorem dX1_divide_73 : decode cX1_divide 73 = .ok (.i2l, 1) := by decide +kernel
theorem dX1_divide_74 : decode cX1_divide 74 = .ok (.goto 6, 3) := by decide +kernel
theorem dX1_divide_77 : decode cX1_divide 77 = .ok (.iload 9, 2) := by decide +kernel
theorem dX1_divide_79 : decode cX1_divide 79 = .ok (.i2l, 1) := by decide +kernel
theorem dX1_divide_80 : decode cX1_divide 80 = .ok (.lstore 10, 2) := by decide +kernel
theorem dX1_divide_82 : decode cX1_divide 82 = .ok (.lload 10, 2) := by decide +kernel
theorem dX1_divide_84 : decode cX1_divide 84 = .ok (.lconst 0, 1) := by decide +kernel
theorem dX1_divide_85 : decode cX1_divide 85 = .ok (.lcmp, 1) := by decide +kernel
theorem dX1_divide_86 : decode cX1_divide 86 = .ok (.ifCond .ne 7, 3) := by decide +kernel
theorem dX1_divide_89 : decode cX1_divide 89 = .ok (.lconst 0, 1) := by decide +kernel
theorem dX1_divide_90 : decode cX1_divide 90 = .ok (.goto 8, 3) := by decide +kernel
theorem dX1_divide_93 : decode cX1_divide 93 = .ok (.lload 7, 2) := by decide +kernel
theorem dX1_divide_95 : decode cX1_divide 95 = .ok (.lload 10, 2) := by decide +kernel
theorem dX1_divide_97 : decode cX1_divide 97 = .ok (.ldiv, 1) := by decide +kernel
theorem dX1_divide_98 : decode cX1_divide 98 = .ok (.lstore 12, 2) := by decide +kernel
theorem dX1_divide_100 : decode cX1_divide 100 = .ok (.lload 10, 2) := by decide +kernel
theorem dX1_divide_102 : decode cX1_divide 102 = .ok (.lconst 0, 1) := by decide +kernel
theorem dX1_divide_103 : decode cX1_divide 103 = .ok (.lcmp, 1) := by decide +kernel
theorem dX1_divide_104 : decode cX1_divide 104 = .ok (.ifCond .eq 52, 3) := by decide +kernel
theorem dX1_divide_107 : decode cX1_divide 107 = .ok (.iload_n 2, 1) := by decide +kernel
theorem dX1_divide_108 : decode cX1_divide 108 = .ok (.ifCond .eq 33, 3) := by decide +kernel
theorem dX1_divide_111 : decode cX1_divide 111 = .ok (.lload 12, 2) := by decide +kernel
theorem dX1_divide_113 : decode cX1_divide 113 = .ok (.aload_n 0, 1) := by decide +kernel
theorem dX1_divide_114 : decode cX1_divide 114 = .ok (.getfield 14, 3) := by decide +kernel
theorem dX1_divide_117 : decode cX1_divide 117 = .ok (.iconst 2, 1) := by decide +kernel
theorem dX1_divide_118 : decode cX1_divide 118 = .ok (.idiv, 1) := by decide +kernel
theorem dX1_divide_119 : decode cX1_divide 119 = .ok (.i2l, 1) := by decide +kernel
theorem dX1_divide_120 : decode cX1_divide 120 = .ok (.lcmp, 1) := by decide +kernel
theorem dX1_divide_121 : decode cX1_divide 121 = .ok (.ifCond .ge 35, 3) := by decide +kernel
theorem dX1_divide_124 : decode cX1_divide 124 = .ok (.lload 12, 2) := by decide +kernel
theorem dX1_divide_126 : decode cX1_divide 126 = .ok (.aload_n 0, 1) := by decide +kernel
theorem dX1_divide_127 : decode cX1_divide 127 = .ok (.getfield 14, 3) := by decide +kernel
theorem dX1_divide_130 : decode cX1_divide 130 = .ok (.ineg, 1) := by decide +kernel
theorem dX1_divide_131 : decode cX1_divide 131 = .ok (.iconst 2, 1) := by decide +kernel
theorem dX1_divide_132 : decode cX1_divide 132 = .ok (.idiv, 1) := by decide +kernel
theorem dX1_divide_133 : decode cX1_divide 133 = .ok (.i2l, 1) := by decide +kernel
theorem dX1_divide_134 : decode cX1_divide 134 = .ok (.lcmp, 1) := by decide +kernel
theorem dX1_divide_135 : decode cX1_divide 135 = .ok (.ifCond .le 21, 3) := by decide +kernel
theorem dX1_divide_138 : decode cX1_divide 138 = .ok (.goto 14, 3) := by decide +kernel
theorem dX1_divide_141 : decode cX1_divide 141 = .ok (.lload 12, 2) := by decide +kernel
theorem dX1_divide_143 : decode cX1_divide 143 = .ok (.aload_n 0, 1) := by decide +kernel
theorem dX1_divide_144 : decode cX1_divide 144 = .ok (.getfield 14, 3) := by decide +kernel
theorem dX1_divide_147 : decode cX1_divide 147 = .ok (.i2l, 1) := by decide +kernel
theorem dX1_divide_148 : decode cX1_divide 148 = .ok (.lcmp, 1) := by decide +kernel
theorem dX1_divide_149 : decode cX1_divide 149 = .ok (.ifCond .ge 7, 3) := by decide +kernel
theorem dX1_divide_152 : decode cX1_divide 152 = .ok (.iconst 1, 1) := by decide +kernel
theorem dX1_divide_153 : decode cX1_divide 153 = .ok (.goto 4, 3) := by decide +kernel
theorem dX1_divide_156 : decode cX1_divide 156 = .ok (.iconst 0, 1) := by decide +kernel
theorem dX1_divide_157 : decode cX1_divide 157 = .ok (.istore 14, 2) := by decide +kernel
theorem dX1_divide_159 : decode cX1_divide 159 = .ok (.aload_n 0, 1) := by decide +kernel
theorem dX1_divide_160 : decode cX1_divide 160 = .ok (.iload 14, 2) := by decide +kernel
theorem dX1_divide_162 : decode cX1_divide 162 = .ok (.ifCond .eq 7, 3) := by decide +kernel
theorem dX1_divide_165 : decode cX1_divide 165 = .ok (.iconst 0, 1) := by decide +kernel
theorem dX1_divide_166 : decode cX1_divide 166 = .ok (.goto 4, 3) := by decide +kernel
theorem dX1_divide_169 : decode cX1_divide 169 = .ok (.iconst 1, 1) := by decide +kernel
theorem dX1_divide_170 : decode cX1_divide 170 = .ok (.putfield 7, 3) := by decide +kernel
theorem dX1_divide_173 : decode cX1_divide 173 = .ok (.aload_n 0, 1) := by decide +kernel
theorem dX1_divide_174 : decode cX1_divide 174 = .ok (.getfield 7, 3) := by decide +kernel
theorem dX1_divide_177 : decode cX1_divide 177 = .ok (.ifCond .le 5, 3) := by decide +kernel
theorem dX1_divide_180 : decode cX1_divide 180 = .ok (.iconst 0, 1) := by decide +kernel
theorem dX1_divide_181 : decode cX1_divide 181 = .ok (.ireturn, 1) := by decide +kernel
theorem dX1_divide_182 : decode cX1_divide 182 = .ok (.lload 7, 2) := by decide +kernel
theorem dX1_divide_184 : decode cX1_divide 184 = .ok (.lload 12, 2) := by decide +kernel
theorem dX1_divide_186 : decode cX1_divide 186 = .ok (.lload 10, 2) := by decide +kernel
theorem dX1_divide_188 : decode cX1_divide 188 = .ok (.lmul, 1) := by decide +kernel
theorem dX1_divide_189 : decode cX1_divide 189 = .ok (.lsub, 1) := by decide +kernel
theorem dX1_divide_190 : decode cX1_divide 190 = .ok (.lstore 15, 2) := by decide +kernel
theorem dX1_divide_192 : decode cX1_divide 192 = .ok (.lload 15, 2) := by decide +kernel
theorem dX1_divide_194 : decode cX1_divide 194 = .ok (.lconst 0, 1) := by decide +kernel
theorem dX1_divide_195 : decode cX1_divide 195 = .ok (.lcmp, 1) := by decide +kernel
theorem dX1_divide_196 : decode cX1_divide 196 = .ok (.ifCond .ge 14, 3) := by decide +kernel
theorem dX1_divide_199 : decode cX1_divide 199 = .ok (.lload 15, 2) := by decide +kernel
theorem dX1_divide_201 : decode cX1_divide 201 = .ok (.aload_n 0, 1) := by decide +kernel
theorem dX1_divide_202 : decode cX1_divide 202 = .ok (.getfield 14, 3) := by decide +kernel
theorem dX1_divide_205 : decode cX1_divide 205 = .ok (.i2l, 1) := by decide +kernel
theorem dX1_divide_206 : decode cX1_divide 206 = .ok (.ladd, 1) := by decide +kernel
theorem dX1_divide_207 : decode cX1_divide 207 = .ok (.goto 5, 3) := by decide +kernel
theorem dX1_divide_210 : decode cX1_divide 210 = .ok (.lload 15, 2) := by decide +kernel
theorem dX1_divide_212 : decode cX1_divide 212 = .ok (.lstore 15, 2) := by decide +kernel
theorem dX1_divide_214 : decode cX1_divide 214 = .ok (.lload 12, 2) := by decide +kernel
theorem dX1_divide_216 : decode cX1_divide 216 = .ok (.lconst 0, 1) := by decide +kernel
theorem dX1_divide_217 : decode cX1_divide 217 = .ok (.lcmp, 1) := by decide +kernel
theorem dX1_divide_218 : decode cX1_divide 218 = .ok (.ifCond .ge 14, 3) := by decide +kernel
theorem dX1_divide_221 : decode cX1_divide 221 = .ok (.lload 12, 2) := by decide +kernel
theorem dX1_divide_223 : decode cX1_divide 223 = .ok (.aload_n 0, 1) := by decide +kernel
theorem dX1_divide_224 : decode cX1_divide 224 = .ok (.getfield 14, 3) := by decide +kernel
theorem dX1_divide_227 : decode cX1_divide 227 = .ok (.i2l, 1) := by decide +kernel
theorem dX1_divide_228 : decode cX1_divide 228 = .ok (.ladd, 1) := by decide +kernel
theorem dX1_divide_229 : decode cX1_divide 229 = .ok (.goto 5, 3) := by decide +kernel
theorem dX1_divide_232 : decode cX1_divide 232 = .ok (.lload 12, 2) := by decide +kernel
theorem dX1_divide_234 : decode cX1_divide 234 = .ok (.lstore 12, 2) := by decide +kernel
theorem dX1_divide_236 : decode cX1_divide 236 = .ok (.lload 15, 2) := by decide +kernel
theorem dX1_divide_238 : decode cX1_divide 238 = .ok (.aload_n 0, 1) := by decide +kernel
theorem dX1_divide_239 : decode cX1_divide 239 = .ok (.getfield 14, 3) := by decide +kernel
theorem dX1_divide_242 : decode cX1_divide 242 = .ok (.i2l, 1) := by decide +kernel
theorem dX1_divide_243 : decode cX1_divide 243 = .ok (.lmul, 1) := by decide +kernel
theorem dX1_divide_244 : decode cX1_divide 244 = .ok (.lload 12, 2) := by decide +kernel
theorem dX1_divide_246 : decode cX1_divide 246 = .ok (.ladd, 1) := by decide +kernel
theorem dX1_divide_247 : decode cX1_divide 247 = .ok (.l2i, 1) := by decide +kernel
theorem dX1_divide_248 : decode cX1_divide 248 = .ok (.ireturn, 1) := by decide +kernel
theorem dX1_byteOf_0 : decode cX1_byteOf 0 = .ok (.iload_n 0, 1) := by decide +kernel
theorem dX1_byteOf_1 : decode cX1_byteOf 1 = .ok (.sipush 255, 3) := by decide +kernel
theorem dX1_byteOf_4 : decode cX1_byteOf 4 = .ok (.iand, 1) := by decide +kernel
theorem dX1_byteOf_5 : decode cX1_byteOf 5 = .ok (.ireturn, 1) := by decide +kernel
set_option maxRecDepth 20000 in
theorem ggX1_adjust_X1_byteOf : GoodIn wsX1_adjust wsX1_byteOf := goodIn_r _ [5] (by decide +kernel) (by decide +kernel)
set_option maxRecDepth 20000 in
theorem gX1_adjust_X1_byteOf : GoodIn wsX1_adjust (va_wsS RX1 59 yX1_byteOf wsX1_byteOf) := goodIn_app (goodIn_of _ (by decide +kernel)) ggX1_adjust_X1_byteOf
set_option maxRecDepth 20000 in
theorem ggX1_adjust_X1_length : GoodIn wsX1_adjust wsX1_length := goodIn_r _ [9, 10, 11, 25, 26, 27] (by decide +kernel) (by decide +kernel)
set_option maxRecDepth 20000 in
theorem gX1_adjust_X1_length : GoodIn wsX1_adjust (wsV RX1 36 RX1 yX1_length wsX1_length) := goodIn_app (goodIn_of _ (by decide +kernel)) ggX1_adjust_X1_length
set_option maxRecDepth 20000 in
theorem ggX1_adjust_X1_is : GoodIn wsX1_adjust wsX1_is := goodIn_ca (goodIn_r _ [15, 16, 25, 26, 27] (by decide +kernel) (by decide +kernel)) (goodIn_sub (fun _ h => List.mem_cons_of_mem _ (List.mem_append_right _ h)) (by decide +kernel))
set_option maxRecDepth 20000 in
theorem gX1_adjust_X1_is : GoodIn wsX1_adjust (wsV RX1 20 RX1 yX1_is wsX1_is) := goodIn_app (goodIn_of _ (by decide +kernel)) ggX1_adjust_X1_is
set_option maxRecDepth 20000 in
theorem ggX1_adjust_X1_put : GoodIn wsX1_adjust wsX1_put := goodIn_ca (goodIn_r _ [20, 16, 12, 13, 14, 4, 15, 25, 26, 27] (by decide +kernel) (by decide +kernel)) (goodIn_sub (fun _ h => List.mem_cons_of_mem _ (List.mem_append_right _ h)) (by decide +kernel))
set_option maxRecDepth 20000 in
theorem gX1_adjust_X1_put : GoodIn wsX1_adjust (wsV RX1 24 RX1 yX1_put wsX1_put) := goodIn_app (goodIn_of _ (by decide +kernel)) ggX1_adjust_X1_put
set_option maxRecDepth 20000 in
theorem ggX1_adjust_X1_byAnswer : GoodIn wsX1_adjust wsX1_byAnswer := goodIn_ca (goodIn_r _ [24, 11, 17, 18, 19, 4, 20, 16, 12, 13, 14, 15, 25, 26, 27] (by decide +kernel) (by decide +kernel)) (goodIn_sub (fun _ h => List.mem_cons_of_mem _ (List.mem_append_right _ h)) (by decide +kernel))
set_option maxRecDepth 20000 in
theorem gX1_adjust_X1_byAnswer : GoodIn wsX1_adjust (wsV RX1 32 RX1 yX1_byAnswer wsX1_byAnswer) := goodIn_app (goodIn_of _ (by decide +kernel)) ggX1_adjust_X1_byAnswer
theorem dX1_adjust_0 : decode cX1_adjust 0 = .ok (.iload_n 2, 1) := by decide +kernel
theorem dX1_adjust_1 : decode cX1_adjust 1 = .ok (.invokestatic 59, 3) := by decide +kernel
theorem dX1_adjust_4 : decode cX1_adjust 4 = .ok (.istore 4, 2) := by decide +kernel
theorem dX1_adjust_6 : decode cX1_adjust 6 = .ok (.iload_n 2, 1) := by decide +kernel
theorem dX1_adjust_7 : decode cX1_adjust 7 = .ok (.sipush 256, 3) := by decide +kernel
theorem dX1_adjust_10 : decode cX1_adjust 10 = .ok (.idiv, 1) := by decide +kernel
theorem dX1_adjust_11 : decode cX1_adjust 11 = .ok (.invokestatic 59, 3) := by decide +kernel
theorem dX1_adjust_14 : decode cX1_adjust 14 = .ok (.istore 5, 2) := by decide +kernel
theorem dX1_adjust_16 : decode cX1_adjust 16 = .ok (.iload_n 2, 1) := by decide +kernel
theorem dX1_adjust_17 : decode cX1_adjust 17 = .ok (.ifCond .ge 13, 3) := by decide +kernel
theorem dX1_adjust_20 : decode cX1_adjust 20 = .ok (.iload_n 2, 1) := by decide +kernel
theorem dX1_adjust_21 : decode cX1_adjust 21 = .ok (.bipush 8, 2) := by decide +kernel
theorem dX1_adjust_23 : decode cX1_adjust 23 = .ok (.ishr, 1) := by decide +kernel
theorem dX1_adjust_24 : decode cX1_adjust 24 = .ok (.invokestatic 59, 3) := by decide +kernel
theorem dX1_adjust_27 : decode cX1_adjust 27 = .ok (.goto 5, 3) := by decide +kernel
theorem dX1_adjust_30 : decode cX1_adjust 30 = .ok (.iload 5, 2) := by decide +kernel
theorem dX1_adjust_32 : decode cX1_adjust 32 = .ok (.istore 5, 2) := by decide +kernel
theorem dX1_adjust_34 : decode cX1_adjust 34 = .ok (.iload_n 3, 1) := by decide +kernel
theorem dX1_adjust_35 : decode cX1_adjust 35 = .ok (.invokestatic 59, 3) := by decide +kernel
theorem dX1_adjust_38 : decode cX1_adjust 38 = .ok (.istore 6, 2) := by decide +kernel
theorem dX1_adjust_40 : decode cX1_adjust 40 = .ok (.aload_n 0, 1) := by decide +kernel
theorem dX1_adjust_41 : decode cX1_adjust 41 = .ok (.iload_n 1, 1) := by decide +kernel
theorem dX1_adjust_42 : decode cX1_adjust 42 = .ok (.ifCond .lt 8, 3) := by decide +kernel
theorem dX1_adjust_45 : decode cX1_adjust 45 = .ok (.iload_n 1, 1) := by decide +kernel
theorem dX1_adjust_46 : decode cX1_adjust 46 = .ok (.iconst 5, 1) := by decide +kernel
theorem dX1_adjust_47 : decode cX1_adjust 47 = .ok (.if_icmp .le 7, 3) := by decide +kernel
theorem dX1_adjust_50 : decode cX1_adjust 50 = .ok (.iconst 1, 1) := by decide +kernel
theorem dX1_adjust_51 : decode cX1_adjust 51 = .ok (.goto 18, 3) := by decide +kernel
theorem dX1_adjust_54 : decode cX1_adjust 54 = .ok (.iload_n 1, 1) := by decide +kernel
theorem dX1_adjust_55 : decode cX1_adjust 55 = .ok (.iconst 4, 1) := by decide +kernel
theorem dX1_adjust_56 : decode cX1_adjust 56 = .ok (.if_icmp .ne 12, 3) := by decide +kernel
theorem dX1_adjust_59 : decode cX1_adjust 59 = .ok (.iload 6, 2) := by decide +kernel
theorem dX1_adjust_61 : decode cX1_adjust 61 = .ok (.ifCond .ne 7, 3) := by decide +kernel
theorem dX1_adjust_64 : decode cX1_adjust 64 = .ok (.iconst 2, 1) := by decide +kernel
theorem dX1_adjust_65 : decode cX1_adjust 65 = .ok (.goto 4, 3) := by decide +kernel
theorem dX1_adjust_68 : decode cX1_adjust 68 = .ok (.iconst 0, 1) := by decide +kernel
theorem dX1_adjust_69 : decode cX1_adjust 69 = .ok (.putfield 7, 3) := by decide +kernel
theorem dX1_adjust_72 : decode cX1_adjust 72 = .ok (.aload_n 0, 1) := by decide +kernel
theorem dX1_adjust_73 : decode cX1_adjust 73 = .ok (.getfield 7, 3) := by decide +kernel
theorem dX1_adjust_76 : decode cX1_adjust 76 = .ok (.ifCond .le 5, 3) := by decide +kernel
theorem dX1_adjust_79 : decode cX1_adjust 79 = .ok (.iconst 0, 1) := by decide +kernel
theorem dX1_adjust_80 : decode cX1_adjust 80 = .ok (.ireturn, 1) := by decide +kernel
theorem dX1_adjust_81 : decode cX1_adjust 81 = .ok (.aload_n 0, 1) := by decide +kernel
theorem dX1_adjust_82 : decode cX1_adjust 82 = .ok (.iconst 0, 1) := by decide +kernel
theorem dX1_adjust_83 : decode cX1_adjust 83 = .ok (.invokevirtual 36, 3) := by decide +kernel
theorem dX1_adjust_86 : decode cX1_adjust 86 = .ok (.iload 4, 2) := by decide +kernel
theorem dX1_adjust_88 : decode cX1_adjust 88 = .ok (.bipush 16, 2) := by decide +kernel
theorem dX1_adjust_90 : decode cX1_adjust 90 = .ok (.irem, 1) := by decide +kernel
theorem dX1_adjust_91 : decode cX1_adjust 91 = .ok (.bipush 9, 2) := by decide +kernel
theorem dX1_adjust_93 : decode cX1_adjust 93 = .ok (.if_icmp .gt 12, 3) := by decide +kernel
theorem dX1_adjust_96 : decode cX1_adjust 96 = .ok (.aload_n 0, 1) := by decide +kernel
theorem dX1_adjust_97 : decode cX1_adjust 97 = .ok (.bipush 16, 2) := by decide +kernel
theorem dX1_adjust_99 : decode cX1_adjust 99 = .ok (.invokevirtual 20, 3) := by decide +kernel
theorem dX1_adjust_102 : decode cX1_adjust 102 = .ok (.ifCond .eq 7, 3) := by decide +kernel
theorem dX1_adjust_105 : decode cX1_adjust 105 = .ok (.iconst 1, 1) := by decide +kernel
theorem dX1_adjust_106 : decode cX1_adjust 106 = .ok (.goto 4, 3) := by decide +kernel
theorem dX1_adjust_109 : decode cX1_adjust 109 = .ok (.iconst 0, 1) := by decide +kernel
theorem dX1_adjust_110 : decode cX1_adjust 110 = .ok (.istore 7, 2) := by decide +kernel
theorem dX1_adjust_112 : decode cX1_adjust 112 = .ok (.iload 4, 2) := by decide +kernel
theorem dX1_adjust_114 : decode cX1_adjust 114 = .ok (.sipush 153, 3) := by decide +kernel
theorem dX1_adjust_117 : decode cX1_adjust 117 = .ok (.if_icmp .gt 11, 3) := by decide +kernel
theorem dX1_adjust_120 : decode cX1_adjust 120 = .ok (.aload_n 0, 1) := by decide +kernel
theorem dX1_adjust_121 : decode cX1_adjust 121 = .ok (.iconst 1, 1) := by decide +kernel
theorem dX1_adjust_122 : decode cX1_adjust 122 = .ok (.invokevirtual 20, 3) := by decide +kernel
theorem dX1_adjust_125 : decode cX1_adjust 125 = .ok (.ifCond .eq 7, 3) := by decide +kernel
theorem dX1_adjust_128 : decode cX1_adjust 128 = .ok (.iconst 1, 1) := by decide +kernel
theorem dX1_adjust_129 : decode cX1_adjust 129 = .ok (.goto 4, 3) := by decide +kernel
theorem dX1_adjust_132 : decode cX1_adjust 132 = .ok (.iconst 0, 1) := by decide +kernel
theorem dX1_adjust_133 : decode cX1_adjust 133 = .ok (.istore 8, 2) := by decide +kernel
theorem dX1_adjust_135 : decode cX1_adjust 135 = .ok (.iload 4, 2) := by decide +kernel
theorem dX1_adjust_137 : decode cX1_adjust 137 = .ok (.istore 9, 2) := by decide +kernel
theorem dX1_adjust_139 : decode cX1_adjust 139 = .ok (.iload_n 1, 1) := by decide +kernel
theorem dX1_adjust_140 : decode cX1_adjust 140 = .ok (.tableswitch 317 0 4 #[36, 98, 180, 236, 292], 36) := by decide +kernel
theorem dX1_adjust_176 : decode cX1_adjust 176 = .ok (.iload 4, 2) := by decide +kernel
theorem dX1_adjust_178 : decode cX1_adjust 178 = .ok (.iload 7, 2) := by decide +kernel
theorem dX1_adjust_180 : decode cX1_adjust 180 = .ok (.ifCond .eq 8, 3) := by decide +kernel
theorem dX1_adjust_183 : decode cX1_adjust 183 = .ok (.bipush 6, 2) := by decide +kernel
theorem dX1_adjust_185 : decode cX1_adjust 185 = .ok (.goto 4, 3) := by decide +kernel
theorem dX1_adjust_188 : decode cX1_adjust 188 = .ok (.iconst 0, 1) := by decide +kernel
theorem dX1_adjust_189 : decode cX1_adjust 189 = .ok (.iadd, 1) := by decide +kernel
theorem dX1_adjust_190 : decode cX1_adjust 190 = .ok (.iload 8, 2) := by decide +kernel
theorem dX1_adjust_192 : decode cX1_adjust 192 = .ok (.ifCond .eq 8, 3) := by decide +kernel
theorem dX1_adjust_195 : decode cX1_adjust 195 = .ok (.bipush 96, 2) := by decide +kernel
theorem dX1_adjust_197 : decode cX1_adjust 197 = .ok (.goto 4, 3) := by decide +kernel
theorem dX1_adjust_200 : decode cX1_adjust 200 = .ok (.iconst 0, 1) := by decide +kernel
theorem dX1_adjust_201 : decode cX1_adjust 201 = .ok (.iadd, 1) := by decide +kernel
theorem dX1_adjust_202 : decode cX1_adjust 202 = .ok (.invokestatic 59, 3) := by decide +kernel
theorem dX1_adjust_205 : decode cX1_adjust 205 = .ok (.istore 9, 2) := by decide +kernel
theorem dX1_adjust_207 : decode cX1_adjust 207 = .ok (.aload_n 0, 1) := by decide +kernel
theorem dX1_adjust_208 : decode cX1_adjust 208 = .ok (.bipush 16, 2) := by decide +kernel
theorem dX1_adjust_210 : decode cX1_adjust 210 = .ok (.iload 7, 2) := by decide +kernel
theorem dX1_adjust_212 : decode cX1_adjust 212 = .ok (.invokevirtual 24, 3) := by decide +kernel
theorem dX1_adjust_215 : decode cX1_adjust 215 = .ok (.aload_n 0, 1) := by decide +kernel
theorem dX1_adjust_216 : decode cX1_adjust 216 = .ok (.iconst 1, 1) := by decide +kernel
theorem dX1_adjust_217 : decode cX1_adjust 217 = .ok (.iload 8, 2) := by decide +kernel
theorem dX1_adjust_219 : decode cX1_adjust 219 = .ok (.invokevirtual 24, 3) := by decide +kernel
theorem dX1_adjust_222 : decode cX1_adjust 222 = .ok (.aload_n 0, 1) := by decide +kernel
theorem dX1_adjust_223 : decode cX1_adjust 223 = .ok (.iload 9, 2) := by decide +kernel
theorem dX1_adjust_225 : decode cX1_adjust 225 = .ok (.invokevirtual 32, 3) := by decide +kernel
theorem dX1_adjust_228 : decode cX1_adjust 228 = .ok (.sipush 256, 3) := by decide +kernel
theorem dX1_adjust_231 : decode cX1_adjust 231 = .ok (.iload 5, 2) := by decide +kernel
theorem dX1_adjust_233 : decode cX1_adjust 233 = .ok (.imul, 1) := by decide +kernel
theorem dX1_adjust_234 : decode cX1_adjust 234 = .ok (.iload 9, 2) := by decide +kernel
theorem dX1_adjust_236 : decode cX1_adjust 236 = .ok (.iadd, 1) := by decide +kernel
theorem dX1_adjust_237 : decode cX1_adjust 237 = .ok (.ireturn, 1) := by decide +kernel
theorem dX1_adjust_238 : decode cX1_adjust 238 = .ok (.iload 4, 2) := by decide +kernel
theorem dX1_adjust_240 : decode cX1_adjust 240 = .ok (.iload 7, 2) := by decide +kernel
theorem dX1_adjust_242 : decode cX1_adjust 242 = .ok (.ifCond .eq 8, 3) := by decide +kernel
theorem dX1_adjust_245 : decode cX1_adjust 245 = .ok (.bipush 6, 2) := by decide +kernel
theorem dX1_adjust_247 : decode cX1_adjust 247 = .ok (.goto 4, 3) := by decide +kernel
theorem dX1_adjust_250 : decode cX1_adjust 250 = .ok (.iconst 0, 1) := by decide +kernel
theorem dX1_adjust_251 : decode cX1_adjust 251 = .ok (.isub, 1) := by decide +kernel
theorem dX1_adjust_252 : decode cX1_adjust 252 = .ok (.iload 8, 2) := by decide +kernel
theorem dX1_adjust_254 : decode cX1_adjust 254 = .ok (.ifCond .eq 8, 3) := by decide +kernel
theorem dX1_adjust_257 : decode cX1_adjust 257 = .ok (.bipush 96, 2) := by decide +kernel
theorem dX1_adjust_259 : decode cX1_adjust 259 = .ok (.goto 4, 3) := by decide +kernel
theorem dX1_adjust_262 : decode cX1_adjust 262 = .ok (.iconst 0, 1) := by decide +kernel
theorem dX1_adjust_263 : decode cX1_adjust 263 = .ok (.isub, 1) := by decide +kernel
theorem dX1_adjust_264 : decode cX1_adjust 264 = .ok (.invokestatic 59, 3) := by decide +kernel
theorem dX1_adjust_267 : decode cX1_adjust 267 = .ok (.istore 9, 2) := by decide +kernel
theorem dX1_adjust_269 : decode cX1_adjust 269 = .ok (.aload_n 0, 1) := by decide +kernel
theorem dX1_adjust_270 : decode cX1_adjust 270 = .ok (.bipush 16, 2) := by decide +kernel
theorem dX1_adjust_272 : decode cX1_adjust 272 = .ok (.iload 7, 2) := by decide +kernel
theorem dX1_adjust_274 : decode cX1_adjust 274 = .ok (.invokevirtual 24, 3) := by decide +kernel
theorem dX1_adjust_277 : decode cX1_adjust 277 = .ok (.aload_n 0, 1) := by decide +kernel
theorem dX1_adjust_278 : decode cX1_adjust 278 = .ok (.iconst 1, 1) := by decide +kernel
theorem dX1_adjust_279 : decode cX1_adjust 279 = .ok (.iload 8, 2) := by decide +kernel
theorem dX1_adjust_281 : decode cX1_adjust 281 = .ok (.ifCond .ne 15, 3) := by decide +kernel
theorem dX1_adjust_284 : decode cX1_adjust 284 = .ok (.iload 7, 2) := by decide +kernel
theorem dX1_adjust_286 : decode cX1_adjust 286 = .ok (.ifCond .eq 14, 3) := by decide +kernel
theorem dX1_adjust_289 : decode cX1_adjust 289 = .ok (.iload 4, 2) := by decide +kernel
theorem dX1_adjust_291 : decode cX1_adjust 291 = .ok (.bipush 6, 2) := by decide +kernel
theorem dX1_adjust_293 : decode cX1_adjust 293 = .ok (.if_icmp .ge 7, 3) := by decide +kernel
theorem dX1_adjust_296 : decode cX1_adjust 296 = .ok (.iconst 1, 1) := by decide +kernel
theorem dX1_adjust_297 : decode cX1_adjust 297 = .ok (.goto 4, 3) := by decide +kernel
theorem dX1_adjust_300 : decode cX1_adjust 300 = .ok (.iconst 0, 1) := by decide +kernel
theorem dX1_adjust_301 : decode cX1_adjust 301 = .ok (.invokevirtual 24, 3) := by decide +kernel
theorem dX1_adjust_304 : decode cX1_adjust 304 = .ok (.aload_n 0, 1) := by decide +kernel
theorem dX1_adjust_305 : decode cX1_adjust 305 = .ok (.iload 9, 2) := by decide +kernel
theorem dX1_adjust_307 : decode cX1_adjust 307 = .ok (.invokevirtual 32, 3) := by decide +kernel
theorem dX1_adjust_310 : decode cX1_adjust 310 = .ok (.sipush 256, 3) := by decide +kernel
theorem dX1_adjust_313 : decode cX1_adjust 313 = .ok (.iload 5, 2) := by decide +kernel
theorem dX1_adjust_315 : decode cX1_adjust 315 = .ok (.imul, 1) := by decide +kernel
theorem dX1_adjust_316 : decode cX1_adjust 316 = .ok (.iload 9, 2) := by decide +kernel
theorem dX1_adjust_318 : decode cX1_adjust 318 = .ok (.iadd, 1) := by decide +kernel
theorem dX1_adjust_319 : decode cX1_adjust 319 = .ok (.ireturn, 1) := by decide +kernel
theorem dX1_adjust_320 : decode cX1_adjust 320 = .ok (.aload_n 0, 1) := by decide +kernel
theorem dX1_adjust_321 : decode cX1_adjust 321 = .ok (.bipush 16, 2) := by decide +kernel
theorem dX1_adjust_323 : decode cX1_adjust 323 = .ok (.iload 7, 2) := by decide +kernel
theorem dX1_adjust_325 : decode cX1_adjust 325 = .ok (.invokevirtual 24, 3) := by decide +kernel
theorem dX1_adjust_328 : decode cX1_adjust 328 = .ok (.aload_n 0, 1) := by decide +kernel
theorem dX1_adjust_329 : decode cX1_adjust 329 = .ok (.iconst 1, 1) := by decide +kernel
theorem dX1_adjust_330 : decode cX1_adjust 330 = .ok (.iload 7, 2) := by decide +kernel
theorem dX1_adjust_332 : decode cX1_adjust 332 = .ok (.invokevirtual 24, 3) := by decide +kernel
theorem dX1_adjust_335 : decode cX1_adjust 335 = .ok (.sipush 256, 3) := by decide +kernel
theorem dX1_adjust_338 : decode cX1_adjust 338 = .ok (.iload 7, 2) := by decide +kernel
theorem dX1_adjust_340 : decode cX1_adjust 340 = .ok (.ifCond .eq 10, 3) := by decide +kernel
theorem dX1_adjust_343 : decode cX1_adjust 343 = .ok (.iload 5, 2) := by decide +kernel
theorem dX1_adjust_345 : decode cX1_adjust 345 = .ok (.iconst 1, 1) := by decide +kernel
theorem dX1_adjust_346 : decode cX1_adjust 346 = .ok (.iadd, 1) := by decide +kernel
theorem dX1_adjust_347 : decode cX1_adjust 347 = .ok (.goto 5, 3) := by decide +kernel
theorem dX1_adjust_350 : decode cX1_adjust 350 = .ok (.iload 5, 2) := by decide +kernel
theorem dX1_adjust_352 : decode cX1_adjust 352 = .ok (.invokestatic 59, 3) := by decide +kernel
theorem dX1_adjust_355 : decode cX1_adjust 355 = .ok (.imul, 1) := by decide +kernel
theorem dX1_adjust_356 : decode cX1_adjust 356 = .ok (.iload 7, 2) := by decide +kernel
theorem dX1_adjust_358 : decode cX1_adjust 358 = .ok (.ifCond .eq 11, 3) := by decide +kernel
theorem dX1_adjust_361 : decode cX1_adjust 361 = .ok (.iload 4, 2) := by decide +kernel
theorem dX1_adjust_363 : decode cX1_adjust 363 = .ok (.bipush 6, 2) := by decide +kernel
theorem dX1_adjust_365 : decode cX1_adjust 365 = .ok (.iadd, 1) := by decide +kernel
theorem dX1_adjust_366 : decode cX1_adjust 366 = .ok (.goto 5, 3) := by decide +kernel
theorem dX1_adjust_369 : decode cX1_adjust 369 = .ok (.iload 4, 2) := by decide +kernel
theorem dX1_adjust_371 : decode cX1_adjust 371 = .ok (.bipush 16, 2) := by decide +kernel
theorem dX1_adjust_373 : decode cX1_adjust 373 = .ok (.irem, 1) := by decide +kernel
theorem dX1_adjust_374 : decode cX1_adjust 374 = .ok (.iadd, 1) := by decide +kernel
theorem dX1_adjust_375 : decode cX1_adjust 375 = .ok (.ireturn, 1) := by decide +kernel
theorem dX1_adjust_376 : decode cX1_adjust 376 = .ok (.aload_n 0, 1) := by decide +kernel
theorem dX1_adjust_377 : decode cX1_adjust 377 = .ok (.bipush 16, 2) := by decide +kernel
theorem dX1_adjust_379 : decode cX1_adjust 379 = .ok (.iload 7, 2) := by decide +kernel
theorem dX1_adjust_381 : decode cX1_adjust 381 = .ok (.invokevirtual 24, 3) := by decide +kernel
theorem dX1_adjust_384 : decode cX1_adjust 384 = .ok (.aload_n 0, 1) := by decide +kernel
theorem dX1_adjust_385 : decode cX1_adjust 385 = .ok (.iconst 1, 1) := by decide +kernel
theorem dX1_adjust_386 : decode cX1_adjust 386 = .ok (.iload 7, 2) := by decide +kernel
theorem dX1_adjust_388 : decode cX1_adjust 388 = .ok (.invokevirtual 24, 3) := by decide +kernel
theorem dX1_adjust_391 : decode cX1_adjust 391 = .ok (.sipush 256, 3) := by decide +kernel
theorem dX1_adjust_394 : decode cX1_adjust 394 = .ok (.iload 7, 2) := by decide +kernel
theorem dX1_adjust_396 : decode cX1_adjust 396 = .ok (.ifCond .eq 10, 3) := by decide +kernel
theorem dX1_adjust_399 : decode cX1_adjust 399 = .ok (.iload 5, 2) := by decide +kernel
theorem dX1_adjust_401 : decode cX1_adjust 401 = .ok (.iconst 1, 1) := by decide +kernel
theorem dX1_adjust_402 : decode cX1_adjust 402 = .ok (.isub, 1) := by decide +kernel
theorem dX1_adjust_403 : decode cX1_adjust 403 = .ok (.goto 5, 3) := by decide +kernel
theorem dX1_adjust_406 : decode cX1_adjust 406 = .ok (.iload 5, 2) := by decide +kernel
theorem dX1_adjust_408 : decode cX1_adjust 408 = .ok (.invokestatic 59, 3) := by decide +kernel
theorem dX1_adjust_411 : decode cX1_adjust 411 = .ok (.imul, 1) := by decide +kernel
theorem dX1_adjust_412 : decode cX1_adjust 412 = .ok (.iload 7, 2) := by decide +kernel
theorem dX1_adjust_414 : decode cX1_adjust 414 = .ok (.ifCond .eq 11, 3) := by decide +kernel
theorem dX1_adjust_417 : decode cX1_adjust 417 = .ok (.iload 4, 2) := by decide +kernel
theorem dX1_adjust_419 : decode cX1_adjust 419 = .ok (.bipush 10, 2) := by decide +kernel
theorem dX1_adjust_421 : decode cX1_adjust 421 = .ok (.iadd, 1) := by decide +kernel
theorem dX1_adjust_422 : decode cX1_adjust 422 = .ok (.goto 5, 3) := by decide +kernel
theorem dX1_adjust_425 : decode cX1_adjust 425 = .ok (.iload 4, 2) := by decide +kernel
theorem dX1_adjust_427 : decode cX1_adjust 427 = .ok (.bipush 16, 2) := by decide +kernel
theorem dX1_adjust_429 : decode cX1_adjust 429 = .ok (.irem, 1) := by decide +kernel
theorem dX1_adjust_430 : decode cX1_adjust 430 = .ok (.iadd, 1) := by decide +kernel
theorem dX1_adjust_431 : decode cX1_adjust 431 = .ok (.ireturn, 1) := by decide +kernel
theorem dX1_adjust_432 : decode cX1_adjust 432 = .ok (.aload_n 0, 1) := by decide +kernel
theorem dX1_adjust_433 : decode cX1_adjust 433 = .ok (.iload 4, 2) := by decide +kernel
theorem dX1_adjust_435 : decode cX1_adjust 435 = .ok (.iload 6, 2) := by decide +kernel
theorem dX1_adjust_437 : decode cX1_adjust 437 = .ok (.irem, 1) := by decide +kernel
theorem dX1_adjust_438 : decode cX1_adjust 438 = .ok (.invokevirtual 32, 3) := by decide +kernel
theorem dX1_adjust_441 : decode cX1_adjust 441 = .ok (.sipush 256, 3) := by decide +kernel
theorem dX1_adjust_444 : decode cX1_adjust 444 = .ok (.iload 4, 2) := by decide +kernel
theorem dX1_adjust_446 : decode cX1_adjust 446 = .ok (.iload 6, 2) := by decide +kernel
theorem dX1_adjust_448 : decode cX1_adjust 448 = .ok (.idiv, 1) := by decide +kernel
theorem dX1_adjust_449 : decode cX1_adjust 449 = .ok (.imul, 1) := by decide +kernel
theorem dX1_adjust_450 : decode cX1_adjust 450 = .ok (.iload 4, 2) := by decide +kernel
theorem dX1_adjust_452 : decode cX1_adjust 452 = .ok (.iload 6, 2) := by decide +kernel
theorem dX1_adjust_454 : decode cX1_adjust 454 = .ok (.irem, 1) := by decide +kernel
theorem dX1_adjust_455 : decode cX1_adjust 455 = .ok (.iadd, 1) := by decide +kernel
theorem dX1_adjust_456 : decode cX1_adjust 456 = .ok (.ireturn, 1) := by decide +kernel
theorem dX1_adjust_457 : decode cX1_adjust 457 = .ok (.iload 5, 2) := by decide +kernel
theorem dX1_adjust_459 : decode cX1_adjust 459 = .ok (.iload 6, 2) := by decide +kernel
theorem dX1_adjust_461 : decode cX1_adjust 461 = .ok (.imul, 1) := by decide +kernel
theorem dX1_adjust_462 : decode cX1_adjust 462 = .ok (.iload 4, 2) := by decide +kernel
theorem dX1_adjust_464 : decode cX1_adjust 464 = .ok (.iadd, 1) := by decide +kernel
theorem dX1_adjust_465 : decode cX1_adjust 465 = .ok (.invokestatic 59, 3) := by decide +kernel
theorem dX1_adjust_468 : decode cX1_adjust 468 = .ok (.istore 9, 2) := by decide +kernel
theorem dX1_adjust_470 : decode cX1_adjust 470 = .ok (.aload_n 0, 1) := by decide +kernel
theorem dX1_adjust_471 : decode cX1_adjust 471 = .ok (.iload 9, 2) := by decide +kernel
theorem dX1_adjust_473 : decode cX1_adjust 473 = .ok (.invokevirtual 32, 3) := by decide +kernel
theorem dX1_adjust_476 : decode cX1_adjust 476 = .ok (.iload 9, 2) := by decide +kernel
theorem dX1_adjust_478 : decode cX1_adjust 478 = .ok (.ireturn, 1) := by decide +kernel
set_option maxRecDepth 20000 in
theorem ggX1_extend_X1_length : GoodIn wsX1_extend wsX1_length := goodIn_r _ [7, 2, 8, 17, 18, 19] (by decide +kernel) (by decide +kernel)
set_option maxRecDepth 20000 in
theorem gX1_extend_X1_length : GoodIn wsX1_extend (wsV RX1 36 RX1 yX1_length wsX1_length) := goodIn_app (goodIn_of _ (by decide +kernel)) ggX1_extend_X1_length
set_option maxRecDepth 20000 in
theorem ggX1_extend_X1_operand : GoodIn wsX1_extend wsX1_operand := goodIn_r _ [12, 8, 17, 18, 19] (by decide +kernel) (by decide +kernel)
set_option maxRecDepth 20000 in
theorem gX1_extend_X1_operand : GoodIn wsX1_extend (wsV RX1 40 RX1 yX1_operand wsX1_operand) := goodIn_app (goodIn_of _ (by decide +kernel)) ggX1_extend_X1_operand
set_option maxRecDepth 20000 in
theorem ggX1_extend_X1_signed : GoodIn wsX1_extend wsX1_signed := goodIn_r _ [16, 8, 17, 18, 19] (by decide +kernel) (by decide +kernel)
set_option maxRecDepth 20000 in
theorem gX1_extend_X1_signed : GoodIn wsX1_extend (wsV RX1 28 RX1 yX1_signed wsX1_signed) := goodIn_app (goodIn_of _ (by decide +kernel)) ggX1_extend_X1_signed
theorem dX1_extend_0 : decode cX1_extend 0 = .ok (.aload_n 0, 1) := by decide +kernel
theorem dX1_extend_1 : decode cX1_extend 1 = .ok (.iconst 0, 1) := by decide +kernel
theorem dX1_extend_2 : decode cX1_extend 2 = .ok (.putfield 7, 3) := by decide +kernel
theorem dX1_extend_5 : decode cX1_extend 5 = .ok (.aload_n 0, 1) := by decide +kernel
theorem dX1_extend_6 : decode cX1_extend 6 = .ok (.iload_n 1, 1) := by decide +kernel
theorem dX1_extend_7 : decode cX1_extend 7 = .ok (.invokevirtual 36, 3) := by decide +kernel
theorem dX1_extend_10 : decode cX1_extend 10 = .ok (.aload_n 0, 1) := by decide +kernel
theorem dX1_extend_11 : decode cX1_extend 11 = .ok (.aload_n 0, 1) := by decide +kernel
theorem dX1_extend_12 : decode cX1_extend 12 = .ok (.iload_n 2, 1) := by decide +kernel
theorem dX1_extend_13 : decode cX1_extend 13 = .ok (.invokevirtual 40, 3) := by decide +kernel
theorem dX1_extend_16 : decode cX1_extend 16 = .ok (.invokevirtual 28, 3) := by decide +kernel
theorem dX1_extend_19 : decode cX1_extend 19 = .ok (.istore_n 3, 1) := by decide +kernel
theorem dX1_extend_20 : decode cX1_extend 20 = .ok (.iload_n 1, 1) := by decide +kernel
theorem dX1_extend_21 : decode cX1_extend 21 = .ok (.ifCond .ne 14, 3) := by decide +kernel
theorem dX1_extend_24 : decode cX1_extend 24 = .ok (.iload_n 3, 1) := by decide +kernel
theorem dX1_extend_25 : decode cX1_extend 25 = .ok (.ifCond .ge 10, 3) := by decide +kernel
theorem dX1_extend_28 : decode cX1_extend 28 = .ok (.iload_n 3, 1) := by decide +kernel
theorem dX1_extend_29 : decode cX1_extend 29 = .ok (.ldc 13, 2) := by decide +kernel
theorem dX1_extend_31 : decode cX1_extend 31 = .ok (.iadd, 1) := by decide +kernel
theorem dX1_extend_32 : decode cX1_extend 32 = .ok (.goto 4, 3) := by decide +kernel
theorem dX1_extend_35 : decode cX1_extend 35 = .ok (.iload_n 3, 1) := by decide +kernel
theorem dX1_extend_36 : decode cX1_extend 36 = .ok (.ireturn, 1) := by decide +kernel
set_option maxRecDepth 20000 in
theorem ggX1_holds_X1_is : GoodIn wsX1_holds wsX1_is := goodIn_ca (goodIn_r _ [6, 7, 8, 9, 10] (by decide +kernel) (by decide +kernel)) (goodIn_sub (fun _ h => List.mem_cons_of_mem _ (List.mem_append_right _ h)) (by decide +kernel))
set_option maxRecDepth 20000 in
theorem gX1_holds_X1_is : GoodIn wsX1_holds (wsV RX1 20 RX1 yX1_is wsX1_is) := goodIn_app (goodIn_of _ (by decide +kernel)) ggX1_holds_X1_is
theorem dX1_holds_0 : decode cX1_holds 0 = .ok (.aload_n 0, 1) := by decide +kernel
theorem dX1_holds_1 : decode cX1_holds 1 = .ok (.iload_n 1, 1) := by decide +kernel
theorem dX1_holds_2 : decode cX1_holds 2 = .ok (.ifCond .lt 9, 3) := by decide +kernel
theorem dX1_holds_5 : decode cX1_holds 5 = .ok (.iload_n 1, 1) := by decide +kernel
theorem dX1_holds_6 : decode cX1_holds 6 = .ok (.bipush 15, 2) := by decide +kernel
theorem dX1_holds_8 : decode cX1_holds 8 = .ok (.if_icmp .le 7, 3) := by decide +kernel
theorem dX1_holds_11 : decode cX1_holds 11 = .ok (.iconst 1, 1) := by decide +kernel
theorem dX1_holds_12 : decode cX1_holds 12 = .ok (.goto 4, 3) := by decide +kernel
theorem dX1_holds_15 : decode cX1_holds 15 = .ok (.iconst 0, 1) := by decide +kernel
theorem dX1_holds_16 : decode cX1_holds 16 = .ok (.putfield 7, 3) := by decide +kernel
theorem dX1_holds_19 : decode cX1_holds 19 = .ok (.aload_n 0, 1) := by decide +kernel
theorem dX1_holds_20 : decode cX1_holds 20 = .ok (.getfield 7, 3) := by decide +kernel
theorem dX1_holds_23 : decode cX1_holds 23 = .ok (.ifCond .le 5, 3) := by decide +kernel
theorem dX1_holds_26 : decode cX1_holds 26 = .ok (.iconst 0, 1) := by decide +kernel
theorem dX1_holds_27 : decode cX1_holds 27 = .ok (.ireturn, 1) := by decide +kernel
theorem dX1_holds_28 : decode cX1_holds 28 = .ok (.aload_n 0, 1) := by decide +kernel
theorem dX1_holds_29 : decode cX1_holds 29 = .ok (.sipush 128, 3) := by decide +kernel
theorem dX1_holds_32 : decode cX1_holds 32 = .ok (.invokevirtual 20, 3) := by decide +kernel
theorem dX1_holds_35 : decode cX1_holds 35 = .ok (.aload_n 0, 1) := by decide +kernel
theorem dX1_holds_36 : decode cX1_holds 36 = .ok (.sipush 2048, 3) := by decide +kernel
theorem dX1_holds_39 : decode cX1_holds 39 = .ok (.invokevirtual 20, 3) := by decide +kernel
theorem dX1_holds_42 : decode cX1_holds 42 = .ok (.if_icmp .eq 7, 3) := by decide +kernel
theorem dX1_holds_45 : decode cX1_holds 45 = .ok (.iconst 1, 1) := by decide +kernel
theorem dX1_holds_46 : decode cX1_holds 46 = .ok (.goto 4, 3) := by decide +kernel
theorem dX1_holds_49 : decode cX1_holds 49 = .ok (.iconst 0, 1) := by decide +kernel
theorem dX1_holds_50 : decode cX1_holds 50 = .ok (.istore_n 2, 1) := by decide +kernel
theorem dX1_holds_51 : decode cX1_holds 51 = .ok (.iload_n 1, 1) := by decide +kernel
theorem dX1_holds_52 : decode cX1_holds 52 = .ok (.iconst 2, 1) := by decide +kernel
theorem dX1_holds_53 : decode cX1_holds 53 = .ok (.idiv, 1) := by decide +kernel
theorem dX1_holds_54 : decode cX1_holds 54 = .ok (.istore_n 3, 1) := by decide +kernel
theorem dX1_holds_55 : decode cX1_holds 55 = .ok (.iload_n 3, 1) := by decide +kernel
theorem dX1_holds_56 : decode cX1_holds 56 = .ok (.ifCond .ne 13, 3) := by decide +kernel
theorem dX1_holds_59 : decode cX1_holds 59 = .ok (.aload_n 0, 1) := by decide +kernel
theorem dX1_holds_60 : decode cX1_holds 60 = .ok (.sipush 2048, 3) := by decide +kernel
theorem dX1_holds_63 : decode cX1_holds 63 = .ok (.invokevirtual 20, 3) := by decide +kernel
theorem dX1_holds_66 : decode cX1_holds 66 = .ok (.goto 116, 3) := by decide +kernel
theorem dX1_holds_69 : decode cX1_holds 69 = .ok (.iload_n 3, 1) := by decide +kernel
theorem dX1_holds_70 : decode cX1_holds 70 = .ok (.iconst 1, 1) := by decide +kernel
theorem dX1_holds_71 : decode cX1_holds 71 = .ok (.if_icmp .ne 11, 3) := by decide +kernel
theorem dX1_holds_74 : decode cX1_holds 74 = .ok (.aload_n 0, 1) := by decide +kernel
theorem dX1_holds_75 : decode cX1_holds 75 = .ok (.iconst 1, 1) := by decide +kernel
theorem dX1_holds_76 : decode cX1_holds 76 = .ok (.invokevirtual 20, 3) := by decide +kernel
theorem dX1_holds_79 : decode cX1_holds 79 = .ok (.goto 103, 3) := by decide +kernel
theorem dX1_holds_82 : decode cX1_holds 82 = .ok (.iload_n 3, 1) := by decide +kernel
theorem dX1_holds_83 : decode cX1_holds 83 = .ok (.iconst 2, 1) := by decide +kernel
theorem dX1_holds_84 : decode cX1_holds 84 = .ok (.if_icmp .ne 12, 3) := by decide +kernel
theorem dX1_holds_87 : decode cX1_holds 87 = .ok (.aload_n 0, 1) := by decide +kernel
theorem dX1_holds_88 : decode cX1_holds 88 = .ok (.bipush 64, 2) := by decide +kernel
theorem dX1_holds_90 : decode cX1_holds 90 = .ok (.invokevirtual 20, 3) := by decide +kernel
theorem dX1_holds_93 : decode cX1_holds 93 = .ok (.goto 89, 3) := by decide +kernel
theorem dX1_holds_96 : decode cX1_holds 96 = .ok (.iload_n 3, 1) := by decide +kernel
theorem dX1_holds_97 : decode cX1_holds 97 = .ok (.iconst 3, 1) := by decide +kernel
theorem dX1_holds_98 : decode cX1_holds 98 = .ok (.if_icmp .ne 28, 3) := by decide +kernel
theorem dX1_holds_101 : decode cX1_holds 101 = .ok (.aload_n 0, 1) := by decide +kernel
theorem dX1_holds_102 : decode cX1_holds 102 = .ok (.iconst 1, 1) := by decide +kernel
theorem dX1_holds_103 : decode cX1_holds 103 = .ok (.invokevirtual 20, 3) := by decide +kernel
theorem dX1_holds_106 : decode cX1_holds 106 = .ok (.ifCond .ne 12, 3) := by decide +kernel
theorem dX1_holds_109 : decode cX1_holds 109 = .ok (.aload_n 0, 1) := by decide +kernel
theorem dX1_holds_110 : decode cX1_holds 110 = .ok (.bipush 64, 2) := by decide +kernel
theorem dX1_holds_112 : decode cX1_holds 112 = .ok (.invokevirtual 20, 3) := by decide +kernel
theorem dX1_holds_115 : decode cX1_holds 115 = .ok (.ifCond .eq 7, 3) := by decide +kernel
theorem dX1_holds_118 : decode cX1_holds 118 = .ok (.iconst 1, 1) := by decide +kernel
theorem dX1_holds_119 : decode cX1_holds 119 = .ok (.goto 63, 3) := by decide +kernel
theorem dX1_holds_122 : decode cX1_holds 122 = .ok (.iconst 0, 1) := by decide +kernel
theorem dX1_holds_123 : decode cX1_holds 123 = .ok (.goto 59, 3) := by decide +kernel
theorem dX1_holds_126 : decode cX1_holds 126 = .ok (.iload_n 3, 1) := by decide +kernel
theorem dX1_holds_127 : decode cX1_holds 127 = .ok (.iconst 4, 1) := by decide +kernel
theorem dX1_holds_128 : decode cX1_holds 128 = .ok (.if_icmp .ne 13, 3) := by decide +kernel
theorem dX1_holds_131 : decode cX1_holds 131 = .ok (.aload_n 0, 1) := by decide +kernel
theorem dX1_holds_132 : decode cX1_holds 132 = .ok (.sipush 128, 3) := by decide +kernel
theorem dX1_holds_135 : decode cX1_holds 135 = .ok (.invokevirtual 20, 3) := by decide +kernel
theorem dX1_holds_138 : decode cX1_holds 138 = .ok (.goto 44, 3) := by decide +kernel
theorem dX1_holds_141 : decode cX1_holds 141 = .ok (.iload_n 3, 1) := by decide +kernel
theorem dX1_holds_142 : decode cX1_holds 142 = .ok (.iconst 5, 1) := by decide +kernel
theorem dX1_holds_143 : decode cX1_holds 143 = .ok (.if_icmp .ne 11, 3) := by decide +kernel
theorem dX1_holds_146 : decode cX1_holds 146 = .ok (.aload_n 0, 1) := by decide +kernel
theorem dX1_holds_147 : decode cX1_holds 147 = .ok (.iconst 4, 1) := by decide +kernel
theorem dX1_holds_148 : decode cX1_holds 148 = .ok (.invokevirtual 20, 3) := by decide +kernel
theorem dX1_holds_151 : decode cX1_holds 151 = .ok (.goto 31, 3) := by decide +kernel
theorem dX1_holds_154 : decode cX1_holds 154 = .ok (.iload_n 3, 1) := by decide +kernel
theorem dX1_holds_155 : decode cX1_holds 155 = .ok (.bipush 6, 2) := by decide +kernel
theorem dX1_holds_157 : decode cX1_holds 157 = .ok (.if_icmp .ne 7, 3) := by decide +kernel
theorem dX1_holds_160 : decode cX1_holds 160 = .ok (.iload_n 2, 1) := by decide +kernel
theorem dX1_holds_161 : decode cX1_holds 161 = .ok (.goto 21, 3) := by decide +kernel
theorem dX1_holds_164 : decode cX1_holds 164 = .ok (.iload_n 2, 1) := by decide +kernel
theorem dX1_holds_165 : decode cX1_holds 165 = .ok (.ifCond .ne 12, 3) := by decide +kernel
theorem dX1_holds_168 : decode cX1_holds 168 = .ok (.aload_n 0, 1) := by decide +kernel
theorem dX1_holds_169 : decode cX1_holds 169 = .ok (.bipush 64, 2) := by decide +kernel
theorem dX1_holds_171 : decode cX1_holds 171 = .ok (.invokevirtual 20, 3) := by decide +kernel
theorem dX1_holds_174 : decode cX1_holds 174 = .ok (.ifCond .eq 7, 3) := by decide +kernel
theorem dX1_holds_177 : decode cX1_holds 177 = .ok (.iconst 1, 1) := by decide +kernel
theorem dX1_holds_178 : decode cX1_holds 178 = .ok (.goto 4, 3) := by decide +kernel
theorem dX1_holds_181 : decode cX1_holds 181 = .ok (.iconst 0, 1) := by decide +kernel
theorem dX1_holds_182 : decode cX1_holds 182 = .ok (.istore 4, 2) := by decide +kernel
theorem dX1_holds_184 : decode cX1_holds 184 = .ok (.iload_n 1, 1) := by decide +kernel
theorem dX1_holds_185 : decode cX1_holds 185 = .ok (.iconst 2, 1) := by decide +kernel
theorem dX1_holds_186 : decode cX1_holds 186 = .ok (.irem, 1) := by decide +kernel
theorem dX1_holds_187 : decode cX1_holds 187 = .ok (.ifCond .ne 8, 3) := by decide +kernel
theorem dX1_holds_190 : decode cX1_holds 190 = .ok (.iload 4, 2) := by decide +kernel
theorem dX1_holds_192 : decode cX1_holds 192 = .ok (.goto 13, 3) := by decide +kernel
theorem dX1_holds_195 : decode cX1_holds 195 = .ok (.iload 4, 2) := by decide +kernel
theorem dX1_holds_197 : decode cX1_holds 197 = .ok (.ifCond .ne 7, 3) := by decide +kernel
theorem dX1_holds_200 : decode cX1_holds 200 = .ok (.iconst 1, 1) := by decide +kernel
theorem dX1_holds_201 : decode cX1_holds 201 = .ok (.goto 4, 3) := by decide +kernel
theorem dX1_holds_204 : decode cX1_holds 204 = .ok (.iconst 0, 1) := by decide +kernel
theorem dX1_holds_205 : decode cX1_holds 205 = .ok (.ireturn, 1) := by decide +kernel
theorem dJ6_bitCount_0f7a4_0 : decode cJ6_bitCount_0f7a4 0 = .ok (.iload_n 0, 1) := by decide +kernel
theorem dJ6_bitCount_0f7a4_1 : decode cJ6_bitCount_0f7a4 1 = .ok (.iload_n 0, 1) := by decide +kernel
theorem dJ6_bitCount_0f7a4_2 : decode cJ6_bitCount_0f7a4 2 = .ok (.iconst 1, 1) := by decide +kernel
theorem dJ6_bitCount_0f7a4_3 : decode cJ6_bitCount_0f7a4 3 = .ok (.iushr, 1) := by decide +kernel
theorem dJ6_bitCount_0f7a4_4 : decode cJ6_bitCount_0f7a4 4 = .ok (.ldc_w 265, 3) := by decide +kernel
theorem dJ6_bitCount_0f7a4_7 : decode cJ6_bitCount_0f7a4 7 = .ok (.iand, 1) := by decide +kernel
theorem dJ6_bitCount_0f7a4_8 : decode cJ6_bitCount_0f7a4 8 = .ok (.isub, 1) := by decide +kernel
theorem dJ6_bitCount_0f7a4_9 : decode cJ6_bitCount_0f7a4 9 = .ok (.istore_n 0, 1) := by decide +kernel
theorem dJ6_bitCount_0f7a4_10 : decode cJ6_bitCount_0f7a4 10 = .ok (.iload_n 0, 1) := by decide +kernel
theorem dJ6_bitCount_0f7a4_11 : decode cJ6_bitCount_0f7a4 11 = .ok (.ldc_w 266, 3) := by decide +kernel
theorem dJ6_bitCount_0f7a4_14 : decode cJ6_bitCount_0f7a4 14 = .ok (.iand, 1) := by decide +kernel
theorem dJ6_bitCount_0f7a4_15 : decode cJ6_bitCount_0f7a4 15 = .ok (.iload_n 0, 1) := by decide +kernel
theorem dJ6_bitCount_0f7a4_16 : decode cJ6_bitCount_0f7a4 16 = .ok (.iconst 2, 1) := by decide +kernel
theorem dJ6_bitCount_0f7a4_17 : decode cJ6_bitCount_0f7a4 17 = .ok (.iushr, 1) := by decide +kernel
theorem dJ6_bitCount_0f7a4_18 : decode cJ6_bitCount_0f7a4 18 = .ok (.ldc_w 266, 3) := by decide +kernel
theorem dJ6_bitCount_0f7a4_21 : decode cJ6_bitCount_0f7a4 21 = .ok (.iand, 1) := by decide +kernel
theorem dJ6_bitCount_0f7a4_22 : decode cJ6_bitCount_0f7a4 22 = .ok (.iadd, 1) := by decide +kernel
theorem dJ6_bitCount_0f7a4_23 : decode cJ6_bitCount_0f7a4 23 = .ok (.istore_n 0, 1) := by decide +kernel
theorem dJ6_bitCount_0f7a4_24 : decode cJ6_bitCount_0f7a4 24 = .ok (.iload_n 0, 1) := by decide +kernel
theorem dJ6_bitCount_0f7a4_25 : decode cJ6_bitCount_0f7a4 25 = .ok (.iload_n 0, 1) := by decide +kernel
theorem dJ6_bitCount_0f7a4_26 : decode cJ6_bitCount_0f7a4 26 = .ok (.iconst 4, 1) := by decide +kernel
theorem dJ6_bitCount_0f7a4_27 : decode cJ6_bitCount_0f7a4 27 = .ok (.iushr, 1) := by decide +kernel
theorem dJ6_bitCount_0f7a4_28 : decode cJ6_bitCount_0f7a4 28 = .ok (.iadd, 1) := by decide +kernel
theorem dJ6_bitCount_0f7a4_29 : decode cJ6_bitCount_0f7a4 29 = .ok (.ldc_w 267, 3) := by decide +kernel
theorem dJ6_bitCount_0f7a4_32 : decode cJ6_bitCount_0f7a4 32 = .ok (.iand, 1) := by decide +kernel
theorem dJ6_bitCount_0f7a4_33 : decode cJ6_bitCount_0f7a4 33 = .ok (.istore_n 0, 1) := by decide +kernel
theorem dJ6_bitCount_0f7a4_34 : decode cJ6_bitCount_0f7a4 34 = .ok (.iload_n 0, 1) := by decide +kernel
theorem dJ6_bitCount_0f7a4_35 : decode cJ6_bitCount_0f7a4 35 = .ok (.iload_n 0, 1) := by decide +kernel
theorem dJ6_bitCount_0f7a4_36 : decode cJ6_bitCount_0f7a4 36 = .ok (.bipush 8, 2) := by decide +kernel
theorem dJ6_bitCount_0f7a4_38 : decode cJ6_bitCount_0f7a4 38 = .ok (.iushr, 1) := by decide +kernel
theorem dJ6_bitCount_0f7a4_39 : decode cJ6_bitCount_0f7a4 39 = .ok (.iadd, 1) := by decide +kernel
theorem dJ6_bitCount_0f7a4_40 : decode cJ6_bitCount_0f7a4 40 = .ok (.istore_n 0, 1) := by decide +kernel
theorem dJ6_bitCount_0f7a4_41 : decode cJ6_bitCount_0f7a4 41 = .ok (.iload_n 0, 1) := by decide +kernel
theorem dJ6_bitCount_0f7a4_42 : decode cJ6_bitCount_0f7a4 42 = .ok (.iload_n 0, 1) := by decide +kernel
theorem dJ6_bitCount_0f7a4_43 : decode cJ6_bitCount_0f7a4 43 = .ok (.bipush 16, 2) := by decide +kernel
theorem dJ6_bitCount_0f7a4_45 : decode cJ6_bitCount_0f7a4 45 = .ok (.iushr, 1) := by decide +kernel
theorem dJ6_bitCount_0f7a4_46 : decode cJ6_bitCount_0f7a4 46 = .ok (.iadd, 1) := by decide +kernel
theorem dJ6_bitCount_0f7a4_47 : decode cJ6_bitCount_0f7a4 47 = .ok (.istore_n 0, 1) := by decide +kernel
theorem dJ6_bitCount_0f7a4_48 : decode cJ6_bitCount_0f7a4 48 = .ok (.iload_n 0, 1) := by decide +kernel
theorem dJ6_bitCount_0f7a4_49 : decode cJ6_bitCount_0f7a4 49 = .ok (.bipush 63, 2) := by decide +kernel
theorem dJ6_bitCount_0f7a4_51 : decode cJ6_bitCount_0f7a4 51 = .ok (.iand, 1) := by decide +kernel
theorem dJ6_bitCount_0f7a4_52 : decode cJ6_bitCount_0f7a4 52 = .ok (.ireturn, 1) := by decide +kernel
set_option maxRecDepth 20000 in
abbrev vwCl : List vw_C := [(RJ0, TJ0, 2), (RX0, TX0, 1), (RX1, TX1, 3)]
end
section
/-! THE BASE: a pure call is like an arithmetic row; a call that writes its own object's fields; joins; remainders -/
/-- what irem, lrem answer -/
def jr (x y : Int32) : Int32 := x - x / y * y
def jrL (x y : Int64) : Int64 := x - x / y * y
section
variable {p : Program} {l : Launch} {e : Env} {R : Room} {s : State} {m : MethodId} {args : Array Value} {below : List Frame} {meth : Method} {c : Code} {H : Heap} {locs : List Loc} {cells slots : Nat} {Q : State → Prop}
variable {cc : ByteArray} {pc : Nat} {ls : Array Slot} {rest st0 st : List Value} {a : Array Value} {A : Nat → Prop} {H0 : Heap}
theorem pu_calli {F : Int32} (hr : va_Run p l e R s m args below meth c H locs cells slots 0 0 (F0 m pc ls st0) rest (va_Qi (fun (r : Int32) (_ : Unit) => r = F) (fun _ t => t.heap = H) (fun _ => False) a) (fun _ => False))
    (kk : W p l e R s m args below meth c H locs cells slots Q (F0 m (pc + 3) ls (.int F :: rest))) : W p l e R s m args below meth c H locs cells slots Q (F0 m pc ls st0) := by
  intro T hT X
  obtain ⟨v, st₀, t, T', L, h0, X', hL, e1, e2, ⟨⟨r, u, hv, hp, hb⟩, hz, hk⟩, st⟩ := hr T hT X
  cases hv
  subst hp
  have hL0 : L = [] := by
    cases L with
    | nil => rfl
    | cons q L => exact (hL q List.mem_cons_self).elim
  subst hL0
  rw [List.append_nil] at X'
  obtain ⟨t2, a1, b1⟩ := kk T' (by rw [e1]; exact hb) X'
  exact ⟨t2, st t2 a1, b1⟩
theorem pu_calll {F : Int64} (hr : va_Run p l e R s m args below meth c H locs cells slots 0 0 (F0 m pc ls st0) rest (va_Ql (fun (r : Int64) (_ : Unit) => r = F) (fun _ t => t.heap = H) (fun _ => False) a) (fun _ => False))
    (kk : W p l e R s m args below meth c H locs cells slots Q (F0 m (pc + 3) ls (.long F :: rest))) : W p l e R s m args below meth c H locs cells slots Q (F0 m pc ls st0) := by
  intro T hT X
  obtain ⟨v, st₀, t, T', L, h0, X', hL, e1, e2, ⟨⟨r, u, hv, hp, hb⟩, hz, hk⟩, st⟩ := hr T hT X
  cases hv
  subst hp
  have hL0 : L = [] := by
    cases L with
    | nil => rfl
    | cons q L => exact (hL q List.mem_cons_self).elim
  subst hL0
  rw [List.append_nil] at X'
  obtain ⟨t2, a1, b1⟩ := kk T' (by rw [e1]; exact hb) X'
  exact ⟨t2, st t2 a1, b1⟩
/-- a join: all roads of an expression come to J with one value on the stack -/
theorem rg {J : Nat} (V : Int32) (h : W p l e R s m args below meth c H locs cells slots Q (F0 m J ls (.int V :: st)) → W p l e R s m args below meth c H locs cells slots Q (F0 m pc ls rest)) (k : ∀ y : Int32, y = V → W p l e R s m args below meth c H locs cells slots Q (F0 m J ls (.int y :: st))) : W p l e R s m args below meth c H locs cells slots Q (F0 m pc ls rest) := h (k V rfl)
theorem rg_e {J : Nat} {V v : Int32} (k : W p l e R s m args below meth c H locs cells slots Q (F0 m J ls (.int V :: st))) (h : V = v) : W p l e R s m args below meth c H locs cells slots Q (F0 m J ls (.int v :: st)) := h ▸ k
theorem rgL {J : Nat} (V : Int64) (h : W p l e R s m args below meth c H locs cells slots Q (F0 m J ls (.long V :: st)) → W p l e R s m args below meth c H locs cells slots Q (F0 m pc ls rest)) (k : ∀ y : Int64, y = V → W p l e R s m args below meth c H locs cells slots Q (F0 m J ls (.long y :: st))) : W p l e R s m args below meth c H locs cells slots Q (F0 m pc ls rest) := h (k V rfl)
theorem rgL_e {J : Nat} {V v : Int64} (k : W p l e R s m args below meth c H locs cells slots Q (F0 m J ls (.long V :: st))) (h : V = v) : W p l e R s m args below meth c H locs cells slots Q (F0 m J ls (.long v :: st)) := h ▸ k
theorem jr_row (hexec : p.tables.exec = Jvm.exec) (hb : c.code = cc) {x y : Int32} (hdg : decode cc pc = .ok (.irem, 1)) (hne : ¬ y = 0)
    (k : W p l e R s m args below meth c H locs cells slots Q (F0 m (pc + 1) ls (.int (jr x y) :: rest))) : W p l e R s m args below meth c H locs cells slots Q (F0 m pc ls (.int y :: .int x :: rest)) := lv_irem hexec hb hdg hne k
theorem jrL_row (hexec : p.tables.exec = Jvm.exec) (hb : c.code = cc) {x y : Int64} (hdg : decode cc pc = .ok (.lrem, 1)) (hne : ¬ y = 0)
    (k : W p l e R s m args below meth c H locs cells slots Q (F0 m (pc + 1) ls (.long (jrL x y) :: rest))) : W p l e R s m args below meth c H locs cells slots Q (F0 m pc ls (.long y :: .long x :: rest)) := lv_lrem hexec hb hdg hne k
/-- a world of one object: before a call that may write, behind it, what may be written -/
def wr_pre (D : va_G) (ci h0 sz : Nat) (fs : List Value) (U : State) : Prop := U.heap.size = sz ∧ va_P D vwCl [(h0, .inr (ci, fs))] U.heap ∧ va_K D vwCl [] U ∧ va_D (fun _ => True) [(h0, .inr (ci, fs))]
def wr_at {S : Type} (D : va_G) (ci h0 : Nat) (g : S → List Value) (A : Nat → Prop) (u : S) (t : State) : Prop := va_P D vwCl [(h0, .inr (ci, g u))] t.heap ∧ va_K D vwCl [] t ∧ va_D A [(h0, .inr (ci, g u))]
abbrev wr_A (ci h0 sz : Nat) (fs : List Value) : Nat → Prop := va_A [(h0, .inr (ci, fs))] sz
/-- a call that reads: the heap is the one that it was -/
def pu_pre (D : va_G) (ci h0 : Nat) (HH : Heap) (fs : List Value) (U : State) : Prop := U.heap = HH ∧ va_P D vwCl [(h0, .inr (ci, fs))] U.heap ∧ va_K D vwCl [] U
theorem wr_preV {D : va_G} {ci h0 : Nat} {fs As : List Value} {q : vw_C} (hc : vwCl[ci]? = some q) (hK : va_K D vwCl [] s) (hP : va_P D vwCl [(h0, .inr (ci, fs))] H) (hD : va_D A [(h0, .inr (ci, fs))]) : PreV s H q.1 h0 (va_Pc (.ref h0 :: As) (wr_pre D ci h0 H.size fs)) As :=
  ⟨fun a U g mk q => by obtain ⟨q0, q1, qP, qK, qD⟩ := q; exact ⟨q0, q1, qP, va_K.moved (u := U) (U := U.calling g mk a) (Vm.Alike.refl U.vm) qK, qD⟩, va_recv hK hP (ci := ci) (q0 := 0) hc rfl, fun U hU hW => ⟨rfl, by rw [hU], by rw [hU]; exact hP, va_K.moved hW.alike hK, hD.weaken (fun _ _ _ _ => trivial)⟩⟩
theorem pu_preV {D : va_G} {ci h0 : Nat} {fs As : List Value} {q : vw_C} (hc : vwCl[ci]? = some q) (hK : va_K D vwCl [] s) (hP : va_P D vwCl [(h0, .inr (ci, fs))] H) : PreV s H q.1 h0 (va_Pc (.ref h0 :: As) (pu_pre D ci h0 H fs)) As :=
  ⟨fun a U g mk q => by obtain ⟨q0, q1, qP, qK⟩ := q; exact ⟨q0, q1, qP, va_K.moved (u := U) (U := U.calling g mk a) (Vm.Alike.refl U.vm) qK⟩, va_recv hK hP (ci := ci) (q0 := 0) hc rfl, fun U hU hW => ⟨rfl, hU, by rw [hU]; exact hP, va_K.moved hW.alike hK⟩⟩
theorem pu_preS {As : List Value} : PreS s H (va_Pc As (fun U => U.heap = H)) As :=
  ⟨fun a U g mk q => by obtain ⟨q0, q1⟩ := q; exact ⟨q0, q1⟩, fun U hU hW => ⟨rfl, hU⟩⟩
theorem wr_calli {D : va_G} {ci h0 : Nat} {fs : List Value} {S : Type} {post : Int32 → S → Prop} {g : S → List Value} (hr : va_Run p l e R s m args below meth c H locs cells slots 0 0 (F0 m pc ls st0) rest (va_Qi post (wr_at D ci h0 g (wr_A ci h0 H.size fs)) (wr_A ci h0 H.size fs) a) (wr_A ci h0 H.size fs))
    (hP : va_P D vwCl [(h0, .inr (ci, fs))] H) (hD : va_D A [(h0, .inr (ci, fs))]) (hS : va_S A H0 H locs) (hA : ∀ q : Nat, H0.size ≤ q → A q)
    (kk : ∀ (r : Int32) (u : S) (H1 : Heap) (locs1 : List Loc), post r u → va_P D vwCl [(h0, .inr (ci, g u))] H1 → va_D A [(h0, .inr (ci, g u))] → va_S A H0 H1 locs1 → W p l e R s m args below meth c H1 locs1 cells slots Q (F0 m (pc + 3) ls (.int r :: rest))) : W p l e R s m args below meth c H locs cells slots Q (F0 m pc ls st0) := by
  have hFc := va_free (wc := [(h0, .inr (ci, fs))]) hD hS hA [0] rfl
  refine va_calli hr hS (fun q _ h => hFc q h) hFc (fun r u t H1 locs1 ht hvm hw hB hz1 hk1 hS1 => ?_)
  obtain ⟨hP1, hK1, hD1⟩ := hB
  rw [ht] at hP1
  obtain ⟨hP2, hD2⟩ := va_join (wr := []) (w1 := [(h0, .inr (ci, g u))]) hP hD [0] [] rfl rfl (by decide) (by decide) hk1 hFc hP1 hD1
  exact kk r u H1 locs1 hw hP2 hD2 hS1
theorem wr_callv {D : va_G} {ci h0 : Nat} {fs : List Value} {S : Type} {post : S → Prop} {g : S → List Value} (hr : va_Run p l e R s m args below meth c H locs cells slots 0 0 (F0 m pc ls st0) rest (va_Qv post (wr_at D ci h0 g (wr_A ci h0 H.size fs)) (wr_A ci h0 H.size fs) a) (wr_A ci h0 H.size fs))
    (hP : va_P D vwCl [(h0, .inr (ci, fs))] H) (hD : va_D A [(h0, .inr (ci, fs))]) (hS : va_S A H0 H locs) (hA : ∀ q : Nat, H0.size ≤ q → A q)
    (kk : ∀ (u : S) (H1 : Heap) (locs1 : List Loc), post u → va_P D vwCl [(h0, .inr (ci, g u))] H1 → va_D A [(h0, .inr (ci, g u))] → va_S A H0 H1 locs1 → W p l e R s m args below meth c H1 locs1 cells slots Q (F0 m (pc + 3) ls rest)) : W p l e R s m args below meth c H locs cells slots Q (F0 m pc ls st0) := by
  have hFc := va_free (wc := [(h0, .inr (ci, fs))]) hD hS hA [0] rfl
  refine va_callv hr hS (fun q _ h => hFc q h) hFc (fun u t H1 locs1 ht hvm hw hB hz1 hk1 hS1 => ?_)
  obtain ⟨hP1, hK1, hD1⟩ := hB
  rw [ht] at hP1
  obtain ⟨hP2, hD2⟩ := va_join (wr := []) (w1 := [(h0, .inr (ci, g u))]) hP hD [0] [] rfl rfl (by decide) (by decide) hk1 hFc hP1 hD1
  exact kk u H1 locs1 hw hP2 hD2 hS1
theorem pu_F {t : State} (ht : t.heap = s.heap) : va_F (fun _ => False) s t := ⟨by rw [ht]; exact Nat.le_refl _, fun q _ _ => by rw [ht]⟩
end
theorem nb_of {v : Int32} (h : v = 0 ∨ v = 1) : narrow .boolean (.int v) = .int v := by
  rcases h with h | h <;> rw [h] <;> rfl
theorem hal_0 {al : Int32} (h : al = 256 ∨ al = 65536) : ¬ al = 0 := by rcases h with h | h <;> rw [h] <;> decide
theorem hal_2 {al : Int32} (h : al = 256 ∨ al = 65536) : ¬ al / 2 = 0 := by rcases h with h | h <;> rw [h] <;> decide
theorem sw_out {x : Int32} (n : Nat) (hn : n < 100) (h : ∀ k : Nat, k ≤ n → ¬ x = nI k) : x.toInt < 0 ∨ (n : Int) < x.toInt := by
  by_cases h0 : x < 0
  · exact Or.inl (by have := Int32.lt_iff_toInt_lt.mp h0; simpa using this)
  · obtain ⟨j, hj, rfl⟩ := nI_of h0
    rw [nI_toInt hj]
    refine Or.inr ?_
    rcases Nat.lt_or_ge n j with q | q
    · exact Int.ofNat_lt.mpr q
    · exact absurd rfl (h j q)
theorem lk_ne {x : Int32} {k : Nat} (hk : k < 100) (h : ¬ x = nI k) : x.toInt ≠ (k : Int) := fun e => h (by
  apply Int32.toInt_inj.mp
  rw [nI_toInt (by omega), e])
theorem lk_out {x : Int32} (h1 : ¬ x = 1) (h2 : ¬ x = 3) (h3 : ¬ x = 7) : Op.lookupswitch.offset (#[(1, 35), (3, 37), (7, 43)] : Array (Int × Int)).toList 45 x.toInt = 45 := by
  have e1 := lk_ne (k := 1) (by decide) h1
  have e2 := lk_ne (k := 3) (by decide) h2
  have e3 := lk_ne (k := 7) (by decide) h3
  show (if (1 : Int) = x.toInt then (35 : Int) else if (3 : Int) = x.toInt then 37 else if (7 : Int) = x.toInt then 43 else 45) = 45
  rw [if_neg (fun h => e1 h.symm), if_neg (fun h => e2 h.symm), if_neg (fun h => e3 h.symm)]
theorem hal_L {al : Int32} (h : al = 256 ∨ al = 65536) : ¬ al.toInt64 = 0 := by rcases h with h | h <;> rw [h] <;> decide
end
section
/-- what X0_width answers -/
def f_X0_width (a1 : Int32) : Int32 :=
  let y_1 : Int32 := (if a1 = 0 then 8 else 16)
  y_1
set_option maxHeartbeats 4000000 in
set_option maxRecDepth 100000 in
theorem p_X0_width (l : Launch) (HH : Heap) (a1 : Int32) : Met l yX0_width wsX0_width ({ frames := 0, cells := 0, slots := 0, locals := 0 }) (va_Pc [.int a1] (fun U => U.heap = HH)) (va_Qi (fun (r : Int32) (_ : Unit) => r = f_X0_width a1) (fun _ t => t.heap = HH) (fun _ => False)) 0 0 (fun _ => False) := by
  refine Met.ofW (cc := cX0_width) (maxL := 1) (ret := (some .int)) (by decide) rfl ?_
  intro p e s m args below meth c s₁ B hml hv
  obtain ⟨rfl, hsz⟩ := hv
  have hx := B.exec
  have hb := B.bytes
  have hr := B.returns
  have hts := atoms_spec (ws := wsX0_width) B.pre
  have hown : s.vm.findClass RX0 = some m.cls := findClass_of_methodNamed B.named
  have hlocks := B.notSynchronized
  subst hsz
  have hl := lv_entry ([.int a1]) (n := 1) (Nat.le_of_ble_eq_true rfl)
  rw [lg_entry_eq]
  generalize (lg_sl ([.int a1]) ++ List.replicate (1 - (lg_sl ([.int a1])).length) Slot.unset).toArray = ls at hl ⊢
  have hl : lv_has ls 1 [(0, .int a1)] := hl
  refine lv_iload_n hx hb dX0_width_0 rfl (lv_at hl 0 rfl) ?_
  refine rg (J := 11) (st := []) (if a1 = 0 then 8 else 16) (fun k => ?_) (fun y_1 ey_1 => ?_)
  · refine lv_if_eq (tgt := 9) hx hb dX0_width_1 (by decide) (fun c_2 => ?_) (fun c_2 => ?_)
    · refine lv_bipush (v := 8) hx hb dX0_width_9 (by decide +kernel) ?_
      exact rg_e k (by first | rw [if_pos c_2] | simp only [if_pos c_2])
    · refine lv_bipush (v := 16) hx hb dX0_width_4 (by decide +kernel) ?_
      refine lv_goto (tgt := 11) hx hb dX0_width_6 (by decide) ?_
      exact rg_e k (by first | rw [if_neg c_2] | simp only [if_neg c_2])
  exact W.iret (v := y_1) hx hb hr (fun t ht hW => ⟨⟨y_1, (), rfl, (by subst ey_1; simp only [f_X0_width]), ht⟩, pu_F ht⟩) (fun q h => nomatch h) dX0_width_11

/-- what X0_mask answers -/
def f_X0_mask (a1 : Int32) : Int32 :=
  let y_1 : Int32 := (if a1 = 0 then 255 else 65535)
  y_1
set_option maxHeartbeats 4000000 in
set_option maxRecDepth 100000 in
theorem p_X0_mask (l : Launch) (HH : Heap) (a1 : Int32) : Met l yX0_mask wsX0_mask ({ frames := 0, cells := 0, slots := 0, locals := 0 }) (va_Pc [.int a1] (fun U => U.heap = HH)) (va_Qi (fun (r : Int32) (_ : Unit) => r = f_X0_mask a1) (fun _ t => t.heap = HH) (fun _ => False)) 0 0 (fun _ => False) := by
  refine Met.ofW (cc := cX0_mask) (maxL := 1) (ret := (some .int)) (by decide) rfl ?_
  intro p e s m args below meth c s₁ B hml hv
  obtain ⟨rfl, hsz⟩ := hv
  have hx := B.exec
  have hb := B.bytes
  have hr := B.returns
  have hts := atoms_spec (ws := wsX0_mask) B.pre
  have hown : s.vm.findClass RX0 = some m.cls := findClass_of_methodNamed B.named
  have hlocks := B.notSynchronized
  subst hsz
  have hl := lv_entry ([.int a1]) (n := 1) (Nat.le_of_ble_eq_true rfl)
  rw [lg_entry_eq]
  generalize (lg_sl ([.int a1]) ++ List.replicate (1 - (lg_sl ([.int a1])).length) Slot.unset).toArray = ls at hl ⊢
  have hl : lv_has ls 1 [(0, .int a1)] := hl
  refine lv_iload_n hx hb dX0_mask_0 rfl (lv_at hl 0 rfl) ?_
  refine rg (J := 12) (st := []) (if a1 = 0 then 255 else 65535) (fun k => ?_) (fun y_1 ey_1 => ?_)
  · refine lv_if_eq (tgt := 9) hx hb dX0_mask_1 (by decide) (fun c_2 => ?_) (fun c_2 => ?_)
    · refine lv_sipush (v := 255) hx hb dX0_mask_9 (by decide +kernel) ?_
      exact rg_e k (by first | rw [if_pos c_2] | simp only [if_pos c_2])
    · refine lv_ldc (own := RX0) (index := 63) (v := 65535) hx hb hown (hts (.constant RX0 63 (65535)) (by decide +kernel)) dX0_mask_4 ?_
      refine lv_goto (tgt := 12) hx hb dX0_mask_6 (by decide) ?_
      exact rg_e k (by first | rw [if_neg c_2] | simp only [if_neg c_2])
  exact W.iret (v := y_1) hx hb hr (fun t ht hW => ⟨⟨y_1, (), rfl, (by subst ey_1; simp only [f_X0_mask]), ht⟩, pu_F ht⟩) (fun q h => nomatch h) dX0_mask_12

/-- what X0_highestBit answers -/
def f_X0_highestBit (a1 : Int32) : Int32 :=
  let y_1 : Int32 := (if a1 = 0 then 128 else 32768)
  y_1
set_option maxHeartbeats 4000000 in
set_option maxRecDepth 100000 in
theorem p_X0_highestBit (l : Launch) (HH : Heap) (a1 : Int32) : Met l yX0_highestBit wsX0_highestBit ({ frames := 0, cells := 0, slots := 0, locals := 0 }) (va_Pc [.int a1] (fun U => U.heap = HH)) (va_Qi (fun (r : Int32) (_ : Unit) => r = f_X0_highestBit a1) (fun _ t => t.heap = HH) (fun _ => False)) 0 0 (fun _ => False) := by
  refine Met.ofW (cc := cX0_highestBit) (maxL := 1) (ret := (some .int)) (by decide) rfl ?_
  intro p e s m args below meth c s₁ B hml hv
  obtain ⟨rfl, hsz⟩ := hv
  have hx := B.exec
  have hb := B.bytes
  have hr := B.returns
  have hts := atoms_spec (ws := wsX0_highestBit) B.pre
  have hown : s.vm.findClass RX0 = some m.cls := findClass_of_methodNamed B.named
  have hlocks := B.notSynchronized
  subst hsz
  have hl := lv_entry ([.int a1]) (n := 1) (Nat.le_of_ble_eq_true rfl)
  rw [lg_entry_eq]
  generalize (lg_sl ([.int a1]) ++ List.replicate (1 - (lg_sl ([.int a1])).length) Slot.unset).toArray = ls at hl ⊢
  have hl : lv_has ls 1 [(0, .int a1)] := hl
  refine lv_iload_n hx hb dX0_highestBit_0 rfl (lv_at hl 0 rfl) ?_
  refine rg (J := 12) (st := []) (if a1 = 0 then 128 else 32768) (fun k => ?_) (fun y_1 ey_1 => ?_)
  · refine lv_if_eq (tgt := 9) hx hb dX0_highestBit_1 (by decide) (fun c_2 => ?_) (fun c_2 => ?_)
    · refine lv_sipush (v := 128) hx hb dX0_highestBit_9 (by decide +kernel) ?_
      exact rg_e k (by first | rw [if_pos c_2] | simp only [if_pos c_2])
    · refine lv_ldc (own := RX0) (index := 127) (v := 32768) hx hb hown (hts (.constant RX0 127 (32768)) (by decide +kernel)) dX0_highestBit_4 ?_
      refine lv_goto (tgt := 12) hx hb dX0_highestBit_6 (by decide) ?_
      exact rg_e k (by first | rw [if_neg c_2] | simp only [if_neg c_2])
  exact W.iret (v := y_1) hx hb hr (fun t ht hW => ⟨⟨y_1, (), rfl, (by subst ey_1; simp only [f_X0_highestBit]), ht⟩, pu_F ht⟩) (fun q h => nomatch h) dX0_highestBit_12

/-- what X0_hasHighestBit answers -/
def f_X0_hasHighestBit (a1 : Int32) (a2 : Int32) : Int32 :=
  let y_1 : Int32 := (if (a2 &&& (f_X0_highestBit a1)) = 0 then 0 else 1)
  y_1
theorem fb_X0_hasHighestBit (a1 : Int32) (a2 : Int32) : f_X0_hasHighestBit a1 a2 = 0 ∨ f_X0_hasHighestBit a1 a2 = 1 := by
  unfold f_X0_hasHighestBit
  repeat (first | exact Or.inl rfl | exact Or.inr rfl | apply fb_X0_isSet | split)
set_option maxHeartbeats 4000000 in
set_option maxRecDepth 100000 in
theorem p_X0_hasHighestBit (l : Launch) (HH : Heap) (a1 : Int32) (a2 : Int32) : Met l yX0_hasHighestBit wsX0_hasHighestBit ({ frames := 1, cells := 0, slots := 0, locals := 20 }) (va_Pc [.int a1, .int a2] (fun U => U.heap = HH)) (va_Qi (fun (r : Int32) (_ : Unit) => r = f_X0_hasHighestBit a1 a2) (fun _ t => t.heap = HH) (fun _ => False)) 0 0 (fun _ => False) := by
  refine Met.ofW (cc := cX0_hasHighestBit) (maxL := 2) (ret := (some .boolean)) (by decide) rfl ?_
  intro p e s m args below meth c s₁ B hml hv
  obtain ⟨rfl, hsz⟩ := hv
  have hx := B.exec
  have hb := B.bytes
  have hr := B.returns
  have hts := atoms_spec (ws := wsX0_hasHighestBit) B.pre
  have hown : s.vm.findClass RX0 = some m.cls := findClass_of_methodNamed B.named
  have hlocks := B.notSynchronized
  subst hsz
  have hl := lv_entry ([.int a1, .int a2]) (n := 2) (Nat.le_of_ble_eq_true rfl)
  rw [lg_entry_eq]
  generalize (lg_sl ([.int a1, .int a2]) ++ List.replicate (2 - (lg_sl ([.int a1, .int a2])).length) Slot.unset).toArray = ls at hl ⊢
  have hl : lv_has ls 2 [(0, .int a1), (1, .int a2)] := hl
  refine lv_iload_n hx hb dX0_hasHighestBit_0 rfl (lv_at hl 1 rfl) ?_
  refine lv_iload_n hx hb dX0_hasHighestBit_1 rfl (lv_at hl 0 rfl) ?_
  refine pu_calli (F := (f_X0_highestBit a1)) (va_runS (As := [.int a1]) (rest := [.int a2]) ⟨hx, hb, hml, hown, hts⟩ (p_X0_highestBit l _ a1) (va_cwS 1 hts gX0_hasHighestBit_X0_highestBit rfl rfl rfl (by decide +kernel) ⟨Nat.le_of_ble_eq_true rfl, Nat.le_of_ble_eq_true rfl⟩) pu_preS rfl rfl hl.1 rfl (lv_room (Nat.le_of_ble_eq_true rfl)) dX0_hasHighestBit_2 ⟨Nat.le_of_ble_eq_true rfl, Nat.le_of_ble_eq_true rfl⟩) ?_
  refine lv_iand hx hb dX0_hasHighestBit_5 ?_
  refine rg (J := 14) (st := []) (if (a2 &&& (f_X0_highestBit a1)) = 0 then 0 else 1) (fun k => ?_) (fun y_1 ey_1 => ?_)
  · refine lv_if_eq (tgt := 13) hx hb dX0_hasHighestBit_6 (by decide) (fun c_2 => ?_) (fun c_2 => ?_)
    · refine lv_iconst (v := 0) hx hb dX0_hasHighestBit_13 (by decide) ?_
      exact rg_e k (by first | rw [if_pos c_2] | simp only [if_pos c_2])
    · refine lv_iconst (v := 1) hx hb dX0_hasHighestBit_9 (by decide) ?_
      refine lv_goto (tgt := 14) hx hb dX0_hasHighestBit_10 (by decide) ?_
      exact rg_e k (by first | rw [if_neg c_2] | simp only [if_neg c_2])
  exact W.zret (v := y_1) hx hb hr (nb_of (by rw [ey_1]; repeat (first | exact Or.inl rfl | exact Or.inr rfl | split))) (fun t ht hW => ⟨⟨y_1, (), rfl, (by subst ey_1; simp only [f_X0_hasHighestBit]), ht⟩, pu_F ht⟩) (fun q h => nomatch h) dX0_hasHighestBit_14

/-- what X0_operand answers -/
def f_X0_operand (a1 : Int32) (a2 : Int32) : Int32 :=
  (a2 &&& (f_X0_mask a1))
set_option maxHeartbeats 4000000 in
set_option maxRecDepth 100000 in
theorem p_X0_operand (l : Launch) (HH : Heap) (a1 : Int32) (a2 : Int32) : Met l yX0_operand wsX0_operand ({ frames := 1, cells := 0, slots := 0, locals := 20 }) (va_Pc [.int a1, .int a2] (fun U => U.heap = HH)) (va_Qi (fun (r : Int32) (_ : Unit) => r = f_X0_operand a1 a2) (fun _ t => t.heap = HH) (fun _ => False)) 0 0 (fun _ => False) := by
  refine Met.ofW (cc := cX0_operand) (maxL := 2) (ret := (some .int)) (by decide) rfl ?_
  intro p e s m args below meth c s₁ B hml hv
  obtain ⟨rfl, hsz⟩ := hv
  have hx := B.exec
  have hb := B.bytes
  have hr := B.returns
  have hts := atoms_spec (ws := wsX0_operand) B.pre
  have hown : s.vm.findClass RX0 = some m.cls := findClass_of_methodNamed B.named
  have hlocks := B.notSynchronized
  subst hsz
  have hl := lv_entry ([.int a1, .int a2]) (n := 2) (Nat.le_of_ble_eq_true rfl)
  rw [lg_entry_eq]
  generalize (lg_sl ([.int a1, .int a2]) ++ List.replicate (2 - (lg_sl ([.int a1, .int a2])).length) Slot.unset).toArray = ls at hl ⊢
  have hl : lv_has ls 2 [(0, .int a1), (1, .int a2)] := hl
  refine lv_iload_n hx hb dX0_operand_0 rfl (lv_at hl 1 rfl) ?_
  refine lv_iload_n hx hb dX0_operand_1 rfl (lv_at hl 0 rfl) ?_
  refine pu_calli (F := (f_X0_mask a1)) (va_runS (As := [.int a1]) (rest := [.int a2]) ⟨hx, hb, hml, hown, hts⟩ (p_X0_mask l _ a1) (va_cwS 1 hts gX0_operand_X0_mask rfl rfl rfl (by decide +kernel) ⟨Nat.le_of_ble_eq_true rfl, Nat.le_of_ble_eq_true rfl⟩) pu_preS rfl rfl hl.1 rfl (lv_room (Nat.le_of_ble_eq_true rfl)) dX0_operand_2 ⟨Nat.le_of_ble_eq_true rfl, Nat.le_of_ble_eq_true rfl⟩) ?_
  refine lv_iand hx hb dX0_operand_5 ?_
  exact W.iret (v := (a2 &&& (f_X0_mask a1))) hx hb hr (fun t ht hW => ⟨⟨(a2 &&& (f_X0_mask a1)), (), rfl, rfl, ht⟩, pu_F ht⟩) (fun q h => nomatch h) dX0_operand_6

/-- what X0_signedValue answers -/
def f_X0_signedValue (a1 : Int32) (a2 : Int32) : Int32 :=
  let y_1 : Int32 := (if a1 = 0 then ((a2 : Int32).toInt8.toInt32) else ((a2 : Int32).toInt16.toInt32))
  y_1
set_option maxHeartbeats 4000000 in
set_option maxRecDepth 100000 in
theorem p_X0_signedValue (l : Launch) (HH : Heap) (a1 : Int32) (a2 : Int32) : Met l yX0_signedValue wsX0_signedValue ({ frames := 0, cells := 0, slots := 0, locals := 0 }) (va_Pc [.int a1, .int a2] (fun U => U.heap = HH)) (va_Qi (fun (r : Int32) (_ : Unit) => r = f_X0_signedValue a1 a2) (fun _ t => t.heap = HH) (fun _ => False)) 0 0 (fun _ => False) := by
  refine Met.ofW (cc := cX0_signedValue) (maxL := 2) (ret := (some .int)) (by decide) rfl ?_
  intro p e s m args below meth c s₁ B hml hv
  obtain ⟨rfl, hsz⟩ := hv
  have hx := B.exec
  have hb := B.bytes
  have hr := B.returns
  have hts := atoms_spec (ws := wsX0_signedValue) B.pre
  have hown : s.vm.findClass RX0 = some m.cls := findClass_of_methodNamed B.named
  have hlocks := B.notSynchronized
  subst hsz
  have hl := lv_entry ([.int a1, .int a2]) (n := 2) (Nat.le_of_ble_eq_true rfl)
  rw [lg_entry_eq]
  generalize (lg_sl ([.int a1, .int a2]) ++ List.replicate (2 - (lg_sl ([.int a1, .int a2])).length) Slot.unset).toArray = ls at hl ⊢
  have hl : lv_has ls 2 [(0, .int a1), (1, .int a2)] := hl
  refine lv_iload_n hx hb dX0_signedValue_0 rfl (lv_at hl 0 rfl) ?_
  refine rg (J := 11) (st := []) (if a1 = 0 then ((a2 : Int32).toInt8.toInt32) else ((a2 : Int32).toInt16.toInt32)) (fun k => ?_) (fun y_1 ey_1 => ?_)
  · refine lv_if_eq (tgt := 9) hx hb dX0_signedValue_1 (by decide) (fun c_2 => ?_) (fun c_2 => ?_)
    · refine lv_iload_n hx hb dX0_signedValue_9 rfl (lv_at hl 1 rfl) ?_
      refine lv_i2b (v := (a2 : Int32).toInt8.toInt32) hx hb dX0_signedValue_10 rfl ?_
      exact rg_e k (by first | rw [if_pos c_2] | simp only [if_pos c_2])
    · refine lv_iload_n hx hb dX0_signedValue_4 rfl (lv_at hl 1 rfl) ?_
      refine lv_i2s (v := (a2 : Int32).toInt16.toInt32) hx hb dX0_signedValue_5 rfl ?_
      refine lv_goto (tgt := 11) hx hb dX0_signedValue_6 (by decide) ?_
      exact rg_e k (by first | rw [if_neg c_2] | simp only [if_neg c_2])
  exact W.iret (v := y_1) hx hb hr (fun t ht hW => ⟨⟨y_1, (), rfl, (by subst ey_1; simp only [f_X0_signedValue]), ht⟩, pu_F ht⟩) (fun q h => nomatch h) dX0_signedValue_11

/-- what X0_valueOf answers -/
def f_X0_valueOf (a1 : Int32) (a2 : Int32) (a3 : Int32) : Int32 :=
  let y_1 : Int32 := (if a2 = 0 then (f_X0_operand a1 a3) else (f_X0_signedValue a1 a3))
  y_1
set_option maxHeartbeats 4000000 in
set_option maxRecDepth 100000 in
theorem p_X0_valueOf (l : Launch) (HH : Heap) (a1 : Int32) (a2 : Int32) (a3 : Int32) : Met l yX0_valueOf wsX0_valueOf ({ frames := 2, cells := 0, slots := 0, locals := 41 }) (va_Pc [.int a1, .int a2, .int a3] (fun U => U.heap = HH)) (va_Qi (fun (r : Int32) (_ : Unit) => r = f_X0_valueOf a1 a2 a3) (fun _ t => t.heap = HH) (fun _ => False)) 0 0 (fun _ => False) := by
  refine Met.ofW (cc := cX0_valueOf) (maxL := 3) (ret := (some .int)) (by decide) rfl ?_
  intro p e s m args below meth c s₁ B hml hv
  obtain ⟨rfl, hsz⟩ := hv
  have hx := B.exec
  have hb := B.bytes
  have hr := B.returns
  have hts := atoms_spec (ws := wsX0_valueOf) B.pre
  have hown : s.vm.findClass RX0 = some m.cls := findClass_of_methodNamed B.named
  have hlocks := B.notSynchronized
  subst hsz
  have hl := lv_entry ([.int a1, .int a2, .int a3]) (n := 3) (Nat.le_of_ble_eq_true rfl)
  rw [lg_entry_eq]
  generalize (lg_sl ([.int a1, .int a2, .int a3]) ++ List.replicate (3 - (lg_sl ([.int a1, .int a2, .int a3])).length) Slot.unset).toArray = ls at hl ⊢
  have hl : lv_has ls 3 [(0, .int a1), (1, .int a2), (2, .int a3)] := hl
  refine lv_iload_n hx hb dX0_valueOf_0 rfl (lv_at hl 1 rfl) ?_
  refine rg (J := 17) (st := []) (if a2 = 0 then (f_X0_operand a1 a3) else (f_X0_signedValue a1 a3)) (fun k => ?_) (fun y_1 ey_1 => ?_)
  · refine lv_if_eq (tgt := 12) hx hb dX0_valueOf_1 (by decide) (fun c_2 => ?_) (fun c_2 => ?_)
    · refine lv_iload_n hx hb dX0_valueOf_12 rfl (lv_at hl 0 rfl) ?_
      refine lv_iload_n hx hb dX0_valueOf_13 rfl (lv_at hl 2 rfl) ?_
      refine pu_calli (F := (f_X0_operand a1 a3)) (va_runS (As := [.int a1, .int a3]) (rest := []) ⟨hx, hb, hml, hown, hts⟩ (p_X0_operand l _ a1 a3) (va_cwS 2 hts gX0_valueOf_X0_operand rfl rfl rfl (by decide +kernel) ⟨Nat.le_of_ble_eq_true rfl, Nat.le_of_ble_eq_true rfl⟩) pu_preS rfl rfl hl.1 rfl (lv_room (Nat.le_of_ble_eq_true rfl)) dX0_valueOf_14 ⟨Nat.le_of_ble_eq_true rfl, Nat.le_of_ble_eq_true rfl⟩) ?_
      exact rg_e k (by first | rw [if_pos c_2] | simp only [if_pos c_2])
    · refine lv_iload_n hx hb dX0_valueOf_4 rfl (lv_at hl 0 rfl) ?_
      refine lv_iload_n hx hb dX0_valueOf_5 rfl (lv_at hl 2 rfl) ?_
      refine pu_calli (F := (f_X0_signedValue a1 a3)) (va_runS (As := [.int a1, .int a3]) (rest := []) ⟨hx, hb, hml, hown, hts⟩ (p_X0_signedValue l _ a1 a3) (va_cwS 2 hts gX0_valueOf_X0_signedValue rfl rfl rfl (by decide +kernel) ⟨Nat.le_of_ble_eq_true rfl, Nat.le_of_ble_eq_true rfl⟩) pu_preS rfl rfl hl.1 rfl (lv_room (Nat.le_of_ble_eq_true rfl)) dX0_valueOf_6 ⟨Nat.le_of_ble_eq_true rfl, Nat.le_of_ble_eq_true rfl⟩) ?_
      refine lv_goto (tgt := 17) hx hb dX0_valueOf_9 (by decide) ?_
      exact rg_e k (by first | rw [if_neg c_2] | simp only [if_neg c_2])
  exact W.iret (v := y_1) hx hb hr (fun t ht hW => ⟨⟨y_1, (), rfl, (by subst ey_1; simp only [f_X0_valueOf]), ht⟩, pu_F ht⟩) (fun q h => nomatch h) dX0_valueOf_17

/-- what X0_valueTwiceAsLong answers -/
def f_X0_valueTwiceAsLong (a1 : Int32) (a2 : Int32) (a3 : Int32) : Int64 :=
  if a1 = 0 then
  ((((f_X0_valueOf 1 a2 a3) : Int32).toInt64))
  else
  (let y_2 : Int64 := (if a2 = 0 then (((a3 : Int32).toInt64) &&& 4294967295) else ((a3 : Int32).toInt64))
  y_2)
set_option maxHeartbeats 4000000 in
set_option maxRecDepth 100000 in
theorem p_X0_valueTwiceAsLong (l : Launch) (HH : Heap) (a1 : Int32) (a2 : Int32) (a3 : Int32) : Met l yX0_valueTwiceAsLong wsX0_valueTwiceAsLong ({ frames := 3, cells := 0, slots := 0, locals := 63 }) (va_Pc [.int a1, .int a2, .int a3] (fun U => U.heap = HH)) (va_Ql (fun (r : Int64) (_ : Unit) => r = f_X0_valueTwiceAsLong a1 a2 a3) (fun _ t => t.heap = HH) (fun _ => False)) 0 0 (fun _ => False) := by
  refine Met.ofW (cc := cX0_valueTwiceAsLong) (maxL := 3) (ret := (some .long)) (by decide) rfl ?_
  intro p e s m args below meth c s₁ B hml hv
  obtain ⟨rfl, hsz⟩ := hv
  have hx := B.exec
  have hb := B.bytes
  have hr := B.returns
  have hts := atoms_spec (ws := wsX0_valueTwiceAsLong) B.pre
  have hown : s.vm.findClass RX0 = some m.cls := findClass_of_methodNamed B.named
  have hlocks := B.notSynchronized
  subst hsz
  have hl := lv_entry ([.int a1, .int a2, .int a3]) (n := 3) (Nat.le_of_ble_eq_true rfl)
  rw [lg_entry_eq]
  generalize (lg_sl ([.int a1, .int a2, .int a3]) ++ List.replicate (3 - (lg_sl ([.int a1, .int a2, .int a3])).length) Slot.unset).toArray = ls at hl ⊢
  have hl : lv_has ls 3 [(0, .int a1), (1, .int a2), (2, .int a3)] := hl
  refine lv_iload_n hx hb dX0_valueTwiceAsLong_0 rfl (lv_at hl 0 rfl) ?_
  refine lv_if_eq (tgt := 20) hx hb dX0_valueTwiceAsLong_1 (by decide) (fun c_1 => ?_) (fun c_1 => ?_)
  · refine lv_iconst (v := 1) hx hb dX0_valueTwiceAsLong_20 (by decide) ?_
    refine lv_iload_n hx hb dX0_valueTwiceAsLong_21 rfl (lv_at hl 1 rfl) ?_
    refine lv_iload_n hx hb dX0_valueTwiceAsLong_22 rfl (lv_at hl 2 rfl) ?_
    refine pu_calli (F := (f_X0_valueOf 1 a2 a3)) (va_runS (As := [.int 1, .int a2, .int a3]) (rest := []) ⟨hx, hb, hml, hown, hts⟩ (p_X0_valueOf l _ 1 a2 a3) (va_cwS 3 hts gX0_valueTwiceAsLong_X0_valueOf rfl rfl rfl (by decide +kernel) ⟨Nat.le_of_ble_eq_true rfl, Nat.le_of_ble_eq_true rfl⟩) pu_preS rfl rfl hl.1 rfl (lv_room (Nat.le_of_ble_eq_true rfl)) dX0_valueTwiceAsLong_23 ⟨Nat.le_of_ble_eq_true rfl, Nat.le_of_ble_eq_true rfl⟩) ?_
    refine lv_i2l (v := ((f_X0_valueOf 1 a2 a3) : Int32).toInt64) hx hb dX0_valueTwiceAsLong_26 rfl ?_
    exact W.lret (v := (((f_X0_valueOf 1 a2 a3) : Int32).toInt64)) hx hb hr (fun t ht hW => ⟨⟨(((f_X0_valueOf 1 a2 a3) : Int32).toInt64), (), rfl, (by simp only [f_X0_valueTwiceAsLong, if_pos c_1]), ht⟩, pu_F ht⟩) (fun q h => nomatch h) dX0_valueTwiceAsLong_27
  · refine lv_iload_n hx hb dX0_valueTwiceAsLong_4 rfl (lv_at hl 1 rfl) ?_
    refine rgL (J := 19) (st := []) (if a2 = 0 then (((a3 : Int32).toInt64) &&& 4294967295) else ((a3 : Int32).toInt64)) (fun k => ?_) (fun y_2 ey_2 => ?_)
    · refine lv_if_eq (tgt := 13) hx hb dX0_valueTwiceAsLong_5 (by decide) (fun c_3 => ?_) (fun c_3 => ?_)
      · refine lv_iload_n hx hb dX0_valueTwiceAsLong_13 rfl (lv_at hl 2 rfl) ?_
        refine lv_i2l (v := (a3 : Int32).toInt64) hx hb dX0_valueTwiceAsLong_14 rfl ?_
        refine lv_ldc2 (own := RX0) (index := 134) (v := 4294967295) hx hb hown (hts (.constantLong RX0 134 (4294967295)) (by decide +kernel)) dX0_valueTwiceAsLong_15 ?_
        refine lv_land hx hb dX0_valueTwiceAsLong_18 ?_
        exact rgL_e k (by first | rw [if_pos c_3] | simp only [if_pos c_3])
      · refine lv_iload_n hx hb dX0_valueTwiceAsLong_8 rfl (lv_at hl 2 rfl) ?_
        refine lv_i2l (v := (a3 : Int32).toInt64) hx hb dX0_valueTwiceAsLong_9 rfl ?_
        refine lv_goto (tgt := 19) hx hb dX0_valueTwiceAsLong_10 (by decide) ?_
        exact rgL_e k (by first | rw [if_neg c_3] | simp only [if_neg c_3])
    exact W.lret (v := y_2) hx hb hr (fun t ht hW => ⟨⟨y_2, (), rfl, (by subst ey_2; simp only [f_X0_valueTwiceAsLong, if_neg c_1]), ht⟩, pu_F ht⟩) (fun q h => nomatch h) dX0_valueTwiceAsLong_19

/-- what X0_isSet answers -/
def f_X0_isSet (f : Int32) (a1 : Int32) : Int32 :=
  let y_1 : Int32 := (if (f &&& a1) = 0 then 0 else 1)
  y_1
theorem fb_X0_isSet (f : Int32) (a1 : Int32) : f_X0_isSet f a1 = 0 ∨ f_X0_isSet f a1 = 1 := by
  unfold f_X0_isSet
  repeat (first | exact Or.inl rfl | exact Or.inr rfl | split)
set_option maxHeartbeats 4000000 in
set_option maxRecDepth 100000 in
theorem p_X0_isSet (l : Launch) (dC : Nat → ClassId) (dI : Nat → Nat → Nat) (h0 : Nat) (HH : Heap) (f : Int32) (a1 : Int32) : Met l yX0_isSet wsX0_isSet ({ frames := 0, cells := 0, slots := 0, locals := 0 }) (va_Pc [.ref h0, .int a1] (pu_pre (dC, dI) 1 h0 HH [.int f])) (va_Qi (fun (r : Int32) (_ : Unit) => r = f_X0_isSet f a1) (fun _ t => t.heap = HH) (fun _ => False)) 0 0 (fun _ => False) := by
  refine Met.ofW (cc := cX0_isSet) (maxL := 2) (ret := (some .boolean)) (by decide) rfl ?_
  intro p e s m args below meth c s₁ B hml hv
  obtain ⟨rfl, hsz, hP, hK⟩ := hv
  have hx := B.exec
  have hb := B.bytes
  have hr := B.returns
  have hts := atoms_spec (ws := wsX0_isSet) B.pre
  have hown : s.vm.findClass RX0 = some m.cls := findClass_of_methodNamed B.named
  have hlocks := B.notSynchronized
  subst hsz
  have hl := lv_entry ([.ref h0, .int a1]) (n := 2) (Nat.le_of_ble_eq_true rfl)
  rw [lg_entry_eq]
  generalize (lg_sl ([.ref h0, .int a1]) ++ List.replicate (2 - (lg_sl ([.ref h0, .int a1])).length) Slot.unset).toArray = ls at hl ⊢
  have hl : lv_has ls 2 [(0, .ref h0), (1, .int a1)] := hl
  refine lv_aload_n hx hb dX0_isSet_0 rfl (lv_at hl 0 rfl) ?_
  refine va_get (D := (dC, dI)) (ci := 1) (v := .int f) (C := RX0) (T := TX0) (N := 1) hx hb hts (by decide +kernel) hown hK hP 0 rfl rfl 0 (by decide) (hts (.fieldLink RX0 7 "WordArithmetic" "held" "I") (by decide +kernel)) (fun _ h9 => h9) rfl dX0_isSet_1 ?_
  refine lv_iload_n hx hb dX0_isSet_4 rfl (lv_at hl 1 rfl) ?_
  refine lv_iand hx hb dX0_isSet_5 ?_
  refine rg (J := 14) (st := []) (if (f &&& a1) = 0 then 0 else 1) (fun k => ?_) (fun y_1 ey_1 => ?_)
  · refine lv_if_eq (tgt := 13) hx hb dX0_isSet_6 (by decide) (fun c_2 => ?_) (fun c_2 => ?_)
    · refine lv_iconst (v := 0) hx hb dX0_isSet_13 (by decide) ?_
      exact rg_e k (by first | rw [if_pos c_2] | simp only [if_pos c_2])
    · refine lv_iconst (v := 1) hx hb dX0_isSet_9 (by decide) ?_
      refine lv_goto (tgt := 14) hx hb dX0_isSet_10 (by decide) ?_
      exact rg_e k (by first | rw [if_neg c_2] | simp only [if_neg c_2])
  exact W.zret (v := y_1) hx hb hr (nb_of (by rw [ey_1]; repeat (first | exact Or.inl rfl | exact Or.inr rfl | split))) (fun t ht hW => ⟨⟨y_1, (), rfl, (by subst ey_1; simp only [f_X0_isSet]), ht⟩, pu_F ht⟩) (fun q h => nomatch h) dX0_isSet_14

/-- what X0_isLess answers -/
def f_X0_isLess (f : Int32) : Int32 :=
  let y_1 : Int32 := (if (f_X0_isSet f 128) = (f_X0_isSet f 2048) then 0 else 1)
  y_1
theorem fb_X0_isLess (f : Int32) : f_X0_isLess f = 0 ∨ f_X0_isLess f = 1 := by
  unfold f_X0_isLess
  repeat (first | exact Or.inl rfl | exact Or.inr rfl | apply fb_X0_isSet | split)
set_option maxHeartbeats 4000000 in
set_option maxRecDepth 100000 in
theorem p_X0_isLess (l : Launch) (dC : Nat → ClassId) (dI : Nat → Nat → Nat) (h0 : Nat) (HH : Heap) (f : Int32) : Met l yX0_isLess wsX0_isLess ({ frames := 1, cells := 0, slots := 0, locals := 21 }) (va_Pc [.ref h0] (pu_pre (dC, dI) 1 h0 HH [.int f])) (va_Qi (fun (r : Int32) (_ : Unit) => r = f_X0_isLess f) (fun _ t => t.heap = HH) (fun _ => False)) 0 0 (fun _ => False) := by
  refine Met.ofW (cc := cX0_isLess) (maxL := 1) (ret := (some .boolean)) (by decide) rfl ?_
  intro p e s m args below meth c s₁ B hml hv
  obtain ⟨rfl, hsz, hP, hK⟩ := hv
  have hx := B.exec
  have hb := B.bytes
  have hr := B.returns
  have hts := atoms_spec (ws := wsX0_isLess) B.pre
  have hown : s.vm.findClass RX0 = some m.cls := findClass_of_methodNamed B.named
  have hlocks := B.notSynchronized
  subst hsz
  have hl := lv_entry ([.ref h0]) (n := 1) (Nat.le_of_ble_eq_true rfl)
  rw [lg_entry_eq]
  generalize (lg_sl ([.ref h0]) ++ List.replicate (1 - (lg_sl ([.ref h0])).length) Slot.unset).toArray = ls at hl ⊢
  have hl : lv_has ls 1 [(0, .ref h0)] := hl
  refine lv_aload_n hx hb dX0_isLess_0 rfl (lv_at hl 0 rfl) ?_
  refine lv_sipush (v := 128) hx hb dX0_isLess_1 (by decide +kernel) ?_
  refine pu_calli (F := (f_X0_isSet f 128)) (va_runV (As := [.int 128]) (rest := []) ⟨hx, hb, hml, hown, hts⟩ (p_X0_isSet l dC dI h0 _ f 128) (cwV 1 hts gX0_isLess_X0_isSet rfl rfl rfl (by decide +kernel) ⟨Nat.le_of_ble_eq_true rfl, Nat.le_of_ble_eq_true rfl⟩) (pu_preV (ci := 1) rfl hK hP) rfl rfl hl.1 rfl (lv_room (Nat.le_of_ble_eq_true rfl)) dX0_isLess_4 ⟨Nat.le_of_ble_eq_true rfl, Nat.le_of_ble_eq_true rfl⟩) ?_
  refine lv_aload_n hx hb dX0_isLess_7 rfl (lv_at hl 0 rfl) ?_
  refine lv_sipush (v := 2048) hx hb dX0_isLess_8 (by decide +kernel) ?_
  refine pu_calli (F := (f_X0_isSet f 2048)) (va_runV (As := [.int 2048]) (rest := [.int (f_X0_isSet f 128)]) ⟨hx, hb, hml, hown, hts⟩ (p_X0_isSet l dC dI h0 _ f 2048) (cwV 1 hts gX0_isLess_X0_isSet rfl rfl rfl (by decide +kernel) ⟨Nat.le_of_ble_eq_true rfl, Nat.le_of_ble_eq_true rfl⟩) (pu_preV (ci := 1) rfl hK hP) rfl rfl hl.1 rfl (lv_room (Nat.le_of_ble_eq_true rfl)) dX0_isLess_11 ⟨Nat.le_of_ble_eq_true rfl, Nat.le_of_ble_eq_true rfl⟩) ?_
  refine rg (J := 22) (st := []) (if (f_X0_isSet f 128) = (f_X0_isSet f 2048) then 0 else 1) (fun k => ?_) (fun y_1 ey_1 => ?_)
  · refine lv_icmp_eq (tgt := 21) hx hb dX0_isLess_14 (by decide) (fun c_2 => ?_) (fun c_2 => ?_)
    · refine lv_iconst (v := 0) hx hb dX0_isLess_21 (by decide) ?_
      exact rg_e k (by first | rw [if_pos c_2] | simp only [if_pos c_2])
    · refine lv_iconst (v := 1) hx hb dX0_isLess_17 (by decide) ?_
      refine lv_goto (tgt := 22) hx hb dX0_isLess_18 (by decide) ?_
      exact rg_e k (by first | rw [if_neg c_2] | simp only [if_neg c_2])
  exact W.zret (v := y_1) hx hb hr (nb_of (by rw [ey_1]; repeat (first | exact Or.inl rfl | exact Or.inr rfl | split))) (fun t ht hW => ⟨⟨y_1, (), rfl, (by subst ey_1; simp only [f_X0_isLess]), ht⟩, pu_F ht⟩) (fun q h => nomatch h) dX0_isLess_22

/-- what X0_flags answers -/
def f_X0_flags (f : Int32) : Int32 :=
  f
set_option maxHeartbeats 4000000 in
set_option maxRecDepth 100000 in
theorem p_X0_flags (l : Launch) (dC : Nat → ClassId) (dI : Nat → Nat → Nat) (h0 : Nat) (HH : Heap) (f : Int32) : Met l yX0_flags wsX0_flags ({ frames := 0, cells := 0, slots := 0, locals := 0 }) (va_Pc [.ref h0] (pu_pre (dC, dI) 1 h0 HH [.int f])) (va_Qi (fun (r : Int32) (_ : Unit) => r = f_X0_flags f) (fun _ t => t.heap = HH) (fun _ => False)) 0 0 (fun _ => False) := by
  refine Met.ofW (cc := cX0_flags) (maxL := 1) (ret := (some .int)) (by decide) rfl ?_
  intro p e s m args below meth c s₁ B hml hv
  obtain ⟨rfl, hsz, hP, hK⟩ := hv
  have hx := B.exec
  have hb := B.bytes
  have hr := B.returns
  have hts := atoms_spec (ws := wsX0_flags) B.pre
  have hown : s.vm.findClass RX0 = some m.cls := findClass_of_methodNamed B.named
  have hlocks := B.notSynchronized
  subst hsz
  have hl := lv_entry ([.ref h0]) (n := 1) (Nat.le_of_ble_eq_true rfl)
  rw [lg_entry_eq]
  generalize (lg_sl ([.ref h0]) ++ List.replicate (1 - (lg_sl ([.ref h0])).length) Slot.unset).toArray = ls at hl ⊢
  have hl : lv_has ls 1 [(0, .ref h0)] := hl
  refine lv_aload_n hx hb dX0_flags_0 rfl (lv_at hl 0 rfl) ?_
  refine va_get (D := (dC, dI)) (ci := 1) (v := .int f) (C := RX0) (T := TX0) (N := 1) hx hb hts (by decide +kernel) hown hK hP 0 rfl rfl 0 (by decide) (hts (.fieldLink RX0 7 "WordArithmetic" "held" "I") (by decide +kernel)) (fun _ h9 => h9) rfl dX0_flags_1 ?_
  exact W.iret (v := f) hx hb hr (fun t ht hW => ⟨⟨f, (), rfl, rfl, ht⟩, pu_F ht⟩) (fun q h => nomatch h) dX0_flags_4

/-- what X0_put answers -/
def f_X0_put (f : Int32) (a1 : Int32) (a2 : Int32) : Int32 :=
  let y_1 : Int32 := (if a2 = 0 then (f &&& (a1 ^^^ (-1))) else (f ||| a1))
  y_1
set_option maxHeartbeats 4000000 in
set_option maxRecDepth 100000 in
theorem p_X0_put (l : Launch) (dC : Nat → ClassId) (dI : Nat → Nat → Nat) (h0 : Nat) (sz : Nat) (f : Int32) (a1 : Int32) (a2 : Int32) : Met l yX0_put wsX0_put ({ frames := 0, cells := 0, slots := 0, locals := 0 }) (va_Pc [.ref h0, .int a1, .int a2] (wr_pre (dC, dI) 1 h0 sz [.int f])) (va_Qv (fun u : Int32 => u = f_X0_put f a1 a2) (wr_at (dC, dI) 1 h0 (fun u : Int32 => [.int u]) (wr_A 1 h0 sz [.int f])) (wr_A 1 h0 sz [.int f])) 0 0 (wr_A 1 h0 sz [.int f]) := by
  refine Met.ofW (cc := cX0_put) (maxL := 3) (ret := none) (by decide) rfl ?_
  intro p e s m args below meth c s₁ B hml hv
  obtain ⟨rfl, hsz, hP, hK, hD0⟩ := hv
  have hx := B.exec
  have hb := B.bytes
  have hr := B.returns
  have hts := atoms_spec (ws := wsX0_put) B.pre
  have hown : s.vm.findClass RX0 = some m.cls := findClass_of_methodNamed B.named
  have hlocks := B.notSynchronized
  subst hsz
  have hD : va_D (wr_A 1 h0 s.heap.size [.int f]) [(h0, .inr (1, [.int f]))] := hD0.self (sz := s.heap.size)
  generalize hAe : wr_A 1 h0 s.heap.size [.int f] = A at hD ⊢
  have hA : ∀ q : Nat, s.heap.size ≤ q → A q := fun q h => by rw [← hAe]; exact Or.inr h
  have hS : va_S A s.heap s.heap [] := va_S.rf
  have hP : va_P (dC, dI) vwCl [(h0, .inr (1, [.int f]))] s.heap := hP
  have hD : va_D A [(h0, .inr (1, [.int f]))] := hD
  have hl := lv_entry ([.ref h0, .int a1, .int a2]) (n := 3) (Nat.le_of_ble_eq_true rfl)
  rw [lg_entry_eq]
  generalize (lg_sl ([.ref h0, .int a1, .int a2]) ++ List.replicate (3 - (lg_sl ([.ref h0, .int a1, .int a2])).length) Slot.unset).toArray = ls at hl ⊢
  have hl : lv_has ls 3 [(0, .ref h0), (1, .int a1), (2, .int a2)] := hl
  refine lv_aload_n hx hb dX0_put_0 rfl (lv_at hl 0 rfl) ?_
  refine lv_iload_n hx hb dX0_put_1 rfl (lv_at hl 2 rfl) ?_
  refine rg (J := 22) (st := [.ref h0]) (if a2 = 0 then (f &&& (a1 ^^^ (-1))) else (f ||| a1)) (fun k => ?_) (fun y_1 ey_1 => ?_)
  · refine lv_if_eq (tgt := 14) hx hb dX0_put_2 (by decide) (fun c_2 => ?_) (fun c_2 => ?_)
    · refine lv_aload_n hx hb dX0_put_14 rfl (lv_at hl 0 rfl) ?_
      refine va_get (D := (dC, dI)) (ci := 1) (v := .int f) (C := RX0) (T := TX0) (N := 1) hx hb hts (by decide +kernel) hown hK hP 0 rfl rfl 0 (by decide) (hts (.fieldLink RX0 7 "WordArithmetic" "held" "I") (by decide +kernel)) (fun _ h9 => h9) rfl dX0_put_15 ?_
      refine lv_iload_n hx hb dX0_put_18 rfl (lv_at hl 1 rfl) ?_
      refine lv_iconst (v := (-1)) hx hb dX0_put_19 (by decide) ?_
      refine lv_ixor hx hb dX0_put_20 ?_
      refine lv_iand hx hb dX0_put_21 ?_
      exact rg_e k (by first | rw [if_pos c_2] | simp only [if_pos c_2])
    · refine lv_aload_n hx hb dX0_put_5 rfl (lv_at hl 0 rfl) ?_
      refine va_get (D := (dC, dI)) (ci := 1) (v := .int f) (C := RX0) (T := TX0) (N := 1) hx hb hts (by decide +kernel) hown hK hP 0 rfl rfl 0 (by decide) (hts (.fieldLink RX0 7 "WordArithmetic" "held" "I") (by decide +kernel)) (fun _ h9 => h9) rfl dX0_put_6 ?_
      refine lv_iload_n hx hb dX0_put_9 rfl (lv_at hl 1 rfl) ?_
      refine lv_ior hx hb dX0_put_10 ?_
      refine lv_goto (tgt := 22) hx hb dX0_put_11 (by decide) ?_
      exact rg_e k (by first | rw [if_neg c_2] | simp only [if_neg c_2])
  refine va_put (D := (dC, dI)) (ci := 1) (v := .int y_1) (ty := .int) (C := RX0) (T := TX0) (N := 1) hx hb hts (by decide +kernel) tyX0 tyX0_ok nmX0 hown hK hP hD hS 0 rfl rfl 0 (by decide) (hts (.fieldLink RX0 7 "WordArithmetic" "held" "I") (by decide +kernel)) (fun _ h9 => h9) rfl (by decide +kernel) rfl rfl (Nat.le_of_ble_eq_true rfl) dX0_put_22 (fun H locs hP hD hS => ?_)
  have hP : va_P (dC, dI) vwCl [(h0, .inr (1, [.int y_1]))] H := hP
  have hD : va_D A [(h0, .inr (1, [.int y_1]))] := hD
  exact W.vret hx hb hr (fun t ht hW => ⟨⟨y_1, rfl, (by subst ey_1; simp only [f_X0_put]), by rw [ht]; exact hP, va_K.moved hW.alike hK, hD⟩, hS.F ht⟩) hS.2.2 dX0_put_25

/-- what X0_putOverflow answers -/
def f_X0_putOverflow (f : Int32) (a1 : Int32) (a2 : Int32) : Int32 :=
  let y_1 : Int32 := (if a2 = (f_X0_signedValue a1 a2) then 0 else 1)
  let u_4 : Int32 := (f_X0_put f 2048 y_1)
  u_4
set_option maxHeartbeats 4000000 in
set_option maxRecDepth 100000 in
theorem p_X0_putOverflow (l : Launch) (dC : Nat → ClassId) (dI : Nat → Nat → Nat) (h0 : Nat) (sz : Nat) (f : Int32) (a1 : Int32) (a2 : Int32) : Met l yX0_putOverflow wsX0_putOverflow ({ frames := 1, cells := 0, slots := 0, locals := 22 }) (va_Pc [.ref h0, .int a1, .int a2] (wr_pre (dC, dI) 1 h0 sz [.int f])) (va_Qv (fun u : Int32 => u = f_X0_putOverflow f a1 a2) (wr_at (dC, dI) 1 h0 (fun u : Int32 => [.int u]) (wr_A 1 h0 sz [.int f])) (wr_A 1 h0 sz [.int f])) 0 0 (wr_A 1 h0 sz [.int f]) := by
  refine Met.ofW (cc := cX0_putOverflow) (maxL := 3) (ret := none) (by decide) rfl ?_
  intro p e s m args below meth c s₁ B hml hv
  obtain ⟨rfl, hsz, hP, hK, hD0⟩ := hv
  have hx := B.exec
  have hb := B.bytes
  have hr := B.returns
  have hts := atoms_spec (ws := wsX0_putOverflow) B.pre
  have hown : s.vm.findClass RX0 = some m.cls := findClass_of_methodNamed B.named
  have hlocks := B.notSynchronized
  subst hsz
  have hD : va_D (wr_A 1 h0 s.heap.size [.int f]) [(h0, .inr (1, [.int f]))] := hD0.self (sz := s.heap.size)
  generalize hAe : wr_A 1 h0 s.heap.size [.int f] = A at hD ⊢
  have hA : ∀ q : Nat, s.heap.size ≤ q → A q := fun q h => by rw [← hAe]; exact Or.inr h
  have hS : va_S A s.heap s.heap [] := va_S.rf
  have hP : va_P (dC, dI) vwCl [(h0, .inr (1, [.int f]))] s.heap := hP
  have hD : va_D A [(h0, .inr (1, [.int f]))] := hD
  have hl := lv_entry ([.ref h0, .int a1, .int a2]) (n := 3) (Nat.le_of_ble_eq_true rfl)
  rw [lg_entry_eq]
  generalize (lg_sl ([.ref h0, .int a1, .int a2]) ++ List.replicate (3 - (lg_sl ([.ref h0, .int a1, .int a2])).length) Slot.unset).toArray = ls at hl ⊢
  have hl : lv_has ls 3 [(0, .ref h0), (1, .int a1), (2, .int a2)] := hl
  refine lv_aload_n hx hb dX0_putOverflow_0 rfl (lv_at hl 0 rfl) ?_
  refine lv_sipush (v := 2048) hx hb dX0_putOverflow_1 (by decide +kernel) ?_
  refine lv_iload_n hx hb dX0_putOverflow_4 rfl (lv_at hl 2 rfl) ?_
  refine lv_iload_n hx hb dX0_putOverflow_5 rfl (lv_at hl 1 rfl) ?_
  refine lv_iload_n hx hb dX0_putOverflow_6 rfl (lv_at hl 2 rfl) ?_
  refine pu_calli (F := (f_X0_signedValue a1 a2)) (va_runS (As := [.int a1, .int a2]) (rest := [.int a2, .int 2048, .ref h0]) ⟨hx, hb, hml, hown, hts⟩ (p_X0_signedValue l _ a1 a2) (va_cwS 2 hts gX0_putOverflow_X0_signedValue rfl rfl rfl (by decide +kernel) ⟨Nat.le_of_ble_eq_true rfl, Nat.le_of_ble_eq_true rfl⟩) pu_preS rfl rfl hl.1 rfl (lv_room (Nat.le_of_ble_eq_true rfl)) dX0_putOverflow_7 ⟨Nat.le_of_ble_eq_true rfl, Nat.le_of_ble_eq_true rfl⟩) ?_
  refine rg (J := 18) (st := [.int 2048, .ref h0]) (if a2 = (f_X0_signedValue a1 a2) then 0 else 1) (fun k => ?_) (fun y_1 ey_1 => ?_)
  · refine lv_icmp_eq (tgt := 17) hx hb dX0_putOverflow_10 (by decide) (fun c_2 => ?_) (fun c_2 => ?_)
    · refine lv_iconst (v := 0) hx hb dX0_putOverflow_17 (by decide) ?_
      exact rg_e k (by first | rw [if_pos c_2] | simp only [if_pos c_2])
    · refine lv_iconst (v := 1) hx hb dX0_putOverflow_13 (by decide) ?_
      refine lv_goto (tgt := 18) hx hb dX0_putOverflow_14 (by decide) ?_
      exact rg_e k (by first | rw [if_neg c_2] | simp only [if_neg c_2])
  refine wr_callv (va_runV (As := [.int 2048, .int y_1]) (rest := []) ⟨hx, hb, hml, hown, hts⟩ (p_X0_put l dC dI h0 _ f 2048 y_1) (cwV 2 hts gX0_putOverflow_X0_put rfl rfl rfl (by decide +kernel) ⟨Nat.le_of_ble_eq_true rfl, Nat.le_of_ble_eq_true rfl⟩) (wr_preV (ci := 1) rfl hK hP hD) rfl rfl hl.1 rfl (lv_room (Nat.le_of_ble_eq_true rfl)) dX0_putOverflow_18 ⟨Nat.le_of_ble_eq_true rfl, Nat.le_of_ble_eq_true rfl⟩) hP hD hS hA (fun u_4 H locs eu_4 hP hD hS => ?_)
  have hP : va_P (dC, dI) vwCl [(h0, .inr (1, [.int u_4]))] H := hP
  have hD : va_D A [(h0, .inr (1, [.int u_4]))] := hD
  exact W.vret hx hb hr (fun t ht hW => ⟨⟨u_4, rfl, (by subst ey_1; subst eu_4; simp only [f_X0_putOverflow]), by rw [ht]; exact hP, va_K.moved hW.alike hK, hD⟩, hS.F ht⟩) hS.2.2 dX0_putOverflow_21

/-- what J6_bitCount_0f7a4 answers -/
def f_J6_bitCount_0f7a4 (a1 : Int32) : Int32 :=
  let y_1 : Int32 := (a1 - ((((a1).toUInt32 >>> ((1 : Int32).toUInt32 &&& Int32.toUInt32 31)).toInt32) &&& 1431655765))
  let y_2 : Int32 := ((y_1 &&& 858993459) + ((((y_1).toUInt32 >>> ((2 : Int32).toUInt32 &&& Int32.toUInt32 31)).toInt32) &&& 858993459))
  let y_3 : Int32 := ((y_2 + (((y_2).toUInt32 >>> ((4 : Int32).toUInt32 &&& Int32.toUInt32 31)).toInt32)) &&& 252645135)
  let y_4 : Int32 := (y_3 + (((y_3).toUInt32 >>> ((8 : Int32).toUInt32 &&& Int32.toUInt32 31)).toInt32))
  let y_5 : Int32 := (y_4 + (((y_4).toUInt32 >>> ((16 : Int32).toUInt32 &&& Int32.toUInt32 31)).toInt32))
  (y_5 &&& 63)
set_option maxHeartbeats 4000000 in
set_option maxRecDepth 100000 in
theorem p_J6_bitCount_0f7a4 (l : Launch) (HH : Heap) (a1 : Int32) : Met l yJ6_bitCount_0f7a4 wsJ6_bitCount_0f7a4 ({ frames := 0, cells := 0, slots := 0, locals := 0 }) (va_Pc [.int a1] (fun U => U.heap = HH)) (va_Qi (fun (r : Int32) (_ : Unit) => r = f_J6_bitCount_0f7a4 a1) (fun _ t => t.heap = HH) (fun _ => False)) 0 0 (fun _ => False) := by
  refine Met.ofW (cc := cJ6_bitCount_0f7a4) (maxL := 1) (ret := (some .int)) (by decide) rfl ?_
  intro p e s m args below meth c s₁ B hml hv
  obtain ⟨rfl, hsz⟩ := hv
  have hx := B.exec
  have hb := B.bytes
  have hr := B.returns
  have hts := atoms_spec (ws := wsJ6_bitCount_0f7a4) B.pre
  have hown : s.vm.findClass RJ6 = some m.cls := findClass_of_methodNamed B.named
  have hlocks := B.notSynchronized
  subst hsz
  have hl := lv_entry ([.int a1]) (n := 1) (Nat.le_of_ble_eq_true rfl)
  rw [lg_entry_eq]
  generalize (lg_sl ([.int a1]) ++ List.replicate (1 - (lg_sl ([.int a1])).length) Slot.unset).toArray = ls at hl ⊢
  have hl : lv_has ls 1 [(0, .int a1)] := hl
  refine lv_iload_n hx hb dJ6_bitCount_0f7a4_0 rfl (lv_at hl 0 rfl) ?_
  refine lv_iload_n hx hb dJ6_bitCount_0f7a4_1 rfl (lv_at hl 0 rfl) ?_
  refine lv_iconst (v := 1) hx hb dJ6_bitCount_0f7a4_2 (by decide) ?_
  refine lv_iushr (v := ((a1).toUInt32 >>> ((1 : Int32).toUInt32 &&& Int32.toUInt32 31)).toInt32) hx hb dJ6_bitCount_0f7a4_3 rfl ?_
  refine lv_ldcw (own := RJ6) (index := 265) (v := 1431655765) hx hb hown (hts (.constant RJ6 265 (1431655765)) (by decide +kernel)) dJ6_bitCount_0f7a4_4 ?_
  refine lv_iand hx hb dJ6_bitCount_0f7a4_7 ?_
  refine lv_isub hx hb dJ6_bitCount_0f7a4_8 ?_
  refine lv_topi (fun y_1 ey_1 => ?_)
  refine lv_istore_n (lv' := [(0, .int y_1)]) hx hb dJ6_bitCount_0f7a4_9 rfl hl (by decide) rfl (fun ls hl => ?_)
  refine lv_iload_n hx hb dJ6_bitCount_0f7a4_10 rfl (lv_at hl 0 rfl) ?_
  refine lv_ldcw (own := RJ6) (index := 266) (v := 858993459) hx hb hown (hts (.constant RJ6 266 (858993459)) (by decide +kernel)) dJ6_bitCount_0f7a4_11 ?_
  refine lv_iand hx hb dJ6_bitCount_0f7a4_14 ?_
  refine lv_iload_n hx hb dJ6_bitCount_0f7a4_15 rfl (lv_at hl 0 rfl) ?_
  refine lv_iconst (v := 2) hx hb dJ6_bitCount_0f7a4_16 (by decide) ?_
  refine lv_iushr (v := ((y_1).toUInt32 >>> ((2 : Int32).toUInt32 &&& Int32.toUInt32 31)).toInt32) hx hb dJ6_bitCount_0f7a4_17 rfl ?_
  refine lv_ldcw (own := RJ6) (index := 266) (v := 858993459) hx hb hown (hts (.constant RJ6 266 (858993459)) (by decide +kernel)) dJ6_bitCount_0f7a4_18 ?_
  refine lv_iand hx hb dJ6_bitCount_0f7a4_21 ?_
  refine lv_iadd hx hb dJ6_bitCount_0f7a4_22 ?_
  refine lv_topi (fun y_2 ey_2 => ?_)
  refine lv_istore_n (lv' := [(0, .int y_2)]) hx hb dJ6_bitCount_0f7a4_23 rfl hl (by decide) rfl (fun ls hl => ?_)
  refine lv_iload_n hx hb dJ6_bitCount_0f7a4_24 rfl (lv_at hl 0 rfl) ?_
  refine lv_iload_n hx hb dJ6_bitCount_0f7a4_25 rfl (lv_at hl 0 rfl) ?_
  refine lv_iconst (v := 4) hx hb dJ6_bitCount_0f7a4_26 (by decide) ?_
  refine lv_iushr (v := ((y_2).toUInt32 >>> ((4 : Int32).toUInt32 &&& Int32.toUInt32 31)).toInt32) hx hb dJ6_bitCount_0f7a4_27 rfl ?_
  refine lv_iadd hx hb dJ6_bitCount_0f7a4_28 ?_
  refine lv_ldcw (own := RJ6) (index := 267) (v := 252645135) hx hb hown (hts (.constant RJ6 267 (252645135)) (by decide +kernel)) dJ6_bitCount_0f7a4_29 ?_
  refine lv_iand hx hb dJ6_bitCount_0f7a4_32 ?_
  refine lv_topi (fun y_3 ey_3 => ?_)
  refine lv_istore_n (lv' := [(0, .int y_3)]) hx hb dJ6_bitCount_0f7a4_33 rfl hl (by decide) rfl (fun ls hl => ?_)
  refine lv_iload_n hx hb dJ6_bitCount_0f7a4_34 rfl (lv_at hl 0 rfl) ?_
  refine lv_iload_n hx hb dJ6_bitCount_0f7a4_35 rfl (lv_at hl 0 rfl) ?_
  refine lv_bipush (v := 8) hx hb dJ6_bitCount_0f7a4_36 (by decide +kernel) ?_
  refine lv_iushr (v := ((y_3).toUInt32 >>> ((8 : Int32).toUInt32 &&& Int32.toUInt32 31)).toInt32) hx hb dJ6_bitCount_0f7a4_38 rfl ?_
  refine lv_iadd hx hb dJ6_bitCount_0f7a4_39 ?_
  refine lv_topi (fun y_4 ey_4 => ?_)
  refine lv_istore_n (lv' := [(0, .int y_4)]) hx hb dJ6_bitCount_0f7a4_40 rfl hl (by decide) rfl (fun ls hl => ?_)
  refine lv_iload_n hx hb dJ6_bitCount_0f7a4_41 rfl (lv_at hl 0 rfl) ?_
  refine lv_iload_n hx hb dJ6_bitCount_0f7a4_42 rfl (lv_at hl 0 rfl) ?_
  refine lv_bipush (v := 16) hx hb dJ6_bitCount_0f7a4_43 (by decide +kernel) ?_
  refine lv_iushr (v := ((y_4).toUInt32 >>> ((16 : Int32).toUInt32 &&& Int32.toUInt32 31)).toInt32) hx hb dJ6_bitCount_0f7a4_45 rfl ?_
  refine lv_iadd hx hb dJ6_bitCount_0f7a4_46 ?_
  refine lv_topi (fun y_5 ey_5 => ?_)
  refine lv_istore_n (lv' := [(0, .int y_5)]) hx hb dJ6_bitCount_0f7a4_47 rfl hl (by decide) rfl (fun ls hl => ?_)
  refine lv_iload_n hx hb dJ6_bitCount_0f7a4_48 rfl (lv_at hl 0 rfl) ?_
  refine lv_bipush (v := 63) hx hb dJ6_bitCount_0f7a4_49 (by decide +kernel) ?_
  refine lv_iand hx hb dJ6_bitCount_0f7a4_51 ?_
  exact W.iret (v := (y_5 &&& 63)) hx hb hr (fun t ht hW => ⟨⟨(y_5 &&& 63), (), rfl, (by subst ey_1; subst ey_2; subst ey_3; subst ey_4; subst ey_5; simp only [f_J6_bitCount_0f7a4]), ht⟩, pu_F ht⟩) (fun q h => nomatch h) dJ6_bitCount_0f7a4_52

/-- what X0_goByAnswer answers -/
def f_X0_goByAnswer (f : Int32) (a1 : Int32) (a2 : Int32) : Int32 :=
  let y_1 : Int32 := (if a2 = 0 then 1 else 0)
  let u_4 : Int32 := (f_X0_put f 64 y_1)
  let u_6 : Int32 := (f_X0_put u_4 128 (f_X0_hasHighestBit a1 a2))
  let y_7 : Int32 := (if (jr (f_J6_bitCount_0f7a4 (a2 &&& 255)) 2) = 0 then 1 else 0)
  let u_10 : Int32 := (f_X0_put u_6 4 y_7)
  u_10
set_option maxHeartbeats 4000000 in
set_option maxRecDepth 100000 in
theorem p_X0_goByAnswer (l : Launch) (dC : Nat → ClassId) (dI : Nat → Nat → Nat) (h0 : Nat) (sz : Nat) (f : Int32) (a1 : Int32) (a2 : Int32) : Met l yX0_goByAnswer wsX0_goByAnswer ({ frames := 2, cells := 0, slots := 0, locals := 41 }) (va_Pc [.ref h0, .int a1, .int a2] (wr_pre (dC, dI) 1 h0 sz [.int f])) (va_Qv (fun u : Int32 => u = f_X0_goByAnswer f a1 a2) (wr_at (dC, dI) 1 h0 (fun u : Int32 => [.int u]) (wr_A 1 h0 sz [.int f])) (wr_A 1 h0 sz [.int f])) 0 0 (wr_A 1 h0 sz [.int f]) := by
  refine Met.ofW (cc := cX0_goByAnswer) (maxL := 3) (ret := none) (by decide) rfl ?_
  intro p e s m args below meth c s₁ B hml hv
  obtain ⟨rfl, hsz, hP, hK, hD0⟩ := hv
  have hx := B.exec
  have hb := B.bytes
  have hr := B.returns
  have hts := atoms_spec (ws := wsX0_goByAnswer) B.pre
  have hown : s.vm.findClass RX0 = some m.cls := findClass_of_methodNamed B.named
  have hlocks := B.notSynchronized
  subst hsz
  have hD : va_D (wr_A 1 h0 s.heap.size [.int f]) [(h0, .inr (1, [.int f]))] := hD0.self (sz := s.heap.size)
  generalize hAe : wr_A 1 h0 s.heap.size [.int f] = A at hD ⊢
  have hA : ∀ q : Nat, s.heap.size ≤ q → A q := fun q h => by rw [← hAe]; exact Or.inr h
  have hS : va_S A s.heap s.heap [] := va_S.rf
  have hP : va_P (dC, dI) vwCl [(h0, .inr (1, [.int f]))] s.heap := hP
  have hD : va_D A [(h0, .inr (1, [.int f]))] := hD
  have hl := lv_entry ([.ref h0, .int a1, .int a2]) (n := 3) (Nat.le_of_ble_eq_true rfl)
  rw [lg_entry_eq]
  generalize (lg_sl ([.ref h0, .int a1, .int a2]) ++ List.replicate (3 - (lg_sl ([.ref h0, .int a1, .int a2])).length) Slot.unset).toArray = ls at hl ⊢
  have hl : lv_has ls 3 [(0, .ref h0), (1, .int a1), (2, .int a2)] := hl
  refine lv_aload_n hx hb dX0_goByAnswer_0 rfl (lv_at hl 0 rfl) ?_
  refine lv_bipush (v := 64) hx hb dX0_goByAnswer_1 (by decide +kernel) ?_
  refine lv_iload_n hx hb dX0_goByAnswer_3 rfl (lv_at hl 2 rfl) ?_
  refine rg (J := 12) (st := [.int 64, .ref h0]) (if a2 = 0 then 1 else 0) (fun k => ?_) (fun y_1 ey_1 => ?_)
  · refine lv_if_ne (tgt := 11) hx hb dX0_goByAnswer_4 (by decide) (fun c_2 => ?_) (fun c_2 => ?_)
    · refine lv_iconst (v := 0) hx hb dX0_goByAnswer_11 (by decide) ?_
      exact rg_e k (by first | rw [if_neg c_2] | simp only [if_neg c_2])
    · refine lv_iconst (v := 1) hx hb dX0_goByAnswer_7 (by decide) ?_
      refine lv_goto (tgt := 12) hx hb dX0_goByAnswer_8 (by decide) ?_
      exact rg_e k (by first | rw [if_pos c_2] | simp only [if_pos c_2])
  refine wr_callv (va_runV (As := [.int 64, .int y_1]) (rest := []) ⟨hx, hb, hml, hown, hts⟩ (p_X0_put l dC dI h0 _ f 64 y_1) (cwV 2 hts gX0_goByAnswer_X0_put rfl rfl rfl (by decide +kernel) ⟨Nat.le_of_ble_eq_true rfl, Nat.le_of_ble_eq_true rfl⟩) (wr_preV (ci := 1) rfl hK hP hD) rfl rfl hl.1 rfl (lv_room (Nat.le_of_ble_eq_true rfl)) dX0_goByAnswer_12 ⟨Nat.le_of_ble_eq_true rfl, Nat.le_of_ble_eq_true rfl⟩) hP hD hS hA (fun u_4 H locs eu_4 hP hD hS => ?_)
  have hP : va_P (dC, dI) vwCl [(h0, .inr (1, [.int u_4]))] H := hP
  have hD : va_D A [(h0, .inr (1, [.int u_4]))] := hD
  refine lv_aload_n hx hb dX0_goByAnswer_15 rfl (lv_at hl 0 rfl) ?_
  refine lv_sipush (v := 128) hx hb dX0_goByAnswer_16 (by decide +kernel) ?_
  refine lv_iload_n hx hb dX0_goByAnswer_19 rfl (lv_at hl 1 rfl) ?_
  refine lv_iload_n hx hb dX0_goByAnswer_20 rfl (lv_at hl 2 rfl) ?_
  refine pu_calli (F := (f_X0_hasHighestBit a1 a2)) (va_runS (As := [.int a1, .int a2]) (rest := [.int 128, .ref h0]) ⟨hx, hb, hml, hown, hts⟩ (p_X0_hasHighestBit l _ a1 a2) (va_cwS 2 hts gX0_goByAnswer_X0_hasHighestBit rfl rfl rfl (by decide +kernel) ⟨Nat.le_of_ble_eq_true rfl, Nat.le_of_ble_eq_true rfl⟩) pu_preS rfl rfl hl.1 rfl (lv_room (Nat.le_of_ble_eq_true rfl)) dX0_goByAnswer_21 ⟨Nat.le_of_ble_eq_true rfl, Nat.le_of_ble_eq_true rfl⟩) ?_
  refine wr_callv (va_runV (As := [.int 128, .int (f_X0_hasHighestBit a1 a2)]) (rest := []) ⟨hx, hb, hml, hown, hts⟩ (p_X0_put l dC dI h0 _ u_4 128 (f_X0_hasHighestBit a1 a2)) (cwV 2 hts gX0_goByAnswer_X0_put rfl rfl rfl (by decide +kernel) ⟨Nat.le_of_ble_eq_true rfl, Nat.le_of_ble_eq_true rfl⟩) (wr_preV (ci := 1) rfl hK hP hD) rfl rfl hl.1 rfl (lv_room (Nat.le_of_ble_eq_true rfl)) dX0_goByAnswer_24 ⟨Nat.le_of_ble_eq_true rfl, Nat.le_of_ble_eq_true rfl⟩) hP hD hS hA (fun u_6 H locs eu_6 hP hD hS => ?_)
  have hP : va_P (dC, dI) vwCl [(h0, .inr (1, [.int u_6]))] H := hP
  have hD : va_D A [(h0, .inr (1, [.int u_6]))] := hD
  refine lv_aload_n hx hb dX0_goByAnswer_27 rfl (lv_at hl 0 rfl) ?_
  refine lv_iconst (v := 4) hx hb dX0_goByAnswer_28 (by decide) ?_
  refine lv_iload_n hx hb dX0_goByAnswer_29 rfl (lv_at hl 2 rfl) ?_
  refine lv_sipush (v := 255) hx hb dX0_goByAnswer_30 (by decide +kernel) ?_
  refine lv_iand hx hb dX0_goByAnswer_33 ?_
  refine pu_calli (F := (f_J6_bitCount_0f7a4 (a2 &&& 255))) (va_runS (As := [.int (a2 &&& 255)]) (rest := [.int 4, .ref h0]) ⟨hx, hb, hml, hown, hts⟩ (p_J6_bitCount_0f7a4 l _ (a2 &&& 255)) (va_cwS 1 hts gX0_goByAnswer_J6_bitCount_0f7a4 rfl rfl rfl (by decide +kernel) ⟨Nat.le_of_ble_eq_true rfl, Nat.le_of_ble_eq_true rfl⟩) pu_preS rfl rfl hl.1 rfl (lv_room (Nat.le_of_ble_eq_true rfl)) dX0_goByAnswer_34 ⟨Nat.le_of_ble_eq_true rfl, Nat.le_of_ble_eq_true rfl⟩) ?_
  refine lv_iconst (v := 2) hx hb dX0_goByAnswer_37 (by decide) ?_
  refine jr_row hx hb dX0_goByAnswer_38 (by decide) ?_
  refine rg (J := 47) (st := [.int 4, .ref h0]) (if (jr (f_J6_bitCount_0f7a4 (a2 &&& 255)) 2) = 0 then 1 else 0) (fun k => ?_) (fun y_7 ey_7 => ?_)
  · refine lv_if_ne (tgt := 46) hx hb dX0_goByAnswer_39 (by decide) (fun c_8 => ?_) (fun c_8 => ?_)
    · refine lv_iconst (v := 0) hx hb dX0_goByAnswer_46 (by decide) ?_
      exact rg_e k (by first | rw [if_neg c_8] | simp only [if_neg c_8])
    · refine lv_iconst (v := 1) hx hb dX0_goByAnswer_42 (by decide) ?_
      refine lv_goto (tgt := 47) hx hb dX0_goByAnswer_43 (by decide) ?_
      exact rg_e k (by first | rw [if_pos c_8] | simp only [if_pos c_8])
  refine wr_callv (va_runV (As := [.int 4, .int y_7]) (rest := []) ⟨hx, hb, hml, hown, hts⟩ (p_X0_put l dC dI h0 _ u_6 4 y_7) (cwV 2 hts gX0_goByAnswer_X0_put rfl rfl rfl (by decide +kernel) ⟨Nat.le_of_ble_eq_true rfl, Nat.le_of_ble_eq_true rfl⟩) (wr_preV (ci := 1) rfl hK hP hD) rfl rfl hl.1 rfl (lv_room (Nat.le_of_ble_eq_true rfl)) dX0_goByAnswer_47 ⟨Nat.le_of_ble_eq_true rfl, Nat.le_of_ble_eq_true rfl⟩) hP hD hS hA (fun u_10 H locs eu_10 hP hD hS => ?_)
  have hP : va_P (dC, dI) vwCl [(h0, .inr (1, [.int u_10]))] H := hP
  have hD : va_D A [(h0, .inr (1, [.int u_10]))] := hD
  exact W.vret hx hb hr (fun t ht hW => ⟨⟨u_10, rfl, (by subst ey_1; subst eu_4; subst eu_6; subst ey_7; subst eu_10; simp only [f_X0_goByAnswer]), by rw [ht]; exact hP, va_K.moved hW.alike hK, hD⟩, hS.F ht⟩) hS.2.2 dX0_goByAnswer_50

/-- what X0_kept answers -/
def f_X0_kept (f : Int32) (a1 : Int32) (a2 : Int32) : Int32 × Int32 :=
  let y_1 : Int32 := (f_X0_operand a1 a2)
  let u_3 : Int32 := (f_X0_goByAnswer f a1 y_1)
  (y_1, u_3)
set_option maxHeartbeats 4000000 in
set_option maxRecDepth 100000 in
theorem p_X0_kept (l : Launch) (dC : Nat → ClassId) (dI : Nat → Nat → Nat) (h0 : Nat) (sz : Nat) (f : Int32) (a1 : Int32) (a2 : Int32) : Met l yX0_kept wsX0_kept ({ frames := 3, cells := 0, slots := 0, locals := 63 }) (va_Pc [.ref h0, .int a1, .int a2] (wr_pre (dC, dI) 1 h0 sz [.int f])) (va_Qi (fun (r : Int32) (u : Int32) => r = (f_X0_kept f a1 a2).1 ∧ u = (f_X0_kept f a1 a2).2) (wr_at (dC, dI) 1 h0 (fun u : Int32 => [.int u]) (wr_A 1 h0 sz [.int f])) (wr_A 1 h0 sz [.int f])) 0 0 (wr_A 1 h0 sz [.int f]) := by
  refine Met.ofW (cc := cX0_kept) (maxL := 4) (ret := (some .int)) (by decide) rfl ?_
  intro p e s m args below meth c s₁ B hml hv
  obtain ⟨rfl, hsz, hP, hK, hD0⟩ := hv
  have hx := B.exec
  have hb := B.bytes
  have hr := B.returns
  have hts := atoms_spec (ws := wsX0_kept) B.pre
  have hown : s.vm.findClass RX0 = some m.cls := findClass_of_methodNamed B.named
  have hlocks := B.notSynchronized
  subst hsz
  have hD : va_D (wr_A 1 h0 s.heap.size [.int f]) [(h0, .inr (1, [.int f]))] := hD0.self (sz := s.heap.size)
  generalize hAe : wr_A 1 h0 s.heap.size [.int f] = A at hD ⊢
  have hA : ∀ q : Nat, s.heap.size ≤ q → A q := fun q h => by rw [← hAe]; exact Or.inr h
  have hS : va_S A s.heap s.heap [] := va_S.rf
  have hP : va_P (dC, dI) vwCl [(h0, .inr (1, [.int f]))] s.heap := hP
  have hD : va_D A [(h0, .inr (1, [.int f]))] := hD
  have hl := lv_entry ([.ref h0, .int a1, .int a2]) (n := 4) (Nat.le_of_ble_eq_true rfl)
  rw [lg_entry_eq]
  generalize (lg_sl ([.ref h0, .int a1, .int a2]) ++ List.replicate (4 - (lg_sl ([.ref h0, .int a1, .int a2])).length) Slot.unset).toArray = ls at hl ⊢
  have hl : lv_has ls 4 [(0, .ref h0), (1, .int a1), (2, .int a2)] := hl
  refine lv_iload_n hx hb dX0_kept_0 rfl (lv_at hl 1 rfl) ?_
  refine lv_iload_n hx hb dX0_kept_1 rfl (lv_at hl 2 rfl) ?_
  refine pu_calli (F := (f_X0_operand a1 a2)) (va_runS (As := [.int a1, .int a2]) (rest := []) ⟨hx, hb, hml, hown, hts⟩ (p_X0_operand l _ a1 a2) (va_cwS 2 hts gX0_kept_X0_operand rfl rfl rfl (by decide +kernel) ⟨Nat.le_of_ble_eq_true rfl, Nat.le_of_ble_eq_true rfl⟩) pu_preS rfl rfl hl.1 rfl (lv_room (Nat.le_of_ble_eq_true rfl)) dX0_kept_2 ⟨Nat.le_of_ble_eq_true rfl, Nat.le_of_ble_eq_true rfl⟩) ?_
  refine lv_topi (fun y_1 ey_1 => ?_)
  refine lv_istore_n (lv' := [(3, .int y_1), (0, .ref h0), (1, .int a1), (2, .int a2)]) hx hb dX0_kept_5 rfl hl (by decide) rfl (fun ls hl => ?_)
  refine lv_aload_n hx hb dX0_kept_6 rfl (lv_at hl 1 rfl) ?_
  refine lv_iload_n hx hb dX0_kept_7 rfl (lv_at hl 2 rfl) ?_
  refine lv_iload_n hx hb dX0_kept_8 rfl (lv_at hl 0 rfl) ?_
  refine wr_callv (va_runV (As := [.int a1, .int y_1]) (rest := []) ⟨hx, hb, hml, hown, hts⟩ (p_X0_goByAnswer l dC dI h0 _ f a1 y_1) (cwV 2 hts gX0_kept_X0_goByAnswer rfl rfl rfl (by decide +kernel) ⟨Nat.le_of_ble_eq_true rfl, Nat.le_of_ble_eq_true rfl⟩) (wr_preV (ci := 1) rfl hK hP hD) rfl rfl hl.1 rfl (lv_room (Nat.le_of_ble_eq_true rfl)) dX0_kept_9 ⟨Nat.le_of_ble_eq_true rfl, Nat.le_of_ble_eq_true rfl⟩) hP hD hS hA (fun u_3 H locs eu_3 hP hD hS => ?_)
  have hP : va_P (dC, dI) vwCl [(h0, .inr (1, [.int u_3]))] H := hP
  have hD : va_D A [(h0, .inr (1, [.int u_3]))] := hD
  refine lv_iload_n hx hb dX0_kept_12 rfl (lv_at hl 0 rfl) ?_
  exact W.iret (v := y_1) hx hb hr (fun t ht hW => ⟨⟨y_1, u_3, rfl, ⟨(by subst ey_1; subst eu_3; simp only [f_X0_kept]), (by subst ey_1; subst eu_3; simp only [f_X0_kept])⟩, by rw [ht]; exact hP, va_K.moved hW.alike hK, hD⟩, hS.F ht⟩) hS.2.2 dX0_kept_13

/-- what X0_sum answers -/
def f_X0_sum (f : Int32) (a1 : Int32) (a2 : Int32) (a3 : Int32) (a4 : Int32) : Int32 × Int32 :=
  let y_1 : Int32 := ((a2 + a3) + a4)
  let y_2 : Int32 := (if y_1 ≤ (f_X0_mask a1) then 0 else 1)
  let u_5 : Int32 := (f_X0_put f 1 y_2)
  let y_6 : Int32 := (if (((a2 &&& 15) + (a3 &&& 15)) + a4) ≤ 15 then 0 else 1)
  let u_9 : Int32 := (f_X0_put u_5 16 y_6)
  let u_11 : Int32 := (f_X0_putOverflow u_9 a1 (((f_X0_signedValue a1 a2) + (f_X0_signedValue a1 a3)) + a4))
  let r_12 : Int32 := (f_X0_kept u_11 a1 y_1).1
  let u_13 : Int32 := (f_X0_kept u_11 a1 y_1).2
  (r_12, u_13)
set_option maxHeartbeats 4000000 in
set_option maxRecDepth 100000 in
theorem p_X0_sum (l : Launch) (dC : Nat → ClassId) (dI : Nat → Nat → Nat) (h0 : Nat) (sz : Nat) (f : Int32) (a1 : Int32) (a2 : Int32) (a3 : Int32) (a4 : Int32) : Met l yX0_sum wsX0_sum ({ frames := 4, cells := 0, slots := 0, locals := 86 }) (va_Pc [.ref h0, .int a1, .int a2, .int a3, .int a4] (wr_pre (dC, dI) 1 h0 sz [.int f])) (va_Qi (fun (r : Int32) (u : Int32) => r = (f_X0_sum f a1 a2 a3 a4).1 ∧ u = (f_X0_sum f a1 a2 a3 a4).2) (wr_at (dC, dI) 1 h0 (fun u : Int32 => [.int u]) (wr_A 1 h0 sz [.int f])) (wr_A 1 h0 sz [.int f])) 0 0 (wr_A 1 h0 sz [.int f]) := by
  refine Met.ofW (cc := cX0_sum) (maxL := 6) (ret := (some .int)) (by decide) rfl ?_
  intro p e s m args below meth c s₁ B hml hv
  obtain ⟨rfl, hsz, hP, hK, hD0⟩ := hv
  have hx := B.exec
  have hb := B.bytes
  have hr := B.returns
  have hts := atoms_spec (ws := wsX0_sum) B.pre
  have hown : s.vm.findClass RX0 = some m.cls := findClass_of_methodNamed B.named
  have hlocks := B.notSynchronized
  subst hsz
  have hD : va_D (wr_A 1 h0 s.heap.size [.int f]) [(h0, .inr (1, [.int f]))] := hD0.self (sz := s.heap.size)
  generalize hAe : wr_A 1 h0 s.heap.size [.int f] = A at hD ⊢
  have hA : ∀ q : Nat, s.heap.size ≤ q → A q := fun q h => by rw [← hAe]; exact Or.inr h
  have hS : va_S A s.heap s.heap [] := va_S.rf
  have hP : va_P (dC, dI) vwCl [(h0, .inr (1, [.int f]))] s.heap := hP
  have hD : va_D A [(h0, .inr (1, [.int f]))] := hD
  have hl := lv_entry ([.ref h0, .int a1, .int a2, .int a3, .int a4]) (n := 6) (Nat.le_of_ble_eq_true rfl)
  rw [lg_entry_eq]
  generalize (lg_sl ([.ref h0, .int a1, .int a2, .int a3, .int a4]) ++ List.replicate (6 - (lg_sl ([.ref h0, .int a1, .int a2, .int a3, .int a4])).length) Slot.unset).toArray = ls at hl ⊢
  have hl : lv_has ls 6 [(0, .ref h0), (1, .int a1), (2, .int a2), (3, .int a3), (4, .int a4)] := hl
  refine lv_iload_n hx hb dX0_sum_0 rfl (lv_at hl 2 rfl) ?_
  refine lv_iload_n hx hb dX0_sum_1 rfl (lv_at hl 3 rfl) ?_
  refine lv_iadd hx hb dX0_sum_2 ?_
  refine lv_iload hx hb dX0_sum_3 (lv_at hl 4 rfl) ?_
  refine lv_iadd hx hb dX0_sum_5 ?_
  refine lv_topi (fun y_1 ey_1 => ?_)
  refine lv_istore (lv' := [(5, .int y_1), (0, .ref h0), (1, .int a1), (2, .int a2), (3, .int a3), (4, .int a4)]) hx hb dX0_sum_6 hl (by decide) rfl (fun ls hl => ?_)
  refine lv_aload_n hx hb dX0_sum_8 rfl (lv_at hl 1 rfl) ?_
  refine lv_iconst (v := 1) hx hb dX0_sum_9 (by decide) ?_
  refine lv_iload hx hb dX0_sum_10 (lv_at hl 0 rfl) ?_
  refine lv_iload_n hx hb dX0_sum_12 rfl (lv_at hl 2 rfl) ?_
  refine pu_calli (F := (f_X0_mask a1)) (va_runS (As := [.int a1]) (rest := [.int y_1, .int 1, .ref h0]) ⟨hx, hb, hml, hown, hts⟩ (p_X0_mask l _ a1) (va_cwS 1 hts gX0_sum_X0_mask rfl rfl rfl (by decide +kernel) ⟨Nat.le_of_ble_eq_true rfl, Nat.le_of_ble_eq_true rfl⟩) pu_preS rfl rfl hl.1 rfl (lv_room (Nat.le_of_ble_eq_true rfl)) dX0_sum_13 ⟨Nat.le_of_ble_eq_true rfl, Nat.le_of_ble_eq_true rfl⟩) ?_
  refine rg (J := 24) (st := [.int 1, .ref h0]) (if y_1 ≤ (f_X0_mask a1) then 0 else 1) (fun k => ?_) (fun y_2 ey_2 => ?_)
  · refine lv_icmp_le (tgt := 23) hx hb dX0_sum_16 (by decide) (fun c_3 => ?_) (fun c_3 => ?_)
    · refine lv_iconst (v := 0) hx hb dX0_sum_23 (by decide) ?_
      exact rg_e k (by first | rw [if_pos c_3] | simp only [if_pos c_3])
    · refine lv_iconst (v := 1) hx hb dX0_sum_19 (by decide) ?_
      refine lv_goto (tgt := 24) hx hb dX0_sum_20 (by decide) ?_
      exact rg_e k (by first | rw [if_neg c_3] | simp only [if_neg c_3])
  refine wr_callv (va_runV (As := [.int 1, .int y_2]) (rest := []) ⟨hx, hb, hml, hown, hts⟩ (p_X0_put l dC dI h0 _ f 1 y_2) (cwV 2 hts gX0_sum_X0_put rfl rfl rfl (by decide +kernel) ⟨Nat.le_of_ble_eq_true rfl, Nat.le_of_ble_eq_true rfl⟩) (wr_preV (ci := 1) rfl hK hP hD) rfl rfl hl.1 rfl (lv_room (Nat.le_of_ble_eq_true rfl)) dX0_sum_24 ⟨Nat.le_of_ble_eq_true rfl, Nat.le_of_ble_eq_true rfl⟩) hP hD hS hA (fun u_5 H locs eu_5 hP hD hS => ?_)
  have hP : va_P (dC, dI) vwCl [(h0, .inr (1, [.int u_5]))] H := hP
  have hD : va_D A [(h0, .inr (1, [.int u_5]))] := hD
  refine lv_aload_n hx hb dX0_sum_27 rfl (lv_at hl 1 rfl) ?_
  refine lv_bipush (v := 16) hx hb dX0_sum_28 (by decide +kernel) ?_
  refine lv_iload_n hx hb dX0_sum_30 rfl (lv_at hl 3 rfl) ?_
  refine lv_bipush (v := 15) hx hb dX0_sum_31 (by decide +kernel) ?_
  refine lv_iand hx hb dX0_sum_33 ?_
  refine lv_iload_n hx hb dX0_sum_34 rfl (lv_at hl 4 rfl) ?_
  refine lv_bipush (v := 15) hx hb dX0_sum_35 (by decide +kernel) ?_
  refine lv_iand hx hb dX0_sum_37 ?_
  refine lv_iadd hx hb dX0_sum_38 ?_
  refine lv_iload hx hb dX0_sum_39 (lv_at hl 5 rfl) ?_
  refine lv_iadd hx hb dX0_sum_41 ?_
  refine lv_bipush (v := 15) hx hb dX0_sum_42 (by decide +kernel) ?_
  refine rg (J := 52) (st := [.int 16, .ref h0]) (if (((a2 &&& 15) + (a3 &&& 15)) + a4) ≤ 15 then 0 else 1) (fun k => ?_) (fun y_6 ey_6 => ?_)
  · refine lv_icmp_le (tgt := 51) hx hb dX0_sum_44 (by decide) (fun c_7 => ?_) (fun c_7 => ?_)
    · refine lv_iconst (v := 0) hx hb dX0_sum_51 (by decide) ?_
      exact rg_e k (by first | rw [if_pos c_7] | simp only [if_pos c_7])
    · refine lv_iconst (v := 1) hx hb dX0_sum_47 (by decide) ?_
      refine lv_goto (tgt := 52) hx hb dX0_sum_48 (by decide) ?_
      exact rg_e k (by first | rw [if_neg c_7] | simp only [if_neg c_7])
  refine wr_callv (va_runV (As := [.int 16, .int y_6]) (rest := []) ⟨hx, hb, hml, hown, hts⟩ (p_X0_put l dC dI h0 _ u_5 16 y_6) (cwV 2 hts gX0_sum_X0_put rfl rfl rfl (by decide +kernel) ⟨Nat.le_of_ble_eq_true rfl, Nat.le_of_ble_eq_true rfl⟩) (wr_preV (ci := 1) rfl hK hP hD) rfl rfl hl.1 rfl (lv_room (Nat.le_of_ble_eq_true rfl)) dX0_sum_52 ⟨Nat.le_of_ble_eq_true rfl, Nat.le_of_ble_eq_true rfl⟩) hP hD hS hA (fun u_9 H locs eu_9 hP hD hS => ?_)
  have hP : va_P (dC, dI) vwCl [(h0, .inr (1, [.int u_9]))] H := hP
  have hD : va_D A [(h0, .inr (1, [.int u_9]))] := hD
  refine lv_aload_n hx hb dX0_sum_55 rfl (lv_at hl 1 rfl) ?_
  refine lv_iload_n hx hb dX0_sum_56 rfl (lv_at hl 2 rfl) ?_
  refine lv_iload_n hx hb dX0_sum_57 rfl (lv_at hl 2 rfl) ?_
  refine lv_iload_n hx hb dX0_sum_58 rfl (lv_at hl 3 rfl) ?_
  refine pu_calli (F := (f_X0_signedValue a1 a2)) (va_runS (As := [.int a1, .int a2]) (rest := [.int a1, .ref h0]) ⟨hx, hb, hml, hown, hts⟩ (p_X0_signedValue l _ a1 a2) (va_cwS 2 hts gX0_sum_X0_signedValue rfl rfl rfl (by decide +kernel) ⟨Nat.le_of_ble_eq_true rfl, Nat.le_of_ble_eq_true rfl⟩) pu_preS rfl rfl hl.1 rfl (lv_room (Nat.le_of_ble_eq_true rfl)) dX0_sum_59 ⟨Nat.le_of_ble_eq_true rfl, Nat.le_of_ble_eq_true rfl⟩) ?_
  refine lv_iload_n hx hb dX0_sum_62 rfl (lv_at hl 2 rfl) ?_
  refine lv_iload_n hx hb dX0_sum_63 rfl (lv_at hl 4 rfl) ?_
  refine pu_calli (F := (f_X0_signedValue a1 a3)) (va_runS (As := [.int a1, .int a3]) (rest := [.int (f_X0_signedValue a1 a2), .int a1, .ref h0]) ⟨hx, hb, hml, hown, hts⟩ (p_X0_signedValue l _ a1 a3) (va_cwS 2 hts gX0_sum_X0_signedValue rfl rfl rfl (by decide +kernel) ⟨Nat.le_of_ble_eq_true rfl, Nat.le_of_ble_eq_true rfl⟩) pu_preS rfl rfl hl.1 rfl (lv_room (Nat.le_of_ble_eq_true rfl)) dX0_sum_64 ⟨Nat.le_of_ble_eq_true rfl, Nat.le_of_ble_eq_true rfl⟩) ?_
  refine lv_iadd hx hb dX0_sum_67 ?_
  refine lv_iload hx hb dX0_sum_68 (lv_at hl 5 rfl) ?_
  refine lv_iadd hx hb dX0_sum_70 ?_
  refine wr_callv (va_runV (As := [.int a1, .int (((f_X0_signedValue a1 a2) + (f_X0_signedValue a1 a3)) + a4)]) (rest := []) ⟨hx, hb, hml, hown, hts⟩ (p_X0_putOverflow l dC dI h0 _ u_9 a1 (((f_X0_signedValue a1 a2) + (f_X0_signedValue a1 a3)) + a4)) (cwV 2 hts gX0_sum_X0_putOverflow rfl rfl rfl (by decide +kernel) ⟨Nat.le_of_ble_eq_true rfl, Nat.le_of_ble_eq_true rfl⟩) (wr_preV (ci := 1) rfl hK hP hD) rfl rfl hl.1 rfl (lv_room (Nat.le_of_ble_eq_true rfl)) dX0_sum_71 ⟨Nat.le_of_ble_eq_true rfl, Nat.le_of_ble_eq_true rfl⟩) hP hD hS hA (fun u_11 H locs eu_11 hP hD hS => ?_)
  have hP : va_P (dC, dI) vwCl [(h0, .inr (1, [.int u_11]))] H := hP
  have hD : va_D A [(h0, .inr (1, [.int u_11]))] := hD
  refine lv_aload_n hx hb dX0_sum_74 rfl (lv_at hl 1 rfl) ?_
  refine lv_iload_n hx hb dX0_sum_75 rfl (lv_at hl 2 rfl) ?_
  refine lv_iload hx hb dX0_sum_76 (lv_at hl 0 rfl) ?_
  refine wr_calli (va_runV (As := [.int a1, .int y_1]) (rest := []) ⟨hx, hb, hml, hown, hts⟩ (p_X0_kept l dC dI h0 _ u_11 a1 y_1) (cwV 2 hts gX0_sum_X0_kept rfl rfl rfl (by decide +kernel) ⟨Nat.le_of_ble_eq_true rfl, Nat.le_of_ble_eq_true rfl⟩) (wr_preV (ci := 1) rfl hK hP hD) rfl rfl hl.1 rfl (lv_room (Nat.le_of_ble_eq_true rfl)) dX0_sum_78 ⟨Nat.le_of_ble_eq_true rfl, Nat.le_of_ble_eq_true rfl⟩) hP hD hS hA (fun r_12 u_13 H locs hw hP hD hS => ?_)
  obtain ⟨er_12, eu_13⟩ := hw
  have hP : va_P (dC, dI) vwCl [(h0, .inr (1, [.int u_13]))] H := hP
  have hD : va_D A [(h0, .inr (1, [.int u_13]))] := hD
  exact W.iret (v := r_12) hx hb hr (fun t ht hW => ⟨⟨r_12, u_13, rfl, ⟨(by subst ey_1; subst ey_2; subst eu_5; subst ey_6; subst eu_9; subst eu_11; subst er_12; subst eu_13; simp only [f_X0_sum]), (by subst ey_1; subst ey_2; subst eu_5; subst ey_6; subst eu_9; subst eu_11; subst er_12; subst eu_13; simp only [f_X0_sum])⟩, by rw [ht]; exact hP, va_K.moved hW.alike hK, hD⟩, hS.F ht⟩) hS.2.2 dX0_sum_81

/-- what X0_difference answers -/
def f_X0_difference (f : Int32) (a1 : Int32) (a2 : Int32) (a3 : Int32) (a4 : Int32) : Int32 × Int32 :=
  let y_1 : Int32 := ((a2 - a3) - a4)
  let y_2 : Int32 := (if 0 ≤ y_1 then 0 else 1)
  let u_5 : Int32 := (f_X0_put f 1 y_2)
  let y_6 : Int32 := (if 0 ≤ (((a2 &&& 15) - (a3 &&& 15)) - a4) then 0 else 1)
  let u_9 : Int32 := (f_X0_put u_5 16 y_6)
  let u_11 : Int32 := (f_X0_putOverflow u_9 a1 (((f_X0_signedValue a1 a2) - (f_X0_signedValue a1 a3)) - a4))
  let r_12 : Int32 := (f_X0_kept u_11 a1 y_1).1
  let u_13 : Int32 := (f_X0_kept u_11 a1 y_1).2
  (r_12, u_13)
set_option maxHeartbeats 4000000 in
set_option maxRecDepth 100000 in
theorem p_X0_difference (l : Launch) (dC : Nat → ClassId) (dI : Nat → Nat → Nat) (h0 : Nat) (sz : Nat) (f : Int32) (a1 : Int32) (a2 : Int32) (a3 : Int32) (a4 : Int32) : Met l yX0_difference wsX0_difference ({ frames := 4, cells := 0, slots := 0, locals := 86 }) (va_Pc [.ref h0, .int a1, .int a2, .int a3, .int a4] (wr_pre (dC, dI) 1 h0 sz [.int f])) (va_Qi (fun (r : Int32) (u : Int32) => r = (f_X0_difference f a1 a2 a3 a4).1 ∧ u = (f_X0_difference f a1 a2 a3 a4).2) (wr_at (dC, dI) 1 h0 (fun u : Int32 => [.int u]) (wr_A 1 h0 sz [.int f])) (wr_A 1 h0 sz [.int f])) 0 0 (wr_A 1 h0 sz [.int f]) := by
  refine Met.ofW (cc := cX0_difference) (maxL := 6) (ret := (some .int)) (by decide) rfl ?_
  intro p e s m args below meth c s₁ B hml hv
  obtain ⟨rfl, hsz, hP, hK, hD0⟩ := hv
  have hx := B.exec
  have hb := B.bytes
  have hr := B.returns
  have hts := atoms_spec (ws := wsX0_difference) B.pre
  have hown : s.vm.findClass RX0 = some m.cls := findClass_of_methodNamed B.named
  have hlocks := B.notSynchronized
  subst hsz
  have hD : va_D (wr_A 1 h0 s.heap.size [.int f]) [(h0, .inr (1, [.int f]))] := hD0.self (sz := s.heap.size)
  generalize hAe : wr_A 1 h0 s.heap.size [.int f] = A at hD ⊢
  have hA : ∀ q : Nat, s.heap.size ≤ q → A q := fun q h => by rw [← hAe]; exact Or.inr h
  have hS : va_S A s.heap s.heap [] := va_S.rf
  have hP : va_P (dC, dI) vwCl [(h0, .inr (1, [.int f]))] s.heap := hP
  have hD : va_D A [(h0, .inr (1, [.int f]))] := hD
  have hl := lv_entry ([.ref h0, .int a1, .int a2, .int a3, .int a4]) (n := 6) (Nat.le_of_ble_eq_true rfl)
  rw [lg_entry_eq]
  generalize (lg_sl ([.ref h0, .int a1, .int a2, .int a3, .int a4]) ++ List.replicate (6 - (lg_sl ([.ref h0, .int a1, .int a2, .int a3, .int a4])).length) Slot.unset).toArray = ls at hl ⊢
  have hl : lv_has ls 6 [(0, .ref h0), (1, .int a1), (2, .int a2), (3, .int a3), (4, .int a4)] := hl
  refine lv_iload_n hx hb dX0_difference_0 rfl (lv_at hl 2 rfl) ?_
  refine lv_iload_n hx hb dX0_difference_1 rfl (lv_at hl 3 rfl) ?_
  refine lv_isub hx hb dX0_difference_2 ?_
  refine lv_iload hx hb dX0_difference_3 (lv_at hl 4 rfl) ?_
  refine lv_isub hx hb dX0_difference_5 ?_
  refine lv_topi (fun y_1 ey_1 => ?_)
  refine lv_istore (lv' := [(5, .int y_1), (0, .ref h0), (1, .int a1), (2, .int a2), (3, .int a3), (4, .int a4)]) hx hb dX0_difference_6 hl (by decide) rfl (fun ls hl => ?_)
  refine lv_aload_n hx hb dX0_difference_8 rfl (lv_at hl 1 rfl) ?_
  refine lv_iconst (v := 1) hx hb dX0_difference_9 (by decide) ?_
  refine lv_iload hx hb dX0_difference_10 (lv_at hl 0 rfl) ?_
  refine rg (J := 20) (st := [.int 1, .ref h0]) (if 0 ≤ y_1 then 0 else 1) (fun k => ?_) (fun y_2 ey_2 => ?_)
  · refine lv_if_ge (tgt := 19) hx hb dX0_difference_12 (by decide) (fun c_3 => ?_) (fun c_3 => ?_)
    · refine lv_iconst (v := 0) hx hb dX0_difference_19 (by decide) ?_
      exact rg_e k (by first | rw [if_pos c_3] | simp only [if_pos c_3])
    · refine lv_iconst (v := 1) hx hb dX0_difference_15 (by decide) ?_
      refine lv_goto (tgt := 20) hx hb dX0_difference_16 (by decide) ?_
      exact rg_e k (by first | rw [if_neg c_3] | simp only [if_neg c_3])
  refine wr_callv (va_runV (As := [.int 1, .int y_2]) (rest := []) ⟨hx, hb, hml, hown, hts⟩ (p_X0_put l dC dI h0 _ f 1 y_2) (cwV 2 hts gX0_difference_X0_put rfl rfl rfl (by decide +kernel) ⟨Nat.le_of_ble_eq_true rfl, Nat.le_of_ble_eq_true rfl⟩) (wr_preV (ci := 1) rfl hK hP hD) rfl rfl hl.1 rfl (lv_room (Nat.le_of_ble_eq_true rfl)) dX0_difference_20 ⟨Nat.le_of_ble_eq_true rfl, Nat.le_of_ble_eq_true rfl⟩) hP hD hS hA (fun u_5 H locs eu_5 hP hD hS => ?_)
  have hP : va_P (dC, dI) vwCl [(h0, .inr (1, [.int u_5]))] H := hP
  have hD : va_D A [(h0, .inr (1, [.int u_5]))] := hD
  refine lv_aload_n hx hb dX0_difference_23 rfl (lv_at hl 1 rfl) ?_
  refine lv_bipush (v := 16) hx hb dX0_difference_24 (by decide +kernel) ?_
  refine lv_iload_n hx hb dX0_difference_26 rfl (lv_at hl 3 rfl) ?_
  refine lv_bipush (v := 15) hx hb dX0_difference_27 (by decide +kernel) ?_
  refine lv_iand hx hb dX0_difference_29 ?_
  refine lv_iload_n hx hb dX0_difference_30 rfl (lv_at hl 4 rfl) ?_
  refine lv_bipush (v := 15) hx hb dX0_difference_31 (by decide +kernel) ?_
  refine lv_iand hx hb dX0_difference_33 ?_
  refine lv_isub hx hb dX0_difference_34 ?_
  refine lv_iload hx hb dX0_difference_35 (lv_at hl 5 rfl) ?_
  refine lv_isub hx hb dX0_difference_37 ?_
  refine rg (J := 46) (st := [.int 16, .ref h0]) (if 0 ≤ (((a2 &&& 15) - (a3 &&& 15)) - a4) then 0 else 1) (fun k => ?_) (fun y_6 ey_6 => ?_)
  · refine lv_if_ge (tgt := 45) hx hb dX0_difference_38 (by decide) (fun c_7 => ?_) (fun c_7 => ?_)
    · refine lv_iconst (v := 0) hx hb dX0_difference_45 (by decide) ?_
      exact rg_e k (by first | rw [if_pos c_7] | simp only [if_pos c_7])
    · refine lv_iconst (v := 1) hx hb dX0_difference_41 (by decide) ?_
      refine lv_goto (tgt := 46) hx hb dX0_difference_42 (by decide) ?_
      exact rg_e k (by first | rw [if_neg c_7] | simp only [if_neg c_7])
  refine wr_callv (va_runV (As := [.int 16, .int y_6]) (rest := []) ⟨hx, hb, hml, hown, hts⟩ (p_X0_put l dC dI h0 _ u_5 16 y_6) (cwV 2 hts gX0_difference_X0_put rfl rfl rfl (by decide +kernel) ⟨Nat.le_of_ble_eq_true rfl, Nat.le_of_ble_eq_true rfl⟩) (wr_preV (ci := 1) rfl hK hP hD) rfl rfl hl.1 rfl (lv_room (Nat.le_of_ble_eq_true rfl)) dX0_difference_46 ⟨Nat.le_of_ble_eq_true rfl, Nat.le_of_ble_eq_true rfl⟩) hP hD hS hA (fun u_9 H locs eu_9 hP hD hS => ?_)
  have hP : va_P (dC, dI) vwCl [(h0, .inr (1, [.int u_9]))] H := hP
  have hD : va_D A [(h0, .inr (1, [.int u_9]))] := hD
  refine lv_aload_n hx hb dX0_difference_49 rfl (lv_at hl 1 rfl) ?_
  refine lv_iload_n hx hb dX0_difference_50 rfl (lv_at hl 2 rfl) ?_
  refine lv_iload_n hx hb dX0_difference_51 rfl (lv_at hl 2 rfl) ?_
  refine lv_iload_n hx hb dX0_difference_52 rfl (lv_at hl 3 rfl) ?_
  refine pu_calli (F := (f_X0_signedValue a1 a2)) (va_runS (As := [.int a1, .int a2]) (rest := [.int a1, .ref h0]) ⟨hx, hb, hml, hown, hts⟩ (p_X0_signedValue l _ a1 a2) (va_cwS 2 hts gX0_difference_X0_signedValue rfl rfl rfl (by decide +kernel) ⟨Nat.le_of_ble_eq_true rfl, Nat.le_of_ble_eq_true rfl⟩) pu_preS rfl rfl hl.1 rfl (lv_room (Nat.le_of_ble_eq_true rfl)) dX0_difference_53 ⟨Nat.le_of_ble_eq_true rfl, Nat.le_of_ble_eq_true rfl⟩) ?_
  refine lv_iload_n hx hb dX0_difference_56 rfl (lv_at hl 2 rfl) ?_
  refine lv_iload_n hx hb dX0_difference_57 rfl (lv_at hl 4 rfl) ?_
  refine pu_calli (F := (f_X0_signedValue a1 a3)) (va_runS (As := [.int a1, .int a3]) (rest := [.int (f_X0_signedValue a1 a2), .int a1, .ref h0]) ⟨hx, hb, hml, hown, hts⟩ (p_X0_signedValue l _ a1 a3) (va_cwS 2 hts gX0_difference_X0_signedValue rfl rfl rfl (by decide +kernel) ⟨Nat.le_of_ble_eq_true rfl, Nat.le_of_ble_eq_true rfl⟩) pu_preS rfl rfl hl.1 rfl (lv_room (Nat.le_of_ble_eq_true rfl)) dX0_difference_58 ⟨Nat.le_of_ble_eq_true rfl, Nat.le_of_ble_eq_true rfl⟩) ?_
  refine lv_isub hx hb dX0_difference_61 ?_
  refine lv_iload hx hb dX0_difference_62 (lv_at hl 5 rfl) ?_
  refine lv_isub hx hb dX0_difference_64 ?_
  refine wr_callv (va_runV (As := [.int a1, .int (((f_X0_signedValue a1 a2) - (f_X0_signedValue a1 a3)) - a4)]) (rest := []) ⟨hx, hb, hml, hown, hts⟩ (p_X0_putOverflow l dC dI h0 _ u_9 a1 (((f_X0_signedValue a1 a2) - (f_X0_signedValue a1 a3)) - a4)) (cwV 2 hts gX0_difference_X0_putOverflow rfl rfl rfl (by decide +kernel) ⟨Nat.le_of_ble_eq_true rfl, Nat.le_of_ble_eq_true rfl⟩) (wr_preV (ci := 1) rfl hK hP hD) rfl rfl hl.1 rfl (lv_room (Nat.le_of_ble_eq_true rfl)) dX0_difference_65 ⟨Nat.le_of_ble_eq_true rfl, Nat.le_of_ble_eq_true rfl⟩) hP hD hS hA (fun u_11 H locs eu_11 hP hD hS => ?_)
  have hP : va_P (dC, dI) vwCl [(h0, .inr (1, [.int u_11]))] H := hP
  have hD : va_D A [(h0, .inr (1, [.int u_11]))] := hD
  refine lv_aload_n hx hb dX0_difference_68 rfl (lv_at hl 1 rfl) ?_
  refine lv_iload_n hx hb dX0_difference_69 rfl (lv_at hl 2 rfl) ?_
  refine lv_iload hx hb dX0_difference_70 (lv_at hl 0 rfl) ?_
  refine wr_calli (va_runV (As := [.int a1, .int y_1]) (rest := []) ⟨hx, hb, hml, hown, hts⟩ (p_X0_kept l dC dI h0 _ u_11 a1 y_1) (cwV 2 hts gX0_difference_X0_kept rfl rfl rfl (by decide +kernel) ⟨Nat.le_of_ble_eq_true rfl, Nat.le_of_ble_eq_true rfl⟩) (wr_preV (ci := 1) rfl hK hP hD) rfl rfl hl.1 rfl (lv_room (Nat.le_of_ble_eq_true rfl)) dX0_difference_72 ⟨Nat.le_of_ble_eq_true rfl, Nat.le_of_ble_eq_true rfl⟩) hP hD hS hA (fun r_12 u_13 H locs hw hP hD hS => ?_)
  obtain ⟨er_12, eu_13⟩ := hw
  have hP : va_P (dC, dI) vwCl [(h0, .inr (1, [.int u_13]))] H := hP
  have hD : va_D A [(h0, .inr (1, [.int u_13]))] := hD
  exact W.iret (v := r_12) hx hb hr (fun t ht hW => ⟨⟨r_12, u_13, rfl, ⟨(by subst ey_1; subst ey_2; subst eu_5; subst ey_6; subst eu_9; subst eu_11; subst er_12; subst eu_13; simp only [f_X0_difference]), (by subst ey_1; subst ey_2; subst eu_5; subst ey_6; subst eu_9; subst eu_11; subst er_12; subst eu_13; simp only [f_X0_difference])⟩, by rw [ht]; exact hP, va_K.moved hW.alike hK, hD⟩, hS.F ht⟩) hS.2.2 dX0_difference_75
end
section
/-- what X0_logic answers -/
def f_X0_logic (f : Int32) (a1 : Int32) (a2 : Int32) : Int32 × Int32 :=
  let u_2 : Int32 := (f_X0_put f 1 0)
  let u_4 : Int32 := (f_X0_put u_2 16 0)
  let u_6 : Int32 := (f_X0_put u_4 2048 0)
  let r_7 : Int32 := (f_X0_kept u_6 a1 a2).1
  let u_8 : Int32 := (f_X0_kept u_6 a1 a2).2
  (r_7, u_8)
set_option maxHeartbeats 4000000 in
set_option maxRecDepth 100000 in
theorem p_X0_logic (l : Launch) (dC : Nat → ClassId) (dI : Nat → Nat → Nat) (h0 : Nat) (sz : Nat) (f : Int32) (a1 : Int32) (a2 : Int32) : Met l yX0_logic wsX0_logic ({ frames := 4, cells := 0, slots := 0, locals := 86 }) (va_Pc [.ref h0, .int a1, .int a2] (wr_pre (dC, dI) 1 h0 sz [.int f])) (va_Qi (fun (r : Int32) (u : Int32) => r = (f_X0_logic f a1 a2).1 ∧ u = (f_X0_logic f a1 a2).2) (wr_at (dC, dI) 1 h0 (fun u : Int32 => [.int u]) (wr_A 1 h0 sz [.int f])) (wr_A 1 h0 sz [.int f])) 0 0 (wr_A 1 h0 sz [.int f]) := by
  refine Met.ofW (cc := cX0_logic) (maxL := 3) (ret := (some .int)) (by decide) rfl ?_
  intro p e s m args below meth c s₁ B hml hv
  obtain ⟨rfl, hsz, hP, hK, hD0⟩ := hv
  have hx := B.exec
  have hb := B.bytes
  have hr := B.returns
  have hts := atoms_spec (ws := wsX0_logic) B.pre
  have hown : s.vm.findClass RX0 = some m.cls := findClass_of_methodNamed B.named
  have hlocks := B.notSynchronized
  subst hsz
  have hD : va_D (wr_A 1 h0 s.heap.size [.int f]) [(h0, .inr (1, [.int f]))] := hD0.self (sz := s.heap.size)
  generalize hAe : wr_A 1 h0 s.heap.size [.int f] = A at hD ⊢
  have hA : ∀ q : Nat, s.heap.size ≤ q → A q := fun q h => by rw [← hAe]; exact Or.inr h
  have hS : va_S A s.heap s.heap [] := va_S.rf
  have hP : va_P (dC, dI) vwCl [(h0, .inr (1, [.int f]))] s.heap := hP
  have hD : va_D A [(h0, .inr (1, [.int f]))] := hD
  have hl := lv_entry ([.ref h0, .int a1, .int a2]) (n := 3) (Nat.le_of_ble_eq_true rfl)
  rw [lg_entry_eq]
  generalize (lg_sl ([.ref h0, .int a1, .int a2]) ++ List.replicate (3 - (lg_sl ([.ref h0, .int a1, .int a2])).length) Slot.unset).toArray = ls at hl ⊢
  have hl : lv_has ls 3 [(0, .ref h0), (1, .int a1), (2, .int a2)] := hl
  refine lv_aload_n hx hb dX0_logic_0 rfl (lv_at hl 0 rfl) ?_
  refine lv_iconst (v := 1) hx hb dX0_logic_1 (by decide) ?_
  refine lv_iconst (v := 0) hx hb dX0_logic_2 (by decide) ?_
  refine wr_callv (va_runV (As := [.int 1, .int 0]) (rest := []) ⟨hx, hb, hml, hown, hts⟩ (p_X0_put l dC dI h0 _ f 1 0) (cwV 2 hts gX0_logic_X0_put rfl rfl rfl (by decide +kernel) ⟨Nat.le_of_ble_eq_true rfl, Nat.le_of_ble_eq_true rfl⟩) (wr_preV (ci := 1) rfl hK hP hD) rfl rfl hl.1 rfl (lv_room (Nat.le_of_ble_eq_true rfl)) dX0_logic_3 ⟨Nat.le_of_ble_eq_true rfl, Nat.le_of_ble_eq_true rfl⟩) hP hD hS hA (fun u_2 H locs eu_2 hP hD hS => ?_)
  have hP : va_P (dC, dI) vwCl [(h0, .inr (1, [.int u_2]))] H := hP
  have hD : va_D A [(h0, .inr (1, [.int u_2]))] := hD
  refine lv_aload_n hx hb dX0_logic_6 rfl (lv_at hl 0 rfl) ?_
  refine lv_bipush (v := 16) hx hb dX0_logic_7 (by decide +kernel) ?_
  refine lv_iconst (v := 0) hx hb dX0_logic_9 (by decide) ?_
  refine wr_callv (va_runV (As := [.int 16, .int 0]) (rest := []) ⟨hx, hb, hml, hown, hts⟩ (p_X0_put l dC dI h0 _ u_2 16 0) (cwV 2 hts gX0_logic_X0_put rfl rfl rfl (by decide +kernel) ⟨Nat.le_of_ble_eq_true rfl, Nat.le_of_ble_eq_true rfl⟩) (wr_preV (ci := 1) rfl hK hP hD) rfl rfl hl.1 rfl (lv_room (Nat.le_of_ble_eq_true rfl)) dX0_logic_10 ⟨Nat.le_of_ble_eq_true rfl, Nat.le_of_ble_eq_true rfl⟩) hP hD hS hA (fun u_4 H locs eu_4 hP hD hS => ?_)
  have hP : va_P (dC, dI) vwCl [(h0, .inr (1, [.int u_4]))] H := hP
  have hD : va_D A [(h0, .inr (1, [.int u_4]))] := hD
  refine lv_aload_n hx hb dX0_logic_13 rfl (lv_at hl 0 rfl) ?_
  refine lv_sipush (v := 2048) hx hb dX0_logic_14 (by decide +kernel) ?_
  refine lv_iconst (v := 0) hx hb dX0_logic_17 (by decide) ?_
  refine wr_callv (va_runV (As := [.int 2048, .int 0]) (rest := []) ⟨hx, hb, hml, hown, hts⟩ (p_X0_put l dC dI h0 _ u_4 2048 0) (cwV 2 hts gX0_logic_X0_put rfl rfl rfl (by decide +kernel) ⟨Nat.le_of_ble_eq_true rfl, Nat.le_of_ble_eq_true rfl⟩) (wr_preV (ci := 1) rfl hK hP hD) rfl rfl hl.1 rfl (lv_room (Nat.le_of_ble_eq_true rfl)) dX0_logic_18 ⟨Nat.le_of_ble_eq_true rfl, Nat.le_of_ble_eq_true rfl⟩) hP hD hS hA (fun u_6 H locs eu_6 hP hD hS => ?_)
  have hP : va_P (dC, dI) vwCl [(h0, .inr (1, [.int u_6]))] H := hP
  have hD : va_D A [(h0, .inr (1, [.int u_6]))] := hD
  refine lv_aload_n hx hb dX0_logic_21 rfl (lv_at hl 0 rfl) ?_
  refine lv_iload_n hx hb dX0_logic_22 rfl (lv_at hl 1 rfl) ?_
  refine lv_iload_n hx hb dX0_logic_23 rfl (lv_at hl 2 rfl) ?_
  refine wr_calli (va_runV (As := [.int a1, .int a2]) (rest := []) ⟨hx, hb, hml, hown, hts⟩ (p_X0_kept l dC dI h0 _ u_6 a1 a2) (cwV 2 hts gX0_logic_X0_kept rfl rfl rfl (by decide +kernel) ⟨Nat.le_of_ble_eq_true rfl, Nat.le_of_ble_eq_true rfl⟩) (wr_preV (ci := 1) rfl hK hP hD) rfl rfl hl.1 rfl (lv_room (Nat.le_of_ble_eq_true rfl)) dX0_logic_24 ⟨Nat.le_of_ble_eq_true rfl, Nat.le_of_ble_eq_true rfl⟩) hP hD hS hA (fun r_7 u_8 H locs hw hP hD hS => ?_)
  obtain ⟨er_7, eu_8⟩ := hw
  have hP : va_P (dC, dI) vwCl [(h0, .inr (1, [.int u_8]))] H := hP
  have hD : va_D A [(h0, .inr (1, [.int u_8]))] := hD
  exact W.iret (v := r_7) hx hb hr (fun t ht hW => ⟨⟨r_7, u_8, rfl, ⟨(by subst eu_2; subst eu_4; subst eu_6; subst er_7; subst eu_8; simp only [f_X0_logic]), (by subst eu_2; subst eu_4; subst eu_6; subst er_7; subst eu_8; simp only [f_X0_logic])⟩, by rw [ht]; exact hP, va_K.moved hW.alike hK, hD⟩, hS.F ht⟩) hS.2.2 dX0_logic_27

/-- what X0_oneMore answers -/
def f_X0_oneMore (f : Int32) (a1 : Int32) (a2 : Int32) : Int32 × Int32 :=
  let y_1 : Int32 := (f_X0_isSet f 1)
  let r_2 : Int32 := (f_X0_sum f a1 a2 1 0).1
  let u_3 : Int32 := (f_X0_sum f a1 a2 1 0).2
  let u_5 : Int32 := (f_X0_put u_3 1 y_1)
  (r_2, u_5)
set_option maxHeartbeats 4000000 in
set_option maxRecDepth 100000 in
theorem p_X0_oneMore (l : Launch) (dC : Nat → ClassId) (dI : Nat → Nat → Nat) (h0 : Nat) (sz : Nat) (f : Int32) (a1 : Int32) (a2 : Int32) : Met l yX0_oneMore wsX0_oneMore ({ frames := 5, cells := 0, slots := 0, locals := 111 }) (va_Pc [.ref h0, .int a1, .int a2] (wr_pre (dC, dI) 1 h0 sz [.int f])) (va_Qi (fun (r : Int32) (u : Int32) => r = (f_X0_oneMore f a1 a2).1 ∧ u = (f_X0_oneMore f a1 a2).2) (wr_at (dC, dI) 1 h0 (fun u : Int32 => [.int u]) (wr_A 1 h0 sz [.int f])) (wr_A 1 h0 sz [.int f])) 0 0 (wr_A 1 h0 sz [.int f]) := by
  refine Met.ofW (cc := cX0_oneMore) (maxL := 5) (ret := (some .int)) (by decide) rfl ?_
  intro p e s m args below meth c s₁ B hml hv
  obtain ⟨rfl, hsz, hP, hK, hD0⟩ := hv
  have hx := B.exec
  have hb := B.bytes
  have hr := B.returns
  have hts := atoms_spec (ws := wsX0_oneMore) B.pre
  have hown : s.vm.findClass RX0 = some m.cls := findClass_of_methodNamed B.named
  have hlocks := B.notSynchronized
  subst hsz
  have hD : va_D (wr_A 1 h0 s.heap.size [.int f]) [(h0, .inr (1, [.int f]))] := hD0.self (sz := s.heap.size)
  generalize hAe : wr_A 1 h0 s.heap.size [.int f] = A at hD ⊢
  have hA : ∀ q : Nat, s.heap.size ≤ q → A q := fun q h => by rw [← hAe]; exact Or.inr h
  have hS : va_S A s.heap s.heap [] := va_S.rf
  have hP : va_P (dC, dI) vwCl [(h0, .inr (1, [.int f]))] s.heap := hP
  have hD : va_D A [(h0, .inr (1, [.int f]))] := hD
  have hl := lv_entry ([.ref h0, .int a1, .int a2]) (n := 5) (Nat.le_of_ble_eq_true rfl)
  rw [lg_entry_eq]
  generalize (lg_sl ([.ref h0, .int a1, .int a2]) ++ List.replicate (5 - (lg_sl ([.ref h0, .int a1, .int a2])).length) Slot.unset).toArray = ls at hl ⊢
  have hl : lv_has ls 5 [(0, .ref h0), (1, .int a1), (2, .int a2)] := hl
  refine lv_aload_n hx hb dX0_oneMore_0 rfl (lv_at hl 0 rfl) ?_
  refine lv_iconst (v := 1) hx hb dX0_oneMore_1 (by decide) ?_
  refine pu_calli (F := (f_X0_isSet f 1)) (va_runV (As := [.int 1]) (rest := []) ⟨hx, hb, hml, hown, hts⟩ (p_X0_isSet l dC dI h0 _ f 1) (cwV 1 hts gX0_oneMore_X0_isSet rfl rfl rfl (by decide +kernel) ⟨Nat.le_of_ble_eq_true rfl, Nat.le_of_ble_eq_true rfl⟩) (pu_preV (ci := 1) rfl hK hP) rfl rfl hl.1 rfl (lv_room (Nat.le_of_ble_eq_true rfl)) dX0_oneMore_2 ⟨Nat.le_of_ble_eq_true rfl, Nat.le_of_ble_eq_true rfl⟩) ?_
  refine lv_topi (fun y_1 ey_1 => ?_)
  refine lv_istore_n (lv' := [(3, .int y_1), (0, .ref h0), (1, .int a1), (2, .int a2)]) hx hb dX0_oneMore_5 rfl hl (by decide) rfl (fun ls hl => ?_)
  refine lv_aload_n hx hb dX0_oneMore_6 rfl (lv_at hl 1 rfl) ?_
  refine lv_iload_n hx hb dX0_oneMore_7 rfl (lv_at hl 2 rfl) ?_
  refine lv_iload_n hx hb dX0_oneMore_8 rfl (lv_at hl 3 rfl) ?_
  refine lv_iconst (v := 1) hx hb dX0_oneMore_9 (by decide) ?_
  refine lv_iconst (v := 0) hx hb dX0_oneMore_10 (by decide) ?_
  refine wr_calli (va_runV (As := [.int a1, .int a2, .int 1, .int 0]) (rest := []) ⟨hx, hb, hml, hown, hts⟩ (p_X0_sum l dC dI h0 _ f a1 a2 1 0) (cwV 4 hts gX0_oneMore_X0_sum rfl rfl rfl (by decide +kernel) ⟨Nat.le_of_ble_eq_true rfl, Nat.le_of_ble_eq_true rfl⟩) (wr_preV (ci := 1) rfl hK hP hD) rfl rfl hl.1 rfl (lv_room (Nat.le_of_ble_eq_true rfl)) dX0_oneMore_11 ⟨Nat.le_of_ble_eq_true rfl, Nat.le_of_ble_eq_true rfl⟩) hP hD hS hA (fun r_2 u_3 H locs hw hP hD hS => ?_)
  obtain ⟨er_2, eu_3⟩ := hw
  have hP : va_P (dC, dI) vwCl [(h0, .inr (1, [.int u_3]))] H := hP
  have hD : va_D A [(h0, .inr (1, [.int u_3]))] := hD
  refine lv_istore (lv' := [(4, .int r_2), (3, .int y_1), (0, .ref h0), (1, .int a1), (2, .int a2)]) hx hb dX0_oneMore_14 hl (by decide) rfl (fun ls hl => ?_)
  refine lv_aload_n hx hb dX0_oneMore_16 rfl (lv_at hl 2 rfl) ?_
  refine lv_iconst (v := 1) hx hb dX0_oneMore_17 (by decide) ?_
  refine lv_iload_n hx hb dX0_oneMore_18 rfl (lv_at hl 1 rfl) ?_
  refine wr_callv (va_runV (As := [.int 1, .int y_1]) (rest := []) ⟨hx, hb, hml, hown, hts⟩ (p_X0_put l dC dI h0 _ u_3 1 y_1) (cwV 2 hts gX0_oneMore_X0_put rfl rfl rfl (by decide +kernel) ⟨Nat.le_of_ble_eq_true rfl, Nat.le_of_ble_eq_true rfl⟩) (wr_preV (ci := 1) rfl hK hP hD) rfl rfl hl.1 rfl (lv_room (Nat.le_of_ble_eq_true rfl)) dX0_oneMore_19 ⟨Nat.le_of_ble_eq_true rfl, Nat.le_of_ble_eq_true rfl⟩) hP hD hS hA (fun u_5 H locs eu_5 hP hD hS => ?_)
  have hP : va_P (dC, dI) vwCl [(h0, .inr (1, [.int u_5]))] H := hP
  have hD : va_D A [(h0, .inr (1, [.int u_5]))] := hD
  refine lv_iload hx hb dX0_oneMore_22 (lv_at hl 0 rfl) ?_
  exact W.iret (v := r_2) hx hb hr (fun t ht hW => ⟨⟨r_2, u_5, rfl, ⟨(by subst ey_1; subst er_2; subst eu_3; subst eu_5; simp only [f_X0_oneMore]), (by subst ey_1; subst er_2; subst eu_3; subst eu_5; simp only [f_X0_oneMore])⟩, by rw [ht]; exact hP, va_K.moved hW.alike hK, hD⟩, hS.F ht⟩) hS.2.2 dX0_oneMore_24

/-- what X0_oneLess answers -/
def f_X0_oneLess (f : Int32) (a1 : Int32) (a2 : Int32) : Int32 × Int32 :=
  let y_1 : Int32 := (f_X0_isSet f 1)
  let r_2 : Int32 := (f_X0_difference f a1 a2 1 0).1
  let u_3 : Int32 := (f_X0_difference f a1 a2 1 0).2
  let u_5 : Int32 := (f_X0_put u_3 1 y_1)
  (r_2, u_5)
set_option maxHeartbeats 4000000 in
set_option maxRecDepth 100000 in
theorem p_X0_oneLess (l : Launch) (dC : Nat → ClassId) (dI : Nat → Nat → Nat) (h0 : Nat) (sz : Nat) (f : Int32) (a1 : Int32) (a2 : Int32) : Met l yX0_oneLess wsX0_oneLess ({ frames := 5, cells := 0, slots := 0, locals := 111 }) (va_Pc [.ref h0, .int a1, .int a2] (wr_pre (dC, dI) 1 h0 sz [.int f])) (va_Qi (fun (r : Int32) (u : Int32) => r = (f_X0_oneLess f a1 a2).1 ∧ u = (f_X0_oneLess f a1 a2).2) (wr_at (dC, dI) 1 h0 (fun u : Int32 => [.int u]) (wr_A 1 h0 sz [.int f])) (wr_A 1 h0 sz [.int f])) 0 0 (wr_A 1 h0 sz [.int f]) := by
  refine Met.ofW (cc := cX0_oneLess) (maxL := 5) (ret := (some .int)) (by decide) rfl ?_
  intro p e s m args below meth c s₁ B hml hv
  obtain ⟨rfl, hsz, hP, hK, hD0⟩ := hv
  have hx := B.exec
  have hb := B.bytes
  have hr := B.returns
  have hts := atoms_spec (ws := wsX0_oneLess) B.pre
  have hown : s.vm.findClass RX0 = some m.cls := findClass_of_methodNamed B.named
  have hlocks := B.notSynchronized
  subst hsz
  have hD : va_D (wr_A 1 h0 s.heap.size [.int f]) [(h0, .inr (1, [.int f]))] := hD0.self (sz := s.heap.size)
  generalize hAe : wr_A 1 h0 s.heap.size [.int f] = A at hD ⊢
  have hA : ∀ q : Nat, s.heap.size ≤ q → A q := fun q h => by rw [← hAe]; exact Or.inr h
  have hS : va_S A s.heap s.heap [] := va_S.rf
  have hP : va_P (dC, dI) vwCl [(h0, .inr (1, [.int f]))] s.heap := hP
  have hD : va_D A [(h0, .inr (1, [.int f]))] := hD
  have hl := lv_entry ([.ref h0, .int a1, .int a2]) (n := 5) (Nat.le_of_ble_eq_true rfl)
  rw [lg_entry_eq]
  generalize (lg_sl ([.ref h0, .int a1, .int a2]) ++ List.replicate (5 - (lg_sl ([.ref h0, .int a1, .int a2])).length) Slot.unset).toArray = ls at hl ⊢
  have hl : lv_has ls 5 [(0, .ref h0), (1, .int a1), (2, .int a2)] := hl
  refine lv_aload_n hx hb dX0_oneLess_0 rfl (lv_at hl 0 rfl) ?_
  refine lv_iconst (v := 1) hx hb dX0_oneLess_1 (by decide) ?_
  refine pu_calli (F := (f_X0_isSet f 1)) (va_runV (As := [.int 1]) (rest := []) ⟨hx, hb, hml, hown, hts⟩ (p_X0_isSet l dC dI h0 _ f 1) (cwV 1 hts gX0_oneLess_X0_isSet rfl rfl rfl (by decide +kernel) ⟨Nat.le_of_ble_eq_true rfl, Nat.le_of_ble_eq_true rfl⟩) (pu_preV (ci := 1) rfl hK hP) rfl rfl hl.1 rfl (lv_room (Nat.le_of_ble_eq_true rfl)) dX0_oneLess_2 ⟨Nat.le_of_ble_eq_true rfl, Nat.le_of_ble_eq_true rfl⟩) ?_
  refine lv_topi (fun y_1 ey_1 => ?_)
  refine lv_istore_n (lv' := [(3, .int y_1), (0, .ref h0), (1, .int a1), (2, .int a2)]) hx hb dX0_oneLess_5 rfl hl (by decide) rfl (fun ls hl => ?_)
  refine lv_aload_n hx hb dX0_oneLess_6 rfl (lv_at hl 1 rfl) ?_
  refine lv_iload_n hx hb dX0_oneLess_7 rfl (lv_at hl 2 rfl) ?_
  refine lv_iload_n hx hb dX0_oneLess_8 rfl (lv_at hl 3 rfl) ?_
  refine lv_iconst (v := 1) hx hb dX0_oneLess_9 (by decide) ?_
  refine lv_iconst (v := 0) hx hb dX0_oneLess_10 (by decide) ?_
  refine wr_calli (va_runV (As := [.int a1, .int a2, .int 1, .int 0]) (rest := []) ⟨hx, hb, hml, hown, hts⟩ (p_X0_difference l dC dI h0 _ f a1 a2 1 0) (cwV 4 hts gX0_oneLess_X0_difference rfl rfl rfl (by decide +kernel) ⟨Nat.le_of_ble_eq_true rfl, Nat.le_of_ble_eq_true rfl⟩) (wr_preV (ci := 1) rfl hK hP hD) rfl rfl hl.1 rfl (lv_room (Nat.le_of_ble_eq_true rfl)) dX0_oneLess_11 ⟨Nat.le_of_ble_eq_true rfl, Nat.le_of_ble_eq_true rfl⟩) hP hD hS hA (fun r_2 u_3 H locs hw hP hD hS => ?_)
  obtain ⟨er_2, eu_3⟩ := hw
  have hP : va_P (dC, dI) vwCl [(h0, .inr (1, [.int u_3]))] H := hP
  have hD : va_D A [(h0, .inr (1, [.int u_3]))] := hD
  refine lv_istore (lv' := [(4, .int r_2), (3, .int y_1), (0, .ref h0), (1, .int a1), (2, .int a2)]) hx hb dX0_oneLess_14 hl (by decide) rfl (fun ls hl => ?_)
  refine lv_aload_n hx hb dX0_oneLess_16 rfl (lv_at hl 2 rfl) ?_
  refine lv_iconst (v := 1) hx hb dX0_oneLess_17 (by decide) ?_
  refine lv_iload_n hx hb dX0_oneLess_18 rfl (lv_at hl 1 rfl) ?_
  refine wr_callv (va_runV (As := [.int 1, .int y_1]) (rest := []) ⟨hx, hb, hml, hown, hts⟩ (p_X0_put l dC dI h0 _ u_3 1 y_1) (cwV 2 hts gX0_oneLess_X0_put rfl rfl rfl (by decide +kernel) ⟨Nat.le_of_ble_eq_true rfl, Nat.le_of_ble_eq_true rfl⟩) (wr_preV (ci := 1) rfl hK hP hD) rfl rfl hl.1 rfl (lv_room (Nat.le_of_ble_eq_true rfl)) dX0_oneLess_19 ⟨Nat.le_of_ble_eq_true rfl, Nat.le_of_ble_eq_true rfl⟩) hP hD hS hA (fun u_5 H locs eu_5 hP hD hS => ?_)
  have hP : va_P (dC, dI) vwCl [(h0, .inr (1, [.int u_5]))] H := hP
  have hD : va_D A [(h0, .inr (1, [.int u_5]))] := hD
  refine lv_iload hx hb dX0_oneLess_22 (lv_at hl 0 rfl) ?_
  exact W.iret (v := r_2) hx hb hr (fun t ht hW => ⟨⟨r_2, u_5, rfl, ⟨(by subst ey_1; subst er_2; subst eu_3; subst eu_5; simp only [f_X0_oneLess]), (by subst ey_1; subst er_2; subst eu_3; subst eu_5; simp only [f_X0_oneLess])⟩, by rw [ht]; exact hP, va_K.moved hW.alike hK, hD⟩, hS.F ht⟩) hS.2.2 dX0_oneLess_24

/-- what X0_comesInFromLeft answers -/
def f_X0_comesInFromLeft (f : Int32) (a1 : Int32) (a2 : Int32) (a3 : Int32) : Int32 :=
  if a1 = 1 then
  (a2)
  else
  if a1 = 3 then
  ((f_X0_isSet f 1))
  else
  if a1 = 7 then
  (a3)
  else
  (0)
theorem fb_X0_comesInFromLeft (f : Int32) (a1 : Int32) (a2 : Int32) (a3 : Int32) (hb2 : a2 = 0 ∨ a2 = 1) (hb3 : a3 = 0 ∨ a3 = 1) : f_X0_comesInFromLeft f a1 a2 a3 = 0 ∨ f_X0_comesInFromLeft f a1 a2 a3 = 1 := by
  unfold f_X0_comesInFromLeft
  (try dsimp only)
  repeat (first | exact Or.inl rfl | exact Or.inr rfl | assumption | apply fb_X0_isSet | split)
set_option maxHeartbeats 4000000 in
set_option maxRecDepth 100000 in
theorem p_X0_comesInFromLeft (l : Launch) (dC : Nat → ClassId) (dI : Nat → Nat → Nat) (h0 : Nat) (HH : Heap) (f : Int32) (a1 : Int32) (a2 : Int32) (a3 : Int32) (hb2 : a2 = 0 ∨ a2 = 1) (hb3 : a3 = 0 ∨ a3 = 1) : Met l yX0_comesInFromLeft wsX0_comesInFromLeft ({ frames := 1, cells := 0, slots := 0, locals := 21 }) (va_Pc [.ref h0, .int a1, .int a2, .int a3] (pu_pre (dC, dI) 1 h0 HH [.int f])) (va_Qi (fun (r : Int32) (_ : Unit) => r = f_X0_comesInFromLeft f a1 a2 a3) (fun _ t => t.heap = HH) (fun _ => False)) 0 0 (fun _ => False) := by
  refine Met.ofW (cc := cX0_comesInFromLeft) (maxL := 4) (ret := (some .boolean)) (by decide) rfl ?_
  intro p e s m args below meth c s₁ B hml hv
  obtain ⟨rfl, hsz, hP, hK⟩ := hv
  have hx := B.exec
  have hb := B.bytes
  have hr := B.returns
  have hts := atoms_spec (ws := wsX0_comesInFromLeft) B.pre
  have hown : s.vm.findClass RX0 = some m.cls := findClass_of_methodNamed B.named
  have hlocks := B.notSynchronized
  subst hsz
  have hl := lv_entry ([.ref h0, .int a1, .int a2, .int a3]) (n := 4) (Nat.le_of_ble_eq_true rfl)
  rw [lg_entry_eq]
  generalize (lg_sl ([.ref h0, .int a1, .int a2, .int a3]) ++ List.replicate (4 - (lg_sl ([.ref h0, .int a1, .int a2, .int a3])).length) Slot.unset).toArray = ls at hl ⊢
  have hl : lv_has ls 4 [(0, .ref h0), (1, .int a1), (2, .int a2), (3, .int a3)] := hl
  refine lv_iload_n hx hb dX0_comesInFromLeft_0 rfl (lv_at hl 1 rfl) ?_
  by_cases c_1 : a1 = 1
  · refine lv_lookup (off := 35) (tgt := 36) hx hb dX0_comesInFromLeft_1 (by decide) (by rw [c_1]; decide) (by decide) ?_
    refine lv_iload_n hx hb dX0_comesInFromLeft_36 rfl (lv_at hl 2 rfl) ?_
    exact W.zret (v := a2) hx hb hr (nb_of hb2) (fun t ht hW => ⟨⟨a2, (), rfl, (by simp only [f_X0_comesInFromLeft, if_pos c_1]), ht⟩, pu_F ht⟩) (fun q h => nomatch h) dX0_comesInFromLeft_37
  by_cases c_2 : a1 = 3
  · refine lv_lookup (off := 37) (tgt := 38) hx hb dX0_comesInFromLeft_1 (by decide) (by rw [c_2]; decide) (by decide) ?_
    refine lv_aload_n hx hb dX0_comesInFromLeft_38 rfl (lv_at hl 0 rfl) ?_
    refine lv_iconst (v := 1) hx hb dX0_comesInFromLeft_39 (by decide) ?_
    refine pu_calli (F := (f_X0_isSet f 1)) (va_runV (As := [.int 1]) (rest := []) ⟨hx, hb, hml, hown, hts⟩ (p_X0_isSet l dC dI h0 _ f 1) (cwV 1 hts gX0_comesInFromLeft_X0_isSet rfl rfl rfl (by decide +kernel) ⟨Nat.le_of_ble_eq_true rfl, Nat.le_of_ble_eq_true rfl⟩) (pu_preV (ci := 1) rfl hK hP) rfl rfl hl.1 rfl (lv_room (Nat.le_of_ble_eq_true rfl)) dX0_comesInFromLeft_40 ⟨Nat.le_of_ble_eq_true rfl, Nat.le_of_ble_eq_true rfl⟩) ?_
    exact W.zret (v := (f_X0_isSet f 1)) hx hb hr (nb_of (by apply fb_X0_isSet <;> assumption)) (fun t ht hW => ⟨⟨(f_X0_isSet f 1), (), rfl, (by simp only [f_X0_comesInFromLeft, if_neg c_1, if_pos c_2]), ht⟩, pu_F ht⟩) (fun q h => nomatch h) dX0_comesInFromLeft_43
  by_cases c_3 : a1 = 7
  · refine lv_lookup (off := 43) (tgt := 44) hx hb dX0_comesInFromLeft_1 (by decide) (by rw [c_3]; decide) (by decide) ?_
    refine lv_iload_n hx hb dX0_comesInFromLeft_44 rfl (lv_at hl 3 rfl) ?_
    exact W.zret (v := a3) hx hb hr (nb_of hb3) (fun t ht hW => ⟨⟨a3, (), rfl, (by simp only [f_X0_comesInFromLeft, if_neg c_1, if_neg c_2, if_pos c_3]), ht⟩, pu_F ht⟩) (fun q h => nomatch h) dX0_comesInFromLeft_45
  refine lv_lookup (off := 45) (tgt := 46) hx hb dX0_comesInFromLeft_1 (by decide) (lk_out c_1 c_2 c_3) (by decide) ?_
  refine lv_iconst (v := 0) hx hb dX0_comesInFromLeft_46 (by decide) ?_
  exact W.zret (v := 0) hx hb hr narrow_b0 (fun t ht hW => ⟨⟨0, (), rfl, (by simp only [f_X0_comesInFromLeft, if_neg c_1, if_neg c_2, if_neg c_3]), ht⟩, pu_F ht⟩) (fun q h => nomatch h) dX0_comesInFromLeft_47

/-- what X0_leftByOne answers -/
def f_X0_leftByOne (f : Int32) (a1 : Int32) (a2 : Int32) (a3 : Int32) : Int32 × Int32 :=
  let y_1 : Int32 := (f_X0_hasHighestBit a2 a3)
  let y_2 : Int32 := (if a1 = 0 then (if y_1 = 0 then (if a1 = 2 then (if (f_X0_isSet f 1) = 0 then 0 else 1) else 0) else 1) else (if a1 = 2 then (if (f_X0_isSet f 1) = 0 then 0 else 1) else 0))
  let y_9 : Int32 := (if y_2 = 0 then 0 else 1)
  let y_11 : Int32 := ((f_X0_operand a2 (a3 <<< (1 &&& 31))) ||| y_9)
  let u_13 : Int32 := (f_X0_put f 1 y_1)
  let y_14 : Int32 := (if y_1 = (f_X0_hasHighestBit a2 y_11) then 0 else 1)
  let u_17 : Int32 := (f_X0_put u_13 2048 y_14)
  (y_11, u_17)
set_option maxHeartbeats 4000000 in
set_option maxRecDepth 100000 in
theorem p_X0_leftByOne (l : Launch) (dC : Nat → ClassId) (dI : Nat → Nat → Nat) (h0 : Nat) (sz : Nat) (f : Int32) (a1 : Int32) (a2 : Int32) (a3 : Int32) : Met l yX0_leftByOne wsX0_leftByOne ({ frames := 2, cells := 0, slots := 0, locals := 41 }) (va_Pc [.ref h0, .int a1, .int a2, .int a3] (wr_pre (dC, dI) 1 h0 sz [.int f])) (va_Qi (fun (r : Int32) (u : Int32) => r = (f_X0_leftByOne f a1 a2 a3).1 ∧ u = (f_X0_leftByOne f a1 a2 a3).2) (wr_at (dC, dI) 1 h0 (fun u : Int32 => [.int u]) (wr_A 1 h0 sz [.int f])) (wr_A 1 h0 sz [.int f])) 0 0 (wr_A 1 h0 sz [.int f]) := by
  refine Met.ofW (cc := cX0_leftByOne) (maxL := 7) (ret := (some .int)) (by decide) rfl ?_
  intro p e s m args below meth c s₁ B hml hv
  obtain ⟨rfl, hsz, hP, hK, hD0⟩ := hv
  have hx := B.exec
  have hb := B.bytes
  have hr := B.returns
  have hts := atoms_spec (ws := wsX0_leftByOne) B.pre
  have hown : s.vm.findClass RX0 = some m.cls := findClass_of_methodNamed B.named
  have hlocks := B.notSynchronized
  subst hsz
  have hD : va_D (wr_A 1 h0 s.heap.size [.int f]) [(h0, .inr (1, [.int f]))] := hD0.self (sz := s.heap.size)
  generalize hAe : wr_A 1 h0 s.heap.size [.int f] = A at hD ⊢
  have hA : ∀ q : Nat, s.heap.size ≤ q → A q := fun q h => by rw [← hAe]; exact Or.inr h
  have hS : va_S A s.heap s.heap [] := va_S.rf
  have hP : va_P (dC, dI) vwCl [(h0, .inr (1, [.int f]))] s.heap := hP
  have hD : va_D A [(h0, .inr (1, [.int f]))] := hD
  have hl := lv_entry ([.ref h0, .int a1, .int a2, .int a3]) (n := 7) (Nat.le_of_ble_eq_true rfl)
  rw [lg_entry_eq]
  generalize (lg_sl ([.ref h0, .int a1, .int a2, .int a3]) ++ List.replicate (7 - (lg_sl ([.ref h0, .int a1, .int a2, .int a3])).length) Slot.unset).toArray = ls at hl ⊢
  have hl : lv_has ls 7 [(0, .ref h0), (1, .int a1), (2, .int a2), (3, .int a3)] := hl
  refine lv_iload_n hx hb dX0_leftByOne_0 rfl (lv_at hl 2 rfl) ?_
  refine lv_iload_n hx hb dX0_leftByOne_1 rfl (lv_at hl 3 rfl) ?_
  refine pu_calli (F := (f_X0_hasHighestBit a2 a3)) (va_runS (As := [.int a2, .int a3]) (rest := []) ⟨hx, hb, hml, hown, hts⟩ (p_X0_hasHighestBit l _ a2 a3) (va_cwS 2 hts gX0_leftByOne_X0_hasHighestBit rfl rfl rfl (by decide +kernel) ⟨Nat.le_of_ble_eq_true rfl, Nat.le_of_ble_eq_true rfl⟩) pu_preS rfl rfl hl.1 rfl (lv_room (Nat.le_of_ble_eq_true rfl)) dX0_leftByOne_2 ⟨Nat.le_of_ble_eq_true rfl, Nat.le_of_ble_eq_true rfl⟩) ?_
  refine lv_topi (fun y_1 ey_1 => ?_)
  refine lv_istore (lv' := [(4, .int y_1), (0, .ref h0), (1, .int a1), (2, .int a2), (3, .int a3)]) hx hb dX0_leftByOne_5 hl (by decide) rfl (fun ls hl => ?_)
  refine lv_iload_n hx hb dX0_leftByOne_7 rfl (lv_at hl 2 rfl) ?_
  refine rg (J := 34) (st := []) (if a1 = 0 then (if y_1 = 0 then (if a1 = 2 then (if (f_X0_isSet f 1) = 0 then 0 else 1) else 0) else 1) else (if a1 = 2 then (if (f_X0_isSet f 1) = 0 then 0 else 1) else 0)) (fun k => ?_) (fun y_2 ey_2 => ?_)
  · refine lv_if_ne (tgt := 16) hx hb dX0_leftByOne_8 (by decide) (fun c_3 => ?_) (fun c_3 => ?_)
    · refine lv_iload_n hx hb dX0_leftByOne_16 rfl (lv_at hl 2 rfl) ?_
      refine lv_iconst (v := 2) hx hb dX0_leftByOne_17 (by decide) ?_
      refine lv_icmp_ne (tgt := 33) hx hb dX0_leftByOne_18 (by decide) (fun c_4 => ?_) (fun c_4 => ?_)
      · refine lv_iconst (v := 0) hx hb dX0_leftByOne_33 (by decide) ?_
        exact rg_e k (by first | rw [if_neg c_3, if_neg c_4] | simp only [if_neg c_3, if_neg c_4])
      · refine lv_aload_n hx hb dX0_leftByOne_21 rfl (lv_at hl 1 rfl) ?_
        refine lv_iconst (v := 1) hx hb dX0_leftByOne_22 (by decide) ?_
        refine pu_calli (F := (f_X0_isSet f 1)) (va_runV (As := [.int 1]) (rest := []) ⟨hx, hb, hml, hown, hts⟩ (p_X0_isSet l dC dI h0 _ f 1) (cwV 1 hts gX0_leftByOne_X0_isSet rfl rfl rfl (by decide +kernel) ⟨Nat.le_of_ble_eq_true rfl, Nat.le_of_ble_eq_true rfl⟩) (pu_preV (ci := 1) rfl hK hP) rfl rfl hl.1 rfl (lv_room (Nat.le_of_ble_eq_true rfl)) dX0_leftByOne_23 ⟨Nat.le_of_ble_eq_true rfl, Nat.le_of_ble_eq_true rfl⟩) ?_
        refine lv_if_eq (tgt := 33) hx hb dX0_leftByOne_26 (by decide) (fun c_5 => ?_) (fun c_5 => ?_)
        · refine lv_iconst (v := 0) hx hb dX0_leftByOne_33 (by decide) ?_
          exact rg_e k (by first | rw [if_neg c_3, if_pos c_4, if_pos c_5] | simp only [if_neg c_3, if_pos c_4, if_pos c_5])
        · refine lv_iconst (v := 1) hx hb dX0_leftByOne_29 (by decide) ?_
          refine lv_goto (tgt := 34) hx hb dX0_leftByOne_30 (by decide) ?_
          exact rg_e k (by first | rw [if_neg c_3, if_pos c_4, if_neg c_5] | simp only [if_neg c_3, if_pos c_4, if_neg c_5])
    · refine lv_iload hx hb dX0_leftByOne_11 (lv_at hl 0 rfl) ?_
      refine lv_if_ne (tgt := 29) hx hb dX0_leftByOne_13 (by decide) (fun c_6 => ?_) (fun c_6 => ?_)
      · refine lv_iconst (v := 1) hx hb dX0_leftByOne_29 (by decide) ?_
        refine lv_goto (tgt := 34) hx hb dX0_leftByOne_30 (by decide) ?_
        exact rg_e k (by first | rw [if_pos c_3, if_neg c_6] | simp only [if_pos c_3, if_neg c_6])
      · refine lv_iload_n hx hb dX0_leftByOne_16 rfl (lv_at hl 2 rfl) ?_
        refine lv_iconst (v := 2) hx hb dX0_leftByOne_17 (by decide) ?_
        refine lv_icmp_ne (tgt := 33) hx hb dX0_leftByOne_18 (by decide) (fun c_7 => ?_) (fun c_7 => ?_)
        · refine lv_iconst (v := 0) hx hb dX0_leftByOne_33 (by decide) ?_
          exact rg_e k (by first | rw [if_pos c_3, if_pos c_6, if_neg c_7] | simp only [if_pos c_3, if_pos c_6, if_neg c_7])
        · refine lv_aload_n hx hb dX0_leftByOne_21 rfl (lv_at hl 1 rfl) ?_
          refine lv_iconst (v := 1) hx hb dX0_leftByOne_22 (by decide) ?_
          refine pu_calli (F := (f_X0_isSet f 1)) (va_runV (As := [.int 1]) (rest := []) ⟨hx, hb, hml, hown, hts⟩ (p_X0_isSet l dC dI h0 _ f 1) (cwV 1 hts gX0_leftByOne_X0_isSet rfl rfl rfl (by decide +kernel) ⟨Nat.le_of_ble_eq_true rfl, Nat.le_of_ble_eq_true rfl⟩) (pu_preV (ci := 1) rfl hK hP) rfl rfl hl.1 rfl (lv_room (Nat.le_of_ble_eq_true rfl)) dX0_leftByOne_23 ⟨Nat.le_of_ble_eq_true rfl, Nat.le_of_ble_eq_true rfl⟩) ?_
          refine lv_if_eq (tgt := 33) hx hb dX0_leftByOne_26 (by decide) (fun c_8 => ?_) (fun c_8 => ?_)
          · refine lv_iconst (v := 0) hx hb dX0_leftByOne_33 (by decide) ?_
            exact rg_e k (by first | rw [if_pos c_3, if_pos c_6, if_pos c_7, if_pos c_8] | simp only [if_pos c_3, if_pos c_6, if_pos c_7, if_pos c_8])
          · refine lv_iconst (v := 1) hx hb dX0_leftByOne_29 (by decide) ?_
            refine lv_goto (tgt := 34) hx hb dX0_leftByOne_30 (by decide) ?_
            exact rg_e k (by first | rw [if_pos c_3, if_pos c_6, if_pos c_7, if_neg c_8] | simp only [if_pos c_3, if_pos c_6, if_pos c_7, if_neg c_8])
  refine lv_istore (lv' := [(5, .int y_2), (4, .int y_1), (0, .ref h0), (1, .int a1), (2, .int a2), (3, .int a3)]) hx hb dX0_leftByOne_34 hl (by decide) rfl (fun ls hl => ?_)
  refine lv_iload_n hx hb dX0_leftByOne_36 rfl (lv_at hl 4 rfl) ?_
  refine lv_iload_n hx hb dX0_leftByOne_37 rfl (lv_at hl 5 rfl) ?_
  refine lv_iconst (v := 1) hx hb dX0_leftByOne_38 (by decide) ?_
  refine lv_ishl hx hb dX0_leftByOne_39 ?_
  refine pu_calli (F := (f_X0_operand a2 (a3 <<< (1 &&& 31)))) (va_runS (As := [.int a2, .int (a3 <<< (1 &&& 31))]) (rest := []) ⟨hx, hb, hml, hown, hts⟩ (p_X0_operand l _ a2 (a3 <<< (1 &&& 31))) (va_cwS 2 hts gX0_leftByOne_X0_operand rfl rfl rfl (by decide +kernel) ⟨Nat.le_of_ble_eq_true rfl, Nat.le_of_ble_eq_true rfl⟩) pu_preS rfl rfl hl.1 rfl (lv_room (Nat.le_of_ble_eq_true rfl)) dX0_leftByOne_40 ⟨Nat.le_of_ble_eq_true rfl, Nat.le_of_ble_eq_true rfl⟩) ?_
  refine lv_iload hx hb dX0_leftByOne_43 (lv_at hl 0 rfl) ?_
  refine rg (J := 53) (st := [.int (f_X0_operand a2 (a3 <<< (1 &&& 31)))]) (if y_2 = 0 then 0 else 1) (fun k => ?_) (fun y_9 ey_9 => ?_)
  · refine lv_if_eq (tgt := 52) hx hb dX0_leftByOne_45 (by decide) (fun c_10 => ?_) (fun c_10 => ?_)
    · refine lv_iconst (v := 0) hx hb dX0_leftByOne_52 (by decide) ?_
      exact rg_e k (by first | rw [if_pos c_10] | simp only [if_pos c_10])
    · refine lv_iconst (v := 1) hx hb dX0_leftByOne_48 (by decide) ?_
      refine lv_goto (tgt := 53) hx hb dX0_leftByOne_49 (by decide) ?_
      exact rg_e k (by first | rw [if_neg c_10] | simp only [if_neg c_10])
  refine lv_ior hx hb dX0_leftByOne_53 ?_
  refine lv_topi (fun y_11 ey_11 => ?_)
  refine lv_istore (lv' := [(6, .int y_11), (5, .int y_2), (4, .int y_1), (0, .ref h0), (1, .int a1), (2, .int a2), (3, .int a3)]) hx hb dX0_leftByOne_54 hl (by decide) rfl (fun ls hl => ?_)
  refine lv_aload_n hx hb dX0_leftByOne_56 rfl (lv_at hl 3 rfl) ?_
  refine lv_iconst (v := 1) hx hb dX0_leftByOne_57 (by decide) ?_
  refine lv_iload hx hb dX0_leftByOne_58 (lv_at hl 2 rfl) ?_
  refine wr_callv (va_runV (As := [.int 1, .int y_1]) (rest := []) ⟨hx, hb, hml, hown, hts⟩ (p_X0_put l dC dI h0 _ f 1 y_1) (cwV 2 hts gX0_leftByOne_X0_put rfl rfl rfl (by decide +kernel) ⟨Nat.le_of_ble_eq_true rfl, Nat.le_of_ble_eq_true rfl⟩) (wr_preV (ci := 1) rfl hK hP hD) rfl rfl hl.1 rfl (lv_room (Nat.le_of_ble_eq_true rfl)) dX0_leftByOne_60 ⟨Nat.le_of_ble_eq_true rfl, Nat.le_of_ble_eq_true rfl⟩) hP hD hS hA (fun u_13 H locs eu_13 hP hD hS => ?_)
  have hP : va_P (dC, dI) vwCl [(h0, .inr (1, [.int u_13]))] H := hP
  have hD : va_D A [(h0, .inr (1, [.int u_13]))] := hD
  refine lv_aload_n hx hb dX0_leftByOne_63 rfl (lv_at hl 3 rfl) ?_
  refine lv_sipush (v := 2048) hx hb dX0_leftByOne_64 (by decide +kernel) ?_
  refine lv_iload hx hb dX0_leftByOne_67 (lv_at hl 2 rfl) ?_
  refine lv_iload_n hx hb dX0_leftByOne_69 rfl (lv_at hl 5 rfl) ?_
  refine lv_iload hx hb dX0_leftByOne_70 (lv_at hl 0 rfl) ?_
  refine pu_calli (F := (f_X0_hasHighestBit a2 y_11)) (va_runS (As := [.int a2, .int y_11]) (rest := [.int y_1, .int 2048, .ref h0]) ⟨hx, hb, hml, hown, hts⟩ (p_X0_hasHighestBit l _ a2 y_11) (va_cwS 2 hts gX0_leftByOne_X0_hasHighestBit rfl rfl rfl (by decide +kernel) ⟨Nat.le_of_ble_eq_true rfl, Nat.le_of_ble_eq_true rfl⟩) pu_preS rfl rfl hl.1 rfl (lv_room (Nat.le_of_ble_eq_true rfl)) dX0_leftByOne_72 ⟨Nat.le_of_ble_eq_true rfl, Nat.le_of_ble_eq_true rfl⟩) ?_
  refine rg (J := 83) (st := [.int 2048, .ref h0]) (if y_1 = (f_X0_hasHighestBit a2 y_11) then 0 else 1) (fun k => ?_) (fun y_14 ey_14 => ?_)
  · refine lv_icmp_eq (tgt := 82) hx hb dX0_leftByOne_75 (by decide) (fun c_15 => ?_) (fun c_15 => ?_)
    · refine lv_iconst (v := 0) hx hb dX0_leftByOne_82 (by decide) ?_
      exact rg_e k (by first | rw [if_pos c_15] | simp only [if_pos c_15])
    · refine lv_iconst (v := 1) hx hb dX0_leftByOne_78 (by decide) ?_
      refine lv_goto (tgt := 83) hx hb dX0_leftByOne_79 (by decide) ?_
      exact rg_e k (by first | rw [if_neg c_15] | simp only [if_neg c_15])
  refine wr_callv (va_runV (As := [.int 2048, .int y_14]) (rest := []) ⟨hx, hb, hml, hown, hts⟩ (p_X0_put l dC dI h0 _ u_13 2048 y_14) (cwV 2 hts gX0_leftByOne_X0_put rfl rfl rfl (by decide +kernel) ⟨Nat.le_of_ble_eq_true rfl, Nat.le_of_ble_eq_true rfl⟩) (wr_preV (ci := 1) rfl hK hP hD) rfl rfl hl.1 rfl (lv_room (Nat.le_of_ble_eq_true rfl)) dX0_leftByOne_83 ⟨Nat.le_of_ble_eq_true rfl, Nat.le_of_ble_eq_true rfl⟩) hP hD hS hA (fun u_17 H locs eu_17 hP hD hS => ?_)
  have hP : va_P (dC, dI) vwCl [(h0, .inr (1, [.int u_17]))] H := hP
  have hD : va_D A [(h0, .inr (1, [.int u_17]))] := hD
  refine lv_iload hx hb dX0_leftByOne_86 (lv_at hl 0 rfl) ?_
  exact W.iret (v := y_11) hx hb hr (fun t ht hW => ⟨⟨y_11, u_17, rfl, ⟨(by subst ey_1; subst ey_2; subst ey_9; subst ey_11; subst eu_13; subst ey_14; subst eu_17; simp only [f_X0_leftByOne]), (by subst ey_1; subst ey_2; subst ey_9; subst ey_11; subst eu_13; subst ey_14; subst eu_17; simp only [f_X0_leftByOne])⟩, by rw [ht]; exact hP, va_K.moved hW.alike hK, hD⟩, hS.F ht⟩) hS.2.2 dX0_leftByOne_88

/-- what X0_rightByOne answers -/
def f_X0_rightByOne (f : Int32) (a1 : Int32) (a2 : Int32) (a3 : Int32) : Int32 × Int32 :=
  let y_1 : Int32 := (if (a3 &&& 1) = 0 then 0 else 1)
  let y_3 : Int32 := (f_X0_hasHighestBit a2 a3)
  let y_4 : Int32 := (f_X0_comesInFromLeft f a1 y_1 y_3)
  let u_6 : Int32 := (f_X0_put f 1 y_1)
  let y_7 : Int32 := (if y_4 = y_3 then 0 else 1)
  let u_10 : Int32 := (f_X0_put u_6 2048 y_7)
  let y_11 : Int32 := (if y_4 = 0 then 0 else (f_X0_highestBit a2))
  (((a3 >>> (1 &&& 31)) ||| y_11), u_10)
set_option maxHeartbeats 4000000 in
set_option maxRecDepth 100000 in
theorem p_X0_rightByOne (l : Launch) (dC : Nat → ClassId) (dI : Nat → Nat → Nat) (h0 : Nat) (sz : Nat) (f : Int32) (a1 : Int32) (a2 : Int32) (a3 : Int32) : Met l yX0_rightByOne wsX0_rightByOne ({ frames := 2, cells := 0, slots := 0, locals := 44 }) (va_Pc [.ref h0, .int a1, .int a2, .int a3] (wr_pre (dC, dI) 1 h0 sz [.int f])) (va_Qi (fun (r : Int32) (u : Int32) => r = (f_X0_rightByOne f a1 a2 a3).1 ∧ u = (f_X0_rightByOne f a1 a2 a3).2) (wr_at (dC, dI) 1 h0 (fun u : Int32 => [.int u]) (wr_A 1 h0 sz [.int f])) (wr_A 1 h0 sz [.int f])) 0 0 (wr_A 1 h0 sz [.int f]) := by
  refine Met.ofW (cc := cX0_rightByOne) (maxL := 7) (ret := (some .int)) (by decide) rfl ?_
  intro p e s m args below meth c s₁ B hml hv
  obtain ⟨rfl, hsz, hP, hK, hD0⟩ := hv
  have hx := B.exec
  have hb := B.bytes
  have hr := B.returns
  have hts := atoms_spec (ws := wsX0_rightByOne) B.pre
  have hown : s.vm.findClass RX0 = some m.cls := findClass_of_methodNamed B.named
  have hlocks := B.notSynchronized
  subst hsz
  have hD : va_D (wr_A 1 h0 s.heap.size [.int f]) [(h0, .inr (1, [.int f]))] := hD0.self (sz := s.heap.size)
  generalize hAe : wr_A 1 h0 s.heap.size [.int f] = A at hD ⊢
  have hA : ∀ q : Nat, s.heap.size ≤ q → A q := fun q h => by rw [← hAe]; exact Or.inr h
  have hS : va_S A s.heap s.heap [] := va_S.rf
  have hP : va_P (dC, dI) vwCl [(h0, .inr (1, [.int f]))] s.heap := hP
  have hD : va_D A [(h0, .inr (1, [.int f]))] := hD
  have hl := lv_entry ([.ref h0, .int a1, .int a2, .int a3]) (n := 7) (Nat.le_of_ble_eq_true rfl)
  rw [lg_entry_eq]
  generalize (lg_sl ([.ref h0, .int a1, .int a2, .int a3]) ++ List.replicate (7 - (lg_sl ([.ref h0, .int a1, .int a2, .int a3])).length) Slot.unset).toArray = ls at hl ⊢
  have hl : lv_has ls 7 [(0, .ref h0), (1, .int a1), (2, .int a2), (3, .int a3)] := hl
  refine lv_iload_n hx hb dX0_rightByOne_0 rfl (lv_at hl 3 rfl) ?_
  refine lv_iconst (v := 1) hx hb dX0_rightByOne_1 (by decide) ?_
  refine lv_iand hx hb dX0_rightByOne_2 ?_
  refine rg (J := 11) (st := []) (if (a3 &&& 1) = 0 then 0 else 1) (fun k => ?_) (fun y_1 ey_1 => ?_)
  · refine lv_if_eq (tgt := 10) hx hb dX0_rightByOne_3 (by decide) (fun c_2 => ?_) (fun c_2 => ?_)
    · refine lv_iconst (v := 0) hx hb dX0_rightByOne_10 (by decide) ?_
      exact rg_e k (by first | rw [if_pos c_2] | simp only [if_pos c_2])
    · refine lv_iconst (v := 1) hx hb dX0_rightByOne_6 (by decide) ?_
      refine lv_goto (tgt := 11) hx hb dX0_rightByOne_7 (by decide) ?_
      exact rg_e k (by first | rw [if_neg c_2] | simp only [if_neg c_2])
  refine lv_istore (lv' := [(4, .int y_1), (0, .ref h0), (1, .int a1), (2, .int a2), (3, .int a3)]) hx hb dX0_rightByOne_11 hl (by decide) rfl (fun ls hl => ?_)
  refine lv_iload_n hx hb dX0_rightByOne_13 rfl (lv_at hl 3 rfl) ?_
  refine lv_iload_n hx hb dX0_rightByOne_14 rfl (lv_at hl 4 rfl) ?_
  refine pu_calli (F := (f_X0_hasHighestBit a2 a3)) (va_runS (As := [.int a2, .int a3]) (rest := []) ⟨hx, hb, hml, hown, hts⟩ (p_X0_hasHighestBit l _ a2 a3) (va_cwS 2 hts gX0_rightByOne_X0_hasHighestBit rfl rfl rfl (by decide +kernel) ⟨Nat.le_of_ble_eq_true rfl, Nat.le_of_ble_eq_true rfl⟩) pu_preS rfl rfl hl.1 rfl (lv_room (Nat.le_of_ble_eq_true rfl)) dX0_rightByOne_15 ⟨Nat.le_of_ble_eq_true rfl, Nat.le_of_ble_eq_true rfl⟩) ?_
  refine lv_topi (fun y_3 ey_3 => ?_)
  refine lv_istore (lv' := [(5, .int y_3), (4, .int y_1), (0, .ref h0), (1, .int a1), (2, .int a2), (3, .int a3)]) hx hb dX0_rightByOne_18 hl (by decide) rfl (fun ls hl => ?_)
  refine lv_aload_n hx hb dX0_rightByOne_20 rfl (lv_at hl 2 rfl) ?_
  refine lv_iload_n hx hb dX0_rightByOne_21 rfl (lv_at hl 3 rfl) ?_
  refine lv_iload hx hb dX0_rightByOne_22 (lv_at hl 1 rfl) ?_
  refine lv_iload hx hb dX0_rightByOne_24 (lv_at hl 0 rfl) ?_
  refine pu_calli (F := (f_X0_comesInFromLeft f a1 y_1 y_3)) (va_runV (As := [.int a1, .int y_1, .int y_3]) (rest := []) ⟨hx, hb, hml, hown, hts⟩ (p_X0_comesInFromLeft l dC dI h0 _ f a1 y_1 y_3 (by rw [ey_1]; repeat (first | exact Or.inl rfl | exact Or.inr rfl | apply fb_X0_isSet | apply fb_X0_hasHighestBit | split)) (by rw [ey_3]; repeat (first | exact Or.inl rfl | exact Or.inr rfl | apply fb_X0_isSet | apply fb_X0_hasHighestBit | split))) (cwV 3 hts gX0_rightByOne_X0_comesInFromLeft rfl rfl rfl (by decide +kernel) ⟨Nat.le_of_ble_eq_true rfl, Nat.le_of_ble_eq_true rfl⟩) (pu_preV (ci := 1) rfl hK hP) rfl rfl hl.1 rfl (lv_room (Nat.le_of_ble_eq_true rfl)) dX0_rightByOne_26 ⟨Nat.le_of_ble_eq_true rfl, Nat.le_of_ble_eq_true rfl⟩) ?_
  refine lv_topi (fun y_4 ey_4 => ?_)
  refine lv_istore (lv' := [(6, .int y_4), (5, .int y_3), (4, .int y_1), (0, .ref h0), (1, .int a1), (2, .int a2), (3, .int a3)]) hx hb dX0_rightByOne_29 hl (by decide) rfl (fun ls hl => ?_)
  refine lv_aload_n hx hb dX0_rightByOne_31 rfl (lv_at hl 3 rfl) ?_
  refine lv_iconst (v := 1) hx hb dX0_rightByOne_32 (by decide) ?_
  refine lv_iload hx hb dX0_rightByOne_33 (lv_at hl 2 rfl) ?_
  refine wr_callv (va_runV (As := [.int 1, .int y_1]) (rest := []) ⟨hx, hb, hml, hown, hts⟩ (p_X0_put l dC dI h0 _ f 1 y_1) (cwV 2 hts gX0_rightByOne_X0_put rfl rfl rfl (by decide +kernel) ⟨Nat.le_of_ble_eq_true rfl, Nat.le_of_ble_eq_true rfl⟩) (wr_preV (ci := 1) rfl hK hP hD) rfl rfl hl.1 rfl (lv_room (Nat.le_of_ble_eq_true rfl)) dX0_rightByOne_35 ⟨Nat.le_of_ble_eq_true rfl, Nat.le_of_ble_eq_true rfl⟩) hP hD hS hA (fun u_6 H locs eu_6 hP hD hS => ?_)
  have hP : va_P (dC, dI) vwCl [(h0, .inr (1, [.int u_6]))] H := hP
  have hD : va_D A [(h0, .inr (1, [.int u_6]))] := hD
  refine lv_aload_n hx hb dX0_rightByOne_38 rfl (lv_at hl 3 rfl) ?_
  refine lv_sipush (v := 2048) hx hb dX0_rightByOne_39 (by decide +kernel) ?_
  refine lv_iload hx hb dX0_rightByOne_42 (lv_at hl 0 rfl) ?_
  refine lv_iload hx hb dX0_rightByOne_44 (lv_at hl 1 rfl) ?_
  refine rg (J := 54) (st := [.int 2048, .ref h0]) (if y_4 = y_3 then 0 else 1) (fun k => ?_) (fun y_7 ey_7 => ?_)
  · refine lv_icmp_eq (tgt := 53) hx hb dX0_rightByOne_46 (by decide) (fun c_8 => ?_) (fun c_8 => ?_)
    · refine lv_iconst (v := 0) hx hb dX0_rightByOne_53 (by decide) ?_
      exact rg_e k (by first | rw [if_pos c_8] | simp only [if_pos c_8])
    · refine lv_iconst (v := 1) hx hb dX0_rightByOne_49 (by decide) ?_
      refine lv_goto (tgt := 54) hx hb dX0_rightByOne_50 (by decide) ?_
      exact rg_e k (by first | rw [if_neg c_8] | simp only [if_neg c_8])
  refine wr_callv (va_runV (As := [.int 2048, .int y_7]) (rest := []) ⟨hx, hb, hml, hown, hts⟩ (p_X0_put l dC dI h0 _ u_6 2048 y_7) (cwV 2 hts gX0_rightByOne_X0_put rfl rfl rfl (by decide +kernel) ⟨Nat.le_of_ble_eq_true rfl, Nat.le_of_ble_eq_true rfl⟩) (wr_preV (ci := 1) rfl hK hP hD) rfl rfl hl.1 rfl (lv_room (Nat.le_of_ble_eq_true rfl)) dX0_rightByOne_54 ⟨Nat.le_of_ble_eq_true rfl, Nat.le_of_ble_eq_true rfl⟩) hP hD hS hA (fun u_10 H locs eu_10 hP hD hS => ?_)
  have hP : va_P (dC, dI) vwCl [(h0, .inr (1, [.int u_10]))] H := hP
  have hD : va_D A [(h0, .inr (1, [.int u_10]))] := hD
  refine lv_iload_n hx hb dX0_rightByOne_57 rfl (lv_at hl 6 rfl) ?_
  refine lv_iconst (v := 1) hx hb dX0_rightByOne_58 (by decide) ?_
  refine lv_ishr hx hb dX0_rightByOne_59 ?_
  refine lv_iload hx hb dX0_rightByOne_60 (lv_at hl 0 rfl) ?_
  refine rg (J := 73) (st := [.int (a3 >>> (1 &&& 31))]) (if y_4 = 0 then 0 else (f_X0_highestBit a2)) (fun k => ?_) (fun y_11 ey_11 => ?_)
  · refine lv_if_eq (tgt := 72) hx hb dX0_rightByOne_62 (by decide) (fun c_12 => ?_) (fun c_12 => ?_)
    · refine lv_iconst (v := 0) hx hb dX0_rightByOne_72 (by decide) ?_
      exact rg_e k (by first | rw [if_pos c_12] | simp only [if_pos c_12])
    · refine lv_iload_n hx hb dX0_rightByOne_65 rfl (lv_at hl 5 rfl) ?_
      refine pu_calli (F := (f_X0_highestBit a2)) (va_runS (As := [.int a2]) (rest := [.int (a3 >>> (1 &&& 31))]) ⟨hx, hb, hml, hown, hts⟩ (p_X0_highestBit l _ a2) (va_cwS 1 hts gX0_rightByOne_X0_highestBit rfl rfl rfl (by decide +kernel) ⟨Nat.le_of_ble_eq_true rfl, Nat.le_of_ble_eq_true rfl⟩) pu_preS rfl rfl hl.1 rfl (lv_room (Nat.le_of_ble_eq_true rfl)) dX0_rightByOne_66 ⟨Nat.le_of_ble_eq_true rfl, Nat.le_of_ble_eq_true rfl⟩) ?_
      refine lv_goto (tgt := 73) hx hb dX0_rightByOne_69 (by decide) ?_
      exact rg_e k (by first | rw [if_neg c_12] | simp only [if_neg c_12])
  refine lv_ior hx hb dX0_rightByOne_73 ?_
  exact W.iret (v := ((a3 >>> (1 &&& 31)) ||| y_11)) hx hb hr (fun t ht hW => ⟨⟨((a3 >>> (1 &&& 31)) ||| y_11), u_10, rfl, ⟨(by subst ey_1; subst ey_3; subst ey_4; subst eu_6; subst ey_7; subst eu_10; subst ey_11; simp only [f_X0_rightByOne]), (by subst ey_1; subst ey_3; subst ey_4; subst eu_6; subst ey_7; subst eu_10; subst ey_11; simp only [f_X0_rightByOne])⟩, by rw [ht]; exact hP, va_K.moved hW.alike hK, hD⟩, hS.F ht⟩) hS.2.2 dX0_rightByOne_74

/-- what X0_isQuotient answers -/
def f_X0_isQuotient (a1 : Int32) (a2 : Int32) (a3 : Int64) : Int32 :=
  let y_1 : Int32 := (if a2 = 0 then (f_X0_mask a1) else ((f_X0_mask a1) >>> (1 &&& 31)))
  let y_3 : Int32 := (if a2 = 0 then 0 else (-y_1))
  let y_5 : Int32 := (if (lg_cmp a3 ((y_3 : Int32).toInt64)) < 0 then 0 else (if 0 < (lg_cmp a3 ((y_1 : Int32).toInt64)) then 0 else 1))
  y_5
theorem fb_X0_isQuotient (a1 : Int32) (a2 : Int32) (a3 : Int64) : f_X0_isQuotient a1 a2 a3 = 0 ∨ f_X0_isQuotient a1 a2 a3 = 1 := by
  unfold f_X0_isQuotient
  (try dsimp only)
  repeat (first | exact Or.inl rfl | exact Or.inr rfl | assumption | apply fb_X0_isSet | split)
set_option maxHeartbeats 4000000 in
set_option maxRecDepth 100000 in
theorem p_X0_isQuotient (l : Launch) (HH : Heap) (a1 : Int32) (a2 : Int32) (a3 : Int64) : Met l yX0_isQuotient wsX0_isQuotient ({ frames := 1, cells := 0, slots := 0, locals := 20 }) (va_Pc [.int a1, .int a2, .long a3] (fun U => U.heap = HH)) (va_Qi (fun (r : Int32) (_ : Unit) => r = f_X0_isQuotient a1 a2 a3) (fun _ t => t.heap = HH) (fun _ => False)) 0 0 (fun _ => False) := by
  refine Met.ofW (cc := cX0_isQuotient) (maxL := 6) (ret := (some .boolean)) (by decide) rfl ?_
  intro p e s m args below meth c s₁ B hml hv
  obtain ⟨rfl, hsz⟩ := hv
  have hx := B.exec
  have hb := B.bytes
  have hr := B.returns
  have hts := atoms_spec (ws := wsX0_isQuotient) B.pre
  have hown : s.vm.findClass RX0 = some m.cls := findClass_of_methodNamed B.named
  have hlocks := B.notSynchronized
  subst hsz
  have hl := lv_entry ([.int a1, .int a2, .long a3]) (n := 6) (Nat.le_of_ble_eq_true rfl)
  rw [lg_entry_eq]
  generalize (lg_sl ([.int a1, .int a2, .long a3]) ++ List.replicate (6 - (lg_sl ([.int a1, .int a2, .long a3])).length) Slot.unset).toArray = ls at hl ⊢
  have hl : lv_has ls 6 [(0, .int a1), (1, .int a2), (2, .long a3)] := hl
  refine lv_iload_n hx hb dX0_isQuotient_0 rfl (lv_at hl 1 rfl) ?_
  refine rg (J := 17) (st := []) (if a2 = 0 then (f_X0_mask a1) else ((f_X0_mask a1) >>> (1 &&& 31))) (fun k => ?_) (fun y_1 ey_1 => ?_)
  · refine lv_if_eq (tgt := 13) hx hb dX0_isQuotient_1 (by decide) (fun c_2 => ?_) (fun c_2 => ?_)
    · refine lv_iload_n hx hb dX0_isQuotient_13 rfl (lv_at hl 0 rfl) ?_
      refine pu_calli (F := (f_X0_mask a1)) (va_runS (As := [.int a1]) (rest := []) ⟨hx, hb, hml, hown, hts⟩ (p_X0_mask l _ a1) (va_cwS 1 hts gX0_isQuotient_X0_mask rfl rfl rfl (by decide +kernel) ⟨Nat.le_of_ble_eq_true rfl, Nat.le_of_ble_eq_true rfl⟩) pu_preS rfl rfl hl.1 rfl (lv_room (Nat.le_of_ble_eq_true rfl)) dX0_isQuotient_14 ⟨Nat.le_of_ble_eq_true rfl, Nat.le_of_ble_eq_true rfl⟩) ?_
      exact rg_e k (by first | rw [if_pos c_2] | simp only [if_pos c_2])
    · refine lv_iload_n hx hb dX0_isQuotient_4 rfl (lv_at hl 0 rfl) ?_
      refine pu_calli (F := (f_X0_mask a1)) (va_runS (As := [.int a1]) (rest := []) ⟨hx, hb, hml, hown, hts⟩ (p_X0_mask l _ a1) (va_cwS 1 hts gX0_isQuotient_X0_mask rfl rfl rfl (by decide +kernel) ⟨Nat.le_of_ble_eq_true rfl, Nat.le_of_ble_eq_true rfl⟩) pu_preS rfl rfl hl.1 rfl (lv_room (Nat.le_of_ble_eq_true rfl)) dX0_isQuotient_5 ⟨Nat.le_of_ble_eq_true rfl, Nat.le_of_ble_eq_true rfl⟩) ?_
      refine lv_iconst (v := 1) hx hb dX0_isQuotient_8 (by decide) ?_
      refine lv_ishr hx hb dX0_isQuotient_9 ?_
      refine lv_goto (tgt := 17) hx hb dX0_isQuotient_10 (by decide) ?_
      exact rg_e k (by first | rw [if_neg c_2] | simp only [if_neg c_2])
  refine lv_istore (lv' := [(4, .int y_1), (0, .int a1), (1, .int a2), (2, .long a3)]) hx hb dX0_isQuotient_17 hl (by decide) rfl (fun ls hl => ?_)
  refine lv_iload_n hx hb dX0_isQuotient_19 rfl (lv_at hl 2 rfl) ?_
  refine rg (J := 30) (st := []) (if a2 = 0 then 0 else (-y_1)) (fun k => ?_) (fun y_3 ey_3 => ?_)
  · refine lv_if_eq (tgt := 29) hx hb dX0_isQuotient_20 (by decide) (fun c_4 => ?_) (fun c_4 => ?_)
    · refine lv_iconst (v := 0) hx hb dX0_isQuotient_29 (by decide) ?_
      exact rg_e k (by first | rw [if_pos c_4] | simp only [if_pos c_4])
    · refine lv_iload hx hb dX0_isQuotient_23 (lv_at hl 0 rfl) ?_
      refine lv_ineg hx hb dX0_isQuotient_25 ?_
      refine lv_goto (tgt := 30) hx hb dX0_isQuotient_26 (by decide) ?_
      exact rg_e k (by first | rw [if_neg c_4] | simp only [if_neg c_4])
  refine lv_istore (lv' := [(5, .int y_3), (4, .int y_1), (0, .int a1), (1, .int a2), (2, .long a3)]) hx hb dX0_isQuotient_30 hl (by decide) rfl (fun ls hl => ?_)
  refine lv_lload_n hx hb dX0_isQuotient_32 rfl (lv_at hl 4 rfl) ?_
  refine lv_iload hx hb dX0_isQuotient_33 (lv_at hl 0 rfl) ?_
  refine lv_i2l (v := (y_3 : Int32).toInt64) hx hb dX0_isQuotient_35 rfl ?_
  refine W.lcmp hx hb dX0_isQuotient_36 ?_
  refine rg (J := 53) (st := []) (if (lg_cmp a3 ((y_3 : Int32).toInt64)) < 0 then 0 else (if 0 < (lg_cmp a3 ((y_1 : Int32).toInt64)) then 0 else 1)) (fun k => ?_) (fun y_5 ey_5 => ?_)
  · refine lv_if_lt (tgt := 52) hx hb dX0_isQuotient_37 (by decide) (fun c_6 => ?_) (fun c_6 => ?_)
    · refine lv_iconst (v := 0) hx hb dX0_isQuotient_52 (by decide) ?_
      exact rg_e k (by first | rw [if_pos c_6] | simp only [if_pos c_6])
    · refine lv_lload_n hx hb dX0_isQuotient_40 rfl (lv_at hl 4 rfl) ?_
      refine lv_iload hx hb dX0_isQuotient_41 (lv_at hl 1 rfl) ?_
      refine lv_i2l (v := (y_1 : Int32).toInt64) hx hb dX0_isQuotient_43 rfl ?_
      refine W.lcmp hx hb dX0_isQuotient_44 ?_
      refine lv_if_gt (tgt := 52) hx hb dX0_isQuotient_45 (by decide) (fun c_7 => ?_) (fun c_7 => ?_)
      · refine lv_iconst (v := 0) hx hb dX0_isQuotient_52 (by decide) ?_
        exact rg_e k (by first | rw [if_neg c_6, if_pos c_7] | simp only [if_neg c_6, if_pos c_7])
      · refine lv_iconst (v := 1) hx hb dX0_isQuotient_48 (by decide) ?_
        refine lv_goto (tgt := 53) hx hb dX0_isQuotient_49 (by decide) ?_
        exact rg_e k (by first | rw [if_neg c_6, if_neg c_7] | simp only [if_neg c_6, if_neg c_7])
  exact W.zret (v := y_5) hx hb hr (nb_of (by rw [ey_5]; repeat (first | exact Or.inl rfl | exact Or.inr rfl | apply fb_X0_isSet | apply fb_X0_hasHighestBit | split))) (fun t ht hW => ⟨⟨y_5, (), rfl, (by subst ey_1; subst ey_3; subst ey_5; simp only [f_X0_isQuotient]), ht⟩, pu_F ht⟩) (fun q h => nomatch h) dX0_isQuotient_53

/-- what X0_gap answers -/
def f_X0_gap (a1 : Int32) (a2 : Int32) : Int32 :=
  let y_1 : Int32 := (if a1 = 0 then 0 else 6)
  let y_3 : Int32 := (if a2 = 0 then 0 else 96)
  (y_1 + y_3)
set_option maxHeartbeats 4000000 in
set_option maxRecDepth 100000 in
theorem p_X0_gap (l : Launch) (HH : Heap) (a1 : Int32) (a2 : Int32) : Met l yX0_gap wsX0_gap ({ frames := 0, cells := 0, slots := 0, locals := 0 }) (va_Pc [.int a1, .int a2] (fun U => U.heap = HH)) (va_Qi (fun (r : Int32) (_ : Unit) => r = f_X0_gap a1 a2) (fun _ t => t.heap = HH) (fun _ => False)) 0 0 (fun _ => False) := by
  refine Met.ofW (cc := cX0_gap) (maxL := 2) (ret := (some .int)) (by decide) rfl ?_
  intro p e s m args below meth c s₁ B hml hv
  obtain ⟨rfl, hsz⟩ := hv
  have hx := B.exec
  have hb := B.bytes
  have hr := B.returns
  have hts := atoms_spec (ws := wsX0_gap) B.pre
  have hown : s.vm.findClass RX0 = some m.cls := findClass_of_methodNamed B.named
  have hlocks := B.notSynchronized
  subst hsz
  have hl := lv_entry ([.int a1, .int a2]) (n := 2) (Nat.le_of_ble_eq_true rfl)
  rw [lg_entry_eq]
  generalize (lg_sl ([.int a1, .int a2]) ++ List.replicate (2 - (lg_sl ([.int a1, .int a2])).length) Slot.unset).toArray = ls at hl ⊢
  have hl : lv_has ls 2 [(0, .int a1), (1, .int a2)] := hl
  refine lv_iload_n hx hb dX0_gap_0 rfl (lv_at hl 0 rfl) ?_
  refine rg (J := 10) (st := []) (if a1 = 0 then 0 else 6) (fun k => ?_) (fun y_1 ey_1 => ?_)
  · refine lv_if_eq (tgt := 9) hx hb dX0_gap_1 (by decide) (fun c_2 => ?_) (fun c_2 => ?_)
    · refine lv_iconst (v := 0) hx hb dX0_gap_9 (by decide) ?_
      exact rg_e k (by first | rw [if_pos c_2] | simp only [if_pos c_2])
    · refine lv_bipush (v := 6) hx hb dX0_gap_4 (by decide +kernel) ?_
      refine lv_goto (tgt := 10) hx hb dX0_gap_6 (by decide) ?_
      exact rg_e k (by first | rw [if_neg c_2] | simp only [if_neg c_2])
  refine lv_iload_n hx hb dX0_gap_10 rfl (lv_at hl 1 rfl) ?_
  refine rg (J := 20) (st := [.int y_1]) (if a2 = 0 then 0 else 96) (fun k => ?_) (fun y_3 ey_3 => ?_)
  · refine lv_if_eq (tgt := 19) hx hb dX0_gap_11 (by decide) (fun c_4 => ?_) (fun c_4 => ?_)
    · refine lv_iconst (v := 0) hx hb dX0_gap_19 (by decide) ?_
      exact rg_e k (by first | rw [if_pos c_4] | simp only [if_pos c_4])
    · refine lv_bipush (v := 96) hx hb dX0_gap_14 (by decide +kernel) ?_
      refine lv_goto (tgt := 20) hx hb dX0_gap_16 (by decide) ?_
      exact rg_e k (by first | rw [if_neg c_4] | simp only [if_neg c_4])
  refine lv_iadd hx hb dX0_gap_20 ?_
  exact W.iret (v := (y_1 + y_3)) hx hb hr (fun t ht hW => ⟨⟨(y_1 + y_3), (), rfl, (by subst ey_1; subst ey_3; simp only [f_X0_gap]), ht⟩, pu_F ht⟩) (fun q h => nomatch h) dX0_gap_21

/-- what X0_joined answers -/
def f_X0_joined (a1 : Int32) (a2 : Int32) : Int32 :=
  (((a1 &&& 255) <<< (8 &&& 31)) ||| a2)
set_option maxHeartbeats 4000000 in
set_option maxRecDepth 100000 in
theorem p_X0_joined (l : Launch) (HH : Heap) (a1 : Int32) (a2 : Int32) : Met l yX0_joined wsX0_joined ({ frames := 0, cells := 0, slots := 0, locals := 0 }) (va_Pc [.int a1, .int a2] (fun U => U.heap = HH)) (va_Qi (fun (r : Int32) (_ : Unit) => r = f_X0_joined a1 a2) (fun _ t => t.heap = HH) (fun _ => False)) 0 0 (fun _ => False) := by
  refine Met.ofW (cc := cX0_joined) (maxL := 2) (ret := (some .int)) (by decide) rfl ?_
  intro p e s m args below meth c s₁ B hml hv
  obtain ⟨rfl, hsz⟩ := hv
  have hx := B.exec
  have hb := B.bytes
  have hr := B.returns
  have hts := atoms_spec (ws := wsX0_joined) B.pre
  have hown : s.vm.findClass RX0 = some m.cls := findClass_of_methodNamed B.named
  have hlocks := B.notSynchronized
  subst hsz
  have hl := lv_entry ([.int a1, .int a2]) (n := 2) (Nat.le_of_ble_eq_true rfl)
  rw [lg_entry_eq]
  generalize (lg_sl ([.int a1, .int a2]) ++ List.replicate (2 - (lg_sl ([.int a1, .int a2])).length) Slot.unset).toArray = ls at hl ⊢
  have hl : lv_has ls 2 [(0, .int a1), (1, .int a2)] := hl
  refine lv_iload_n hx hb dX0_joined_0 rfl (lv_at hl 0 rfl) ?_
  refine lv_sipush (v := 255) hx hb dX0_joined_1 (by decide +kernel) ?_
  refine lv_iand hx hb dX0_joined_4 ?_
  refine lv_bipush (v := 8) hx hb dX0_joined_5 (by decide +kernel) ?_
  refine lv_ishl hx hb dX0_joined_7 ?_
  refine lv_iload_n hx hb dX0_joined_8 rfl (lv_at hl 1 rfl) ?_
  refine lv_ior hx hb dX0_joined_9 ?_
  exact W.iret (v := (((a1 &&& 255) <<< (8 &&& 31)) ||| a2)) hx hb hr (fun t ht hW => ⟨⟨(((a1 &&& 255) <<< (8 &&& 31)) ||| a2), (), rfl, rfl, ht⟩, pu_F ht⟩) (fun q h => nomatch h) dX0_joined_10

/-- what X0_needsLowerGap answers -/
def f_X0_needsLowerGap (f : Int32) (a1 : Int32) : Int32 :=
  let y_1 : Int32 := (if 9 < (a1 &&& 15) then 1 else (if (f_X0_isSet f 16) = 0 then 0 else 1))
  y_1
theorem fb_X0_needsLowerGap (f : Int32) (a1 : Int32) : f_X0_needsLowerGap f a1 = 0 ∨ f_X0_needsLowerGap f a1 = 1 := by
  unfold f_X0_needsLowerGap
  (try dsimp only)
  repeat (first | exact Or.inl rfl | exact Or.inr rfl | assumption | apply fb_X0_isSet | split)
set_option maxHeartbeats 4000000 in
set_option maxRecDepth 100000 in
theorem p_X0_needsLowerGap (l : Launch) (dC : Nat → ClassId) (dI : Nat → Nat → Nat) (h0 : Nat) (HH : Heap) (f : Int32) (a1 : Int32) : Met l yX0_needsLowerGap wsX0_needsLowerGap ({ frames := 1, cells := 0, slots := 0, locals := 21 }) (va_Pc [.ref h0, .int a1] (pu_pre (dC, dI) 1 h0 HH [.int f])) (va_Qi (fun (r : Int32) (_ : Unit) => r = f_X0_needsLowerGap f a1) (fun _ t => t.heap = HH) (fun _ => False)) 0 0 (fun _ => False) := by
  refine Met.ofW (cc := cX0_needsLowerGap) (maxL := 2) (ret := (some .boolean)) (by decide) rfl ?_
  intro p e s m args below meth c s₁ B hml hv
  obtain ⟨rfl, hsz, hP, hK⟩ := hv
  have hx := B.exec
  have hb := B.bytes
  have hr := B.returns
  have hts := atoms_spec (ws := wsX0_needsLowerGap) B.pre
  have hown : s.vm.findClass RX0 = some m.cls := findClass_of_methodNamed B.named
  have hlocks := B.notSynchronized
  subst hsz
  have hl := lv_entry ([.ref h0, .int a1]) (n := 2) (Nat.le_of_ble_eq_true rfl)
  rw [lg_entry_eq]
  generalize (lg_sl ([.ref h0, .int a1]) ++ List.replicate (2 - (lg_sl ([.ref h0, .int a1])).length) Slot.unset).toArray = ls at hl ⊢
  have hl : lv_has ls 2 [(0, .ref h0), (1, .int a1)] := hl
  refine lv_iload_n hx hb dX0_needsLowerGap_0 rfl (lv_at hl 1 rfl) ?_
  refine lv_bipush (v := 15) hx hb dX0_needsLowerGap_1 (by decide +kernel) ?_
  refine lv_iand hx hb dX0_needsLowerGap_3 ?_
  refine lv_bipush (v := 9) hx hb dX0_needsLowerGap_4 (by decide +kernel) ?_
  refine rg (J := 23) (st := []) (if 9 < (a1 &&& 15) then 1 else (if (f_X0_isSet f 16) = 0 then 0 else 1)) (fun k => ?_) (fun y_1 ey_1 => ?_)
  · refine lv_icmp_gt (tgt := 18) hx hb dX0_needsLowerGap_6 (by decide) (fun c_2 => ?_) (fun c_2 => ?_)
    · refine lv_iconst (v := 1) hx hb dX0_needsLowerGap_18 (by decide) ?_
      refine lv_goto (tgt := 23) hx hb dX0_needsLowerGap_19 (by decide) ?_
      exact rg_e k (by first | rw [if_pos c_2] | simp only [if_pos c_2])
    · refine lv_aload_n hx hb dX0_needsLowerGap_9 rfl (lv_at hl 0 rfl) ?_
      refine lv_bipush (v := 16) hx hb dX0_needsLowerGap_10 (by decide +kernel) ?_
      refine pu_calli (F := (f_X0_isSet f 16)) (va_runV (As := [.int 16]) (rest := []) ⟨hx, hb, hml, hown, hts⟩ (p_X0_isSet l dC dI h0 _ f 16) (cwV 1 hts gX0_needsLowerGap_X0_isSet rfl rfl rfl (by decide +kernel) ⟨Nat.le_of_ble_eq_true rfl, Nat.le_of_ble_eq_true rfl⟩) (pu_preV (ci := 1) rfl hK hP) rfl rfl hl.1 rfl (lv_room (Nat.le_of_ble_eq_true rfl)) dX0_needsLowerGap_12 ⟨Nat.le_of_ble_eq_true rfl, Nat.le_of_ble_eq_true rfl⟩) ?_
      refine lv_if_eq (tgt := 22) hx hb dX0_needsLowerGap_15 (by decide) (fun c_3 => ?_) (fun c_3 => ?_)
      · refine lv_iconst (v := 0) hx hb dX0_needsLowerGap_22 (by decide) ?_
        exact rg_e k (by first | rw [if_neg c_2, if_pos c_3] | simp only [if_neg c_2, if_pos c_3])
      · refine lv_iconst (v := 1) hx hb dX0_needsLowerGap_18 (by decide) ?_
        refine lv_goto (tgt := 23) hx hb dX0_needsLowerGap_19 (by decide) ?_
        exact rg_e k (by first | rw [if_neg c_2, if_neg c_3] | simp only [if_neg c_2, if_neg c_3])
  exact W.zret (v := y_1) hx hb hr (nb_of (by rw [ey_1]; repeat (first | exact Or.inl rfl | exact Or.inr rfl | apply fb_X0_isSet | apply fb_X0_hasHighestBit | split))) (fun t ht hW => ⟨⟨y_1, (), rfl, (by subst ey_1; simp only [f_X0_needsLowerGap]), ht⟩, pu_F ht⟩) (fun q h => nomatch h) dX0_needsLowerGap_23

/-- what X0_needsUpperGap answers -/
def f_X0_needsUpperGap (f : Int32) (a1 : Int32) : Int32 :=
  let y_1 : Int32 := (if 153 < a1 then 1 else (if (f_X0_isSet f 1) = 0 then 0 else 1))
  y_1
theorem fb_X0_needsUpperGap (f : Int32) (a1 : Int32) : f_X0_needsUpperGap f a1 = 0 ∨ f_X0_needsUpperGap f a1 = 1 := by
  unfold f_X0_needsUpperGap
  (try dsimp only)
  repeat (first | exact Or.inl rfl | exact Or.inr rfl | assumption | apply fb_X0_isSet | split)
set_option maxHeartbeats 4000000 in
set_option maxRecDepth 100000 in
theorem p_X0_needsUpperGap (l : Launch) (dC : Nat → ClassId) (dI : Nat → Nat → Nat) (h0 : Nat) (HH : Heap) (f : Int32) (a1 : Int32) : Met l yX0_needsUpperGap wsX0_needsUpperGap ({ frames := 1, cells := 0, slots := 0, locals := 21 }) (va_Pc [.ref h0, .int a1] (pu_pre (dC, dI) 1 h0 HH [.int f])) (va_Qi (fun (r : Int32) (_ : Unit) => r = f_X0_needsUpperGap f a1) (fun _ t => t.heap = HH) (fun _ => False)) 0 0 (fun _ => False) := by
  refine Met.ofW (cc := cX0_needsUpperGap) (maxL := 2) (ret := (some .boolean)) (by decide) rfl ?_
  intro p e s m args below meth c s₁ B hml hv
  obtain ⟨rfl, hsz, hP, hK⟩ := hv
  have hx := B.exec
  have hb := B.bytes
  have hr := B.returns
  have hts := atoms_spec (ws := wsX0_needsUpperGap) B.pre
  have hown : s.vm.findClass RX0 = some m.cls := findClass_of_methodNamed B.named
  have hlocks := B.notSynchronized
  subst hsz
  have hl := lv_entry ([.ref h0, .int a1]) (n := 2) (Nat.le_of_ble_eq_true rfl)
  rw [lg_entry_eq]
  generalize (lg_sl ([.ref h0, .int a1]) ++ List.replicate (2 - (lg_sl ([.ref h0, .int a1])).length) Slot.unset).toArray = ls at hl ⊢
  have hl : lv_has ls 2 [(0, .ref h0), (1, .int a1)] := hl
  refine lv_iload_n hx hb dX0_needsUpperGap_0 rfl (lv_at hl 1 rfl) ?_
  refine lv_sipush (v := 153) hx hb dX0_needsUpperGap_1 (by decide +kernel) ?_
  refine rg (J := 20) (st := []) (if 153 < a1 then 1 else (if (f_X0_isSet f 1) = 0 then 0 else 1)) (fun k => ?_) (fun y_1 ey_1 => ?_)
  · refine lv_icmp_gt (tgt := 15) hx hb dX0_needsUpperGap_4 (by decide) (fun c_2 => ?_) (fun c_2 => ?_)
    · refine lv_iconst (v := 1) hx hb dX0_needsUpperGap_15 (by decide) ?_
      refine lv_goto (tgt := 20) hx hb dX0_needsUpperGap_16 (by decide) ?_
      exact rg_e k (by first | rw [if_pos c_2] | simp only [if_pos c_2])
    · refine lv_aload_n hx hb dX0_needsUpperGap_7 rfl (lv_at hl 0 rfl) ?_
      refine lv_iconst (v := 1) hx hb dX0_needsUpperGap_8 (by decide) ?_
      refine pu_calli (F := (f_X0_isSet f 1)) (va_runV (As := [.int 1]) (rest := []) ⟨hx, hb, hml, hown, hts⟩ (p_X0_isSet l dC dI h0 _ f 1) (cwV 1 hts gX0_needsUpperGap_X0_isSet rfl rfl rfl (by decide +kernel) ⟨Nat.le_of_ble_eq_true rfl, Nat.le_of_ble_eq_true rfl⟩) (pu_preV (ci := 1) rfl hK hP) rfl rfl hl.1 rfl (lv_room (Nat.le_of_ble_eq_true rfl)) dX0_needsUpperGap_9 ⟨Nat.le_of_ble_eq_true rfl, Nat.le_of_ble_eq_true rfl⟩) ?_
      refine lv_if_eq (tgt := 19) hx hb dX0_needsUpperGap_12 (by decide) (fun c_3 => ?_) (fun c_3 => ?_)
      · refine lv_iconst (v := 0) hx hb dX0_needsUpperGap_19 (by decide) ?_
        exact rg_e k (by first | rw [if_neg c_2, if_pos c_3] | simp only [if_neg c_2, if_pos c_3])
      · refine lv_iconst (v := 1) hx hb dX0_needsUpperGap_15 (by decide) ?_
        refine lv_goto (tgt := 20) hx hb dX0_needsUpperGap_16 (by decide) ?_
        exact rg_e k (by first | rw [if_neg c_2, if_neg c_3] | simp only [if_neg c_2, if_neg c_3])
  exact W.zret (v := y_1) hx hb hr (nb_of (by rw [ey_1]; repeat (first | exact Or.inl rfl | exact Or.inr rfl | apply fb_X0_isSet | apply fb_X0_hasHighestBit | split))) (fun t ht hW => ⟨⟨y_1, (), rfl, (by subst ey_1; simp only [f_X0_needsUpperGap]), ht⟩, pu_F ht⟩) (fun q h => nomatch h) dX0_needsUpperGap_20

/-- what X0_adjustedByte answers -/
def f_X0_adjustedByte (f : Int32) (a1 : Int32) : Int32 × Int32 :=
  let r_1 : Int32 := (f_X0_kept f 0 a1).1
  let u_2 : Int32 := (f_X0_kept f 0 a1).2
  (r_1, u_2)
set_option maxHeartbeats 4000000 in
set_option maxRecDepth 100000 in
theorem p_X0_adjustedByte (l : Launch) (dC : Nat → ClassId) (dI : Nat → Nat → Nat) (h0 : Nat) (sz : Nat) (f : Int32) (a1 : Int32) : Met l yX0_adjustedByte wsX0_adjustedByte ({ frames := 4, cells := 0, slots := 0, locals := 86 }) (va_Pc [.ref h0, .int a1] (wr_pre (dC, dI) 1 h0 sz [.int f])) (va_Qi (fun (r : Int32) (u : Int32) => r = (f_X0_adjustedByte f a1).1 ∧ u = (f_X0_adjustedByte f a1).2) (wr_at (dC, dI) 1 h0 (fun u : Int32 => [.int u]) (wr_A 1 h0 sz [.int f])) (wr_A 1 h0 sz [.int f])) 0 0 (wr_A 1 h0 sz [.int f]) := by
  refine Met.ofW (cc := cX0_adjustedByte) (maxL := 2) (ret := (some .int)) (by decide) rfl ?_
  intro p e s m args below meth c s₁ B hml hv
  obtain ⟨rfl, hsz, hP, hK, hD0⟩ := hv
  have hx := B.exec
  have hb := B.bytes
  have hr := B.returns
  have hts := atoms_spec (ws := wsX0_adjustedByte) B.pre
  have hown : s.vm.findClass RX0 = some m.cls := findClass_of_methodNamed B.named
  have hlocks := B.notSynchronized
  subst hsz
  have hD : va_D (wr_A 1 h0 s.heap.size [.int f]) [(h0, .inr (1, [.int f]))] := hD0.self (sz := s.heap.size)
  generalize hAe : wr_A 1 h0 s.heap.size [.int f] = A at hD ⊢
  have hA : ∀ q : Nat, s.heap.size ≤ q → A q := fun q h => by rw [← hAe]; exact Or.inr h
  have hS : va_S A s.heap s.heap [] := va_S.rf
  have hP : va_P (dC, dI) vwCl [(h0, .inr (1, [.int f]))] s.heap := hP
  have hD : va_D A [(h0, .inr (1, [.int f]))] := hD
  have hl := lv_entry ([.ref h0, .int a1]) (n := 2) (Nat.le_of_ble_eq_true rfl)
  rw [lg_entry_eq]
  generalize (lg_sl ([.ref h0, .int a1]) ++ List.replicate (2 - (lg_sl ([.ref h0, .int a1])).length) Slot.unset).toArray = ls at hl ⊢
  have hl : lv_has ls 2 [(0, .ref h0), (1, .int a1)] := hl
  refine lv_aload_n hx hb dX0_adjustedByte_0 rfl (lv_at hl 0 rfl) ?_
  refine lv_iconst (v := 0) hx hb dX0_adjustedByte_1 (by decide) ?_
  refine lv_iload_n hx hb dX0_adjustedByte_2 rfl (lv_at hl 1 rfl) ?_
  refine wr_calli (va_runV (As := [.int 0, .int a1]) (rest := []) ⟨hx, hb, hml, hown, hts⟩ (p_X0_kept l dC dI h0 _ f 0 a1) (cwV 2 hts gX0_adjustedByte_X0_kept rfl rfl rfl (by decide +kernel) ⟨Nat.le_of_ble_eq_true rfl, Nat.le_of_ble_eq_true rfl⟩) (wr_preV (ci := 1) rfl hK hP hD) rfl rfl hl.1 rfl (lv_room (Nat.le_of_ble_eq_true rfl)) dX0_adjustedByte_3 ⟨Nat.le_of_ble_eq_true rfl, Nat.le_of_ble_eq_true rfl⟩) hP hD hS hA (fun r_1 u_2 H locs hw hP hD hS => ?_)
  obtain ⟨er_1, eu_2⟩ := hw
  have hP : va_P (dC, dI) vwCl [(h0, .inr (1, [.int u_2]))] H := hP
  have hD : va_D A [(h0, .inr (1, [.int u_2]))] := hD
  exact W.iret (v := r_1) hx hb hr (fun t ht hW => ⟨⟨r_1, u_2, rfl, ⟨(by subst er_1; subst eu_2; simp only [f_X0_adjustedByte]), (by subst er_1; subst eu_2; simp only [f_X0_adjustedByte])⟩, by rw [ht]; exact hP, va_K.moved hW.alike hK, hD⟩, hS.F ht⟩) hS.2.2 dX0_adjustedByte_6

/-- what X0_adjustedSum answers -/
def f_X0_adjustedSum (f : Int32) (a1 : Int32) : Int32 × Int32 :=
  let y_1 : Int32 := (f_X0_needsLowerGap f a1)
  let y_2 : Int32 := (f_X0_needsUpperGap f a1)
  let u_4 : Int32 := (f_X0_put f 16 y_1)
  let u_6 : Int32 := (f_X0_put u_4 1 y_2)
  let r_7 : Int32 := (f_X0_adjustedByte u_6 (a1 + (f_X0_gap y_1 y_2))).1
  let u_8 : Int32 := (f_X0_adjustedByte u_6 (a1 + (f_X0_gap y_1 y_2))).2
  (r_7, u_8)
set_option maxHeartbeats 4000000 in
set_option maxRecDepth 100000 in
theorem p_X0_adjustedSum (l : Launch) (dC : Nat → ClassId) (dI : Nat → Nat → Nat) (h0 : Nat) (sz : Nat) (f : Int32) (a1 : Int32) : Met l yX0_adjustedSum wsX0_adjustedSum ({ frames := 5, cells := 0, slots := 0, locals := 107 }) (va_Pc [.ref h0, .int a1] (wr_pre (dC, dI) 1 h0 sz [.int f])) (va_Qi (fun (r : Int32) (u : Int32) => r = (f_X0_adjustedSum f a1).1 ∧ u = (f_X0_adjustedSum f a1).2) (wr_at (dC, dI) 1 h0 (fun u : Int32 => [.int u]) (wr_A 1 h0 sz [.int f])) (wr_A 1 h0 sz [.int f])) 0 0 (wr_A 1 h0 sz [.int f]) := by
  refine Met.ofW (cc := cX0_adjustedSum) (maxL := 4) (ret := (some .int)) (by decide) rfl ?_
  intro p e s m args below meth c s₁ B hml hv
  obtain ⟨rfl, hsz, hP, hK, hD0⟩ := hv
  have hx := B.exec
  have hb := B.bytes
  have hr := B.returns
  have hts := atoms_spec (ws := wsX0_adjustedSum) B.pre
  have hown : s.vm.findClass RX0 = some m.cls := findClass_of_methodNamed B.named
  have hlocks := B.notSynchronized
  subst hsz
  have hD : va_D (wr_A 1 h0 s.heap.size [.int f]) [(h0, .inr (1, [.int f]))] := hD0.self (sz := s.heap.size)
  generalize hAe : wr_A 1 h0 s.heap.size [.int f] = A at hD ⊢
  have hA : ∀ q : Nat, s.heap.size ≤ q → A q := fun q h => by rw [← hAe]; exact Or.inr h
  have hS : va_S A s.heap s.heap [] := va_S.rf
  have hP : va_P (dC, dI) vwCl [(h0, .inr (1, [.int f]))] s.heap := hP
  have hD : va_D A [(h0, .inr (1, [.int f]))] := hD
  have hl := lv_entry ([.ref h0, .int a1]) (n := 4) (Nat.le_of_ble_eq_true rfl)
  rw [lg_entry_eq]
  generalize (lg_sl ([.ref h0, .int a1]) ++ List.replicate (4 - (lg_sl ([.ref h0, .int a1])).length) Slot.unset).toArray = ls at hl ⊢
  have hl : lv_has ls 4 [(0, .ref h0), (1, .int a1)] := hl
  refine lv_aload_n hx hb dX0_adjustedSum_0 rfl (lv_at hl 0 rfl) ?_
  refine lv_iload_n hx hb dX0_adjustedSum_1 rfl (lv_at hl 1 rfl) ?_
  refine pu_calli (F := (f_X0_needsLowerGap f a1)) (va_runV (As := [.int a1]) (rest := []) ⟨hx, hb, hml, hown, hts⟩ (p_X0_needsLowerGap l dC dI h0 _ f a1) (cwV 1 hts gX0_adjustedSum_X0_needsLowerGap rfl rfl rfl (by decide +kernel) ⟨Nat.le_of_ble_eq_true rfl, Nat.le_of_ble_eq_true rfl⟩) (pu_preV (ci := 1) rfl hK hP) rfl rfl hl.1 rfl (lv_room (Nat.le_of_ble_eq_true rfl)) dX0_adjustedSum_2 ⟨Nat.le_of_ble_eq_true rfl, Nat.le_of_ble_eq_true rfl⟩) ?_
  refine lv_topi (fun y_1 ey_1 => ?_)
  refine lv_istore_n (lv' := [(2, .int y_1), (0, .ref h0), (1, .int a1)]) hx hb dX0_adjustedSum_5 rfl hl (by decide) rfl (fun ls hl => ?_)
  refine lv_aload_n hx hb dX0_adjustedSum_6 rfl (lv_at hl 1 rfl) ?_
  refine lv_iload_n hx hb dX0_adjustedSum_7 rfl (lv_at hl 2 rfl) ?_
  refine pu_calli (F := (f_X0_needsUpperGap f a1)) (va_runV (As := [.int a1]) (rest := []) ⟨hx, hb, hml, hown, hts⟩ (p_X0_needsUpperGap l dC dI h0 _ f a1) (cwV 1 hts gX0_adjustedSum_X0_needsUpperGap rfl rfl rfl (by decide +kernel) ⟨Nat.le_of_ble_eq_true rfl, Nat.le_of_ble_eq_true rfl⟩) (pu_preV (ci := 1) rfl hK hP) rfl rfl hl.1 rfl (lv_room (Nat.le_of_ble_eq_true rfl)) dX0_adjustedSum_8 ⟨Nat.le_of_ble_eq_true rfl, Nat.le_of_ble_eq_true rfl⟩) ?_
  refine lv_topi (fun y_2 ey_2 => ?_)
  refine lv_istore_n (lv' := [(3, .int y_2), (2, .int y_1), (0, .ref h0), (1, .int a1)]) hx hb dX0_adjustedSum_11 rfl hl (by decide) rfl (fun ls hl => ?_)
  refine lv_aload_n hx hb dX0_adjustedSum_12 rfl (lv_at hl 2 rfl) ?_
  refine lv_bipush (v := 16) hx hb dX0_adjustedSum_13 (by decide +kernel) ?_
  refine lv_iload_n hx hb dX0_adjustedSum_15 rfl (lv_at hl 1 rfl) ?_
  refine wr_callv (va_runV (As := [.int 16, .int y_1]) (rest := []) ⟨hx, hb, hml, hown, hts⟩ (p_X0_put l dC dI h0 _ f 16 y_1) (cwV 2 hts gX0_adjustedSum_X0_put rfl rfl rfl (by decide +kernel) ⟨Nat.le_of_ble_eq_true rfl, Nat.le_of_ble_eq_true rfl⟩) (wr_preV (ci := 1) rfl hK hP hD) rfl rfl hl.1 rfl (lv_room (Nat.le_of_ble_eq_true rfl)) dX0_adjustedSum_16 ⟨Nat.le_of_ble_eq_true rfl, Nat.le_of_ble_eq_true rfl⟩) hP hD hS hA (fun u_4 H locs eu_4 hP hD hS => ?_)
  have hP : va_P (dC, dI) vwCl [(h0, .inr (1, [.int u_4]))] H := hP
  have hD : va_D A [(h0, .inr (1, [.int u_4]))] := hD
  refine lv_aload_n hx hb dX0_adjustedSum_19 rfl (lv_at hl 2 rfl) ?_
  refine lv_iconst (v := 1) hx hb dX0_adjustedSum_20 (by decide) ?_
  refine lv_iload_n hx hb dX0_adjustedSum_21 rfl (lv_at hl 0 rfl) ?_
  refine wr_callv (va_runV (As := [.int 1, .int y_2]) (rest := []) ⟨hx, hb, hml, hown, hts⟩ (p_X0_put l dC dI h0 _ u_4 1 y_2) (cwV 2 hts gX0_adjustedSum_X0_put rfl rfl rfl (by decide +kernel) ⟨Nat.le_of_ble_eq_true rfl, Nat.le_of_ble_eq_true rfl⟩) (wr_preV (ci := 1) rfl hK hP hD) rfl rfl hl.1 rfl (lv_room (Nat.le_of_ble_eq_true rfl)) dX0_adjustedSum_22 ⟨Nat.le_of_ble_eq_true rfl, Nat.le_of_ble_eq_true rfl⟩) hP hD hS hA (fun u_6 H locs eu_6 hP hD hS => ?_)
  have hP : va_P (dC, dI) vwCl [(h0, .inr (1, [.int u_6]))] H := hP
  have hD : va_D A [(h0, .inr (1, [.int u_6]))] := hD
  refine lv_aload_n hx hb dX0_adjustedSum_25 rfl (lv_at hl 2 rfl) ?_
  refine lv_iload_n hx hb dX0_adjustedSum_26 rfl (lv_at hl 3 rfl) ?_
  refine lv_iload_n hx hb dX0_adjustedSum_27 rfl (lv_at hl 1 rfl) ?_
  refine lv_iload_n hx hb dX0_adjustedSum_28 rfl (lv_at hl 0 rfl) ?_
  refine pu_calli (F := (f_X0_gap y_1 y_2)) (va_runS (As := [.int y_1, .int y_2]) (rest := [.int a1, .ref h0]) ⟨hx, hb, hml, hown, hts⟩ (p_X0_gap l _ y_1 y_2) (va_cwS 2 hts gX0_adjustedSum_X0_gap rfl rfl rfl (by decide +kernel) ⟨Nat.le_of_ble_eq_true rfl, Nat.le_of_ble_eq_true rfl⟩) pu_preS rfl rfl hl.1 rfl (lv_room (Nat.le_of_ble_eq_true rfl)) dX0_adjustedSum_29 ⟨Nat.le_of_ble_eq_true rfl, Nat.le_of_ble_eq_true rfl⟩) ?_
  refine lv_iadd hx hb dX0_adjustedSum_32 ?_
  refine wr_calli (va_runV (As := [.int (a1 + (f_X0_gap y_1 y_2))]) (rest := []) ⟨hx, hb, hml, hown, hts⟩ (p_X0_adjustedByte l dC dI h0 _ u_6 (a1 + (f_X0_gap y_1 y_2))) (cwV 1 hts gX0_adjustedSum_X0_adjustedByte rfl rfl rfl (by decide +kernel) ⟨Nat.le_of_ble_eq_true rfl, Nat.le_of_ble_eq_true rfl⟩) (wr_preV (ci := 1) rfl hK hP hD) rfl rfl hl.1 rfl (lv_room (Nat.le_of_ble_eq_true rfl)) dX0_adjustedSum_33 ⟨Nat.le_of_ble_eq_true rfl, Nat.le_of_ble_eq_true rfl⟩) hP hD hS hA (fun r_7 u_8 H locs hw hP hD hS => ?_)
  obtain ⟨er_7, eu_8⟩ := hw
  have hP : va_P (dC, dI) vwCl [(h0, .inr (1, [.int u_8]))] H := hP
  have hD : va_D A [(h0, .inr (1, [.int u_8]))] := hD
  exact W.iret (v := r_7) hx hb hr (fun t ht hW => ⟨⟨r_7, u_8, rfl, ⟨(by subst ey_1; subst ey_2; subst eu_4; subst eu_6; subst er_7; subst eu_8; simp only [f_X0_adjustedSum]), (by subst ey_1; subst ey_2; subst eu_4; subst eu_6; subst er_7; subst eu_8; simp only [f_X0_adjustedSum])⟩, by rw [ht]; exact hP, va_K.moved hW.alike hK, hD⟩, hS.F ht⟩) hS.2.2 dX0_adjustedSum_36

/-- what X0_adjustedDifference answers -/
def f_X0_adjustedDifference (f : Int32) (a1 : Int32) : Int32 × Int32 :=
  let y_1 : Int32 := (f_X0_needsLowerGap f a1)
  let y_2 : Int32 := (f_X0_needsUpperGap f a1)
  let u_4 : Int32 := (f_X0_put f 16 y_1)
  let y_5 : Int32 := (if y_2 = 0 then (if y_1 = 0 then 0 else (if 6 ≤ a1 then 0 else 1)) else 1)
  let u_10 : Int32 := (f_X0_put u_4 1 y_5)
  let r_11 : Int32 := (f_X0_adjustedByte u_10 (a1 - (f_X0_gap y_1 y_2))).1
  let u_12 : Int32 := (f_X0_adjustedByte u_10 (a1 - (f_X0_gap y_1 y_2))).2
  (r_11, u_12)
set_option maxHeartbeats 4000000 in
set_option maxRecDepth 100000 in
theorem p_X0_adjustedDifference (l : Launch) (dC : Nat → ClassId) (dI : Nat → Nat → Nat) (h0 : Nat) (sz : Nat) (f : Int32) (a1 : Int32) : Met l yX0_adjustedDifference wsX0_adjustedDifference ({ frames := 5, cells := 0, slots := 0, locals := 107 }) (va_Pc [.ref h0, .int a1] (wr_pre (dC, dI) 1 h0 sz [.int f])) (va_Qi (fun (r : Int32) (u : Int32) => r = (f_X0_adjustedDifference f a1).1 ∧ u = (f_X0_adjustedDifference f a1).2) (wr_at (dC, dI) 1 h0 (fun u : Int32 => [.int u]) (wr_A 1 h0 sz [.int f])) (wr_A 1 h0 sz [.int f])) 0 0 (wr_A 1 h0 sz [.int f]) := by
  refine Met.ofW (cc := cX0_adjustedDifference) (maxL := 4) (ret := (some .int)) (by decide) rfl ?_
  intro p e s m args below meth c s₁ B hml hv
  obtain ⟨rfl, hsz, hP, hK, hD0⟩ := hv
  have hx := B.exec
  have hb := B.bytes
  have hr := B.returns
  have hts := atoms_spec (ws := wsX0_adjustedDifference) B.pre
  have hown : s.vm.findClass RX0 = some m.cls := findClass_of_methodNamed B.named
  have hlocks := B.notSynchronized
  subst hsz
  have hD : va_D (wr_A 1 h0 s.heap.size [.int f]) [(h0, .inr (1, [.int f]))] := hD0.self (sz := s.heap.size)
  generalize hAe : wr_A 1 h0 s.heap.size [.int f] = A at hD ⊢
  have hA : ∀ q : Nat, s.heap.size ≤ q → A q := fun q h => by rw [← hAe]; exact Or.inr h
  have hS : va_S A s.heap s.heap [] := va_S.rf
  have hP : va_P (dC, dI) vwCl [(h0, .inr (1, [.int f]))] s.heap := hP
  have hD : va_D A [(h0, .inr (1, [.int f]))] := hD
  have hl := lv_entry ([.ref h0, .int a1]) (n := 4) (Nat.le_of_ble_eq_true rfl)
  rw [lg_entry_eq]
  generalize (lg_sl ([.ref h0, .int a1]) ++ List.replicate (4 - (lg_sl ([.ref h0, .int a1])).length) Slot.unset).toArray = ls at hl ⊢
  have hl : lv_has ls 4 [(0, .ref h0), (1, .int a1)] := hl
  refine lv_aload_n hx hb dX0_adjustedDifference_0 rfl (lv_at hl 0 rfl) ?_
  refine lv_iload_n hx hb dX0_adjustedDifference_1 rfl (lv_at hl 1 rfl) ?_
  refine pu_calli (F := (f_X0_needsLowerGap f a1)) (va_runV (As := [.int a1]) (rest := []) ⟨hx, hb, hml, hown, hts⟩ (p_X0_needsLowerGap l dC dI h0 _ f a1) (cwV 1 hts gX0_adjustedDifference_X0_needsLowerGap rfl rfl rfl (by decide +kernel) ⟨Nat.le_of_ble_eq_true rfl, Nat.le_of_ble_eq_true rfl⟩) (pu_preV (ci := 1) rfl hK hP) rfl rfl hl.1 rfl (lv_room (Nat.le_of_ble_eq_true rfl)) dX0_adjustedDifference_2 ⟨Nat.le_of_ble_eq_true rfl, Nat.le_of_ble_eq_true rfl⟩) ?_
  refine lv_topi (fun y_1 ey_1 => ?_)
  refine lv_istore_n (lv' := [(2, .int y_1), (0, .ref h0), (1, .int a1)]) hx hb dX0_adjustedDifference_5 rfl hl (by decide) rfl (fun ls hl => ?_)
  refine lv_aload_n hx hb dX0_adjustedDifference_6 rfl (lv_at hl 1 rfl) ?_
  refine lv_iload_n hx hb dX0_adjustedDifference_7 rfl (lv_at hl 2 rfl) ?_
  refine pu_calli (F := (f_X0_needsUpperGap f a1)) (va_runV (As := [.int a1]) (rest := []) ⟨hx, hb, hml, hown, hts⟩ (p_X0_needsUpperGap l dC dI h0 _ f a1) (cwV 1 hts gX0_adjustedDifference_X0_needsUpperGap rfl rfl rfl (by decide +kernel) ⟨Nat.le_of_ble_eq_true rfl, Nat.le_of_ble_eq_true rfl⟩) (pu_preV (ci := 1) rfl hK hP) rfl rfl hl.1 rfl (lv_room (Nat.le_of_ble_eq_true rfl)) dX0_adjustedDifference_8 ⟨Nat.le_of_ble_eq_true rfl, Nat.le_of_ble_eq_true rfl⟩) ?_
  refine lv_topi (fun y_2 ey_2 => ?_)
  refine lv_istore_n (lv' := [(3, .int y_2), (2, .int y_1), (0, .ref h0), (1, .int a1)]) hx hb dX0_adjustedDifference_11 rfl hl (by decide) rfl (fun ls hl => ?_)
  refine lv_aload_n hx hb dX0_adjustedDifference_12 rfl (lv_at hl 2 rfl) ?_
  refine lv_bipush (v := 16) hx hb dX0_adjustedDifference_13 (by decide +kernel) ?_
  refine lv_iload_n hx hb dX0_adjustedDifference_15 rfl (lv_at hl 1 rfl) ?_
  refine wr_callv (va_runV (As := [.int 16, .int y_1]) (rest := []) ⟨hx, hb, hml, hown, hts⟩ (p_X0_put l dC dI h0 _ f 16 y_1) (cwV 2 hts gX0_adjustedDifference_X0_put rfl rfl rfl (by decide +kernel) ⟨Nat.le_of_ble_eq_true rfl, Nat.le_of_ble_eq_true rfl⟩) (wr_preV (ci := 1) rfl hK hP hD) rfl rfl hl.1 rfl (lv_room (Nat.le_of_ble_eq_true rfl)) dX0_adjustedDifference_16 ⟨Nat.le_of_ble_eq_true rfl, Nat.le_of_ble_eq_true rfl⟩) hP hD hS hA (fun u_4 H locs eu_4 hP hD hS => ?_)
  have hP : va_P (dC, dI) vwCl [(h0, .inr (1, [.int u_4]))] H := hP
  have hD : va_D A [(h0, .inr (1, [.int u_4]))] := hD
  refine lv_aload_n hx hb dX0_adjustedDifference_19 rfl (lv_at hl 2 rfl) ?_
  refine lv_iconst (v := 1) hx hb dX0_adjustedDifference_20 (by decide) ?_
  refine lv_iload_n hx hb dX0_adjustedDifference_21 rfl (lv_at hl 0 rfl) ?_
  refine rg (J := 40) (st := [.int 1, .ref h0]) (if y_2 = 0 then (if y_1 = 0 then 0 else (if 6 ≤ a1 then 0 else 1)) else 1) (fun k => ?_) (fun y_5 ey_5 => ?_)
  · refine lv_if_ne (tgt := 35) hx hb dX0_adjustedDifference_22 (by decide) (fun c_6 => ?_) (fun c_6 => ?_)
    · refine lv_iconst (v := 1) hx hb dX0_adjustedDifference_35 (by decide) ?_
      refine lv_goto (tgt := 40) hx hb dX0_adjustedDifference_36 (by decide) ?_
      exact rg_e k (by first | rw [if_neg c_6] | simp only [if_neg c_6])
    · refine lv_iload_n hx hb dX0_adjustedDifference_25 rfl (lv_at hl 1 rfl) ?_
      refine lv_if_eq (tgt := 39) hx hb dX0_adjustedDifference_26 (by decide) (fun c_7 => ?_) (fun c_7 => ?_)
      · refine lv_iconst (v := 0) hx hb dX0_adjustedDifference_39 (by decide) ?_
        exact rg_e k (by first | rw [if_pos c_6, if_pos c_7] | simp only [if_pos c_6, if_pos c_7])
      · refine lv_iload_n hx hb dX0_adjustedDifference_29 rfl (lv_at hl 3 rfl) ?_
        refine lv_bipush (v := 6) hx hb dX0_adjustedDifference_30 (by decide +kernel) ?_
        refine lv_icmp_ge (tgt := 39) hx hb dX0_adjustedDifference_32 (by decide) (fun c_8 => ?_) (fun c_8 => ?_)
        · refine lv_iconst (v := 0) hx hb dX0_adjustedDifference_39 (by decide) ?_
          exact rg_e k (by first | rw [if_pos c_6, if_neg c_7, if_pos c_8] | simp only [if_pos c_6, if_neg c_7, if_pos c_8])
        · refine lv_iconst (v := 1) hx hb dX0_adjustedDifference_35 (by decide) ?_
          refine lv_goto (tgt := 40) hx hb dX0_adjustedDifference_36 (by decide) ?_
          exact rg_e k (by first | rw [if_pos c_6, if_neg c_7, if_neg c_8] | simp only [if_pos c_6, if_neg c_7, if_neg c_8])
  refine wr_callv (va_runV (As := [.int 1, .int y_5]) (rest := []) ⟨hx, hb, hml, hown, hts⟩ (p_X0_put l dC dI h0 _ u_4 1 y_5) (cwV 2 hts gX0_adjustedDifference_X0_put rfl rfl rfl (by decide +kernel) ⟨Nat.le_of_ble_eq_true rfl, Nat.le_of_ble_eq_true rfl⟩) (wr_preV (ci := 1) rfl hK hP hD) rfl rfl hl.1 rfl (lv_room (Nat.le_of_ble_eq_true rfl)) dX0_adjustedDifference_40 ⟨Nat.le_of_ble_eq_true rfl, Nat.le_of_ble_eq_true rfl⟩) hP hD hS hA (fun u_10 H locs eu_10 hP hD hS => ?_)
  have hP : va_P (dC, dI) vwCl [(h0, .inr (1, [.int u_10]))] H := hP
  have hD : va_D A [(h0, .inr (1, [.int u_10]))] := hD
  refine lv_aload_n hx hb dX0_adjustedDifference_43 rfl (lv_at hl 2 rfl) ?_
  refine lv_iload_n hx hb dX0_adjustedDifference_44 rfl (lv_at hl 3 rfl) ?_
  refine lv_iload_n hx hb dX0_adjustedDifference_45 rfl (lv_at hl 1 rfl) ?_
  refine lv_iload_n hx hb dX0_adjustedDifference_46 rfl (lv_at hl 0 rfl) ?_
  refine pu_calli (F := (f_X0_gap y_1 y_2)) (va_runS (As := [.int y_1, .int y_2]) (rest := [.int a1, .ref h0]) ⟨hx, hb, hml, hown, hts⟩ (p_X0_gap l _ y_1 y_2) (va_cwS 2 hts gX0_adjustedDifference_X0_gap rfl rfl rfl (by decide +kernel) ⟨Nat.le_of_ble_eq_true rfl, Nat.le_of_ble_eq_true rfl⟩) pu_preS rfl rfl hl.1 rfl (lv_room (Nat.le_of_ble_eq_true rfl)) dX0_adjustedDifference_47 ⟨Nat.le_of_ble_eq_true rfl, Nat.le_of_ble_eq_true rfl⟩) ?_
  refine lv_isub hx hb dX0_adjustedDifference_50 ?_
  refine wr_calli (va_runV (As := [.int (a1 - (f_X0_gap y_1 y_2))]) (rest := []) ⟨hx, hb, hml, hown, hts⟩ (p_X0_adjustedByte l dC dI h0 _ u_10 (a1 - (f_X0_gap y_1 y_2))) (cwV 1 hts gX0_adjustedDifference_X0_adjustedByte rfl rfl rfl (by decide +kernel) ⟨Nat.le_of_ble_eq_true rfl, Nat.le_of_ble_eq_true rfl⟩) (wr_preV (ci := 1) rfl hK hP hD) rfl rfl hl.1 rfl (lv_room (Nat.le_of_ble_eq_true rfl)) dX0_adjustedDifference_51 ⟨Nat.le_of_ble_eq_true rfl, Nat.le_of_ble_eq_true rfl⟩) hP hD hS hA (fun r_11 u_12 H locs hw hP hD hS => ?_)
  obtain ⟨er_11, eu_12⟩ := hw
  have hP : va_P (dC, dI) vwCl [(h0, .inr (1, [.int u_12]))] H := hP
  have hD : va_D A [(h0, .inr (1, [.int u_12]))] := hD
  exact W.iret (v := r_11) hx hb hr (fun t ht hW => ⟨⟨r_11, u_12, rfl, ⟨(by subst ey_1; subst ey_2; subst eu_4; subst ey_5; subst eu_10; subst er_11; subst eu_12; simp only [f_X0_adjustedDifference]), (by subst ey_1; subst ey_2; subst eu_4; subst ey_5; subst eu_10; subst er_11; subst eu_12; simp only [f_X0_adjustedDifference])⟩, by rw [ht]; exact hP, va_K.moved hW.alike hK, hD⟩, hS.F ht⟩) hS.2.2 dX0_adjustedDifference_54

/-- what X0_adjustedDigit answers -/
def f_X0_adjustedDigit (f : Int32) (a1 : Int32) (a2 : Int32) (a3 : Int32) : Int32 × Int32 :=
  let y_1 : Int32 := (f_X0_needsLowerGap f a2)
  let u_3 : Int32 := (f_X0_put f 16 y_1)
  let u_5 : Int32 := (f_X0_put u_3 1 y_1)
  let y_6 : Int32 := (if y_1 = 0 then a1 else (a1 + a3))
  let y_8 : Int32 := (if y_1 = 0 then a2 else (a2 + (a3 * 6)))
  ((f_X0_joined y_6 (y_8 &&& 15)), u_5)
set_option maxHeartbeats 4000000 in
set_option maxRecDepth 100000 in
theorem p_X0_adjustedDigit (l : Launch) (dC : Nat → ClassId) (dI : Nat → Nat → Nat) (h0 : Nat) (sz : Nat) (f : Int32) (a1 : Int32) (a2 : Int32) (a3 : Int32) : Met l yX0_adjustedDigit wsX0_adjustedDigit ({ frames := 2, cells := 0, slots := 0, locals := 42 }) (va_Pc [.ref h0, .int a1, .int a2, .int a3] (wr_pre (dC, dI) 1 h0 sz [.int f])) (va_Qi (fun (r : Int32) (u : Int32) => r = (f_X0_adjustedDigit f a1 a2 a3).1 ∧ u = (f_X0_adjustedDigit f a1 a2 a3).2) (wr_at (dC, dI) 1 h0 (fun u : Int32 => [.int u]) (wr_A 1 h0 sz [.int f])) (wr_A 1 h0 sz [.int f])) 0 0 (wr_A 1 h0 sz [.int f]) := by
  refine Met.ofW (cc := cX0_adjustedDigit) (maxL := 7) (ret := (some .int)) (by decide) rfl ?_
  intro p e s m args below meth c s₁ B hml hv
  obtain ⟨rfl, hsz, hP, hK, hD0⟩ := hv
  have hx := B.exec
  have hb := B.bytes
  have hr := B.returns
  have hts := atoms_spec (ws := wsX0_adjustedDigit) B.pre
  have hown : s.vm.findClass RX0 = some m.cls := findClass_of_methodNamed B.named
  have hlocks := B.notSynchronized
  subst hsz
  have hD : va_D (wr_A 1 h0 s.heap.size [.int f]) [(h0, .inr (1, [.int f]))] := hD0.self (sz := s.heap.size)
  generalize hAe : wr_A 1 h0 s.heap.size [.int f] = A at hD ⊢
  have hA : ∀ q : Nat, s.heap.size ≤ q → A q := fun q h => by rw [← hAe]; exact Or.inr h
  have hS : va_S A s.heap s.heap [] := va_S.rf
  have hP : va_P (dC, dI) vwCl [(h0, .inr (1, [.int f]))] s.heap := hP
  have hD : va_D A [(h0, .inr (1, [.int f]))] := hD
  have hl := lv_entry ([.ref h0, .int a1, .int a2, .int a3]) (n := 7) (Nat.le_of_ble_eq_true rfl)
  rw [lg_entry_eq]
  generalize (lg_sl ([.ref h0, .int a1, .int a2, .int a3]) ++ List.replicate (7 - (lg_sl ([.ref h0, .int a1, .int a2, .int a3])).length) Slot.unset).toArray = ls at hl ⊢
  have hl : lv_has ls 7 [(0, .ref h0), (1, .int a1), (2, .int a2), (3, .int a3)] := hl
  refine lv_aload_n hx hb dX0_adjustedDigit_0 rfl (lv_at hl 0 rfl) ?_
  refine lv_iload_n hx hb dX0_adjustedDigit_1 rfl (lv_at hl 2 rfl) ?_
  refine pu_calli (F := (f_X0_needsLowerGap f a2)) (va_runV (As := [.int a2]) (rest := []) ⟨hx, hb, hml, hown, hts⟩ (p_X0_needsLowerGap l dC dI h0 _ f a2) (cwV 1 hts gX0_adjustedDigit_X0_needsLowerGap rfl rfl rfl (by decide +kernel) ⟨Nat.le_of_ble_eq_true rfl, Nat.le_of_ble_eq_true rfl⟩) (pu_preV (ci := 1) rfl hK hP) rfl rfl hl.1 rfl (lv_room (Nat.le_of_ble_eq_true rfl)) dX0_adjustedDigit_2 ⟨Nat.le_of_ble_eq_true rfl, Nat.le_of_ble_eq_true rfl⟩) ?_
  refine lv_topi (fun y_1 ey_1 => ?_)
  refine lv_istore (lv' := [(4, .int y_1), (0, .ref h0), (1, .int a1), (2, .int a2), (3, .int a3)]) hx hb dX0_adjustedDigit_5 hl (by decide) rfl (fun ls hl => ?_)
  refine lv_aload_n hx hb dX0_adjustedDigit_7 rfl (lv_at hl 1 rfl) ?_
  refine lv_bipush (v := 16) hx hb dX0_adjustedDigit_8 (by decide +kernel) ?_
  refine lv_iload hx hb dX0_adjustedDigit_10 (lv_at hl 0 rfl) ?_
  refine wr_callv (va_runV (As := [.int 16, .int y_1]) (rest := []) ⟨hx, hb, hml, hown, hts⟩ (p_X0_put l dC dI h0 _ f 16 y_1) (cwV 2 hts gX0_adjustedDigit_X0_put rfl rfl rfl (by decide +kernel) ⟨Nat.le_of_ble_eq_true rfl, Nat.le_of_ble_eq_true rfl⟩) (wr_preV (ci := 1) rfl hK hP hD) rfl rfl hl.1 rfl (lv_room (Nat.le_of_ble_eq_true rfl)) dX0_adjustedDigit_12 ⟨Nat.le_of_ble_eq_true rfl, Nat.le_of_ble_eq_true rfl⟩) hP hD hS hA (fun u_3 H locs eu_3 hP hD hS => ?_)
  have hP : va_P (dC, dI) vwCl [(h0, .inr (1, [.int u_3]))] H := hP
  have hD : va_D A [(h0, .inr (1, [.int u_3]))] := hD
  refine lv_aload_n hx hb dX0_adjustedDigit_15 rfl (lv_at hl 1 rfl) ?_
  refine lv_iconst (v := 1) hx hb dX0_adjustedDigit_16 (by decide) ?_
  refine lv_iload hx hb dX0_adjustedDigit_17 (lv_at hl 0 rfl) ?_
  refine wr_callv (va_runV (As := [.int 1, .int y_1]) (rest := []) ⟨hx, hb, hml, hown, hts⟩ (p_X0_put l dC dI h0 _ u_3 1 y_1) (cwV 2 hts gX0_adjustedDigit_X0_put rfl rfl rfl (by decide +kernel) ⟨Nat.le_of_ble_eq_true rfl, Nat.le_of_ble_eq_true rfl⟩) (wr_preV (ci := 1) rfl hK hP hD) rfl rfl hl.1 rfl (lv_room (Nat.le_of_ble_eq_true rfl)) dX0_adjustedDigit_19 ⟨Nat.le_of_ble_eq_true rfl, Nat.le_of_ble_eq_true rfl⟩) hP hD hS hA (fun u_5 H locs eu_5 hP hD hS => ?_)
  have hP : va_P (dC, dI) vwCl [(h0, .inr (1, [.int u_5]))] H := hP
  have hD : va_D A [(h0, .inr (1, [.int u_5]))] := hD
  refine lv_iload hx hb dX0_adjustedDigit_22 (lv_at hl 0 rfl) ?_
  refine rg (J := 34) (st := []) (if y_1 = 0 then a1 else (a1 + a3)) (fun k => ?_) (fun y_6 ey_6 => ?_)
  · refine lv_if_eq (tgt := 33) hx hb dX0_adjustedDigit_24 (by decide) (fun c_7 => ?_) (fun c_7 => ?_)
    · refine lv_iload_n hx hb dX0_adjustedDigit_33 rfl (lv_at hl 2 rfl) ?_
      exact rg_e k (by first | rw [if_pos c_7] | simp only [if_pos c_7])
    · refine lv_iload_n hx hb dX0_adjustedDigit_27 rfl (lv_at hl 2 rfl) ?_
      refine lv_iload_n hx hb dX0_adjustedDigit_28 rfl (lv_at hl 4 rfl) ?_
      refine lv_iadd hx hb dX0_adjustedDigit_29 ?_
      refine lv_goto (tgt := 34) hx hb dX0_adjustedDigit_30 (by decide) ?_
      exact rg_e k (by first | rw [if_neg c_7] | simp only [if_neg c_7])
  refine lv_istore (lv' := [(5, .int y_6), (4, .int y_1), (0, .ref h0), (1, .int a1), (2, .int a2), (3, .int a3)]) hx hb dX0_adjustedDigit_34 hl (by decide) rfl (fun ls hl => ?_)
  refine lv_iload hx hb dX0_adjustedDigit_36 (lv_at hl 1 rfl) ?_
  refine rg (J := 51) (st := []) (if y_1 = 0 then a2 else (a2 + (a3 * 6))) (fun k => ?_) (fun y_8 ey_8 => ?_)
  · refine lv_if_eq (tgt := 50) hx hb dX0_adjustedDigit_38 (by decide) (fun c_9 => ?_) (fun c_9 => ?_)
    · refine lv_iload_n hx hb dX0_adjustedDigit_50 rfl (lv_at hl 4 rfl) ?_
      exact rg_e k (by first | rw [if_pos c_9] | simp only [if_pos c_9])
    · refine lv_iload_n hx hb dX0_adjustedDigit_41 rfl (lv_at hl 4 rfl) ?_
      refine lv_iload_n hx hb dX0_adjustedDigit_42 rfl (lv_at hl 5 rfl) ?_
      refine lv_bipush (v := 6) hx hb dX0_adjustedDigit_43 (by decide +kernel) ?_
      refine lv_imul hx hb dX0_adjustedDigit_45 ?_
      refine lv_iadd hx hb dX0_adjustedDigit_46 ?_
      refine lv_goto (tgt := 51) hx hb dX0_adjustedDigit_47 (by decide) ?_
      exact rg_e k (by first | rw [if_neg c_9] | simp only [if_neg c_9])
  refine lv_istore (lv' := [(6, .int y_8), (5, .int y_6), (4, .int y_1), (0, .ref h0), (1, .int a1), (2, .int a2), (3, .int a3)]) hx hb dX0_adjustedDigit_51 hl (by decide) rfl (fun ls hl => ?_)
  refine lv_iload hx hb dX0_adjustedDigit_53 (lv_at hl 1 rfl) ?_
  refine lv_iload hx hb dX0_adjustedDigit_55 (lv_at hl 0 rfl) ?_
  refine lv_bipush (v := 15) hx hb dX0_adjustedDigit_57 (by decide +kernel) ?_
  refine lv_iand hx hb dX0_adjustedDigit_59 ?_
  refine pu_calli (F := (f_X0_joined y_6 (y_8 &&& 15))) (va_runS (As := [.int y_6, .int (y_8 &&& 15)]) (rest := []) ⟨hx, hb, hml, hown, hts⟩ (p_X0_joined l _ y_6 (y_8 &&& 15)) (va_cwS 2 hts gX0_adjustedDigit_X0_joined rfl rfl rfl (by decide +kernel) ⟨Nat.le_of_ble_eq_true rfl, Nat.le_of_ble_eq_true rfl⟩) pu_preS rfl rfl hl.1 rfl (lv_room (Nat.le_of_ble_eq_true rfl)) dX0_adjustedDigit_60 ⟨Nat.le_of_ble_eq_true rfl, Nat.le_of_ble_eq_true rfl⟩) ?_
  exact W.iret (v := (f_X0_joined y_6 (y_8 &&& 15))) hx hb hr (fun t ht hW => ⟨⟨(f_X0_joined y_6 (y_8 &&& 15)), u_5, rfl, ⟨(by subst ey_1; subst eu_3; subst eu_5; subst ey_6; subst ey_8; simp only [f_X0_adjustedDigit]), (by subst ey_1; subst eu_3; subst eu_5; subst ey_6; subst ey_8; simp only [f_X0_adjustedDigit])⟩, by rw [ht]; exact hP, va_K.moved hW.alike hK, hD⟩, hS.F ht⟩) hS.2.2 dX0_adjustedDigit_63

/-- what X0_extend answers -/
def f_X0_extend (a1 : Int32) (a2 : Int32) : Int32 :=
  let y_1 : Int32 := (f_X0_signedValue a1 a2)
  let y_2 : Int32 := (if a1 = 0 then (y_1 &&& 65535) else y_1)
  y_2
set_option maxHeartbeats 4000000 in
set_option maxRecDepth 100000 in
theorem p_X0_extend (l : Launch) (dC : Nat → ClassId) (dI : Nat → Nat → Nat) (h0 : Nat) (HH : Heap) (f : Int32) (a1 : Int32) (a2 : Int32) : Met l yX0_extend wsX0_extend ({ frames := 1, cells := 0, slots := 0, locals := 21 }) (va_Pc [.ref h0, .int a1, .int a2] (pu_pre (dC, dI) 1 h0 HH [.int f])) (va_Qi (fun (r : Int32) (_ : Unit) => r = f_X0_extend a1 a2) (fun _ t => t.heap = HH) (fun _ => False)) 0 0 (fun _ => False) := by
  refine Met.ofW (cc := cX0_extend) (maxL := 4) (ret := (some .int)) (by decide) rfl ?_
  intro p e s m args below meth c s₁ B hml hv
  obtain ⟨rfl, hsz, hP, hK⟩ := hv
  have hx := B.exec
  have hb := B.bytes
  have hr := B.returns
  have hts := atoms_spec (ws := wsX0_extend) B.pre
  have hown : s.vm.findClass RX0 = some m.cls := findClass_of_methodNamed B.named
  have hlocks := B.notSynchronized
  subst hsz
  have hl := lv_entry ([.ref h0, .int a1, .int a2]) (n := 4) (Nat.le_of_ble_eq_true rfl)
  rw [lg_entry_eq]
  generalize (lg_sl ([.ref h0, .int a1, .int a2]) ++ List.replicate (4 - (lg_sl ([.ref h0, .int a1, .int a2])).length) Slot.unset).toArray = ls at hl ⊢
  have hl : lv_has ls 4 [(0, .ref h0), (1, .int a1), (2, .int a2)] := hl
  refine lv_iload_n hx hb dX0_extend_0 rfl (lv_at hl 1 rfl) ?_
  refine lv_iload_n hx hb dX0_extend_1 rfl (lv_at hl 2 rfl) ?_
  refine pu_calli (F := (f_X0_signedValue a1 a2)) (va_runS (As := [.int a1, .int a2]) (rest := []) ⟨hx, hb, hml, hown, hts⟩ (p_X0_signedValue l _ a1 a2) (va_cwS 2 hts gX0_extend_X0_signedValue rfl rfl rfl (by decide +kernel) ⟨Nat.le_of_ble_eq_true rfl, Nat.le_of_ble_eq_true rfl⟩) pu_preS rfl rfl hl.1 rfl (lv_room (Nat.le_of_ble_eq_true rfl)) dX0_extend_2 ⟨Nat.le_of_ble_eq_true rfl, Nat.le_of_ble_eq_true rfl⟩) ?_
  refine lv_topi (fun y_1 ey_1 => ?_)
  refine lv_istore_n (lv' := [(3, .int y_1), (0, .ref h0), (1, .int a1), (2, .int a2)]) hx hb dX0_extend_5 rfl hl (by decide) rfl (fun ls hl => ?_)
  refine lv_iload_n hx hb dX0_extend_6 rfl (lv_at hl 2 rfl) ?_
  refine rg (J := 18) (st := []) (if a1 = 0 then (y_1 &&& 65535) else y_1) (fun k => ?_) (fun y_2 ey_2 => ?_)
  · refine lv_if_eq (tgt := 14) hx hb dX0_extend_7 (by decide) (fun c_3 => ?_) (fun c_3 => ?_)
    · refine lv_iload_n hx hb dX0_extend_14 rfl (lv_at hl 0 rfl) ?_
      refine lv_ldc (own := RX0) (index := 63) (v := 65535) hx hb hown (hts (.constant RX0 63 (65535)) (by decide +kernel)) dX0_extend_15 ?_
      refine lv_iand hx hb dX0_extend_17 ?_
      exact rg_e k (by first | rw [if_pos c_3] | simp only [if_pos c_3])
    · refine lv_iload_n hx hb dX0_extend_10 rfl (lv_at hl 0 rfl) ?_
      refine lv_goto (tgt := 18) hx hb dX0_extend_11 (by decide) ?_
      exact rg_e k (by first | rw [if_neg c_3] | simp only [if_neg c_3])
  exact W.iret (v := y_2) hx hb hr (fun t ht hW => ⟨⟨y_2, (), rfl, (by subst ey_1; subst ey_2; simp only [f_X0_extend]), ht⟩, pu_F ht⟩) (fun q h => nomatch h) dX0_extend_18

/-- what X0_set answers -/
def f_X0_set (a1 : Int32) : Int32 :=
  let y_1 : Int32 := (a1 &&& 4053)
  y_1
set_option maxHeartbeats 4000000 in
set_option maxRecDepth 100000 in
theorem p_X0_set (l : Launch) (dC : Nat → ClassId) (dI : Nat → Nat → Nat) (h0 : Nat) (sz : Nat) (f : Int32) (a1 : Int32) : Met l yX0_set wsX0_set ({ frames := 0, cells := 0, slots := 0, locals := 0 }) (va_Pc [.ref h0, .int a1] (wr_pre (dC, dI) 1 h0 sz [.int f])) (va_Qv (fun u : Int32 => u = f_X0_set a1) (wr_at (dC, dI) 1 h0 (fun u : Int32 => [.int u]) (wr_A 1 h0 sz [.int f])) (wr_A 1 h0 sz [.int f])) 0 0 (wr_A 1 h0 sz [.int f]) := by
  refine Met.ofW (cc := cX0_set) (maxL := 2) (ret := none) (by decide) rfl ?_
  intro p e s m args below meth c s₁ B hml hv
  obtain ⟨rfl, hsz, hP, hK, hD0⟩ := hv
  have hx := B.exec
  have hb := B.bytes
  have hr := B.returns
  have hts := atoms_spec (ws := wsX0_set) B.pre
  have hown : s.vm.findClass RX0 = some m.cls := findClass_of_methodNamed B.named
  have hlocks := B.notSynchronized
  subst hsz
  have hD : va_D (wr_A 1 h0 s.heap.size [.int f]) [(h0, .inr (1, [.int f]))] := hD0.self (sz := s.heap.size)
  generalize hAe : wr_A 1 h0 s.heap.size [.int f] = A at hD ⊢
  have hA : ∀ q : Nat, s.heap.size ≤ q → A q := fun q h => by rw [← hAe]; exact Or.inr h
  have hS : va_S A s.heap s.heap [] := va_S.rf
  have hP : va_P (dC, dI) vwCl [(h0, .inr (1, [.int f]))] s.heap := hP
  have hD : va_D A [(h0, .inr (1, [.int f]))] := hD
  have hl := lv_entry ([.ref h0, .int a1]) (n := 2) (Nat.le_of_ble_eq_true rfl)
  rw [lg_entry_eq]
  generalize (lg_sl ([.ref h0, .int a1]) ++ List.replicate (2 - (lg_sl ([.ref h0, .int a1])).length) Slot.unset).toArray = ls at hl ⊢
  have hl : lv_has ls 2 [(0, .ref h0), (1, .int a1)] := hl
  refine lv_aload_n hx hb dX0_set_0 rfl (lv_at hl 0 rfl) ?_
  refine lv_iload_n hx hb dX0_set_1 rfl (lv_at hl 1 rfl) ?_
  refine lv_sipush (v := 4053) hx hb dX0_set_2 (by decide +kernel) ?_
  refine lv_iand hx hb dX0_set_5 ?_
  refine lv_topi (fun y_1 ey_1 => ?_)
  refine va_put (D := (dC, dI)) (ci := 1) (v := .int y_1) (ty := .int) (C := RX0) (T := TX0) (N := 1) hx hb hts (by decide +kernel) tyX0 tyX0_ok nmX0 hown hK hP hD hS 0 rfl rfl 0 (by decide) (hts (.fieldLink RX0 7 "WordArithmetic" "held" "I") (by decide +kernel)) (fun _ h9 => h9) rfl (by decide +kernel) rfl rfl (Nat.le_of_ble_eq_true rfl) dX0_set_6 (fun H locs hP hD hS => ?_)
  have hP : va_P (dC, dI) vwCl [(h0, .inr (1, [.int y_1]))] H := hP
  have hD : va_D A [(h0, .inr (1, [.int y_1]))] := hD
  exact W.vret hx hb hr (fun t ht hW => ⟨⟨y_1, rfl, (by subst ey_1; simp only [f_X0_set]), by rw [ht]; exact hP, va_K.moved hW.alike hK, hD⟩, hS.F ht⟩) hS.2.2 dX0_set_9

/-- what X0_multiply answers -/
def f_X0_multiply (f : Int32) (a1 : Int32) (a2 : Int32) (a3 : Int32) (a4 : Int32) : Int32 × Int32 :=
  let y_1 : Int64 := ((((f_X0_valueOf a1 a2 a3) : Int32).toInt64) * (((f_X0_valueOf a1 a2 a4) : Int32).toInt64))
  let y_2 : Int32 := (if (lg_cmp y_1 (((f_X0_valueOf a1 a2 ((y_1 : Int64).toInt32)) : Int32).toInt64)) = 0 then 0 else 1)
  let u_5 : Int32 := (f_X0_put f 1 y_2)
  let u_7 : Int32 := (f_X0_put u_5 2048 y_2)
  let y_8 : Int32 := (if a1 = 0 then (((y_1 : Int64).toInt32) &&& 65535) else ((y_1 : Int64).toInt32))
  (y_8, u_7)
set_option maxHeartbeats 4000000 in
set_option maxRecDepth 100000 in
theorem p_X0_multiply (l : Launch) (dC : Nat → ClassId) (dI : Nat → Nat → Nat) (h0 : Nat) (sz : Nat) (f : Int32) (a1 : Int32) (a2 : Int32) (a3 : Int32) (a4 : Int32) : Met l yX0_multiply wsX0_multiply ({ frames := 3, cells := 0, slots := 0, locals := 63 }) (va_Pc [.ref h0, .int a1, .int a2, .int a3, .int a4] (wr_pre (dC, dI) 1 h0 sz [.int f])) (va_Qi (fun (r : Int32) (u : Int32) => r = (f_X0_multiply f a1 a2 a3 a4).1 ∧ u = (f_X0_multiply f a1 a2 a3 a4).2) (wr_at (dC, dI) 1 h0 (fun u : Int32 => [.int u]) (wr_A 1 h0 sz [.int f])) (wr_A 1 h0 sz [.int f])) 0 0 (wr_A 1 h0 sz [.int f]) := by
  refine Met.ofW (cc := cX0_multiply) (maxL := 8) (ret := (some .int)) (by decide) rfl ?_
  intro p e s m args below meth c s₁ B hml hv
  obtain ⟨rfl, hsz, hP, hK, hD0⟩ := hv
  have hx := B.exec
  have hb := B.bytes
  have hr := B.returns
  have hts := atoms_spec (ws := wsX0_multiply) B.pre
  have hown : s.vm.findClass RX0 = some m.cls := findClass_of_methodNamed B.named
  have hlocks := B.notSynchronized
  subst hsz
  have hD : va_D (wr_A 1 h0 s.heap.size [.int f]) [(h0, .inr (1, [.int f]))] := hD0.self (sz := s.heap.size)
  generalize hAe : wr_A 1 h0 s.heap.size [.int f] = A at hD ⊢
  have hA : ∀ q : Nat, s.heap.size ≤ q → A q := fun q h => by rw [← hAe]; exact Or.inr h
  have hS : va_S A s.heap s.heap [] := va_S.rf
  have hP : va_P (dC, dI) vwCl [(h0, .inr (1, [.int f]))] s.heap := hP
  have hD : va_D A [(h0, .inr (1, [.int f]))] := hD
  have hl := lv_entry ([.ref h0, .int a1, .int a2, .int a3, .int a4]) (n := 8) (Nat.le_of_ble_eq_true rfl)
  rw [lg_entry_eq]
  generalize (lg_sl ([.ref h0, .int a1, .int a2, .int a3, .int a4]) ++ List.replicate (8 - (lg_sl ([.ref h0, .int a1, .int a2, .int a3, .int a4])).length) Slot.unset).toArray = ls at hl ⊢
  have hl : lv_has ls 8 [(0, .ref h0), (1, .int a1), (2, .int a2), (3, .int a3), (4, .int a4)] := hl
  refine lv_iload_n hx hb dX0_multiply_0 rfl (lv_at hl 1 rfl) ?_
  refine lv_iload_n hx hb dX0_multiply_1 rfl (lv_at hl 2 rfl) ?_
  refine lv_iload_n hx hb dX0_multiply_2 rfl (lv_at hl 3 rfl) ?_
  refine pu_calli (F := (f_X0_valueOf a1 a2 a3)) (va_runS (As := [.int a1, .int a2, .int a3]) (rest := []) ⟨hx, hb, hml, hown, hts⟩ (p_X0_valueOf l _ a1 a2 a3) (va_cwS 3 hts gX0_multiply_X0_valueOf rfl rfl rfl (by decide +kernel) ⟨Nat.le_of_ble_eq_true rfl, Nat.le_of_ble_eq_true rfl⟩) pu_preS rfl rfl hl.1 rfl (lv_room (Nat.le_of_ble_eq_true rfl)) dX0_multiply_3 ⟨Nat.le_of_ble_eq_true rfl, Nat.le_of_ble_eq_true rfl⟩) ?_
  refine lv_i2l (v := ((f_X0_valueOf a1 a2 a3) : Int32).toInt64) hx hb dX0_multiply_6 rfl ?_
  refine lv_iload_n hx hb dX0_multiply_7 rfl (lv_at hl 1 rfl) ?_
  refine lv_iload_n hx hb dX0_multiply_8 rfl (lv_at hl 2 rfl) ?_
  refine lv_iload hx hb dX0_multiply_9 (lv_at hl 4 rfl) ?_
  refine pu_calli (F := (f_X0_valueOf a1 a2 a4)) (va_runS (As := [.int a1, .int a2, .int a4]) (rest := [.long (((f_X0_valueOf a1 a2 a3) : Int32).toInt64)]) ⟨hx, hb, hml, hown, hts⟩ (p_X0_valueOf l _ a1 a2 a4) (va_cwS 3 hts gX0_multiply_X0_valueOf rfl rfl rfl (by decide +kernel) ⟨Nat.le_of_ble_eq_true rfl, Nat.le_of_ble_eq_true rfl⟩) pu_preS rfl rfl hl.1 rfl (lv_room (Nat.le_of_ble_eq_true rfl)) dX0_multiply_11 ⟨Nat.le_of_ble_eq_true rfl, Nat.le_of_ble_eq_true rfl⟩) ?_
  refine lv_i2l (v := ((f_X0_valueOf a1 a2 a4) : Int32).toInt64) hx hb dX0_multiply_14 rfl ?_
  refine lv_lmul hx hb dX0_multiply_15 ?_
  refine lv_topl (fun y_1 ey_1 => ?_)
  refine lv_lstore (lv' := [(5, .long y_1), (0, .ref h0), (1, .int a1), (2, .int a2), (3, .int a3), (4, .int a4)]) hx hb dX0_multiply_16 hl (by decide) rfl (fun ls hl => ?_)
  refine lv_lload hx hb dX0_multiply_18 (lv_at hl 0 rfl) ?_
  refine lv_iload_n hx hb dX0_multiply_20 rfl (lv_at hl 2 rfl) ?_
  refine lv_iload_n hx hb dX0_multiply_21 rfl (lv_at hl 3 rfl) ?_
  refine lv_lload hx hb dX0_multiply_22 (lv_at hl 0 rfl) ?_
  refine lv_l2i (v := (y_1 : Int64).toInt32) hx hb dX0_multiply_24 rfl ?_
  refine pu_calli (F := (f_X0_valueOf a1 a2 ((y_1 : Int64).toInt32))) (va_runS (As := [.int a1, .int a2, .int ((y_1 : Int64).toInt32)]) (rest := [.long y_1]) ⟨hx, hb, hml, hown, hts⟩ (p_X0_valueOf l _ a1 a2 ((y_1 : Int64).toInt32)) (va_cwS 3 hts gX0_multiply_X0_valueOf rfl rfl rfl (by decide +kernel) ⟨Nat.le_of_ble_eq_true rfl, Nat.le_of_ble_eq_true rfl⟩) pu_preS rfl rfl hl.1 rfl (lv_room (Nat.le_of_ble_eq_true rfl)) dX0_multiply_25 ⟨Nat.le_of_ble_eq_true rfl, Nat.le_of_ble_eq_true rfl⟩) ?_
  refine lv_i2l (v := ((f_X0_valueOf a1 a2 ((y_1 : Int64).toInt32)) : Int32).toInt64) hx hb dX0_multiply_28 rfl ?_
  refine W.lcmp hx hb dX0_multiply_29 ?_
  refine rg (J := 38) (st := []) (if (lg_cmp y_1 (((f_X0_valueOf a1 a2 ((y_1 : Int64).toInt32)) : Int32).toInt64)) = 0 then 0 else 1) (fun k => ?_) (fun y_2 ey_2 => ?_)
  · refine lv_if_eq (tgt := 37) hx hb dX0_multiply_30 (by decide) (fun c_3 => ?_) (fun c_3 => ?_)
    · refine lv_iconst (v := 0) hx hb dX0_multiply_37 (by decide) ?_
      exact rg_e k (by first | rw [if_pos c_3] | simp only [if_pos c_3])
    · refine lv_iconst (v := 1) hx hb dX0_multiply_33 (by decide) ?_
      refine lv_goto (tgt := 38) hx hb dX0_multiply_34 (by decide) ?_
      exact rg_e k (by first | rw [if_neg c_3] | simp only [if_neg c_3])
  refine lv_istore (lv' := [(7, .int y_2), (5, .long y_1), (0, .ref h0), (1, .int a1), (2, .int a2), (3, .int a3), (4, .int a4)]) hx hb dX0_multiply_38 hl (by decide) rfl (fun ls hl => ?_)
  refine lv_aload_n hx hb dX0_multiply_40 rfl (lv_at hl 2 rfl) ?_
  refine lv_iconst (v := 1) hx hb dX0_multiply_41 (by decide) ?_
  refine lv_iload hx hb dX0_multiply_42 (lv_at hl 0 rfl) ?_
  refine wr_callv (va_runV (As := [.int 1, .int y_2]) (rest := []) ⟨hx, hb, hml, hown, hts⟩ (p_X0_put l dC dI h0 _ f 1 y_2) (cwV 2 hts gX0_multiply_X0_put rfl rfl rfl (by decide +kernel) ⟨Nat.le_of_ble_eq_true rfl, Nat.le_of_ble_eq_true rfl⟩) (wr_preV (ci := 1) rfl hK hP hD) rfl rfl hl.1 rfl (lv_room (Nat.le_of_ble_eq_true rfl)) dX0_multiply_44 ⟨Nat.le_of_ble_eq_true rfl, Nat.le_of_ble_eq_true rfl⟩) hP hD hS hA (fun u_5 H locs eu_5 hP hD hS => ?_)
  have hP : va_P (dC, dI) vwCl [(h0, .inr (1, [.int u_5]))] H := hP
  have hD : va_D A [(h0, .inr (1, [.int u_5]))] := hD
  refine lv_aload_n hx hb dX0_multiply_47 rfl (lv_at hl 2 rfl) ?_
  refine lv_sipush (v := 2048) hx hb dX0_multiply_48 (by decide +kernel) ?_
  refine lv_iload hx hb dX0_multiply_51 (lv_at hl 0 rfl) ?_
  refine wr_callv (va_runV (As := [.int 2048, .int y_2]) (rest := []) ⟨hx, hb, hml, hown, hts⟩ (p_X0_put l dC dI h0 _ u_5 2048 y_2) (cwV 2 hts gX0_multiply_X0_put rfl rfl rfl (by decide +kernel) ⟨Nat.le_of_ble_eq_true rfl, Nat.le_of_ble_eq_true rfl⟩) (wr_preV (ci := 1) rfl hK hP hD) rfl rfl hl.1 rfl (lv_room (Nat.le_of_ble_eq_true rfl)) dX0_multiply_53 ⟨Nat.le_of_ble_eq_true rfl, Nat.le_of_ble_eq_true rfl⟩) hP hD hS hA (fun u_7 H locs eu_7 hP hD hS => ?_)
  have hP : va_P (dC, dI) vwCl [(h0, .inr (1, [.int u_7]))] H := hP
  have hD : va_D A [(h0, .inr (1, [.int u_7]))] := hD
  refine lv_iload_n hx hb dX0_multiply_56 rfl (lv_at hl 3 rfl) ?_
  refine rg (J := 72) (st := []) (if a1 = 0 then (((y_1 : Int64).toInt32) &&& 65535) else ((y_1 : Int64).toInt32)) (fun k => ?_) (fun y_8 ey_8 => ?_)
  · refine lv_if_eq (tgt := 66) hx hb dX0_multiply_57 (by decide) (fun c_9 => ?_) (fun c_9 => ?_)
    · refine lv_lload hx hb dX0_multiply_66 (lv_at hl 1 rfl) ?_
      refine lv_l2i (v := (y_1 : Int64).toInt32) hx hb dX0_multiply_68 rfl ?_
      refine lv_ldc (own := RX0) (index := 63) (v := 65535) hx hb hown (hts (.constant RX0 63 (65535)) (by decide +kernel)) dX0_multiply_69 ?_
      refine lv_iand hx hb dX0_multiply_71 ?_
      exact rg_e k (by first | rw [if_pos c_9] | simp only [if_pos c_9])
    · refine lv_lload hx hb dX0_multiply_60 (lv_at hl 1 rfl) ?_
      refine lv_l2i (v := (y_1 : Int64).toInt32) hx hb dX0_multiply_62 rfl ?_
      refine lv_goto (tgt := 72) hx hb dX0_multiply_63 (by decide) ?_
      exact rg_e k (by first | rw [if_neg c_9] | simp only [if_neg c_9])
  exact W.iret (v := y_8) hx hb hr (fun t ht hW => ⟨⟨y_8, u_7, rfl, ⟨(by subst ey_1; subst ey_2; subst eu_5; subst eu_7; subst ey_8; simp only [f_X0_multiply]), (by subst ey_1; subst ey_2; subst eu_5; subst eu_7; subst ey_8; simp only [f_X0_multiply])⟩, by rw [ht]; exact hP, va_K.moved hW.alike hK, hD⟩, hS.F ht⟩) hS.2.2 dX0_multiply_72
end
section
/-- what X1_thrown answers -/
def f_X1_thrown (cd : Int32) : Int32 :=
  cd
set_option maxHeartbeats 4000000 in
set_option maxRecDepth 100000 in
theorem p_X1_thrown (l : Launch) (dC : Nat → ClassId) (dI : Nat → Nat → Nat) (h0 : Nat) (HH : Heap) (cd : Int32) (fl : Int32) (al : Int32) : Met l yX1_thrown wsX1_thrown ({ frames := 0, cells := 0, slots := 0, locals := 0 }) (va_Pc [.ref h0] (pu_pre (dC, dI) 2 h0 HH [.int cd, .int fl, .int al])) (va_Qi (fun (r : Int32) (_ : Unit) => r = f_X1_thrown cd) (fun _ t => t.heap = HH) (fun _ => False)) 0 0 (fun _ => False) := by
  refine Met.ofW (cc := cX1_thrown) (maxL := 1) (ret := (some .int)) (by decide) rfl ?_
  intro p e s m args below meth c s₁ B hml hv
  obtain ⟨rfl, hsz, hP, hK⟩ := hv
  have hx := B.exec
  have hb := B.bytes
  have hr := B.returns
  have hts := atoms_spec (ws := wsX1_thrown) B.pre
  have hown : s.vm.findClass RX1 = some m.cls := findClass_of_methodNamed B.named
  have hlocks := B.notSynchronized
  subst hsz
  have hl := lv_entry ([.ref h0]) (n := 1) (Nat.le_of_ble_eq_true rfl)
  rw [lg_entry_eq]
  generalize (lg_sl ([.ref h0]) ++ List.replicate (1 - (lg_sl ([.ref h0])).length) Slot.unset).toArray = ls at hl ⊢
  have hl : lv_has ls 1 [(0, .ref h0)] := hl
  refine lv_aload_n hx hb dX1_thrown_0 rfl (lv_at hl 0 rfl) ?_
  refine va_get (D := (dC, dI)) (ci := 2) (v := .int cd) (C := RX1) (T := TX1) (N := 3) hx hb hts (by decide +kernel) hown hK hP 0 rfl rfl 0 (by decide) (hts (.fieldLink RX1 7 "WordArithmeticModel" "code" "I") (by decide +kernel)) (fun _ h9 => h9) rfl dX1_thrown_1 ?_
  exact W.iret (v := cd) hx hb hr (fun t ht hW => ⟨⟨cd, (), rfl, rfl, ht⟩, pu_F ht⟩) (fun q h => nomatch h) dX1_thrown_4

/-- what X1_length answers -/
def f_X1_length (a1 : Int32) : Int32 :=
  let y_1 : Int32 := (if a1 = 0 then 256 else 65536)
  y_1
theorem hal_len {u w : Int32} (e : u = f_X1_length w) : u = 256 ∨ u = 65536 := by
  rw [e]; unfold f_X1_length; dsimp only; split
  · exact Or.inl rfl
  · exact Or.inr rfl
set_option maxHeartbeats 4000000 in
set_option maxRecDepth 100000 in
theorem p_X1_length (l : Launch) (dC : Nat → ClassId) (dI : Nat → Nat → Nat) (h0 : Nat) (sz : Nat) (cd : Int32) (fl : Int32) (al : Int32) (a1 : Int32) : Met l yX1_length wsX1_length ({ frames := 0, cells := 0, slots := 0, locals := 0 }) (va_Pc [.ref h0, .int a1] (wr_pre (dC, dI) 2 h0 sz [.int cd, .int fl, .int al])) (va_Qv (fun u : Int32 => u = f_X1_length a1) (wr_at (dC, dI) 2 h0 (fun u : Int32 => [.int cd, .int fl, .int u]) (wr_A 2 h0 sz [.int cd, .int fl, .int al])) (wr_A 2 h0 sz [.int cd, .int fl, .int al])) 0 0 (wr_A 2 h0 sz [.int cd, .int fl, .int al]) := by
  refine Met.ofW (cc := cX1_length) (maxL := 2) (ret := none) (by decide) rfl ?_
  intro p e s m args below meth c s₁ B hml hv
  obtain ⟨rfl, hsz, hP, hK, hD0⟩ := hv
  have hx := B.exec
  have hb := B.bytes
  have hr := B.returns
  have hts := atoms_spec (ws := wsX1_length) B.pre
  have hown : s.vm.findClass RX1 = some m.cls := findClass_of_methodNamed B.named
  have hlocks := B.notSynchronized
  subst hsz
  have hD : va_D (wr_A 2 h0 s.heap.size [.int cd, .int fl, .int al]) [(h0, .inr (2, [.int cd, .int fl, .int al]))] := hD0.self (sz := s.heap.size)
  generalize hAe : wr_A 2 h0 s.heap.size [.int cd, .int fl, .int al] = A at hD ⊢
  have hA : ∀ q : Nat, s.heap.size ≤ q → A q := fun q h => by rw [← hAe]; exact Or.inr h
  have hS : va_S A s.heap s.heap [] := va_S.rf
  have hP : va_P (dC, dI) vwCl [(h0, .inr (2, [.int cd, .int fl, .int al]))] s.heap := hP
  have hD : va_D A [(h0, .inr (2, [.int cd, .int fl, .int al]))] := hD
  have hl := lv_entry ([.ref h0, .int a1]) (n := 2) (Nat.le_of_ble_eq_true rfl)
  rw [lg_entry_eq]
  generalize (lg_sl ([.ref h0, .int a1]) ++ List.replicate (2 - (lg_sl ([.ref h0, .int a1])).length) Slot.unset).toArray = ls at hl ⊢
  have hl : lv_has ls 2 [(0, .ref h0), (1, .int a1)] := hl
  refine lv_aload_n hx hb dX1_length_0 rfl (lv_at hl 0 rfl) ?_
  refine lv_iload_n hx hb dX1_length_1 rfl (lv_at hl 1 rfl) ?_
  refine rg (J := 13) (st := [.ref h0]) (if a1 = 0 then 256 else 65536) (fun k => ?_) (fun y_1 ey_1 => ?_)
  · refine lv_if_eq (tgt := 10) hx hb dX1_length_2 (by decide) (fun c_2 => ?_) (fun c_2 => ?_)
    · refine lv_sipush (v := 256) hx hb dX1_length_10 (by decide +kernel) ?_
      exact rg_e k (by first | rw [if_pos c_2] | simp only [if_pos c_2])
    · refine lv_ldc (own := RX1) (index := 13) (v := 65536) hx hb hown (hts (.constant RX1 13 (65536)) (by decide +kernel)) dX1_length_5 ?_
      refine lv_goto (tgt := 13) hx hb dX1_length_7 (by decide) ?_
      exact rg_e k (by first | rw [if_neg c_2] | simp only [if_neg c_2])
  refine va_put (D := (dC, dI)) (ci := 2) (v := .int y_1) (ty := .int) (C := RX1) (T := TX1) (N := 3) hx hb hts (by decide +kernel) tyX1 tyX1_ok nmX1 hown hK hP hD hS 0 rfl rfl 2 (by decide) (hts (.fieldLink RX1 14 "WordArithmeticModel" "all" "I") (by decide +kernel)) (fun _ h9 => h9) rfl (by decide +kernel) rfl rfl (Nat.le_of_ble_eq_true rfl) dX1_length_13 (fun H locs hP hD hS => ?_)
  have hP : va_P (dC, dI) vwCl [(h0, .inr (2, [.int cd, .int fl, .int y_1]))] H := hP
  have hD : va_D A [(h0, .inr (2, [.int cd, .int fl, .int y_1]))] := hD
  exact W.vret hx hb hr (fun t ht hW => ⟨⟨y_1, rfl, (by subst ey_1; simp only [f_X1_length]), by rw [ht]; exact hP, va_K.moved hW.alike hK, hD⟩, hS.F ht⟩) hS.2.2 dX1_length_16

/-- what X1_is answers -/
def f_X1_is (fl : Int32) (a1 : Int32) : Int32 :=
  let y_1 : Int32 := (if (jr (fl / a1) 2) = 1 then 1 else 0)
  y_1
theorem fb_X1_is (fl : Int32) (a1 : Int32) (hq : ¬ a1 = 0) : f_X1_is fl a1 = 0 ∨ f_X1_is fl a1 = 1 := by
  unfold f_X1_is
  (try dsimp only)
  repeat (first | exact Or.inl rfl | exact Or.inr rfl | assumption | split)
set_option maxHeartbeats 4000000 in
set_option maxRecDepth 100000 in
theorem p_X1_is (l : Launch) (dC : Nat → ClassId) (dI : Nat → Nat → Nat) (h0 : Nat) (HH : Heap) (cd : Int32) (fl : Int32) (al : Int32) (a1 : Int32) (hq : ¬ a1 = 0) : Met l yX1_is wsX1_is ({ frames := 0, cells := 0, slots := 0, locals := 0 }) (va_Pc [.ref h0, .int a1] (pu_pre (dC, dI) 2 h0 HH [.int cd, .int fl, .int al])) (va_Qi (fun (r : Int32) (_ : Unit) => r = f_X1_is fl a1) (fun _ t => t.heap = HH) (fun _ => False)) 0 0 (fun _ => False) := by
  refine Met.ofW (cc := cX1_is) (maxL := 2) (ret := (some .boolean)) (by decide) rfl ?_
  intro p e s m args below meth c s₁ B hml hv
  obtain ⟨rfl, hsz, hP, hK⟩ := hv
  have hx := B.exec
  have hb := B.bytes
  have hr := B.returns
  have hts := atoms_spec (ws := wsX1_is) B.pre
  have hown : s.vm.findClass RX1 = some m.cls := findClass_of_methodNamed B.named
  have hlocks := B.notSynchronized
  subst hsz
  have hl := lv_entry ([.ref h0, .int a1]) (n := 2) (Nat.le_of_ble_eq_true rfl)
  rw [lg_entry_eq]
  generalize (lg_sl ([.ref h0, .int a1]) ++ List.replicate (2 - (lg_sl ([.ref h0, .int a1])).length) Slot.unset).toArray = ls at hl ⊢
  have hl : lv_has ls 2 [(0, .ref h0), (1, .int a1)] := hl
  refine lv_aload_n hx hb dX1_is_0 rfl (lv_at hl 0 rfl) ?_
  refine va_get (D := (dC, dI)) (ci := 2) (v := .int fl) (C := RX1) (T := TX1) (N := 3) hx hb hts (by decide +kernel) hown hK hP 0 rfl rfl 1 (by decide) (hts (.fieldLink RX1 17 "WordArithmeticModel" "flags" "I") (by decide +kernel)) (fun _ h9 => h9) rfl dX1_is_1 ?_
  refine lv_iload_n hx hb dX1_is_4 rfl (lv_at hl 1 rfl) ?_
  refine lv_idiv hx hb dX1_is_5 hq ?_
  refine lv_iconst (v := 2) hx hb dX1_is_6 (by decide) ?_
  refine jr_row hx hb dX1_is_7 (by decide) ?_
  refine lv_iconst (v := 1) hx hb dX1_is_8 (by decide) ?_
  refine rg (J := 17) (st := []) (if (jr (fl / a1) 2) = 1 then 1 else 0) (fun k => ?_) (fun y_1 ey_1 => ?_)
  · refine lv_icmp_ne (tgt := 16) hx hb dX1_is_9 (by decide) (fun c_2 => ?_) (fun c_2 => ?_)
    · refine lv_iconst (v := 0) hx hb dX1_is_16 (by decide) ?_
      exact rg_e k (by first | rw [if_neg c_2] | simp only [if_neg c_2])
    · refine lv_iconst (v := 1) hx hb dX1_is_12 (by decide) ?_
      refine lv_goto (tgt := 17) hx hb dX1_is_13 (by decide) ?_
      exact rg_e k (by first | rw [if_pos c_2] | simp only [if_pos c_2])
  exact W.zret (v := y_1) hx hb hr (nb_of (by rw [ey_1]; repeat (first | exact Or.inl rfl | exact Or.inr rfl | apply fb_X0_isSet | apply fb_X0_hasHighestBit | split))) (fun t ht hW => ⟨⟨y_1, (), rfl, (by subst ey_1; simp only [f_X1_is]), ht⟩, pu_F ht⟩) (fun q h => nomatch h) dX1_is_17

/-- what X1_put answers -/
def f_X1_put (fl : Int32) (a1 : Int32) (a2 : Int32) : Int32 :=
  let y_1 : Int32 := (if a2 = (f_X1_is fl a1) then 0 else (if a2 = 0 then (-a1) else a1))
  let y_4 : Int32 := (fl + y_1)
  y_4
set_option maxHeartbeats 4000000 in
set_option maxRecDepth 100000 in
theorem p_X1_put (l : Launch) (dC : Nat → ClassId) (dI : Nat → Nat → Nat) (h0 : Nat) (sz : Nat) (cd : Int32) (fl : Int32) (al : Int32) (a1 : Int32) (a2 : Int32) (hq : ¬ a1 = 0) : Met l yX1_put wsX1_put ({ frames := 1, cells := 0, slots := 0, locals := 21 }) (va_Pc [.ref h0, .int a1, .int a2] (wr_pre (dC, dI) 2 h0 sz [.int cd, .int fl, .int al])) (va_Qv (fun u : Int32 => u = f_X1_put fl a1 a2) (wr_at (dC, dI) 2 h0 (fun u : Int32 => [.int cd, .int u, .int al]) (wr_A 2 h0 sz [.int cd, .int fl, .int al])) (wr_A 2 h0 sz [.int cd, .int fl, .int al])) 0 0 (wr_A 2 h0 sz [.int cd, .int fl, .int al]) := by
  refine Met.ofW (cc := cX1_put) (maxL := 3) (ret := none) (by decide) rfl ?_
  intro p e s m args below meth c s₁ B hml hv
  obtain ⟨rfl, hsz, hP, hK, hD0⟩ := hv
  have hx := B.exec
  have hb := B.bytes
  have hr := B.returns
  have hts := atoms_spec (ws := wsX1_put) B.pre
  have hown : s.vm.findClass RX1 = some m.cls := findClass_of_methodNamed B.named
  have hlocks := B.notSynchronized
  subst hsz
  have hD : va_D (wr_A 2 h0 s.heap.size [.int cd, .int fl, .int al]) [(h0, .inr (2, [.int cd, .int fl, .int al]))] := hD0.self (sz := s.heap.size)
  generalize hAe : wr_A 2 h0 s.heap.size [.int cd, .int fl, .int al] = A at hD ⊢
  have hA : ∀ q : Nat, s.heap.size ≤ q → A q := fun q h => by rw [← hAe]; exact Or.inr h
  have hS : va_S A s.heap s.heap [] := va_S.rf
  have hP : va_P (dC, dI) vwCl [(h0, .inr (2, [.int cd, .int fl, .int al]))] s.heap := hP
  have hD : va_D A [(h0, .inr (2, [.int cd, .int fl, .int al]))] := hD
  have hl := lv_entry ([.ref h0, .int a1, .int a2]) (n := 3) (Nat.le_of_ble_eq_true rfl)
  rw [lg_entry_eq]
  generalize (lg_sl ([.ref h0, .int a1, .int a2]) ++ List.replicate (3 - (lg_sl ([.ref h0, .int a1, .int a2])).length) Slot.unset).toArray = ls at hl ⊢
  have hl : lv_has ls 3 [(0, .ref h0), (1, .int a1), (2, .int a2)] := hl
  refine lv_aload_n hx hb dX1_put_0 rfl (lv_at hl 0 rfl) ?_
  refine lv_aload_n hx hb dX1_put_1 rfl (lv_at hl 0 rfl) ?_
  refine va_get (D := (dC, dI)) (ci := 2) (v := .int fl) (C := RX1) (T := TX1) (N := 3) hx hb hts (by decide +kernel) hown hK hP 0 rfl rfl 1 (by decide) (hts (.fieldLink RX1 17 "WordArithmeticModel" "flags" "I") (by decide +kernel)) (fun _ h9 => h9) rfl dX1_put_2 ?_
  refine lv_iload_n hx hb dX1_put_5 rfl (lv_at hl 2 rfl) ?_
  refine lv_aload_n hx hb dX1_put_6 rfl (lv_at hl 0 rfl) ?_
  refine lv_iload_n hx hb dX1_put_7 rfl (lv_at hl 1 rfl) ?_
  refine pu_calli (F := (f_X1_is fl a1)) (va_runV (As := [.int a1]) (rest := [.int a2, .int fl, .ref h0]) ⟨hx, hb, hml, hown, hts⟩ (p_X1_is l dC dI h0 _ cd fl al a1 hq) (cwV 1 hts gX1_put_X1_is rfl rfl rfl (by decide +kernel) ⟨Nat.le_of_ble_eq_true rfl, Nat.le_of_ble_eq_true rfl⟩) (pu_preV (ci := 2) rfl hK hP) rfl rfl hl.1 rfl (lv_room (Nat.le_of_ble_eq_true rfl)) dX1_put_8 ⟨Nat.le_of_ble_eq_true rfl, Nat.le_of_ble_eq_true rfl⟩) ?_
  refine rg (J := 28) (st := [.int fl, .ref h0]) (if a2 = (f_X1_is fl a1) then 0 else (if a2 = 0 then (-a1) else a1)) (fun k => ?_) (fun y_1 ey_1 => ?_)
  · refine lv_icmp_ne (tgt := 18) hx hb dX1_put_11 (by decide) (fun c_2 => ?_) (fun c_2 => ?_)
    · refine lv_iload_n hx hb dX1_put_18 rfl (lv_at hl 2 rfl) ?_
      refine lv_if_eq (tgt := 26) hx hb dX1_put_19 (by decide) (fun c_3 => ?_) (fun c_3 => ?_)
      · refine lv_iload_n hx hb dX1_put_26 rfl (lv_at hl 1 rfl) ?_
        refine lv_ineg hx hb dX1_put_27 ?_
        exact rg_e k (by first | rw [if_neg c_2, if_pos c_3] | simp only [if_neg c_2, if_pos c_3])
      · refine lv_iload_n hx hb dX1_put_22 rfl (lv_at hl 1 rfl) ?_
        refine lv_goto (tgt := 28) hx hb dX1_put_23 (by decide) ?_
        exact rg_e k (by first | rw [if_neg c_2, if_neg c_3] | simp only [if_neg c_2, if_neg c_3])
    · refine lv_iconst (v := 0) hx hb dX1_put_14 (by decide) ?_
      refine lv_goto (tgt := 28) hx hb dX1_put_15 (by decide) ?_
      exact rg_e k (by first | rw [if_pos c_2] | simp only [if_pos c_2])
  refine lv_iadd hx hb dX1_put_28 ?_
  refine lv_topi (fun y_4 ey_4 => ?_)
  refine va_put (D := (dC, dI)) (ci := 2) (v := .int y_4) (ty := .int) (C := RX1) (T := TX1) (N := 3) hx hb hts (by decide +kernel) tyX1 tyX1_ok nmX1 hown hK hP hD hS 0 rfl rfl 1 (by decide) (hts (.fieldLink RX1 17 "WordArithmeticModel" "flags" "I") (by decide +kernel)) (fun _ h9 => h9) rfl (by decide +kernel) rfl rfl (Nat.le_of_ble_eq_true rfl) dX1_put_29 (fun H locs hP hD hS => ?_)
  have hP : va_P (dC, dI) vwCl [(h0, .inr (2, [.int cd, .int y_4, .int al]))] H := hP
  have hD : va_D A [(h0, .inr (2, [.int cd, .int y_4, .int al]))] := hD
  exact W.vret hx hb hr (fun t ht hW => ⟨⟨y_4, rfl, (by subst ey_1; subst ey_4; simp only [f_X1_put]), by rw [ht]; exact hP, va_K.moved hW.alike hK, hD⟩, hS.F ht⟩) hS.2.2 dX1_put_32

/-- what X1_operand answers -/
def f_X1_operand (al : Int32) (a1 : Int32) : Int32 :=
  (a1 &&& (al - 1))
set_option maxHeartbeats 4000000 in
set_option maxRecDepth 100000 in
theorem p_X1_operand (l : Launch) (dC : Nat → ClassId) (dI : Nat → Nat → Nat) (h0 : Nat) (HH : Heap) (cd : Int32) (fl : Int32) (al : Int32) (a1 : Int32) : Met l yX1_operand wsX1_operand ({ frames := 0, cells := 0, slots := 0, locals := 0 }) (va_Pc [.ref h0, .int a1] (pu_pre (dC, dI) 2 h0 HH [.int cd, .int fl, .int al])) (va_Qi (fun (r : Int32) (_ : Unit) => r = f_X1_operand al a1) (fun _ t => t.heap = HH) (fun _ => False)) 0 0 (fun _ => False) := by
  refine Met.ofW (cc := cX1_operand) (maxL := 2) (ret := (some .int)) (by decide) rfl ?_
  intro p e s m args below meth c s₁ B hml hv
  obtain ⟨rfl, hsz, hP, hK⟩ := hv
  have hx := B.exec
  have hb := B.bytes
  have hr := B.returns
  have hts := atoms_spec (ws := wsX1_operand) B.pre
  have hown : s.vm.findClass RX1 = some m.cls := findClass_of_methodNamed B.named
  have hlocks := B.notSynchronized
  subst hsz
  have hl := lv_entry ([.ref h0, .int a1]) (n := 2) (Nat.le_of_ble_eq_true rfl)
  rw [lg_entry_eq]
  generalize (lg_sl ([.ref h0, .int a1]) ++ List.replicate (2 - (lg_sl ([.ref h0, .int a1])).length) Slot.unset).toArray = ls at hl ⊢
  have hl : lv_has ls 2 [(0, .ref h0), (1, .int a1)] := hl
  refine lv_iload_n hx hb dX1_operand_0 rfl (lv_at hl 1 rfl) ?_
  refine lv_aload_n hx hb dX1_operand_1 rfl (lv_at hl 0 rfl) ?_
  refine va_get (D := (dC, dI)) (ci := 2) (v := .int al) (C := RX1) (T := TX1) (N := 3) hx hb hts (by decide +kernel) hown hK hP 0 rfl rfl 2 (by decide) (hts (.fieldLink RX1 14 "WordArithmeticModel" "all" "I") (by decide +kernel)) (fun _ h9 => h9) rfl dX1_operand_2 ?_
  refine lv_iconst (v := 1) hx hb dX1_operand_5 (by decide) ?_
  refine lv_isub hx hb dX1_operand_6 ?_
  refine lv_iand hx hb dX1_operand_7 ?_
  exact W.iret (v := (a1 &&& (al - 1))) hx hb hr (fun t ht hW => ⟨⟨(a1 &&& (al - 1)), (), rfl, rfl, ht⟩, pu_F ht⟩) (fun q h => nomatch h) dX1_operand_8

/-- what X1_signed answers -/
def f_X1_signed (al : Int32) (a1 : Int32) : Int32 :=
  let y_1 : Int32 := (if a1 < (al / 2) then a1 else (a1 - al))
  y_1
set_option maxHeartbeats 4000000 in
set_option maxRecDepth 100000 in
theorem p_X1_signed (l : Launch) (dC : Nat → ClassId) (dI : Nat → Nat → Nat) (h0 : Nat) (HH : Heap) (cd : Int32) (fl : Int32) (al : Int32) (a1 : Int32) : Met l yX1_signed wsX1_signed ({ frames := 0, cells := 0, slots := 0, locals := 0 }) (va_Pc [.ref h0, .int a1] (pu_pre (dC, dI) 2 h0 HH [.int cd, .int fl, .int al])) (va_Qi (fun (r : Int32) (_ : Unit) => r = f_X1_signed al a1) (fun _ t => t.heap = HH) (fun _ => False)) 0 0 (fun _ => False) := by
  refine Met.ofW (cc := cX1_signed) (maxL := 2) (ret := (some .int)) (by decide) rfl ?_
  intro p e s m args below meth c s₁ B hml hv
  obtain ⟨rfl, hsz, hP, hK⟩ := hv
  have hx := B.exec
  have hb := B.bytes
  have hr := B.returns
  have hts := atoms_spec (ws := wsX1_signed) B.pre
  have hown : s.vm.findClass RX1 = some m.cls := findClass_of_methodNamed B.named
  have hlocks := B.notSynchronized
  subst hsz
  have hl := lv_entry ([.ref h0, .int a1]) (n := 2) (Nat.le_of_ble_eq_true rfl)
  rw [lg_entry_eq]
  generalize (lg_sl ([.ref h0, .int a1]) ++ List.replicate (2 - (lg_sl ([.ref h0, .int a1])).length) Slot.unset).toArray = ls at hl ⊢
  have hl : lv_has ls 2 [(0, .ref h0), (1, .int a1)] := hl
  refine lv_iload_n hx hb dX1_signed_0 rfl (lv_at hl 1 rfl) ?_
  refine lv_aload_n hx hb dX1_signed_1 rfl (lv_at hl 0 rfl) ?_
  refine va_get (D := (dC, dI)) (ci := 2) (v := .int al) (C := RX1) (T := TX1) (N := 3) hx hb hts (by decide +kernel) hown hK hP 0 rfl rfl 2 (by decide) (hts (.fieldLink RX1 14 "WordArithmeticModel" "all" "I") (by decide +kernel)) (fun _ h9 => h9) rfl dX1_signed_2 ?_
  refine lv_iconst (v := 2) hx hb dX1_signed_5 (by decide) ?_
  refine lv_idiv hx hb dX1_signed_6 (by decide) ?_
  refine rg (J := 20) (st := []) (if a1 < (al / 2) then a1 else (a1 - al)) (fun k => ?_) (fun y_1 ey_1 => ?_)
  · refine lv_icmp_lt (tgt := 19) hx hb dX1_signed_7 (by decide) (fun c_2 => ?_) (fun c_2 => ?_)
    · refine lv_iload_n hx hb dX1_signed_19 rfl (lv_at hl 1 rfl) ?_
      exact rg_e k (by first | rw [if_pos c_2] | simp only [if_pos c_2])
    · refine lv_iload_n hx hb dX1_signed_10 rfl (lv_at hl 1 rfl) ?_
      refine lv_aload_n hx hb dX1_signed_11 rfl (lv_at hl 0 rfl) ?_
      refine va_get (D := (dC, dI)) (ci := 2) (v := .int al) (C := RX1) (T := TX1) (N := 3) hx hb hts (by decide +kernel) hown hK hP 0 rfl rfl 2 (by decide) (hts (.fieldLink RX1 14 "WordArithmeticModel" "all" "I") (by decide +kernel)) (fun _ h9 => h9) rfl dX1_signed_12 ?_
      refine lv_isub hx hb dX1_signed_15 ?_
      refine lv_goto (tgt := 20) hx hb dX1_signed_16 (by decide) ?_
      exact rg_e k (by first | rw [if_neg c_2] | simp only [if_neg c_2])
  exact W.iret (v := y_1) hx hb hr (fun t ht hW => ⟨⟨y_1, (), rfl, (by subst ey_1; simp only [f_X1_signed]), ht⟩, pu_F ht⟩) (fun q h => nomatch h) dX1_signed_20

/-- what X1_set answers -/
def f_X1_set (a1 : Int32) : Int32 × Int32 :=
  let y_1 : Int32 := (a1 &&& 4053)
  (0, y_1)
set_option maxHeartbeats 4000000 in
set_option maxRecDepth 100000 in
theorem p_X1_set (l : Launch) (dC : Nat → ClassId) (dI : Nat → Nat → Nat) (h0 : Nat) (sz : Nat) (cd : Int32) (fl : Int32) (al : Int32) (a1 : Int32) : Met l yX1_set wsX1_set ({ frames := 0, cells := 0, slots := 0, locals := 0 }) (va_Pc [.ref h0, .int a1] (wr_pre (dC, dI) 2 h0 sz [.int cd, .int fl, .int al])) (va_Qv (fun u : Int32 × Int32 => u = f_X1_set a1) (wr_at (dC, dI) 2 h0 (fun u : Int32 × Int32 => [.int u.1, .int u.2, .int al]) (wr_A 2 h0 sz [.int cd, .int fl, .int al])) (wr_A 2 h0 sz [.int cd, .int fl, .int al])) 0 0 (wr_A 2 h0 sz [.int cd, .int fl, .int al]) := by
  refine Met.ofW (cc := cX1_set) (maxL := 2) (ret := none) (by decide) rfl ?_
  intro p e s m args below meth c s₁ B hml hv
  obtain ⟨rfl, hsz, hP, hK, hD0⟩ := hv
  have hx := B.exec
  have hb := B.bytes
  have hr := B.returns
  have hts := atoms_spec (ws := wsX1_set) B.pre
  have hown : s.vm.findClass RX1 = some m.cls := findClass_of_methodNamed B.named
  have hlocks := B.notSynchronized
  subst hsz
  have hD : va_D (wr_A 2 h0 s.heap.size [.int cd, .int fl, .int al]) [(h0, .inr (2, [.int cd, .int fl, .int al]))] := hD0.self (sz := s.heap.size)
  generalize hAe : wr_A 2 h0 s.heap.size [.int cd, .int fl, .int al] = A at hD ⊢
  have hA : ∀ q : Nat, s.heap.size ≤ q → A q := fun q h => by rw [← hAe]; exact Or.inr h
  have hS : va_S A s.heap s.heap [] := va_S.rf
  have hP : va_P (dC, dI) vwCl [(h0, .inr (2, [.int cd, .int fl, .int al]))] s.heap := hP
  have hD : va_D A [(h0, .inr (2, [.int cd, .int fl, .int al]))] := hD
  have hl := lv_entry ([.ref h0, .int a1]) (n := 2) (Nat.le_of_ble_eq_true rfl)
  rw [lg_entry_eq]
  generalize (lg_sl ([.ref h0, .int a1]) ++ List.replicate (2 - (lg_sl ([.ref h0, .int a1])).length) Slot.unset).toArray = ls at hl ⊢
  have hl : lv_has ls 2 [(0, .ref h0), (1, .int a1)] := hl
  refine lv_aload_n hx hb dX1_set_0 rfl (lv_at hl 0 rfl) ?_
  refine lv_iconst (v := 0) hx hb dX1_set_1 (by decide) ?_
  refine va_put (D := (dC, dI)) (ci := 2) (v := .int 0) (ty := .int) (C := RX1) (T := TX1) (N := 3) hx hb hts (by decide +kernel) tyX1 tyX1_ok nmX1 hown hK hP hD hS 0 rfl rfl 0 (by decide) (hts (.fieldLink RX1 7 "WordArithmeticModel" "code" "I") (by decide +kernel)) (fun _ h9 => h9) rfl (by decide +kernel) rfl rfl (Nat.le_of_ble_eq_true rfl) dX1_set_2 (fun H locs hP hD hS => ?_)
  have hP : va_P (dC, dI) vwCl [(h0, .inr (2, [.int 0, .int fl, .int al]))] H := hP
  have hD : va_D A [(h0, .inr (2, [.int 0, .int fl, .int al]))] := hD
  refine lv_aload_n hx hb dX1_set_5 rfl (lv_at hl 0 rfl) ?_
  refine lv_iload_n hx hb dX1_set_6 rfl (lv_at hl 1 rfl) ?_
  refine lv_sipush (v := 4053) hx hb dX1_set_7 (by decide +kernel) ?_
  refine lv_iand hx hb dX1_set_10 ?_
  refine lv_topi (fun y_1 ey_1 => ?_)
  refine va_put (D := (dC, dI)) (ci := 2) (v := .int y_1) (ty := .int) (C := RX1) (T := TX1) (N := 3) hx hb hts (by decide +kernel) tyX1 tyX1_ok nmX1 hown hK hP hD hS 0 rfl rfl 1 (by decide) (hts (.fieldLink RX1 17 "WordArithmeticModel" "flags" "I") (by decide +kernel)) (fun _ h9 => h9) rfl (by decide +kernel) rfl rfl (Nat.le_of_ble_eq_true rfl) dX1_set_11 (fun H locs hP hD hS => ?_)
  have hP : va_P (dC, dI) vwCl [(h0, .inr (2, [.int 0, .int y_1, .int al]))] H := hP
  have hD : va_D A [(h0, .inr (2, [.int 0, .int y_1, .int al]))] := hD
  exact W.vret hx hb hr (fun t ht hW => ⟨⟨(0, y_1), rfl, (by subst ey_1; simp only [f_X1_set]), by rw [ht]; exact hP, va_K.moved hW.alike hK, hD⟩, hS.F ht⟩) hS.2.2 dX1_set_14

/-- what X1_flags answers -/
def f_X1_flags (fl : Int32) : Int32 × Int32 :=
  (fl, 0)
set_option maxHeartbeats 4000000 in
set_option maxRecDepth 100000 in
theorem p_X1_flags (l : Launch) (dC : Nat → ClassId) (dI : Nat → Nat → Nat) (h0 : Nat) (sz : Nat) (cd : Int32) (fl : Int32) (al : Int32) : Met l yX1_flags wsX1_flags ({ frames := 0, cells := 0, slots := 0, locals := 0 }) (va_Pc [.ref h0] (wr_pre (dC, dI) 2 h0 sz [.int cd, .int fl, .int al])) (va_Qi (fun (r : Int32) (u : Int32) => r = (f_X1_flags fl).1 ∧ u = (f_X1_flags fl).2) (wr_at (dC, dI) 2 h0 (fun u : Int32 => [.int u, .int fl, .int al]) (wr_A 2 h0 sz [.int cd, .int fl, .int al])) (wr_A 2 h0 sz [.int cd, .int fl, .int al])) 0 0 (wr_A 2 h0 sz [.int cd, .int fl, .int al]) := by
  refine Met.ofW (cc := cX1_flags) (maxL := 1) (ret := (some .int)) (by decide) rfl ?_
  intro p e s m args below meth c s₁ B hml hv
  obtain ⟨rfl, hsz, hP, hK, hD0⟩ := hv
  have hx := B.exec
  have hb := B.bytes
  have hr := B.returns
  have hts := atoms_spec (ws := wsX1_flags) B.pre
  have hown : s.vm.findClass RX1 = some m.cls := findClass_of_methodNamed B.named
  have hlocks := B.notSynchronized
  subst hsz
  have hD : va_D (wr_A 2 h0 s.heap.size [.int cd, .int fl, .int al]) [(h0, .inr (2, [.int cd, .int fl, .int al]))] := hD0.self (sz := s.heap.size)
  generalize hAe : wr_A 2 h0 s.heap.size [.int cd, .int fl, .int al] = A at hD ⊢
  have hA : ∀ q : Nat, s.heap.size ≤ q → A q := fun q h => by rw [← hAe]; exact Or.inr h
  have hS : va_S A s.heap s.heap [] := va_S.rf
  have hP : va_P (dC, dI) vwCl [(h0, .inr (2, [.int cd, .int fl, .int al]))] s.heap := hP
  have hD : va_D A [(h0, .inr (2, [.int cd, .int fl, .int al]))] := hD
  have hl := lv_entry ([.ref h0]) (n := 1) (Nat.le_of_ble_eq_true rfl)
  rw [lg_entry_eq]
  generalize (lg_sl ([.ref h0]) ++ List.replicate (1 - (lg_sl ([.ref h0])).length) Slot.unset).toArray = ls at hl ⊢
  have hl : lv_has ls 1 [(0, .ref h0)] := hl
  refine lv_aload_n hx hb dX1_flags_0 rfl (lv_at hl 0 rfl) ?_
  refine lv_iconst (v := 0) hx hb dX1_flags_1 (by decide) ?_
  refine va_put (D := (dC, dI)) (ci := 2) (v := .int 0) (ty := .int) (C := RX1) (T := TX1) (N := 3) hx hb hts (by decide +kernel) tyX1 tyX1_ok nmX1 hown hK hP hD hS 0 rfl rfl 0 (by decide) (hts (.fieldLink RX1 7 "WordArithmeticModel" "code" "I") (by decide +kernel)) (fun _ h9 => h9) rfl (by decide +kernel) rfl rfl (Nat.le_of_ble_eq_true rfl) dX1_flags_2 (fun H locs hP hD hS => ?_)
  have hP : va_P (dC, dI) vwCl [(h0, .inr (2, [.int 0, .int fl, .int al]))] H := hP
  have hD : va_D A [(h0, .inr (2, [.int 0, .int fl, .int al]))] := hD
  refine lv_aload_n hx hb dX1_flags_5 rfl (lv_at hl 0 rfl) ?_
  refine va_get (D := (dC, dI)) (ci := 2) (v := .int fl) (C := RX1) (T := TX1) (N := 3) hx hb hts (by decide +kernel) hown hK hP 0 rfl rfl 1 (by decide) (hts (.fieldLink RX1 17 "WordArithmeticModel" "flags" "I") (by decide +kernel)) (fun _ h9 => h9) rfl dX1_flags_6 ?_
  exact W.iret (v := fl) hx hb hr (fun t ht hW => ⟨⟨fl, 0, rfl, ⟨rfl, rfl⟩, by rw [ht]; exact hP, va_K.moved hW.alike hK, hD⟩, hS.F ht⟩) hS.2.2 dX1_flags_9

/-- what X1_byAnswer answers -/
def f_X1_byAnswer (fl : Int32) (al : Int32) (a1 : Int32) : Int32 :=
  let y_1 : Int32 := (if a1 = 0 then 1 else 0)
  let u_4 : Int32 := (f_X1_put fl 64 y_1)
  let y_5 : Int32 := (if a1 < (al / 2) then 0 else 1)
  let u_8 : Int32 := (f_X1_put u_4 128 y_5)
  let y_9 : Int32 := (0 + (jr a1 2))
  let y_10 : Int32 := (a1 / 2)
  let y_11 : Int32 := (y_9 + (jr y_10 2))
  let y_12 : Int32 := (y_10 / 2)
  let y_13 : Int32 := (y_11 + (jr y_12 2))
  let y_14 : Int32 := (y_12 / 2)
  let y_15 : Int32 := (y_13 + (jr y_14 2))
  let y_16 : Int32 := (y_14 / 2)
  let y_17 : Int32 := (y_15 + (jr y_16 2))
  let y_18 : Int32 := (y_16 / 2)
  let y_19 : Int32 := (y_17 + (jr y_18 2))
  let y_20 : Int32 := (y_18 / 2)
  let y_21 : Int32 := (y_19 + (jr y_20 2))
  let y_22 : Int32 := (y_20 / 2)
  let y_23 : Int32 := (y_21 + (jr y_22 2))
  let y_24 : Int32 := (y_22 / 2)
  let y_25 : Int32 := (if (jr y_23 2) = 0 then 1 else 0)
  let u_28 : Int32 := (f_X1_put u_8 4 y_25)
  u_28
set_option maxHeartbeats 4000000 in
set_option maxRecDepth 100000 in
theorem p_X1_byAnswer (l : Launch) (dC : Nat → ClassId) (dI : Nat → Nat → Nat) (h0 : Nat) (sz : Nat) (cd : Int32) (fl : Int32) (al : Int32) (a1 : Int32) : Met l yX1_byAnswer wsX1_byAnswer ({ frames := 2, cells := 0, slots := 0, locals := 43 }) (va_Pc [.ref h0, .int a1] (wr_pre (dC, dI) 2 h0 sz [.int cd, .int fl, .int al])) (va_Qv (fun u : Int32 => u = f_X1_byAnswer fl al a1) (wr_at (dC, dI) 2 h0 (fun u : Int32 => [.int cd, .int u, .int al]) (wr_A 2 h0 sz [.int cd, .int fl, .int al])) (wr_A 2 h0 sz [.int cd, .int fl, .int al])) 0 0 (wr_A 2 h0 sz [.int cd, .int fl, .int al]) := by
  refine Met.ofW (cc := cX1_byAnswer) (maxL := 5) (ret := none) (by decide) rfl ?_
  intro p e s m args below meth c s₁ B hml hv
  obtain ⟨rfl, hsz, hP, hK, hD0⟩ := hv
  have hx := B.exec
  have hb := B.bytes
  have hr := B.returns
  have hts := atoms_spec (ws := wsX1_byAnswer) B.pre
  have hown : s.vm.findClass RX1 = some m.cls := findClass_of_methodNamed B.named
  have hlocks := B.notSynchronized
  subst hsz
  have hD : va_D (wr_A 2 h0 s.heap.size [.int cd, .int fl, .int al]) [(h0, .inr (2, [.int cd, .int fl, .int al]))] := hD0.self (sz := s.heap.size)
  generalize hAe : wr_A 2 h0 s.heap.size [.int cd, .int fl, .int al] = A at hD ⊢
  have hA : ∀ q : Nat, s.heap.size ≤ q → A q := fun q h => by rw [← hAe]; exact Or.inr h
  have hS : va_S A s.heap s.heap [] := va_S.rf
  have hP : va_P (dC, dI) vwCl [(h0, .inr (2, [.int cd, .int fl, .int al]))] s.heap := hP
  have hD : va_D A [(h0, .inr (2, [.int cd, .int fl, .int al]))] := hD
  have hl := lv_entry ([.ref h0, .int a1]) (n := 5) (Nat.le_of_ble_eq_true rfl)
  rw [lg_entry_eq]
  generalize (lg_sl ([.ref h0, .int a1]) ++ List.replicate (5 - (lg_sl ([.ref h0, .int a1])).length) Slot.unset).toArray = ls at hl ⊢
  have hl : lv_has ls 5 [(0, .ref h0), (1, .int a1)] := hl
  refine lv_aload_n hx hb dX1_byAnswer_0 rfl (lv_at hl 0 rfl) ?_
  refine lv_bipush (v := 64) hx hb dX1_byAnswer_1 (by decide +kernel) ?_
  refine lv_iload_n hx hb dX1_byAnswer_3 rfl (lv_at hl 1 rfl) ?_
  refine rg (J := 12) (st := [.int 64, .ref h0]) (if a1 = 0 then 1 else 0) (fun k => ?_) (fun y_1 ey_1 => ?_)
  · refine lv_if_ne (tgt := 11) hx hb dX1_byAnswer_4 (by decide) (fun c_2 => ?_) (fun c_2 => ?_)
    · refine lv_iconst (v := 0) hx hb dX1_byAnswer_11 (by decide) ?_
      exact rg_e k (by first | rw [if_neg c_2] | simp only [if_neg c_2])
    · refine lv_iconst (v := 1) hx hb dX1_byAnswer_7 (by decide) ?_
      refine lv_goto (tgt := 12) hx hb dX1_byAnswer_8 (by decide) ?_
      exact rg_e k (by first | rw [if_pos c_2] | simp only [if_pos c_2])
  refine wr_callv (va_runV (As := [.int 64, .int y_1]) (rest := []) ⟨hx, hb, hml, hown, hts⟩ (p_X1_put l dC dI h0 _ cd fl al 64 y_1 (by decide)) (cwV 2 hts gX1_byAnswer_X1_put rfl rfl rfl (by decide +kernel) ⟨Nat.le_of_ble_eq_true rfl, Nat.le_of_ble_eq_true rfl⟩) (wr_preV (ci := 2) rfl hK hP hD) rfl rfl hl.1 rfl (lv_room (Nat.le_of_ble_eq_true rfl)) dX1_byAnswer_12 ⟨Nat.le_of_ble_eq_true rfl, Nat.le_of_ble_eq_true rfl⟩) hP hD hS hA (fun u_4 H locs eu_4 hP hD hS => ?_)
  have hP : va_P (dC, dI) vwCl [(h0, .inr (2, [.int cd, .int u_4, .int al]))] H := hP
  have hD : va_D A [(h0, .inr (2, [.int cd, .int u_4, .int al]))] := hD
  refine lv_aload_n hx hb dX1_byAnswer_15 rfl (lv_at hl 0 rfl) ?_
  refine lv_sipush (v := 128) hx hb dX1_byAnswer_16 (by decide +kernel) ?_
  refine lv_iload_n hx hb dX1_byAnswer_19 rfl (lv_at hl 1 rfl) ?_
  refine lv_aload_n hx hb dX1_byAnswer_20 rfl (lv_at hl 0 rfl) ?_
  refine va_get (D := (dC, dI)) (ci := 2) (v := .int al) (C := RX1) (T := TX1) (N := 3) hx hb hts (by decide +kernel) hown hK hP 0 rfl rfl 2 (by decide) (hts (.fieldLink RX1 14 "WordArithmeticModel" "all" "I") (by decide +kernel)) (fun _ h9 => h9) rfl dX1_byAnswer_21 ?_
  refine lv_iconst (v := 2) hx hb dX1_byAnswer_24 (by decide) ?_
  refine lv_idiv hx hb dX1_byAnswer_25 (by decide) ?_
  refine rg (J := 34) (st := [.int 128, .ref h0]) (if a1 < (al / 2) then 0 else 1) (fun k => ?_) (fun y_5 ey_5 => ?_)
  · refine lv_icmp_lt (tgt := 33) hx hb dX1_byAnswer_26 (by decide) (fun c_6 => ?_) (fun c_6 => ?_)
    · refine lv_iconst (v := 0) hx hb dX1_byAnswer_33 (by decide) ?_
      exact rg_e k (by first | rw [if_pos c_6] | simp only [if_pos c_6])
    · refine lv_iconst (v := 1) hx hb dX1_byAnswer_29 (by decide) ?_
      refine lv_goto (tgt := 34) hx hb dX1_byAnswer_30 (by decide) ?_
      exact rg_e k (by first | rw [if_neg c_6] | simp only [if_neg c_6])
  refine wr_callv (va_runV (As := [.int 128, .int y_5]) (rest := []) ⟨hx, hb, hml, hown, hts⟩ (p_X1_put l dC dI h0 _ cd u_4 al 128 y_5 (by decide)) (cwV 2 hts gX1_byAnswer_X1_put rfl rfl rfl (by decide +kernel) ⟨Nat.le_of_ble_eq_true rfl, Nat.le_of_ble_eq_true rfl⟩) (wr_preV (ci := 2) rfl hK hP hD) rfl rfl hl.1 rfl (lv_room (Nat.le_of_ble_eq_true rfl)) dX1_byAnswer_34 ⟨Nat.le_of_ble_eq_true rfl, Nat.le_of_ble_eq_true rfl⟩) hP hD hS hA (fun u_8 H locs eu_8 hP hD hS => ?_)
  have hP : va_P (dC, dI) vwCl [(h0, .inr (2, [.int cd, .int u_8, .int al]))] H := hP
  have hD : va_D A [(h0, .inr (2, [.int cd, .int u_8, .int al]))] := hD
  refine lv_iconst (v := 0) hx hb dX1_byAnswer_37 (by decide) ?_
  refine lv_istore_n (lv' := [(2, .int 0), (0, .ref h0), (1, .int a1)]) hx hb dX1_byAnswer_38 rfl hl (by decide) rfl (fun ls hl => ?_)
  refine lv_iconst (v := 0) hx hb dX1_byAnswer_39 (by decide) ?_
  refine lv_istore_n (lv' := [(3, .int 0), (2, .int 0), (0, .ref h0), (1, .int a1)]) hx hb dX1_byAnswer_40 rfl hl (by decide) rfl (fun ls hl => ?_)
  refine lv_iload_n hx hb dX1_byAnswer_41 rfl (lv_at hl 3 rfl) ?_
  refine lv_istore (lv' := [(4, .int a1), (3, .int 0), (2, .int 0), (0, .ref h0), (1, .int a1)]) hx hb dX1_byAnswer_42 hl (by decide) rfl (fun ls hl => ?_)
  refine lv_iload_n hx hb dX1_byAnswer_44 rfl (lv_at hl 1 rfl) ?_
  refine lv_bipush (v := 8) hx hb dX1_byAnswer_45 (by decide +kernel) ?_
  refine lv_icmp_ge (tgt := 69) hx hb dX1_byAnswer_47 (by decide) (fun c => absurd c (by decide)) (fun _ => ?_)
  refine lv_iload_n hx hb dX1_byAnswer_50 rfl (lv_at hl 2 rfl) ?_
  refine lv_iload hx hb dX1_byAnswer_51 (lv_at hl 0 rfl) ?_
  refine lv_iconst (v := 2) hx hb dX1_byAnswer_53 (by decide) ?_
  refine jr_row hx hb dX1_byAnswer_54 (by decide) ?_
  refine lv_iadd hx hb dX1_byAnswer_55 ?_
  refine lv_topi (fun y_9 ey_9 => ?_)
  refine lv_istore_n (lv' := [(2, .int y_9), (4, .int a1), (3, .int 0), (0, .ref h0), (1, .int a1)]) hx hb dX1_byAnswer_56 rfl hl (by decide) rfl (fun ls hl => ?_)
  refine lv_iinc (v := 1) (lv' := [(3, .int 1), (2, .int y_9), (4, .int a1), (0, .ref h0), (1, .int a1)]) hx hb dX1_byAnswer_57 hl (k := 2) rfl (by decide) (by decide) rfl (fun ls hl => ?_)
  refine lv_iload hx hb dX1_byAnswer_60 (lv_at hl 2 rfl) ?_
  refine lv_iconst (v := 2) hx hb dX1_byAnswer_62 (by decide) ?_
  refine lv_idiv hx hb dX1_byAnswer_63 (by decide) ?_
  refine lv_topi (fun y_10 ey_10 => ?_)
  refine lv_istore (lv' := [(4, .int y_10), (3, .int 1), (2, .int y_9), (0, .ref h0), (1, .int a1)]) hx hb dX1_byAnswer_64 hl (by decide) rfl (fun ls hl => ?_)
  refine lv_goto (tgt := 44) hx hb dX1_byAnswer_66 (by decide) ?_
  refine lv_iload_n hx hb dX1_byAnswer_44 rfl (lv_at hl 1 rfl) ?_
  refine lv_bipush (v := 8) hx hb dX1_byAnswer_45 (by decide +kernel) ?_
  refine lv_icmp_ge (tgt := 69) hx hb dX1_byAnswer_47 (by decide) (fun c => absurd c (by decide)) (fun _ => ?_)
  refine lv_iload_n hx hb dX1_byAnswer_50 rfl (lv_at hl 2 rfl) ?_
  refine lv_iload hx hb dX1_byAnswer_51 (lv_at hl 0 rfl) ?_
  refine lv_iconst (v := 2) hx hb dX1_byAnswer_53 (by decide) ?_
  refine jr_row hx hb dX1_byAnswer_54 (by decide) ?_
  refine lv_iadd hx hb dX1_byAnswer_55 ?_
  refine lv_topi (fun y_11 ey_11 => ?_)
  refine lv_istore_n (lv' := [(2, .int y_11), (4, .int y_10), (3, .int 1), (0, .ref h0), (1, .int a1)]) hx hb dX1_byAnswer_56 rfl hl (by decide) rfl (fun ls hl => ?_)
  refine lv_iinc (v := 2) (lv' := [(3, .int 2), (2, .int y_11), (4, .int y_10), (0, .ref h0), (1, .int a1)]) hx hb dX1_byAnswer_57 hl (k := 2) rfl (by decide) (by decide) rfl (fun ls hl => ?_)
  refine lv_iload hx hb dX1_byAnswer_60 (lv_at hl 2 rfl) ?_
  refine lv_iconst (v := 2) hx hb dX1_byAnswer_62 (by decide) ?_
  refine lv_idiv hx hb dX1_byAnswer_63 (by decide) ?_
  refine lv_topi (fun y_12 ey_12 => ?_)
  refine lv_istore (lv' := [(4, .int y_12), (3, .int 2), (2, .int y_11), (0, .ref h0), (1, .int a1)]) hx hb dX1_byAnswer_64 hl (by decide) rfl (fun ls hl => ?_)
  refine lv_goto (tgt := 44) hx hb dX1_byAnswer_66 (by decide) ?_
  refine lv_iload_n hx hb dX1_byAnswer_44 rfl (lv_at hl 1 rfl) ?_
  refine lv_bipush (v := 8) hx hb dX1_byAnswer_45 (by decide +kernel) ?_
  refine lv_icmp_ge (tgt := 69) hx hb dX1_byAnswer_47 (by decide) (fun c => absurd c (by decide)) (fun _ => ?_)
  refine lv_iload_n hx hb dX1_byAnswer_50 rfl (lv_at hl 2 rfl) ?_
  refine lv_iload hx hb dX1_byAnswer_51 (lv_at hl 0 rfl) ?_
  refine lv_iconst (v := 2) hx hb dX1_byAnswer_53 (by decide) ?_
  refine jr_row hx hb dX1_byAnswer_54 (by decide) ?_
  refine lv_iadd hx hb dX1_byAnswer_55 ?_
  refine lv_topi (fun y_13 ey_13 => ?_)
  refine lv_istore_n (lv' := [(2, .int y_13), (4, .int y_12), (3, .int 2), (0, .ref h0), (1, .int a1)]) hx hb dX1_byAnswer_56 rfl hl (by decide) rfl (fun ls hl => ?_)
  refine lv_iinc (v := 3) (lv' := [(3, .int 3), (2, .int y_13), (4, .int y_12), (0, .ref h0), (1, .int a1)]) hx hb dX1_byAnswer_57 hl (k := 2) rfl (by decide) (by decide) rfl (fun ls hl => ?_)
  refine lv_iload hx hb dX1_byAnswer_60 (lv_at hl 2 rfl) ?_
  refine lv_iconst (v := 2) hx hb dX1_byAnswer_62 (by decide) ?_
  refine lv_idiv hx hb dX1_byAnswer_63 (by decide) ?_
  refine lv_topi (fun y_14 ey_14 => ?_)
  refine lv_istore (lv' := [(4, .int y_14), (3, .int 3), (2, .int y_13), (0, .ref h0), (1, .int a1)]) hx hb dX1_byAnswer_64 hl (by decide) rfl (fun ls hl => ?_)
  refine lv_goto (tgt := 44) hx hb dX1_byAnswer_66 (by decide) ?_
  refine lv_iload_n hx hb dX1_byAnswer_44 rfl (lv_at hl 1 rfl) ?_
  refine lv_bipush (v := 8) hx hb dX1_byAnswer_45 (by decide +kernel) ?_
  refine lv_icmp_ge (tgt := 69) hx hb dX1_byAnswer_47 (by decide) (fun c => absurd c (by decide)) (fun _ => ?_)
  refine lv_iload_n hx hb dX1_byAnswer_50 rfl (lv_at hl 2 rfl) ?_
  refine lv_iload hx hb dX1_byAnswer_51 (lv_at hl 0 rfl) ?_
  refine lv_iconst (v := 2) hx hb dX1_byAnswer_53 (by decide) ?_
  refine jr_row hx hb dX1_byAnswer_54 (by decide) ?_
  refine lv_iadd hx hb dX1_byAnswer_55 ?_
  refine lv_topi (fun y_15 ey_15 => ?_)
  refine lv_istore_n (lv' := [(2, .int y_15), (4, .int y_14), (3, .int 3), (0, .ref h0), (1, .int a1)]) hx hb dX1_byAnswer_56 rfl hl (by decide) rfl (fun ls hl => ?_)
  refine lv_iinc (v := 4) (lv' := [(3, .int 4), (2, .int y_15), (4, .int y_14), (0, .ref h0), (1, .int a1)]) hx hb dX1_byAnswer_57 hl (k := 2) rfl (by decide) (by decide) rfl (fun ls hl => ?_)
  refine lv_iload hx hb dX1_byAnswer_60 (lv_at hl 2 rfl) ?_
  refine lv_iconst (v := 2) hx hb dX1_byAnswer_62 (by decide) ?_
  refine lv_idiv hx hb dX1_byAnswer_63 (by decide) ?_
  refine lv_topi (fun y_16 ey_16 => ?_)
  refine lv_istore (lv' := [(4, .int y_16), (3, .int 4), (2, .int y_15), (0, .ref h0), (1, .int a1)]) hx hb dX1_byAnswer_64 hl (by decide) rfl (fun ls hl => ?_)
  refine lv_goto (tgt := 44) hx hb dX1_byAnswer_66 (by decide) ?_
  refine lv_iload_n hx hb dX1_byAnswer_44 rfl (lv_at hl 1 rfl) ?_
  refine lv_bipush (v := 8) hx hb dX1_byAnswer_45 (by decide +kernel) ?_
  refine lv_icmp_ge (tgt := 69) hx hb dX1_byAnswer_47 (by decide) (fun c => absurd c (by decide)) (fun _ => ?_)
  refine lv_iload_n hx hb dX1_byAnswer_50 rfl (lv_at hl 2 rfl) ?_
  refine lv_iload hx hb dX1_byAnswer_51 (lv_at hl 0 rfl) ?_
  refine lv_iconst (v := 2) hx hb dX1_byAnswer_53 (by decide) ?_
  refine jr_row hx hb dX1_byAnswer_54 (by decide) ?_
  refine lv_iadd hx hb dX1_byAnswer_55 ?_
  refine lv_topi (fun y_17 ey_17 => ?_)
  refine lv_istore_n (lv' := [(2, .int y_17), (4, .int y_16), (3, .int 4), (0, .ref h0), (1, .int a1)]) hx hb dX1_byAnswer_56 rfl hl (by decide) rfl (fun ls hl => ?_)
  refine lv_iinc (v := 5) (lv' := [(3, .int 5), (2, .int y_17), (4, .int y_16), (0, .ref h0), (1, .int a1)]) hx hb dX1_byAnswer_57 hl (k := 2) rfl (by decide) (by decide) rfl (fun ls hl => ?_)
  refine lv_iload hx hb dX1_byAnswer_60 (lv_at hl 2 rfl) ?_
  refine lv_iconst (v := 2) hx hb dX1_byAnswer_62 (by decide) ?_
  refine lv_idiv hx hb dX1_byAnswer_63 (by decide) ?_
  refine lv_topi (fun y_18 ey_18 => ?_)
  refine lv_istore (lv' := [(4, .int y_18), (3, .int 5), (2, .int y_17), (0, .ref h0), (1, .int a1)]) hx hb dX1_byAnswer_64 hl (by decide) rfl (fun ls hl => ?_)
  refine lv_goto (tgt := 44) hx hb dX1_byAnswer_66 (by decide) ?_
  refine lv_iload_n hx hb dX1_byAnswer_44 rfl (lv_at hl 1 rfl) ?_
  refine lv_bipush (v := 8) hx hb dX1_byAnswer_45 (by decide +kernel) ?_
  refine lv_icmp_ge (tgt := 69) hx hb dX1_byAnswer_47 (by decide) (fun c => absurd c (by decide)) (fun _ => ?_)
  refine lv_iload_n hx hb dX1_byAnswer_50 rfl (lv_at hl 2 rfl) ?_
  refine lv_iload hx hb dX1_byAnswer_51 (lv_at hl 0 rfl) ?_
  refine lv_iconst (v := 2) hx hb dX1_byAnswer_53 (by decide) ?_
  refine jr_row hx hb dX1_byAnswer_54 (by decide) ?_
  refine lv_iadd hx hb dX1_byAnswer_55 ?_
  refine lv_topi (fun y_19 ey_19 => ?_)
  refine lv_istore_n (lv' := [(2, .int y_19), (4, .int y_18), (3, .int 5), (0, .ref h0), (1, .int a1)]) hx hb dX1_byAnswer_56 rfl hl (by decide) rfl (fun ls hl => ?_)
  refine lv_iinc (v := 6) (lv' := [(3, .int 6), (2, .int y_19), (4, .int y_18), (0, .ref h0), (1, .int a1)]) hx hb dX1_byAnswer_57 hl (k := 2) rfl (by decide) (by decide) rfl (fun ls hl => ?_)
  refine lv_iload hx hb dX1_byAnswer_60 (lv_at hl 2 rfl) ?_
  refine lv_iconst (v := 2) hx hb dX1_byAnswer_62 (by decide) ?_
  refine lv_idiv hx hb dX1_byAnswer_63 (by decide) ?_
  refine lv_topi (fun y_20 ey_20 => ?_)
  refine lv_istore (lv' := [(4, .int y_20), (3, .int 6), (2, .int y_19), (0, .ref h0), (1, .int a1)]) hx hb dX1_byAnswer_64 hl (by decide) rfl (fun ls hl => ?_)
  refine lv_goto (tgt := 44) hx hb dX1_byAnswer_66 (by decide) ?_
  refine lv_iload_n hx hb dX1_byAnswer_44 rfl (lv_at hl 1 rfl) ?_
  refine lv_bipush (v := 8) hx hb dX1_byAnswer_45 (by decide +kernel) ?_
  refine lv_icmp_ge (tgt := 69) hx hb dX1_byAnswer_47 (by decide) (fun c => absurd c (by decide)) (fun _ => ?_)
  refine lv_iload_n hx hb dX1_byAnswer_50 rfl (lv_at hl 2 rfl) ?_
  refine lv_iload hx hb dX1_byAnswer_51 (lv_at hl 0 rfl) ?_
  refine lv_iconst (v := 2) hx hb dX1_byAnswer_53 (by decide) ?_
  refine jr_row hx hb dX1_byAnswer_54 (by decide) ?_
  refine lv_iadd hx hb dX1_byAnswer_55 ?_
  refine lv_topi (fun y_21 ey_21 => ?_)
  refine lv_istore_n (lv' := [(2, .int y_21), (4, .int y_20), (3, .int 6), (0, .ref h0), (1, .int a1)]) hx hb dX1_byAnswer_56 rfl hl (by decide) rfl (fun ls hl => ?_)
  refine lv_iinc (v := 7) (lv' := [(3, .int 7), (2, .int y_21), (4, .int y_20), (0, .ref h0), (1, .int a1)]) hx hb dX1_byAnswer_57 hl (k := 2) rfl (by decide) (by decide) rfl (fun ls hl => ?_)
  refine lv_iload hx hb dX1_byAnswer_60 (lv_at hl 2 rfl) ?_
  refine lv_iconst (v := 2) hx hb dX1_byAnswer_62 (by decide) ?_
  refine lv_idiv hx hb dX1_byAnswer_63 (by decide) ?_
  refine lv_topi (fun y_22 ey_22 => ?_)
  refine lv_istore (lv' := [(4, .int y_22), (3, .int 7), (2, .int y_21), (0, .ref h0), (1, .int a1)]) hx hb dX1_byAnswer_64 hl (by decide) rfl (fun ls hl => ?_)
  refine lv_goto (tgt := 44) hx hb dX1_byAnswer_66 (by decide) ?_
  refine lv_iload_n hx hb dX1_byAnswer_44 rfl (lv_at hl 1 rfl) ?_
  refine lv_bipush (v := 8) hx hb dX1_byAnswer_45 (by decide +kernel) ?_
  refine lv_icmp_ge (tgt := 69) hx hb dX1_byAnswer_47 (by decide) (fun c => absurd c (by decide)) (fun _ => ?_)
  refine lv_iload_n hx hb dX1_byAnswer_50 rfl (lv_at hl 2 rfl) ?_
  refine lv_iload hx hb dX1_byAnswer_51 (lv_at hl 0 rfl) ?_
  refine lv_iconst (v := 2) hx hb dX1_byAnswer_53 (by decide) ?_
  refine jr_row hx hb dX1_byAnswer_54 (by decide) ?_
  refine lv_iadd hx hb dX1_byAnswer_55 ?_
  refine lv_topi (fun y_23 ey_23 => ?_)
  refine lv_istore_n (lv' := [(2, .int y_23), (4, .int y_22), (3, .int 7), (0, .ref h0), (1, .int a1)]) hx hb dX1_byAnswer_56 rfl hl (by decide) rfl (fun ls hl => ?_)
  refine lv_iinc (v := 8) (lv' := [(3, .int 8), (2, .int y_23), (4, .int y_22), (0, .ref h0), (1, .int a1)]) hx hb dX1_byAnswer_57 hl (k := 2) rfl (by decide) (by decide) rfl (fun ls hl => ?_)
  refine lv_iload hx hb dX1_byAnswer_60 (lv_at hl 2 rfl) ?_
  refine lv_iconst (v := 2) hx hb dX1_byAnswer_62 (by decide) ?_
  refine lv_idiv hx hb dX1_byAnswer_63 (by decide) ?_
  refine lv_topi (fun y_24 ey_24 => ?_)
  refine lv_istore (lv' := [(4, .int y_24), (3, .int 8), (2, .int y_23), (0, .ref h0), (1, .int a1)]) hx hb dX1_byAnswer_64 hl (by decide) rfl (fun ls hl => ?_)
  refine lv_goto (tgt := 44) hx hb dX1_byAnswer_66 (by decide) ?_
  refine lv_iload_n hx hb dX1_byAnswer_44 rfl (lv_at hl 1 rfl) ?_
  refine lv_bipush (v := 8) hx hb dX1_byAnswer_45 (by decide +kernel) ?_
  refine lv_icmp_ge (tgt := 69) hx hb dX1_byAnswer_47 (by decide) (fun _ => ?_) (fun c => absurd (by decide) c)
  refine lv_aload_n hx hb dX1_byAnswer_69 rfl (lv_at hl 3 rfl) ?_
  refine lv_iconst (v := 4) hx hb dX1_byAnswer_70 (by decide) ?_
  refine lv_iload_n hx hb dX1_byAnswer_71 rfl (lv_at hl 2 rfl) ?_
  refine lv_iconst (v := 2) hx hb dX1_byAnswer_72 (by decide) ?_
  refine jr_row hx hb dX1_byAnswer_73 (by decide) ?_
  refine rg (J := 82) (st := [.int 4, .ref h0]) (if (jr y_23 2) = 0 then 1 else 0) (fun k => ?_) (fun y_25 ey_25 => ?_)
  · refine lv_if_ne (tgt := 81) hx hb dX1_byAnswer_74 (by decide) (fun c_26 => ?_) (fun c_26 => ?_)
    · refine lv_iconst (v := 0) hx hb dX1_byAnswer_81 (by decide) ?_
      exact rg_e k (by first | rw [if_neg c_26] | simp only [if_neg c_26])
    · refine lv_iconst (v := 1) hx hb dX1_byAnswer_77 (by decide) ?_
      refine lv_goto (tgt := 82) hx hb dX1_byAnswer_78 (by decide) ?_
      exact rg_e k (by first | rw [if_pos c_26] | simp only [if_pos c_26])
  refine wr_callv (va_runV (As := [.int 4, .int y_25]) (rest := []) ⟨hx, hb, hml, hown, hts⟩ (p_X1_put l dC dI h0 _ cd u_8 al 4 y_25 (by decide)) (cwV 2 hts gX1_byAnswer_X1_put rfl rfl rfl (by decide +kernel) ⟨Nat.le_of_ble_eq_true rfl, Nat.le_of_ble_eq_true rfl⟩) (wr_preV (ci := 2) rfl hK hP hD) rfl rfl hl.1 rfl (lv_room (Nat.le_of_ble_eq_true rfl)) dX1_byAnswer_82 ⟨Nat.le_of_ble_eq_true rfl, Nat.le_of_ble_eq_true rfl⟩) hP hD hS hA (fun u_28 H locs eu_28 hP hD hS => ?_)
  have hP : va_P (dC, dI) vwCl [(h0, .inr (2, [.int cd, .int u_28, .int al]))] H := hP
  have hD : va_D A [(h0, .inr (2, [.int cd, .int u_28, .int al]))] := hD
  exact W.vret hx hb hr (fun t ht hW => ⟨⟨u_28, rfl, (by subst ey_1; subst eu_4; subst ey_5; subst eu_8; subst ey_9; subst ey_10; subst ey_11; subst ey_12; subst ey_13; subst ey_14; subst ey_15; subst ey_16; subst ey_17; subst ey_18; subst ey_19; subst ey_20; subst ey_21; subst ey_22; subst ey_23; subst ey_24; subst ey_25; subst eu_28; simp only [f_X1_byAnswer]), by rw [ht]; exact hP, va_K.moved hW.alike hK, hD⟩, hS.F ht⟩) hS.2.2 dX1_byAnswer_85

/-- what X1_sum answers -/
def f_X1_sum (fl : Int32) (al : Int32) (a1 : Int32) (a2 : Int32) (a3 : Int32) : Int32 × Int32 :=
  let y_1 : Int32 := ((a1 + a2) + a3)
  let y_2 : Int32 := (((f_X1_signed al a1) + (f_X1_signed al a2)) + a3)
  let y_3 : Int32 := (if y_1 < al then 0 else 1)
  let u_6 : Int32 := (f_X1_put fl 1 y_3)
  let y_7 : Int32 := (if (((jr a1 16) + (jr a2 16)) + a3) < 16 then 0 else 1)
  let u_10 : Int32 := (f_X1_put u_6 16 y_7)
  let y_11 : Int32 := (if (al / 2) ≤ y_2 then 1 else (if ((-al) / 2) ≤ y_2 then 0 else 1))
  let u_15 : Int32 := (f_X1_put u_10 2048 y_11)
  let u_17 : Int32 := (f_X1_byAnswer u_15 al (jr y_1 al))
  ((jr y_1 al), u_17)
set_option maxHeartbeats 4000000 in
set_option maxRecDepth 100000 in
theorem p_X1_sum (l : Launch) (dC : Nat → ClassId) (dI : Nat → Nat → Nat) (h0 : Nat) (sz : Nat) (cd : Int32) (fl : Int32) (al : Int32) (a1 : Int32) (a2 : Int32) (a3 : Int32) (hal : al = 256 ∨ al = 65536) : Met l yX1_sum wsX1_sum ({ frames := 3, cells := 0, slots := 0, locals := 67 }) (va_Pc [.ref h0, .int a1, .int a2, .int a3] (wr_pre (dC, dI) 2 h0 sz [.int cd, .int fl, .int al])) (va_Qi (fun (r : Int32) (u : Int32) => r = (f_X1_sum fl al a1 a2 a3).1 ∧ u = (f_X1_sum fl al a1 a2 a3).2) (wr_at (dC, dI) 2 h0 (fun u : Int32 => [.int cd, .int u, .int al]) (wr_A 2 h0 sz [.int cd, .int fl, .int al])) (wr_A 2 h0 sz [.int cd, .int fl, .int al])) 0 0 (wr_A 2 h0 sz [.int cd, .int fl, .int al]) := by
  refine Met.ofW (cc := cX1_sum) (maxL := 6) (ret := (some .int)) (by decide) rfl ?_
  intro p e s m args below meth c s₁ B hml hv
  obtain ⟨rfl, hsz, hP, hK, hD0⟩ := hv
  have hx := B.exec
  have hb := B.bytes
  have hr := B.returns
  have hts := atoms_spec (ws := wsX1_sum) B.pre
  have hown : s.vm.findClass RX1 = some m.cls := findClass_of_methodNamed B.named
  have hlocks := B.notSynchronized
  subst hsz
  have hD : va_D (wr_A 2 h0 s.heap.size [.int cd, .int fl, .int al]) [(h0, .inr (2, [.int cd, .int fl, .int al]))] := hD0.self (sz := s.heap.size)
  generalize hAe : wr_A 2 h0 s.heap.size [.int cd, .int fl, .int al] = A at hD ⊢
  have hA : ∀ q : Nat, s.heap.size ≤ q → A q := fun q h => by rw [← hAe]; exact Or.inr h
  have hS : va_S A s.heap s.heap [] := va_S.rf
  have hP : va_P (dC, dI) vwCl [(h0, .inr (2, [.int cd, .int fl, .int al]))] s.heap := hP
  have hD : va_D A [(h0, .inr (2, [.int cd, .int fl, .int al]))] := hD
  have hl := lv_entry ([.ref h0, .int a1, .int a2, .int a3]) (n := 6) (Nat.le_of_ble_eq_true rfl)
  rw [lg_entry_eq]
  generalize (lg_sl ([.ref h0, .int a1, .int a2, .int a3]) ++ List.replicate (6 - (lg_sl ([.ref h0, .int a1, .int a2, .int a3])).length) Slot.unset).toArray = ls at hl ⊢
  have hl : lv_has ls 6 [(0, .ref h0), (1, .int a1), (2, .int a2), (3, .int a3)] := hl
  refine lv_iload_n hx hb dX1_sum_0 rfl (lv_at hl 1 rfl) ?_
  refine lv_iload_n hx hb dX1_sum_1 rfl (lv_at hl 2 rfl) ?_
  refine lv_iadd hx hb dX1_sum_2 ?_
  refine lv_iload_n hx hb dX1_sum_3 rfl (lv_at hl 3 rfl) ?_
  refine lv_iadd hx hb dX1_sum_4 ?_
  refine lv_topi (fun y_1 ey_1 => ?_)
  refine lv_istore (lv' := [(4, .int y_1), (0, .ref h0), (1, .int a1), (2, .int a2), (3, .int a3)]) hx hb dX1_sum_5 hl (by decide) rfl (fun ls hl => ?_)
  refine lv_aload_n hx hb dX1_sum_7 rfl (lv_at hl 1 rfl) ?_
  refine lv_iload_n hx hb dX1_sum_8 rfl (lv_at hl 2 rfl) ?_
  refine pu_calli (F := (f_X1_signed al a1)) (va_runV (As := [.int a1]) (rest := []) ⟨hx, hb, hml, hown, hts⟩ (p_X1_signed l dC dI h0 _ cd fl al a1) (cwV 1 hts gX1_sum_X1_signed rfl rfl rfl (by decide +kernel) ⟨Nat.le_of_ble_eq_true rfl, Nat.le_of_ble_eq_true rfl⟩) (pu_preV (ci := 2) rfl hK hP) rfl rfl hl.1 rfl (lv_room (Nat.le_of_ble_eq_true rfl)) dX1_sum_9 ⟨Nat.le_of_ble_eq_true rfl, Nat.le_of_ble_eq_true rfl⟩) ?_
  refine lv_aload_n hx hb dX1_sum_12 rfl (lv_at hl 1 rfl) ?_
  refine lv_iload_n hx hb dX1_sum_13 rfl (lv_at hl 3 rfl) ?_
  refine pu_calli (F := (f_X1_signed al a2)) (va_runV (As := [.int a2]) (rest := [.int (f_X1_signed al a1)]) ⟨hx, hb, hml, hown, hts⟩ (p_X1_signed l dC dI h0 _ cd fl al a2) (cwV 1 hts gX1_sum_X1_signed rfl rfl rfl (by decide +kernel) ⟨Nat.le_of_ble_eq_true rfl, Nat.le_of_ble_eq_true rfl⟩) (pu_preV (ci := 2) rfl hK hP) rfl rfl hl.1 rfl (lv_room (Nat.le_of_ble_eq_true rfl)) dX1_sum_14 ⟨Nat.le_of_ble_eq_true rfl, Nat.le_of_ble_eq_true rfl⟩) ?_
  refine lv_iadd hx hb dX1_sum_17 ?_
  refine lv_iload_n hx hb dX1_sum_18 rfl (lv_at hl 4 rfl) ?_
  refine lv_iadd hx hb dX1_sum_19 ?_
  refine lv_topi (fun y_2 ey_2 => ?_)
  refine lv_istore (lv' := [(5, .int y_2), (4, .int y_1), (0, .ref h0), (1, .int a1), (2, .int a2), (3, .int a3)]) hx hb dX1_sum_20 hl (by decide) rfl (fun ls hl => ?_)
  refine lv_aload_n hx hb dX1_sum_22 rfl (lv_at hl 2 rfl) ?_
  refine lv_iconst (v := 1) hx hb dX1_sum_23 (by decide) ?_
  refine lv_iload hx hb dX1_sum_24 (lv_at hl 1 rfl) ?_
  refine lv_aload_n hx hb dX1_sum_26 rfl (lv_at hl 2 rfl) ?_
  refine va_get (D := (dC, dI)) (ci := 2) (v := .int al) (C := RX1) (T := TX1) (N := 3) hx hb hts (by decide +kernel) hown hK hP 0 rfl rfl 2 (by decide) (hts (.fieldLink RX1 14 "WordArithmeticModel" "all" "I") (by decide +kernel)) (fun _ h9 => h9) rfl dX1_sum_27 ?_
  refine rg (J := 38) (st := [.int 1, .ref h0]) (if y_1 < al then 0 else 1) (fun k => ?_) (fun y_3 ey_3 => ?_)
  · refine lv_icmp_lt (tgt := 37) hx hb dX1_sum_30 (by decide) (fun c_4 => ?_) (fun c_4 => ?_)
    · refine lv_iconst (v := 0) hx hb dX1_sum_37 (by decide) ?_
      exact rg_e k (by first | rw [if_pos c_4] | simp only [if_pos c_4])
    · refine lv_iconst (v := 1) hx hb dX1_sum_33 (by decide) ?_
      refine lv_goto (tgt := 38) hx hb dX1_sum_34 (by decide) ?_
      exact rg_e k (by first | rw [if_neg c_4] | simp only [if_neg c_4])
  refine wr_callv (va_runV (As := [.int 1, .int y_3]) (rest := []) ⟨hx, hb, hml, hown, hts⟩ (p_X1_put l dC dI h0 _ cd fl al 1 y_3 (by decide)) (cwV 2 hts gX1_sum_X1_put rfl rfl rfl (by decide +kernel) ⟨Nat.le_of_ble_eq_true rfl, Nat.le_of_ble_eq_true rfl⟩) (wr_preV (ci := 2) rfl hK hP hD) rfl rfl hl.1 rfl (lv_room (Nat.le_of_ble_eq_true rfl)) dX1_sum_38 ⟨Nat.le_of_ble_eq_true rfl, Nat.le_of_ble_eq_true rfl⟩) hP hD hS hA (fun u_6 H locs eu_6 hP hD hS => ?_)
  have hP : va_P (dC, dI) vwCl [(h0, .inr (2, [.int cd, .int u_6, .int al]))] H := hP
  have hD : va_D A [(h0, .inr (2, [.int cd, .int u_6, .int al]))] := hD
  refine lv_aload_n hx hb dX1_sum_41 rfl (lv_at hl 2 rfl) ?_
  refine lv_bipush (v := 16) hx hb dX1_sum_42 (by decide +kernel) ?_
  refine lv_iload_n hx hb dX1_sum_44 rfl (lv_at hl 3 rfl) ?_
  refine lv_bipush (v := 16) hx hb dX1_sum_45 (by decide +kernel) ?_
  refine jr_row hx hb dX1_sum_47 (by decide) ?_
  refine lv_iload_n hx hb dX1_sum_48 rfl (lv_at hl 4 rfl) ?_
  refine lv_bipush (v := 16) hx hb dX1_sum_49 (by decide +kernel) ?_
  refine jr_row hx hb dX1_sum_51 (by decide) ?_
  refine lv_iadd hx hb dX1_sum_52 ?_
  refine lv_iload_n hx hb dX1_sum_53 rfl (lv_at hl 5 rfl) ?_
  refine lv_iadd hx hb dX1_sum_54 ?_
  refine lv_bipush (v := 16) hx hb dX1_sum_55 (by decide +kernel) ?_
  refine rg (J := 65) (st := [.int 16, .ref h0]) (if (((jr a1 16) + (jr a2 16)) + a3) < 16 then 0 else 1) (fun k => ?_) (fun y_7 ey_7 => ?_)
  · refine lv_icmp_lt (tgt := 64) hx hb dX1_sum_57 (by decide) (fun c_8 => ?_) (fun c_8 => ?_)
    · refine lv_iconst (v := 0) hx hb dX1_sum_64 (by decide) ?_
      exact rg_e k (by first | rw [if_pos c_8] | simp only [if_pos c_8])
    · refine lv_iconst (v := 1) hx hb dX1_sum_60 (by decide) ?_
      refine lv_goto (tgt := 65) hx hb dX1_sum_61 (by decide) ?_
      exact rg_e k (by first | rw [if_neg c_8] | simp only [if_neg c_8])
  refine wr_callv (va_runV (As := [.int 16, .int y_7]) (rest := []) ⟨hx, hb, hml, hown, hts⟩ (p_X1_put l dC dI h0 _ cd u_6 al 16 y_7 (by decide)) (cwV 2 hts gX1_sum_X1_put rfl rfl rfl (by decide +kernel) ⟨Nat.le_of_ble_eq_true rfl, Nat.le_of_ble_eq_true rfl⟩) (wr_preV (ci := 2) rfl hK hP hD) rfl rfl hl.1 rfl (lv_room (Nat.le_of_ble_eq_true rfl)) dX1_sum_65 ⟨Nat.le_of_ble_eq_true rfl, Nat.le_of_ble_eq_true rfl⟩) hP hD hS hA (fun u_10 H locs eu_10 hP hD hS => ?_)
  have hP : va_P (dC, dI) vwCl [(h0, .inr (2, [.int cd, .int u_10, .int al]))] H := hP
  have hD : va_D A [(h0, .inr (2, [.int cd, .int u_10, .int al]))] := hD
  refine lv_aload_n hx hb dX1_sum_68 rfl (lv_at hl 2 rfl) ?_
  refine lv_sipush (v := 2048) hx hb dX1_sum_69 (by decide +kernel) ?_
  refine lv_iload hx hb dX1_sum_72 (lv_at hl 0 rfl) ?_
  refine lv_aload_n hx hb dX1_sum_74 rfl (lv_at hl 2 rfl) ?_
  refine va_get (D := (dC, dI)) (ci := 2) (v := .int al) (C := RX1) (T := TX1) (N := 3) hx hb hts (by decide +kernel) hown hK hP 0 rfl rfl 2 (by decide) (hts (.fieldLink RX1 14 "WordArithmeticModel" "all" "I") (by decide +kernel)) (fun _ h9 => h9) rfl dX1_sum_75 ?_
  refine lv_iconst (v := 2) hx hb dX1_sum_78 (by decide) ?_
  refine lv_idiv hx hb dX1_sum_79 (by decide) ?_
  refine rg (J := 100) (st := [.int 2048, .ref h0]) (if (al / 2) ≤ y_2 then 1 else (if ((-al) / 2) ≤ y_2 then 0 else 1)) (fun k => ?_) (fun y_11 ey_11 => ?_)
  · refine lv_icmp_ge (tgt := 95) hx hb dX1_sum_80 (by decide) (fun c_12 => ?_) (fun c_12 => ?_)
    · refine lv_iconst (v := 1) hx hb dX1_sum_95 (by decide) ?_
      refine lv_goto (tgt := 100) hx hb dX1_sum_96 (by decide) ?_
      exact rg_e k (by first | rw [if_pos c_12] | simp only [if_pos c_12])
    · refine lv_iload hx hb dX1_sum_83 (lv_at hl 0 rfl) ?_
      refine lv_aload_n hx hb dX1_sum_85 rfl (lv_at hl 2 rfl) ?_
      refine va_get (D := (dC, dI)) (ci := 2) (v := .int al) (C := RX1) (T := TX1) (N := 3) hx hb hts (by decide +kernel) hown hK hP 0 rfl rfl 2 (by decide) (hts (.fieldLink RX1 14 "WordArithmeticModel" "all" "I") (by decide +kernel)) (fun _ h9 => h9) rfl dX1_sum_86 ?_
      refine lv_ineg hx hb dX1_sum_89 ?_
      refine lv_iconst (v := 2) hx hb dX1_sum_90 (by decide) ?_
      refine lv_idiv hx hb dX1_sum_91 (by decide) ?_
      refine lv_icmp_ge (tgt := 99) hx hb dX1_sum_92 (by decide) (fun c_13 => ?_) (fun c_13 => ?_)
      · refine lv_iconst (v := 0) hx hb dX1_sum_99 (by decide) ?_
        exact rg_e k (by first | rw [if_neg c_12, if_pos c_13] | simp only [if_neg c_12, if_pos c_13])
      · refine lv_iconst (v := 1) hx hb dX1_sum_95 (by decide) ?_
        refine lv_goto (tgt := 100) hx hb dX1_sum_96 (by decide) ?_
        exact rg_e k (by first | rw [if_neg c_12, if_neg c_13] | simp only [if_neg c_12, if_neg c_13])
  refine wr_callv (va_runV (As := [.int 2048, .int y_11]) (rest := []) ⟨hx, hb, hml, hown, hts⟩ (p_X1_put l dC dI h0 _ cd u_10 al 2048 y_11 (by decide)) (cwV 2 hts gX1_sum_X1_put rfl rfl rfl (by decide +kernel) ⟨Nat.le_of_ble_eq_true rfl, Nat.le_of_ble_eq_true rfl⟩) (wr_preV (ci := 2) rfl hK hP hD) rfl rfl hl.1 rfl (lv_room (Nat.le_of_ble_eq_true rfl)) dX1_sum_100 ⟨Nat.le_of_ble_eq_true rfl, Nat.le_of_ble_eq_true rfl⟩) hP hD hS hA (fun u_15 H locs eu_15 hP hD hS => ?_)
  have hP : va_P (dC, dI) vwCl [(h0, .inr (2, [.int cd, .int u_15, .int al]))] H := hP
  have hD : va_D A [(h0, .inr (2, [.int cd, .int u_15, .int al]))] := hD
  refine lv_aload_n hx hb dX1_sum_103 rfl (lv_at hl 2 rfl) ?_
  refine lv_iload hx hb dX1_sum_104 (lv_at hl 1 rfl) ?_
  refine lv_aload_n hx hb dX1_sum_106 rfl (lv_at hl 2 rfl) ?_
  refine va_get (D := (dC, dI)) (ci := 2) (v := .int al) (C := RX1) (T := TX1) (N := 3) hx hb hts (by decide +kernel) hown hK hP 0 rfl rfl 2 (by decide) (hts (.fieldLink RX1 14 "WordArithmeticModel" "all" "I") (by decide +kernel)) (fun _ h9 => h9) rfl dX1_sum_107 ?_
  refine jr_row hx hb dX1_sum_110 (hal_0 hal) ?_
  refine wr_callv (va_runV (As := [.int (jr y_1 al)]) (rest := []) ⟨hx, hb, hml, hown, hts⟩ (p_X1_byAnswer l dC dI h0 _ cd u_15 al (jr y_1 al)) (cwV 1 hts gX1_sum_X1_byAnswer rfl rfl rfl (by decide +kernel) ⟨Nat.le_of_ble_eq_true rfl, Nat.le_of_ble_eq_true rfl⟩) (wr_preV (ci := 2) rfl hK hP hD) rfl rfl hl.1 rfl (lv_room (Nat.le_of_ble_eq_true rfl)) dX1_sum_111 ⟨Nat.le_of_ble_eq_true rfl, Nat.le_of_ble_eq_true rfl⟩) hP hD hS hA (fun u_17 H locs eu_17 hP hD hS => ?_)
  have hP : va_P (dC, dI) vwCl [(h0, .inr (2, [.int cd, .int u_17, .int al]))] H := hP
  have hD : va_D A [(h0, .inr (2, [.int cd, .int u_17, .int al]))] := hD
  refine lv_iload hx hb dX1_sum_114 (lv_at hl 1 rfl) ?_
  refine lv_aload_n hx hb dX1_sum_116 rfl (lv_at hl 2 rfl) ?_
  refine va_get (D := (dC, dI)) (ci := 2) (v := .int al) (C := RX1) (T := TX1) (N := 3) hx hb hts (by decide +kernel) hown hK hP 0 rfl rfl 2 (by decide) (hts (.fieldLink RX1 14 "WordArithmeticModel" "all" "I") (by decide +kernel)) (fun _ h9 => h9) rfl dX1_sum_117 ?_
  refine jr_row hx hb dX1_sum_120 (hal_0 hal) ?_
  exact W.iret (v := (jr y_1 al)) hx hb hr (fun t ht hW => ⟨⟨(jr y_1 al), u_17, rfl, ⟨(by subst ey_1; subst ey_2; subst ey_3; subst eu_6; subst ey_7; subst eu_10; subst ey_11; subst eu_15; subst eu_17; simp only [f_X1_sum]), (by subst ey_1; subst ey_2; subst ey_3; subst eu_6; subst ey_7; subst eu_10; subst ey_11; subst eu_15; subst eu_17; simp only [f_X1_sum])⟩, by rw [ht]; exact hP, va_K.moved hW.alike hK, hD⟩, hS.F ht⟩) hS.2.2 dX1_sum_121

/-- what X1_difference answers -/
def f_X1_difference (fl : Int32) (al : Int32) (a1 : Int32) (a2 : Int32) (a3 : Int32) : Int32 × Int32 :=
  let y_1 : Int32 := ((a1 - a2) - a3)
  let y_2 : Int32 := (((f_X1_signed al a1) - (f_X1_signed al a2)) - a3)
  let y_3 : Int32 := (if 0 ≤ y_1 then 0 else 1)
  let u_6 : Int32 := (f_X1_put fl 1 y_3)
  let y_7 : Int32 := (if 0 ≤ (((jr a1 16) - (jr a2 16)) - a3) then 0 else 1)
  let u_10 : Int32 := (f_X1_put u_6 16 y_7)
  let y_11 : Int32 := (if (al / 2) ≤ y_2 then 1 else (if ((-al) / 2) ≤ y_2 then 0 else 1))
  let u_15 : Int32 := (f_X1_put u_10 2048 y_11)
  let y_16 : Int32 := (if 0 ≤ y_1 then y_1 else (y_1 + al))
  let u_19 : Int32 := (f_X1_byAnswer u_15 al y_16)
  (y_16, u_19)
set_option maxHeartbeats 4000000 in
set_option maxRecDepth 100000 in
theorem p_X1_difference (l : Launch) (dC : Nat → ClassId) (dI : Nat → Nat → Nat) (h0 : Nat) (sz : Nat) (cd : Int32) (fl : Int32) (al : Int32) (a1 : Int32) (a2 : Int32) (a3 : Int32) : Met l yX1_difference wsX1_difference ({ frames := 3, cells := 0, slots := 0, locals := 67 }) (va_Pc [.ref h0, .int a1, .int a2, .int a3] (wr_pre (dC, dI) 2 h0 sz [.int cd, .int fl, .int al])) (va_Qi (fun (r : Int32) (u : Int32) => r = (f_X1_difference fl al a1 a2 a3).1 ∧ u = (f_X1_difference fl al a1 a2 a3).2) (wr_at (dC, dI) 2 h0 (fun u : Int32 => [.int cd, .int u, .int al]) (wr_A 2 h0 sz [.int cd, .int fl, .int al])) (wr_A 2 h0 sz [.int cd, .int fl, .int al])) 0 0 (wr_A 2 h0 sz [.int cd, .int fl, .int al]) := by
  refine Met.ofW (cc := cX1_difference) (maxL := 7) (ret := (some .int)) (by decide) rfl ?_
  intro p e s m args below meth c s₁ B hml hv
  obtain ⟨rfl, hsz, hP, hK, hD0⟩ := hv
  have hx := B.exec
  have hb := B.bytes
  have hr := B.returns
  have hts := atoms_spec (ws := wsX1_difference) B.pre
  have hown : s.vm.findClass RX1 = some m.cls := findClass_of_methodNamed B.named
  have hlocks := B.notSynchronized
  subst hsz
  have hD : va_D (wr_A 2 h0 s.heap.size [.int cd, .int fl, .int al]) [(h0, .inr (2, [.int cd, .int fl, .int al]))] := hD0.self (sz := s.heap.size)
  generalize hAe : wr_A 2 h0 s.heap.size [.int cd, .int fl, .int al] = A at hD ⊢
  have hA : ∀ q : Nat, s.heap.size ≤ q → A q := fun q h => by rw [← hAe]; exact Or.inr h
  have hS : va_S A s.heap s.heap [] := va_S.rf
  have hP : va_P (dC, dI) vwCl [(h0, .inr (2, [.int cd, .int fl, .int al]))] s.heap := hP
  have hD : va_D A [(h0, .inr (2, [.int cd, .int fl, .int al]))] := hD
  have hl := lv_entry ([.ref h0, .int a1, .int a2, .int a3]) (n := 7) (Nat.le_of_ble_eq_true rfl)
  rw [lg_entry_eq]
  generalize (lg_sl ([.ref h0, .int a1, .int a2, .int a3]) ++ List.replicate (7 - (lg_sl ([.ref h0, .int a1, .int a2, .int a3])).length) Slot.unset).toArray = ls at hl ⊢
  have hl : lv_has ls 7 [(0, .ref h0), (1, .int a1), (2, .int a2), (3, .int a3)] := hl
  refine lv_iload_n hx hb dX1_difference_0 rfl (lv_at hl 1 rfl) ?_
  refine lv_iload_n hx hb dX1_difference_1 rfl (lv_at hl 2 rfl) ?_
  refine lv_isub hx hb dX1_difference_2 ?_
  refine lv_iload_n hx hb dX1_difference_3 rfl (lv_at hl 3 rfl) ?_
  refine lv_isub hx hb dX1_difference_4 ?_
  refine lv_topi (fun y_1 ey_1 => ?_)
  refine lv_istore (lv' := [(4, .int y_1), (0, .ref h0), (1, .int a1), (2, .int a2), (3, .int a3)]) hx hb dX1_difference_5 hl (by decide) rfl (fun ls hl => ?_)
  refine lv_aload_n hx hb dX1_difference_7 rfl (lv_at hl 1 rfl) ?_
  refine lv_iload_n hx hb dX1_difference_8 rfl (lv_at hl 2 rfl) ?_
  refine pu_calli (F := (f_X1_signed al a1)) (va_runV (As := [.int a1]) (rest := []) ⟨hx, hb, hml, hown, hts⟩ (p_X1_signed l dC dI h0 _ cd fl al a1) (cwV 1 hts gX1_difference_X1_signed rfl rfl rfl (by decide +kernel) ⟨Nat.le_of_ble_eq_true rfl, Nat.le_of_ble_eq_true rfl⟩) (pu_preV (ci := 2) rfl hK hP) rfl rfl hl.1 rfl (lv_room (Nat.le_of_ble_eq_true rfl)) dX1_difference_9 ⟨Nat.le_of_ble_eq_true rfl, Nat.le_of_ble_eq_true rfl⟩) ?_
  refine lv_aload_n hx hb dX1_difference_12 rfl (lv_at hl 1 rfl) ?_
  refine lv_iload_n hx hb dX1_difference_13 rfl (lv_at hl 3 rfl) ?_
  refine pu_calli (F := (f_X1_signed al a2)) (va_runV (As := [.int a2]) (rest := [.int (f_X1_signed al a1)]) ⟨hx, hb, hml, hown, hts⟩ (p_X1_signed l dC dI h0 _ cd fl al a2) (cwV 1 hts gX1_difference_X1_signed rfl rfl rfl (by decide +kernel) ⟨Nat.le_of_ble_eq_true rfl, Nat.le_of_ble_eq_true rfl⟩) (pu_preV (ci := 2) rfl hK hP) rfl rfl hl.1 rfl (lv_room (Nat.le_of_ble_eq_true rfl)) dX1_difference_14 ⟨Nat.le_of_ble_eq_true rfl, Nat.le_of_ble_eq_true rfl⟩) ?_
  refine lv_isub hx hb dX1_difference_17 ?_
  refine lv_iload_n hx hb dX1_difference_18 rfl (lv_at hl 4 rfl) ?_
  refine lv_isub hx hb dX1_difference_19 ?_
  refine lv_topi (fun y_2 ey_2 => ?_)
  refine lv_istore (lv' := [(5, .int y_2), (4, .int y_1), (0, .ref h0), (1, .int a1), (2, .int a2), (3, .int a3)]) hx hb dX1_difference_20 hl (by decide) rfl (fun ls hl => ?_)
  refine lv_aload_n hx hb dX1_difference_22 rfl (lv_at hl 2 rfl) ?_
  refine lv_iconst (v := 1) hx hb dX1_difference_23 (by decide) ?_
  refine lv_iload hx hb dX1_difference_24 (lv_at hl 1 rfl) ?_
  refine rg (J := 34) (st := [.int 1, .ref h0]) (if 0 ≤ y_1 then 0 else 1) (fun k => ?_) (fun y_3 ey_3 => ?_)
  · refine lv_if_ge (tgt := 33) hx hb dX1_difference_26 (by decide) (fun c_4 => ?_) (fun c_4 => ?_)
    · refine lv_iconst (v := 0) hx hb dX1_difference_33 (by decide) ?_
      exact rg_e k (by first | rw [if_pos c_4] | simp only [if_pos c_4])
    · refine lv_iconst (v := 1) hx hb dX1_difference_29 (by decide) ?_
      refine lv_goto (tgt := 34) hx hb dX1_difference_30 (by decide) ?_
      exact rg_e k (by first | rw [if_neg c_4] | simp only [if_neg c_4])
  refine wr_callv (va_runV (As := [.int 1, .int y_3]) (rest := []) ⟨hx, hb, hml, hown, hts⟩ (p_X1_put l dC dI h0 _ cd fl al 1 y_3 (by decide)) (cwV 2 hts gX1_difference_X1_put rfl rfl rfl (by decide +kernel) ⟨Nat.le_of_ble_eq_true rfl, Nat.le_of_ble_eq_true rfl⟩) (wr_preV (ci := 2) rfl hK hP hD) rfl rfl hl.1 rfl (lv_room (Nat.le_of_ble_eq_true rfl)) dX1_difference_34 ⟨Nat.le_of_ble_eq_true rfl, Nat.le_of_ble_eq_true rfl⟩) hP hD hS hA (fun u_6 H locs eu_6 hP hD hS => ?_)
  have hP : va_P (dC, dI) vwCl [(h0, .inr (2, [.int cd, .int u_6, .int al]))] H := hP
  have hD : va_D A [(h0, .inr (2, [.int cd, .int u_6, .int al]))] := hD
  refine lv_aload_n hx hb dX1_difference_37 rfl (lv_at hl 2 rfl) ?_
  refine lv_bipush (v := 16) hx hb dX1_difference_38 (by decide +kernel) ?_
  refine lv_iload_n hx hb dX1_difference_40 rfl (lv_at hl 3 rfl) ?_
  refine lv_bipush (v := 16) hx hb dX1_difference_41 (by decide +kernel) ?_
  refine jr_row hx hb dX1_difference_43 (by decide) ?_
  refine lv_iload_n hx hb dX1_difference_44 rfl (lv_at hl 4 rfl) ?_
  refine lv_bipush (v := 16) hx hb dX1_difference_45 (by decide +kernel) ?_
  refine jr_row hx hb dX1_difference_47 (by decide) ?_
  refine lv_isub hx hb dX1_difference_48 ?_
  refine lv_iload_n hx hb dX1_difference_49 rfl (lv_at hl 5 rfl) ?_
  refine lv_isub hx hb dX1_difference_50 ?_
  refine rg (J := 59) (st := [.int 16, .ref h0]) (if 0 ≤ (((jr a1 16) - (jr a2 16)) - a3) then 0 else 1) (fun k => ?_) (fun y_7 ey_7 => ?_)
  · refine lv_if_ge (tgt := 58) hx hb dX1_difference_51 (by decide) (fun c_8 => ?_) (fun c_8 => ?_)
    · refine lv_iconst (v := 0) hx hb dX1_difference_58 (by decide) ?_
      exact rg_e k (by first | rw [if_pos c_8] | simp only [if_pos c_8])
    · refine lv_iconst (v := 1) hx hb dX1_difference_54 (by decide) ?_
      refine lv_goto (tgt := 59) hx hb dX1_difference_55 (by decide) ?_
      exact rg_e k (by first | rw [if_neg c_8] | simp only [if_neg c_8])
  refine wr_callv (va_runV (As := [.int 16, .int y_7]) (rest := []) ⟨hx, hb, hml, hown, hts⟩ (p_X1_put l dC dI h0 _ cd u_6 al 16 y_7 (by decide)) (cwV 2 hts gX1_difference_X1_put rfl rfl rfl (by decide +kernel) ⟨Nat.le_of_ble_eq_true rfl, Nat.le_of_ble_eq_true rfl⟩) (wr_preV (ci := 2) rfl hK hP hD) rfl rfl hl.1 rfl (lv_room (Nat.le_of_ble_eq_true rfl)) dX1_difference_59 ⟨Nat.le_of_ble_eq_true rfl, Nat.le_of_ble_eq_true rfl⟩) hP hD hS hA (fun u_10 H locs eu_10 hP hD hS => ?_)
  have hP : va_P (dC, dI) vwCl [(h0, .inr (2, [.int cd, .int u_10, .int al]))] H := hP
  have hD : va_D A [(h0, .inr (2, [.int cd, .int u_10, .int al]))] := hD
  refine lv_aload_n hx hb dX1_difference_62 rfl (lv_at hl 2 rfl) ?_
  refine lv_sipush (v := 2048) hx hb dX1_difference_63 (by decide +kernel) ?_
  refine lv_iload hx hb dX1_difference_66 (lv_at hl 0 rfl) ?_
  refine lv_aload_n hx hb dX1_difference_68 rfl (lv_at hl 2 rfl) ?_
  refine va_get (D := (dC, dI)) (ci := 2) (v := .int al) (C := RX1) (T := TX1) (N := 3) hx hb hts (by decide +kernel) hown hK hP 0 rfl rfl 2 (by decide) (hts (.fieldLink RX1 14 "WordArithmeticModel" "all" "I") (by decide +kernel)) (fun _ h9 => h9) rfl dX1_difference_69 ?_
  refine lv_iconst (v := 2) hx hb dX1_difference_72 (by decide) ?_
  refine lv_idiv hx hb dX1_difference_73 (by decide) ?_
  refine rg (J := 94) (st := [.int 2048, .ref h0]) (if (al / 2) ≤ y_2 then 1 else (if ((-al) / 2) ≤ y_2 then 0 else 1)) (fun k => ?_) (fun y_11 ey_11 => ?_)
  · refine lv_icmp_ge (tgt := 89) hx hb dX1_difference_74 (by decide) (fun c_12 => ?_) (fun c_12 => ?_)
    · refine lv_iconst (v := 1) hx hb dX1_difference_89 (by decide) ?_
      refine lv_goto (tgt := 94) hx hb dX1_difference_90 (by decide) ?_
      exact rg_e k (by first | rw [if_pos c_12] | simp only [if_pos c_12])
    · refine lv_iload hx hb dX1_difference_77 (lv_at hl 0 rfl) ?_
      refine lv_aload_n hx hb dX1_difference_79 rfl (lv_at hl 2 rfl) ?_
      refine va_get (D := (dC, dI)) (ci := 2) (v := .int al) (C := RX1) (T := TX1) (N := 3) hx hb hts (by decide +kernel) hown hK hP 0 rfl rfl 2 (by decide) (hts (.fieldLink RX1 14 "WordArithmeticModel" "all" "I") (by decide +kernel)) (fun _ h9 => h9) rfl dX1_difference_80 ?_
      refine lv_ineg hx hb dX1_difference_83 ?_
      refine lv_iconst (v := 2) hx hb dX1_difference_84 (by decide) ?_
      refine lv_idiv hx hb dX1_difference_85 (by decide) ?_
      refine lv_icmp_ge (tgt := 93) hx hb dX1_difference_86 (by decide) (fun c_13 => ?_) (fun c_13 => ?_)
      · refine lv_iconst (v := 0) hx hb dX1_difference_93 (by decide) ?_
        exact rg_e k (by first | rw [if_neg c_12, if_pos c_13] | simp only [if_neg c_12, if_pos c_13])
      · refine lv_iconst (v := 1) hx hb dX1_difference_89 (by decide) ?_
        refine lv_goto (tgt := 94) hx hb dX1_difference_90 (by decide) ?_
        exact rg_e k (by first | rw [if_neg c_12, if_neg c_13] | simp only [if_neg c_12, if_neg c_13])
  refine wr_callv (va_runV (As := [.int 2048, .int y_11]) (rest := []) ⟨hx, hb, hml, hown, hts⟩ (p_X1_put l dC dI h0 _ cd u_10 al 2048 y_11 (by decide)) (cwV 2 hts gX1_difference_X1_put rfl rfl rfl (by decide +kernel) ⟨Nat.le_of_ble_eq_true rfl, Nat.le_of_ble_eq_true rfl⟩) (wr_preV (ci := 2) rfl hK hP hD) rfl rfl hl.1 rfl (lv_room (Nat.le_of_ble_eq_true rfl)) dX1_difference_94 ⟨Nat.le_of_ble_eq_true rfl, Nat.le_of_ble_eq_true rfl⟩) hP hD hS hA (fun u_15 H locs eu_15 hP hD hS => ?_)
  have hP : va_P (dC, dI) vwCl [(h0, .inr (2, [.int cd, .int u_15, .int al]))] H := hP
  have hD : va_D A [(h0, .inr (2, [.int cd, .int u_15, .int al]))] := hD
  refine lv_iload hx hb dX1_difference_97 (lv_at hl 1 rfl) ?_
  refine rg (J := 114) (st := []) (if 0 ≤ y_1 then y_1 else (y_1 + al)) (fun k => ?_) (fun y_16 ey_16 => ?_)
  · refine lv_if_ge (tgt := 112) hx hb dX1_difference_99 (by decide) (fun c_17 => ?_) (fun c_17 => ?_)
    · refine lv_iload hx hb dX1_difference_112 (lv_at hl 1 rfl) ?_
      exact rg_e k (by first | rw [if_pos c_17] | simp only [if_pos c_17])
    · refine lv_iload hx hb dX1_difference_102 (lv_at hl 1 rfl) ?_
      refine lv_aload_n hx hb dX1_difference_104 rfl (lv_at hl 2 rfl) ?_
      refine va_get (D := (dC, dI)) (ci := 2) (v := .int al) (C := RX1) (T := TX1) (N := 3) hx hb hts (by decide +kernel) hown hK hP 0 rfl rfl 2 (by decide) (hts (.fieldLink RX1 14 "WordArithmeticModel" "all" "I") (by decide +kernel)) (fun _ h9 => h9) rfl dX1_difference_105 ?_
      refine lv_iadd hx hb dX1_difference_108 ?_
      refine lv_goto (tgt := 114) hx hb dX1_difference_109 (by decide) ?_
      exact rg_e k (by first | rw [if_neg c_17] | simp only [if_neg c_17])
  refine lv_istore (lv' := [(6, .int y_16), (5, .int y_2), (4, .int y_1), (0, .ref h0), (1, .int a1), (2, .int a2), (3, .int a3)]) hx hb dX1_difference_114 hl (by decide) rfl (fun ls hl => ?_)
  refine lv_aload_n hx hb dX1_difference_116 rfl (lv_at hl 3 rfl) ?_
  refine lv_iload hx hb dX1_difference_117 (lv_at hl 0 rfl) ?_
  refine wr_callv (va_runV (As := [.int y_16]) (rest := []) ⟨hx, hb, hml, hown, hts⟩ (p_X1_byAnswer l dC dI h0 _ cd u_15 al y_16) (cwV 1 hts gX1_difference_X1_byAnswer rfl rfl rfl (by decide +kernel) ⟨Nat.le_of_ble_eq_true rfl, Nat.le_of_ble_eq_true rfl⟩) (wr_preV (ci := 2) rfl hK hP hD) rfl rfl hl.1 rfl (lv_room (Nat.le_of_ble_eq_true rfl)) dX1_difference_119 ⟨Nat.le_of_ble_eq_true rfl, Nat.le_of_ble_eq_true rfl⟩) hP hD hS hA (fun u_19 H locs eu_19 hP hD hS => ?_)
  have hP : va_P (dC, dI) vwCl [(h0, .inr (2, [.int cd, .int u_19, .int al]))] H := hP
  have hD : va_D A [(h0, .inr (2, [.int cd, .int u_19, .int al]))] := hD
  refine lv_iload hx hb dX1_difference_122 (lv_at hl 0 rfl) ?_
  exact W.iret (v := y_16) hx hb hr (fun t ht hW => ⟨⟨y_16, u_19, rfl, ⟨(by subst ey_1; subst ey_2; subst ey_3; subst eu_6; subst ey_7; subst eu_10; subst ey_11; subst eu_15; subst ey_16; subst eu_19; simp only [f_X1_difference]), (by subst ey_1; subst ey_2; subst ey_3; subst eu_6; subst ey_7; subst eu_10; subst ey_11; subst eu_15; subst ey_16; subst eu_19; simp only [f_X1_difference])⟩, by rw [ht]; exact hP, va_K.moved hW.alike hK, hD⟩, hS.F ht⟩) hS.2.2 dX1_difference_124

/-- what X1_once answers -/
def f_X1_once (fl : Int32) (al : Int32) (a1 : Int32) (a2 : Int32) : Int32 × Int32 :=
  let y_1 : Int32 := (if a2 < (al / 2) then 0 else 1)
  let y_3 : Int32 := (if (jr a2 2) = 1 then 1 else 0)
  let y_5 : Int32 := (f_X1_is fl 1)
  let y_6 : Int32 := (if (jr a1 2) = 0 then 1 else 0)
  let y_8 : Int32 := (if a1 = 0 then y_1 else (if a1 = 1 then y_3 else (if 4 ≤ a1 then (if a1 = 7 then (if y_1 = 0 then 0 else 1) else 0) else y_5)))
  let y_14 : Int32 := (if y_6 = 0 then (if y_8 = 0 then ((a2 / 2) + 0) else ((a2 / 2) + (al / 2))) else (if y_8 = 0 then ((jr (2 * a2) al) + 0) else ((jr (2 * a2) al) + 1)))
  let y_18 : Int32 := (if y_6 = 0 then y_3 else y_1)
  let u_21 : Int32 := (f_X1_put fl 1 y_18)
  let y_22 : Int32 := (if y_14 < (al / 2) then 0 else 1)
  let y_24 : Int32 := (if (jr y_14 (al / 2)) < (al / 4) then 0 else 1)
  let y_26 : Int32 := (if y_6 = 0 then (if 4 ≤ a1 then (if a1 = 5 then (if y_1 = 0 then 0 else 1) else 0) else (if y_22 = y_24 then 0 else 1)) else (if (f_X1_is u_21 1) = y_22 then 0 else 1))
  let u_34 : Int32 := (f_X1_put u_21 2048 y_26)
  if a1 ≤ 3 then
  ((y_14, u_34))
  else
  (let u_37 : Int32 := (f_X1_byAnswer u_34 al y_14)
  (y_14, u_37))
set_option maxHeartbeats 4000000 in
set_option maxRecDepth 100000 in
theorem p_X1_once (l : Launch) (dC : Nat → ClassId) (dI : Nat → Nat → Nat) (h0 : Nat) (sz : Nat) (cd : Int32) (fl : Int32) (al : Int32) (a1 : Int32) (a2 : Int32) (hal : al = 256 ∨ al = 65536) : Met l yX1_once wsX1_once ({ frames := 3, cells := 0, slots := 0, locals := 67 }) (va_Pc [.ref h0, .int a1, .int a2] (wr_pre (dC, dI) 2 h0 sz [.int cd, .int fl, .int al])) (va_Qi (fun (r : Int32) (u : Int32) => r = (f_X1_once fl al a1 a2).1 ∧ u = (f_X1_once fl al a1 a2).2) (wr_at (dC, dI) 2 h0 (fun u : Int32 => [.int cd, .int u, .int al]) (wr_A 2 h0 sz [.int cd, .int fl, .int al])) (wr_A 2 h0 sz [.int cd, .int fl, .int al])) 0 0 (wr_A 2 h0 sz [.int cd, .int fl, .int al]) := by
  refine Met.ofW (cc := cX1_once) (maxL := 11) (ret := (some .int)) (by decide) rfl ?_
  intro p e s m args below meth c s₁ B hml hv
  obtain ⟨rfl, hsz, hP, hK, hD0⟩ := hv
  have hx := B.exec
  have hb := B.bytes
  have hr := B.returns
  have hts := atoms_spec (ws := wsX1_once) B.pre
  have hown : s.vm.findClass RX1 = some m.cls := findClass_of_methodNamed B.named
  have hlocks := B.notSynchronized
  subst hsz
  have hD : va_D (wr_A 2 h0 s.heap.size [.int cd, .int fl, .int al]) [(h0, .inr (2, [.int cd, .int fl, .int al]))] := hD0.self (sz := s.heap.size)
  generalize hAe : wr_A 2 h0 s.heap.size [.int cd, .int fl, .int al] = A at hD ⊢
  have hA : ∀ q : Nat, s.heap.size ≤ q → A q := fun q h => by rw [← hAe]; exact Or.inr h
  have hS : va_S A s.heap s.heap [] := va_S.rf
  have hP : va_P (dC, dI) vwCl [(h0, .inr (2, [.int cd, .int fl, .int al]))] s.heap := hP
  have hD : va_D A [(h0, .inr (2, [.int cd, .int fl, .int al]))] := hD
  have hl := lv_entry ([.ref h0, .int a1, .int a2]) (n := 11) (Nat.le_of_ble_eq_true rfl)
  rw [lg_entry_eq]
  generalize (lg_sl ([.ref h0, .int a1, .int a2]) ++ List.replicate (11 - (lg_sl ([.ref h0, .int a1, .int a2])).length) Slot.unset).toArray = ls at hl ⊢
  have hl : lv_has ls 11 [(0, .ref h0), (1, .int a1), (2, .int a2)] := hl
  refine lv_iload_n hx hb dX1_once_0 rfl (lv_at hl 2 rfl) ?_
  refine lv_aload_n hx hb dX1_once_1 rfl (lv_at hl 0 rfl) ?_
  refine va_get (D := (dC, dI)) (ci := 2) (v := .int al) (C := RX1) (T := TX1) (N := 3) hx hb hts (by decide +kernel) hown hK hP 0 rfl rfl 2 (by decide) (hts (.fieldLink RX1 14 "WordArithmeticModel" "all" "I") (by decide +kernel)) (fun _ h9 => h9) rfl dX1_once_2 ?_
  refine lv_iconst (v := 2) hx hb dX1_once_5 (by decide) ?_
  refine lv_idiv hx hb dX1_once_6 (by decide) ?_
  refine rg (J := 15) (st := []) (if a2 < (al / 2) then 0 else 1) (fun k => ?_) (fun y_1 ey_1 => ?_)
  · refine lv_icmp_lt (tgt := 14) hx hb dX1_once_7 (by decide) (fun c_2 => ?_) (fun c_2 => ?_)
    · refine lv_iconst (v := 0) hx hb dX1_once_14 (by decide) ?_
      exact rg_e k (by first | rw [if_pos c_2] | simp only [if_pos c_2])
    · refine lv_iconst (v := 1) hx hb dX1_once_10 (by decide) ?_
      refine lv_goto (tgt := 15) hx hb dX1_once_11 (by decide) ?_
      exact rg_e k (by first | rw [if_neg c_2] | simp only [if_neg c_2])
  refine lv_istore_n (lv' := [(3, .int y_1), (0, .ref h0), (1, .int a1), (2, .int a2)]) hx hb dX1_once_15 rfl hl (by decide) rfl (fun ls hl => ?_)
  refine lv_iload_n hx hb dX1_once_16 rfl (lv_at hl 3 rfl) ?_
  refine lv_iconst (v := 2) hx hb dX1_once_17 (by decide) ?_
  refine jr_row hx hb dX1_once_18 (by decide) ?_
  refine lv_iconst (v := 1) hx hb dX1_once_19 (by decide) ?_
  refine rg (J := 28) (st := []) (if (jr a2 2) = 1 then 1 else 0) (fun k => ?_) (fun y_3 ey_3 => ?_)
  · refine lv_icmp_ne (tgt := 27) hx hb dX1_once_20 (by decide) (fun c_4 => ?_) (fun c_4 => ?_)
    · refine lv_iconst (v := 0) hx hb dX1_once_27 (by decide) ?_
      exact rg_e k (by first | rw [if_neg c_4] | simp only [if_neg c_4])
    · refine lv_iconst (v := 1) hx hb dX1_once_23 (by decide) ?_
      refine lv_goto (tgt := 28) hx hb dX1_once_24 (by decide) ?_
      exact rg_e k (by first | rw [if_pos c_4] | simp only [if_pos c_4])
  refine lv_istore (lv' := [(4, .int y_3), (3, .int y_1), (0, .ref h0), (1, .int a1), (2, .int a2)]) hx hb dX1_once_28 hl (by decide) rfl (fun ls hl => ?_)
  refine lv_aload_n hx hb dX1_once_30 rfl (lv_at hl 2 rfl) ?_
  refine lv_iconst (v := 1) hx hb dX1_once_31 (by decide) ?_
  refine pu_calli (F := (f_X1_is fl 1)) (va_runV (As := [.int 1]) (rest := []) ⟨hx, hb, hml, hown, hts⟩ (p_X1_is l dC dI h0 _ cd fl al 1 (by decide)) (cwV 1 hts gX1_once_X1_is rfl rfl rfl (by decide +kernel) ⟨Nat.le_of_ble_eq_true rfl, Nat.le_of_ble_eq_true rfl⟩) (pu_preV (ci := 2) rfl hK hP) rfl rfl hl.1 rfl (lv_room (Nat.le_of_ble_eq_true rfl)) dX1_once_32 ⟨Nat.le_of_ble_eq_true rfl, Nat.le_of_ble_eq_true rfl⟩) ?_
  refine lv_topi (fun y_5 ey_5 => ?_)
  refine lv_istore (lv' := [(5, .int y_5), (4, .int y_3), (3, .int y_1), (0, .ref h0), (1, .int a1), (2, .int a2)]) hx hb dX1_once_35 hl (by decide) rfl (fun ls hl => ?_)
  refine lv_iload_n hx hb dX1_once_37 rfl (lv_at hl 4 rfl) ?_
  refine lv_iconst (v := 2) hx hb dX1_once_38 (by decide) ?_
  refine jr_row hx hb dX1_once_39 (by decide) ?_
  refine rg (J := 48) (st := []) (if (jr a1 2) = 0 then 1 else 0) (fun k => ?_) (fun y_6 ey_6 => ?_)
  · refine lv_if_ne (tgt := 47) hx hb dX1_once_40 (by decide) (fun c_7 => ?_) (fun c_7 => ?_)
    · refine lv_iconst (v := 0) hx hb dX1_once_47 (by decide) ?_
      exact rg_e k (by first | rw [if_neg c_7] | simp only [if_neg c_7])
    · refine lv_iconst (v := 1) hx hb dX1_once_43 (by decide) ?_
      refine lv_goto (tgt := 48) hx hb dX1_once_44 (by decide) ?_
      exact rg_e k (by first | rw [if_pos c_7] | simp only [if_pos c_7])
  refine lv_istore (lv' := [(6, .int y_6), (5, .int y_5), (4, .int y_3), (3, .int y_1), (0, .ref h0), (1, .int a1), (2, .int a2)]) hx hb dX1_once_48 hl (by decide) rfl (fun ls hl => ?_)
  refine lv_iload_n hx hb dX1_once_50 rfl (lv_at hl 5 rfl) ?_
  refine rg (J := 93) (st := []) (if a1 = 0 then y_1 else (if a1 = 1 then y_3 else (if 4 ≤ a1 then (if a1 = 7 then (if y_1 = 0 then 0 else 1) else 0) else y_5))) (fun k => ?_) (fun y_8 ey_8 => ?_)
  · refine lv_if_ne (tgt := 58) hx hb dX1_once_51 (by decide) (fun c_9 => ?_) (fun c_9 => ?_)
    · refine lv_iload_n hx hb dX1_once_58 rfl (lv_at hl 5 rfl) ?_
      refine lv_iconst (v := 1) hx hb dX1_once_59 (by decide) ?_
      refine lv_icmp_ne (tgt := 68) hx hb dX1_once_60 (by decide) (fun c_10 => ?_) (fun c_10 => ?_)
      · refine lv_iload_n hx hb dX1_once_68 rfl (lv_at hl 5 rfl) ?_
        refine lv_iconst (v := 4) hx hb dX1_once_69 (by decide) ?_
        refine lv_icmp_ge (tgt := 78) hx hb dX1_once_70 (by decide) (fun c_11 => ?_) (fun c_11 => ?_)
        · refine lv_iload_n hx hb dX1_once_78 rfl (lv_at hl 5 rfl) ?_
          refine lv_bipush (v := 7) hx hb dX1_once_79 (by decide +kernel) ?_
          refine lv_icmp_ne (tgt := 92) hx hb dX1_once_81 (by decide) (fun c_12 => ?_) (fun c_12 => ?_)
          · refine lv_iconst (v := 0) hx hb dX1_once_92 (by decide) ?_
            exact rg_e k (by first | rw [if_neg c_9, if_neg c_10, if_pos c_11, if_neg c_12] | simp only [if_neg c_9, if_neg c_10, if_pos c_11, if_neg c_12])
          · refine lv_iload_n hx hb dX1_once_84 rfl (lv_at hl 3 rfl) ?_
            refine lv_if_eq (tgt := 92) hx hb dX1_once_85 (by decide) (fun c_13 => ?_) (fun c_13 => ?_)
            · refine lv_iconst (v := 0) hx hb dX1_once_92 (by decide) ?_
              exact rg_e k (by first | rw [if_neg c_9, if_neg c_10, if_pos c_11, if_pos c_12, if_pos c_13] | simp only [if_neg c_9, if_neg c_10, if_pos c_11, if_pos c_12, if_pos c_13])
            · refine lv_iconst (v := 1) hx hb dX1_once_88 (by decide) ?_
              refine lv_goto (tgt := 93) hx hb dX1_once_89 (by decide) ?_
              exact rg_e k (by first | rw [if_neg c_9, if_neg c_10, if_pos c_11, if_pos c_12, if_neg c_13] | simp only [if_neg c_9, if_neg c_10, if_pos c_11, if_pos c_12, if_neg c_13])
        · refine lv_iload hx hb dX1_once_73 (lv_at hl 1 rfl) ?_
          refine lv_goto (tgt := 93) hx hb dX1_once_75 (by decide) ?_
          exact rg_e k (by first | rw [if_neg c_9, if_neg c_10, if_neg c_11] | simp only [if_neg c_9, if_neg c_10, if_neg c_11])
      · refine lv_iload hx hb dX1_once_63 (lv_at hl 2 rfl) ?_
        refine lv_goto (tgt := 93) hx hb dX1_once_65 (by decide) ?_
        exact rg_e k (by first | rw [if_neg c_9, if_pos c_10] | simp only [if_neg c_9, if_pos c_10])
    · refine lv_iload_n hx hb dX1_once_54 rfl (lv_at hl 3 rfl) ?_
      refine lv_goto (tgt := 93) hx hb dX1_once_55 (by decide) ?_
      exact rg_e k (by first | rw [if_pos c_9] | simp only [if_pos c_9])
  refine lv_istore (lv' := [(7, .int y_8), (6, .int y_6), (5, .int y_5), (4, .int y_3), (3, .int y_1), (0, .ref h0), (1, .int a1), (2, .int a2)]) hx hb dX1_once_93 hl (by decide) rfl (fun ls hl => ?_)
  refine lv_iload hx hb dX1_once_95 (lv_at hl 1 rfl) ?_
  refine rg (J := 141) (st := []) (if y_6 = 0 then (if y_8 = 0 then ((a2 / 2) + 0) else ((a2 / 2) + (al / 2))) else (if y_8 = 0 then ((jr (2 * a2) al) + 0) else ((jr (2 * a2) al) + 1))) (fun k => ?_) (fun y_14 ey_14 => ?_)
  · refine lv_if_eq (tgt := 122) hx hb dX1_once_97 (by decide) (fun c_15 => ?_) (fun c_15 => ?_)
    · refine lv_iload_n hx hb dX1_once_122 rfl (lv_at hl 7 rfl) ?_
      refine lv_iconst (v := 2) hx hb dX1_once_123 (by decide) ?_
      refine lv_idiv hx hb dX1_once_124 (by decide) ?_
      refine lv_iload hx hb dX1_once_125 (lv_at hl 0 rfl) ?_
      refine lv_if_eq (tgt := 139) hx hb dX1_once_127 (by decide) (fun c_16 => ?_) (fun c_16 => ?_)
      · refine lv_iconst (v := 0) hx hb dX1_once_139 (by decide) ?_
        refine lv_iadd hx hb dX1_once_140 ?_
        exact rg_e k (by first | rw [if_pos c_15, if_pos c_16] | simp only [if_pos c_15, if_pos c_16])
      · refine lv_aload_n hx hb dX1_once_130 rfl (lv_at hl 5 rfl) ?_
        refine va_get (D := (dC, dI)) (ci := 2) (v := .int al) (C := RX1) (T := TX1) (N := 3) hx hb hts (by decide +kernel) hown hK hP 0 rfl rfl 2 (by decide) (hts (.fieldLink RX1 14 "WordArithmeticModel" "all" "I") (by decide +kernel)) (fun _ h9 => h9) rfl dX1_once_131 ?_
        refine lv_iconst (v := 2) hx hb dX1_once_134 (by decide) ?_
        refine lv_idiv hx hb dX1_once_135 (by decide) ?_
        refine lv_goto (tgt := 140) hx hb dX1_once_136 (by decide) ?_
        refine lv_iadd hx hb dX1_once_140 ?_
        exact rg_e k (by first | rw [if_pos c_15, if_neg c_16] | simp only [if_pos c_15, if_neg c_16])
    · refine lv_iconst (v := 2) hx hb dX1_once_100 (by decide) ?_
      refine lv_iload_n hx hb dX1_once_101 rfl (lv_at hl 7 rfl) ?_
      refine lv_imul hx hb dX1_once_102 ?_
      refine lv_aload_n hx hb dX1_once_103 rfl (lv_at hl 5 rfl) ?_
      refine va_get (D := (dC, dI)) (ci := 2) (v := .int al) (C := RX1) (T := TX1) (N := 3) hx hb hts (by decide +kernel) hown hK hP 0 rfl rfl 2 (by decide) (hts (.fieldLink RX1 14 "WordArithmeticModel" "all" "I") (by decide +kernel)) (fun _ h9 => h9) rfl dX1_once_104 ?_
      refine jr_row hx hb dX1_once_107 (hal_0 hal) ?_
      refine lv_iload hx hb dX1_once_108 (lv_at hl 0 rfl) ?_
      refine lv_if_eq (tgt := 117) hx hb dX1_once_110 (by decide) (fun c_17 => ?_) (fun c_17 => ?_)
      · refine lv_iconst (v := 0) hx hb dX1_once_117 (by decide) ?_
        refine lv_iadd hx hb dX1_once_118 ?_
        refine lv_goto (tgt := 141) hx hb dX1_once_119 (by decide) ?_
        exact rg_e k (by first | rw [if_neg c_15, if_pos c_17] | simp only [if_neg c_15, if_pos c_17])
      · refine lv_iconst (v := 1) hx hb dX1_once_113 (by decide) ?_
        refine lv_goto (tgt := 118) hx hb dX1_once_114 (by decide) ?_
        refine lv_iadd hx hb dX1_once_118 ?_
        refine lv_goto (tgt := 141) hx hb dX1_once_119 (by decide) ?_
        exact rg_e k (by first | rw [if_neg c_15, if_neg c_17] | simp only [if_neg c_15, if_neg c_17])
  refine lv_istore (lv' := [(8, .int y_14), (7, .int y_8), (6, .int y_6), (5, .int y_5), (4, .int y_3), (3, .int y_1), (0, .ref h0), (1, .int a1), (2, .int a2)]) hx hb dX1_once_141 hl (by decide) rfl (fun ls hl => ?_)
  refine lv_aload_n hx hb dX1_once_143 rfl (lv_at hl 6 rfl) ?_
  refine lv_iconst (v := 1) hx hb dX1_once_144 (by decide) ?_
  refine lv_iload hx hb dX1_once_145 (lv_at hl 2 rfl) ?_
  refine rg (J := 156) (st := [.int 1, .ref h0]) (if y_6 = 0 then y_3 else y_1) (fun k => ?_) (fun y_18 ey_18 => ?_)
  · refine lv_if_eq (tgt := 154) hx hb dX1_once_147 (by decide) (fun c_19 => ?_) (fun c_19 => ?_)
    · refine lv_iload hx hb dX1_once_154 (lv_at hl 4 rfl) ?_
      exact rg_e k (by first | rw [if_pos c_19] | simp only [if_pos c_19])
    · refine lv_iload_n hx hb dX1_once_150 rfl (lv_at hl 5 rfl) ?_
      refine lv_goto (tgt := 156) hx hb dX1_once_151 (by decide) ?_
      exact rg_e k (by first | rw [if_neg c_19] | simp only [if_neg c_19])
  refine wr_callv (va_runV (As := [.int 1, .int y_18]) (rest := []) ⟨hx, hb, hml, hown, hts⟩ (p_X1_put l dC dI h0 _ cd fl al 1 y_18 (by decide)) (cwV 2 hts gX1_once_X1_put rfl rfl rfl (by decide +kernel) ⟨Nat.le_of_ble_eq_true rfl, Nat.le_of_ble_eq_true rfl⟩) (wr_preV (ci := 2) rfl hK hP hD) rfl rfl hl.1 rfl (lv_room (Nat.le_of_ble_eq_true rfl)) dX1_once_156 ⟨Nat.le_of_ble_eq_true rfl, Nat.le_of_ble_eq_true rfl⟩) hP hD hS hA (fun u_21 H locs eu_21 hP hD hS => ?_)
  have hP : va_P (dC, dI) vwCl [(h0, .inr (2, [.int cd, .int u_21, .int al]))] H := hP
  have hD : va_D A [(h0, .inr (2, [.int cd, .int u_21, .int al]))] := hD
  refine lv_iload hx hb dX1_once_159 (lv_at hl 0 rfl) ?_
  refine lv_aload_n hx hb dX1_once_161 rfl (lv_at hl 6 rfl) ?_
  refine va_get (D := (dC, dI)) (ci := 2) (v := .int al) (C := RX1) (T := TX1) (N := 3) hx hb hts (by decide +kernel) hown hK hP 0 rfl rfl 2 (by decide) (hts (.fieldLink RX1 14 "WordArithmeticModel" "all" "I") (by decide +kernel)) (fun _ h9 => h9) rfl dX1_once_162 ?_
  refine lv_iconst (v := 2) hx hb dX1_once_165 (by decide) ?_
  refine lv_idiv hx hb dX1_once_166 (by decide) ?_
  refine rg (J := 175) (st := []) (if y_14 < (al / 2) then 0 else 1) (fun k => ?_) (fun y_22 ey_22 => ?_)
  · refine lv_icmp_lt (tgt := 174) hx hb dX1_once_167 (by decide) (fun c_23 => ?_) (fun c_23 => ?_)
    · refine lv_iconst (v := 0) hx hb dX1_once_174 (by decide) ?_
      exact rg_e k (by first | rw [if_pos c_23] | simp only [if_pos c_23])
    · refine lv_iconst (v := 1) hx hb dX1_once_170 (by decide) ?_
      refine lv_goto (tgt := 175) hx hb dX1_once_171 (by decide) ?_
      exact rg_e k (by first | rw [if_neg c_23] | simp only [if_neg c_23])
  refine lv_istore (lv' := [(9, .int y_22), (8, .int y_14), (7, .int y_8), (6, .int y_6), (5, .int y_5), (4, .int y_3), (3, .int y_1), (0, .ref h0), (1, .int a1), (2, .int a2)]) hx hb dX1_once_175 hl (by decide) rfl (fun ls hl => ?_)
  refine lv_iload hx hb dX1_once_177 (lv_at hl 1 rfl) ?_
  refine lv_aload_n hx hb dX1_once_179 rfl (lv_at hl 7 rfl) ?_
  refine va_get (D := (dC, dI)) (ci := 2) (v := .int al) (C := RX1) (T := TX1) (N := 3) hx hb hts (by decide +kernel) hown hK hP 0 rfl rfl 2 (by decide) (hts (.fieldLink RX1 14 "WordArithmeticModel" "all" "I") (by decide +kernel)) (fun _ h9 => h9) rfl dX1_once_180 ?_
  refine lv_iconst (v := 2) hx hb dX1_once_183 (by decide) ?_
  refine lv_idiv hx hb dX1_once_184 (by decide) ?_
  refine jr_row hx hb dX1_once_185 (hal_2 hal) ?_
  refine lv_aload_n hx hb dX1_once_186 rfl (lv_at hl 7 rfl) ?_
  refine va_get (D := (dC, dI)) (ci := 2) (v := .int al) (C := RX1) (T := TX1) (N := 3) hx hb hts (by decide +kernel) hown hK hP 0 rfl rfl 2 (by decide) (hts (.fieldLink RX1 14 "WordArithmeticModel" "all" "I") (by decide +kernel)) (fun _ h9 => h9) rfl dX1_once_187 ?_
  refine lv_iconst (v := 4) hx hb dX1_once_190 (by decide) ?_
  refine lv_idiv hx hb dX1_once_191 (by decide) ?_
  refine rg (J := 200) (st := []) (if (jr y_14 (al / 2)) < (al / 4) then 0 else 1) (fun k => ?_) (fun y_24 ey_24 => ?_)
  · refine lv_icmp_lt (tgt := 199) hx hb dX1_once_192 (by decide) (fun c_25 => ?_) (fun c_25 => ?_)
    · refine lv_iconst (v := 0) hx hb dX1_once_199 (by decide) ?_
      exact rg_e k (by first | rw [if_pos c_25] | simp only [if_pos c_25])
    · refine lv_iconst (v := 1) hx hb dX1_once_195 (by decide) ?_
      refine lv_goto (tgt := 200) hx hb dX1_once_196 (by decide) ?_
      exact rg_e k (by first | rw [if_neg c_25] | simp only [if_neg c_25])
  refine lv_istore (lv' := [(10, .int y_24), (9, .int y_22), (8, .int y_14), (7, .int y_8), (6, .int y_6), (5, .int y_5), (4, .int y_3), (3, .int y_1), (0, .ref h0), (1, .int a1), (2, .int a2)]) hx hb dX1_once_200 hl (by decide) rfl (fun ls hl => ?_)
  refine lv_aload_n hx hb dX1_once_202 rfl (lv_at hl 8 rfl) ?_
  refine lv_sipush (v := 2048) hx hb dX1_once_203 (by decide +kernel) ?_
  refine lv_iload hx hb dX1_once_206 (lv_at hl 4 rfl) ?_
  refine rg (J := 263) (st := [.int 2048, .ref h0]) (if y_6 = 0 then (if 4 ≤ a1 then (if a1 = 5 then (if y_1 = 0 then 0 else 1) else 0) else (if y_22 = y_24 then 0 else 1)) else (if (f_X1_is u_21 1) = y_22 then 0 else 1)) (fun k => ?_) (fun y_26 ey_26 => ?_)
  · refine lv_if_eq (tgt := 229) hx hb dX1_once_208 (by decide) (fun c_27 => ?_) (fun c_27 => ?_)
    · refine lv_iload_n hx hb dX1_once_229 rfl (lv_at hl 9 rfl) ?_
      refine lv_iconst (v := 4) hx hb dX1_once_230 (by decide) ?_
      refine lv_icmp_ge (tgt := 249) hx hb dX1_once_231 (by decide) (fun c_28 => ?_) (fun c_28 => ?_)
      · refine lv_iload_n hx hb dX1_once_249 rfl (lv_at hl 9 rfl) ?_
        refine lv_iconst (v := 5) hx hb dX1_once_250 (by decide) ?_
        refine lv_icmp_ne (tgt := 262) hx hb dX1_once_251 (by decide) (fun c_29 => ?_) (fun c_29 => ?_)
        · refine lv_iconst (v := 0) hx hb dX1_once_262 (by decide) ?_
          exact rg_e k (by first | rw [if_pos c_27, if_pos c_28, if_neg c_29] | simp only [if_pos c_27, if_pos c_28, if_neg c_29])
        · refine lv_iload_n hx hb dX1_once_254 rfl (lv_at hl 7 rfl) ?_
          refine lv_if_eq (tgt := 262) hx hb dX1_once_255 (by decide) (fun c_30 => ?_) (fun c_30 => ?_)
          · refine lv_iconst (v := 0) hx hb dX1_once_262 (by decide) ?_
            exact rg_e k (by first | rw [if_pos c_27, if_pos c_28, if_pos c_29, if_pos c_30] | simp only [if_pos c_27, if_pos c_28, if_pos c_29, if_pos c_30])
          · refine lv_iconst (v := 1) hx hb dX1_once_258 (by decide) ?_
            refine lv_goto (tgt := 263) hx hb dX1_once_259 (by decide) ?_
            exact rg_e k (by first | rw [if_pos c_27, if_pos c_28, if_pos c_29, if_neg c_30] | simp only [if_pos c_27, if_pos c_28, if_pos c_29, if_neg c_30])
      · refine lv_iload hx hb dX1_once_234 (lv_at hl 1 rfl) ?_
        refine lv_iload hx hb dX1_once_236 (lv_at hl 0 rfl) ?_
        refine lv_icmp_eq (tgt := 245) hx hb dX1_once_238 (by decide) (fun c_31 => ?_) (fun c_31 => ?_)
        · refine lv_iconst (v := 0) hx hb dX1_once_245 (by decide) ?_
          refine lv_goto (tgt := 263) hx hb dX1_once_246 (by decide) ?_
          exact rg_e k (by first | rw [if_pos c_27, if_neg c_28, if_pos c_31] | simp only [if_pos c_27, if_neg c_28, if_pos c_31])
        · refine lv_iconst (v := 1) hx hb dX1_once_241 (by decide) ?_
          refine lv_goto (tgt := 263) hx hb dX1_once_242 (by decide) ?_
          exact rg_e k (by first | rw [if_pos c_27, if_neg c_28, if_neg c_31] | simp only [if_pos c_27, if_neg c_28, if_neg c_31])
    · refine lv_aload_n hx hb dX1_once_211 rfl (lv_at hl 8 rfl) ?_
      refine lv_iconst (v := 1) hx hb dX1_once_212 (by decide) ?_
      refine pu_calli (F := (f_X1_is u_21 1)) (va_runV (As := [.int 1]) (rest := [.int 2048, .ref h0]) ⟨hx, hb, hml, hown, hts⟩ (p_X1_is l dC dI h0 _ cd u_21 al 1 (by decide)) (cwV 1 hts gX1_once_X1_is rfl rfl rfl (by decide +kernel) ⟨Nat.le_of_ble_eq_true rfl, Nat.le_of_ble_eq_true rfl⟩) (pu_preV (ci := 2) rfl hK hP) rfl rfl hl.1 rfl (lv_room (Nat.le_of_ble_eq_true rfl)) dX1_once_213 ⟨Nat.le_of_ble_eq_true rfl, Nat.le_of_ble_eq_true rfl⟩) ?_
      refine lv_iload hx hb dX1_once_216 (lv_at hl 1 rfl) ?_
      refine lv_icmp_eq (tgt := 225) hx hb dX1_once_218 (by decide) (fun c_32 => ?_) (fun c_32 => ?_)
      · refine lv_iconst (v := 0) hx hb dX1_once_225 (by decide) ?_
        refine lv_goto (tgt := 263) hx hb dX1_once_226 (by decide) ?_
        exact rg_e k (by first | rw [if_neg c_27, if_pos c_32] | simp only [if_neg c_27, if_pos c_32])
      · refine lv_iconst (v := 1) hx hb dX1_once_221 (by decide) ?_
        refine lv_goto (tgt := 263) hx hb dX1_once_222 (by decide) ?_
        exact rg_e k (by first | rw [if_neg c_27, if_neg c_32] | simp only [if_neg c_27, if_neg c_32])
  refine wr_callv (va_runV (As := [.int 2048, .int y_26]) (rest := []) ⟨hx, hb, hml, hown, hts⟩ (p_X1_put l dC dI h0 _ cd u_21 al 2048 y_26 (by decide)) (cwV 2 hts gX1_once_X1_put rfl rfl rfl (by decide +kernel) ⟨Nat.le_of_ble_eq_true rfl, Nat.le_of_ble_eq_true rfl⟩) (wr_preV (ci := 2) rfl hK hP hD) rfl rfl hl.1 rfl (lv_room (Nat.le_of_ble_eq_true rfl)) dX1_once_263 ⟨Nat.le_of_ble_eq_true rfl, Nat.le_of_ble_eq_true rfl⟩) hP hD hS hA (fun u_34 H locs eu_34 hP hD hS => ?_)
  have hP : va_P (dC, dI) vwCl [(h0, .inr (2, [.int cd, .int u_34, .int al]))] H := hP
  have hD : va_D A [(h0, .inr (2, [.int cd, .int u_34, .int al]))] := hD
  refine lv_iload_n hx hb dX1_once_266 rfl (lv_at hl 9 rfl) ?_
  refine lv_iconst (v := 3) hx hb dX1_once_267 (by decide) ?_
  refine lv_icmp_le (tgt := 277) hx hb dX1_once_268 (by decide) (fun c_35 => ?_) (fun c_35 => ?_)
  · refine lv_iload hx hb dX1_once_277 (lv_at hl 2 rfl) ?_
    exact W.iret (v := y_14) hx hb hr (fun t ht hW => ⟨⟨y_14, u_34, rfl, ⟨(by subst ey_1; subst ey_3; subst ey_5; subst ey_6; subst ey_8; subst ey_14; subst ey_18; subst eu_21; subst ey_22; subst ey_24; subst ey_26; subst eu_34; simp only [f_X1_once, if_pos c_35]), (by subst ey_1; subst ey_3; subst ey_5; subst ey_6; subst ey_8; subst ey_14; subst ey_18; subst eu_21; subst ey_22; subst ey_24; subst ey_26; subst eu_34; simp only [f_X1_once, if_pos c_35])⟩, by rw [ht]; exact hP, va_K.moved hW.alike hK, hD⟩, hS.F ht⟩) hS.2.2 dX1_once_279
  · refine lv_aload_n hx hb dX1_once_271 rfl (lv_at hl 8 rfl) ?_
    refine lv_iload hx hb dX1_once_272 (lv_at hl 2 rfl) ?_
    refine wr_callv (va_runV (As := [.int y_14]) (rest := []) ⟨hx, hb, hml, hown, hts⟩ (p_X1_byAnswer l dC dI h0 _ cd u_34 al y_14) (cwV 1 hts gX1_once_X1_byAnswer rfl rfl rfl (by decide +kernel) ⟨Nat.le_of_ble_eq_true rfl, Nat.le_of_ble_eq_true rfl⟩) (wr_preV (ci := 2) rfl hK hP hD) rfl rfl hl.1 rfl (lv_room (Nat.le_of_ble_eq_true rfl)) dX1_once_274 ⟨Nat.le_of_ble_eq_true rfl, Nat.le_of_ble_eq_true rfl⟩) hP hD hS hA (fun u_37 H locs eu_37 hP hD hS => ?_)
    have hP : va_P (dC, dI) vwCl [(h0, .inr (2, [.int cd, .int u_37, .int al]))] H := hP
    have hD : va_D A [(h0, .inr (2, [.int cd, .int u_37, .int al]))] := hD
    refine lv_iload hx hb dX1_once_277 (lv_at hl 2 rfl) ?_
    exact W.iret (v := y_14) hx hb hr (fun t ht hW => ⟨⟨y_14, u_37, rfl, ⟨(by subst ey_1; subst ey_3; subst ey_5; subst ey_6; subst ey_8; subst ey_14; subst ey_18; subst eu_21; subst ey_22; subst ey_24; subst ey_26; subst eu_34; subst eu_37; simp only [f_X1_once, if_neg c_35]), (by subst ey_1; subst ey_3; subst ey_5; subst ey_6; subst ey_8; subst ey_14; subst ey_18; subst eu_21; subst ey_22; subst ey_24; subst ey_26; subst eu_34; subst eu_37; simp only [f_X1_once, if_neg c_35])⟩, by rw [ht]; exact hP, va_K.moved hW.alike hK, hD⟩, hS.F ht⟩) hS.2.2 dX1_once_279

/-- what X1_multiply answers -/
def f_X1_multiply (fl : Int32) (a1 : Int32) (a2 : Int32) (a3 : Int32) (a4 : Int32) : Int32 × (Int32 × Int32 × Int32) :=
  let u_2 : Int32 := (f_X1_length a1)
  let y_3 : Int32 := (f_X1_operand u_2 a3)
  let y_4 : Int32 := (f_X1_operand u_2 a4)
  let y_5 : Int64 := (if a2 = 0 then (((y_3 : Int32).toInt64) * ((y_4 : Int32).toInt64)) else ((((f_X1_signed u_2 y_3) : Int32).toInt64) * (((f_X1_signed u_2 y_4) : Int32).toInt64)))
  let y_7 : Int64 := (((u_2 : Int32).toInt64) * ((u_2 : Int32).toInt64))
  let y_8 : Int64 := (if 0 ≤ (lg_cmp y_5 0) then y_5 else (y_5 + y_7))
  let y_10 : Int32 := (((jrL y_8 ((u_2 : Int32).toInt64)) : Int64).toInt32)
  let y_11 : Int32 := (if a2 = 0 then y_10 else (f_X1_signed u_2 y_10))
  let y_13 : Int32 := (if (lg_cmp y_5 ((y_11 : Int32).toInt64)) = 0 then 0 else 1)
  let u_16 : Int32 := (f_X1_put fl 1 y_13)
  let u_18 : Int32 := (f_X1_put u_16 2048 y_13)
  (((y_8 : Int64).toInt32), (0, u_18, u_2))
set_option maxHeartbeats 4000000 in
set_option maxRecDepth 100000 in
theorem p_X1_multiply (l : Launch) (dC : Nat → ClassId) (dI : Nat → Nat → Nat) (h0 : Nat) (sz : Nat) (cd : Int32) (fl : Int32) (al : Int32) (a1 : Int32) (a2 : Int32) (a3 : Int32) (a4 : Int32) : Met l yX1_multiply wsX1_multiply ({ frames := 2, cells := 0, slots := 0, locals := 43 }) (va_Pc [.ref h0, .int a1, .int a2, .int a3, .int a4] (wr_pre (dC, dI) 2 h0 sz [.int cd, .int fl, .int al])) (va_Qi (fun (r : Int32) (u : Int32 × Int32 × Int32) => r = (f_X1_multiply fl a1 a2 a3 a4).1 ∧ u = (f_X1_multiply fl a1 a2 a3 a4).2) (wr_at (dC, dI) 2 h0 (fun u : Int32 × Int32 × Int32 => [.int u.1, .int u.2.1, .int u.2.2]) (wr_A 2 h0 sz [.int cd, .int fl, .int al])) (wr_A 2 h0 sz [.int cd, .int fl, .int al])) 0 0 (wr_A 2 h0 sz [.int cd, .int fl, .int al]) := by
  refine Met.ofW (cc := cX1_multiply) (maxL := 15) (ret := (some .int)) (by decide) rfl ?_
  intro p e s m args below meth c s₁ B hml hv
  obtain ⟨rfl, hsz, hP, hK, hD0⟩ := hv
  have hx := B.exec
  have hb := B.bytes
  have hr := B.returns
  have hts := atoms_spec (ws := wsX1_multiply) B.pre
  have hown : s.vm.findClass RX1 = some m.cls := findClass_of_methodNamed B.named
  have hlocks := B.notSynchronized
  subst hsz
  have hD : va_D (wr_A 2 h0 s.heap.size [.int cd, .int fl, .int al]) [(h0, .inr (2, [.int cd, .int fl, .int al]))] := hD0.self (sz := s.heap.size)
  generalize hAe : wr_A 2 h0 s.heap.size [.int cd, .int fl, .int al] = A at hD ⊢
  have hA : ∀ q : Nat, s.heap.size ≤ q → A q := fun q h => by rw [← hAe]; exact Or.inr h
  have hS : va_S A s.heap s.heap [] := va_S.rf
  have hP : va_P (dC, dI) vwCl [(h0, .inr (2, [.int cd, .int fl, .int al]))] s.heap := hP
  have hD : va_D A [(h0, .inr (2, [.int cd, .int fl, .int al]))] := hD
  have hl := lv_entry ([.ref h0, .int a1, .int a2, .int a3, .int a4]) (n := 15) (Nat.le_of_ble_eq_true rfl)
  rw [lg_entry_eq]
  generalize (lg_sl ([.ref h0, .int a1, .int a2, .int a3, .int a4]) ++ List.replicate (15 - (lg_sl ([.ref h0, .int a1, .int a2, .int a3, .int a4])).length) Slot.unset).toArray = ls at hl ⊢
  have hl : lv_has ls 15 [(0, .ref h0), (1, .int a1), (2, .int a2), (3, .int a3), (4, .int a4)] := hl
  refine lv_aload_n hx hb dX1_multiply_0 rfl (lv_at hl 0 rfl) ?_
  refine lv_iconst (v := 0) hx hb dX1_multiply_1 (by decide) ?_
  refine va_put (D := (dC, dI)) (ci := 2) (v := .int 0) (ty := .int) (C := RX1) (T := TX1) (N := 3) hx hb hts (by decide +kernel) tyX1 tyX1_ok nmX1 hown hK hP hD hS 0 rfl rfl 0 (by decide) (hts (.fieldLink RX1 7 "WordArithmeticModel" "code" "I") (by decide +kernel)) (fun _ h9 => h9) rfl (by decide +kernel) rfl rfl (Nat.le_of_ble_eq_true rfl) dX1_multiply_2 (fun H locs hP hD hS => ?_)
  have hP : va_P (dC, dI) vwCl [(h0, .inr (2, [.int 0, .int fl, .int al]))] H := hP
  have hD : va_D A [(h0, .inr (2, [.int 0, .int fl, .int al]))] := hD
  refine lv_aload_n hx hb dX1_multiply_5 rfl (lv_at hl 0 rfl) ?_
  refine lv_iload_n hx hb dX1_multiply_6 rfl (lv_at hl 1 rfl) ?_
  refine wr_callv (va_runV (As := [.int a1]) (rest := []) ⟨hx, hb, hml, hown, hts⟩ (p_X1_length l dC dI h0 _ 0 fl al a1) (cwV 1 hts gX1_multiply_X1_length rfl rfl rfl (by decide +kernel) ⟨Nat.le_of_ble_eq_true rfl, Nat.le_of_ble_eq_true rfl⟩) (wr_preV (ci := 2) rfl hK hP hD) rfl rfl hl.1 rfl (lv_room (Nat.le_of_ble_eq_true rfl)) dX1_multiply_7 ⟨Nat.le_of_ble_eq_true rfl, Nat.le_of_ble_eq_true rfl⟩) hP hD hS hA (fun u_2 H locs eu_2 hP hD hS => ?_)
  have hP : va_P (dC, dI) vwCl [(h0, .inr (2, [.int 0, .int fl, .int u_2]))] H := hP
  have hD : va_D A [(h0, .inr (2, [.int 0, .int fl, .int u_2]))] := hD
  refine lv_aload_n hx hb dX1_multiply_10 rfl (lv_at hl 0 rfl) ?_
  refine lv_iload_n hx hb dX1_multiply_11 rfl (lv_at hl 3 rfl) ?_
  refine pu_calli (F := (f_X1_operand u_2 a3)) (va_runV (As := [.int a3]) (rest := []) ⟨hx, hb, hml, hown, hts⟩ (p_X1_operand l dC dI h0 _ 0 fl u_2 a3) (cwV 1 hts gX1_multiply_X1_operand rfl rfl rfl (by decide +kernel) ⟨Nat.le_of_ble_eq_true rfl, Nat.le_of_ble_eq_true rfl⟩) (pu_preV (ci := 2) rfl hK hP) rfl rfl hl.1 rfl (lv_room (Nat.le_of_ble_eq_true rfl)) dX1_multiply_12 ⟨Nat.le_of_ble_eq_true rfl, Nat.le_of_ble_eq_true rfl⟩) ?_
  refine lv_topi (fun y_3 ey_3 => ?_)
  refine lv_istore (lv' := [(5, .int y_3), (0, .ref h0), (1, .int a1), (2, .int a2), (3, .int a3), (4, .int a4)]) hx hb dX1_multiply_15 hl (by decide) rfl (fun ls hl => ?_)
  refine lv_aload_n hx hb dX1_multiply_17 rfl (lv_at hl 1 rfl) ?_
  refine lv_iload hx hb dX1_multiply_18 (lv_at hl 5 rfl) ?_
  refine pu_calli (F := (f_X1_operand u_2 a4)) (va_runV (As := [.int a4]) (rest := []) ⟨hx, hb, hml, hown, hts⟩ (p_X1_operand l dC dI h0 _ 0 fl u_2 a4) (cwV 1 hts gX1_multiply_X1_operand rfl rfl rfl (by decide +kernel) ⟨Nat.le_of_ble_eq_true rfl, Nat.le_of_ble_eq_true rfl⟩) (pu_preV (ci := 2) rfl hK hP) rfl rfl hl.1 rfl (lv_room (Nat.le_of_ble_eq_true rfl)) dX1_multiply_20 ⟨Nat.le_of_ble_eq_true rfl, Nat.le_of_ble_eq_true rfl⟩) ?_
  refine lv_topi (fun y_4 ey_4 => ?_)
  refine lv_istore (lv' := [(6, .int y_4), (5, .int y_3), (0, .ref h0), (1, .int a1), (2, .int a2), (3, .int a3), (4, .int a4)]) hx hb dX1_multiply_23 hl (by decide) rfl (fun ls hl => ?_)
  refine lv_iload_n hx hb dX1_multiply_25 rfl (lv_at hl 4 rfl) ?_
  refine rgL (J := 54) (st := []) (if a2 = 0 then (((y_3 : Int32).toInt64) * ((y_4 : Int32).toInt64)) else ((((f_X1_signed u_2 y_3) : Int32).toInt64) * (((f_X1_signed u_2 y_4) : Int32).toInt64))) (fun k => ?_) (fun y_5 ey_5 => ?_)
  · refine lv_if_eq (tgt := 47) hx hb dX1_multiply_26 (by decide) (fun c_6 => ?_) (fun c_6 => ?_)
    · refine lv_iload hx hb dX1_multiply_47 (lv_at hl 1 rfl) ?_
      refine lv_i2l (v := (y_3 : Int32).toInt64) hx hb dX1_multiply_49 rfl ?_
      refine lv_iload hx hb dX1_multiply_50 (lv_at hl 0 rfl) ?_
      refine lv_i2l (v := (y_4 : Int32).toInt64) hx hb dX1_multiply_52 rfl ?_
      refine lv_lmul hx hb dX1_multiply_53 ?_
      exact rgL_e k (by first | rw [if_pos c_6] | simp only [if_pos c_6])
    · refine lv_aload_n hx hb dX1_multiply_29 rfl (lv_at hl 2 rfl) ?_
      refine lv_iload hx hb dX1_multiply_30 (lv_at hl 1 rfl) ?_
      refine pu_calli (F := (f_X1_signed u_2 y_3)) (va_runV (As := [.int y_3]) (rest := []) ⟨hx, hb, hml, hown, hts⟩ (p_X1_signed l dC dI h0 _ 0 fl u_2 y_3) (cwV 1 hts gX1_multiply_X1_signed rfl rfl rfl (by decide +kernel) ⟨Nat.le_of_ble_eq_true rfl, Nat.le_of_ble_eq_true rfl⟩) (pu_preV (ci := 2) rfl hK hP) rfl rfl hl.1 rfl (lv_room (Nat.le_of_ble_eq_true rfl)) dX1_multiply_32 ⟨Nat.le_of_ble_eq_true rfl, Nat.le_of_ble_eq_true rfl⟩) ?_
      refine lv_i2l (v := ((f_X1_signed u_2 y_3) : Int32).toInt64) hx hb dX1_multiply_35 rfl ?_
      refine lv_aload_n hx hb dX1_multiply_36 rfl (lv_at hl 2 rfl) ?_
      refine lv_iload hx hb dX1_multiply_37 (lv_at hl 0 rfl) ?_
      refine pu_calli (F := (f_X1_signed u_2 y_4)) (va_runV (As := [.int y_4]) (rest := [.long (((f_X1_signed u_2 y_3) : Int32).toInt64)]) ⟨hx, hb, hml, hown, hts⟩ (p_X1_signed l dC dI h0 _ 0 fl u_2 y_4) (cwV 1 hts gX1_multiply_X1_signed rfl rfl rfl (by decide +kernel) ⟨Nat.le_of_ble_eq_true rfl, Nat.le_of_ble_eq_true rfl⟩) (pu_preV (ci := 2) rfl hK hP) rfl rfl hl.1 rfl (lv_room (Nat.le_of_ble_eq_true rfl)) dX1_multiply_39 ⟨Nat.le_of_ble_eq_true rfl, Nat.le_of_ble_eq_true rfl⟩) ?_
      refine lv_i2l (v := ((f_X1_signed u_2 y_4) : Int32).toInt64) hx hb dX1_multiply_42 rfl ?_
      refine lv_lmul hx hb dX1_multiply_43 ?_
      refine lv_goto (tgt := 54) hx hb dX1_multiply_44 (by decide) ?_
      exact rgL_e k (by first | rw [if_neg c_6] | simp only [if_neg c_6])
  refine lv_lstore (lv' := [(7, .long y_5), (6, .int y_4), (5, .int y_3), (0, .ref h0), (1, .int a1), (2, .int a2), (3, .int a3), (4, .int a4)]) hx hb dX1_multiply_54 hl (by decide) rfl (fun ls hl => ?_)
  refine lv_aload_n hx hb dX1_multiply_56 rfl (lv_at hl 3 rfl) ?_
  refine va_get (D := (dC, dI)) (ci := 2) (v := .int u_2) (C := RX1) (T := TX1) (N := 3) hx hb hts (by decide +kernel) hown hK hP 0 rfl rfl 2 (by decide) (hts (.fieldLink RX1 14 "WordArithmeticModel" "all" "I") (by decide +kernel)) (fun _ h9 => h9) rfl dX1_multiply_57 ?_
  refine lv_i2l (v := (u_2 : Int32).toInt64) hx hb dX1_multiply_60 rfl ?_
  refine lv_aload_n hx hb dX1_multiply_61 rfl (lv_at hl 3 rfl) ?_
  refine va_get (D := (dC, dI)) (ci := 2) (v := .int u_2) (C := RX1) (T := TX1) (N := 3) hx hb hts (by decide +kernel) hown hK hP 0 rfl rfl 2 (by decide) (hts (.fieldLink RX1 14 "WordArithmeticModel" "all" "I") (by decide +kernel)) (fun _ h9 => h9) rfl dX1_multiply_62 ?_
  refine lv_i2l (v := (u_2 : Int32).toInt64) hx hb dX1_multiply_65 rfl ?_
  refine lv_lmul hx hb dX1_multiply_66 ?_
  refine lv_topl (fun y_7 ey_7 => ?_)
  refine lv_lstore (lv' := [(9, .long y_7), (7, .long y_5), (6, .int y_4), (5, .int y_3), (0, .ref h0), (1, .int a1), (2, .int a2), (3, .int a3), (4, .int a4)]) hx hb dX1_multiply_67 hl (by decide) rfl (fun ls hl => ?_)
  refine lv_lload hx hb dX1_multiply_69 (lv_at hl 1 rfl) ?_
  refine lv_lconst (v := 0) hx hb dX1_multiply_71 (by decide +kernel) ?_
  refine W.lcmp hx hb dX1_multiply_72 ?_
  refine rgL (J := 86) (st := []) (if 0 ≤ (lg_cmp y_5 0) then y_5 else (y_5 + y_7)) (fun k => ?_) (fun y_8 ey_8 => ?_)
  · refine lv_if_ge (tgt := 84) hx hb dX1_multiply_73 (by decide) (fun c_9 => ?_) (fun c_9 => ?_)
    · refine lv_lload hx hb dX1_multiply_84 (lv_at hl 1 rfl) ?_
      exact rgL_e k (by first | rw [if_pos c_9] | simp only [if_pos c_9])
    · refine lv_lload hx hb dX1_multiply_76 (lv_at hl 1 rfl) ?_
      refine lv_lload hx hb dX1_multiply_78 (lv_at hl 0 rfl) ?_
      refine lv_ladd hx hb dX1_multiply_80 ?_
      refine lv_goto (tgt := 86) hx hb dX1_multiply_81 (by decide) ?_
      exact rgL_e k (by first | rw [if_neg c_9] | simp only [if_neg c_9])
  refine lv_lstore (lv' := [(11, .long y_8), (9, .long y_7), (7, .long y_5), (6, .int y_4), (5, .int y_3), (0, .ref h0), (1, .int a1), (2, .int a2), (3, .int a3), (4, .int a4)]) hx hb dX1_multiply_86 hl (by decide) rfl (fun ls hl => ?_)
  refine lv_lload hx hb dX1_multiply_88 (lv_at hl 0 rfl) ?_
  refine lv_aload_n hx hb dX1_multiply_90 rfl (lv_at hl 5 rfl) ?_
  refine va_get (D := (dC, dI)) (ci := 2) (v := .int u_2) (C := RX1) (T := TX1) (N := 3) hx hb hts (by decide +kernel) hown hK hP 0 rfl rfl 2 (by decide) (hts (.fieldLink RX1 14 "WordArithmeticModel" "all" "I") (by decide +kernel)) (fun _ h9 => h9) rfl dX1_multiply_91 ?_
  refine lv_i2l (v := (u_2 : Int32).toInt64) hx hb dX1_multiply_94 rfl ?_
  refine jrL_row hx hb dX1_multiply_95 (hal_L (hal_len eu_2)) ?_
  refine lv_l2i (v := ((jrL y_8 ((u_2 : Int32).toInt64)) : Int64).toInt32) hx hb dX1_multiply_96 rfl ?_
  refine lv_topi (fun y_10 ey_10 => ?_)
  refine lv_istore (lv' := [(13, .int y_10), (11, .long y_8), (9, .long y_7), (7, .long y_5), (6, .int y_4), (5, .int y_3), (0, .ref h0), (1, .int a1), (2, .int a2), (3, .int a3), (4, .int a4)]) hx hb dX1_multiply_97 hl (by decide) rfl (fun ls hl => ?_)
  refine lv_lload hx hb dX1_multiply_99 (lv_at hl 3 rfl) ?_
  refine lv_iload_n hx hb dX1_multiply_101 rfl (lv_at hl 8 rfl) ?_
  refine rg (J := 116) (st := [.long y_5]) (if a2 = 0 then y_10 else (f_X1_signed u_2 y_10)) (fun k => ?_) (fun y_11 ey_11 => ?_)
  · refine lv_if_eq (tgt := 114) hx hb dX1_multiply_102 (by decide) (fun c_12 => ?_) (fun c_12 => ?_)
    · refine lv_iload hx hb dX1_multiply_114 (lv_at hl 0 rfl) ?_
      exact rg_e k (by first | rw [if_pos c_12] | simp only [if_pos c_12])
    · refine lv_aload_n hx hb dX1_multiply_105 rfl (lv_at hl 6 rfl) ?_
      refine lv_iload hx hb dX1_multiply_106 (lv_at hl 0 rfl) ?_
      refine pu_calli (F := (f_X1_signed u_2 y_10)) (va_runV (As := [.int y_10]) (rest := [.long y_5]) ⟨hx, hb, hml, hown, hts⟩ (p_X1_signed l dC dI h0 _ 0 fl u_2 y_10) (cwV 1 hts gX1_multiply_X1_signed rfl rfl rfl (by decide +kernel) ⟨Nat.le_of_ble_eq_true rfl, Nat.le_of_ble_eq_true rfl⟩) (pu_preV (ci := 2) rfl hK hP) rfl rfl hl.1 rfl (lv_room (Nat.le_of_ble_eq_true rfl)) dX1_multiply_108 ⟨Nat.le_of_ble_eq_true rfl, Nat.le_of_ble_eq_true rfl⟩) ?_
      refine lv_goto (tgt := 116) hx hb dX1_multiply_111 (by decide) ?_
      exact rg_e k (by first | rw [if_neg c_12] | simp only [if_neg c_12])
  refine lv_i2l (v := (y_11 : Int32).toInt64) hx hb dX1_multiply_116 rfl ?_
  refine W.lcmp hx hb dX1_multiply_117 ?_
  refine rg (J := 126) (st := []) (if (lg_cmp y_5 ((y_11 : Int32).toInt64)) = 0 then 0 else 1) (fun k => ?_) (fun y_13 ey_13 => ?_)
  · refine lv_if_eq (tgt := 125) hx hb dX1_multiply_118 (by decide) (fun c_14 => ?_) (fun c_14 => ?_)
    · refine lv_iconst (v := 0) hx hb dX1_multiply_125 (by decide) ?_
      exact rg_e k (by first | rw [if_pos c_14] | simp only [if_pos c_14])
    · refine lv_iconst (v := 1) hx hb dX1_multiply_121 (by decide) ?_
      refine lv_goto (tgt := 126) hx hb dX1_multiply_122 (by decide) ?_
      exact rg_e k (by first | rw [if_neg c_14] | simp only [if_neg c_14])
  refine lv_istore (lv' := [(14, .int y_13), (13, .int y_10), (11, .long y_8), (9, .long y_7), (7, .long y_5), (6, .int y_4), (5, .int y_3), (0, .ref h0), (1, .int a1), (2, .int a2), (3, .int a3), (4, .int a4)]) hx hb dX1_multiply_126 hl (by decide) rfl (fun ls hl => ?_)
  refine lv_aload_n hx hb dX1_multiply_128 rfl (lv_at hl 7 rfl) ?_
  refine lv_iconst (v := 1) hx hb dX1_multiply_129 (by decide) ?_
  refine lv_iload hx hb dX1_multiply_130 (lv_at hl 0 rfl) ?_
  refine wr_callv (va_runV (As := [.int 1, .int y_13]) (rest := []) ⟨hx, hb, hml, hown, hts⟩ (p_X1_put l dC dI h0 _ 0 fl u_2 1 y_13 (by decide)) (cwV 2 hts gX1_multiply_X1_put rfl rfl rfl (by decide +kernel) ⟨Nat.le_of_ble_eq_true rfl, Nat.le_of_ble_eq_true rfl⟩) (wr_preV (ci := 2) rfl hK hP hD) rfl rfl hl.1 rfl (lv_room (Nat.le_of_ble_eq_true rfl)) dX1_multiply_132 ⟨Nat.le_of_ble_eq_true rfl, Nat.le_of_ble_eq_true rfl⟩) hP hD hS hA (fun u_16 H locs eu_16 hP hD hS => ?_)
  have hP : va_P (dC, dI) vwCl [(h0, .inr (2, [.int 0, .int u_16, .int u_2]))] H := hP
  have hD : va_D A [(h0, .inr (2, [.int 0, .int u_16, .int u_2]))] := hD
  refine lv_aload_n hx hb dX1_multiply_135 rfl (lv_at hl 7 rfl) ?_
  refine lv_sipush (v := 2048) hx hb dX1_multiply_136 (by decide +kernel) ?_
  refine lv_iload hx hb dX1_multiply_139 (lv_at hl 0 rfl) ?_
  refine wr_callv (va_runV (As := [.int 2048, .int y_13]) (rest := []) ⟨hx, hb, hml, hown, hts⟩ (p_X1_put l dC dI h0 _ 0 u_16 u_2 2048 y_13 (by decide)) (cwV 2 hts gX1_multiply_X1_put rfl rfl rfl (by decide +kernel) ⟨Nat.le_of_ble_eq_true rfl, Nat.le_of_ble_eq_true rfl⟩) (wr_preV (ci := 2) rfl hK hP hD) rfl rfl hl.1 rfl (lv_room (Nat.le_of_ble_eq_true rfl)) dX1_multiply_141 ⟨Nat.le_of_ble_eq_true rfl, Nat.le_of_ble_eq_true rfl⟩) hP hD hS hA (fun u_18 H locs eu_18 hP hD hS => ?_)
  have hP : va_P (dC, dI) vwCl [(h0, .inr (2, [.int 0, .int u_18, .int u_2]))] H := hP
  have hD : va_D A [(h0, .inr (2, [.int 0, .int u_18, .int u_2]))] := hD
  refine lv_lload hx hb dX1_multiply_144 (lv_at hl 2 rfl) ?_
  refine lv_l2i (v := (y_8 : Int64).toInt32) hx hb dX1_multiply_146 rfl ?_
  exact W.iret (v := ((y_8 : Int64).toInt32)) hx hb hr (fun t ht hW => ⟨⟨((y_8 : Int64).toInt32), (0, u_18, u_2), rfl, ⟨(by subst eu_2; subst ey_3; subst ey_4; subst ey_5; subst ey_7; subst ey_8; subst ey_10; subst ey_11; subst ey_13; subst eu_16; subst eu_18; simp only [f_X1_multiply]), (by subst eu_2; subst ey_3; subst ey_4; subst ey_5; subst ey_7; subst ey_8; subst ey_10; subst ey_11; subst ey_13; subst eu_16; subst eu_18; simp only [f_X1_multiply])⟩, by rw [ht]; exact hP, va_K.moved hW.alike hK, hD⟩, hS.F ht⟩) hS.2.2 dX1_multiply_147

/-- what X1_divide answers -/
def f_X1_divide (a1 : Int32) (a2 : Int32) (a3 : Int32) (a4 : Int32) : Int32 × (Int32 × Int32) :=
  let u_2 : Int32 := (f_X1_length a1)
  let y_3 : Int64 := (((u_2 : Int32).toInt64) * ((u_2 : Int32).toInt64))
  let y_4 : Int64 := (((a3 : Int32).toInt64) &&& (y_3 - 1))
  let y_5 : Int64 := (if a2 = 0 then y_4 else (if (lg_cmp y_4 (y_3 / 2)) < 0 then y_4 else (y_4 - y_3)))
  let y_8 : Int32 := (f_X1_operand u_2 a4)
  let y_9 : Int64 := (if a2 = 0 then ((y_8 : Int32).toInt64) else (((f_X1_signed u_2 y_8) : Int32).toInt64))
  let y_11 : Int64 := (if (lg_cmp y_9 0) = 0 then 0 else (y_5 / y_9))
  let y_13 : Int32 := (if (lg_cmp y_9 0) = 0 then 0 else (if a2 = 0 then (if 0 ≤ (lg_cmp y_11 ((u_2 : Int32).toInt64)) then 0 else 1) else (if 0 ≤ (lg_cmp y_11 (((u_2 / 2) : Int32).toInt64)) then 0 else (if (lg_cmp y_11 ((((-u_2) / 2) : Int32).toInt64)) ≤ 0 then 0 else 1))))
  let y_19 : Int32 := (if y_13 = 0 then 1 else 0)
  if y_19 ≤ 0 then
  (let y_22 : Int64 := (y_5 - (y_11 * y_9))
  let y_23 : Int64 := (if 0 ≤ (lg_cmp y_22 0) then y_22 else (y_22 + ((u_2 : Int32).toInt64)))
  let y_25 : Int64 := (if 0 ≤ (lg_cmp y_11 0) then y_11 else (y_11 + ((u_2 : Int32).toInt64)))
  (((((y_23 * ((u_2 : Int32).toInt64)) + y_25) : Int64).toInt32), (y_19, u_2)))
  else
  ((0, (y_19, u_2)))
set_option maxHeartbeats 4000000 in
set_option maxRecDepth 100000 in
theorem p_X1_divide (l : Launch) (dC : Nat → ClassId) (dI : Nat → Nat → Nat) (h0 : Nat) (sz : Nat) (cd : Int32) (fl : Int32) (al : Int32) (a1 : Int32) (a2 : Int32) (a3 : Int32) (a4 : Int32) : Met l yX1_divide wsX1_divide ({ frames := 1, cells := 0, slots := 0, locals := 21 }) (va_Pc [.ref h0, .int a1, .int a2, .int a3, .int a4] (wr_pre (dC, dI) 2 h0 sz [.int cd, .int fl, .int al])) (va_Qi (fun (r : Int32) (u : Int32 × Int32) => r = (f_X1_divide a1 a2 a3 a4).1 ∧ u = (f_X1_divide a1 a2 a3 a4).2) (wr_at (dC, dI) 2 h0 (fun u : Int32 × Int32 => [.int u.1, .int fl, .int u.2]) (wr_A 2 h0 sz [.int cd, .int fl, .int al])) (wr_A 2 h0 sz [.int cd, .int fl, .int al])) 0 0 (wr_A 2 h0 sz [.int cd, .int fl, .int al]) := by
  refine Met.ofW (cc := cX1_divide) (maxL := 17) (ret := (some .int)) (by decide) rfl ?_
  intro p e s m args below meth c s₁ B hml hv
  obtain ⟨rfl, hsz, hP, hK, hD0⟩ := hv
  have hx := B.exec
  have hb := B.bytes
  have hr := B.returns
  have hts := atoms_spec (ws := wsX1_divide) B.pre
  have hown : s.vm.findClass RX1 = some m.cls := findClass_of_methodNamed B.named
  have hlocks := B.notSynchronized
  subst hsz
  have hD : va_D (wr_A 2 h0 s.heap.size [.int cd, .int fl, .int al]) [(h0, .inr (2, [.int cd, .int fl, .int al]))] := hD0.self (sz := s.heap.size)
  generalize hAe : wr_A 2 h0 s.heap.size [.int cd, .int fl, .int al] = A at hD ⊢
  have hA : ∀ q : Nat, s.heap.size ≤ q → A q := fun q h => by rw [← hAe]; exact Or.inr h
  have hS : va_S A s.heap s.heap [] := va_S.rf
  have hP : va_P (dC, dI) vwCl [(h0, .inr (2, [.int cd, .int fl, .int al]))] s.heap := hP
  have hD : va_D A [(h0, .inr (2, [.int cd, .int fl, .int al]))] := hD
  have hl := lv_entry ([.ref h0, .int a1, .int a2, .int a3, .int a4]) (n := 17) (Nat.le_of_ble_eq_true rfl)
  rw [lg_entry_eq]
  generalize (lg_sl ([.ref h0, .int a1, .int a2, .int a3, .int a4]) ++ List.replicate (17 - (lg_sl ([.ref h0, .int a1, .int a2, .int a3, .int a4])).length) Slot.unset).toArray = ls at hl ⊢
  have hl : lv_has ls 17 [(0, .ref h0), (1, .int a1), (2, .int a2), (3, .int a3), (4, .int a4)] := hl
  refine lv_aload_n hx hb dX1_divide_0 rfl (lv_at hl 0 rfl) ?_
  refine lv_iload_n hx hb dX1_divide_1 rfl (lv_at hl 1 rfl) ?_
  refine wr_callv (va_runV (As := [.int a1]) (rest := []) ⟨hx, hb, hml, hown, hts⟩ (p_X1_length l dC dI h0 _ cd fl al a1) (cwV 1 hts gX1_divide_X1_length rfl rfl rfl (by decide +kernel) ⟨Nat.le_of_ble_eq_true rfl, Nat.le_of_ble_eq_true rfl⟩) (wr_preV (ci := 2) rfl hK hP hD) rfl rfl hl.1 rfl (lv_room (Nat.le_of_ble_eq_true rfl)) dX1_divide_2 ⟨Nat.le_of_ble_eq_true rfl, Nat.le_of_ble_eq_true rfl⟩) hP hD hS hA (fun u_2 H locs eu_2 hP hD hS => ?_)
  have hP : va_P (dC, dI) vwCl [(h0, .inr (2, [.int cd, .int fl, .int u_2]))] H := hP
  have hD : va_D A [(h0, .inr (2, [.int cd, .int fl, .int u_2]))] := hD
  refine lv_aload_n hx hb dX1_divide_5 rfl (lv_at hl 0 rfl) ?_
  refine va_get (D := (dC, dI)) (ci := 2) (v := .int u_2) (C := RX1) (T := TX1) (N := 3) hx hb hts (by decide +kernel) hown hK hP 0 rfl rfl 2 (by decide) (hts (.fieldLink RX1 14 "WordArithmeticModel" "all" "I") (by decide +kernel)) (fun _ h9 => h9) rfl dX1_divide_6 ?_
  refine lv_i2l (v := (u_2 : Int32).toInt64) hx hb dX1_divide_9 rfl ?_
  refine lv_aload_n hx hb dX1_divide_10 rfl (lv_at hl 0 rfl) ?_
  refine va_get (D := (dC, dI)) (ci := 2) (v := .int u_2) (C := RX1) (T := TX1) (N := 3) hx hb hts (by decide +kernel) hown hK hP 0 rfl rfl 2 (by decide) (hts (.fieldLink RX1 14 "WordArithmeticModel" "all" "I") (by decide +kernel)) (fun _ h9 => h9) rfl dX1_divide_11 ?_
  refine lv_i2l (v := (u_2 : Int32).toInt64) hx hb dX1_divide_14 rfl ?_
  refine lv_lmul hx hb dX1_divide_15 ?_
  refine lv_topl (fun y_3 ey_3 => ?_)
  refine lv_lstore (lv' := [(5, .long y_3), (0, .ref h0), (1, .int a1), (2, .int a2), (3, .int a3), (4, .int a4)]) hx hb dX1_divide_16 hl (by decide) rfl (fun ls hl => ?_)
  refine lv_iload_n hx hb dX1_divide_18 rfl (lv_at hl 4 rfl) ?_
  refine lv_i2l (v := (a3 : Int32).toInt64) hx hb dX1_divide_19 rfl ?_
  refine lv_lload hx hb dX1_divide_20 (lv_at hl 0 rfl) ?_
  refine lv_lconst (v := 1) hx hb dX1_divide_22 (by decide +kernel) ?_
  refine lv_lsub hx hb dX1_divide_23 ?_
  refine lv_land hx hb dX1_divide_24 ?_
  refine lv_topl (fun y_4 ey_4 => ?_)
  refine lv_lstore (lv' := [(7, .long y_4), (5, .long y_3), (0, .ref h0), (1, .int a1), (2, .int a2), (3, .int a3), (4, .int a4)]) hx hb dX1_divide_25 hl (by decide) rfl (fun ls hl => ?_)
  refine lv_iload_n hx hb dX1_divide_27 rfl (lv_at hl 4 rfl) ?_
  refine rgL (J := 53) (st := []) (if a2 = 0 then y_4 else (if (lg_cmp y_4 (y_3 / 2)) < 0 then y_4 else (y_4 - y_3))) (fun k => ?_) (fun y_5 ey_5 => ?_)
  · refine lv_if_eq (tgt := 51) hx hb dX1_divide_28 (by decide) (fun c_6 => ?_) (fun c_6 => ?_)
    · refine lv_lload hx hb dX1_divide_51 (lv_at hl 0 rfl) ?_
      exact rgL_e k (by first | rw [if_pos c_6] | simp only [if_pos c_6])
    · refine lv_lload hx hb dX1_divide_31 (lv_at hl 0 rfl) ?_
      refine lv_lload hx hb dX1_divide_33 (lv_at hl 1 rfl) ?_
      refine lv_ldc2 (own := RX1) (index := 57) (v := 2) hx hb hown (hts (.constantLong RX1 57 (2)) (by decide +kernel)) dX1_divide_35 ?_
      refine lv_ldiv hx hb dX1_divide_38 (by decide) ?_
      refine W.lcmp hx hb dX1_divide_39 ?_
      refine lv_if_lt (tgt := 51) hx hb dX1_divide_40 (by decide) (fun c_7 => ?_) (fun c_7 => ?_)
      · refine lv_lload hx hb dX1_divide_51 (lv_at hl 0 rfl) ?_
        exact rgL_e k (by first | rw [if_neg c_6, if_pos c_7] | simp only [if_neg c_6, if_pos c_7])
      · refine lv_lload hx hb dX1_divide_43 (lv_at hl 0 rfl) ?_
        refine lv_lload hx hb dX1_divide_45 (lv_at hl 1 rfl) ?_
        refine lv_lsub hx hb dX1_divide_47 ?_
        refine lv_goto (tgt := 53) hx hb dX1_divide_48 (by decide) ?_
        exact rgL_e k (by first | rw [if_neg c_6, if_neg c_7] | simp only [if_neg c_6, if_neg c_7])
  refine lv_lstore (lv' := [(7, .long y_5), (5, .long y_3), (0, .ref h0), (1, .int a1), (2, .int a2), (3, .int a3), (4, .int a4)]) hx hb dX1_divide_53 hl (by decide) rfl (fun ls hl => ?_)
  refine lv_aload_n hx hb dX1_divide_55 rfl (lv_at hl 2 rfl) ?_
  refine lv_iload hx hb dX1_divide_56 (lv_at hl 6 rfl) ?_
  refine pu_calli (F := (f_X1_operand u_2 a4)) (va_runV (As := [.int a4]) (rest := []) ⟨hx, hb, hml, hown, hts⟩ (p_X1_operand l dC dI h0 _ cd fl u_2 a4) (cwV 1 hts gX1_divide_X1_operand rfl rfl rfl (by decide +kernel) ⟨Nat.le_of_ble_eq_true rfl, Nat.le_of_ble_eq_true rfl⟩) (pu_preV (ci := 2) rfl hK hP) rfl rfl hl.1 rfl (lv_room (Nat.le_of_ble_eq_true rfl)) dX1_divide_58 ⟨Nat.le_of_ble_eq_true rfl, Nat.le_of_ble_eq_true rfl⟩) ?_
  refine lv_topi (fun y_8 ey_8 => ?_)
  refine lv_istore (lv' := [(9, .int y_8), (7, .long y_5), (5, .long y_3), (0, .ref h0), (1, .int a1), (2, .int a2), (3, .int a3), (4, .int a4)]) hx hb dX1_divide_61 hl (by decide) rfl (fun ls hl => ?_)
  refine lv_iload_n hx hb dX1_divide_63 rfl (lv_at hl 5 rfl) ?_
  refine rgL (J := 80) (st := []) (if a2 = 0 then ((y_8 : Int32).toInt64) else (((f_X1_signed u_2 y_8) : Int32).toInt64)) (fun k => ?_) (fun y_9 ey_9 => ?_)
  · refine lv_if_eq (tgt := 77) hx hb dX1_divide_64 (by decide) (fun c_10 => ?_) (fun c_10 => ?_)
    · refine lv_iload hx hb dX1_divide_77 (lv_at hl 0 rfl) ?_
      refine lv_i2l (v := (y_8 : Int32).toInt64) hx hb dX1_divide_79 rfl ?_
      exact rgL_e k (by first | rw [if_pos c_10] | simp only [if_pos c_10])
    · refine lv_aload_n hx hb dX1_divide_67 rfl (lv_at hl 3 rfl) ?_
      refine lv_iload hx hb dX1_divide_68 (lv_at hl 0 rfl) ?_
      refine pu_calli (F := (f_X1_signed u_2 y_8)) (va_runV (As := [.int y_8]) (rest := []) ⟨hx, hb, hml, hown, hts⟩ (p_X1_signed l dC dI h0 _ cd fl u_2 y_8) (cwV 1 hts gX1_divide_X1_signed rfl rfl rfl (by decide +kernel) ⟨Nat.le_of_ble_eq_true rfl, Nat.le_of_ble_eq_true rfl⟩) (pu_preV (ci := 2) rfl hK hP) rfl rfl hl.1 rfl (lv_room (Nat.le_of_ble_eq_true rfl)) dX1_divide_70 ⟨Nat.le_of_ble_eq_true rfl, Nat.le_of_ble_eq_true rfl⟩) ?_
      refine lv_i2l (v := ((f_X1_signed u_2 y_8) : Int32).toInt64) hx hb dX1_divide_73 rfl ?_
      refine lv_goto (tgt := 80) hx hb dX1_divide_74 (by decide) ?_
      exact rgL_e k (by first | rw [if_neg c_10] | simp only [if_neg c_10])
  refine lv_lstore (lv' := [(10, .long y_9), (9, .int y_8), (7, .long y_5), (5, .long y_3), (0, .ref h0), (1, .int a1), (2, .int a2), (3, .int a3), (4, .int a4)]) hx hb dX1_divide_80 hl (by decide) rfl (fun ls hl => ?_)
  refine lv_lload hx hb dX1_divide_82 (lv_at hl 0 rfl) ?_
  refine lv_lconst (v := 0) hx hb dX1_divide_84 (by decide +kernel) ?_
  refine W.lcmp hx hb dX1_divide_85 ?_
  refine rgL (J := 98) (st := []) (if (lg_cmp y_9 0) = 0 then 0 else (y_5 / y_9)) (fun k => ?_) (fun y_11 ey_11 => ?_)
  · refine lv_if_ne (tgt := 93) hx hb dX1_divide_86 (by decide) (fun c_12 => ?_) (fun c_12 => ?_)
    · refine lv_lload hx hb dX1_divide_93 (lv_at hl 2 rfl) ?_
      refine lv_lload hx hb dX1_divide_95 (lv_at hl 0 rfl) ?_
      refine lv_ldiv hx hb dX1_divide_97 (fun h => c_12 ((lg_cmp_eq _ _).mpr h)) ?_
      exact rgL_e k (by first | rw [if_neg c_12] | simp only [if_neg c_12])
    · refine lv_lconst (v := 0) hx hb dX1_divide_89 (by decide +kernel) ?_
      refine lv_goto (tgt := 98) hx hb dX1_divide_90 (by decide) ?_
      exact rgL_e k (by first | rw [if_pos c_12] | simp only [if_pos c_12])
  refine lv_lstore (lv' := [(12, .long y_11), (10, .long y_9), (9, .int y_8), (7, .long y_5), (5, .long y_3), (0, .ref h0), (1, .int a1), (2, .int a2), (3, .int a3), (4, .int a4)]) hx hb dX1_divide_98 hl (by decide) rfl (fun ls hl => ?_)
  refine lv_lload hx hb dX1_divide_100 (lv_at hl 1 rfl) ?_
  refine lv_lconst (v := 0) hx hb dX1_divide_102 (by decide +kernel) ?_
  refine W.lcmp hx hb dX1_divide_103 ?_
  refine rg (J := 157) (st := []) (if (lg_cmp y_9 0) = 0 then 0 else (if a2 = 0 then (if 0 ≤ (lg_cmp y_11 ((u_2 : Int32).toInt64)) then 0 else 1) else (if 0 ≤ (lg_cmp y_11 (((u_2 / 2) : Int32).toInt64)) then 0 else (if (lg_cmp y_11 ((((-u_2) / 2) : Int32).toInt64)) ≤ 0 then 0 else 1)))) (fun k => ?_) (fun y_13 ey_13 => ?_)
  · refine lv_if_eq (tgt := 156) hx hb dX1_divide_104 (by decide) (fun c_14 => ?_) (fun c_14 => ?_)
    · refine lv_iconst (v := 0) hx hb dX1_divide_156 (by decide) ?_
      exact rg_e k (by first | rw [if_pos c_14] | simp only [if_pos c_14])
    · refine lv_iload_n hx hb dX1_divide_107 rfl (lv_at hl 7 rfl) ?_
      refine lv_if_eq (tgt := 141) hx hb dX1_divide_108 (by decide) (fun c_15 => ?_) (fun c_15 => ?_)
      · refine lv_lload hx hb dX1_divide_141 (lv_at hl 0 rfl) ?_
        refine lv_aload_n hx hb dX1_divide_143 rfl (lv_at hl 5 rfl) ?_
        refine va_get (D := (dC, dI)) (ci := 2) (v := .int u_2) (C := RX1) (T := TX1) (N := 3) hx hb hts (by decide +kernel) hown hK hP 0 rfl rfl 2 (by decide) (hts (.fieldLink RX1 14 "WordArithmeticModel" "all" "I") (by decide +kernel)) (fun _ h9 => h9) rfl dX1_divide_144 ?_
        refine lv_i2l (v := (u_2 : Int32).toInt64) hx hb dX1_divide_147 rfl ?_
        refine W.lcmp hx hb dX1_divide_148 ?_
        refine lv_if_ge (tgt := 156) hx hb dX1_divide_149 (by decide) (fun c_16 => ?_) (fun c_16 => ?_)
        · refine lv_iconst (v := 0) hx hb dX1_divide_156 (by decide) ?_
          exact rg_e k (by first | rw [if_neg c_14, if_pos c_15, if_pos c_16] | simp only [if_neg c_14, if_pos c_15, if_pos c_16])
        · refine lv_iconst (v := 1) hx hb dX1_divide_152 (by decide) ?_
          refine lv_goto (tgt := 157) hx hb dX1_divide_153 (by decide) ?_
          exact rg_e k (by first | rw [if_neg c_14, if_pos c_15, if_neg c_16] | simp only [if_neg c_14, if_pos c_15, if_neg c_16])
      · refine lv_lload hx hb dX1_divide_111 (lv_at hl 0 rfl) ?_
        refine lv_aload_n hx hb dX1_divide_113 rfl (lv_at hl 5 rfl) ?_
        refine va_get (D := (dC, dI)) (ci := 2) (v := .int u_2) (C := RX1) (T := TX1) (N := 3) hx hb hts (by decide +kernel) hown hK hP 0 rfl rfl 2 (by decide) (hts (.fieldLink RX1 14 "WordArithmeticModel" "all" "I") (by decide +kernel)) (fun _ h9 => h9) rfl dX1_divide_114 ?_
        refine lv_iconst (v := 2) hx hb dX1_divide_117 (by decide) ?_
        refine lv_idiv hx hb dX1_divide_118 (by decide) ?_
        refine lv_i2l (v := ((u_2 / 2) : Int32).toInt64) hx hb dX1_divide_119 rfl ?_
        refine W.lcmp hx hb dX1_divide_120 ?_
        refine lv_if_ge (tgt := 156) hx hb dX1_divide_121 (by decide) (fun c_17 => ?_) (fun c_17 => ?_)
        · refine lv_iconst (v := 0) hx hb dX1_divide_156 (by decide) ?_
          exact rg_e k (by first | rw [if_neg c_14, if_neg c_15, if_pos c_17] | simp only [if_neg c_14, if_neg c_15, if_pos c_17])
        · refine lv_lload hx hb dX1_divide_124 (lv_at hl 0 rfl) ?_
          refine lv_aload_n hx hb dX1_divide_126 rfl (lv_at hl 5 rfl) ?_
          refine va_get (D := (dC, dI)) (ci := 2) (v := .int u_2) (C := RX1) (T := TX1) (N := 3) hx hb hts (by decide +kernel) hown hK hP 0 rfl rfl 2 (by decide) (hts (.fieldLink RX1 14 "WordArithmeticModel" "all" "I") (by decide +kernel)) (fun _ h9 => h9) rfl dX1_divide_127 ?_
          refine lv_ineg hx hb dX1_divide_130 ?_
          refine lv_iconst (v := 2) hx hb dX1_divide_131 (by decide) ?_
          refine lv_idiv hx hb dX1_divide_132 (by decide) ?_
          refine lv_i2l (v := (((-u_2) / 2) : Int32).toInt64) hx hb dX1_divide_133 rfl ?_
          refine W.lcmp hx hb dX1_divide_134 ?_
          refine lv_if_le (tgt := 156) hx hb dX1_divide_135 (by decide) (fun c_18 => ?_) (fun c_18 => ?_)
          · refine lv_iconst (v := 0) hx hb dX1_divide_156 (by decide) ?_
            exact rg_e k (by first | rw [if_neg c_14, if_neg c_15, if_neg c_17, if_pos c_18] | simp only [if_neg c_14, if_neg c_15, if_neg c_17, if_pos c_18])
          · refine lv_goto (tgt := 152) hx hb dX1_divide_138 (by decide) ?_
            refine lv_iconst (v := 1) hx hb dX1_divide_152 (by decide) ?_
            refine lv_goto (tgt := 157) hx hb dX1_divide_153 (by decide) ?_
            exact rg_e k (by first | rw [if_neg c_14, if_neg c_15, if_neg c_17, if_neg c_18] | simp only [if_neg c_14, if_neg c_15, if_neg c_17, if_neg c_18])
  refine lv_istore (lv' := [(14, .int y_13), (12, .long y_11), (10, .long y_9), (9, .int y_8), (7, .long y_5), (5, .long y_3), (0, .ref h0), (1, .int a1), (2, .int a2), (3, .int a3), (4, .int a4)]) hx hb dX1_divide_157 hl (by decide) rfl (fun ls hl => ?_)
  refine lv_aload_n hx hb dX1_divide_159 rfl (lv_at hl 6 rfl) ?_
  refine lv_iload hx hb dX1_divide_160 (lv_at hl 0 rfl) ?_
  refine rg (J := 170) (st := [.ref h0]) (if y_13 = 0 then 1 else 0) (fun k => ?_) (fun y_19 ey_19 => ?_)
  · refine lv_if_eq (tgt := 169) hx hb dX1_divide_162 (by decide) (fun c_20 => ?_) (fun c_20 => ?_)
    · refine lv_iconst (v := 1) hx hb dX1_divide_169 (by decide) ?_
      exact rg_e k (by first | rw [if_pos c_20] | simp only [if_pos c_20])
    · refine lv_iconst (v := 0) hx hb dX1_divide_165 (by decide) ?_
      refine lv_goto (tgt := 170) hx hb dX1_divide_166 (by decide) ?_
      exact rg_e k (by first | rw [if_neg c_20] | simp only [if_neg c_20])
  refine va_put (D := (dC, dI)) (ci := 2) (v := .int y_19) (ty := .int) (C := RX1) (T := TX1) (N := 3) hx hb hts (by decide +kernel) tyX1 tyX1_ok nmX1 hown hK hP hD hS 0 rfl rfl 0 (by decide) (hts (.fieldLink RX1 7 "WordArithmeticModel" "code" "I") (by decide +kernel)) (fun _ h9 => h9) rfl (by decide +kernel) rfl rfl (Nat.le_of_ble_eq_true rfl) dX1_divide_170 (fun H locs hP hD hS => ?_)
  have hP : va_P (dC, dI) vwCl [(h0, .inr (2, [.int y_19, .int fl, .int u_2]))] H := hP
  have hD : va_D A [(h0, .inr (2, [.int y_19, .int fl, .int u_2]))] := hD
  refine lv_aload_n hx hb dX1_divide_173 rfl (lv_at hl 6 rfl) ?_
  refine va_get (D := (dC, dI)) (ci := 2) (v := .int y_19) (C := RX1) (T := TX1) (N := 3) hx hb hts (by decide +kernel) hown hK hP 0 rfl rfl 0 (by decide) (hts (.fieldLink RX1 7 "WordArithmeticModel" "code" "I") (by decide +kernel)) (fun _ h9 => h9) rfl dX1_divide_174 ?_
  refine lv_if_le (tgt := 182) hx hb dX1_divide_177 (by decide) (fun c_21 => ?_) (fun c_21 => ?_)
  · refine lv_lload hx hb dX1_divide_182 (lv_at hl 4 rfl) ?_
    refine lv_lload hx hb dX1_divide_184 (lv_at hl 1 rfl) ?_
    refine lv_lload hx hb dX1_divide_186 (lv_at hl 2 rfl) ?_
    refine lv_lmul hx hb dX1_divide_188 ?_
    refine lv_lsub hx hb dX1_divide_189 ?_
    refine lv_topl (fun y_22 ey_22 => ?_)
    refine lv_lstore (lv' := [(15, .long y_22), (14, .int y_13), (12, .long y_11), (10, .long y_9), (9, .int y_8), (7, .long y_5), (5, .long y_3), (0, .ref h0), (1, .int a1), (2, .int a2), (3, .int a3), (4, .int a4)]) hx hb dX1_divide_190 hl (by decide) rfl (fun ls hl => ?_)
    refine lv_lload hx hb dX1_divide_192 (lv_at hl 0 rfl) ?_
    refine lv_lconst (v := 0) hx hb dX1_divide_194 (by decide +kernel) ?_
    refine W.lcmp hx hb dX1_divide_195 ?_
    refine rgL (J := 212) (st := []) (if 0 ≤ (lg_cmp y_22 0) then y_22 else (y_22 + ((u_2 : Int32).toInt64))) (fun k => ?_) (fun y_23 ey_23 => ?_)
    · refine lv_if_ge (tgt := 210) hx hb dX1_divide_196 (by decide) (fun c_24 => ?_) (fun c_24 => ?_)
      · refine lv_lload hx hb dX1_divide_210 (lv_at hl 0 rfl) ?_
        exact rgL_e k (by first | rw [if_pos c_24] | simp only [if_pos c_24])
      · refine lv_lload hx hb dX1_divide_199 (lv_at hl 0 rfl) ?_
        refine lv_aload_n hx hb dX1_divide_201 rfl (lv_at hl 7 rfl) ?_
        refine va_get (D := (dC, dI)) (ci := 2) (v := .int u_2) (C := RX1) (T := TX1) (N := 3) hx hb hts (by decide +kernel) hown hK hP 0 rfl rfl 2 (by decide) (hts (.fieldLink RX1 14 "WordArithmeticModel" "all" "I") (by decide +kernel)) (fun _ h9 => h9) rfl dX1_divide_202 ?_
        refine lv_i2l (v := (u_2 : Int32).toInt64) hx hb dX1_divide_205 rfl ?_
        refine lv_ladd hx hb dX1_divide_206 ?_
        refine lv_goto (tgt := 212) hx hb dX1_divide_207 (by decide) ?_
        exact rgL_e k (by first | rw [if_neg c_24] | simp only [if_neg c_24])
    refine lv_lstore (lv' := [(15, .long y_23), (14, .int y_13), (12, .long y_11), (10, .long y_9), (9, .int y_8), (7, .long y_5), (5, .long y_3), (0, .ref h0), (1, .int a1), (2, .int a2), (3, .int a3), (4, .int a4)]) hx hb dX1_divide_212 hl (by decide) rfl (fun ls hl => ?_)
    refine lv_lload hx hb dX1_divide_214 (lv_at hl 2 rfl) ?_
    refine lv_lconst (v := 0) hx hb dX1_divide_216 (by decide +kernel) ?_
    refine W.lcmp hx hb dX1_divide_217 ?_
    refine rgL (J := 234) (st := []) (if 0 ≤ (lg_cmp y_11 0) then y_11 else (y_11 + ((u_2 : Int32).toInt64))) (fun k => ?_) (fun y_25 ey_25 => ?_)
    · refine lv_if_ge (tgt := 232) hx hb dX1_divide_218 (by decide) (fun c_26 => ?_) (fun c_26 => ?_)
      · refine lv_lload hx hb dX1_divide_232 (lv_at hl 2 rfl) ?_
        exact rgL_e k (by first | rw [if_pos c_26] | simp only [if_pos c_26])
      · refine lv_lload hx hb dX1_divide_221 (lv_at hl 2 rfl) ?_
        refine lv_aload_n hx hb dX1_divide_223 rfl (lv_at hl 7 rfl) ?_
        refine va_get (D := (dC, dI)) (ci := 2) (v := .int u_2) (C := RX1) (T := TX1) (N := 3) hx hb hts (by decide +kernel) hown hK hP 0 rfl rfl 2 (by decide) (hts (.fieldLink RX1 14 "WordArithmeticModel" "all" "I") (by decide +kernel)) (fun _ h9 => h9) rfl dX1_divide_224 ?_
        refine lv_i2l (v := (u_2 : Int32).toInt64) hx hb dX1_divide_227 rfl ?_
        refine lv_ladd hx hb dX1_divide_228 ?_
        refine lv_goto (tgt := 234) hx hb dX1_divide_229 (by decide) ?_
        exact rgL_e k (by first | rw [if_neg c_26] | simp only [if_neg c_26])
    refine lv_lstore (lv' := [(12, .long y_25), (15, .long y_23), (14, .int y_13), (10, .long y_9), (9, .int y_8), (7, .long y_5), (5, .long y_3), (0, .ref h0), (1, .int a1), (2, .int a2), (3, .int a3), (4, .int a4)]) hx hb dX1_divide_234 hl (by decide) rfl (fun ls hl => ?_)
    refine lv_lload hx hb dX1_divide_236 (lv_at hl 1 rfl) ?_
    refine lv_aload_n hx hb dX1_divide_238 rfl (lv_at hl 7 rfl) ?_
    refine va_get (D := (dC, dI)) (ci := 2) (v := .int u_2) (C := RX1) (T := TX1) (N := 3) hx hb hts (by decide +kernel) hown hK hP 0 rfl rfl 2 (by decide) (hts (.fieldLink RX1 14 "WordArithmeticModel" "all" "I") (by decide +kernel)) (fun _ h9 => h9) rfl dX1_divide_239 ?_
    refine lv_i2l (v := (u_2 : Int32).toInt64) hx hb dX1_divide_242 rfl ?_
    refine lv_lmul hx hb dX1_divide_243 ?_
    refine lv_lload hx hb dX1_divide_244 (lv_at hl 0 rfl) ?_
    refine lv_ladd hx hb dX1_divide_246 ?_
    refine lv_l2i (v := (((y_23 * ((u_2 : Int32).toInt64)) + y_25) : Int64).toInt32) hx hb dX1_divide_247 rfl ?_
    exact W.iret (v := ((((y_23 * ((u_2 : Int32).toInt64)) + y_25) : Int64).toInt32)) hx hb hr (fun t ht hW => ⟨⟨((((y_23 * ((u_2 : Int32).toInt64)) + y_25) : Int64).toInt32), (y_19, u_2), rfl, ⟨(by subst eu_2; subst ey_3; subst ey_4; subst ey_5; subst ey_8; subst ey_9; subst ey_11; subst ey_13; subst ey_19; subst ey_22; subst ey_23; subst ey_25; simp only [f_X1_divide, if_pos c_21]), (by subst eu_2; subst ey_3; subst ey_4; subst ey_5; subst ey_8; subst ey_9; subst ey_11; subst ey_13; subst ey_19; subst ey_22; subst ey_23; subst ey_25; simp only [f_X1_divide, if_pos c_21])⟩, by rw [ht]; exact hP, va_K.moved hW.alike hK, hD⟩, hS.F ht⟩) hS.2.2 dX1_divide_248
  · refine lv_iconst (v := 0) hx hb dX1_divide_180 (by decide) ?_
    exact W.iret (v := 0) hx hb hr (fun t ht hW => ⟨⟨0, (y_19, u_2), rfl, ⟨(by subst eu_2; subst ey_3; subst ey_4; subst ey_5; subst ey_8; subst ey_9; subst ey_11; subst ey_13; subst ey_19; simp only [f_X1_divide, if_neg c_21]), (by subst eu_2; subst ey_3; subst ey_4; subst ey_5; subst ey_8; subst ey_9; subst ey_11; subst ey_13; subst ey_19; simp only [f_X1_divide, if_neg c_21])⟩, by rw [ht]; exact hP, va_K.moved hW.alike hK, hD⟩, hS.F ht⟩) hS.2.2 dX1_divide_181

/-- what X1_byteOf answers -/
def f_X1_byteOf (a1 : Int32) : Int32 :=
  (a1 &&& 255)
set_option maxHeartbeats 4000000 in
set_option maxRecDepth 100000 in
theorem p_X1_byteOf (l : Launch) (HH : Heap) (a1 : Int32) : Met l yX1_byteOf wsX1_byteOf ({ frames := 0, cells := 0, slots := 0, locals := 0 }) (va_Pc [.int a1] (fun U => U.heap = HH)) (va_Qi (fun (r : Int32) (_ : Unit) => r = f_X1_byteOf a1) (fun _ t => t.heap = HH) (fun _ => False)) 0 0 (fun _ => False) := by
  refine Met.ofW (cc := cX1_byteOf) (maxL := 1) (ret := (some .int)) (by decide) rfl ?_
  intro p e s m args below meth c s₁ B hml hv
  obtain ⟨rfl, hsz⟩ := hv
  have hx := B.exec
  have hb := B.bytes
  have hr := B.returns
  have hts := atoms_spec (ws := wsX1_byteOf) B.pre
  have hown : s.vm.findClass RX1 = some m.cls := findClass_of_methodNamed B.named
  have hlocks := B.notSynchronized
  subst hsz
  have hl := lv_entry ([.int a1]) (n := 1) (Nat.le_of_ble_eq_true rfl)
  rw [lg_entry_eq]
  generalize (lg_sl ([.int a1]) ++ List.replicate (1 - (lg_sl ([.int a1])).length) Slot.unset).toArray = ls at hl ⊢
  have hl : lv_has ls 1 [(0, .int a1)] := hl
  refine lv_iload_n hx hb dX1_byteOf_0 rfl (lv_at hl 0 rfl) ?_
  refine lv_sipush (v := 255) hx hb dX1_byteOf_1 (by decide +kernel) ?_
  refine lv_iand hx hb dX1_byteOf_4 ?_
  exact W.iret (v := (a1 &&& 255)) hx hb hr (fun t ht hW => ⟨⟨(a1 &&& 255), (), rfl, rfl, ht⟩, pu_F ht⟩) (fun q h => nomatch h) dX1_byteOf_5

/-- what X1_adjust answers -/
def f_X1_adjust (fl : Int32) (al : Int32) (a1 : Int32) (a2 : Int32) (a3 : Int32) : Int32 × (Int32 × Int32 × Int32) :=
  let y_1 : Int32 := (f_X1_byteOf a2)
  let y_2 : Int32 := (f_X1_byteOf (a2 / 256))
  let y_3 : Int32 := (if 0 ≤ a2 then y_2 else (f_X1_byteOf (a2 >>> (8 &&& 31))))
  let y_5 : Int32 := (f_X1_byteOf a3)
  let y_6 : Int32 := (if a1 < 0 then 1 else (if a1 ≤ 5 then (if a1 = 4 then (if y_5 = 0 then 2 else 0) else 0) else 1))
  if y_6 ≤ 0 then
  (let u_13 : Int32 := (f_X1_length 0)
  let y_14 : Int32 := (if 9 < (jr y_1 16) then 1 else (if (f_X1_is fl 16) = 0 then 0 else 1))
  let y_17 : Int32 := (if 153 < y_1 then 1 else (if (f_X1_is fl 1) = 0 then 0 else 1))
  if a1 = 0 then
  (let y_21 : Int32 := (if y_14 = 0 then 0 else 6)
  let y_23 : Int32 := (if y_17 = 0 then 0 else 96)
  let y_25 : Int32 := (f_X1_byteOf ((y_1 + y_21) + y_23))
  let u_27 : Int32 := (f_X1_put fl 16 y_14)
  let u_29 : Int32 := (f_X1_put u_27 1 y_17)
  let u_31 : Int32 := (f_X1_byAnswer u_29 u_13 y_25)
  (((256 * y_3) + y_25), (y_6, u_31, u_13)))
  else
  if a1 = 1 then
  (let y_33 : Int32 := (if y_14 = 0 then 0 else 6)
  let y_35 : Int32 := (if y_17 = 0 then 0 else 96)
  let y_37 : Int32 := (f_X1_byteOf ((y_1 - y_33) - y_35))
  let u_39 : Int32 := (f_X1_put fl 16 y_14)
  let y_40 : Int32 := (if y_17 = 0 then (if y_14 = 0 then 0 else (if 6 ≤ y_1 then 0 else 1)) else 1)
  let u_45 : Int32 := (f_X1_put u_39 1 y_40)
  let u_47 : Int32 := (f_X1_byAnswer u_45 u_13 y_37)
  (((256 * y_3) + y_37), (y_6, u_47, u_13)))
  else
  if a1 = 2 then
  (let u_50 : Int32 := (f_X1_put fl 16 y_14)
  let u_52 : Int32 := (f_X1_put u_50 1 y_14)
  let y_53 : Int32 := (if y_14 = 0 then y_3 else (y_3 + 1))
  let y_55 : Int32 := (if y_14 = 0 then y_1 else (y_1 + 6))
  (((256 * (f_X1_byteOf y_53)) + (jr y_55 16)), (y_6, u_52, u_13)))
  else
  if a1 = 3 then
  (let u_59 : Int32 := (f_X1_put fl 16 y_14)
  let u_61 : Int32 := (f_X1_put u_59 1 y_14)
  let y_62 : Int32 := (if y_14 = 0 then y_3 else (y_3 - 1))
  let y_64 : Int32 := (if y_14 = 0 then y_1 else (y_1 + 10))
  (((256 * (f_X1_byteOf y_62)) + (jr y_64 16)), (y_6, u_61, u_13)))
  else
  if a1 = 4 then
  (let u_68 : Int32 := (f_X1_byAnswer fl u_13 (jr y_1 y_5))
  (((256 * (y_1 / y_5)) + (jr y_1 y_5)), (y_6, u_68, u_13)))
  else
  (let y_69 : Int32 := (f_X1_byteOf ((y_3 * y_5) + y_1))
  let u_71 : Int32 := (f_X1_byAnswer fl u_13 y_69)
  (y_69, (y_6, u_71, u_13))))
  else
  ((0, (y_6, fl, al)))
set_option maxHeartbeats 4000000 in
set_option maxRecDepth 100000 in
theorem p_X1_adjust (l : Launch) (dC : Nat → ClassId) (dI : Nat → Nat → Nat) (h0 : Nat) (sz : Nat) (cd : Int32) (fl : Int32) (al : Int32) (a1 : Int32) (a2 : Int32) (a3 : Int32) : Met l yX1_adjust wsX1_adjust ({ frames := 3, cells := 0, slots := 0, locals := 67 }) (va_Pc [.ref h0, .int a1, .int a2, .int a3] (wr_pre (dC, dI) 2 h0 sz [.int cd, .int fl, .int al])) (va_Qi (fun (r : Int32) (u : Int32 × Int32 × Int32) => r = (f_X1_adjust fl al a1 a2 a3).1 ∧ u = (f_X1_adjust fl al a1 a2 a3).2) (wr_at (dC, dI) 2 h0 (fun u : Int32 × Int32 × Int32 => [.int u.1, .int u.2.1, .int u.2.2]) (wr_A 2 h0 sz [.int cd, .int fl, .int al])) (wr_A 2 h0 sz [.int cd, .int fl, .int al])) 0 0 (wr_A 2 h0 sz [.int cd, .int fl, .int al]) := by
  refine Met.ofW (cc := cX1_adjust) (maxL := 10) (ret := (some .int)) (by decide) rfl ?_
  intro p e s m args below meth c s₁ B hml hv
  obtain ⟨rfl, hsz, hP, hK, hD0⟩ := hv
  have hx := B.exec
  have hb := B.bytes
  have hr := B.returns
  have hts := atoms_spec (ws := wsX1_adjust) B.pre
  have hown : s.vm.findClass RX1 = some m.cls := findClass_of_methodNamed B.named
  have hlocks := B.notSynchronized
  subst hsz
  have hD : va_D (wr_A 2 h0 s.heap.size [.int cd, .int fl, .int al]) [(h0, .inr (2, [.int cd, .int fl, .int al]))] := hD0.self (sz := s.heap.size)
  generalize hAe : wr_A 2 h0 s.heap.size [.int cd, .int fl, .int al] = A at hD ⊢
  have hA : ∀ q : Nat, s.heap.size ≤ q → A q := fun q h => by rw [← hAe]; exact Or.inr h
  have hS : va_S A s.heap s.heap [] := va_S.rf
  have hP : va_P (dC, dI) vwCl [(h0, .inr (2, [.int cd, .int fl, .int al]))] s.heap := hP
  have hD : va_D A [(h0, .inr (2, [.int cd, .int fl, .int al]))] := hD
  have hl := lv_entry ([.ref h0, .int a1, .int a2, .int a3]) (n := 10) (Nat.le_of_ble_eq_true rfl)
  rw [lg_entry_eq]
  generalize (lg_sl ([.ref h0, .int a1, .int a2, .int a3]) ++ List.replicate (10 - (lg_sl ([.ref h0, .int a1, .int a2, .int a3])).length) Slot.unset).toArray = ls at hl ⊢
  have hl : lv_has ls 10 [(0, .ref h0), (1, .int a1), (2, .int a2), (3, .int a3)] := hl
  refine lv_iload_n hx hb dX1_adjust_0 rfl (lv_at hl 2 rfl) ?_
  refine pu_calli (F := (f_X1_byteOf a2)) (va_runS (As := [.int a2]) (rest := []) ⟨hx, hb, hml, hown, hts⟩ (p_X1_byteOf l _ a2) (va_cwS 1 hts gX1_adjust_X1_byteOf rfl rfl rfl (by decide +kernel) ⟨Nat.le_of_ble_eq_true rfl, Nat.le_of_ble_eq_true rfl⟩) pu_preS rfl rfl hl.1 rfl (lv_room (Nat.le_of_ble_eq_true rfl)) dX1_adjust_1 ⟨Nat.le_of_ble_eq_true rfl, Nat.le_of_ble_eq_true rfl⟩) ?_
  refine lv_topi (fun y_1 ey_1 => ?_)
  refine lv_istore (lv' := [(4, .int y_1), (0, .ref h0), (1, .int a1), (2, .int a2), (3, .int a3)]) hx hb dX1_adjust_4 hl (by decide) rfl (fun ls hl => ?_)
  refine lv_iload_n hx hb dX1_adjust_6 rfl (lv_at hl 3 rfl) ?_
  refine lv_sipush (v := 256) hx hb dX1_adjust_7 (by decide +kernel) ?_
  refine lv_idiv hx hb dX1_adjust_10 (by decide) ?_
  refine pu_calli (F := (f_X1_byteOf (a2 / 256))) (va_runS (As := [.int (a2 / 256)]) (rest := []) ⟨hx, hb, hml, hown, hts⟩ (p_X1_byteOf l _ (a2 / 256)) (va_cwS 1 hts gX1_adjust_X1_byteOf rfl rfl rfl (by decide +kernel) ⟨Nat.le_of_ble_eq_true rfl, Nat.le_of_ble_eq_true rfl⟩) pu_preS rfl rfl hl.1 rfl (lv_room (Nat.le_of_ble_eq_true rfl)) dX1_adjust_11 ⟨Nat.le_of_ble_eq_true rfl, Nat.le_of_ble_eq_true rfl⟩) ?_
  refine lv_topi (fun y_2 ey_2 => ?_)
  refine lv_istore (lv' := [(5, .int y_2), (4, .int y_1), (0, .ref h0), (1, .int a1), (2, .int a2), (3, .int a3)]) hx hb dX1_adjust_14 hl (by decide) rfl (fun ls hl => ?_)
  refine lv_iload_n hx hb dX1_adjust_16 rfl (lv_at hl 4 rfl) ?_
  refine rg (J := 32) (st := []) (if 0 ≤ a2 then y_2 else (f_X1_byteOf (a2 >>> (8 &&& 31)))) (fun k => ?_) (fun y_3 ey_3 => ?_)
  · refine lv_if_ge (tgt := 30) hx hb dX1_adjust_17 (by decide) (fun c_4 => ?_) (fun c_4 => ?_)
    · refine lv_iload hx hb dX1_adjust_30 (lv_at hl 0 rfl) ?_
      exact rg_e k (by first | rw [if_pos c_4] | simp only [if_pos c_4])
    · refine lv_iload_n hx hb dX1_adjust_20 rfl (lv_at hl 4 rfl) ?_
      refine lv_bipush (v := 8) hx hb dX1_adjust_21 (by decide +kernel) ?_
      refine lv_ishr hx hb dX1_adjust_23 ?_
      refine pu_calli (F := (f_X1_byteOf (a2 >>> (8 &&& 31)))) (va_runS (As := [.int (a2 >>> (8 &&& 31))]) (rest := []) ⟨hx, hb, hml, hown, hts⟩ (p_X1_byteOf l _ (a2 >>> (8 &&& 31))) (va_cwS 1 hts gX1_adjust_X1_byteOf rfl rfl rfl (by decide +kernel) ⟨Nat.le_of_ble_eq_true rfl, Nat.le_of_ble_eq_true rfl⟩) pu_preS rfl rfl hl.1 rfl (lv_room (Nat.le_of_ble_eq_true rfl)) dX1_adjust_24 ⟨Nat.le_of_ble_eq_true rfl, Nat.le_of_ble_eq_true rfl⟩) ?_
      refine lv_goto (tgt := 32) hx hb dX1_adjust_27 (by decide) ?_
      exact rg_e k (by first | rw [if_neg c_4] | simp only [if_neg c_4])
  refine lv_istore (lv' := [(5, .int y_3), (4, .int y_1), (0, .ref h0), (1, .int a1), (2, .int a2), (3, .int a3)]) hx hb dX1_adjust_32 hl (by decide) rfl (fun ls hl => ?_)
  refine lv_iload_n hx hb dX1_adjust_34 rfl (lv_at hl 5 rfl) ?_
  refine pu_calli (F := (f_X1_byteOf a3)) (va_runS (As := [.int a3]) (rest := []) ⟨hx, hb, hml, hown, hts⟩ (p_X1_byteOf l _ a3) (va_cwS 1 hts gX1_adjust_X1_byteOf rfl rfl rfl (by decide +kernel) ⟨Nat.le_of_ble_eq_true rfl, Nat.le_of_ble_eq_true rfl⟩) pu_preS rfl rfl hl.1 rfl (lv_room (Nat.le_of_ble_eq_true rfl)) dX1_adjust_35 ⟨Nat.le_of_ble_eq_true rfl, Nat.le_of_ble_eq_true rfl⟩) ?_
  refine lv_topi (fun y_5 ey_5 => ?_)
  refine lv_istore (lv' := [(6, .int y_5), (5, .int y_3), (4, .int y_1), (0, .ref h0), (1, .int a1), (2, .int a2), (3, .int a3)]) hx hb dX1_adjust_38 hl (by decide) rfl (fun ls hl => ?_)
  refine lv_aload_n hx hb dX1_adjust_40 rfl (lv_at hl 3 rfl) ?_
  refine lv_iload_n hx hb dX1_adjust_41 rfl (lv_at hl 4 rfl) ?_
  refine rg (J := 69) (st := [.ref h0]) (if a1 < 0 then 1 else (if a1 ≤ 5 then (if a1 = 4 then (if y_5 = 0 then 2 else 0) else 0) else 1)) (fun k => ?_) (fun y_6 ey_6 => ?_)
  · refine lv_if_lt (tgt := 50) hx hb dX1_adjust_42 (by decide) (fun c_7 => ?_) (fun c_7 => ?_)
    · refine lv_iconst (v := 1) hx hb dX1_adjust_50 (by decide) ?_
      refine lv_goto (tgt := 69) hx hb dX1_adjust_51 (by decide) ?_
      exact rg_e k (by first | rw [if_pos c_7] | simp only [if_pos c_7])
    · refine lv_iload_n hx hb dX1_adjust_45 rfl (lv_at hl 4 rfl) ?_
      refine lv_iconst (v := 5) hx hb dX1_adjust_46 (by decide) ?_
      refine lv_icmp_le (tgt := 54) hx hb dX1_adjust_47 (by decide) (fun c_8 => ?_) (fun c_8 => ?_)
      · refine lv_iload_n hx hb dX1_adjust_54 rfl (lv_at hl 4 rfl) ?_
        refine lv_iconst (v := 4) hx hb dX1_adjust_55 (by decide) ?_
        refine lv_icmp_ne (tgt := 68) hx hb dX1_adjust_56 (by decide) (fun c_9 => ?_) (fun c_9 => ?_)
        · refine lv_iconst (v := 0) hx hb dX1_adjust_68 (by decide) ?_
          exact rg_e k (by first | rw [if_neg c_7, if_pos c_8, if_neg c_9] | simp only [if_neg c_7, if_pos c_8, if_neg c_9])
        · refine lv_iload hx hb dX1_adjust_59 (lv_at hl 0 rfl) ?_
          refine lv_if_ne (tgt := 68) hx hb dX1_adjust_61 (by decide) (fun c_10 => ?_) (fun c_10 => ?_)
          · refine lv_iconst (v := 0) hx hb dX1_adjust_68 (by decide) ?_
            exact rg_e k (by first | rw [if_neg c_7, if_pos c_8, if_pos c_9, if_neg c_10] | simp only [if_neg c_7, if_pos c_8, if_pos c_9, if_neg c_10])
          · refine lv_iconst (v := 2) hx hb dX1_adjust_64 (by decide) ?_
            refine lv_goto (tgt := 69) hx hb dX1_adjust_65 (by decide) ?_
            exact rg_e k (by first | rw [if_neg c_7, if_pos c_8, if_pos c_9, if_pos c_10] | simp only [if_neg c_7, if_pos c_8, if_pos c_9, if_pos c_10])
      · refine lv_iconst (v := 1) hx hb dX1_adjust_50 (by decide) ?_
        refine lv_goto (tgt := 69) hx hb dX1_adjust_51 (by decide) ?_
        exact rg_e k (by first | rw [if_neg c_7, if_neg c_8] | simp only [if_neg c_7, if_neg c_8])
  refine va_put (D := (dC, dI)) (ci := 2) (v := .int y_6) (ty := .int) (C := RX1) (T := TX1) (N := 3) hx hb hts (by decide +kernel) tyX1 tyX1_ok nmX1 hown hK hP hD hS 0 rfl rfl 0 (by decide) (hts (.fieldLink RX1 7 "WordArithmeticModel" "code" "I") (by decide +kernel)) (fun _ h9 => h9) rfl (by decide +kernel) rfl rfl (Nat.le_of_ble_eq_true rfl) dX1_adjust_69 (fun H locs hP hD hS => ?_)
  have hP : va_P (dC, dI) vwCl [(h0, .inr (2, [.int y_6, .int fl, .int al]))] H := hP
  have hD : va_D A [(h0, .inr (2, [.int y_6, .int fl, .int al]))] := hD
  refine lv_aload_n hx hb dX1_adjust_72 rfl (lv_at hl 3 rfl) ?_
  refine va_get (D := (dC, dI)) (ci := 2) (v := .int y_6) (C := RX1) (T := TX1) (N := 3) hx hb hts (by decide +kernel) hown hK hP 0 rfl rfl 0 (by decide) (hts (.fieldLink RX1 7 "WordArithmeticModel" "code" "I") (by decide +kernel)) (fun _ h9 => h9) rfl dX1_adjust_73 ?_
  refine lv_if_le (tgt := 81) hx hb dX1_adjust_76 (by decide) (fun c_11 => ?_) (fun c_11 => ?_)
  · refine lv_aload_n hx hb dX1_adjust_81 rfl (lv_at hl 3 rfl) ?_
    refine lv_iconst (v := 0) hx hb dX1_adjust_82 (by decide) ?_
    refine wr_callv (va_runV (As := [.int 0]) (rest := []) ⟨hx, hb, hml, hown, hts⟩ (p_X1_length l dC dI h0 _ y_6 fl al 0) (cwV 1 hts gX1_adjust_X1_length rfl rfl rfl (by decide +kernel) ⟨Nat.le_of_ble_eq_true rfl, Nat.le_of_ble_eq_true rfl⟩) (wr_preV (ci := 2) rfl hK hP hD) rfl rfl hl.1 rfl (lv_room (Nat.le_of_ble_eq_true rfl)) dX1_adjust_83 ⟨Nat.le_of_ble_eq_true rfl, Nat.le_of_ble_eq_true rfl⟩) hP hD hS hA (fun u_13 H locs eu_13 hP hD hS => ?_)
    have hP : va_P (dC, dI) vwCl [(h0, .inr (2, [.int y_6, .int fl, .int u_13]))] H := hP
    have hD : va_D A [(h0, .inr (2, [.int y_6, .int fl, .int u_13]))] := hD
    refine lv_iload hx hb dX1_adjust_86 (lv_at hl 2 rfl) ?_
    refine lv_bipush (v := 16) hx hb dX1_adjust_88 (by decide +kernel) ?_
    refine jr_row hx hb dX1_adjust_90 (by decide) ?_
    refine lv_bipush (v := 9) hx hb dX1_adjust_91 (by decide +kernel) ?_
    refine rg (J := 110) (st := []) (if 9 < (jr y_1 16) then 1 else (if (f_X1_is fl 16) = 0 then 0 else 1)) (fun k => ?_) (fun y_14 ey_14 => ?_)
    · refine lv_icmp_gt (tgt := 105) hx hb dX1_adjust_93 (by decide) (fun c_15 => ?_) (fun c_15 => ?_)
      · refine lv_iconst (v := 1) hx hb dX1_adjust_105 (by decide) ?_
        refine lv_goto (tgt := 110) hx hb dX1_adjust_106 (by decide) ?_
        exact rg_e k (by first | rw [if_pos c_15] | simp only [if_pos c_15])
      · refine lv_aload_n hx hb dX1_adjust_96 rfl (lv_at hl 3 rfl) ?_
        refine lv_bipush (v := 16) hx hb dX1_adjust_97 (by decide +kernel) ?_
        refine pu_calli (F := (f_X1_is fl 16)) (va_runV (As := [.int 16]) (rest := []) ⟨hx, hb, hml, hown, hts⟩ (p_X1_is l dC dI h0 _ y_6 fl u_13 16 (by decide)) (cwV 1 hts gX1_adjust_X1_is rfl rfl rfl (by decide +kernel) ⟨Nat.le_of_ble_eq_true rfl, Nat.le_of_ble_eq_true rfl⟩) (pu_preV (ci := 2) rfl hK hP) rfl rfl hl.1 rfl (lv_room (Nat.le_of_ble_eq_true rfl)) dX1_adjust_99 ⟨Nat.le_of_ble_eq_true rfl, Nat.le_of_ble_eq_true rfl⟩) ?_
        refine lv_if_eq (tgt := 109) hx hb dX1_adjust_102 (by decide) (fun c_16 => ?_) (fun c_16 => ?_)
        · refine lv_iconst (v := 0) hx hb dX1_adjust_109 (by decide) ?_
          exact rg_e k (by first | rw [if_neg c_15, if_pos c_16] | simp only [if_neg c_15, if_pos c_16])
        · refine lv_iconst (v := 1) hx hb dX1_adjust_105 (by decide) ?_
          refine lv_goto (tgt := 110) hx hb dX1_adjust_106 (by decide) ?_
          exact rg_e k (by first | rw [if_neg c_15, if_neg c_16] | simp only [if_neg c_15, if_neg c_16])
    refine lv_istore (lv' := [(7, .int y_14), (6, .int y_5), (5, .int y_3), (4, .int y_1), (0, .ref h0), (1, .int a1), (2, .int a2), (3, .int a3)]) hx hb dX1_adjust_110 hl (by decide) rfl (fun ls hl => ?_)
    refine lv_iload hx hb dX1_adjust_112 (lv_at hl 3 rfl) ?_
    refine lv_sipush (v := 153) hx hb dX1_adjust_114 (by decide +kernel) ?_
    refine rg (J := 133) (st := []) (if 153 < y_1 then 1 else (if (f_X1_is fl 1) = 0 then 0 else 1)) (fun k => ?_) (fun y_17 ey_17 => ?_)
    · refine lv_icmp_gt (tgt := 128) hx hb dX1_adjust_117 (by decide) (fun c_18 => ?_) (fun c_18 => ?_)
      · refine lv_iconst (v := 1) hx hb dX1_adjust_128 (by decide) ?_
        refine lv_goto (tgt := 133) hx hb dX1_adjust_129 (by decide) ?_
        exact rg_e k (by first | rw [if_pos c_18] | simp only [if_pos c_18])
      · refine lv_aload_n hx hb dX1_adjust_120 rfl (lv_at hl 4 rfl) ?_
        refine lv_iconst (v := 1) hx hb dX1_adjust_121 (by decide) ?_
        refine pu_calli (F := (f_X1_is fl 1)) (va_runV (As := [.int 1]) (rest := []) ⟨hx, hb, hml, hown, hts⟩ (p_X1_is l dC dI h0 _ y_6 fl u_13 1 (by decide)) (cwV 1 hts gX1_adjust_X1_is rfl rfl rfl (by decide +kernel) ⟨Nat.le_of_ble_eq_true rfl, Nat.le_of_ble_eq_true rfl⟩) (pu_preV (ci := 2) rfl hK hP) rfl rfl hl.1 rfl (lv_room (Nat.le_of_ble_eq_true rfl)) dX1_adjust_122 ⟨Nat.le_of_ble_eq_true rfl, Nat.le_of_ble_eq_true rfl⟩) ?_
        refine lv_if_eq (tgt := 132) hx hb dX1_adjust_125 (by decide) (fun c_19 => ?_) (fun c_19 => ?_)
        · refine lv_iconst (v := 0) hx hb dX1_adjust_132 (by decide) ?_
          exact rg_e k (by first | rw [if_neg c_18, if_pos c_19] | simp only [if_neg c_18, if_pos c_19])
        · refine lv_iconst (v := 1) hx hb dX1_adjust_128 (by decide) ?_
          refine lv_goto (tgt := 133) hx hb dX1_adjust_129 (by decide) ?_
          exact rg_e k (by first | rw [if_neg c_18, if_neg c_19] | simp only [if_neg c_18, if_neg c_19])
    refine lv_istore (lv' := [(8, .int y_17), (7, .int y_14), (6, .int y_5), (5, .int y_3), (4, .int y_1), (0, .ref h0), (1, .int a1), (2, .int a2), (3, .int a3)]) hx hb dX1_adjust_133 hl (by decide) rfl (fun ls hl => ?_)
    refine lv_iload hx hb dX1_adjust_135 (lv_at hl 4 rfl) ?_
    refine lv_istore (lv' := [(9, .int y_1), (8, .int y_17), (7, .int y_14), (6, .int y_5), (5, .int y_3), (4, .int y_1), (0, .ref h0), (1, .int a1), (2, .int a2), (3, .int a3)]) hx hb dX1_adjust_137 hl (by decide) rfl (fun ls hl => ?_)
    refine lv_iload_n hx hb dX1_adjust_139 rfl (lv_at hl 7 rfl) ?_
    by_cases c_20 : a1 = 0
    · refine lv_tableIn (off := 36) (tgt := 176) hx hb dX1_adjust_140 (by rw [c_20]; decide) (by rw [c_20]; decide) (by rw [c_20]; rfl) (by decide) ?_
      refine lv_iload hx hb dX1_adjust_176 (lv_at hl 5 rfl) ?_
      refine lv_iload hx hb dX1_adjust_178 (lv_at hl 2 rfl) ?_
      refine rg (J := 189) (st := [.int y_1]) (if y_14 = 0 then 0 else 6) (fun k => ?_) (fun y_21 ey_21 => ?_)
      · refine lv_if_eq (tgt := 188) hx hb dX1_adjust_180 (by decide) (fun c_22 => ?_) (fun c_22 => ?_)
        · refine lv_iconst (v := 0) hx hb dX1_adjust_188 (by decide) ?_
          exact rg_e k (by first | rw [if_pos c_22] | simp only [if_pos c_22])
        · refine lv_bipush (v := 6) hx hb dX1_adjust_183 (by decide +kernel) ?_
          refine lv_goto (tgt := 189) hx hb dX1_adjust_185 (by decide) ?_
          exact rg_e k (by first | rw [if_neg c_22] | simp only [if_neg c_22])
      refine lv_iadd hx hb dX1_adjust_189 ?_
      refine lv_iload hx hb dX1_adjust_190 (lv_at hl 1 rfl) ?_
      refine rg (J := 201) (st := [.int (y_1 + y_21)]) (if y_17 = 0 then 0 else 96) (fun k => ?_) (fun y_23 ey_23 => ?_)
      · refine lv_if_eq (tgt := 200) hx hb dX1_adjust_192 (by decide) (fun c_24 => ?_) (fun c_24 => ?_)
        · refine lv_iconst (v := 0) hx hb dX1_adjust_200 (by decide) ?_
          exact rg_e k (by first | rw [if_pos c_24] | simp only [if_pos c_24])
        · refine lv_bipush (v := 96) hx hb dX1_adjust_195 (by decide +kernel) ?_
          refine lv_goto (tgt := 201) hx hb dX1_adjust_197 (by decide) ?_
          exact rg_e k (by first | rw [if_neg c_24] | simp only [if_neg c_24])
      refine lv_iadd hx hb dX1_adjust_201 ?_
      refine pu_calli (F := (f_X1_byteOf ((y_1 + y_21) + y_23))) (va_runS (As := [.int ((y_1 + y_21) + y_23)]) (rest := []) ⟨hx, hb, hml, hown, hts⟩ (p_X1_byteOf l _ ((y_1 + y_21) + y_23)) (va_cwS 1 hts gX1_adjust_X1_byteOf rfl rfl rfl (by decide +kernel) ⟨Nat.le_of_ble_eq_true rfl, Nat.le_of_ble_eq_true rfl⟩) pu_preS rfl rfl hl.1 rfl (lv_room (Nat.le_of_ble_eq_true rfl)) dX1_adjust_202 ⟨Nat.le_of_ble_eq_true rfl, Nat.le_of_ble_eq_true rfl⟩) ?_
      refine lv_topi (fun y_25 ey_25 => ?_)
      refine lv_istore (lv' := [(9, .int y_25), (8, .int y_17), (7, .int y_14), (6, .int y_5), (5, .int y_3), (4, .int y_1), (0, .ref h0), (1, .int a1), (2, .int a2), (3, .int a3)]) hx hb dX1_adjust_205 hl (by decide) rfl (fun ls hl => ?_)
      refine lv_aload_n hx hb dX1_adjust_207 rfl (lv_at hl 6 rfl) ?_
      refine lv_bipush (v := 16) hx hb dX1_adjust_208 (by decide +kernel) ?_
      refine lv_iload hx hb dX1_adjust_210 (lv_at hl 2 rfl) ?_
      refine wr_callv (va_runV (As := [.int 16, .int y_14]) (rest := []) ⟨hx, hb, hml, hown, hts⟩ (p_X1_put l dC dI h0 _ y_6 fl u_13 16 y_14 (by decide)) (cwV 2 hts gX1_adjust_X1_put rfl rfl rfl (by decide +kernel) ⟨Nat.le_of_ble_eq_true rfl, Nat.le_of_ble_eq_true rfl⟩) (wr_preV (ci := 2) rfl hK hP hD) rfl rfl hl.1 rfl (lv_room (Nat.le_of_ble_eq_true rfl)) dX1_adjust_212 ⟨Nat.le_of_ble_eq_true rfl, Nat.le_of_ble_eq_true rfl⟩) hP hD hS hA (fun u_27 H locs eu_27 hP hD hS => ?_)
      have hP : va_P (dC, dI) vwCl [(h0, .inr (2, [.int y_6, .int u_27, .int u_13]))] H := hP
      have hD : va_D A [(h0, .inr (2, [.int y_6, .int u_27, .int u_13]))] := hD
      refine lv_aload_n hx hb dX1_adjust_215 rfl (lv_at hl 6 rfl) ?_
      refine lv_iconst (v := 1) hx hb dX1_adjust_216 (by decide) ?_
      refine lv_iload hx hb dX1_adjust_217 (lv_at hl 1 rfl) ?_
      refine wr_callv (va_runV (As := [.int 1, .int y_17]) (rest := []) ⟨hx, hb, hml, hown, hts⟩ (p_X1_put l dC dI h0 _ y_6 u_27 u_13 1 y_17 (by decide)) (cwV 2 hts gX1_adjust_X1_put rfl rfl rfl (by decide +kernel) ⟨Nat.le_of_ble_eq_true rfl, Nat.le_of_ble_eq_true rfl⟩) (wr_preV (ci := 2) rfl hK hP hD) rfl rfl hl.1 rfl (lv_room (Nat.le_of_ble_eq_true rfl)) dX1_adjust_219 ⟨Nat.le_of_ble_eq_true rfl, Nat.le_of_ble_eq_true rfl⟩) hP hD hS hA (fun u_29 H locs eu_29 hP hD hS => ?_)
      have hP : va_P (dC, dI) vwCl [(h0, .inr (2, [.int y_6, .int u_29, .int u_13]))] H := hP
      have hD : va_D A [(h0, .inr (2, [.int y_6, .int u_29, .int u_13]))] := hD
      refine lv_aload_n hx hb dX1_adjust_222 rfl (lv_at hl 6 rfl) ?_
      refine lv_iload hx hb dX1_adjust_223 (lv_at hl 0 rfl) ?_
      refine wr_callv (va_runV (As := [.int y_25]) (rest := []) ⟨hx, hb, hml, hown, hts⟩ (p_X1_byAnswer l dC dI h0 _ y_6 u_29 u_13 y_25) (cwV 1 hts gX1_adjust_X1_byAnswer rfl rfl rfl (by decide +kernel) ⟨Nat.le_of_ble_eq_true rfl, Nat.le_of_ble_eq_true rfl⟩) (wr_preV (ci := 2) rfl hK hP hD) rfl rfl hl.1 rfl (lv_room (Nat.le_of_ble_eq_true rfl)) dX1_adjust_225 ⟨Nat.le_of_ble_eq_true rfl, Nat.le_of_ble_eq_true rfl⟩) hP hD hS hA (fun u_31 H locs eu_31 hP hD hS => ?_)
      have hP : va_P (dC, dI) vwCl [(h0, .inr (2, [.int y_6, .int u_31, .int u_13]))] H := hP
      have hD : va_D A [(h0, .inr (2, [.int y_6, .int u_31, .int u_13]))] := hD
      refine lv_sipush (v := 256) hx hb dX1_adjust_228 (by decide +kernel) ?_
      refine lv_iload hx hb dX1_adjust_231 (lv_at hl 4 rfl) ?_
      refine lv_imul hx hb dX1_adjust_233 ?_
      refine lv_iload hx hb dX1_adjust_234 (lv_at hl 0 rfl) ?_
      refine lv_iadd hx hb dX1_adjust_236 ?_
      exact W.iret (v := ((256 * y_3) + y_25)) hx hb hr (fun t ht hW => ⟨⟨((256 * y_3) + y_25), (y_6, u_31, u_13), rfl, ⟨(by subst ey_1; subst ey_2; subst ey_3; subst ey_5; subst ey_6; subst eu_13; subst ey_14; subst ey_17; subst ey_21; subst ey_23; subst ey_25; subst eu_27; subst eu_29; subst eu_31; simp only [f_X1_adjust, if_pos c_11]; simp only [if_pos c_20]), (by subst ey_1; subst ey_2; subst ey_3; subst ey_5; subst ey_6; subst eu_13; subst ey_14; subst ey_17; subst ey_21; subst ey_23; subst ey_25; subst eu_27; subst eu_29; subst eu_31; simp only [f_X1_adjust, if_pos c_11]; simp only [if_pos c_20])⟩, by rw [ht]; exact hP, va_K.moved hW.alike hK, hD⟩, hS.F ht⟩) hS.2.2 dX1_adjust_237
    by_cases c_32 : a1 = 1
    · refine lv_tableIn (off := 98) (tgt := 238) hx hb dX1_adjust_140 (by rw [c_32]; decide) (by rw [c_32]; decide) (by rw [c_32]; rfl) (by decide) ?_
      refine lv_iload hx hb dX1_adjust_238 (lv_at hl 5 rfl) ?_
      refine lv_iload hx hb dX1_adjust_240 (lv_at hl 2 rfl) ?_
      refine rg (J := 251) (st := [.int y_1]) (if y_14 = 0 then 0 else 6) (fun k => ?_) (fun y_33 ey_33 => ?_)
      · refine lv_if_eq (tgt := 250) hx hb dX1_adjust_242 (by decide) (fun c_34 => ?_) (fun c_34 => ?_)
        · refine lv_iconst (v := 0) hx hb dX1_adjust_250 (by decide) ?_
          exact rg_e k (by first | rw [if_pos c_34] | simp only [if_pos c_34])
        · refine lv_bipush (v := 6) hx hb dX1_adjust_245 (by decide +kernel) ?_
          refine lv_goto (tgt := 251) hx hb dX1_adjust_247 (by decide) ?_
          exact rg_e k (by first | rw [if_neg c_34] | simp only [if_neg c_34])
      refine lv_isub hx hb dX1_adjust_251 ?_
      refine lv_iload hx hb dX1_adjust_252 (lv_at hl 1 rfl) ?_
      refine rg (J := 263) (st := [.int (y_1 - y_33)]) (if y_17 = 0 then 0 else 96) (fun k => ?_) (fun y_35 ey_35 => ?_)
      · refine lv_if_eq (tgt := 262) hx hb dX1_adjust_254 (by decide) (fun c_36 => ?_) (fun c_36 => ?_)
        · refine lv_iconst (v := 0) hx hb dX1_adjust_262 (by decide) ?_
          exact rg_e k (by first | rw [if_pos c_36] | simp only [if_pos c_36])
        · refine lv_bipush (v := 96) hx hb dX1_adjust_257 (by decide +kernel) ?_
          refine lv_goto (tgt := 263) hx hb dX1_adjust_259 (by decide) ?_
          exact rg_e k (by first | rw [if_neg c_36] | simp only [if_neg c_36])
      refine lv_isub hx hb dX1_adjust_263 ?_
      refine pu_calli (F := (f_X1_byteOf ((y_1 - y_33) - y_35))) (va_runS (As := [.int ((y_1 - y_33) - y_35)]) (rest := []) ⟨hx, hb, hml, hown, hts⟩ (p_X1_byteOf l _ ((y_1 - y_33) - y_35)) (va_cwS 1 hts gX1_adjust_X1_byteOf rfl rfl rfl (by decide +kernel) ⟨Nat.le_of_ble_eq_true rfl, Nat.le_of_ble_eq_true rfl⟩) pu_preS rfl rfl hl.1 rfl (lv_room (Nat.le_of_ble_eq_true rfl)) dX1_adjust_264 ⟨Nat.le_of_ble_eq_true rfl, Nat.le_of_ble_eq_true rfl⟩) ?_
      refine lv_topi (fun y_37 ey_37 => ?_)
      refine lv_istore (lv' := [(9, .int y_37), (8, .int y_17), (7, .int y_14), (6, .int y_5), (5, .int y_3), (4, .int y_1), (0, .ref h0), (1, .int a1), (2, .int a2), (3, .int a3)]) hx hb dX1_adjust_267 hl (by decide) rfl (fun ls hl => ?_)
      refine lv_aload_n hx hb dX1_adjust_269 rfl (lv_at hl 6 rfl) ?_
      refine lv_bipush (v := 16) hx hb dX1_adjust_270 (by decide +kernel) ?_
      refine lv_iload hx hb dX1_adjust_272 (lv_at hl 2 rfl) ?_
      refine wr_callv (va_runV (As := [.int 16, .int y_14]) (rest := []) ⟨hx, hb, hml, hown, hts⟩ (p_X1_put l dC dI h0 _ y_6 fl u_13 16 y_14 (by decide)) (cwV 2 hts gX1_adjust_X1_put rfl rfl rfl (by decide +kernel) ⟨Nat.le_of_ble_eq_true rfl, Nat.le_of_ble_eq_true rfl⟩) (wr_preV (ci := 2) rfl hK hP hD) rfl rfl hl.1 rfl (lv_room (Nat.le_of_ble_eq_true rfl)) dX1_adjust_274 ⟨Nat.le_of_ble_eq_true rfl, Nat.le_of_ble_eq_true rfl⟩) hP hD hS hA (fun u_39 H locs eu_39 hP hD hS => ?_)
      have hP : va_P (dC, dI) vwCl [(h0, .inr (2, [.int y_6, .int u_39, .int u_13]))] H := hP
      have hD : va_D A [(h0, .inr (2, [.int y_6, .int u_39, .int u_13]))] := hD
      refine lv_aload_n hx hb dX1_adjust_277 rfl (lv_at hl 6 rfl) ?_
      refine lv_iconst (v := 1) hx hb dX1_adjust_278 (by decide) ?_
      refine lv_iload hx hb dX1_adjust_279 (lv_at hl 1 rfl) ?_
      refine rg (J := 301) (st := [.int 1, .ref h0]) (if y_17 = 0 then (if y_14 = 0 then 0 else (if 6 ≤ y_1 then 0 else 1)) else 1) (fun k => ?_) (fun y_40 ey_40 => ?_)
      · refine lv_if_ne (tgt := 296) hx hb dX1_adjust_281 (by decide) (fun c_41 => ?_) (fun c_41 => ?_)
        · refine lv_iconst (v := 1) hx hb dX1_adjust_296 (by decide) ?_
          refine lv_goto (tgt := 301) hx hb dX1_adjust_297 (by decide) ?_
          exact rg_e k (by first | rw [if_neg c_41] | simp only [if_neg c_41])
        · refine lv_iload hx hb dX1_adjust_284 (lv_at hl 2 rfl) ?_
          refine lv_if_eq (tgt := 300) hx hb dX1_adjust_286 (by decide) (fun c_42 => ?_) (fun c_42 => ?_)
          · refine lv_iconst (v := 0) hx hb dX1_adjust_300 (by decide) ?_
            exact rg_e k (by first | rw [if_pos c_41, if_pos c_42] | simp only [if_pos c_41, if_pos c_42])
          · refine lv_iload hx hb dX1_adjust_289 (lv_at hl 5 rfl) ?_
            refine lv_bipush (v := 6) hx hb dX1_adjust_291 (by decide +kernel) ?_
            refine lv_icmp_ge (tgt := 300) hx hb dX1_adjust_293 (by decide) (fun c_43 => ?_) (fun c_43 => ?_)
            · refine lv_iconst (v := 0) hx hb dX1_adjust_300 (by decide) ?_
              exact rg_e k (by first | rw [if_pos c_41, if_neg c_42, if_pos c_43] | simp only [if_pos c_41, if_neg c_42, if_pos c_43])
            · refine lv_iconst (v := 1) hx hb dX1_adjust_296 (by decide) ?_
              refine lv_goto (tgt := 301) hx hb dX1_adjust_297 (by decide) ?_
              exact rg_e k (by first | rw [if_pos c_41, if_neg c_42, if_neg c_43] | simp only [if_pos c_41, if_neg c_42, if_neg c_43])
      refine wr_callv (va_runV (As := [.int 1, .int y_40]) (rest := []) ⟨hx, hb, hml, hown, hts⟩ (p_X1_put l dC dI h0 _ y_6 u_39 u_13 1 y_40 (by decide)) (cwV 2 hts gX1_adjust_X1_put rfl rfl rfl (by decide +kernel) ⟨Nat.le_of_ble_eq_true rfl, Nat.le_of_ble_eq_true rfl⟩) (wr_preV (ci := 2) rfl hK hP hD) rfl rfl hl.1 rfl (lv_room (Nat.le_of_ble_eq_true rfl)) dX1_adjust_301 ⟨Nat.le_of_ble_eq_true rfl, Nat.le_of_ble_eq_true rfl⟩) hP hD hS hA (fun u_45 H locs eu_45 hP hD hS => ?_)
      have hP : va_P (dC, dI) vwCl [(h0, .inr (2, [.int y_6, .int u_45, .int u_13]))] H := hP
      have hD : va_D A [(h0, .inr (2, [.int y_6, .int u_45, .int u_13]))] := hD
      refine lv_aload_n hx hb dX1_adjust_304 rfl (lv_at hl 6 rfl) ?_
      refine lv_iload hx hb dX1_adjust_305 (lv_at hl 0 rfl) ?_
      refine wr_callv (va_runV (As := [.int y_37]) (rest := []) ⟨hx, hb, hml, hown, hts⟩ (p_X1_byAnswer l dC dI h0 _ y_6 u_45 u_13 y_37) (cwV 1 hts gX1_adjust_X1_byAnswer rfl rfl rfl (by decide +kernel) ⟨Nat.le_of_ble_eq_true rfl, Nat.le_of_ble_eq_true rfl⟩) (wr_preV (ci := 2) rfl hK hP hD) rfl rfl hl.1 rfl (lv_room (Nat.le_of_ble_eq_true rfl)) dX1_adjust_307 ⟨Nat.le_of_ble_eq_true rfl, Nat.le_of_ble_eq_true rfl⟩) hP hD hS hA (fun u_47 H locs eu_47 hP hD hS => ?_)
      have hP : va_P (dC, dI) vwCl [(h0, .inr (2, [.int y_6, .int u_47, .int u_13]))] H := hP
      have hD : va_D A [(h0, .inr (2, [.int y_6, .int u_47, .int u_13]))] := hD
      refine lv_sipush (v := 256) hx hb dX1_adjust_310 (by decide +kernel) ?_
      refine lv_iload hx hb dX1_adjust_313 (lv_at hl 4 rfl) ?_
      refine lv_imul hx hb dX1_adjust_315 ?_
      refine lv_iload hx hb dX1_adjust_316 (lv_at hl 0 rfl) ?_
      refine lv_iadd hx hb dX1_adjust_318 ?_
      exact W.iret (v := ((256 * y_3) + y_37)) hx hb hr (fun t ht hW => ⟨⟨((256 * y_3) + y_37), (y_6, u_47, u_13), rfl, ⟨(by subst ey_1; subst ey_2; subst ey_3; subst ey_5; subst ey_6; subst eu_13; subst ey_14; subst ey_17; subst ey_33; subst ey_35; subst ey_37; subst eu_39; subst ey_40; subst eu_45; subst eu_47; simp only [f_X1_adjust, if_pos c_11]; simp only [if_neg c_20, if_pos c_32]), (by subst ey_1; subst ey_2; subst ey_3; subst ey_5; subst ey_6; subst eu_13; subst ey_14; subst ey_17; subst ey_33; subst ey_35; subst ey_37; subst eu_39; subst ey_40; subst eu_45; subst eu_47; simp only [f_X1_adjust, if_pos c_11]; simp only [if_neg c_20, if_pos c_32])⟩, by rw [ht]; exact hP, va_K.moved hW.alike hK, hD⟩, hS.F ht⟩) hS.2.2 dX1_adjust_319
    by_cases c_48 : a1 = 2
    · refine lv_tableIn (off := 180) (tgt := 320) hx hb dX1_adjust_140 (by rw [c_48]; decide) (by rw [c_48]; decide) (by rw [c_48]; rfl) (by decide) ?_
      refine lv_aload_n hx hb dX1_adjust_320 rfl (lv_at hl 6 rfl) ?_
      refine lv_bipush (v := 16) hx hb dX1_adjust_321 (by decide +kernel) ?_
      refine lv_iload hx hb dX1_adjust_323 (lv_at hl 2 rfl) ?_
      refine wr_callv (va_runV (As := [.int 16, .int y_14]) (rest := []) ⟨hx, hb, hml, hown, hts⟩ (p_X1_put l dC dI h0 _ y_6 fl u_13 16 y_14 (by decide)) (cwV 2 hts gX1_adjust_X1_put rfl rfl rfl (by decide +kernel) ⟨Nat.le_of_ble_eq_true rfl, Nat.le_of_ble_eq_true rfl⟩) (wr_preV (ci := 2) rfl hK hP hD) rfl rfl hl.1 rfl (lv_room (Nat.le_of_ble_eq_true rfl)) dX1_adjust_325 ⟨Nat.le_of_ble_eq_true rfl, Nat.le_of_ble_eq_true rfl⟩) hP hD hS hA (fun u_50 H locs eu_50 hP hD hS => ?_)
      have hP : va_P (dC, dI) vwCl [(h0, .inr (2, [.int y_6, .int u_50, .int u_13]))] H := hP
      have hD : va_D A [(h0, .inr (2, [.int y_6, .int u_50, .int u_13]))] := hD
      refine lv_aload_n hx hb dX1_adjust_328 rfl (lv_at hl 6 rfl) ?_
      refine lv_iconst (v := 1) hx hb dX1_adjust_329 (by decide) ?_
      refine lv_iload hx hb dX1_adjust_330 (lv_at hl 2 rfl) ?_
      refine wr_callv (va_runV (As := [.int 1, .int y_14]) (rest := []) ⟨hx, hb, hml, hown, hts⟩ (p_X1_put l dC dI h0 _ y_6 u_50 u_13 1 y_14 (by decide)) (cwV 2 hts gX1_adjust_X1_put rfl rfl rfl (by decide +kernel) ⟨Nat.le_of_ble_eq_true rfl, Nat.le_of_ble_eq_true rfl⟩) (wr_preV (ci := 2) rfl hK hP hD) rfl rfl hl.1 rfl (lv_room (Nat.le_of_ble_eq_true rfl)) dX1_adjust_332 ⟨Nat.le_of_ble_eq_true rfl, Nat.le_of_ble_eq_true rfl⟩) hP hD hS hA (fun u_52 H locs eu_52 hP hD hS => ?_)
      have hP : va_P (dC, dI) vwCl [(h0, .inr (2, [.int y_6, .int u_52, .int u_13]))] H := hP
      have hD : va_D A [(h0, .inr (2, [.int y_6, .int u_52, .int u_13]))] := hD
      refine lv_sipush (v := 256) hx hb dX1_adjust_335 (by decide +kernel) ?_
      refine lv_iload hx hb dX1_adjust_338 (lv_at hl 2 rfl) ?_
      refine rg (J := 352) (st := [.int 256]) (if y_14 = 0 then y_3 else (y_3 + 1)) (fun k => ?_) (fun y_53 ey_53 => ?_)
      · refine lv_if_eq (tgt := 350) hx hb dX1_adjust_340 (by decide) (fun c_54 => ?_) (fun c_54 => ?_)
        · refine lv_iload hx hb dX1_adjust_350 (lv_at hl 4 rfl) ?_
          exact rg_e k (by first | rw [if_pos c_54] | simp only [if_pos c_54])
        · refine lv_iload hx hb dX1_adjust_343 (lv_at hl 4 rfl) ?_
          refine lv_iconst (v := 1) hx hb dX1_adjust_345 (by decide) ?_
          refine lv_iadd hx hb dX1_adjust_346 ?_
          refine lv_goto (tgt := 352) hx hb dX1_adjust_347 (by decide) ?_
          exact rg_e k (by first | rw [if_neg c_54] | simp only [if_neg c_54])
      refine pu_calli (F := (f_X1_byteOf y_53)) (va_runS (As := [.int y_53]) (rest := [.int 256]) ⟨hx, hb, hml, hown, hts⟩ (p_X1_byteOf l _ y_53) (va_cwS 1 hts gX1_adjust_X1_byteOf rfl rfl rfl (by decide +kernel) ⟨Nat.le_of_ble_eq_true rfl, Nat.le_of_ble_eq_true rfl⟩) pu_preS rfl rfl hl.1 rfl (lv_room (Nat.le_of_ble_eq_true rfl)) dX1_adjust_352 ⟨Nat.le_of_ble_eq_true rfl, Nat.le_of_ble_eq_true rfl⟩) ?_
      refine lv_imul hx hb dX1_adjust_355 ?_
      refine lv_iload hx hb dX1_adjust_356 (lv_at hl 2 rfl) ?_
      refine rg (J := 371) (st := [.int (256 * (f_X1_byteOf y_53))]) (if y_14 = 0 then y_1 else (y_1 + 6)) (fun k => ?_) (fun y_55 ey_55 => ?_)
      · refine lv_if_eq (tgt := 369) hx hb dX1_adjust_358 (by decide) (fun c_56 => ?_) (fun c_56 => ?_)
        · refine lv_iload hx hb dX1_adjust_369 (lv_at hl 5 rfl) ?_
          exact rg_e k (by first | rw [if_pos c_56] | simp only [if_pos c_56])
        · refine lv_iload hx hb dX1_adjust_361 (lv_at hl 5 rfl) ?_
          refine lv_bipush (v := 6) hx hb dX1_adjust_363 (by decide +kernel) ?_
          refine lv_iadd hx hb dX1_adjust_365 ?_
          refine lv_goto (tgt := 371) hx hb dX1_adjust_366 (by decide) ?_
          exact rg_e k (by first | rw [if_neg c_56] | simp only [if_neg c_56])
      refine lv_bipush (v := 16) hx hb dX1_adjust_371 (by decide +kernel) ?_
      refine jr_row hx hb dX1_adjust_373 (by decide) ?_
      refine lv_iadd hx hb dX1_adjust_374 ?_
      exact W.iret (v := ((256 * (f_X1_byteOf y_53)) + (jr y_55 16))) hx hb hr (fun t ht hW => ⟨⟨((256 * (f_X1_byteOf y_53)) + (jr y_55 16)), (y_6, u_52, u_13), rfl, ⟨(by subst ey_1; subst ey_2; subst ey_3; subst ey_5; subst ey_6; subst eu_13; subst ey_14; subst ey_17; subst eu_50; subst eu_52; subst ey_53; subst ey_55; simp only [f_X1_adjust, if_pos c_11]; simp only [if_neg c_20, if_neg c_32, if_pos c_48]), (by subst ey_1; subst ey_2; subst ey_3; subst ey_5; subst ey_6; subst eu_13; subst ey_14; subst ey_17; subst eu_50; subst eu_52; subst ey_53; subst ey_55; simp only [f_X1_adjust, if_pos c_11]; simp only [if_neg c_20, if_neg c_32, if_pos c_48])⟩, by rw [ht]; exact hP, va_K.moved hW.alike hK, hD⟩, hS.F ht⟩) hS.2.2 dX1_adjust_375
    by_cases c_57 : a1 = 3
    · refine lv_tableIn (off := 236) (tgt := 376) hx hb dX1_adjust_140 (by rw [c_57]; decide) (by rw [c_57]; decide) (by rw [c_57]; rfl) (by decide) ?_
      refine lv_aload_n hx hb dX1_adjust_376 rfl (lv_at hl 6 rfl) ?_
      refine lv_bipush (v := 16) hx hb dX1_adjust_377 (by decide +kernel) ?_
      refine lv_iload hx hb dX1_adjust_379 (lv_at hl 2 rfl) ?_
      refine wr_callv (va_runV (As := [.int 16, .int y_14]) (rest := []) ⟨hx, hb, hml, hown, hts⟩ (p_X1_put l dC dI h0 _ y_6 fl u_13 16 y_14 (by decide)) (cwV 2 hts gX1_adjust_X1_put rfl rfl rfl (by decide +kernel) ⟨Nat.le_of_ble_eq_true rfl, Nat.le_of_ble_eq_true rfl⟩) (wr_preV (ci := 2) rfl hK hP hD) rfl rfl hl.1 rfl (lv_room (Nat.le_of_ble_eq_true rfl)) dX1_adjust_381 ⟨Nat.le_of_ble_eq_true rfl, Nat.le_of_ble_eq_true rfl⟩) hP hD hS hA (fun u_59 H locs eu_59 hP hD hS => ?_)
      have hP : va_P (dC, dI) vwCl [(h0, .inr (2, [.int y_6, .int u_59, .int u_13]))] H := hP
      have hD : va_D A [(h0, .inr (2, [.int y_6, .int u_59, .int u_13]))] := hD
      refine lv_aload_n hx hb dX1_adjust_384 rfl (lv_at hl 6 rfl) ?_
      refine lv_iconst (v := 1) hx hb dX1_adjust_385 (by decide) ?_
      refine lv_iload hx hb dX1_adjust_386 (lv_at hl 2 rfl) ?_
      refine wr_callv (va_runV (As := [.int 1, .int y_14]) (rest := []) ⟨hx, hb, hml, hown, hts⟩ (p_X1_put l dC dI h0 _ y_6 u_59 u_13 1 y_14 (by decide)) (cwV 2 hts gX1_adjust_X1_put rfl rfl rfl (by decide +kernel) ⟨Nat.le_of_ble_eq_true rfl, Nat.le_of_ble_eq_true rfl⟩) (wr_preV (ci := 2) rfl hK hP hD) rfl rfl hl.1 rfl (lv_room (Nat.le_of_ble_eq_true rfl)) dX1_adjust_388 ⟨Nat.le_of_ble_eq_true rfl, Nat.le_of_ble_eq_true rfl⟩) hP hD hS hA (fun u_61 H locs eu_61 hP hD hS => ?_)
      have hP : va_P (dC, dI) vwCl [(h0, .inr (2, [.int y_6, .int u_61, .int u_13]))] H := hP
      have hD : va_D A [(h0, .inr (2, [.int y_6, .int u_61, .int u_13]))] := hD
      refine lv_sipush (v := 256) hx hb dX1_adjust_391 (by decide +kernel) ?_
      refine lv_iload hx hb dX1_adjust_394 (lv_at hl 2 rfl) ?_
      refine rg (J := 408) (st := [.int 256]) (if y_14 = 0 then y_3 else (y_3 - 1)) (fun k => ?_) (fun y_62 ey_62 => ?_)
      · refine lv_if_eq (tgt := 406) hx hb dX1_adjust_396 (by decide) (fun c_63 => ?_) (fun c_63 => ?_)
        · refine lv_iload hx hb dX1_adjust_406 (lv_at hl 4 rfl) ?_
          exact rg_e k (by first | rw [if_pos c_63] | simp only [if_pos c_63])
        · refine lv_iload hx hb dX1_adjust_399 (lv_at hl 4 rfl) ?_
          refine lv_iconst (v := 1) hx hb dX1_adjust_401 (by decide) ?_
          refine lv_isub hx hb dX1_adjust_402 ?_
          refine lv_goto (tgt := 408) hx hb dX1_adjust_403 (by decide) ?_
          exact rg_e k (by first | rw [if_neg c_63] | simp only [if_neg c_63])
      refine pu_calli (F := (f_X1_byteOf y_62)) (va_runS (As := [.int y_62]) (rest := [.int 256]) ⟨hx, hb, hml, hown, hts⟩ (p_X1_byteOf l _ y_62) (va_cwS 1 hts gX1_adjust_X1_byteOf rfl rfl rfl (by decide +kernel) ⟨Nat.le_of_ble_eq_true rfl, Nat.le_of_ble_eq_true rfl⟩) pu_preS rfl rfl hl.1 rfl (lv_room (Nat.le_of_ble_eq_true rfl)) dX1_adjust_408 ⟨Nat.le_of_ble_eq_true rfl, Nat.le_of_ble_eq_true rfl⟩) ?_
      refine lv_imul hx hb dX1_adjust_411 ?_
      refine lv_iload hx hb dX1_adjust_412 (lv_at hl 2 rfl) ?_
      refine rg (J := 427) (st := [.int (256 * (f_X1_byteOf y_62))]) (if y_14 = 0 then y_1 else (y_1 + 10)) (fun k => ?_) (fun y_64 ey_64 => ?_)
      · refine lv_if_eq (tgt := 425) hx hb dX1_adjust_414 (by decide) (fun c_65 => ?_) (fun c_65 => ?_)
        · refine lv_iload hx hb dX1_adjust_425 (lv_at hl 5 rfl) ?_
          exact rg_e k (by first | rw [if_pos c_65] | simp only [if_pos c_65])
        · refine lv_iload hx hb dX1_adjust_417 (lv_at hl 5 rfl) ?_
          refine lv_bipush (v := 10) hx hb dX1_adjust_419 (by decide +kernel) ?_
          refine lv_iadd hx hb dX1_adjust_421 ?_
          refine lv_goto (tgt := 427) hx hb dX1_adjust_422 (by decide) ?_
          exact rg_e k (by first | rw [if_neg c_65] | simp only [if_neg c_65])
      refine lv_bipush (v := 16) hx hb dX1_adjust_427 (by decide +kernel) ?_
      refine jr_row hx hb dX1_adjust_429 (by decide) ?_
      refine lv_iadd hx hb dX1_adjust_430 ?_
      exact W.iret (v := ((256 * (f_X1_byteOf y_62)) + (jr y_64 16))) hx hb hr (fun t ht hW => ⟨⟨((256 * (f_X1_byteOf y_62)) + (jr y_64 16)), (y_6, u_61, u_13), rfl, ⟨(by subst ey_1; subst ey_2; subst ey_3; subst ey_5; subst ey_6; subst eu_13; subst ey_14; subst ey_17; subst eu_59; subst eu_61; subst ey_62; subst ey_64; simp only [f_X1_adjust, if_pos c_11]; simp only [if_neg c_20, if_neg c_32, if_neg c_48, if_pos c_57]), (by subst ey_1; subst ey_2; subst ey_3; subst ey_5; subst ey_6; subst eu_13; subst ey_14; subst ey_17; subst eu_59; subst eu_61; subst ey_62; subst ey_64; simp only [f_X1_adjust, if_pos c_11]; simp only [if_neg c_20, if_neg c_32, if_neg c_48, if_pos c_57])⟩, by rw [ht]; exact hP, va_K.moved hW.alike hK, hD⟩, hS.F ht⟩) hS.2.2 dX1_adjust_431
    by_cases c_66 : a1 = 4
    · refine lv_tableIn (off := 292) (tgt := 432) hx hb dX1_adjust_140 (by rw [c_66]; decide) (by rw [c_66]; decide) (by rw [c_66]; rfl) (by decide) ?_
      refine lv_aload_n hx hb dX1_adjust_432 rfl (lv_at hl 6 rfl) ?_
      refine lv_iload hx hb dX1_adjust_433 (lv_at hl 5 rfl) ?_
      refine lv_iload hx hb dX1_adjust_435 (lv_at hl 3 rfl) ?_
      refine jr_row hx hb dX1_adjust_437 (fun h => absurd c_11 (by rw [ey_6, c_66, h]; decide)) ?_
      refine wr_callv (va_runV (As := [.int (jr y_1 y_5)]) (rest := []) ⟨hx, hb, hml, hown, hts⟩ (p_X1_byAnswer l dC dI h0 _ y_6 fl u_13 (jr y_1 y_5)) (cwV 1 hts gX1_adjust_X1_byAnswer rfl rfl rfl (by decide +kernel) ⟨Nat.le_of_ble_eq_true rfl, Nat.le_of_ble_eq_true rfl⟩) (wr_preV (ci := 2) rfl hK hP hD) rfl rfl hl.1 rfl (lv_room (Nat.le_of_ble_eq_true rfl)) dX1_adjust_438 ⟨Nat.le_of_ble_eq_true rfl, Nat.le_of_ble_eq_true rfl⟩) hP hD hS hA (fun u_68 H locs eu_68 hP hD hS => ?_)
      have hP : va_P (dC, dI) vwCl [(h0, .inr (2, [.int y_6, .int u_68, .int u_13]))] H := hP
      have hD : va_D A [(h0, .inr (2, [.int y_6, .int u_68, .int u_13]))] := hD
      refine lv_sipush (v := 256) hx hb dX1_adjust_441 (by decide +kernel) ?_
      refine lv_iload hx hb dX1_adjust_444 (lv_at hl 5 rfl) ?_
      refine lv_iload hx hb dX1_adjust_446 (lv_at hl 3 rfl) ?_
      refine lv_idiv hx hb dX1_adjust_448 (fun h => absurd c_11 (by rw [ey_6, c_66, h]; decide)) ?_
      refine lv_imul hx hb dX1_adjust_449 ?_
      refine lv_iload hx hb dX1_adjust_450 (lv_at hl 5 rfl) ?_
      refine lv_iload hx hb dX1_adjust_452 (lv_at hl 3 rfl) ?_
      refine jr_row hx hb dX1_adjust_454 (fun h => absurd c_11 (by rw [ey_6, c_66, h]; decide)) ?_
      refine lv_iadd hx hb dX1_adjust_455 ?_
      exact W.iret (v := ((256 * (y_1 / y_5)) + (jr y_1 y_5))) hx hb hr (fun t ht hW => ⟨⟨((256 * (y_1 / y_5)) + (jr y_1 y_5)), (y_6, u_68, u_13), rfl, ⟨(by subst ey_1; subst ey_2; subst ey_3; subst ey_5; subst ey_6; subst eu_13; subst ey_14; subst ey_17; subst eu_68; simp only [f_X1_adjust, if_pos c_11]; simp only [if_neg c_20, if_neg c_32, if_neg c_48, if_neg c_57, if_pos c_66]), (by subst ey_1; subst ey_2; subst ey_3; subst ey_5; subst ey_6; subst eu_13; subst ey_14; subst ey_17; subst eu_68; simp only [f_X1_adjust, if_pos c_11]; simp only [if_neg c_20, if_neg c_32, if_neg c_48, if_neg c_57, if_pos c_66])⟩, by rw [ht]; exact hP, va_K.moved hW.alike hK, hD⟩, hS.F ht⟩) hS.2.2 dX1_adjust_456
    refine lv_tableOut (tgt := 457) hx hb dX1_adjust_140 (sw_out 4 (by decide) (fun k hk => by rcases (show k = 0 ∨ k = 1 ∨ k = 2 ∨ k = 3 ∨ k = 4 by omega) with rfl | rfl | rfl | rfl | rfl <;> assumption)) (by decide) ?_
    refine lv_iload hx hb dX1_adjust_457 (lv_at hl 4 rfl) ?_
    refine lv_iload hx hb dX1_adjust_459 (lv_at hl 3 rfl) ?_
    refine lv_imul hx hb dX1_adjust_461 ?_
    refine lv_iload hx hb dX1_adjust_462 (lv_at hl 5 rfl) ?_
    refine lv_iadd hx hb dX1_adjust_464 ?_
    refine pu_calli (F := (f_X1_byteOf ((y_3 * y_5) + y_1))) (va_runS (As := [.int ((y_3 * y_5) + y_1)]) (rest := []) ⟨hx, hb, hml, hown, hts⟩ (p_X1_byteOf l _ ((y_3 * y_5) + y_1)) (va_cwS 1 hts gX1_adjust_X1_byteOf rfl rfl rfl (by decide +kernel) ⟨Nat.le_of_ble_eq_true rfl, Nat.le_of_ble_eq_true rfl⟩) pu_preS rfl rfl hl.1 rfl (lv_room (Nat.le_of_ble_eq_true rfl)) dX1_adjust_465 ⟨Nat.le_of_ble_eq_true rfl, Nat.le_of_ble_eq_true rfl⟩) ?_
    refine lv_topi (fun y_69 ey_69 => ?_)
    refine lv_istore (lv' := [(9, .int y_69), (8, .int y_17), (7, .int y_14), (6, .int y_5), (5, .int y_3), (4, .int y_1), (0, .ref h0), (1, .int a1), (2, .int a2), (3, .int a3)]) hx hb dX1_adjust_468 hl (by decide) rfl (fun ls hl => ?_)
    refine lv_aload_n hx hb dX1_adjust_470 rfl (lv_at hl 6 rfl) ?_
    refine lv_iload hx hb dX1_adjust_471 (lv_at hl 0 rfl) ?_
    refine wr_callv (va_runV (As := [.int y_69]) (rest := []) ⟨hx, hb, hml, hown, hts⟩ (p_X1_byAnswer l dC dI h0 _ y_6 fl u_13 y_69) (cwV 1 hts gX1_adjust_X1_byAnswer rfl rfl rfl (by decide +kernel) ⟨Nat.le_of_ble_eq_true rfl, Nat.le_of_ble_eq_true rfl⟩) (wr_preV (ci := 2) rfl hK hP hD) rfl rfl hl.1 rfl (lv_room (Nat.le_of_ble_eq_true rfl)) dX1_adjust_473 ⟨Nat.le_of_ble_eq_true rfl, Nat.le_of_ble_eq_true rfl⟩) hP hD hS hA (fun u_71 H locs eu_71 hP hD hS => ?_)
    have hP : va_P (dC, dI) vwCl [(h0, .inr (2, [.int y_6, .int u_71, .int u_13]))] H := hP
    have hD : va_D A [(h0, .inr (2, [.int y_6, .int u_71, .int u_13]))] := hD
    refine lv_iload hx hb dX1_adjust_476 (lv_at hl 0 rfl) ?_
    exact W.iret (v := y_69) hx hb hr (fun t ht hW => ⟨⟨y_69, (y_6, u_71, u_13), rfl, ⟨(by subst ey_1; subst ey_2; subst ey_3; subst ey_5; subst ey_6; subst eu_13; subst ey_14; subst ey_17; subst ey_69; subst eu_71; simp only [f_X1_adjust, if_pos c_11]; simp only [if_neg c_20, if_neg c_32, if_neg c_48, if_neg c_57, if_neg c_66]), (by subst ey_1; subst ey_2; subst ey_3; subst ey_5; subst ey_6; subst eu_13; subst ey_14; subst ey_17; subst ey_69; subst eu_71; simp only [f_X1_adjust, if_pos c_11]; simp only [if_neg c_20, if_neg c_32, if_neg c_48, if_neg c_57, if_neg c_66])⟩, by rw [ht]; exact hP, va_K.moved hW.alike hK, hD⟩, hS.F ht⟩) hS.2.2 dX1_adjust_478
  · refine lv_iconst (v := 0) hx hb dX1_adjust_79 (by decide) ?_
    exact W.iret (v := 0) hx hb hr (fun t ht hW => ⟨⟨0, (y_6, fl, al), rfl, ⟨(by subst ey_1; subst ey_2; subst ey_3; subst ey_5; subst ey_6; simp only [f_X1_adjust, if_neg c_11]), (by subst ey_1; subst ey_2; subst ey_3; subst ey_5; subst ey_6; simp only [f_X1_adjust, if_neg c_11])⟩, by rw [ht]; exact hP, va_K.moved hW.alike hK, hD⟩, hS.F ht⟩) hS.2.2 dX1_adjust_80

/-- what X1_extend answers -/
def f_X1_extend (a1 : Int32) (a2 : Int32) : Int32 × (Int32 × Int32) :=
  let u_2 : Int32 := (f_X1_length a1)
  let y_3 : Int32 := (f_X1_signed u_2 (f_X1_operand u_2 a2))
  let y_4 : Int32 := (if a1 = 0 then (if 0 ≤ y_3 then y_3 else (y_3 + 65536)) else y_3)
  (y_4, (0, u_2))
set_option maxHeartbeats 4000000 in
set_option maxRecDepth 100000 in
theorem p_X1_extend (l : Launch) (dC : Nat → ClassId) (dI : Nat → Nat → Nat) (h0 : Nat) (sz : Nat) (cd : Int32) (fl : Int32) (al : Int32) (a1 : Int32) (a2 : Int32) : Met l yX1_extend wsX1_extend ({ frames := 1, cells := 0, slots := 0, locals := 21 }) (va_Pc [.ref h0, .int a1, .int a2] (wr_pre (dC, dI) 2 h0 sz [.int cd, .int fl, .int al])) (va_Qi (fun (r : Int32) (u : Int32 × Int32) => r = (f_X1_extend a1 a2).1 ∧ u = (f_X1_extend a1 a2).2) (wr_at (dC, dI) 2 h0 (fun u : Int32 × Int32 => [.int u.1, .int fl, .int u.2]) (wr_A 2 h0 sz [.int cd, .int fl, .int al])) (wr_A 2 h0 sz [.int cd, .int fl, .int al])) 0 0 (wr_A 2 h0 sz [.int cd, .int fl, .int al]) := by
  refine Met.ofW (cc := cX1_extend) (maxL := 4) (ret := (some .int)) (by decide) rfl ?_
  intro p e s m args below meth c s₁ B hml hv
  obtain ⟨rfl, hsz, hP, hK, hD0⟩ := hv
  have hx := B.exec
  have hb := B.bytes
  have hr := B.returns
  have hts := atoms_spec (ws := wsX1_extend) B.pre
  have hown : s.vm.findClass RX1 = some m.cls := findClass_of_methodNamed B.named
  have hlocks := B.notSynchronized
  subst hsz
  have hD : va_D (wr_A 2 h0 s.heap.size [.int cd, .int fl, .int al]) [(h0, .inr (2, [.int cd, .int fl, .int al]))] := hD0.self (sz := s.heap.size)
  generalize hAe : wr_A 2 h0 s.heap.size [.int cd, .int fl, .int al] = A at hD ⊢
  have hA : ∀ q : Nat, s.heap.size ≤ q → A q := fun q h => by rw [← hAe]; exact Or.inr h
  have hS : va_S A s.heap s.heap [] := va_S.rf
  have hP : va_P (dC, dI) vwCl [(h0, .inr (2, [.int cd, .int fl, .int al]))] s.heap := hP
  have hD : va_D A [(h0, .inr (2, [.int cd, .int fl, .int al]))] := hD
  have hl := lv_entry ([.ref h0, .int a1, .int a2]) (n := 4) (Nat.le_of_ble_eq_true rfl)
  rw [lg_entry_eq]
  generalize (lg_sl ([.ref h0, .int a1, .int a2]) ++ List.replicate (4 - (lg_sl ([.ref h0, .int a1, .int a2])).length) Slot.unset).toArray = ls at hl ⊢
  have hl : lv_has ls 4 [(0, .ref h0), (1, .int a1), (2, .int a2)] := hl
  refine lv_aload_n hx hb dX1_extend_0 rfl (lv_at hl 0 rfl) ?_
  refine lv_iconst (v := 0) hx hb dX1_extend_1 (by decide) ?_
  refine va_put (D := (dC, dI)) (ci := 2) (v := .int 0) (ty := .int) (C := RX1) (T := TX1) (N := 3) hx hb hts (by decide +kernel) tyX1 tyX1_ok nmX1 hown hK hP hD hS 0 rfl rfl 0 (by decide) (hts (.fieldLink RX1 7 "WordArithmeticModel" "code" "I") (by decide +kernel)) (fun _ h9 => h9) rfl (by decide +kernel) rfl rfl (Nat.le_of_ble_eq_true rfl) dX1_extend_2 (fun H locs hP hD hS => ?_)
  have hP : va_P (dC, dI) vwCl [(h0, .inr (2, [.int 0, .int fl, .int al]))] H := hP
  have hD : va_D A [(h0, .inr (2, [.int 0, .int fl, .int al]))] := hD
  refine lv_aload_n hx hb dX1_extend_5 rfl (lv_at hl 0 rfl) ?_
  refine lv_iload_n hx hb dX1_extend_6 rfl (lv_at hl 1 rfl) ?_
  refine wr_callv (va_runV (As := [.int a1]) (rest := []) ⟨hx, hb, hml, hown, hts⟩ (p_X1_length l dC dI h0 _ 0 fl al a1) (cwV 1 hts gX1_extend_X1_length rfl rfl rfl (by decide +kernel) ⟨Nat.le_of_ble_eq_true rfl, Nat.le_of_ble_eq_true rfl⟩) (wr_preV (ci := 2) rfl hK hP hD) rfl rfl hl.1 rfl (lv_room (Nat.le_of_ble_eq_true rfl)) dX1_extend_7 ⟨Nat.le_of_ble_eq_true rfl, Nat.le_of_ble_eq_true rfl⟩) hP hD hS hA (fun u_2 H locs eu_2 hP hD hS => ?_)
  have hP : va_P (dC, dI) vwCl [(h0, .inr (2, [.int 0, .int fl, .int u_2]))] H := hP
  have hD : va_D A [(h0, .inr (2, [.int 0, .int fl, .int u_2]))] := hD
  refine lv_aload_n hx hb dX1_extend_10 rfl (lv_at hl 0 rfl) ?_
  refine lv_aload_n hx hb dX1_extend_11 rfl (lv_at hl 0 rfl) ?_
  refine lv_iload_n hx hb dX1_extend_12 rfl (lv_at hl 2 rfl) ?_
  refine pu_calli (F := (f_X1_operand u_2 a2)) (va_runV (As := [.int a2]) (rest := [.ref h0]) ⟨hx, hb, hml, hown, hts⟩ (p_X1_operand l dC dI h0 _ 0 fl u_2 a2) (cwV 1 hts gX1_extend_X1_operand rfl rfl rfl (by decide +kernel) ⟨Nat.le_of_ble_eq_true rfl, Nat.le_of_ble_eq_true rfl⟩) (pu_preV (ci := 2) rfl hK hP) rfl rfl hl.1 rfl (lv_room (Nat.le_of_ble_eq_true rfl)) dX1_extend_13 ⟨Nat.le_of_ble_eq_true rfl, Nat.le_of_ble_eq_true rfl⟩) ?_
  refine pu_calli (F := (f_X1_signed u_2 (f_X1_operand u_2 a2))) (va_runV (As := [.int (f_X1_operand u_2 a2)]) (rest := []) ⟨hx, hb, hml, hown, hts⟩ (p_X1_signed l dC dI h0 _ 0 fl u_2 (f_X1_operand u_2 a2)) (cwV 1 hts gX1_extend_X1_signed rfl rfl rfl (by decide +kernel) ⟨Nat.le_of_ble_eq_true rfl, Nat.le_of_ble_eq_true rfl⟩) (pu_preV (ci := 2) rfl hK hP) rfl rfl hl.1 rfl (lv_room (Nat.le_of_ble_eq_true rfl)) dX1_extend_16 ⟨Nat.le_of_ble_eq_true rfl, Nat.le_of_ble_eq_true rfl⟩) ?_
  refine lv_topi (fun y_3 ey_3 => ?_)
  refine lv_istore_n (lv' := [(3, .int y_3), (0, .ref h0), (1, .int a1), (2, .int a2)]) hx hb dX1_extend_19 rfl hl (by decide) rfl (fun ls hl => ?_)
  refine lv_iload_n hx hb dX1_extend_20 rfl (lv_at hl 2 rfl) ?_
  refine rg (J := 36) (st := []) (if a1 = 0 then (if 0 ≤ y_3 then y_3 else (y_3 + 65536)) else y_3) (fun k => ?_) (fun y_4 ey_4 => ?_)
  · refine lv_if_ne (tgt := 35) hx hb dX1_extend_21 (by decide) (fun c_5 => ?_) (fun c_5 => ?_)
    · refine lv_iload_n hx hb dX1_extend_35 rfl (lv_at hl 0 rfl) ?_
      exact rg_e k (by first | rw [if_neg c_5] | simp only [if_neg c_5])
    · refine lv_iload_n hx hb dX1_extend_24 rfl (lv_at hl 0 rfl) ?_
      refine lv_if_ge (tgt := 35) hx hb dX1_extend_25 (by decide) (fun c_6 => ?_) (fun c_6 => ?_)
      · refine lv_iload_n hx hb dX1_extend_35 rfl (lv_at hl 0 rfl) ?_
        exact rg_e k (by first | rw [if_pos c_5, if_pos c_6] | simp only [if_pos c_5, if_pos c_6])
      · refine lv_iload_n hx hb dX1_extend_28 rfl (lv_at hl 0 rfl) ?_
        refine lv_ldc (own := RX1) (index := 13) (v := 65536) hx hb hown (hts (.constant RX1 13 (65536)) (by decide +kernel)) dX1_extend_29 ?_
        refine lv_iadd hx hb dX1_extend_31 ?_
        refine lv_goto (tgt := 36) hx hb dX1_extend_32 (by decide) ?_
        exact rg_e k (by first | rw [if_pos c_5, if_neg c_6] | simp only [if_pos c_5, if_neg c_6])
  exact W.iret (v := y_4) hx hb hr (fun t ht hW => ⟨⟨y_4, (0, u_2), rfl, ⟨(by subst eu_2; subst ey_3; subst ey_4; simp only [f_X1_extend]), (by subst eu_2; subst ey_3; subst ey_4; simp only [f_X1_extend])⟩, by rw [ht]; exact hP, va_K.moved hW.alike hK, hD⟩, hS.F ht⟩) hS.2.2 dX1_extend_36
end
section
theorem b01_ite {c : Prop} [Decidable c] {x y : Int32} (hx : x = 0 ∨ x = 1) (hy : y = 0 ∨ y = 1) : (if c then x else y) = 0 ∨ (if c then x else y) = 1 := by
  split <;> assumption
/-- what X1_holds answers -/
def f_X1_holds (fl : Int32) (a1 : Int32) : Int32 × Int32 :=
  let y_1 : Int32 := (if a1 < 0 then 1 else (if a1 ≤ 15 then 0 else 1))
  if y_1 ≤ 0 then
  (let y_5 : Int32 := (if (f_X1_is fl 128) = (f_X1_is fl 2048) then 0 else 1)
  let y_7 : Int32 := (a1 / 2)
  let y_8 : Int32 := (if y_7 = 0 then (f_X1_is fl 2048) else (if y_7 = 1 then (f_X1_is fl 1) else (if y_7 = 2 then (f_X1_is fl 64) else (if y_7 = 3 then (if (f_X1_is fl 1) = 0 then (if (f_X1_is fl 64) = 0 then 0 else 1) else 1) else (if y_7 = 4 then (f_X1_is fl 128) else (if y_7 = 5 then (f_X1_is fl 4) else (if y_7 = 6 then y_5 else (if y_5 = 0 then (if (f_X1_is fl 64) = 0 then 0 else 1) else 1))))))))
  let y_20 : Int32 := (if (jr a1 2) = 0 then y_8 else (if y_8 = 0 then 1 else 0))
  (y_20, y_1))
  else
  ((0, y_1))
set_option maxHeartbeats 4000000 in
set_option maxRecDepth 100000 in
theorem p_X1_holds (l : Launch) (dC : Nat → ClassId) (dI : Nat → Nat → Nat) (h0 : Nat) (sz : Nat) (cd : Int32) (fl : Int32) (al : Int32) (a1 : Int32) : Met l yX1_holds wsX1_holds ({ frames := 1, cells := 0, slots := 0, locals := 21 }) (va_Pc [.ref h0, .int a1] (wr_pre (dC, dI) 2 h0 sz [.int cd, .int fl, .int al])) (va_Qi (fun (r : Int32) (u : Int32) => r = (f_X1_holds fl a1).1 ∧ u = (f_X1_holds fl a1).2) (wr_at (dC, dI) 2 h0 (fun u : Int32 => [.int u, .int fl, .int al]) (wr_A 2 h0 sz [.int cd, .int fl, .int al])) (wr_A 2 h0 sz [.int cd, .int fl, .int al])) 0 0 (wr_A 2 h0 sz [.int cd, .int fl, .int al]) := by
  refine Met.ofW (cc := cX1_holds) (maxL := 5) (ret := (some .boolean)) (by decide) rfl ?_
  intro p e s m args below meth c s₁ B hml hv
  obtain ⟨rfl, hsz, hP, hK, hD0⟩ := hv
  have hx := B.exec
  have hb := B.bytes
  have hr := B.returns
  have hts := atoms_spec (ws := wsX1_holds) B.pre
  have hown : s.vm.findClass RX1 = some m.cls := findClass_of_methodNamed B.named
  have hlocks := B.notSynchronized
  subst hsz
  have hD : va_D (wr_A 2 h0 s.heap.size [.int cd, .int fl, .int al]) [(h0, .inr (2, [.int cd, .int fl, .int al]))] := hD0.self (sz := s.heap.size)
  generalize hAe : wr_A 2 h0 s.heap.size [.int cd, .int fl, .int al] = A at hD ⊢
  have hA : ∀ q : Nat, s.heap.size ≤ q → A q := fun q h => by rw [← hAe]; exact Or.inr h
  have hS : va_S A s.heap s.heap [] := va_S.rf
  have hP : va_P (dC, dI) vwCl [(h0, .inr (2, [.int cd, .int fl, .int al]))] s.heap := hP
  have hD : va_D A [(h0, .inr (2, [.int cd, .int fl, .int al]))] := hD
  have hl := lv_entry ([.ref h0, .int a1]) (n := 5) (Nat.le_of_ble_eq_true rfl)
  rw [lg_entry_eq]
  generalize (lg_sl ([.ref h0, .int a1]) ++ List.replicate (5 - (lg_sl ([.ref h0, .int a1])).length) Slot.unset).toArray = ls at hl ⊢
  have hl : lv_has ls 5 [(0, .ref h0), (1, .int a1)] := hl
  refine lv_aload_n hx hb dX1_holds_0 rfl (lv_at hl 0 rfl) ?_
  refine lv_iload_n hx hb dX1_holds_1 rfl (lv_at hl 1 rfl) ?_
  refine rg (J := 16) (st := [.ref h0]) (if a1 < 0 then 1 else (if a1 ≤ 15 then 0 else 1)) (fun k => ?_) (fun y_1 ey_1 => ?_)
  · refine lv_if_lt (tgt := 11) hx hb dX1_holds_2 (by decide) (fun c_2 => ?_) (fun c_2 => ?_)
    · refine lv_iconst (v := 1) hx hb dX1_holds_11 (by decide) ?_
      refine lv_goto (tgt := 16) hx hb dX1_holds_12 (by decide) ?_
      exact rg_e k (by first | rw [if_pos c_2] | simp only [if_pos c_2])
    · refine lv_iload_n hx hb dX1_holds_5 rfl (lv_at hl 1 rfl) ?_
      refine lv_bipush (v := 15) hx hb dX1_holds_6 (by decide +kernel) ?_
      refine lv_icmp_le (tgt := 15) hx hb dX1_holds_8 (by decide) (fun c_3 => ?_) (fun c_3 => ?_)
      · refine lv_iconst (v := 0) hx hb dX1_holds_15 (by decide) ?_
        exact rg_e k (by first | rw [if_neg c_2, if_pos c_3] | simp only [if_neg c_2, if_pos c_3])
      · refine lv_iconst (v := 1) hx hb dX1_holds_11 (by decide) ?_
        refine lv_goto (tgt := 16) hx hb dX1_holds_12 (by decide) ?_
        exact rg_e k (by first | rw [if_neg c_2, if_neg c_3] | simp only [if_neg c_2, if_neg c_3])
  refine va_put (D := (dC, dI)) (ci := 2) (v := .int y_1) (ty := .int) (C := RX1) (T := TX1) (N := 3) hx hb hts (by decide +kernel) tyX1 tyX1_ok nmX1 hown hK hP hD hS 0 rfl rfl 0 (by decide) (hts (.fieldLink RX1 7 "WordArithmeticModel" "code" "I") (by decide +kernel)) (fun _ h9 => h9) rfl (by decide +kernel) rfl rfl (Nat.le_of_ble_eq_true rfl) dX1_holds_16 (fun H locs hP hD hS => ?_)
  have hP : va_P (dC, dI) vwCl [(h0, .inr (2, [.int y_1, .int fl, .int al]))] H := hP
  have hD : va_D A [(h0, .inr (2, [.int y_1, .int fl, .int al]))] := hD
  refine lv_aload_n hx hb dX1_holds_19 rfl (lv_at hl 0 rfl) ?_
  refine va_get (D := (dC, dI)) (ci := 2) (v := .int y_1) (C := RX1) (T := TX1) (N := 3) hx hb hts (by decide +kernel) hown hK hP 0 rfl rfl 0 (by decide) (hts (.fieldLink RX1 7 "WordArithmeticModel" "code" "I") (by decide +kernel)) (fun _ h9 => h9) rfl dX1_holds_20 ?_
  refine lv_if_le (tgt := 28) hx hb dX1_holds_23 (by decide) (fun c_4 => ?_) (fun c_4 => ?_)
  · refine lv_aload_n hx hb dX1_holds_28 rfl (lv_at hl 0 rfl) ?_
    refine lv_sipush (v := 128) hx hb dX1_holds_29 (by decide +kernel) ?_
    refine pu_calli (F := (f_X1_is fl 128)) (va_runV (As := [.int 128]) (rest := []) ⟨hx, hb, hml, hown, hts⟩ (p_X1_is l dC dI h0 _ y_1 fl al 128 (by decide)) (cwV 1 hts gX1_holds_X1_is rfl rfl rfl (by decide +kernel) ⟨Nat.le_of_ble_eq_true rfl, Nat.le_of_ble_eq_true rfl⟩) (pu_preV (ci := 2) rfl hK hP) rfl rfl hl.1 rfl (lv_room (Nat.le_of_ble_eq_true rfl)) dX1_holds_32 ⟨Nat.le_of_ble_eq_true rfl, Nat.le_of_ble_eq_true rfl⟩) ?_
    refine lv_aload_n hx hb dX1_holds_35 rfl (lv_at hl 0 rfl) ?_
    refine lv_sipush (v := 2048) hx hb dX1_holds_36 (by decide +kernel) ?_
    refine pu_calli (F := (f_X1_is fl 2048)) (va_runV (As := [.int 2048]) (rest := [.int (f_X1_is fl 128)]) ⟨hx, hb, hml, hown, hts⟩ (p_X1_is l dC dI h0 _ y_1 fl al 2048 (by decide)) (cwV 1 hts gX1_holds_X1_is rfl rfl rfl (by decide +kernel) ⟨Nat.le_of_ble_eq_true rfl, Nat.le_of_ble_eq_true rfl⟩) (pu_preV (ci := 2) rfl hK hP) rfl rfl hl.1 rfl (lv_room (Nat.le_of_ble_eq_true rfl)) dX1_holds_39 ⟨Nat.le_of_ble_eq_true rfl, Nat.le_of_ble_eq_true rfl⟩) ?_
    refine rg (J := 50) (st := []) (if (f_X1_is fl 128) = (f_X1_is fl 2048) then 0 else 1) (fun k => ?_) (fun y_5 ey_5 => ?_)
    · refine lv_icmp_eq (tgt := 49) hx hb dX1_holds_42 (by decide) (fun c_6 => ?_) (fun c_6 => ?_)
      · refine lv_iconst (v := 0) hx hb dX1_holds_49 (by decide) ?_
        exact rg_e k (by first | rw [if_pos c_6] | simp only [if_pos c_6])
      · refine lv_iconst (v := 1) hx hb dX1_holds_45 (by decide) ?_
        refine lv_goto (tgt := 50) hx hb dX1_holds_46 (by decide) ?_
        exact rg_e k (by first | rw [if_neg c_6] | simp only [if_neg c_6])
    refine lv_istore_n (lv' := [(2, .int y_5), (0, .ref h0), (1, .int a1)]) hx hb dX1_holds_50 rfl hl (by decide) rfl (fun ls hl => ?_)
    refine lv_iload_n hx hb dX1_holds_51 rfl (lv_at hl 2 rfl) ?_
    refine lv_iconst (v := 2) hx hb dX1_holds_52 (by decide) ?_
    refine lv_idiv hx hb dX1_holds_53 (by decide) ?_
    refine lv_topi (fun y_7 ey_7 => ?_)
    refine lv_istore_n (lv' := [(3, .int y_7), (2, .int y_5), (0, .ref h0), (1, .int a1)]) hx hb dX1_holds_54 rfl hl (by decide) rfl (fun ls hl => ?_)
    refine lv_iload_n hx hb dX1_holds_55 rfl (lv_at hl 0 rfl) ?_
    refine rg (J := 182) (st := []) (if y_7 = 0 then (f_X1_is fl 2048) else (if y_7 = 1 then (f_X1_is fl 1) else (if y_7 = 2 then (f_X1_is fl 64) else (if y_7 = 3 then (if (f_X1_is fl 1) = 0 then (if (f_X1_is fl 64) = 0 then 0 else 1) else 1) else (if y_7 = 4 then (f_X1_is fl 128) else (if y_7 = 5 then (f_X1_is fl 4) else (if y_7 = 6 then y_5 else (if y_5 = 0 then (if (f_X1_is fl 64) = 0 then 0 else 1) else 1)))))))) (fun k => ?_) (fun y_8 ey_8 => ?_)
    · refine lv_if_ne (tgt := 69) hx hb dX1_holds_56 (by decide) (fun c_9 => ?_) (fun c_9 => ?_)
      · refine lv_iload_n hx hb dX1_holds_69 rfl (lv_at hl 0 rfl) ?_
        refine lv_iconst (v := 1) hx hb dX1_holds_70 (by decide) ?_
        refine lv_icmp_ne (tgt := 82) hx hb dX1_holds_71 (by decide) (fun c_10 => ?_) (fun c_10 => ?_)
        · refine lv_iload_n hx hb dX1_holds_82 rfl (lv_at hl 0 rfl) ?_
          refine lv_iconst (v := 2) hx hb dX1_holds_83 (by decide) ?_
          refine lv_icmp_ne (tgt := 96) hx hb dX1_holds_84 (by decide) (fun c_11 => ?_) (fun c_11 => ?_)
          · refine lv_iload_n hx hb dX1_holds_96 rfl (lv_at hl 0 rfl) ?_
            refine lv_iconst (v := 3) hx hb dX1_holds_97 (by decide) ?_
            refine lv_icmp_ne (tgt := 126) hx hb dX1_holds_98 (by decide) (fun c_12 => ?_) (fun c_12 => ?_)
            · refine lv_iload_n hx hb dX1_holds_126 rfl (lv_at hl 0 rfl) ?_
              refine lv_iconst (v := 4) hx hb dX1_holds_127 (by decide) ?_
              refine lv_icmp_ne (tgt := 141) hx hb dX1_holds_128 (by decide) (fun c_13 => ?_) (fun c_13 => ?_)
              · refine lv_iload_n hx hb dX1_holds_141 rfl (lv_at hl 0 rfl) ?_
                refine lv_iconst (v := 5) hx hb dX1_holds_142 (by decide) ?_
                refine lv_icmp_ne (tgt := 154) hx hb dX1_holds_143 (by decide) (fun c_14 => ?_) (fun c_14 => ?_)
                · refine lv_iload_n hx hb dX1_holds_154 rfl (lv_at hl 0 rfl) ?_
                  refine lv_bipush (v := 6) hx hb dX1_holds_155 (by decide +kernel) ?_
                  refine lv_icmp_ne (tgt := 164) hx hb dX1_holds_157 (by decide) (fun c_15 => ?_) (fun c_15 => ?_)
                  · refine lv_iload_n hx hb dX1_holds_164 rfl (lv_at hl 1 rfl) ?_
                    refine lv_if_ne (tgt := 177) hx hb dX1_holds_165 (by decide) (fun c_16 => ?_) (fun c_16 => ?_)
                    · refine lv_iconst (v := 1) hx hb dX1_holds_177 (by decide) ?_
                      refine lv_goto (tgt := 182) hx hb dX1_holds_178 (by decide) ?_
                      exact rg_e k (by first | rw [if_neg c_9, if_neg c_10, if_neg c_11, if_neg c_12, if_neg c_13, if_neg c_14, if_neg c_15, if_neg c_16] | simp only [if_neg c_9, if_neg c_10, if_neg c_11, if_neg c_12, if_neg c_13, if_neg c_14, if_neg c_15, if_neg c_16])
                    · refine lv_aload_n hx hb dX1_holds_168 rfl (lv_at hl 2 rfl) ?_
                      refine lv_bipush (v := 64) hx hb dX1_holds_169 (by decide +kernel) ?_
                      refine pu_calli (F := (f_X1_is fl 64)) (va_runV (As := [.int 64]) (rest := []) ⟨hx, hb, hml, hown, hts⟩ (p_X1_is l dC dI h0 _ y_1 fl al 64 (by decide)) (cwV 1 hts gX1_holds_X1_is rfl rfl rfl (by decide +kernel) ⟨Nat.le_of_ble_eq_true rfl, Nat.le_of_ble_eq_true rfl⟩) (pu_preV (ci := 2) rfl hK hP) rfl rfl hl.1 rfl (lv_room (Nat.le_of_ble_eq_true rfl)) dX1_holds_171 ⟨Nat.le_of_ble_eq_true rfl, Nat.le_of_ble_eq_true rfl⟩) ?_
                      refine lv_if_eq (tgt := 181) hx hb dX1_holds_174 (by decide) (fun c_17 => ?_) (fun c_17 => ?_)
                      · refine lv_iconst (v := 0) hx hb dX1_holds_181 (by decide) ?_
                        exact rg_e k (by first | rw [if_neg c_9, if_neg c_10, if_neg c_11, if_neg c_12, if_neg c_13, if_neg c_14, if_neg c_15, if_pos c_16, if_pos c_17] | simp only [if_neg c_9, if_neg c_10, if_neg c_11, if_neg c_12, if_neg c_13, if_neg c_14, if_neg c_15, if_pos c_16, if_pos c_17])
                      · refine lv_iconst (v := 1) hx hb dX1_holds_177 (by decide) ?_
                        refine lv_goto (tgt := 182) hx hb dX1_holds_178 (by decide) ?_
                        exact rg_e k (by first | rw [if_neg c_9, if_neg c_10, if_neg c_11, if_neg c_12, if_neg c_13, if_neg c_14, if_neg c_15, if_pos c_16, if_neg c_17] | simp only [if_neg c_9, if_neg c_10, if_neg c_11, if_neg c_12, if_neg c_13, if_neg c_14, if_neg c_15, if_pos c_16, if_neg c_17])
                  · refine lv_iload_n hx hb dX1_holds_160 rfl (lv_at hl 1 rfl) ?_
                    refine lv_goto (tgt := 182) hx hb dX1_holds_161 (by decide) ?_
                    exact rg_e k (by first | rw [if_neg c_9, if_neg c_10, if_neg c_11, if_neg c_12, if_neg c_13, if_neg c_14, if_pos c_15] | simp only [if_neg c_9, if_neg c_10, if_neg c_11, if_neg c_12, if_neg c_13, if_neg c_14, if_pos c_15])
                · refine lv_aload_n hx hb dX1_holds_146 rfl (lv_at hl 2 rfl) ?_
                  refine lv_iconst (v := 4) hx hb dX1_holds_147 (by decide) ?_
                  refine pu_calli (F := (f_X1_is fl 4)) (va_runV (As := [.int 4]) (rest := []) ⟨hx, hb, hml, hown, hts⟩ (p_X1_is l dC dI h0 _ y_1 fl al 4 (by decide)) (cwV 1 hts gX1_holds_X1_is rfl rfl rfl (by decide +kernel) ⟨Nat.le_of_ble_eq_true rfl, Nat.le_of_ble_eq_true rfl⟩) (pu_preV (ci := 2) rfl hK hP) rfl rfl hl.1 rfl (lv_room (Nat.le_of_ble_eq_true rfl)) dX1_holds_148 ⟨Nat.le_of_ble_eq_true rfl, Nat.le_of_ble_eq_true rfl⟩) ?_
                  refine lv_goto (tgt := 182) hx hb dX1_holds_151 (by decide) ?_
                  exact rg_e k (by first | rw [if_neg c_9, if_neg c_10, if_neg c_11, if_neg c_12, if_neg c_13, if_pos c_14] | simp only [if_neg c_9, if_neg c_10, if_neg c_11, if_neg c_12, if_neg c_13, if_pos c_14])
              · refine lv_aload_n hx hb dX1_holds_131 rfl (lv_at hl 2 rfl) ?_
                refine lv_sipush (v := 128) hx hb dX1_holds_132 (by decide +kernel) ?_
                refine pu_calli (F := (f_X1_is fl 128)) (va_runV (As := [.int 128]) (rest := []) ⟨hx, hb, hml, hown, hts⟩ (p_X1_is l dC dI h0 _ y_1 fl al 128 (by decide)) (cwV 1 hts gX1_holds_X1_is rfl rfl rfl (by decide +kernel) ⟨Nat.le_of_ble_eq_true rfl, Nat.le_of_ble_eq_true rfl⟩) (pu_preV (ci := 2) rfl hK hP) rfl rfl hl.1 rfl (lv_room (Nat.le_of_ble_eq_true rfl)) dX1_holds_135 ⟨Nat.le_of_ble_eq_true rfl, Nat.le_of_ble_eq_true rfl⟩) ?_
                refine lv_goto (tgt := 182) hx hb dX1_holds_138 (by decide) ?_
                exact rg_e k (by first | rw [if_neg c_9, if_neg c_10, if_neg c_11, if_neg c_12, if_pos c_13] | simp only [if_neg c_9, if_neg c_10, if_neg c_11, if_neg c_12, if_pos c_13])
            · refine lv_aload_n hx hb dX1_holds_101 rfl (lv_at hl 2 rfl) ?_
              refine lv_iconst (v := 1) hx hb dX1_holds_102 (by decide) ?_
              refine pu_calli (F := (f_X1_is fl 1)) (va_runV (As := [.int 1]) (rest := []) ⟨hx, hb, hml, hown, hts⟩ (p_X1_is l dC dI h0 _ y_1 fl al 1 (by decide)) (cwV 1 hts gX1_holds_X1_is rfl rfl rfl (by decide +kernel) ⟨Nat.le_of_ble_eq_true rfl, Nat.le_of_ble_eq_true rfl⟩) (pu_preV (ci := 2) rfl hK hP) rfl rfl hl.1 rfl (lv_room (Nat.le_of_ble_eq_true rfl)) dX1_holds_103 ⟨Nat.le_of_ble_eq_true rfl, Nat.le_of_ble_eq_true rfl⟩) ?_
              refine lv_if_ne (tgt := 118) hx hb dX1_holds_106 (by decide) (fun c_18 => ?_) (fun c_18 => ?_)
              · refine lv_iconst (v := 1) hx hb dX1_holds_118 (by decide) ?_
                refine lv_goto (tgt := 182) hx hb dX1_holds_119 (by decide) ?_
                exact rg_e k (by first | rw [if_neg c_9, if_neg c_10, if_neg c_11, if_pos c_12, if_neg c_18] | simp only [if_neg c_9, if_neg c_10, if_neg c_11, if_pos c_12, if_neg c_18])
              · refine lv_aload_n hx hb dX1_holds_109 rfl (lv_at hl 2 rfl) ?_
                refine lv_bipush (v := 64) hx hb dX1_holds_110 (by decide +kernel) ?_
                refine pu_calli (F := (f_X1_is fl 64)) (va_runV (As := [.int 64]) (rest := []) ⟨hx, hb, hml, hown, hts⟩ (p_X1_is l dC dI h0 _ y_1 fl al 64 (by decide)) (cwV 1 hts gX1_holds_X1_is rfl rfl rfl (by decide +kernel) ⟨Nat.le_of_ble_eq_true rfl, Nat.le_of_ble_eq_true rfl⟩) (pu_preV (ci := 2) rfl hK hP) rfl rfl hl.1 rfl (lv_room (Nat.le_of_ble_eq_true rfl)) dX1_holds_112 ⟨Nat.le_of_ble_eq_true rfl, Nat.le_of_ble_eq_true rfl⟩) ?_
                refine lv_if_eq (tgt := 122) hx hb dX1_holds_115 (by decide) (fun c_19 => ?_) (fun c_19 => ?_)
                · refine lv_iconst (v := 0) hx hb dX1_holds_122 (by decide) ?_
                  refine lv_goto (tgt := 182) hx hb dX1_holds_123 (by decide) ?_
                  exact rg_e k (by first | rw [if_neg c_9, if_neg c_10, if_neg c_11, if_pos c_12, if_pos c_18, if_pos c_19] | simp only [if_neg c_9, if_neg c_10, if_neg c_11, if_pos c_12, if_pos c_18, if_pos c_19])
                · refine lv_iconst (v := 1) hx hb dX1_holds_118 (by decide) ?_
                  refine lv_goto (tgt := 182) hx hb dX1_holds_119 (by decide) ?_
                  exact rg_e k (by first | rw [if_neg c_9, if_neg c_10, if_neg c_11, if_pos c_12, if_pos c_18, if_neg c_19] | simp only [if_neg c_9, if_neg c_10, if_neg c_11, if_pos c_12, if_pos c_18, if_neg c_19])
          · refine lv_aload_n hx hb dX1_holds_87 rfl (lv_at hl 2 rfl) ?_
            refine lv_bipush (v := 64) hx hb dX1_holds_88 (by decide +kernel) ?_
            refine pu_calli (F := (f_X1_is fl 64)) (va_runV (As := [.int 64]) (rest := []) ⟨hx, hb, hml, hown, hts⟩ (p_X1_is l dC dI h0 _ y_1 fl al 64 (by decide)) (cwV 1 hts gX1_holds_X1_is rfl rfl rfl (by decide +kernel) ⟨Nat.le_of_ble_eq_true rfl, Nat.le_of_ble_eq_true rfl⟩) (pu_preV (ci := 2) rfl hK hP) rfl rfl hl.1 rfl (lv_room (Nat.le_of_ble_eq_true rfl)) dX1_holds_90 ⟨Nat.le_of_ble_eq_true rfl, Nat.le_of_ble_eq_true rfl⟩) ?_
            refine lv_goto (tgt := 182) hx hb dX1_holds_93 (by decide) ?_
            exact rg_e k (by first | rw [if_neg c_9, if_neg c_10, if_pos c_11] | simp only [if_neg c_9, if_neg c_10, if_pos c_11])
        · refine lv_aload_n hx hb dX1_holds_74 rfl (lv_at hl 2 rfl) ?_
          refine lv_iconst (v := 1) hx hb dX1_holds_75 (by decide) ?_
          refine pu_calli (F := (f_X1_is fl 1)) (va_runV (As := [.int 1]) (rest := []) ⟨hx, hb, hml, hown, hts⟩ (p_X1_is l dC dI h0 _ y_1 fl al 1 (by decide)) (cwV 1 hts gX1_holds_X1_is rfl rfl rfl (by decide +kernel) ⟨Nat.le_of_ble_eq_true rfl, Nat.le_of_ble_eq_true rfl⟩) (pu_preV (ci := 2) rfl hK hP) rfl rfl hl.1 rfl (lv_room (Nat.le_of_ble_eq_true rfl)) dX1_holds_76 ⟨Nat.le_of_ble_eq_true rfl, Nat.le_of_ble_eq_true rfl⟩) ?_
          refine lv_goto (tgt := 182) hx hb dX1_holds_79 (by decide) ?_
          exact rg_e k (by first | rw [if_neg c_9, if_pos c_10] | simp only [if_neg c_9, if_pos c_10])
      · refine lv_aload_n hx hb dX1_holds_59 rfl (lv_at hl 2 rfl) ?_
        refine lv_sipush (v := 2048) hx hb dX1_holds_60 (by decide +kernel) ?_
        refine pu_calli (F := (f_X1_is fl 2048)) (va_runV (As := [.int 2048]) (rest := []) ⟨hx, hb, hml, hown, hts⟩ (p_X1_is l dC dI h0 _ y_1 fl al 2048 (by decide)) (cwV 1 hts gX1_holds_X1_is rfl rfl rfl (by decide +kernel) ⟨Nat.le_of_ble_eq_true rfl, Nat.le_of_ble_eq_true rfl⟩) (pu_preV (ci := 2) rfl hK hP) rfl rfl hl.1 rfl (lv_room (Nat.le_of_ble_eq_true rfl)) dX1_holds_63 ⟨Nat.le_of_ble_eq_true rfl, Nat.le_of_ble_eq_true rfl⟩) ?_
        refine lv_goto (tgt := 182) hx hb dX1_holds_66 (by decide) ?_
        exact rg_e k (by first | rw [if_pos c_9] | simp only [if_pos c_9])
    refine lv_istore (lv' := [(4, .int y_8), (3, .int y_7), (2, .int y_5), (0, .ref h0), (1, .int a1)]) hx hb dX1_holds_182 hl (by decide) rfl (fun ls hl => ?_)
    refine lv_iload_n hx hb dX1_holds_184 rfl (lv_at hl 4 rfl) ?_
    refine lv_iconst (v := 2) hx hb dX1_holds_185 (by decide) ?_
    refine jr_row hx hb dX1_holds_186 (by decide) ?_
    refine rg (J := 205) (st := []) (if (jr a1 2) = 0 then y_8 else (if y_8 = 0 then 1 else 0)) (fun k => ?_) (fun y_20 ey_20 => ?_)
    · refine lv_if_ne (tgt := 195) hx hb dX1_holds_187 (by decide) (fun c_21 => ?_) (fun c_21 => ?_)
      · refine lv_iload hx hb dX1_holds_195 (lv_at hl 0 rfl) ?_
        refine lv_if_ne (tgt := 204) hx hb dX1_holds_197 (by decide) (fun c_22 => ?_) (fun c_22 => ?_)
        · refine lv_iconst (v := 0) hx hb dX1_holds_204 (by decide) ?_
          exact rg_e k (by first | rw [if_neg c_21, if_neg c_22] | simp only [if_neg c_21, if_neg c_22])
        · refine lv_iconst (v := 1) hx hb dX1_holds_200 (by decide) ?_
          refine lv_goto (tgt := 205) hx hb dX1_holds_201 (by decide) ?_
          exact rg_e k (by first | rw [if_neg c_21, if_pos c_22] | simp only [if_neg c_21, if_pos c_22])
      · refine lv_iload hx hb dX1_holds_190 (lv_at hl 0 rfl) ?_
        refine lv_goto (tgt := 205) hx hb dX1_holds_192 (by decide) ?_
        exact rg_e k (by first | rw [if_pos c_21] | simp only [if_pos c_21])
    exact W.zret (v := y_20) hx hb hr (nb_of (by rw [ey_20]; repeat (first | apply b01_ite | exact Or.inl (by with_reducible rfl) | exact Or.inr (by with_reducible rfl) | rw [ey_8] | rw [ey_5]))) (fun t ht hW => ⟨⟨y_20, y_1, rfl, ⟨(by subst ey_1; subst ey_5; subst ey_7; subst ey_8; subst ey_20; simp only [f_X1_holds, if_pos c_4]), (by subst ey_1; subst ey_5; subst ey_7; subst ey_8; subst ey_20; simp only [f_X1_holds, if_pos c_4])⟩, by rw [ht]; exact hP, va_K.moved hW.alike hK, hD⟩, hS.F ht⟩) hS.2.2 dX1_holds_205
  · refine lv_iconst (v := 0) hx hb dX1_holds_26 (by decide) ?_
    exact W.zret (v := 0) hx hb hr narrow_b0 (fun t ht hW => ⟨⟨0, y_1, rfl, ⟨(by subst ey_1; simp only [f_X1_holds, if_neg c_4]), (by subst ey_1; simp only [f_X1_holds, if_neg c_4])⟩, by rw [ht]; exact hP, va_K.moved hW.alike hK, hD⟩, hS.F ht⟩) hS.2.2 dX1_holds_27
end
