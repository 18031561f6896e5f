section
-- ===== PART A: goes FIRST, ahead of the names: the tables' words, and 'selects' of the private methods out of them =====
/-- a private method of a class that the tables say can be made, by its rows of tables_1 -/
def lw_okq (q : MethodName × Nat) : Prop := (q.1.cls ≠ "java/lang/invoke/MethodHandle" ∧ q.1.cls ≠ "java/lang/invoke/VarHandle") ∧ Cond.instantiable q.1.cls q.2 ∈ tables_1 ∧ Cond.privateMethod q.1 ∈ tables_1 ∧ Cond.instanceMethod q.1 ∈ tables_1
theorem lw_p0 : lw_okq (⟨"Schemabridge", "schemaAt", "(I)LSchemabridge$Schema;"⟩, 11) := ⟨⟨by decide +kernel, by decide +kernel⟩, List.mem_of_getElem? (i := 17) (by decide +kernel), List.mem_of_getElem? (i := 181) (by decide +kernel), List.mem_of_getElem? (i := 182) (by decide +kernel)⟩
theorem lw_p1 : lw_okq (⟨"java/lang/Throwable", "fillInStackTrace", "(I)Ljava/lang/Throwable;"⟩, 6) := ⟨⟨by decide +kernel, by decide +kernel⟩, List.mem_of_getElem? (i := 224) (by decide +kernel), List.mem_of_getElem? (i := 222) (by decide +kernel), List.mem_of_getElem? (i := 223) (by decide +kernel)⟩
theorem lw_p2 : lw_okq (⟨"Schemabridge", "addMessage", "(LSchemabridge$Message;)I"⟩, 11) := ⟨⟨by decide +kernel, by decide +kernel⟩, List.mem_of_getElem? (i := 17) (by decide +kernel), List.mem_of_getElem? (i := 397) (by decide +kernel), List.mem_of_getElem? (i := 398) (by decide +kernel)⟩
theorem lw_p3 : lw_okq (⟨"Schemabridge", "messageAt", "(I)LSchemabridge$Message;"⟩, 11) := ⟨⟨by decide +kernel, by decide +kernel⟩, List.mem_of_getElem? (i := 17) (by decide +kernel), List.mem_of_getElem? (i := 418) (by decide +kernel), List.mem_of_getElem? (i := 419) (by decide +kernel)⟩
theorem lw_p4 : lw_okq (⟨"Schemabridge", "fieldsOf", "(LSchemabridge$Message;)LSchemabridge$Fields;"⟩, 11) := ⟨⟨by decide +kernel, by decide +kernel⟩, List.mem_of_getElem? (i := 17) (by decide +kernel), List.mem_of_getElem? (i := 456) (by decide +kernel), List.mem_of_getElem? (i := 457) (by decide +kernel)⟩
theorem lw_p5 : lw_okq (⟨"Schemabridge", "fieldsIn", "(LSchemabridge$Bytes;II)LSchemabridge$Fields;"⟩, 11) := ⟨⟨by decide +kernel, by decide +kernel⟩, List.mem_of_getElem? (i := 17) (by decide +kernel), List.mem_of_getElem? (i := 460) (by decide +kernel), List.mem_of_getElem? (i := 461) (by decide +kernel)⟩
theorem lw_p6 : lw_okq (⟨"Schemabridge$Fields", "scanField", "()V"⟩, 10) := ⟨⟨by decide +kernel, by decide +kernel⟩, List.mem_of_getElem? (i := 64) (by decide +kernel), List.mem_of_getElem? (i := 468) (by decide +kernel), List.mem_of_getElem? (i := 469) (by decide +kernel)⟩
theorem lw_p7 : lw_okq (⟨"Schemabridge$Fields", "scanGroups", "()I"⟩, 10) := ⟨⟨by decide +kernel, by decide +kernel⟩, List.mem_of_getElem? (i := 64) (by decide +kernel), List.mem_of_getElem? (i := 472) (by decide +kernel), List.mem_of_getElem? (i := 473) (by decide +kernel)⟩
theorem lw_p8 : lw_okq (⟨"Schemabridge$Fields", "scanFour", "()I"⟩, 10) := ⟨⟨by decide +kernel, by decide +kernel⟩, List.mem_of_getElem? (i := 64) (by decide +kernel), List.mem_of_getElem? (i := 481) (by decide +kernel), List.mem_of_getElem? (i := 482) (by decide +kernel)⟩
theorem lw_p9 : lw_okq (⟨"Schemabridge$Fields", "skipBytes", "(I)V"⟩, 10) := ⟨⟨by decide +kernel, by decide +kernel⟩, List.mem_of_getElem? (i := 64) (by decide +kernel), List.mem_of_getElem? (i := 485) (by decide +kernel), List.mem_of_getElem? (i := 486) (by decide +kernel)⟩
theorem lw_p10 : lw_okq (⟨"Schemabridge$Fields", "keepField", "(III)V"⟩, 10) := ⟨⟨by decide +kernel, by decide +kernel⟩, List.mem_of_getElem? (i := 64) (by decide +kernel), List.mem_of_getElem? (i := 489) (by decide +kernel), List.mem_of_getElem? (i := 490) (by decide +kernel)⟩
theorem lw_p11 : lw_okq (⟨"Schemabridge", "removeMessage", "(I)V"⟩, 11) := ⟨⟨by decide +kernel, by decide +kernel⟩, List.mem_of_getElem? (i := 17) (by decide +kernel), List.mem_of_getElem? (i := 497) (by decide +kernel), List.mem_of_getElem? (i := 498) (by decide +kernel)⟩
theorem lw_p12 : lw_okq (⟨"Schemabridge", "draftWithoutKnown", "(LSchemabridge$Fields;LSchemabridge$Schema;I)V"⟩, 11) := ⟨⟨by decide +kernel, by decide +kernel⟩, List.mem_of_getElem? (i := 17) (by decide +kernel), List.mem_of_getElem? (i := 512) (by decide +kernel), List.mem_of_getElem? (i := 513) (by decide +kernel)⟩
theorem lw_p13 : lw_okq (⟨"Schemabridge$Fields", "isPlace", "(I)Z"⟩, 10) := ⟨⟨by decide +kernel, by decide +kernel⟩, List.mem_of_getElem? (i := 64) (by decide +kernel), List.mem_of_getElem? (i := 521) (by decide +kernel), List.mem_of_getElem? (i := 522) (by decide +kernel)⟩
theorem lw_p14 : lw_okq (⟨"Schemabridge$Bytes", "addKey", "(II)V"⟩, 2) := ⟨⟨by decide +kernel, by decide +kernel⟩, List.mem_of_getElem? (i := 29) (by decide +kernel), List.mem_of_getElem? (i := 554) (by decide +kernel), List.mem_of_getElem? (i := 555) (by decide +kernel)⟩
theorem lw_p15 : lw_okq (⟨"Schemabridge$Bytes", "addGroups", "(I)V"⟩, 2) := ⟨⟨by decide +kernel, by decide +kernel⟩, List.mem_of_getElem? (i := 29) (by decide +kernel), List.mem_of_getElem? (i := 558) (by decide +kernel), List.mem_of_getElem? (i := 559) (by decide +kernel)⟩
def lw_privs_1 : List (MethodName × Nat) := [(⟨"Schemabridge", "schemaAt", "(I)LSchemabridge$Schema;"⟩, 11), (⟨"java/lang/Throwable", "fillInStackTrace", "(I)Ljava/lang/Throwable;"⟩, 6), (⟨"Schemabridge", "addMessage", "(LSchemabridge$Message;)I"⟩, 11), (⟨"Schemabridge", "messageAt", "(I)LSchemabridge$Message;"⟩, 11), (⟨"Schemabridge", "fieldsOf", "(LSchemabridge$Message;)LSchemabridge$Fields;"⟩, 11), (⟨"Schemabridge", "fieldsIn", "(LSchemabridge$Bytes;II)LSchemabridge$Fields;"⟩, 11), (⟨"Schemabridge$Fields", "scanField", "()V"⟩, 10), (⟨"Schemabridge$Fields", "scanGroups", "()I"⟩, 10), (⟨"Schemabridge$Fields", "scanFour", "()I"⟩, 10), (⟨"Schemabridge$Fields", "skipBytes", "(I)V"⟩, 10), (⟨"Schemabridge$Fields", "keepField", "(III)V"⟩, 10), (⟨"Schemabridge", "removeMessage", "(I)V"⟩, 11), (⟨"Schemabridge", "draftWithoutKnown", "(LSchemabridge$Fields;LSchemabridge$Schema;I)V"⟩, 11), (⟨"Schemabridge$Fields", "isPlace", "(I)Z"⟩, 10), (⟨"Schemabridge$Bytes", "addKey", "(II)V"⟩, 2), (⟨"Schemabridge$Bytes", "addGroups", "(I)V"⟩, 2)]
theorem lw_r1 : ∀ q ∈ lw_privs_1, lw_okq q := List.forall_mem_cons.mpr ⟨lw_p0, List.forall_mem_cons.mpr ⟨lw_p1, List.forall_mem_cons.mpr ⟨lw_p2, List.forall_mem_cons.mpr ⟨lw_p3, List.forall_mem_cons.mpr ⟨lw_p4, List.forall_mem_cons.mpr ⟨lw_p5, List.forall_mem_cons.mpr ⟨lw_p6, List.forall_mem_cons.mpr ⟨lw_p7, List.forall_mem_cons.mpr ⟨lw_p8, List.forall_mem_cons.mpr ⟨lw_p9, List.forall_mem_cons.mpr ⟨lw_p10, List.forall_mem_cons.mpr ⟨lw_p11, List.forall_mem_cons.mpr ⟨lw_p12, List.forall_mem_cons.mpr ⟨lw_p13, List.forall_mem_cons.mpr ⟨lw_p14, List.forall_mem_cons.mpr ⟨lw_p15, fun _ h => absurd h List.not_mem_nil⟩⟩⟩⟩⟩⟩⟩⟩⟩⟩⟩⟩⟩⟩⟩⟩
theorem lw_p16 : lw_okq (⟨"Schemabridge$Bytes", "addFour", "(I)V"⟩, 2) := ⟨⟨by decide +kernel, by decide +kernel⟩, List.mem_of_getElem? (i := 29) (by decide +kernel), List.mem_of_getElem? (i := 575) (by decide +kernel), List.mem_of_getElem? (i := 576) (by decide +kernel)⟩
theorem lw_p17 : lw_okq (⟨"Schemabridge", "takeDraft", "(LSchemabridge$Message;)V"⟩, 11) := ⟨⟨by decide +kernel, by decide +kernel⟩, List.mem_of_getElem? (i := 17) (by decide +kernel), List.mem_of_getElem? (i := 585) (by decide +kernel), List.mem_of_getElem? (i := 586) (by decide +kernel)⟩
theorem lw_p18 : lw_okq (⟨"Schemabridge$Canon", "noteLasts", "(LSchemabridge$Schema;)V"⟩, 4) := ⟨⟨by decide +kernel, by decide +kernel⟩, List.mem_of_getElem? (i := 104) (by decide +kernel), List.mem_of_getElem? (i := 702) (by decide +kernel), List.mem_of_getElem? (i := 703) (by decide +kernel)⟩
theorem lw_p19 : lw_okq (⟨"Schemabridge$Canon", "isToldBy", "(LSchemabridge$Schema;I)Z"⟩, 4) := ⟨⟨by decide +kernel, by decide +kernel⟩, List.mem_of_getElem? (i := 104) (by decide +kernel), List.mem_of_getElem? (i := 711) (by decide +kernel), List.mem_of_getElem? (i := 712) (by decide +kernel)⟩
theorem lw_p20 : lw_okq (⟨"Schemabridge$Canon", "insert", "(I)V"⟩, 4) := ⟨⟨by decide +kernel, by decide +kernel⟩, List.mem_of_getElem? (i := 104) (by decide +kernel), List.mem_of_getElem? (i := 723) (by decide +kernel), List.mem_of_getElem? (i := 724) (by decide +kernel)⟩
theorem lw_p21 : lw_okq (⟨"Schemabridge$Canon", "placeAt", "(I)I"⟩, 4) := ⟨⟨by decide +kernel, by decide +kernel⟩, List.mem_of_getElem? (i := 104) (by decide +kernel), List.mem_of_getElem? (i := 732) (by decide +kernel), List.mem_of_getElem? (i := 733) (by decide +kernel)⟩
theorem lw_p22 : lw_okq (⟨"Schemabridge", "fieldsOfTape", "()LSchemabridge$Fields;"⟩, 11) := ⟨⟨by decide +kernel, by decide +kernel⟩, List.mem_of_getElem? (i := 17) (by decide +kernel), List.mem_of_getElem? (i := 797) (by decide +kernel), List.mem_of_getElem? (i := 798) (by decide +kernel)⟩
theorem lw_p23 : lw_okq (⟨"Schemabridge$PairSearch", "forgetPairs", "()V"⟩, 4) := ⟨⟨by decide +kernel, by decide +kernel⟩, List.mem_of_getElem? (i := 43) (by decide +kernel), List.mem_of_getElem? (i := 876) (by decide +kernel), List.mem_of_getElem? (i := 877) (by decide +kernel)⟩
theorem lw_p24 : lw_okq (⟨"Schemabridge$PairSearch", "notePair", "(LSchemabridge$Schema;LSchemabridge$Schema;)V"⟩, 4) := ⟨⟨by decide +kernel, by decide +kernel⟩, List.mem_of_getElem? (i := 43) (by decide +kernel), List.mem_of_getElem? (i := 880) (by decide +kernel), List.mem_of_getElem? (i := 881) (by decide +kernel)⟩
theorem lw_p25 : lw_okq (⟨"Schemabridge$PairSearch", "leadsToDifference", "(LSchemabridge$Schema;LSchemabridge$Schema;I)Z"⟩, 4) := ⟨⟨by decide +kernel, by decide +kernel⟩, List.mem_of_getElem? (i := 43) (by decide +kernel), List.mem_of_getElem? (i := 888) (by decide +kernel), List.mem_of_getElem? (i := 889) (by decide +kernel)⟩
theorem lw_p26 : lw_okq (⟨"Schemabridge$PairSearch", "notePartsAt", "(LSchemabridge$Schema;LSchemabridge$Schema;I)V"⟩, 4) := ⟨⟨by decide +kernel, by decide +kernel⟩, List.mem_of_getElem? (i := 43) (by decide +kernel), List.mem_of_getElem? (i := 892) (by decide +kernel), List.mem_of_getElem? (i := 893) (by decide +kernel)⟩
theorem lw_p27 : lw_okq (⟨"Schemabridge$PairSearch", "differsSomewhere", "(LSchemabridge$Schema;LSchemabridge$Schema;)Z"⟩, 4) := ⟨⟨by decide +kernel, by decide +kernel⟩, List.mem_of_getElem? (i := 43) (by decide +kernel), List.mem_of_getElem? (i := 897) (by decide +kernel), List.mem_of_getElem? (i := 898) (by decide +kernel)⟩
theorem lw_p28 : lw_okq (⟨"Schemabridge", "chooseBoth", "(LSchemabridge$Message;LSchemabridge$Message;)V"⟩, 11) := ⟨⟨by decide +kernel, by decide +kernel⟩, List.mem_of_getElem? (i := 17) (by decide +kernel), List.mem_of_getElem? (i := 905) (by decide +kernel), List.mem_of_getElem? (i := 906) (by decide +kernel)⟩
def lw_privs_2 : List (MethodName × Nat) := [(⟨"Schemabridge$Bytes", "addFour", "(I)V"⟩, 2), (⟨"Schemabridge", "takeDraft", "(LSchemabridge$Message;)V"⟩, 11), (⟨"Schemabridge$Canon", "noteLasts", "(LSchemabridge$Schema;)V"⟩, 4), (⟨"Schemabridge$Canon", "isToldBy", "(LSchemabridge$Schema;I)Z"⟩, 4), (⟨"Schemabridge$Canon", "insert", "(I)V"⟩, 4), (⟨"Schemabridge$Canon", "placeAt", "(I)I"⟩, 4), (⟨"Schemabridge", "fieldsOfTape", "()LSchemabridge$Fields;"⟩, 11), (⟨"Schemabridge$PairSearch", "forgetPairs", "()V"⟩, 4), (⟨"Schemabridge$PairSearch", "notePair", "(LSchemabridge$Schema;LSchemabridge$Schema;)V"⟩, 4), (⟨"Schemabridge$PairSearch", "leadsToDifference", "(LSchemabridge$Schema;LSchemabridge$Schema;I)Z"⟩, 4), (⟨"Schemabridge$PairSearch", "notePartsAt", "(LSchemabridge$Schema;LSchemabridge$Schema;I)V"⟩, 4), (⟨"Schemabridge$PairSearch", "differsSomewhere", "(LSchemabridge$Schema;LSchemabridge$Schema;)Z"⟩, 4), (⟨"Schemabridge", "chooseBoth", "(LSchemabridge$Message;LSchemabridge$Message;)V"⟩, 11)]
theorem lw_r2 : ∀ q ∈ lw_privs_2, lw_okq q := List.forall_mem_cons.mpr ⟨lw_p16, List.forall_mem_cons.mpr ⟨lw_p17, List.forall_mem_cons.mpr ⟨lw_p18, List.forall_mem_cons.mpr ⟨lw_p19, List.forall_mem_cons.mpr ⟨lw_p20, List.forall_mem_cons.mpr ⟨lw_p21, List.forall_mem_cons.mpr ⟨lw_p22, List.forall_mem_cons.mpr ⟨lw_p23, List.forall_mem_cons.mpr ⟨lw_p24, List.forall_mem_cons.mpr ⟨lw_p25, List.forall_mem_cons.mpr ⟨lw_p26, List.forall_mem_cons.mpr ⟨lw_p27, List.forall_mem_cons.mpr ⟨lw_p28, fun _ h => absurd h List.not_mem_nil⟩⟩⟩⟩⟩⟩⟩⟩⟩⟩⟩⟩⟩
def lw_privs : List (MethodName × Nat) := lw_privs_1 ++ (lw_privs_2)
def lw_tbl : List Cond := k2_sels lw_privs ++ tables_1
theorem lw_privs_ok : ∀ q ∈ lw_privs, lw_okq q := by
  show ∀ q ∈ lw_privs_1 ++ (lw_privs_2), lw_okq q
  exact List.forall_mem_append.mpr ⟨lw_r1, lw_r2⟩
-- ===== end of PART A; then your names; then what follows =====
end
section
/-! ===== BEGIN words of one list among another's, by their places ===== -/
theorem goodIn_r {big : List Cond} (ws : List Cond) (ps : List Nat) (hp : ws = ps.filterMap (fun i => big[i]?)) (h : ws.all goodWord = true) : GoodIn big ws := by
  intro w hw
  have h1 := List.all_eq_true.mp h w hw
  rw [hp] at hw
  obtain ⟨i, -, hi⟩ := List.mem_filterMap.mp hw
  have hm : w ∈ big := by first | exact List.mem_of_getElem? hi | exact List.getElem?_mem hi
  exact ⟨hm, good_of_word h1⟩
theorem goodIn_app {big a b : List Cond} (ha : GoodIn big a) (hb : GoodIn big b) : GoodIn big (a ++ b) := fun w h => (List.mem_append.mp h).elim (ha w) (hb w)
theorem goodIn_ca {big a b : List Cond} {c : Cond} (ha : GoodIn big (c :: a)) (hb : GoodIn big b) : GoodIn big (c :: (a ++ b)) := fun w h => (List.mem_cons.mp h).elim (fun e => ha w (List.mem_cons.mpr (Or.inl e))) (fun h => (List.mem_append.mp h).elim (fun h => ha w (List.mem_cons.mpr (Or.inr h))) (hb w))
theorem goodIn_sub {big ws : List Cond} (hm : ∀ w ∈ ws, w ∈ big) (h : ws.all goodWord = true) : GoodIn big ws := fun w hw => ⟨hm w hw, good_of_word (List.all_eq_true.mp h w hw)⟩
/-! ===== END ===== -/
/-! ===== BEGIN exceptions that leave a method, and their catching by the caller (launches without stack traces) ===== -/
section VXA
/-! The laws vx_back, vx_callV, vx_callS, vx_callSW, vx_throw0, vx_throwS follow proofs of the library, with one case more: JvmDerived/Free/Laws.lean (Back.of_free), Shelf42/LK1.lean (callV, callS), Shelf/KitTraced.lean (throwNew0V, throwNewS). -/
/-- where a method has thrown q: the class by its name, the cell, what was written, the world -/
def vx_T (XC : String → State → State → Prop) (st : State) (q : Addr) (t : State) (mc ms : Nat) (free : Addr → Prop) : Prop :=
  ∃ (E : String) (ce : Cell) (L : List Loc), XC E st t ∧ t.heap[q]? = some ce ∧ ce.vm = .none ∧ st.vm.findClass E = some ce.cls ∧ st.WarmedH t.vm ∧ st.sameButNew ({ t with vm := st.vm } : State) L mc ms ∧ ∀ z ∈ L, free z.base
def vx_Q (Qc : Array Value → State → Outcome → State → Prop) (XC : String → State → State → Prop) (mc ms : Nat) (free : Addr → Prop) : Array Value → State → Outcome → State → Prop := fun a st o t =>
  (Qc a st o t ∧ ∃ L, FrameEnd st o t L mc ms ∧ ∀ q ∈ L, free q.base) ∨ ∃ q, o = .threw q ∧ vx_T XC st q t mc ms free
/-- a callee that returns or throws -/
def vx_Met (l : Launch) (y : MethodName) (ws : List Cond) (rm : Room) (Pc : Array Value → State → Prop) (Qc : Array Value → State → Outcome → State → Prop) (XC : String → State → State → Prop) (mc ms : Nat) (free : Addr → Prop) : Prop :=
  MetFree l y (headSpec ws rm) Pc (fun _ _ _ _ _ => True) (vx_Q Qc XC mc ms free)
def vx_Post (XC : String → State → State → Prop) (mc ms : Nat) (free : Addr → Prop) : Pt → Array Value → Addr → Pt → Prop := fun A a q B =>
  ∃ (g : JFrame) (mk : MethodId) (t : State) (L : List Loc) (E : String) (ce : Cell), B.U.heap = t.heap ∧ B.U.vm = t.vm ∧ XC E (A.U.calling g mk a) t ∧ t.heap[q]? = some ce ∧ ce.vm = .none ∧ A.U.vm.findClass E = some ce.cls ∧ B.locs = A.locs ++ L ∧ (∀ z ∈ L, free z.base) ∧ B.cells = A.cells + mc ∧ B.slots = A.slots + ms
def vx_Back (l : Launch) (R : Room) (p : Program) (e : Env) (below : List Frame) (s : State) (sargs : Array Value) (y : MethodName) (len W9 : Nat)
    (Pre : Pt → Array Value → Prop) (Post : Pt → Array Value → Option Value → Pt → Prop) (PostX : Pt → Array Value → Addr → Pt → Prop) : Prop :=
  ∀ (m : MethodId) (meth : Method) (c : Code) (A : Pt) (g : JFrame) (ig : Instr) (mk : MethodId) (a : Array Value),
    Stand p l e R s m sargs below meth c A.U A.locs A.cells A.slots → g.method = m → g.locals.size = c.maxLocals → decode c.code g.pc = .ok (ig, len) →
    2 * g.monitorRoom + (g.stack.map fun v => v.category).sum ≤ W9 → A.U.methodNamed? y = some mk → Pre A a →
    (∃ (v : Option Value) (B : Pt), Stand p l e R s m sargs below meth c B.U B.locs B.cells B.slots ∧ Post A a v B ∧
      Steps p.tables e below (doInvoke e (A.U.setTop g) [] mk a).1 (B.U.setTop { g with pc := g.pc + len, stack := v.toList ++ g.stack })) ∨
    (∃ (q : Addr) (B : Pt), Stand p l e R s m sargs below meth c B.U B.locs B.cells B.slots ∧ PostX A a q B ∧
      Steps p.tables e below (doInvoke e (A.U.setTop g) [] mk a).1 ((B.U.setTop g).pushFrame (.throwing q)))
section Payer
variable {l : Launch} {R : Room} {p : Program} {e : Env} {below : List Frame} {s : State} {sargs : Array Value} {y : MethodName} {len W9 : Nat}
theorem vx_back {ws : List Cond} {rm : Room} {Pc : Array Value → State → Prop} {Qc : Array Value → State → Outcome → State → Prop} {XC : String → State → State → Prop} {mc ms : Nat} {free : Addr → Prop} {bytes : ByteArray} {maxL : Nat} {ret : Option FieldType}
    (hM : vx_Met l y ws rm Pc Qc XC mc ms free) (hblind : FrameBlind Pc) (hrc : rm.cells = mc) (hrs : rm.slots = ms)
    (hframes : rm.frames + 1 ≤ R.frames) (hlocals : W9 + (maxL + 11) + rm.locals ≤ R.locals)
    (hws : ∀ w ∈ ws, ∀ a' U, s.WarmedH U.vm → w.before a' U = true) (hcode : Cond.code y bytes maxL ret ∈ ws) (hinit : ∀ a' U, s.WarmedH U.vm → (Cond.initialized y.cls).before a' U = true) :
    vx_Back l R p e below s sargs y len W9 (PreOf R mc ms Pc) (PostOf Qc mc ms free) (vx_Post XC mc ms free) := by
  intro m meth c A g ig mk a X hg hsize hdg hW hn hp
  have h1 : (headSpec ws rm).pre.before a A.U = true := atoms_intro fun w hw => hws w hw _ _ X.warmed
  have h2 : (Cond.code y bytes maxL ret).before a A.U = true := hws _ hcode _ _ X.warmed
  have h3 : (Cond.initialized y.cls).before a A.U = true := hinit _ _ X.warmed
  have h4 : A.cells + (headSpec ws rm).room.cells ≤ R.cells := by rw [show (headSpec ws rm).room.cells = mc from hrc]; exact hp.1
  have h5 : A.slots + (headSpec ws rm).room.slots ≤ R.slots := by rw [show (headSpec ws rm).room.slots = ms from hrs]; exact hp.2.1
  have hPc : Pc a (A.U.calling g mk a) := hblind _ _ _ _ hp.2.2
  obtain ⟨U, Ls, c0, s0⟩ := A
  dsimp only [Pt.U, Pt.locs, Pt.cells, Pt.slots] at h1 h2 h3 h4 h5 X hn hPc ⊢
  obtain ⟨methY, cY, hmY, hcY, -, hlY, -, -, -, -⟩ := Cond.code_spec hn h2
  obtain ⟨kY, hkY, -⟩ := className_of_methodNamed hn
  have hinitY : kY.init = .initialized := Cond.initialized_spec (findClass_of_methodNamed hn) hkY h3
  have h : At U g.method c below := by rw [hg]; exact X.here
  have hlocals9 : W9 + (maxL + 11) + (headSpec ws rm).room.locals ≤ R.locals := hlocals
  have happ : (headSpec ws rm).appliesLoose y e.platform (U.calling g mk a) = true :=
    Spec.appliesLoose_calling (g := g) h hdg hn hkY hinitY
      (X.room_calling (g := g) (R' := (headSpec ws rm).room) hsize hmY hcY hframes (by rw [hlY]; omega) h4 h5) h1
  obtain ⟨mid, hmid⟩ := h.above
  have hfr : (U.setTop g).frames = (.java g :: mid) ++ below := by rw [State.frames_setTop' g h.top, hmid]; rfl
  obtain ⟨o, s₂, hsteps, -, hend, hq⟩ := Steps.callFree hM p X.admits X.cas X.clock (acts := []) hfr happ hPc trivial
  have hq' : vx_Q Qc XC mc ms free a (U.calling g mk a) o s₂ := hq
  rw [State.frames_setTop' g h.top] at hend
  obtain ⟨g₀, hg0⟩ := Option.isSome_iff_exists.mp h.top
  obtain ⟨r, hr⟩ := State.topJava?_eq_some.mp hg0
  have hr' : (({ U with heap := s₂.heap, slotsUsed := s₂.slotsUsed } : State).setVm s₂.vm).frames = .java g₀ :: r := hr
  rcases hq' with ⟨hqc, L, hfe, hL⟩ | ⟨q, rfl, E, ce, L, hx, hce, hcv, hcl, hW₂, hsm, hL⟩
  · obtain ⟨⟨v, rfl⟩, hW₂, e2, q2, q3, q4, q5, q6⟩ := id hfe
    have e3 : s₂ = ({ (U.calling g mk a).setFrames s₂.frames with heap := s₂.heap, slotsUsed := s₂.slotsUsed } : State).setVm s₂.vm := by
      have : s₂ = ({ s₂ with vm := (U.calling g mk a).vm } : State).setVm s₂.vm := rfl
      rw [e2] at this
      exact this
    obtain ⟨c₂, i₂, len₂, hc₂, hd₂, hf₂⟩ := hend
    have hW' : U.WarmedH s₂.vm := hW₂
    have hcc : c₂ = c := by
      have h1 : s₂.code? g.method = U.code? g.method := by
        rw [State.code?_eq, State.code?_eq, hW'.alike.method?]
      exact Option.some.inj (hc₂.symm.trans (h1.trans h.code))
    subst hcc
    have hlen : len₂ = len := by rw [hdg] at hd₂; cases hd₂; rfl
    subst hlen
    have hs₂ : s₂ = (({ U with heap := s₂.heap, slotsUsed := s₂.slotsUsed } : State).setVm s₂.vm).setTop { g with pc := g.pc + len₂, stack := v.toList ++ g.stack } := by
      refine e3.trans ?_
      rw [hf₂, State.calling_eq h.top, State.setFrames_setFrames, State.setTop_of_frames _ hr', hr]
      rfl
    have hsame : U.sameButNew ({ U with heap := s₂.heap, slotsUsed := s₂.slotsUsed } : State) L mc ms := by
      refine ⟨?_, q2, q3, q4, q5, q6⟩
      obtain ⟨t, ht, -⟩ := State.frames_cons hr
      show ({ U with heap := s₂.heap, slotsUsed := s₂.slotsUsed } : State) = { U.setFrames U.frames with heap := s₂.heap, slotsUsed := s₂.slotsUsed }
      rw [State.setFrames_self ht]
    subst hg
    refine Or.inl ⟨v, ⟨(({ U with heap := s₂.heap, slotsUsed := s₂.slotsUsed } : State).setVm s₂.vm), Ls ++ L, c0 + mc, s0 + ms⟩,
      ⟨X.admits, X.cas, X.clock, X.frames, X.room, X.hears, X.method, X.code, (X.here.setHeapUsed s₂.heap s₂.slotsUsed).setVm hW'.alike, X.tail, State.WarmedH.trans X.warmed hW', X.limits, X.bytes, X.same.trans (hsame.setVm s.vm)⟩,
      ⟨g, mk, s₂, L, rfl, rfl, hqc, rfl, hL, rfl, rfl⟩, ?_⟩
    show Steps p.tables e below _ ((({ U with heap := s₂.heap, slotsUsed := s₂.slotsUsed } : State).setVm s₂.vm).setTop { g with pc := g.pc + len₂, stack := v.toList ++ g.stack })
    rw [← hs₂]
    exact hsteps
  · obtain ⟨e2, q2, q3, q4, q5, q6⟩ := id hsm
    have e3 : s₂ = ({ (U.calling g mk a).setFrames s₂.frames with heap := s₂.heap, slotsUsed := s₂.slotsUsed } : State).setVm s₂.vm := by
      have : s₂ = ({ s₂ with vm := (U.calling g mk a).vm } : State).setVm s₂.vm := rfl
      rw [e2] at this
      exact this
    have hf₂ : s₂.frames = .throwing q :: .java g :: U.frames.tail := hend
    have hW' : U.WarmedH s₂.vm := hW₂
    have hs₂ : s₂ = ((({ U with heap := s₂.heap, slotsUsed := s₂.slotsUsed } : State).setVm s₂.vm).setTop g).pushFrame (.throwing q) := by
      refine e3.trans ?_
      rw [hf₂, State.calling_eq h.top, State.setFrames_setFrames, State.pushFrame, State.frames_setTop _ hr', State.setTop_of_frames _ hr', State.setFrames_setFrames, hr]
      rfl
    have hsame : U.sameButNew ({ U with heap := s₂.heap, slotsUsed := s₂.slotsUsed } : State) L mc ms := by
      refine ⟨?_, q2, q3, q4, q5, q6⟩
      obtain ⟨t, ht, -⟩ := State.frames_cons hr
      show ({ U with heap := s₂.heap, slotsUsed := s₂.slotsUsed } : State) = { U.setFrames U.frames with heap := s₂.heap, slotsUsed := s₂.slotsUsed }
      rw [State.setFrames_self ht]
    subst hg
    refine Or.inr ⟨q, ⟨(({ U with heap := s₂.heap, slotsUsed := s₂.slotsUsed } : State).setVm s₂.vm), Ls ++ L, c0 + mc, s0 + ms⟩,
      ⟨X.admits, X.cas, X.clock, X.frames, X.room, X.hears, X.method, X.code, (X.here.setHeapUsed s₂.heap s₂.slotsUsed).setVm hW'.alike, X.tail, State.WarmedH.trans X.warmed hW', X.limits, X.bytes, X.same.trans (hsame.setVm s.vm)⟩,
      ⟨g, mk, s₂, L, E, ce, rfl, rfl, hx, hce, hcv, hcl, rfl, hL, rfl, rfl⟩, ?_⟩
    show Steps p.tables e below _ (((({ U with heap := s₂.heap, slotsUsed := s₂.slotsUsed } : State).setVm s₂.vm).setTop g).pushFrame (.throwing q))
    rw [← hs₂]
    exact hsteps
end Payer
section Calls
variable {p : Program} {l : Launch} {e : Env} {R : Room} {s : State} {m : MethodId} {args : Array Value} {below : List Frame} {meth : Method} {c : Code} {T : State} {locs : List Loc} {cells slots : Nat}
theorem vx_callV (X : Stand p l e R s m args below meth c T locs cells slots) (hexec : p.tables.exec = Jvm.exec) {own C : String} {index : Nat} {y : MethodName} {bytes : ByteArray} {maxL : Nat} {ret : Option FieldType}
    (hown : s.vm.findClass own = some m.cls) (hlink : (Cond.methodLink own index y).before args s = true) (hinst : (Cond.instanceMethod y).before args s = true) (hsel : (Cond.selects C y y).before args s = true)
    (hcode : (Cond.code y bytes maxL ret).before args s = true) (hy : y.cls ≠ "java/lang/invoke/MethodHandle" ∧ y.cls ≠ "java/lang/invoke/VarHandle")
    {W9 : Nat} {Pre : Pt → Array Value → Prop} {Post : Pt → Array Value → Option Value → Pt → Prop} {PostX : Pt → Array Value → Addr → Pt → Prop} (hK : vx_Back l R p e below s args y 3 W9 Pre Post PostX)
    {b : Addr} {cellB : Cell} (hcell : T.heap[b]? = some cellB) (hobj : cellB.vm.isStatics = false) (hcls : s.vm.findClass C = some cellB.cls)
    {g : JFrame} (hg : g.method = m) (hsize : g.locals.size = c.maxLocals) {argsL rest : List Value} (hlen : ∀ sig, parseMethodDescriptor y.desc = some sig → argsL.length = sig.parameters.length)
    (hstack : g.stack = argsL.reverse ++ .ref b :: rest) (hW : 2 * g.monitorRoom + (rest.map fun v => v.category).sum ≤ W9) (hdg : decode c.code g.pc = .ok (.invokevirtual index, 3))
    (hpre : ∀ vm₁, s.WarmedH vm₁ → Pre ⟨T.setVm vm₁, locs, cells, slots⟩ (Value.ref b :: argsL).toArray) :
    (∃ (v : Option Value) (vm₁ : Vm) (B : Pt), s.WarmedH vm₁ ∧ Stand p l e R s m args below meth c B.U B.locs B.cells B.slots ∧ Post ⟨T.setVm vm₁, locs, cells, slots⟩ (Value.ref b :: argsL).toArray v B ∧
      ∀ target, Steps p.tables e below (B.U.setTop { g with pc := g.pc + 3, stack := v.toList ++ rest }) target → Steps p.tables e below (T.setTop g) target) ∨
    (∃ (q : Addr) (vm₁ : Vm) (B : Pt), s.WarmedH vm₁ ∧ Stand p l e R s m args below meth c B.U B.locs B.cells B.slots ∧ PostX ⟨T.setVm vm₁, locs, cells, slots⟩ (Value.ref b :: argsL).toArray q B ∧
      Steps p.tables e below (T.setTop g) ((B.U.setTop { g with stack := rest }).pushFrame (.throwing q))) := by
  obtain ⟨mk, methM, hnamed, hmethM, hstM, habM⟩ := Cond.instanceMethod_spec hinst
  obtain ⟨methM', cM, hmethM', -, -, -, -, -, -, hsigM⟩ := Cond.code_spec hnamed hcode
  cases hmethM.symm.trans hmethM'
  obtain ⟨c2, r2, m2, q1, q2, q3, q4, kP, hkP, hkPi⟩ := Cond.selects_spec hsel
  cases hcls.symm.trans q1
  cases (State.methodFound?_of_named hnamed hy).symm.trans q2
  cases hnamed.symm.trans q3
  have hselP : selectMethod e.platform s.vm cellB.cls mk = .method mk := by rw [Launch.admits_selectMethod X.admits]; exact q4
  obtain ⟨vm₁, X₁, hstep₁⟩ := X.invokevirtual hexec hown hlink hnamed hmethM hstM hkP hkPi hy (a := b) (cell := cellB) hcell
    (fun z h => by rw [h] at hobj; cases hobj) hselP hmethM habM hkP hkPi (g := g) hg (argsL := argsL) (rest := rest) (hlen _ hsigM) hstack hdg
  rcases hK m meth c ⟨T.setVm vm₁, locs, cells, slots⟩ { g with stack := rest } (.invokevirtual index) mk (Value.ref b :: argsL).toArray X₁ hg hsize hdg hW (X₁.named hnamed) (hpre vm₁ X₁.warmed) with ⟨v, B, X', hpost, hsteps⟩ | ⟨q, B, X', hpost, hsteps⟩
  · exact Or.inl ⟨v, vm₁, B, X₁.warmed, X', hpost, fun target h => hstep₁ _ fun acts => by rw [doInvoke_state]; exact hsteps.trans h⟩
  · exact Or.inr ⟨q, vm₁, B, X₁.warmed, X', hpost, hstep₁ _ fun acts => by rw [doInvoke_state]; exact hsteps⟩
theorem vx_callS (X : Stand p l e R s m args below meth c T locs cells slots) (hexec : p.tables.exec = Jvm.exec) {own : String} {index : Nat} {y : MethodName} {bytes : ByteArray} {maxL : Nat} {ret : Option FieldType}
    (hown : s.vm.findClass own = some m.cls) (hlink : (Cond.methodLink own index y).before args s = true) (hstat : (Cond.static y).before args s = true) (hinit : (Cond.initialized y.cls).before args s = true)
    (hcode : (Cond.code y bytes maxL ret).before args s = true) (hy : y.cls ≠ "java/lang/invoke/MethodHandle" ∧ y.cls ≠ "java/lang/invoke/VarHandle")
    {W9 : Nat} {Pre : Pt → Array Value → Prop} {Post : Pt → Array Value → Option Value → Pt → Prop} {PostX : Pt → Array Value → Addr → Pt → Prop} (hK : vx_Back l R p e below s args y 3 W9 Pre Post PostX)
    {g : JFrame} (hg : g.method = m) (hsize : g.locals.size = c.maxLocals) {argsL rest : List Value} (hlen : ∀ sig, parseMethodDescriptor y.desc = some sig → argsL.length = sig.parameters.length)
    (hstack : g.stack = argsL.reverse ++ rest) (hW : 2 * g.monitorRoom + (rest.map fun v => v.category).sum ≤ W9) (hdg : decode c.code g.pc = .ok (.invokestatic index, 3))
    (hpre : ∀ vm₁, s.WarmedH vm₁ → Pre ⟨T.setVm vm₁, locs, cells, slots⟩ argsL.toArray) :
    (∃ (v : Option Value) (vm₁ : Vm) (B : Pt), s.WarmedH vm₁ ∧ Stand p l e R s m args below meth c B.U B.locs B.cells B.slots ∧ Post ⟨T.setVm vm₁, locs, cells, slots⟩ argsL.toArray v B ∧
      ∀ target, Steps p.tables e below (B.U.setTop { g with pc := g.pc + 3, stack := v.toList ++ rest }) target → Steps p.tables e below (T.setTop g) target) ∨
    (∃ (q : Addr) (vm₁ : Vm) (B : Pt), s.WarmedH vm₁ ∧ Stand p l e R s m args below meth c B.U B.locs B.cells B.slots ∧ PostX ⟨T.setVm vm₁, locs, cells, slots⟩ argsL.toArray q B ∧
      Steps p.tables e below (T.setTop g) ((B.U.setTop { g with stack := rest }).pushFrame (.throwing q))) := by
  obtain ⟨mk, hnamed⟩ := Cond.code_named hcode
  obtain ⟨methM, cM, hmethM, -, -, -, -, -, -, hsigM⟩ := Cond.code_spec hnamed hcode
  have hstatic : methM.isStatic = true := Cond.static_spec hnamed hmethM hstat
  obtain ⟨kP, hkP, -⟩ := className_of_methodNamed hnamed
  have hinitP : kP.init = .initialized := Cond.initialized_spec (findClass_of_methodNamed hnamed) hkP hinit
  obtain ⟨vm₁, X₁, hstep₁⟩ := X.invokestatic hexec hown hlink hnamed hmethM hstatic hkP hinitP hy (g := g) hg (argsL := argsL) (rest := rest) (hlen _ hsigM) hstack hdg
  rcases hK m meth c ⟨T.setVm vm₁, locs, cells, slots⟩ { g with stack := rest } (.invokestatic index) mk argsL.toArray X₁ hg hsize hdg hW (X₁.named hnamed) (hpre vm₁ X₁.warmed) with ⟨v, B, X', hpost, hsteps⟩ | ⟨q, B, X', hpost, hsteps⟩
  · exact Or.inl ⟨v, vm₁, B, X₁.warmed, X', hpost, fun target h => hstep₁ _ fun acts => by rw [doInvoke_state]; exact hsteps.trans h⟩
  · exact Or.inr ⟨q, vm₁, B, X₁.warmed, X', hpost, hstep₁ _ fun acts => by rw [doInvoke_state]; exact hsteps⟩
end Calls
theorem vx_cls {s : State} {T : State} {vm₁ : Vm} {E : String} {k : ClassId} (hW : s.WarmedH vm₁) (h : (T.setVm vm₁).vm.findClass E = some k) : s.vm.findClass E = some k := by
  have h1 : vm₁.findClass E = some k := h
  rw [hW.alike.findClass] at h1
  exact h1
/-- the method's frame g, with q thrown over it -/
def vx_W (p : Program) (l : Launch) (e : Env) (R : Room) (s : State) (m : MethodId) (args : Array Value) (below : List Frame) (meth : Method) (c : Code) (H : Heap) (locs : List Loc) (cells slots : Nat) (Q : State → Prop) (g : JFrame) (q : Addr) : Prop :=
  ∀ T : State, T.heap = H → Stand p l e R s m args below meth c T locs cells slots → ∃ t, Steps p.tables e below ((T.setTop g).pushFrame (.throwing q)) t ∧ Q t
def vx_Run (p : Program) (l : Launch) (e : Env) (R : Room) (s : State) (m : MethodId) (args : Array Value) (below : List Frame) (meth : Method) (c : Code) (H : Heap) (locs : List Loc) (cells slots mc ms : Nat) (g : JFrame) (rest : List Value) (Qa : State → Outcome → State → Prop) (XC : String → State → State → Prop) (free : Addr → Prop) : Prop :=
  ∀ T : State, T.heap = H → Stand p l e R s m args below meth c T locs cells slots →
    (∃ (v : Option Value) (st₀ t T' : State) (L : List Loc), st₀.heap = H ∧ Stand p l e R s m args below meth c T' (locs ++ L) (cells + mc) (slots + ms) ∧ (∀ q ∈ L, free q.base) ∧ T'.heap = t.heap ∧ T'.vm = t.vm ∧ Qa st₀ (.returned v) t ∧
      Goes p e below T g T' { g with pc := g.pc + 3, stack := v.toList ++ rest }) ∨
    (∃ (q : Addr) (st₀ t T' : State) (L : List Loc) (E : String) (ce : Cell), st₀.heap = H ∧ Stand p l e R s m args below meth c T' (locs ++ L) (cells + mc) (slots + ms) ∧ (∀ z ∈ L, free z.base) ∧ T'.heap = t.heap ∧ T'.vm = t.vm ∧ XC E st₀ t ∧ t.heap[q]? = some ce ∧ ce.vm = .none ∧ s.vm.findClass E = some ce.cls ∧
      Steps p.tables e below (T.setTop g) ((T'.setTop { g with stack := rest }).pushFrame (.throwing q)))
def vx_X {S : Type} (px : S → Prop) (B : String → S → State → Prop) (A : Nat → Prop) : String → State → State → Prop := fun E st t => ∃ u : S, px u ∧ B E u t ∧ va_F A st t
section Runs
variable {p : Program} {l : Launch} {e : Env} {R : Room} {s : State} {m : MethodId} {args : Array Value} {below : List Frame} {meth : Method} {c : Code} {H : Heap} {locs : List Loc} {cells slots : Nat}
variable {y : MethodName} {bytes cc : ByteArray} {maxL nL mc ms n index : Nat} {ret : Option FieldType} {ws : List Cond} {rm : Room} {Pc : Array Value → State → Prop} {Qc : Array Value → State → Outcome → State → Prop} {XC : String → State → State → Prop} {free : Addr → Prop} {Ts : List Cond} {own C : String} {b : Addr} {As rest : List Value} {g : JFrame}
theorem vx_callBack (cb : CallB R s args own index y bytes maxL ret ws rm mc ms n) (hM : vx_Met l y ws rm Pc Qc XC mc ms free) (hbl : FrameBlind Pc) : vx_Back l R p e below s args y 3 8 (PreOf R mc ms Pc) (PostOf Qc mc ms free) (vx_Post XC mc ms free) := by
  obtain ⟨hrc, hrs, hfr, hlo, hws, hcw, -, hini, -⟩ := cb
  exact vx_back (bytes := bytes) (maxL := maxL) (ret := ret) hM hbl hrc hrs hfr hlo hws hcw (fun a' U hW => word_at hW (Or.inl (by first | rfl | simp [Cond.onTables, Cond.keeps, Cond.steady])) hini)
theorem vx_runV (S : CallFix p m c cc nL s args Ts own) (hM : vx_Met l y ws rm Pc Qc XC mc ms free) (cw : CallW R s args own C index y bytes maxL ret ws rm mc ms n) (hp : PreV s H C b Pc As)
    (hg : g.method = m) (hn : As.length = n) (hsize : g.locals.size = nL) (hstack : g.stack = As.reverse ++ .ref b :: rest) (hW : 2 * g.monitorRoom + (rest.map fun v => v.category).sum ≤ 8) (hdg : decode cc g.pc = .ok (.invokevirtual index, 3)) (hf : cells + mc ≤ R.cells ∧ slots + ms ≤ R.slots) :
    vx_Run p l e R s m args below meth c H locs cells slots mc ms g rest (Qc (Value.ref b :: As).toArray) XC free := by
  have hK : vx_Back l R p e below s args y 3 8 (PreOf R mc ms Pc) (PostOf Qc mc ms free) (vx_Post XC mc ms free) := vx_callBack cw.1 hM hp.1
  obtain ⟨⟨-, -, -, -, -, -, hcode, -, hy, hlen, hl⟩, hin, hse⟩ := cw
  obtain ⟨hx, hb, hml, ho, -⟩ := S
  obtain ⟨-, ⟨cellB, hcB, hoB, hclB⟩, hPc⟩ := hp
  intro T hT X
  rcases vx_callV X hx (C := C) (bytes := bytes) (maxL := maxL) (ret := ret) ho hl hin hse hcode hy hK (by rw [hT]; exact hcB) hoB hclB hg (hsize.trans hml.symm) (argsL := As) (rest := rest) (fun sig h => hn.trans (hlen sig h)) hstack hW (by rw [hb]; exact hdg)
    (fun vm₁ hW₁ => ⟨hf.1, hf.2, hPc (T.setVm vm₁) hT hW₁⟩) with ⟨v, vm₁, ⟨U', l2, c2, s2⟩, hW₁, X', ⟨g', mk, t, L, e1, e2, hq, h1, hL, h2, h3⟩, st⟩ | ⟨q, vm₁, ⟨U', l2, c2, s2⟩, hW₁, X', ⟨g', mk, t, L, E, ce, e1, e2, hq, hce, hcv, hcl, h1, hL, h2, h3⟩, st⟩
  · dsimp only [Pt.U, Pt.locs, Pt.cells, Pt.slots] at X' e1 e2 h1 h2 h3 st
    subst h1; subst h2; subst h3
    exact Or.inl ⟨v, (T.setVm vm₁).calling g' mk (Value.ref b :: As).toArray, t, U', L, hT, X', hL, e1, e2, hq, st⟩
  · dsimp only [Pt.U, Pt.locs, Pt.cells, Pt.slots] at X' e1 e2 h1 h2 h3 st hcl
    subst h1; subst h2; subst h3
    exact Or.inr ⟨q, (T.setVm vm₁).calling g' mk (Value.ref b :: As).toArray, t, U', L, E, ce, hT, X', hL, e1, e2, hq, hce, hcv, vx_cls hW₁ hcl, st⟩
theorem vx_runS (S : CallFix p m c cc nL s args Ts own) (hM : vx_Met l y ws rm Pc Qc XC mc ms free) (cw : CallB R s args own index y bytes maxL ret ws rm mc ms n ∧ (Cond.static y).before args s = true) (hp : PreS s H Pc As)
    (hg : g.method = m) (hn : As.length = n) (hsize : g.locals.size = nL) (hstack : g.stack = As.reverse ++ rest) (hW : 2 * g.monitorRoom + (rest.map fun v => v.category).sum ≤ 8) (hdg : decode cc g.pc = .ok (.invokestatic index, 3)) (hf : cells + mc ≤ R.cells ∧ slots + ms ≤ R.slots) :
    vx_Run p l e R s m args below meth c H locs cells slots mc ms g rest (Qc As.toArray) XC free := by
  have hK : vx_Back l R p e below s args y 3 8 (PreOf R mc ms Pc) (PostOf Qc mc ms free) (vx_Post XC mc ms free) := vx_callBack cw.1 hM hp.1
  obtain ⟨⟨-, -, -, -, -, -, hcode, hini, hy, hlen, hl⟩, hstt⟩ := cw
  obtain ⟨hx, hb, hml, ho, -⟩ := S
  intro T hT X
  rcases vx_callS X hx (bytes := bytes) (maxL := maxL) (ret := ret) ho hl hstt hini hcode hy hK hg (hsize.trans hml.symm) (argsL := As) (rest := rest) (fun sig h => hn.trans (hlen sig h)) hstack hW (by rw [hb]; exact hdg)
    (fun vm₁ hW₁ => ⟨hf.1, hf.2, hp.2 (T.setVm vm₁) hT hW₁⟩) with ⟨v, vm₁, ⟨U', l2, c2, s2⟩, hW₁, X', ⟨g', mk, t, L, e1, e2, hq, h1, hL, h2, h3⟩, st⟩ | ⟨q, vm₁, ⟨U', l2, c2, s2⟩, hW₁, X', ⟨g', mk, t, L, E, ce, e1, e2, hq, hce, hcv, hcl, h1, hL, h2, h3⟩, st⟩
  · dsimp only [Pt.U, Pt.locs, Pt.cells, Pt.slots] at X' e1 e2 h1 h2 h3 st
    subst h1; subst h2; subst h3
    exact Or.inl ⟨v, (T.setVm vm₁).calling g' mk As.toArray, t, U', L, hT, X', hL, e1, e2, hq, st⟩
  · dsimp only [Pt.U, Pt.locs, Pt.cells, Pt.slots] at X' e1 e2 h1 h2 h3 st hcl
    subst h1; subst h2; subst h3
    exact Or.inr ⟨q, (T.setVm vm₁).calling g' mk As.toArray, t, U', L, E, ce, hT, X', hL, e1, e2, hq, hce, hcv, vx_cls hW₁ hcl, st⟩
end Runs
section Rows
variable {p : Program} {l : Launch} {e : Env} {R : Room} {s : State} {m : MethodId} {args : Array Value} {below : List Frame} {meth : Method} {c : Code} {H : Heap} {locs : List Loc} {cells slots : Nat} {Q : State → Prop}
variable {mc ms : Nat} {free : Addr → Prop} {A0 A1 : Nat → Prop} {H0 : Heap} {a : Array Value} {pc : Nat} {ls : Array Slot} {st0 rest : List Value}
theorem vx_keep {st₀ t T' : State} {L : List Loc} (h0 : st₀.heap = H) (e1 : T'.heap = t.heap) (hS : va_S A0 H0 H locs) (hA : ∀ q, q < H.size → A1 q → A0 q) (hf : ∀ q, free q → A0 q) (hL : ∀ q ∈ L, free q.base) (hF : va_F A1 st₀ t) :
    H.size ≤ T'.heap.size ∧ (∀ q : Nat, q < H.size → ¬ A1 q → T'.heap[q]? = H[q]?) ∧ va_S A0 H0 T'.heap (locs ++ L) := by
  obtain ⟨hz, hk⟩ := hF
  rw [h0] at hz hk
  exact ⟨by rw [e1]; exact hz, fun q h1 h2 => by rw [e1]; exact hk q h1 h2,
    ⟨Nat.le_trans hS.1 (by rw [e1]; exact hz), fun q h1 h2 => by rw [e1, hk q (Nat.lt_of_lt_of_le h1 hS.1) (fun z => h2 (hA q (Nat.lt_of_lt_of_le h1 hS.1) z))]; exact hS.2.1 q h1 h2, fun q hq => by
      rcases List.mem_append.mp hq with h | h
      · exact hS.2.2 q h
      · exact hf _ (hL q h)⟩⟩
theorem vx_calli {S SX : Type} {post : Int32 → S → Prop} {px : SX → Prop} {B : S → State → Prop} {BX : String → SX → State → Prop} {AX : Nat → Prop} (hr : vx_Run p l e R s m args below meth c H locs cells slots mc ms (F0 m pc ls st0) rest (va_Qi post B A1 a) (vx_X px BX AX) free) (hS : va_S A0 H0 H locs) (hA : ∀ q, q < H.size → A1 q → A0 q) (hf : ∀ q, free q → A0 q) (hAX : ∀ q, q < H.size → AX q → A0 q)
    (kx : ∀ (E : String) (ce : Cell) (q9 : Addr) (u : SX) (t : State) (H1 : Heap) (locs1 : List Loc), t.heap = H1 → s.vm.Alike t.vm → px u → BX E u t → H.size ≤ H1.size → (∀ q : Nat, q < H.size → ¬ AX q → H1[q]? = H[q]?) → va_S A0 H0 H1 locs1 → H1[q9]? = some ce → ce.vm = .none → s.vm.findClass E = some ce.cls → vx_W p l e R s m args below meth c H1 locs1 (cells + mc) (slots + ms) Q (F0 m pc ls rest) q9)
    (kk : ∀ (r : Int32) (u : S) (t : State) (H1 : Heap) (locs1 : List Loc), t.heap = H1 → s.vm.Alike t.vm → post r u → B u t → H.size ≤ H1.size → (∀ q : Nat, q < H.size → ¬ A1 q → H1[q]? = H[q]?) → va_S A0 H0 H1 locs1 → W p l e R s m args below meth c H1 locs1 (cells + mc) (slots + ms) Q (F0 m (pc + 3) ls (.int r :: rest))) : W p l e R s m args below meth c H locs cells slots Q (F0 m pc ls st0) := by
  intro T hT X
  rcases hr T hT X with ⟨v, st₀, t, T', L, h0, X', hL, e1, e2, ⟨⟨r, u, hv, hp, hb⟩, hF⟩, st⟩ | ⟨q, st₀, t, T', L, E, ce, h0, X', hL, e1, e2, ⟨u, hp, hb, hF⟩, hce, hcv, hcl, st⟩
  · cases hv
    obtain ⟨k1, k2, k3⟩ := vx_keep h0 e1 hS hA hf hL hF
    obtain ⟨t2, a1, b1⟩ := kk r u t T'.heap (locs ++ L) e1.symm (by rw [← e2]; exact X'.warmed.alike) hp hb k1 k2 k3 T' rfl X'
    exact ⟨t2, st t2 a1, b1⟩
  · obtain ⟨k1, k2, k3⟩ := vx_keep h0 e1 hS hAX hf hL hF
    obtain ⟨t2, a1, b1⟩ := kx E ce q u t T'.heap (locs ++ L) e1.symm (by rw [← e2]; exact X'.warmed.alike) hp hb k1 k2 k3 (by rw [e1]; exact hce) hcv hcl T' rfl X'
    exact ⟨t2, st.trans a1, b1⟩
theorem vx_calll {S SX : Type} {post : Int64 → S → Prop} {px : SX → Prop} {B : S → State → Prop} {BX : String → SX → State → Prop} {AX : Nat → Prop} (hr : vx_Run p l e R s m args below meth c H locs cells slots mc ms (F0 m pc ls st0) rest (va_Ql post B A1 a) (vx_X px BX AX) free) (hS : va_S A0 H0 H locs) (hA : ∀ q, q < H.size → A1 q → A0 q) (hf : ∀ q, free q → A0 q) (hAX : ∀ q, q < H.size → AX q → A0 q)
    (kx : ∀ (E : String) (ce : Cell) (q9 : Addr) (u : SX) (t : State) (H1 : Heap) (locs1 : List Loc), t.heap = H1 → s.vm.Alike t.vm → px u → BX E u t → H.size ≤ H1.size → (∀ q : Nat, q < H.size → ¬ AX q → H1[q]? = H[q]?) → va_S A0 H0 H1 locs1 → H1[q9]? = some ce → ce.vm = .none → s.vm.findClass E = some ce.cls → vx_W p l e R s m args below meth c H1 locs1 (cells + mc) (slots + ms) Q (F0 m pc ls rest) q9)
    (kk : ∀ (r : Int64) (u : S) (t : State) (H1 : Heap) (locs1 : List Loc), t.heap = H1 → s.vm.Alike t.vm → post r u → B u t → H.size ≤ H1.size → (∀ q : Nat, q < H.size → ¬ A1 q → H1[q]? = H[q]?) → va_S A0 H0 H1 locs1 → W p l e R s m args below meth c H1 locs1 (cells + mc) (slots + ms) Q (F0 m (pc + 3) ls (.long r :: rest))) : W p l e R s m args below meth c H locs cells slots Q (F0 m pc ls st0) := by
  intro T hT X
  rcases hr T hT X with ⟨v, st₀, t, T', L, h0, X', hL, e1, e2, ⟨⟨r, u, hv, hp, hb⟩, hF⟩, st⟩ | ⟨q, st₀, t, T', L, E, ce, h0, X', hL, e1, e2, ⟨u, hp, hb, hF⟩, hce, hcv, hcl, st⟩
  · cases hv
    obtain ⟨k1, k2, k3⟩ := vx_keep h0 e1 hS hA hf hL hF
    obtain ⟨t2, a1, b1⟩ := kk r u t T'.heap (locs ++ L) e1.symm (by rw [← e2]; exact X'.warmed.alike) hp hb k1 k2 k3 T' rfl X'
    exact ⟨t2, st t2 a1, b1⟩
  · obtain ⟨k1, k2, k3⟩ := vx_keep h0 e1 hS hAX hf hL hF
    obtain ⟨t2, a1, b1⟩ := kx E ce q u t T'.heap (locs ++ L) e1.symm (by rw [← e2]; exact X'.warmed.alike) hp hb k1 k2 k3 (by rw [e1]; exact hce) hcv hcl T' rfl X'
    exact ⟨t2, st.trans a1, b1⟩
theorem vx_callf {S SX : Type} {post : UInt32 → S → Prop} {px : SX → Prop} {B : S → State → Prop} {BX : String → SX → State → Prop} {AX : Nat → Prop} (hr : vx_Run p l e R s m args below meth c H locs cells slots mc ms (F0 m pc ls st0) rest (va_Qf post B A1 a) (vx_X px BX AX) free) (hS : va_S A0 H0 H locs) (hA : ∀ q, q < H.size → A1 q → A0 q) (hf : ∀ q, free q → A0 q) (hAX : ∀ q, q < H.size → AX q → A0 q)
    (kx : ∀ (E : String) (ce : Cell) (q9 : Addr) (u : SX) (t : State) (H1 : Heap) (locs1 : List Loc), t.heap = H1 → s.vm.Alike t.vm → px u → BX E u t → H.size ≤ H1.size → (∀ q : Nat, q < H.size → ¬ AX q → H1[q]? = H[q]?) → va_S A0 H0 H1 locs1 → H1[q9]? = some ce → ce.vm = .none → s.vm.findClass E = some ce.cls → vx_W p l e R s m args below meth c H1 locs1 (cells + mc) (slots + ms) Q (F0 m pc ls rest) q9)
    (kk : ∀ (r : UInt32) (u : S) (t : State) (H1 : Heap) (locs1 : List Loc), t.heap = H1 → s.vm.Alike t.vm → post r u → B u t → H.size ≤ H1.size → (∀ q : Nat, q < H.size → ¬ A1 q → H1[q]? = H[q]?) → va_S A0 H0 H1 locs1 → W p l e R s m args below meth c H1 locs1 (cells + mc) (slots + ms) Q (F0 m (pc + 3) ls (.float r :: rest))) : W p l e R s m args below meth c H locs cells slots Q (F0 m pc ls st0) := by
  intro T hT X
  rcases hr T hT X with ⟨v, st₀, t, T', L, h0, X', hL, e1, e2, ⟨⟨r, u, hv, hp, hb⟩, hF⟩, st⟩ | ⟨q, st₀, t, T', L, E, ce, h0, X', hL, e1, e2, ⟨u, hp, hb, hF⟩, hce, hcv, hcl, st⟩
  · cases hv
    obtain ⟨k1, k2, k3⟩ := vx_keep h0 e1 hS hA hf hL hF
    obtain ⟨t2, a1, b1⟩ := kk r u t T'.heap (locs ++ L) e1.symm (by rw [← e2]; exact X'.warmed.alike) hp hb k1 k2 k3 T' rfl X'
    exact ⟨t2, st t2 a1, b1⟩
  · obtain ⟨k1, k2, k3⟩ := vx_keep h0 e1 hS hAX hf hL hF
    obtain ⟨t2, a1, b1⟩ := kx E ce q u t T'.heap (locs ++ L) e1.symm (by rw [← e2]; exact X'.warmed.alike) hp hb k1 k2 k3 (by rw [e1]; exact hce) hcv hcl T' rfl X'
    exact ⟨t2, st.trans a1, b1⟩
theorem vx_calld {S SX : Type} {post : UInt64 → S → Prop} {px : SX → Prop} {B : S → State → Prop} {BX : String → SX → State → Prop} {AX : Nat → Prop} (hr : vx_Run p l e R s m args below meth c H locs cells slots mc ms (F0 m pc ls st0) rest (va_Qd post B A1 a) (vx_X px BX AX) free) (hS : va_S A0 H0 H locs) (hA : ∀ q, q < H.size → A1 q → A0 q) (hf : ∀ q, free q → A0 q) (hAX : ∀ q, q < H.size → AX q → A0 q)
    (kx : ∀ (E : String) (ce : Cell) (q9 : Addr) (u : SX) (t : State) (H1 : Heap) (locs1 : List Loc), t.heap = H1 → s.vm.Alike t.vm → px u → BX E u t → H.size ≤ H1.size → (∀ q : Nat, q < H.size → ¬ AX q → H1[q]? = H[q]?) → va_S A0 H0 H1 locs1 → H1[q9]? = some ce → ce.vm = .none → s.vm.findClass E = some ce.cls → vx_W p l e R s m args below meth c H1 locs1 (cells + mc) (slots + ms) Q (F0 m pc ls rest) q9)
    (kk : ∀ (r : UInt64) (u : S) (t : State) (H1 : Heap) (locs1 : List Loc), t.heap = H1 → s.vm.Alike t.vm → post r u → B u t → H.size ≤ H1.size → (∀ q : Nat, q < H.size → ¬ A1 q → H1[q]? = H[q]?) → va_S A0 H0 H1 locs1 → W p l e R s m args below meth c H1 locs1 (cells + mc) (slots + ms) Q (F0 m (pc + 3) ls (.double r :: rest))) : W p l e R s m args below meth c H locs cells slots Q (F0 m pc ls st0) := by
  intro T hT X
  rcases hr T hT X with ⟨v, st₀, t, T', L, h0, X', hL, e1, e2, ⟨⟨r, u, hv, hp, hb⟩, hF⟩, st⟩ | ⟨q, st₀, t, T', L, E, ce, h0, X', hL, e1, e2, ⟨u, hp, hb, hF⟩, hce, hcv, hcl, st⟩
  · cases hv
    obtain ⟨k1, k2, k3⟩ := vx_keep h0 e1 hS hA hf hL hF
    obtain ⟨t2, a1, b1⟩ := kk r u t T'.heap (locs ++ L) e1.symm (by rw [← e2]; exact X'.warmed.alike) hp hb k1 k2 k3 T' rfl X'
    exact ⟨t2, st t2 a1, b1⟩
  · obtain ⟨k1, k2, k3⟩ := vx_keep h0 e1 hS hAX hf hL hF
    obtain ⟨t2, a1, b1⟩ := kx E ce q u t T'.heap (locs ++ L) e1.symm (by rw [← e2]; exact X'.warmed.alike) hp hb k1 k2 k3 (by rw [e1]; exact hce) hcv hcl T' rfl X'
    exact ⟨t2, st.trans a1, b1⟩
theorem vx_callv {S SX : Type} {post : S → Prop} {px : SX → Prop} {B : S → State → Prop} {BX : String → SX → State → Prop} {AX : Nat → Prop} (hr : vx_Run p l e R s m args below meth c H locs cells slots mc ms (F0 m pc ls st0) rest (va_Qv post B A1 a) (vx_X px BX AX) free) (hS : va_S A0 H0 H locs) (hA : ∀ q, q < H.size → A1 q → A0 q) (hf : ∀ q, free q → A0 q) (hAX : ∀ q, q < H.size → AX q → A0 q)
    (kx : ∀ (E : String) (ce : Cell) (q9 : Addr) (u : SX) (t : State) (H1 : Heap) (locs1 : List Loc), t.heap = H1 → s.vm.Alike t.vm → px u → BX E u t → H.size ≤ H1.size → (∀ q : Nat, q < H.size → ¬ AX q → H1[q]? = H[q]?) → va_S A0 H0 H1 locs1 → H1[q9]? = some ce → ce.vm = .none → s.vm.findClass E = some ce.cls → vx_W p l e R s m args below meth c H1 locs1 (cells + mc) (slots + ms) Q (F0 m pc ls rest) q9)
    (kk : ∀ (u : S) (t : State) (H1 : Heap) (locs1 : List Loc), t.heap = H1 → s.vm.Alike t.vm → post u → B u t → H.size ≤ H1.size → (∀ q : Nat, q < H.size → ¬ A1 q → H1[q]? = H[q]?) → va_S A0 H0 H1 locs1 → W p l e R s m args below meth c H1 locs1 (cells + mc) (slots + ms) Q (F0 m (pc + 3) ls (rest))) : W p l e R s m args below meth c H locs cells slots Q (F0 m pc ls st0) := by
  intro T hT X
  rcases hr T hT X with ⟨v, st₀, t, T', L, h0, X', hL, e1, e2, ⟨⟨u, hv, hp, hb⟩, hF⟩, st⟩ | ⟨q, st₀, t, T', L, E, ce, h0, X', hL, e1, e2, ⟨u, hp, hb, hF⟩, hce, hcv, hcl, st⟩
  · cases hv
    obtain ⟨k1, k2, k3⟩ := vx_keep h0 e1 hS hA hf hL hF
    obtain ⟨t2, a1, b1⟩ := kk u t T'.heap (locs ++ L) e1.symm (by rw [← e2]; exact X'.warmed.alike) hp hb k1 k2 k3 T' rfl X'
    exact ⟨t2, st t2 a1, b1⟩
  · obtain ⟨k1, k2, k3⟩ := vx_keep h0 e1 hS hAX hf hL hF
    obtain ⟨t2, a1, b1⟩ := kx E ce q u t T'.heap (locs ++ L) e1.symm (by rw [← e2]; exact X'.warmed.alike) hp hb k1 k2 k3 (by rw [e1]; exact hce) hcv hcl T' rfl X'
    exact ⟨t2, st.trans a1, b1⟩
/-- caught by the row x of this method's table; the rows ahead don't take it -/
theorem vx_catch {own name : String} {E : String} {ce : Cell} {q : Addr} (hown : s.vm.findClass own = some m.cls) (pre : List ExceptionTableEntry) (x : ExceptionTableEntry) (suf : List ExceptionTableEntry) (hsplit : c.exceptionTable.toList = pre ++ x :: suf)
    (hpass : ∀ z ∈ pre, covers z pc = false ∨ (z.catchType ≠ 0 ∧ ∃ nm : String, (Cond.classLink own z.catchType nm).before args s = true ∧ va_Nc E nm s)) (hx : covers x pc = true) (h0 : x.catchType ≠ 0)
    (hlink : (Cond.classLink own x.catchType name).before args s = true) (hcast : (Cond.castable E name).before args s = true) (hcell : H[q]? = some ce) (hv : ce.vm = .none) (hcl : s.vm.findClass E = some ce.cls)
    (kk : W p l e R s m args below meth c H locs cells slots Q (F0 m x.handlerPc ls [.ref q])) : vx_W p l e R s m args below meth c H locs cells slots Q (F0 m pc ls rest) q := by
  intro T hT X
  have hpl : e.platform.magicAccessors = ({} : Platform).magicAccessors := by rw [X.admits.platform]
  obtain ⟨c3, c4, hc3, hc4, hasg⟩ := Cond.castable_spec hcast
  cases Option.some.inj (hc3.symm.trans hcl)
  obtain ⟨c5, hc5, hcl5⟩ := Cond.classLink_spec hown hlink e.platform hpl
  cases Option.some.inj (hc4.symm.trans hc5)
  obtain ⟨vm', X', st⟩ := X.thenCaughtThrough q (g := F0 m pc ls rest) rfl (Steps.refl _) (by rw [hT]; exact hcell) (by rw [hv]; rfl) (by obtain ⟨k9, h9, -⟩ := Vm.findClass_spec hcl; exact ⟨k9, h9⟩) pre x suf hsplit
    (fun z hz => by
      rcases hpass z hz with h | ⟨hz0, nm, hl1, hn1⟩
      · exact Or.inl h
      · obtain ⟨c6, hc6, hcl6⟩ := Cond.classLink_spec hown hl1 e.platform hpl
        obtain ⟨a8, b8, h1, h2, h3⟩ := hn1
        cases Option.some.inj (h1.symm.trans hcl)
        cases Option.some.inj (h2.symm.trans hc6)
        exact Or.inr ⟨hz0, _, hcl6, h3⟩) hx (Or.inr ⟨h0, c4, hcl5, hasg⟩)
  obtain ⟨t, a1, b1⟩ := kk (T.setVm vm') hT X'
  exact ⟨t, st.trans a1, b1⟩
end Rows
section Ends
variable {p : Program} {l : Launch} {e : Env} {R : Room} {s : State} {m : MethodId} {args : Array Value} {below : List Frame} {meth : Method} {c : Code} {H : Heap} {locs : List Loc} {cells slots : Nat} {Q : State → Prop}
variable {mc ms : Nat} {free : Addr → Prop} {A0 A1 : Nat → Prop} {H0 : Heap} {a : Array Value} {ls : Array Slot} {st0 rest : List Value}
variable {Qc : Array Value → State → Outcome → State → Prop} {XC : String → State → State → Prop}
/-- what a body that may throw owes at its end -/
def vx_MQ (below : List Frame) (Qc : Array Value → State → Outcome → State → Prop) (XC : String → State → State → Prop) (a : Array Value) (s : State) (mc ms : Nat) (free : Addr → Prop) : State → Prop := fun t =>
  ∃ o, t.status = .running ∧ Ended t below o ∧ vx_Q Qc XC mc ms free a s o t
theorem vx_ret {g : JFrame} {mc ms : Nat} (k : W p l e R s m args below meth c H locs cells slots (MQ below Qc args s mc ms free) g) : W p l e R s m args below meth c H locs cells slots (vx_MQ below Qc XC args s mc ms free) g := by
  intro T hT X
  obtain ⟨t, a1, o, b1, b2, b3, b4⟩ := k T hT X
  exact ⟨t, a1, o, b1, b2, Or.inl ⟨b3, b4⟩⟩
/-- not caught here: it goes on to the caller -/
theorem vx_widen {g : JFrame} {q : Addr} {k n : Nat} (h1 : cells ≤ k) (h2 : slots ≤ n) (kk : vx_W p l e R s m args below meth c H locs k n Q g q) : vx_W p l e R s m args below meth c H locs cells slots Q g q := fun T hT X => kk T hT (stand_widen X h1 h2)
theorem vx_out {pc : Nat} {E : String} {ce : Cell} {q : Addr} {mc ms : Nat} (hout : ∀ x ∈ c.exceptionTable.toList, covers x pc = false) (hlocks : meth.locks = false) (hcell : H[q]? = some ce) (hv : ce.vm = .none) (hcl : s.vm.findClass E = some ce.cls)
    (hx : ∀ t : State, t.heap = H → s.vm.Alike t.vm → XC E s t) (hf : ∀ z ∈ locs, free z.base) (hc : cells ≤ mc) (hs : slots ≤ ms) :
    vx_W p l e R s m args below meth c H locs cells slots (vx_MQ below Qc XC args s mc ms free) (F0 m pc ls rest) q := by
  intro T hT X
  obtain ⟨st1, hrun, hend, hW, hsm⟩ := X.leaveThrown q (g := F0 m pc ls rest) rfl rfl rfl hout hlocks
  have hcell9 : (T.setFrames (.throwing q :: below)).heap[q]? = some ce := by
    show T.heap[q]? = some ce
    rw [hT]; exact hcell
  exact ⟨_, st1, .threw q, hrun, hend, Or.inr ⟨q, rfl, E, ce, locs, hx _ hT hW.alike, hcell9, hv, hcl, hW, hsm.mono hc hs, hf⟩⟩
theorem vx_frame {U : State} {k n : Nat} (h : s.sameButNew ({ U with vm := s.vm } : State) locs k n) : s.heap.size ≤ U.heap.size ∧ ∀ q : Nat, q < s.heap.size → (∀ z ∈ locs, z.base ≠ q) → U.heap[q]? = s.heap[q]? := by
  obtain ⟨-, h2, -, -, -, h6⟩ := h
  refine ⟨h2, fun q hq hz => ?_⟩
  obtain ⟨c9, e1, e2, e3, e4⟩ := h6 q _ (Array.getElem?_eq_getElem hq)
  have hs : c9.slots = (s.heap[q]).slots := Array.ext_getElem? fun i => e4 i fun hm => hz _ hm rfl
  have h9 : c9 = s.heap[q] := by
    rw [hs] at e2
    exact e2
  have e5 : U.heap[q]? = some c9 := e1
  rw [e5, h9, Array.getElem?_eq_getElem hq]
/-- the words of a throw but the four that speak of the heap -/
def vx_no (w : Cond) : Bool := decide (w ≠ .isRef (.static Bundle.tN "UNASSIGNED_STACK" Bundle.steD)) && decide (w ≠ .isRef (.static Bundle.tN "SUPPRESSED_SENTINEL" Bundle.listD)) && decide (w ≠ .laysStatic Bundle.tN "UNASSIGNED_STACK" Bundle.steD) && decide (w ≠ .laysStatic Bundle.tN "SUPPRESSED_SENTINEL" Bundle.listD)
def vx_at0 (own : String) (ic : Nat) (X : String) (names : List String) : List Cond := (Bundle.ownAtoms0 own ic X names).filter vx_no
def vx_atS (own : String) (ic : Nat) (X : String) (names : List String) : List Cond := (Bundle.ownAtoms own ic X names).filter vx_no
/-- a word that the tables alone decide, or a good one -/
def vx_ot (w : Cond) : Bool := w.onTables || goodWord w
theorem vx_ot_at {args a' : Array Value} {s U : State} {w : Cond} (hW : s.WarmedH U.vm) (hvm : s.vm = U.vm) (hg : vx_ot w = true) (h : w.before args s = true) : w.before a' U = true := by
  simp only [vx_ot, Bool.or_eq_true] at hg
  rcases hg with hg | hg
  · exact va_tabs hg hvm h
  · exact word_at hW (good_of_word hg) h
/-- a list's words: the good ones out of the method's own list, the others by premises of their own -/
theorem vx_hat {args : Array Value} {s : State} {L B : List Cond} (h1 : ∀ w ∈ L.filter goodWord, w.before args s = true) (h2 : ∀ w ∈ L.filter (fun w => !goodWord w), w ∈ B) (h3 : ∀ w ∈ B, w.before args s = true) : ∀ w ∈ L, w.before args s = true := by
  intro w hw
  by_cases g : goodWord w = true
  · exact h1 w (List.mem_filter.mpr ⟨hw, g⟩)
  · refine h3 w (h2 w (List.mem_filter.mpr ⟨hw, ?_⟩))
    show (!goodWord w) = true
    cases hgw : goodWord w
    · rfl
    · exact absurd hgw g
theorem vx_c {args : Array Value} {s : State} {w : Cond} {B : List Cond} (h : w.before args s = true) (t : ∀ w ∈ B, w.before args s = true) : ∀ w' ∈ w :: B, w'.before args s = true := fun w' h' => (List.mem_cons.mp h').elim (fun e => by rw [e]; exact h) (t w')
theorem vx_n {args : Array Value} {s : State} : ∀ w ∈ ([] : List Cond), w.before args s = true := fun _ h => nomatch h
theorem vx_own {args : Array Value} {s : State} {L : List Cond} (h1 : ∀ w ∈ L.filter vx_no, w.before args s = true)
    (hU : (Cond.isRef (.static Bundle.tN "UNASSIGNED_STACK" Bundle.steD)).before args s = true) (hN : (Cond.isRef (.static Bundle.tN "SUPPRESSED_SENTINEL" Bundle.listD)).before args s = true)
    (lU : (Cond.laysStatic Bundle.tN "UNASSIGNED_STACK" Bundle.steD).before args s = true) (lN : (Cond.laysStatic Bundle.tN "SUPPRESSED_SENTINEL" Bundle.listD).before args s = true) : ∀ w ∈ L, w.before args s = true := by
  intro w hw
  by_cases e1 : w = .isRef (.static Bundle.tN "UNASSIGNED_STACK" Bundle.steD)
  · rw [e1]; exact hU
  · by_cases e2 : w = .isRef (.static Bundle.tN "SUPPRESSED_SENTINEL" Bundle.listD)
    · rw [e2]; exact hN
    · by_cases e3 : w = .laysStatic Bundle.tN "UNASSIGNED_STACK" Bundle.steD
      · rw [e3]; exact lU
      · by_cases e4 : w = .laysStatic Bundle.tN "SUPPRESSED_SENTINEL" Bundle.listD
        · rw [e4]; exact lN
        · exact h1 w (List.mem_filter.mpr ⟨hw, by unfold vx_no; rw [decide_eq_true e1, decide_eq_true e2, decide_eq_true e3, decide_eq_true e4]; rfl⟩)
/-- where a static field lies, its class's statics cell in H -/
def vx_L (C n d : String) (A : Nat → Prop) (U : State) (H : Heap) : Prop := ∃ (c : ClassId) (k : Class) (i : Nat) (f : Field) (a : Nat) (cell : Cell), U.vm.findClass C = some c ∧ U.fieldFound? C n d = some (c, k, i, f) ∧ f.isStatic = true ∧ k.statics = some a ∧ H[a]? = some cell ∧ cell.vm.isStatics = true ∧ cell.cls = c ∧ f.slot < cell.slots.size ∧ k.staticTypes[f.slot]? = some f.type ∧ ¬ A a
theorem vx_L.moved {C n d : String} {A : Nat → Prop} {u U : State} {H : Heap} (hvm : u.vm.Alike U.vm) (h : vx_L C n d A u H) : vx_L C n d A U H := by
  obtain ⟨c, k, i, f, a, cell, h1, h2, h3, h4, h5, h6, h7, h8, h9, h10⟩ := h
  obtain ⟨k', hi', he⟩ := State.fieldFound?_setVm hvm h2
  exact ⟨c, k', i, f, a, cell, by rw [hvm.findClass]; exact h1, hi', h3, by rw [he]; exact h4, h5, h6, h7, h8, by rw [he]; exact h9, h10⟩
theorem vx_L.kept {C n d : String} {A : Nat → Prop} {U : State} {H H1 : Heap} (h : vx_L C n d A U H) (hq : ∀ a : Nat, a < H.size → ¬ A a → H1[a]? = H[a]?) : vx_L C n d A U H1 := by
  obtain ⟨c, k, i, f, a, cell, h1, h2, h3, h4, h5, h6, h7, h8, h9, h10⟩ := h
  exact ⟨c, k, i, f, a, cell, h1, h2, h3, h4, by rw [hq a (Array.getElem?_eq_some_iff.mp h5).1 h10]; exact h5, h6, h7, h8, h9, h10⟩
theorem vx_L.narrow {C n d : String} {A B : Nat → Prop} {U : State} {H : Heap} (h : vx_L C n d A U H) (hAB : ∀ q, B q → A q) : vx_L C n d B U H := by
  obtain ⟨c, k, i, f, a, cell, h1, h2, h3, h4, h5, h6, h7, h8, h9, h10⟩ := h
  exact ⟨c, k, i, f, a, cell, h1, h2, h3, h4, h5, h6, h7, h8, h9, fun z => h10 (hAB _ z)⟩
theorem vx_L.word {C n d : String} {A : Nat → Prop} {s : State} {args : Array Value} (h : vx_L C n d A s s.heap) : (Cond.laysStatic C n d).before args s = true := by
  obtain ⟨c, k, i, f, a, cell, h1, h2, h3, h4, h5, h6, h7, h8, h9, -⟩ := h
  show (Cond.laysStatic C n d).holds args s none s [] = true
  exact Cond.laysStatic_of h1 h2 h3 h4 h5 h6 h7 h8 h9
/-- .. and what it holds: null or some reference -/
def vx_Zq (C n d : String) (A : Nat → Prop) (U : State) (H : Heap) : Prop := va_Zq C n d A U H ∧ vx_L C n d A U H
theorem vx_Zq.moved {C n d : String} {A : Nat → Prop} {u U : State} {H : Heap} (hvm : u.vm.Alike U.vm) (h : vx_Zq C n d A u H) : vx_Zq C n d A U H := ⟨va_Zq.moved hvm h.1, vx_L.moved hvm h.2⟩
theorem vx_Zq.kept {C n d : String} {A : Nat → Prop} {U : State} {H H1 : Heap} (h : vx_Zq C n d A U H) (hq : ∀ a : Nat, a < H.size → ¬ A a → H1[a]? = H[a]?) : vx_Zq C n d A U H1 := ⟨va_Zq.kept h.1 hq, vx_L.kept h.2 hq⟩
theorem vx_Zq.narrow {C n d : String} {A B : Nat → Prop} {U : State} {H : Heap} (h : vx_Zq C n d A U H) (hAB : ∀ q, B q → A q) : vx_Zq C n d B U H := ⟨va_Zq.narrow h.1 hAB, vx_L.narrow h.2 hAB⟩
theorem vx_Zqof {args : Array Value} {s : State} {C n d : String} {A : Nat → Prop} (hl : (Cond.laysStatic C n d).before args s = true) (hini : (Cond.initialized C).before args s = true) (h : (Cond.isRef (.static C n d)).before args s = true) (hA : ∀ a : Nat, a < s.heap.size → ¬ A a) : vx_Zq C n d A s s.heap := by
  refine ⟨va_Zqof hl hini h hA, ?_⟩
  obtain ⟨c, k, i, f, a, cell, h1, h2, h3, h4, h5, h6, h7, h8, h9⟩ := Cond.laysStatic_spec hl
  exact ⟨c, k, i, f, a, cell, h1, h2, h3, h4, h5, h6, h7, h8, h9, hA a (Array.getElem?_eq_some_iff.mp h5).1⟩
theorem vx_isRef {C n d : String} {v : Value} {A : Nat → Prop} {s : State} {args : Array Value} (h : va_Z C n d v A s s.heap) (hv : v.isRef = true) : (Cond.isRef (.static C n d)).before args s = true := by
  obtain ⟨cf, kf, fi, f, a, cell, h1, h2, h3, h4, h5, h6, h7, -⟩ := h
  have he : (Term.static C n d).eval args s none [] s = some v := by
    simp [Term.eval, State.fieldNamed?, h1, h2, h4, h5, h6, h7]
  simp only [Cond.before, Cond.holds, Cond.value, he]
  cases v <;> simp_all [Value.isRef]
theorem vx_isRefq {C n d : String} {A : Nat → Prop} {s : State} {args : Array Value} (h : va_Zq C n d A s s.heap) : (Cond.isRef (.static C n d)).before args s = true := by
  rcases h with h | ⟨t, h⟩
  · exact vx_isRef h rfl
  · exact vx_isRef h rfl
/-- the same frame, seen from here: as if the method were called anew in this heap -/
theorem vx_rebase {T : State} (X : Stand p l e R s m args below meth c T locs cells slots) {R' : Room} (hf : R'.frames ≤ R.frames) (hl : R'.locals ≤ R.locals) (hc : cells + R'.cells ≤ R.cells) (hs : slots + R'.slots ≤ R.slots) :
    Stand p l e R' ((T.setVm s.vm).setFrames (.invoking m args :: below)) m args below meth c T [] 0 0 := by
  have htop : (T.setVm s.vm).topJava?.isSome := X.here.top
  have hF : ((T.setVm s.vm).setFrames (.invoking m args :: below)).frames = .invoking m args :: below := State.frames_setFrames _ (State.cur_lt_of_top htop)
  obtain ⟨g₀, hg0⟩ := Option.isSome_iff_exists.mp htop
  obtain ⟨r, hr⟩ := State.topJava?_eq_some.mp hg0
  have hl9 : e.platform.stackLimits (T.setVm s.vm).me = e.platform.stackLimits s.me := X.limits
  have hb9 : (T.setVm s.vm).me.stackBytes = s.me.stackBytes := X.bytes
  refine ⟨X.admits, X.cas, X.clock, hF, ?_, X.hears, X.method, X.code, X.here, X.tail, X.warmed, ?_, ?_, ?_⟩
  · have h := X.room
    have hU : ((T.setVm s.vm).setFrames (.invoking m args :: below)).localsInUse = s.localsInUse := by
      rw [State.localsInUse_invoking hF (meth := meth) (c := c) X.method X.code, State.localsInUse_invoking X.frames X.method X.code]
    simp only [State.hasRoom, Bool.and_eq_true, decide_eq_true_eq] at h ⊢
    obtain ⟨⟨⟨⟨h1, h2, h3, h4, h5, h6⟩, h7⟩, h8⟩, h9⟩ := h
    rw [X.frames, List.length_cons] at h2 h3
    have q1 := X.heapSize
    have q2 := X.used
    simp only [hF, hU, List.length_cons, State.stackLimits_setFrames, State.stackBytes_setFrames, hl9, hb9]
    refine ⟨⟨⟨⟨by omega, by omega, by omega, by omega, by omega, h6⟩, ?_⟩, ?_⟩, X.book⟩
    · show T.heap.size + R'.cells ≤ e.platform.maxCells
      omega
    · show T.slotsUsed + R'.slots ≤ e.platform.maxSlots
      omega
  · rw [State.stackLimits_setFrames]; rfl
  · rw [State.stackBytes_setFrames]; rfl
  · refine ⟨?_, Nat.le_refl _, Nat.le_refl _, ?_, ?_, fun a c9 h9 => ⟨c9, h9, rfl, rfl, fun _ _ => rfl⟩⟩
    · obtain ⟨t, ht, -⟩ := State.frames_cons hr
      show T.setVm s.vm = { ((T.setVm s.vm).setFrames (.invoking m args :: below)).setFrames (T.setVm s.vm).frames with heap := T.heap, slotsUsed := T.slotsUsed }
      rw [State.setFrames_setFrames, State.setFrames_self ht]
      rfl
    · show T.slotsUsed = T.slotsUsed + ((T.heap.toList.drop T.heap.size).map (·.slots.size)).sum
      rw [List.drop_eq_nil_of_le (Nat.le_of_eq Array.length_toList)]
      rfl
    · show ((T.heap.toList.drop T.heap.size).map (·.slots.size)).sum ≤ 0
      rw [List.drop_eq_nil_of_le (Nat.le_of_eq Array.length_toList)]
      exact Nat.le_refl _
/-- 'throw new E()': new; dup; invokespecial; athrow -/
theorem vx_throw0 {cc : ByteArray} {pc : Nat} (hexec : p.tables.exec = Jvm.exec) (hb : c.code = cc) (hl : l.stackTraces = false) {own cls : String} {names : List String} {ik ic mc ms : Nat} {A : Nat → Prop}
    (hown : s.vm.findClass own = some m.cls) (hcls : Bundle.fit cls = true) (hnames : ∀ n ∈ names, Bundle.fit n = true)
    (hk : (Cond.classLink own ik cls).before args s = true) (hini : (Cond.initialized cls).before args s = true) (hat : ∀ w ∈ vx_at0 own ic cls names, w.before args s = true)
    (hgood : ∀ w ∈ Cond.classLink own ik cls :: Cond.initialized cls :: vx_at0 own ic cls names, vx_ot w = true)
    (hU : vx_Zq Bundle.tN "UNASSIGNED_STACK" Bundle.steD A s s.heap) (hN : vx_Zq Bundle.tN "SUPPRESSED_SENTINEL" Bundle.listD A s s.heap) (hS : va_S A s.heap H locs) (hsize : ls.size = c.maxLocals)
    (d0 : decode cc pc = .ok (.new ik, 3)) (d3 : decode cc (pc + 3) = .ok (.dup, 1)) (d4 : decode cc (pc + 4) = .ok (.invokespecial ic, 3)) (d7 : decode cc (pc + 7) = .ok (.athrow, 1))
    (hout : ∀ x ∈ c.exceptionTable.toList, covers x (pc + 7) = false)
    (hRframes : names.length + 3 < R.frames) (hRlocals : (rest.map fun v => v.category).sum + (13 * (names.length + 1) + 42) ≤ R.locals) (hRcells : cells + 1 ≤ R.cells) (hRslots : slots + 6 ≤ R.slots) (hlocks : meth.locks = false)
    (hx : ∀ t : State, s.vm.Alike t.vm → H.size ≤ t.heap.size → (∀ q : Nat, q < H.size → t.heap[q]? = H[q]?) → XC cls s t)
    (hf : ∀ z ∈ locs, free z.base) (hc : cells + 1 ≤ mc) (hs : slots + 6 ≤ ms) :
    W p l e R s m args below meth c H locs cells slots (vx_MQ below Qc XC args s mc ms free) (F0 m pc ls rest) := by
  intro T hT X
  have htr : e.platform.stackTraces = false := (show e.platform.stackTraces = l.stackTraces by rw [X.admits.platform]).trans hl
  have Y := vx_rebase X (R' := { frames := R.frames, locals := R.locals, cells := 1, slots := 6 }) (Nat.le_refl _) (Nat.le_refl _) hRcells hRslots
  obtain ⟨s', hA⟩ : ∃ z, z = (T.setVm s.vm).setFrames (.invoking m args :: below) := ⟨_, rfl⟩
  rw [← hA] at Y
  have hvm : s'.vm = s.vm := by rw [hA]; rfl
  have hhp : s'.heap = H := by rw [hA]; exact hT
  have hW0 : s.WarmedH s'.vm := by rw [hvm]; exact State.WarmedH.refl s
  have hat' : ∀ w ∈ vx_at0 own ic cls names, w.before args s' = true := fun w hw => vx_ot_at hW0 hvm.symm (hgood w (List.mem_cons_of_mem _ (List.mem_cons_of_mem _ hw))) (hat w hw)
  have hk' : (Cond.classLink own ik cls).before args s' = true := vx_ot_at hW0 hvm.symm (hgood _ List.mem_cons_self) hk
  have hini' : (Cond.initialized cls).before args s' = true := vx_ot_at hW0 hvm.symm (hgood _ (List.mem_cons_of_mem _ List.mem_cons_self)) hini
  have hU' : vx_Zq Bundle.tN "UNASSIGNED_STACK" Bundle.steD A s' s'.heap := by rw [hhp]; exact vx_Zq.moved hW0.alike (hU.kept hS.2.1)
  have hN' : vx_Zq Bundle.tN "SUPPRESSED_SENTINEL" Bundle.listD A s' s'.heap := by rw [hhp]; exact vx_Zq.moved hW0.alike (hN.kept hS.2.1)
  have h : ∀ w ∈ Bundle.ownAtoms0 own ic cls names, w.before args s' = true := vx_own hat' (vx_isRefq hU'.1) (vx_isRefq hN'.1) hU'.2.word hN'.2.word
  have hown' : s'.vm.findClass own = some m.cls := by rw [hvm]; exact hown
  have hins : (Cond.instantiable cls 6).before args s' = true := h _ (by simp [Bundle.ownAtoms0])
  obtain ⟨vm₁, cX, kX, hfX, hkX, -, -, X₁, st1⟩ := Y.newCold hexec (own := own) (C := cls) (index := ik) (n := 6) hown' hk' hins hini'
    (g := F0 m pc ls rest) rfl (by rw [hb]; exact d0) (Nat.le_refl _) (Nat.le_refl _)
  generalize hT1 : (T.setVm vm₁).pushCell { cls := cX, slots := kX.instanceTypes.map defaultValue, vm := .none } = T1 at X₁ st1
  have hcat : (Value.ref T.heap.size).category = 1 := rfl
  have hcellA : T1.heap[T.heap.size]? = some (freshCell cX kX) := by rw [← hT1]; exact State.heap_pushCell_size _ _
  have d3' : decode c.code (pc + 3) = .ok (.dup, 1) := by rw [hb]; exact d3
  obtain ⟨U, hsteps, hrun, hend, hW, hsame, ce, hce, hO⟩ := X₁.ctorThrow0 hexec htr (own := own) (cls := cls) (names := names) (ic := ic) hown' hcls hnames h (fun x hx => nomatch hx) hfX hkX hcellA (by rw [hhp, hT]; exact Nat.le_refl _)
    (g := { method := m, pc := pc + 4, locals := ls, stack := .ref T.heap.size :: .ref T.heap.size :: rest, locked := none }) rfl hsize rfl rfl (rest := rest) rfl
    (by rw [hb]; exact d4) (by rw [hb]; exact d7) hout hRframes (by simp only [List.map_cons, List.sum_cons, hcat]; omega) hlocks
  obtain ⟨f1, f2⟩ := vx_frame hsame
  rw [hhp] at f1 f2
  have hWs : s.WarmedH U.vm := State.WarmedH.trans hW0 hW
  have hcl : s.vm.findClass cls = some ce.cls := by
    have h9 := hO.cls
    rw [hvm] at h9
    exact h9
  have hall : s.sameButNew ({ U with vm := s.vm } : State) locs mc ms := by
    subst hA
    obtain ⟨e1, e2⟩ := hsame
    rw [State.setFrames_setFrames] at e1
    have h2 : (T.setVm s.vm).sameButNew ({ U with vm := s.vm } : State) [] (0 + 1) (0 + 6) := ⟨e1, e2⟩
    have h3 := X.same.trans h2
    rw [List.append_nil] at h3
    exact h3.mono hc hs
  refine ⟨U, ?_, .threw T.heap.size, hrun, hend, Or.inr ⟨T.heap.size, rfl, cls, ce, locs, hx U hWs.alike f1 (fun q hq => f2 q hq (fun z hz => nomatch hz)), hce, hO.vm, hcl, hWs, hall, hf⟩⟩
  refine st1 _ ?_
  show Steps p.tables e below (T1.setTop { method := m, pc := pc + 3, locals := ls, stack := .ref T.heap.size :: rest, locked := none }) _
  jvm_step X₁.here [X₁.here.top, hexec, d3', Value.category]
  exact hsteps
/-- 'throw new E("text")': new; dup; ldc; invokespecial; athrow -/
theorem vx_throwS {cc : ByteArray} {pc : Nat} (hexec : p.tables.exec = Jvm.exec) (hb : c.code = cc) (hl : l.stackTraces = false) {own cls text : String} {names : List String} {ik is ic mc ms sa : Nat} {A : Nat → Prop}
    (hown : s.vm.findClass own = some m.cls) (hcls : Bundle.fit cls = true) (hnames : ∀ n ∈ names, Bundle.fit n = true)
    (hk : (Cond.classLink own ik cls).before args s = true) (hini : (Cond.initialized cls).before args s = true) (hstr : vk_R own is text sa s) (hat : ∀ w ∈ vx_atS own ic cls names, w.before args s = true)
    (hgood : ∀ w ∈ Cond.classLink own ik cls :: Cond.initialized cls :: vx_atS own ic cls names, vx_ot w = true)
    (hU : vx_Zq Bundle.tN "UNASSIGNED_STACK" Bundle.steD A s s.heap) (hN : vx_Zq Bundle.tN "SUPPRESSED_SENTINEL" Bundle.listD A s s.heap) (hS : va_S A s.heap H locs) (hsize : ls.size = c.maxLocals)
    (d0 : decode cc pc = .ok (.new ik, 3)) (d3 : decode cc (pc + 3) = .ok (.dup, 1)) (d4 : decode cc (pc + 4) = .ok (.ldc is, 2)) (d6 : decode cc (pc + 6) = .ok (.invokespecial ic, 3)) (d9 : decode cc (pc + 9) = .ok (.athrow, 1))
    (hout : ∀ x ∈ c.exceptionTable.toList, covers x (pc + 9) = false)
    (hRframes : names.length + 3 < R.frames) (hRlocals : (rest.map fun v => v.category).sum + (13 * (names.length + 1) + 43) ≤ R.locals) (hRcells : cells + 1 ≤ R.cells) (hRslots : slots + 6 ≤ R.slots) (hlocks : meth.locks = false)
    (hx : ∀ t : State, s.vm.Alike t.vm → H.size ≤ t.heap.size → (∀ q : Nat, q < H.size → t.heap[q]? = H[q]?) → XC cls s t)
    (hf : ∀ z ∈ locs, free z.base) (hc : cells + 1 ≤ mc) (hs : slots + 6 ≤ ms) :
    W p l e R s m args below meth c H locs cells slots (vx_MQ below Qc XC args s mc ms free) (F0 m pc ls rest) := by
  intro T hT X
  have htr : e.platform.stackTraces = false := (show e.platform.stackTraces = l.stackTraces by rw [X.admits.platform]).trans hl
  have Y := vx_rebase X (R' := { frames := R.frames, locals := R.locals, cells := 1, slots := 6 }) (Nat.le_refl _) (Nat.le_refl _) hRcells hRslots
  obtain ⟨s', hA⟩ : ∃ z, z = (T.setVm s.vm).setFrames (.invoking m args :: below) := ⟨_, rfl⟩
  rw [← hA] at Y
  have hvm : s'.vm = s.vm := by rw [hA]; rfl
  have hhp : s'.heap = H := by rw [hA]; exact hT
  have hW0 : s.WarmedH s'.vm := by rw [hvm]; exact State.WarmedH.refl s
  have hat' : ∀ w ∈ vx_atS own ic cls names, w.before args s' = true := fun w hw => vx_ot_at hW0 hvm.symm (hgood w (List.mem_cons_of_mem _ (List.mem_cons_of_mem _ hw))) (hat w hw)
  have hk' : (Cond.classLink own ik cls).before args s' = true := vx_ot_at hW0 hvm.symm (hgood _ List.mem_cons_self) hk
  have hini' : (Cond.initialized cls).before args s' = true := vx_ot_at hW0 hvm.symm (hgood _ (List.mem_cons_of_mem _ List.mem_cons_self)) hini
  have hU' : vx_Zq Bundle.tN "UNASSIGNED_STACK" Bundle.steD A s' s'.heap := by rw [hhp]; exact vx_Zq.moved hW0.alike (hU.kept hS.2.1)
  have hN' : vx_Zq Bundle.tN "SUPPRESSED_SENTINEL" Bundle.listD A s' s'.heap := by rw [hhp]; exact vx_Zq.moved hW0.alike (hN.kept hS.2.1)
  have h : ∀ w ∈ Bundle.ownAtoms own ic cls names, w.before args s' = true := vx_own hat' (vx_isRefq hU'.1) (vx_isRefq hN'.1) hU'.2.word hN'.2.word
  have hown' : s'.vm.findClass own = some m.cls := by rw [hvm]; exact hown
  have hins : (Cond.instantiable cls 6).before args s' = true := h _ (by simp [Bundle.ownAtoms])
  obtain ⟨vm₁, cX, kX, hfX, hkX, -, -, X₁, st1⟩ := Y.newCold hexec (own := own) (C := cls) (index := ik) (n := 6) hown' hk' hins hini'
    (g := F0 m pc ls rest) rfl (by rw [hb]; exact d0) (Nat.le_refl _) (Nat.le_refl _)
  generalize hT1 : (T.setVm vm₁).pushCell { cls := cX, slots := kX.instanceTypes.map defaultValue, vm := .none } = T1 at X₁ st1
  have hcat : (Value.ref T.heap.size).category = 1 := rfl
  have hcellA : T1.heap[T.heap.size]? = some (freshCell cX kX) := by rw [← hT1]; exact State.heap_pushCell_size _ _
  have d3' : decode c.code (pc + 3) = .ok (.dup, 1) := by rw [hb]; exact d3
  have d4' : decode c.code (pc + 4) = .ok (.ldc is, 2) := by rw [hb]; exact d4
  have hstr' : vk_R own is text sa s' := vk_R.warm hW0 hstr
  obtain ⟨U, hsteps, hrun, hend, hW, hsame, ce, hce, hO⟩ := X₁.ctorThrowS hexec htr (own := own) (cls := cls) (names := names) (ic := ic) hown' hcls hnames h (fun x hx => nomatch hx) hfX hkX hcellA (by rw [hhp, hT]; exact Nat.le_refl _) (msg := .ref sa) rfl
    (g := { method := m, pc := pc + 6, locals := ls, stack := .ref sa :: .ref T.heap.size :: .ref T.heap.size :: rest, locked := none }) rfl hsize rfl rfl (rest := rest) rfl
    (by rw [hb]; exact d6) (by rw [hb]; exact d9) hout hRframes (by simp only [List.map_cons, List.sum_cons, hcat]; omega) hlocks
  obtain ⟨f1, f2⟩ := vx_frame hsame
  rw [hhp] at f1 f2
  have hWs : s.WarmedH U.vm := State.WarmedH.trans hW0 hW
  have hcl : s.vm.findClass cls = some ce.cls := by
    have h9 := hO.cls
    rw [hvm] at h9
    exact h9
  have hall : s.sameButNew ({ U with vm := s.vm } : State) locs mc ms := by
    subst hA
    obtain ⟨e1, e2⟩ := hsame
    rw [State.setFrames_setFrames] at e1
    have h2 : (T.setVm s.vm).sameButNew ({ U with vm := s.vm } : State) [] (0 + 1) (0 + 6) := ⟨e1, e2⟩
    have h3 := X.same.trans h2
    rw [List.append_nil] at h3
    exact h3.mono hc hs
  refine ⟨U, ?_, .threw T.heap.size, hrun, hend, Or.inr ⟨T.heap.size, rfl, cls, ce, locs, hx U hWs.alike f1 (fun q hq => f2 q hq (fun z hz => nomatch hz)), hce, hO.vm, hcl, hWs, hall, hf⟩⟩
  refine st1 _ ?_
  show Steps p.tables e below (T1.setTop { method := m, pc := pc + 3, locals := ls, stack := .ref T.heap.size :: rest, locked := none }) _
  jvm_step X₁.here [X₁.here.top, hexec, d3', Value.category]
  exact X₁.ldcString hexec (own := own) (text := text) (index := is) (a := sa) hown' hstr'.1 hstr'.2
    (g := { method := m, pc := pc + 4, locals := ls, stack := .ref T.heap.size :: .ref T.heap.size :: rest, locked := none }) rfl d4' _ hsteps
/-- 'throw new E("text")', the text by a wide index -/
theorem vx_throwSW {cc : ByteArray} {pc : Nat} (hexec : p.tables.exec = Jvm.exec) (hb : c.code = cc) (hl : l.stackTraces = false) {own cls text : String} {names : List String} {ik is ic mc ms sa : Nat} {A : Nat → Prop}
    (hown : s.vm.findClass own = some m.cls) (hcls : Bundle.fit cls = true) (hnames : ∀ n ∈ names, Bundle.fit n = true)
    (hk : (Cond.classLink own ik cls).before args s = true) (hini : (Cond.initialized cls).before args s = true) (hstr : vk_R own is text sa s) (hat : ∀ w ∈ vx_atS own ic cls names, w.before args s = true)
    (hgood : ∀ w ∈ Cond.classLink own ik cls :: Cond.initialized cls :: vx_atS own ic cls names, vx_ot w = true)
    (hU : vx_Zq Bundle.tN "UNASSIGNED_STACK" Bundle.steD A s s.heap) (hN : vx_Zq Bundle.tN "SUPPRESSED_SENTINEL" Bundle.listD A s s.heap) (hS : va_S A s.heap H locs) (hsize : ls.size = c.maxLocals)
    (d0 : decode cc pc = .ok (.new ik, 3)) (d3 : decode cc (pc + 3) = .ok (.dup, 1)) (d4 : decode cc (pc + 4) = .ok (.ldc_w is, 3)) (d7 : decode cc (pc + 7) = .ok (.invokespecial ic, 3)) (d10 : decode cc (pc + 10) = .ok (.athrow, 1))
    (hout : ∀ x ∈ c.exceptionTable.toList, covers x (pc + 10) = false)
    (hRframes : names.length + 3 < R.frames) (hRlocals : (rest.map fun v => v.category).sum + (13 * (names.length + 1) + 43) ≤ R.locals) (hRcells : cells + 1 ≤ R.cells) (hRslots : slots + 6 ≤ R.slots) (hlocks : meth.locks = false)
    (hx : ∀ t : State, s.vm.Alike t.vm → H.size ≤ t.heap.size → (∀ q : Nat, q < H.size → t.heap[q]? = H[q]?) → XC cls s t)
    (hf : ∀ z ∈ locs, free z.base) (hc : cells + 1 ≤ mc) (hs : slots + 6 ≤ ms) :
    W p l e R s m args below meth c H locs cells slots (vx_MQ below Qc XC args s mc ms free) (F0 m pc ls rest) := by
  intro T hT X
  have htr : e.platform.stackTraces = false := (show e.platform.stackTraces = l.stackTraces by rw [X.admits.platform]).trans hl
  have Y := vx_rebase X (R' := { frames := R.frames, locals := R.locals, cells := 1, slots := 6 }) (Nat.le_refl _) (Nat.le_refl _) hRcells hRslots
  obtain ⟨s', hA⟩ : ∃ z, z = (T.setVm s.vm).setFrames (.invoking m args :: below) := ⟨_, rfl⟩
  rw [← hA] at Y
  have hvm : s'.vm = s.vm := by rw [hA]; rfl
  have hhp : s'.heap = H := by rw [hA]; exact hT
  have hW0 : s.WarmedH s'.vm := by rw [hvm]; exact State.WarmedH.refl s
  have hat' : ∀ w ∈ vx_atS own ic cls names, w.before args s' = true := fun w hw => vx_ot_at hW0 hvm.symm (hgood w (List.mem_cons_of_mem _ (List.mem_cons_of_mem _ hw))) (hat w hw)
  have hk' : (Cond.classLink own ik cls).before args s' = true := vx_ot_at hW0 hvm.symm (hgood _ List.mem_cons_self) hk
  have hini' : (Cond.initialized cls).before args s' = true := vx_ot_at hW0 hvm.symm (hgood _ (List.mem_cons_of_mem _ List.mem_cons_self)) hini
  have hU' : vx_Zq Bundle.tN "UNASSIGNED_STACK" Bundle.steD A s' s'.heap := by rw [hhp]; exact vx_Zq.moved hW0.alike (hU.kept hS.2.1)
  have hN' : vx_Zq Bundle.tN "SUPPRESSED_SENTINEL" Bundle.listD A s' s'.heap := by rw [hhp]; exact vx_Zq.moved hW0.alike (hN.kept hS.2.1)
  have h : ∀ w ∈ Bundle.ownAtoms own ic cls names, w.before args s' = true := vx_own hat' (vx_isRefq hU'.1) (vx_isRefq hN'.1) hU'.2.word hN'.2.word
  have hown' : s'.vm.findClass own = some m.cls := by rw [hvm]; exact hown
  have hins : (Cond.instantiable cls 6).before args s' = true := h _ (by simp [Bundle.ownAtoms])
  obtain ⟨vm₁, cX, kX, hfX, hkX, -, -, X₁, st1⟩ := Y.newCold hexec (own := own) (C := cls) (index := ik) (n := 6) hown' hk' hins hini'
    (g := F0 m pc ls rest) rfl (by rw [hb]; exact d0) (Nat.le_refl _) (Nat.le_refl _)
  generalize hT1 : (T.setVm vm₁).pushCell { cls := cX, slots := kX.instanceTypes.map defaultValue, vm := .none } = T1 at X₁ st1
  have hcat : (Value.ref T.heap.size).category = 1 := rfl
  have hcellA : T1.heap[T.heap.size]? = some (freshCell cX kX) := by rw [← hT1]; exact State.heap_pushCell_size _ _
  have d3' : decode c.code (pc + 3) = .ok (.dup, 1) := by rw [hb]; exact d3
  have d4' : decode c.code (pc + 4) = .ok (.ldc_w is, 3) := by rw [hb]; exact d4
  have hstr' : vk_R own is text sa s' := vk_R.warm hW0 hstr
  obtain ⟨U, hsteps, hrun, hend, hW, hsame, ce, hce, hO⟩ := X₁.ctorThrowS hexec htr (own := own) (cls := cls) (names := names) (ic := ic) hown' hcls hnames h (fun x hx => nomatch hx) hfX hkX hcellA (by rw [hhp, hT]; exact Nat.le_refl _) (msg := .ref sa) rfl
    (g := { method := m, pc := pc + 7, locals := ls, stack := .ref sa :: .ref T.heap.size :: .ref T.heap.size :: rest, locked := none }) rfl hsize rfl rfl (rest := rest) rfl
    (by rw [hb]; exact d7) (by rw [hb]; exact d10) hout hRframes (by simp only [List.map_cons, List.sum_cons, hcat]; omega) hlocks
  obtain ⟨f1, f2⟩ := vx_frame hsame
  rw [hhp] at f1 f2
  have hWs : s.WarmedH U.vm := State.WarmedH.trans hW0 hW
  have hcl : s.vm.findClass cls = some ce.cls := by
    have h9 := hO.cls
    rw [hvm] at h9
    exact h9
  have hall : s.sameButNew ({ U with vm := s.vm } : State) locs mc ms := by
    subst hA
    obtain ⟨e1, e2⟩ := hsame
    rw [State.setFrames_setFrames] at e1
    have h2 : (T.setVm s.vm).sameButNew ({ U with vm := s.vm } : State) [] (0 + 1) (0 + 6) := ⟨e1, e2⟩
    have h3 := X.same.trans h2
    rw [List.append_nil] at h3
    exact h3.mono hc hs
  refine ⟨U, ?_, .threw T.heap.size, hrun, hend, Or.inr ⟨T.heap.size, rfl, cls, ce, locs, hx U hWs.alike f1 (fun q hq => f2 q hq (fun z hz => nomatch hz)), hce, hO.vm, hcl, hWs, hall, hf⟩⟩
  refine st1 _ ?_
  show Steps p.tables e below (T1.setTop { method := m, pc := pc + 3, locals := ls, stack := .ref T.heap.size :: rest, locked := none }) _
  jvm_step X₁.here [X₁.here.top, hexec, d3', Value.category]
  exact X₁.ldcStringW hexec (own := own) (text := text) (index := is) (a := sa) hown' hstr'.1 hstr'.2
    (g := { method := m, pc := pc + 4, locals := ls, stack := .ref T.heap.size :: .ref T.heap.size :: rest, locked := none }) rfl d4' _ hsteps
end Ends
section Bodies
variable {l : Launch}
theorem vx_ofW {y : MethodName} {ws ws' : List Cond} {rm : Room} {Pc : Array Value → State → Prop} {Qc : Array Value → State → Outcome → State → Prop} {XC : String → State → State → Prop} {mc ms : Nat} {free : Addr → Prop} {cc : ByteArray} {maxL : Nat} {ret : Option FieldType}
    (hy : plainName y.cls = true) (hw : ws = Cond.code y cc maxL ret :: ws')
    (body : ∀ p e s m args below meth c s₁, BodyLoose p l y (headSpec ws rm) cc maxL ret e s m args below meth c s₁ → c.maxLocals = maxL → (∀ x ∈ c.exceptionTable.toList, False) → Pc args s →
      W p l e (headSpec ws rm).room s m args below meth c s.heap [] 0 0 (vx_MQ below Qc XC args s mc ms free) (entryFrame m args maxL)) : vx_Met l y ws rm Pc Qc XC mc ms free := by
  refine MetFree.of_bodyS (code := cc) (maxLocals := maxL) (ret := ret) hy ?_ ?_
  · intro args s m h hn
    obtain ⟨meth, c, h1, h2, h3, h4, h5, h6, -, -⟩ := Cond.code_spec hn (atoms_spec (ws := ws) h _ (by rw [hw]; exact List.mem_cons_self))
    exact ⟨meth, c, h1, h2, h3, h4, h5, h6⟩
  · intro p e s m args below meth c s₁ B hml hP _
    have hh0 : s₁.heap = s.heap := by rw [B.state]; rfl
    have ht : ∀ x ∈ c.exceptionTable.toList, False := by
      obtain ⟨meth9, c9, h1, h2, -, -, -, -, h7, -⟩ := Cond.code_spec B.named (atoms_spec (ws := ws) B.pre _ (by rw [hw]; exact List.mem_cons_self))
      cases Option.some.inj (h1.symm.trans B.method)
      cases Option.some.inj (h2.symm.trans (Stand.of_body B).code)
      intro x hx
      rw [Array.isEmpty_iff.mp h7] at hx
      cases hx
    obtain ⟨t, a1, o, b1, b2, b3⟩ := body p e s m args below meth c s₁ B hml ht hP s₁ hh0 (Stand.of_body B)
    exact ⟨t, o, a1, b1, b2, b3⟩
/-- the table of a body with handlers -/
theorem vx_table {p : Program} {x y : MethodName} {S : Spec} {cc bytes : ByteArray} {maxL maxL' : Nat} {ret ret' : Option FieldType} {e : Env} {s s₁ : State} {m : MethodId} {args : Array Value} {below : List Frame} {meth : Method} {c : Code} {hh : List (Nat × Nat × Nat × Nat)}
    (B : BodyLoose p l y S cc maxL ret e s m args below meth c s₁) (h : (Cond.codeWith y bytes maxL' ret' hh).before args s = true) : c.exceptionTable.toList = tableOf hh := by
  obtain ⟨m9, meth9, c9, hn9, h1, h2, -, -, h6, -⟩ := Cond.codeWith_spec h
  cases Option.some.inj (hn9.symm.trans B.named)
  cases Option.some.inj (h1.symm.trans B.method)
  cases Option.some.inj (h2.symm.trans (Stand.of_body B).code)
  rw [← h6, table_eq]
end Bodies
end VXA
/-! ===== END ===== -/
/-! ===== BEGIN a static call of a method with an exception table ===== -/
section VXS
variable {p : Program} {l : Launch} {e : Env} {R : Room} {s : State} {m : MethodId} {args : Array Value} {below : List Frame} {meth : Method} {c : Code} {T : State} {H : Heap} {locs : List Loc} {cells slots : Nat}
abbrev vx_CSW (R : Room) (s : State) (args : Array Value) (own : String) (index : Nat) (y : MethodName) (bytes : ByteArray) (maxL : Nat) (ret : Option FieldType) (hh : List (Nat × Nat × Nat × Nat)) (ws : List Cond) (rm : Room) (mc ms n : Nat) : Prop :=
  (rm.cells = mc ∧ rm.slots = ms ∧ rm.frames + 1 ≤ R.frames ∧ 8 + (maxL + 11) + rm.locals ≤ R.locals ∧ (∀ w ∈ ws, ∀ (a' : Array Value) (U : State), s.WarmedH U.vm → w.before a' U = true) ∧ Cond.codeWith y bytes maxL ret hh ∈ ws) ∧
  (Cond.codeWith y bytes maxL ret hh).before args s = true ∧ (Cond.initialized y.cls).before args s = true ∧ (y.cls ≠ "java/lang/invoke/MethodHandle" ∧ y.cls ≠ "java/lang/invoke/VarHandle") ∧
  (∀ sig, parseMethodDescriptor y.desc = some sig → n = sig.parameters.length) ∧ (Cond.methodLink own index y).before args s = true ∧ (Cond.static y).before args s = true
theorem vx_cwSW {own : String} {index maxL mc ms : Nat} {y : MethodName} {bytes : ByteArray} {ret : Option FieldType} {hh : List (Nat × Nat × Nat × Nat)} {Ts ws ws' : List Cond} {rm : Room} (n : Nat) (ht : ∀ w ∈ Ts, w.before args s = true) (hT : GoodIn Ts (va_wsS own index y ws)) (hw : ws = Cond.codeWith y bytes maxL ret hh :: ws') (hrc : rm.cells = mc) (hrs : rm.slots = ms)
    (hd : y.cls ≠ "java/lang/invoke/MethodHandle" ∧ y.cls ≠ "java/lang/invoke/VarHandle" ∧ (parseMethodDescriptor y.desc).map (fun d => d.parameters.length) = some n) (hR : rm.frames + 1 ≤ R.frames ∧ 8 + (maxL + 11) + rm.locals ≤ R.locals) :
    vx_CSW R s args own index y bytes maxL ret hh ws rm mc ms n := by
  have ok : ∀ w ∈ va_wsS own index y ws, w.before args s = true := fun w h => ht w (hT w h).1
  have hG : GoodIn Ts ws := fun w h => hT w (by unfold va_wsS; exact List.mem_append_right _ h)
  have hc : Cond.codeWith y bytes maxL ret hh ∈ ws := by rw [hw]; exact List.mem_cons_self
  refine ⟨⟨hrc, hrs, hR.1, hR.2, pay_in ht hG, hc⟩, ht _ (hG _ hc).1, ok _ (by simp [va_wsS]), ⟨hd.1, hd.2.1⟩, fun sig h => ?_, ok _ (by simp [va_wsS]), ok _ (by simp [va_wsS])⟩
  have h2 := hd.2.2
  rw [h] at h2
  exact (Option.some.inj h2).symm
theorem vx_callSW (X : Stand p l e R s m args below meth c T locs cells slots) (hexec : p.tables.exec = Jvm.exec) {own : String} {index : Nat} {y : MethodName} {bytes : ByteArray} {maxL : Nat} {ret : Option FieldType} {hh : List (Nat × Nat × Nat × Nat)}
    (hown : s.vm.findClass own = some m.cls) (hlink : (Cond.methodLink own index y).before args s = true) (hstat : (Cond.static y).before args s = true) (hinit : (Cond.initialized y.cls).before args s = true)
    (hcode : (Cond.codeWith y bytes maxL ret hh).before args s = true) (hy : y.cls ≠ "java/lang/invoke/MethodHandle" ∧ y.cls ≠ "java/lang/invoke/VarHandle")
    {W9 : Nat} {Pre : Pt → Array Value → Prop} {Post : Pt → Array Value → Option Value → Pt → Prop} (hK : Back l R p e below s args y 3 W9 Pre Post)
    {g : JFrame} (hg : g.method = m) (hsize : g.locals.size = c.maxLocals) {argsL rest : List Value} (hlen : ∀ sig, parseMethodDescriptor y.desc = some sig → argsL.length = sig.parameters.length)
    (hstack : g.stack = argsL.reverse ++ rest) (hW : 2 * g.monitorRoom + (rest.map fun v => v.category).sum ≤ W9) (hdg : decode c.code g.pc = .ok (.invokestatic index, 3))
    (hpre : ∀ vm₁, s.WarmedH vm₁ → Pre ⟨T.setVm vm₁, locs, cells, slots⟩ argsL.toArray) :
    ∃ (v : Option Value) (vm₁ : Vm) (B : Pt), s.WarmedH vm₁ ∧ Stand p l e R s m args below meth c B.U B.locs B.cells B.slots ∧ Post ⟨T.setVm vm₁, locs, cells, slots⟩ argsL.toArray v B ∧
      ∀ target, Steps p.tables e below (B.U.setTop { g with pc := g.pc + 3, stack := v.toList ++ rest }) target → Steps p.tables e below (T.setTop g) target := by
  obtain ⟨mk, methM, cM, hnamed, hmethM, -, -, -, -, -, -, hsigM⟩ := Cond.codeWith_spec hcode
  have hstatic : methM.isStatic = true := Cond.static_spec hnamed hmethM hstat
  obtain ⟨kP, hkP, -⟩ := className_of_methodNamed hnamed
  have hinitP : kP.init = .initialized := Cond.initialized_spec (findClass_of_methodNamed hnamed) hkP hinit
  obtain ⟨vm₁, X₁, hstep₁⟩ := X.invokestatic hexec hown hlink hnamed hmethM hstatic hkP hinitP hy (g := g) hg (argsL := argsL) (rest := rest) (hlen _ hsigM) hstack hdg
  obtain ⟨v, B, X', hpost, hsteps⟩ := hK m meth c ⟨T.setVm vm₁, locs, cells, slots⟩ { g with stack := rest } (.invokestatic index) mk argsL.toArray X₁ hg hsize hdg hW (X₁.named hnamed) (hpre vm₁ X₁.warmed)
  exact ⟨v, vm₁, B, X₁.warmed, X', hpost, fun target h => hstep₁ _ fun acts => by rw [doInvoke_state]; exact hsteps.trans h⟩
theorem vx_runSW {y : MethodName} {bytes cc : ByteArray} {maxL nL mc ms n index : Nat} {ret : Option FieldType} {hh : List (Nat × Nat × Nat × Nat)} {ws : List Cond} {rm : Room} {Pc : Array Value → State → Prop} {Qc : Array Value → State → Outcome → State → Prop} {free : Addr → Prop} {Ts : List Cond} {own : String} {As rest : List Value} {g : JFrame}
    (S : CallFix p m c cc nL s args Ts own) (hM : Met l y ws rm Pc Qc mc ms free) (cw : vx_CSW R s args own index y bytes maxL ret hh ws rm mc ms n) (hp : PreS s H Pc As)
    (hg : g.method = m) (hn : As.length = n) (hsize : g.locals.size = nL) (hstack : g.stack = As.reverse ++ rest) (hW : 2 * g.monitorRoom + (rest.map fun v => v.category).sum ≤ 8) (hdg : decode cc g.pc = .ok (.invokestatic index, 3)) (hf : cells + mc ≤ R.cells ∧ slots + ms ≤ R.slots) :
    va_Run p l e R s m args below meth c H locs cells slots mc ms g rest (Qc As.toArray) (free) := by
  obtain ⟨⟨hrc, hrs, hfr, hlo, hws, hcw⟩, hcode, hini, hy, hlen, hl, hstt⟩ := cw
  have hK : Back l R p e below s args y 3 8 (PreOf R mc ms Pc) (PostOf Qc mc ms free) := va_backW (hh := hh) (bytes := bytes) (maxL := maxL) (ret := ret) hM hp.1 hrc hrs hfr hlo hws hcw (fun a' U hW => word_at hW (Or.inl (by first | rfl | simp [Cond.onTables, Cond.keeps, Cond.steady])) hini)
  obtain ⟨hx, hb, hml, ho, -⟩ := S
  intro T hT X
  obtain ⟨v, vm₁, ⟨U', l2, c2, s2⟩, hW₁, X', ⟨g', mk, t, L, e1, e2, hq, h1, hL, h2, h3⟩, st⟩ := vx_callSW X hx (hh := hh) (bytes := bytes) (maxL := maxL) (ret := ret) ho hl hstt hini hcode hy hK hg (hsize.trans hml.symm) (argsL := As) (rest := rest) (fun sig h => hn.trans (hlen sig h)) hstack hW (by rw [hb]; exact hdg)
    (fun vm₁ hW₁ => ⟨hf.1, hf.2, hp.2 (T.setVm vm₁) hT hW₁⟩)
  dsimp only [Pt.U, Pt.locs, Pt.cells, Pt.slots] at X' e1 e2 h1 h2 h3 st
  subst h1; subst h2; subst h3
  exact ⟨v, (T.setVm vm₁).calling g' mk As.toArray, t, U', L, hT, X', hL, e1, e2, hq, st⟩
/-- not caught here, past rows that name other classes: it goes on to the caller -/
theorem vx_outP {p : Program} {l : Launch} {e : Env} {R : Room} {s : State} {m : MethodId} {args : Array Value} {below : List Frame} {meth : Method} {c : Code} {H : Heap} {locs : List Loc} {cells slots : Nat} {free : Addr → Prop} {ls : Array Slot} {rest : List Value} {Qc : Array Value → State → Outcome → State → Prop} {XC : String → State → State → Prop}
    {pc : Nat} {own E : String} {ce : Cell} {q : Addr} {mc ms : Nat} (hown : s.vm.findClass own = some m.cls) (hlocks : meth.locks = false)
    (hpass : ∀ z ∈ c.exceptionTable.toList, covers z pc = false ∨ (z.catchType ≠ 0 ∧ ∃ nm : String, (Cond.classLink own z.catchType nm).before args s = true ∧ va_Nc E nm s)) (hcell : H[q]? = some ce) (hv : ce.vm = .none) (hcl : s.vm.findClass E = some ce.cls)
    (hx : ∀ t : State, t.heap = H → s.vm.Alike t.vm → XC E s t) (hf : ∀ z ∈ locs, free z.base) (hc : cells ≤ mc) (hs : slots ≤ ms) :
    vx_W p l e R s m args below meth c H locs cells slots (vx_MQ below Qc XC args s mc ms free) (F0 m pc ls rest) q := by
  intro T hT X
  have hpl : e.platform.magicAccessors = ({} : Platform).magicAccessors := by rw [X.admits.platform]
  obtain ⟨vm', hW', X', st⟩ := X.outThrough hlocks q (g := F0 m pc ls rest) rfl rfl rfl (cell := ce) (by rw [hT]; exact hcell) (by rw [hv]; rfl)
    (by obtain ⟨k9, h9, -⟩ := Vm.findClass_spec hcl; exact ⟨k9, h9⟩) (fun z hz => by
      rcases hpass z hz with h | ⟨hz0, nm, hl1, hn1⟩
      · exact Or.inl h
      · obtain ⟨c6, hc6, hcl6⟩ := Cond.classLink_spec hown hl1 e.platform hpl
        obtain ⟨a8, b8, h1, h2, h3⟩ := hn1
        cases Option.some.inj (h1.symm.trans hcl)
        cases Option.some.inj (h2.symm.trans hc6)
        exact Or.inr ⟨hz0, _, hcl6, h3⟩)
  obtain ⟨g₀, hfr⟩ := X'.frames_eq
  have hcell9 : ((T.setVm vm').setFrames (.throwing q :: below)).heap[q]? = some ce := by
    show T.heap[q]? = some ce
    rw [hT]; exact hcell
  have hend : Ended ((T.setVm vm').setFrames (.throwing q :: below)) below (.threw q) := State.frames_setFrames _ (State.cur_lt_of_frames hfr)
  refine ⟨(T.setVm vm').setFrames (.throwing q :: below), ?_, .threw q, X'.here.running, hend, Or.inr ⟨q, rfl, E, ce, locs, hx _ hT (X'.ends _).1.alike, hcell9, hv, hcl, (X'.ends _).1, (X'.ends _).2.mono hc hs, hf⟩⟩
  rw [X.pushThrowing_eq]
  exact st
/-- a thing of a world lies in the heap -/
theorem vx_lt {D : va_G} {cl : List vw_C} {ws : va_W} {H1 : Heap} (h : va_P D cl ws H1) {k : Nat} {q : Nat × va_E} (hk : ws[k]? = some q) : q.1 < H1.size := (h k q hk).lt
end VXS
/-! ===== END ===== -/
/-! ===== BEGIN methods with a table of their own: called by a name, returning or throwing ===== -/
section VXH
/-! vx_backW, vx_callVX, vx_callSX, vx_callVW, vx_runVW, vx_runVX, vx_runSX, vx_ofWH follow the same proofs as their sisters above (Free/Laws.lean, Shelf42/LK1.lean); vx_outP calls Shelf42/NT130.lean (outThrough). -/
section
variable {l : Launch} {R : Room} {p : Program} {e : Env} {below : List Frame} {s : State} {sargs : Array Value} {y : MethodName} {len W9 : Nat}
theorem vx_backW {ws : List Cond} {rm : Room} {Pc : Array Value → State → Prop} {Qc : Array Value → State → Outcome → State → Prop} {XC : String → State → State → Prop} {mc ms : Nat} {free : Addr → Prop} {bytes : ByteArray} {maxL : Nat} {ret : Option FieldType} {hh : List (Nat × Nat × Nat × Nat)}
    (hM : vx_Met l y ws rm Pc Qc XC mc ms free) (hblind : FrameBlind Pc) (hrc : rm.cells = mc) (hrs : rm.slots = ms)
    (hframes : rm.frames + 1 ≤ R.frames) (hlocals : W9 + (maxL + 11) + rm.locals ≤ R.locals)
    (hws : ∀ w ∈ ws, ∀ a' U, s.WarmedH U.vm → w.before a' U = true) (hcode : Cond.codeWith y bytes maxL ret hh ∈ ws) (hinit : ∀ a' U, s.WarmedH U.vm → (Cond.initialized y.cls).before a' U = true) :
    vx_Back l R p e below s sargs y len W9 (PreOf R mc ms Pc) (PostOf Qc mc ms free) (vx_Post XC mc ms free) := by
  intro m meth c A g ig mk a X hg hsize hdg hW hn hp
  have h1 : (headSpec ws rm).pre.before a A.U = true := atoms_intro fun w hw => hws w hw _ _ X.warmed
  have h2 : (Cond.codeWith y bytes maxL ret hh).before a A.U = true := hws _ hcode _ _ X.warmed
  have h3 : (Cond.initialized y.cls).before a A.U = true := hinit _ _ X.warmed
  have h4 : A.cells + (headSpec ws rm).room.cells ≤ R.cells := by rw [show (headSpec ws rm).room.cells = mc from hrc]; exact hp.1
  have h5 : A.slots + (headSpec ws rm).room.slots ≤ R.slots := by rw [show (headSpec ws rm).room.slots = ms from hrs]; exact hp.2.1
  have hPc : Pc a (A.U.calling g mk a) := hblind _ _ _ _ hp.2.2
  obtain ⟨U, Ls, c0, s0⟩ := A
  dsimp only [Pt.U, Pt.locs, Pt.cells, Pt.slots] at h1 h2 h3 h4 h5 X hn hPc ⊢
  obtain ⟨m9, methY, cY, hn9, hmY, hcY, -, hlY, -⟩ := Cond.codeWith_spec h2
  cases Option.some.inj (hn9.symm.trans hn)
  obtain ⟨kY, hkY, -⟩ := className_of_methodNamed hn
  have hinitY : kY.init = .initialized := Cond.initialized_spec (findClass_of_methodNamed hn) hkY h3
  have h : At U g.method c below := by rw [hg]; exact X.here
  have hlocals9 : W9 + (maxL + 11) + (headSpec ws rm).room.locals ≤ R.locals := hlocals
  have happ : (headSpec ws rm).appliesLoose y e.platform (U.calling g mk a) = true :=
    Spec.appliesLoose_calling (g := g) h hdg hn hkY hinitY
      (X.room_calling (g := g) (R' := (headSpec ws rm).room) hsize hmY hcY hframes (by rw [hlY]; omega) h4 h5) h1
  obtain ⟨mid, hmid⟩ := h.above
  have hfr : (U.setTop g).frames = (.java g :: mid) ++ below := by rw [State.frames_setTop' g h.top, hmid]; rfl
  obtain ⟨o, s₂, hsteps, -, hend, hq⟩ := Steps.callFree hM p X.admits X.cas X.clock (acts := []) hfr happ hPc trivial
  have hq' : vx_Q Qc XC mc ms free a (U.calling g mk a) o s₂ := hq
  rw [State.frames_setTop' g h.top] at hend
  obtain ⟨g₀, hg0⟩ := Option.isSome_iff_exists.mp h.top
  obtain ⟨r, hr⟩ := State.topJava?_eq_some.mp hg0
  have hr' : (({ U with heap := s₂.heap, slotsUsed := s₂.slotsUsed } : State).setVm s₂.vm).frames = .java g₀ :: r := hr
  rcases hq' with ⟨hqc, L, hfe, hL⟩ | ⟨q, rfl, E, ce, L, hx, hce, hcv, hcl, hW₂, hsm, hL⟩
  · obtain ⟨⟨v, rfl⟩, hW₂, e2, q2, q3, q4, q5, q6⟩ := id hfe
    have e3 : s₂ = ({ (U.calling g mk a).setFrames s₂.frames with heap := s₂.heap, slotsUsed := s₂.slotsUsed } : State).setVm s₂.vm := by
      have : s₂ = ({ s₂ with vm := (U.calling g mk a).vm } : State).setVm s₂.vm := rfl
      rw [e2] at this
      exact this
    obtain ⟨c₂, i₂, len₂, hc₂, hd₂, hf₂⟩ := hend
    have hW' : U.WarmedH s₂.vm := hW₂
    have hcc : c₂ = c := by
      have h1 : s₂.code? g.method = U.code? g.method := by
        rw [State.code?_eq, State.code?_eq, hW'.alike.method?]
      exact Option.some.inj (hc₂.symm.trans (h1.trans h.code))
    subst hcc
    have hlen : len₂ = len := by rw [hdg] at hd₂; cases hd₂; rfl
    subst hlen
    have hs₂ : s₂ = (({ U with heap := s₂.heap, slotsUsed := s₂.slotsUsed } : State).setVm s₂.vm).setTop { g with pc := g.pc + len₂, stack := v.toList ++ g.stack } := by
      refine e3.trans ?_
      rw [hf₂, State.calling_eq h.top, State.setFrames_setFrames, State.setTop_of_frames _ hr', hr]
      rfl
    have hsame : U.sameButNew ({ U with heap := s₂.heap, slotsUsed := s₂.slotsUsed } : State) L mc ms := by
      refine ⟨?_, q2, q3, q4, q5, q6⟩
      obtain ⟨t, ht, -⟩ := State.frames_cons hr
      show ({ U with heap := s₂.heap, slotsUsed := s₂.slotsUsed } : State) = { U.setFrames U.frames with heap := s₂.heap, slotsUsed := s₂.slotsUsed }
      rw [State.setFrames_self ht]
    subst hg
    refine Or.inl ⟨v, ⟨(({ U with heap := s₂.heap, slotsUsed := s₂.slotsUsed } : State).setVm s₂.vm), Ls ++ L, c0 + mc, s0 + ms⟩,
      ⟨X.admits, X.cas, X.clock, X.frames, X.room, X.hears, X.method, X.code, (X.here.setHeapUsed s₂.heap s₂.slotsUsed).setVm hW'.alike, X.tail, State.WarmedH.trans X.warmed hW', X.limits, X.bytes, X.same.trans (hsame.setVm s.vm)⟩,
      ⟨g, mk, s₂, L, rfl, rfl, hqc, rfl, hL, rfl, rfl⟩, ?_⟩
    show Steps p.tables e below _ ((({ U with heap := s₂.heap, slotsUsed := s₂.slotsUsed } : State).setVm s₂.vm).setTop { g with pc := g.pc + len₂, stack := v.toList ++ g.stack })
    rw [← hs₂]
    exact hsteps
  · obtain ⟨e2, q2, q3, q4, q5, q6⟩ := id hsm
    have e3 : s₂ = ({ (U.calling g mk a).setFrames s₂.frames with heap := s₂.heap, slotsUsed := s₂.slotsUsed } : State).setVm s₂.vm := by
      have : s₂ = ({ s₂ with vm := (U.calling g mk a).vm } : State).setVm s₂.vm := rfl
      rw [e2] at this
      exact this
    have hf₂ : s₂.frames = .throwing q :: .java g :: U.frames.tail := hend
    have hW' : U.WarmedH s₂.vm := hW₂
    have hs₂ : s₂ = ((({ U with heap := s₂.heap, slotsUsed := s₂.slotsUsed } : State).setVm s₂.vm).setTop g).pushFrame (.throwing q) := by
      refine e3.trans ?_
      rw [hf₂, State.calling_eq h.top, State.setFrames_setFrames, State.pushFrame, State.frames_setTop _ hr', State.setTop_of_frames _ hr', State.setFrames_setFrames, hr]
      rfl
    have hsame : U.sameButNew ({ U with heap := s₂.heap, slotsUsed := s₂.slotsUsed } : State) L mc ms := by
      refine ⟨?_, q2, q3, q4, q5, q6⟩
      obtain ⟨t, ht, -⟩ := State.frames_cons hr
      show ({ U with heap := s₂.heap, slotsUsed := s₂.slotsUsed } : State) = { U.setFrames U.frames with heap := s₂.heap, slotsUsed := s₂.slotsUsed }
      rw [State.setFrames_self ht]
    subst hg
    refine Or.inr ⟨q, ⟨(({ U with heap := s₂.heap, slotsUsed := s₂.slotsUsed } : State).setVm s₂.vm), Ls ++ L, c0 + mc, s0 + ms⟩,
      ⟨X.admits, X.cas, X.clock, X.frames, X.room, X.hears, X.method, X.code, (X.here.setHeapUsed s₂.heap s₂.slotsUsed).setVm hW'.alike, X.tail, State.WarmedH.trans X.warmed hW', X.limits, X.bytes, X.same.trans (hsame.setVm s.vm)⟩,
      ⟨g, mk, s₂, L, E, ce, rfl, rfl, hx, hce, hcv, hcl, rfl, hL, rfl, rfl⟩, ?_⟩
    show Steps p.tables e below _ (((({ U with heap := s₂.heap, slotsUsed := s₂.slotsUsed } : State).setVm s₂.vm).setTop g).pushFrame (.throwing q))
    rw [← hs₂]
    exact hsteps
end
variable {p : Program} {l : Launch} {e : Env} {R : Room} {s : State} {m : MethodId} {args : Array Value} {below : List Frame} {meth : Method} {c : Code} {T : State} {H : Heap} {locs : List Loc} {cells slots : Nat}
theorem vx_callVX (X : Stand p l e R s m args below meth c T locs cells slots) (hexec : p.tables.exec = Jvm.exec) {own C : String} {index : Nat} {y : MethodName} {bytes : ByteArray} {maxL : Nat} {ret : Option FieldType} {hh : List (Nat × Nat × Nat × Nat)}
    (hown : s.vm.findClass own = some m.cls) (hlink : (Cond.methodLink own index y).before args s = true) (hinst : (Cond.instanceMethod y).before args s = true) (hsel : (Cond.selects C y y).before args s = true)
    (hcode : (Cond.codeWith y bytes maxL ret hh).before args s = true) (hy : y.cls ≠ "java/lang/invoke/MethodHandle" ∧ y.cls ≠ "java/lang/invoke/VarHandle")
    {W9 : Nat} {Pre : Pt → Array Value → Prop} {Post : Pt → Array Value → Option Value → Pt → Prop} {PostX : Pt → Array Value → Addr → Pt → Prop} (hK : vx_Back l R p e below s args y 3 W9 Pre Post PostX)
    {b : Addr} {cellB : Cell} (hcell : T.heap[b]? = some cellB) (hobj : cellB.vm.isStatics = false) (hcls : s.vm.findClass C = some cellB.cls)
    {g : JFrame} (hg : g.method = m) (hsize : g.locals.size = c.maxLocals) {argsL rest : List Value} (hlen : ∀ sig, parseMethodDescriptor y.desc = some sig → argsL.length = sig.parameters.length)
    (hstack : g.stack = argsL.reverse ++ .ref b :: rest) (hW : 2 * g.monitorRoom + (rest.map fun v => v.category).sum ≤ W9) (hdg : decode c.code g.pc = .ok (.invokevirtual index, 3))
    (hpre : ∀ vm₁, s.WarmedH vm₁ → Pre ⟨T.setVm vm₁, locs, cells, slots⟩ (Value.ref b :: argsL).toArray) :
    (∃ (v : Option Value) (vm₁ : Vm) (B : Pt), s.WarmedH vm₁ ∧ Stand p l e R s m args below meth c B.U B.locs B.cells B.slots ∧ Post ⟨T.setVm vm₁, locs, cells, slots⟩ (Value.ref b :: argsL).toArray v B ∧
      ∀ target, Steps p.tables e below (B.U.setTop { g with pc := g.pc + 3, stack := v.toList ++ rest }) target → Steps p.tables e below (T.setTop g) target) ∨
    (∃ (q : Addr) (vm₁ : Vm) (B : Pt), s.WarmedH vm₁ ∧ Stand p l e R s m args below meth c B.U B.locs B.cells B.slots ∧ PostX ⟨T.setVm vm₁, locs, cells, slots⟩ (Value.ref b :: argsL).toArray q B ∧
      Steps p.tables e below (T.setTop g) ((B.U.setTop { g with stack := rest }).pushFrame (.throwing q))) := by
  obtain ⟨mk, methM, hnamed, hmethM, hstM, habM⟩ := Cond.instanceMethod_spec hinst
  obtain ⟨m8, methM', cM, hn8, hmethM', -, -, -, -, -, -, hsigM⟩ := Cond.codeWith_spec hcode
  cases Option.some.inj (hn8.symm.trans hnamed)
  cases hmethM.symm.trans hmethM'
  obtain ⟨c2, r2, m2, q1, q2, q3, q4, kP, hkP, hkPi⟩ := Cond.selects_spec hsel
  cases hcls.symm.trans q1
  cases (State.methodFound?_of_named hnamed hy).symm.trans q2
  cases hnamed.symm.trans q3
  have hselP : selectMethod e.platform s.vm cellB.cls mk = .method mk := by rw [Launch.admits_selectMethod X.admits]; exact q4
  obtain ⟨vm₁, X₁, hstep₁⟩ := X.invokevirtual hexec hown hlink hnamed hmethM hstM hkP hkPi hy (a := b) (cell := cellB) hcell
    (fun z h => by rw [h] at hobj; cases hobj) hselP hmethM habM hkP hkPi (g := g) hg (argsL := argsL) (rest := rest) (hlen _ hsigM) hstack hdg
  rcases hK m meth c ⟨T.setVm vm₁, locs, cells, slots⟩ { g with stack := rest } (.invokevirtual index) mk (Value.ref b :: argsL).toArray X₁ hg hsize hdg hW (X₁.named hnamed) (hpre vm₁ X₁.warmed) with ⟨v, B, X', hpost, hsteps⟩ | ⟨q, B, X', hpost, hsteps⟩
  · exact Or.inl ⟨v, vm₁, B, X₁.warmed, X', hpost, fun target h => hstep₁ _ fun acts => by rw [doInvoke_state]; exact hsteps.trans h⟩
  · exact Or.inr ⟨q, vm₁, B, X₁.warmed, X', hpost, hstep₁ _ fun acts => by rw [doInvoke_state]; exact hsteps⟩
theorem vx_callSX (X : Stand p l e R s m args below meth c T locs cells slots) (hexec : p.tables.exec = Jvm.exec) {own : String} {index : Nat} {y : MethodName} {bytes : ByteArray} {maxL : Nat} {ret : Option FieldType} {hh : List (Nat × Nat × Nat × Nat)}
    (hown : s.vm.findClass own = some m.cls) (hlink : (Cond.methodLink own index y).before args s = true) (hstat : (Cond.static y).before args s = true) (hinit : (Cond.initialized y.cls).before args s = true)
    (hcode : (Cond.codeWith y bytes maxL ret hh).before args s = true) (hy : y.cls ≠ "java/lang/invoke/MethodHandle" ∧ y.cls ≠ "java/lang/invoke/VarHandle")
    {W9 : Nat} {Pre : Pt → Array Value → Prop} {Post : Pt → Array Value → Option Value → Pt → Prop} {PostX : Pt → Array Value → Addr → Pt → Prop} (hK : vx_Back l R p e below s args y 3 W9 Pre Post PostX)
    {g : JFrame} (hg : g.method = m) (hsize : g.locals.size = c.maxLocals) {argsL rest : List Value} (hlen : ∀ sig, parseMethodDescriptor y.desc = some sig → argsL.length = sig.parameters.length)
    (hstack : g.stack = argsL.reverse ++ rest) (hW : 2 * g.monitorRoom + (rest.map fun v => v.category).sum ≤ W9) (hdg : decode c.code g.pc = .ok (.invokestatic index, 3))
    (hpre : ∀ vm₁, s.WarmedH vm₁ → Pre ⟨T.setVm vm₁, locs, cells, slots⟩ argsL.toArray) :
    (∃ (v : Option Value) (vm₁ : Vm) (B : Pt), s.WarmedH vm₁ ∧ Stand p l e R s m args below meth c B.U B.locs B.cells B.slots ∧ Post ⟨T.setVm vm₁, locs, cells, slots⟩ argsL.toArray v B ∧
      ∀ target, Steps p.tables e below (B.U.setTop { g with pc := g.pc + 3, stack := v.toList ++ rest }) target → Steps p.tables e below (T.setTop g) target) ∨
    (∃ (q : Addr) (vm₁ : Vm) (B : Pt), s.WarmedH vm₁ ∧ Stand p l e R s m args below meth c B.U B.locs B.cells B.slots ∧ PostX ⟨T.setVm vm₁, locs, cells, slots⟩ argsL.toArray q B ∧
      Steps p.tables e below (T.setTop g) ((B.U.setTop { g with stack := rest }).pushFrame (.throwing q))) := by
  obtain ⟨mk, methM, cM, hnamed, hmethM, -, -, -, -, -, -, hsigM⟩ := Cond.codeWith_spec hcode
  have hstatic : methM.isStatic = true := Cond.static_spec hnamed hmethM hstat
  obtain ⟨kP, hkP, -⟩ := className_of_methodNamed hnamed
  have hinitP : kP.init = .initialized := Cond.initialized_spec (findClass_of_methodNamed hnamed) hkP hinit
  obtain ⟨vm₁, X₁, hstep₁⟩ := X.invokestatic hexec hown hlink hnamed hmethM hstatic hkP hinitP hy (g := g) hg (argsL := argsL) (rest := rest) (hlen _ hsigM) hstack hdg
  rcases hK m meth c ⟨T.setVm vm₁, locs, cells, slots⟩ { g with stack := rest } (.invokestatic index) mk argsL.toArray X₁ hg hsize hdg hW (X₁.named hnamed) (hpre vm₁ X₁.warmed) with ⟨v, B, X', hpost, hsteps⟩ | ⟨q, B, X', hpost, hsteps⟩
  · exact Or.inl ⟨v, vm₁, B, X₁.warmed, X', hpost, fun target h => hstep₁ _ fun acts => by rw [doInvoke_state]; exact hsteps.trans h⟩
  · exact Or.inr ⟨q, vm₁, B, X₁.warmed, X', hpost, hstep₁ _ fun acts => by rw [doInvoke_state]; exact hsteps⟩
theorem vx_callVW (X : Stand p l e R s m args below meth c T locs cells slots) (hexec : p.tables.exec = Jvm.exec) {own C : String} {index : Nat} {y : MethodName} {bytes : ByteArray} {maxL : Nat} {ret : Option FieldType} {hh : List (Nat × Nat × Nat × Nat)}
    (hown : s.vm.findClass own = some m.cls) (hlink : (Cond.methodLink own index y).before args s = true) (hinst : (Cond.instanceMethod y).before args s = true) (hsel : (Cond.selects C y y).before args s = true)
    (hcode : (Cond.codeWith y bytes maxL ret hh).before args s = true) (hy : y.cls ≠ "java/lang/invoke/MethodHandle" ∧ y.cls ≠ "java/lang/invoke/VarHandle")
    {W9 : Nat} {Pre : Pt → Array Value → Prop} {Post : Pt → Array Value → Option Value → Pt → Prop} (hK : Back l R p e below s args y 3 W9 Pre Post)
    {b : Addr} {cellB : Cell} (hcell : T.heap[b]? = some cellB) (hobj : cellB.vm.isStatics = false) (hcls : s.vm.findClass C = some cellB.cls)
    {g : JFrame} (hg : g.method = m) (hsize : g.locals.size = c.maxLocals) {argsL rest : List Value} (hlen : ∀ sig, parseMethodDescriptor y.desc = some sig → argsL.length = sig.parameters.length)
    (hstack : g.stack = argsL.reverse ++ .ref b :: rest) (hW : 2 * g.monitorRoom + (rest.map fun v => v.category).sum ≤ W9) (hdg : decode c.code g.pc = .ok (.invokevirtual index, 3))
    (hpre : ∀ vm₁, s.WarmedH vm₁ → Pre ⟨T.setVm vm₁, locs, cells, slots⟩ (Value.ref b :: argsL).toArray) :
    ∃ (v : Option Value) (vm₁ : Vm) (B : Pt), s.WarmedH vm₁ ∧ Stand p l e R s m args below meth c B.U B.locs B.cells B.slots ∧ Post ⟨T.setVm vm₁, locs, cells, slots⟩ (Value.ref b :: argsL).toArray v B ∧
      ∀ target, Steps p.tables e below (B.U.setTop { g with pc := g.pc + 3, stack := v.toList ++ rest }) target → Steps p.tables e below (T.setTop g) target := by
  obtain ⟨mk, methM, hnamed, hmethM, hstM, habM⟩ := Cond.instanceMethod_spec hinst
  obtain ⟨m8, methM', cM, hn8, hmethM', -, -, -, -, -, -, hsigM⟩ := Cond.codeWith_spec hcode
  cases Option.some.inj (hn8.symm.trans hnamed)
  cases hmethM.symm.trans hmethM'
  obtain ⟨c2, r2, m2, q1, q2, q3, q4, kP, hkP, hkPi⟩ := Cond.selects_spec hsel
  cases hcls.symm.trans q1
  cases (State.methodFound?_of_named hnamed hy).symm.trans q2
  cases hnamed.symm.trans q3
  have hselP : selectMethod e.platform s.vm cellB.cls mk = .method mk := by rw [Launch.admits_selectMethod X.admits]; exact q4
  obtain ⟨vm₁, X₁, hstep₁⟩ := X.invokevirtual hexec hown hlink hnamed hmethM hstM hkP hkPi hy (a := b) (cell := cellB) hcell
    (fun z h => by rw [h] at hobj; cases hobj) hselP hmethM habM hkP hkPi (g := g) hg (argsL := argsL) (rest := rest) (hlen _ hsigM) hstack hdg
  obtain ⟨v, B, X', hpost, hsteps⟩ := hK m meth c ⟨T.setVm vm₁, locs, cells, slots⟩ { g with stack := rest } (.invokevirtual index) mk (Value.ref b :: argsL).toArray X₁ hg hsize hdg hW (X₁.named hnamed) (hpre vm₁ X₁.warmed)
  exact ⟨v, vm₁, B, X₁.warmed, X', hpost, fun target h => hstep₁ _ fun acts => by rw [doInvoke_state]; exact hsteps.trans h⟩
abbrev vx_CVW (R : Room) (s : State) (args : Array Value) (own C : String) (index : Nat) (y : MethodName) (bytes : ByteArray) (maxL : Nat) (ret : Option FieldType) (hh : List (Nat × Nat × Nat × Nat)) (ws : List Cond) (rm : Room) (mc ms n : Nat) : Prop :=
  (rm.cells = mc ∧ rm.slots = ms ∧ rm.frames + 1 ≤ R.frames ∧ 8 + (maxL + 11) + rm.locals ≤ R.locals ∧ (∀ w ∈ ws, ∀ (a' : Array Value) (U : State), s.WarmedH U.vm → w.before a' U = true) ∧ Cond.codeWith y bytes maxL ret hh ∈ ws) ∧
  (Cond.codeWith y bytes maxL ret hh).before args s = true ∧ (Cond.initialized y.cls).before args s = true ∧ (y.cls ≠ "java/lang/invoke/MethodHandle" ∧ y.cls ≠ "java/lang/invoke/VarHandle") ∧
  (∀ sig, parseMethodDescriptor y.desc = some sig → n = sig.parameters.length) ∧ (Cond.methodLink own index y).before args s = true ∧ (Cond.instanceMethod y).before args s = true ∧ (Cond.selects C y y).before args s = true
theorem vx_cwVW {own C : String} {index maxL mc ms : Nat} {y : MethodName} {bytes : ByteArray} {ret : Option FieldType} {hh : List (Nat × Nat × Nat × Nat)} {Ts ws ws' : List Cond} {rm : Room} (n : Nat) (ht : ∀ w ∈ Ts, w.before args s = true) (hT : GoodIn Ts (wsV own index C y ws)) (hw : ws = Cond.codeWith y bytes maxL ret hh :: ws') (hrc : rm.cells = mc) (hrs : rm.slots = ms)
    (hd : y.cls = C ∧ y.cls ≠ "java/lang/invoke/MethodHandle" ∧ y.cls ≠ "java/lang/invoke/VarHandle" ∧ (parseMethodDescriptor y.desc).map (fun d => d.parameters.length) = some n) (hR : rm.frames + 1 ≤ R.frames ∧ 8 + (maxL + 11) + rm.locals ≤ R.locals) :
    vx_CVW R s args own C index y bytes maxL ret hh ws rm mc ms n := by
  obtain ⟨hC, hd⟩ := hd
  subst hC
  have ok : ∀ w ∈ wsV own index y.cls y ws, w.before args s = true := fun w h => ht w (hT w h).1
  have hG : GoodIn Ts ws := fun w h => hT w (by unfold wsV; exact List.mem_append_right _ h)
  have hc : Cond.codeWith y bytes maxL ret hh ∈ ws := by rw [hw]; exact List.mem_cons_self
  refine ⟨⟨hrc, hrs, hR.1, hR.2, pay_in ht hG, hc⟩, ht _ (hG _ hc).1, ok _ (by simp [wsV]), ⟨hd.1, hd.2.1⟩, fun sig h => ?_, ok _ (by simp [wsV]), ok _ (by simp [wsV]), ok _ (by simp [wsV])⟩
  have h2 := hd.2.2
  rw [h] at h2
  exact (Option.some.inj h2).symm
theorem vx_runVW {y : MethodName} {bytes cc : ByteArray} {maxL nL mc ms n index : Nat} {ret : Option FieldType} {hh : List (Nat × Nat × Nat × Nat)} {ws : List Cond} {rm : Room} {Pc : Array Value → State → Prop} {Qc : Array Value → State → Outcome → State → Prop} {free : Addr → Prop} {Ts : List Cond} {own C : String} {b : Addr} {As rest : List Value} {g : JFrame}
    (S : CallFix p m c cc nL s args Ts own) (hM : Met l y ws rm Pc Qc mc ms free) (cw : vx_CVW R s args own C index y bytes maxL ret hh ws rm mc ms n) (hp : PreV s H C b Pc As)
    (hg : g.method = m) (hn : As.length = n) (hsize : g.locals.size = nL) (hstack : g.stack = As.reverse ++ .ref b :: rest) (hW : 2 * g.monitorRoom + (rest.map fun v => v.category).sum ≤ 8) (hdg : decode cc g.pc = .ok (.invokevirtual index, 3)) (hf : cells + mc ≤ R.cells ∧ slots + ms ≤ R.slots) :
    va_Run p l e R s m args below meth c H locs cells slots mc ms g rest (Qc (Value.ref b :: As).toArray) free := by
  obtain ⟨⟨hrc, hrs, hfr, hlo, hws, hcw⟩, hcode, hini, hy, hlen, hl, hin, hse⟩ := cw
  have hK : Back l R p e below s args y 3 8 (PreOf R mc ms Pc) (PostOf Qc mc ms free) := va_backW (hh := hh) (bytes := bytes) (maxL := maxL) (ret := ret) hM hp.1 hrc hrs hfr hlo hws hcw (fun a' U hW => word_at hW (Or.inl (by first | rfl | simp [Cond.onTables, Cond.keeps, Cond.steady])) hini)
  obtain ⟨hx, hb, hml, ho, -⟩ := S
  obtain ⟨-, ⟨cellB, hcB, hoB, hclB⟩, hPc⟩ := hp
  intro T hT X
  obtain ⟨v, vm₁, ⟨U', l2, c2, s2⟩, hW₁, X', ⟨g', mk, t, L, e1, e2, hq, h1, hL, h2, h3⟩, st⟩ := vx_callVW X hx (C := C) (hh := hh) (bytes := bytes) (maxL := maxL) (ret := ret) ho hl hin hse hcode hy hK (by rw [hT]; exact hcB) hoB hclB hg (hsize.trans hml.symm) (argsL := As) (rest := rest) (fun sig h => hn.trans (hlen sig h)) hstack hW (by rw [hb]; exact hdg)
    (fun vm₁ hW₁ => ⟨hf.1, hf.2, hPc (T.setVm vm₁) hT hW₁⟩)
  dsimp only [Pt.U, Pt.locs, Pt.cells, Pt.slots] at X' e1 e2 h1 h2 h3 st
  subst h1; subst h2; subst h3
  exact ⟨v, (T.setVm vm₁).calling g' mk (Value.ref b :: As).toArray, t, U', L, hT, X', hL, e1, e2, hq, st⟩
section
variable {y : MethodName} {bytes cc : ByteArray} {maxL nL mc ms n index : Nat} {ret : Option FieldType} {ws : List Cond} {rm : Room} {Pc : Array Value → State → Prop} {Qc : Array Value → State → Outcome → State → Prop} {XC : String → State → State → Prop} {free : Addr → Prop} {Ts : List Cond} {own C : String} {b : Addr} {As rest : List Value} {g : JFrame}
theorem vx_runVX {hh : List (Nat × Nat × Nat × Nat)} (S : CallFix p m c cc nL s args Ts own) (hM : vx_Met l y ws rm Pc Qc XC mc ms free) (cw : vx_CVW R s args own C index y bytes maxL ret hh ws rm mc ms n) (hp : PreV s H C b Pc As)
    (hg : g.method = m) (hn : As.length = n) (hsize : g.locals.size = nL) (hstack : g.stack = As.reverse ++ .ref b :: rest) (hW : 2 * g.monitorRoom + (rest.map fun v => v.category).sum ≤ 8) (hdg : decode cc g.pc = .ok (.invokevirtual index, 3)) (hf : cells + mc ≤ R.cells ∧ slots + ms ≤ R.slots) :
    vx_Run p l e R s m args below meth c H locs cells slots mc ms g rest (Qc (Value.ref b :: As).toArray) XC free := by
  obtain ⟨⟨hrc, hrs, hfr, hlo, hws, hcw⟩, hcode, hini, hy, hlen, hl, hin, hse⟩ := cw
  have hK : vx_Back l R p e below s args y 3 8 (PreOf R mc ms Pc) (PostOf Qc mc ms free) (vx_Post XC mc ms free) := vx_backW (hh := hh) (bytes := bytes) (maxL := maxL) (ret := ret) hM hp.1 hrc hrs hfr hlo hws hcw (fun a' U hW => word_at hW (Or.inl (by first | rfl | simp [Cond.onTables, Cond.keeps, Cond.steady])) hini)
  obtain ⟨hx, hb, hml, ho, -⟩ := S
  obtain ⟨-, ⟨cellB, hcB, hoB, hclB⟩, hPc⟩ := hp
  intro T hT X
  rcases vx_callVX X hx (C := C) (hh := hh) (bytes := bytes) (maxL := maxL) (ret := ret) ho hl hin hse hcode hy hK (by rw [hT]; exact hcB) hoB hclB hg (hsize.trans hml.symm) (argsL := As) (rest := rest) (fun sig h => hn.trans (hlen sig h)) hstack hW (by rw [hb]; exact hdg)
    (fun vm₁ hW₁ => ⟨hf.1, hf.2, hPc (T.setVm vm₁) hT hW₁⟩) with ⟨v, vm₁, ⟨U', l2, c2, s2⟩, hW₁, X', ⟨g', mk, t, L, e1, e2, hq, h1, hL, h2, h3⟩, st⟩ | ⟨q, vm₁, ⟨U', l2, c2, s2⟩, hW₁, X', ⟨g', mk, t, L, E, ce, e1, e2, hq, hce, hcv, hcl, h1, hL, h2, h3⟩, st⟩
  · dsimp only [Pt.U, Pt.locs, Pt.cells, Pt.slots] at X' e1 e2 h1 h2 h3 st
    subst h1; subst h2; subst h3
    exact Or.inl ⟨v, (T.setVm vm₁).calling g' mk (Value.ref b :: As).toArray, t, U', L, hT, X', hL, e1, e2, hq, st⟩
  · dsimp only [Pt.U, Pt.locs, Pt.cells, Pt.slots] at X' e1 e2 h1 h2 h3 st hcl
    subst h1; subst h2; subst h3
    exact Or.inr ⟨q, (T.setVm vm₁).calling g' mk (Value.ref b :: As).toArray, t, U', L, E, ce, hT, X', hL, e1, e2, hq, hce, hcv, vx_cls hW₁ hcl, st⟩
theorem vx_runSX {hh : List (Nat × Nat × Nat × Nat)} (S : CallFix p m c cc nL s args Ts own) (hM : vx_Met l y ws rm Pc Qc XC mc ms free) (cw : vx_CSW R s args own index y bytes maxL ret hh ws rm mc ms n) (hp : PreS s H Pc As)
    (hg : g.method = m) (hn : As.length = n) (hsize : g.locals.size = nL) (hstack : g.stack = As.reverse ++ rest) (hW : 2 * g.monitorRoom + (rest.map fun v => v.category).sum ≤ 8) (hdg : decode cc g.pc = .ok (.invokestatic index, 3)) (hf : cells + mc ≤ R.cells ∧ slots + ms ≤ R.slots) :
    vx_Run p l e R s m args below meth c H locs cells slots mc ms g rest (Qc As.toArray) XC free := by
  obtain ⟨⟨hrc, hrs, hfr, hlo, hws, hcw⟩, hcode, hini, hy, hlen, hl, hstt⟩ := cw
  have hK : vx_Back l R p e below s args y 3 8 (PreOf R mc ms Pc) (PostOf Qc mc ms free) (vx_Post XC mc ms free) := vx_backW (hh := hh) (bytes := bytes) (maxL := maxL) (ret := ret) hM hp.1 hrc hrs hfr hlo hws hcw (fun a' U hW => word_at hW (Or.inl (by first | rfl | simp [Cond.onTables, Cond.keeps, Cond.steady])) hini)
  obtain ⟨hx, hb, hml, ho, -⟩ := S
  intro T hT X
  rcases vx_callSX X hx (hh := hh) (bytes := bytes) (maxL := maxL) (ret := ret) ho hl hstt hini hcode hy hK hg (hsize.trans hml.symm) (argsL := As) (rest := rest) (fun sig h => hn.trans (hlen sig h)) hstack hW (by rw [hb]; exact hdg)
    (fun vm₁ hW₁ => ⟨hf.1, hf.2, hp.2 (T.setVm vm₁) hT hW₁⟩) with ⟨v, vm₁, ⟨U', l2, c2, s2⟩, hW₁, X', ⟨g', mk, t, L, e1, e2, hq, h1, hL, h2, h3⟩, st⟩ | ⟨q, vm₁, ⟨U', l2, c2, s2⟩, hW₁, X', ⟨g', mk, t, L, E, ce, e1, e2, hq, hce, hcv, hcl, h1, hL, h2, h3⟩, st⟩
  · dsimp only [Pt.U, Pt.locs, Pt.cells, Pt.slots] at X' e1 e2 h1 h2 h3 st
    subst h1; subst h2; subst h3
    exact Or.inl ⟨v, (T.setVm vm₁).calling g' mk As.toArray, t, U', L, hT, X', hL, e1, e2, hq, st⟩
  · dsimp only [Pt.U, Pt.locs, Pt.cells, Pt.slots] at X' e1 e2 h1 h2 h3 st hcl
    subst h1; subst h2; subst h3
    exact Or.inr ⟨q, (T.setVm vm₁).calling g' mk As.toArray, t, U', L, E, ce, hT, X', hL, e1, e2, hq, hce, hcv, vx_cls hW₁ hcl, st⟩
end
end VXH
theorem vx_ofWH {l : Launch} {y : MethodName} {ws ws' : List Cond} {rm : Room} {Pc : Array Value → State → Prop} {Qc : Array Value → State → Outcome → State → Prop} {XC : String → State → State → Prop} {mc ms : Nat} {free : Addr → Prop} {cc : ByteArray} {maxL : Nat} {ret : Option FieldType} {hh : List (Nat × Nat × Nat × Nat)}
    (hy : plainName y.cls = true) (hw : ws = Cond.codeWith y cc maxL ret hh :: ws')
    (body : ∀ p e s m args below meth c s₁, BodyLoose p l y (headSpec ws rm) cc maxL ret e s m args below meth c s₁ → c.maxLocals = maxL → Pc args s →
      W p l e (headSpec ws rm).room s m args below meth c s.heap [] 0 0 (vx_MQ below Qc XC args s mc ms free) (entryFrame m args maxL)) : vx_Met l y ws rm Pc Qc XC mc ms free := by
  refine MetFree.of_bodyS (code := cc) (maxLocals := maxL) (ret := ret) hy ?_ ?_
  · intro args s m h hn
    obtain ⟨m9, meth, c, hn9, h1, h2, h3, h4, -, h5, h6, -⟩ := Cond.codeWith_spec (atoms_spec (ws := ws) h _ (by rw [hw]; exact List.mem_cons_self))
    cases hn.symm.trans hn9
    exact ⟨meth, c, h1, h2, h3, h4, h5, h6⟩
  · intro p e s m args below meth c s₁ B hml hP _
    have hh0 : s₁.heap = s.heap := by rw [B.state]; rfl
    obtain ⟨t, a1, o, b1, b2, b3⟩ := body p e s m args below meth c s₁ B hml hP s₁ hh0 (Stand.of_body B)
    exact ⟨t, o, a1, b1, b2, b3⟩
/-! ===== END ===== -/
/-! ===== BEGIN what the machine throws by itself, no traces kept ===== -/
section VXM
set_option maxHeartbeats 1000000 in
/-- the machine throws cls with the message text, no traces kept: from its note over the frame g to 'throwing' over the same frame (follows the proofs of Stand.vmThrowsMessage, Shelf/KitTracedVmS.lean, and Stand.throwsMessageColdBareV, StandMessageColdV.lean, without the step out of the frame) -/
theorem vx_vmAt {p : Program} {l : Launch} {e : Env} {R : Room} {s : State} {m₀ : MethodId} {args : Array Value} {below : List Frame} {meth : Method} {c : Code} {W : State} {locs : List Loc} {cells slots : Nat}
    (X : Stand p l e R s m₀ args below meth c W locs cells slots) (hexec : p.tables.exec = Jvm.exec) (htr : e.platform.stackTraces = false) {cls : String} {names : List String} {text : String}
    (hcls : Bundle.fit cls = true) (hnames : ∀ n ∈ names, Bundle.fit n = true) (hsoe : (cls == "java/lang/StackOverflowError") = false) (hoom : (cls == "java/lang/OutOfMemoryError") = false)
    (h : ∀ a ∈ Bundle.messageArmAtoms cls names, a.before args s = true)
    (hlocs : ∀ x ∈ locs, ∀ cell, s.heap[x.base]? = some cell → cell.vm.isStatics = false)
    (htext : (text == notModelled) = false) (hlimit : ¬ (stringBytes (stringToUtf16 text)).size > e.platform.arrayLengthLimit) (hheap : ¬ (stringBytes (stringToUtf16 text)).size * componentBytes .byte > e.platform.maxHeapBytes)
    {g : JFrame} (hg : g.method = m₀) (hsize : g.locals.size = c.maxLocals)
    (hRframes : names.length + 4 < R.frames) (hRlocals : 2 * g.monitorRoom + (g.stack.map fun v => v.category).sum + 10240 ≤ R.locals) (hshort : 13 * names.length + 55 ≤ 10240)
    (hRcells : cells + 3 ≤ R.cells) (hRslots : slots + ((stringBytes (stringToUtf16 text)).size + 4 + 6) ≤ R.slots) (hlocks : meth.locks = false) :
    ∃ (S : State) (q : Addr) (ce : Cell), (∀ target, Steps p.tables e below ((S.setTop g).pushFrame (.throwing q)) target → Steps p.tables e below ((W.setTop g).pushFrame (.throwNew cls (some text) none)) target) ∧
      Stand p l e R s m₀ args below meth c S locs (cells + 3) (slots + ((stringBytes (stringToUtf16 text)).size + 4 + 6)) ∧ S.heap[q]? = some ce ∧ s.vm.findClass cls = some ce.cls ∧ ce.vm = .none := by
  have howns : e.platform.frameOwnsMonitors = true := by rw [X.admits.platform]
  have hfin : e.platform.finalization = false := by rw [X.admits.platform]
  have hpl : e.platform.magicAccessors = ({} : Platform).magicAccessors := by rw [X.admits.platform]
  have a : ∀ x, x ∈ Bundle.messageArmAtoms cls names → x.holds args s none s [] = true := fun x hx => h x hx
  obtain ⟨T, Z0, L, -, Y⟩ := ThrowableC.of_atoms (args := args) howns hfin hpl (fun x hx => h x (by simp [Bundle.messageArmAtoms, hx]))
  obtain ⟨Z, M, LZ, LM, hnZ⟩ := Init0T.ofS_atoms (args := args) hpl L Y (fun x hx => h x (by simp [Bundle.messageArmAtoms, hx]))
  obtain ⟨P1, Ps, hlen, L1, hL, hP1m, hlink1, hlink⟩ := Bundle.chainS (args := args) hpl hnZ names cls hcls hnames (fun x hx => h x (by simp [Bundle.messageArmAtoms, hx]))
  obtain ⟨Zs, LZs, hn4, hfitv, hfitc⟩ := StringT.of_atoms (args := args) (fun x hx => h x (by simp [Bundle.messageArmAtoms, hx]))
  have hfound : s.vm.findClass cls = some P1.m.cls := findClass_of_methodNamed hP1m
  obtain ⟨c1, kX, hc1, hk, hord, -, -, hn6⟩ := Cond.instantiable_spec (a (.instantiable cls 6) (by simp [Bundle.messageArmAtoms]))
  cases Option.some.inj (hc1.symm.trans hfound)
  have hinit := Cond.initialized_spec hfound hk (a (.initialized cls) (by simp [Bundle.messageArmAtoms]))
  have hctor : kX.findMethod "<init>" "(Ljava/lang/String;)V" = some P1.m.idx := findMethod_of_methodNamed hP1m hk
  have hsel0 : selectMethod e.platform s.vm P1.m.cls T.fill0 = .method T.fill0 := by
    obtain ⟨c2, r2, m2, q1, q2, q3, q4, -⟩ := Cond.selects_spec (a (.selects cls Bundle.tFill0 Bundle.tFill0) (by simp [Bundle.messageArmAtoms]))
    cases Option.some.inj (q1.symm.trans hfound)
    cases Option.some.inj (q2.symm.trans (State.methodFound?_of_named Y.fill0 (by decide)))
    cases Option.some.inj (q3.symm.trans Y.fill0)
    rw [Launch.admits_selectMethod X.admits]; exact q4
  have hselF : selectMethod e.platform s.vm P1.m.cls T.fill = .method T.fill := by
    obtain ⟨c2, r2, m2, q1, q2, q3, q4, -⟩ := Cond.selects_spec (a (.selects cls Bundle.tFill Bundle.tFill) (by simp [Bundle.messageArmAtoms]))
    cases Option.some.inj (q1.symm.trans hfound)
    cases Option.some.inj (q2.symm.trans (State.methodFound?_of_named Y.fill (by decide)))
    cases Option.some.inj (q3.symm.trans Y.fill)
    rw [Launch.admits_selectMethod X.admits]; exact q4
  obtain ⟨cellS0, hcS0, hiss⟩ := Y.statics
  obtain ⟨u0, hu0⟩ := Cond.staticRefV Y.unassigned L.unassignedStatic L.statics hcS0 hiss (a (.isRef (.static Bundle.tN "UNASSIGNED_STACK" Bundle.steD)) (by simp [Bundle.messageArmAtoms]))
  obtain ⟨sen, hsen⟩ := Cond.staticRefV Y.sentinel L.sentinelStatic L.statics hcS0 hiss (a (.isRef (.static Bundle.tN "SUPPRESSED_SENTINEL" Bundle.listD)) (by simp [Bundle.messageArmAtoms]))
  obtain ⟨ci198, i198, fB, hk198, hg198, ha198, hsB, -, hnB, htB, hffB⟩ := Cond.ownField (t := .object "java/lang/Object") Y.found L.cls (by decide +kernel) (a (.fieldLink Bundle.tN 198 Bundle.tN "backtrace" "Ljava/lang/Object;") (by simp [Bundle.messageArmAtoms])) (a (.lays Bundle.tN Bundle.tN "backtrace" "Ljava/lang/Object;") (by simp [Bundle.messageArmAtoms])) e.platform hpl
  obtain ⟨cellS, hcS', heS, -, hkeep⟩ := X.same.2.2.2.2.2 T.aS cellS0 hcS0
  have hcellS : W.heap[T.aS]? = some cellS := hcS'
  have hout' : ∀ i, (⟨T.aS, i⟩ : Loc) ∉ locs := fun i hmem => by
    have := hlocs _ hmem cellS0 hcS0
    rw [hiss] at this; cases this
  have hknownS : cellS.vm ≠ .unknown := by
    rw [heS]; intro hu
    rw [show cellS0.vm = .unknown from hu] at hiss
    cases hiss
  have hvU : cellS.slots[T.fUnassigned.slot]? = some u0.v := by rw [hkeep _ (hout' _)]; exact hu0
  have hvSen : cellS.slots[T.fSentinel.slot]? = some sen.v := by rw [hkeep _ (hout' _)]; exact hsen
  obtain ⟨iM, hffM⟩ := Y.msg
  obtain ⟨tyC, dC, hdC, hdnC⟩ := Cond.laysAt hfound hk Y.cause (a (.lays cls Bundle.tN "cause" "Ljava/lang/Throwable;") (by simp [Bundle.messageArmAtoms]))
  obtain ⟨tyS, dS, hdS, hdnS⟩ := Cond.laysAt hfound hk Y.stack (a (.lays cls Bundle.tN "stackTrace" Bundle.steD) (by simp [Bundle.messageArmAtoms]))
  obtain ⟨tyP, dP, hdP, hdnP⟩ := Cond.laysAt hfound hk Y.supp (a (.lays cls Bundle.tN "suppressedExceptions" Bundle.listD) (by simp [Bundle.messageArmAtoms]))
  obtain ⟨tyM, dM, hdM, hdnM⟩ := Cond.laysAt hfound hk hffM (a (.lays cls Bundle.tN "detailMessage" "Ljava/lang/String;") (by simp [Bundle.messageArmAtoms]))
  obtain ⟨tyB, dB, hdB, hdnB⟩ := Cond.laysAt hfound hk hffB (a (.lays cls Bundle.tN "backtrace" "Ljava/lang/Object;") (by simp [Bundle.messageArmAtoms]))
  have bC := Cond.laysApart hdB hdC hdnB hdnC (by rw [hnB, Y.causeName]; decide)
  have bS := Cond.laysApart hdB hdS hdnB hdnS (by rw [hnB, Y.stackName]; decide)
  have bP := Cond.laysApart hdB hdP hdnB hdnP (by rw [hnB, Y.suppName]; decide)
  have hbk : ((preparedCellV T.toThrowableT (freshCell P1.m.cls kX) (W.heap.size + 2) u0 sen).withEntry W.cur).slots[fB.slot]? = some .null := by
    have := fresh_default (c := P1.m.cls) tyB
    rw [htB] at this
    simpa [preparedCellV, Cell.setSlot, Cell.withEntry, Array.getElem?_setIfInBounds, bC, bS, bP, bC.symm, bS.symm, bP.symm, defaultValue] using this
  have tkC := Takes.of_laid (v := .ref (W.heap.size + 2)) hk hord tyC (by rw [Y.causeType]; rfl)
  have tkS := Takes.of_laid (v := u0.v) hk hord tyS (by rw [Y.stackType]; exact fits_refV_array _ u0)
  have tkP := Takes.of_laid (v := sen.v) hk hord tyP (by rw [Y.suppType]; exact fits_refV_object _ sen)
  have tkM := Takes.of_laid (v := .ref (W.heap.size + 1)) hk hord tyM (by rw [Y.msgType]; rfl)
  have hskip : SkipFacts T e.platform s (fun u => u) u0 ((preparedCellV T.toThrowableT (freshCell P1.m.cls kX) (W.heap.size + 2) u0 sen).withEntry W.cur) := ⟨{ ci198 := ci198, i198 := i198, fBack := fB }, ⟨hk198, hg198, ha198, hsB⟩, hbk, fun _ _ => rfl⟩
  have h0 : At W g.method c below := by rw [hg]; exact X.here
  obtain ⟨hbeyond, hfreeW⟩ := X.vmMayThrow hsize (.throwNew cls (some text) none) (fun f hf => by cases hf) rfl hRlocals
  have hfr' : W.frames.length + Ps.length + 4 < (e.platform.stackLimits W.me).1 := by have := X.framesAbove hRframes; omega
  have hwd' : (stackUse (.java g :: W.frames.tail)).2 + 13 * Ps.length + 55 ≤ (e.platform.stackLimits W.me).2 := by have := X.stackAbove hsize (K := 13 * Ps.length + 55) (by omega); omega
  have hslots : W.slotsUsed + (stringBytes (stringToUtf16 text)).size + Zs.kS.instanceTypes.size + kX.instanceTypes.size ≤ e.platform.maxSlots := by
    have := X.slotsAbove hRslots
    rw [hn4, hn6]
    omega
  obtain ⟨vm', hW', st⟩ := Steps.vmThrowsMessageColdByV p (s₀ := s) (S := W) (g := g) h0 hexec T L Z LZ M LM X.warmed (t := W.cur) rfl Zs LZs P1 L1 Ps hL hlink1 hlink hsoe hoom hfound hk hinit hord hctor
    (Launch.admits_hotImplicitExceptions X.admits) hbeyond hfreeW htext hlimit hheap (X.cellsAbove hRcells) hslots (hfitv _) (hfitc _)
    (Nn := fun u => u) heapOnly_id (fun _ _ => rfl) (fun _ => rfl) (fun u x y => setCell_twice _ _ _ _) (fun _ => Nat.le_refl _) (cN := ((preparedCellV T.toThrowableT (freshCell P1.m.cls kX) (W.heap.size + 2) u0 sen).withEntry W.cur))
    hsel0 hcellS hknownS hvU tkS (fun _ hu => hu) (fun _ hu => hu) rfl rfl rfl (by simp [preparedCellV, Cell.setSlot, Cell.withEntry]) hskip (fun _ _ hA hW _ hroom _ hrest => L.nativeOff p htr hA hW hroom hrest) hselF hvSen tkC tkP tkM Y.objLocals rfl hfr' hwd'
  rw [plainBareV_eq T.toThrowableT (W.heap.size + 2) u0 sen (.ref (W.heap.size + 1)) W.cur rfl rfl] at st
  obtain ⟨-, -, w3, w4, -, -, -⟩ := withThrown_facts e.platform W Zs text P1.m.cls kX
  have X3 := ((X.pushed (bytesOf Zs.cB (stringToUtf16 text))).pushed (stringAt Zs.cS Zs.kS Zs.fv Zs.fc (stringToUtf16 text) W.heap.size)).pushed (freshCell P1.m.cls kX)
  rw [← withString_eq] at X3
  have X4 := X3.noted hW'
  have ha : (W.heap.size + 2) < ((withThrown W Zs text P1.m.cls kX).setVm vm').heap.size := by show _ < (withThrown W Zs text P1.m.cls kX).heap.size; rw [w3]; omega
  have hcell : ((withThrown W Zs text P1.m.cls kX).setVm vm').heap[(W.heap.size + 2)]? = some (freshCell P1.m.cls kX) := w4
  have X5 := ((((X4.stored hcell T.fCause.slot (.ref (W.heap.size + 2))).storedAgain ha T.fStack.slot u0.v).storedAgain ha T.fSupp.slot sen.v).storedAgain ha T.fStack.slot u0.v).storedAgain ha T.fMsg.slot (.ref (W.heap.size + 1))
  obtain ⟨g₁, hfrM⟩ := X5.frames_eq
  have hU : ((((withThrown W Zs text P1.m.cls kX).setVm vm').setCell (W.heap.size + 2) (plainBareV T.toThrowableT (freshCell P1.m.cls kX) (W.heap.size + 2) u0 sen (.ref (W.heap.size + 1)))).setTop g).pushFrame (.throwing (W.heap.size + 2)) = (((withThrown W Zs text P1.m.cls kX).setVm vm').setCell (W.heap.size + 2) (plainBareV T.toThrowableT (freshCell P1.m.cls kX) (W.heap.size + 2) u0 sen (.ref (W.heap.size + 1)))).setFrames (.throwing (W.heap.size + 2) :: .java g :: below) := by
    rw [State.pushFrame, State.frames_setTop _ hfrM, State.setTop_of_frames _ hfrM, State.setFrames_setFrames]
  have b1 : (bytesOf Zs.cB (stringToUtf16 text)).slots.size = (stringBytes (stringToUtf16 text)).size := by
    rw [(Cell.writeAll_facts _ _).2.2]; simp [bytes0]
  have b2 : (stringAt Zs.cS Zs.kS Zs.fv Zs.fc (stringToUtf16 text) W.heap.size).slots.size = 4 := by simp [string0, Cell.setSlot, hn4]
  have b3 : (freshCell P1.m.cls kX).slots.size = 6 := by simp [hn6]
  rw [b1, b2, b3] at X5
  have e9 : slots + (stringBytes (stringToUtf16 text)).size + 4 + 6 = slots + ((stringBytes (stringToUtf16 text)).size + 4 + 6) := by omega
  rw [e9] at X5
  simp only [List.append_assoc, List.cons_append, List.nil_append] at X5
  refine ⟨((withThrown W Zs text P1.m.cls kX).setVm vm').setCell (W.heap.size + 2) (plainBareV T.toThrowableT (freshCell P1.m.cls kX) (W.heap.size + 2) u0 sen (.ref (W.heap.size + 1))), W.heap.size + 2, _, fun target ht => st _ (by rw [X.tail, ← hU]; exact ht),
    X5.forget (fun y hy => ?_), heapAt_setCell_self _ ha, hfound, rfl⟩
  simp only [List.mem_cons, List.not_mem_nil, or_false] at hy
  have hge : s.heap.size ≤ W.heap.size := X.same.2.1
  rcases hy with rfl | rfl | rfl | rfl | rfl <;> exact Nat.le_trans hge (Nat.le_add_right _ 2)
set_option maxHeartbeats 1000000 in
/-- the machine throws NullPointerException, no traces kept: from its note over the frame g to 'throwing' over the same frame (follows the proof of Stand.vmThrowsNpe, Shelf42/KT2.lean; throwsNpeColdBareVAt, Shelf42/NT91.lean, called) -/
theorem vx_npeAt {p : Program} {l : Launch} {e : Env} {R : Room} {s : State} {m₀ : MethodId} {args : Array Value} {below : List Frame} {meth : Method} {c : Code} {W : State} {locs : List Loc} {cells slots : Nat}
    (X : Stand p l e R s m₀ args below meth c W locs cells slots) (hexec : p.tables.exec = Jvm.exec) (htr : e.platform.stackTraces = false) {n : Nat}
    (h : ∀ a ∈ Bundle.npeArmAtoms n, a.before args s = true)
    (hlocs : ∀ x ∈ locs, ∀ cell, s.heap[x.base]? = some cell → cell.vm.isStatics = false)
    {g : JFrame} (hg : g.method = m₀) (hsize : g.locals.size = c.maxLocals)
    (hRframes : 7 < R.frames) (hRlocals : 2 * g.monitorRoom + (g.stack.map fun v => v.category).sum + 10240 ≤ R.locals)
    (hRcells : cells + 1 ≤ R.cells) (hRslots : slots + n ≤ R.slots) (hlocks : meth.locks = false) :
    ∃ (S : State) (q : Addr) (ce : Cell), (∀ target, Steps p.tables e below ((S.setTop g).pushFrame (.throwing q)) target → Steps p.tables e below ((W.setTop g).pushFrame (.throwNew "java/lang/NullPointerException" none none)) target) ∧
      Stand p l e R s m₀ args below meth c S locs (cells + 1) (slots + n) ∧ S.heap[q]? = some ce ∧ s.vm.findClass "java/lang/NullPointerException" = some ce.cls ∧ ce.vm = .none := by
  have howns : e.platform.frameOwnsMonitors = true := by rw [X.admits.platform]
  have hfin : e.platform.finalization = false := by rw [X.admits.platform]
  have hpl : e.platform.magicAccessors = ({} : Platform).magicAccessors := by rw [X.admits.platform]
  have hpl2 : e.platform.arrayCloneIsPublic = true := by rw [X.admits.platform]
  have a' : ∀ x, x ∈ Bundle.npeArmAtoms n → x.holds args s none s [] = true := fun x hx => h x hx
  obtain ⟨T, Z, L, LZ, Y⟩ := ThrowableC.of_atoms (args := args) howns hfin hpl (fun x hx => h x (by simp [Bundle.npeArmAtoms, hx]))
  obtain ⟨N, LN, hcN, hnNF, hordN, hffS⟩ := NpeC.of_atoms (args := args) hpl hpl2 L Y (fun x hx => h x (by simp [Bundle.npeArmAtoms, hx]))
  obtain ⟨P1, L1, hP1m, hP1s⟩ := PassC.of_atoms (args := args) (s := s) hpl (X := Bundle.nN) (Y := Bundle.rN) (by decide) (by decide) LibCode.NullPointerException.Init0.at_0 LibCode.NullPointerException.Init0.at_1 LibCode.NullPointerException.Init0.at_4 (fun x hx => h x (by simp [Bundle.npeArmAtoms, hx]))
  obtain ⟨PR, LR, hPRm, hPRs⟩ := PassC.of_atoms (args := args) (s := s) hpl (X := Bundle.rN) (Y := Bundle.eN) (by decide) (by decide) LibCode.RuntimeException.Init0.at_0 LibCode.RuntimeException.Init0.at_1 LibCode.RuntimeException.Init0.at_4 (fun x hx => h x (by simp [Bundle.npeArmAtoms, hx]))
  obtain ⟨PE, LEx, hPEm, hPEs⟩ := PassC.of_atoms (args := args) (s := s) hpl (X := Bundle.eN) (Y := Bundle.tN) (by decide) (by decide) LibCode.Exception.Init0.at_0 LibCode.Exception.Init0.at_1 LibCode.Exception.Init0.at_4 (fun x hx => h x (by simp [Bundle.npeArmAtoms, hx]))
  have hfound : s.vm.findClass Bundle.nN = some P1.m.cls := findClass_of_methodNamed hP1m
  have ecls : N.cN = P1.m.cls := Option.some.inj (hcN.symm.trans hfound)
  have hk : s.vm.classes[P1.m.cls]? = some N.kN := by rw [← ecls]; exact LN.cls
  have hinit := Cond.initialized_spec hfound hk (a' (.initialized Bundle.nN) (by simp [Bundle.npeArmAtoms]))
  have hctor : N.kN.findMethod "<init>" "()V" = some P1.m.idx := findMethod_of_methodNamed hP1m hk
  obtain ⟨c1, k1, hc1, hk1, -, -, -, hn⟩ := Cond.instantiable_spec (a' (.instantiable Bundle.nN n) (by simp [Bundle.npeArmAtoms]))
  cases Option.some.inj (hc1.symm.trans hfound)
  cases Option.some.inj (hk1.symm.trans hk)
  have hfsz : (freshCell P1.m.cls N.kN).slots.size = n := by simp [hn]
  have hlink1 : P1.sup = PR.m := Option.some.inj (hP1s.symm.trans hPRm)
  have hlinkR : PR.sup = PE.m := Option.some.inj (hPRs.symm.trans hPEm)
  have hlinkE : PE.sup = Z.m T.toThrowableT := Option.some.inj (hPEs.symm.trans Y.init0)
  have hLs : ∀ P, P ∈ [PR, PE] → P.Links0 e.platform s := fun P hP => by
    simp only [List.mem_cons, List.not_mem_nil, or_false] at hP
    rcases hP with rfl | rfl
    · exact LR
    · exact LEx
  have hsel0 : selectMethod e.platform s.vm P1.m.cls T.fill0 = .method T.fill0 := by
    obtain ⟨c2, r2, m2, q1, q2, q3, q4, -⟩ := Cond.selects_spec (a' (.selects Bundle.nN Bundle.tFill0 Bundle.tFill0) (by simp [Bundle.npeArmAtoms]))
    cases Option.some.inj (q1.symm.trans hfound)
    cases Option.some.inj (q2.symm.trans (State.methodFound?_of_named Y.fill0 (by decide)))
    cases Option.some.inj (q3.symm.trans Y.fill0)
    rw [Launch.admits_selectMethod X.admits]; exact q4
  have hselF : selectMethod e.platform s.vm P1.m.cls T.fill = .method N.fill := by
    obtain ⟨c2, r2, m2, q1, q2, q3, q4, -⟩ := Cond.selects_spec (a' (.selects Bundle.nN Bundle.tFill Bundle.nFill) (by simp [Bundle.npeArmAtoms]))
    cases Option.some.inj (q1.symm.trans hfound)
    cases Option.some.inj (q2.symm.trans (State.methodFound?_of_named Y.fill (by decide)))
    cases Option.some.inj (q3.symm.trans hnNF)
    rw [Launch.admits_selectMethod X.admits]; exact q4
  obtain ⟨cellS0, hcS0, hiss⟩ := Y.statics
  obtain ⟨u0, hu0⟩ := Cond.staticRefV Y.unassigned L.unassignedStatic L.statics hcS0 hiss (a' (.isRef (.static Bundle.tN "UNASSIGNED_STACK" Bundle.steD)) (by simp [Bundle.npeArmAtoms]))
  obtain ⟨sen, hsen⟩ := Cond.staticRefV Y.sentinel L.sentinelStatic L.statics hcS0 hiss (a' (.isRef (.static Bundle.tN "SUPPRESSED_SENTINEL" Bundle.listD)) (by simp [Bundle.npeArmAtoms]))
  obtain ⟨ci198, i198, fB, hk198, hg198, ha198, hsB, -, hnB, htB, hffB⟩ := Cond.ownField (t := .object "java/lang/Object") Y.found L.cls (by decide +kernel) (a' (.fieldLink Bundle.tN 198 Bundle.tN "backtrace" Bundle.objD) (by simp [Bundle.npeArmAtoms])) (a' (.lays Bundle.tN Bundle.tN "backtrace" Bundle.objD) (by simp [Bundle.npeArmAtoms])) e.platform hpl
  obtain ⟨cellS, hcS', heS, -, hkeep⟩ := X.same.2.2.2.2.2 T.aS cellS0 hcS0
  have hcellS : W.heap[T.aS]? = some cellS := hcS'
  have hout' : ∀ i, (⟨T.aS, i⟩ : Loc) ∉ locs := fun i hmem => by
    have := hlocs _ hmem cellS0 hcS0
    rw [hiss] at this; cases this
  have hknownS : cellS.vm ≠ .unknown := by
    rw [heS]; intro hu
    rw [show cellS0.vm = .unknown from hu] at hiss
    cases hiss
  have hvU : cellS.slots[T.fUnassigned.slot]? = some u0.v := by rw [hkeep _ (hout' _)]; exact hu0
  have hvSen : cellS.slots[T.fSentinel.slot]? = some sen.v := by rw [hkeep _ (hout' _)]; exact hsen
  obtain ⟨tyC, dC, hdC, hdnC⟩ := Cond.laysAt hfound hk Y.cause (a' (.lays Bundle.nN Bundle.tN "cause" "Ljava/lang/Throwable;") (by simp [Bundle.npeArmAtoms]))
  obtain ⟨tyS, dS, hdS, hdnS⟩ := Cond.laysAt hfound hk Y.stack (a' (.lays Bundle.nN Bundle.tN "stackTrace" Bundle.steD) (by simp [Bundle.npeArmAtoms]))
  obtain ⟨tyP, dP, hdP, hdnP⟩ := Cond.laysAt hfound hk Y.supp (a' (.lays Bundle.nN Bundle.tN "suppressedExceptions" Bundle.listD) (by simp [Bundle.npeArmAtoms]))
  obtain ⟨tyX, dX, hdX, hdnX⟩ := Cond.laysAt hfound hk hffS (a' (.lays Bundle.nN Bundle.nN "extendedMessageState" "I") (by simp [Bundle.npeArmAtoms, Bundle.npeAtoms]))
  obtain ⟨hnX, htX⟩ := State.fieldFound?_type hffS (t := .int) (by decide +kernel)
  have xC := Cond.laysApart hdC hdX hdnC hdnX (by rw [hnX, Y.causeName]; decide)
  have xS := Cond.laysApart hdS hdX hdnS hdnX (by rw [hnX, Y.stackName]; decide)
  have xP := Cond.laysApart hdP hdX hdnP hdnX (by rw [hnX, Y.suppName]; decide)
  have hv0 : (freshCell P1.m.cls N.kN).slots[N.fState.slot]? = some (.int 0) := by
    have := fresh_default (c := P1.m.cls) tyX
    rw [htX] at this; exact this
  obtain ⟨tyB, dB, hdB, hdnB⟩ := Cond.laysAt hfound hk hffB (a' (.lays Bundle.nN Bundle.tN "backtrace" Bundle.objD) (by simp [Bundle.npeArmAtoms]))
  have bC := Cond.laysApart hdB hdC hdnB hdnC (by rw [hnB, Y.causeName]; decide)
  have bS := Cond.laysApart hdB hdS hdnB hdnS (by rw [hnB, Y.stackName]; decide)
  have bP := Cond.laysApart hdB hdP hdnB hdnP (by rw [hnB, Y.suppName]; decide)
  have bX := Cond.laysApart hdB hdX hdnB hdnX (by rw [hnB, hnX]; decide)
  have hbk : ((npeCell N.toNpeT (preparedCellV T.toThrowableT (freshCell P1.m.cls N.kN) W.heap.size u0 sen) W.cur).withEntry W.cur).slots[fB.slot]? = some .null := by
    have := fresh_default (c := P1.m.cls) tyB
    rw [htB] at this
    simpa [npeCell, preparedCellV, Cell.setSlot, Cell.withEntry, Array.getElem?_setIfInBounds, bC, bS, bP, bX, bC.symm, bS.symm, bP.symm, bX.symm, defaultValue] using this
  have tkC := Takes.of_laid (v := .ref W.heap.size) hk hordN tyC (by rw [Y.causeType]; rfl)
  have tkS := Takes.of_laid (v := u0.v) hk hordN tyS (by rw [Y.stackType]; exact fits_refV_array _ u0)
  have tkP := Takes.of_laid (v := sen.v) hk hordN tyP (by rw [Y.suppType]; exact fits_refV_object _ sen)
  have tkX := Takes.of_laid (v := .int 1) hk hordN tyX (by rw [htX]; rfl)
  have hskip : SkipFacts T e.platform s (fun u => u) u0 ((npeCell N.toNpeT (preparedCellV T.toThrowableT (freshCell P1.m.cls N.kN) W.heap.size u0 sen) W.cur).withEntry W.cur) := ⟨{ ci198 := ci198, i198 := i198, fBack := fB }, ⟨hk198, hg198, ha198, hsB⟩, hbk, fun _ _ => rfl⟩
  obtain ⟨vm', X3, st, -⟩ := X.throwsNpeColdBareVAt hexec hg hsize T L Z LZ N LN P1 L1 [PR, PE] hLs hlink1 ⟨hlinkR, hlinkE, trivial⟩ hfound hk hinit hordN hctor hsel0 hselF hcellS hknownS hvU hvSen
    hv0 xC xS xP tkC tkS tkP tkX Y.objLocals hskip (fun _ _ hA hW _ hroom _ hrest => L.nativeOff p htr hA hW hroom hrest) (by simpa using hRframes) hRlocals (by simp) hRcells (by rw [hn]; exact hRslots)
  have hlt : W.heap.size < ((W.pushCell (freshCell P1.m.cls N.kN)).setVm vm').heap.size := by
    show W.heap.size < (W.pushCell (freshCell P1.m.cls N.kN)).heap.size
    rw [State.heap_size_pushCell]; omega
  rw [hfsz] at X3
  obtain ⟨g₁, hfrM⟩ := X3.frames_eq
  have hU : ((((W.pushCell (freshCell P1.m.cls N.kN)).setVm vm').setCell W.heap.size (npeBareV T.toThrowableT N.toNpeT (freshCell P1.m.cls N.kN) W.heap.size u0 sen)).setTop g).pushFrame (.throwing W.heap.size) = (((W.pushCell (freshCell P1.m.cls N.kN)).setVm vm').setCell W.heap.size (npeBareV T.toThrowableT N.toNpeT (freshCell P1.m.cls N.kN) W.heap.size u0 sen)).setFrames (.throwing W.heap.size :: .java g :: below) := by
    rw [State.pushFrame, State.frames_setTop _ hfrM, State.setTop_of_frames _ hfrM, State.setFrames_setFrames]
  refine ⟨_, W.heap.size, _, fun target ht => st.trans (by rw [← hU]; exact ht), X3.forget (fun y hy => ?_), heapAt_setCell_self _ hlt, hfound, rfl⟩
  simp only [List.mem_cons, List.not_mem_nil, or_false] at hy
  have hge : s.heap.size ≤ W.heap.size := X.same.2.1
  rcases hy with rfl | rfl | rfl | rfl | rfl <;> exact hge
/-- the words of a machine's NullPointerException, but the four that speak of the heap -/
def vx_atN (n : Nat) : List Cond := (Bundle.npeArmAtoms n).filter vx_no
/-- the words of a machine's throw with a message, but the four that speak of the heap -/
def vx_atM (X : String) (names : List String) : List Cond := (Bundle.messageArmAtoms X names).filter vx_no
section
variable {p : Program} {l : Launch} {e : Env} {R : Room} {s : State} {m : MethodId} {args : Array Value} {below : List Frame} {meth : Method} {c : Code} {H : Heap} {locs : List Loc} {cells slots : Nat}
/-- a frame seen from a rebased start, seen from the first start again -/
theorem vx_back9 {T S : State} {R' : Room} {k n : Nat} (X : Stand p l e R s m args below meth c T locs cells slots) (Y : Stand p l e R' ((T.setVm s.vm).setFrames (.invoking m args :: below)) m args below meth c T [] 0 0) (Z : Stand p l e R' ((T.setVm s.vm).setFrames (.invoking m args :: below)) m args below meth c S [] k n) :
    Stand p l e R s m args below meth c S locs (cells + k) (slots + n) := by
  have hW0 : s.WarmedH ((T.setVm s.vm).setFrames (.invoking m args :: below)).vm := State.WarmedH.refl s
  refine { admits := X.admits, cas := X.cas, clock := X.clock, frames := X.frames, room := X.room, hears := X.hears, method := X.method, code := X.code, here := Z.here, tail := Z.tail, warmed := State.WarmedH.trans hW0 Z.warmed, limits := Z.limits.trans (Y.limits.symm.trans X.limits), bytes := Z.bytes.trans (Y.bytes.symm.trans X.bytes), same := ?_ }
  obtain ⟨e1, e2⟩ := Z.same
  rw [State.setFrames_setFrames] at e1
  have h2 : (T.setVm s.vm).sameButNew (S.setVm s.vm) [] k n := ⟨e1, e2⟩
  have h3 := X.same.trans h2
  rw [List.append_nil] at h3
  exact h3
/-- from the machine's note that E is thrown here with this text -/
def vx_Note (p : Program) (l : Launch) (e : Env) (R : Room) (s : State) (m : MethodId) (args : Array Value) (below : List Frame) (meth : Method) (c : Code) (H : Heap) (locs : List Loc) (cells slots : Nat) (Q : State → Prop) (g : JFrame) (E text : String) : Prop :=
  ∀ T : State, T.heap = H → Stand p l e R s m args below meth c T locs cells slots → ∃ t, Steps p.tables e below ((T.setTop g).pushFrame (.throwNew E (some text) none)) t ∧ Q t
theorem vx_vm {pc : Nat} {ls : Array Slot} {rest : List Value} {Q : State → Prop} (hexec : p.tables.exec = Jvm.exec) (hl : l.stackTraces = false) {cls text : String} {names : List String} {nb : Nat} {A : Nat → Prop}
    (hcls : Bundle.fit cls = true) (hnames : ∀ n ∈ names, Bundle.fit n = true) (hsoe : (cls == "java/lang/StackOverflowError") = false) (hoom : (cls == "java/lang/OutOfMemoryError") = false)
    (hat : ∀ w ∈ vx_atM cls names, w.before args s = true) (hgood : ∀ w ∈ vx_atM cls names, vx_ot w = true)
    (hU : vx_Zq Bundle.tN "UNASSIGNED_STACK" Bundle.steD A s s.heap) (hN : vx_Zq Bundle.tN "SUPPRESSED_SENTINEL" Bundle.listD A s s.heap) (hS : va_S A s.heap H locs) (hsize : ls.size = c.maxLocals)
    (htext : (text == notModelled) = false) (hnb : (stringBytes (stringToUtf16 text)).size ≤ nb) (hnb1 : nb ≤ 1000)
    (hRframes : names.length + 4 < R.frames) (hRlocals : (rest.map fun v => v.category).sum + 10240 ≤ R.locals) (hshort : 13 * names.length + 55 ≤ 10240) (hRcells : cells + 3 ≤ R.cells) (hRslots : slots + (nb + 10) ≤ R.slots) (hlocks : meth.locks = false)
    (k : ∀ (H1 : Heap) (q9 : Addr) (ce : Cell), H.size ≤ H1.size → (∀ q : Nat, q < H.size → H1[q]? = H[q]?) → va_S A s.heap H1 locs → H1[q9]? = some ce → ce.vm = .none → s.vm.findClass cls = some ce.cls → vx_W p l e R s m args below meth c H1 locs (cells + 3) (slots + (nb + 10)) Q (F0 m pc ls rest) q9) :
    vx_Note p l e R s m args below meth c H locs cells slots Q (F0 m pc ls rest) cls text := by
  intro T hT X
  have htr : e.platform.stackTraces = false := (show e.platform.stackTraces = l.stackTraces by rw [X.admits.platform]).trans hl
  have Y := vx_rebase X (R' := { frames := R.frames, locals := R.locals, cells := 3, slots := nb + 10 }) (Nat.le_refl _) (Nat.le_refl _) hRcells hRslots
  have hhp : ((T.setVm s.vm).setFrames (.invoking m args :: below)).heap = H := hT
  have hW0 : s.WarmedH ((T.setVm s.vm).setFrames (.invoking m args :: below)).vm := State.WarmedH.refl s
  have hat' : ∀ w ∈ vx_atM cls names, w.before args ((T.setVm s.vm).setFrames (.invoking m args :: below)) = true := fun w hw => vx_ot_at hW0 rfl (hgood w hw) (hat w hw)
  have hU' : vx_Zq Bundle.tN "UNASSIGNED_STACK" Bundle.steD A ((T.setVm s.vm).setFrames (.invoking m args :: below)) ((T.setVm s.vm).setFrames (.invoking m args :: below)).heap := by rw [hhp]; exact vx_Zq.moved hW0.alike (hU.kept hS.2.1)
  have hN' : vx_Zq Bundle.tN "SUPPRESSED_SENTINEL" Bundle.listD A ((T.setVm s.vm).setFrames (.invoking m args :: below)) ((T.setVm s.vm).setFrames (.invoking m args :: below)).heap := by rw [hhp]; exact vx_Zq.moved hW0.alike (hN.kept hS.2.1)
  obtain ⟨S, q, ce, st, Z, hce, hcl', hv⟩ := vx_vmAt Y hexec htr (cls := cls) (names := names) (text := text) hcls hnames hsoe hoom (vx_own hat' (vx_isRefq hU'.1) (vx_isRefq hN'.1) hU'.2.word hN'.2.word) (fun x hx => nomatch hx) htext
    (by rw [Launch.admits_arrayLengthLimit X.admits]; omega) (by rw [Launch.admits_maxHeapBytes X.admits]; simp only [componentBytes]; omega)
    (g := F0 m pc ls rest) rfl hsize hRframes (by show 2 * 0 + (rest.map fun v => v.category).sum + 10240 ≤ R.locals; omega) hshort (by show 0 + 3 ≤ 3; omega) (by show 0 + (_ + 4 + 6) ≤ nb + 10; omega) hlocks
  obtain ⟨f1, f2⟩ := vx_frame Z.same
  have f1' : H.size ≤ S.heap.size := by rw [← hT]; exact f1
  have f2' : ∀ q : Nat, q < H.size → S.heap[q]? = H[q]? := fun q hq => by
    rw [← hT]
    exact f2 q (by rw [← hT] at hq; exact hq) (fun z hz => nomatch hz)
  have X5 := vx_back9 X Y Z
  have X6 : Stand p l e R s m args below meth c S locs (cells + 3) (slots + (nb + 10)) := { X5 with same := X5.same.mono (by omega) (by omega) }
  obtain ⟨t, a1, b1⟩ := k S.heap q ce f1' f2' ⟨Nat.le_trans hS.1 f1', fun q h1 h2 => (f2' q (Nat.lt_of_lt_of_le h1 hS.1)).trans (hS.2.1 q h1 h2), hS.2.2⟩ hce hv hcl' S rfl X6
  exact ⟨t, st t a1, b1⟩
/-- from the machine's note that NullPointerException is thrown here -/
def vx_NoteN (p : Program) (l : Launch) (e : Env) (R : Room) (s : State) (m : MethodId) (args : Array Value) (below : List Frame) (meth : Method) (c : Code) (H : Heap) (locs : List Loc) (cells slots : Nat) (Q : State → Prop) (g : JFrame) : Prop :=
  ∀ T : State, T.heap = H → Stand p l e R s m args below meth c T locs cells slots → ∃ t, Steps p.tables e below ((T.setTop g).pushFrame (.throwNew "java/lang/NullPointerException" none none)) t ∧ Q t
theorem vx_npe {pc : Nat} {ls : Array Slot} {rest : List Value} {Q : State → Prop} (hexec : p.tables.exec = Jvm.exec) (hl : l.stackTraces = false) {nb : Nat} {A : Nat → Prop}
    (hat : ∀ w ∈ vx_atN nb, w.before args s = true) (hgood : ∀ w ∈ vx_atN nb, vx_ot w = true)
    (hU : vx_Zq Bundle.tN "UNASSIGNED_STACK" Bundle.steD A s s.heap) (hN : vx_Zq Bundle.tN "SUPPRESSED_SENTINEL" Bundle.listD A s s.heap) (hS : va_S A s.heap H locs) (hsize : ls.size = c.maxLocals)
    (hRframes : 7 < R.frames) (hRlocals : (rest.map fun v => v.category).sum + 10240 ≤ R.locals) (hRcells : cells + 1 ≤ R.cells) (hRslots : slots + nb ≤ R.slots) (hlocks : meth.locks = false)
    (k : ∀ (H1 : Heap) (q9 : Addr) (ce : Cell), H.size ≤ H1.size → (∀ q : Nat, q < H.size → H1[q]? = H[q]?) → va_S A s.heap H1 locs → H1[q9]? = some ce → ce.vm = .none → s.vm.findClass "java/lang/NullPointerException" = some ce.cls → vx_W p l e R s m args below meth c H1 locs (cells + 1) (slots + nb) Q (F0 m pc ls rest) q9) :
    vx_NoteN p l e R s m args below meth c H locs cells slots Q (F0 m pc ls rest) := by
  intro T hT X
  have htr : e.platform.stackTraces = false := (show e.platform.stackTraces = l.stackTraces by rw [X.admits.platform]).trans hl
  have Y := vx_rebase X (R' := { frames := R.frames, locals := R.locals, cells := 1, slots := nb }) (Nat.le_refl _) (Nat.le_refl _) hRcells hRslots
  have hhp : ((T.setVm s.vm).setFrames (.invoking m args :: below)).heap = H := hT
  have hW0 : s.WarmedH ((T.setVm s.vm).setFrames (.invoking m args :: below)).vm := State.WarmedH.refl s
  have hat' : ∀ w ∈ vx_atN nb, w.before args ((T.setVm s.vm).setFrames (.invoking m args :: below)) = true := fun w hw => vx_ot_at hW0 rfl (hgood w hw) (hat w hw)
  have hU' : vx_Zq Bundle.tN "UNASSIGNED_STACK" Bundle.steD A ((T.setVm s.vm).setFrames (.invoking m args :: below)) ((T.setVm s.vm).setFrames (.invoking m args :: below)).heap := by rw [hhp]; exact vx_Zq.moved hW0.alike (hU.kept hS.2.1)
  have hN' : vx_Zq Bundle.tN "SUPPRESSED_SENTINEL" Bundle.listD A ((T.setVm s.vm).setFrames (.invoking m args :: below)) ((T.setVm s.vm).setFrames (.invoking m args :: below)).heap := by rw [hhp]; exact vx_Zq.moved hW0.alike (hN.kept hS.2.1)
  obtain ⟨S, q, ce, st, Z, hce, hcl', hv⟩ := vx_npeAt Y hexec htr (n := nb) (vx_own hat' (vx_isRefq hU'.1) (vx_isRefq hN'.1) hU'.2.word hN'.2.word) (fun x hx => nomatch hx)
    (g := F0 m pc ls rest) rfl hsize hRframes (by show 2 * 0 + (rest.map fun v => v.category).sum + 10240 ≤ R.locals; omega) (by show 0 + 1 ≤ 1; omega) (by show 0 + nb ≤ nb; omega) hlocks
  obtain ⟨f1, f2⟩ := vx_frame Z.same
  have f1' : H.size ≤ S.heap.size := by rw [← hT]; exact f1
  have f2' : ∀ q : Nat, q < H.size → S.heap[q]? = H[q]? := fun q hq => by
    rw [← hT]
    exact f2 q (by rw [← hT] at hq; exact hq) (fun z hz => nomatch hz)
  have X5 := vx_back9 X Y Z
  have X6 : Stand p l e R s m args below meth c S locs (cells + 1) (slots + nb) := { X5 with same := X5.same.mono (by omega) (by omega) }
  obtain ⟨t, a1, b1⟩ := k S.heap q ce f1' f2' ⟨Nat.le_trans hS.1 f1', fun q h1 h2 => (f2' q (Nat.lt_of_lt_of_le h1 hS.1)).trans (hS.2.1 q h1 h2), hS.2.2⟩ hce hv hcl' S rfl X6
  exact ⟨t, st t a1, b1⟩
variable {Q : State → Prop} {cc : ByteArray} {pc : Nat} {ls : Array Slot} {rest : List Value}
theorem vx_idivZ (hexec : p.tables.exec = Jvm.exec) (hb : c.code = cc) {a b : Int32} (h0 : b = 0) (d : decode cc pc = .ok (.idiv, 1)) (k : vx_Note p l e R s m args below meth c H locs cells slots Q (F0 m pc ls rest) "java/lang/ArithmeticException" "/ by zero") :
    W p l e R s m args below meth c H locs cells slots Q (F0 m pc ls (.int b :: .int a :: rest)) := by
  intro T hT X
  obtain ⟨t, st, q⟩ := k T hT X
  exact ⟨t, X.idivZero hexec (g := F0 m pc ls (.int b :: .int a :: rest)) rfl (a := a) (rest := rest) (by rw [h0]) (by rw [hb]; exact d) t st, q⟩
theorem vx_iremZ (hexec : p.tables.exec = Jvm.exec) (hb : c.code = cc) {a b : Int32} (h0 : b = 0) (d : decode cc pc = .ok (.irem, 1)) (k : vx_Note p l e R s m args below meth c H locs cells slots Q (F0 m pc ls rest) "java/lang/ArithmeticException" "/ by zero") :
    W p l e R s m args below meth c H locs cells slots Q (F0 m pc ls (.int b :: .int a :: rest)) := by
  intro T hT X
  obtain ⟨t, st, q⟩ := k T hT X
  exact ⟨t, X.iremZero hexec (g := F0 m pc ls (.int b :: .int a :: rest)) rfl (a := a) (rest := rest) (by rw [h0]) (by rw [hb]; exact d) t st, q⟩
theorem vx_ldivZ (hexec : p.tables.exec = Jvm.exec) (hb : c.code = cc) {a b : Int64} (h0 : b = 0) (d : decode cc pc = .ok (.ldiv, 1)) (k : vx_Note p l e R s m args below meth c H locs cells slots Q (F0 m pc ls rest) "java/lang/ArithmeticException" "/ by zero") :
    W p l e R s m args below meth c H locs cells slots Q (F0 m pc ls (.long b :: .long a :: rest)) := by
  intro T hT X
  obtain ⟨t, st, q⟩ := k T hT X
  exact ⟨t, X.ldivZero hexec (g := F0 m pc ls (.long b :: .long a :: rest)) rfl (a := a) (rest := rest) (by rw [h0]) (by rw [hb]; exact d) t st, q⟩
theorem vx_lremZ (hexec : p.tables.exec = Jvm.exec) (hb : c.code = cc) {a b : Int64} (h0 : b = 0) (d : decode cc pc = .ok (.lrem, 1)) (k : vx_Note p l e R s m args below meth c H locs cells slots Q (F0 m pc ls rest) "java/lang/ArithmeticException" "/ by zero") :
    W p l e R s m args below meth c H locs cells slots Q (F0 m pc ls (.long b :: .long a :: rest)) := by
  intro T hT X
  obtain ⟨t, st, q⟩ := k T hT X
  exact ⟨t, X.lremZero hexec (g := F0 m pc ls (.long b :: .long a :: rest)) rfl (a := a) (rest := rest) (by rw [h0]) (by rw [hb]; exact d) t st, q⟩
theorem vx_ialdZ {D : va_G} {cl : List vw_C} {ws : va_W} {tys : List (ClassId × FieldType)} {a : Nat} (hexec : p.tables.exec = Jvm.exec) (hb : c.code = cc) (hK : va_K D cl tys s) (hP : va_P D cl ws H) (q0 t0 : Nat) {cA : ClassId} {n : Nat} {f : Nat → Int32} (ha : ws[q0]? = some (a, .inl (cA, n, .inl f))) (ht : tys[t0]? = some (cA, .int)) {i : Int32} (hout : ¬ vp_in i n) (hdg : decode cc pc = .ok (.iaload, 1))
    (k : ∀ tx : String, tx = (toString "Index " ++ toString i ++ toString " out of bounds for length " ++ toString n : String) → vx_Note p l e R s m args below meth c H locs cells slots Q (F0 m pc ls rest) "java/lang/ArrayIndexOutOfBoundsException" tx) : W p l e R s m args below meth c H locs cells slots Q (F0 m pc ls (.int i :: .ref a :: rest)) := by
  intro T hT X
  obtain ⟨t, st, q⟩ := k _ rfl T hT X
  refine ⟨t, ?_, q⟩
  have h1 := X.ialoadOut hexec (by rw [hT]; exact hP q0 _ ha) ((hK.2 t0 _ ht).1 n (fun j => .int (f j))) (j := i) (by show (i < 0 ∨ (arrV _ _ _).slots.size ≤ _); rw [arrV_size]; exact Classical.byContradiction hout) (g := F0 m pc ls (.int i :: .ref a :: rest)) rfl (rest := rest) rfl (by rw [hb]; exact hdg) t
  simp only [arrV_size] at h1
  exact h1 st
theorem vx_iastZ {D : va_G} {cl : List vw_C} {ws : va_W} {tys : List (ClassId × FieldType)} {a : Nat} (hexec : p.tables.exec = Jvm.exec) (hb : c.code = cc) (hK : va_K D cl tys s) (hP : va_P D cl ws H) (q0 t0 : Nat) {cA : ClassId} {n : Nat} {f : Nat → Int32} (ha : ws[q0]? = some (a, .inl (cA, n, .inl f))) (ht : tys[t0]? = some (cA, .int)) {i : Int32} {x : Int32} (hout : ¬ vp_in i n) (hdg : decode cc pc = .ok (.iastore, 1))
    (k : ∀ tx : String, tx = (toString "Index " ++ toString i ++ toString " out of bounds for length " ++ toString n : String) → vx_Note p l e R s m args below meth c H locs cells slots Q (F0 m pc ls rest) "java/lang/ArrayIndexOutOfBoundsException" tx) : W p l e R s m args below meth c H locs cells slots Q (F0 m pc ls (.int x :: .int i :: .ref a :: rest)) := by
  intro T hT X
  obtain ⟨t, st, q⟩ := k _ rfl T hT X
  refine ⟨t, ?_, q⟩
  have h1 := X.iastoreOut hexec (by rw [hT]; exact hP q0 _ ha) ((hK.2 t0 _ ht).1 n (fun j => .int (f j))) (j := i) (by show (i < 0 ∨ (arrV _ _ _).slots.size ≤ _); rw [arrV_size]; exact Classical.byContradiction hout) (g := F0 m pc ls (.int x :: .int i :: .ref a :: rest)) rfl (rest := rest) rfl (by rw [hb]; exact hdg) t
  simp only [arrV_size] at h1
  exact h1 st
theorem vx_baldZ {D : va_G} {cl : List vw_C} {ws : va_W} {tys : List (ClassId × FieldType)} {a : Nat} (hexec : p.tables.exec = Jvm.exec) (hb : c.code = cc) (hK : va_K D cl tys s) (hP : va_P D cl ws H) (q0 t0 : Nat) {cA : ClassId} {n : Nat} {f : Nat → Int32} (ha : ws[q0]? = some (a, .inl (cA, n, .inl f))) (ht : tys[t0]? = some (cA, .byte)) {i : Int32} (hout : ¬ vp_in i n) (hdg : decode cc pc = .ok (.baload, 1))
    (k : ∀ tx : String, tx = (toString "Index " ++ toString i ++ toString " out of bounds for length " ++ toString n : String) → vx_Note p l e R s m args below meth c H locs cells slots Q (F0 m pc ls rest) "java/lang/ArrayIndexOutOfBoundsException" tx) : W p l e R s m args below meth c H locs cells slots Q (F0 m pc ls (.int i :: .ref a :: rest)) := by
  intro T hT X
  obtain ⟨t, st, q⟩ := k _ rfl T hT X
  refine ⟨t, ?_, q⟩
  have h1 := X.baloadOut hexec (by rw [hT]; exact hP q0 _ ha) ((hK.2 t0 _ ht).1 n (fun j => .int (f j))) (j := i) (by show (i < 0 ∨ (arrV _ _ _).slots.size ≤ _); rw [arrV_size]; exact Classical.byContradiction hout) (g := F0 m pc ls (.int i :: .ref a :: rest)) rfl (rest := rest) rfl (by rw [hb]; exact hdg) t
  simp only [arrV_size] at h1
  exact h1 st
theorem vx_bastZ {D : va_G} {cl : List vw_C} {ws : va_W} {tys : List (ClassId × FieldType)} {a : Nat} (hexec : p.tables.exec = Jvm.exec) (hb : c.code = cc) (hK : va_K D cl tys s) (hP : va_P D cl ws H) (q0 t0 : Nat) {cA : ClassId} {n : Nat} {f : Nat → Int32} (ha : ws[q0]? = some (a, .inl (cA, n, .inl f))) (ht : tys[t0]? = some (cA, .byte)) {i : Int32} {x : Int32} (hout : ¬ vp_in i n) (hdg : decode cc pc = .ok (.bastore, 1))
    (k : ∀ tx : String, tx = (toString "Index " ++ toString i ++ toString " out of bounds for length " ++ toString n : String) → vx_Note p l e R s m args below meth c H locs cells slots Q (F0 m pc ls rest) "java/lang/ArrayIndexOutOfBoundsException" tx) : W p l e R s m args below meth c H locs cells slots Q (F0 m pc ls (.int x :: .int i :: .ref a :: rest)) := by
  intro T hT X
  obtain ⟨t, st, q⟩ := k _ rfl T hT X
  refine ⟨t, ?_, q⟩
  have h1 := X.bastoreOut hexec (by rw [hT]; exact hP q0 _ ha) ((hK.2 t0 _ ht).1 n (fun j => .int (f j))) (j := i) (by show (i < 0 ∨ (arrV _ _ _).slots.size ≤ _); rw [arrV_size]; exact Classical.byContradiction hout) (g := F0 m pc ls (.int x :: .int i :: .ref a :: rest)) rfl (rest := rest) rfl (by rw [hb]; exact hdg) t
  simp only [arrV_size] at h1
  exact h1 st
theorem vx_zaldZ {D : va_G} {cl : List vw_C} {ws : va_W} {tys : List (ClassId × FieldType)} {a : Nat} (hexec : p.tables.exec = Jvm.exec) (hb : c.code = cc) (hK : va_K D cl tys s) (hP : va_P D cl ws H) (q0 t0 : Nat) {cA : ClassId} {n : Nat} {f : Nat → Int32} (ha : ws[q0]? = some (a, .inl (cA, n, .inl f))) (ht : tys[t0]? = some (cA, .boolean)) {i : Int32} (hout : ¬ vp_in i n) (hdg : decode cc pc = .ok (.baload, 1))
    (k : ∀ tx : String, tx = (toString "Index " ++ toString i ++ toString " out of bounds for length " ++ toString n : String) → vx_Note p l e R s m args below meth c H locs cells slots Q (F0 m pc ls rest) "java/lang/ArrayIndexOutOfBoundsException" tx) : W p l e R s m args below meth c H locs cells slots Q (F0 m pc ls (.int i :: .ref a :: rest)) := by
  intro T hT X
  obtain ⟨t, st, q⟩ := k _ rfl T hT X
  refine ⟨t, ?_, q⟩
  have h1 := X.baloadOut hexec (by rw [hT]; exact hP q0 _ ha) ((hK.2 t0 _ ht).1 n (fun j => .int (f j))) (j := i) (by show (i < 0 ∨ (arrV _ _ _).slots.size ≤ _); rw [arrV_size]; exact Classical.byContradiction hout) (g := F0 m pc ls (.int i :: .ref a :: rest)) rfl (rest := rest) rfl (by rw [hb]; exact hdg) t
  simp only [arrV_size] at h1
  exact h1 st
theorem vx_zastZ {D : va_G} {cl : List vw_C} {ws : va_W} {tys : List (ClassId × FieldType)} {a : Nat} (hexec : p.tables.exec = Jvm.exec) (hb : c.code = cc) (hK : va_K D cl tys s) (hP : va_P D cl ws H) (q0 t0 : Nat) {cA : ClassId} {n : Nat} {f : Nat → Int32} (ha : ws[q0]? = some (a, .inl (cA, n, .inl f))) (ht : tys[t0]? = some (cA, .boolean)) {i : Int32} {x : Int32} (hout : ¬ vp_in i n) (hdg : decode cc pc = .ok (.bastore, 1))
    (k : ∀ tx : String, tx = (toString "Index " ++ toString i ++ toString " out of bounds for length " ++ toString n : String) → vx_Note p l e R s m args below meth c H locs cells slots Q (F0 m pc ls rest) "java/lang/ArrayIndexOutOfBoundsException" tx) : W p l e R s m args below meth c H locs cells slots Q (F0 m pc ls (.int x :: .int i :: .ref a :: rest)) := by
  intro T hT X
  obtain ⟨t, st, q⟩ := k _ rfl T hT X
  refine ⟨t, ?_, q⟩
  have h1 := X.bastoreOut hexec (by rw [hT]; exact hP q0 _ ha) ((hK.2 t0 _ ht).1 n (fun j => .int (f j))) (j := i) (by show (i < 0 ∨ (arrV _ _ _).slots.size ≤ _); rw [arrV_size]; exact Classical.byContradiction hout) (g := F0 m pc ls (.int x :: .int i :: .ref a :: rest)) rfl (rest := rest) rfl (by rw [hb]; exact hdg) t
  simp only [arrV_size] at h1
  exact h1 st
theorem vx_caldZ {D : va_G} {cl : List vw_C} {ws : va_W} {tys : List (ClassId × FieldType)} {a : Nat} (hexec : p.tables.exec = Jvm.exec) (hb : c.code = cc) (hK : va_K D cl tys s) (hP : va_P D cl ws H) (q0 t0 : Nat) {cA : ClassId} {n : Nat} {f : Nat → Int32} (ha : ws[q0]? = some (a, .inl (cA, n, .inl f))) (ht : tys[t0]? = some (cA, .char)) {i : Int32} (hout : ¬ vp_in i n) (hdg : decode cc pc = .ok (.caload, 1))
    (k : ∀ tx : String, tx = (toString "Index " ++ toString i ++ toString " out of bounds for length " ++ toString n : String) → vx_Note p l e R s m args below meth c H locs cells slots Q (F0 m pc ls rest) "java/lang/ArrayIndexOutOfBoundsException" tx) : W p l e R s m args below meth c H locs cells slots Q (F0 m pc ls (.int i :: .ref a :: rest)) := by
  intro T hT X
  obtain ⟨t, st, q⟩ := k _ rfl T hT X
  refine ⟨t, ?_, q⟩
  have h1 := X.caloadOut hexec (by rw [hT]; exact hP q0 _ ha) ((hK.2 t0 _ ht).1 n (fun j => .int (f j))) (j := i) (by show (i < 0 ∨ (arrV _ _ _).slots.size ≤ _); rw [arrV_size]; exact Classical.byContradiction hout) (g := F0 m pc ls (.int i :: .ref a :: rest)) rfl (rest := rest) rfl (by rw [hb]; exact hdg) t
  simp only [arrV_size] at h1
  exact h1 st
theorem vx_castZ {D : va_G} {cl : List vw_C} {ws : va_W} {tys : List (ClassId × FieldType)} {a : Nat} (hexec : p.tables.exec = Jvm.exec) (hb : c.code = cc) (hK : va_K D cl tys s) (hP : va_P D cl ws H) (q0 t0 : Nat) {cA : ClassId} {n : Nat} {f : Nat → Int32} (ha : ws[q0]? = some (a, .inl (cA, n, .inl f))) (ht : tys[t0]? = some (cA, .char)) {i : Int32} {x : Int32} (hout : ¬ vp_in i n) (hdg : decode cc pc = .ok (.castore, 1))
    (k : ∀ tx : String, tx = (toString "Index " ++ toString i ++ toString " out of bounds for length " ++ toString n : String) → vx_Note p l e R s m args below meth c H locs cells slots Q (F0 m pc ls rest) "java/lang/ArrayIndexOutOfBoundsException" tx) : W p l e R s m args below meth c H locs cells slots Q (F0 m pc ls (.int x :: .int i :: .ref a :: rest)) := by
  intro T hT X
  obtain ⟨t, st, q⟩ := k _ rfl T hT X
  refine ⟨t, ?_, q⟩
  have h1 := X.castoreOut hexec (by rw [hT]; exact hP q0 _ ha) ((hK.2 t0 _ ht).1 n (fun j => .int (f j))) (j := i) (by show (i < 0 ∨ (arrV _ _ _).slots.size ≤ _); rw [arrV_size]; exact Classical.byContradiction hout) (g := F0 m pc ls (.int x :: .int i :: .ref a :: rest)) rfl (rest := rest) rfl (by rw [hb]; exact hdg) t
  simp only [arrV_size] at h1
  exact h1 st
theorem vx_saldZ {D : va_G} {cl : List vw_C} {ws : va_W} {tys : List (ClassId × FieldType)} {a : Nat} (hexec : p.tables.exec = Jvm.exec) (hb : c.code = cc) (hK : va_K D cl tys s) (hP : va_P D cl ws H) (q0 t0 : Nat) {cA : ClassId} {n : Nat} {f : Nat → Int32} (ha : ws[q0]? = some (a, .inl (cA, n, .inl f))) (ht : tys[t0]? = some (cA, .short)) {i : Int32} (hout : ¬ vp_in i n) (hdg : decode cc pc = .ok (.saload, 1))
    (k : ∀ tx : String, tx = (toString "Index " ++ toString i ++ toString " out of bounds for length " ++ toString n : String) → vx_Note p l e R s m args below meth c H locs cells slots Q (F0 m pc ls rest) "java/lang/ArrayIndexOutOfBoundsException" tx) : W p l e R s m args below meth c H locs cells slots Q (F0 m pc ls (.int i :: .ref a :: rest)) := by
  intro T hT X
  obtain ⟨t, st, q⟩ := k _ rfl T hT X
  refine ⟨t, ?_, q⟩
  have h1 := X.saloadOut hexec (by rw [hT]; exact hP q0 _ ha) ((hK.2 t0 _ ht).1 n (fun j => .int (f j))) (j := i) (by show (i < 0 ∨ (arrV _ _ _).slots.size ≤ _); rw [arrV_size]; exact Classical.byContradiction hout) (g := F0 m pc ls (.int i :: .ref a :: rest)) rfl (rest := rest) rfl (by rw [hb]; exact hdg) t
  simp only [arrV_size] at h1
  exact h1 st
theorem vx_sastZ {D : va_G} {cl : List vw_C} {ws : va_W} {tys : List (ClassId × FieldType)} {a : Nat} (hexec : p.tables.exec = Jvm.exec) (hb : c.code = cc) (hK : va_K D cl tys s) (hP : va_P D cl ws H) (q0 t0 : Nat) {cA : ClassId} {n : Nat} {f : Nat → Int32} (ha : ws[q0]? = some (a, .inl (cA, n, .inl f))) (ht : tys[t0]? = some (cA, .short)) {i : Int32} {x : Int32} (hout : ¬ vp_in i n) (hdg : decode cc pc = .ok (.sastore, 1))
    (k : ∀ tx : String, tx = (toString "Index " ++ toString i ++ toString " out of bounds for length " ++ toString n : String) → vx_Note p l e R s m args below meth c H locs cells slots Q (F0 m pc ls rest) "java/lang/ArrayIndexOutOfBoundsException" tx) : W p l e R s m args below meth c H locs cells slots Q (F0 m pc ls (.int x :: .int i :: .ref a :: rest)) := by
  intro T hT X
  obtain ⟨t, st, q⟩ := k _ rfl T hT X
  refine ⟨t, ?_, q⟩
  have h1 := X.sastoreOut hexec (by rw [hT]; exact hP q0 _ ha) ((hK.2 t0 _ ht).1 n (fun j => .int (f j))) (j := i) (by show (i < 0 ∨ (arrV _ _ _).slots.size ≤ _); rw [arrV_size]; exact Classical.byContradiction hout) (g := F0 m pc ls (.int x :: .int i :: .ref a :: rest)) rfl (rest := rest) rfl (by rw [hb]; exact hdg) t
  simp only [arrV_size] at h1
  exact h1 st
theorem vx_laldZ {D : va_G} {cl : List vw_C} {ws : va_W} {tys : List (ClassId × FieldType)} {a : Nat} (hexec : p.tables.exec = Jvm.exec) (hb : c.code = cc) (hK : va_K D cl tys s) (hP : va_P D cl ws H) (q0 t0 : Nat) {cA : ClassId} {n : Nat} {f : Nat → Int64} (ha : ws[q0]? = some (a, .inl (cA, n, .inr (.inl f)))) (ht : tys[t0]? = some (cA, .long)) {i : Int32} (hout : ¬ vp_in i n) (hdg : decode cc pc = .ok (.laload, 1))
    (k : ∀ tx : String, tx = (toString "Index " ++ toString i ++ toString " out of bounds for length " ++ toString n : String) → vx_Note p l e R s m args below meth c H locs cells slots Q (F0 m pc ls rest) "java/lang/ArrayIndexOutOfBoundsException" tx) : W p l e R s m args below meth c H locs cells slots Q (F0 m pc ls (.int i :: .ref a :: rest)) := by
  intro T hT X
  obtain ⟨t, st, q⟩ := k _ rfl T hT X
  refine ⟨t, ?_, q⟩
  have h1 := X.laloadOut hexec (by rw [hT]; exact hP q0 _ ha) ((hK.2 t0 _ ht).1 n (fun j => .long (f j))) (j := i) (by show (i < 0 ∨ (arrV _ _ _).slots.size ≤ _); rw [arrV_size]; exact Classical.byContradiction hout) (g := F0 m pc ls (.int i :: .ref a :: rest)) rfl (rest := rest) rfl (by rw [hb]; exact hdg) t
  simp only [arrV_size] at h1
  exact h1 st
theorem vx_lastZ {D : va_G} {cl : List vw_C} {ws : va_W} {tys : List (ClassId × FieldType)} {a : Nat} (hexec : p.tables.exec = Jvm.exec) (hb : c.code = cc) (hK : va_K D cl tys s) (hP : va_P D cl ws H) (q0 t0 : Nat) {cA : ClassId} {n : Nat} {f : Nat → Int64} (ha : ws[q0]? = some (a, .inl (cA, n, .inr (.inl f)))) (ht : tys[t0]? = some (cA, .long)) {i : Int32} {x : Int64} (hout : ¬ vp_in i n) (hdg : decode cc pc = .ok (.lastore, 1))
    (k : ∀ tx : String, tx = (toString "Index " ++ toString i ++ toString " out of bounds for length " ++ toString n : String) → vx_Note p l e R s m args below meth c H locs cells slots Q (F0 m pc ls rest) "java/lang/ArrayIndexOutOfBoundsException" tx) : W p l e R s m args below meth c H locs cells slots Q (F0 m pc ls (.long x :: .int i :: .ref a :: rest)) := by
  intro T hT X
  obtain ⟨t, st, q⟩ := k _ rfl T hT X
  refine ⟨t, ?_, q⟩
  have h1 := X.lastoreOut hexec (by rw [hT]; exact hP q0 _ ha) ((hK.2 t0 _ ht).1 n (fun j => .long (f j))) (j := i) (by show (i < 0 ∨ (arrV _ _ _).slots.size ≤ _); rw [arrV_size]; exact Classical.byContradiction hout) (g := F0 m pc ls (.long x :: .int i :: .ref a :: rest)) rfl (rest := rest) rfl (by rw [hb]; exact hdg) t
  simp only [arrV_size] at h1
  exact h1 st
theorem vx_faldZ {D : va_G} {cl : List vw_C} {ws : va_W} {tys : List (ClassId × FieldType)} {a : Nat} (hexec : p.tables.exec = Jvm.exec) (hb : c.code = cc) (hK : va_K D cl tys s) (hP : va_P D cl ws H) (q0 t0 : Nat) {cA : ClassId} {n : Nat} {f : Nat → UInt32} (ha : ws[q0]? = some (a, .inl (cA, n, .inr (.inr (.inl f))))) (ht : tys[t0]? = some (cA, .float)) {i : Int32} (hout : ¬ vp_in i n) (hdg : decode cc pc = .ok (.faload, 1))
    (k : ∀ tx : String, tx = (toString "Index " ++ toString i ++ toString " out of bounds for length " ++ toString n : String) → vx_Note p l e R s m args below meth c H locs cells slots Q (F0 m pc ls rest) "java/lang/ArrayIndexOutOfBoundsException" tx) : W p l e R s m args below meth c H locs cells slots Q (F0 m pc ls (.int i :: .ref a :: rest)) := by
  intro T hT X
  obtain ⟨t, st, q⟩ := k _ rfl T hT X
  refine ⟨t, ?_, q⟩
  have h1 := X.faloadOut hexec (by rw [hT]; exact hP q0 _ ha) ((hK.2 t0 _ ht).1 n (fun j => .float (f j))) (j := i) (by show (i < 0 ∨ (arrV _ _ _).slots.size ≤ _); rw [arrV_size]; exact Classical.byContradiction hout) (g := F0 m pc ls (.int i :: .ref a :: rest)) rfl (rest := rest) rfl (by rw [hb]; exact hdg) t
  simp only [arrV_size] at h1
  exact h1 st
theorem vx_fastZ {D : va_G} {cl : List vw_C} {ws : va_W} {tys : List (ClassId × FieldType)} {a : Nat} (hexec : p.tables.exec = Jvm.exec) (hb : c.code = cc) (hK : va_K D cl tys s) (hP : va_P D cl ws H) (q0 t0 : Nat) {cA : ClassId} {n : Nat} {f : Nat → UInt32} (ha : ws[q0]? = some (a, .inl (cA, n, .inr (.inr (.inl f))))) (ht : tys[t0]? = some (cA, .float)) {i : Int32} {x : UInt32} (hout : ¬ vp_in i n) (hdg : decode cc pc = .ok (.fastore, 1))
    (k : ∀ tx : String, tx = (toString "Index " ++ toString i ++ toString " out of bounds for length " ++ toString n : String) → vx_Note p l e R s m args below meth c H locs cells slots Q (F0 m pc ls rest) "java/lang/ArrayIndexOutOfBoundsException" tx) : W p l e R s m args below meth c H locs cells slots Q (F0 m pc ls (.float x :: .int i :: .ref a :: rest)) := by
  intro T hT X
  obtain ⟨t, st, q⟩ := k _ rfl T hT X
  refine ⟨t, ?_, q⟩
  have h1 := X.fastoreOut hexec (by rw [hT]; exact hP q0 _ ha) ((hK.2 t0 _ ht).1 n (fun j => .float (f j))) (j := i) (by show (i < 0 ∨ (arrV _ _ _).slots.size ≤ _); rw [arrV_size]; exact Classical.byContradiction hout) (g := F0 m pc ls (.float x :: .int i :: .ref a :: rest)) rfl (rest := rest) rfl (by rw [hb]; exact hdg) t
  simp only [arrV_size] at h1
  exact h1 st
theorem vx_daldZ {D : va_G} {cl : List vw_C} {ws : va_W} {tys : List (ClassId × FieldType)} {a : Nat} (hexec : p.tables.exec = Jvm.exec) (hb : c.code = cc) (hK : va_K D cl tys s) (hP : va_P D cl ws H) (q0 t0 : Nat) {cA : ClassId} {n : Nat} {f : Nat → UInt64} (ha : ws[q0]? = some (a, .inl (cA, n, .inr (.inr (.inr (.inl f)))))) (ht : tys[t0]? = some (cA, .double)) {i : Int32} (hout : ¬ vp_in i n) (hdg : decode cc pc = .ok (.daload, 1))
    (k : ∀ tx : String, tx = (toString "Index " ++ toString i ++ toString " out of bounds for length " ++ toString n : String) → vx_Note p l e R s m args below meth c H locs cells slots Q (F0 m pc ls rest) "java/lang/ArrayIndexOutOfBoundsException" tx) : W p l e R s m args below meth c H locs cells slots Q (F0 m pc ls (.int i :: .ref a :: rest)) := by
  intro T hT X
  obtain ⟨t, st, q⟩ := k _ rfl T hT X
  refine ⟨t, ?_, q⟩
  have h1 := X.daloadOut hexec (by rw [hT]; exact hP q0 _ ha) ((hK.2 t0 _ ht).1 n (fun j => .double (f j))) (j := i) (by show (i < 0 ∨ (arrV _ _ _).slots.size ≤ _); rw [arrV_size]; exact Classical.byContradiction hout) (g := F0 m pc ls (.int i :: .ref a :: rest)) rfl (rest := rest) rfl (by rw [hb]; exact hdg) t
  simp only [arrV_size] at h1
  exact h1 st
theorem vx_dastZ {D : va_G} {cl : List vw_C} {ws : va_W} {tys : List (ClassId × FieldType)} {a : Nat} (hexec : p.tables.exec = Jvm.exec) (hb : c.code = cc) (hK : va_K D cl tys s) (hP : va_P D cl ws H) (q0 t0 : Nat) {cA : ClassId} {n : Nat} {f : Nat → UInt64} (ha : ws[q0]? = some (a, .inl (cA, n, .inr (.inr (.inr (.inl f)))))) (ht : tys[t0]? = some (cA, .double)) {i : Int32} {x : UInt64} (hout : ¬ vp_in i n) (hdg : decode cc pc = .ok (.dastore, 1))
    (k : ∀ tx : String, tx = (toString "Index " ++ toString i ++ toString " out of bounds for length " ++ toString n : String) → vx_Note p l e R s m args below meth c H locs cells slots Q (F0 m pc ls rest) "java/lang/ArrayIndexOutOfBoundsException" tx) : W p l e R s m args below meth c H locs cells slots Q (F0 m pc ls (.double x :: .int i :: .ref a :: rest)) := by
  intro T hT X
  obtain ⟨t, st, q⟩ := k _ rfl T hT X
  refine ⟨t, ?_, q⟩
  have h1 := X.dastoreOut hexec (by rw [hT]; exact hP q0 _ ha) ((hK.2 t0 _ ht).1 n (fun j => .double (f j))) (j := i) (by show (i < 0 ∨ (arrV _ _ _).slots.size ≤ _); rw [arrV_size]; exact Classical.byContradiction hout) (g := F0 m pc ls (.double x :: .int i :: .ref a :: rest)) rfl (rest := rest) rfl (by rw [hb]; exact hdg) t
  simp only [arrV_size] at h1
  exact h1 st
theorem vx_arraylengthN (hexec : p.tables.exec = Jvm.exec) (hb : c.code = cc) (hdg : decode cc pc = .ok (.arraylength, 1)) (k : vx_NoteN p l e R s m args below meth c H locs cells slots Q (F0 m pc ls rest)) : W p l e R s m args below meth c H locs cells slots Q (F0 m pc ls (.null :: rest)) := by
  intro T hT X
  obtain ⟨t, st, q⟩ := k T hT X
  exact ⟨t, X.arraylengthNull hexec (g := F0 m pc ls (.null :: rest)) rfl (rest := rest) rfl (by rw [hb]; exact hdg) t st, q⟩
theorem vx_ialoadN (hexec : p.tables.exec = Jvm.exec) (hb : c.code = cc) {i : Int32} (hdg : decode cc pc = .ok (.iaload, 1)) (k : vx_NoteN p l e R s m args below meth c H locs cells slots Q (F0 m pc ls rest)) : W p l e R s m args below meth c H locs cells slots Q (F0 m pc ls (.int i :: .null :: rest)) := by
  intro T hT X
  obtain ⟨t, st, q⟩ := k T hT X
  exact ⟨t, X.ialoadNull hexec (g := F0 m pc ls (.int i :: .null :: rest)) rfl (rest := rest) rfl (by rw [hb]; exact hdg) t st, q⟩
theorem vx_laloadN (hexec : p.tables.exec = Jvm.exec) (hb : c.code = cc) {i : Int32} (hdg : decode cc pc = .ok (.laload, 1)) (k : vx_NoteN p l e R s m args below meth c H locs cells slots Q (F0 m pc ls rest)) : W p l e R s m args below meth c H locs cells slots Q (F0 m pc ls (.int i :: .null :: rest)) := by
  intro T hT X
  obtain ⟨t, st, q⟩ := k T hT X
  exact ⟨t, X.laloadNull hexec (g := F0 m pc ls (.int i :: .null :: rest)) rfl (rest := rest) rfl (by rw [hb]; exact hdg) t st, q⟩
theorem vx_faloadN (hexec : p.tables.exec = Jvm.exec) (hb : c.code = cc) {i : Int32} (hdg : decode cc pc = .ok (.faload, 1)) (k : vx_NoteN p l e R s m args below meth c H locs cells slots Q (F0 m pc ls rest)) : W p l e R s m args below meth c H locs cells slots Q (F0 m pc ls (.int i :: .null :: rest)) := by
  intro T hT X
  obtain ⟨t, st, q⟩ := k T hT X
  exact ⟨t, X.faloadNull hexec (g := F0 m pc ls (.int i :: .null :: rest)) rfl (rest := rest) rfl (by rw [hb]; exact hdg) t st, q⟩
theorem vx_daloadN (hexec : p.tables.exec = Jvm.exec) (hb : c.code = cc) {i : Int32} (hdg : decode cc pc = .ok (.daload, 1)) (k : vx_NoteN p l e R s m args below meth c H locs cells slots Q (F0 m pc ls rest)) : W p l e R s m args below meth c H locs cells slots Q (F0 m pc ls (.int i :: .null :: rest)) := by
  intro T hT X
  obtain ⟨t, st, q⟩ := k T hT X
  exact ⟨t, X.daloadNull hexec (g := F0 m pc ls (.int i :: .null :: rest)) rfl (rest := rest) rfl (by rw [hb]; exact hdg) t st, q⟩
theorem vx_aaloadN (hexec : p.tables.exec = Jvm.exec) (hb : c.code = cc) {i : Int32} (hdg : decode cc pc = .ok (.aaload, 1)) (k : vx_NoteN p l e R s m args below meth c H locs cells slots Q (F0 m pc ls rest)) : W p l e R s m args below meth c H locs cells slots Q (F0 m pc ls (.int i :: .null :: rest)) := by
  intro T hT X
  obtain ⟨t, st, q⟩ := k T hT X
  exact ⟨t, X.aaloadNull hexec (g := F0 m pc ls (.int i :: .null :: rest)) rfl (rest := rest) rfl (by rw [hb]; exact hdg) t st, q⟩
theorem vx_baloadN (hexec : p.tables.exec = Jvm.exec) (hb : c.code = cc) {i : Int32} (hdg : decode cc pc = .ok (.baload, 1)) (k : vx_NoteN p l e R s m args below meth c H locs cells slots Q (F0 m pc ls rest)) : W p l e R s m args below meth c H locs cells slots Q (F0 m pc ls (.int i :: .null :: rest)) := by
  intro T hT X
  obtain ⟨t, st, q⟩ := k T hT X
  exact ⟨t, X.baloadNull hexec (g := F0 m pc ls (.int i :: .null :: rest)) rfl (rest := rest) rfl (by rw [hb]; exact hdg) t st, q⟩
theorem vx_caloadN (hexec : p.tables.exec = Jvm.exec) (hb : c.code = cc) {i : Int32} (hdg : decode cc pc = .ok (.caload, 1)) (k : vx_NoteN p l e R s m args below meth c H locs cells slots Q (F0 m pc ls rest)) : W p l e R s m args below meth c H locs cells slots Q (F0 m pc ls (.int i :: .null :: rest)) := by
  intro T hT X
  obtain ⟨t, st, q⟩ := k T hT X
  exact ⟨t, X.caloadNull hexec (g := F0 m pc ls (.int i :: .null :: rest)) rfl (rest := rest) rfl (by rw [hb]; exact hdg) t st, q⟩
theorem vx_saloadN (hexec : p.tables.exec = Jvm.exec) (hb : c.code = cc) {i : Int32} (hdg : decode cc pc = .ok (.saload, 1)) (k : vx_NoteN p l e R s m args below meth c H locs cells slots Q (F0 m pc ls rest)) : W p l e R s m args below meth c H locs cells slots Q (F0 m pc ls (.int i :: .null :: rest)) := by
  intro T hT X
  obtain ⟨t, st, q⟩ := k T hT X
  exact ⟨t, X.saloadNull hexec (g := F0 m pc ls (.int i :: .null :: rest)) rfl (rest := rest) rfl (by rw [hb]; exact hdg) t st, q⟩
theorem vx_iastoreN (hexec : p.tables.exec = Jvm.exec) (hb : c.code = cc) {x : Int32} {i : Int32} (hdg : decode cc pc = .ok (.iastore, 1)) (k : vx_NoteN p l e R s m args below meth c H locs cells slots Q (F0 m pc ls rest)) : W p l e R s m args below meth c H locs cells slots Q (F0 m pc ls (.int x :: .int i :: .null :: rest)) := by
  intro T hT X
  obtain ⟨t, st, q⟩ := k T hT X
  exact ⟨t, X.iastoreNull hexec (g := F0 m pc ls (.int x :: .int i :: .null :: rest)) rfl (rest := rest) rfl (by rw [hb]; exact hdg) t st, q⟩
theorem vx_lastoreN (hexec : p.tables.exec = Jvm.exec) (hb : c.code = cc) {x : Int64} {i : Int32} (hdg : decode cc pc = .ok (.lastore, 1)) (k : vx_NoteN p l e R s m args below meth c H locs cells slots Q (F0 m pc ls rest)) : W p l e R s m args below meth c H locs cells slots Q (F0 m pc ls (.long x :: .int i :: .null :: rest)) := by
  intro T hT X
  obtain ⟨t, st, q⟩ := k T hT X
  exact ⟨t, X.lastoreNull hexec (g := F0 m pc ls (.long x :: .int i :: .null :: rest)) rfl (rest := rest) rfl (by rw [hb]; exact hdg) t st, q⟩
theorem vx_fastoreN (hexec : p.tables.exec = Jvm.exec) (hb : c.code = cc) {x : UInt32} {i : Int32} (hdg : decode cc pc = .ok (.fastore, 1)) (k : vx_NoteN p l e R s m args below meth c H locs cells slots Q (F0 m pc ls rest)) : W p l e R s m args below meth c H locs cells slots Q (F0 m pc ls (.float x :: .int i :: .null :: rest)) := by
  intro T hT X
  obtain ⟨t, st, q⟩ := k T hT X
  exact ⟨t, X.fastoreNull hexec (g := F0 m pc ls (.float x :: .int i :: .null :: rest)) rfl (rest := rest) rfl (by rw [hb]; exact hdg) t st, q⟩
theorem vx_dastoreN (hexec : p.tables.exec = Jvm.exec) (hb : c.code = cc) {x : UInt64} {i : Int32} (hdg : decode cc pc = .ok (.dastore, 1)) (k : vx_NoteN p l e R s m args below meth c H locs cells slots Q (F0 m pc ls rest)) : W p l e R s m args below meth c H locs cells slots Q (F0 m pc ls (.double x :: .int i :: .null :: rest)) := by
  intro T hT X
  obtain ⟨t, st, q⟩ := k T hT X
  exact ⟨t, X.dastoreNull hexec (g := F0 m pc ls (.double x :: .int i :: .null :: rest)) rfl (rest := rest) rfl (by rw [hb]; exact hdg) t st, q⟩
theorem vx_bastoreN (hexec : p.tables.exec = Jvm.exec) (hb : c.code = cc) {x : Int32} {i : Int32} (hdg : decode cc pc = .ok (.bastore, 1)) (k : vx_NoteN p l e R s m args below meth c H locs cells slots Q (F0 m pc ls rest)) : W p l e R s m args below meth c H locs cells slots Q (F0 m pc ls (.int x :: .int i :: .null :: rest)) := by
  intro T hT X
  obtain ⟨t, st, q⟩ := k T hT X
  exact ⟨t, X.bastoreNull hexec (g := F0 m pc ls (.int x :: .int i :: .null :: rest)) rfl (rest := rest) rfl (by rw [hb]; exact hdg) t st, q⟩
theorem vx_castoreN (hexec : p.tables.exec = Jvm.exec) (hb : c.code = cc) {x : Int32} {i : Int32} (hdg : decode cc pc = .ok (.castore, 1)) (k : vx_NoteN p l e R s m args below meth c H locs cells slots Q (F0 m pc ls rest)) : W p l e R s m args below meth c H locs cells slots Q (F0 m pc ls (.int x :: .int i :: .null :: rest)) := by
  intro T hT X
  obtain ⟨t, st, q⟩ := k T hT X
  exact ⟨t, X.castoreNull hexec (g := F0 m pc ls (.int x :: .int i :: .null :: rest)) rfl (rest := rest) rfl (by rw [hb]; exact hdg) t st, q⟩
theorem vx_sastoreN (hexec : p.tables.exec = Jvm.exec) (hb : c.code = cc) {x : Int32} {i : Int32} (hdg : decode cc pc = .ok (.sastore, 1)) (k : vx_NoteN p l e R s m args below meth c H locs cells slots Q (F0 m pc ls rest)) : W p l e R s m args below meth c H locs cells slots Q (F0 m pc ls (.int x :: .int i :: .null :: rest)) := by
  intro T hT X
  obtain ⟨t, st, q⟩ := k T hT X
  exact ⟨t, X.sastoreNull hexec (g := F0 m pc ls (.int x :: .int i :: .null :: rest)) rfl (rest := rest) rfl (by rw [hb]; exact hdg) t st, q⟩
theorem vx_invokeN {own C : String} {index maxL : Nat} {y : MethodName} {bytes : ByteArray} {ret : Option FieldType} (hexec : p.tables.exec = Jvm.exec) (hb : c.code = cc) (hown : s.vm.findClass own = some m.cls) (hlink : (Cond.methodLink own index y).before args s = true) (hinst : (Cond.instanceMethod y).before args s = true) (hcode : (Cond.code y bytes maxL ret).before args s = true) (hsel : (Cond.selects C y y).before args s = true)
    (hx : y.cls ≠ "java/lang/invoke/MethodHandle" ∧ y.cls ≠ "java/lang/invoke/VarHandle") {As : List Value} (hlen : (parseMethodDescriptor y.desc).map (fun d => d.parameters.length) = some As.length) (hdg : decode cc pc = .ok (.invokevirtual index, 3))
    (k : vx_NoteN p l e R s m args below meth c H locs cells slots Q (F0 m pc ls rest)) {st0 : List Value} (hst : st0 = As.reverse ++ .null :: rest) : W p l e R s m args below meth c H locs cells slots Q (F0 m pc ls st0) := by
  intro T hT X
  obtain ⟨r0, r, hn, hrm, hstR, hsigR⟩ := va_Decl.of hinst hcode
  obtain ⟨c2, r2, m2, q1, q2, q3, q4, kP, hkP, hkPi⟩ := Cond.selects_spec hsel
  cases hn.symm.trans q3
  have hl9 : As.length = r.sig.parameters.length := by
    rw [hsigR] at hlen
    exact (Option.some.inj hlen).symm
  obtain ⟨vm', X1, st1⟩ := X.invokevirtualNull hexec hown hlink hn hrm hstR hkP hkPi hx (g := F0 m pc ls st0) rfl (argsL := As) (rest := rest) hl9 hst (by rw [hb]; exact hdg)
  obtain ⟨t, st, q⟩ := k (T.setVm vm') hT X1
  exact ⟨t, st1 t st, q⟩
theorem vx_newarrayZ {atype : ArrayType} (hexec : p.tables.exec = Jvm.exec) (hb : c.code = cc) {n : Int32} (h0 : n < 0) (hdg : decode cc pc = .ok (.newarray atype, 2)) (k : ∀ tx : String, tx = toString n → vx_Note p l e R s m args below meth c H locs cells slots Q (F0 m pc ls rest) "java/lang/NegativeArraySizeException" tx) : W p l e R s m args below meth c H locs cells slots Q (F0 m pc ls (.int n :: rest)) := by
  intro T hT X
  obtain ⟨t, st, q⟩ := k _ rfl T hT X
  exact ⟨t, X.newarrayNegative hexec (g := F0 m pc ls (.int n :: rest)) rfl h0 (rest := rest) rfl (by rw [hb]; exact hdg) t st, q⟩
end
end VXM
/-! ===== END ===== -/
/-! ===== BEGIN an exception as an object: made, kept, thrown later (no traces kept) ===== -/
section VXK
variable {p : Program} {l : Launch} {e : Env} {R : Room} {s : State} {m₀ : MethodId} {args : Array Value} {below : List Frame} {meth : Method} {c : Code} {W : State} {locs : List Loc} {cells slots : Nat}
set_option maxHeartbeats 1000000 in
theorem vx_ctorMadeS (X : Stand p l e R s m₀ args below meth c W locs cells slots) (hexec : p.tables.exec = Jvm.exec) (htr : e.platform.stackTraces = false) {own cls : String} {names : List String} {ic : Nat}
    (hown : s.vm.findClass own = some m₀.cls) (hcls : Bundle.fit cls = true) (hnames : ∀ n ∈ names, Bundle.fit n = true)
    (h : ∀ a ∈ Bundle.ownAtoms own ic cls names, a.before args s = true)
    (hlocs : ∀ x ∈ locs, ∀ cell, s.heap[x.base]? = some cell → cell.vm.isStatics = false)
    {a : Addr} {cX : ClassId} {kX : Class} (hfoundX : s.vm.findClass cls = some cX) (hkX : s.vm.classes[cX]? = some kX) (hcell : W.heap[a]? = some (freshCell cX kX)) (hnew : s.heap.size ≤ a)
    {msg : Value} (hmsg : msg.isRef = true)
    {g : JFrame} (hg : g.method = m₀) (hsize : g.locals.size = c.maxLocals) {rest : List Value} (hstack : g.stack = msg :: .ref a :: .ref a :: rest)
    (hd6 : decode c.code g.pc = .ok (.invokespecial ic, 3))
    (hRframes : names.length + 3 < R.frames) (hRlocals : 2 * g.monitorRoom + ((Value.ref a :: rest).map fun v => v.category).sum + (13 * (names.length + 1) + 42) ≤ R.locals) :
    ∃ (V : State) (ce : Cell) (L : List Loc), Stand p l e R s m₀ args below meth c (V.setCell a ce) (locs ++ L) cells slots ∧ (∀ y ∈ L, y.base = a) ∧ a < V.heap.size ∧ ce.cls = cX ∧ ce.vm = .none ∧
      ∀ target, Steps p.tables e below ((V.setCell a ce).setTop { g with stack := .ref a :: rest, pc := g.pc + 3 }) target → Steps p.tables e below (W.setTop g) target := by
  have howns : e.platform.frameOwnsMonitors = true := by rw [X.admits.platform]
  have hfin : e.platform.finalization = false := by rw [X.admits.platform]
  have hpl : e.platform.magicAccessors = ({} : Platform).magicAccessors := by rw [X.admits.platform]
  have a' : ∀ x, x ∈ Bundle.ownAtoms own ic cls names → x.holds args s none s [] = true := fun x hx => h x hx
  obtain ⟨T, Z0, L, -, Y⟩ := ThrowableC.of_atoms (args := args) howns hfin hpl (fun x hx => h x (by simp [Bundle.ownAtoms, hx]))
  obtain ⟨Z, M, LZ, LM, hnZ⟩ := Init0T.ofS_atoms (args := args) hpl L Y (fun x hx => h x (by simp [Bundle.ownAtoms, hx]))
  obtain ⟨P1, Ps, hlen, L1, hL, hP1m, hlink1, hlink⟩ := Bundle.chainS (args := args) hpl hnZ names cls hcls hnames (fun x hx => h x (by simp [Bundle.ownAtoms, hx]))
  have hfound : s.vm.findClass cls = some P1.m.cls := findClass_of_methodNamed hP1m
  cases Option.some.inj (hfoundX.symm.trans hfound)
  obtain ⟨c1, kX', hc1, hk, hord, -, -, hn6⟩ := Cond.instantiable_spec (a' (.instantiable cls 6) (by simp [Bundle.ownAtoms]))
  cases Option.some.inj (hc1.symm.trans hfound)
  cases Option.some.inj (hkX.symm.trans hk)
  have hsel0 : selectMethod e.platform s.vm P1.m.cls T.fill0 = .method T.fill0 := by
    obtain ⟨c2, r2, m2, q1, q2, q3, q4, -⟩ := Cond.selects_spec (a' (.selects cls Bundle.tFill0 Bundle.tFill0) (by simp [Bundle.ownAtoms]))
    cases Option.some.inj (q1.symm.trans hfound)
    cases Option.some.inj (q2.symm.trans (State.methodFound?_of_named Y.fill0 (by decide)))
    cases Option.some.inj (q3.symm.trans Y.fill0)
    rw [Launch.admits_selectMethod X.admits]; exact q4
  have hselF : selectMethod e.platform s.vm P1.m.cls T.fill = .method T.fill := by
    obtain ⟨c2, r2, m2, q1, q2, q3, q4, -⟩ := Cond.selects_spec (a' (.selects cls Bundle.tFill Bundle.tFill) (by simp [Bundle.ownAtoms]))
    cases Option.some.inj (q1.symm.trans hfound)
    cases Option.some.inj (q2.symm.trans (State.methodFound?_of_named Y.fill (by decide)))
    cases Option.some.inj (q3.symm.trans Y.fill)
    rw [Launch.admits_selectMethod X.admits]; exact q4
  obtain ⟨cellS0, hcS0, hiss⟩ := Y.statics
  obtain ⟨u0, hu0⟩ := Cond.staticRefV Y.unassigned L.unassignedStatic L.statics hcS0 hiss (a' (.isRef (.static Bundle.tN "UNASSIGNED_STACK" Bundle.steD)) (by simp [Bundle.ownAtoms]))
  obtain ⟨sen, hsen⟩ := Cond.staticRefV Y.sentinel L.sentinelStatic L.statics hcS0 hiss (a' (.isRef (.static Bundle.tN "SUPPRESSED_SENTINEL" Bundle.listD)) (by simp [Bundle.ownAtoms]))
  obtain ⟨ci198, i198, fB, hk198, hg198, ha198, hsB, -, hnB, htB, hffB⟩ := Cond.ownField (t := .object "java/lang/Object") Y.found L.cls (by decide +kernel) (a' (.fieldLink Bundle.tN 198 Bundle.tN "backtrace" "Ljava/lang/Object;") (by simp [Bundle.ownAtoms])) (a' (.lays Bundle.tN Bundle.tN "backtrace" "Ljava/lang/Object;") (by simp [Bundle.ownAtoms])) e.platform hpl
  obtain ⟨cellS, hcS', heS, -, hkeep⟩ := X.same.2.2.2.2.2 T.aS cellS0 hcS0
  have hcellS : W.heap[T.aS]? = some cellS := hcS'
  have hout' : ∀ i, (⟨T.aS, i⟩ : Loc) ∉ locs := fun i hmem => by
    have := hlocs _ hmem cellS0 hcS0
    rw [hiss] at this; cases this
  have hknownS : cellS.vm ≠ .unknown := by
    rw [heS]; intro hu
    rw [show cellS0.vm = .unknown from hu] at hiss
    cases hiss
  have hneS : T.aS ≠ a := Nat.ne_of_lt (Nat.lt_of_lt_of_le (Array.getElem?_eq_some_iff.mp hcS0).1 hnew)
  obtain ⟨iM, hffM⟩ := Y.msg
  obtain ⟨tyC, dC, hdC, hdnC⟩ := Cond.laysAt hfound hk Y.cause (a' (.lays cls Bundle.tN "cause" "Ljava/lang/Throwable;") (by simp [Bundle.ownAtoms]))
  obtain ⟨tyS, dS, hdS, hdnS⟩ := Cond.laysAt hfound hk Y.stack (a' (.lays cls Bundle.tN "stackTrace" Bundle.steD) (by simp [Bundle.ownAtoms]))
  obtain ⟨tyP, dP, hdP, hdnP⟩ := Cond.laysAt hfound hk Y.supp (a' (.lays cls Bundle.tN "suppressedExceptions" Bundle.listD) (by simp [Bundle.ownAtoms]))
  obtain ⟨tyM, dM, hdM, hdnM⟩ := Cond.laysAt hfound hk hffM (a' (.lays cls Bundle.tN "detailMessage" "Ljava/lang/String;") (by simp [Bundle.ownAtoms]))
  obtain ⟨tyB, dB, hdB, hdnB⟩ := Cond.laysAt hfound hk hffB (a' (.lays cls Bundle.tN "backtrace" "Ljava/lang/Object;") (by simp [Bundle.ownAtoms]))
  have bC := Cond.laysApart hdB hdC hdnB hdnC (by rw [hnB, Y.causeName]; decide)
  have bS := Cond.laysApart hdB hdS hdnB hdnS (by rw [hnB, Y.stackName]; decide)
  have bP := Cond.laysApart hdB hdP hdnB hdnP (by rw [hnB, Y.suppName]; decide)
  have hskip : SkipFacts T e.platform s (fun u => u) u0 ((preparedCellV T.toThrowableT (freshCell P1.m.cls kX) a u0 sen).withEntry W.cur) :=
    ⟨{ ci198 := ci198, i198 := i198, fBack := fB }, ⟨hk198, hg198, ha198, hsB⟩, by
      have := fresh_default (c := P1.m.cls) tyB
      rw [htB] at this
      simpa [preparedCellV, Cell.setSlot, Cell.withEntry, Array.getElem?_setIfInBounds, bC, bS, bP, bC.symm, bS.symm, bP.symm, defaultValue] using this, fun _ _ => rfl⟩
  obtain ⟨tm, methC, cdC, kC, vm₁, hnC, -, -, -, -, -, -, -, hW₁, st1⟩ := Steps.initColdS (tb := p.tables) (e := e) (below := below) (s := s) (U := W) X.here hexec X.warmed hpl hown (t := Bundle.initS cls) rfl rfl (Bundle.fit_spec hcls).2
    (a' (.methodLink own ic (Bundle.initS cls)) (by simp [Bundle.ownAtoms])) (h (.instanceMethod (Bundle.initS cls)) (by cases names <;> simp [Bundle.ownAtoms, Bundle.chainSAtoms, Bundle.passSAtoms])) (bytes := Bundle.six) (maxL := 2) (h (.code (Bundle.initS cls) Bundle.six 2 none) (by cases names <;> simp [Bundle.ownAtoms, Bundle.chainSAtoms, Bundle.passSAtoms]))
    (f := g) hg (a := a) (msg := msg) (rest := .ref a :: rest) hstack hd6
  cases Option.some.inj (hnC.symm.trans hP1m)
  have X₁ := X.noted hW₁
  obtain ⟨vm₂, X₂, st2⟩ := X₁.ctorMessageOffV hexec (g := { g with stack := .ref a :: rest }) hg hsize T L Z LZ M LM (P1 :: Ps)
    (fun P hP => by rcases List.mem_cons.mp hP with rfl | hP; exact L1; exact hL P hP) ⟨hlink1, hlink⟩ (u0 := u0) (sen := sen) (self := a) hmsg (cell := freshCell P1.m.cls kX) (cellS := cellS)
    hcell (fun _ => by simp) (by simp) rfl rfl hsel0 hselF hcellS hneS hknownS (by rw [hkeep _ (hout' _)]; exact hu0) (by rw [hkeep _ (hout' _)]; exact hsen)
    (Takes.of_laid hk hord tyC (by rw [Y.causeType]; rfl)) (Takes.of_laid hk hord tyS (by rw [Y.stackType]; exact fits_refV_array _ u0)) (Takes.of_laid hk hord tyP (by rw [Y.suppType]; exact fits_refV_object _ sen))
    (Takes.of_laid hk hord tyM (by rw [Y.msgType]; exact fits_refV_object _ ⟨msg, hmsg⟩)) Y.objLocals hskip htr [] hd6
    (by simp only [List.length_cons, hlen]; omega) (by simp only [List.length_cons, hlen]; exact hRlocals)
  have hlt : a < ((W.setVm vm₁).setVm vm₂).heap.size := (Array.getElem?_eq_some_iff.mp hcell).1
  refine ⟨(W.setVm vm₁).setVm vm₂, _, _, X₂, fun y hy => ?_, hlt, rfl, rfl, fun target hwalk => st1 _ (fun acts => ?_)⟩
  · simp only [List.mem_cons, List.not_mem_nil, or_false] at hy
    rcases hy with rfl | rfl | rfl | rfl | rfl <;> rfl
  · rw [doInvoke_state]
    exact st2 _ hwalk
set_option maxHeartbeats 1000000 in
theorem vx_ctorMade0 (X : Stand p l e R s m₀ args below meth c W locs cells slots) (hexec : p.tables.exec = Jvm.exec) (htr : e.platform.stackTraces = false) {own cls : String} {names : List String} {ic : Nat}
    (hown : s.vm.findClass own = some m₀.cls) (hcls : Bundle.fit cls = true) (hnames : ∀ n ∈ names, Bundle.fit n = true)
    (h : ∀ a ∈ Bundle.ownAtoms0 own ic cls names, a.before args s = true)
    (hlocs : ∀ x ∈ locs, ∀ cell, s.heap[x.base]? = some cell → cell.vm.isStatics = false)
    {a : Addr} {cX : ClassId} {kX : Class} (hfoundX : s.vm.findClass cls = some cX) (hkX : s.vm.classes[cX]? = some kX) (hcell : W.heap[a]? = some (freshCell cX kX)) (hnew : s.heap.size ≤ a)
    {g : JFrame} (hg : g.method = m₀) (hsize : g.locals.size = c.maxLocals) {rest : List Value} (hstack : g.stack = .ref a :: .ref a :: rest)
    (hd6 : decode c.code g.pc = .ok (.invokespecial ic, 3))
    (hRframes : names.length + 3 < R.frames) (hRlocals : 2 * g.monitorRoom + ((Value.ref a :: rest).map fun v => v.category).sum + (13 * (names.length + 1) + 41) ≤ R.locals) :
    ∃ (V : State) (ce : Cell) (L : List Loc), Stand p l e R s m₀ args below meth c (V.setCell a ce) (locs ++ L) cells slots ∧ (∀ y ∈ L, y.base = a) ∧ a < V.heap.size ∧ ce.cls = cX ∧ ce.vm = .none ∧
      ∀ target, Steps p.tables e below ((V.setCell a ce).setTop { g with stack := .ref a :: rest, pc := g.pc + 3 }) target → Steps p.tables e below (W.setTop g) target := by
  have howns : e.platform.frameOwnsMonitors = true := by rw [X.admits.platform]
  have hfin : e.platform.finalization = false := by rw [X.admits.platform]
  have hpl : e.platform.magicAccessors = ({} : Platform).magicAccessors := by rw [X.admits.platform]
  have a' : ∀ x, x ∈ Bundle.ownAtoms0 own ic cls names → x.holds args s none s [] = true := fun x hx => h x hx
  obtain ⟨T, Z, L, LZ, Y⟩ := ThrowableC.of_atoms (args := args) howns hfin hpl (fun x hx => h x (by simp [Bundle.ownAtoms0, hx]))
  obtain ⟨P1, Ps, hlen, L1, hL, hP1m, hlink1, hlink⟩ := Bundle.chain0 (args := args) hpl Y.init0 names cls hcls hnames (fun x hx => h x (by simp [Bundle.ownAtoms0, hx]))
  have hfound : s.vm.findClass cls = some P1.m.cls := findClass_of_methodNamed hP1m
  cases Option.some.inj (hfoundX.symm.trans hfound)
  obtain ⟨c1, kX', hc1, hk, hord, -, -, hn6⟩ := Cond.instantiable_spec (a' (.instantiable cls 6) (by simp [Bundle.ownAtoms0]))
  cases Option.some.inj (hc1.symm.trans hfound)
  cases Option.some.inj (hkX.symm.trans hk)
  have hsel0 : selectMethod e.platform s.vm P1.m.cls T.fill0 = .method T.fill0 := by
    obtain ⟨c2, r2, m2, q1, q2, q3, q4, -⟩ := Cond.selects_spec (a' (.selects cls Bundle.tFill0 Bundle.tFill0) (by simp [Bundle.ownAtoms0]))
    cases Option.some.inj (q1.symm.trans hfound)
    cases Option.some.inj (q2.symm.trans (State.methodFound?_of_named Y.fill0 (by decide)))
    cases Option.some.inj (q3.symm.trans Y.fill0)
    rw [Launch.admits_selectMethod X.admits]; exact q4
  have hselF : selectMethod e.platform s.vm P1.m.cls T.fill = .method T.fill := by
    obtain ⟨c2, r2, m2, q1, q2, q3, q4, -⟩ := Cond.selects_spec (a' (.selects cls Bundle.tFill Bundle.tFill) (by simp [Bundle.ownAtoms0]))
    cases Option.some.inj (q1.symm.trans hfound)
    cases Option.some.inj (q2.symm.trans (State.methodFound?_of_named Y.fill (by decide)))
    cases Option.some.inj (q3.symm.trans Y.fill)
    rw [Launch.admits_selectMethod X.admits]; exact q4
  obtain ⟨cellS0, hcS0, hiss⟩ := Y.statics
  obtain ⟨u0, hu0⟩ := Cond.staticRefV Y.unassigned L.unassignedStatic L.statics hcS0 hiss (a' (.isRef (.static Bundle.tN "UNASSIGNED_STACK" Bundle.steD)) (by simp [Bundle.ownAtoms0]))
  obtain ⟨sen, hsen⟩ := Cond.staticRefV Y.sentinel L.sentinelStatic L.statics hcS0 hiss (a' (.isRef (.static Bundle.tN "SUPPRESSED_SENTINEL" Bundle.listD)) (by simp [Bundle.ownAtoms0]))
  obtain ⟨ci198, i198, fB, hk198, hg198, ha198, hsB, -, hnB, htB, hffB⟩ := Cond.ownField (t := .object "java/lang/Object") Y.found L.cls (by decide +kernel) (a' (.fieldLink Bundle.tN 198 Bundle.tN "backtrace" "Ljava/lang/Object;") (by simp [Bundle.ownAtoms0])) (a' (.lays Bundle.tN Bundle.tN "backtrace" "Ljava/lang/Object;") (by simp [Bundle.ownAtoms0])) e.platform hpl
  obtain ⟨cellS, hcS', heS, -, hkeep⟩ := X.same.2.2.2.2.2 T.aS cellS0 hcS0
  have hcellS : W.heap[T.aS]? = some cellS := hcS'
  have hout' : ∀ i, (⟨T.aS, i⟩ : Loc) ∉ locs := fun i hmem => by
    have := hlocs _ hmem cellS0 hcS0
    rw [hiss] at this; cases this
  have hknownS : cellS.vm ≠ .unknown := by
    rw [heS]; intro hu
    rw [show cellS0.vm = .unknown from hu] at hiss
    cases hiss
  have hneS : T.aS ≠ a := Nat.ne_of_lt (Nat.lt_of_lt_of_le (Array.getElem?_eq_some_iff.mp hcS0).1 hnew)
  obtain ⟨iM, hffM⟩ := Y.msg
  obtain ⟨tyC, dC, hdC, hdnC⟩ := Cond.laysAt hfound hk Y.cause (a' (.lays cls Bundle.tN "cause" "Ljava/lang/Throwable;") (by simp [Bundle.ownAtoms0]))
  obtain ⟨tyS, dS, hdS, hdnS⟩ := Cond.laysAt hfound hk Y.stack (a' (.lays cls Bundle.tN "stackTrace" Bundle.steD) (by simp [Bundle.ownAtoms0]))
  obtain ⟨tyP, dP, hdP, hdnP⟩ := Cond.laysAt hfound hk Y.supp (a' (.lays cls Bundle.tN "suppressedExceptions" Bundle.listD) (by simp [Bundle.ownAtoms0]))
  obtain ⟨tyM, dM, hdM, hdnM⟩ := Cond.laysAt hfound hk hffM (a' (.lays cls Bundle.tN "detailMessage" "Ljava/lang/String;") (by simp [Bundle.ownAtoms0]))
  obtain ⟨tyB, dB, hdB, hdnB⟩ := Cond.laysAt hfound hk hffB (a' (.lays cls Bundle.tN "backtrace" "Ljava/lang/Object;") (by simp [Bundle.ownAtoms0]))
  have bC := Cond.laysApart hdB hdC hdnB hdnC (by rw [hnB, Y.causeName]; decide)
  have bS := Cond.laysApart hdB hdS hdnB hdnS (by rw [hnB, Y.stackName]; decide)
  have bP := Cond.laysApart hdB hdP hdnB hdnP (by rw [hnB, Y.suppName]; decide)
  have hskip : SkipFacts T e.platform s (fun u => u) u0 ((preparedCellV T.toThrowableT (freshCell P1.m.cls kX) a u0 sen).withEntry W.cur) :=
    ⟨{ ci198 := ci198, i198 := i198, fBack := fB }, ⟨hk198, hg198, ha198, hsB⟩, by
      have := fresh_default (c := P1.m.cls) tyB
      rw [htB] at this
      simpa [preparedCellV, Cell.setSlot, Cell.withEntry, Array.getElem?_setIfInBounds, bC, bS, bP, bC.symm, bS.symm, bP.symm, defaultValue] using this, fun _ _ => rfl⟩
  obtain ⟨tm, methC, cdC, kC, vm₁, hnC, -, -, -, -, -, -, -, hW₁, st1⟩ := Steps.initCold (tb := p.tables) (e := e) (below := below) (s := s) (U := W) X.here hexec X.warmed hpl hown (t := Bundle.init0 cls) rfl rfl (Bundle.fit_spec hcls).2
    (a' (.methodLink own ic (Bundle.init0 cls)) (by simp [Bundle.ownAtoms0])) (h (.instanceMethod (Bundle.init0 cls)) (by cases names <;> simp [Bundle.ownAtoms0, Bundle.chain0Atoms, Bundle.passAtoms])) (bytes := Bundle.five) (maxL := 1) (h (.code (Bundle.init0 cls) Bundle.five 1 none) (by cases names <;> simp [Bundle.ownAtoms0, Bundle.chain0Atoms, Bundle.passAtoms]))
    (f := g) hg (a := a) (rest := .ref a :: rest) hstack hd6
  cases Option.some.inj (hnC.symm.trans hP1m)
  have X₁ := X.noted hW₁
  obtain ⟨vm₂, X₂, st2⟩ := X₁.ctorPlainOffV hexec (g := { g with stack := .ref a :: rest }) hg hsize T L Z LZ (P1 :: Ps)
    (fun P hP => by rcases List.mem_cons.mp hP with rfl | hP; exact L1; exact hL P hP) ⟨hlink1, hlink⟩ (u0 := u0) (sen := sen) (self := a) (cell := freshCell P1.m.cls kX) (cellS := cellS)
    hcell (fun _ => by simp) (by simp) rfl rfl hsel0 hselF hcellS hneS hknownS (by rw [hkeep _ (hout' _)]; exact hu0) (by rw [hkeep _ (hout' _)]; exact hsen)
    (Takes.of_laid hk hord tyC (by rw [Y.causeType]; rfl)) (Takes.of_laid hk hord tyS (by rw [Y.stackType]; exact fits_refV_array _ u0)) (Takes.of_laid hk hord tyP (by rw [Y.suppType]; exact fits_refV_object _ sen)) Y.objLocals hskip htr [] hd6
    (by simp only [List.length_cons, hlen]; omega) (by simp only [List.length_cons, hlen]; exact hRlocals)
  have hlt : a < ((W.setVm vm₁).setVm vm₂).heap.size := (Array.getElem?_eq_some_iff.mp hcell).1
  refine ⟨(W.setVm vm₁).setVm vm₂, _, _, X₂, fun y hy => ?_, hlt, rfl, rfl, fun target hwalk => st1 _ (fun acts => ?_)⟩
  · simp only [List.mem_cons, List.not_mem_nil, or_false] at hy
    rcases hy with rfl | rfl | rfl | rfl <;> rfl
  · rw [doInvoke_state]
    exact st2 _ hwalk
end VXK
section VXK2
variable {p : Program} {l : Launch} {e : Env} {R : Room} {s : State} {m : MethodId} {args : Array Value} {below : List Frame} {meth : Method} {c : Code} {H : Heap} {locs : List Loc} {cells slots : Nat} {Q : State → Prop}
variable {ls : Array Slot} {rest : List Value} {D : va_G} {cl : List vw_C} {tys : List (ClassId × FieldType)} {ws : va_W}
/-- 'new E("text")' that isn't thrown at once: the object goes on the stack -/
theorem vx_makeS {cc : ByteArray} {pc : Nat} (hexec : p.tables.exec = Jvm.exec) (hb : c.code = cc) (hl : l.stackTraces = false) {own cls text : String} {names : List String} {ik is ic sa ci : Nat} {A : Nat → Prop} {T0 : u_T}
    (hown : s.vm.findClass own = some m.cls) (hcls : Bundle.fit cls = true) (hnames : ∀ n ∈ names, Bundle.fit n = true)
    (hk : (Cond.classLink own ik cls).before args s = true) (hini : (Cond.initialized cls).before args s = true) (hstr : vk_R own is text sa s) (hat : ∀ w ∈ vx_atS own ic cls names, w.before args s = true)
    (hgood : ∀ w ∈ Cond.classLink own ik cls :: Cond.initialized cls :: vx_atS own ic cls names, vx_ot w = true)
    (hU : vx_Zq Bundle.tN "UNASSIGNED_STACK" Bundle.steD A s s.heap) (hN : vx_Zq Bundle.tN "SUPPRESSED_SENTINEL" Bundle.listD A s s.heap) (hS : va_S A s.heap H locs) (hsize : ls.size = c.maxLocals)
    (d0 : decode cc pc = .ok (.new ik, 3)) (d3 : decode cc (pc + 3) = .ok (.dup, 1)) (d4 : decode cc (pc + 4) = .ok (.ldc is, 2)) (d6 : decode cc (pc + 6) = .ok (.invokespecial ic, 3))
    (hK : va_K D cl tys s) (hP : va_P D cl ws H) (hD : va_D A ws) (hA : ∀ q, s.heap.size ≤ q → A q) (hc : cl[ci]? = some (cls, T0, 0))
    (hRframes : names.length + 3 < R.frames) (hRlocals : (rest.map fun v => v.category).sum + (13 * (names.length + 1) + 43) ≤ R.locals) (hRcells : cells + 1 ≤ R.cells) (hRslots : slots + 6 ≤ R.slots)
    (kk : ∀ (q : Nat) (H1 : Heap), va_P D cl (ws ++ [(q, .inr (ci, []))]) H1 → va_D A (ws ++ [(q, .inr (ci, []))]) → va_S A s.heap H1 locs → W p l e R s m args below meth c H1 locs (cells + 1) (slots + 6) Q (F0 m (pc + 9) ls (.ref q :: rest))) :
    W p l e R s m args below meth c H locs cells slots Q (F0 m pc ls rest) := by
  intro T hT X
  subst hT
  have htr : e.platform.stackTraces = false := (show e.platform.stackTraces = l.stackTraces by rw [X.admits.platform]).trans hl
  have Y := vx_rebase X (R' := { frames := R.frames, locals := R.locals, cells := 1, slots := 6 }) (Nat.le_refl _) (Nat.le_refl _) hRcells hRslots
  obtain ⟨s', hA'⟩ : ∃ z, z = (T.setVm s.vm).setFrames (.invoking m args :: below) := ⟨_, rfl⟩
  rw [← hA'] at Y
  have hvm : s'.vm = s.vm := by rw [hA']; rfl
  have hhp : s'.heap = T.heap := by rw [hA']; rfl
  have hW0 : s.WarmedH s'.vm := by rw [hvm]; exact State.WarmedH.refl s
  have hat' : ∀ w ∈ vx_atS own ic cls names, w.before args s' = true := fun w hw => vx_ot_at hW0 hvm.symm (hgood w (List.mem_cons_of_mem _ (List.mem_cons_of_mem _ hw))) (hat w hw)
  have hk' : (Cond.classLink own ik cls).before args s' = true := vx_ot_at hW0 hvm.symm (hgood _ List.mem_cons_self) hk
  have hini' : (Cond.initialized cls).before args s' = true := vx_ot_at hW0 hvm.symm (hgood _ (List.mem_cons_of_mem _ List.mem_cons_self)) hini
  have hU' : vx_Zq Bundle.tN "UNASSIGNED_STACK" Bundle.steD A s' s'.heap := by rw [hhp]; exact vx_Zq.moved hW0.alike (hU.kept hS.2.1)
  have hN' : vx_Zq Bundle.tN "SUPPRESSED_SENTINEL" Bundle.listD A s' s'.heap := by rw [hhp]; exact vx_Zq.moved hW0.alike (hN.kept hS.2.1)
  have h : ∀ w ∈ Bundle.ownAtoms own ic cls names, w.before args s' = true := vx_own hat' (vx_isRefq hU'.1) (vx_isRefq hN'.1) hU'.2.word hN'.2.word
  have hown' : s'.vm.findClass own = some m.cls := by rw [hvm]; exact hown
  have hins : (Cond.instantiable cls 6).before args s' = true := h _ (by simp [Bundle.ownAtoms])
  obtain ⟨vm₁, cX, kX, hfX, hkX, -, -, X₁, st1⟩ := Y.newCold hexec (own := own) (C := cls) (index := ik) (n := 6) hown' hk' hins hini'
    (g := F0 m pc ls rest) rfl (by rw [hb]; exact d0) (Nat.le_refl _) (Nat.le_refl _)
  generalize hT1 : (T.setVm vm₁).pushCell { cls := cX, slots := kX.instanceTypes.map defaultValue, vm := .none } = T1 at X₁ st1
  have hcat : (Value.ref T.heap.size).category = 1 := rfl
  have hcellA : T1.heap[T.heap.size]? = some (freshCell cX kX) := by rw [← hT1]; exact State.heap_pushCell_size _ _
  have d3' : decode c.code (pc + 3) = .ok (.dup, 1) := by rw [hb]; exact d3
  have d4' : decode c.code (pc + 4) = .ok (.ldc is, 2) := by rw [hb]; exact d4
  have hstr' : vk_R own is text sa s' := vk_R.warm hW0 hstr
  obtain ⟨V, ce, L, Z, hL, hlt, hcl9, hvm9, st⟩ := vx_ctorMadeS X₁ hexec htr (own := own) (cls := cls) (names := names) (ic := ic) hown' hcls hnames h (fun x hx => nomatch hx) hfX hkX hcellA (by rw [hhp]; exact Nat.le_refl _) (msg := .ref sa) rfl
    (g := { method := m, pc := pc + 6, locals := ls, stack := .ref sa :: .ref T.heap.size :: .ref T.heap.size :: rest, locked := none }) rfl hsize (rest := rest) rfl
    (by rw [hb]; exact d6) hRframes (by simp only [List.map_cons, List.sum_cons, hcat]; omega)
  have Z0 := Stand.forget (locs := []) Z (fun y hy => by rw [hL y hy, hhp]; exact Nat.le_refl _)
  obtain ⟨f1, f2⟩ := vx_frame Z0.same
  rw [hhp] at f1 f2
  have hcid : ce.cls = D.1 ci := by
    rw [hcl9]
    have h1 := (hK.1 ci _ hc).2.1
    rw [hvm] at hfX
    exact Option.some.inj (hfX.symm.trans h1)
  have hh : (V.setCell T.heap.size ce).heap[T.heap.size]? = some ce := heapAt_setCell_self (s := V) ce hlt
  subst hA'
  have X5 := vx_back9 X Y Z0
  have X6 : Stand p l e R s m args below meth c (V.setCell T.heap.size ce) locs (cells + 1) (slots + 6) := { X5 with same := X5.same.mono (by omega) (by omega) }
  have hk9 : ∀ (k : Nat) (x : Nat × va_E), ws[k]? = some x → (V.setCell T.heap.size ce).heap[x.1]? = T.heap[x.1]? := fun k x hx => f2 x.1 ((hP k x hx).lt) (fun z hz => nomatch hz)
  obtain ⟨t, a1, b1⟩ := kk T.heap.size (V.setCell T.heap.size ce).heap ((hP.kept hk9).app (fun k x hx => by
      have hz : k < 1 := (List.getElem?_eq_some_iff.mp hx).1
      rw [show k = 0 by omega] at hx
      cases hx
      exact ⟨_, hc, ce, hh, hcid, hvm9, fun k hk => absurd hk (Nat.not_lt_zero k)⟩)) (hD.push hP rfl (hA _ hS.1)) ⟨Nat.le_trans hS.1 f1, fun q h1 h2 => (f2 q (Nat.lt_of_lt_of_le h1 hS.1) (fun z hz => nomatch hz)).trans (hS.2.1 q h1 h2), hS.2.2⟩ _ rfl X6
  refine ⟨t, st1 _ ?_, b1⟩
  show Steps p.tables e below (T1.setTop { method := m, pc := pc + 3, locals := ls, stack := .ref T.heap.size :: rest, locked := none }) _
  jvm_step X₁.here [X₁.here.top, hexec, d3', Value.category]
  exact X₁.ldcString hexec (own := own) (text := text) (index := is) (a := sa) hown' hstr'.1 hstr'.2
    (g := { method := m, pc := pc + 4, locals := ls, stack := .ref T.heap.size :: .ref T.heap.size :: rest, locked := none }) rfl d4' _ (st _ a1)
/-- 'new E()' that isn't thrown at once: the object goes on the stack -/
theorem vx_make0 {cc : ByteArray} {pc : Nat} (hexec : p.tables.exec = Jvm.exec) (hb : c.code = cc) (hl : l.stackTraces = false) {own cls : String} {names : List String} {ik ic ci : Nat} {A : Nat → Prop} {T0 : u_T}
    (hown : s.vm.findClass own = some m.cls) (hcls : Bundle.fit cls = true) (hnames : ∀ n ∈ names, Bundle.fit n = true)
    (hk : (Cond.classLink own ik cls).before args s = true) (hini : (Cond.initialized cls).before args s = true) (hat : ∀ w ∈ vx_at0 own ic cls names, w.before args s = true)
    (hgood : ∀ w ∈ Cond.classLink own ik cls :: Cond.initialized cls :: vx_at0 own ic cls names, vx_ot w = true)
    (hU : vx_Zq Bundle.tN "UNASSIGNED_STACK" Bundle.steD A s s.heap) (hN : vx_Zq Bundle.tN "SUPPRESSED_SENTINEL" Bundle.listD A s s.heap) (hS : va_S A s.heap H locs) (hsize : ls.size = c.maxLocals)
    (d0 : decode cc pc = .ok (.new ik, 3)) (d3 : decode cc (pc + 3) = .ok (.dup, 1)) (d4 : decode cc (pc + 4) = .ok (.invokespecial ic, 3))
    (hK : va_K D cl tys s) (hP : va_P D cl ws H) (hD : va_D A ws) (hA : ∀ q, s.heap.size ≤ q → A q) (hc : cl[ci]? = some (cls, T0, 0))
    (hRframes : names.length + 3 < R.frames) (hRlocals : (rest.map fun v => v.category).sum + (13 * (names.length + 1) + 42) ≤ R.locals) (hRcells : cells + 1 ≤ R.cells) (hRslots : slots + 6 ≤ R.slots)
    (kk : ∀ (q : Nat) (H1 : Heap), va_P D cl (ws ++ [(q, .inr (ci, []))]) H1 → va_D A (ws ++ [(q, .inr (ci, []))]) → va_S A s.heap H1 locs → W p l e R s m args below meth c H1 locs (cells + 1) (slots + 6) Q (F0 m (pc + 7) ls (.ref q :: rest))) :
    W p l e R s m args below meth c H locs cells slots Q (F0 m pc ls rest) := by
  intro T hT X
  subst hT
  have htr : e.platform.stackTraces = false := (show e.platform.stackTraces = l.stackTraces by rw [X.admits.platform]).trans hl
  have Y := vx_rebase X (R' := { frames := R.frames, locals := R.locals, cells := 1, slots := 6 }) (Nat.le_refl _) (Nat.le_refl _) hRcells hRslots
  obtain ⟨s', hA'⟩ : ∃ z, z = (T.setVm s.vm).setFrames (.invoking m args :: below) := ⟨_, rfl⟩
  rw [← hA'] at Y
  have hvm : s'.vm = s.vm := by rw [hA']; rfl
  have hhp : s'.heap = T.heap := by rw [hA']; rfl
  have hW0 : s.WarmedH s'.vm := by rw [hvm]; exact State.WarmedH.refl s
  have hat' : ∀ w ∈ vx_at0 own ic cls names, w.before args s' = true := fun w hw => vx_ot_at hW0 hvm.symm (hgood w (List.mem_cons_of_mem _ (List.mem_cons_of_mem _ hw))) (hat w hw)
  have hk' : (Cond.classLink own ik cls).before args s' = true := vx_ot_at hW0 hvm.symm (hgood _ List.mem_cons_self) hk
  have hini' : (Cond.initialized cls).before args s' = true := vx_ot_at hW0 hvm.symm (hgood _ (List.mem_cons_of_mem _ List.mem_cons_self)) hini
  have hU' : vx_Zq Bundle.tN "UNASSIGNED_STACK" Bundle.steD A s' s'.heap := by rw [hhp]; exact vx_Zq.moved hW0.alike (hU.kept hS.2.1)
  have hN' : vx_Zq Bundle.tN "SUPPRESSED_SENTINEL" Bundle.listD A s' s'.heap := by rw [hhp]; exact vx_Zq.moved hW0.alike (hN.kept hS.2.1)
  have h : ∀ w ∈ Bundle.ownAtoms0 own ic cls names, w.before args s' = true := vx_own hat' (vx_isRefq hU'.1) (vx_isRefq hN'.1) hU'.2.word hN'.2.word
  have hown' : s'.vm.findClass own = some m.cls := by rw [hvm]; exact hown
  have hins : (Cond.instantiable cls 6).before args s' = true := h _ (by simp [Bundle.ownAtoms0])
  obtain ⟨vm₁, cX, kX, hfX, hkX, -, -, X₁, st1⟩ := Y.newCold hexec (own := own) (C := cls) (index := ik) (n := 6) hown' hk' hins hini'
    (g := F0 m pc ls rest) rfl (by rw [hb]; exact d0) (Nat.le_refl _) (Nat.le_refl _)
  generalize hT1 : (T.setVm vm₁).pushCell { cls := cX, slots := kX.instanceTypes.map defaultValue, vm := .none } = T1 at X₁ st1
  have hcat : (Value.ref T.heap.size).category = 1 := rfl
  have hcellA : T1.heap[T.heap.size]? = some (freshCell cX kX) := by rw [← hT1]; exact State.heap_pushCell_size _ _
  have d3' : decode c.code (pc + 3) = .ok (.dup, 1) := by rw [hb]; exact d3
  obtain ⟨V, ce, L, Z, hL, hlt, hcl9, hvm9, st⟩ := vx_ctorMade0 X₁ hexec htr (own := own) (cls := cls) (names := names) (ic := ic) hown' hcls hnames h (fun x hx => nomatch hx) hfX hkX hcellA (by rw [hhp]; exact Nat.le_refl _)
    (g := { method := m, pc := pc + 4, locals := ls, stack := .ref T.heap.size :: .ref T.heap.size :: rest, locked := none }) rfl hsize (rest := rest) rfl
    (by rw [hb]; exact d4) hRframes (by simp only [List.map_cons, List.sum_cons, hcat]; omega)
  have Z0 := Stand.forget (locs := []) Z (fun y hy => by rw [hL y hy, hhp]; exact Nat.le_refl _)
  obtain ⟨f1, f2⟩ := vx_frame Z0.same
  rw [hhp] at f1 f2
  have hcid : ce.cls = D.1 ci := by
    rw [hcl9]
    have h1 := (hK.1 ci _ hc).2.1
    rw [hvm] at hfX
    exact Option.some.inj (hfX.symm.trans h1)
  have hh : (V.setCell T.heap.size ce).heap[T.heap.size]? = some ce := heapAt_setCell_self (s := V) ce hlt
  subst hA'
  have X5 := vx_back9 X Y Z0
  have X6 : Stand p l e R s m args below meth c (V.setCell T.heap.size ce) locs (cells + 1) (slots + 6) := { X5 with same := X5.same.mono (by omega) (by omega) }
  have hk9 : ∀ (k : Nat) (x : Nat × va_E), ws[k]? = some x → (V.setCell T.heap.size ce).heap[x.1]? = T.heap[x.1]? := fun k x hx => f2 x.1 ((hP k x hx).lt) (fun z hz => nomatch hz)
  obtain ⟨t, a1, b1⟩ := kk T.heap.size (V.setCell T.heap.size ce).heap ((hP.kept hk9).app (fun k x hx => by
      have hz : k < 1 := (List.getElem?_eq_some_iff.mp hx).1
      rw [show k = 0 by omega] at hx
      cases hx
      exact ⟨_, hc, ce, hh, hcid, hvm9, fun k hk => absurd hk (Nat.not_lt_zero k)⟩)) (hD.push hP rfl (hA _ hS.1)) ⟨Nat.le_trans hS.1 f1, fun q h1 h2 => (f2 q (Nat.lt_of_lt_of_le h1 hS.1) (fun z hz => nomatch hz)).trans (hS.2.1 q h1 h2), hS.2.2⟩ _ rfl X6
  refine ⟨t, st1 _ ?_, b1⟩
  show Steps p.tables e below (T1.setTop { method := m, pc := pc + 3, locals := ls, stack := .ref T.heap.size :: rest, locked := none }) _
  jvm_step X₁.here [X₁.here.top, hexec, d3', Value.category]
  exact st _ a1
/-- 'throw x' of an object that was made before -/
theorem vx_athrow {cc : ByteArray} {pc : Nat} (hexec : p.tables.exec = Jvm.exec) (hb : c.code = cc) {q : Addr} (hdg : decode cc pc = .ok (.athrow, 1)) (k : vx_W p l e R s m args below meth c H locs cells slots Q (F0 m pc ls rest) q) : W p l e R s m args below meth c H locs cells slots Q (F0 m pc ls (.ref q :: rest)) := by
  intro T hT X
  obtain ⟨t, st, hq⟩ := k T hT X
  refine ⟨t, ?_, hq⟩
  have hdg' : decode c.code pc = .ok (.athrow, 1) := by rw [hb]; exact hdg
  jvm_step X.here [X.here.top, hexec, hdg', athrow.wp_sem]
  exact st
end VXK2
/-! ===== END ===== -/
/-! ===== BEGIN a constructor that throws (launches without stack traces) ===== -/
section VXIA
variable {p : Program} {l : Launch} {e : Env} {R : Room} {s : State} {m : MethodId} {args : Array Value} {below : List Frame} {meth : Method} {c : Code} {T : State} {locs : List Loc} {cells slots : Nat}
theorem vx_callI (X : Stand p l e R s m args below meth c T locs cells slots) (hexec : p.tables.exec = Jvm.exec) {own : String} {index : Nat} {y : MethodName} {bytes : ByteArray} {maxL : Nat}
    (hown : s.vm.findClass own = some m.cls) (hy1 : y.name = "<init>") (hlink : (Cond.methodLink own index y).before args s = true) (hinst : (Cond.instanceMethod y).before args s = true)
    (hcode : (Cond.code y bytes maxL none).before args s = true) (hy : y.cls ≠ "java/lang/invoke/MethodHandle" ∧ y.cls ≠ "java/lang/invoke/VarHandle")
    {W9 : Nat} {Pre : Pt → Array Value → Prop} {Post : Pt → Array Value → Option Value → Pt → Prop} {PostX : Pt → Array Value → Addr → Pt → Prop} (hK : vx_Back l R p e below s args y 3 W9 Pre Post PostX)
    {g : JFrame} (hg : g.method = m) (hsize : g.locals.size = c.maxLocals) {a : Addr} {argsL rest : List Value} (hlen : ∀ sig, parseMethodDescriptor y.desc = some sig → argsL.length = sig.parameters.length)
    (hstack : g.stack = argsL.reverse ++ .ref a :: rest) (hW : 2 * g.monitorRoom + (rest.map fun v => v.category).sum ≤ W9) (hdg : decode c.code g.pc = .ok (.invokespecial index, 3))
    (hpre : ∀ vm₁, s.WarmedH vm₁ → Pre ⟨T.setVm vm₁, locs, cells, slots⟩ (Value.ref a :: argsL).toArray) :
    (∃ (v : Option Value) (vm₁ : Vm) (B : Pt), s.WarmedH vm₁ ∧ Stand p l e R s m args below meth c B.U B.locs B.cells B.slots ∧ Post ⟨T.setVm vm₁, locs, cells, slots⟩ (Value.ref a :: argsL).toArray v B ∧
      ∀ target, Steps p.tables e below (B.U.setTop { g with pc := g.pc + 3, stack := v.toList ++ rest }) target → Steps p.tables e below (T.setTop g) target) ∨
    (∃ (q : Addr) (vm₁ : Vm) (B : Pt), s.WarmedH vm₁ ∧ Stand p l e R s m args below meth c B.U B.locs B.cells B.slots ∧ PostX ⟨T.setVm vm₁, locs, cells, slots⟩ (Value.ref a :: argsL).toArray q B ∧
      Steps p.tables e below (T.setTop g) ((B.U.setTop { g with stack := rest }).pushFrame (.throwing q))) := by
  subst hg
  have hpl : e.platform.magicAccessors = ({} : Platform).magicAccessors := by rw [X.admits.platform]
  obtain ⟨mk, methM, cM, kP, vm₁, hnamed, hmethM, hcodeM, -, hlocalsM, -, hkP, -, hW₁, hstep₁⟩ := Steps.initColdArgs (e := e) X.here hexec X.warmed hpl hown hy1 hy hlink hinst hcode (f := g) rfl hlen hstack hdg
  have X₁ := X.noted hW₁
  rcases hK g.method meth c ⟨T.setVm vm₁, locs, cells, slots⟩ { g with stack := rest } (.invokespecial index) mk (Value.ref a :: argsL).toArray X₁ rfl hsize hdg hW (X₁.named hnamed) (hpre vm₁ X₁.warmed) with ⟨v, B, X', hpost, hsteps⟩ | ⟨q, B, X', hpost, hsteps⟩
  · exact Or.inl ⟨v, vm₁, B, X₁.warmed, X', hpost, fun target h => hstep₁ _ fun acts => by rw [doInvoke_state]; exact hsteps.trans h⟩
  · exact Or.inr ⟨q, vm₁, B, X₁.warmed, X', hpost, hstep₁ _ fun acts => by rw [doInvoke_state]; exact hsteps⟩
end VXIA
section VXIB
variable {p : Program} {l : Launch} {e : Env} {R : Room} {s : State} {m : MethodId} {args : Array Value} {below : List Frame} {meth : Method} {c : Code} {H : Heap} {locs : List Loc} {cells slots : Nat}
variable {y : MethodName} {bytes cc : ByteArray} {maxL nL mc ms n index : Nat} {ret : Option FieldType} {ws : List Cond} {rm : Room} {Pc : Array Value → State → Prop} {Qc : Array Value → State → Outcome → State → Prop} {XC : String → State → State → Prop} {free : Addr → Prop} {Ts : List Cond} {own C : String} {b : Addr} {As rest : List Value} {g : JFrame}
theorem vx_runI (S : CallFix p m c cc nL s args Ts own) (hM : vx_Met l y ws rm Pc Qc XC mc ms free) (cw : CallB R s args own index y bytes maxL none ws rm mc ms n ∧ y.name = "<init>" ∧ (Cond.instanceMethod y).before args s = true) (hp : PreS s H Pc (.ref b :: As))
    (hg : g.method = m) (hn : As.length = n) (hsize : g.locals.size = nL) (hstack : g.stack = As.reverse ++ .ref b :: rest) (hW : 2 * g.monitorRoom + (rest.map fun v => v.category).sum ≤ 8) (hdg : decode cc g.pc = .ok (.invokespecial index, 3)) (hf : cells + mc ≤ R.cells ∧ slots + ms ≤ R.slots) :
    vx_Run p l e R s m args below meth c H locs cells slots mc ms g rest (Qc (Value.ref b :: As).toArray) XC free := by
  have hK : vx_Back l R p e below s args y 3 8 (PreOf R mc ms Pc) (PostOf Qc mc ms free) (vx_Post XC mc ms free) := vx_callBack cw.1 hM hp.1
  obtain ⟨⟨-, -, -, -, -, -, hcode, -, hy, hlen, hl⟩, hy1, hin⟩ := cw
  obtain ⟨hx, hb, hml, ho, -⟩ := S
  have hPc := hp.2
  intro T hT X
  rcases vx_callI X hx (bytes := bytes) (maxL := maxL) ho hy1 hl hin hcode hy hK hg (hsize.trans hml.symm) (a := b) (argsL := As) (rest := rest) (fun sig h => hn.trans (hlen sig h)) hstack hW (by rw [hb]; exact hdg)
    (fun vm₁ hW₁ => ⟨hf.1, hf.2, hPc (T.setVm vm₁) hT hW₁⟩) with ⟨v, vm₁, ⟨U', l2, c2, s2⟩, hW₁, X', ⟨g', mk, t, L, e1, e2, hq, h1, hL, h2, h3⟩, st⟩ | ⟨q, vm₁, ⟨U', l2, c2, s2⟩, hW₁, X', ⟨g', mk, t, L, E, ce, e1, e2, hq, hce, hcv, hcl, h1, hL, h2, h3⟩, st⟩
  · dsimp only [Pt.U, Pt.locs, Pt.cells, Pt.slots] at X' e1 e2 h1 h2 h3 st
    subst h1; subst h2; subst h3
    exact Or.inl ⟨v, (T.setVm vm₁).calling g' mk (Value.ref b :: As).toArray, t, U', L, hT, X', hL, e1, e2, hq, st⟩
  · dsimp only [Pt.U, Pt.locs, Pt.cells, Pt.slots] at X' e1 e2 h1 h2 h3 st hcl
    subst h1; subst h2; subst h3
    exact Or.inr ⟨q, (T.setVm vm₁).calling g' mk (Value.ref b :: As).toArray, t, U', L, E, ce, hT, X', hL, e1, e2, hq, hce, hcv, vx_cls hW₁ hcl, st⟩
end VXIB
/-! ===== END ===== -/
/-! ===== BEGIN a private constructor of a nest mate that throws ===== -/
section VXIC
variable {p : Program} {l : Launch} {e : Env} {R : Room} {s : State} {m : MethodId} {args : Array Value} {below : List Frame} {meth : Method} {c : Code} {T : State} {locs : List Loc} {cells slots : Nat}
theorem vx_callIN (X : Stand p l e R s m args below meth c T locs cells slots) (hexec : p.tables.exec = Jvm.exec) {own : String} {index : Nat} {host : String} {y : MethodName} {bytes : ByteArray} {maxL : Nat}
    (hown : s.vm.findClass own = some m.cls) (hy1 : y.name = "<init>") (hlink : (Cond.methodLinkNest own index y host).before args s = true) (hinst : (Cond.instanceMethod y).before args s = true)
    (hcode : (Cond.code y bytes maxL none).before args s = true) (hy : y.cls ≠ "java/lang/invoke/MethodHandle" ∧ y.cls ≠ "java/lang/invoke/VarHandle")
    {W9 : Nat} {Pre : Pt → Array Value → Prop} {Post : Pt → Array Value → Option Value → Pt → Prop} {PostX : Pt → Array Value → Addr → Pt → Prop} (hK : vx_Back l R p e below s args y 3 W9 Pre Post PostX)
    {g : JFrame} (hg : g.method = m) (hsize : g.locals.size = c.maxLocals) {a : Addr} {argsL rest : List Value} (hlen : ∀ sig, parseMethodDescriptor y.desc = some sig → argsL.length = sig.parameters.length)
    (hstack : g.stack = argsL.reverse ++ .ref a :: rest) (hW : 2 * g.monitorRoom + (rest.map fun v => v.category).sum ≤ W9) (hdg : decode c.code g.pc = .ok (.invokespecial index, 3))
    (hpre : ∀ vm₁, s.WarmedH vm₁ → Pre ⟨T.setVm vm₁, locs, cells, slots⟩ (Value.ref a :: argsL).toArray) :
    (∃ (v : Option Value) (vm₁ : Vm) (B : Pt), s.WarmedH vm₁ ∧ Stand p l e R s m args below meth c B.U B.locs B.cells B.slots ∧ Post ⟨T.setVm vm₁, locs, cells, slots⟩ (Value.ref a :: argsL).toArray v B ∧
      ∀ target, Steps p.tables e below (B.U.setTop { g with pc := g.pc + 3, stack := v.toList ++ rest }) target → Steps p.tables e below (T.setTop g) target) ∨
    (∃ (q : Addr) (vm₁ : Vm) (B : Pt), s.WarmedH vm₁ ∧ Stand p l e R s m args below meth c B.U B.locs B.cells B.slots ∧ PostX ⟨T.setVm vm₁, locs, cells, slots⟩ (Value.ref a :: argsL).toArray q B ∧
      Steps p.tables e below (T.setTop g) ((B.U.setTop { g with stack := rest }).pushFrame (.throwing q))) := by
  subst hg
  have hpl : e.platform.magicAccessors = ({} : Platform).magicAccessors := by rw [X.admits.platform]
  obtain ⟨mk, methM, cM, kP, vm₁, hnamed, hmethM, hcodeM, -, hlocalsM, -, hkP, -, hW₁, hstep₁⟩ := Steps.initColdArgsNest (e := e) X.here hexec X.warmed hpl hown hy1 hy hlink hinst hcode (f := g) rfl hlen hstack hdg
  have X₁ := X.noted hW₁
  rcases hK g.method meth c ⟨T.setVm vm₁, locs, cells, slots⟩ { g with stack := rest } (.invokespecial index) mk (Value.ref a :: argsL).toArray X₁ rfl hsize hdg hW (X₁.named hnamed) (hpre vm₁ X₁.warmed) with ⟨v, B, X', hpost, hsteps⟩ | ⟨q, B, X', hpost, hsteps⟩
  · exact Or.inl ⟨v, vm₁, B, X₁.warmed, X', hpost, fun target h => hstep₁ _ fun acts => by rw [doInvoke_state]; exact hsteps.trans h⟩
  · exact Or.inr ⟨q, vm₁, B, X₁.warmed, X', hpost, hstep₁ _ fun acts => by rw [doInvoke_state]; exact hsteps⟩
end VXIC
section VXID
variable {p : Program} {l : Launch} {e : Env} {R : Room} {s : State} {m : MethodId} {args : Array Value} {below : List Frame} {meth : Method} {c : Code} {H : Heap} {locs : List Loc} {cells slots : Nat}
theorem vx_runIN {y : MethodName} {bytes cc : ByteArray} {maxL nL mc ms n index : Nat} {ws : List Cond} {rm : Room} {Pc : Array Value → State → Prop} {Qc : Array Value → State → Outcome → State → Prop} {XC : String → State → State → Prop} {free : Addr → Prop} {Ts : List Cond} {own host : String} {b : Addr} {As rest : List Value} {g : JFrame}
    (S : CallFix p m c cc nL s args Ts own) (hM : vx_Met l y ws rm Pc Qc XC mc ms free) (cw : va_CN R s args own index y host bytes maxL none ws rm mc ms n ∧ y.name = "<init>" ∧ (Cond.instanceMethod y).before args s = true) (hp : PreS s H Pc (.ref b :: As))
    (hg : g.method = m) (hn : As.length = n) (hsize : g.locals.size = nL) (hstack : g.stack = As.reverse ++ .ref b :: rest) (hW : 2 * g.monitorRoom + (rest.map fun v => v.category).sum ≤ 8) (hdg : decode cc g.pc = .ok (.invokespecial index, 3)) (hf : cells + mc ≤ R.cells ∧ slots + ms ≤ R.slots) :
    vx_Run p l e R s m args below meth c H locs cells slots mc ms g rest (Qc (Value.ref b :: As).toArray) XC free := by
  obtain ⟨⟨⟨hrc, hrs, hfr, hlo, hws, hcw⟩, hcode, hini, hy, hlen, hl⟩, hx1, hx2⟩ := cw
  have hK : vx_Back l R p e below s args y 3 8 (PreOf R mc ms Pc) (PostOf Qc mc ms free) (vx_Post XC mc ms free) := vx_back (bytes := bytes) (maxL := maxL) (ret := none) hM hp.1 hrc hrs hfr hlo hws hcw (fun a' U hW => word_at hW (Or.inl (by first | rfl | simp [Cond.onTables, Cond.keeps, Cond.steady])) hini)
  obtain ⟨hx, hb, hml, ho, -⟩ := S
  have hPc := hp.2
  intro T hT X
  rcases vx_callIN X hx (bytes := bytes) (maxL := maxL) ho hx1 hl hx2 hcode hy hK hg (hsize.trans hml.symm) (a := b) (argsL := As) (rest := rest) (fun sig h => hn.trans (hlen sig h)) hstack hW (by rw [hb]; exact hdg)
    (fun vm₁ hW₁ => ⟨hf.1, hf.2, hPc (T.setVm vm₁) hT hW₁⟩) with ⟨v, vm₁, ⟨U', l2, c2, s2⟩, hW₁, X', ⟨g', mk, t, L, e1, e2, hq, h1, hL, h2, h3⟩, st⟩ | ⟨q, vm₁, ⟨U', l2, c2, s2⟩, hW₁, X', ⟨g', mk, t, L, E, ce, e1, e2, hq, hce, hcv, hcl, h1, hL, h2, h3⟩, st⟩
  · dsimp only [Pt.U, Pt.locs, Pt.cells, Pt.slots] at X' e1 e2 h1 h2 h3 st
    subst h1; subst h2; subst h3
    exact Or.inl ⟨v, (T.setVm vm₁).calling g' mk (Value.ref b :: As).toArray, t, U', L, hT, X', hL, e1, e2, hq, st⟩
  · dsimp only [Pt.U, Pt.locs, Pt.cells, Pt.slots] at X' e1 e2 h1 h2 h3 st hcl
    subst h1; subst h2; subst h3
    exact Or.inr ⟨q, (T.setVm vm₁).calling g' mk (Value.ref b :: As).toArray, t, U', L, E, ce, hT, X', hL, e1, e2, hq, hce, hcv, vx_cls hW₁ hcl, st⟩
end VXID
/-! ===== END ===== -/
/-! ===== BEGIN a method of a class above, found by the receiver, that may throw (follows va_callVU, va_runU of this kit) ===== -/
section
variable {p : Program} {l : Launch} {e : Env} {R : Room} {s : State} {m : MethodId} {args : Array Value} {below : List Frame} {meth : Method} {c : Code} {H : Heap} {locs : List Loc} {cells slots : Nat}
theorem vx_callVU {T : State} {locs : List Loc} {cells slots : Nat} (X : Stand p l e R s m args below meth c T locs cells slots) (hexec : p.tables.exec = Jvm.exec) {own C owner : String} {index : Nat} {x y : MethodName} {bytes : ByteArray} {maxL : Nat} {ret : Option FieldType}
    (hown : s.vm.findClass own = some m.cls) (hlink : (Cond.methodLink own index x).before args s = true) (hsame : (Cond.sameMethod x.cls owner x.name x.desc).before args s = true)
    (hd0 : va_Decl s ⟨owner, x.name, x.desc⟩) (howner : owner ≠ "java/lang/invoke/MethodHandle" ∧ owner ≠ "java/lang/invoke/VarHandle")
    (hsel : (Cond.selects C x y).before args s = true) (hinst : (Cond.instanceMethod y).before args s = true) (hcode : (Cond.code y bytes maxL ret).before args s = true)
    {W : Nat} {Pre : Pt → Array Value → Prop} {Post : Pt → Array Value → Option Value → Pt → Prop} {PostX : Pt → Array Value → Addr → Pt → Prop} (hK : vx_Back l R p e below s args y 3 W Pre Post PostX)
    {b : Addr} {cellB : Cell} (hcell : T.heap[b]? = some cellB) (hobj : cellB.vm.isStatics = false) (hcls : s.vm.findClass C = some cellB.cls)
    {g : JFrame} (hg : g.method = m) (hsize : g.locals.size = c.maxLocals) {argsL rest : List Value} (hlen : ∀ sig, parseMethodDescriptor x.desc = some sig → argsL.length = sig.parameters.length)
    (hstack : g.stack = argsL.reverse ++ .ref b :: rest) (hW : 2 * g.monitorRoom + (rest.map fun v => v.category).sum ≤ W) (hdg : decode c.code g.pc = .ok (.invokevirtual index, 3))
    (hpre : ∀ vm₁, s.WarmedH vm₁ → Pre ⟨T.setVm vm₁, locs, cells, slots⟩ (Value.ref b :: argsL).toArray) :
    (∃ (v : Option Value) (vm₁ : Vm) (B : Pt), s.WarmedH vm₁ ∧ Stand p l e R s m args below meth c B.U B.locs B.cells B.slots ∧ Post ⟨T.setVm vm₁, locs, cells, slots⟩ (Value.ref b :: argsL).toArray v B ∧
      ∀ target, Steps p.tables e below (B.U.setTop { g with pc := g.pc + 3, stack := v.toList ++ rest }) target → Steps p.tables e below (T.setTop g) target) ∨
    (∃ (q : Addr) (vm₁ : Vm) (B : Pt), s.WarmedH vm₁ ∧ Stand p l e R s m args below meth c B.U B.locs B.cells B.slots ∧ PostX ⟨T.setVm vm₁, locs, cells, slots⟩ (Value.ref b :: argsL).toArray q B ∧
      Steps p.tables e below (T.setTop g) ((B.U.setTop { g with stack := rest }).pushFrame (.throwing q))) := by
  obtain ⟨r0, r, hn, hrm, hstR, hsigR⟩ := hd0
  obtain ⟨cn, ck, r1, hcn, hck, hni, hf, hn1⟩ := Cond.sameMethod_found hsame
  cases hn.symm.trans hn1
  obtain ⟨mk, methM, hnamed, hmethM, -, habM⟩ := Cond.instanceMethod_spec hinst
  obtain ⟨c2, r2, m2, q1, q2, q3, q4, kP, hkP, hkPi⟩ := Cond.selects_spec hsel
  cases hcls.symm.trans q1
  cases hf.symm.trans q2
  cases hnamed.symm.trans q3
  have hselP : selectMethod e.platform s.vm cellB.cls r0 = .method mk := by rw [Launch.admits_selectMethod X.admits]; exact q4
  obtain ⟨vm₁, X₁, hstep₁⟩ := X.invokevirtualUp hexec hown hlink hsame howner hn hrm hstR (a := b) (cell := cellB) hcell
    (fun z h => by rw [h] at hobj; cases hobj) hselP hmethM habM hkP hkPi (g := g) hg (argsL := argsL) (rest := rest) (hlen _ hsigR) hstack hdg
  rcases hK m meth c ⟨T.setVm vm₁, locs, cells, slots⟩ { g with stack := rest } (.invokevirtual index) mk (Value.ref b :: argsL).toArray X₁ hg hsize hdg hW (X₁.named hnamed) (hpre vm₁ X₁.warmed) with ⟨v, B, X', hpost, hsteps⟩ | ⟨q, B, X', hpost, hsteps⟩
  · exact Or.inl ⟨v, vm₁, B, X₁.warmed, X', hpost, fun target h => hstep₁ _ fun acts => by rw [doInvoke_state]; exact hsteps.trans h⟩
  · exact Or.inr ⟨q, vm₁, B, X₁.warmed, X', hpost, hstep₁ _ fun acts => by rw [doInvoke_state]; exact hsteps⟩
theorem vx_runU {x y : MethodName} {bytes cc : ByteArray} {maxL nL mc ms n index : Nat} {ret : Option FieldType} {ws : List Cond} {rm : Room} {Pc : Array Value → State → Prop} {Qc : Array Value → State → Outcome → State → Prop} {XC : String → State → State → Prop} {free : Addr → Prop} {Ts : List Cond} {own C owner : String} {b : Addr} {As rest : List Value} {g : JFrame}
    (S : CallFix p m c cc nL s args Ts own) (hM : vx_Met l y ws rm Pc Qc XC mc ms free) (cw : va_CU R s args own C owner index x y bytes maxL ret ws rm mc ms n) (hp : PreV s H C b Pc As)
    (hg : g.method = m) (hn : As.length = n) (hsize : g.locals.size = nL) (hstack : g.stack = As.reverse ++ .ref b :: rest) (hW : 2 * g.monitorRoom + (rest.map fun v => v.category).sum ≤ 8) (hdg : decode cc g.pc = .ok (.invokevirtual index, 3)) (hf : cells + mc ≤ R.cells ∧ slots + ms ≤ R.slots) :
    vx_Run p l e R s m args below meth c H locs cells slots mc ms g rest (Qc (Value.ref b :: As).toArray) XC free := by
  obtain ⟨hrc, hrs, hfr, hlo, hws, hcw⟩ := cw.back
  have hini := cw.init
  have hK : vx_Back l R p e below s args y 3 8 (PreOf R mc ms Pc) (PostOf Qc mc ms free) (vx_Post XC mc ms free) := vx_back (bytes := bytes) (maxL := maxL) (ret := ret) hM hp.1 hrc hrs hfr hlo hws hcw (fun a' U hW => word_at hW (Or.inl (by first | rfl | simp [Cond.onTables, Cond.keeps, Cond.steady])) hini)
  obtain ⟨hx, hb, hml, ho, -⟩ := S
  obtain ⟨-, ⟨cellB, hcB, hoB, hclB⟩, hPc⟩ := hp
  intro T hT X
  rcases vx_callVU X hx (C := C) (owner := owner) (bytes := bytes) (maxL := maxL) (ret := ret) ho cw.link cw.same cw.decl cw.notMH cw.sel cw.inst cw.code hK (by rw [hT]; exact hcB) hoB hclB hg (hsize.trans hml.symm) (argsL := As) (rest := rest) (fun sig h => hn.trans (cw.len sig h)) hstack hW (by rw [hb]; exact hdg)
    (fun vm₁ hW₁ => ⟨hf.1, hf.2, hPc (T.setVm vm₁) hT hW₁⟩) with ⟨v, vm₁, ⟨U', l2, c2, s2⟩, hW₁, X', ⟨g', mk, t, L, e1, e2, hq, h1, hL, h2, h3⟩, st⟩ | ⟨q, vm₁, ⟨U', l2, c2, s2⟩, hW₁, X', ⟨g', mk, t, L, E, ce, e1, e2, hq, hce, hcv, hcl, h1, hL, h2, h3⟩, st⟩
  · dsimp only [Pt.U, Pt.locs, Pt.cells, Pt.slots] at X' e1 e2 h1 h2 h3 st
    subst h1; subst h2; subst h3
    exact Or.inl ⟨v, (T.setVm vm₁).calling g' mk (Value.ref b :: As).toArray, t, U', L, hT, X', hL, e1, e2, hq, st⟩
  · dsimp only [Pt.U, Pt.locs, Pt.cells, Pt.slots] at X' e1 e2 h1 h2 h3 st hcl
    subst h1; subst h2; subst h3
    exact Or.inr ⟨q, (T.setVm vm₁).calling g' mk (Value.ref b :: As).toArray, t, U', L, E, ce, hT, X', hL, e1, e2, hq, hce, hcv, vx_cls hW₁ hcl, st⟩
end
/-! ===== END ===== -/
/-! ===== BEGIN super.m(..) that may throw (follows va_callSU, va_runSU) ===== -/
section
variable {p : Program} {l : Launch} {e : Env} {R : Room} {s : State} {m : MethodId} {args : Array Value} {below : List Frame} {meth : Method} {c : Code} {H : Heap} {locs : List Loc} {cells slots : Nat}
theorem vx_callSU {T : State} {locs : List Loc} {cells slots : Nat} (X : Stand p l e R s m args below meth c T locs cells slots) (hexec : p.tables.exec = Jvm.exec) {own : String} {index : Nat} {y : MethodName} {bytes : ByteArray} {maxL : Nat} {ret : Option FieldType}
    (hown : s.vm.findClass own = some m.cls) (hlink : (Cond.methodLink own index y).before args s = true) (hsame : (Cond.sameMethod y.cls y.cls y.name y.desc).before args s = true) (hsup : (Cond.superclass own y.cls).before args s = true)
    (hinst : (Cond.instanceMethod y).before args s = true) (hcode : (Cond.code y bytes maxL ret).before args s = true) (hno : y.name ≠ "<init>")
    {W : Nat} {Pre : Pt → Array Value → Prop} {Post : Pt → Array Value → Option Value → Pt → Prop} {PostX : Pt → Array Value → Addr → Pt → Prop} (hK : vx_Back l R p e below s args y 3 W Pre Post PostX)
    {b : Addr} {cellB : Cell} {kB : Class} (hcell : T.heap[b]? = some cellB) (hobj : cellB.vm.isStatics = false) (hkB : s.vm.classes[cellB.cls]? = some kB)
    {g : JFrame} (hg : g.method = m) (hsize : g.locals.size = c.maxLocals) {argsL rest : List Value} (hlen : ∀ sig, parseMethodDescriptor y.desc = some sig → argsL.length = sig.parameters.length)
    (hstack : g.stack = argsL.reverse ++ .ref b :: rest) (hW : 2 * g.monitorRoom + (rest.map fun v => v.category).sum ≤ W) (hdg : decode c.code g.pc = .ok (.invokespecial index, 3))
    (hpre : ∀ vm₁, s.WarmedH vm₁ → Pre ⟨T.setVm vm₁, locs, cells, slots⟩ (Value.ref b :: argsL).toArray) :
    (∃ (v : Option Value) (vm₁ : Vm) (B : Pt), s.WarmedH vm₁ ∧ Stand p l e R s m args below meth c B.U B.locs B.cells B.slots ∧ Post ⟨T.setVm vm₁, locs, cells, slots⟩ (Value.ref b :: argsL).toArray v B ∧
      ∀ target, Steps p.tables e below (B.U.setTop { g with pc := g.pc + 3, stack := v.toList ++ rest }) target → Steps p.tables e below (T.setTop g) target) ∨
    (∃ (q : Addr) (vm₁ : Vm) (B : Pt), s.WarmedH vm₁ ∧ Stand p l e R s m args below meth c B.U B.locs B.cells B.slots ∧ PostX ⟨T.setVm vm₁, locs, cells, slots⟩ (Value.ref b :: argsL).toArray q B ∧
      Steps p.tables e below (T.setTop g) ((B.U.setTop { g with stack := rest }).pushFrame (.throwing q))) := by
  obtain ⟨mk, methM, hnamed, hmethM, hstM, habM⟩ := Cond.instanceMethod_spec hinst
  obtain ⟨methM', cM, hmethM', -, -, -, -, -, -, hsigM⟩ := Cond.code_spec hnamed hcode
  cases hmethM.symm.trans hmethM'
  obtain ⟨ps, dk, kp, hps, hdk, hkp, hsuper, -, -, hnid⟩ := Cond.superclass_spec hown hsup
  have hn : s.methodNamed? ⟨y.cls, y.name, y.desc⟩ = some mk := hnamed
  have hpm : ps = mk.cls := Option.some.inj (hps.symm.trans (findClass_of_methodNamed hnamed))
  have hsub : s.vm.isSubclass ps mk.cls = true := by rw [hpm]; simp [Vm.isSubclass, Vm.isSubclassAux]
  obtain ⟨vm₁, X₁, hstep₁⟩ := X.invokespecialUp hexec hown hlink hsame hn hmethM hstM habM hno hdk hnid hps hsuper hsub (a := b) (cell := cellB) hcell
    (fun z h => by rw [h] at hobj; cases hobj) hkB (g := g) hg (argsL := argsL) (rest := rest) (hlen _ hsigM) hstack hdg
  rcases hK m meth c ⟨T.setVm vm₁, locs, cells, slots⟩ { g with stack := rest } (.invokespecial index) mk (Value.ref b :: argsL).toArray X₁ hg hsize hdg hW (X₁.named hnamed) (hpre vm₁ X₁.warmed) with ⟨v, B, X', hpost, hsteps⟩ | ⟨q, B, X', hpost, hsteps⟩
  · exact Or.inl ⟨v, vm₁, B, X₁.warmed, X', hpost, fun target h => hstep₁ _ (by rw [doInvoke_state]; exact hsteps.trans h)⟩
  · exact Or.inr ⟨q, vm₁, B, X₁.warmed, X', hpost, hstep₁ _ (by rw [doInvoke_state]; exact hsteps)⟩
theorem vx_runSU {y : MethodName} {bytes cc : ByteArray} {maxL nL mc ms n index : Nat} {ret : Option FieldType} {ws : List Cond} {rm : Room} {Pc : Array Value → State → Prop} {Qc : Array Value → State → Outcome → State → Prop} {XC : String → State → State → Prop} {free : Addr → Prop} {Ts : List Cond} {own C : String} {cC : ClassId} {b : Addr} {As rest : List Value} {g : JFrame}
    (hat : ClassAt s C cC) (S : CallFix p m c cc nL s args Ts own) (hM : vx_Met l y ws rm Pc Qc XC mc ms free) (cw : va_CS R s args own index y bytes maxL ret ws rm mc ms n) (hp : PreV s H C b Pc As)
    (hg : g.method = m) (hn : As.length = n) (hsize : g.locals.size = nL) (hstack : g.stack = As.reverse ++ .ref b :: rest) (hW : 2 * g.monitorRoom + (rest.map fun v => v.category).sum ≤ 8) (hdg : decode cc g.pc = .ok (.invokespecial index, 3)) (hf : cells + mc ≤ R.cells ∧ slots + ms ≤ R.slots) :
    vx_Run p l e R s m args below meth c H locs cells slots mc ms g rest (Qc (Value.ref b :: As).toArray) XC free := by
  obtain ⟨⟨hrc, hrs, hfr, hlo, hws, hcw⟩, hl1, hl2, hl3, hl4, hini, hcode, hno, hlen⟩ := cw
  have hK : vx_Back l R p e below s args y 3 8 (PreOf R mc ms Pc) (PostOf Qc mc ms free) (vx_Post XC mc ms free) := vx_back (bytes := bytes) (maxL := maxL) (ret := ret) hM hp.1 hrc hrs hfr hlo hws hcw (fun a' U hW => word_at hW (Or.inl (by first | rfl | simp [Cond.onTables, Cond.keeps, Cond.steady])) hini)
  obtain ⟨hx, hb, hml, ho, -⟩ := S
  obtain ⟨-, ⟨cellB, hcB, hoB, hclB⟩, hPc⟩ := hp
  obtain ⟨hfc, kB, hkB, -⟩ := hat
  cases hfc.symm.trans hclB
  intro T hT X
  rcases vx_callSU X hx (bytes := bytes) (maxL := maxL) (ret := ret) ho hl1 hl2 hl3 hl4 hcode hno hK (by rw [hT]; exact hcB) hoB hkB hg (hsize.trans hml.symm) (argsL := As) (rest := rest) (fun sig h => hn.trans (hlen sig h)) hstack hW (by rw [hb]; exact hdg)
    (fun vm₁ hW₁ => ⟨hf.1, hf.2, hPc (T.setVm vm₁) hT hW₁⟩) with ⟨v, vm₁, ⟨U', l2, c2, s2⟩, hW₁, X', ⟨g', mk, t, L, e1, e2, hq, h1, hL, h2, h3⟩, st⟩ | ⟨q, vm₁, ⟨U', l2, c2, s2⟩, hW₁, X', ⟨g', mk, t, L, E, ce, e1, e2, hq, hce, hcv, hcl, h1, hL, h2, h3⟩, st⟩
  · dsimp only [Pt.U, Pt.locs, Pt.cells, Pt.slots] at X' e1 e2 h1 h2 h3 st
    subst h1; subst h2; subst h3
    exact Or.inl ⟨v, (T.setVm vm₁).calling g' mk (Value.ref b :: As).toArray, t, U', L, hT, X', hL, e1, e2, hq, st⟩
  · dsimp only [Pt.U, Pt.locs, Pt.cells, Pt.slots] at X' e1 e2 h1 h2 h3 st hcl
    subst h1; subst h2; subst h3
    exact Or.inr ⟨q, (T.setVm vm₁).calling g' mk (Value.ref b :: As).toArray, t, U', L, E, ce, hT, X', hL, e1, e2, hq, hce, hcv, vx_cls hW₁ hcl, st⟩
end
/-! ===== END ===== -/
/-! ===== BEGIN a private method of a nest mate that may throw (follows va_callVN, va_callSN, va_runVN, va_runSN) ===== -/
section
variable {p : Program} {l : Launch} {e : Env} {R : Room} {s : State} {m : MethodId} {args : Array Value} {below : List Frame} {meth : Method} {c : Code} {H : Heap} {locs : List Loc} {cells slots : Nat}
variable {T : State}
theorem vx_callVN (X : Stand p l e R s m args below meth c T locs cells slots) (hexec : p.tables.exec = Jvm.exec) {own C : String} {index : Nat} {host : String} {y : MethodName} {bytes : ByteArray} {maxL : Nat} {ret : Option FieldType}
    (hown : s.vm.findClass own = some m.cls) (hlink : (Cond.methodLinkNest own index y host).before args s = true) (hinst : (Cond.instanceMethod y).before args s = true) (hsel : (Cond.selects C y y).before args s = true)
    (hcode : (Cond.code y bytes maxL ret).before args s = true) (hy : y.cls ≠ "java/lang/invoke/MethodHandle" ∧ y.cls ≠ "java/lang/invoke/VarHandle")
    {W : Nat} {Pre : Pt → Array Value → Prop} {Post : Pt → Array Value → Option Value → Pt → Prop} {PostX : Pt → Array Value → Addr → Pt → Prop} (hK : vx_Back l R p e below s args y 3 W Pre Post PostX)
    {b : Addr} {cellB : Cell} (hcell : T.heap[b]? = some cellB) (hobj : cellB.vm.isStatics = false) (hcls : s.vm.findClass C = some cellB.cls)
    {g : JFrame} (hg : g.method = m) (hsize : g.locals.size = c.maxLocals) {argsL rest : List Value} (hlen : ∀ sig, parseMethodDescriptor y.desc = some sig → argsL.length = sig.parameters.length)
    (hstack : g.stack = argsL.reverse ++ .ref b :: rest) (hW : 2 * g.monitorRoom + (rest.map fun v => v.category).sum ≤ W) (hdg : decode c.code g.pc = .ok (.invokevirtual index, 3))
    (hpre : ∀ vm₁, s.WarmedH vm₁ → Pre ⟨T.setVm vm₁, locs, cells, slots⟩ (Value.ref b :: argsL).toArray) :
    (∃ (v : Option Value) (vm₁ : Vm) (B : Pt), s.WarmedH vm₁ ∧ Stand p l e R s m args below meth c B.U B.locs B.cells B.slots ∧ Post ⟨T.setVm vm₁, locs, cells, slots⟩ (Value.ref b :: argsL).toArray v B ∧
      ∀ target, Steps p.tables e below (B.U.setTop { g with pc := g.pc + 3, stack := v.toList ++ rest }) target → Steps p.tables e below (T.setTop g) target) ∨
    (∃ (q : Addr) (vm₁ : Vm) (B : Pt), s.WarmedH vm₁ ∧ Stand p l e R s m args below meth c B.U B.locs B.cells B.slots ∧ PostX ⟨T.setVm vm₁, locs, cells, slots⟩ (Value.ref b :: argsL).toArray q B ∧
      Steps p.tables e below (T.setTop g) ((B.U.setTop { g with stack := rest }).pushFrame (.throwing q))) := by
  obtain ⟨mk, methM, hnamed, hmethM, hstM, habM⟩ := Cond.instanceMethod_spec hinst
  obtain ⟨methM', cM, hmethM', -, -, -, -, -, -, hsigM⟩ := Cond.code_spec hnamed hcode
  cases hmethM.symm.trans hmethM'
  obtain ⟨c2, r2, m2, q1, q2, q3, q4, kP, hkP, hkPi⟩ := Cond.selects_spec hsel
  cases hcls.symm.trans q1
  cases (State.methodFound?_of_named hnamed hy).symm.trans q2
  cases hnamed.symm.trans q3
  have hselP : selectMethod e.platform s.vm cellB.cls mk = .method mk := by rw [Launch.admits_selectMethod X.admits]; exact q4
  obtain ⟨vm₁, X₁, hstep₁⟩ := X.invokevirtualNest hexec hown hlink hnamed hmethM hstM hkP hkPi hy (a := b) (cell := cellB) hcell
    (fun z h => by rw [h] at hobj; cases hobj) hselP hmethM habM hkP hkPi (g := g) hg (argsL := argsL) (rest := rest) (hlen _ hsigM) hstack hdg
  rcases hK m meth c ⟨T.setVm vm₁, locs, cells, slots⟩ { g with stack := rest } (.invokevirtual index) mk (Value.ref b :: argsL).toArray X₁ hg hsize hdg hW (X₁.named hnamed) (hpre vm₁ X₁.warmed) with ⟨v, B, X', hpost, hsteps⟩ | ⟨q, B, X', hpost, hsteps⟩
  · exact Or.inl ⟨v, vm₁, B, X₁.warmed, X', hpost, fun target h => hstep₁ _ fun acts => by rw [doInvoke_state]; exact hsteps.trans h⟩
  · exact Or.inr ⟨q, vm₁, B, X₁.warmed, X', hpost, hstep₁ _ fun acts => by rw [doInvoke_state]; exact hsteps⟩
theorem vx_callSN (X : Stand p l e R s m args below meth c T locs cells slots) (hexec : p.tables.exec = Jvm.exec) {own : String} {index : Nat} {host : String} {y : MethodName} {bytes : ByteArray} {maxL : Nat} {ret : Option FieldType}
    (hown : s.vm.findClass own = some m.cls) (hlink : (Cond.methodLinkNest own index y host).before args s = true) (hstat : (Cond.static y).before args s = true) (hinit : (Cond.initialized y.cls).before args s = true)
    (hcode : (Cond.code y bytes maxL ret).before args s = true) (hy : y.cls ≠ "java/lang/invoke/MethodHandle" ∧ y.cls ≠ "java/lang/invoke/VarHandle")
    {W : Nat} {Pre : Pt → Array Value → Prop} {Post : Pt → Array Value → Option Value → Pt → Prop} {PostX : Pt → Array Value → Addr → Pt → Prop} (hK : vx_Back l R p e below s args y 3 W Pre Post PostX)
    {g : JFrame} (hg : g.method = m) (hsize : g.locals.size = c.maxLocals) {argsL rest : List Value} (hlen : ∀ sig, parseMethodDescriptor y.desc = some sig → argsL.length = sig.parameters.length)
    (hstack : g.stack = argsL.reverse ++ rest) (hW : 2 * g.monitorRoom + (rest.map fun v => v.category).sum ≤ W) (hdg : decode c.code g.pc = .ok (.invokestatic index, 3))
    (hpre : ∀ vm₁, s.WarmedH vm₁ → Pre ⟨T.setVm vm₁, locs, cells, slots⟩ argsL.toArray) :
    (∃ (v : Option Value) (vm₁ : Vm) (B : Pt), s.WarmedH vm₁ ∧ Stand p l e R s m args below meth c B.U B.locs B.cells B.slots ∧ Post ⟨T.setVm vm₁, locs, cells, slots⟩ argsL.toArray v B ∧
      ∀ target, Steps p.tables e below (B.U.setTop { g with pc := g.pc + 3, stack := v.toList ++ rest }) target → Steps p.tables e below (T.setTop g) target) ∨
    (∃ (q : Addr) (vm₁ : Vm) (B : Pt), s.WarmedH vm₁ ∧ Stand p l e R s m args below meth c B.U B.locs B.cells B.slots ∧ PostX ⟨T.setVm vm₁, locs, cells, slots⟩ argsL.toArray q B ∧
      Steps p.tables e below (T.setTop g) ((B.U.setTop { g with stack := rest }).pushFrame (.throwing q))) := by
  obtain ⟨mk, hnamed⟩ := Cond.code_named hcode
  obtain ⟨methM, cM, hmethM, -, -, -, -, -, -, hsigM⟩ := Cond.code_spec hnamed hcode
  have hstatic : methM.isStatic = true := Cond.static_spec hnamed hmethM hstat
  obtain ⟨kP, hkP, -⟩ := className_of_methodNamed hnamed
  have hinitP : kP.init = .initialized := Cond.initialized_spec (findClass_of_methodNamed hnamed) hkP hinit
  obtain ⟨vm₁, X₁, hstep₁⟩ := X.invokestaticNest hexec hown hlink hnamed hmethM hstatic hkP hinitP hy (g := g) hg (argsL := argsL) (rest := rest) (hlen _ hsigM) hstack hdg
  rcases hK m meth c ⟨T.setVm vm₁, locs, cells, slots⟩ { g with stack := rest } (.invokestatic index) mk argsL.toArray X₁ hg hsize hdg hW (X₁.named hnamed) (hpre vm₁ X₁.warmed) with ⟨v, B, X', hpost, hsteps⟩ | ⟨q, B, X', hpost, hsteps⟩
  · exact Or.inl ⟨v, vm₁, B, X₁.warmed, X', hpost, fun target h => hstep₁ _ fun acts => by rw [doInvoke_state]; exact hsteps.trans h⟩
  · exact Or.inr ⟨q, vm₁, B, X₁.warmed, X', hpost, hstep₁ _ fun acts => by rw [doInvoke_state]; exact hsteps⟩
theorem vx_runVN {y : MethodName} {bytes cc : ByteArray} {maxL nL mc ms n index : Nat} {ret : Option FieldType} {ws : List Cond} {rm : Room} {Pc : Array Value → State → Prop} {Qc : Array Value → State → Outcome → State → Prop} {XC : String → State → State → Prop} {free : Addr → Prop} {Ts : List Cond} {own C host : String} {b : Addr} {As rest : List Value} {g : JFrame}
    (S : CallFix p m c cc nL s args Ts own) (hM : vx_Met l y ws rm Pc Qc XC mc ms free) (cw : va_CN R s args own index y host bytes maxL ret ws rm mc ms n ∧ (Cond.instanceMethod y).before args s = true ∧ (Cond.selects C y y).before args s = true) (hp : PreV s H C b Pc As)
    (hg : g.method = m) (hn : As.length = n) (hsize : g.locals.size = nL) (hstack : g.stack = As.reverse ++ .ref b :: rest) (hW : 2 * g.monitorRoom + (rest.map fun v => v.category).sum ≤ 8) (hdg : decode cc g.pc = .ok (.invokevirtual index, 3)) (hf : cells + mc ≤ R.cells ∧ slots + ms ≤ R.slots) :
    vx_Run p l e R s m args below meth c H locs cells slots mc ms g rest (Qc (Value.ref b :: As).toArray) XC free := by
  obtain ⟨⟨⟨hrc, hrs, hfr, hlo, hws, hcw⟩, hcode, hini, hy, hlen, hl⟩, hx1, hx2⟩ := cw
  have hK : vx_Back l R p e below s args y 3 8 (PreOf R mc ms Pc) (PostOf Qc mc ms free) (vx_Post XC mc ms free) := vx_back (bytes := bytes) (maxL := maxL) (ret := ret) hM hp.1 hrc hrs hfr hlo hws hcw (fun a' U hW => word_at hW (Or.inl (by first | rfl | simp [Cond.onTables, Cond.keeps, Cond.steady])) hini)
  obtain ⟨hx, hb, hml, ho, -⟩ := S
  obtain ⟨-, ⟨cellB, hcB, hoB, hclB⟩, hPc⟩ := hp
  intro T hT X
  rcases vx_callVN X hx (C := C) (bytes := bytes) (maxL := maxL) (ret := ret) ho hl hx1 hx2 hcode hy hK (by rw [hT]; exact hcB) hoB hclB hg (hsize.trans hml.symm) (argsL := As) (rest := rest) (fun sig h => hn.trans (hlen sig h)) hstack hW (by rw [hb]; exact hdg)
    (fun vm₁ hW₁ => ⟨hf.1, hf.2, hPc (T.setVm vm₁) hT hW₁⟩) with ⟨v, vm₁, ⟨U', l2, c2, s2⟩, hW₁, X', ⟨g', mk, t, L, e1, e2, hq, h1, hL, h2, h3⟩, st⟩ | ⟨q, vm₁, ⟨U', l2, c2, s2⟩, hW₁, X', ⟨g', mk, t, L, E, ce, e1, e2, hq, hce, hcv, hcl, h1, hL, h2, h3⟩, st⟩
  · dsimp only [Pt.U, Pt.locs, Pt.cells, Pt.slots] at X' e1 e2 h1 h2 h3 st
    subst h1; subst h2; subst h3
    exact Or.inl ⟨v, (T.setVm vm₁).calling g' mk (Value.ref b :: As).toArray, t, U', L, hT, X', hL, e1, e2, hq, st⟩
  · dsimp only [Pt.U, Pt.locs, Pt.cells, Pt.slots] at X' e1 e2 h1 h2 h3 st hcl
    subst h1; subst h2; subst h3
    exact Or.inr ⟨q, (T.setVm vm₁).calling g' mk (Value.ref b :: As).toArray, t, U', L, E, ce, hT, X', hL, e1, e2, hq, hce, hcv, vx_cls hW₁ hcl, st⟩
theorem vx_runSN {y : MethodName} {bytes cc : ByteArray} {maxL nL mc ms n index : Nat} {ret : Option FieldType} {ws : List Cond} {rm : Room} {Pc : Array Value → State → Prop} {Qc : Array Value → State → Outcome → State → Prop} {XC : String → State → State → Prop} {free : Addr → Prop} {Ts : List Cond} {own host : String} {As rest : List Value} {g : JFrame}
    (S : CallFix p m c cc nL s args Ts own) (hM : vx_Met l y ws rm Pc Qc XC mc ms free) (cw : va_CN R s args own index y host bytes maxL ret ws rm mc ms n ∧ (Cond.static y).before args s = true ∧ True) (hp : PreS s H Pc As)
    (hg : g.method = m) (hn : As.length = n) (hsize : g.locals.size = nL) (hstack : g.stack = As.reverse ++ rest) (hW : 2 * g.monitorRoom + (rest.map fun v => v.category).sum ≤ 8) (hdg : decode cc g.pc = .ok (.invokestatic index, 3)) (hf : cells + mc ≤ R.cells ∧ slots + ms ≤ R.slots) :
    vx_Run p l e R s m args below meth c H locs cells slots mc ms g rest (Qc As.toArray) XC free := by
  obtain ⟨⟨⟨hrc, hrs, hfr, hlo, hws, hcw⟩, hcode, hini, hy, hlen, hl⟩, hx1, hx2⟩ := cw
  have hK : vx_Back l R p e below s args y 3 8 (PreOf R mc ms Pc) (PostOf Qc mc ms free) (vx_Post XC mc ms free) := vx_back (bytes := bytes) (maxL := maxL) (ret := ret) hM hp.1 hrc hrs hfr hlo hws hcw (fun a' U hW => word_at hW (Or.inl (by first | rfl | simp [Cond.onTables, Cond.keeps, Cond.steady])) hini)
  obtain ⟨hx, hb, hml, ho, -⟩ := S
  have hPc := hp.2
  intro T hT X
  rcases vx_callSN X hx (bytes := bytes) (maxL := maxL) (ret := ret) ho hl hx1 hini hcode hy hK hg (hsize.trans hml.symm) (argsL := As) (rest := rest) (fun sig h => hn.trans (hlen sig h)) hstack hW (by rw [hb]; exact hdg)
    (fun vm₁ hW₁ => ⟨hf.1, hf.2, hPc (T.setVm vm₁) hT hW₁⟩) with ⟨v, vm₁, ⟨U', l2, c2, s2⟩, hW₁, X', ⟨g', mk, t, L, e1, e2, hq, h1, hL, h2, h3⟩, st⟩ | ⟨q, vm₁, ⟨U', l2, c2, s2⟩, hW₁, X', ⟨g', mk, t, L, E, ce, e1, e2, hq, hce, hcv, hcl, h1, hL, h2, h3⟩, st⟩
  · dsimp only [Pt.U, Pt.locs, Pt.cells, Pt.slots] at X' e1 e2 h1 h2 h3 st
    subst h1; subst h2; subst h3
    exact Or.inl ⟨v, (T.setVm vm₁).calling g' mk As.toArray, t, U', L, hT, X', hL, e1, e2, hq, st⟩
  · dsimp only [Pt.U, Pt.locs, Pt.cells, Pt.slots] at X' e1 e2 h1 h2 h3 st hcl
    subst h1; subst h2; subst h3
    exact Or.inr ⟨q, (T.setVm vm₁).calling g' mk As.toArray, t, U', L, E, ce, hT, X', hL, e1, e2, hq, hce, hcv, vx_cls hW₁ hcl, st⟩
end
/-! ===== END ===== -/
/-! ===== BEGIN calls by an interface of methods that may throw (vx_callIF, vx_runF follow va_callIF, va_runF of this kit) ===== -/
section
variable {p : Program} {l : Launch} {e : Env} {R : Room} {s : State} {m : MethodId} {args : Array Value} {below : List Frame} {meth : Method} {c : Code} {H : Heap} {locs : List Loc} {cells slots : Nat} {Q : State → Prop}
variable {mc ms : Nat} {free : Addr → Prop} {A0 A1 : Nat → Prop} {H0 : Heap} {a : Array Value} {pc : Nat} {ls : Array Slot} {st0 rest : List Value}
def vx_Run5 (p : Program) (l : Launch) (e : Env) (R : Room) (s : State) (m : MethodId) (args : Array Value) (below : List Frame) (meth : Method) (c : Code) (H : Heap) (locs : List Loc) (cells slots mc ms : Nat) (g : JFrame) (rest : List Value) (Qa : State → Outcome → State → Prop) (XC : String → State → State → Prop) (free : Addr → Prop) : Prop :=
  ∀ T : State, T.heap = H → Stand p l e R s m args below meth c T locs cells slots →
    (∃ (v : Option Value) (st₀ t T' : State) (L : List Loc), st₀.heap = H ∧ Stand p l e R s m args below meth c T' (locs ++ L) (cells + mc) (slots + ms) ∧ (∀ q ∈ L, free q.base) ∧ T'.heap = t.heap ∧ T'.vm = t.vm ∧ Qa st₀ (.returned v) t ∧
      Goes p e below T g T' { g with pc := g.pc + 5, stack := v.toList ++ rest }) ∨
    (∃ (q : Addr) (st₀ t T' : State) (L : List Loc) (E : String) (ce : Cell), st₀.heap = H ∧ Stand p l e R s m args below meth c T' (locs ++ L) (cells + mc) (slots + ms) ∧ (∀ z ∈ L, free z.base) ∧ T'.heap = t.heap ∧ T'.vm = t.vm ∧ XC E st₀ t ∧ t.heap[q]? = some ce ∧ ce.vm = .none ∧ s.vm.findClass E = some ce.cls ∧
      Steps p.tables e below (T.setTop g) ((T'.setTop { g with stack := rest }).pushFrame (.throwing q)))
theorem vx_callIF {T : State} (X : Stand p l e R s m args below meth c T locs cells slots) (hexec : p.tables.exec = Jvm.exec) {own C : String} {index count : Nat} {x y : MethodName} {bytes : ByteArray} {maxL : Nat} {ret : Option FieldType}
    (hown : s.vm.findClass own = some m.cls) (hlink : (Cond.methodLink own index x).before args s = true) (hdecl : (Cond.declares x).before args s = true) (hface : (Cond.interfaceMethod x.cls x.cls x.name x.desc).before args s = true)
    (hsel : (Cond.selects C x y).before args s = true) (hinst : (Cond.instanceMethod y).before args s = true) (hpub : (Cond.publicMethod y).before args s = true) (hunh : (Cond.unhidden C x.name x.desc).before args s = true)
    (hcast : (Cond.castable C x.cls).before args s = true) (hcode : (Cond.code y bytes maxL ret).before args s = true) (hx : x.cls ≠ "java/lang/invoke/MethodHandle" ∧ x.cls ≠ "java/lang/invoke/VarHandle")
    {W9 : Nat} {Pre : Pt → Array Value → Prop} {Post : Pt → Array Value → Option Value → Pt → Prop} {PostX : Pt → Array Value → Addr → Pt → Prop} (hK : vx_Back l R p e below s args y 5 W9 Pre Post PostX)
    {b : Addr} {cellB : Cell} {kB : Class} (hcell : T.heap[b]? = some cellB) (hobj : cellB.vm.isStatics = false) (hcls : s.vm.findClass C = some cellB.cls) (hkB : s.vm.classes[cellB.cls]? = some kB)
    {g : JFrame} (hg : g.method = m) (hsize : g.locals.size = c.maxLocals) {argsL rest : List Value} (hlen : ∀ sig, parseMethodDescriptor x.desc = some sig → argsL.length = sig.parameters.length)
    (hstack : g.stack = argsL.reverse ++ .ref b :: rest) (hW : 2 * g.monitorRoom + (rest.map fun v => v.category).sum ≤ W9) (hdg : decode c.code g.pc = .ok (.invokeinterface index count, 5))
    (hpre : ∀ vm₁, s.WarmedH vm₁ → Pre ⟨T.setVm vm₁, locs, cells, slots⟩ (Value.ref b :: argsL).toArray) :
    (∃ (v : Option Value) (vm₁ : Vm) (B : Pt), s.WarmedH vm₁ ∧ Stand p l e R s m args below meth c B.U B.locs B.cells B.slots ∧ Post ⟨T.setVm vm₁, locs, cells, slots⟩ (Value.ref b :: argsL).toArray v B ∧
      ∀ target, Steps p.tables e below (B.U.setTop { g with pc := g.pc + 5, stack := v.toList ++ rest }) target → Steps p.tables e below (T.setTop g) target) ∨
    (∃ (q : Addr) (vm₁ : Vm) (B : Pt), s.WarmedH vm₁ ∧ Stand p l e R s m args below meth c B.U B.locs B.cells B.slots ∧ PostX ⟨T.setVm vm₁, locs, cells, slots⟩ (Value.ref b :: argsL).toArray q B ∧
      Steps p.tables e below (T.setTop g) ((B.U.setTop { g with stack := rest }).pushFrame (.throwing q))) := by
  obtain ⟨r0, r, hn, hrm, hstR, hsigR⟩ := Cond.declares_spec hdecl
  obtain ⟨cL, kL, r1, hcL, hkL, hiL, hfoundL, hn1⟩ := Cond.interfaceMethod_spec hface
  cases hn.symm.trans hn1
  have hr0cls : r0.cls = cL := Option.some.inj ((findClass_of_methodNamed hn).symm.trans hcL)
  obtain ⟨hnameR, hdescR⟩ := name_of_methodNamed hn hrm
  obtain ⟨mk, methM, hnamed, hmethM, -, habM⟩ := Cond.instanceMethod_spec hinst
  obtain ⟨c2, r2, m2, q1, q2, q3, q4, -⟩ := Cond.selects_spec hsel
  cases hcls.symm.trans q1
  cases hfoundL.symm.trans q2
  cases hnamed.symm.trans q3
  have hselP : selectMethod e.platform s.vm cellB.cls r0 = .method mk := by rw [Launch.admits_selectMethod X.admits]; exact q4
  have hpubM : hasFlag methM.accessFlags Acc.public_ = true := Cond.publicMethod_spec hnamed hmethM hpub
  have hway : ((cellB.cls :: s.vm.superclasses cellB.cls).any fun k => (declaredIn s.vm r.name r.desc k).any fun (_, z) => z.isPrivate || z.isStatic) = false := by
    rw [hnameR, hdescR]; exact Cond.unhidden_spec hcls hunh
  obtain ⟨c3, t3, w1, w2, w3⟩ := Cond.castable_spec hcast
  cases hcls.symm.trans w1
  cases hcL.symm.trans w2
  obtain ⟨vm₁, X₁, hstep₁⟩ := X.invokeinterface hexec hown hlink hn hrm hstR (by rw [hr0cls]; exact hkL) hiL hx (a := b) (cell := cellB) (kcell := kB) hcell
    (fun z h => by rw [h] at hobj; cases hobj) hkB (by rw [hr0cls]; exact w3) hselP hmethM hway hpubM habM (g := g) hg (argsL := argsL) (rest := rest) (hlen _ hsigR) hstack hdg
  rcases hK m meth c ⟨T.setVm vm₁, locs, cells, slots⟩ { g with stack := rest } (.invokeinterface index count) mk (Value.ref b :: argsL).toArray X₁ hg hsize hdg hW (X₁.named hnamed) (hpre vm₁ X₁.warmed) with ⟨v, B, X', hpost, hsteps⟩ | ⟨q, B, X', hpost, hsteps⟩
  · exact Or.inl ⟨v, vm₁, B, X₁.warmed, X', hpost, fun target h => hstep₁ _ fun acts => by rw [doInvoke_state]; exact hsteps.trans h⟩
  · exact Or.inr ⟨q, vm₁, B, X₁.warmed, X', hpost, hstep₁ _ fun acts => by rw [doInvoke_state]; exact hsteps⟩
theorem vx_runF {x y : MethodName} {bytes cc : ByteArray} {maxL nL mc ms n index count : Nat} {ret : Option FieldType} {ws : List Cond} {rm : Room} {Pc : Array Value → State → Prop} {Qc : Array Value → State → Outcome → State → Prop} {XC : String → State → State → Prop} {free : Addr → Prop} {Ts : List Cond} {own C : String} {cC : ClassId} {b : Addr} {As rest : List Value} {g : JFrame}
    (hat : ClassAt s C cC) (S : CallFix p m c cc nL s args Ts own) (hM : vx_Met l y ws rm Pc Qc XC mc ms free) (cw : va_CI R s args own C index x y bytes maxL ret ws rm mc ms n) (hp : PreV s H C b Pc As)
    (hg : g.method = m) (hn : As.length = n) (hsize : g.locals.size = nL) (hstack : g.stack = As.reverse ++ .ref b :: rest) (hW : 2 * g.monitorRoom + (rest.map fun v => v.category).sum ≤ 8) (hdg : decode cc g.pc = .ok (.invokeinterface index count, 5)) (hf : cells + mc ≤ R.cells ∧ slots + ms ≤ R.slots) :
    vx_Run5 p l e R s m args below meth c H locs cells slots mc ms g rest (Qc (Value.ref b :: As).toArray) XC free := by
  obtain ⟨hrc, hrs, hfr, hlo, hws, hcw⟩ := cw.back
  have hini := cw.init
  have hK : vx_Back l R p e below s args y 5 8 (PreOf R mc ms Pc) (PostOf Qc mc ms free) (vx_Post XC mc ms free) := vx_back (bytes := bytes) (maxL := maxL) (ret := ret) hM hp.1 hrc hrs hfr hlo hws hcw (fun a' U hW => word_at hW (Or.inl (by first | rfl | simp [Cond.onTables, Cond.keeps, Cond.steady])) hini)
  obtain ⟨hx, hb, hml, ho, -⟩ := S
  obtain ⟨-, ⟨cellB, hcB, hoB, hclB⟩, hPc⟩ := hp
  obtain ⟨hfc, kB, hkB, -⟩ := hat
  cases hfc.symm.trans hclB
  intro T hT X
  rcases vx_callIF X hx (C := C) (bytes := bytes) (maxL := maxL) (ret := ret) ho cw.link cw.decl cw.face cw.sel cw.inst cw.pub cw.unh cw.cast cw.code cw.notMH hK (by rw [hT]; exact hcB) hoB hclB hkB hg (hsize.trans hml.symm) (argsL := As) (rest := rest) (fun sig h => hn.trans (cw.len sig h)) hstack hW (by rw [hb]; exact hdg)
    (fun vm₁ hW₁ => ⟨hf.1, hf.2, hPc (T.setVm vm₁) hT hW₁⟩) with ⟨v, vm₁, ⟨U', l2, c2, s2⟩, hW₁, X', ⟨g', mk, t, L, e1, e2, hq, h1, hL, h2, h3⟩, st⟩ | ⟨q, vm₁, ⟨U', l2, c2, s2⟩, hW₁, X', ⟨g', mk, t, L, E, ce, e1, e2, hq, hce, hcv, hcl, h1, hL, h2, h3⟩, st⟩
  · dsimp only [Pt.U, Pt.locs, Pt.cells, Pt.slots] at X' e1 e2 h1 h2 h3 st
    subst h1; subst h2; subst h3
    exact Or.inl ⟨v, (T.setVm vm₁).calling g' mk (Value.ref b :: As).toArray, t, U', L, hT, X', hL, e1, e2, hq, st⟩
  · dsimp only [Pt.U, Pt.locs, Pt.cells, Pt.slots] at X' e1 e2 h1 h2 h3 st hcl
    subst h1; subst h2; subst h3
    exact Or.inr ⟨q, (T.setVm vm₁).calling g' mk (Value.ref b :: As).toArray, t, U', L, E, ce, hT, X', hL, e1, e2, hq, hce, hcv, vx_cls hW₁ hcl, st⟩
theorem vx_callFv {S SX : Type} {post : S → Prop} {px : SX → Prop} {B : S → State → Prop} {BX : String → SX → State → Prop} {AX : Nat → Prop} (hr : vx_Run5 p l e R s m args below meth c H locs cells slots mc ms (F0 m pc ls st0) rest (va_Qv post B A1 a) (vx_X px BX AX) free) (hS : va_S A0 H0 H locs) (hA : ∀ q, q < H.size → A1 q → A0 q) (hf : ∀ q, free q → A0 q) (hAX : ∀ q, q < H.size → AX q → A0 q)
    (kx : ∀ (E : String) (ce : Cell) (q9 : Addr) (u : SX) (t : State) (H1 : Heap) (locs1 : List Loc), t.heap = H1 → s.vm.Alike t.vm → px u → BX E u t → H.size ≤ H1.size → (∀ q : Nat, q < H.size → ¬ AX q → H1[q]? = H[q]?) → va_S A0 H0 H1 locs1 → H1[q9]? = some ce → ce.vm = .none → s.vm.findClass E = some ce.cls → vx_W p l e R s m args below meth c H1 locs1 (cells + mc) (slots + ms) Q (F0 m pc ls rest) q9)
    (kk : ∀ (u : S) (t : State) (H1 : Heap) (locs1 : List Loc), t.heap = H1 → s.vm.Alike t.vm → post u → B u t → H.size ≤ H1.size → (∀ q : Nat, q < H.size → ¬ A1 q → H1[q]? = H[q]?) → va_S A0 H0 H1 locs1 → W p l e R s m args below meth c H1 locs1 (cells + mc) (slots + ms) Q (F0 m (pc + 5) ls (rest))) : W p l e R s m args below meth c H locs cells slots Q (F0 m pc ls st0) := by
  intro T hT X
  rcases hr T hT X with ⟨v, st₀, t, T', L, h0, X', hL, e1, e2, ⟨⟨u, hv, hp, hb⟩, hF⟩, st⟩ | ⟨q, st₀, t, T', L, E, ce, h0, X', hL, e1, e2, ⟨u, hp, hb, hF⟩, hce, hcv, hcl, st⟩
  · cases hv
    obtain ⟨k1, k2, k3⟩ := vx_keep h0 e1 hS hA hf hL hF
    obtain ⟨t2, a1, b1⟩ := kk u t T'.heap (locs ++ L) e1.symm (by rw [← e2]; exact X'.warmed.alike) hp hb k1 k2 k3 T' rfl X'
    exact ⟨t2, st t2 a1, b1⟩
  · obtain ⟨k1, k2, k3⟩ := vx_keep h0 e1 hS hAX hf hL hF
    obtain ⟨t2, a1, b1⟩ := kx E ce q u t T'.heap (locs ++ L) e1.symm (by rw [← e2]; exact X'.warmed.alike) hp hb k1 k2 k3 (by rw [e1]; exact hce) hcv hcl T' rfl X'
    exact ⟨t2, st.trans a1, b1⟩
theorem vx_callFi {S SX : Type} {post : Int32 → S → Prop} {px : SX → Prop} {B : S → State → Prop} {BX : String → SX → State → Prop} {AX : Nat → Prop} (hr : vx_Run5 p l e R s m args below meth c H locs cells slots mc ms (F0 m pc ls st0) rest (va_Qi post B A1 a) (vx_X px BX AX) free) (hS : va_S A0 H0 H locs) (hA : ∀ q, q < H.size → A1 q → A0 q) (hf : ∀ q, free q → A0 q) (hAX : ∀ q, q < H.size → AX q → A0 q)
    (kx : ∀ (E : String) (ce : Cell) (q9 : Addr) (u : SX) (t : State) (H1 : Heap) (locs1 : List Loc), t.heap = H1 → s.vm.Alike t.vm → px u → BX E u t → H.size ≤ H1.size → (∀ q : Nat, q < H.size → ¬ AX q → H1[q]? = H[q]?) → va_S A0 H0 H1 locs1 → H1[q9]? = some ce → ce.vm = .none → s.vm.findClass E = some ce.cls → vx_W p l e R s m args below meth c H1 locs1 (cells + mc) (slots + ms) Q (F0 m pc ls rest) q9)
    (kk : ∀ (r : Int32) (u : S) (t : State) (H1 : Heap) (locs1 : List Loc), t.heap = H1 → s.vm.Alike t.vm → post r u → B u t → H.size ≤ H1.size → (∀ q : Nat, q < H.size → ¬ A1 q → H1[q]? = H[q]?) → va_S A0 H0 H1 locs1 → W p l e R s m args below meth c H1 locs1 (cells + mc) (slots + ms) Q (F0 m (pc + 5) ls (.int r :: rest))) : W p l e R s m args below meth c H locs cells slots Q (F0 m pc ls st0) := by
  intro T hT X
  rcases hr T hT X with ⟨v, st₀, t, T', L, h0, X', hL, e1, e2, ⟨⟨r, u, hv, hp, hb⟩, hF⟩, st⟩ | ⟨q, st₀, t, T', L, E, ce, h0, X', hL, e1, e2, ⟨u, hp, hb, hF⟩, hce, hcv, hcl, st⟩
  · cases hv
    obtain ⟨k1, k2, k3⟩ := vx_keep h0 e1 hS hA hf hL hF
    obtain ⟨t2, a1, b1⟩ := kk r u t T'.heap (locs ++ L) e1.symm (by rw [← e2]; exact X'.warmed.alike) hp hb k1 k2 k3 T' rfl X'
    exact ⟨t2, st t2 a1, b1⟩
  · obtain ⟨k1, k2, k3⟩ := vx_keep h0 e1 hS hAX hf hL hF
    obtain ⟨t2, a1, b1⟩ := kx E ce q u t T'.heap (locs ++ L) e1.symm (by rw [← e2]; exact X'.warmed.alike) hp hb k1 k2 k3 (by rw [e1]; exact hce) hcv hcl T' rfl X'
    exact ⟨t2, st.trans a1, b1⟩
theorem vx_callFl {S SX : Type} {post : Int64 → S → Prop} {px : SX → Prop} {B : S → State → Prop} {BX : String → SX → State → Prop} {AX : Nat → Prop} (hr : vx_Run5 p l e R s m args below meth c H locs cells slots mc ms (F0 m pc ls st0) rest (va_Ql post B A1 a) (vx_X px BX AX) free) (hS : va_S A0 H0 H locs) (hA : ∀ q, q < H.size → A1 q → A0 q) (hf : ∀ q, free q → A0 q) (hAX : ∀ q, q < H.size → AX q → A0 q)
    (kx : ∀ (E : String) (ce : Cell) (q9 : Addr) (u : SX) (t : State) (H1 : Heap) (locs1 : List Loc), t.heap = H1 → s.vm.Alike t.vm → px u → BX E u t → H.size ≤ H1.size → (∀ q : Nat, q < H.size → ¬ AX q → H1[q]? = H[q]?) → va_S A0 H0 H1 locs1 → H1[q9]? = some ce → ce.vm = .none → s.vm.findClass E = some ce.cls → vx_W p l e R s m args below meth c H1 locs1 (cells + mc) (slots + ms) Q (F0 m pc ls rest) q9)
    (kk : ∀ (r : Int64) (u : S) (t : State) (H1 : Heap) (locs1 : List Loc), t.heap = H1 → s.vm.Alike t.vm → post r u → B u t → H.size ≤ H1.size → (∀ q : Nat, q < H.size → ¬ A1 q → H1[q]? = H[q]?) → va_S A0 H0 H1 locs1 → W p l e R s m args below meth c H1 locs1 (cells + mc) (slots + ms) Q (F0 m (pc + 5) ls (.long r :: rest))) : W p l e R s m args below meth c H locs cells slots Q (F0 m pc ls st0) := by
  intro T hT X
  rcases hr T hT X with ⟨v, st₀, t, T', L, h0, X', hL, e1, e2, ⟨⟨r, u, hv, hp, hb⟩, hF⟩, st⟩ | ⟨q, st₀, t, T', L, E, ce, h0, X', hL, e1, e2, ⟨u, hp, hb, hF⟩, hce, hcv, hcl, st⟩
  · cases hv
    obtain ⟨k1, k2, k3⟩ := vx_keep h0 e1 hS hA hf hL hF
    obtain ⟨t2, a1, b1⟩ := kk r u t T'.heap (locs ++ L) e1.symm (by rw [← e2]; exact X'.warmed.alike) hp hb k1 k2 k3 T' rfl X'
    exact ⟨t2, st t2 a1, b1⟩
  · obtain ⟨k1, k2, k3⟩ := vx_keep h0 e1 hS hAX hf hL hF
    obtain ⟨t2, a1, b1⟩ := kx E ce q u t T'.heap (locs ++ L) e1.symm (by rw [← e2]; exact X'.warmed.alike) hp hb k1 k2 k3 (by rw [e1]; exact hce) hcv hcl T' rfl X'
    exact ⟨t2, st.trans a1, b1⟩
theorem vx_callFf {S SX : Type} {post : UInt32 → S → Prop} {px : SX → Prop} {B : S → State → Prop} {BX : String → SX → State → Prop} {AX : Nat → Prop} (hr : vx_Run5 p l e R s m args below meth c H locs cells slots mc ms (F0 m pc ls st0) rest (va_Qf post B A1 a) (vx_X px BX AX) free) (hS : va_S A0 H0 H locs) (hA : ∀ q, q < H.size → A1 q → A0 q) (hf : ∀ q, free q → A0 q) (hAX : ∀ q, q < H.size → AX q → A0 q)
    (kx : ∀ (E : String) (ce : Cell) (q9 : Addr) (u : SX) (t : State) (H1 : Heap) (locs1 : List Loc), t.heap = H1 → s.vm.Alike t.vm → px u → BX E u t → H.size ≤ H1.size → (∀ q : Nat, q < H.size → ¬ AX q → H1[q]? = H[q]?) → va_S A0 H0 H1 locs1 → H1[q9]? = some ce → ce.vm = .none → s.vm.findClass E = some ce.cls → vx_W p l e R s m args below meth c H1 locs1 (cells + mc) (slots + ms) Q (F0 m pc ls rest) q9)
    (kk : ∀ (r : UInt32) (u : S) (t : State) (H1 : Heap) (locs1 : List Loc), t.heap = H1 → s.vm.Alike t.vm → post r u → B u t → H.size ≤ H1.size → (∀ q : Nat, q < H.size → ¬ A1 q → H1[q]? = H[q]?) → va_S A0 H0 H1 locs1 → W p l e R s m args below meth c H1 locs1 (cells + mc) (slots + ms) Q (F0 m (pc + 5) ls (.float r :: rest))) : W p l e R s m args below meth c H locs cells slots Q (F0 m pc ls st0) := by
  intro T hT X
  rcases hr T hT X with ⟨v, st₀, t, T', L, h0, X', hL, e1, e2, ⟨⟨r, u, hv, hp, hb⟩, hF⟩, st⟩ | ⟨q, st₀, t, T', L, E, ce, h0, X', hL, e1, e2, ⟨u, hp, hb, hF⟩, hce, hcv, hcl, st⟩
  · cases hv
    obtain ⟨k1, k2, k3⟩ := vx_keep h0 e1 hS hA hf hL hF
    obtain ⟨t2, a1, b1⟩ := kk r u t T'.heap (locs ++ L) e1.symm (by rw [← e2]; exact X'.warmed.alike) hp hb k1 k2 k3 T' rfl X'
    exact ⟨t2, st t2 a1, b1⟩
  · obtain ⟨k1, k2, k3⟩ := vx_keep h0 e1 hS hAX hf hL hF
    obtain ⟨t2, a1, b1⟩ := kx E ce q u t T'.heap (locs ++ L) e1.symm (by rw [← e2]; exact X'.warmed.alike) hp hb k1 k2 k3 (by rw [e1]; exact hce) hcv hcl T' rfl X'
    exact ⟨t2, st.trans a1, b1⟩
theorem vx_callFd {S SX : Type} {post : UInt64 → S → Prop} {px : SX → Prop} {B : S → State → Prop} {BX : String → SX → State → Prop} {AX : Nat → Prop} (hr : vx_Run5 p l e R s m args below meth c H locs cells slots mc ms (F0 m pc ls st0) rest (va_Qd post B A1 a) (vx_X px BX AX) free) (hS : va_S A0 H0 H locs) (hA : ∀ q, q < H.size → A1 q → A0 q) (hf : ∀ q, free q → A0 q) (hAX : ∀ q, q < H.size → AX q → A0 q)
    (kx : ∀ (E : String) (ce : Cell) (q9 : Addr) (u : SX) (t : State) (H1 : Heap) (locs1 : List Loc), t.heap = H1 → s.vm.Alike t.vm → px u → BX E u t → H.size ≤ H1.size → (∀ q : Nat, q < H.size → ¬ AX q → H1[q]? = H[q]?) → va_S A0 H0 H1 locs1 → H1[q9]? = some ce → ce.vm = .none → s.vm.findClass E = some ce.cls → vx_W p l e R s m args below meth c H1 locs1 (cells + mc) (slots + ms) Q (F0 m pc ls rest) q9)
    (kk : ∀ (r : UInt64) (u : S) (t : State) (H1 : Heap) (locs1 : List Loc), t.heap = H1 → s.vm.Alike t.vm → post r u → B u t → H.size ≤ H1.size → (∀ q : Nat, q < H.size → ¬ A1 q → H1[q]? = H[q]?) → va_S A0 H0 H1 locs1 → W p l e R s m args below meth c H1 locs1 (cells + mc) (slots + ms) Q (F0 m (pc + 5) ls (.double r :: rest))) : W p l e R s m args below meth c H locs cells slots Q (F0 m pc ls st0) := by
  intro T hT X
  rcases hr T hT X with ⟨v, st₀, t, T', L, h0, X', hL, e1, e2, ⟨⟨r, u, hv, hp, hb⟩, hF⟩, st⟩ | ⟨q, st₀, t, T', L, E, ce, h0, X', hL, e1, e2, ⟨u, hp, hb, hF⟩, hce, hcv, hcl, st⟩
  · cases hv
    obtain ⟨k1, k2, k3⟩ := vx_keep h0 e1 hS hA hf hL hF
    obtain ⟨t2, a1, b1⟩ := kk r u t T'.heap (locs ++ L) e1.symm (by rw [← e2]; exact X'.warmed.alike) hp hb k1 k2 k3 T' rfl X'
    exact ⟨t2, st t2 a1, b1⟩
  · obtain ⟨k1, k2, k3⟩ := vx_keep h0 e1 hS hAX hf hL hF
    obtain ⟨t2, a1, b1⟩ := kx E ce q u t T'.heap (locs ++ L) e1.symm (by rw [← e2]; exact X'.warmed.alike) hp hb k1 k2 k3 (by rw [e1]; exact hce) hcv hcl T' rfl X'
    exact ⟨t2, st.trans a1, b1⟩
end
/-! ===== END ===== -/
/-! ===== BEGIN by an interface, a method with a table of its own that may throw (follows va_callIFW, va_runFW) ===== -/
section
variable {p : Program} {l : Launch} {e : Env} {R : Room} {s : State} {m : MethodId} {args : Array Value} {below : List Frame} {meth : Method} {c : Code} {H : Heap} {locs : List Loc} {cells slots : Nat}
theorem vx_callIFW {T : State} (X : Stand p l e R s m args below meth c T locs cells slots) (hexec : p.tables.exec = Jvm.exec) {own C : String} {index count : Nat} {x y : MethodName} {bytes : ByteArray} {maxL : Nat} {ret : Option FieldType} {hh : List (Nat × Nat × Nat × Nat)}
    (hown : s.vm.findClass own = some m.cls) (hlink : (Cond.methodLink own index x).before args s = true) (hdecl : (Cond.declares x).before args s = true) (hface : (Cond.interfaceMethod x.cls x.cls x.name x.desc).before args s = true)
    (hsel : (Cond.selects C x y).before args s = true) (hinst : (Cond.instanceMethod y).before args s = true) (hpub : (Cond.publicMethod y).before args s = true) (hunh : (Cond.unhidden C x.name x.desc).before args s = true)
    (hcast : (Cond.castable C x.cls).before args s = true) (hcode : (Cond.codeWith y bytes maxL ret hh).before args s = true) (hx : x.cls ≠ "java/lang/invoke/MethodHandle" ∧ x.cls ≠ "java/lang/invoke/VarHandle")
    {W : Nat} {Pre : Pt → Array Value → Prop} {Post : Pt → Array Value → Option Value → Pt → Prop} {PostX : Pt → Array Value → Addr → Pt → Prop} (hK : vx_Back l R p e below s args y 5 W Pre Post PostX)
    {b : Addr} {cellB : Cell} {kB : Class} (hcell : T.heap[b]? = some cellB) (hobj : cellB.vm.isStatics = false) (hcls : s.vm.findClass C = some cellB.cls) (hkB : s.vm.classes[cellB.cls]? = some kB)
    {g : JFrame} (hg : g.method = m) (hsize : g.locals.size = c.maxLocals) {argsL rest : List Value} (hlen : ∀ sig, parseMethodDescriptor x.desc = some sig → argsL.length = sig.parameters.length)
    (hstack : g.stack = argsL.reverse ++ .ref b :: rest) (hW : 2 * g.monitorRoom + (rest.map fun v => v.category).sum ≤ W) (hdg : decode c.code g.pc = .ok (.invokeinterface index count, 5))
    (hpre : ∀ vm₁, s.WarmedH vm₁ → Pre ⟨T.setVm vm₁, locs, cells, slots⟩ (Value.ref b :: argsL).toArray) :
    (∃ (v : Option Value) (vm₁ : Vm) (B : Pt), s.WarmedH vm₁ ∧ Stand p l e R s m args below meth c B.U B.locs B.cells B.slots ∧ Post ⟨T.setVm vm₁, locs, cells, slots⟩ (Value.ref b :: argsL).toArray v B ∧
      ∀ target, Steps p.tables e below (B.U.setTop { g with pc := g.pc + 5, stack := v.toList ++ rest }) target → Steps p.tables e below (T.setTop g) target) ∨
    (∃ (q : Addr) (vm₁ : Vm) (B : Pt), s.WarmedH vm₁ ∧ Stand p l e R s m args below meth c B.U B.locs B.cells B.slots ∧ PostX ⟨T.setVm vm₁, locs, cells, slots⟩ (Value.ref b :: argsL).toArray q B ∧
      Steps p.tables e below (T.setTop g) ((B.U.setTop { g with stack := rest }).pushFrame (.throwing q))) := by
  obtain ⟨r0, r, hn, hrm, hstR, hsigR⟩ := Cond.declares_spec hdecl
  obtain ⟨cL, kL, r1, hcL, hkL, hiL, hfoundL, hn1⟩ := Cond.interfaceMethod_spec hface
  cases hn.symm.trans hn1
  have hr0cls : r0.cls = cL := Option.some.inj ((findClass_of_methodNamed hn).symm.trans hcL)
  obtain ⟨hnameR, hdescR⟩ := name_of_methodNamed hn hrm
  obtain ⟨mk, methM, hnamed, hmethM, -, habM⟩ := Cond.instanceMethod_spec hinst
  obtain ⟨c2, r2, m2, q1, q2, q3, q4, -⟩ := Cond.selects_spec hsel
  cases hcls.symm.trans q1
  cases hfoundL.symm.trans q2
  cases hnamed.symm.trans q3
  have hselP : selectMethod e.platform s.vm cellB.cls r0 = .method mk := by rw [Launch.admits_selectMethod X.admits]; exact q4
  have hpubM : hasFlag methM.accessFlags Acc.public_ = true := Cond.publicMethod_spec hnamed hmethM hpub
  have hway : ((cellB.cls :: s.vm.superclasses cellB.cls).any fun k => (declaredIn s.vm r.name r.desc k).any fun (_, z) => z.isPrivate || z.isStatic) = false := by
    rw [hnameR, hdescR]; exact Cond.unhidden_spec hcls hunh
  obtain ⟨c3, t3, w1, w2, w3⟩ := Cond.castable_spec hcast
  cases hcls.symm.trans w1
  cases hcL.symm.trans w2
  obtain ⟨vm₁, X₁, hstep₁⟩ := X.invokeinterface hexec hown hlink hn hrm hstR (by rw [hr0cls]; exact hkL) hiL hx (a := b) (cell := cellB) (kcell := kB) hcell
    (fun z h => by rw [h] at hobj; cases hobj) hkB (by rw [hr0cls]; exact w3) hselP hmethM hway hpubM habM (g := g) hg (argsL := argsL) (rest := rest) (hlen _ hsigR) hstack hdg
  rcases hK m meth c ⟨T.setVm vm₁, locs, cells, slots⟩ { g with stack := rest } (.invokeinterface index count) mk (Value.ref b :: argsL).toArray X₁ hg hsize hdg hW (X₁.named hnamed) (hpre vm₁ X₁.warmed) with ⟨v, B, X', hpost, hsteps⟩ | ⟨q, B, X', hpost, hsteps⟩
  · exact Or.inl ⟨v, vm₁, B, X₁.warmed, X', hpost, fun target h => hstep₁ _ fun acts => by rw [doInvoke_state]; exact hsteps.trans h⟩
  · exact Or.inr ⟨q, vm₁, B, X₁.warmed, X', hpost, hstep₁ _ fun acts => by rw [doInvoke_state]; exact hsteps⟩
theorem vx_runFW {x y : MethodName} {bytes cc : ByteArray} {maxL nL mc ms n index count : Nat} {ret : Option FieldType} {hh : List (Nat × Nat × Nat × Nat)} {ws : List Cond} {rm : Room} {Pc : Array Value → State → Prop} {Qc : Array Value → State → Outcome → State → Prop} {XC : String → State → State → Prop} {free : Addr → Prop} {Ts : List Cond} {own C : String} {cC : ClassId} {b : Addr} {As rest : List Value} {g : JFrame}
    (hat : ClassAt s C cC) (S : CallFix p m c cc nL s args Ts own) (hM : vx_Met l y ws rm Pc Qc XC mc ms free) (cw : va_CIW R s args own C index x y bytes maxL ret hh ws rm mc ms n) (hp : PreV s H C b Pc As)
    (hg : g.method = m) (hn : As.length = n) (hsize : g.locals.size = nL) (hstack : g.stack = As.reverse ++ .ref b :: rest) (hW : 2 * g.monitorRoom + (rest.map fun v => v.category).sum ≤ 8) (hdg : decode cc g.pc = .ok (.invokeinterface index count, 5)) (hf : cells + mc ≤ R.cells ∧ slots + ms ≤ R.slots) :
    vx_Run5 p l e R s m args below meth c H locs cells slots mc ms g rest (Qc (Value.ref b :: As).toArray) XC free := by
  obtain ⟨hrc, hrs, hfr, hlo, hws, hcw⟩ := cw.back
  have hini := cw.init
  have hK : vx_Back l R p e below s args y 5 8 (PreOf R mc ms Pc) (PostOf Qc mc ms free) (vx_Post XC mc ms free) := vx_backW (hh := hh) (bytes := bytes) (maxL := maxL) (ret := ret) hM hp.1 hrc hrs hfr hlo hws hcw (fun a' U hW => word_at hW (Or.inl (by first | rfl | simp [Cond.onTables, Cond.keeps, Cond.steady])) hini)
  obtain ⟨hx, hb, hml, ho, -⟩ := S
  obtain ⟨-, ⟨cellB, hcB, hoB, hclB⟩, hPc⟩ := hp
  obtain ⟨hfc, kB, hkB, -⟩ := hat
  cases hfc.symm.trans hclB
  intro T hT X
  rcases vx_callIFW X hx (C := C) (hh := hh) (bytes := bytes) (maxL := maxL) (ret := ret) ho cw.link cw.decl cw.face cw.sel cw.inst cw.pub cw.unh cw.cast cw.code cw.notMH hK (by rw [hT]; exact hcB) hoB hclB hkB hg (hsize.trans hml.symm) (argsL := As) (rest := rest) (fun sig h => hn.trans (cw.len sig h)) hstack hW (by rw [hb]; exact hdg)
    (fun vm₁ hW₁ => ⟨hf.1, hf.2, hPc (T.setVm vm₁) hT hW₁⟩) with ⟨v, vm₁, ⟨U', l2, c2, s2⟩, hW₁, X', ⟨g', mk, t, L, e1, e2, hq, h1, hL, h2, h3⟩, st⟩ | ⟨q, vm₁, ⟨U', l2, c2, s2⟩, hW₁, X', ⟨g', mk, t, L, E, ce, e1, e2, hq, hce, hcv, hcl, h1, hL, h2, h3⟩, st⟩
  · dsimp only [Pt.U, Pt.locs, Pt.cells, Pt.slots] at X' e1 e2 h1 h2 h3 st
    subst h1; subst h2; subst h3
    exact Or.inl ⟨v, (T.setVm vm₁).calling g' mk (Value.ref b :: As).toArray, t, U', L, hT, X', hL, e1, e2, hq, st⟩
  · dsimp only [Pt.U, Pt.locs, Pt.cells, Pt.slots] at X' e1 e2 h1 h2 h3 st hcl
    subst h1; subst h2; subst h3
    exact Or.inr ⟨q, (T.setVm vm₁).calling g' mk (Value.ref b :: As).toArray, t, U', L, E, ce, hT, X', hL, e1, e2, hq, hce, hcv, vx_cls hW₁ hcl, st⟩
end
/-! ===== END ===== -/
/-! ===== BEGIN .. of methods that hand back an object of the pool ===== -/
section
variable {p : Program} {l : Launch} {e : Env} {R : Room} {s : State} {m : MethodId} {args : Array Value} {below : List Frame} {meth : Method} {c : Code} {H : Heap} {locs : List Loc} {cells slots : Nat} {Q : State → Prop}
variable {mc ms : Nat} {free : Addr → Prop} {A0 A1 : Nat → Prop} {H0 : Heap} {a : Array Value} {pc : Nat} {ls : Array Slot} {st0 rest : List Value}
theorem vx_callq {S SX : Type} {post : Option Nat → S → Prop} {px : SX → Prop} {B : S → State → Prop} {BX : String → SX → State → Prop} {AX : Nat → Prop} (hr : vx_Run p l e R s m args below meth c H locs cells slots mc ms (F0 m pc ls st0) rest (va_Qq post B A1 a) (vx_X px BX AX) free) (hS : va_S A0 H0 H locs) (hA : ∀ q, q < H.size → A1 q → A0 q) (hf : ∀ q, free q → A0 q) (hAX : ∀ q, q < H.size → AX q → A0 q)
    (kx : ∀ (E : String) (ce : Cell) (q9 : Addr) (u : SX) (t : State) (H1 : Heap) (locs1 : List Loc), t.heap = H1 → s.vm.Alike t.vm → px u → BX E u t → H.size ≤ H1.size → (∀ q : Nat, q < H.size → ¬ AX q → H1[q]? = H[q]?) → va_S A0 H0 H1 locs1 → H1[q9]? = some ce → ce.vm = .none → s.vm.findClass E = some ce.cls → vx_W p l e R s m args below meth c H1 locs1 (cells + mc) (slots + ms) Q (F0 m pc ls rest) q9)
    (kk : ∀ (r : Option Nat) (u : S) (t : State) (H1 : Heap) (locs1 : List Loc), t.heap = H1 → s.vm.Alike t.vm → post r u → B u t → H.size ≤ H1.size → (∀ q : Nat, q < H.size → ¬ A1 q → H1[q]? = H[q]?) → va_S A0 H0 H1 locs1 → W p l e R s m args below meth c H1 locs1 (cells + mc) (slots + ms) Q (F0 m (pc + 3) ls (va_rf r :: rest))) : W p l e R s m args below meth c H locs cells slots Q (F0 m pc ls st0) := by
  intro T hT X
  rcases hr T hT X with ⟨v, st₀, t, T', L, h0, X', hL, e1, e2, ⟨⟨r, u, hv, hp, hb⟩, hF⟩, st⟩ | ⟨q, st₀, t, T', L, E, ce, h0, X', hL, e1, e2, ⟨u, hp, hb, hF⟩, hce, hcv, hcl, st⟩
  · cases hv
    obtain ⟨k1, k2, k3⟩ := vx_keep h0 e1 hS hA hf hL hF
    obtain ⟨t2, a1, b1⟩ := kk r u t T'.heap (locs ++ L) e1.symm (by rw [← e2]; exact X'.warmed.alike) hp hb k1 k2 k3 T' rfl X'
    exact ⟨t2, st t2 a1, b1⟩
  · obtain ⟨k1, k2, k3⟩ := vx_keep h0 e1 hS hAX hf hL hF
    obtain ⟨t2, a1, b1⟩ := kx E ce q u t T'.heap (locs ++ L) e1.symm (by rw [← e2]; exact X'.warmed.alike) hp hb k1 k2 k3 (by rw [e1]; exact hce) hcv hcl T' rfl X'
    exact ⟨t2, st.trans a1, b1⟩
end
/-! ===== END ===== -/
/-! ===== BEGIN .. a constant ===== -/
section
variable {p : Program} {l : Launch} {e : Env} {R : Room} {s : State} {m : MethodId} {args : Array Value} {below : List Frame} {meth : Method} {c : Code} {H : Heap} {locs : List Loc} {cells slots : Nat} {Q : State → Prop}
variable {mc ms : Nat} {free : Addr → Prop} {A0 A1 : Nat → Prop} {H0 : Heap} {a : Array Value} {pc : Nat} {ls : Array Slot} {st0 rest : List Value}
theorem vx_calle {ad : Nat → Nat} {S SX : Type} {post : Option Nat → S → Prop} {px : SX → Prop} {B : S → State → Prop} {BX : String → SX → State → Prop} {AX : Nat → Prop} (hr : vx_Run p l e R s m args below meth c H locs cells slots mc ms (F0 m pc ls st0) rest (va_Qe ad post B A1 a) (vx_X px BX AX) free) (hS : va_S A0 H0 H locs) (hA : ∀ q, q < H.size → A1 q → A0 q) (hf : ∀ q, free q → A0 q) (hAX : ∀ q, q < H.size → AX q → A0 q)
    (kx : ∀ (E : String) (ce : Cell) (q9 : Addr) (u : SX) (t : State) (H1 : Heap) (locs1 : List Loc), t.heap = H1 → s.vm.Alike t.vm → px u → BX E u t → H.size ≤ H1.size → (∀ q : Nat, q < H.size → ¬ AX q → H1[q]? = H[q]?) → va_S A0 H0 H1 locs1 → H1[q9]? = some ce → ce.vm = .none → s.vm.findClass E = some ce.cls → vx_W p l e R s m args below meth c H1 locs1 (cells + mc) (slots + ms) Q (F0 m pc ls rest) q9)
    (kk : ∀ (r : Option Nat) (u : S) (t : State) (H1 : Heap) (locs1 : List Loc), t.heap = H1 → s.vm.Alike t.vm → post r u → B u t → H.size ≤ H1.size → (∀ q : Nat, q < H.size → ¬ A1 q → H1[q]? = H[q]?) → va_S A0 H0 H1 locs1 → W p l e R s m args below meth c H1 locs1 (cells + mc) (slots + ms) Q (F0 m (pc + 3) ls (va_re ad r :: rest))) : W p l e R s m args below meth c H locs cells slots Q (F0 m pc ls st0) := by
  intro T hT X
  rcases hr T hT X with ⟨v, st₀, t, T', L, h0, X', hL, e1, e2, ⟨⟨r, u, hv, hp, hb⟩, hF⟩, st⟩ | ⟨q, st₀, t, T', L, E, ce, h0, X', hL, e1, e2, ⟨u, hp, hb, hF⟩, hce, hcv, hcl, st⟩
  · cases hv
    obtain ⟨k1, k2, k3⟩ := vx_keep h0 e1 hS hA hf hL hF
    obtain ⟨t2, a1, b1⟩ := kk r u t T'.heap (locs ++ L) e1.symm (by rw [← e2]; exact X'.warmed.alike) hp hb k1 k2 k3 T' rfl X'
    exact ⟨t2, st t2 a1, b1⟩
  · obtain ⟨k1, k2, k3⟩ := vx_keep h0 e1 hS hAX hf hL hF
    obtain ⟨t2, a1, b1⟩ := kx E ce q u t T'.heap (locs ++ L) e1.symm (by rw [← e2]; exact X'.warmed.alike) hp hb k1 k2 k3 (by rw [e1]; exact hce) hcv hcl T' rfl X'
    exact ⟨t2, st.trans a1, b1⟩
end
/-! ===== END ===== -/
/-! ===== BEGIN .. by an interface, an object ===== -/
section
variable {p : Program} {l : Launch} {e : Env} {R : Room} {s : State} {m : MethodId} {args : Array Value} {below : List Frame} {meth : Method} {c : Code} {H : Heap} {locs : List Loc} {cells slots : Nat} {Q : State → Prop}
variable {mc ms : Nat} {free : Addr → Prop} {A0 A1 : Nat → Prop} {H0 : Heap} {a : Array Value} {pc : Nat} {ls : Array Slot} {st0 rest : List Value}
theorem vx_callFq {S SX : Type} {post : Option Nat → S → Prop} {px : SX → Prop} {B : S → State → Prop} {BX : String → SX → State → Prop} {AX : Nat → Prop} (hr : vx_Run5 p l e R s m args below meth c H locs cells slots mc ms (F0 m pc ls st0) rest (va_Qq post B A1 a) (vx_X px BX AX) free) (hS : va_S A0 H0 H locs) (hA : ∀ q, q < H.size → A1 q → A0 q) (hf : ∀ q, free q → A0 q) (hAX : ∀ q, q < H.size → AX q → A0 q)
    (kx : ∀ (E : String) (ce : Cell) (q9 : Addr) (u : SX) (t : State) (H1 : Heap) (locs1 : List Loc), t.heap = H1 → s.vm.Alike t.vm → px u → BX E u t → H.size ≤ H1.size → (∀ q : Nat, q < H.size → ¬ AX q → H1[q]? = H[q]?) → va_S A0 H0 H1 locs1 → H1[q9]? = some ce → ce.vm = .none → s.vm.findClass E = some ce.cls → vx_W p l e R s m args below meth c H1 locs1 (cells + mc) (slots + ms) Q (F0 m pc ls rest) q9)
    (kk : ∀ (r : Option Nat) (u : S) (t : State) (H1 : Heap) (locs1 : List Loc), t.heap = H1 → s.vm.Alike t.vm → post r u → B u t → H.size ≤ H1.size → (∀ q : Nat, q < H.size → ¬ A1 q → H1[q]? = H[q]?) → va_S A0 H0 H1 locs1 → W p l e R s m args below meth c H1 locs1 (cells + mc) (slots + ms) Q (F0 m (pc + 5) ls (va_rf r :: rest))) : W p l e R s m args below meth c H locs cells slots Q (F0 m pc ls st0) := by
  intro T hT X
  rcases hr T hT X with ⟨v, st₀, t, T', L, h0, X', hL, e1, e2, ⟨⟨r, u, hv, hp, hb⟩, hF⟩, st⟩ | ⟨q, st₀, t, T', L, E, ce, h0, X', hL, e1, e2, ⟨u, hp, hb, hF⟩, hce, hcv, hcl, st⟩
  · cases hv
    obtain ⟨k1, k2, k3⟩ := vx_keep h0 e1 hS hA hf hL hF
    obtain ⟨t2, a1, b1⟩ := kk r u t T'.heap (locs ++ L) e1.symm (by rw [← e2]; exact X'.warmed.alike) hp hb k1 k2 k3 T' rfl X'
    exact ⟨t2, st t2 a1, b1⟩
  · obtain ⟨k1, k2, k3⟩ := vx_keep h0 e1 hS hAX hf hL hF
    obtain ⟨t2, a1, b1⟩ := kx E ce q u t T'.heap (locs ++ L) e1.symm (by rw [← e2]; exact X'.warmed.alike) hp hb k1 k2 k3 (by rw [e1]; exact hce) hcv hcl T' rfl X'
    exact ⟨t2, st.trans a1, b1⟩
end
/-! ===== END ===== -/
/-! ===== BEGIN .. by an interface, a constant ===== -/
section
variable {p : Program} {l : Launch} {e : Env} {R : Room} {s : State} {m : MethodId} {args : Array Value} {below : List Frame} {meth : Method} {c : Code} {H : Heap} {locs : List Loc} {cells slots : Nat} {Q : State → Prop}
variable {mc ms : Nat} {free : Addr → Prop} {A0 A1 : Nat → Prop} {H0 : Heap} {a : Array Value} {pc : Nat} {ls : Array Slot} {st0 rest : List Value}
theorem vx_callFe {ad : Nat → Nat} {S SX : Type} {post : Option Nat → S → Prop} {px : SX → Prop} {B : S → State → Prop} {BX : String → SX → State → Prop} {AX : Nat → Prop} (hr : vx_Run5 p l e R s m args below meth c H locs cells slots mc ms (F0 m pc ls st0) rest (va_Qe ad post B A1 a) (vx_X px BX AX) free) (hS : va_S A0 H0 H locs) (hA : ∀ q, q < H.size → A1 q → A0 q) (hf : ∀ q, free q → A0 q) (hAX : ∀ q, q < H.size → AX q → A0 q)
    (kx : ∀ (E : String) (ce : Cell) (q9 : Addr) (u : SX) (t : State) (H1 : Heap) (locs1 : List Loc), t.heap = H1 → s.vm.Alike t.vm → px u → BX E u t → H.size ≤ H1.size → (∀ q : Nat, q < H.size → ¬ AX q → H1[q]? = H[q]?) → va_S A0 H0 H1 locs1 → H1[q9]? = some ce → ce.vm = .none → s.vm.findClass E = some ce.cls → vx_W p l e R s m args below meth c H1 locs1 (cells + mc) (slots + ms) Q (F0 m pc ls rest) q9)
    (kk : ∀ (r : Option Nat) (u : S) (t : State) (H1 : Heap) (locs1 : List Loc), t.heap = H1 → s.vm.Alike t.vm → post r u → B u t → H.size ≤ H1.size → (∀ q : Nat, q < H.size → ¬ A1 q → H1[q]? = H[q]?) → va_S A0 H0 H1 locs1 → W p l e R s m args below meth c H1 locs1 (cells + mc) (slots + ms) Q (F0 m (pc + 5) ls (va_re ad r :: rest))) : W p l e R s m args below meth c H locs cells slots Q (F0 m pc ls st0) := by
  intro T hT X
  rcases hr T hT X with ⟨v, st₀, t, T', L, h0, X', hL, e1, e2, ⟨⟨r, u, hv, hp, hb⟩, hF⟩, st⟩ | ⟨q, st₀, t, T', L, E, ce, h0, X', hL, e1, e2, ⟨u, hp, hb, hF⟩, hce, hcv, hcl, st⟩
  · cases hv
    obtain ⟨k1, k2, k3⟩ := vx_keep h0 e1 hS hA hf hL hF
    obtain ⟨t2, a1, b1⟩ := kk r u t T'.heap (locs ++ L) e1.symm (by rw [← e2]; exact X'.warmed.alike) hp hb k1 k2 k3 T' rfl X'
    exact ⟨t2, st t2 a1, b1⟩
  · obtain ⟨k1, k2, k3⟩ := vx_keep h0 e1 hS hAX hf hL hF
    obtain ⟨t2, a1, b1⟩ := kx E ce q u t T'.heap (locs ++ L) e1.symm (by rw [← e2]; exact X'.warmed.alike) hp hb k1 k2 k3 (by rw [e1]; exact hce) hcv hcl T' rfl X'
    exact ⟨t2, st.trans a1, b1⟩
end
/-! ===== END ===== -/
/-! ===== BEGIN what the machine throws by itself: null at a field, at athrow ===== -/
section VXM2
variable {p : Program} {l : Launch} {e : Env} {R : Room} {s : State} {m : MethodId} {args : Array Value} {below : List Frame} {meth : Method} {c : Code} {H : Heap} {locs : List Loc} {cells slots : Nat}
variable {Q : State → Prop} {cc : ByteArray} {pc : Nat} {ls : Array Slot} {rest : List Value}
theorem vx_getfN {D cl tys} {own ref C : String} {T : u_T} {N ci index : Nat} {Ts : List Cond} (hexec : p.tables.exec = Jvm.exec) (hb : c.code = cc) (hts : ∀ w ∈ Ts, w.before args s = true) (hin : ∀ w ∈ u_ws C T N, w ∈ Ts) (hown : s.vm.findClass own = some m.cls) (hK : va_K D cl tys s) (hc : cl[ci]? = some (C, T, N)) (k : Nat) (hk : k < N) (hlink : (Cond.fieldLink own index ref (T k).2.1 (T k).2.2.1).before args s = true) (hsame : ∀ x, s.fieldFound? (T k).1 (T k).2.1 (T k).2.2.1 = some x → s.fieldFound? ref (T k).2.1 (T k).2.2.1 = some x) (hdg : decode cc pc = .ok (.getfield index, 3)) (kk : vx_NoteN p l e R s m args below meth c H locs cells slots Q (F0 m pc ls rest)) : W p l e R s m args below meth c H locs cells slots Q (F0 m pc ls (.null :: rest)) := by
  obtain ⟨hS, hfc, kC, hkC, -⟩ := hK.1 ci _ hc
  obtain ⟨cf, kf, fi, f, hi, -⟩ := hS k hk
  intro U hU X
  obtain ⟨vm', X1, st1⟩ := X.getfieldNull hexec hown hlink (hsame _ hi) (u_facts hfc hkC (u_lays hts hin hk) hi).1 (g := F0 m pc ls (.null :: rest)) rfl (rest := rest) rfl (by rw [hb]; exact hdg)
  obtain ⟨t, st, q⟩ := kk (U.setVm vm') hU X1
  exact ⟨t, st1 t st, q⟩
theorem vx_getfNN {D cl tys} {own ref C host : String} {T : u_T} {N ci index : Nat} {Ts : List Cond} (hexec : p.tables.exec = Jvm.exec) (hb : c.code = cc) (hts : ∀ w ∈ Ts, w.before args s = true) (hin : ∀ w ∈ u_ws C T N, w ∈ Ts) (hown : s.vm.findClass own = some m.cls) (hK : va_K D cl tys s) (hc : cl[ci]? = some (C, T, N)) (k : Nat) (hk : k < N) (hlink : (Cond.fieldLinkNest own index ref (T k).2.1 (T k).2.2.1 host).before args s = true) (hsame : ∀ x, s.fieldFound? (T k).1 (T k).2.1 (T k).2.2.1 = some x → s.fieldFound? ref (T k).2.1 (T k).2.2.1 = some x) (hdg : decode cc pc = .ok (.getfield index, 3)) (kk : vx_NoteN p l e R s m args below meth c H locs cells slots Q (F0 m pc ls rest)) : W p l e R s m args below meth c H locs cells slots Q (F0 m pc ls (.null :: rest)) := by
  obtain ⟨hS, hfc, kC, hkC, -⟩ := hK.1 ci _ hc
  obtain ⟨cf, kf, fi, f, hi, -⟩ := hS k hk
  intro U hU X
  obtain ⟨vm', X1, st1⟩ := X.getfieldNullNest hexec hown hlink (hsame _ hi) (u_facts hfc hkC (u_lays hts hin hk) hi).1 (g := F0 m pc ls (.null :: rest)) rfl (rest := rest) rfl (by rw [hb]; exact hdg)
  obtain ⟨t, st, q⟩ := kk (U.setVm vm') hU X1
  exact ⟨t, st1 t st, q⟩
theorem vx_putfN {D cl tys} {own ref C : String} {T : u_T} {N ci index : Nat} {Ts : List Cond} (hexec : p.tables.exec = Jvm.exec) (hb : c.code = cc) (hts : ∀ w ∈ Ts, w.before args s = true) (hin : ∀ w ∈ u_ws C T N, w ∈ Ts) (hown : s.vm.findClass own = some m.cls) (hK : va_K D cl tys s) (hc : cl[ci]? = some (C, T, N)) (k : Nat) (hk : k < N) (hlink : (Cond.fieldLink own index ref (T k).2.1 (T k).2.2.1).before args s = true) (hsame : ∀ x, s.fieldFound? (T k).1 (T k).2.1 (T k).2.2.1 = some x → s.fieldFound? ref (T k).2.1 (T k).2.2.1 = some x) (hfin : (T k).2.2.2 = false) {v : Value} (hdg : decode cc pc = .ok (.putfield index, 3)) (kk : vx_NoteN p l e R s m args below meth c H locs cells slots Q (F0 m pc ls rest)) : W p l e R s m args below meth c H locs cells slots Q (F0 m pc ls (v :: .null :: rest)) := by
  obtain ⟨hS, hfc, kC, hkC, -⟩ := hK.1 ci _ hc
  obtain ⟨cf, kf, fi, f, hi, -⟩ := hS k hk
  have hlay := hts _ (hin _ (u_in_lay hk))
  unfold u_lay at hlay
  rw [if_neg (by rw [hfin]; decide)] at hlay
  obtain ⟨c9, k9, cf9, kf9, fi9, f9, -, -, hi9, hst9, hnf9, -⟩ := Cond.lays_spec hlay
  cases hi.symm.trans hi9
  intro U hU X
  obtain ⟨vm', X1, st1⟩ := X.putfieldNull hexec hown hlink (hsame _ hi) hst9 hnf9 (g := F0 m pc ls (v :: .null :: rest)) rfl (v := v) (rest := rest) rfl (by rw [hb]; exact hdg)
  obtain ⟨t, st, q⟩ := kk (U.setVm vm') hU X1
  exact ⟨t, st1 t st, q⟩
theorem vx_putfNN {D cl tys} {own ref C host : String} {T : u_T} {N ci index : Nat} {Ts : List Cond} (hexec : p.tables.exec = Jvm.exec) (hb : c.code = cc) (hts : ∀ w ∈ Ts, w.before args s = true) (hin : ∀ w ∈ u_ws C T N, w ∈ Ts) (hown : s.vm.findClass own = some m.cls) (hK : va_K D cl tys s) (hc : cl[ci]? = some (C, T, N)) (k : Nat) (hk : k < N) (hlink : (Cond.fieldLinkNest own index ref (T k).2.1 (T k).2.2.1 host).before args s = true) (hsame : ∀ x, s.fieldFound? (T k).1 (T k).2.1 (T k).2.2.1 = some x → s.fieldFound? ref (T k).2.1 (T k).2.2.1 = some x) (hfin : (T k).2.2.2 = false) {v : Value} (hdg : decode cc pc = .ok (.putfield index, 3)) (kk : vx_NoteN p l e R s m args below meth c H locs cells slots Q (F0 m pc ls rest)) : W p l e R s m args below meth c H locs cells slots Q (F0 m pc ls (v :: .null :: rest)) := by
  obtain ⟨hS, hfc, kC, hkC, -⟩ := hK.1 ci _ hc
  obtain ⟨cf, kf, fi, f, hi, -⟩ := hS k hk
  have hlay := hts _ (hin _ (u_in_lay hk))
  unfold u_lay at hlay
  rw [if_neg (by rw [hfin]; decide)] at hlay
  obtain ⟨c9, k9, cf9, kf9, fi9, f9, -, -, hi9, hst9, hnf9, -⟩ := Cond.lays_spec hlay
  cases hi.symm.trans hi9
  intro U hU X
  obtain ⟨vm', X1, st1⟩ := X.putfieldNullNest hexec hown hlink (hsame _ hi) hst9 hnf9 (g := F0 m pc ls (v :: .null :: rest)) rfl (v := v) (rest := rest) rfl (by rw [hb]; exact hdg)
  obtain ⟨t, st, q⟩ := kk (U.setVm vm') hU X1
  exact ⟨t, st1 t st, q⟩
theorem vx_athrowN (hexec : p.tables.exec = Jvm.exec) (hb : c.code = cc) (hdg : decode cc pc = .ok (.athrow, 1)) (k : vx_NoteN p l e R s m args below meth c H locs cells slots Q (F0 m pc ls rest)) : W p l e R s m args below meth c H locs cells slots Q (F0 m pc ls (.null :: rest)) := by
  intro T hT X
  obtain ⟨t, st, q⟩ := k T hT X
  exact ⟨t, X.athrowNull hexec (g := F0 m pc ls (.null :: rest)) rfl (rest := rest) rfl (by rw [hb]; exact hdg) t st, q⟩
end VXM2
/-! ===== END ===== -/
end
section
def RX0 : String := "Schemabridge$Bytes"
def TX0 : u_T := fun k => match k with
  | 0 => ("Schemabridge$Bytes", "cells", "[B", true)
  | _ => ("Schemabridge$Bytes", "count", "I", false)
def tyX0 : Nat → FieldType := fun k => match k with
  | 0 => .array .byte
  | _ => .int
theorem nmX0 : ∀ a, a < 2 → ∀ b, b < 2 → a ≠ b → (TX0 a).2.1 ≠ (TX0 b).2.1 := by decide +kernel
theorem tyX0_ok : ∀ k, k < 2 → parseFieldDescriptor (TX0 k).2.2.1 = some (tyX0 k) := by decide +kernel
abbrev cX0_init : ByteArray := prog_2_method_1_code
def yX0_init : MethodName := ⟨RX0, "<init>", "()V"⟩
abbrev cX0_count : ByteArray := prog_2_method_2_code
def yX0_count : MethodName := ⟨RX0, "count", "()I"⟩
abbrev cX0_at : ByteArray := prog_2_method_3_code
def yX0_at : MethodName := ⟨RX0, "at", "(I)B"⟩
abbrev cX0_keepFirst : ByteArray := prog_2_method_4_code
def yX0_keepFirst : MethodName := ⟨RX0, "keepFirst", "(I)V"⟩
abbrev cX0_add : ByteArray := prog_2_method_5_code
def yX0_add : MethodName := ⟨RX0, "add", "(B)V"⟩
abbrev cX0_addRange : ByteArray := prog_2_method_6_code
def yX0_addRange : MethodName := ⟨RX0, "addRange", "(LSchemabridge$Bytes;II)V"⟩
abbrev cX0_replaceBy : ByteArray := prog_2_method_7_code
def yX0_replaceBy : MethodName := ⟨RX0, "replaceBy", "(LSchemabridge$Bytes;)V"⟩
abbrev cX0_addNumberField : ByteArray := prog_2_method_8_code
def yX0_addNumberField : MethodName := ⟨RX0, "addNumberField", "(III)V"⟩
abbrev cX0_addBytesHead : ByteArray := prog_2_method_9_code
def yX0_addBytesHead : MethodName := ⟨RX0, "addBytesHead", "(II)V"⟩
abbrev cX0_isSameAs : ByteArray := prog_2_method_10_code
def yX0_isSameAs : MethodName := ⟨RX0, "isSameAs", "(LSchemabridge$Bytes;)Z"⟩
abbrev cX0_hasSameRange : ByteArray := prog_2_method_11_code
def yX0_hasSameRange : MethodName := ⟨RX0, "hasSameRange", "(ILSchemabridge$Bytes;II)Z"⟩
abbrev cX0_addKey : ByteArray := prog_2_method_12_code
def yX0_addKey : MethodName := ⟨RX0, "addKey", "(II)V"⟩
abbrev cX0_addGroups : ByteArray := prog_2_method_13_code
def yX0_addGroups : MethodName := ⟨RX0, "addGroups", "(I)V"⟩
abbrev cX0_addFour : ByteArray := prog_2_method_14_code
def yX0_addFour : MethodName := ⟨RX0, "addFour", "(I)V"⟩
def RX1 : String := "Schemabridge$Canon"
def TX1 : u_T := fun k => match k with
  | 0 => ("Schemabridge$Canon", "fields", "LSchemabridge$Fields;", true)
  | 1 => ("Schemabridge$Canon", "order", "[I", true)
  | 2 => ("Schemabridge$Canon", "lasts", "[I", true)
  | _ => ("Schemabridge$Canon", "count", "I", false)
def tyX1 : Nat → FieldType := fun k => match k with
  | 0 => .object "Schemabridge$Fields"
  | 1 => .array .int
  | 2 => .array .int
  | _ => .int
theorem nmX1 : ∀ a, a < 4 → ∀ b, b < 4 → a ≠ b → (TX1 a).2.1 ≠ (TX1 b).2.1 := by decide +kernel
theorem tyX1_ok : ∀ k, k < 4 → parseFieldDescriptor (TX1 k).2.2.1 = some (tyX1 k) := by decide +kernel
abbrev cX1_init : ByteArray := prog_3_method_1_code
def yX1_init : MethodName := ⟨RX1, "<init>", "()V"⟩
abbrev cX1_choose : ByteArray := prog_3_method_2_code
def yX1_choose : MethodName := ⟨RX1, "choose", "(LSchemabridge$Bytes;LSchemabridge$Schema;)V"⟩
abbrev cX1_writeTo : ByteArray := prog_3_method_3_code
def yX1_writeTo : MethodName := ⟨RX1, "writeTo", "(LSchemabridge$Bytes;)V"⟩
abbrev cX1_hasSameFields : ByteArray := prog_3_method_4_code
def yX1_hasSameFields : MethodName := ⟨RX1, "hasSameFields", "(LSchemabridge$Canon;)Z"⟩
abbrev cX1_placeAt : ByteArray := prog_3_method_5_code
def yX1_placeAt : MethodName := ⟨RX1, "placeAt", "(I)I"⟩
abbrev cX1_noteLasts : ByteArray := prog_3_method_6_code
def yX1_noteLasts : MethodName := ⟨RX1, "noteLasts", "(LSchemabridge$Schema;)V"⟩
abbrev cX1_isToldBy : ByteArray := prog_3_method_7_code
def yX1_isToldBy : MethodName := ⟨RX1, "isToldBy", "(LSchemabridge$Schema;I)Z"⟩
abbrev cX1_insert : ByteArray := prog_3_method_8_code
def yX1_insert : MethodName := ⟨RX1, "insert", "(I)V"⟩
def RX2 : String := "Schemabridge$Fields"
def TX2 : u_T := fun k => match k with
  | 0 => ("Schemabridge$Fields", "tags", "[I", true)
  | 1 => ("Schemabridge$Fields", "types", "[I", true)
  | 2 => ("Schemabridge$Fields", "numbers", "[I", true)
  | 3 => ("Schemabridge$Fields", "ends", "[I", true)
  | 4 => ("Schemabridge$Fields", "count", "I", false)
  | 5 => ("Schemabridge$Fields", "source", "LSchemabridge$Bytes;", false)
  | 6 => ("Schemabridge$Fields", "next", "I", false)
  | 7 => ("Schemabridge$Fields", "limit", "I", false)
  | 8 => ("Schemabridge$Fields", "problem", "I", false)
  | _ => ("Schemabridge$Fields", "problemAt", "I", false)
def tyX2 : Nat → FieldType := fun k => match k with
  | 0 => .array .int
  | 1 => .array .int
  | 2 => .array .int
  | 3 => .array .int
  | 4 => .int
  | 5 => .object "Schemabridge$Bytes"
  | 6 => .int
  | 7 => .int
  | 8 => .int
  | _ => .int
theorem nmX2 : ∀ a, a < 10 → ∀ b, b < 10 → a ≠ b → (TX2 a).2.1 ≠ (TX2 b).2.1 := by decide +kernel
theorem tyX2_ok : ∀ k, k < 10 → parseFieldDescriptor (TX2 k).2.2.1 = some (tyX2 k) := by decide +kernel
abbrev cX2_init : ByteArray := prog_4_method_1_code
def yX2_init : MethodName := ⟨RX2, "<init>", "()V"⟩
abbrev cX2_scan : ByteArray := prog_4_method_2_code
def yX2_scan : MethodName := ⟨RX2, "scan", "(LSchemabridge$Bytes;II)V"⟩
abbrev cX2_count : ByteArray := prog_4_method_3_code
def yX2_count : MethodName := ⟨RX2, "count", "()I"⟩
abbrev cX2_problem : ByteArray := prog_4_method_4_code
def yX2_problem : MethodName := ⟨RX2, "problem", "()I"⟩
abbrev cX2_problemAt : ByteArray := prog_4_method_5_code
def yX2_problemAt : MethodName := ⟨RX2, "problemAt", "()I"⟩
abbrev cX2_tagAt : ByteArray := prog_4_method_6_code
def yX2_tagAt : MethodName := ⟨RX2, "tagAt", "(I)I"⟩
abbrev cX2_typeAt : ByteArray := prog_4_method_7_code
def yX2_typeAt : MethodName := ⟨RX2, "typeAt", "(I)I"⟩
abbrev cX2_numberAt : ByteArray := prog_4_method_8_code
def yX2_numberAt : MethodName := ⟨RX2, "numberAt", "(I)I"⟩
abbrev cX2_endAt : ByteArray := prog_4_method_9_code
def yX2_endAt : MethodName := ⟨RX2, "endAt", "(I)I"⟩
abbrev cX2_bytesAt : ByteArray := prog_4_method_10_code
def yX2_bytesAt : MethodName := ⟨RX2, "bytesAt", "(I)I"⟩
abbrev cX2_bytesBeginAt : ByteArray := prog_4_method_11_code
def yX2_bytesBeginAt : MethodName := ⟨RX2, "bytesBeginAt", "(I)I"⟩
abbrev cX2_isKnown : ByteArray := prog_4_method_12_code
def yX2_isKnown : MethodName := ⟨RX2, "isKnown", "(LSchemabridge$Schema;I)Z"⟩
abbrev cX2_lastKnown : ByteArray := prog_4_method_13_code
def yX2_lastKnown : MethodName := ⟨RX2, "lastKnown", "(LSchemabridge$Schema;I)I"⟩
abbrev cX2_writeTo : ByteArray := prog_4_method_14_code
def yX2_writeTo : MethodName := ⟨RX2, "writeTo", "(LSchemabridge$Bytes;I)V"⟩
abbrev cX2_isSameAt : ByteArray := prog_4_method_15_code
def yX2_isSameAt : MethodName := ⟨RX2, "isSameAt", "(ILSchemabridge$Fields;I)Z"⟩
abbrev cX2_isPlace : ByteArray := prog_4_method_16_code
def yX2_isPlace : MethodName := ⟨RX2, "isPlace", "(I)Z"⟩
abbrev cX2_scanField : ByteArray := prog_4_method_17_code
def yX2_scanField : MethodName := ⟨RX2, "scanField", "()V"⟩
abbrev cX2_keyProblem : ByteArray := prog_4_method_18_code
def yX2_keyProblem : MethodName := ⟨RX2, "keyProblem", "(II)I"⟩
abbrev cX2_scanGroups : ByteArray := prog_4_method_19_code
def yX2_scanGroups : MethodName := ⟨RX2, "scanGroups", "()I"⟩
abbrev cX2_scanFour : ByteArray := prog_4_method_20_code
def yX2_scanFour : MethodName := ⟨RX2, "scanFour", "()I"⟩
abbrev cX2_skipBytes : ByteArray := prog_4_method_21_code
def yX2_skipBytes : MethodName := ⟨RX2, "skipBytes", "(I)V"⟩
abbrev cX2_keepField : ByteArray := prog_4_method_22_code
def yX2_keepField : MethodName := ⟨RX2, "keepField", "(III)V"⟩
def RX3 : String := "Schemabridge$Message"
def TX3 : u_T := fun k => match k with
  | 0 => ("Schemabridge$Message", "schema", "LSchemabridge$Schema;", true)
  | _ => ("Schemabridge$Message", "row", "LSchemabridge$Bytes;", true)
def tyX3 : Nat → FieldType := fun k => match k with
  | 0 => .object "Schemabridge$Schema"
  | _ => .object "Schemabridge$Bytes"
theorem nmX3 : ∀ a, a < 2 → ∀ b, b < 2 → a ≠ b → (TX3 a).2.1 ≠ (TX3 b).2.1 := by decide +kernel
theorem tyX3_ok : ∀ k, k < 2 → parseFieldDescriptor (TX3 k).2.2.1 = some (tyX3 k) := by decide +kernel
abbrev cX3_init : ByteArray := prog_5_method_1_code
def yX3_init : MethodName := ⟨RX3, "<init>", "(LSchemabridge$Schema;)V"⟩
def RX4 : String := "Schemabridge$PairSearch"
def TX4 : u_T := fun k => match k with
  | 0 => ("Schemabridge$PairSearch", "olders", "[LSchemabridge$Schema;", true)
  | 1 => ("Schemabridge$PairSearch", "successors", "[LSchemabridge$Schema;", true)
  | 2 => ("Schemabridge$PairSearch", "isNoted", "[Z", true)
  | _ => ("Schemabridge$PairSearch", "count", "I", false)
def tyX4 : Nat → FieldType := fun k => match k with
  | 0 => .array (.object "Schemabridge$Schema")
  | 1 => .array (.object "Schemabridge$Schema")
  | 2 => .array .boolean
  | _ => .int
theorem nmX4 : ∀ a, a < 4 → ∀ b, b < 4 → a ≠ b → (TX4 a).2.1 ≠ (TX4 b).2.1 := by decide +kernel
theorem tyX4_ok : ∀ k, k < 4 → parseFieldDescriptor (TX4 k).2.2.1 = some (tyX4 k) := by decide +kernel
abbrev cX4_init : ByteArray := prog_6_method_1_code
def yX4_init : MethodName := ⟨RX4, "<init>", "()V"⟩
abbrev cX4_leastReason : ByteArray := prog_6_method_2_code
def yX4_leastReason : MethodName := ⟨RX4, "leastReason", "(LSchemabridge$Schema;LSchemabridge$Schema;)I"⟩
abbrev cX4_leadsToDifference : ByteArray := prog_6_method_3_code
def yX4_leadsToDifference : MethodName := ⟨RX4, "leadsToDifference", "(LSchemabridge$Schema;LSchemabridge$Schema;I)Z"⟩
abbrev cX4_differsSomewhere : ByteArray := prog_6_method_4_code
def yX4_differsSomewhere : MethodName := ⟨RX4, "differsSomewhere", "(LSchemabridge$Schema;LSchemabridge$Schema;)Z"⟩
abbrev cX4_notePartsAt : ByteArray := prog_6_method_5_code
def yX4_notePartsAt : MethodName := ⟨RX4, "notePartsAt", "(LSchemabridge$Schema;LSchemabridge$Schema;I)V"⟩
abbrev cX4_notePair : ByteArray := prog_6_method_6_code
def yX4_notePair : MethodName := ⟨RX4, "notePair", "(LSchemabridge$Schema;LSchemabridge$Schema;)V"⟩
abbrev cX4_forgetPairs : ByteArray := prog_6_method_7_code
def yX4_forgetPairs : MethodName := ⟨RX4, "forgetPairs", "()V"⟩
def RX5 : String := "Schemabridge$Schema"
def TX5 : u_T := fun k => match k with
  | 0 => ("Schemabridge$Schema", "number", "I", true)
  | 1 => ("Schemabridge$Schema", "kinds", "[I", true)
  | 2 => ("Schemabridge$Schema", "types", "[I", true)
  | 3 => ("Schemabridge$Schema", "defaults", "[I", true)
  | _ => ("Schemabridge$Schema", "parts", "[LSchemabridge$Schema;", true)
def tyX5 : Nat → FieldType := fun k => match k with
  | 0 => .int
  | 1 => .array .int
  | 2 => .array .int
  | 3 => .array .int
  | _ => .array (.object "Schemabridge$Schema")
theorem nmX5 : ∀ a, a < 5 → ∀ b, b < 5 → a ≠ b → (TX5 a).2.1 ≠ (TX5 b).2.1 := by decide +kernel
theorem tyX5_ok : ∀ k, k < 5 → parseFieldDescriptor (TX5 k).2.2.1 = some (tyX5 k) := by decide +kernel
abbrev cX5_init : ByteArray := prog_7_method_1_code
def yX5_init : MethodName := ⟨RX5, "<init>", "(I)V"⟩
abbrev cX5_kindAt : ByteArray := prog_7_method_2_code
def yX5_kindAt : MethodName := ⟨RX5, "kindAt", "(I)I"⟩
abbrev cX5_defaultAt : ByteArray := prog_7_method_3_code
def yX5_defaultAt : MethodName := ⟨RX5, "defaultAt", "(I)I"⟩
abbrev cX5_partOf : ByteArray := prog_7_method_4_code
def yX5_partOf : MethodName := ⟨RX5, "partOf", "(I)LSchemabridge$Schema;"⟩
abbrev cX5_giveKind : ByteArray := prog_7_method_5_code
def yX5_giveKind : MethodName := ⟨RX5, "giveKind", "(IILSchemabridge$Schema;)V"⟩
abbrev cX5_giveDefault : ByteArray := prog_7_method_6_code
def yX5_giveDefault : MethodName := ⟨RX5, "giveDefault", "(II)V"⟩
abbrev cX5_hasInt : ByteArray := prog_7_method_7_code
def yX5_hasInt : MethodName := ⟨RX5, "hasInt", "(I)Z"⟩
abbrev cX5_hasBytes : ByteArray := prog_7_method_8_code
def yX5_hasBytes : MethodName := ⟨RX5, "hasBytes", "(I)Z"⟩
abbrev cX5_typeAt : ByteArray := prog_7_method_9_code
def yX5_typeAt : MethodName := ⟨RX5, "typeAt", "(I)I"⟩
abbrev cX5_numberOf : ByteArray := prog_7_method_10_code
def yX5_numberOf : MethodName := ⟨RX5, "numberOf", "(II)I"⟩
abbrev cX5_valueOf : ByteArray := prog_7_method_11_code
def yX5_valueOf : MethodName := ⟨RX5, "valueOf", "(II)I"⟩
abbrev cX5_isDefault : ByteArray := prog_7_method_12_code
def yX5_isDefault : MethodName := ⟨RX5, "isDefault", "(II)Z"⟩
abbrev cX5_differsAt : ByteArray := prog_7_method_13_code
def yX5_differsAt : MethodName := ⟨RX5, "differsAt", "(LSchemabridge$Schema;I)Z"⟩
abbrev cX5_typeOfKind : ByteArray := prog_7_method_14_code
def yX5_typeOfKind : MethodName := ⟨RX5, "typeOfKind", "(I)I"⟩
abbrev cX5_isIntKind : ByteArray := prog_7_method_15_code
def yX5_isIntKind : MethodName := ⟨RX5, "isIntKind", "(I)Z"⟩
def RX6 : String := "Schemabridge"
def TX6 : u_T := fun k => match k with
  | 0 => ("Schemabridge", "schemas", "[LSchemabridge$Schema;", true)
  | 1 => ("Schemabridge", "messages", "[LSchemabridge$Message;", true)
  | 2 => ("Schemabridge", "tape", "LSchemabridge$Bytes;", true)
  | 3 => ("Schemabridge", "schemaCount", "I", false)
  | 4 => ("Schemabridge", "pairSearch", "LSchemabridge$PairSearch;", true)
  | 5 => ("Schemabridge", "scanned", "LSchemabridge$Fields;", true)
  | 6 => ("Schemabridge", "canon", "LSchemabridge$Canon;", true)
  | 7 => ("Schemabridge", "otherCanon", "LSchemabridge$Canon;", true)
  | 8 => ("Schemabridge", "canonical", "LSchemabridge$Bytes;", true)
  | 9 => ("Schemabridge", "otherCanonical", "LSchemabridge$Bytes;", true)
  | _ => ("Schemabridge", "draft", "LSchemabridge$Bytes;", true)
def tyX6 : Nat → FieldType := fun k => match k with
  | 0 => .array (.object "Schemabridge$Schema")
  | 1 => .array (.object "Schemabridge$Message")
  | 2 => .object "Schemabridge$Bytes"
  | 3 => .int
  | 4 => .object "Schemabridge$PairSearch"
  | 5 => .object "Schemabridge$Fields"
  | 6 => .object "Schemabridge$Canon"
  | 7 => .object "Schemabridge$Canon"
  | 8 => .object "Schemabridge$Bytes"
  | 9 => .object "Schemabridge$Bytes"
  | _ => .object "Schemabridge$Bytes"
theorem nmX6 : ∀ a, a < 11 → ∀ b, b < 11 → a ≠ b → (TX6 a).2.1 ≠ (TX6 b).2.1 := by decide +kernel
theorem tyX6_ok : ∀ k, k < 11 → parseFieldDescriptor (TX6 k).2.2.1 = some (tyX6 k) := by decide +kernel
abbrev cX6_init : ByteArray := prog_1_method_1_code
def yX6_init : MethodName := ⟨RX6, "<init>", "()V"⟩
abbrev cX6_addSchema : ByteArray := prog_1_method_2_code
def yX6_addSchema : MethodName := ⟨RX6, "addSchema", "()I"⟩
abbrev cX6_setKind : ByteArray := prog_1_method_3_code
def yX6_setKind : MethodName := ⟨RX6, "setKind", "(IIII)I"⟩
abbrev cX6_dropKind : ByteArray := prog_1_method_4_code
def yX6_dropKind : MethodName := ⟨RX6, "dropKind", "(II)I"⟩
abbrev cX6_setDefault : ByteArray := prog_1_method_5_code
def yX6_setDefault : MethodName := ⟨RX6, "setDefault", "(III)I"⟩
abbrev cX6_kindOf : ByteArray := prog_1_method_6_code
def yX6_kindOf : MethodName := ⟨RX6, "kindOf", "(II)I"⟩
abbrev cX6_conflict : ByteArray := prog_1_method_7_code
def yX6_conflict : MethodName := ⟨RX6, "conflict", "(II)I"⟩
abbrev cX6_create : ByteArray := prog_1_method_8_code
def yX6_create : MethodName := ⟨RX6, "create", "(I)I"⟩
abbrev cX6_copy : ByteArray := prog_1_method_9_code
def yX6_copy : MethodName := ⟨RX6, "copy", "(II)I"⟩
abbrev cX6_discard : ByteArray := prog_1_method_10_code
def yX6_discard : MethodName := ⟨RX6, "discard", "(I)I"⟩
abbrev cX6_set : ByteArray := prog_1_method_11_code
def yX6_set : MethodName := ⟨RX6, "set", "(III)V"⟩
abbrev cX6_append : ByteArray := prog_1_method_12_code
def yX6_append : MethodName := ⟨RX6, "append", "(IIB)I"⟩
abbrev cX6_setPart : ByteArray := prog_1_method_13_code
def yX6_setPart : MethodName := ⟨RX6, "setPart", "(III)I"⟩
abbrev cX6_clear : ByteArray := prog_1_method_14_code
def yX6_clear : MethodName := ⟨RX6, "clear", "(II)I"⟩
abbrev cX6_schemaOf : ByteArray := prog_1_method_15_code
def yX6_schemaOf : MethodName := ⟨RX6, "schemaOf", "(I)I"⟩
abbrev cX6_has : ByteArray := prog_1_method_16_code
def yX6_has : MethodName := ⟨RX6, "has", "(II)Z"⟩
abbrev cX6_get : ByteArray := prog_1_method_17_code
def yX6_get : MethodName := ⟨RX6, "get", "(II)I"⟩
abbrev cX6_byteOf : ByteArray := prog_1_method_18_code
def yX6_byteOf : MethodName := ⟨RX6, "byteOf", "(III)B"⟩
abbrev cX6_open : ByteArray := prog_1_method_19_code
def yX6_open : MethodName := ⟨RX6, "open", "(II)I"⟩
abbrev cX6_unknowns : ByteArray := prog_1_method_20_code
def yX6_unknowns : MethodName := ⟨RX6, "unknowns", "(I)I"⟩
abbrev cX6_unknownTag : ByteArray := prog_1_method_21_code
def yX6_unknownTag : MethodName := ⟨RX6, "unknownTag", "(II)I"⟩
abbrev cX6_weight : ByteArray := prog_1_method_22_code
def yX6_weight : MethodName := ⟨RX6, "weight", "(I)I"⟩
abbrev cX6_areSame : ByteArray := prog_1_method_23_code
def yX6_areSame : MethodName := ⟨RX6, "areSame", "(II)Z"⟩
abbrev cX6_areSameByBytes : ByteArray := prog_1_method_24_code
def yX6_areSameByBytes : MethodName := ⟨RX6, "areSameByBytes", "(II)Z"⟩
abbrev cX6_write : ByteArray := prog_1_method_25_code
def yX6_write : MethodName := ⟨RX6, "write", "(I)I"⟩
abbrev cX6_put : ByteArray := prog_1_method_26_code
def yX6_put : MethodName := ⟨RX6, "put", "(B)I"⟩
abbrev cX6_cut : ByteArray := prog_1_method_27_code
def yX6_cut : MethodName := ⟨RX6, "cut", "(I)I"⟩
abbrev cX6_length : ByteArray := prog_1_method_28_code
def yX6_length : MethodName := ⟨RX6, "length", "()I"⟩
abbrev cX6_byteAt : ByteArray := prog_1_method_29_code
def yX6_byteAt : MethodName := ⟨RX6, "byteAt", "(I)B"⟩
abbrev cX6_fault : ByteArray := prog_1_method_30_code
def yX6_fault : MethodName := ⟨RX6, "fault", "()I"⟩
abbrev cX6_faultAt : ByteArray := prog_1_method_31_code
def yX6_faultAt : MethodName := ⟨RX6, "faultAt", "()I"⟩
abbrev cX6_read : ByteArray := prog_1_method_32_code
def yX6_read : MethodName := ⟨RX6, "read", "(I)I"⟩
abbrev cX6_isCanonical : ByteArray := prog_1_method_33_code
def yX6_isCanonical : MethodName := ⟨RX6, "isCanonical", "(I)Z"⟩
abbrev cX6_schemaAt : ByteArray := prog_1_method_34_code
def yX6_schemaAt : MethodName := ⟨RX6, "schemaAt", "(I)LSchemabridge$Schema;"⟩
abbrev cX6_messageAt : ByteArray := prog_1_method_35_code
def yX6_messageAt : MethodName := ⟨RX6, "messageAt", "(I)LSchemabridge$Message;"⟩
abbrev cX6_isTag : ByteArray := prog_1_method_36_code
def yX6_isTag : MethodName := ⟨RX6, "isTag", "(I)Z"⟩
abbrev cX6_checkTag : ByteArray := prog_1_method_37_code
def yX6_checkTag : MethodName := ⟨RX6, "checkTag", "(I)V"⟩
abbrev cX6_checkHasInt : ByteArray := prog_1_method_38_code
def yX6_checkHasInt : MethodName := ⟨RX6, "checkHasInt", "(LSchemabridge$Schema;I)V"⟩
abbrev cX6_checkHasBytes : ByteArray := prog_1_method_39_code
def yX6_checkHasBytes : MethodName := ⟨RX6, "checkHasBytes", "(LSchemabridge$Schema;I)V"⟩
abbrev cX6_partAt : ByteArray := prog_1_method_40_code
def yX6_partAt : MethodName := ⟨RX6, "partAt", "(LSchemabridge$Schema;I)LSchemabridge$Schema;"⟩
abbrev cX6_lastKnownOrThrow : ByteArray := prog_1_method_41_code
def yX6_lastKnownOrThrow : MethodName := ⟨RX6, "lastKnownOrThrow", "(LSchemabridge$Fields;LSchemabridge$Schema;I)I"⟩
abbrev cX6_fieldsOf : ByteArray := prog_1_method_42_code
def yX6_fieldsOf : MethodName := ⟨RX6, "fieldsOf", "(LSchemabridge$Message;)LSchemabridge$Fields;"⟩
abbrev cX6_fieldsOfTape : ByteArray := prog_1_method_43_code
def yX6_fieldsOfTape : MethodName := ⟨RX6, "fieldsOfTape", "()LSchemabridge$Fields;"⟩
abbrev cX6_fieldsIn : ByteArray := prog_1_method_44_code
def yX6_fieldsIn : MethodName := ⟨RX6, "fieldsIn", "(LSchemabridge$Bytes;II)LSchemabridge$Fields;"⟩
abbrev cX6_chooseBoth : ByteArray := prog_1_method_45_code
def yX6_chooseBoth : MethodName := ⟨RX6, "chooseBoth", "(LSchemabridge$Message;LSchemabridge$Message;)V"⟩
abbrev cX6_messageOf : ByteArray := prog_1_method_46_code
def yX6_messageOf : MethodName := ⟨RX6, "messageOf", "(LSchemabridge$Fields;LSchemabridge$Schema;)LSchemabridge$Message;"⟩
abbrev cX6_addMessage : ByteArray := prog_1_method_47_code
def yX6_addMessage : MethodName := ⟨RX6, "addMessage", "(LSchemabridge$Message;)I"⟩
abbrev cX6_removeMessage : ByteArray := prog_1_method_48_code
def yX6_removeMessage : MethodName := ⟨RX6, "removeMessage", "(I)V"⟩
abbrev cX6_draftWithoutKnown : ByteArray := prog_1_method_49_code
def yX6_draftWithoutKnown : MethodName := ⟨RX6, "draftWithoutKnown", "(LSchemabridge$Fields;LSchemabridge$Schema;I)V"⟩
abbrev cX6_takeDraft : ByteArray := prog_1_method_50_code
def yX6_takeDraft : MethodName := ⟨RX6, "takeDraft", "(LSchemabridge$Message;)V"⟩
def RX7 : String := "SchemabridgeModel"
def TX7 : u_T := fun k => match k with
  | _ => ("", "", "", false)
def tyX7 : Nat → FieldType := fun k => match k with
  | _ => .int
theorem nmX7 : ∀ a, a < 0 → ∀ b, b < 0 → a ≠ b → (TX7 a).2.1 ≠ (TX7 b).2.1 := by decide +kernel
theorem tyX7_ok : ∀ k, k < 0 → parseFieldDescriptor (TX7 k).2.2.1 = some (tyX7 k) := by decide +kernel
def RJx145de : String := "java/io/Serializable"
def RJ0 : String := "java/lang/String"
def RJ7 : String := "java/util/Arrays"
abbrev cJ7_fill_53178 : ByteArray := prog_18_method_103_code
def yJ7_fill_53178 : MethodName := ⟨RJ7, "fill", "([II)V"⟩
def RL : String := "SchemabridgeLaw"
abbrev cL_cell : ByteArray := method_2_code
def yL_cell : MethodName := ⟨RL, "cell", "([II)I"⟩
abbrev cL_low : ByteArray := method_3_code
def yL_low : MethodName := ⟨RL, "low", "(II)I"⟩
abbrev cL_setKind : ByteArray := method_4_code
def yL_setKind : MethodName := ⟨RL, "setKind", "(LSchemabridge;IIII)I"⟩
abbrev cL_setDefault : ByteArray := method_5_code
def yL_setDefault : MethodName := ⟨RL, "setDefault", "(LSchemabridge;III)I"⟩
abbrev cL_create : ByteArray := method_6_code
def yL_create : MethodName := ⟨RL, "create", "(LSchemabridge;I)I"⟩
abbrev cL_set : ByteArray := method_7_code
def yL_set : MethodName := ⟨RL, "set", "(LSchemabridge;III)I"⟩
abbrev cL_append : ByteArray := method_8_code
def yL_append : MethodName := ⟨RL, "append", "(LSchemabridge;III)I"⟩
abbrev cL_setPart : ByteArray := method_9_code
def yL_setPart : MethodName := ⟨RL, "setPart", "(LSchemabridge;III)I"⟩
abbrev cL_open : ByteArray := method_10_code
def yL_open : MethodName := ⟨RL, "open", "(LSchemabridge;II)I"⟩
abbrev cL_byteOf : ByteArray := method_11_code
def yL_byteOf : MethodName := ⟨RL, "byteOf", "(LSchemabridge;III)I"⟩
abbrev cL_read : ByteArray := method_12_code
def yL_read : MethodName := ⟨RL, "read", "(LSchemabridge;I)I"⟩
abbrev cL_hasNone : ByteArray := method_13_code
def yL_hasNone : MethodName := ⟨RL, "hasNone", "(LSchemabridge;II)Z"⟩
abbrev cL_weight : ByteArray := method_14_code
def yL_weight : MethodName := ⟨RL, "weight", "(LSchemabridge;I)I"⟩
abbrev cL_unknownTag : ByteArray := method_15_code
def yL_unknownTag : MethodName := ⟨RL, "unknownTag", "(LSchemabridge;II)I"⟩
abbrev cL_cut : ByteArray := method_16_code
def yL_cut : MethodName := ⟨RL, "cut", "(LSchemabridge;I)I"⟩
abbrev cL_tagAt : ByteArray := method_17_code
def yL_tagAt : MethodName := ⟨RL, "tagAt", "(I)I"⟩
abbrev cL_kind : ByteArray := method_18_code
def yL_kind : MethodName := ⟨RL, "kind", "([III)I"⟩
abbrev cL_place : ByteArray := method_19_code
def yL_place : MethodName := ⟨RL, "place", "(II)I"⟩
abbrev cL_isKnown : ByteArray := method_20_code
def yL_isKnown : MethodName := ⟨RL, "isKnown", "([III)Z"⟩
abbrev cL_stands : ByteArray := method_21_code
def yL_stands : MethodName := ⟨RL, "stands", "(II)I"⟩
abbrev cL_groups : ByteArray := method_22_code
def yL_groups : MethodName := ⟨RL, "groups", "(I)I"⟩
abbrev cL_size : ByteArray := method_23_code
def yL_size : MethodName := ⟨RL, "size", "([I[II)I"⟩
abbrev cL_byteAt : ByteArray := method_24_code
def yL_byteAt : MethodName := ⟨RL, "byteAt", "([J[JII)I"⟩
abbrev cL_weightOf : ByteArray := method_25_code
def yL_weightOf : MethodName := ⟨RL, "weightOf", "([I[I[II)I"⟩
abbrev cL_last : ByteArray := method_26_code
def yL_last : MethodName := ⟨RL, "last", "([I[I[I[III)I"⟩
abbrev cL_isCanonical : ByteArray := method_27_code
def yL_isCanonical : MethodName := ⟨RL, "isCanonical", "([I[I[I[I[I[III)Z"⟩
abbrev cL_writes : ByteArray := method_28_code
def yL_writes : MethodName := ⟨RL, "writes", "([I[II)V"⟩
abbrev cL_writeGroups : ByteArray := method_29_code
def yL_writeGroups : MethodName := ⟨RL, "writeGroups", "([I[II)V"⟩
abbrev cL_writeField : ByteArray := method_30_code
def yL_writeField : MethodName := ⟨RL, "writeField", "([I[I[J[J[I[II)V"⟩
abbrev cL_canonical : ByteArray := method_31_code
def yL_canonical : MethodName := ⟨RL, "canonical", "([I[I[I[I[I[I[J[J[I[II)I"⟩
abbrev cL_remove : ByteArray := method_32_code
def yL_remove : MethodName := ⟨RL, "remove", "([I[I[I[J[JII)V"⟩
abbrev cL_others : ByteArray := method_33_code
def yL_others : MethodName := ⟨RL, "others", "([I[I[I[III)I"⟩
abbrev cL_weightOfOthers : ByteArray := method_34_code
def yL_weightOfOthers : MethodName := ⟨RL, "weightOfOthers", "([I[I[I[I[III)I"⟩
abbrev cL_replace : ByteArray := method_35_code
def yL_replace : MethodName := ⟨RL, "replace", "([I[I[I[I[I[J[JIIIJJ)V"⟩
abbrev cL_number : ByteArray := method_36_code
def yL_number : MethodName := ⟨RL, "number", "([I[II)V"⟩
abbrev cL_reads : ByteArray := method_37_code
def yL_reads : MethodName := ⟨RL, "reads", "([II[I[I[I[J[J[II)I"⟩
abbrev cL_free : ByteArray := method_38_code
def yL_free : MethodName := ⟨RL, "free", "([I)I"⟩
abbrev cL_schemas : ByteArray := method_39_code
def yL_schemas : MethodName := ⟨RL, "schemas", "(LSchemabridge;II[I[I[I)Z"⟩
abbrev cL_keeps : ByteArray := method_40_code
def yL_keeps : MethodName := ⟨RL, "keeps", "(LSchemabridge;II[I[I[I[I[I[I[J[J[I[I[I)Z"⟩
abbrev cL_isReason : ByteArray := method_41_code
def yL_isReason : MethodName := ⟨RL, "isReason", "([I[IIII)Z"⟩
abbrev cL_isMessage : ByteArray := method_42_code
def yL_isMessage : MethodName := ⟨RL, "isMessage", "(LSchemabridge;I[I[I[I[I[I[I[J[J)Z"⟩
abbrev cL_isTold : ByteArray := method_43_code
def yL_isTold : MethodName := ⟨RL, "isTold", "(LSchemabridge;I[I[I[I[I[I[I[J[J[I[I[I[I)Z"⟩
abbrev cL_law : ByteArray := code
def yL_law : MethodName := ⟨RL, "law", "([I)Z"⟩
abbrev vwCl : List vw_C := [(RX0, TX0, 2), (RX1, TX1, 4), (RX2, TX2, 10), (RX3, TX3, 2), (RX4, TX4, 4), (RX5, TX5, 5), (RX6, TX6, 11)]
end
section
/-! the mini layer: cells by numbers of their own (0: the script; 1, 2 ..: what the law has made, in this order); a heap is (the next free number, the cells, the script's length and values) -/
abbrev mw_H : Type := Nat × (Nat → Option va_E) × (Nat × (Nat → Int32))
def mw_g (h : mw_H) (a : Nat) : Option va_E := h.2.1 a
def mw_s (h : mw_H) (a : Nat) (x : va_E) : mw_H := (h.1, va_up h.2.1 a (some x), h.2.2)
def mw_n (h : mw_H) (x : va_E) : mw_H := (h.1 + 1, va_up h.2.1 h.1 (some x), h.2.2)
theorem mw_gs {h : mw_H} {a : Nat} {x : va_E} : mw_g (mw_s h a x) a = some x := va_up_self _ _ _
theorem mw_go {h : mw_H} {a b : Nat} {x : va_E} (n : b ≠ a) : mw_g (mw_s h a x) b = mw_g h b := va_up_ne _ _ n
theorem mw_gn {h : mw_H} {x : va_E} : mw_g (mw_n h x) h.1 = some x := va_up_self _ _ _
theorem mw_gm {h : mw_H} {b : Nat} {x : va_E} (n : b ≠ h.1) : mw_g (mw_n h x) b = mw_g h b := va_up_ne _ _ n
/-- the machine's side: the start, the script's address, its length and values, the tables' numbers of classes and slots, of array classes -/
abbrev mw_G : Type := State × Nat × (Nat × (Nat → Int32)) × va_G × (Nat → ClassId)
def mw_b0 (G : mw_G) : Nat := G.1.heap.size
def mw_ad (G : mw_G) : Nat → Nat := fun a => match a with
  | 0 => G.2.1
  | k + 1 => mw_b0 G + k
def mw_V (G : mw_G) : Value → Value := fun v => match v with
  | .ref a => .ref (mw_ad G a)
  | w => w
def mw_A (G : mw_G) : vp_A → vp_A := fun x => match x with
  | (n, .inr (.inr (.inr (.inr g)))) => (n, .inr (.inr (.inr (.inr (fun j => (g j).map (mw_ad G))))))
  | z => z
def mw_E (G : mw_G) : va_E → va_E := fun x => match x with
  | .inl (t, z) => .inl (G.2.2.2.2 t, mw_A G z)
  | .inr (ci, fs) => .inr (ci, fs.map (mw_V G))
def mw_T0 : u_T := fun _ => ("", "", "", false)
abbrev mw_cl : List vw_C := [(RX0, TX0, 2), (RX1, TX1, 4), (RX2, TX2, 10), (RX3, TX3, 2), (RX4, TX4, 4), (RX5, TX5, 5), (RX6, TX6, 11), (RX0, TX0, 2), ("java/lang/IllegalStateException", mw_T0, 0), ("java/lang/IllegalArgumentException", mw_T0, 0), ("java/lang/IndexOutOfBoundsException", mw_T0, 0), ("java/util/NoSuchElementException", mw_T0, 0)]
def mw_tys (G : mw_G) : List (ClassId × FieldType) := [(G.2.2.2.2 0, .int), (G.2.2.2.2 1, .byte), (G.2.2.2.2 2, .boolean), (G.2.2.2.2 3, .long), (G.2.2.2.2 4, .object RX5), (G.2.2.2.2 5, .object RX3)]
def mw_I (G : mw_G) : Nat → Prop := fun q => mw_b0 G ≤ q
/-- a mini heap is the machine's heap, seen from the start -/
def mw_R (G : mw_G) (h : mw_H) (H : Heap) : Prop := 0 < h.1 ∧ H.size + 1 = mw_b0 G + h.1 ∧ h.2.2 = G.2.2.1 ∧ ∀ (a : Nat) (x : va_E), mw_g h a = some x → 0 < a ∧ a < h.1 ∧ va_at G.2.2.2.1 mw_cl (mw_ad G a, mw_E G x) H
def mw_strs : List (String × Nat × String) := [("Schemabridge", 67, "there are 6 schemas"), ("Schemabridge", 84, "there is no such kind"), ("Schemabridge", 99, "the kind of the tag has no default"), ("Schemabridge", 199, "the other message has not the schema of the part"), ("Schemabridge", 233, "there is no such byte"), ("Schemabridge", 247, "the bytes of the part have a fault"), ("Schemabridge", 259, "there is no such unknown field"), ("Schemabridge", 274, "the tape has 120 bytes"), ("Schemabridge", 276, "the tape has no such length"), ("Schemabridge", 285, "the tape has a fault"), ("Schemabridge", 287, "there is no such schema"), ("Schemabridge", 289, "there is no such message"), ("Schemabridge", 294, "tag is not 1 to 31"), ("Schemabridge", 296, "the tag has not PLAIN, SIGNED or FOUR"), ("Schemabridge", 301, "the tag has not TEXT or PART"), ("Schemabridge", 306, "the tag has not PART"), ("Schemabridge", 308, "the message has nothing for the tag"), ("Schemabridge", 313, "there are 12 messages"), ("Schemabridge", 315, "the weight would be above 120")]
def mw_ncs : List (String × String) := [("java/lang/IllegalArgumentException", "java/lang/IllegalStateException"), ("java/lang/IllegalArgumentException", "java/lang/IndexOutOfBoundsException"), ("java/lang/IllegalArgumentException", "java/util/NoSuchElementException"), ("java/lang/IllegalStateException", "java/lang/IllegalArgumentException"), ("java/lang/IllegalStateException", "java/lang/IndexOutOfBoundsException"), ("java/lang/IllegalStateException", "java/util/NoSuchElementException"), ("java/lang/IndexOutOfBoundsException", "java/lang/IllegalArgumentException"), ("java/lang/IndexOutOfBoundsException", "java/lang/IllegalStateException"), ("java/lang/IndexOutOfBoundsException", "java/util/NoSuchElementException"), ("java/util/NoSuchElementException", "java/lang/IllegalArgumentException"), ("java/util/NoSuchElementException", "java/lang/IllegalStateException"), ("java/util/NoSuchElementException", "java/lang/IndexOutOfBoundsException")]
/-- what is given of the start -/
def mw_K0 (G : mw_G) : Prop := (∀ w ∈ lw_tbl, w.before #[Value.ref G.2.1] G.1 = true) ∧ va_K G.2.2.2.1 mw_cl (mw_tys G) G.1 ∧ va_X G.2.1 G.2.2.1.1 G.2.2.1.2 G.1 G.1.heap ∧ G.2.1 < mw_b0 G ∧
  vx_Zq Bundle.tN "UNASSIGNED_STACK" Bundle.steD (mw_I G) G.1 G.1.heap ∧ vx_Zq Bundle.tN "SUPPRESSED_SENTINEL" Bundle.listD (mw_I G) G.1 G.1.heap ∧
  (∀ q ∈ mw_strs, ∃ sa : Nat, vk_R q.1 q.2.1 q.2.2 sa G.1) ∧ (∀ q ∈ mw_ncs, va_Nc q.1 q.2 G.1)
/-- .. and of every later state -/
def mw_K (G : mw_G) (s : State) : Prop := mw_K0 G ∧ G.1.WarmedH s.vm ∧ mw_b0 G ≤ s.heap.size ∧ ∀ q : Nat, q < mw_b0 G → s.heap[q]? = G.1.heap[q]?
theorem mw_ad_inj {G : mw_G} {a b : Nat} (ha : 0 < a) (hb : 0 < b) (e : mw_ad G a = mw_ad G b) : a = b := by
  obtain ⟨a, rfl⟩ : ∃ k, a = k + 1 := ⟨a - 1, by omega⟩
  obtain ⟨b, rfl⟩ : ∃ k, b = k + 1 := ⟨b - 1, by omega⟩
  have e : mw_b0 G + a = mw_b0 G + b := e
  omega
theorem mw_ad_pos {G : mw_G} {a : Nat} (ha : 0 < a) : mw_ad G a = mw_b0 G + (a - 1) := by
  obtain ⟨a, rfl⟩ : ∃ k, a = k + 1 := ⟨a - 1, by omega⟩
  rfl
theorem mw_ad_inj2 {G : mw_G} (hb : G.2.1 < mw_b0 G) {a b : Nat} (e : mw_ad G a = mw_ad G b) : a = b := by
  cases a with
  | zero =>
    cases b with
    | zero => rfl
    | succ b =>
      have e : G.2.1 = mw_b0 G + b := e
      omega
  | succ a =>
    cases b with
    | zero =>
      have e : mw_b0 G + a = G.2.1 := e
      omega
    | succ b =>
      have e : mw_b0 G + a = mw_b0 G + b := e
      omega
theorem mw_R_set {G : mw_G} {h : mw_H} {H H1 : Heap} {a : Nat} {x x0 : va_E} (hR : mw_R G h H) (h0 : mw_g h a = some x0) (he : va_at G.2.2.2.1 mw_cl (mw_ad G a, mw_E G x) H1) (hz : H1.size = H.size) (oq : ∀ q : Nat, q ≠ mw_ad G a → H1[q]? = H[q]?) : mw_R G (mw_s h a x) H1 := by
  obtain ⟨p1, p2, p3, p4⟩ := hR
  obtain ⟨q1, q2, -⟩ := p4 a x0 h0
  refine ⟨p1, by rw [hz]; exact p2, p3, fun b x' hb => ?_⟩
  by_cases e : b = a
  · subst e
    rw [mw_gs] at hb
    cases hb
    exact ⟨q1, q2, he⟩
  · rw [mw_go e] at hb
    obtain ⟨r1, r2, r3⟩ := p4 b x' hb
    exact ⟨r1, r2, r3.kept (oq _ (fun z => e (mw_ad_inj r1 q1 z)))⟩
theorem mw_R_next {G : mw_G} {h : mw_H} {H : Heap} (hR : mw_R G h H) : mw_ad G h.1 = H.size := by
  obtain ⟨p1, p2, -⟩ := hR
  rw [mw_ad_pos p1]
  omega
theorem mw_R_new {G : mw_G} {h : mw_H} {H H1 : Heap} {x : va_E} (hR : mw_R G h H) (he : va_at G.2.2.2.1 mw_cl (H.size, mw_E G x) H1) (hz : H1.size = H.size + 1) (oq : ∀ q : Nat, q < H.size → H1[q]? = H[q]?) : mw_R G (mw_n h x) H1 := by
  have hn := mw_R_next hR
  obtain ⟨p1, p2, p3, p4⟩ := hR
  refine ⟨Nat.succ_pos _, by show H1.size + 1 = mw_b0 G + (h.1 + 1); omega, p3, fun b x' hb => ?_⟩
  by_cases e : b = h.1
  · subst e
    rw [mw_gn] at hb
    cases hb
    exact ⟨p1, Nat.lt_succ_self _, by rw [hn]; exact he⟩
  · rw [mw_gm e] at hb
    obtain ⟨r1, r2, r3⟩ := p4 b x' hb
    exact ⟨r1, Nat.lt_succ_of_lt r2, r3.kept (oq _ r3.lt)⟩
theorem mw_R_in {G : mw_G} {h : mw_H} {H : Heap} (hR : mw_R G h H) {a : Nat} {x : va_E} (h0 : mw_g h a = some x) : mw_I G (mw_ad G a) := by
  obtain ⟨q1, -, -⟩ := hR.2.2.2 a x h0
  show mw_b0 G ≤ mw_ad G a
  rw [mw_ad_pos q1]
  omega
/-- which words stay true -/
def mw_ok (w : Cond) : Bool := w.onTables && w.keepsCast
theorem mw_word {G : mw_G} {s : State} {args : Array Value} (hK : mw_K G s) {w : Cond} (hw : w ∈ lw_tbl) (hg : goodWord w = true) : w.before args s = true := word_at hK.2.1 (good_of_word hg) (hK.1.1 w hw)
theorem mw_wordC {G : mw_G} {s : State} {args : Array Value} (hK : mw_K G s) {w : Cond} (hw : w ∈ lw_tbl) (hg : mw_ok w = true) : w.before args s = true := by
  simp only [mw_ok, Bool.and_eq_true] at hg
  have h1 := Cond.before_shiftedCast (State.Shifted.of_warmed hK.2.1) w hg.2 (hK.1.1 w hw)
  exact va_tabs (u := G.1.setVm s.vm) hg.1 rfl h1
theorem mw_know {G : mw_G} {s : State} (hK : mw_K G s) : va_K G.2.2.2.1 mw_cl (mw_tys G) s := va_K.moved hK.2.1.alike hK.1.2.1
theorem mw_X0 {G : mw_G} {s : State} (hK : mw_K G s) : va_X G.2.1 G.2.2.1.1 G.2.2.1.2 s s.heap := by
  have h1 := va_X.moved hK.2.1.alike hK.1.2.2.1
  exact h1.kept (hK.2.2.2 _ hK.1.2.2.2.1)
theorem mw_Zq {G : mw_G} {s : State} (hK : mw_K G s) {C n d : String} (hz : vx_Zq C n d (mw_I G) G.1 G.1.heap) : vx_Zq C n d (mw_I G) s s.heap := by
  have h1 := vx_Zq.moved hK.2.1.alike hz
  exact h1.kept (fun a ha _ => hK.2.2.2 a ha)
/-- a method: name, code, its places, what it answers, its table -/
abbrev mw_M : Type := MethodName × ByteArray × Nat × Option FieldType × List (Nat × Nat × Nat × Nat)
def mw_C (G : mw_G) (y : mw_M) (d mc msl : Nat) (p : Program) (l : Launch) (R : Room) (s : State) (m : MethodId) (meth : Method) (c : Code) : Prop :=
  p.tables.exec = Jvm.exec ∧ c.code = y.2.1 ∧ meth.sig.returnType = y.2.2.2.1 ∧ c.maxLocals = y.2.2.1 ∧ s.vm.findClass y.1.cls = some m.cls ∧ meth.locks = false ∧ l.stackTraces = false ∧ c.exceptionTable.toList = tableOf y.2.2.2.2 ∧ meth.name = y.1.name ∧ d ≤ R.frames ∧ 40 * d ≤ R.locals ∧ mc ≤ R.cells ∧ msl ≤ R.slots ∧ mw_K G s
/-- a value of two words tells something only while nothing is known of the place behind it -/
def mw_lk (ls : List (Option Value)) (i : Nat) (v : Value) : Bool := v.category == 1 || (match ls[i + 1]? with | some none => true | _ => false)
def mw_L (G : mw_G) (n : Nat) (ls : List (Option Value)) (lsA : Array Slot) : Prop := lsA.size = n ∧ lv_wf lsA ∧ ∀ (i : Nat) (v : Value), ls[i]? = some (some v) → mw_lk ls i v = true → lsA[i]? = some (.val (mw_V G v))
abbrev mw_P : Type := Option Value ⊕ String → mw_H → Prop
def mw_Q (G : mw_G) (Po : mw_P) : Array Value → State → Outcome → State → Prop := fun _ st oc t => (∃ (v : Option Value) (h' : mw_H), oc = .returned (v.map (mw_V G)) ∧ Po (.inl v) h' ∧ mw_R G h' t.heap) ∧ va_F (mw_I G) st t
def mw_X (G : mw_G) (Po : mw_P) : String → State → State → Prop := fun E st t => (∃ h' : mw_H, Po (.inr E) h' ∧ mw_R G h' t.heap) ∧ va_F (mw_I G) st t
/-- THE JUDGEMENT: from here the method comes to an end that Po allows; kc cells and ks slots may still be made, d levels of calls are left -/
def mw_W (y : mw_M) (d kc ks pc : Nat) (ls : List (Option Value)) (st : List Value) (h : mw_H) (Po : mw_P) : Prop :=
  ∀ (G : mw_G) (p : Program) (l : Launch) (e : Env) (R : Room) (s : State) (m : MethodId) (args : Array Value) (below : List Frame) (meth : Method) (c : Code) (mc msl : Nat) (H : Heap) (locs : List Loc) (cells slots : Nat) (lsA : Array Slot),
    mw_C G y d mc msl p l R s m meth c → cells + kc ≤ mc → slots + ks ≤ msl → mw_R G h H → va_S (mw_I G) s.heap H locs → mw_L G y.2.2.1 ls lsA →
    W p l e R s m args below meth c H locs cells slots (vx_MQ below (mw_Q G Po) (mw_X G Po) args s mc msl (mw_I G)) (F0 m pc lsA (st.map (mw_V G)))
/-- .. with an exception of class E thrown over it -/
def mw_T (y : mw_M) (d kc ks pc : Nat) (ls : List (Option Value)) (st : List Value) (h : mw_H) (E : String) (Po : mw_P) : Prop :=
  ∀ (G : mw_G) (p : Program) (l : Launch) (e : Env) (R : Room) (s : State) (m : MethodId) (args : Array Value) (below : List Frame) (meth : Method) (c : Code) (mc msl : Nat) (H : Heap) (locs : List Loc) (cells slots : Nat) (lsA : Array Slot) (q : Nat) (ce : Cell),
    mw_C G y d mc msl p l R s m meth c → cells + kc ≤ mc → slots + ks ≤ msl → mw_R G h H → va_S (mw_I G) s.heap H locs → mw_L G y.2.2.1 ls lsA → H[q]? = some ce → ce.vm = .none → s.vm.findClass E = some ce.cls →
    vx_W p l e R s m args below meth c H locs cells slots (vx_MQ below (mw_Q G Po) (mw_X G Po) args s mc msl (mw_I G)) (F0 m pc lsA (st.map (mw_V G))) q
section MWR
variable {y y' : mw_M} {d kc ks pc : Nat} {ls : List (Option Value)} {st rest : List Value} {h : mw_H} {Po : mw_P}
theorem mw_wf (k : (∀ (a : Nat) (x : va_E), mw_g h a = some x → 0 < a ∧ a < h.1) → mw_W y d kc ks pc ls st h Po) : mw_W y d kc ks pc ls st h Po := by
  intro G p l e R s m args below meth c mc msl H locs cells slots lsA C hc hs hR hS hL
  exact k (fun a x hx => ⟨(hR.2.2.2 a x hx).1, (hR.2.2.2 a x hx).2.1⟩) G p l e R s m args below meth c mc msl H locs cells slots lsA C hc hs hR hS hL
theorem mw_less {kc' ks' : Nat} (h1 : kc' ≤ kc) (h2 : ks' ≤ ks) (k : mw_W y d kc' ks' pc ls st h Po) : mw_W y d kc ks pc ls st h Po := by
  intro G p l e R s m args below meth c mc msl H locs cells slots lsA C hc hs hR hS hL
  exact k G p l e R s m args below meth c mc msl H locs cells slots lsA C (by omega) (by omega) hR hS hL
theorem mw_post {Po' : mw_P} (hp : ∀ r h', Po' r h' → Po r h') (k : mw_W y d kc ks pc ls st h Po') : mw_W y d kc ks pc ls st h Po := by
  intro G p l e R s m args below meth c mc msl H locs cells slots lsA C hc hs hR hS hL T hT X
  obtain ⟨t, a1, oc, b1, b2, b3⟩ := k G p l e R s m args below meth c mc msl H locs cells slots lsA C hc hs hR hS hL T hT X
  refine ⟨t, a1, oc, b1, b2, ?_⟩
  rcases b3 with ⟨⟨⟨v, h', e1, e2, e3⟩, e4⟩, e5⟩ | ⟨q, e1, E, ce, L, ⟨⟨h', e2, e3⟩, e4⟩, e5⟩
  · exact Or.inl ⟨⟨⟨v, h', e1, hp _ _ e2, e3⟩, e4⟩, e5⟩
  · exact Or.inr ⟨q, e1, E, ce, L, ⟨⟨h', hp _ _ e2, e3⟩, e4⟩, e5⟩
theorem mw_iconst {n : Int} {v : Int32} (dg : decode y.2.1 pc = .ok (.iconst n, 1)) (hv : Int32.ofInt n = v) (k : mw_W y d kc ks (pc + 1) ls (.int v :: st) h Po) : mw_W y d kc ks (pc) ls (st) h Po := by
  intro G p l e R s m args below meth c mc msl H locs cells slots lsA C hc hs hR hS hL
  obtain ⟨hx, hb, hr, hml, hown, hlk, htr, htab, hnm, hRf, hRl, hRc, hRs, hK⟩ := id C
  exact lv_iconst hx hb dg hv (k G p l e R s m args below meth c mc msl H locs cells slots lsA C hc hs hR hS hL)
theorem mw_bipush {n : Int} {v : Int32} (dg : decode y.2.1 pc = .ok (.bipush n, 2)) (hv : (Int8.ofInt n).toInt32 = v) (k : mw_W y d kc ks (pc + 2) ls (.int v :: st) h Po) : mw_W y d kc ks (pc) ls (st) h Po := by
  intro G p l e R s m args below meth c mc msl H locs cells slots lsA C hc hs hR hS hL
  obtain ⟨hx, hb, hr, hml, hown, hlk, htr, htab, hnm, hRf, hRl, hRc, hRs, hK⟩ := id C
  exact lv_bipush hx hb dg hv (k G p l e R s m args below meth c mc msl H locs cells slots lsA C hc hs hR hS hL)
theorem mw_sipush {n : Int} {v : Int32} (dg : decode y.2.1 pc = .ok (.sipush n, 3)) (hv : (Int16.ofInt n).toInt32 = v) (k : mw_W y d kc ks (pc + 3) ls (.int v :: st) h Po) : mw_W y d kc ks (pc) ls (st) h Po := by
  intro G p l e R s m args below meth c mc msl H locs cells slots lsA C hc hs hR hS hL
  obtain ⟨hx, hb, hr, hml, hown, hlk, htr, htab, hnm, hRf, hRl, hRc, hRs, hK⟩ := id C
  exact lv_sipush hx hb dg hv (k G p l e R s m args below meth c mc msl H locs cells slots lsA C hc hs hR hS hL)
theorem mw_lconst {n : Fin 2} {v : Int64} (dg : decode y.2.1 pc = .ok (.lconst n, 1)) (hv : Int64.ofNat (n : Nat) = v) (k : mw_W y d kc ks (pc + 1) ls (.long v :: st) h Po) : mw_W y d kc ks (pc) ls (st) h Po := by
  intro G p l e R s m args below meth c mc msl H locs cells slots lsA C hc hs hR hS hL
  obtain ⟨hx, hb, hr, hml, hown, hlk, htr, htab, hnm, hRf, hRl, hRc, hRs, hK⟩ := id C
  exact lv_lconst hx hb dg hv (k G p l e R s m args below meth c mc msl H locs cells slots lsA C hc hs hR hS hL)
theorem mw_null (dg : decode y.2.1 pc = .ok (.aconst_null, 1)) (k : mw_W y d kc ks (pc + 1) ls (.null :: st) h Po) : mw_W y d kc ks (pc) ls (st) h Po := by
  intro G p l e R s m args below meth c mc msl H locs cells slots lsA C hc hs hR hS hL
  obtain ⟨hx, hb, hr, hml, hown, hlk, htr, htab, hnm, hRf, hRl, hRc, hRs, hK⟩ := id C
  exact lv_null hx hb dg (k G p l e R s m args below meth c mc msl H locs cells slots lsA C hc hs hR hS hL)
theorem mw_iload_n {j : Fin 4} {i : Nat} {x : Int32} (dg : decode y.2.1 pc = .ok (.iload_n j, 1)) (hj : (j : Nat) = i) (hi : ls[i]? = some (some (.int x))) (k : mw_W y d kc ks (pc + 1) ls (.int x :: st) h Po) : mw_W y d kc ks (pc) ls (st) h Po := by
  intro G p l e R s m args below meth c mc msl H locs cells slots lsA C hc hs hR hS hL
  obtain ⟨hx, hb, hr, hml, hown, hlk, htr, htab, hnm, hRf, hRl, hRc, hRs, hK⟩ := id C
  exact lv_iload_n hx hb dg hj (hL.2.2 _ _ hi rfl) (k G p l e R s m args below meth c mc msl H locs cells slots lsA C hc hs hR hS hL)
theorem mw_iload {i : Nat} {x : Int32} (dg : decode y.2.1 pc = .ok (.iload i, 2)) (hi : ls[i]? = some (some (.int x))) (k : mw_W y d kc ks (pc + 2) ls (.int x :: st) h Po) : mw_W y d kc ks (pc) ls (st) h Po := by
  intro G p l e R s m args below meth c mc msl H locs cells slots lsA C hc hs hR hS hL
  obtain ⟨hx, hb, hr, hml, hown, hlk, htr, htab, hnm, hRf, hRl, hRc, hRs, hK⟩ := id C
  exact lv_iload hx hb dg (hL.2.2 _ _ hi rfl) (k G p l e R s m args below meth c mc msl H locs cells slots lsA C hc hs hR hS hL)
theorem mw_aload_n {j : Fin 4} {i x : Nat} (dg : decode y.2.1 pc = .ok (.aload_n j, 1)) (hj : (j : Nat) = i) (hi : ls[i]? = some (some (.ref x))) (k : mw_W y d kc ks (pc + 1) ls (.ref x :: st) h Po) : mw_W y d kc ks (pc) ls (st) h Po := by
  intro G p l e R s m args below meth c mc msl H locs cells slots lsA C hc hs hR hS hL
  obtain ⟨hx, hb, hr, hml, hown, hlk, htr, htab, hnm, hRf, hRl, hRc, hRs, hK⟩ := id C
  exact lv_aload_n hx hb dg hj (hL.2.2 _ _ hi rfl) (k G p l e R s m args below meth c mc msl H locs cells slots lsA C hc hs hR hS hL)
theorem mw_aload {i x : Nat} (dg : decode y.2.1 pc = .ok (.aload i, 2)) (hi : ls[i]? = some (some (.ref x))) (k : mw_W y d kc ks (pc + 2) ls (.ref x :: st) h Po) : mw_W y d kc ks (pc) ls (st) h Po := by
  intro G p l e R s m args below meth c mc msl H locs cells slots lsA C hc hs hR hS hL
  obtain ⟨hx, hb, hr, hml, hown, hlk, htr, htab, hnm, hRf, hRl, hRc, hRs, hK⟩ := id C
  exact lv_aload hx hb dg (hL.2.2 _ _ hi rfl) (k G p l e R s m args below meth c mc msl H locs cells slots lsA C hc hs hR hS hL)
theorem mw_aload_nN {j : Fin 4} {i : Nat} (dg : decode y.2.1 pc = .ok (.aload_n j, 1)) (hj : (j : Nat) = i) (hi : ls[i]? = some (some .null)) (k : mw_W y d kc ks (pc + 1) ls (.null :: st) h Po) : mw_W y d kc ks (pc) ls (st) h Po := by
  intro G p l e R s m args below meth c mc msl H locs cells slots lsA C hc hs hR hS hL
  obtain ⟨hx, hb, hr, hml, hown, hlk, htr, htab, hnm, hRf, hRl, hRc, hRs, hK⟩ := id C
  exact lv_aload_nN hx hb dg hj (hL.2.2 _ _ hi rfl) (k G p l e R s m args below meth c mc msl H locs cells slots lsA C hc hs hR hS hL)
theorem mw_aloadN {i : Nat} (dg : decode y.2.1 pc = .ok (.aload i, 2)) (hi : ls[i]? = some (some .null)) (k : mw_W y d kc ks (pc + 2) ls (.null :: st) h Po) : mw_W y d kc ks (pc) ls (st) h Po := by
  intro G p l e R s m args below meth c mc msl H locs cells slots lsA C hc hs hR hS hL
  obtain ⟨hx, hb, hr, hml, hown, hlk, htr, htab, hnm, hRf, hRl, hRc, hRs, hK⟩ := id C
  exact lv_aloadN hx hb dg (hL.2.2 _ _ hi rfl) (k G p l e R s m args below meth c mc msl H locs cells slots lsA C hc hs hR hS hL)
def mw_al (G : mw_G) (ls : List (Option Value)) : List (Nat × Value) := (List.range ls.length).filterMap (fun i => (ls[i]?.join).bind (fun v => if mw_lk ls i v = true then some (i, mw_V G v) else none))
theorem mw_al_mem {G : mw_G} {ls : List (Option Value)} {i : Nat} {v : Value} (hi : ls[i]? = some (some v)) (hk : mw_lk ls i v = true) : (i, mw_V G v) ∈ mw_al G ls := by
  unfold mw_al
  rw [List.mem_filterMap]
  refine ⟨i, List.mem_range.mpr (List.getElem?_eq_some_iff.mp hi).1, ?_⟩
  rw [hi]
  show (if mw_lk ls i v = true then some (i, mw_V G v) else none) = _
  rw [if_pos hk]
theorem mw_al_has {G : mw_G} {n : Nat} {ls : List (Option Value)} {lsA : Array Slot} (hL : mw_L G n ls lsA) : lv_has lsA n (mw_al G ls) := by
  refine ⟨hL.1, hL.2.1, fun q hq => ?_⟩
  unfold mw_al at hq
  rw [List.mem_filterMap] at hq
  obtain ⟨i, -, hi⟩ := hq
  cases hv : ls[i]? with
  | none => rw [hv] at hi; cases hi
  | some w =>
    rw [hv] at hi
    cases w with
    | none => cases hi
    | some v =>
      have hi : (if mw_lk ls i v = true then some (i, mw_V G v) else none) = some q := hi
      by_cases hk : mw_lk ls i v = true
      · rw [if_pos hk] at hi
        cases hi
        exact hL.2.2 i v hv hk
      · rw [if_neg hk] at hi
        cases hi
theorem mw_cat {G : mw_G} (v : Value) : (mw_V G v).category = v.category := by cases v <;> rfl
theorem mw_cat12 (v : Value) : v.category = 1 ∨ v.category = 2 := by cases v <;> first | exact Or.inl rfl | exact Or.inr rfl
theorem mw_lk_1 {ls : List (Option Value)} {i : Nat} {v : Value} (h : v.category = 1) : mw_lk ls i v = true := by
  unfold mw_lk
  rw [h]
  rfl
theorem mw_lk_2 {ls : List (Option Value)} {i : Nat} {v : Value} (h : ls[i + 1]? = some none) : mw_lk ls i v = true := by
  unfold mw_lk
  rw [h, Bool.or_true]
theorem mw_lk_of {ls : List (Option Value)} {i : Nat} {v : Value} (h : mw_lk ls i v = true) : v.category = 1 ∨ ls[i + 1]? = some none := by
  rcases mw_cat12 v with h1 | h1
  · exact Or.inl h1
  · right
    unfold mw_lk at h
    rw [h1] at h
    have h : (match ls[i + 1]? with | some none => true | _ => false) = true := h
    cases h2 : ls[i + 1]? with
    | none => rw [h2] at h; cases h
    | some o =>
      cases o with
      | none => rfl
      | some z => rw [h2] at h; cases h
theorem mw_L_set {G : mw_G} {n : Nat} {ls : List (Option Value)} {lsA lsB : Array Slot} {i : Nat} {v : Value} {v' : Value} (hL : mw_L G n ls lsA) (hv : mw_V G v = v') (hc : v.category = 1) (hB : lv_has lsB n ((i, v') :: (mw_al G ls).filter (fun q => !(q.1 == i) && !(q.1 + 1 == i && q.2.category == 2)))) : mw_L G n (ls.set i (some v)) lsB := by
  subst hv
  refine ⟨hB.1, hB.2.1, fun j w hj hk => ?_⟩
  by_cases e : j = i
  · subst e
    rw [List.getElem?_set_self'] at hj
    cases hq : ls[j]? with
    | none => rw [hq] at hj; cases hj
    | some z =>
      rw [hq] at hj
      cases hj
      exact hB.2.2 _ List.mem_cons_self
  · rw [List.getElem?_set_ne (fun z => e z.symm)] at hj
    have h3 : w.category = 1 ∨ j + 1 ≠ i ∧ ls[j + 1]? = some none := by
      rcases mw_lk_of hk with h | h
      · exact Or.inl h
      · right
        by_cases e2 : j + 1 = i
        · subst e2
          rw [List.getElem?_set_self'] at h
          cases hq : ls[j + 1]? with
          | none => rw [hq] at h; cases h
          | some z => rw [hq] at h; cases h
        · rw [List.getElem?_set_ne (fun z => e2 z.symm)] at h
          exact ⟨e2, h⟩
    have h4 : mw_lk ls j w = true := by
      rcases h3 with h | ⟨-, h⟩
      · exact mw_lk_1 h
      · exact mw_lk_2 h
    refine hB.2.2 (j, mw_V G w) (List.mem_cons_of_mem _ (List.mem_filter.mpr ⟨mw_al_mem hj h4, ?_⟩))
    rcases h3 with h | ⟨h, -⟩
    · have h3 : (mw_V G w).category = 1 := by rw [mw_cat]; exact h
      simp [e, h3]
    · simp [e, h]
theorem mw_L_set2 {G : mw_G} {n : Nat} {ls : List (Option Value)} {lsA lsB : Array Slot} {i : Nat} {v : Value} {v' : Value} (hL : mw_L G n ls lsA) (hv : mw_V G v = v') (hB : lv_has lsB n ((i, v') :: (mw_al G ls).filter (fun q => !(q.1 == i) && (!(q.1 == i + 1) && !(q.1 + 1 == i && q.2.category == 2))))) : mw_L G n ((ls.set i (some v)).set (i + 1) none) lsB := by
  subst hv
  refine ⟨hB.1, hB.2.1, fun j w hj hk => ?_⟩
  by_cases e1 : j = i + 1
  · subst e1
    rw [List.getElem?_set_self'] at hj
    cases hq : (ls.set i (some v))[i + 1]? with
    | none => rw [hq] at hj; cases hj
    | some z => rw [hq] at hj; cases hj
  rw [List.getElem?_set_ne (fun z => e1 z.symm)] at hj
  by_cases e : j = i
  · subst e
    rw [List.getElem?_set_self'] at hj
    cases hq : ls[j]? with
    | none => rw [hq] at hj; cases hj
    | some z =>
      rw [hq] at hj
      cases hj
      exact hB.2.2 _ List.mem_cons_self
  · rw [List.getElem?_set_ne (fun z => e z.symm)] at hj
    have h3 : w.category = 1 ∨ j + 1 ≠ i ∧ ls[j + 1]? = some none := by
      rcases mw_lk_of hk with h | h
      · exact Or.inl h
      · right
        rw [List.getElem?_set_ne (by omega)] at h
        by_cases e2 : j + 1 = i
        · subst e2
          rw [List.getElem?_set_self'] at h
          cases hq : ls[j + 1]? with
          | none => rw [hq] at h; cases h
          | some z => rw [hq] at h; cases h
        · rw [List.getElem?_set_ne (fun z => e2 z.symm)] at h
          exact ⟨e2, h⟩
    have h4 : mw_lk ls j w = true := by
      rcases h3 with h | ⟨-, h⟩
      · exact mw_lk_1 h
      · exact mw_lk_2 h
    refine hB.2.2 (j, mw_V G w) (List.mem_cons_of_mem _ (List.mem_filter.mpr ⟨mw_al_mem hj h4, ?_⟩))
    rcases h3 with h | ⟨h, -⟩
    · have h3 : (mw_V G w).category = 1 := by rw [mw_cat]; exact h
      simp [e, e1, h3]
    · simp [e, e1, h]
theorem mw_L_drop {G : mw_G} {n : Nat} {ls : List (Option Value)} {lsA lsB : Array Slot} {i : Nat} {v' : Value} (hL : mw_L G n ls lsA) (hone : ls.all (fun o => match o with | some w => w.category == 1 | none => true) = true) (hB : lv_has lsB n ((i, v') :: (mw_al G ls).filter (fun q => !(q.1 == i) && !(q.1 + 1 == i && q.2.category == 2)))) : mw_L G n (ls.set i none) lsB := by
  refine ⟨hB.1, hB.2.1, fun j w hj hk => ?_⟩
  by_cases e : j = i
  · subst e
    rw [List.getElem?_set_self'] at hj
    cases hq : ls[j]? with
    | none => rw [hq] at hj; cases hj
    | some z => rw [hq] at hj; cases hj
  · rw [List.getElem?_set_ne (fun z => e z.symm)] at hj
    have h1 : w.category = 1 := by
      have h9 := List.all_eq_true.mp hone _ (List.mem_of_getElem? hj)
      have h9 : (w.category == 1) = true := h9
      simpa using h9
    refine hB.2.2 (j, mw_V G w) (List.mem_cons_of_mem _ (List.mem_filter.mpr ⟨mw_al_mem hj (mw_lk_1 h1), ?_⟩))
    have h3 : (mw_V G w).category = 1 := by rw [mw_cat]; exact h1
    simp [e, h3]
theorem mw_istore_0 {a0 : Option Value} {r : List (Option Value)} {x : Int32} (dg : decode y.2.1 pc = .ok (.istore_n 0, 1)) (hn : 0 < y.2.2.1) (k : mw_W y d kc ks (pc + 1) (some (.int x) :: r) (st) h Po) : mw_W y d kc ks (pc) (a0 :: r) (.int x :: st) h Po := by
  intro G p l e R s m args below meth c mc msl H locs cells slots lsA C hc hs hR hS hL
  obtain ⟨hx, hb, hr, hml, hown, hlk, htr, htab, hnm, hRf, hRl, hRc, hRs, hK⟩ := id C
  exact lv_istore_n (x := x) hx hb dg rfl (mw_al_has hL) hn rfl (fun ls9 h9 => k G p l e R s m args below meth c mc msl H locs cells slots ls9 C hc hs hR hS (mw_L_set (ls := a0 :: r) (i := 0) (v := .int x) hL rfl rfl h9))
theorem mw_astore_0 {a0 : Option Value} {r : List (Option Value)} {x : Nat} (dg : decode y.2.1 pc = .ok (.astore_n 0, 1)) (hn : 0 < y.2.2.1) (k : mw_W y d kc ks (pc + 1) (some (.ref x) :: r) (st) h Po) : mw_W y d kc ks (pc) (a0 :: r) (.ref x :: st) h Po := by
  intro G p l e R s m args below meth c mc msl H locs cells slots lsA C hc hs hR hS hL
  obtain ⟨hx, hb, hr, hml, hown, hlk, htr, htab, hnm, hRf, hRl, hRc, hRs, hK⟩ := id C
  exact lv_astore_n hx hb dg rfl (mw_al_has hL) hn rfl (fun ls9 h9 => k G p l e R s m args below meth c mc msl H locs cells slots ls9 C hc hs hR hS (mw_L_set (ls := a0 :: r) (i := 0) (v := .ref x) hL rfl rfl h9))
theorem mw_astoreN_0 {a0 : Option Value} {r : List (Option Value)} (dg : decode y.2.1 pc = .ok (.astore_n 0, 1)) (hn : 0 < y.2.2.1) (k : mw_W y d kc ks (pc + 1) (some (.null) :: r) (st) h Po) : mw_W y d kc ks (pc) (a0 :: r) (.null :: st) h Po := by
  intro G p l e R s m args below meth c mc msl H locs cells slots lsA C hc hs hR hS hL
  obtain ⟨hx, hb, hr, hml, hown, hlk, htr, htab, hnm, hRf, hRl, hRc, hRs, hK⟩ := id C
  exact lv_astore_nN hx hb dg rfl (mw_al_has hL) hn rfl (fun ls9 h9 => k G p l e R s m args below meth c mc msl H locs cells slots ls9 C hc hs hR hS (mw_L_set (ls := a0 :: r) (i := 0) (v := .null) hL rfl rfl h9))
theorem mw_iinc_0 {n : Int} {x v : Int32} {r : List (Option Value)} (dg : decode y.2.1 pc = .ok (.iinc 0 n, 3)) (hn : 0 < y.2.2.1) (hv : x + Int32.ofInt n = v) (k : mw_W y d kc ks (pc + 3) (some (.int v) :: r) (st) h Po) : mw_W y d kc ks (pc) (some (.int x) :: r) (st) h Po := by
  intro G p l e R s m args below meth c mc msl H locs cells slots lsA C hc hs hR hS hL
  obtain ⟨hx, hb, hr, hml, hown, hlk, htr, htab, hnm, hRf, hRl, hRc, hRs, hK⟩ := id C
  obtain ⟨k9, hk9⟩ := List.getElem?_of_mem (mw_al_mem (G := G) (ls := some (.int x) :: r) (i := 0) (v := .int x) rfl rfl)
  exact lv_iinc hx hb dg (mw_al_has hL) hk9 hv hn rfl (fun ls9 h9 => k G p l e R s m args below meth c mc msl H locs cells slots ls9 C hc hs hR hS (mw_L_set (ls := some (.int x) :: r) (i := 0) (v := .int v) hL rfl rfl h9))
theorem mw_istore_1 {a0 a1 : Option Value} {r : List (Option Value)} {x : Int32} (dg : decode y.2.1 pc = .ok (.istore_n 1, 1)) (hn : 1 < y.2.2.1) (k : mw_W y d kc ks (pc + 1) (a0 :: some (.int x) :: r) (st) h Po) : mw_W y d kc ks (pc) (a0 :: a1 :: r) (.int x :: st) h Po := by
  intro G p l e R s m args below meth c mc msl H locs cells slots lsA C hc hs hR hS hL
  obtain ⟨hx, hb, hr, hml, hown, hlk, htr, htab, hnm, hRf, hRl, hRc, hRs, hK⟩ := id C
  exact lv_istore_n (x := x) hx hb dg rfl (mw_al_has hL) hn rfl (fun ls9 h9 => k G p l e R s m args below meth c mc msl H locs cells slots ls9 C hc hs hR hS (mw_L_set (ls := a0 :: a1 :: r) (i := 1) (v := .int x) hL rfl rfl h9))
theorem mw_astore_1 {a0 a1 : Option Value} {r : List (Option Value)} {x : Nat} (dg : decode y.2.1 pc = .ok (.astore_n 1, 1)) (hn : 1 < y.2.2.1) (k : mw_W y d kc ks (pc + 1) (a0 :: some (.ref x) :: r) (st) h Po) : mw_W y d kc ks (pc) (a0 :: a1 :: r) (.ref x :: st) h Po := by
  intro G p l e R s m args below meth c mc msl H locs cells slots lsA C hc hs hR hS hL
  obtain ⟨hx, hb, hr, hml, hown, hlk, htr, htab, hnm, hRf, hRl, hRc, hRs, hK⟩ := id C
  exact lv_astore_n hx hb dg rfl (mw_al_has hL) hn rfl (fun ls9 h9 => k G p l e R s m args below meth c mc msl H locs cells slots ls9 C hc hs hR hS (mw_L_set (ls := a0 :: a1 :: r) (i := 1) (v := .ref x) hL rfl rfl h9))
theorem mw_astoreN_1 {a0 a1 : Option Value} {r : List (Option Value)} (dg : decode y.2.1 pc = .ok (.astore_n 1, 1)) (hn : 1 < y.2.2.1) (k : mw_W y d kc ks (pc + 1) (a0 :: some (.null) :: r) (st) h Po) : mw_W y d kc ks (pc) (a0 :: a1 :: r) (.null :: st) h Po := by
  intro G p l e R s m args below meth c mc msl H locs cells slots lsA C hc hs hR hS hL
  obtain ⟨hx, hb, hr, hml, hown, hlk, htr, htab, hnm, hRf, hRl, hRc, hRs, hK⟩ := id C
  exact lv_astore_nN hx hb dg rfl (mw_al_has hL) hn rfl (fun ls9 h9 => k G p l e R s m args below meth c mc msl H locs cells slots ls9 C hc hs hR hS (mw_L_set (ls := a0 :: a1 :: r) (i := 1) (v := .null) hL rfl rfl h9))
theorem mw_iinc_1 {n : Int} {x v : Int32} {a0 : Option Value} {r : List (Option Value)} (dg : decode y.2.1 pc = .ok (.iinc 1 n, 3)) (hn : 1 < y.2.2.1) (hv : x + Int32.ofInt n = v) (k : mw_W y d kc ks (pc + 3) (a0 :: some (.int v) :: r) (st) h Po) : mw_W y d kc ks (pc) (a0 :: some (.int x) :: r) (st) h Po := by
  intro G p l e R s m args below meth c mc msl H locs cells slots lsA C hc hs hR hS hL
  obtain ⟨hx, hb, hr, hml, hown, hlk, htr, htab, hnm, hRf, hRl, hRc, hRs, hK⟩ := id C
  obtain ⟨k9, hk9⟩ := List.getElem?_of_mem (mw_al_mem (G := G) (ls := a0 :: some (.int x) :: r) (i := 1) (v := .int x) rfl rfl)
  exact lv_iinc hx hb dg (mw_al_has hL) hk9 hv hn rfl (fun ls9 h9 => k G p l e R s m args below meth c mc msl H locs cells slots ls9 C hc hs hR hS (mw_L_set (ls := a0 :: some (.int x) :: r) (i := 1) (v := .int v) hL rfl rfl h9))
theorem mw_istore_2 {a0 a1 a2 : Option Value} {r : List (Option Value)} {x : Int32} (dg : decode y.2.1 pc = .ok (.istore_n 2, 1)) (hn : 2 < y.2.2.1) (k : mw_W y d kc ks (pc + 1) (a0 :: a1 :: some (.int x) :: r) (st) h Po) : mw_W y d kc ks (pc) (a0 :: a1 :: a2 :: r) (.int x :: st) h Po := by
  intro G p l e R s m args below meth c mc msl H locs cells slots lsA C hc hs hR hS hL
  obtain ⟨hx, hb, hr, hml, hown, hlk, htr, htab, hnm, hRf, hRl, hRc, hRs, hK⟩ := id C
  exact lv_istore_n (x := x) hx hb dg rfl (mw_al_has hL) hn rfl (fun ls9 h9 => k G p l e R s m args below meth c mc msl H locs cells slots ls9 C hc hs hR hS (mw_L_set (ls := a0 :: a1 :: a2 :: r) (i := 2) (v := .int x) hL rfl rfl h9))
theorem mw_astore_2 {a0 a1 a2 : Option Value} {r : List (Option Value)} {x : Nat} (dg : decode y.2.1 pc = .ok (.astore_n 2, 1)) (hn : 2 < y.2.2.1) (k : mw_W y d kc ks (pc + 1) (a0 :: a1 :: some (.ref x) :: r) (st) h Po) : mw_W y d kc ks (pc) (a0 :: a1 :: a2 :: r) (.ref x :: st) h Po := by
  intro G p l e R s m args below meth c mc msl H locs cells slots lsA C hc hs hR hS hL
  obtain ⟨hx, hb, hr, hml, hown, hlk, htr, htab, hnm, hRf, hRl, hRc, hRs, hK⟩ := id C
  exact lv_astore_n hx hb dg rfl (mw_al_has hL) hn rfl (fun ls9 h9 => k G p l e R s m args below meth c mc msl H locs cells slots ls9 C hc hs hR hS (mw_L_set (ls := a0 :: a1 :: a2 :: r) (i := 2) (v := .ref x) hL rfl rfl h9))
theorem mw_astoreN_2 {a0 a1 a2 : Option Value} {r : List (Option Value)} (dg : decode y.2.1 pc = .ok (.astore_n 2, 1)) (hn : 2 < y.2.2.1) (k : mw_W y d kc ks (pc + 1) (a0 :: a1 :: some (.null) :: r) (st) h Po) : mw_W y d kc ks (pc) (a0 :: a1 :: a2 :: r) (.null :: st) h Po := by
  intro G p l e R s m args below meth c mc msl H locs cells slots lsA C hc hs hR hS hL
  obtain ⟨hx, hb, hr, hml, hown, hlk, htr, htab, hnm, hRf, hRl, hRc, hRs, hK⟩ := id C
  exact lv_astore_nN hx hb dg rfl (mw_al_has hL) hn rfl (fun ls9 h9 => k G p l e R s m args below meth c mc msl H locs cells slots ls9 C hc hs hR hS (mw_L_set (ls := a0 :: a1 :: a2 :: r) (i := 2) (v := .null) hL rfl rfl h9))
theorem mw_iinc_2 {n : Int} {x v : Int32} {a0 a1 : Option Value} {r : List (Option Value)} (dg : decode y.2.1 pc = .ok (.iinc 2 n, 3)) (hn : 2 < y.2.2.1) (hv : x + Int32.ofInt n = v) (k : mw_W y d kc ks (pc + 3) (a0 :: a1 :: some (.int v) :: r) (st) h Po) : mw_W y d kc ks (pc) (a0 :: a1 :: some (.int x) :: r) (st) h Po := by
  intro G p l e R s m args below meth c mc msl H locs cells slots lsA C hc hs hR hS hL
  obtain ⟨hx, hb, hr, hml, hown, hlk, htr, htab, hnm, hRf, hRl, hRc, hRs, hK⟩ := id C
  obtain ⟨k9, hk9⟩ := List.getElem?_of_mem (mw_al_mem (G := G) (ls := a0 :: a1 :: some (.int x) :: r) (i := 2) (v := .int x) rfl rfl)
  exact lv_iinc hx hb dg (mw_al_has hL) hk9 hv hn rfl (fun ls9 h9 => k G p l e R s m args below meth c mc msl H locs cells slots ls9 C hc hs hR hS (mw_L_set (ls := a0 :: a1 :: some (.int x) :: r) (i := 2) (v := .int v) hL rfl rfl h9))
theorem mw_istore_3 {a0 a1 a2 a3 : Option Value} {r : List (Option Value)} {x : Int32} (dg : decode y.2.1 pc = .ok (.istore_n 3, 1)) (hn : 3 < y.2.2.1) (k : mw_W y d kc ks (pc + 1) (a0 :: a1 :: a2 :: some (.int x) :: r) (st) h Po) : mw_W y d kc ks (pc) (a0 :: a1 :: a2 :: a3 :: r) (.int x :: st) h Po := by
  intro G p l e R s m args below meth c mc msl H locs cells slots lsA C hc hs hR hS hL
  obtain ⟨hx, hb, hr, hml, hown, hlk, htr, htab, hnm, hRf, hRl, hRc, hRs, hK⟩ := id C
  exact lv_istore_n (x := x) hx hb dg rfl (mw_al_has hL) hn rfl (fun ls9 h9 => k G p l e R s m args below meth c mc msl H locs cells slots ls9 C hc hs hR hS (mw_L_set (ls := a0 :: a1 :: a2 :: a3 :: r) (i := 3) (v := .int x) hL rfl rfl h9))
theorem mw_astore_3 {a0 a1 a2 a3 : Option Value} {r : List (Option Value)} {x : Nat} (dg : decode y.2.1 pc = .ok (.astore_n 3, 1)) (hn : 3 < y.2.2.1) (k : mw_W y d kc ks (pc + 1) (a0 :: a1 :: a2 :: some (.ref x) :: r) (st) h Po) : mw_W y d kc ks (pc) (a0 :: a1 :: a2 :: a3 :: r) (.ref x :: st) h Po := by
  intro G p l e R s m args below meth c mc msl H locs cells slots lsA C hc hs hR hS hL
  obtain ⟨hx, hb, hr, hml, hown, hlk, htr, htab, hnm, hRf, hRl, hRc, hRs, hK⟩ := id C
  exact lv_astore_n hx hb dg rfl (mw_al_has hL) hn rfl (fun ls9 h9 => k G p l e R s m args below meth c mc msl H locs cells slots ls9 C hc hs hR hS (mw_L_set (ls := a0 :: a1 :: a2 :: a3 :: r) (i := 3) (v := .ref x) hL rfl rfl h9))
theorem mw_astoreN_3 {a0 a1 a2 a3 : Option Value} {r : List (Option Value)} (dg : decode y.2.1 pc = .ok (.astore_n 3, 1)) (hn : 3 < y.2.2.1) (k : mw_W y d kc ks (pc + 1) (a0 :: a1 :: a2 :: some (.null) :: r) (st) h Po) : mw_W y d kc ks (pc) (a0 :: a1 :: a2 :: a3 :: r) (.null :: st) h Po := by
  intro G p l e R s m args below meth c mc msl H locs cells slots lsA C hc hs hR hS hL
  obtain ⟨hx, hb, hr, hml, hown, hlk, htr, htab, hnm, hRf, hRl, hRc, hRs, hK⟩ := id C
  exact lv_astore_nN hx hb dg rfl (mw_al_has hL) hn rfl (fun ls9 h9 => k G p l e R s m args below meth c mc msl H locs cells slots ls9 C hc hs hR hS (mw_L_set (ls := a0 :: a1 :: a2 :: a3 :: r) (i := 3) (v := .null) hL rfl rfl h9))
theorem mw_iinc_3 {n : Int} {x v : Int32} {a0 a1 a2 : Option Value} {r : List (Option Value)} (dg : decode y.2.1 pc = .ok (.iinc 3 n, 3)) (hn : 3 < y.2.2.1) (hv : x + Int32.ofInt n = v) (k : mw_W y d kc ks (pc + 3) (a0 :: a1 :: a2 :: some (.int v) :: r) (st) h Po) : mw_W y d kc ks (pc) (a0 :: a1 :: a2 :: some (.int x) :: r) (st) h Po := by
  intro G p l e R s m args below meth c mc msl H locs cells slots lsA C hc hs hR hS hL
  obtain ⟨hx, hb, hr, hml, hown, hlk, htr, htab, hnm, hRf, hRl, hRc, hRs, hK⟩ := id C
  obtain ⟨k9, hk9⟩ := List.getElem?_of_mem (mw_al_mem (G := G) (ls := a0 :: a1 :: a2 :: some (.int x) :: r) (i := 3) (v := .int x) rfl rfl)
  exact lv_iinc hx hb dg (mw_al_has hL) hk9 hv hn rfl (fun ls9 h9 => k G p l e R s m args below meth c mc msl H locs cells slots ls9 C hc hs hR hS (mw_L_set (ls := a0 :: a1 :: a2 :: some (.int x) :: r) (i := 3) (v := .int v) hL rfl rfl h9))
theorem mw_istore_4 {a0 a1 a2 a3 a4 : Option Value} {r : List (Option Value)} {x : Int32} (dg : decode y.2.1 pc = .ok (.istore 4, 2)) (hn : 4 < y.2.2.1) (k : mw_W y d kc ks (pc + 2) (a0 :: a1 :: a2 :: a3 :: some (.int x) :: r) (st) h Po) : mw_W y d kc ks (pc) (a0 :: a1 :: a2 :: a3 :: a4 :: r) (.int x :: st) h Po := by
  intro G p l e R s m args below meth c mc msl H locs cells slots lsA C hc hs hR hS hL
  obtain ⟨hx, hb, hr, hml, hown, hlk, htr, htab, hnm, hRf, hRl, hRc, hRs, hK⟩ := id C
  exact lv_istore (x := x) hx hb dg (mw_al_has hL) hn rfl (fun ls9 h9 => k G p l e R s m args below meth c mc msl H locs cells slots ls9 C hc hs hR hS (mw_L_set (ls := a0 :: a1 :: a2 :: a3 :: a4 :: r) (i := 4) (v := .int x) hL rfl rfl h9))
theorem mw_astore_4 {a0 a1 a2 a3 a4 : Option Value} {r : List (Option Value)} {x : Nat} (dg : decode y.2.1 pc = .ok (.astore 4, 2)) (hn : 4 < y.2.2.1) (k : mw_W y d kc ks (pc + 2) (a0 :: a1 :: a2 :: a3 :: some (.ref x) :: r) (st) h Po) : mw_W y d kc ks (pc) (a0 :: a1 :: a2 :: a3 :: a4 :: r) (.ref x :: st) h Po := by
  intro G p l e R s m args below meth c mc msl H locs cells slots lsA C hc hs hR hS hL
  obtain ⟨hx, hb, hr, hml, hown, hlk, htr, htab, hnm, hRf, hRl, hRc, hRs, hK⟩ := id C
  exact lv_astore hx hb dg (mw_al_has hL) hn rfl (fun ls9 h9 => k G p l e R s m args below meth c mc msl H locs cells slots ls9 C hc hs hR hS (mw_L_set (ls := a0 :: a1 :: a2 :: a3 :: a4 :: r) (i := 4) (v := .ref x) hL rfl rfl h9))
theorem mw_astoreN_4 {a0 a1 a2 a3 a4 : Option Value} {r : List (Option Value)} (dg : decode y.2.1 pc = .ok (.astore 4, 2)) (hn : 4 < y.2.2.1) (k : mw_W y d kc ks (pc + 2) (a0 :: a1 :: a2 :: a3 :: some (.null) :: r) (st) h Po) : mw_W y d kc ks (pc) (a0 :: a1 :: a2 :: a3 :: a4 :: r) (.null :: st) h Po := by
  intro G p l e R s m args below meth c mc msl H locs cells slots lsA C hc hs hR hS hL
  obtain ⟨hx, hb, hr, hml, hown, hlk, htr, htab, hnm, hRf, hRl, hRc, hRs, hK⟩ := id C
  exact lv_astoreN hx hb dg (mw_al_has hL) hn rfl (fun ls9 h9 => k G p l e R s m args below meth c mc msl H locs cells slots ls9 C hc hs hR hS (mw_L_set (ls := a0 :: a1 :: a2 :: a3 :: a4 :: r) (i := 4) (v := .null) hL rfl rfl h9))
theorem mw_iinc_4 {n : Int} {x v : Int32} {a0 a1 a2 a3 : Option Value} {r : List (Option Value)} (dg : decode y.2.1 pc = .ok (.iinc 4 n, 3)) (hn : 4 < y.2.2.1) (hv : x + Int32.ofInt n = v) (k : mw_W y d kc ks (pc + 3) (a0 :: a1 :: a2 :: a3 :: some (.int v) :: r) (st) h Po) : mw_W y d kc ks (pc) (a0 :: a1 :: a2 :: a3 :: some (.int x) :: r) (st) h Po := by
  intro G p l e R s m args below meth c mc msl H locs cells slots lsA C hc hs hR hS hL
  obtain ⟨hx, hb, hr, hml, hown, hlk, htr, htab, hnm, hRf, hRl, hRc, hRs, hK⟩ := id C
  obtain ⟨k9, hk9⟩ := List.getElem?_of_mem (mw_al_mem (G := G) (ls := a0 :: a1 :: a2 :: a3 :: some (.int x) :: r) (i := 4) (v := .int x) rfl rfl)
  exact lv_iinc hx hb dg (mw_al_has hL) hk9 hv hn rfl (fun ls9 h9 => k G p l e R s m args below meth c mc msl H locs cells slots ls9 C hc hs hR hS (mw_L_set (ls := a0 :: a1 :: a2 :: a3 :: some (.int x) :: r) (i := 4) (v := .int v) hL rfl rfl h9))
theorem mw_istore_5 {a0 a1 a2 a3 a4 a5 : Option Value} {r : List (Option Value)} {x : Int32} (dg : decode y.2.1 pc = .ok (.istore 5, 2)) (hn : 5 < y.2.2.1) (k : mw_W y d kc ks (pc + 2) (a0 :: a1 :: a2 :: a3 :: a4 :: some (.int x) :: r) (st) h Po) : mw_W y d kc ks (pc) (a0 :: a1 :: a2 :: a3 :: a4 :: a5 :: r) (.int x :: st) h Po := by
  intro G p l e R s m args below meth c mc msl H locs cells slots lsA C hc hs hR hS hL
  obtain ⟨hx, hb, hr, hml, hown, hlk, htr, htab, hnm, hRf, hRl, hRc, hRs, hK⟩ := id C
  exact lv_istore (x := x) hx hb dg (mw_al_has hL) hn rfl (fun ls9 h9 => k G p l e R s m args below meth c mc msl H locs cells slots ls9 C hc hs hR hS (mw_L_set (ls := a0 :: a1 :: a2 :: a3 :: a4 :: a5 :: r) (i := 5) (v := .int x) hL rfl rfl h9))
theorem mw_astore_5 {a0 a1 a2 a3 a4 a5 : Option Value} {r : List (Option Value)} {x : Nat} (dg : decode y.2.1 pc = .ok (.astore 5, 2)) (hn : 5 < y.2.2.1) (k : mw_W y d kc ks (pc + 2) (a0 :: a1 :: a2 :: a3 :: a4 :: some (.ref x) :: r) (st) h Po) : mw_W y d kc ks (pc) (a0 :: a1 :: a2 :: a3 :: a4 :: a5 :: r) (.ref x :: st) h Po := by
  intro G p l e R s m args below meth c mc msl H locs cells slots lsA C hc hs hR hS hL
  obtain ⟨hx, hb, hr, hml, hown, hlk, htr, htab, hnm, hRf, hRl, hRc, hRs, hK⟩ := id C
  exact lv_astore hx hb dg (mw_al_has hL) hn rfl (fun ls9 h9 => k G p l e R s m args below meth c mc msl H locs cells slots ls9 C hc hs hR hS (mw_L_set (ls := a0 :: a1 :: a2 :: a3 :: a4 :: a5 :: r) (i := 5) (v := .ref x) hL rfl rfl h9))
theorem mw_astoreN_5 {a0 a1 a2 a3 a4 a5 : Option Value} {r : List (Option Value)} (dg : decode y.2.1 pc = .ok (.astore 5, 2)) (hn : 5 < y.2.2.1) (k : mw_W y d kc ks (pc + 2) (a0 :: a1 :: a2 :: a3 :: a4 :: some (.null) :: r) (st) h Po) : mw_W y d kc ks (pc) (a0 :: a1 :: a2 :: a3 :: a4 :: a5 :: r) (.null :: st) h Po := by
  intro G p l e R s m args below meth c mc msl H locs cells slots lsA C hc hs hR hS hL
  obtain ⟨hx, hb, hr, hml, hown, hlk, htr, htab, hnm, hRf, hRl, hRc, hRs, hK⟩ := id C
  exact lv_astoreN hx hb dg (mw_al_has hL) hn rfl (fun ls9 h9 => k G p l e R s m args below meth c mc msl H locs cells slots ls9 C hc hs hR hS (mw_L_set (ls := a0 :: a1 :: a2 :: a3 :: a4 :: a5 :: r) (i := 5) (v := .null) hL rfl rfl h9))
theorem mw_iinc_5 {n : Int} {x v : Int32} {a0 a1 a2 a3 a4 : Option Value} {r : List (Option Value)} (dg : decode y.2.1 pc = .ok (.iinc 5 n, 3)) (hn : 5 < y.2.2.1) (hv : x + Int32.ofInt n = v) (k : mw_W y d kc ks (pc + 3) (a0 :: a1 :: a2 :: a3 :: a4 :: some (.int v) :: r) (st) h Po) : mw_W y d kc ks (pc) (a0 :: a1 :: a2 :: a3 :: a4 :: some (.int x) :: r) (st) h Po := by
  intro G p l e R s m args below meth c mc msl H locs cells slots lsA C hc hs hR hS hL
  obtain ⟨hx, hb, hr, hml, hown, hlk, htr, htab, hnm, hRf, hRl, hRc, hRs, hK⟩ := id C
  obtain ⟨k9, hk9⟩ := List.getElem?_of_mem (mw_al_mem (G := G) (ls := a0 :: a1 :: a2 :: a3 :: a4 :: some (.int x) :: r) (i := 5) (v := .int x) rfl rfl)
  exact lv_iinc hx hb dg (mw_al_has hL) hk9 hv hn rfl (fun ls9 h9 => k G p l e R s m args below meth c mc msl H locs cells slots ls9 C hc hs hR hS (mw_L_set (ls := a0 :: a1 :: a2 :: a3 :: a4 :: some (.int x) :: r) (i := 5) (v := .int v) hL rfl rfl h9))
theorem mw_istore_6 {a0 a1 a2 a3 a4 a5 a6 : Option Value} {r : List (Option Value)} {x : Int32} (dg : decode y.2.1 pc = .ok (.istore 6, 2)) (hn : 6 < y.2.2.1) (k : mw_W y d kc ks (pc + 2) (a0 :: a1 :: a2 :: a3 :: a4 :: a5 :: some (.int x) :: r) (st) h Po) : mw_W y d kc ks (pc) (a0 :: a1 :: a2 :: a3 :: a4 :: a5 :: a6 :: r) (.int x :: st) h Po := by
  intro G p l e R s m args below meth c mc msl H locs cells slots lsA C hc hs hR hS hL
  obtain ⟨hx, hb, hr, hml, hown, hlk, htr, htab, hnm, hRf, hRl, hRc, hRs, hK⟩ := id C
  exact lv_istore (x := x) hx hb dg (mw_al_has hL) hn rfl (fun ls9 h9 => k G p l e R s m args below meth c mc msl H locs cells slots ls9 C hc hs hR hS (mw_L_set (ls := a0 :: a1 :: a2 :: a3 :: a4 :: a5 :: a6 :: r) (i := 6) (v := .int x) hL rfl rfl h9))
theorem mw_astore_6 {a0 a1 a2 a3 a4 a5 a6 : Option Value} {r : List (Option Value)} {x : Nat} (dg : decode y.2.1 pc = .ok (.astore 6, 2)) (hn : 6 < y.2.2.1) (k : mw_W y d kc ks (pc + 2) (a0 :: a1 :: a2 :: a3 :: a4 :: a5 :: some (.ref x) :: r) (st) h Po) : mw_W y d kc ks (pc) (a0 :: a1 :: a2 :: a3 :: a4 :: a5 :: a6 :: r) (.ref x :: st) h Po := by
  intro G p l e R s m args below meth c mc msl H locs cells slots lsA C hc hs hR hS hL
  obtain ⟨hx, hb, hr, hml, hown, hlk, htr, htab, hnm, hRf, hRl, hRc, hRs, hK⟩ := id C
  exact lv_astore hx hb dg (mw_al_has hL) hn rfl (fun ls9 h9 => k G p l e R s m args below meth c mc msl H locs cells slots ls9 C hc hs hR hS (mw_L_set (ls := a0 :: a1 :: a2 :: a3 :: a4 :: a5 :: a6 :: r) (i := 6) (v := .ref x) hL rfl rfl h9))
theorem mw_astoreN_6 {a0 a1 a2 a3 a4 a5 a6 : Option Value} {r : List (Option Value)} (dg : decode y.2.1 pc = .ok (.astore 6, 2)) (hn : 6 < y.2.2.1) (k : mw_W y d kc ks (pc + 2) (a0 :: a1 :: a2 :: a3 :: a4 :: a5 :: some (.null) :: r) (st) h Po) : mw_W y d kc ks (pc) (a0 :: a1 :: a2 :: a3 :: a4 :: a5 :: a6 :: r) (.null :: st) h Po := by
  intro G p l e R s m args below meth c mc msl H locs cells slots lsA C hc hs hR hS hL
  obtain ⟨hx, hb, hr, hml, hown, hlk, htr, htab, hnm, hRf, hRl, hRc, hRs, hK⟩ := id C
  exact lv_astoreN hx hb dg (mw_al_has hL) hn rfl (fun ls9 h9 => k G p l e R s m args below meth c mc msl H locs cells slots ls9 C hc hs hR hS (mw_L_set (ls := a0 :: a1 :: a2 :: a3 :: a4 :: a5 :: a6 :: r) (i := 6) (v := .null) hL rfl rfl h9))
theorem mw_iinc_6 {n : Int} {x v : Int32} {a0 a1 a2 a3 a4 a5 : Option Value} {r : List (Option Value)} (dg : decode y.2.1 pc = .ok (.iinc 6 n, 3)) (hn : 6 < y.2.2.1) (hv : x + Int32.ofInt n = v) (k : mw_W y d kc ks (pc + 3) (a0 :: a1 :: a2 :: a3 :: a4 :: a5 :: some (.int v) :: r) (st) h Po) : mw_W y d kc ks (pc) (a0 :: a1 :: a2 :: a3 :: a4 :: a5 :: some (.int x) :: r) (st) h Po := by
  intro G p l e R s m args below meth c mc msl H locs cells slots lsA C hc hs hR hS hL
  obtain ⟨hx, hb, hr, hml, hown, hlk, htr, htab, hnm, hRf, hRl, hRc, hRs, hK⟩ := id C
  obtain ⟨k9, hk9⟩ := List.getElem?_of_mem (mw_al_mem (G := G) (ls := a0 :: a1 :: a2 :: a3 :: a4 :: a5 :: some (.int x) :: r) (i := 6) (v := .int x) rfl rfl)
  exact lv_iinc hx hb dg (mw_al_has hL) hk9 hv hn rfl (fun ls9 h9 => k G p l e R s m args below meth c mc msl H locs cells slots ls9 C hc hs hR hS (mw_L_set (ls := a0 :: a1 :: a2 :: a3 :: a4 :: a5 :: some (.int x) :: r) (i := 6) (v := .int v) hL rfl rfl h9))
theorem mw_istore_7 {a0 a1 a2 a3 a4 a5 a6 a7 : Option Value} {r : List (Option Value)} {x : Int32} (dg : decode y.2.1 pc = .ok (.istore 7, 2)) (hn : 7 < y.2.2.1) (k : mw_W y d kc ks (pc + 2) (a0 :: a1 :: a2 :: a3 :: a4 :: a5 :: a6 :: some (.int x) :: r) (st) h Po) : mw_W y d kc ks (pc) (a0 :: a1 :: a2 :: a3 :: a4 :: a5 :: a6 :: a7 :: r) (.int x :: st) h Po := by
  intro G p l e R s m args below meth c mc msl H locs cells slots lsA C hc hs hR hS hL
  obtain ⟨hx, hb, hr, hml, hown, hlk, htr, htab, hnm, hRf, hRl, hRc, hRs, hK⟩ := id C
  exact lv_istore (x := x) hx hb dg (mw_al_has hL) hn rfl (fun ls9 h9 => k G p l e R s m args below meth c mc msl H locs cells slots ls9 C hc hs hR hS (mw_L_set (ls := a0 :: a1 :: a2 :: a3 :: a4 :: a5 :: a6 :: a7 :: r) (i := 7) (v := .int x) hL rfl rfl h9))
theorem mw_astore_7 {a0 a1 a2 a3 a4 a5 a6 a7 : Option Value} {r : List (Option Value)} {x : Nat} (dg : decode y.2.1 pc = .ok (.astore 7, 2)) (hn : 7 < y.2.2.1) (k : mw_W y d kc ks (pc + 2) (a0 :: a1 :: a2 :: a3 :: a4 :: a5 :: a6 :: some (.ref x) :: r) (st) h Po) : mw_W y d kc ks (pc) (a0 :: a1 :: a2 :: a3 :: a4 :: a5 :: a6 :: a7 :: r) (.ref x :: st) h Po := by
  intro G p l e R s m args below meth c mc msl H locs cells slots lsA C hc hs hR hS hL
  obtain ⟨hx, hb, hr, hml, hown, hlk, htr, htab, hnm, hRf, hRl, hRc, hRs, hK⟩ := id C
  exact lv_astore hx hb dg (mw_al_has hL) hn rfl (fun ls9 h9 => k G p l e R s m args below meth c mc msl H locs cells slots ls9 C hc hs hR hS (mw_L_set (ls := a0 :: a1 :: a2 :: a3 :: a4 :: a5 :: a6 :: a7 :: r) (i := 7) (v := .ref x) hL rfl rfl h9))
theorem mw_astoreN_7 {a0 a1 a2 a3 a4 a5 a6 a7 : Option Value} {r : List (Option Value)} (dg : decode y.2.1 pc = .ok (.astore 7, 2)) (hn : 7 < y.2.2.1) (k : mw_W y d kc ks (pc + 2) (a0 :: a1 :: a2 :: a3 :: a4 :: a5 :: a6 :: some (.null) :: r) (st) h Po) : mw_W y d kc ks (pc) (a0 :: a1 :: a2 :: a3 :: a4 :: a5 :: a6 :: a7 :: r) (.null :: st) h Po := by
  intro G p l e R s m args below meth c mc msl H locs cells slots lsA C hc hs hR hS hL
  obtain ⟨hx, hb, hr, hml, hown, hlk, htr, htab, hnm, hRf, hRl, hRc, hRs, hK⟩ := id C
  exact lv_astoreN hx hb dg (mw_al_has hL) hn rfl (fun ls9 h9 => k G p l e R s m args below meth c mc msl H locs cells slots ls9 C hc hs hR hS (mw_L_set (ls := a0 :: a1 :: a2 :: a3 :: a4 :: a5 :: a6 :: a7 :: r) (i := 7) (v := .null) hL rfl rfl h9))
theorem mw_lstore_7 {a0 a1 a2 a3 a4 a5 a6 a7 a8 : Option Value} {r : List (Option Value)} {x : Int64} (dg : decode y.2.1 pc = .ok (.lstore 7, 2)) (hn : 7 + 1 < y.2.2.1) (k : mw_W y d kc ks (pc + 2) (a0 :: a1 :: a2 :: a3 :: a4 :: a5 :: a6 :: some (.long x) :: none :: r) (st) h Po) : mw_W y d kc ks (pc) (a0 :: a1 :: a2 :: a3 :: a4 :: a5 :: a6 :: a7 :: a8 :: r) (.long x :: st) h Po := by
  intro G p l e R s m args below meth c mc msl H locs cells slots lsA C hc hs hR hS hL
  obtain ⟨hx, hb, hr, hml, hown, hlk, htr, htab, hnm, hRf, hRl, hRc, hRs, hK⟩ := id C
  exact lv_lstore (x := x) hx hb dg (mw_al_has hL) hn rfl (fun ls9 h9 => k G p l e R s m args below meth c mc msl H locs cells slots ls9 C hc hs hR hS (mw_L_set2 (ls := a0 :: a1 :: a2 :: a3 :: a4 :: a5 :: a6 :: a7 :: a8 :: r) (i := 7) (v := .long x) hL rfl h9))
theorem mw_iinc_7 {n : Int} {x v : Int32} {a0 a1 a2 a3 a4 a5 a6 : Option Value} {r : List (Option Value)} (dg : decode y.2.1 pc = .ok (.iinc 7 n, 3)) (hn : 7 < y.2.2.1) (hv : x + Int32.ofInt n = v) (k : mw_W y d kc ks (pc + 3) (a0 :: a1 :: a2 :: a3 :: a4 :: a5 :: a6 :: some (.int v) :: r) (st) h Po) : mw_W y d kc ks (pc) (a0 :: a1 :: a2 :: a3 :: a4 :: a5 :: a6 :: some (.int x) :: r) (st) h Po := by
  intro G p l e R s m args below meth c mc msl H locs cells slots lsA C hc hs hR hS hL
  obtain ⟨hx, hb, hr, hml, hown, hlk, htr, htab, hnm, hRf, hRl, hRc, hRs, hK⟩ := id C
  obtain ⟨k9, hk9⟩ := List.getElem?_of_mem (mw_al_mem (G := G) (ls := a0 :: a1 :: a2 :: a3 :: a4 :: a5 :: a6 :: some (.int x) :: r) (i := 7) (v := .int x) rfl rfl)
  exact lv_iinc hx hb dg (mw_al_has hL) hk9 hv hn rfl (fun ls9 h9 => k G p l e R s m args below meth c mc msl H locs cells slots ls9 C hc hs hR hS (mw_L_set (ls := a0 :: a1 :: a2 :: a3 :: a4 :: a5 :: a6 :: some (.int x) :: r) (i := 7) (v := .int v) hL rfl rfl h9))
theorem mw_istore_8 {a0 a1 a2 a3 a4 a5 a6 a7 a8 : Option Value} {r : List (Option Value)} {x : Int32} (dg : decode y.2.1 pc = .ok (.istore 8, 2)) (hn : 8 < y.2.2.1) (k : mw_W y d kc ks (pc + 2) (a0 :: a1 :: a2 :: a3 :: a4 :: a5 :: a6 :: a7 :: some (.int x) :: r) (st) h Po) : mw_W y d kc ks (pc) (a0 :: a1 :: a2 :: a3 :: a4 :: a5 :: a6 :: a7 :: a8 :: r) (.int x :: st) h Po := by
  intro G p l e R s m args below meth c mc msl H locs cells slots lsA C hc hs hR hS hL
  obtain ⟨hx, hb, hr, hml, hown, hlk, htr, htab, hnm, hRf, hRl, hRc, hRs, hK⟩ := id C
  exact lv_istore (x := x) hx hb dg (mw_al_has hL) hn rfl (fun ls9 h9 => k G p l e R s m args below meth c mc msl H locs cells slots ls9 C hc hs hR hS (mw_L_set (ls := a0 :: a1 :: a2 :: a3 :: a4 :: a5 :: a6 :: a7 :: a8 :: r) (i := 8) (v := .int x) hL rfl rfl h9))
theorem mw_astore_8 {a0 a1 a2 a3 a4 a5 a6 a7 a8 : Option Value} {r : List (Option Value)} {x : Nat} (dg : decode y.2.1 pc = .ok (.astore 8, 2)) (hn : 8 < y.2.2.1) (k : mw_W y d kc ks (pc + 2) (a0 :: a1 :: a2 :: a3 :: a4 :: a5 :: a6 :: a7 :: some (.ref x) :: r) (st) h Po) : mw_W y d kc ks (pc) (a0 :: a1 :: a2 :: a3 :: a4 :: a5 :: a6 :: a7 :: a8 :: r) (.ref x :: st) h Po := by
  intro G p l e R s m args below meth c mc msl H locs cells slots lsA C hc hs hR hS hL
  obtain ⟨hx, hb, hr, hml, hown, hlk, htr, htab, hnm, hRf, hRl, hRc, hRs, hK⟩ := id C
  exact lv_astore hx hb dg (mw_al_has hL) hn rfl (fun ls9 h9 => k G p l e R s m args below meth c mc msl H locs cells slots ls9 C hc hs hR hS (mw_L_set (ls := a0 :: a1 :: a2 :: a3 :: a4 :: a5 :: a6 :: a7 :: a8 :: r) (i := 8) (v := .ref x) hL rfl rfl h9))
theorem mw_astoreN_8 {a0 a1 a2 a3 a4 a5 a6 a7 a8 : Option Value} {r : List (Option Value)} (dg : decode y.2.1 pc = .ok (.astore 8, 2)) (hn : 8 < y.2.2.1) (k : mw_W y d kc ks (pc + 2) (a0 :: a1 :: a2 :: a3 :: a4 :: a5 :: a6 :: a7 :: some (.null) :: r) (st) h Po) : mw_W y d kc ks (pc) (a0 :: a1 :: a2 :: a3 :: a4 :: a5 :: a6 :: a7 :: a8 :: r) (.null :: st) h Po := by
  intro G p l e R s m args below meth c mc msl H locs cells slots lsA C hc hs hR hS hL
  obtain ⟨hx, hb, hr, hml, hown, hlk, htr, htab, hnm, hRf, hRl, hRc, hRs, hK⟩ := id C
  exact lv_astoreN hx hb dg (mw_al_has hL) hn rfl (fun ls9 h9 => k G p l e R s m args below meth c mc msl H locs cells slots ls9 C hc hs hR hS (mw_L_set (ls := a0 :: a1 :: a2 :: a3 :: a4 :: a5 :: a6 :: a7 :: a8 :: r) (i := 8) (v := .null) hL rfl rfl h9))
theorem mw_iinc_8 {n : Int} {x v : Int32} {a0 a1 a2 a3 a4 a5 a6 a7 : Option Value} {r : List (Option Value)} (dg : decode y.2.1 pc = .ok (.iinc 8 n, 3)) (hn : 8 < y.2.2.1) (hv : x + Int32.ofInt n = v) (k : mw_W y d kc ks (pc + 3) (a0 :: a1 :: a2 :: a3 :: a4 :: a5 :: a6 :: a7 :: some (.int v) :: r) (st) h Po) : mw_W y d kc ks (pc) (a0 :: a1 :: a2 :: a3 :: a4 :: a5 :: a6 :: a7 :: some (.int x) :: r) (st) h Po := by
  intro G p l e R s m args below meth c mc msl H locs cells slots lsA C hc hs hR hS hL
  obtain ⟨hx, hb, hr, hml, hown, hlk, htr, htab, hnm, hRf, hRl, hRc, hRs, hK⟩ := id C
  obtain ⟨k9, hk9⟩ := List.getElem?_of_mem (mw_al_mem (G := G) (ls := a0 :: a1 :: a2 :: a3 :: a4 :: a5 :: a6 :: a7 :: some (.int x) :: r) (i := 8) (v := .int x) rfl rfl)
  exact lv_iinc hx hb dg (mw_al_has hL) hk9 hv hn rfl (fun ls9 h9 => k G p l e R s m args below meth c mc msl H locs cells slots ls9 C hc hs hR hS (mw_L_set (ls := a0 :: a1 :: a2 :: a3 :: a4 :: a5 :: a6 :: a7 :: some (.int x) :: r) (i := 8) (v := .int v) hL rfl rfl h9))
theorem mw_istore_9 {a0 a1 a2 a3 a4 a5 a6 a7 a8 a9 : Option Value} {r : List (Option Value)} {x : Int32} (dg : decode y.2.1 pc = .ok (.istore 9, 2)) (hn : 9 < y.2.2.1) (k : mw_W y d kc ks (pc + 2) (a0 :: a1 :: a2 :: a3 :: a4 :: a5 :: a6 :: a7 :: a8 :: some (.int x) :: r) (st) h Po) : mw_W y d kc ks (pc) (a0 :: a1 :: a2 :: a3 :: a4 :: a5 :: a6 :: a7 :: a8 :: a9 :: r) (.int x :: st) h Po := by
  intro G p l e R s m args below meth c mc msl H locs cells slots lsA C hc hs hR hS hL
  obtain ⟨hx, hb, hr, hml, hown, hlk, htr, htab, hnm, hRf, hRl, hRc, hRs, hK⟩ := id C
  exact lv_istore (x := x) hx hb dg (mw_al_has hL) hn rfl (fun ls9 h9 => k G p l e R s m args below meth c mc msl H locs cells slots ls9 C hc hs hR hS (mw_L_set (ls := a0 :: a1 :: a2 :: a3 :: a4 :: a5 :: a6 :: a7 :: a8 :: a9 :: r) (i := 9) (v := .int x) hL rfl rfl h9))
theorem mw_astore_9 {a0 a1 a2 a3 a4 a5 a6 a7 a8 a9 : Option Value} {r : List (Option Value)} {x : Nat} (dg : decode y.2.1 pc = .ok (.astore 9, 2)) (hn : 9 < y.2.2.1) (k : mw_W y d kc ks (pc + 2) (a0 :: a1 :: a2 :: a3 :: a4 :: a5 :: a6 :: a7 :: a8 :: some (.ref x) :: r) (st) h Po) : mw_W y d kc ks (pc) (a0 :: a1 :: a2 :: a3 :: a4 :: a5 :: a6 :: a7 :: a8 :: a9 :: r) (.ref x :: st) h Po := by
  intro G p l e R s m args below meth c mc msl H locs cells slots lsA C hc hs hR hS hL
  obtain ⟨hx, hb, hr, hml, hown, hlk, htr, htab, hnm, hRf, hRl, hRc, hRs, hK⟩ := id C
  exact lv_astore hx hb dg (mw_al_has hL) hn rfl (fun ls9 h9 => k G p l e R s m args below meth c mc msl H locs cells slots ls9 C hc hs hR hS (mw_L_set (ls := a0 :: a1 :: a2 :: a3 :: a4 :: a5 :: a6 :: a7 :: a8 :: a9 :: r) (i := 9) (v := .ref x) hL rfl rfl h9))
theorem mw_astoreN_9 {a0 a1 a2 a3 a4 a5 a6 a7 a8 a9 : Option Value} {r : List (Option Value)} (dg : decode y.2.1 pc = .ok (.astore 9, 2)) (hn : 9 < y.2.2.1) (k : mw_W y d kc ks (pc + 2) (a0 :: a1 :: a2 :: a3 :: a4 :: a5 :: a6 :: a7 :: a8 :: some (.null) :: r) (st) h Po) : mw_W y d kc ks (pc) (a0 :: a1 :: a2 :: a3 :: a4 :: a5 :: a6 :: a7 :: a8 :: a9 :: r) (.null :: st) h Po := by
  intro G p l e R s m args below meth c mc msl H locs cells slots lsA C hc hs hR hS hL
  obtain ⟨hx, hb, hr, hml, hown, hlk, htr, htab, hnm, hRf, hRl, hRc, hRs, hK⟩ := id C
  exact lv_astoreN hx hb dg (mw_al_has hL) hn rfl (fun ls9 h9 => k G p l e R s m args below meth c mc msl H locs cells slots ls9 C hc hs hR hS (mw_L_set (ls := a0 :: a1 :: a2 :: a3 :: a4 :: a5 :: a6 :: a7 :: a8 :: a9 :: r) (i := 9) (v := .null) hL rfl rfl h9))
theorem mw_iinc_9 {n : Int} {x v : Int32} {a0 a1 a2 a3 a4 a5 a6 a7 a8 : Option Value} {r : List (Option Value)} (dg : decode y.2.1 pc = .ok (.iinc 9 n, 3)) (hn : 9 < y.2.2.1) (hv : x + Int32.ofInt n = v) (k : mw_W y d kc ks (pc + 3) (a0 :: a1 :: a2 :: a3 :: a4 :: a5 :: a6 :: a7 :: a8 :: some (.int v) :: r) (st) h Po) : mw_W y d kc ks (pc) (a0 :: a1 :: a2 :: a3 :: a4 :: a5 :: a6 :: a7 :: a8 :: some (.int x) :: r) (st) h Po := by
  intro G p l e R s m args below meth c mc msl H locs cells slots lsA C hc hs hR hS hL
  obtain ⟨hx, hb, hr, hml, hown, hlk, htr, htab, hnm, hRf, hRl, hRc, hRs, hK⟩ := id C
  obtain ⟨k9, hk9⟩ := List.getElem?_of_mem (mw_al_mem (G := G) (ls := a0 :: a1 :: a2 :: a3 :: a4 :: a5 :: a6 :: a7 :: a8 :: some (.int x) :: r) (i := 9) (v := .int x) rfl rfl)
  exact lv_iinc hx hb dg (mw_al_has hL) hk9 hv hn rfl (fun ls9 h9 => k G p l e R s m args below meth c mc msl H locs cells slots ls9 C hc hs hR hS (mw_L_set (ls := a0 :: a1 :: a2 :: a3 :: a4 :: a5 :: a6 :: a7 :: a8 :: some (.int x) :: r) (i := 9) (v := .int v) hL rfl rfl h9))
theorem mw_istore_10 {a0 a1 a2 a3 a4 a5 a6 a7 a8 a9 a10 : Option Value} {r : List (Option Value)} {x : Int32} (dg : decode y.2.1 pc = .ok (.istore 10, 2)) (hn : 10 < y.2.2.1) (k : mw_W y d kc ks (pc + 2) (a0 :: a1 :: a2 :: a3 :: a4 :: a5 :: a6 :: a7 :: a8 :: a9 :: some (.int x) :: r) (st) h Po) : mw_W y d kc ks (pc) (a0 :: a1 :: a2 :: a3 :: a4 :: a5 :: a6 :: a7 :: a8 :: a9 :: a10 :: r) (.int x :: st) h Po := by
  intro G p l e R s m args below meth c mc msl H locs cells slots lsA C hc hs hR hS hL
  obtain ⟨hx, hb, hr, hml, hown, hlk, htr, htab, hnm, hRf, hRl, hRc, hRs, hK⟩ := id C
  exact lv_istore (x := x) hx hb dg (mw_al_has hL) hn rfl (fun ls9 h9 => k G p l e R s m args below meth c mc msl H locs cells slots ls9 C hc hs hR hS (mw_L_set (ls := a0 :: a1 :: a2 :: a3 :: a4 :: a5 :: a6 :: a7 :: a8 :: a9 :: a10 :: r) (i := 10) (v := .int x) hL rfl rfl h9))
theorem mw_astore_10 {a0 a1 a2 a3 a4 a5 a6 a7 a8 a9 a10 : Option Value} {r : List (Option Value)} {x : Nat} (dg : decode y.2.1 pc = .ok (.astore 10, 2)) (hn : 10 < y.2.2.1) (k : mw_W y d kc ks (pc + 2) (a0 :: a1 :: a2 :: a3 :: a4 :: a5 :: a6 :: a7 :: a8 :: a9 :: some (.ref x) :: r) (st) h Po) : mw_W y d kc ks (pc) (a0 :: a1 :: a2 :: a3 :: a4 :: a5 :: a6 :: a7 :: a8 :: a9 :: a10 :: r) (.ref x :: st) h Po := by
  intro G p l e R s m args below meth c mc msl H locs cells slots lsA C hc hs hR hS hL
  obtain ⟨hx, hb, hr, hml, hown, hlk, htr, htab, hnm, hRf, hRl, hRc, hRs, hK⟩ := id C
  exact lv_astore hx hb dg (mw_al_has hL) hn rfl (fun ls9 h9 => k G p l e R s m args below meth c mc msl H locs cells slots ls9 C hc hs hR hS (mw_L_set (ls := a0 :: a1 :: a2 :: a3 :: a4 :: a5 :: a6 :: a7 :: a8 :: a9 :: a10 :: r) (i := 10) (v := .ref x) hL rfl rfl h9))
theorem mw_astoreN_10 {a0 a1 a2 a3 a4 a5 a6 a7 a8 a9 a10 : Option Value} {r : List (Option Value)} (dg : decode y.2.1 pc = .ok (.astore 10, 2)) (hn : 10 < y.2.2.1) (k : mw_W y d kc ks (pc + 2) (a0 :: a1 :: a2 :: a3 :: a4 :: a5 :: a6 :: a7 :: a8 :: a9 :: some (.null) :: r) (st) h Po) : mw_W y d kc ks (pc) (a0 :: a1 :: a2 :: a3 :: a4 :: a5 :: a6 :: a7 :: a8 :: a9 :: a10 :: r) (.null :: st) h Po := by
  intro G p l e R s m args below meth c mc msl H locs cells slots lsA C hc hs hR hS hL
  obtain ⟨hx, hb, hr, hml, hown, hlk, htr, htab, hnm, hRf, hRl, hRc, hRs, hK⟩ := id C
  exact lv_astoreN hx hb dg (mw_al_has hL) hn rfl (fun ls9 h9 => k G p l e R s m args below meth c mc msl H locs cells slots ls9 C hc hs hR hS (mw_L_set (ls := a0 :: a1 :: a2 :: a3 :: a4 :: a5 :: a6 :: a7 :: a8 :: a9 :: a10 :: r) (i := 10) (v := .null) hL rfl rfl h9))
theorem mw_iinc_10 {n : Int} {x v : Int32} {a0 a1 a2 a3 a4 a5 a6 a7 a8 a9 : Option Value} {r : List (Option Value)} (dg : decode y.2.1 pc = .ok (.iinc 10 n, 3)) (hn : 10 < y.2.2.1) (hv : x + Int32.ofInt n = v) (k : mw_W y d kc ks (pc + 3) (a0 :: a1 :: a2 :: a3 :: a4 :: a5 :: a6 :: a7 :: a8 :: a9 :: some (.int v) :: r) (st) h Po) : mw_W y d kc ks (pc) (a0 :: a1 :: a2 :: a3 :: a4 :: a5 :: a6 :: a7 :: a8 :: a9 :: some (.int x) :: r) (st) h Po := by
  intro G p l e R s m args below meth c mc msl H locs cells slots lsA C hc hs hR hS hL
  obtain ⟨hx, hb, hr, hml, hown, hlk, htr, htab, hnm, hRf, hRl, hRc, hRs, hK⟩ := id C
  obtain ⟨k9, hk9⟩ := List.getElem?_of_mem (mw_al_mem (G := G) (ls := a0 :: a1 :: a2 :: a3 :: a4 :: a5 :: a6 :: a7 :: a8 :: a9 :: some (.int x) :: r) (i := 10) (v := .int x) rfl rfl)
  exact lv_iinc hx hb dg (mw_al_has hL) hk9 hv hn rfl (fun ls9 h9 => k G p l e R s m args below meth c mc msl H locs cells slots ls9 C hc hs hR hS (mw_L_set (ls := a0 :: a1 :: a2 :: a3 :: a4 :: a5 :: a6 :: a7 :: a8 :: a9 :: some (.int x) :: r) (i := 10) (v := .int v) hL rfl rfl h9))
theorem mw_istore_11 {a0 a1 a2 a3 a4 a5 a6 a7 a8 a9 a10 a11 : Option Value} {r : List (Option Value)} {x : Int32} (dg : decode y.2.1 pc = .ok (.istore 11, 2)) (hn : 11 < y.2.2.1) (k : mw_W y d kc ks (pc + 2) (a0 :: a1 :: a2 :: a3 :: a4 :: a5 :: a6 :: a7 :: a8 :: a9 :: a10 :: some (.int x) :: r) (st) h Po) : mw_W y d kc ks (pc) (a0 :: a1 :: a2 :: a3 :: a4 :: a5 :: a6 :: a7 :: a8 :: a9 :: a10 :: a11 :: r) (.int x :: st) h Po := by
  intro G p l e R s m args below meth c mc msl H locs cells slots lsA C hc hs hR hS hL
  obtain ⟨hx, hb, hr, hml, hown, hlk, htr, htab, hnm, hRf, hRl, hRc, hRs, hK⟩ := id C
  exact lv_istore (x := x) hx hb dg (mw_al_has hL) hn rfl (fun ls9 h9 => k G p l e R s m args below meth c mc msl H locs cells slots ls9 C hc hs hR hS (mw_L_set (ls := a0 :: a1 :: a2 :: a3 :: a4 :: a5 :: a6 :: a7 :: a8 :: a9 :: a10 :: a11 :: r) (i := 11) (v := .int x) hL rfl rfl h9))
theorem mw_astore_11 {a0 a1 a2 a3 a4 a5 a6 a7 a8 a9 a10 a11 : Option Value} {r : List (Option Value)} {x : Nat} (dg : decode y.2.1 pc = .ok (.astore 11, 2)) (hn : 11 < y.2.2.1) (k : mw_W y d kc ks (pc + 2) (a0 :: a1 :: a2 :: a3 :: a4 :: a5 :: a6 :: a7 :: a8 :: a9 :: a10 :: some (.ref x) :: r) (st) h Po) : mw_W y d kc ks (pc) (a0 :: a1 :: a2 :: a3 :: a4 :: a5 :: a6 :: a7 :: a8 :: a9 :: a10 :: a11 :: r) (.ref x :: st) h Po := by
  intro G p l e R s m args below meth c mc msl H locs cells slots lsA C hc hs hR hS hL
  obtain ⟨hx, hb, hr, hml, hown, hlk, htr, htab, hnm, hRf, hRl, hRc, hRs, hK⟩ := id C
  exact lv_astore hx hb dg (mw_al_has hL) hn rfl (fun ls9 h9 => k G p l e R s m args below meth c mc msl H locs cells slots ls9 C hc hs hR hS (mw_L_set (ls := a0 :: a1 :: a2 :: a3 :: a4 :: a5 :: a6 :: a7 :: a8 :: a9 :: a10 :: a11 :: r) (i := 11) (v := .ref x) hL rfl rfl h9))
theorem mw_astoreN_11 {a0 a1 a2 a3 a4 a5 a6 a7 a8 a9 a10 a11 : Option Value} {r : List (Option Value)} (dg : decode y.2.1 pc = .ok (.astore 11, 2)) (hn : 11 < y.2.2.1) (k : mw_W y d kc ks (pc + 2) (a0 :: a1 :: a2 :: a3 :: a4 :: a5 :: a6 :: a7 :: a8 :: a9 :: a10 :: some (.null) :: r) (st) h Po) : mw_W y d kc ks (pc) (a0 :: a1 :: a2 :: a3 :: a4 :: a5 :: a6 :: a7 :: a8 :: a9 :: a10 :: a11 :: r) (.null :: st) h Po := by
  intro G p l e R s m args below meth c mc msl H locs cells slots lsA C hc hs hR hS hL
  obtain ⟨hx, hb, hr, hml, hown, hlk, htr, htab, hnm, hRf, hRl, hRc, hRs, hK⟩ := id C
  exact lv_astoreN hx hb dg (mw_al_has hL) hn rfl (fun ls9 h9 => k G p l e R s m args below meth c mc msl H locs cells slots ls9 C hc hs hR hS (mw_L_set (ls := a0 :: a1 :: a2 :: a3 :: a4 :: a5 :: a6 :: a7 :: a8 :: a9 :: a10 :: a11 :: r) (i := 11) (v := .null) hL rfl rfl h9))
theorem mw_iinc_11 {n : Int} {x v : Int32} {a0 a1 a2 a3 a4 a5 a6 a7 a8 a9 a10 : Option Value} {r : List (Option Value)} (dg : decode y.2.1 pc = .ok (.iinc 11 n, 3)) (hn : 11 < y.2.2.1) (hv : x + Int32.ofInt n = v) (k : mw_W y d kc ks (pc + 3) (a0 :: a1 :: a2 :: a3 :: a4 :: a5 :: a6 :: a7 :: a8 :: a9 :: a10 :: some (.int v) :: r) (st) h Po) : mw_W y d kc ks (pc) (a0 :: a1 :: a2 :: a3 :: a4 :: a5 :: a6 :: a7 :: a8 :: a9 :: a10 :: some (.int x) :: r) (st) h Po := by
  intro G p l e R s m args below meth c mc msl H locs cells slots lsA C hc hs hR hS hL
  obtain ⟨hx, hb, hr, hml, hown, hlk, htr, htab, hnm, hRf, hRl, hRc, hRs, hK⟩ := id C
  obtain ⟨k9, hk9⟩ := List.getElem?_of_mem (mw_al_mem (G := G) (ls := a0 :: a1 :: a2 :: a3 :: a4 :: a5 :: a6 :: a7 :: a8 :: a9 :: a10 :: some (.int x) :: r) (i := 11) (v := .int x) rfl rfl)
  exact lv_iinc hx hb dg (mw_al_has hL) hk9 hv hn rfl (fun ls9 h9 => k G p l e R s m args below meth c mc msl H locs cells slots ls9 C hc hs hR hS (mw_L_set (ls := a0 :: a1 :: a2 :: a3 :: a4 :: a5 :: a6 :: a7 :: a8 :: a9 :: a10 :: some (.int x) :: r) (i := 11) (v := .int v) hL rfl rfl h9))
theorem mw_istore_12 {a0 a1 a2 a3 a4 a5 a6 a7 a8 a9 a10 a11 a12 : Option Value} {r : List (Option Value)} {x : Int32} (dg : decode y.2.1 pc = .ok (.istore 12, 2)) (hn : 12 < y.2.2.1) (k : mw_W y d kc ks (pc + 2) (a0 :: a1 :: a2 :: a3 :: a4 :: a5 :: a6 :: a7 :: a8 :: a9 :: a10 :: a11 :: some (.int x) :: r) (st) h Po) : mw_W y d kc ks (pc) (a0 :: a1 :: a2 :: a3 :: a4 :: a5 :: a6 :: a7 :: a8 :: a9 :: a10 :: a11 :: a12 :: r) (.int x :: st) h Po := by
  intro G p l e R s m args below meth c mc msl H locs cells slots lsA C hc hs hR hS hL
  obtain ⟨hx, hb, hr, hml, hown, hlk, htr, htab, hnm, hRf, hRl, hRc, hRs, hK⟩ := id C
  exact lv_istore (x := x) hx hb dg (mw_al_has hL) hn rfl (fun ls9 h9 => k G p l e R s m args below meth c mc msl H locs cells slots ls9 C hc hs hR hS (mw_L_set (ls := a0 :: a1 :: a2 :: a3 :: a4 :: a5 :: a6 :: a7 :: a8 :: a9 :: a10 :: a11 :: a12 :: r) (i := 12) (v := .int x) hL rfl rfl h9))
theorem mw_astore_12 {a0 a1 a2 a3 a4 a5 a6 a7 a8 a9 a10 a11 a12 : Option Value} {r : List (Option Value)} {x : Nat} (dg : decode y.2.1 pc = .ok (.astore 12, 2)) (hn : 12 < y.2.2.1) (k : mw_W y d kc ks (pc + 2) (a0 :: a1 :: a2 :: a3 :: a4 :: a5 :: a6 :: a7 :: a8 :: a9 :: a10 :: a11 :: some (.ref x) :: r) (st) h Po) : mw_W y d kc ks (pc) (a0 :: a1 :: a2 :: a3 :: a4 :: a5 :: a6 :: a7 :: a8 :: a9 :: a10 :: a11 :: a12 :: r) (.ref x :: st) h Po := by
  intro G p l e R s m args below meth c mc msl H locs cells slots lsA C hc hs hR hS hL
  obtain ⟨hx, hb, hr, hml, hown, hlk, htr, htab, hnm, hRf, hRl, hRc, hRs, hK⟩ := id C
  exact lv_astore hx hb dg (mw_al_has hL) hn rfl (fun ls9 h9 => k G p l e R s m args below meth c mc msl H locs cells slots ls9 C hc hs hR hS (mw_L_set (ls := a0 :: a1 :: a2 :: a3 :: a4 :: a5 :: a6 :: a7 :: a8 :: a9 :: a10 :: a11 :: a12 :: r) (i := 12) (v := .ref x) hL rfl rfl h9))
theorem mw_astoreN_12 {a0 a1 a2 a3 a4 a5 a6 a7 a8 a9 a10 a11 a12 : Option Value} {r : List (Option Value)} (dg : decode y.2.1 pc = .ok (.astore 12, 2)) (hn : 12 < y.2.2.1) (k : mw_W y d kc ks (pc + 2) (a0 :: a1 :: a2 :: a3 :: a4 :: a5 :: a6 :: a7 :: a8 :: a9 :: a10 :: a11 :: some (.null) :: r) (st) h Po) : mw_W y d kc ks (pc) (a0 :: a1 :: a2 :: a3 :: a4 :: a5 :: a6 :: a7 :: a8 :: a9 :: a10 :: a11 :: a12 :: r) (.null :: st) h Po := by
  intro G p l e R s m args below meth c mc msl H locs cells slots lsA C hc hs hR hS hL
  obtain ⟨hx, hb, hr, hml, hown, hlk, htr, htab, hnm, hRf, hRl, hRc, hRs, hK⟩ := id C
  exact lv_astoreN hx hb dg (mw_al_has hL) hn rfl (fun ls9 h9 => k G p l e R s m args below meth c mc msl H locs cells slots ls9 C hc hs hR hS (mw_L_set (ls := a0 :: a1 :: a2 :: a3 :: a4 :: a5 :: a6 :: a7 :: a8 :: a9 :: a10 :: a11 :: a12 :: r) (i := 12) (v := .null) hL rfl rfl h9))
theorem mw_iinc_12 {n : Int} {x v : Int32} {a0 a1 a2 a3 a4 a5 a6 a7 a8 a9 a10 a11 : Option Value} {r : List (Option Value)} (dg : decode y.2.1 pc = .ok (.iinc 12 n, 3)) (hn : 12 < y.2.2.1) (hv : x + Int32.ofInt n = v) (k : mw_W y d kc ks (pc + 3) (a0 :: a1 :: a2 :: a3 :: a4 :: a5 :: a6 :: a7 :: a8 :: a9 :: a10 :: a11 :: some (.int v) :: r) (st) h Po) : mw_W y d kc ks (pc) (a0 :: a1 :: a2 :: a3 :: a4 :: a5 :: a6 :: a7 :: a8 :: a9 :: a10 :: a11 :: some (.int x) :: r) (st) h Po := by
  intro G p l e R s m args below meth c mc msl H locs cells slots lsA C hc hs hR hS hL
  obtain ⟨hx, hb, hr, hml, hown, hlk, htr, htab, hnm, hRf, hRl, hRc, hRs, hK⟩ := id C
  obtain ⟨k9, hk9⟩ := List.getElem?_of_mem (mw_al_mem (G := G) (ls := a0 :: a1 :: a2 :: a3 :: a4 :: a5 :: a6 :: a7 :: a8 :: a9 :: a10 :: a11 :: some (.int x) :: r) (i := 12) (v := .int x) rfl rfl)
  exact lv_iinc hx hb dg (mw_al_has hL) hk9 hv hn rfl (fun ls9 h9 => k G p l e R s m args below meth c mc msl H locs cells slots ls9 C hc hs hR hS (mw_L_set (ls := a0 :: a1 :: a2 :: a3 :: a4 :: a5 :: a6 :: a7 :: a8 :: a9 :: a10 :: a11 :: some (.int x) :: r) (i := 12) (v := .int v) hL rfl rfl h9))
theorem mw_istore_13 {a0 a1 a2 a3 a4 a5 a6 a7 a8 a9 a10 a11 a12 a13 : Option Value} {r : List (Option Value)} {x : Int32} (dg : decode y.2.1 pc = .ok (.istore 13, 2)) (hn : 13 < y.2.2.1) (k : mw_W y d kc ks (pc + 2) (a0 :: a1 :: a2 :: a3 :: a4 :: a5 :: a6 :: a7 :: a8 :: a9 :: a10 :: a11 :: a12 :: some (.int x) :: r) (st) h Po) : mw_W y d kc ks (pc) (a0 :: a1 :: a2 :: a3 :: a4 :: a5 :: a6 :: a7 :: a8 :: a9 :: a10 :: a11 :: a12 :: a13 :: r) (.int x :: st) h Po := by
  intro G p l e R s m args below meth c mc msl H locs cells slots lsA C hc hs hR hS hL
  obtain ⟨hx, hb, hr, hml, hown, hlk, htr, htab, hnm, hRf, hRl, hRc, hRs, hK⟩ := id C
  exact lv_istore (x := x) hx hb dg (mw_al_has hL) hn rfl (fun ls9 h9 => k G p l e R s m args below meth c mc msl H locs cells slots ls9 C hc hs hR hS (mw_L_set (ls := a0 :: a1 :: a2 :: a3 :: a4 :: a5 :: a6 :: a7 :: a8 :: a9 :: a10 :: a11 :: a12 :: a13 :: r) (i := 13) (v := .int x) hL rfl rfl h9))
theorem mw_astore_13 {a0 a1 a2 a3 a4 a5 a6 a7 a8 a9 a10 a11 a12 a13 : Option Value} {r : List (Option Value)} {x : Nat} (dg : decode y.2.1 pc = .ok (.astore 13, 2)) (hn : 13 < y.2.2.1) (k : mw_W y d kc ks (pc + 2) (a0 :: a1 :: a2 :: a3 :: a4 :: a5 :: a6 :: a7 :: a8 :: a9 :: a10 :: a11 :: a12 :: some (.ref x) :: r) (st) h Po) : mw_W y d kc ks (pc) (a0 :: a1 :: a2 :: a3 :: a4 :: a5 :: a6 :: a7 :: a8 :: a9 :: a10 :: a11 :: a12 :: a13 :: r) (.ref x :: st) h Po := by
  intro G p l e R s m args below meth c mc msl H locs cells slots lsA C hc hs hR hS hL
  obtain ⟨hx, hb, hr, hml, hown, hlk, htr, htab, hnm, hRf, hRl, hRc, hRs, hK⟩ := id C
  exact lv_astore hx hb dg (mw_al_has hL) hn rfl (fun ls9 h9 => k G p l e R s m args below meth c mc msl H locs cells slots ls9 C hc hs hR hS (mw_L_set (ls := a0 :: a1 :: a2 :: a3 :: a4 :: a5 :: a6 :: a7 :: a8 :: a9 :: a10 :: a11 :: a12 :: a13 :: r) (i := 13) (v := .ref x) hL rfl rfl h9))
theorem mw_astoreN_13 {a0 a1 a2 a3 a4 a5 a6 a7 a8 a9 a10 a11 a12 a13 : Option Value} {r : List (Option Value)} (dg : decode y.2.1 pc = .ok (.astore 13, 2)) (hn : 13 < y.2.2.1) (k : mw_W y d kc ks (pc + 2) (a0 :: a1 :: a2 :: a3 :: a4 :: a5 :: a6 :: a7 :: a8 :: a9 :: a10 :: a11 :: a12 :: some (.null) :: r) (st) h Po) : mw_W y d kc ks (pc) (a0 :: a1 :: a2 :: a3 :: a4 :: a5 :: a6 :: a7 :: a8 :: a9 :: a10 :: a11 :: a12 :: a13 :: r) (.null :: st) h Po := by
  intro G p l e R s m args below meth c mc msl H locs cells slots lsA C hc hs hR hS hL
  obtain ⟨hx, hb, hr, hml, hown, hlk, htr, htab, hnm, hRf, hRl, hRc, hRs, hK⟩ := id C
  exact lv_astoreN hx hb dg (mw_al_has hL) hn rfl (fun ls9 h9 => k G p l e R s m args below meth c mc msl H locs cells slots ls9 C hc hs hR hS (mw_L_set (ls := a0 :: a1 :: a2 :: a3 :: a4 :: a5 :: a6 :: a7 :: a8 :: a9 :: a10 :: a11 :: a12 :: a13 :: r) (i := 13) (v := .null) hL rfl rfl h9))
theorem mw_istore_14 {a0 a1 a2 a3 a4 a5 a6 a7 a8 a9 a10 a11 a12 a13 a14 : Option Value} {r : List (Option Value)} {x : Int32} (dg : decode y.2.1 pc = .ok (.istore 14, 2)) (hn : 14 < y.2.2.1) (k : mw_W y d kc ks (pc + 2) (a0 :: a1 :: a2 :: a3 :: a4 :: a5 :: a6 :: a7 :: a8 :: a9 :: a10 :: a11 :: a12 :: a13 :: some (.int x) :: r) (st) h Po) : mw_W y d kc ks (pc) (a0 :: a1 :: a2 :: a3 :: a4 :: a5 :: a6 :: a7 :: a8 :: a9 :: a10 :: a11 :: a12 :: a13 :: a14 :: r) (.int x :: st) h Po := by
  intro G p l e R s m args below meth c mc msl H locs cells slots lsA C hc hs hR hS hL
  obtain ⟨hx, hb, hr, hml, hown, hlk, htr, htab, hnm, hRf, hRl, hRc, hRs, hK⟩ := id C
  exact lv_istore (x := x) hx hb dg (mw_al_has hL) hn rfl (fun ls9 h9 => k G p l e R s m args below meth c mc msl H locs cells slots ls9 C hc hs hR hS (mw_L_set (ls := a0 :: a1 :: a2 :: a3 :: a4 :: a5 :: a6 :: a7 :: a8 :: a9 :: a10 :: a11 :: a12 :: a13 :: a14 :: r) (i := 14) (v := .int x) hL rfl rfl h9))
theorem mw_iinc_14 {n : Int} {x v : Int32} {a0 a1 a2 a3 a4 a5 a6 a7 a8 a9 a10 a11 a12 a13 : Option Value} {r : List (Option Value)} (dg : decode y.2.1 pc = .ok (.iinc 14 n, 3)) (hn : 14 < y.2.2.1) (hv : x + Int32.ofInt n = v) (k : mw_W y d kc ks (pc + 3) (a0 :: a1 :: a2 :: a3 :: a4 :: a5 :: a6 :: a7 :: a8 :: a9 :: a10 :: a11 :: a12 :: a13 :: some (.int v) :: r) (st) h Po) : mw_W y d kc ks (pc) (a0 :: a1 :: a2 :: a3 :: a4 :: a5 :: a6 :: a7 :: a8 :: a9 :: a10 :: a11 :: a12 :: a13 :: some (.int x) :: r) (st) h Po := by
  intro G p l e R s m args below meth c mc msl H locs cells slots lsA C hc hs hR hS hL
  obtain ⟨hx, hb, hr, hml, hown, hlk, htr, htab, hnm, hRf, hRl, hRc, hRs, hK⟩ := id C
  obtain ⟨k9, hk9⟩ := List.getElem?_of_mem (mw_al_mem (G := G) (ls := a0 :: a1 :: a2 :: a3 :: a4 :: a5 :: a6 :: a7 :: a8 :: a9 :: a10 :: a11 :: a12 :: a13 :: some (.int x) :: r) (i := 14) (v := .int x) rfl rfl)
  exact lv_iinc hx hb dg (mw_al_has hL) hk9 hv hn rfl (fun ls9 h9 => k G p l e R s m args below meth c mc msl H locs cells slots ls9 C hc hs hR hS (mw_L_set (ls := a0 :: a1 :: a2 :: a3 :: a4 :: a5 :: a6 :: a7 :: a8 :: a9 :: a10 :: a11 :: a12 :: a13 :: some (.int x) :: r) (i := 14) (v := .int v) hL rfl rfl h9))
theorem mw_istore_15 {a0 a1 a2 a3 a4 a5 a6 a7 a8 a9 a10 a11 a12 a13 a14 a15 : Option Value} {r : List (Option Value)} {x : Int32} (dg : decode y.2.1 pc = .ok (.istore 15, 2)) (hn : 15 < y.2.2.1) (k : mw_W y d kc ks (pc + 2) (a0 :: a1 :: a2 :: a3 :: a4 :: a5 :: a6 :: a7 :: a8 :: a9 :: a10 :: a11 :: a12 :: a13 :: a14 :: some (.int x) :: r) (st) h Po) : mw_W y d kc ks (pc) (a0 :: a1 :: a2 :: a3 :: a4 :: a5 :: a6 :: a7 :: a8 :: a9 :: a10 :: a11 :: a12 :: a13 :: a14 :: a15 :: r) (.int x :: st) h Po := by
  intro G p l e R s m args below meth c mc msl H locs cells slots lsA C hc hs hR hS hL
  obtain ⟨hx, hb, hr, hml, hown, hlk, htr, htab, hnm, hRf, hRl, hRc, hRs, hK⟩ := id C
  exact lv_istore (x := x) hx hb dg (mw_al_has hL) hn rfl (fun ls9 h9 => k G p l e R s m args below meth c mc msl H locs cells slots ls9 C hc hs hR hS (mw_L_set (ls := a0 :: a1 :: a2 :: a3 :: a4 :: a5 :: a6 :: a7 :: a8 :: a9 :: a10 :: a11 :: a12 :: a13 :: a14 :: a15 :: r) (i := 15) (v := .int x) hL rfl rfl h9))
theorem mw_iinc_15 {n : Int} {x v : Int32} {a0 a1 a2 a3 a4 a5 a6 a7 a8 a9 a10 a11 a12 a13 a14 : Option Value} {r : List (Option Value)} (dg : decode y.2.1 pc = .ok (.iinc 15 n, 3)) (hn : 15 < y.2.2.1) (hv : x + Int32.ofInt n = v) (k : mw_W y d kc ks (pc + 3) (a0 :: a1 :: a2 :: a3 :: a4 :: a5 :: a6 :: a7 :: a8 :: a9 :: a10 :: a11 :: a12 :: a13 :: a14 :: some (.int v) :: r) (st) h Po) : mw_W y d kc ks (pc) (a0 :: a1 :: a2 :: a3 :: a4 :: a5 :: a6 :: a7 :: a8 :: a9 :: a10 :: a11 :: a12 :: a13 :: a14 :: some (.int x) :: r) (st) h Po := by
  intro G p l e R s m args below meth c mc msl H locs cells slots lsA C hc hs hR hS hL
  obtain ⟨hx, hb, hr, hml, hown, hlk, htr, htab, hnm, hRf, hRl, hRc, hRs, hK⟩ := id C
  obtain ⟨k9, hk9⟩ := List.getElem?_of_mem (mw_al_mem (G := G) (ls := a0 :: a1 :: a2 :: a3 :: a4 :: a5 :: a6 :: a7 :: a8 :: a9 :: a10 :: a11 :: a12 :: a13 :: a14 :: some (.int x) :: r) (i := 15) (v := .int x) rfl rfl)
  exact lv_iinc hx hb dg (mw_al_has hL) hk9 hv hn rfl (fun ls9 h9 => k G p l e R s m args below meth c mc msl H locs cells slots ls9 C hc hs hR hS (mw_L_set (ls := a0 :: a1 :: a2 :: a3 :: a4 :: a5 :: a6 :: a7 :: a8 :: a9 :: a10 :: a11 :: a12 :: a13 :: a14 :: some (.int x) :: r) (i := 15) (v := .int v) hL rfl rfl h9))
theorem mw_istore_16 {a0 a1 a2 a3 a4 a5 a6 a7 a8 a9 a10 a11 a12 a13 a14 a15 a16 : Option Value} {r : List (Option Value)} {x : Int32} (dg : decode y.2.1 pc = .ok (.istore 16, 2)) (hn : 16 < y.2.2.1) (k : mw_W y d kc ks (pc + 2) (a0 :: a1 :: a2 :: a3 :: a4 :: a5 :: a6 :: a7 :: a8 :: a9 :: a10 :: a11 :: a12 :: a13 :: a14 :: a15 :: some (.int x) :: r) (st) h Po) : mw_W y d kc ks (pc) (a0 :: a1 :: a2 :: a3 :: a4 :: a5 :: a6 :: a7 :: a8 :: a9 :: a10 :: a11 :: a12 :: a13 :: a14 :: a15 :: a16 :: r) (.int x :: st) h Po := by
  intro G p l e R s m args below meth c mc msl H locs cells slots lsA C hc hs hR hS hL
  obtain ⟨hx, hb, hr, hml, hown, hlk, htr, htab, hnm, hRf, hRl, hRc, hRs, hK⟩ := id C
  exact lv_istore (x := x) hx hb dg (mw_al_has hL) hn rfl (fun ls9 h9 => k G p l e R s m args below meth c mc msl H locs cells slots ls9 C hc hs hR hS (mw_L_set (ls := a0 :: a1 :: a2 :: a3 :: a4 :: a5 :: a6 :: a7 :: a8 :: a9 :: a10 :: a11 :: a12 :: a13 :: a14 :: a15 :: a16 :: r) (i := 16) (v := .int x) hL rfl rfl h9))
theorem mw_iinc_16 {n : Int} {x v : Int32} {a0 a1 a2 a3 a4 a5 a6 a7 a8 a9 a10 a11 a12 a13 a14 a15 : Option Value} {r : List (Option Value)} (dg : decode y.2.1 pc = .ok (.iinc 16 n, 3)) (hn : 16 < y.2.2.1) (hv : x + Int32.ofInt n = v) (k : mw_W y d kc ks (pc + 3) (a0 :: a1 :: a2 :: a3 :: a4 :: a5 :: a6 :: a7 :: a8 :: a9 :: a10 :: a11 :: a12 :: a13 :: a14 :: a15 :: some (.int v) :: r) (st) h Po) : mw_W y d kc ks (pc) (a0 :: a1 :: a2 :: a3 :: a4 :: a5 :: a6 :: a7 :: a8 :: a9 :: a10 :: a11 :: a12 :: a13 :: a14 :: a15 :: some (.int x) :: r) (st) h Po := by
  intro G p l e R s m args below meth c mc msl H locs cells slots lsA C hc hs hR hS hL
  obtain ⟨hx, hb, hr, hml, hown, hlk, htr, htab, hnm, hRf, hRl, hRc, hRs, hK⟩ := id C
  obtain ⟨k9, hk9⟩ := List.getElem?_of_mem (mw_al_mem (G := G) (ls := a0 :: a1 :: a2 :: a3 :: a4 :: a5 :: a6 :: a7 :: a8 :: a9 :: a10 :: a11 :: a12 :: a13 :: a14 :: a15 :: some (.int x) :: r) (i := 16) (v := .int x) rfl rfl)
  exact lv_iinc hx hb dg (mw_al_has hL) hk9 hv hn rfl (fun ls9 h9 => k G p l e R s m args below meth c mc msl H locs cells slots ls9 C hc hs hR hS (mw_L_set (ls := a0 :: a1 :: a2 :: a3 :: a4 :: a5 :: a6 :: a7 :: a8 :: a9 :: a10 :: a11 :: a12 :: a13 :: a14 :: a15 :: some (.int x) :: r) (i := 16) (v := .int v) hL rfl rfl h9))
theorem mw_istore_17 {a0 a1 a2 a3 a4 a5 a6 a7 a8 a9 a10 a11 a12 a13 a14 a15 a16 a17 : Option Value} {r : List (Option Value)} {x : Int32} (dg : decode y.2.1 pc = .ok (.istore 17, 2)) (hn : 17 < y.2.2.1) (k : mw_W y d kc ks (pc + 2) (a0 :: a1 :: a2 :: a3 :: a4 :: a5 :: a6 :: a7 :: a8 :: a9 :: a10 :: a11 :: a12 :: a13 :: a14 :: a15 :: a16 :: some (.int x) :: r) (st) h Po) : mw_W y d kc ks (pc) (a0 :: a1 :: a2 :: a3 :: a4 :: a5 :: a6 :: a7 :: a8 :: a9 :: a10 :: a11 :: a12 :: a13 :: a14 :: a15 :: a16 :: a17 :: r) (.int x :: st) h Po := by
  intro G p l e R s m args below meth c mc msl H locs cells slots lsA C hc hs hR hS hL
  obtain ⟨hx, hb, hr, hml, hown, hlk, htr, htab, hnm, hRf, hRl, hRc, hRs, hK⟩ := id C
  exact lv_istore (x := x) hx hb dg (mw_al_has hL) hn rfl (fun ls9 h9 => k G p l e R s m args below meth c mc msl H locs cells slots ls9 C hc hs hR hS (mw_L_set (ls := a0 :: a1 :: a2 :: a3 :: a4 :: a5 :: a6 :: a7 :: a8 :: a9 :: a10 :: a11 :: a12 :: a13 :: a14 :: a15 :: a16 :: a17 :: r) (i := 17) (v := .int x) hL rfl rfl h9))
theorem mw_iinc_17 {n : Int} {x v : Int32} {a0 a1 a2 a3 a4 a5 a6 a7 a8 a9 a10 a11 a12 a13 a14 a15 a16 : Option Value} {r : List (Option Value)} (dg : decode y.2.1 pc = .ok (.iinc 17 n, 3)) (hn : 17 < y.2.2.1) (hv : x + Int32.ofInt n = v) (k : mw_W y d kc ks (pc + 3) (a0 :: a1 :: a2 :: a3 :: a4 :: a5 :: a6 :: a7 :: a8 :: a9 :: a10 :: a11 :: a12 :: a13 :: a14 :: a15 :: a16 :: some (.int v) :: r) (st) h Po) : mw_W y d kc ks (pc) (a0 :: a1 :: a2 :: a3 :: a4 :: a5 :: a6 :: a7 :: a8 :: a9 :: a10 :: a11 :: a12 :: a13 :: a14 :: a15 :: a16 :: some (.int x) :: r) (st) h Po := by
  intro G p l e R s m args below meth c mc msl H locs cells slots lsA C hc hs hR hS hL
  obtain ⟨hx, hb, hr, hml, hown, hlk, htr, htab, hnm, hRf, hRl, hRc, hRs, hK⟩ := id C
  obtain ⟨k9, hk9⟩ := List.getElem?_of_mem (mw_al_mem (G := G) (ls := a0 :: a1 :: a2 :: a3 :: a4 :: a5 :: a6 :: a7 :: a8 :: a9 :: a10 :: a11 :: a12 :: a13 :: a14 :: a15 :: a16 :: some (.int x) :: r) (i := 17) (v := .int x) rfl rfl)
  exact lv_iinc hx hb dg (mw_al_has hL) hk9 hv hn rfl (fun ls9 h9 => k G p l e R s m args below meth c mc msl H locs cells slots ls9 C hc hs hR hS (mw_L_set (ls := a0 :: a1 :: a2 :: a3 :: a4 :: a5 :: a6 :: a7 :: a8 :: a9 :: a10 :: a11 :: a12 :: a13 :: a14 :: a15 :: a16 :: some (.int x) :: r) (i := 17) (v := .int v) hL rfl rfl h9))
theorem mw_istore_18 {a0 a1 a2 a3 a4 a5 a6 a7 a8 a9 a10 a11 a12 a13 a14 a15 a16 a17 a18 : Option Value} {r : List (Option Value)} {x : Int32} (dg : decode y.2.1 pc = .ok (.istore 18, 2)) (hn : 18 < y.2.2.1) (k : mw_W y d kc ks (pc + 2) (a0 :: a1 :: a2 :: a3 :: a4 :: a5 :: a6 :: a7 :: a8 :: a9 :: a10 :: a11 :: a12 :: a13 :: a14 :: a15 :: a16 :: a17 :: some (.int x) :: r) (st) h Po) : mw_W y d kc ks (pc) (a0 :: a1 :: a2 :: a3 :: a4 :: a5 :: a6 :: a7 :: a8 :: a9 :: a10 :: a11 :: a12 :: a13 :: a14 :: a15 :: a16 :: a17 :: a18 :: r) (.int x :: st) h Po := by
  intro G p l e R s m args below meth c mc msl H locs cells slots lsA C hc hs hR hS hL
  obtain ⟨hx, hb, hr, hml, hown, hlk, htr, htab, hnm, hRf, hRl, hRc, hRs, hK⟩ := id C
  exact lv_istore (x := x) hx hb dg (mw_al_has hL) hn rfl (fun ls9 h9 => k G p l e R s m args below meth c mc msl H locs cells slots ls9 C hc hs hR hS (mw_L_set (ls := a0 :: a1 :: a2 :: a3 :: a4 :: a5 :: a6 :: a7 :: a8 :: a9 :: a10 :: a11 :: a12 :: a13 :: a14 :: a15 :: a16 :: a17 :: a18 :: r) (i := 18) (v := .int x) hL rfl rfl h9))
theorem mw_iinc_18 {n : Int} {x v : Int32} {a0 a1 a2 a3 a4 a5 a6 a7 a8 a9 a10 a11 a12 a13 a14 a15 a16 a17 : Option Value} {r : List (Option Value)} (dg : decode y.2.1 pc = .ok (.iinc 18 n, 3)) (hn : 18 < y.2.2.1) (hv : x + Int32.ofInt n = v) (k : mw_W y d kc ks (pc + 3) (a0 :: a1 :: a2 :: a3 :: a4 :: a5 :: a6 :: a7 :: a8 :: a9 :: a10 :: a11 :: a12 :: a13 :: a14 :: a15 :: a16 :: a17 :: some (.int v) :: r) (st) h Po) : mw_W y d kc ks (pc) (a0 :: a1 :: a2 :: a3 :: a4 :: a5 :: a6 :: a7 :: a8 :: a9 :: a10 :: a11 :: a12 :: a13 :: a14 :: a15 :: a16 :: a17 :: some (.int x) :: r) (st) h Po := by
  intro G p l e R s m args below meth c mc msl H locs cells slots lsA C hc hs hR hS hL
  obtain ⟨hx, hb, hr, hml, hown, hlk, htr, htab, hnm, hRf, hRl, hRc, hRs, hK⟩ := id C
  obtain ⟨k9, hk9⟩ := List.getElem?_of_mem (mw_al_mem (G := G) (ls := a0 :: a1 :: a2 :: a3 :: a4 :: a5 :: a6 :: a7 :: a8 :: a9 :: a10 :: a11 :: a12 :: a13 :: a14 :: a15 :: a16 :: a17 :: some (.int x) :: r) (i := 18) (v := .int x) rfl rfl)
  exact lv_iinc hx hb dg (mw_al_has hL) hk9 hv hn rfl (fun ls9 h9 => k G p l e R s m args below meth c mc msl H locs cells slots ls9 C hc hs hR hS (mw_L_set (ls := a0 :: a1 :: a2 :: a3 :: a4 :: a5 :: a6 :: a7 :: a8 :: a9 :: a10 :: a11 :: a12 :: a13 :: a14 :: a15 :: a16 :: a17 :: some (.int x) :: r) (i := 18) (v := .int v) hL rfl rfl h9))
theorem mw_istore_19 {a0 a1 a2 a3 a4 a5 a6 a7 a8 a9 a10 a11 a12 a13 a14 a15 a16 a17 a18 a19 : Option Value} {r : List (Option Value)} {x : Int32} (dg : decode y.2.1 pc = .ok (.istore 19, 2)) (hn : 19 < y.2.2.1) (k : mw_W y d kc ks (pc + 2) (a0 :: a1 :: a2 :: a3 :: a4 :: a5 :: a6 :: a7 :: a8 :: a9 :: a10 :: a11 :: a12 :: a13 :: a14 :: a15 :: a16 :: a17 :: a18 :: some (.int x) :: r) (st) h Po) : mw_W y d kc ks (pc) (a0 :: a1 :: a2 :: a3 :: a4 :: a5 :: a6 :: a7 :: a8 :: a9 :: a10 :: a11 :: a12 :: a13 :: a14 :: a15 :: a16 :: a17 :: a18 :: a19 :: r) (.int x :: st) h Po := by
  intro G p l e R s m args below meth c mc msl H locs cells slots lsA C hc hs hR hS hL
  obtain ⟨hx, hb, hr, hml, hown, hlk, htr, htab, hnm, hRf, hRl, hRc, hRs, hK⟩ := id C
  exact lv_istore (x := x) hx hb dg (mw_al_has hL) hn rfl (fun ls9 h9 => k G p l e R s m args below meth c mc msl H locs cells slots ls9 C hc hs hR hS (mw_L_set (ls := a0 :: a1 :: a2 :: a3 :: a4 :: a5 :: a6 :: a7 :: a8 :: a9 :: a10 :: a11 :: a12 :: a13 :: a14 :: a15 :: a16 :: a17 :: a18 :: a19 :: r) (i := 19) (v := .int x) hL rfl rfl h9))
theorem mw_istore_20 {a0 a1 a2 a3 a4 a5 a6 a7 a8 a9 a10 a11 a12 a13 a14 a15 a16 a17 a18 a19 a20 : Option Value} {r : List (Option Value)} {x : Int32} (dg : decode y.2.1 pc = .ok (.istore 20, 2)) (hn : 20 < y.2.2.1) (k : mw_W y d kc ks (pc + 2) (a0 :: a1 :: a2 :: a3 :: a4 :: a5 :: a6 :: a7 :: a8 :: a9 :: a10 :: a11 :: a12 :: a13 :: a14 :: a15 :: a16 :: a17 :: a18 :: a19 :: some (.int x) :: r) (st) h Po) : mw_W y d kc ks (pc) (a0 :: a1 :: a2 :: a3 :: a4 :: a5 :: a6 :: a7 :: a8 :: a9 :: a10 :: a11 :: a12 :: a13 :: a14 :: a15 :: a16 :: a17 :: a18 :: a19 :: a20 :: r) (.int x :: st) h Po := by
  intro G p l e R s m args below meth c mc msl H locs cells slots lsA C hc hs hR hS hL
  obtain ⟨hx, hb, hr, hml, hown, hlk, htr, htab, hnm, hRf, hRl, hRc, hRs, hK⟩ := id C
  exact lv_istore (x := x) hx hb dg (mw_al_has hL) hn rfl (fun ls9 h9 => k G p l e R s m args below meth c mc msl H locs cells slots ls9 C hc hs hR hS (mw_L_set (ls := a0 :: a1 :: a2 :: a3 :: a4 :: a5 :: a6 :: a7 :: a8 :: a9 :: a10 :: a11 :: a12 :: a13 :: a14 :: a15 :: a16 :: a17 :: a18 :: a19 :: a20 :: r) (i := 20) (v := .int x) hL rfl rfl h9))
theorem mw_istore_21 {a0 a1 a2 a3 a4 a5 a6 a7 a8 a9 a10 a11 a12 a13 a14 a15 a16 a17 a18 a19 a20 a21 : Option Value} {r : List (Option Value)} {x : Int32} (dg : decode y.2.1 pc = .ok (.istore 21, 2)) (hn : 21 < y.2.2.1) (k : mw_W y d kc ks (pc + 2) (a0 :: a1 :: a2 :: a3 :: a4 :: a5 :: a6 :: a7 :: a8 :: a9 :: a10 :: a11 :: a12 :: a13 :: a14 :: a15 :: a16 :: a17 :: a18 :: a19 :: a20 :: some (.int x) :: r) (st) h Po) : mw_W y d kc ks (pc) (a0 :: a1 :: a2 :: a3 :: a4 :: a5 :: a6 :: a7 :: a8 :: a9 :: a10 :: a11 :: a12 :: a13 :: a14 :: a15 :: a16 :: a17 :: a18 :: a19 :: a20 :: a21 :: r) (.int x :: st) h Po := by
  intro G p l e R s m args below meth c mc msl H locs cells slots lsA C hc hs hR hS hL
  obtain ⟨hx, hb, hr, hml, hown, hlk, htr, htab, hnm, hRf, hRl, hRc, hRs, hK⟩ := id C
  exact lv_istore (x := x) hx hb dg (mw_al_has hL) hn rfl (fun ls9 h9 => k G p l e R s m args below meth c mc msl H locs cells slots ls9 C hc hs hR hS (mw_L_set (ls := a0 :: a1 :: a2 :: a3 :: a4 :: a5 :: a6 :: a7 :: a8 :: a9 :: a10 :: a11 :: a12 :: a13 :: a14 :: a15 :: a16 :: a17 :: a18 :: a19 :: a20 :: a21 :: r) (i := 21) (v := .int x) hL rfl rfl h9))
theorem mw_iinc_21 {n : Int} {x v : Int32} {a0 a1 a2 a3 a4 a5 a6 a7 a8 a9 a10 a11 a12 a13 a14 a15 a16 a17 a18 a19 a20 : Option Value} {r : List (Option Value)} (dg : decode y.2.1 pc = .ok (.iinc 21 n, 3)) (hn : 21 < y.2.2.1) (hv : x + Int32.ofInt n = v) (k : mw_W y d kc ks (pc + 3) (a0 :: a1 :: a2 :: a3 :: a4 :: a5 :: a6 :: a7 :: a8 :: a9 :: a10 :: a11 :: a12 :: a13 :: a14 :: a15 :: a16 :: a17 :: a18 :: a19 :: a20 :: some (.int v) :: r) (st) h Po) : mw_W y d kc ks (pc) (a0 :: a1 :: a2 :: a3 :: a4 :: a5 :: a6 :: a7 :: a8 :: a9 :: a10 :: a11 :: a12 :: a13 :: a14 :: a15 :: a16 :: a17 :: a18 :: a19 :: a20 :: some (.int x) :: r) (st) h Po := by
  intro G p l e R s m args below meth c mc msl H locs cells slots lsA C hc hs hR hS hL
  obtain ⟨hx, hb, hr, hml, hown, hlk, htr, htab, hnm, hRf, hRl, hRc, hRs, hK⟩ := id C
  obtain ⟨k9, hk9⟩ := List.getElem?_of_mem (mw_al_mem (G := G) (ls := a0 :: a1 :: a2 :: a3 :: a4 :: a5 :: a6 :: a7 :: a8 :: a9 :: a10 :: a11 :: a12 :: a13 :: a14 :: a15 :: a16 :: a17 :: a18 :: a19 :: a20 :: some (.int x) :: r) (i := 21) (v := .int x) rfl rfl)
  exact lv_iinc hx hb dg (mw_al_has hL) hk9 hv hn rfl (fun ls9 h9 => k G p l e R s m args below meth c mc msl H locs cells slots ls9 C hc hs hR hS (mw_L_set (ls := a0 :: a1 :: a2 :: a3 :: a4 :: a5 :: a6 :: a7 :: a8 :: a9 :: a10 :: a11 :: a12 :: a13 :: a14 :: a15 :: a16 :: a17 :: a18 :: a19 :: a20 :: some (.int x) :: r) (i := 21) (v := .int v) hL rfl rfl h9))
theorem mw_istore_22 {a0 a1 a2 a3 a4 a5 a6 a7 a8 a9 a10 a11 a12 a13 a14 a15 a16 a17 a18 a19 a20 a21 a22 : Option Value} {r : List (Option Value)} {x : Int32} (dg : decode y.2.1 pc = .ok (.istore 22, 2)) (hn : 22 < y.2.2.1) (k : mw_W y d kc ks (pc + 2) (a0 :: a1 :: a2 :: a3 :: a4 :: a5 :: a6 :: a7 :: a8 :: a9 :: a10 :: a11 :: a12 :: a13 :: a14 :: a15 :: a16 :: a17 :: a18 :: a19 :: a20 :: a21 :: some (.int x) :: r) (st) h Po) : mw_W y d kc ks (pc) (a0 :: a1 :: a2 :: a3 :: a4 :: a5 :: a6 :: a7 :: a8 :: a9 :: a10 :: a11 :: a12 :: a13 :: a14 :: a15 :: a16 :: a17 :: a18 :: a19 :: a20 :: a21 :: a22 :: r) (.int x :: st) h Po := by
  intro G p l e R s m args below meth c mc msl H locs cells slots lsA C hc hs hR hS hL
  obtain ⟨hx, hb, hr, hml, hown, hlk, htr, htab, hnm, hRf, hRl, hRc, hRs, hK⟩ := id C
  exact lv_istore (x := x) hx hb dg (mw_al_has hL) hn rfl (fun ls9 h9 => k G p l e R s m args below meth c mc msl H locs cells slots ls9 C hc hs hR hS (mw_L_set (ls := a0 :: a1 :: a2 :: a3 :: a4 :: a5 :: a6 :: a7 :: a8 :: a9 :: a10 :: a11 :: a12 :: a13 :: a14 :: a15 :: a16 :: a17 :: a18 :: a19 :: a20 :: a21 :: a22 :: r) (i := 22) (v := .int x) hL rfl rfl h9))
theorem mw_iinc_22 {n : Int} {x v : Int32} {a0 a1 a2 a3 a4 a5 a6 a7 a8 a9 a10 a11 a12 a13 a14 a15 a16 a17 a18 a19 a20 a21 : Option Value} {r : List (Option Value)} (dg : decode y.2.1 pc = .ok (.iinc 22 n, 3)) (hn : 22 < y.2.2.1) (hv : x + Int32.ofInt n = v) (k : mw_W y d kc ks (pc + 3) (a0 :: a1 :: a2 :: a3 :: a4 :: a5 :: a6 :: a7 :: a8 :: a9 :: a10 :: a11 :: a12 :: a13 :: a14 :: a15 :: a16 :: a17 :: a18 :: a19 :: a20 :: a21 :: some (.int v) :: r) (st) h Po) : mw_W y d kc ks (pc) (a0 :: a1 :: a2 :: a3 :: a4 :: a5 :: a6 :: a7 :: a8 :: a9 :: a10 :: a11 :: a12 :: a13 :: a14 :: a15 :: a16 :: a17 :: a18 :: a19 :: a20 :: a21 :: some (.int x) :: r) (st) h Po := by
  intro G p l e R s m args below meth c mc msl H locs cells slots lsA C hc hs hR hS hL
  obtain ⟨hx, hb, hr, hml, hown, hlk, htr, htab, hnm, hRf, hRl, hRc, hRs, hK⟩ := id C
  obtain ⟨k9, hk9⟩ := List.getElem?_of_mem (mw_al_mem (G := G) (ls := a0 :: a1 :: a2 :: a3 :: a4 :: a5 :: a6 :: a7 :: a8 :: a9 :: a10 :: a11 :: a12 :: a13 :: a14 :: a15 :: a16 :: a17 :: a18 :: a19 :: a20 :: a21 :: some (.int x) :: r) (i := 22) (v := .int x) rfl rfl)
  exact lv_iinc hx hb dg (mw_al_has hL) hk9 hv hn rfl (fun ls9 h9 => k G p l e R s m args below meth c mc msl H locs cells slots ls9 C hc hs hR hS (mw_L_set (ls := a0 :: a1 :: a2 :: a3 :: a4 :: a5 :: a6 :: a7 :: a8 :: a9 :: a10 :: a11 :: a12 :: a13 :: a14 :: a15 :: a16 :: a17 :: a18 :: a19 :: a20 :: a21 :: some (.int x) :: r) (i := 22) (v := .int v) hL rfl rfl h9))
theorem mw_istore_23 {a0 a1 a2 a3 a4 a5 a6 a7 a8 a9 a10 a11 a12 a13 a14 a15 a16 a17 a18 a19 a20 a21 a22 a23 : Option Value} {r : List (Option Value)} {x : Int32} (dg : decode y.2.1 pc = .ok (.istore 23, 2)) (hn : 23 < y.2.2.1) (k : mw_W y d kc ks (pc + 2) (a0 :: a1 :: a2 :: a3 :: a4 :: a5 :: a6 :: a7 :: a8 :: a9 :: a10 :: a11 :: a12 :: a13 :: a14 :: a15 :: a16 :: a17 :: a18 :: a19 :: a20 :: a21 :: a22 :: some (.int x) :: r) (st) h Po) : mw_W y d kc ks (pc) (a0 :: a1 :: a2 :: a3 :: a4 :: a5 :: a6 :: a7 :: a8 :: a9 :: a10 :: a11 :: a12 :: a13 :: a14 :: a15 :: a16 :: a17 :: a18 :: a19 :: a20 :: a21 :: a22 :: a23 :: r) (.int x :: st) h Po := by
  intro G p l e R s m args below meth c mc msl H locs cells slots lsA C hc hs hR hS hL
  obtain ⟨hx, hb, hr, hml, hown, hlk, htr, htab, hnm, hRf, hRl, hRc, hRs, hK⟩ := id C
  exact lv_istore (x := x) hx hb dg (mw_al_has hL) hn rfl (fun ls9 h9 => k G p l e R s m args below meth c mc msl H locs cells slots ls9 C hc hs hR hS (mw_L_set (ls := a0 :: a1 :: a2 :: a3 :: a4 :: a5 :: a6 :: a7 :: a8 :: a9 :: a10 :: a11 :: a12 :: a13 :: a14 :: a15 :: a16 :: a17 :: a18 :: a19 :: a20 :: a21 :: a22 :: a23 :: r) (i := 23) (v := .int x) hL rfl rfl h9))
theorem mw_istore_24 {a0 a1 a2 a3 a4 a5 a6 a7 a8 a9 a10 a11 a12 a13 a14 a15 a16 a17 a18 a19 a20 a21 a22 a23 a24 : Option Value} {r : List (Option Value)} {x : Int32} (dg : decode y.2.1 pc = .ok (.istore 24, 2)) (hn : 24 < y.2.2.1) (k : mw_W y d kc ks (pc + 2) (a0 :: a1 :: a2 :: a3 :: a4 :: a5 :: a6 :: a7 :: a8 :: a9 :: a10 :: a11 :: a12 :: a13 :: a14 :: a15 :: a16 :: a17 :: a18 :: a19 :: a20 :: a21 :: a22 :: a23 :: some (.int x) :: r) (st) h Po) : mw_W y d kc ks (pc) (a0 :: a1 :: a2 :: a3 :: a4 :: a5 :: a6 :: a7 :: a8 :: a9 :: a10 :: a11 :: a12 :: a13 :: a14 :: a15 :: a16 :: a17 :: a18 :: a19 :: a20 :: a21 :: a22 :: a23 :: a24 :: r) (.int x :: st) h Po := by
  intro G p l e R s m args below meth c mc msl H locs cells slots lsA C hc hs hR hS hL
  obtain ⟨hx, hb, hr, hml, hown, hlk, htr, htab, hnm, hRf, hRl, hRc, hRs, hK⟩ := id C
  exact lv_istore (x := x) hx hb dg (mw_al_has hL) hn rfl (fun ls9 h9 => k G p l e R s m args below meth c mc msl H locs cells slots ls9 C hc hs hR hS (mw_L_set (ls := a0 :: a1 :: a2 :: a3 :: a4 :: a5 :: a6 :: a7 :: a8 :: a9 :: a10 :: a11 :: a12 :: a13 :: a14 :: a15 :: a16 :: a17 :: a18 :: a19 :: a20 :: a21 :: a22 :: a23 :: a24 :: r) (i := 24) (v := .int x) hL rfl rfl h9))
theorem mw_istore_25 {a0 a1 a2 a3 a4 a5 a6 a7 a8 a9 a10 a11 a12 a13 a14 a15 a16 a17 a18 a19 a20 a21 a22 a23 a24 a25 : Option Value} {r : List (Option Value)} {x : Int32} (dg : decode y.2.1 pc = .ok (.istore 25, 2)) (hn : 25 < y.2.2.1) (k : mw_W y d kc ks (pc + 2) (a0 :: a1 :: a2 :: a3 :: a4 :: a5 :: a6 :: a7 :: a8 :: a9 :: a10 :: a11 :: a12 :: a13 :: a14 :: a15 :: a16 :: a17 :: a18 :: a19 :: a20 :: a21 :: a22 :: a23 :: a24 :: some (.int x) :: r) (st) h Po) : mw_W y d kc ks (pc) (a0 :: a1 :: a2 :: a3 :: a4 :: a5 :: a6 :: a7 :: a8 :: a9 :: a10 :: a11 :: a12 :: a13 :: a14 :: a15 :: a16 :: a17 :: a18 :: a19 :: a20 :: a21 :: a22 :: a23 :: a24 :: a25 :: r) (.int x :: st) h Po := by
  intro G p l e R s m args below meth c mc msl H locs cells slots lsA C hc hs hR hS hL
  obtain ⟨hx, hb, hr, hml, hown, hlk, htr, htab, hnm, hRf, hRl, hRc, hRs, hK⟩ := id C
  exact lv_istore (x := x) hx hb dg (mw_al_has hL) hn rfl (fun ls9 h9 => k G p l e R s m args below meth c mc msl H locs cells slots ls9 C hc hs hR hS (mw_L_set (ls := a0 :: a1 :: a2 :: a3 :: a4 :: a5 :: a6 :: a7 :: a8 :: a9 :: a10 :: a11 :: a12 :: a13 :: a14 :: a15 :: a16 :: a17 :: a18 :: a19 :: a20 :: a21 :: a22 :: a23 :: a24 :: a25 :: r) (i := 25) (v := .int x) hL rfl rfl h9))
theorem mw_istore_26 {a0 a1 a2 a3 a4 a5 a6 a7 a8 a9 a10 a11 a12 a13 a14 a15 a16 a17 a18 a19 a20 a21 a22 a23 a24 a25 a26 : Option Value} {r : List (Option Value)} {x : Int32} (dg : decode y.2.1 pc = .ok (.istore 26, 2)) (hn : 26 < y.2.2.1) (k : mw_W y d kc ks (pc + 2) (a0 :: a1 :: a2 :: a3 :: a4 :: a5 :: a6 :: a7 :: a8 :: a9 :: a10 :: a11 :: a12 :: a13 :: a14 :: a15 :: a16 :: a17 :: a18 :: a19 :: a20 :: a21 :: a22 :: a23 :: a24 :: a25 :: some (.int x) :: r) (st) h Po) : mw_W y d kc ks (pc) (a0 :: a1 :: a2 :: a3 :: a4 :: a5 :: a6 :: a7 :: a8 :: a9 :: a10 :: a11 :: a12 :: a13 :: a14 :: a15 :: a16 :: a17 :: a18 :: a19 :: a20 :: a21 :: a22 :: a23 :: a24 :: a25 :: a26 :: r) (.int x :: st) h Po := by
  intro G p l e R s m args below meth c mc msl H locs cells slots lsA C hc hs hR hS hL
  obtain ⟨hx, hb, hr, hml, hown, hlk, htr, htab, hnm, hRf, hRl, hRc, hRs, hK⟩ := id C
  exact lv_istore (x := x) hx hb dg (mw_al_has hL) hn rfl (fun ls9 h9 => k G p l e R s m args below meth c mc msl H locs cells slots ls9 C hc hs hR hS (mw_L_set (ls := a0 :: a1 :: a2 :: a3 :: a4 :: a5 :: a6 :: a7 :: a8 :: a9 :: a10 :: a11 :: a12 :: a13 :: a14 :: a15 :: a16 :: a17 :: a18 :: a19 :: a20 :: a21 :: a22 :: a23 :: a24 :: a25 :: a26 :: r) (i := 26) (v := .int x) hL rfl rfl h9))
theorem mw_lstore_27 {a0 a1 a2 a3 a4 a5 a6 a7 a8 a9 a10 a11 a12 a13 a14 a15 a16 a17 a18 a19 a20 a21 a22 a23 a24 a25 a26 a27 a28 : Option Value} {r : List (Option Value)} {x : Int64} (dg : decode y.2.1 pc = .ok (.lstore 27, 2)) (hn : 27 + 1 < y.2.2.1) (k : mw_W y d kc ks (pc + 2) (a0 :: a1 :: a2 :: a3 :: a4 :: a5 :: a6 :: a7 :: a8 :: a9 :: a10 :: a11 :: a12 :: a13 :: a14 :: a15 :: a16 :: a17 :: a18 :: a19 :: a20 :: a21 :: a22 :: a23 :: a24 :: a25 :: a26 :: some (.long x) :: none :: r) (st) h Po) : mw_W y d kc ks (pc) (a0 :: a1 :: a2 :: a3 :: a4 :: a5 :: a6 :: a7 :: a8 :: a9 :: a10 :: a11 :: a12 :: a13 :: a14 :: a15 :: a16 :: a17 :: a18 :: a19 :: a20 :: a21 :: a22 :: a23 :: a24 :: a25 :: a26 :: a27 :: a28 :: r) (.long x :: st) h Po := by
  intro G p l e R s m args below meth c mc msl H locs cells slots lsA C hc hs hR hS hL
  obtain ⟨hx, hb, hr, hml, hown, hlk, htr, htab, hnm, hRf, hRl, hRc, hRs, hK⟩ := id C
  exact lv_lstore (x := x) hx hb dg (mw_al_has hL) hn rfl (fun ls9 h9 => k G p l e R s m args below meth c mc msl H locs cells slots ls9 C hc hs hR hS (mw_L_set2 (ls := a0 :: a1 :: a2 :: a3 :: a4 :: a5 :: a6 :: a7 :: a8 :: a9 :: a10 :: a11 :: a12 :: a13 :: a14 :: a15 :: a16 :: a17 :: a18 :: a19 :: a20 :: a21 :: a22 :: a23 :: a24 :: a25 :: a26 :: a27 :: a28 :: r) (i := 27) (v := .long x) hL rfl h9))
theorem mw_lstore_29 {a0 a1 a2 a3 a4 a5 a6 a7 a8 a9 a10 a11 a12 a13 a14 a15 a16 a17 a18 a19 a20 a21 a22 a23 a24 a25 a26 a27 a28 a29 a30 : Option Value} {r : List (Option Value)} {x : Int64} (dg : decode y.2.1 pc = .ok (.lstore 29, 2)) (hn : 29 + 1 < y.2.2.1) (k : mw_W y d kc ks (pc + 2) (a0 :: a1 :: a2 :: a3 :: a4 :: a5 :: a6 :: a7 :: a8 :: a9 :: a10 :: a11 :: a12 :: a13 :: a14 :: a15 :: a16 :: a17 :: a18 :: a19 :: a20 :: a21 :: a22 :: a23 :: a24 :: a25 :: a26 :: a27 :: a28 :: some (.long x) :: none :: r) (st) h Po) : mw_W y d kc ks (pc) (a0 :: a1 :: a2 :: a3 :: a4 :: a5 :: a6 :: a7 :: a8 :: a9 :: a10 :: a11 :: a12 :: a13 :: a14 :: a15 :: a16 :: a17 :: a18 :: a19 :: a20 :: a21 :: a22 :: a23 :: a24 :: a25 :: a26 :: a27 :: a28 :: a29 :: a30 :: r) (.long x :: st) h Po := by
  intro G p l e R s m args below meth c mc msl H locs cells slots lsA C hc hs hR hS hL
  obtain ⟨hx, hb, hr, hml, hown, hlk, htr, htab, hnm, hRf, hRl, hRc, hRs, hK⟩ := id C
  exact lv_lstore (x := x) hx hb dg (mw_al_has hL) hn rfl (fun ls9 h9 => k G p l e R s m args below meth c mc msl H locs cells slots ls9 C hc hs hR hS (mw_L_set2 (ls := a0 :: a1 :: a2 :: a3 :: a4 :: a5 :: a6 :: a7 :: a8 :: a9 :: a10 :: a11 :: a12 :: a13 :: a14 :: a15 :: a16 :: a17 :: a18 :: a19 :: a20 :: a21 :: a22 :: a23 :: a24 :: a25 :: a26 :: a27 :: a28 :: a29 :: a30 :: r) (i := 29) (v := .long x) hL rfl h9))
theorem mw_istore_31 {a0 a1 a2 a3 a4 a5 a6 a7 a8 a9 a10 a11 a12 a13 a14 a15 a16 a17 a18 a19 a20 a21 a22 a23 a24 a25 a26 a27 a28 a29 a30 a31 : Option Value} {r : List (Option Value)} {x : Int32} (dg : decode y.2.1 pc = .ok (.istore 31, 2)) (hn : 31 < y.2.2.1) (k : mw_W y d kc ks (pc + 2) (a0 :: a1 :: a2 :: a3 :: a4 :: a5 :: a6 :: a7 :: a8 :: a9 :: a10 :: a11 :: a12 :: a13 :: a14 :: a15 :: a16 :: a17 :: a18 :: a19 :: a20 :: a21 :: a22 :: a23 :: a24 :: a25 :: a26 :: a27 :: a28 :: a29 :: a30 :: some (.int x) :: r) (st) h Po) : mw_W y d kc ks (pc) (a0 :: a1 :: a2 :: a3 :: a4 :: a5 :: a6 :: a7 :: a8 :: a9 :: a10 :: a11 :: a12 :: a13 :: a14 :: a15 :: a16 :: a17 :: a18 :: a19 :: a20 :: a21 :: a22 :: a23 :: a24 :: a25 :: a26 :: a27 :: a28 :: a29 :: a30 :: a31 :: r) (.int x :: st) h Po := by
  intro G p l e R s m args below meth c mc msl H locs cells slots lsA C hc hs hR hS hL
  obtain ⟨hx, hb, hr, hml, hown, hlk, htr, htab, hnm, hRf, hRl, hRc, hRs, hK⟩ := id C
  exact lv_istore (x := x) hx hb dg (mw_al_has hL) hn rfl (fun ls9 h9 => k G p l e R s m args below meth c mc msl H locs cells slots ls9 C hc hs hR hS (mw_L_set (ls := a0 :: a1 :: a2 :: a3 :: a4 :: a5 :: a6 :: a7 :: a8 :: a9 :: a10 :: a11 :: a12 :: a13 :: a14 :: a15 :: a16 :: a17 :: a18 :: a19 :: a20 :: a21 :: a22 :: a23 :: a24 :: a25 :: a26 :: a27 :: a28 :: a29 :: a30 :: a31 :: r) (i := 31) (v := .int x) hL rfl rfl h9))
theorem mw_istore_32 {a0 a1 a2 a3 a4 a5 a6 a7 a8 a9 a10 a11 a12 a13 a14 a15 a16 a17 a18 a19 a20 a21 a22 a23 a24 a25 a26 a27 a28 a29 a30 a31 a32 : Option Value} {r : List (Option Value)} {x : Int32} (dg : decode y.2.1 pc = .ok (.istore 32, 2)) (hn : 32 < y.2.2.1) (k : mw_W y d kc ks (pc + 2) (a0 :: a1 :: a2 :: a3 :: a4 :: a5 :: a6 :: a7 :: a8 :: a9 :: a10 :: a11 :: a12 :: a13 :: a14 :: a15 :: a16 :: a17 :: a18 :: a19 :: a20 :: a21 :: a22 :: a23 :: a24 :: a25 :: a26 :: a27 :: a28 :: a29 :: a30 :: a31 :: some (.int x) :: r) (st) h Po) : mw_W y d kc ks (pc) (a0 :: a1 :: a2 :: a3 :: a4 :: a5 :: a6 :: a7 :: a8 :: a9 :: a10 :: a11 :: a12 :: a13 :: a14 :: a15 :: a16 :: a17 :: a18 :: a19 :: a20 :: a21 :: a22 :: a23 :: a24 :: a25 :: a26 :: a27 :: a28 :: a29 :: a30 :: a31 :: a32 :: r) (.int x :: st) h Po := by
  intro G p l e R s m args below meth c mc msl H locs cells slots lsA C hc hs hR hS hL
  obtain ⟨hx, hb, hr, hml, hown, hlk, htr, htab, hnm, hRf, hRl, hRc, hRs, hK⟩ := id C
  exact lv_istore (x := x) hx hb dg (mw_al_has hL) hn rfl (fun ls9 h9 => k G p l e R s m args below meth c mc msl H locs cells slots ls9 C hc hs hR hS (mw_L_set (ls := a0 :: a1 :: a2 :: a3 :: a4 :: a5 :: a6 :: a7 :: a8 :: a9 :: a10 :: a11 :: a12 :: a13 :: a14 :: a15 :: a16 :: a17 :: a18 :: a19 :: a20 :: a21 :: a22 :: a23 :: a24 :: a25 :: a26 :: a27 :: a28 :: a29 :: a30 :: a31 :: a32 :: r) (i := 32) (v := .int x) hL rfl rfl h9))
theorem mw_lstore_33 {a0 a1 a2 a3 a4 a5 a6 a7 a8 a9 a10 a11 a12 a13 a14 a15 a16 a17 a18 a19 a20 a21 a22 a23 a24 a25 a26 a27 a28 a29 a30 a31 a32 a33 a34 : Option Value} {r : List (Option Value)} {x : Int64} (dg : decode y.2.1 pc = .ok (.lstore 33, 2)) (hn : 33 + 1 < y.2.2.1) (k : mw_W y d kc ks (pc + 2) (a0 :: a1 :: a2 :: a3 :: a4 :: a5 :: a6 :: a7 :: a8 :: a9 :: a10 :: a11 :: a12 :: a13 :: a14 :: a15 :: a16 :: a17 :: a18 :: a19 :: a20 :: a21 :: a22 :: a23 :: a24 :: a25 :: a26 :: a27 :: a28 :: a29 :: a30 :: a31 :: a32 :: some (.long x) :: none :: r) (st) h Po) : mw_W y d kc ks (pc) (a0 :: a1 :: a2 :: a3 :: a4 :: a5 :: a6 :: a7 :: a8 :: a9 :: a10 :: a11 :: a12 :: a13 :: a14 :: a15 :: a16 :: a17 :: a18 :: a19 :: a20 :: a21 :: a22 :: a23 :: a24 :: a25 :: a26 :: a27 :: a28 :: a29 :: a30 :: a31 :: a32 :: a33 :: a34 :: r) (.long x :: st) h Po := by
  intro G p l e R s m args below meth c mc msl H locs cells slots lsA C hc hs hR hS hL
  obtain ⟨hx, hb, hr, hml, hown, hlk, htr, htab, hnm, hRf, hRl, hRc, hRs, hK⟩ := id C
  exact lv_lstore (x := x) hx hb dg (mw_al_has hL) hn rfl (fun ls9 h9 => k G p l e R s m args below meth c mc msl H locs cells slots ls9 C hc hs hR hS (mw_L_set2 (ls := a0 :: a1 :: a2 :: a3 :: a4 :: a5 :: a6 :: a7 :: a8 :: a9 :: a10 :: a11 :: a12 :: a13 :: a14 :: a15 :: a16 :: a17 :: a18 :: a19 :: a20 :: a21 :: a22 :: a23 :: a24 :: a25 :: a26 :: a27 :: a28 :: a29 :: a30 :: a31 :: a32 :: a33 :: a34 :: r) (i := 33) (v := .long x) hL rfl h9))
theorem mw_lstore_35 {a0 a1 a2 a3 a4 a5 a6 a7 a8 a9 a10 a11 a12 a13 a14 a15 a16 a17 a18 a19 a20 a21 a22 a23 a24 a25 a26 a27 a28 a29 a30 a31 a32 a33 a34 a35 a36 : Option Value} {r : List (Option Value)} {x : Int64} (dg : decode y.2.1 pc = .ok (.lstore 35, 2)) (hn : 35 + 1 < y.2.2.1) (k : mw_W y d kc ks (pc + 2) (a0 :: a1 :: a2 :: a3 :: a4 :: a5 :: a6 :: a7 :: a8 :: a9 :: a10 :: a11 :: a12 :: a13 :: a14 :: a15 :: a16 :: a17 :: a18 :: a19 :: a20 :: a21 :: a22 :: a23 :: a24 :: a25 :: a26 :: a27 :: a28 :: a29 :: a30 :: a31 :: a32 :: a33 :: a34 :: some (.long x) :: none :: r) (st) h Po) : mw_W y d kc ks (pc) (a0 :: a1 :: a2 :: a3 :: a4 :: a5 :: a6 :: a7 :: a8 :: a9 :: a10 :: a11 :: a12 :: a13 :: a14 :: a15 :: a16 :: a17 :: a18 :: a19 :: a20 :: a21 :: a22 :: a23 :: a24 :: a25 :: a26 :: a27 :: a28 :: a29 :: a30 :: a31 :: a32 :: a33 :: a34 :: a35 :: a36 :: r) (.long x :: st) h Po := by
  intro G p l e R s m args below meth c mc msl H locs cells slots lsA C hc hs hR hS hL
  obtain ⟨hx, hb, hr, hml, hown, hlk, htr, htab, hnm, hRf, hRl, hRc, hRs, hK⟩ := id C
  exact lv_lstore (x := x) hx hb dg (mw_al_has hL) hn rfl (fun ls9 h9 => k G p l e R s m args below meth c mc msl H locs cells slots ls9 C hc hs hR hS (mw_L_set2 (ls := a0 :: a1 :: a2 :: a3 :: a4 :: a5 :: a6 :: a7 :: a8 :: a9 :: a10 :: a11 :: a12 :: a13 :: a14 :: a15 :: a16 :: a17 :: a18 :: a19 :: a20 :: a21 :: a22 :: a23 :: a24 :: a25 :: a26 :: a27 :: a28 :: a29 :: a30 :: a31 :: a32 :: a33 :: a34 :: a35 :: a36 :: r) (i := 35) (v := .long x) hL rfl h9))
theorem mw_istore_37 {a0 a1 a2 a3 a4 a5 a6 a7 a8 a9 a10 a11 a12 a13 a14 a15 a16 a17 a18 a19 a20 a21 a22 a23 a24 a25 a26 a27 a28 a29 a30 a31 a32 a33 a34 a35 a36 a37 : Option Value} {r : List (Option Value)} {x : Int32} (dg : decode y.2.1 pc = .ok (.istore 37, 2)) (hn : 37 < y.2.2.1) (k : mw_W y d kc ks (pc + 2) (a0 :: a1 :: a2 :: a3 :: a4 :: a5 :: a6 :: a7 :: a8 :: a9 :: a10 :: a11 :: a12 :: a13 :: a14 :: a15 :: a16 :: a17 :: a18 :: a19 :: a20 :: a21 :: a22 :: a23 :: a24 :: a25 :: a26 :: a27 :: a28 :: a29 :: a30 :: a31 :: a32 :: a33 :: a34 :: a35 :: a36 :: some (.int x) :: r) (st) h Po) : mw_W y d kc ks (pc) (a0 :: a1 :: a2 :: a3 :: a4 :: a5 :: a6 :: a7 :: a8 :: a9 :: a10 :: a11 :: a12 :: a13 :: a14 :: a15 :: a16 :: a17 :: a18 :: a19 :: a20 :: a21 :: a22 :: a23 :: a24 :: a25 :: a26 :: a27 :: a28 :: a29 :: a30 :: a31 :: a32 :: a33 :: a34 :: a35 :: a36 :: a37 :: r) (.int x :: st) h Po := by
  intro G p l e R s m args below meth c mc msl H locs cells slots lsA C hc hs hR hS hL
  obtain ⟨hx, hb, hr, hml, hown, hlk, htr, htab, hnm, hRf, hRl, hRc, hRs, hK⟩ := id C
  exact lv_istore (x := x) hx hb dg (mw_al_has hL) hn rfl (fun ls9 h9 => k G p l e R s m args below meth c mc msl H locs cells slots ls9 C hc hs hR hS (mw_L_set (ls := a0 :: a1 :: a2 :: a3 :: a4 :: a5 :: a6 :: a7 :: a8 :: a9 :: a10 :: a11 :: a12 :: a13 :: a14 :: a15 :: a16 :: a17 :: a18 :: a19 :: a20 :: a21 :: a22 :: a23 :: a24 :: a25 :: a26 :: a27 :: a28 :: a29 :: a30 :: a31 :: a32 :: a33 :: a34 :: a35 :: a36 :: a37 :: r) (i := 37) (v := .int x) hL rfl rfl h9))
theorem mw_iinc_37 {n : Int} {x v : Int32} {a0 a1 a2 a3 a4 a5 a6 a7 a8 a9 a10 a11 a12 a13 a14 a15 a16 a17 a18 a19 a20 a21 a22 a23 a24 a25 a26 a27 a28 a29 a30 a31 a32 a33 a34 a35 a36 : Option Value} {r : List (Option Value)} (dg : decode y.2.1 pc = .ok (.iinc 37 n, 3)) (hn : 37 < y.2.2.1) (hv : x + Int32.ofInt n = v) (k : mw_W y d kc ks (pc + 3) (a0 :: a1 :: a2 :: a3 :: a4 :: a5 :: a6 :: a7 :: a8 :: a9 :: a10 :: a11 :: a12 :: a13 :: a14 :: a15 :: a16 :: a17 :: a18 :: a19 :: a20 :: a21 :: a22 :: a23 :: a24 :: a25 :: a26 :: a27 :: a28 :: a29 :: a30 :: a31 :: a32 :: a33 :: a34 :: a35 :: a36 :: some (.int v) :: r) (st) h Po) : mw_W y d kc ks (pc) (a0 :: a1 :: a2 :: a3 :: a4 :: a5 :: a6 :: a7 :: a8 :: a9 :: a10 :: a11 :: a12 :: a13 :: a14 :: a15 :: a16 :: a17 :: a18 :: a19 :: a20 :: a21 :: a22 :: a23 :: a24 :: a25 :: a26 :: a27 :: a28 :: a29 :: a30 :: a31 :: a32 :: a33 :: a34 :: a35 :: a36 :: some (.int x) :: r) (st) h Po := by
  intro G p l e R s m args below meth c mc msl H locs cells slots lsA C hc hs hR hS hL
  obtain ⟨hx, hb, hr, hml, hown, hlk, htr, htab, hnm, hRf, hRl, hRc, hRs, hK⟩ := id C
  obtain ⟨k9, hk9⟩ := List.getElem?_of_mem (mw_al_mem (G := G) (ls := a0 :: a1 :: a2 :: a3 :: a4 :: a5 :: a6 :: a7 :: a8 :: a9 :: a10 :: a11 :: a12 :: a13 :: a14 :: a15 :: a16 :: a17 :: a18 :: a19 :: a20 :: a21 :: a22 :: a23 :: a24 :: a25 :: a26 :: a27 :: a28 :: a29 :: a30 :: a31 :: a32 :: a33 :: a34 :: a35 :: a36 :: some (.int x) :: r) (i := 37) (v := .int x) rfl rfl)
  exact lv_iinc hx hb dg (mw_al_has hL) hk9 hv hn rfl (fun ls9 h9 => k G p l e R s m args below meth c mc msl H locs cells slots ls9 C hc hs hR hS (mw_L_set (ls := a0 :: a1 :: a2 :: a3 :: a4 :: a5 :: a6 :: a7 :: a8 :: a9 :: a10 :: a11 :: a12 :: a13 :: a14 :: a15 :: a16 :: a17 :: a18 :: a19 :: a20 :: a21 :: a22 :: a23 :: a24 :: a25 :: a26 :: a27 :: a28 :: a29 :: a30 :: a31 :: a32 :: a33 :: a34 :: a35 :: a36 :: some (.int x) :: r) (i := 37) (v := .int v) hL rfl rfl h9))
theorem mw_istore_38 {a0 a1 a2 a3 a4 a5 a6 a7 a8 a9 a10 a11 a12 a13 a14 a15 a16 a17 a18 a19 a20 a21 a22 a23 a24 a25 a26 a27 a28 a29 a30 a31 a32 a33 a34 a35 a36 a37 a38 : Option Value} {r : List (Option Value)} {x : Int32} (dg : decode y.2.1 pc = .ok (.istore 38, 2)) (hn : 38 < y.2.2.1) (k : mw_W y d kc ks (pc + 2) (a0 :: a1 :: a2 :: a3 :: a4 :: a5 :: a6 :: a7 :: a8 :: a9 :: a10 :: a11 :: a12 :: a13 :: a14 :: a15 :: a16 :: a17 :: a18 :: a19 :: a20 :: a21 :: a22 :: a23 :: a24 :: a25 :: a26 :: a27 :: a28 :: a29 :: a30 :: a31 :: a32 :: a33 :: a34 :: a35 :: a36 :: a37 :: some (.int x) :: r) (st) h Po) : mw_W y d kc ks (pc) (a0 :: a1 :: a2 :: a3 :: a4 :: a5 :: a6 :: a7 :: a8 :: a9 :: a10 :: a11 :: a12 :: a13 :: a14 :: a15 :: a16 :: a17 :: a18 :: a19 :: a20 :: a21 :: a22 :: a23 :: a24 :: a25 :: a26 :: a27 :: a28 :: a29 :: a30 :: a31 :: a32 :: a33 :: a34 :: a35 :: a36 :: a37 :: a38 :: r) (.int x :: st) h Po := by
  intro G p l e R s m args below meth c mc msl H locs cells slots lsA C hc hs hR hS hL
  obtain ⟨hx, hb, hr, hml, hown, hlk, htr, htab, hnm, hRf, hRl, hRc, hRs, hK⟩ := id C
  exact lv_istore (x := x) hx hb dg (mw_al_has hL) hn rfl (fun ls9 h9 => k G p l e R s m args below meth c mc msl H locs cells slots ls9 C hc hs hR hS (mw_L_set (ls := a0 :: a1 :: a2 :: a3 :: a4 :: a5 :: a6 :: a7 :: a8 :: a9 :: a10 :: a11 :: a12 :: a13 :: a14 :: a15 :: a16 :: a17 :: a18 :: a19 :: a20 :: a21 :: a22 :: a23 :: a24 :: a25 :: a26 :: a27 :: a28 :: a29 :: a30 :: a31 :: a32 :: a33 :: a34 :: a35 :: a36 :: a37 :: a38 :: r) (i := 38) (v := .int x) hL rfl rfl h9))
theorem mw_iinc_38 {n : Int} {x v : Int32} {a0 a1 a2 a3 a4 a5 a6 a7 a8 a9 a10 a11 a12 a13 a14 a15 a16 a17 a18 a19 a20 a21 a22 a23 a24 a25 a26 a27 a28 a29 a30 a31 a32 a33 a34 a35 a36 a37 : Option Value} {r : List (Option Value)} (dg : decode y.2.1 pc = .ok (.iinc 38 n, 3)) (hn : 38 < y.2.2.1) (hv : x + Int32.ofInt n = v) (k : mw_W y d kc ks (pc + 3) (a0 :: a1 :: a2 :: a3 :: a4 :: a5 :: a6 :: a7 :: a8 :: a9 :: a10 :: a11 :: a12 :: a13 :: a14 :: a15 :: a16 :: a17 :: a18 :: a19 :: a20 :: a21 :: a22 :: a23 :: a24 :: a25 :: a26 :: a27 :: a28 :: a29 :: a30 :: a31 :: a32 :: a33 :: a34 :: a35 :: a36 :: a37 :: some (.int v) :: r) (st) h Po) : mw_W y d kc ks (pc) (a0 :: a1 :: a2 :: a3 :: a4 :: a5 :: a6 :: a7 :: a8 :: a9 :: a10 :: a11 :: a12 :: a13 :: a14 :: a15 :: a16 :: a17 :: a18 :: a19 :: a20 :: a21 :: a22 :: a23 :: a24 :: a25 :: a26 :: a27 :: a28 :: a29 :: a30 :: a31 :: a32 :: a33 :: a34 :: a35 :: a36 :: a37 :: some (.int x) :: r) (st) h Po := by
  intro G p l e R s m args below meth c mc msl H locs cells slots lsA C hc hs hR hS hL
  obtain ⟨hx, hb, hr, hml, hown, hlk, htr, htab, hnm, hRf, hRl, hRc, hRs, hK⟩ := id C
  obtain ⟨k9, hk9⟩ := List.getElem?_of_mem (mw_al_mem (G := G) (ls := a0 :: a1 :: a2 :: a3 :: a4 :: a5 :: a6 :: a7 :: a8 :: a9 :: a10 :: a11 :: a12 :: a13 :: a14 :: a15 :: a16 :: a17 :: a18 :: a19 :: a20 :: a21 :: a22 :: a23 :: a24 :: a25 :: a26 :: a27 :: a28 :: a29 :: a30 :: a31 :: a32 :: a33 :: a34 :: a35 :: a36 :: a37 :: some (.int x) :: r) (i := 38) (v := .int x) rfl rfl)
  exact lv_iinc hx hb dg (mw_al_has hL) hk9 hv hn rfl (fun ls9 h9 => k G p l e R s m args below meth c mc msl H locs cells slots ls9 C hc hs hR hS (mw_L_set (ls := a0 :: a1 :: a2 :: a3 :: a4 :: a5 :: a6 :: a7 :: a8 :: a9 :: a10 :: a11 :: a12 :: a13 :: a14 :: a15 :: a16 :: a17 :: a18 :: a19 :: a20 :: a21 :: a22 :: a23 :: a24 :: a25 :: a26 :: a27 :: a28 :: a29 :: a30 :: a31 :: a32 :: a33 :: a34 :: a35 :: a36 :: a37 :: some (.int x) :: r) (i := 38) (v := .int v) hL rfl rfl h9))
theorem mw_istore_39 {a0 a1 a2 a3 a4 a5 a6 a7 a8 a9 a10 a11 a12 a13 a14 a15 a16 a17 a18 a19 a20 a21 a22 a23 a24 a25 a26 a27 a28 a29 a30 a31 a32 a33 a34 a35 a36 a37 a38 a39 : Option Value} {r : List (Option Value)} {x : Int32} (dg : decode y.2.1 pc = .ok (.istore 39, 2)) (hn : 39 < y.2.2.1) (k : mw_W y d kc ks (pc + 2) (a0 :: a1 :: a2 :: a3 :: a4 :: a5 :: a6 :: a7 :: a8 :: a9 :: a10 :: a11 :: a12 :: a13 :: a14 :: a15 :: a16 :: a17 :: a18 :: a19 :: a20 :: a21 :: a22 :: a23 :: a24 :: a25 :: a26 :: a27 :: a28 :: a29 :: a30 :: a31 :: a32 :: a33 :: a34 :: a35 :: a36 :: a37 :: a38 :: some (.int x) :: r) (st) h Po) : mw_W y d kc ks (pc) (a0 :: a1 :: a2 :: a3 :: a4 :: a5 :: a6 :: a7 :: a8 :: a9 :: a10 :: a11 :: a12 :: a13 :: a14 :: a15 :: a16 :: a17 :: a18 :: a19 :: a20 :: a21 :: a22 :: a23 :: a24 :: a25 :: a26 :: a27 :: a28 :: a29 :: a30 :: a31 :: a32 :: a33 :: a34 :: a35 :: a36 :: a37 :: a38 :: a39 :: r) (.int x :: st) h Po := by
  intro G p l e R s m args below meth c mc msl H locs cells slots lsA C hc hs hR hS hL
  obtain ⟨hx, hb, hr, hml, hown, hlk, htr, htab, hnm, hRf, hRl, hRc, hRs, hK⟩ := id C
  exact lv_istore (x := x) hx hb dg (mw_al_has hL) hn rfl (fun ls9 h9 => k G p l e R s m args below meth c mc msl H locs cells slots ls9 C hc hs hR hS (mw_L_set (ls := a0 :: a1 :: a2 :: a3 :: a4 :: a5 :: a6 :: a7 :: a8 :: a9 :: a10 :: a11 :: a12 :: a13 :: a14 :: a15 :: a16 :: a17 :: a18 :: a19 :: a20 :: a21 :: a22 :: a23 :: a24 :: a25 :: a26 :: a27 :: a28 :: a29 :: a30 :: a31 :: a32 :: a33 :: a34 :: a35 :: a36 :: a37 :: a38 :: a39 :: r) (i := 39) (v := .int x) hL rfl rfl h9))
theorem mw_iinc_39 {n : Int} {x v : Int32} {a0 a1 a2 a3 a4 a5 a6 a7 a8 a9 a10 a11 a12 a13 a14 a15 a16 a17 a18 a19 a20 a21 a22 a23 a24 a25 a26 a27 a28 a29 a30 a31 a32 a33 a34 a35 a36 a37 a38 : Option Value} {r : List (Option Value)} (dg : decode y.2.1 pc = .ok (.iinc 39 n, 3)) (hn : 39 < y.2.2.1) (hv : x + Int32.ofInt n = v) (k : mw_W y d kc ks (pc + 3) (a0 :: a1 :: a2 :: a3 :: a4 :: a5 :: a6 :: a7 :: a8 :: a9 :: a10 :: a11 :: a12 :: a13 :: a14 :: a15 :: a16 :: a17 :: a18 :: a19 :: a20 :: a21 :: a22 :: a23 :: a24 :: a25 :: a26 :: a27 :: a28 :: a29 :: a30 :: a31 :: a32 :: a33 :: a34 :: a35 :: a36 :: a37 :: a38 :: some (.int v) :: r) (st) h Po) : mw_W y d kc ks (pc) (a0 :: a1 :: a2 :: a3 :: a4 :: a5 :: a6 :: a7 :: a8 :: a9 :: a10 :: a11 :: a12 :: a13 :: a14 :: a15 :: a16 :: a17 :: a18 :: a19 :: a20 :: a21 :: a22 :: a23 :: a24 :: a25 :: a26 :: a27 :: a28 :: a29 :: a30 :: a31 :: a32 :: a33 :: a34 :: a35 :: a36 :: a37 :: a38 :: some (.int x) :: r) (st) h Po := by
  intro G p l e R s m args below meth c mc msl H locs cells slots lsA C hc hs hR hS hL
  obtain ⟨hx, hb, hr, hml, hown, hlk, htr, htab, hnm, hRf, hRl, hRc, hRs, hK⟩ := id C
  obtain ⟨k9, hk9⟩ := List.getElem?_of_mem (mw_al_mem (G := G) (ls := a0 :: a1 :: a2 :: a3 :: a4 :: a5 :: a6 :: a7 :: a8 :: a9 :: a10 :: a11 :: a12 :: a13 :: a14 :: a15 :: a16 :: a17 :: a18 :: a19 :: a20 :: a21 :: a22 :: a23 :: a24 :: a25 :: a26 :: a27 :: a28 :: a29 :: a30 :: a31 :: a32 :: a33 :: a34 :: a35 :: a36 :: a37 :: a38 :: some (.int x) :: r) (i := 39) (v := .int x) rfl rfl)
  exact lv_iinc hx hb dg (mw_al_has hL) hk9 hv hn rfl (fun ls9 h9 => k G p l e R s m args below meth c mc msl H locs cells slots ls9 C hc hs hR hS (mw_L_set (ls := a0 :: a1 :: a2 :: a3 :: a4 :: a5 :: a6 :: a7 :: a8 :: a9 :: a10 :: a11 :: a12 :: a13 :: a14 :: a15 :: a16 :: a17 :: a18 :: a19 :: a20 :: a21 :: a22 :: a23 :: a24 :: a25 :: a26 :: a27 :: a28 :: a29 :: a30 :: a31 :: a32 :: a33 :: a34 :: a35 :: a36 :: a37 :: a38 :: some (.int x) :: r) (i := 39) (v := .int v) hL rfl rfl h9))
theorem mw_istore_40 {a0 a1 a2 a3 a4 a5 a6 a7 a8 a9 a10 a11 a12 a13 a14 a15 a16 a17 a18 a19 a20 a21 a22 a23 a24 a25 a26 a27 a28 a29 a30 a31 a32 a33 a34 a35 a36 a37 a38 a39 a40 : Option Value} {r : List (Option Value)} {x : Int32} (dg : decode y.2.1 pc = .ok (.istore 40, 2)) (hn : 40 < y.2.2.1) (k : mw_W y d kc ks (pc + 2) (a0 :: a1 :: a2 :: a3 :: a4 :: a5 :: a6 :: a7 :: a8 :: a9 :: a10 :: a11 :: a12 :: a13 :: a14 :: a15 :: a16 :: a17 :: a18 :: a19 :: a20 :: a21 :: a22 :: a23 :: a24 :: a25 :: a26 :: a27 :: a28 :: a29 :: a30 :: a31 :: a32 :: a33 :: a34 :: a35 :: a36 :: a37 :: a38 :: a39 :: some (.int x) :: r) (st) h Po) : mw_W y d kc ks (pc) (a0 :: a1 :: a2 :: a3 :: a4 :: a5 :: a6 :: a7 :: a8 :: a9 :: a10 :: a11 :: a12 :: a13 :: a14 :: a15 :: a16 :: a17 :: a18 :: a19 :: a20 :: a21 :: a22 :: a23 :: a24 :: a25 :: a26 :: a27 :: a28 :: a29 :: a30 :: a31 :: a32 :: a33 :: a34 :: a35 :: a36 :: a37 :: a38 :: a39 :: a40 :: r) (.int x :: st) h Po := by
  intro G p l e R s m args below meth c mc msl H locs cells slots lsA C hc hs hR hS hL
  obtain ⟨hx, hb, hr, hml, hown, hlk, htr, htab, hnm, hRf, hRl, hRc, hRs, hK⟩ := id C
  exact lv_istore (x := x) hx hb dg (mw_al_has hL) hn rfl (fun ls9 h9 => k G p l e R s m args below meth c mc msl H locs cells slots ls9 C hc hs hR hS (mw_L_set (ls := a0 :: a1 :: a2 :: a3 :: a4 :: a5 :: a6 :: a7 :: a8 :: a9 :: a10 :: a11 :: a12 :: a13 :: a14 :: a15 :: a16 :: a17 :: a18 :: a19 :: a20 :: a21 :: a22 :: a23 :: a24 :: a25 :: a26 :: a27 :: a28 :: a29 :: a30 :: a31 :: a32 :: a33 :: a34 :: a35 :: a36 :: a37 :: a38 :: a39 :: a40 :: r) (i := 40) (v := .int x) hL rfl rfl h9))
theorem mw_iinc_40 {n : Int} {x v : Int32} {a0 a1 a2 a3 a4 a5 a6 a7 a8 a9 a10 a11 a12 a13 a14 a15 a16 a17 a18 a19 a20 a21 a22 a23 a24 a25 a26 a27 a28 a29 a30 a31 a32 a33 a34 a35 a36 a37 a38 a39 : Option Value} {r : List (Option Value)} (dg : decode y.2.1 pc = .ok (.iinc 40 n, 3)) (hn : 40 < y.2.2.1) (hv : x + Int32.ofInt n = v) (k : mw_W y d kc ks (pc + 3) (a0 :: a1 :: a2 :: a3 :: a4 :: a5 :: a6 :: a7 :: a8 :: a9 :: a10 :: a11 :: a12 :: a13 :: a14 :: a15 :: a16 :: a17 :: a18 :: a19 :: a20 :: a21 :: a22 :: a23 :: a24 :: a25 :: a26 :: a27 :: a28 :: a29 :: a30 :: a31 :: a32 :: a33 :: a34 :: a35 :: a36 :: a37 :: a38 :: a39 :: some (.int v) :: r) (st) h Po) : mw_W y d kc ks (pc) (a0 :: a1 :: a2 :: a3 :: a4 :: a5 :: a6 :: a7 :: a8 :: a9 :: a10 :: a11 :: a12 :: a13 :: a14 :: a15 :: a16 :: a17 :: a18 :: a19 :: a20 :: a21 :: a22 :: a23 :: a24 :: a25 :: a26 :: a27 :: a28 :: a29 :: a30 :: a31 :: a32 :: a33 :: a34 :: a35 :: a36 :: a37 :: a38 :: a39 :: some (.int x) :: r) (st) h Po := by
  intro G p l e R s m args below meth c mc msl H locs cells slots lsA C hc hs hR hS hL
  obtain ⟨hx, hb, hr, hml, hown, hlk, htr, htab, hnm, hRf, hRl, hRc, hRs, hK⟩ := id C
  obtain ⟨k9, hk9⟩ := List.getElem?_of_mem (mw_al_mem (G := G) (ls := a0 :: a1 :: a2 :: a3 :: a4 :: a5 :: a6 :: a7 :: a8 :: a9 :: a10 :: a11 :: a12 :: a13 :: a14 :: a15 :: a16 :: a17 :: a18 :: a19 :: a20 :: a21 :: a22 :: a23 :: a24 :: a25 :: a26 :: a27 :: a28 :: a29 :: a30 :: a31 :: a32 :: a33 :: a34 :: a35 :: a36 :: a37 :: a38 :: a39 :: some (.int x) :: r) (i := 40) (v := .int x) rfl rfl)
  exact lv_iinc hx hb dg (mw_al_has hL) hk9 hv hn rfl (fun ls9 h9 => k G p l e R s m args below meth c mc msl H locs cells slots ls9 C hc hs hR hS (mw_L_set (ls := a0 :: a1 :: a2 :: a3 :: a4 :: a5 :: a6 :: a7 :: a8 :: a9 :: a10 :: a11 :: a12 :: a13 :: a14 :: a15 :: a16 :: a17 :: a18 :: a19 :: a20 :: a21 :: a22 :: a23 :: a24 :: a25 :: a26 :: a27 :: a28 :: a29 :: a30 :: a31 :: a32 :: a33 :: a34 :: a35 :: a36 :: a37 :: a38 :: a39 :: some (.int x) :: r) (i := 40) (v := .int v) hL rfl rfl h9))
theorem mw_istore_41 {a0 a1 a2 a3 a4 a5 a6 a7 a8 a9 a10 a11 a12 a13 a14 a15 a16 a17 a18 a19 a20 a21 a22 a23 a24 a25 a26 a27 a28 a29 a30 a31 a32 a33 a34 a35 a36 a37 a38 a39 a40 a41 : Option Value} {r : List (Option Value)} {x : Int32} (dg : decode y.2.1 pc = .ok (.istore 41, 2)) (hn : 41 < y.2.2.1) (k : mw_W y d kc ks (pc + 2) (a0 :: a1 :: a2 :: a3 :: a4 :: a5 :: a6 :: a7 :: a8 :: a9 :: a10 :: a11 :: a12 :: a13 :: a14 :: a15 :: a16 :: a17 :: a18 :: a19 :: a20 :: a21 :: a22 :: a23 :: a24 :: a25 :: a26 :: a27 :: a28 :: a29 :: a30 :: a31 :: a32 :: a33 :: a34 :: a35 :: a36 :: a37 :: a38 :: a39 :: a40 :: some (.int x) :: r) (st) h Po) : mw_W y d kc ks (pc) (a0 :: a1 :: a2 :: a3 :: a4 :: a5 :: a6 :: a7 :: a8 :: a9 :: a10 :: a11 :: a12 :: a13 :: a14 :: a15 :: a16 :: a17 :: a18 :: a19 :: a20 :: a21 :: a22 :: a23 :: a24 :: a25 :: a26 :: a27 :: a28 :: a29 :: a30 :: a31 :: a32 :: a33 :: a34 :: a35 :: a36 :: a37 :: a38 :: a39 :: a40 :: a41 :: r) (.int x :: st) h Po := by
  intro G p l e R s m args below meth c mc msl H locs cells slots lsA C hc hs hR hS hL
  obtain ⟨hx, hb, hr, hml, hown, hlk, htr, htab, hnm, hRf, hRl, hRc, hRs, hK⟩ := id C
  exact lv_istore (x := x) hx hb dg (mw_al_has hL) hn rfl (fun ls9 h9 => k G p l e R s m args below meth c mc msl H locs cells slots ls9 C hc hs hR hS (mw_L_set (ls := a0 :: a1 :: a2 :: a3 :: a4 :: a5 :: a6 :: a7 :: a8 :: a9 :: a10 :: a11 :: a12 :: a13 :: a14 :: a15 :: a16 :: a17 :: a18 :: a19 :: a20 :: a21 :: a22 :: a23 :: a24 :: a25 :: a26 :: a27 :: a28 :: a29 :: a30 :: a31 :: a32 :: a33 :: a34 :: a35 :: a36 :: a37 :: a38 :: a39 :: a40 :: a41 :: r) (i := 41) (v := .int x) hL rfl rfl h9))
theorem mw_lload {i : Nat} {x : Int64} (dg : decode y.2.1 pc = .ok (.lload i, 2)) (hi : ls[i]? = some (some (.long x))) (hj : ls[i + 1]? = some none) (k : mw_W y d kc ks (pc + 2) ls (.long x :: st) h Po) : mw_W y d kc ks (pc) ls (st) h Po := by
  intro G p l e R s m args below meth c mc msl H locs cells slots lsA C hc hs hR hS hL
  obtain ⟨hx, hb, hr, hml, hown, hlk, htr, htab, hnm, hRf, hRl, hRc, hRs, hK⟩ := id C
  exact lv_lload hx hb dg (hL.2.2 _ _ hi (mw_lk_2 hj)) (k G p l e R s m args below meth c mc msl H locs cells slots lsA C hc hs hR hS hL)
theorem mw_idiv {x z : Int32} (dg : decode y.2.1 pc = .ok (.idiv, 1)) (hne : ¬ z = 0) (k : mw_W y d kc ks (pc + 1) ls (.int (x / z) :: st) h Po) : mw_W y d kc ks (pc) ls (.int z :: .int x :: st) h Po := by
  intro G p l e R s m args below meth c mc msl H locs cells slots lsA C hc hs hR hS hL
  obtain ⟨hx, hb, hr, hml, hown, hlk, htr, htab, hnm, hRf, hRl, hRc, hRs, hK⟩ := id C
  exact lv_idiv hx hb dg hne (k G p l e R s m args below meth c mc msl H locs cells slots lsA C hc hs hR hS hL)
theorem mw_irem {x z : Int32} (dg : decode y.2.1 pc = .ok (.irem, 1)) (hne : ¬ z = 0) (k : mw_W y d kc ks (pc + 1) ls (.int (x - x / z * z) :: st) h Po) : mw_W y d kc ks (pc) ls (.int z :: .int x :: st) h Po := by
  intro G p l e R s m args below meth c mc msl H locs cells slots lsA C hc hs hR hS hL
  obtain ⟨hx, hb, hr, hml, hown, hlk, htr, htab, hnm, hRf, hRl, hRc, hRs, hK⟩ := id C
  exact lv_irem hx hb dg hne (k G p l e R s m args below meth c mc msl H locs cells slots lsA C hc hs hR hS hL)
theorem mw_lor {x z : Int64} (dg : decode y.2.1 pc = .ok (.lor, 1)) (k : mw_W y d kc ks (pc + 1) ls (.long (x ||| z) :: st) h Po) : mw_W y d kc ks (pc) ls (.long z :: .long x :: st) h Po := by
  intro G p l e R s m args below meth c mc msl H locs cells slots lsA C hc hs hR hS hL
  obtain ⟨hx, hb, hr, hml, hown, hlk, htr, htab, hnm, hRf, hRl, hRc, hRs, hK⟩ := id C
  exact lv_lor hx hb dg (k G p l e R s m args below meth c mc msl H locs cells slots lsA C hc hs hR hS hL)
theorem mw_land {x z : Int64} (dg : decode y.2.1 pc = .ok (.land, 1)) (k : mw_W y d kc ks (pc + 1) ls (.long (x &&& z) :: st) h Po) : mw_W y d kc ks (pc) ls (.long z :: .long x :: st) h Po := by
  intro G p l e R s m args below meth c mc msl H locs cells slots lsA C hc hs hR hS hL
  obtain ⟨hx, hb, hr, hml, hown, hlk, htr, htab, hnm, hRf, hRl, hRc, hRs, hK⟩ := id C
  exact lv_land hx hb dg (k G p l e R s m args below meth c mc msl H locs cells slots lsA C hc hs hR hS hL)
theorem mw_lxor {x z : Int64} (dg : decode y.2.1 pc = .ok (.lxor, 1)) (k : mw_W y d kc ks (pc + 1) ls (.long (x ^^^ z) :: st) h Po) : mw_W y d kc ks (pc) ls (.long z :: .long x :: st) h Po := by
  intro G p l e R s m args below meth c mc msl H locs cells slots lsA C hc hs hR hS hL
  obtain ⟨hx, hb, hr, hml, hown, hlk, htr, htab, hnm, hRf, hRl, hRc, hRs, hK⟩ := id C
  exact lv_lxor hx hb dg (k G p l e R s m args below meth c mc msl H locs cells slots lsA C hc hs hR hS hL)
theorem mw_lshl {x v : Int64} {z : Int32} (dg : decode y.2.1 pc = .ok (.lshl, 1)) (hv : x <<< (z.toInt64 &&& 63) = v) (k : mw_W y d kc ks (pc + 1) ls (.long v :: st) h Po) : mw_W y d kc ks (pc) ls (.int z :: .long x :: st) h Po := by
  intro G p l e R s m args below meth c mc msl H locs cells slots lsA C hc hs hR hS hL
  obtain ⟨hx, hb, hr, hml, hown, hlk, htr, htab, hnm, hRf, hRl, hRc, hRs, hK⟩ := id C
  exact lv_lshl hx hb dg hv (k G p l e R s m args below meth c mc msl H locs cells slots lsA C hc hs hR hS hL)
theorem mw_lshr {x v : Int64} {z : Int32} (dg : decode y.2.1 pc = .ok (.lshr, 1)) (hv : x >>> (z.toInt64 &&& 63) = v) (k : mw_W y d kc ks (pc + 1) ls (.long v :: st) h Po) : mw_W y d kc ks (pc) ls (.int z :: .long x :: st) h Po := by
  intro G p l e R s m args below meth c mc msl H locs cells slots lsA C hc hs hR hS hL
  obtain ⟨hx, hb, hr, hml, hown, hlk, htr, htab, hnm, hRf, hRl, hRc, hRs, hK⟩ := id C
  exact lv_lshr hx hb dg hv (k G p l e R s m args below meth c mc msl H locs cells slots lsA C hc hs hR hS hL)
theorem mw_l2i {x : Int64} {v : Int32} (dg : decode y.2.1 pc = .ok (.l2i, 1)) (hv : x.toInt32 = v) (k : mw_W y d kc ks (pc + 1) ls (.int v :: st) h Po) : mw_W y d kc ks (pc) ls (.long x :: st) h Po := by
  intro G p l e R s m args below meth c mc msl H locs cells slots lsA C hc hs hR hS hL
  obtain ⟨hx, hb, hr, hml, hown, hlk, htr, htab, hnm, hRf, hRl, hRc, hRs, hK⟩ := id C
  exact lv_l2i hx hb dg hv (k G p l e R s m args below meth c mc msl H locs cells slots lsA C hc hs hR hS hL)
theorem mw_ldc {idx : Nat} {v : Int32} (dg : decode y.2.1 pc = .ok (.ldc idx, 2)) (hw : Cond.constant y.1.cls idx v ∈ lw_tbl) (k : mw_W y d kc ks (pc + 2) ls (.int v :: st) h Po) : mw_W y d kc ks (pc) ls (st) h Po := by
  intro G p l e R s m args below meth c mc msl H locs cells slots lsA C hc hs hR hS hL
  obtain ⟨hx, hb, hr, hml, hown, hlk, htr, htab, hnm, hRf, hRl, hRc, hRs, hK⟩ := id C
  exact lv_ldc hx hb hown (mw_word hK hw rfl) dg (k G p l e R s m args below meth c mc msl H locs cells slots lsA C hc hs hR hS hL)
theorem mw_ldc2 {idx : Nat} {v : Int64} (dg : decode y.2.1 pc = .ok (.ldc2_w idx, 3)) (hw : Cond.constantLong y.1.cls idx v ∈ lw_tbl) (k : mw_W y d kc ks (pc + 3) ls (.long v :: st) h Po) : mw_W y d kc ks (pc) ls (st) h Po := by
  intro G p l e R s m args below meth c mc msl H locs cells slots lsA C hc hs hR hS hL
  obtain ⟨hx, hb, hr, hml, hown, hlk, htr, htab, hnm, hRf, hRl, hRc, hRs, hK⟩ := id C
  exact lv_ldc2 hx hb hown (mw_word hK hw rfl) dg (k G p l e R s m args below meth c mc msl H locs cells slots lsA C hc hs hR hS hL)
theorem mw_dup2 {v1 v2 : Value} (dg : decode y.2.1 pc = .ok (.dup2, 1)) (h1 : v1.category = 1) (h2 : v2.category = 1) (k : mw_W y d kc ks (pc + 1) ls (v1 :: v2 :: v1 :: v2 :: st) h Po) : mw_W y d kc ks (pc) ls (v1 :: v2 :: st) h Po := by
  intro G p l e R s m args below meth c mc msl H locs cells slots lsA C hc hs hR hS hL
  obtain ⟨hx, hb, hr, hml, hown, hlk, htr, htab, hnm, hRf, hRl, hRc, hRs, hK⟩ := id C
  exact lv_dup2_11 hx hb dg ((mw_cat v1).trans h1) ((mw_cat v2).trans h2) (k G p l e R s m args below meth c mc msl H locs cells slots lsA C hc hs hR hS hL)
theorem mw_pop {v1 : Value} (dg : decode y.2.1 pc = .ok (.pop, 1)) (h1 : v1.category = 1) (k : mw_W y d kc ks (pc + 1) ls (st) h Po) : mw_W y d kc ks (pc) ls (v1 :: st) h Po := by
  intro G p l e R s m args below meth c mc msl H locs cells slots lsA C hc hs hR hS hL
  obtain ⟨hx, hb, hr, hml, hown, hlk, htr, htab, hnm, hRf, hRl, hRc, hRs, hK⟩ := id C
  exact lv_pop hx hb dg ((mw_cat v1).trans h1) (k G p l e R s m args below meth c mc msl H locs cells slots lsA C hc hs hR hS hL)
theorem mw_iadd {x z : Int32} (dg : decode y.2.1 pc = .ok (.iadd, 1)) (k : mw_W y d kc ks (pc + 1) ls (.int (x + z) :: st) h Po) : mw_W y d kc ks (pc) ls (.int z :: .int x :: st) h Po := by
  intro G p l e R s m args below meth c mc msl H locs cells slots lsA C hc hs hR hS hL
  obtain ⟨hx, hb, hr, hml, hown, hlk, htr, htab, hnm, hRf, hRl, hRc, hRs, hK⟩ := id C
  exact lv_iadd hx hb dg (k G p l e R s m args below meth c mc msl H locs cells slots lsA C hc hs hR hS hL)
theorem mw_isub {x z : Int32} (dg : decode y.2.1 pc = .ok (.isub, 1)) (k : mw_W y d kc ks (pc + 1) ls (.int (x - z) :: st) h Po) : mw_W y d kc ks (pc) ls (.int z :: .int x :: st) h Po := by
  intro G p l e R s m args below meth c mc msl H locs cells slots lsA C hc hs hR hS hL
  obtain ⟨hx, hb, hr, hml, hown, hlk, htr, htab, hnm, hRf, hRl, hRc, hRs, hK⟩ := id C
  exact lv_isub hx hb dg (k G p l e R s m args below meth c mc msl H locs cells slots lsA C hc hs hR hS hL)
theorem mw_imul {x z : Int32} (dg : decode y.2.1 pc = .ok (.imul, 1)) (k : mw_W y d kc ks (pc + 1) ls (.int (x * z) :: st) h Po) : mw_W y d kc ks (pc) ls (.int z :: .int x :: st) h Po := by
  intro G p l e R s m args below meth c mc msl H locs cells slots lsA C hc hs hR hS hL
  obtain ⟨hx, hb, hr, hml, hown, hlk, htr, htab, hnm, hRf, hRl, hRc, hRs, hK⟩ := id C
  exact lv_imul hx hb dg (k G p l e R s m args below meth c mc msl H locs cells slots lsA C hc hs hR hS hL)
theorem mw_iand {x z : Int32} (dg : decode y.2.1 pc = .ok (.iand, 1)) (k : mw_W y d kc ks (pc + 1) ls (.int (x &&& z) :: st) h Po) : mw_W y d kc ks (pc) ls (.int z :: .int x :: st) h Po := by
  intro G p l e R s m args below meth c mc msl H locs cells slots lsA C hc hs hR hS hL
  obtain ⟨hx, hb, hr, hml, hown, hlk, htr, htab, hnm, hRf, hRl, hRc, hRs, hK⟩ := id C
  exact lv_iand hx hb dg (k G p l e R s m args below meth c mc msl H locs cells slots lsA C hc hs hR hS hL)
theorem mw_ior {x z : Int32} (dg : decode y.2.1 pc = .ok (.ior, 1)) (k : mw_W y d kc ks (pc + 1) ls (.int (x ||| z) :: st) h Po) : mw_W y d kc ks (pc) ls (.int z :: .int x :: st) h Po := by
  intro G p l e R s m args below meth c mc msl H locs cells slots lsA C hc hs hR hS hL
  obtain ⟨hx, hb, hr, hml, hown, hlk, htr, htab, hnm, hRf, hRl, hRc, hRs, hK⟩ := id C
  exact lv_ior hx hb dg (k G p l e R s m args below meth c mc msl H locs cells slots lsA C hc hs hR hS hL)
theorem mw_ixor {x z : Int32} (dg : decode y.2.1 pc = .ok (.ixor, 1)) (k : mw_W y d kc ks (pc + 1) ls (.int (x ^^^ z) :: st) h Po) : mw_W y d kc ks (pc) ls (.int z :: .int x :: st) h Po := by
  intro G p l e R s m args below meth c mc msl H locs cells slots lsA C hc hs hR hS hL
  obtain ⟨hx, hb, hr, hml, hown, hlk, htr, htab, hnm, hRf, hRl, hRc, hRs, hK⟩ := id C
  exact lv_ixor hx hb dg (k G p l e R s m args below meth c mc msl H locs cells slots lsA C hc hs hR hS hL)
theorem mw_ishl {x z : Int32} (dg : decode y.2.1 pc = .ok (.ishl, 1)) (k : mw_W y d kc ks (pc + 1) ls (.int (x <<< (z &&& 31)) :: st) h Po) : mw_W y d kc ks (pc) ls (.int z :: .int x :: st) h Po := by
  intro G p l e R s m args below meth c mc msl H locs cells slots lsA C hc hs hR hS hL
  obtain ⟨hx, hb, hr, hml, hown, hlk, htr, htab, hnm, hRf, hRl, hRc, hRs, hK⟩ := id C
  exact lv_ishl hx hb dg (k G p l e R s m args below meth c mc msl H locs cells slots lsA C hc hs hR hS hL)
theorem mw_ishr {x z : Int32} (dg : decode y.2.1 pc = .ok (.ishr, 1)) (k : mw_W y d kc ks (pc + 1) ls (.int (x >>> (z &&& 31)) :: st) h Po) : mw_W y d kc ks (pc) ls (.int z :: .int x :: st) h Po := by
  intro G p l e R s m args below meth c mc msl H locs cells slots lsA C hc hs hR hS hL
  obtain ⟨hx, hb, hr, hml, hown, hlk, htr, htab, hnm, hRf, hRl, hRc, hRs, hK⟩ := id C
  exact lv_ishr hx hb dg (k G p l e R s m args below meth c mc msl H locs cells slots lsA C hc hs hR hS hL)
theorem mw_iushr {x z v : Int32} (dg : decode y.2.1 pc = .ok (.iushr, 1)) (hv : (x.toUInt32 >>> (z.toUInt32 &&& Int32.toUInt32 31)).toInt32 = v) (k : mw_W y d kc ks (pc + 1) ls (.int v :: st) h Po) : mw_W y d kc ks (pc) ls (.int z :: .int x :: st) h Po := by
  intro G p l e R s m args below meth c mc msl H locs cells slots lsA C hc hs hR hS hL
  obtain ⟨hx, hb, hr, hml, hown, hlk, htr, htab, hnm, hRf, hRl, hRc, hRs, hK⟩ := id C
  exact lv_iushr hx hb dg hv (k G p l e R s m args below meth c mc msl H locs cells slots lsA C hc hs hR hS hL)
theorem mw_ineg {x : Int32} (dg : decode y.2.1 pc = .ok (.ineg, 1)) (k : mw_W y d kc ks (pc + 1) ls (.int (-x) :: st) h Po) : mw_W y d kc ks (pc) ls (.int x :: st) h Po := by
  intro G p l e R s m args below meth c mc msl H locs cells slots lsA C hc hs hR hS hL
  obtain ⟨hx, hb, hr, hml, hown, hlk, htr, htab, hnm, hRf, hRl, hRc, hRs, hK⟩ := id C
  exact lv_ineg hx hb dg (k G p l e R s m args below meth c mc msl H locs cells slots lsA C hc hs hR hS hL)
theorem mw_i2l {x : Int32} {v : Int64} (dg : decode y.2.1 pc = .ok (.i2l, 1)) (hv : x.toInt64 = v) (k : mw_W y d kc ks (pc + 1) ls (.long v :: st) h Po) : mw_W y d kc ks (pc) ls (.int x :: st) h Po := by
  intro G p l e R s m args below meth c mc msl H locs cells slots lsA C hc hs hR hS hL
  obtain ⟨hx, hb, hr, hml, hown, hlk, htr, htab, hnm, hRf, hRl, hRc, hRs, hK⟩ := id C
  exact lv_i2l hx hb dg hv (k G p l e R s m args below meth c mc msl H locs cells slots lsA C hc hs hR hS hL)
theorem mw_i2b {x v : Int32} (dg : decode y.2.1 pc = .ok (.i2b, 1)) (hv : x.toInt8.toInt32 = v) (k : mw_W y d kc ks (pc + 1) ls (.int v :: st) h Po) : mw_W y d kc ks (pc) ls (.int x :: st) h Po := by
  intro G p l e R s m args below meth c mc msl H locs cells slots lsA C hc hs hR hS hL
  obtain ⟨hx, hb, hr, hml, hown, hlk, htr, htab, hnm, hRf, hRl, hRc, hRs, hK⟩ := id C
  exact lv_i2b hx hb dg hv (k G p l e R s m args below meth c mc msl H locs cells slots lsA C hc hs hR hS hL)
theorem mw_lcmp {x z : Int64} (dg : decode y.2.1 pc = .ok (.lcmp, 1)) (k : mw_W y d kc ks (pc + 1) ls (.int (lg_cmp x z) :: st) h Po) : mw_W y d kc ks (pc) ls (.long z :: .long x :: st) h Po := by
  intro G p l e R s m args below meth c mc msl H locs cells slots lsA C hc hs hR hS hL
  obtain ⟨hx, hb, hr, hml, hown, hlk, htr, htab, hnm, hRf, hRl, hRc, hRs, hK⟩ := id C
  exact W.lcmp hx hb dg (k G p l e R s m args below meth c mc msl H locs cells slots lsA C hc hs hR hS hL)
theorem mw_dup {v : Value} (dg : decode y.2.1 pc = .ok (.dup, 1)) (hv : v.category = 1) (k : mw_W y d kc ks (pc + 1) ls (v :: v :: st) h Po) : mw_W y d kc ks (pc) ls (v :: st) h Po := by
  intro G p l e R s m args below meth c mc msl H locs cells slots lsA C hc hs hR hS hL
  obtain ⟨hx, hb, hr, hml, hown, hlk, htr, htab, hnm, hRf, hRl, hRc, hRs, hK⟩ := id C
  exact lv_dup hx hb dg ((mw_cat v).trans hv) (k G p l e R s m args below meth c mc msl H locs cells slots lsA C hc hs hR hS hL)
theorem mw_goto {off : Int} {tgt : Nat} (dg : decode y.2.1 pc = .ok (.goto off, 3)) (ht : (pc : Int) + off = (tgt : Int)) (k : mw_W y d kc ks (tgt) ls (st) h Po) : mw_W y d kc ks (pc) ls (st) h Po := by
  intro G p l e R s m args below meth c mc msl H locs cells slots lsA C hc hs hR hS hL
  obtain ⟨hx, hb, hr, hml, hown, hlk, htr, htab, hnm, hRf, hRl, hRc, hRs, hK⟩ := id C
  exact lv_goto hx hb dg ht (k G p l e R s m args below meth c mc msl H locs cells slots lsA C hc hs hR hS hL)
theorem mw_if_eq {x : Int32} {off : Int} {tgt : Nat} (dg : decode y.2.1 pc = .ok (.ifCond .eq off, 3)) (ht : (pc : Int) + off = (tgt : Int)) (kt : (x = 0) → mw_W y d kc ks (tgt) ls (st) h Po) (kf : ¬ (x = 0) → mw_W y d kc ks (pc + 3) ls (st) h Po) : mw_W y d kc ks (pc) ls (.int x :: st) h Po := by
  intro G p l e R s m args below meth c mc msl H locs cells slots lsA C hc hs hR hS hL
  obtain ⟨hx, hb, hr, hml, hown, hlk, htr, htab, hnm, hRf, hRl, hRc, hRs, hK⟩ := id C
  exact lv_if_eq hx hb dg ht (fun q => kt q G p l e R s m args below meth c mc msl H locs cells slots lsA C hc hs hR hS hL) (fun q => kf q G p l e R s m args below meth c mc msl H locs cells slots lsA C hc hs hR hS hL)
theorem mw_icmp_eq {x z : Int32} {off : Int} {tgt : Nat} (dg : decode y.2.1 pc = .ok (.if_icmp .eq off, 3)) (ht : (pc : Int) + off = (tgt : Int)) (kt : (x = z) → mw_W y d kc ks (tgt) ls (st) h Po) (kf : ¬ (x = z) → mw_W y d kc ks (pc + 3) ls (st) h Po) : mw_W y d kc ks (pc) ls (.int z :: .int x :: st) h Po := by
  intro G p l e R s m args below meth c mc msl H locs cells slots lsA C hc hs hR hS hL
  obtain ⟨hx, hb, hr, hml, hown, hlk, htr, htab, hnm, hRf, hRl, hRc, hRs, hK⟩ := id C
  exact lv_icmp_eq hx hb dg ht (fun q => kt q G p l e R s m args below meth c mc msl H locs cells slots lsA C hc hs hR hS hL) (fun q => kf q G p l e R s m args below meth c mc msl H locs cells slots lsA C hc hs hR hS hL)
theorem mw_if_ne {x : Int32} {off : Int} {tgt : Nat} (dg : decode y.2.1 pc = .ok (.ifCond .ne off, 3)) (ht : (pc : Int) + off = (tgt : Int)) (kt : (¬ x = 0) → mw_W y d kc ks (tgt) ls (st) h Po) (kf : (x = 0) → mw_W y d kc ks (pc + 3) ls (st) h Po) : mw_W y d kc ks (pc) ls (.int x :: st) h Po := by
  intro G p l e R s m args below meth c mc msl H locs cells slots lsA C hc hs hR hS hL
  obtain ⟨hx, hb, hr, hml, hown, hlk, htr, htab, hnm, hRf, hRl, hRc, hRs, hK⟩ := id C
  exact lv_if_ne hx hb dg ht (fun q => kt q G p l e R s m args below meth c mc msl H locs cells slots lsA C hc hs hR hS hL) (fun q => kf q G p l e R s m args below meth c mc msl H locs cells slots lsA C hc hs hR hS hL)
theorem mw_icmp_ne {x z : Int32} {off : Int} {tgt : Nat} (dg : decode y.2.1 pc = .ok (.if_icmp .ne off, 3)) (ht : (pc : Int) + off = (tgt : Int)) (kt : (¬ x = z) → mw_W y d kc ks (tgt) ls (st) h Po) (kf : (x = z) → mw_W y d kc ks (pc + 3) ls (st) h Po) : mw_W y d kc ks (pc) ls (.int z :: .int x :: st) h Po := by
  intro G p l e R s m args below meth c mc msl H locs cells slots lsA C hc hs hR hS hL
  obtain ⟨hx, hb, hr, hml, hown, hlk, htr, htab, hnm, hRf, hRl, hRc, hRs, hK⟩ := id C
  exact lv_icmp_ne hx hb dg ht (fun q => kt q G p l e R s m args below meth c mc msl H locs cells slots lsA C hc hs hR hS hL) (fun q => kf q G p l e R s m args below meth c mc msl H locs cells slots lsA C hc hs hR hS hL)
theorem mw_if_lt {x : Int32} {off : Int} {tgt : Nat} (dg : decode y.2.1 pc = .ok (.ifCond .lt off, 3)) (ht : (pc : Int) + off = (tgt : Int)) (kt : (x < 0) → mw_W y d kc ks (tgt) ls (st) h Po) (kf : ¬ (x < 0) → mw_W y d kc ks (pc + 3) ls (st) h Po) : mw_W y d kc ks (pc) ls (.int x :: st) h Po := by
  intro G p l e R s m args below meth c mc msl H locs cells slots lsA C hc hs hR hS hL
  obtain ⟨hx, hb, hr, hml, hown, hlk, htr, htab, hnm, hRf, hRl, hRc, hRs, hK⟩ := id C
  exact lv_if_lt hx hb dg ht (fun q => kt q G p l e R s m args below meth c mc msl H locs cells slots lsA C hc hs hR hS hL) (fun q => kf q G p l e R s m args below meth c mc msl H locs cells slots lsA C hc hs hR hS hL)
theorem mw_icmp_lt {x z : Int32} {off : Int} {tgt : Nat} (dg : decode y.2.1 pc = .ok (.if_icmp .lt off, 3)) (ht : (pc : Int) + off = (tgt : Int)) (kt : (x < z) → mw_W y d kc ks (tgt) ls (st) h Po) (kf : ¬ (x < z) → mw_W y d kc ks (pc + 3) ls (st) h Po) : mw_W y d kc ks (pc) ls (.int z :: .int x :: st) h Po := by
  intro G p l e R s m args below meth c mc msl H locs cells slots lsA C hc hs hR hS hL
  obtain ⟨hx, hb, hr, hml, hown, hlk, htr, htab, hnm, hRf, hRl, hRc, hRs, hK⟩ := id C
  exact lv_icmp_lt hx hb dg ht (fun q => kt q G p l e R s m args below meth c mc msl H locs cells slots lsA C hc hs hR hS hL) (fun q => kf q G p l e R s m args below meth c mc msl H locs cells slots lsA C hc hs hR hS hL)
theorem mw_if_ge {x : Int32} {off : Int} {tgt : Nat} (dg : decode y.2.1 pc = .ok (.ifCond .ge off, 3)) (ht : (pc : Int) + off = (tgt : Int)) (kt : (0 ≤ x) → mw_W y d kc ks (tgt) ls (st) h Po) (kf : ¬ (0 ≤ x) → mw_W y d kc ks (pc + 3) ls (st) h Po) : mw_W y d kc ks (pc) ls (.int x :: st) h Po := by
  intro G p l e R s m args below meth c mc msl H locs cells slots lsA C hc hs hR hS hL
  obtain ⟨hx, hb, hr, hml, hown, hlk, htr, htab, hnm, hRf, hRl, hRc, hRs, hK⟩ := id C
  exact lv_if_ge hx hb dg ht (fun q => kt q G p l e R s m args below meth c mc msl H locs cells slots lsA C hc hs hR hS hL) (fun q => kf q G p l e R s m args below meth c mc msl H locs cells slots lsA C hc hs hR hS hL)
theorem mw_icmp_ge {x z : Int32} {off : Int} {tgt : Nat} (dg : decode y.2.1 pc = .ok (.if_icmp .ge off, 3)) (ht : (pc : Int) + off = (tgt : Int)) (kt : (z ≤ x) → mw_W y d kc ks (tgt) ls (st) h Po) (kf : ¬ (z ≤ x) → mw_W y d kc ks (pc + 3) ls (st) h Po) : mw_W y d kc ks (pc) ls (.int z :: .int x :: st) h Po := by
  intro G p l e R s m args below meth c mc msl H locs cells slots lsA C hc hs hR hS hL
  obtain ⟨hx, hb, hr, hml, hown, hlk, htr, htab, hnm, hRf, hRl, hRc, hRs, hK⟩ := id C
  exact lv_icmp_ge hx hb dg ht (fun q => kt q G p l e R s m args below meth c mc msl H locs cells slots lsA C hc hs hR hS hL) (fun q => kf q G p l e R s m args below meth c mc msl H locs cells slots lsA C hc hs hR hS hL)
theorem mw_if_gt {x : Int32} {off : Int} {tgt : Nat} (dg : decode y.2.1 pc = .ok (.ifCond .gt off, 3)) (ht : (pc : Int) + off = (tgt : Int)) (kt : (0 < x) → mw_W y d kc ks (tgt) ls (st) h Po) (kf : ¬ (0 < x) → mw_W y d kc ks (pc + 3) ls (st) h Po) : mw_W y d kc ks (pc) ls (.int x :: st) h Po := by
  intro G p l e R s m args below meth c mc msl H locs cells slots lsA C hc hs hR hS hL
  obtain ⟨hx, hb, hr, hml, hown, hlk, htr, htab, hnm, hRf, hRl, hRc, hRs, hK⟩ := id C
  exact lv_if_gt hx hb dg ht (fun q => kt q G p l e R s m args below meth c mc msl H locs cells slots lsA C hc hs hR hS hL) (fun q => kf q G p l e R s m args below meth c mc msl H locs cells slots lsA C hc hs hR hS hL)
theorem mw_icmp_gt {x z : Int32} {off : Int} {tgt : Nat} (dg : decode y.2.1 pc = .ok (.if_icmp .gt off, 3)) (ht : (pc : Int) + off = (tgt : Int)) (kt : (z < x) → mw_W y d kc ks (tgt) ls (st) h Po) (kf : ¬ (z < x) → mw_W y d kc ks (pc + 3) ls (st) h Po) : mw_W y d kc ks (pc) ls (.int z :: .int x :: st) h Po := by
  intro G p l e R s m args below meth c mc msl H locs cells slots lsA C hc hs hR hS hL
  obtain ⟨hx, hb, hr, hml, hown, hlk, htr, htab, hnm, hRf, hRl, hRc, hRs, hK⟩ := id C
  exact lv_icmp_gt hx hb dg ht (fun q => kt q G p l e R s m args below meth c mc msl H locs cells slots lsA C hc hs hR hS hL) (fun q => kf q G p l e R s m args below meth c mc msl H locs cells slots lsA C hc hs hR hS hL)
theorem mw_if_le {x : Int32} {off : Int} {tgt : Nat} (dg : decode y.2.1 pc = .ok (.ifCond .le off, 3)) (ht : (pc : Int) + off = (tgt : Int)) (kt : (x ≤ 0) → mw_W y d kc ks (tgt) ls (st) h Po) (kf : ¬ (x ≤ 0) → mw_W y d kc ks (pc + 3) ls (st) h Po) : mw_W y d kc ks (pc) ls (.int x :: st) h Po := by
  intro G p l e R s m args below meth c mc msl H locs cells slots lsA C hc hs hR hS hL
  obtain ⟨hx, hb, hr, hml, hown, hlk, htr, htab, hnm, hRf, hRl, hRc, hRs, hK⟩ := id C
  exact lv_if_le hx hb dg ht (fun q => kt q G p l e R s m args below meth c mc msl H locs cells slots lsA C hc hs hR hS hL) (fun q => kf q G p l e R s m args below meth c mc msl H locs cells slots lsA C hc hs hR hS hL)
theorem mw_icmp_le {x z : Int32} {off : Int} {tgt : Nat} (dg : decode y.2.1 pc = .ok (.if_icmp .le off, 3)) (ht : (pc : Int) + off = (tgt : Int)) (kt : (x ≤ z) → mw_W y d kc ks (tgt) ls (st) h Po) (kf : ¬ (x ≤ z) → mw_W y d kc ks (pc + 3) ls (st) h Po) : mw_W y d kc ks (pc) ls (.int z :: .int x :: st) h Po := by
  intro G p l e R s m args below meth c mc msl H locs cells slots lsA C hc hs hR hS hL
  obtain ⟨hx, hb, hr, hml, hown, hlk, htr, htab, hnm, hRf, hRl, hRc, hRs, hK⟩ := id C
  exact lv_icmp_le hx hb dg ht (fun q => kt q G p l e R s m args below meth c mc msl H locs cells slots lsA C hc hs hR hS hL) (fun q => kf q G p l e R s m args below meth c mc msl H locs cells slots lsA C hc hs hR hS hL)
theorem mw_ifnull {x : Nat} {off : Int} (dg : decode y.2.1 pc = .ok (.ifnull off, 3)) (k : mw_W y d kc ks (pc + 3) ls (st) h Po) : mw_W y d kc ks (pc) ls (.ref x :: st) h Po := by
  intro G p l e R s m args below meth c mc msl H locs cells slots lsA C hc hs hR hS hL
  obtain ⟨hx, hb, hr, hml, hown, hlk, htr, htab, hnm, hRf, hRl, hRc, hRs, hK⟩ := id C
  exact lv_ifnull hx hb dg (k G p l e R s m args below meth c mc msl H locs cells slots lsA C hc hs hR hS hL)
theorem mw_ifnullN {off : Int} {tgt : Nat} (dg : decode y.2.1 pc = .ok (.ifnull off, 3)) (ht : (pc : Int) + off = (tgt : Int)) (k : mw_W y d kc ks (tgt) ls (st) h Po) : mw_W y d kc ks (pc) ls (.null :: st) h Po := by
  intro G p l e R s m args below meth c mc msl H locs cells slots lsA C hc hs hR hS hL
  obtain ⟨hx, hb, hr, hml, hown, hlk, htr, htab, hnm, hRf, hRl, hRc, hRs, hK⟩ := id C
  exact lv_ifnullN hx hb dg ht (k G p l e R s m args below meth c mc msl H locs cells slots lsA C hc hs hR hS hL)
theorem mw_ifnonnull {x : Nat} {off : Int} {tgt : Nat} (dg : decode y.2.1 pc = .ok (.ifnonnull off, 3)) (ht : (pc : Int) + off = (tgt : Int)) (k : mw_W y d kc ks (tgt) ls (st) h Po) : mw_W y d kc ks (pc) ls (.ref x :: st) h Po := by
  intro G p l e R s m args below meth c mc msl H locs cells slots lsA C hc hs hR hS hL
  obtain ⟨hx, hb, hr, hml, hown, hlk, htr, htab, hnm, hRf, hRl, hRc, hRs, hK⟩ := id C
  exact lv_ifnonnull hx hb dg ht (k G p l e R s m args below meth c mc msl H locs cells slots lsA C hc hs hR hS hL)
theorem mw_ifnonnullN {off : Int} (dg : decode y.2.1 pc = .ok (.ifnonnull off, 3)) (k : mw_W y d kc ks (pc + 3) ls (st) h Po) : mw_W y d kc ks (pc) ls (.null :: st) h Po := by
  intro G p l e R s m args below meth c mc msl H locs cells slots lsA C hc hs hR hS hL
  obtain ⟨hx, hb, hr, hml, hown, hlk, htr, htab, hnm, hRf, hRl, hRc, hRs, hK⟩ := id C
  exact lv_ifnonnullN hx hb dg (k G p l e R s m args below meth c mc msl H locs cells slots lsA C hc hs hR hS hL)
theorem mw_rf {G : mw_G} (r : Option Nat) : mw_V G (va_rf r) = va_rf (r.map (mw_ad G)) := by cases r <;> rfl
theorem mw_rf_eq {G : mw_G} (hb : G.2.1 < mw_b0 G) {r z : Option Nat} (e : r.map (mw_ad G) = z.map (mw_ad G)) : r = z := by
  cases r <;> cases z
  · rfl
  · cases e
  · cases e
  · rw [Option.map_some, Option.map_some, Option.some.injEq] at e
    rw [mw_ad_inj2 hb e]
theorem mw_acmp_eq {r z : Option Nat} {off : Int} {tgt : Nat} (dg : decode y.2.1 pc = .ok (.if_acmp .eq off, 3)) (ht : (pc : Int) + off = (tgt : Int)) (kt : r = z → mw_W y d kc ks tgt ls st h Po) (kf : ¬ r = z → mw_W y d kc ks (pc + 3) ls st h Po) : mw_W y d kc ks pc ls (va_rf z :: va_rf r :: st) h Po := by
  intro G p l e R s m args below meth c mc msl H locs cells slots lsA C hc hs hR hS hL
  obtain ⟨hx, hb, hr, hml, hown, hlk, htr, htab, hnm, hRf, hRl, hRc, hRs, hK⟩ := id C
  show W _ _ _ _ _ _ _ _ _ _ _ _ _ _ _ (F0 m pc lsA (mw_V G (va_rf z) :: mw_V G (va_rf r) :: st.map (mw_V G)))
  rw [mw_rf, mw_rf]
  exact lv_acmp_eq hx hb dg ht (fun q => kt (mw_rf_eq hK.1.2.2.2.1 q) G p l e R s m args below meth c mc msl H locs cells slots lsA C hc hs hR hS hL) (fun q => kf (fun z9 => q (by rw [z9])) G p l e R s m args below meth c mc msl H locs cells slots lsA C hc hs hR hS hL)
theorem mw_tableIn {dflt lo hi : Int} {offs : Array Int} {len : Nat} {x : Int32} {off : Int} {tgt : Nat} (dg : decode y.2.1 pc = .ok (.tableswitch dflt lo hi offs, len)) (h1 : ¬ x.toInt < lo) (h2 : ¬ hi < x.toInt) (ho : offs[(x.toInt - lo).toNat]? = some off) (ht : (pc : Int) + off = (tgt : Int)) (k : mw_W y d kc ks tgt ls st h Po) : mw_W y d kc ks pc ls (.int x :: st) h Po := by
  intro G p l e R s m args below meth c mc msl H locs cells slots lsA C hc hs hR hS hL
  obtain ⟨hx, hb, hr, hml, hown, hlk, htr, htab, hnm, hRf, hRl, hRc, hRs, hK⟩ := id C
  exact lv_tableIn hx hb dg h1 h2 ho ht (k G p l e R s m args below meth c mc msl H locs cells slots lsA C hc hs hR hS hL)
theorem mw_tableOut {dflt lo hi : Int} {offs : Array Int} {len : Nat} {x : Int32} {tgt : Nat} (dg : decode y.2.1 pc = .ok (.tableswitch dflt lo hi offs, len)) (h9 : x.toInt < lo ∨ hi < x.toInt) (ht : (pc : Int) + dflt = (tgt : Int)) (k : mw_W y d kc ks tgt ls st h Po) : mw_W y d kc ks pc ls (.int x :: st) h Po := by
  intro G p l e R s m args below meth c mc msl H locs cells slots lsA C hc hs hR hS hL
  obtain ⟨hx, hb, hr, hml, hown, hlk, htr, htab, hnm, hRf, hRl, hRc, hRs, hK⟩ := id C
  exact lv_tableOut hx hb dg h9 ht (k G p l e R s m args below meth c mc msl H locs cells slots lsA C hc hs hR hS hL)
/-- a class whose objects the mini heap holds: its rows in the tables -/
def mw_CF (C : String) (T : u_T) (N : Nat) (ty : Nat → FieldType) : Prop := (∀ w ∈ u_ws C T N, w ∈ lw_tbl) ∧ (u_ws C T N).all goodWord = true ∧ (∀ k, k < N → parseFieldDescriptor (T k).2.2.1 = some (ty k)) ∧ (∀ a, a < N → ∀ b, b < N → a ≠ b → (T a).2.1 ≠ (T b).2.1)
/-- the field that a class's pool entry names: of the class ci the k-th, its type, final or not -/
def mw_F (own : String) (idx ci k : Nat) (tk : FieldType) (fin : Bool) : Prop := ∃ (C : String) (T : u_T) (N : Nat) (ty : Nat → FieldType), mw_cl[ci]? = some (C, T, N) ∧ mw_CF C T N ty ∧ k < N ∧ ty k = tk ∧ (T k).2.2.2 = fin ∧ (T k).1 = C ∧ Cond.fieldLink own idx (T k).1 (T k).2.1 (T k).2.2.1 ∈ lw_tbl
theorem mw_one {G : mw_G} {H : Heap} {a : Nat} {x : va_E} (ha : va_at G.2.2.2.1 mw_cl (mw_ad G a, mw_E G x) H) : va_P G.2.2.2.1 mw_cl [(mw_ad G a, mw_E G x)] H := by
  intro k q hk
  have hz : k < 1 := (List.getElem?_eq_some_iff.mp hk).1
  rw [show k = 0 by omega] at hk
  cases hk
  exact ha
theorem mw_get {a ci kf idx : Nat} {tk : FieldType} {fin : Bool} {fs : List Value} {v : Value} (dg : decode y.2.1 pc = .ok (.getfield idx, 3)) (hf : mw_F y.1.cls idx ci kf tk fin) (ho : mw_g h a = some (.inr (ci, fs))) (hv : fs[kf]? = some v) (k : mw_W y d kc ks (pc + 3) ls (v :: st) h Po) : mw_W y d kc ks pc ls (.ref a :: st) h Po := by
  intro G p l e R s m args below meth c mc msl H locs cells slots lsA C hc hs hR hS hL
  obtain ⟨hx, hb, hr, hml, hown, hlk, htr, htab, hnm, hRf, hRl, hRc, hRs, hK⟩ := id C
  obtain ⟨Cn, T, N, ty, hcl, ⟨hin, hgd, hty, hnmm⟩, hkN, -, -, -, hlk9⟩ := hf
  have hts : ∀ w ∈ u_ws Cn T N, w.before args s = true := fun w h9 => mw_word hK (hin w h9) (List.all_eq_true.mp hgd w h9)
  exact va_get (D := G.2.2.2.1) (cl := mw_cl) (tys := mw_tys G) (ws := [(mw_ad G a, mw_E G (.inr (ci, fs)))]) (ci := ci) (fs := fs.map (mw_V G)) (v := mw_V G v) hx hb hts (fun _ h9 => h9) hown (mw_know hK) (mw_one (hR.2.2.2 a _ ho).2.2) 0 rfl hcl kf hkN (mw_word hK hlk9 rfl) (fun _ h9 => h9) (by rw [List.getElem?_map, hv]; rfl) dg (k G p l e R s m args below meth c mc msl H locs cells slots lsA C hc hs hR hS hL)
theorem mw_put {a ci kf idx : Nat} {tk : FieldType} {fs : List Value} {v : Value} (dg : decode y.2.1 pc = .ok (.putfield idx, 3)) (hf : mw_F y.1.cls idx ci kf tk false) (ho : mw_g h a = some (.inr (ci, fs))) (hl : kf < fs.length) (hq : ∀ G : mw_G, narrow tk (mw_V G v) = mw_V G v ∧ fits tk (mw_V G v) = true) (k : mw_W y d kc ks (pc + 3) ls st (mw_s h a (.inr (ci, fs.set kf v))) Po) : mw_W y d kc ks pc ls (v :: .ref a :: st) h Po := by
  intro G p l e R s m args below meth c mc msl H locs cells slots lsA C hc hs hR hS hL
  obtain ⟨hx, hb, hr, hml, hown, hlk, htr, htab, hnm, hRf, hRl, hRc, hRs, hK⟩ := id C
  obtain ⟨Cn, T, N, ty, hcl, ⟨hin, hgd, hty, hnmm⟩, hkN, htk, hfin, -, hlk9⟩ := hf
  have hts : ∀ w ∈ u_ws Cn T N, w.before args s = true := fun w h9 => mw_word hK (hin w h9) (List.all_eq_true.mp hgd w h9)
  have hKn := mw_know hK
  have hap := va_apart (own := y.1.cls) hts (fun _ h9 => h9) ty hty hnmm hKn hcl
  obtain ⟨-, -, r, h1, cell, q1, q2, q3, q4⟩ := hR.2.2.2 a _ ho
  have hr9 : r = (Cn, T, N) := Option.some.inj (h1.symm.trans hcl)
  subst hr9
  obtain ⟨hS1, hfc, kC, hkC, hkind⟩ := hKn.1 ci _ hcl
  obtain ⟨cf, kf9, fi, f, hi, hsl⟩ := hS1 kf hkN
  have hlay := hts _ (u_in_lay hkN)
  unfold u_lay at hlay
  rw [if_neg (by rw [hfin]; decide)] at hlay
  have hst := (u_facts hfc hkC (u_lays hts (fun _ h9 => h9) hkN) hi).1
  have h6 := u_store hfc hkC hkind hlay hi (by rw [← htk]; exact hty kf hkN) (hq G).1 (hq G).2
  refine W.putK hx hb (f := f) ⟨hown, mw_word hK hlk9 rfl, ⟨_, _, _, hi⟩, hst⟩ (by rw [q2]; exact h6) q1 q3 (by rw [hsl]; exact k2_hasslot (q4 kf hkN)) rfl rfl dg fun H' e1 e2 e3 => ?_
  rw [hsl] at e1 ⊢
  refine k G p l e R s m args below meth c mc msl H' _ cells slots lsA C hc hs (mw_R_set hR ho ?_ e2 e3) (hS.put e2 e3 (mw_R_in hR ho)) hL
  refine ⟨_, hcl, t_OB.to (V := updV (vp_V (fs.map (mw_V G))) kf (mw_V G v)) ⟨_, e1, q2, q3, t_set q4 hap hkN _⟩ (fun j _ => ?_)⟩
  rw [vp_updV_set (by rw [List.length_map]; exact hl)]
  show vp_V _ j = vp_V ((fs.set kf v).map (mw_V G)) j
  rw [List.map_set]
theorem mw_putF {a ci kf idx : Nat} {tk : FieldType} {fs : List Value} {v : Value} (dg : decode y.2.1 pc = .ok (.putfield idx, 3)) (hf : mw_F y.1.cls idx ci kf tk true) (hcd : (mw_cl[ci]?).map (fun q => q.1) = some y.1.cls) (hini : y.1.name = "<init>") (ho : mw_g h a = some (.inr (ci, fs))) (hl : kf < fs.length) (hq : ∀ G : mw_G, narrow tk (mw_V G v) = mw_V G v ∧ fits tk (mw_V G v) = true) (k : mw_W y d kc ks (pc + 3) ls st (mw_s h a (.inr (ci, fs.set kf v))) Po) : mw_W y d kc ks pc ls (v :: .ref a :: st) h Po := by
  intro G p l e R s m args below meth c mc msl H locs cells slots lsA C hc hs hR hS hL
  obtain ⟨hx, hb, hr, hml, hown, hlk, htr, htab, hnm, hRf, hRl, hRc, hRs, hK⟩ := id C
  obtain ⟨Cn, T, N, ty, hcl, ⟨hin, hgd, hty, hnmm⟩, hkN, htk, hfin, hTC, hlk9⟩ := hf
  have hts : ∀ w ∈ u_ws Cn T N, w.before args s = true := fun w h9 => mw_word hK (hin w h9) (List.all_eq_true.mp hgd w h9)
  have hKn := mw_know hK
  have hap := va_apart (own := y.1.cls) hts (fun _ h9 => h9) ty hty hnmm hKn hcl
  have hCy : Cn = y.1.cls := by rw [hcl] at hcd; exact Option.some.inj hcd
  obtain ⟨-, -, r, h1, cell, q1, q2, q3, q4⟩ := hR.2.2.2 a _ ho
  have hr9 : r = (Cn, T, N) := Option.some.inj (h1.symm.trans hcl)
  subst hr9
  obtain ⟨hS1, hfc, kC, hkC, hkind⟩ := hKn.1 ci _ hcl
  obtain ⟨cf, kf9, fi, f, hi, hsl⟩ := hS1 kf hkN
  have hlay := hts _ (u_in_lay hkN)
  unfold u_lay at hlay
  rw [if_pos hfin] at hlay
  have hst := (u_facts hfc hkC (u_lays hts (fun _ h9 => h9) hkN) hi).1
  have hcf : m.cls = cf := by
    obtain ⟨_, _, c', _, _, _, -, -, hf', -, -, -, hown2, -⟩ := Cond.laysFinal_spec hlay
    have e1 : c' = cf := by have := hi.symm.trans hf'; simp at this; exact this.1.symm
    rw [hTC, hCy] at hown2
    rw [← e1]; exact Option.some.inj (hown.symm.trans hown2)
  have h6 := u_fits hfc hkC hkind (Or.inr hlay) hi (by rw [← htk]; exact hty kf hkN) (hq G).1 (hq G).2
  refine W.putFinK hx hb hown (mw_word hK hlk9 rfl) hi hst hcf (hnm.trans hini) (by rw [q2]; exact h6) q1 q3 (by rw [hsl]; exact k2_hasslot (q4 kf hkN)) rfl rfl dg fun H' e1 e2 e3 => ?_
  rw [hsl] at e1 ⊢
  refine k G p l e R s m args below meth c mc msl H' _ cells slots lsA C hc hs (mw_R_set hR ho ?_ e2 e3) (hS.put e2 e3 (mw_R_in hR ho)) hL
  refine ⟨_, hcl, t_OB.to (V := updV (vp_V (fs.map (mw_V G))) kf (mw_V G v)) ⟨_, e1, q2, q3, t_set q4 hap hkN _⟩ (fun j _ => ?_)⟩
  rw [vp_updV_set (by rw [List.length_map]; exact hl)]
  show vp_V _ j = vp_V ((fs.set kf v).map (mw_V G)) j
  rw [List.map_set]
theorem mw_ix {i : Int32} {j n : Nat} (hi : i = nI j) (hj : j < n) (hn : n < 2 ^ 31) : vp_in i n ∧ i.toNatClampNeg = j := by
  subst hi
  exact ⟨vp_in_nI hj hn, nI_clamp (by omega)⟩
theorem mw_iald {a n j : Nat} {f : Nat → Int32} {i : Int32} (dg : decode y.2.1 pc = .ok (.iaload, 1)) (ho : mw_g h a = some (.inl (0, (n, .inl f)))) (hi : vp_in i n ∧ i.toNatClampNeg = j) (k : mw_W y d kc ks (pc + 1) ls (.int (f j) :: st) h Po) : mw_W y d kc ks pc ls (.int i :: .ref a :: st) h Po := by
  intro G p l e R s m args below meth c mc msl H locs cells slots lsA C hc hs hR hS hL
  obtain ⟨hx, hb, hr, hml, hown, hlk, htr, htab, hnm, hRf, hRl, hRc, hRs, hK⟩ := id C
  refine va_iald (D := G.2.2.2.1) (cl := mw_cl) (tys := mw_tys G) (ws := [(mw_ad G a, mw_E G (.inl (0, (n, .inl f))))]) (f := f) hx hb (mw_know hK) (mw_one (hR.2.2.2 a _ ho).2.2) 0 0 rfl rfl hi.1 dg ?_
  rw [hi.2]
  exact k G p l e R s m args below meth c mc msl H locs cells slots lsA C hc hs hR hS hL
theorem mw_bald {a n j : Nat} {f : Nat → Int32} {i : Int32} (dg : decode y.2.1 pc = .ok (.baload, 1)) (ho : mw_g h a = some (.inl (1, (n, .inl f)))) (hi : vp_in i n ∧ i.toNatClampNeg = j) (k : mw_W y d kc ks (pc + 1) ls (.int (f j) :: st) h Po) : mw_W y d kc ks pc ls (.int i :: .ref a :: st) h Po := by
  intro G p l e R s m args below meth c mc msl H locs cells slots lsA C hc hs hR hS hL
  obtain ⟨hx, hb, hr, hml, hown, hlk, htr, htab, hnm, hRf, hRl, hRc, hRs, hK⟩ := id C
  refine va_bald (D := G.2.2.2.1) (cl := mw_cl) (tys := mw_tys G) (ws := [(mw_ad G a, mw_E G (.inl (1, (n, .inl f))))]) (f := f) hx hb (mw_know hK) (mw_one (hR.2.2.2 a _ ho).2.2) 0 1 rfl rfl hi.1 dg ?_
  rw [hi.2]
  exact k G p l e R s m args below meth c mc msl H locs cells slots lsA C hc hs hR hS hL
theorem mw_zald {a n j : Nat} {f : Nat → Int32} {i : Int32} (dg : decode y.2.1 pc = .ok (.baload, 1)) (ho : mw_g h a = some (.inl (2, (n, .inl f)))) (hi : vp_in i n ∧ i.toNatClampNeg = j) (k : mw_W y d kc ks (pc + 1) ls (.int (f j) :: st) h Po) : mw_W y d kc ks pc ls (.int i :: .ref a :: st) h Po := by
  intro G p l e R s m args below meth c mc msl H locs cells slots lsA C hc hs hR hS hL
  obtain ⟨hx, hb, hr, hml, hown, hlk, htr, htab, hnm, hRf, hRl, hRc, hRs, hK⟩ := id C
  refine va_zald (D := G.2.2.2.1) (cl := mw_cl) (tys := mw_tys G) (ws := [(mw_ad G a, mw_E G (.inl (2, (n, .inl f))))]) (f := f) hx hb (mw_know hK) (mw_one (hR.2.2.2 a _ ho).2.2) 0 2 rfl rfl hi.1 dg ?_
  rw [hi.2]
  exact k G p l e R s m args below meth c mc msl H locs cells slots lsA C hc hs hR hS hL
theorem mw_lald {a n j : Nat} {f : Nat → Int64} {i : Int32} (dg : decode y.2.1 pc = .ok (.laload, 1)) (ho : mw_g h a = some (.inl (3, (n, .inr (.inl f))))) (hi : vp_in i n ∧ i.toNatClampNeg = j) (k : mw_W y d kc ks (pc + 1) ls (.long (f j) :: st) h Po) : mw_W y d kc ks pc ls (.int i :: .ref a :: st) h Po := by
  intro G p l e R s m args below meth c mc msl H locs cells slots lsA C hc hs hR hS hL
  obtain ⟨hx, hb, hr, hml, hown, hlk, htr, htab, hnm, hRf, hRl, hRc, hRs, hK⟩ := id C
  refine va_lald (D := G.2.2.2.1) (cl := mw_cl) (tys := mw_tys G) (ws := [(mw_ad G a, mw_E G (.inl (3, (n, .inr (.inl f)))))]) (f := f) hx hb (mw_know hK) (mw_one (hR.2.2.2 a _ ho).2.2) 0 3 rfl rfl hi.1 dg ?_
  rw [hi.2]
  exact k G p l e R s m args below meth c mc msl H locs cells slots lsA C hc hs hR hS hL
theorem mw_aald {a n j t : Nat} {Cn : String} {g : Nat → Option Nat} {i : Int32} (ht : ∀ G : mw_G, (mw_tys G)[t]? = some (G.2.2.2.2 t, .object Cn)) (dg : decode y.2.1 pc = .ok (.aaload, 1)) (ho : mw_g h a = some (.inl (t, (n, .inr (.inr (.inr (.inr g))))))) (hi : vp_in i n ∧ i.toNatClampNeg = j) (k : mw_W y d kc ks (pc + 1) ls (va_rf (g j) :: st) h Po) : mw_W y d kc ks pc ls (.int i :: .ref a :: st) h Po := by
  intro G p l e R s m args below meth c mc msl H locs cells slots lsA C hc hs hR hS hL
  obtain ⟨hx, hb, hr, hml, hown, hlk, htr, htab, hnm, hRf, hRl, hRc, hRs, hK⟩ := id C
  refine va_aldq (D := G.2.2.2.1) (cl := mw_cl) (tys := mw_tys G) (ws := [(mw_ad G a, mw_E G (.inl (t, (n, .inr (.inr (.inr (.inr g)))))))]) (f := fun q => (g q).map (mw_ad G)) hx hb (mw_know hK) (mw_one (hR.2.2.2 a _ ho).2.2) 0 t rfl (ht G) hi.1 dg ?_
  rw [hi.2, ← mw_rf]
  exact k G p l e R s m args below meth c mc msl H locs cells slots lsA C hc hs hR hS hL
theorem mw_alen {a n t : Nat} {z : (Nat → Int32) ⊕ (Nat → Int64) ⊕ (Nat → UInt32) ⊕ (Nat → UInt64) ⊕ (Nat → Option Nat)} {tk : FieldType} (ht : ∀ G : mw_G, (mw_tys G)[t]? = some (G.2.2.2.2 t, tk)) (dg : decode y.2.1 pc = .ok (.arraylength, 1)) (ho : mw_g h a = some (.inl (t, (n, z)))) (k : mw_W y d kc ks (pc + 1) ls (.int (nI n) :: st) h Po) : mw_W y d kc ks pc ls (.ref a :: st) h Po := by
  intro G p l e R s m args below meth c mc msl H locs cells slots lsA C hc hs hR hS hL
  obtain ⟨hx, hb, hr, hml, hown, hlk, htr, htab, hnm, hRf, hRl, hRc, hRs, hK⟩ := id C
  refine va_alen (D := G.2.2.2.1) (cl := mw_cl) (tys := mw_tys G) (ws := [(mw_ad G a, mw_E G (.inl (t, (n, z))))]) hx hb (mw_know hK) (mw_one (hR.2.2.2 a _ ho).2.2) 0 t (x := mw_A G (n, z)) rfl (ht G) (v := nI n) ?_ dg (k G p l e R s m args below meth c mc msl H locs cells slots lsA C hc hs hR hS hL)
  obtain f | f | f | f | f := z <;> rfl
theorem mw_sld {j : Nat} {i : Int32} (dg : decode y.2.1 pc = .ok (.iaload, 1)) (hi : vp_in i h.2.2.1 ∧ i.toNatClampNeg = j) (k : mw_W y d kc ks (pc + 1) ls (.int (h.2.2.2 j) :: st) h Po) : mw_W y d kc ks pc ls (.int i :: .ref 0 :: st) h Po := by
  intro G p l e R s m args below meth c mc msl H locs cells slots lsA C hc hs hR hS hL
  obtain ⟨hx, hb, hr, hml, hown, hlk, htr, htab, hnm, hRf, hRl, hRc, hRs, hK⟩ := id C
  have e9 := hR.2.2.1
  refine va_sld (A := mw_I G) hx hb (mw_X0 hK) (Nat.lt_of_lt_of_le hK.1.2.2.2.1 hK.2.2.1) (Nat.not_le.mpr hK.1.2.2.2.1) hS (by rw [← e9]; exact hi.1) dg ?_
  rw [hi.2, ← e9]
  exact k G p l e R s m args below meth c mc msl H locs cells slots lsA C hc hs hR hS hL
theorem mw_slen (dg : decode y.2.1 pc = .ok (.arraylength, 1)) (k : mw_W y d kc ks (pc + 1) ls (.int (nI h.2.2.1) :: st) h Po) : mw_W y d kc ks pc ls (.ref 0 :: st) h Po := by
  intro G p l e R s m args below meth c mc msl H locs cells slots lsA C hc hs hR hS hL
  obtain ⟨hx, hb, hr, hml, hown, hlk, htr, htab, hnm, hRf, hRl, hRc, hRs, hK⟩ := id C
  have e9 := hR.2.2.1
  refine va_slen (A := mw_I G) hx hb (mw_X0 hK) (Nat.lt_of_lt_of_le hK.1.2.2.2.1 hK.2.2.1) (Nat.not_le.mpr hK.1.2.2.2.1) hS dg ?_
  have k9 := k G p l e R s m args below meth c mc msl H locs cells slots lsA C hc hs hR hS hL
  rw [e9] at k9
  exact k9
theorem mw_iast {a n j : Nat} {f : Nat → Int32} {i : Int32} {x : Int32} (dg : decode y.2.1 pc = .ok (.iastore, 1)) (ho : mw_g h a = some (.inl (0, (n, .inl f)))) (hi : vp_in i n ∧ i.toNatClampNeg = j) (k : mw_W y d kc ks (pc + 1) ls st (mw_s h a (.inl (0, (n, .inl (upd f j x))))) Po) : mw_W y d kc ks pc ls (.int x :: .int i :: .ref a :: st) h Po := by
  intro G p l e R s m args below meth c mc msl H locs cells slots lsA C hc hs hR hS hL
  obtain ⟨hx, hb, hr, hml, hown, hlk, htr, htab, hnm, hRf, hRl, hRc, hRs, hK⟩ := id C
  obtain ⟨-, -, hat⟩ := hR.2.2.2 a _ ho
  refine W.iast hx hb hat (((mw_know hK).2 0 _ rfl).1 n (fun q => .int (f q))) (fun q => by cases q) (by show ¬ (i < 0 ∨ (arrV _ _ _).slots.size ≤ _); rw [arrV_size]; exact hi.1) rfl rfl dg fun H1 e1 e2 e3 => ?_
  refine k G p l e R s m args below meth c mc msl H1 _ cells slots lsA C hc hs (mw_R_set hR ho ?_ e2 e3) (hS.put e2 e3 (mw_R_in hR ho)) hL
  show H1[mw_ad G a]? = some (vp_cell (G.2.2.2.2 0) (n, .inl (upd f j x)))
  rw [e1]
  show some ((vp_cell (G.2.2.2.2 0) (n, .inl f)).setSlot _ (.int x)) = _
  rw [vp_cell_i, vp_cell_i, arrV_store, hi.2]
  congr 2
  funext q
  by_cases hq : q = j
  · subst hq
    simp [updV, upd]
  · simp [updV, upd, hq]
theorem mw_bast {a n j : Nat} {f : Nat → Int32} {i : Int32} {x : Int32} (dg : decode y.2.1 pc = .ok (.bastore, 1)) (ho : mw_g h a = some (.inl (1, (n, .inl f)))) (hi : vp_in i n ∧ i.toNatClampNeg = j) (k : mw_W y d kc ks (pc + 1) ls st (mw_s h a (.inl (1, (n, .inl (upd f j (vp_nar .byte x)))))) Po) : mw_W y d kc ks pc ls (.int x :: .int i :: .ref a :: st) h Po := by
  intro G p l e R s m args below meth c mc msl H locs cells slots lsA C hc hs hR hS hL
  obtain ⟨hx, hb, hr, hml, hown, hlk, htr, htab, hnm, hRf, hRl, hRc, hRs, hK⟩ := id C
  obtain ⟨-, -, hat⟩ := hR.2.2.2 a _ ho
  refine W.bast hx hb hat (((mw_know hK).2 1 _ rfl).1 n (fun q => .int (f q))) (fun q => by cases q) (by show ¬ (i < 0 ∨ (arrV _ _ _).slots.size ≤ _); rw [arrV_size]; exact hi.1) rfl rfl dg fun H1 e1 e2 e3 => ?_
  refine k G p l e R s m args below meth c mc msl H1 _ cells slots lsA C hc hs (mw_R_set hR ho ?_ e2 e3) (hS.put e2 e3 (mw_R_in hR ho)) hL
  show H1[mw_ad G a]? = some (vp_cell (G.2.2.2.2 1) (n, .inl (upd f j (vp_nar .byte x))))
  rw [e1]
  show some ((vp_cell (G.2.2.2.2 1) (n, .inl f)).setSlot _ (.int (vp_nar .byte x))) = _
  rw [vp_cell_i, vp_cell_i, arrV_store, hi.2]
  congr 2
  funext q
  by_cases hq : q = j
  · subst hq
    simp [updV, upd]
  · simp [updV, upd, hq]
theorem mw_zast {a n j : Nat} {f : Nat → Int32} {i : Int32} {x : Int32} (dg : decode y.2.1 pc = .ok (.bastore, 1)) (ho : mw_g h a = some (.inl (2, (n, .inl f)))) (hi : vp_in i n ∧ i.toNatClampNeg = j) (k : mw_W y d kc ks (pc + 1) ls st (mw_s h a (.inl (2, (n, .inl (upd f j (vp_nar .boolean x)))))) Po) : mw_W y d kc ks pc ls (.int x :: .int i :: .ref a :: st) h Po := by
  intro G p l e R s m args below meth c mc msl H locs cells slots lsA C hc hs hR hS hL
  obtain ⟨hx, hb, hr, hml, hown, hlk, htr, htab, hnm, hRf, hRl, hRc, hRs, hK⟩ := id C
  obtain ⟨-, -, hat⟩ := hR.2.2.2 a _ ho
  refine W.zast hx hb hat (((mw_know hK).2 2 _ rfl).1 n (fun q => .int (f q))) (fun q => by cases q) (by show ¬ (i < 0 ∨ (arrV _ _ _).slots.size ≤ _); rw [arrV_size]; exact hi.1) rfl rfl dg fun H1 e1 e2 e3 => ?_
  refine k G p l e R s m args below meth c mc msl H1 _ cells slots lsA C hc hs (mw_R_set hR ho ?_ e2 e3) (hS.put e2 e3 (mw_R_in hR ho)) hL
  show H1[mw_ad G a]? = some (vp_cell (G.2.2.2.2 2) (n, .inl (upd f j (vp_nar .boolean x))))
  rw [e1]
  show some ((vp_cell (G.2.2.2.2 2) (n, .inl f)).setSlot _ (.int (vp_nar .boolean x))) = _
  rw [vp_cell_i, vp_cell_i, arrV_store, hi.2]
  congr 2
  funext q
  by_cases hq : q = j
  · subst hq
    simp [updV, upd]
  · simp [updV, upd, hq]
theorem mw_last {a n j : Nat} {f : Nat → Int64} {i : Int32} {x : Int64} (dg : decode y.2.1 pc = .ok (.lastore, 1)) (ho : mw_g h a = some (.inl (3, (n, .inr (.inl f))))) (hi : vp_in i n ∧ i.toNatClampNeg = j) (k : mw_W y d kc ks (pc + 1) ls st (mw_s h a (.inl (3, (n, .inr (.inl (vf_upd f j x)))))) Po) : mw_W y d kc ks pc ls (.long x :: .int i :: .ref a :: st) h Po := by
  intro G p l e R s m args below meth c mc msl H locs cells slots lsA C hc hs hR hS hL
  obtain ⟨hx, hb, hr, hml, hown, hlk, htr, htab, hnm, hRf, hRl, hRc, hRs, hK⟩ := id C
  obtain ⟨-, -, hat⟩ := hR.2.2.2 a _ ho
  refine W.last hx hb hat (((mw_know hK).2 3 _ rfl).1 n (fun q => .long (f q))) (fun q => by cases q) (by show ¬ (i < 0 ∨ (arrV _ _ _).slots.size ≤ _); rw [arrV_size]; exact hi.1) rfl rfl dg fun H1 e1 e2 e3 => ?_
  refine k G p l e R s m args below meth c mc msl H1 _ cells slots lsA C hc hs (mw_R_set hR ho ?_ e2 e3) (hS.put e2 e3 (mw_R_in hR ho)) hL
  show H1[mw_ad G a]? = some (vp_cell (G.2.2.2.2 3) (n, .inr (.inl (vf_upd f j x))))
  rw [e1]
  show some ((vp_cell (G.2.2.2.2 3) (n, .inr (.inl f))).setSlot _ (.long x)) = _
  rw [vp_cell_l, vp_cell_l, arrV_store, hi.2]
  congr 2
  funext q
  by_cases hq : q = j
  · subst hq
    simp [updV, vf_upd]
  · simp [updV, vf_upd, hq]
theorem mw_aast {a n j t b cj : Nat} {Cn : String} {T : u_T} {N : Nat} {g : Nat → Option Nat} {i : Int32} {vs : List Value} (ht : ∀ G : mw_G, (mw_tys G)[t]? = some (G.2.2.2.2 t, .object Cn)) (dg : decode y.2.1 pc = .ok (.aastore, 1)) (ho : mw_g h a = some (.inl (t, (n, .inr (.inr (.inr (.inr g))))))) (hi : vp_in i n ∧ i.toNatClampNeg = j) (hv : mw_g h b = some (.inr (cj, vs))) (hcj : mw_cl[cj]? = some (Cn, T, N)) (k : mw_W y d kc ks (pc + 1) ls st (mw_s h a (.inl (t, (n, .inr (.inr (.inr (.inr (va_up g j (some b))))))))) Po) : mw_W y d kc ks pc ls (.ref b :: .int i :: .ref a :: st) h Po := by
  intro G p l e R s m args below meth c mc msl H locs cells slots lsA C hc hs hR hS hL
  obtain ⟨hx, hb, hr, hml, hown, hlk, htr, htab, hnm, hRf, hRl, hRc, hRs, hK⟩ := id C
  obtain ⟨-, -, hat⟩ := hR.2.2.2 a _ ho
  obtain ⟨-, -, r', hr', cellV, g1, g2, g3, -⟩ := hR.2.2.2 b _ hv
  have hKn := mw_know hK
  have hcls := (hKn.1 cj _ hcj).2
  obtain ⟨kA, comp, k1, k2, k3, -⟩ := (hKn.2 t _ (ht G)).2
  have hcomp : comp = G.2.2.2.1.1 cj := Option.some.inj (k3.symm.trans hcls.1)
  subst hcomp
  obtain ⟨kC, hkC, -⟩ := hcls.2
  have hlt : i.toNatClampNeg < n := Nat.not_le.mp fun q => hi.1 (Or.inr q)
  have h0 : ¬ i < 0 := fun q => hi.1 (Or.inl q)
  refine W.aast hx hb hat (fun q h9 => by cases h9) (fun h9 => by cases h9) k1 k2 rfl hkC ⟨h0, by show _ < (arrV _ _ _).slots.size; rw [arrV_size]; exact hlt⟩ g1 (fun q h9 => by rw [g3] at h9; cases h9) (by rw [g2]; exact hkC) (by rw [g2]; exact va_assign hcls) rfl rfl dg fun H1 e1 e2 e3 => ?_
  refine k G p l e R s m args below meth c mc msl H1 _ cells slots lsA C hc hs (mw_R_set hR ho ?_ e2 e3) (hS.put e2 e3 (mw_R_in hR ho)) hL
  show H1[mw_ad G a]? = some (vp_cell (G.2.2.2.2 t) (n, .inr (.inr (.inr (.inr (fun q => (va_up g j (some b) q).map (mw_ad G)))))))
  rw [e1]
  show some ((vp_cell (G.2.2.2.2 t) (n, .inr (.inr (.inr (.inr (fun q => (g q).map (mw_ad G))))))).setSlot _ _) = _
  rw [vp_cell_q, vp_cell_q, arrV_store, hi.2]
  congr 2
  funext q
  by_cases hq : q = j
  · subst hq
    simp [updV, va_up, va_rf, mw_V]
  · simp [updV, va_up, hq]
theorem mw_aastN {a n j t : Nat} {Cn : String} {g : Nat → Option Nat} {i : Int32} (ht : ∀ G : mw_G, (mw_tys G)[t]? = some (G.2.2.2.2 t, .object Cn)) (dg : decode y.2.1 pc = .ok (.aastore, 1)) (ho : mw_g h a = some (.inl (t, (n, .inr (.inr (.inr (.inr g))))))) (hi : vp_in i n ∧ i.toNatClampNeg = j) (k : mw_W y d kc ks (pc + 1) ls st (mw_s h a (.inl (t, (n, .inr (.inr (.inr (.inr (va_up g j none)))))))) Po) : mw_W y d kc ks pc ls (.null :: .int i :: .ref a :: st) h Po := by
  intro G p l e R s m args below meth c mc msl H locs cells slots lsA C hc hs hR hS hL
  obtain ⟨hx, hb, hr, hml, hown, hlk, htr, htab, hnm, hRf, hRl, hRc, hRs, hK⟩ := id C
  obtain ⟨-, -, hat⟩ := hR.2.2.2 a _ ho
  have hKn := mw_know hK
  refine va_WaastN (C := Cn) hx hb hat ((hKn.2 t _ (ht G)).1 n (fun q => va_rf ((g q).map (mw_ad G)))) (fun h9 => by cases h9) (by show ¬ (i < 0 ∨ (arrV _ _ _).slots.size ≤ _); rw [arrV_size]; exact hi.1) rfl rfl dg fun H1 e1 e2 e3 => ?_
  refine k G p l e R s m args below meth c mc msl H1 _ cells slots lsA C hc hs (mw_R_set hR ho ?_ e2 e3) (hS.put e2 e3 (mw_R_in hR ho)) hL
  show H1[mw_ad G a]? = some (vp_cell (G.2.2.2.2 t) (n, .inr (.inr (.inr (.inr (fun q => (va_up g j none q).map (mw_ad G)))))))
  rw [e1]
  show some ((vp_cell (G.2.2.2.2 t) (n, .inr (.inr (.inr (.inr (fun q => (g q).map (mw_ad G))))))).setSlot _ _) = _
  rw [vp_cell_q, vp_cell_q, arrV_store, hi.2]
  congr 2
  funext q
  by_cases hq : q = j
  · subst hq
    simp [updV, va_up, va_rf]
  · simp [updV, va_up, hq]
/-- a cell more: nothing old has changed -/
theorem mw_S_new {G : mw_G} {H0 H H1 : Heap} {locs : List Loc} (hS : va_S (mw_I G) H0 H locs) (hz : H1.size = H.size + 1) (oq : ∀ q : Nat, q < H.size → H1[q]? = H[q]?) : va_S (mw_I G) H0 H1 locs :=
  ⟨Nat.le_trans hS.1 (by omega), fun x h1 h2 => (oq x (Nat.lt_of_lt_of_le h1 hS.1)).trans (hS.2.1 x h1 h2), hS.2.2⟩
theorem mw_ref {G : mw_G} {h : mw_H} {H : Heap} (hR : mw_R G h H) (st : List Value) : (Value.ref h.1 :: st).map (mw_V G) = .ref H.size :: st.map (mw_V G) := by
  show Value.ref (mw_ad G h.1) :: _ = _
  rw [mw_R_next hR]
theorem mw_new {ci idx N kc' ks' : Nat} {Cn : String} {T : u_T} {ty : Nat → FieldType} {fs : List Value} (hcl : mw_cl[ci]? = some (Cn, T, N)) (hcf : mw_CF Cn T N ty) (hw : Cond.classLink y.1.cls idx Cn ∈ lw_tbl ∧ Cond.instantiable Cn N ∈ lw_tbl ∧ Cond.initialized Cn ∈ lw_tbl) (hfs : ∀ j, j < N → defaultValue (ty j) = vp_V fs j) (hfm : ∀ G : mw_G, fs.map (mw_V G) = fs) (dg : decode y.2.1 pc = .ok (.new idx, 3)) (hkc : kc' + 1 ≤ kc) (hks : ks' + N ≤ ks)
    (k : mw_W y d kc' ks' (pc + 3) ls (.ref h.1 :: st) (mw_n h (.inr (ci, fs))) Po) : mw_W y d kc ks pc ls st h Po := by
  intro G p l e R s m args below meth c mc msl H locs cells slots lsA C hc hs hR hS hL
  obtain ⟨hx, hb, hr, hml, hown, hlk, htr, htab, hnm, hRf, hRl, hRc, hRs, hK⟩ := id C
  obtain ⟨hin, hgd, hty, hnmm⟩ := hcf
  have hts : ∀ w ∈ u_ws Cn T N, w.before args s = true := fun w h9 => mw_word hK (hin w h9) (List.all_eq_true.mp hgd w h9)
  have hKn := (mw_know hK).1 ci _ hcl
  refine W.newcK hx hb hown (mw_word hK hw.1 rfl) (mw_word hK hw.2.1 rfl) (mw_word hK hw.2.2 rfl) rfl dg (by omega) (by omega) hKn.2.1 rfl fun H1 kC hkC e1 z1 o1 => ?_
  have k9 := k G p l e R s m args below meth c mc msl H1 locs (cells + 1) (slots + N) lsA C (by omega) (by omega) (mw_R_new hR ?_ z1 o1) (mw_S_new hS z1 o1) hL
  · rw [mw_ref hR] at k9
    exact k9
  · refine ⟨_, hcl, ?_⟩
    show t_OB _ _ _ _ _ (vp_V (fs.map (mw_V G)))
    rw [hfm]
    exact (u_born ty hts (fun _ h9 => h9) hKn hkC e1 hty).to hfs
theorem mw_newI {N kc' ks' : Nat} {n : Int32} (hw : Cond.arrayClass .int ∈ lw_tbl) (dg : decode y.2.1 pc = .ok (.newarray .int, 2)) (hn : ¬ n < 0) (hN : n.toNatClampNeg = N) (hby : N ≤ 60000) (hkc : kc' + 1 ≤ kc) (hks : ks' + N ≤ ks)
    (k : mw_W y d kc' ks' (pc + 2) ls (.ref h.1 :: st) (mw_n h (.inl (0, (N, .inl (fun _ => 0))))) Po) : mw_W y d kc ks pc ls (.int n :: st) h Po := by
  intro G p l e R s m args below meth c mc msl H locs cells slots lsA C hc hs hR hS hL
  obtain ⟨hx, hb, hr, hml, hown, hlk, htr, htab, hnm, hRf, hRl, hRc, hRs, hK⟩ := id C
  refine va_newaK (atype := .int) hx hb (mw_word hK hw rfl) rfl dg rfl hn hN (by show N * 4 ≤ 536870912; omega) (by omega) (by omega) rfl fun H1 cA e1 z1 o1 hAr hNm => ?_
  have hcA : cA = G.2.2.2.2 0 := Option.some.inj (hNm.symm.trans ((mw_know hK).2 0 _ rfl).2)
  subst hcA
  have k9 := k G p l e R s m args below meth c mc msl H1 locs (cells + 1) (slots + N) lsA C (by omega) (by omega) (mw_R_new hR ?_ z1 o1) (mw_S_new hS z1 o1) hL
  · rw [mw_ref hR] at k9
    exact k9
  · exact e1
theorem mw_newB {N kc' ks' : Nat} {n : Int32} (hw : Cond.arrayClass .byte ∈ lw_tbl) (dg : decode y.2.1 pc = .ok (.newarray .byte, 2)) (hn : ¬ n < 0) (hN : n.toNatClampNeg = N) (hby : N ≤ 60000) (hkc : kc' + 1 ≤ kc) (hks : ks' + N ≤ ks)
    (k : mw_W y d kc' ks' (pc + 2) ls (.ref h.1 :: st) (mw_n h (.inl (1, (N, .inl (fun _ => 0))))) Po) : mw_W y d kc ks pc ls (.int n :: st) h Po := by
  intro G p l e R s m args below meth c mc msl H locs cells slots lsA C hc hs hR hS hL
  obtain ⟨hx, hb, hr, hml, hown, hlk, htr, htab, hnm, hRf, hRl, hRc, hRs, hK⟩ := id C
  refine va_newaK (atype := .byte) hx hb (mw_word hK hw rfl) rfl dg rfl hn hN (by show N * 1 ≤ 536870912; omega) (by omega) (by omega) rfl fun H1 cA e1 z1 o1 hAr hNm => ?_
  have hcA : cA = G.2.2.2.2 1 := Option.some.inj (hNm.symm.trans ((mw_know hK).2 1 _ rfl).2)
  subst hcA
  have k9 := k G p l e R s m args below meth c mc msl H1 locs (cells + 1) (slots + N) lsA C (by omega) (by omega) (mw_R_new hR ?_ z1 o1) (mw_S_new hS z1 o1) hL
  · rw [mw_ref hR] at k9
    exact k9
  · exact e1
theorem mw_newZ {N kc' ks' : Nat} {n : Int32} (hw : Cond.arrayClass .boolean ∈ lw_tbl) (dg : decode y.2.1 pc = .ok (.newarray .boolean, 2)) (hn : ¬ n < 0) (hN : n.toNatClampNeg = N) (hby : N ≤ 60000) (hkc : kc' + 1 ≤ kc) (hks : ks' + N ≤ ks)
    (k : mw_W y d kc' ks' (pc + 2) ls (.ref h.1 :: st) (mw_n h (.inl (2, (N, .inl (fun _ => 0))))) Po) : mw_W y d kc ks pc ls (.int n :: st) h Po := by
  intro G p l e R s m args below meth c mc msl H locs cells slots lsA C hc hs hR hS hL
  obtain ⟨hx, hb, hr, hml, hown, hlk, htr, htab, hnm, hRf, hRl, hRc, hRs, hK⟩ := id C
  refine va_newaK (atype := .boolean) hx hb (mw_word hK hw rfl) rfl dg rfl hn hN (by show N * 1 ≤ 536870912; omega) (by omega) (by omega) rfl fun H1 cA e1 z1 o1 hAr hNm => ?_
  have hcA : cA = G.2.2.2.2 2 := Option.some.inj (hNm.symm.trans ((mw_know hK).2 2 _ rfl).2)
  subst hcA
  have k9 := k G p l e R s m args below meth c mc msl H1 locs (cells + 1) (slots + N) lsA C (by omega) (by omega) (mw_R_new hR ?_ z1 o1) (mw_S_new hS z1 o1) hL
  · rw [mw_ref hR] at k9
    exact k9
  · exact e1
theorem mw_newL {N kc' ks' : Nat} {n : Int32} (hw : Cond.arrayClass .long ∈ lw_tbl) (dg : decode y.2.1 pc = .ok (.newarray .long, 2)) (hn : ¬ n < 0) (hN : n.toNatClampNeg = N) (hby : N ≤ 60000) (hkc : kc' + 1 ≤ kc) (hks : ks' + N ≤ ks)
    (k : mw_W y d kc' ks' (pc + 2) ls (.ref h.1 :: st) (mw_n h (.inl (3, (N, .inr (.inl (fun _ => 0)))))) Po) : mw_W y d kc ks pc ls (.int n :: st) h Po := by
  intro G p l e R s m args below meth c mc msl H locs cells slots lsA C hc hs hR hS hL
  obtain ⟨hx, hb, hr, hml, hown, hlk, htr, htab, hnm, hRf, hRl, hRc, hRs, hK⟩ := id C
  refine va_newaK (atype := .long) hx hb (mw_word hK hw rfl) rfl dg rfl hn hN (by show N * 8 ≤ 536870912; omega) (by omega) (by omega) rfl fun H1 cA e1 z1 o1 hAr hNm => ?_
  have hcA : cA = G.2.2.2.2 3 := Option.some.inj (hNm.symm.trans ((mw_know hK).2 3 _ rfl).2)
  subst hcA
  have k9 := k G p l e R s m args below meth c mc msl H1 locs (cells + 1) (slots + N) lsA C (by omega) (by omega) (mw_R_new hR ?_ z1 o1) (mw_S_new hS z1 o1) hL
  · rw [mw_ref hR] at k9
    exact k9
  · exact e1
theorem mw_newq {N t idx kc' ks' : Nat} {n : Int32} {Cn : String} (ht : ∀ G : mw_G, (mw_tys G)[t]? = some (G.2.2.2.2 t, .object Cn)) (hw : Cond.classLink y.1.cls idx Cn ∈ lw_tbl ∧ Cond.arrayOver (.object Cn) ∈ lw_tbl) (dg : decode y.2.1 pc = .ok (.anewarray idx, 3)) (hn : ¬ n < 0) (hN : n.toNatClampNeg = N) (hby : N ≤ 60000) (hkc : kc' + 1 ≤ kc) (hks : ks' + N ≤ ks)
    (k : mw_W y d kc' ks' (pc + 3) ls (.ref h.1 :: st) (mw_n h (.inl (t, (N, .inr (.inr (.inr (.inr (fun _ => none)))))))) Po) : mw_W y d kc ks pc ls (.int n :: st) h Po := by
  intro G p l e R s m args below meth c mc msl H locs cells slots lsA C hc hs hR hS hL
  obtain ⟨hx, hb, hr, hml, hown, hlk, htr, htab, hnm, hRf, hRl, hRc, hRs, hK⟩ := id C
  subst hN
  have hAO : va_AO Cn s := va_AO.moved hK.2.1.alike (va_AO.of (hK.1.1 _ hw.2))
  refine W.anew hx hb hown (mw_word hK hw.1 rfl) (va_AO.use hAO) rfl dg rfl hn (by omega) (by omega) (by omega) fun cA kA comp f1 f2 f3 f4 => ?_
  generalize hH1 : H.push ({ cls := cA, slots := Array.replicate n.toNatClampNeg .null, vm := .none } : Cell) = H1
  have z1 : H1.size = H.size + 1 := by rw [← hH1, Array.size_push]
  have e1 : H1[H.size]? = some (arrV cA n.toNatClampNeg (fun _ => .null)) := by rw [← hH1, Array.getElem?_push_size, ← arrV_new]
  have o1 : ∀ q : Nat, q < H.size → H1[q]? = H[q]? := fun q hq => by rw [← hH1, Array.getElem?_push, if_neg (Nat.ne_of_lt hq)]
  obtain ⟨kA9, comp9, g1, g2, g3, g4⟩ := ((mw_know hK).2 t _ (ht G)).2
  have hcA : cA = G.2.2.2.2 t := Option.some.inj (f1.symm.trans g4)
  subst hcA
  have k9 := k G p l e R s m args below meth c mc msl H1 locs (cells + 1) (slots + n.toNatClampNeg) lsA C (by omega) (by omega) (mw_R_new hR ?_ z1 o1) (mw_S_new hS z1 o1) hL
  · rw [mw_ref hR] at k9
    exact k9
  · exact e1
/-- Object's own constructor -/
theorem mw_obj {idx a : Nat} (hw : Cond.methodLink y.1.cls idx objectInit ∈ lw_tbl ∧ Cond.instanceMethod objectInit ∈ lw_tbl ∧ Cond.code objectInit ⟨#[0xb1]⟩ 1 none ∈ lw_tbl) (dg : decode y.2.1 pc = .ok (.invokespecial idx, 3)) (hd : 1 ≤ d) (hst : (st.map fun v => v.category).sum ≤ 8) (k : mw_W y d kc ks (pc + 3) ls st h Po) : mw_W y d kc ks pc ls (.ref a :: st) h Po := by
  intro G p l e R s m args below meth c mc msl H locs cells slots lsA C hc hs hR hS hL
  obtain ⟨hx, hb, hr, hml, hown, hlk, htr, htab, hnm, hRf, hRl, hRc, hRs, hK⟩ := id C
  refine W.objInit hx hb hown (mw_word hK hw.1 rfl) (mw_word hK hw.2.1 rfl) (mw_word hK hw.2.2 rfl) rfl (by show lsA.size = _; rw [hml]; exact hL.1) rfl dg (by omega) ?_ (k G p l e R s m args below meth c mc msl H locs cells slots lsA C hc hs hR hS hL)
  have e9 : ((st.map (mw_V G)).map fun v => v.category) = st.map fun v => v.category := by
    rw [List.map_map]
    exact List.map_congr_left (fun v _ => mw_cat v)
  show 2 * 0 + ((st.map (mw_V G)).map fun v => v.category).sum + 12 ≤ R.locals
  rw [e9]
  omega
/-! ends -/
theorem mw_F_S {G : mw_G} {s t : State} {H : Heap} {locs : List Loc} (hS : va_S (mw_I G) s.heap H locs) (ht : t.heap = H) : va_F (mw_I G) s t := hS.F ht
theorem mw_ireturn {x : Int32} (dg : decode y.2.1 pc = .ok (.ireturn, 1)) (hty : ∃ ty, y.2.2.2.1 = some ty ∧ narrow ty (.int x) = .int x) (hp : Po (.inl (some (.int x))) h) : mw_W y d kc ks pc ls [.int x] h Po := by
  intro G p l e R s m args below meth c mc msl H locs cells slots lsA C hc hs hR hS hL
  obtain ⟨hx, hb, hr, hml, hown, hlk, htr, htab, hnm, hRf, hRl, hRc, hRs, hK⟩ := id C
  obtain ⟨ty, ht1, ht2⟩ := hty
  refine W.widen (k := mc) (n := msl) (by omega) (by omega) ?_
  exact vx_ret (W.zret (ty := ty) hx hb (hr.trans ht1) ht2 (fun t ht _ => ⟨⟨some (.int x), h, rfl, hp, by rw [ht]; exact hR⟩, hS.F ht⟩) (fun q hq => hS.2.2 q hq) dg hlk)
theorem mw_areturn {a : Nat} (dg : decode y.2.1 pc = .ok (.areturn, 1)) (hty : ∃ Cn, y.2.2.2.1 = some (.object Cn)) (hp : Po (.inl (some (.ref a))) h) : mw_W y d kc ks pc ls [.ref a] h Po := by
  intro G p l e R s m args below meth c mc msl H locs cells slots lsA C hc hs hR hS hL
  obtain ⟨hx, hb, hr, hml, hown, hlk, htr, htab, hnm, hRf, hRl, hRc, hRs, hK⟩ := id C
  obtain ⟨Cn, ht1⟩ := hty
  refine W.widen (k := mc) (n := msl) (by omega) (by omega) ?_
  exact vx_ret (W.aret (rt := .object Cn) (v := .ref (mw_ad G a)) hx hb (hr.trans ht1) (Or.inl ⟨_, rfl⟩) (Or.inr ⟨_, rfl⟩) (fun t ht _ => ⟨⟨some (.ref a), h, rfl, hp, by rw [ht]; exact hR⟩, hS.F ht⟩) (fun q hq => hS.2.2 q hq) dg hlk)
theorem mw_areturnN (dg : decode y.2.1 pc = .ok (.areturn, 1)) (hty : ∃ Cn, y.2.2.2.1 = some (.object Cn)) (hp : Po (.inl (some .null)) h) : mw_W y d kc ks pc ls [.null] h Po := by
  intro G p l e R s m args below meth c mc msl H locs cells slots lsA C hc hs hR hS hL
  obtain ⟨hx, hb, hr, hml, hown, hlk, htr, htab, hnm, hRf, hRl, hRc, hRs, hK⟩ := id C
  obtain ⟨Cn, ht1⟩ := hty
  refine W.widen (k := mc) (n := msl) (by omega) (by omega) ?_
  exact vx_ret (W.aret (rt := .object Cn) (v := .null) hx hb (hr.trans ht1) (Or.inl ⟨_, rfl⟩) (Or.inl rfl) (fun t ht _ => ⟨⟨some .null, h, rfl, hp, by rw [ht]; exact hR⟩, hS.F ht⟩) (fun q hq => hS.2.2 q hq) dg hlk)
theorem mw_return (dg : decode y.2.1 pc = .ok (.return_, 1)) (hty : y.2.2.2.1 = none) (hp : Po (.inl none) h) : mw_W y d kc ks pc ls [] h Po := by
  intro G p l e R s m args below meth c mc msl H locs cells slots lsA C hc hs hR hS hL
  obtain ⟨hx, hb, hr, hml, hown, hlk, htr, htab, hnm, hRf, hRl, hRc, hRs, hK⟩ := id C
  refine W.widen (k := mc) (n := msl) (by omega) (by omega) ?_
  exact vx_ret (W.vret hx hb (hr.trans hty) (fun t ht _ => ⟨⟨none, h, rfl, hp, by rw [ht]; exact hR⟩, hS.F ht⟩) (fun q hq => hS.2.2 q hq) dg hlk)
theorem mw_out {E : String} (hn : y.2.2.2.2 = []) (hp : Po (.inr E) h) : mw_T y d kc ks pc ls st h E Po := by
  intro G p l e R s m args below meth c mc msl H locs cells slots lsA q ce C hc hs hR hS hL hce hcv hcl
  obtain ⟨hx, hb, hr, hml, hown, hlk, htr, htab, hnm, hRf, hRl, hRc, hRs, hK⟩ := id C
  rw [hn] at htab
  exact vx_out (E := E) (ce := ce) (fun x hx9 => by rw [htab] at hx9; cases hx9) hlk hce hcv hcl (fun t ht _ => ⟨⟨h, hp, by rw [ht]; exact hR⟩, hS.F ht⟩) (fun z hz => hS.2.2 z hz) (by omega) (by omega)
end MWR
end
section
section MXE
variable {p : Program} {l : Launch} {e : Env} {R : Room} {s : State} {m : MethodId} {args : Array Value} {below : List Frame} {meth : Method} {c : Code} {H : Heap} {locs : List Loc} {cells slots : Nat} {Q : State → Prop}
variable {mc ms : Nat} {free : Addr → Prop} {A0 A1 : Nat → Prop} {H0 : Heap} {a : Array Value} {ls : Array Slot} {st0 rest : List Value}
variable {Qc : Array Value → State → Outcome → State → Prop} {XC : String → State → State → Prop}
theorem mx_throwS {cc : ByteArray} {pc : Nat} (hexec : p.tables.exec = Jvm.exec) (hb : c.code = cc) (hl : l.stackTraces = false) {own cls text : String} {names : List String} {ik is ic mc ms sa : Nat} {A : Nat → Prop}
    (hown : s.vm.findClass own = some m.cls) (hcls : Bundle.fit cls = true) (hnames : ∀ n ∈ names, Bundle.fit n = true)
    (hk : (Cond.classLink own ik cls).before args s = true) (hini : (Cond.initialized cls).before args s = true) (hstr : vk_R own is text sa s) (hat : ∀ w ∈ vx_atS own ic cls names, w.before args s = true)
    (hgood : ∀ w ∈ Cond.classLink own ik cls :: Cond.initialized cls :: vx_atS own ic cls names, vx_ot w = true)
    (hU : vx_Zq Bundle.tN "UNASSIGNED_STACK" Bundle.steD A s s.heap) (hN : vx_Zq Bundle.tN "SUPPRESSED_SENTINEL" Bundle.listD A s s.heap) (hS : va_S A s.heap H locs) (hsize : ls.size = c.maxLocals)
    (d0 : decode cc pc = .ok (.new ik, 3)) (d3 : decode cc (pc + 3) = .ok (.dup, 1)) (d4 : decode cc (pc + 4) = .ok (.ldc is, 2)) (d6 : decode cc (pc + 6) = .ok (.invokespecial ic, 3)) (d9 : decode cc (pc + 9) = .ok (.athrow, 1))
    (hout : ∀ x ∈ c.exceptionTable.toList, covers x (pc + 9) = false)
    (hRframes : names.length + 3 < R.frames) (hRlocals : (rest.map fun v => v.category).sum + (13 * (names.length + 1) + 43) ≤ R.locals) (hRcells : cells + 1 ≤ R.cells) (hRslots : slots + 6 ≤ R.slots) (hlocks : meth.locks = false)
    (hx : ∀ t : State, s.vm.Alike t.vm → t.heap.size = H.size + 1 → (∀ q : Nat, q < H.size → t.heap[q]? = H[q]?) → (∃ ce : Cell, t.heap[H.size]? = some ce ∧ ce.vm = .none ∧ s.vm.findClass cls = some ce.cls) → XC cls s t)
    (hf : ∀ z ∈ locs, free z.base) (hc : cells + 1 ≤ mc) (hs : slots + 6 ≤ ms) :
    W p l e R s m args below meth c H locs cells slots (vx_MQ below Qc XC args s mc ms free) (F0 m pc ls rest) := by
  intro T hT X
  have htr : e.platform.stackTraces = false := (show e.platform.stackTraces = l.stackTraces by rw [X.admits.platform]).trans hl
  have Y := vx_rebase X (R' := { frames := R.frames, locals := R.locals, cells := 1, slots := 6 }) (Nat.le_refl _) (Nat.le_refl _) hRcells hRslots
  obtain ⟨s', hA⟩ : ∃ z, z = (T.setVm s.vm).setFrames (.invoking m args :: below) := ⟨_, rfl⟩
  rw [← hA] at Y
  have hvm : s'.vm = s.vm := by rw [hA]; rfl
  have hhp : s'.heap = H := by rw [hA]; exact hT
  have hW0 : s.WarmedH s'.vm := by rw [hvm]; exact State.WarmedH.refl s
  have hat' : ∀ w ∈ vx_atS own ic cls names, w.before args s' = true := fun w hw => vx_ot_at hW0 hvm.symm (hgood w (List.mem_cons_of_mem _ (List.mem_cons_of_mem _ hw))) (hat w hw)
  have hk' : (Cond.classLink own ik cls).before args s' = true := vx_ot_at hW0 hvm.symm (hgood _ List.mem_cons_self) hk
  have hini' : (Cond.initialized cls).before args s' = true := vx_ot_at hW0 hvm.symm (hgood _ (List.mem_cons_of_mem _ List.mem_cons_self)) hini
  have hU' : vx_Zq Bundle.tN "UNASSIGNED_STACK" Bundle.steD A s' s'.heap := by rw [hhp]; exact vx_Zq.moved hW0.alike (hU.kept hS.2.1)
  have hN' : vx_Zq Bundle.tN "SUPPRESSED_SENTINEL" Bundle.listD A s' s'.heap := by rw [hhp]; exact vx_Zq.moved hW0.alike (hN.kept hS.2.1)
  have h : ∀ w ∈ Bundle.ownAtoms own ic cls names, w.before args s' = true := vx_own hat' (vx_isRefq hU'.1) (vx_isRefq hN'.1) hU'.2.word hN'.2.word
  have hown' : s'.vm.findClass own = some m.cls := by rw [hvm]; exact hown
  have hins : (Cond.instantiable cls 6).before args s' = true := h _ (by simp [Bundle.ownAtoms])
  obtain ⟨vm₁, cX, kX, hfX, hkX, -, -, X₁, st1⟩ := Y.newCold hexec (own := own) (C := cls) (index := ik) (n := 6) hown' hk' hins hini'
    (g := F0 m pc ls rest) rfl (by rw [hb]; exact d0) (Nat.le_refl _) (Nat.le_refl _)
  generalize hT1 : (T.setVm vm₁).pushCell { cls := cX, slots := kX.instanceTypes.map defaultValue, vm := .none } = T1 at X₁ st1
  have hcat : (Value.ref T.heap.size).category = 1 := rfl
  have hcellA : T1.heap[T.heap.size]? = some (freshCell cX kX) := by rw [← hT1]; exact State.heap_pushCell_size _ _
  have d3' : decode c.code (pc + 3) = .ok (.dup, 1) := by rw [hb]; exact d3
  have d4' : decode c.code (pc + 4) = .ok (.ldc is, 2) := by rw [hb]; exact d4
  have hstr' : vk_R own is text sa s' := vk_R.warm hW0 hstr
  obtain ⟨U, hsteps, hrun, hend, hW, hsame, ce, hce, hO⟩ := X₁.ctorThrowS hexec htr (own := own) (cls := cls) (names := names) (ic := ic) hown' hcls hnames h (fun x hx => nomatch hx) hfX hkX hcellA (by rw [hhp, hT]; exact Nat.le_refl _) (msg := .ref sa) rfl
    (g := { method := m, pc := pc + 6, locals := ls, stack := .ref sa :: .ref T.heap.size :: .ref T.heap.size :: rest, locked := none }) rfl hsize rfl rfl (rest := rest) rfl
    (by rw [hb]; exact d6) (by rw [hb]; exact d9) hout hRframes (by simp only [List.map_cons, List.sum_cons, hcat]; omega) hlocks
  obtain ⟨f1, f2⟩ := vx_frame hsame
  rw [hhp] at f1 f2
  have hWs : s.WarmedH U.vm := State.WarmedH.trans hW0 hW
  have hcl : s.vm.findClass cls = some ce.cls := by
    have h9 := hO.cls
    rw [hvm] at h9
    exact h9
  have hall : s.sameButNew ({ U with vm := s.vm } : State) locs mc ms := by
    subst hA
    obtain ⟨e1, e2⟩ := hsame
    rw [State.setFrames_setFrames] at e1
    have h2 : (T.setVm s.vm).sameButNew ({ U with vm := s.vm } : State) [] (0 + 1) (0 + 6) := ⟨e1, e2⟩
    have h3 := X.same.trans h2
    rw [List.append_nil] at h3
    exact h3.mono hc hs
  have f8 : U.heap.size ≤ s'.heap.size + (0 + 1) := hsame.2.2.1
  have f7 : T.heap.size < U.heap.size := (Array.getElem?_eq_some_iff.mp hce).1
  have f9 : U.heap.size = H.size + 1 := by rw [hhp] at f8; rw [hT] at f7; omega
  refine ⟨U, ?_, .threw T.heap.size, hrun, hend, Or.inr ⟨T.heap.size, rfl, cls, ce, locs, hx U hWs.alike f9 (fun q hq => f2 q hq (fun z hz => nomatch hz)) ⟨ce, by rw [← hT]; exact hce, hO.vm, hcl⟩, hce, hO.vm, hcl, hWs, hall, hf⟩⟩
  refine st1 _ ?_
  show Steps p.tables e below (T1.setTop { method := m, pc := pc + 3, locals := ls, stack := .ref T.heap.size :: rest, locked := none }) _
  jvm_step X₁.here [X₁.here.top, hexec, d3', Value.category]
  exact X₁.ldcString hexec (own := own) (text := text) (index := is) (a := sa) hown' hstr'.1 hstr'.2
    (g := { method := m, pc := pc + 4, locals := ls, stack := .ref T.heap.size :: .ref T.heap.size :: rest, locked := none }) rfl d4' _ hsteps
theorem mx_throwSW {cc : ByteArray} {pc : Nat} (hexec : p.tables.exec = Jvm.exec) (hb : c.code = cc) (hl : l.stackTraces = false) {own cls text : String} {names : List String} {ik is ic mc ms sa : Nat} {A : Nat → Prop}
    (hown : s.vm.findClass own = some m.cls) (hcls : Bundle.fit cls = true) (hnames : ∀ n ∈ names, Bundle.fit n = true)
    (hk : (Cond.classLink own ik cls).before args s = true) (hini : (Cond.initialized cls).before args s = true) (hstr : vk_R own is text sa s) (hat : ∀ w ∈ vx_atS own ic cls names, w.before args s = true)
    (hgood : ∀ w ∈ Cond.classLink own ik cls :: Cond.initialized cls :: vx_atS own ic cls names, vx_ot w = true)
    (hU : vx_Zq Bundle.tN "UNASSIGNED_STACK" Bundle.steD A s s.heap) (hN : vx_Zq Bundle.tN "SUPPRESSED_SENTINEL" Bundle.listD A s s.heap) (hS : va_S A s.heap H locs) (hsize : ls.size = c.maxLocals)
    (d0 : decode cc pc = .ok (.new ik, 3)) (d3 : decode cc (pc + 3) = .ok (.dup, 1)) (d4 : decode cc (pc + 4) = .ok (.ldc_w is, 3)) (d7 : decode cc (pc + 7) = .ok (.invokespecial ic, 3)) (d10 : decode cc (pc + 10) = .ok (.athrow, 1))
    (hout : ∀ x ∈ c.exceptionTable.toList, covers x (pc + 10) = false)
    (hRframes : names.length + 3 < R.frames) (hRlocals : (rest.map fun v => v.category).sum + (13 * (names.length + 1) + 43) ≤ R.locals) (hRcells : cells + 1 ≤ R.cells) (hRslots : slots + 6 ≤ R.slots) (hlocks : meth.locks = false)
    (hx : ∀ t : State, s.vm.Alike t.vm → t.heap.size = H.size + 1 → (∀ q : Nat, q < H.size → t.heap[q]? = H[q]?) → (∃ ce : Cell, t.heap[H.size]? = some ce ∧ ce.vm = .none ∧ s.vm.findClass cls = some ce.cls) → XC cls s t)
    (hf : ∀ z ∈ locs, free z.base) (hc : cells + 1 ≤ mc) (hs : slots + 6 ≤ ms) :
    W p l e R s m args below meth c H locs cells slots (vx_MQ below Qc XC args s mc ms free) (F0 m pc ls rest) := by
  intro T hT X
  have htr : e.platform.stackTraces = false := (show e.platform.stackTraces = l.stackTraces by rw [X.admits.platform]).trans hl
  have Y := vx_rebase X (R' := { frames := R.frames, locals := R.locals, cells := 1, slots := 6 }) (Nat.le_refl _) (Nat.le_refl _) hRcells hRslots
  obtain ⟨s', hA⟩ : ∃ z, z = (T.setVm s.vm).setFrames (.invoking m args :: below) := ⟨_, rfl⟩
  rw [← hA] at Y
  have hvm : s'.vm = s.vm := by rw [hA]; rfl
  have hhp : s'.heap = H := by rw [hA]; exact hT
  have hW0 : s.WarmedH s'.vm := by rw [hvm]; exact State.WarmedH.refl s
  have hat' : ∀ w ∈ vx_atS own ic cls names, w.before args s' = true := fun w hw => vx_ot_at hW0 hvm.symm (hgood w (List.mem_cons_of_mem _ (List.mem_cons_of_mem _ hw))) (hat w hw)
  have hk' : (Cond.classLink own ik cls).before args s' = true := vx_ot_at hW0 hvm.symm (hgood _ List.mem_cons_self) hk
  have hini' : (Cond.initialized cls).before args s' = true := vx_ot_at hW0 hvm.symm (hgood _ (List.mem_cons_of_mem _ List.mem_cons_self)) hini
  have hU' : vx_Zq Bundle.tN "UNASSIGNED_STACK" Bundle.steD A s' s'.heap := by rw [hhp]; exact vx_Zq.moved hW0.alike (hU.kept hS.2.1)
  have hN' : vx_Zq Bundle.tN "SUPPRESSED_SENTINEL" Bundle.listD A s' s'.heap := by rw [hhp]; exact vx_Zq.moved hW0.alike (hN.kept hS.2.1)
  have h : ∀ w ∈ Bundle.ownAtoms own ic cls names, w.before args s' = true := vx_own hat' (vx_isRefq hU'.1) (vx_isRefq hN'.1) hU'.2.word hN'.2.word
  have hown' : s'.vm.findClass own = some m.cls := by rw [hvm]; exact hown
  have hins : (Cond.instantiable cls 6).before args s' = true := h _ (by simp [Bundle.ownAtoms])
  obtain ⟨vm₁, cX, kX, hfX, hkX, -, -, X₁, st1⟩ := Y.newCold hexec (own := own) (C := cls) (index := ik) (n := 6) hown' hk' hins hini'
    (g := F0 m pc ls rest) rfl (by rw [hb]; exact d0) (Nat.le_refl _) (Nat.le_refl _)
  generalize hT1 : (T.setVm vm₁).pushCell { cls := cX, slots := kX.instanceTypes.map defaultValue, vm := .none } = T1 at X₁ st1
  have hcat : (Value.ref T.heap.size).category = 1 := rfl
  have hcellA : T1.heap[T.heap.size]? = some (freshCell cX kX) := by rw [← hT1]; exact State.heap_pushCell_size _ _
  have d3' : decode c.code (pc + 3) = .ok (.dup, 1) := by rw [hb]; exact d3
  have d4' : decode c.code (pc + 4) = .ok (.ldc_w is, 3) := by rw [hb]; exact d4
  have hstr' : vk_R own is text sa s' := vk_R.warm hW0 hstr
  obtain ⟨U, hsteps, hrun, hend, hW, hsame, ce, hce, hO⟩ := X₁.ctorThrowS hexec htr (own := own) (cls := cls) (names := names) (ic := ic) hown' hcls hnames h (fun x hx => nomatch hx) hfX hkX hcellA (by rw [hhp, hT]; exact Nat.le_refl _) (msg := .ref sa) rfl
    (g := { method := m, pc := pc + 7, locals := ls, stack := .ref sa :: .ref T.heap.size :: .ref T.heap.size :: rest, locked := none }) rfl hsize rfl rfl (rest := rest) rfl
    (by rw [hb]; exact d7) (by rw [hb]; exact d10) hout hRframes (by simp only [List.map_cons, List.sum_cons, hcat]; omega) hlocks
  obtain ⟨f1, f2⟩ := vx_frame hsame
  rw [hhp] at f1 f2
  have hWs : s.WarmedH U.vm := State.WarmedH.trans hW0 hW
  have hcl : s.vm.findClass cls = some ce.cls := by
    have h9 := hO.cls
    rw [hvm] at h9
    exact h9
  have hall : s.sameButNew ({ U with vm := s.vm } : State) locs mc ms := by
    subst hA
    obtain ⟨e1, e2⟩ := hsame
    rw [State.setFrames_setFrames] at e1
    have h2 : (T.setVm s.vm).sameButNew ({ U with vm := s.vm } : State) [] (0 + 1) (0 + 6) := ⟨e1, e2⟩
    have h3 := X.same.trans h2
    rw [List.append_nil] at h3
    exact h3.mono hc hs
  have f8 : U.heap.size ≤ s'.heap.size + (0 + 1) := hsame.2.2.1
  have f7 : T.heap.size < U.heap.size := (Array.getElem?_eq_some_iff.mp hce).1
  have f9 : U.heap.size = H.size + 1 := by rw [hhp] at f8; rw [hT] at f7; omega
  refine ⟨U, ?_, .threw T.heap.size, hrun, hend, Or.inr ⟨T.heap.size, rfl, cls, ce, locs, hx U hWs.alike f9 (fun q hq => f2 q hq (fun z hz => nomatch hz)) ⟨ce, by rw [← hT]; exact hce, hO.vm, hcl⟩, hce, hO.vm, hcl, hWs, hall, hf⟩⟩
  refine st1 _ ?_
  show Steps p.tables e below (T1.setTop { method := m, pc := pc + 3, locals := ls, stack := .ref T.heap.size :: rest, locked := none }) _
  jvm_step X₁.here [X₁.here.top, hexec, d3', Value.category]
  exact X₁.ldcStringW hexec (own := own) (text := text) (index := is) (a := sa) hown' hstr'.1 hstr'.2
    (g := { method := m, pc := pc + 4, locals := ls, stack := .ref T.heap.size :: .ref T.heap.size :: rest, locked := none }) rfl d4' _ hsteps
end MXE
/-- the word of a method's code -/
def mw_cw (y : mw_M) : Cond := match y.2.2.2.2 with
  | [] => .code y.1 y.2.1 y.2.2.1 y.2.2.2.1
  | hh => .codeWith y.1 y.2.1 y.2.2.1 y.2.2.2.1 hh
theorem mw_cw_nil {y : mw_M} (hn : y.2.2.2.2 = []) : mw_cw y = .code y.1 y.2.1 y.2.2.1 y.2.2.2.1 := by
  unfold mw_cw
  rw [hn]
theorem mw_cw_some {y : mw_M} (hn : y.2.2.2.2 ≠ []) : mw_cw y = .codeWith y.1 y.2.1 y.2.2.1 y.2.2.2.1 y.2.2.2.2 := by
  unfold mw_cw
  cases hh : y.2.2.2.2 with
  | nil => exact absurd hh hn
  | cons a b => rfl
theorem mw_cw_good (y : mw_M) : goodWord (mw_cw y) = true := by
  unfold mw_cw
  split <;> rfl
/-- A CONTRACT: called with as in the mini heap h, the method comes to an end that Po allows; at most kc cells of ks slots are made -/
def mw_Con (y : mw_M) (d kc ks : Nat) (as : List Value) (h : mw_H) (Po : mw_P) : Prop := ∀ (G : mw_G) (l : Launch), l.stackTraces = false →
  vx_Met l y.1 [mw_cw y] { frames := d, cells := kc, slots := ks, locals := 40 * d } (fun v U => v = (as.map (mw_V G)).toArray ∧ mw_K G U ∧ mw_R G h U.heap) (mw_Q G Po) (mw_X G Po) kc ks (mw_I G)
theorem mw_K_go {G : mw_G} {s U : State} {H : Heap} {locs : List Loc} (hK : mw_K G s) (hS : va_S (mw_I G) s.heap H locs) (hU : U.heap = H) (hW : s.WarmedH U.vm) : mw_K G U := by
  refine ⟨hK.1, State.WarmedH.trans hK.2.1 hW, by rw [hU]; exact Nat.le_trans hK.2.2.1 hS.1, fun q hq => ?_⟩
  rw [hU, hS.2.1 q (Nat.lt_of_lt_of_le hq hK.2.2.1) (Nat.not_le.mpr hq)]
  exact hK.2.2.2 q hq
/-- a method's arguments as they lie in its places: one of two words and a place of which nothing is known -/
def mw_exp : List Value → List (Option Value)
  | [] => []
  | v :: vs => if v.category = 2 then some v :: none :: mw_exp vs else some v :: mw_exp vs
theorem mw_exp_1 : ∀ (as : List Value), (∀ v ∈ as, v.category = 1) → mw_exp as = as.map some
  | [], _ => rfl
  | v :: vs, h => by
    have h1 := h v List.mem_cons_self
    show (if v.category = 2 then _ else _) = _
    rw [if_neg (by rw [h1]; decide), mw_exp_1 vs (fun w hw => h w (List.mem_cons_of_mem _ hw))]
    rfl
theorem mw_exp_len {G : mw_G} : ∀ (as : List Value), (lg_sl (as.map (mw_V G))).length = (mw_exp as).length
  | [] => rfl
  | v :: vs => by
    have h2 := mw_exp_len (G := G) vs
    have h3 : (mw_V G v).category = v.category := mw_cat v
    show (lg_sl (mw_V G v :: vs.map (mw_V G))).length = (if v.category = 2 then _ else _ : List (Option Value)).length
    simp only [lg_sl, List.flatMap_cons, List.length_append] at h2 ⊢
    rw [h2]
    by_cases e : v.category = 2
    · rw [if_pos e]; simp [h3, e]; omega
    · rw [if_neg e]; simp [h3, e]; omega
theorem mw_exp_mem {G : mw_G} : ∀ (as : List Value) (k i : Nat) (v : Value), (mw_exp as)[i]? = some (some v) → (k + i, mw_V G v) ∈ lv_args k (as.map (mw_V G))
  | [], k, i, v, h => by cases h
  | w :: ws, k, i, v, h => by
    have h3 : (mw_V G w).category = w.category := mw_cat w
    show _ ∈ (k, mw_V G w) :: lv_args (if (mw_V G w).category = 2 then k + 2 else k + 1) (ws.map (mw_V G))
    have h : (if w.category = 2 then some w :: none :: mw_exp ws else some w :: mw_exp ws)[i]? = some (some v) := h
    by_cases e : w.category = 2
    · rw [if_pos e] at h
      rw [if_pos (h3.trans e)]
      match i, h with
      | 0, h => cases h; exact List.mem_cons_self
      | 1, h => cases h
      | j + 2, h =>
        have := mw_exp_mem (G := G) ws (k + 2) j v h
        rw [show k + (j + 2) = k + 2 + j by omega]
        exact List.mem_cons_of_mem _ this
    · rw [if_neg e] at h
      rw [if_neg (by rw [h3]; exact e)]
      match i, h with
      | 0, h => cases h; exact List.mem_cons_self
      | j + 1, h =>
        have := mw_exp_mem (G := G) ws (k + 1) j v h
        rw [show k + (j + 1) = k + 1 + j by omega]
        exact List.mem_cons_of_mem _ this
theorem mw_L_entryJ {G : mw_G} {n : Nat} {as : List Value} (hlen : (mw_exp as).length ≤ n) : mw_L G n (mw_exp as ++ List.replicate (n - (mw_exp as).length) none) ((lg_sl (as.map (mw_V G)) ++ List.replicate (n - (lg_sl (as.map (mw_V G))).length) Slot.unset).toArray) := by
  have hl := lv_entry (as.map (mw_V G)) (n := n) (by rw [mw_exp_len]; exact hlen)
  refine ⟨hl.1, hl.2.1, fun i v hi _ => ?_⟩
  by_cases hia : i < (mw_exp as).length
  · rw [List.getElem?_append_left hia] at hi
    have h9 := mw_exp_mem (G := G) as 0 i v hi
    rw [Nat.zero_add] at h9
    exact hl.2.2 _ h9
  · rw [List.getElem?_append_right (by omega)] at hi
    have := List.eq_of_mem_replicate (List.mem_of_getElem? hi)
    cases this
theorem mw_L_entry {G : mw_G} {n : Nat} {as : List Value} (hcat : ∀ v ∈ as, v.category = 1) (hlen : as.length ≤ n) : mw_L G n (as.map some ++ List.replicate (n - as.length) none) ((lg_sl (as.map (mw_V G)) ++ List.replicate (n - (lg_sl (as.map (mw_V G))).length) Slot.unset).toArray) := by
  have h1 := mw_exp_1 as hcat
  have h2 : (mw_exp as).length = as.length := by rw [h1, List.length_map]
  have h3 := mw_L_entryJ (G := G) (n := n) (as := as) (by rw [h2]; exact hlen)
  rw [h2, h1] at h3
  exact h3
section MWC
variable {y y' : mw_M} {d kc ks pc : Nat} {ls : List (Option Value)} {st rest : List Value} {h : mw_H} {Po : mw_P}
theorem mw_con {as : List Value} (hy : plainName y.1.cls = true) (hn : y.2.2.2.2 = []) (hcat : ∀ v ∈ as, v.category = 1) (hlen : as.length ≤ y.2.2.1) (hls : as.map some ++ List.replicate (y.2.2.1 - as.length) none = ls) (w : mw_W y d kc ks 0 ls [] h Po) : mw_Con y d kc ks as h Po := by
  intro G l hl
  subst hls
  refine vx_ofW (cc := y.2.1) (maxL := y.2.2.1) (ret := y.2.2.2.1) (ws' := []) hy (by rw [mw_cw_nil hn]) ?_
  intro p e s m args below meth c s₁ B hml htab hv
  obtain ⟨rfl, hK, hR⟩ := hv
  rw [lg_entry_eq]
  refine w G p l e _ s m _ below meth c kc ks s.heap [] 0 0 _ ⟨B.exec, B.bytes, B.returns, hml, findClass_of_methodNamed B.named, B.notSynchronized, hl, ?_, (name_of_methodNamed B.named B.method).1, Nat.le_refl _, Nat.le_refl _, Nat.le_refl _, Nat.le_refl _, hK⟩ (by omega) (by omega) hR va_S.rf (mw_L_entry hcat hlen)
  rw [hn]
  cases hq : c.exceptionTable.toList with
  | nil => rfl
  | cons x xs => exact (htab x (by rw [hq]; exact List.mem_cons_self)).elim
theorem mw_conJ {as : List Value} (hy : plainName y.1.cls = true) (hn : y.2.2.2.2 = []) (hlen : (mw_exp as).length ≤ y.2.2.1) (hls : mw_exp as ++ List.replicate (y.2.2.1 - (mw_exp as).length) none = ls) (w : mw_W y d kc ks 0 ls [] h Po) : mw_Con y d kc ks as h Po := by
  intro G l hl
  subst hls
  refine vx_ofW (cc := y.2.1) (maxL := y.2.2.1) (ret := y.2.2.2.1) (ws' := []) hy (by rw [mw_cw_nil hn]) ?_
  intro p e s m args below meth c s₁ B hml htab hv
  obtain ⟨rfl, hK, hR⟩ := hv
  rw [lg_entry_eq]
  refine w G p l e _ s m _ below meth c kc ks s.heap [] 0 0 _ ⟨B.exec, B.bytes, B.returns, hml, findClass_of_methodNamed B.named, B.notSynchronized, hl, ?_, (name_of_methodNamed B.named B.method).1, Nat.le_refl _, Nat.le_refl _, Nat.le_refl _, Nat.le_refl _, hK⟩ (by omega) (by omega) hR va_S.rf (mw_L_entryJ hlen)
  rw [hn]
  cases hq : c.exceptionTable.toList with
  | nil => rfl
  | cons x xs => exact (htab x (by rw [hq]; exact List.mem_cons_self)).elim
theorem mw_conH {as : List Value} (hy : plainName y.1.cls = true) (hn : y.2.2.2.2 ≠ []) (hcat : ∀ v ∈ as, v.category = 1) (hlen : as.length ≤ y.2.2.1) (hls : as.map some ++ List.replicate (y.2.2.1 - as.length) none = ls) (w : mw_W y d kc ks 0 ls [] h Po) : mw_Con y d kc ks as h Po := by
  intro G l hl
  subst hls
  refine vx_ofWH (cc := y.2.1) (maxL := y.2.2.1) (ret := y.2.2.2.1) (ws' := []) (hh := y.2.2.2.2) hy (by rw [mw_cw_some hn]) ?_
  intro p e s m args below meth c s₁ B hml hv
  obtain ⟨rfl, hK, hR⟩ := hv
  have hT : c.exceptionTable.toList = tableOf y.2.2.2.2 := vx_table (x := y.1) B (show (Cond.codeWith y.1 y.2.1 y.2.2.1 y.2.2.2.1 y.2.2.2.2).before _ s = true from by
    have h9 := atoms_spec (ws := [mw_cw y]) B.pre _ List.mem_cons_self
    rw [mw_cw_some hn] at h9
    exact h9)
  rw [lg_entry_eq]
  exact w G p l e _ s m _ below meth c kc ks s.heap [] 0 0 _ ⟨B.exec, B.bytes, B.returns, hml, findClass_of_methodNamed B.named, B.notSynchronized, hl, hT, (name_of_methodNamed B.named B.method).1, Nat.le_refl _, Nat.le_refl _, Nat.le_refl _, Nat.le_refl _, hK⟩ (by omega) (by omega) hR va_S.rf (mw_L_entry hcat hlen)
/-- what a call needs of the method that is called -/
def mw_mO (y : mw_M) (n : Nat) : Prop := mw_cw y ∈ lw_tbl ∧ Cond.initialized y.1.cls ∈ lw_tbl ∧ (y.1.cls ≠ "java/lang/invoke/MethodHandle" ∧ y.1.cls ≠ "java/lang/invoke/VarHandle") ∧ (parseMethodDescriptor y.1.desc).map (fun q => q.parameters.length) = some n ∧ y.2.2.1 ≤ 61
/-- the levels that a call of it takes: a method of many places two -/
def mw_fr (y : mw_M) : Nat := if y.2.2.1 ≤ 21 then 1 else 2
theorem mw_mO_n {n : Nat} (hm : mw_mO y n) : ∀ sig, parseMethodDescriptor y.1.desc = some sig → n = sig.parameters.length := by
  intro sig h9
  have h2 := hm.2.2.2.1
  rw [h9] at h2
  exact (Option.some.inj h2).symm
def mw_mV (own : String) (idx : Nat) (y : mw_M) (n : Nat) : Prop := mw_mO y n ∧ y.2.2.2.2 = [] ∧ Cond.methodLink own idx y.1 ∈ lw_tbl ∧ Cond.instanceMethod y.1 ∈ lw_tbl ∧ Cond.selects y.1.cls y.1 y.1 ∈ lw_tbl
def mw_mS (own : String) (idx : Nat) (y : mw_M) (n : Nat) : Prop := mw_mO y n ∧ y.2.2.2.2 = [] ∧ Cond.methodLink own idx y.1 ∈ lw_tbl ∧ Cond.static y.1 ∈ lw_tbl
def mw_mSX (own : String) (idx : Nat) (y : mw_M) (n : Nat) : Prop := mw_mO y n ∧ y.2.2.2.2 ≠ [] ∧ Cond.methodLink own idx y.1 ∈ lw_tbl ∧ Cond.static y.1 ∈ lw_tbl
def mw_mSN (own : String) (idx : Nat) (y : mw_M) (n : Nat) : Prop := mw_mO y n ∧ y.2.2.2.2 = [] ∧ (∃ host, Cond.methodLinkNest own idx y.1 host ∈ lw_tbl) ∧ Cond.static y.1 ∈ lw_tbl
def mw_mI (own : String) (idx : Nat) (y : mw_M) (n : Nat) : Prop := mw_mO y n ∧ y.2.2.2.2 = [] ∧ y.2.2.2.1 = none ∧ y.1.name = "<init>" ∧ Cond.methodLink own idx y.1 ∈ lw_tbl ∧ Cond.instanceMethod y.1 ∈ lw_tbl
def mw_mIN (own : String) (idx : Nat) (y : mw_M) (n : Nat) : Prop := mw_mO y n ∧ y.2.2.2.2 = [] ∧ y.2.2.2.1 = none ∧ y.1.name = "<init>" ∧ (∃ host, Cond.methodLinkNest own idx y.1 host ∈ lw_tbl) ∧ Cond.instanceMethod y.1 ∈ lw_tbl
theorem mw_pay {G : mw_G} {s : State} (hK : mw_K G s) (y : mw_M) (hm : mw_cw y ∈ lw_tbl) : ∀ w ∈ [mw_cw y], ∀ (a' : Array Value) (U : State), s.WarmedH U.vm → w.before a' U = true := by
  intro w hw a' U hW
  rw [List.mem_singleton] at hw
  subst hw
  exact word_at (State.WarmedH.trans hK.2.1 hW) (good_of_word (mw_cw_good y)) (hK.1.1 _ hm)
theorem mw_nest {G : mw_G} {s : State} (hK : mw_K G s) {own : String} {idx : Nat} {x : MethodName} {host : String} (hw : Cond.methodLinkNest own idx x host ∈ lw_tbl) {args : Array Value} : (Cond.methodLinkNest own idx x host).before args s = true :=
  va_Nw.use rfl (va_Nw.warmM hK.2.1 (va_Nw.of rfl (hK.1.1 _ hw)))
theorem mw_after {G : mw_G} {p : Program} {l : Launch} {e : Env} {R : Room} {s : State} {m : MethodId} {args : Array Value} {below : List Frame} {meth : Method} {c : Code} {mc msl : Nat} {H : Heap} {locs : List Loc} {cells slots k2 s2 kc' ks' : Nat} {lsA : Array Slot} {Po' : mw_P} {as : Array Value} {st0 : List Value}
    (hrun : vx_Run p l e R s m args below meth c H locs cells slots k2 s2 (F0 m pc lsA st0) (rest.map (mw_V G)) (mw_Q G Po' as) (mw_X G Po') (mw_I G))
    (C : mw_C G y d mc msl p l R s m meth c) (hc : cells + k2 + kc' ≤ mc) (hs : slots + s2 + ks' ≤ msl) (hS : va_S (mw_I G) s.heap H locs) (hL : mw_L G y.2.2.1 ls lsA)
    (hx : ∀ E h', Po' (.inr E) h' → mw_T y d kc' ks' pc ls rest h' E Po)
    (hr : ∀ v h', Po' (.inl v) h' → mw_W y d kc' ks' (pc + 3) ls (v.toList ++ rest) h' Po) :
    W p l e R s m args below meth c H locs cells slots (vx_MQ below (mw_Q G Po) (mw_X G Po) args s mc msl (mw_I G)) (F0 m pc lsA st0) := by
  intro T hT X
  rcases hrun T hT X with ⟨v, st₀, t, T', L, h0, X', hL', e1, e2, ⟨⟨v', h', hv, hpo, hR'⟩, hF⟩, go⟩ | ⟨q, st₀, t, T', L, E, ce, h0, X', hL', e1, e2, ⟨⟨h', hpo, hR'⟩, hF⟩, hce, hcv, hcl, go⟩
  · cases hv
    obtain ⟨z1, z2, z3⟩ := vx_keep h0 e1 hS (fun _ _ h9 => h9) (fun _ h9 => h9) hL' hF
    obtain ⟨t2, a1, b1⟩ := hr v' h' hpo G p l e R s m args below meth c mc msl T'.heap (locs ++ L) (cells + k2) (slots + s2) lsA C hc hs (by rw [e1]; exact hR') z3 hL T' rfl X'
    refine ⟨t2, go t2 ?_, b1⟩
    cases v' <;> exact a1
  · obtain ⟨z1, z2, z3⟩ := vx_keep h0 e1 hS (fun _ _ h9 => h9) (fun _ h9 => h9) hL' hF
    obtain ⟨t2, a1, b1⟩ := hx E h' hpo G p l e R s m args below meth c mc msl T'.heap (locs ++ L) (cells + k2) (slots + s2) lsA q ce C hc hs (by rw [e1]; exact hR') z3 hL (by rw [e1]; exact hce) hcv hcl T' rfl X'
    exact ⟨t2, go.trans a1, b1⟩
theorem mw_sum {G : mw_G} (hw : (rest.map fun v => v.category).sum ≤ 8) : 2 * 0 + ((rest.map (mw_V G)).map fun v => v.category).sum ≤ 8 := by
  have e9 : ((rest.map (mw_V G)).map fun v => v.category) = rest.map fun v => v.category := by
    rw [List.map_map]
    exact List.map_congr_left (fun v _ => mw_cat v)
  rw [e9]
  omega
theorem mw_blind {G : mw_G} {as : List Value} : FrameBlind (fun (v : Array Value) (U : State) => v = (as.map (mw_V G)).toArray ∧ mw_K G U ∧ mw_R G h U.heap) := fun _ _ _ _ q => q
theorem mw_callV {idx n d' kc' ks' k2 s2 : Nat} {Po' : mw_P} {a ci : Nat} {fs : List Value} {T : u_T} {N : Nat} {As : List Value} (dg : decode y.2.1 pc = .ok (.invokevirtual idx, 3)) (hm : mw_mV y.1.cls idx y' n) (ho : mw_g h a = some (.inr (ci, fs))) (hci : mw_cl[ci]? = some (y'.1.cls, T, N)) (hC : mw_Con y' d' k2 s2 (.ref a :: As) h Po') (hd : d' + mw_fr y' ≤ d) (hkc : kc' + k2 ≤ kc) (hks : ks' + s2 ≤ ks) (hn : As.length = n) (hst : As.reverse ++ .ref a :: rest = st) (hw : (rest.map fun v => v.category).sum ≤ 8) (hx : ∀ E h', Po' (.inr E) h' → mw_T y d kc' ks' pc ls rest h' E Po) (hr : ∀ v h', Po' (.inl v) h' → mw_W y d kc' ks' (pc + 3) ls (v.toList ++ rest) h' Po) : mw_W y d kc ks pc ls st h Po := by
  intro G p l e R s m args below meth c mc msl H locs cells slots lsA C hc hs hR hS hL
  obtain ⟨hx0, hb, hr0, hml, hown, hlk, htr, htab, hnm, hRf, hRl, hRc, hRs, hK⟩ := id C
  subst hst
  obtain ⟨hmO, hnil, hw1, hw2, hw3⟩ := hm
  have hmn := mw_mO_n hmO
  obtain ⟨hcw, hinz, hpl, -, hml2⟩ := hmO
  have hpay := mw_pay hK y' hcw
  have hd9 : d' + 1 ≤ d ∧ 8 + (y'.2.2.1 + 11) + 40 * d' ≤ 40 * d := by
    unfold mw_fr at hd
    by_cases e9 : y'.2.2.1 ≤ 21
    · rw [if_pos e9] at hd; omega
    · rw [if_neg e9] at hd; omega
  have ecw := mw_cw_nil hnil
  have hcode := mw_word (args := args) hK hcw (mw_cw_good y')
  rw [ecw] at hcode
  have hlen : (As.map (mw_V G)).length = n := by rw [List.length_map]; exact hn
  have estk : (As.reverse ++ .ref a :: rest).map (mw_V G) = (As.map (mw_V G)).reverse ++ .ref (mw_ad G a) :: rest.map (mw_V G) := by rw [List.map_append, List.map_reverse]; rfl
  rw [estk]
  obtain ⟨-, -, r9, hr9, cell9, g1, g2, g3, -⟩ := hR.2.2.2 a _ ho
  have hrec : ∃ cellB : Cell, H[mw_ad G a]? = some cellB ∧ cellB.vm.isStatics = false ∧ s.vm.findClass y'.1.cls = some cellB.cls := ⟨cell9, g1, by rw [g3]; rfl, by rw [g2]; exact ((mw_know hK).1 ci _ hci).2.1⟩
  have hrun := vx_runV (C := y'.1.cls) (As := As.map (mw_V G)) (rest := rest.map (mw_V G)) (b := mw_ad G a) (locs := locs) (cells := cells) (slots := slots) (below := below) (meth := meth) (e := e) (Ts := []) (own := y.1.cls) (g := F0 m pc lsA ((As.map (mw_V G)).reverse ++ .ref (mw_ad G a) :: rest.map (mw_V G))) ⟨hx0, hb, hml, hown, fun _ h9 => nomatch h9⟩ (hC G l htr) ⟨⟨rfl, rfl, (by show d' + 1 ≤ R.frames; omega), (by show 8 + (y'.2.2.1 + 11) + 40 * d' ≤ R.locals; omega), hpay, (by rw [ecw]; exact List.mem_cons_self), hcode, mw_word hK hinz rfl, hpl, hmn, mw_word hK hw1 rfl⟩, mw_word hK hw2 rfl, mw_word hK hw3 rfl⟩ ⟨mw_blind, hrec, fun U hU hW => ⟨rfl, mw_K_go hK hS hU hW, by rw [hU]; exact hR⟩⟩ rfl hlen hL.1 rfl (mw_sum hw) dg (by omega)
  exact mw_after hrun C (by omega) (by omega) hS hL hx hr
theorem mw_callS {idx n d' kc' ks' k2 s2 : Nat} {Po' : mw_P} {As : List Value} (dg : decode y.2.1 pc = .ok (.invokestatic idx, 3)) (hm : mw_mS y.1.cls idx y' n) (hC : mw_Con y' d' k2 s2 As h Po') (hd : d' + mw_fr y' ≤ d) (hkc : kc' + k2 ≤ kc) (hks : ks' + s2 ≤ ks) (hn : As.length = n) (hst : As.reverse ++ rest = st) (hw : (rest.map fun v => v.category).sum ≤ 8) (hx : ∀ E h', Po' (.inr E) h' → mw_T y d kc' ks' pc ls rest h' E Po) (hr : ∀ v h', Po' (.inl v) h' → mw_W y d kc' ks' (pc + 3) ls (v.toList ++ rest) h' Po) : mw_W y d kc ks pc ls st h Po := by
  intro G p l e R s m args below meth c mc msl H locs cells slots lsA C hc hs hR hS hL
  obtain ⟨hx0, hb, hr0, hml, hown, hlk, htr, htab, hnm, hRf, hRl, hRc, hRs, hK⟩ := id C
  subst hst
  obtain ⟨hmO, hnil, hw1, hw2⟩ := hm
  have hmn := mw_mO_n hmO
  obtain ⟨hcw, hinz, hpl, -, hml2⟩ := hmO
  have hpay := mw_pay hK y' hcw
  have hd9 : d' + 1 ≤ d ∧ 8 + (y'.2.2.1 + 11) + 40 * d' ≤ 40 * d := by
    unfold mw_fr at hd
    by_cases e9 : y'.2.2.1 ≤ 21
    · rw [if_pos e9] at hd; omega
    · rw [if_neg e9] at hd; omega
  have ecw := mw_cw_nil hnil
  have hcode := mw_word (args := args) hK hcw (mw_cw_good y')
  rw [ecw] at hcode
  have hlen : (As.map (mw_V G)).length = n := by rw [List.length_map]; exact hn
  have estk : (As.reverse ++ rest).map (mw_V G) = (As.map (mw_V G)).reverse ++ rest.map (mw_V G) := by rw [List.map_append, List.map_reverse]
  rw [estk]
  have hrun := vx_runS (As := As.map (mw_V G)) (rest := rest.map (mw_V G)) (locs := locs) (cells := cells) (slots := slots) (below := below) (meth := meth) (e := e) (Ts := []) (own := y.1.cls) (g := F0 m pc lsA ((As.map (mw_V G)).reverse ++ rest.map (mw_V G))) ⟨hx0, hb, hml, hown, fun _ h9 => nomatch h9⟩ (hC G l htr) ⟨⟨rfl, rfl, (by show d' + 1 ≤ R.frames; omega), (by show 8 + (y'.2.2.1 + 11) + 40 * d' ≤ R.locals; omega), hpay, (by rw [ecw]; exact List.mem_cons_self), hcode, mw_word hK hinz rfl, hpl, hmn, mw_word hK hw1 rfl⟩, mw_word hK hw2 rfl⟩ ⟨mw_blind, fun U hU hW => ⟨rfl, mw_K_go hK hS hU hW, by rw [hU]; exact hR⟩⟩ rfl hlen hL.1 rfl (mw_sum hw) dg (by omega)
  exact mw_after hrun C (by omega) (by omega) hS hL hx hr
theorem mw_callSN {idx n d' kc' ks' k2 s2 : Nat} {Po' : mw_P} {As : List Value} (dg : decode y.2.1 pc = .ok (.invokestatic idx, 3)) (hm : mw_mSN y.1.cls idx y' n) (hC : mw_Con y' d' k2 s2 As h Po') (hd : d' + mw_fr y' ≤ d) (hkc : kc' + k2 ≤ kc) (hks : ks' + s2 ≤ ks) (hn : As.length = n) (hst : As.reverse ++ rest = st) (hw : (rest.map fun v => v.category).sum ≤ 8) (hx : ∀ E h', Po' (.inr E) h' → mw_T y d kc' ks' pc ls rest h' E Po) (hr : ∀ v h', Po' (.inl v) h' → mw_W y d kc' ks' (pc + 3) ls (v.toList ++ rest) h' Po) : mw_W y d kc ks pc ls st h Po := by
  intro G p l e R s m args below meth c mc msl H locs cells slots lsA C hc hs hR hS hL
  obtain ⟨hx0, hb, hr0, hml, hown, hlk, htr, htab, hnm, hRf, hRl, hRc, hRs, hK⟩ := id C
  subst hst
  obtain ⟨hmO, hnil, ⟨host, hw1⟩, hw2⟩ := hm
  have hmn := mw_mO_n hmO
  obtain ⟨hcw, hinz, hpl, -, hml2⟩ := hmO
  have hpay := mw_pay hK y' hcw
  have hd9 : d' + 1 ≤ d ∧ 8 + (y'.2.2.1 + 11) + 40 * d' ≤ 40 * d := by
    unfold mw_fr at hd
    by_cases e9 : y'.2.2.1 ≤ 21
    · rw [if_pos e9] at hd; omega
    · rw [if_neg e9] at hd; omega
  have ecw := mw_cw_nil hnil
  have hcode := mw_word (args := args) hK hcw (mw_cw_good y')
  rw [ecw] at hcode
  have hlen : (As.map (mw_V G)).length = n := by rw [List.length_map]; exact hn
  have estk : (As.reverse ++ rest).map (mw_V G) = (As.map (mw_V G)).reverse ++ rest.map (mw_V G) := by rw [List.map_append, List.map_reverse]
  rw [estk]
  have hrun := vx_runSN (host := host) (As := As.map (mw_V G)) (rest := rest.map (mw_V G)) (locs := locs) (cells := cells) (slots := slots) (below := below) (meth := meth) (e := e) (Ts := []) (own := y.1.cls) (g := F0 m pc lsA ((As.map (mw_V G)).reverse ++ rest.map (mw_V G))) ⟨hx0, hb, hml, hown, fun _ h9 => nomatch h9⟩ (hC G l htr) ⟨⟨⟨rfl, rfl, (by show d' + 1 ≤ R.frames; omega), (by show 8 + (y'.2.2.1 + 11) + 40 * d' ≤ R.locals; omega), hpay, (by rw [ecw]; exact List.mem_cons_self)⟩, hcode, mw_word hK hinz rfl, hpl, hmn, mw_nest hK hw1⟩, mw_word hK hw2 rfl, trivial⟩ ⟨mw_blind, fun U hU hW => ⟨rfl, mw_K_go hK hS hU hW, by rw [hU]; exact hR⟩⟩ rfl hlen hL.1 rfl (mw_sum hw) dg (by omega)
  exact mw_after hrun C (by omega) (by omega) hS hL hx hr
theorem mw_callSX {idx n d' kc' ks' k2 s2 : Nat} {Po' : mw_P} {As : List Value} (dg : decode y.2.1 pc = .ok (.invokestatic idx, 3)) (hm : mw_mSX y.1.cls idx y' n) (hC : mw_Con y' d' k2 s2 As h Po') (hd : d' + mw_fr y' ≤ d) (hkc : kc' + k2 ≤ kc) (hks : ks' + s2 ≤ ks) (hn : As.length = n) (hst : As.reverse ++ rest = st) (hw : (rest.map fun v => v.category).sum ≤ 8) (hx : ∀ E h', Po' (.inr E) h' → mw_T y d kc' ks' pc ls rest h' E Po) (hr : ∀ v h', Po' (.inl v) h' → mw_W y d kc' ks' (pc + 3) ls (v.toList ++ rest) h' Po) : mw_W y d kc ks pc ls st h Po := by
  intro G p l e R s m args below meth c mc msl H locs cells slots lsA C hc hs hR hS hL
  obtain ⟨hx0, hb, hr0, hml, hown, hlk, htr, htab, hnm, hRf, hRl, hRc, hRs, hK⟩ := id C
  subst hst
  obtain ⟨hmO, hnil, hw1, hw2⟩ := hm
  have hmn := mw_mO_n hmO
  obtain ⟨hcw, hinz, hpl, -, hml2⟩ := hmO
  have hpay := mw_pay hK y' hcw
  have hd9 : d' + 1 ≤ d ∧ 8 + (y'.2.2.1 + 11) + 40 * d' ≤ 40 * d := by
    unfold mw_fr at hd
    by_cases e9 : y'.2.2.1 ≤ 21
    · rw [if_pos e9] at hd; omega
    · rw [if_neg e9] at hd; omega
  have ecw := mw_cw_some hnil
  have hcode := mw_word (args := args) hK hcw (mw_cw_good y')
  rw [ecw] at hcode
  have hlen : (As.map (mw_V G)).length = n := by rw [List.length_map]; exact hn
  have estk : (As.reverse ++ rest).map (mw_V G) = (As.map (mw_V G)).reverse ++ rest.map (mw_V G) := by rw [List.map_append, List.map_reverse]
  rw [estk]
  have hrun := vx_runSX (As := As.map (mw_V G)) (rest := rest.map (mw_V G)) (locs := locs) (cells := cells) (slots := slots) (below := below) (meth := meth) (e := e) (Ts := []) (own := y.1.cls) (g := F0 m pc lsA ((As.map (mw_V G)).reverse ++ rest.map (mw_V G))) ⟨hx0, hb, hml, hown, fun _ h9 => nomatch h9⟩ (hC G l htr) ⟨⟨rfl, rfl, (by show d' + 1 ≤ R.frames; omega), (by show 8 + (y'.2.2.1 + 11) + 40 * d' ≤ R.locals; omega), hpay, (by rw [ecw]; exact List.mem_cons_self)⟩, hcode, mw_word hK hinz rfl, hpl, hmn, mw_word hK hw1 rfl, mw_word hK hw2 rfl⟩ ⟨mw_blind, fun U hU hW => ⟨rfl, mw_K_go hK hS hU hW, by rw [hU]; exact hR⟩⟩ rfl hlen hL.1 rfl (mw_sum hw) dg (by omega)
  exact mw_after hrun C (by omega) (by omega) hS hL hx hr
theorem mw_callI {idx n d' kc' ks' k2 s2 : Nat} {Po' : mw_P} {a : Nat} {As : List Value} (dg : decode y.2.1 pc = .ok (.invokespecial idx, 3)) (hm : mw_mI y.1.cls idx y' n) (hC : mw_Con y' d' k2 s2 (.ref a :: As) h Po') (hd : d' + mw_fr y' ≤ d) (hkc : kc' + k2 ≤ kc) (hks : ks' + s2 ≤ ks) (hn : As.length = n) (hst : As.reverse ++ .ref a :: rest = st) (hw : (rest.map fun v => v.category).sum ≤ 8) (hx : ∀ E h', Po' (.inr E) h' → mw_T y d kc' ks' pc ls rest h' E Po) (hr : ∀ v h', Po' (.inl v) h' → mw_W y d kc' ks' (pc + 3) ls (v.toList ++ rest) h' Po) : mw_W y d kc ks pc ls st h Po := by
  intro G p l e R s m args below meth c mc msl H locs cells slots lsA C hc hs hR hS hL
  obtain ⟨hx0, hb, hr0, hml, hown, hlk, htr, htab, hnm, hRf, hRl, hRc, hRs, hK⟩ := id C
  subst hst
  obtain ⟨hmO, hnil, hnone, hinit, hw1, hw2⟩ := hm
  have hmn := mw_mO_n hmO
  obtain ⟨hcw, hinz, hpl, -, hml2⟩ := hmO
  have hpay := mw_pay hK y' hcw
  have hd9 : d' + 1 ≤ d ∧ 8 + (y'.2.2.1 + 11) + 40 * d' ≤ 40 * d := by
    unfold mw_fr at hd
    by_cases e9 : y'.2.2.1 ≤ 21
    · rw [if_pos e9] at hd; omega
    · rw [if_neg e9] at hd; omega
  have ecw := mw_cw_nil hnil
  rw [hnone] at ecw
  have hcode := mw_word (args := args) hK hcw (mw_cw_good y')
  rw [ecw] at hcode
  have hlen : (As.map (mw_V G)).length = n := by rw [List.length_map]; exact hn
  have estk : (As.reverse ++ .ref a :: rest).map (mw_V G) = (As.map (mw_V G)).reverse ++ .ref (mw_ad G a) :: rest.map (mw_V G) := by rw [List.map_append, List.map_reverse]; rfl
  rw [estk]
  have hrun := vx_runI (As := As.map (mw_V G)) (rest := rest.map (mw_V G)) (b := mw_ad G a) (locs := locs) (cells := cells) (slots := slots) (below := below) (meth := meth) (e := e) (Ts := []) (own := y.1.cls) (g := F0 m pc lsA ((As.map (mw_V G)).reverse ++ .ref (mw_ad G a) :: rest.map (mw_V G))) ⟨hx0, hb, hml, hown, fun _ h9 => nomatch h9⟩ (hC G l htr) ⟨⟨rfl, rfl, (by show d' + 1 ≤ R.frames; omega), (by show 8 + (y'.2.2.1 + 11) + 40 * d' ≤ R.locals; omega), hpay, (by rw [ecw]; exact List.mem_cons_self), hcode, mw_word hK hinz rfl, hpl, hmn, mw_word hK hw1 rfl⟩, hinit, mw_word hK hw2 rfl⟩ ⟨mw_blind, fun U hU hW => ⟨rfl, mw_K_go hK hS hU hW, by rw [hU]; exact hR⟩⟩ rfl hlen hL.1 rfl (mw_sum hw) dg (by omega)
  exact mw_after hrun C (by omega) (by omega) hS hL hx hr
theorem mw_callIN {idx n d' kc' ks' k2 s2 : Nat} {Po' : mw_P} {a : Nat} {As : List Value} (dg : decode y.2.1 pc = .ok (.invokespecial idx, 3)) (hm : mw_mIN y.1.cls idx y' n) (hC : mw_Con y' d' k2 s2 (.ref a :: As) h Po') (hd : d' + mw_fr y' ≤ d) (hkc : kc' + k2 ≤ kc) (hks : ks' + s2 ≤ ks) (hn : As.length = n) (hst : As.reverse ++ .ref a :: rest = st) (hw : (rest.map fun v => v.category).sum ≤ 8) (hx : ∀ E h', Po' (.inr E) h' → mw_T y d kc' ks' pc ls rest h' E Po) (hr : ∀ v h', Po' (.inl v) h' → mw_W y d kc' ks' (pc + 3) ls (v.toList ++ rest) h' Po) : mw_W y d kc ks pc ls st h Po := by
  intro G p l e R s m args below meth c mc msl H locs cells slots lsA C hc hs hR hS hL
  obtain ⟨hx0, hb, hr0, hml, hown, hlk, htr, htab, hnm, hRf, hRl, hRc, hRs, hK⟩ := id C
  subst hst
  obtain ⟨hmO, hnil, hnone, hinit, ⟨host, hw1⟩, hw2⟩ := hm
  have hmn := mw_mO_n hmO
  obtain ⟨hcw, hinz, hpl, -, hml2⟩ := hmO
  have hpay := mw_pay hK y' hcw
  have hd9 : d' + 1 ≤ d ∧ 8 + (y'.2.2.1 + 11) + 40 * d' ≤ 40 * d := by
    unfold mw_fr at hd
    by_cases e9 : y'.2.2.1 ≤ 21
    · rw [if_pos e9] at hd; omega
    · rw [if_neg e9] at hd; omega
  have ecw := mw_cw_nil hnil
  rw [hnone] at ecw
  have hcode := mw_word (args := args) hK hcw (mw_cw_good y')
  rw [ecw] at hcode
  have hlen : (As.map (mw_V G)).length = n := by rw [List.length_map]; exact hn
  have estk : (As.reverse ++ .ref a :: rest).map (mw_V G) = (As.map (mw_V G)).reverse ++ .ref (mw_ad G a) :: rest.map (mw_V G) := by rw [List.map_append, List.map_reverse]; rfl
  rw [estk]
  have hrun := vx_runIN (host := host) (As := As.map (mw_V G)) (rest := rest.map (mw_V G)) (b := mw_ad G a) (locs := locs) (cells := cells) (slots := slots) (below := below) (meth := meth) (e := e) (Ts := []) (own := y.1.cls) (g := F0 m pc lsA ((As.map (mw_V G)).reverse ++ .ref (mw_ad G a) :: rest.map (mw_V G))) ⟨hx0, hb, hml, hown, fun _ h9 => nomatch h9⟩ (hC G l htr) ⟨⟨⟨rfl, rfl, (by show d' + 1 ≤ R.frames; omega), (by show 8 + (y'.2.2.1 + 11) + 40 * d' ≤ R.locals; omega), hpay, (by rw [ecw]; exact List.mem_cons_self)⟩, hcode, mw_word hK hinz rfl, hpl, hmn, mw_nest hK hw1⟩, hinit, mw_word hK hw2 rfl⟩ ⟨mw_blind, fun U hU hW => ⟨rfl, mw_K_go hK hS hU hW, by rw [hU]; exact hR⟩⟩ rfl hlen hL.1 rfl (mw_sum hw) dg (by omega)
  exact mw_after hrun C (by omega) (by omega) hS hL hx hr
/-- one answer, one heap -/
def mw_ret (v : Value) (h1 : mw_H) : mw_P := fun r h' => r = .inl (some v) ∧ h' = h1
def mw_void (h1 : mw_H) : mw_P := fun r h' => r = .inl none ∧ h' = h1
theorem mw_ret_x {v : Value} {h1 : mw_H} {kc' ks' : Nat} : ∀ E h', mw_ret v h1 (.inr E) h' → mw_T y d kc' ks' pc ls rest h' E Po := fun E h' q => by cases q.1
theorem mw_void_x {h1 : mw_H} {kc' ks' : Nat} : ∀ E h', mw_void h1 (.inr E) h' → mw_T y d kc' ks' pc ls rest h' E Po := fun E h' q => by cases q.1
theorem mw_ret_r {v : Value} {h1 : mw_H} {kc' ks' : Nat} (k : mw_W y d kc' ks' (pc + 3) ls (v :: rest) h1 Po) : ∀ v' h', mw_ret v h1 (.inl v') h' → mw_W y d kc' ks' (pc + 3) ls (v'.toList ++ rest) h' Po := by
  rintro v' h' ⟨q1, rfl⟩
  cases q1
  exact k
theorem mw_void_r {h1 : mw_H} {kc' ks' : Nat} (k : mw_W y d kc' ks' (pc + 3) ls rest h1 Po) : ∀ v' h', mw_void h1 (.inl v') h' → mw_W y d kc' ks' (pc + 3) ls (v'.toList ++ rest) h' Po := by
  rintro v' h' ⟨q1, rfl⟩
  cases q1
  exact k
theorem mw_callVr {idx n d' kc' ks' k2 s2 : Nat} {v : Value} {h1 : mw_H} {a ci : Nat} {fs : List Value} {T : u_T} {N : Nat} {As : List Value} (dg : decode y.2.1 pc = .ok (.invokevirtual idx, 3)) (hm : mw_mV y.1.cls idx y' n) (ho : mw_g h a = some (.inr (ci, fs))) (hci : mw_cl[ci]? = some (y'.1.cls, T, N)) (hC : mw_Con y' d' k2 s2 (.ref a :: As) h (mw_ret v h1)) (hd : d' + mw_fr y' ≤ d) (hkc : kc' + k2 ≤ kc) (hks : ks' + s2 ≤ ks) (hn : As.length = n) (hst : As.reverse ++ .ref a :: rest = st) (hw : (rest.map fun v => v.category).sum ≤ 8) (k : mw_W y d kc' ks' (pc + 3) ls (v :: rest) h1 Po) : mw_W y d kc ks pc ls st h Po :=
  mw_callV dg hm ho hci hC hd hkc hks hn hst hw mw_ret_x (mw_ret_r k)
theorem mw_callVv {idx n d' kc' ks' k2 s2 : Nat} {h1 : mw_H} {a ci : Nat} {fs : List Value} {T : u_T} {N : Nat} {As : List Value} (dg : decode y.2.1 pc = .ok (.invokevirtual idx, 3)) (hm : mw_mV y.1.cls idx y' n) (ho : mw_g h a = some (.inr (ci, fs))) (hci : mw_cl[ci]? = some (y'.1.cls, T, N)) (hC : mw_Con y' d' k2 s2 (.ref a :: As) h (mw_void h1)) (hd : d' + mw_fr y' ≤ d) (hkc : kc' + k2 ≤ kc) (hks : ks' + s2 ≤ ks) (hn : As.length = n) (hst : As.reverse ++ .ref a :: rest = st) (hw : (rest.map fun v => v.category).sum ≤ 8) (k : mw_W y d kc' ks' (pc + 3) ls (rest) h1 Po) : mw_W y d kc ks pc ls st h Po :=
  mw_callV dg hm ho hci hC hd hkc hks hn hst hw mw_void_x (mw_void_r k)
theorem mw_callSr {idx n d' kc' ks' k2 s2 : Nat} {v : Value} {h1 : mw_H} {As : List Value} (dg : decode y.2.1 pc = .ok (.invokestatic idx, 3)) (hm : mw_mS y.1.cls idx y' n) (hC : mw_Con y' d' k2 s2 As h (mw_ret v h1)) (hd : d' + mw_fr y' ≤ d) (hkc : kc' + k2 ≤ kc) (hks : ks' + s2 ≤ ks) (hn : As.length = n) (hst : As.reverse ++ rest = st) (hw : (rest.map fun v => v.category).sum ≤ 8) (k : mw_W y d kc' ks' (pc + 3) ls (v :: rest) h1 Po) : mw_W y d kc ks pc ls st h Po :=
  mw_callS dg hm hC hd hkc hks hn hst hw mw_ret_x (mw_ret_r k)
theorem mw_callSv {idx n d' kc' ks' k2 s2 : Nat} {h1 : mw_H} {As : List Value} (dg : decode y.2.1 pc = .ok (.invokestatic idx, 3)) (hm : mw_mS y.1.cls idx y' n) (hC : mw_Con y' d' k2 s2 As h (mw_void h1)) (hd : d' + mw_fr y' ≤ d) (hkc : kc' + k2 ≤ kc) (hks : ks' + s2 ≤ ks) (hn : As.length = n) (hst : As.reverse ++ rest = st) (hw : (rest.map fun v => v.category).sum ≤ 8) (k : mw_W y d kc' ks' (pc + 3) ls (rest) h1 Po) : mw_W y d kc ks pc ls st h Po :=
  mw_callS dg hm hC hd hkc hks hn hst hw mw_void_x (mw_void_r k)
theorem mw_callSNr {idx n d' kc' ks' k2 s2 : Nat} {v : Value} {h1 : mw_H} {As : List Value} (dg : decode y.2.1 pc = .ok (.invokestatic idx, 3)) (hm : mw_mSN y.1.cls idx y' n) (hC : mw_Con y' d' k2 s2 As h (mw_ret v h1)) (hd : d' + mw_fr y' ≤ d) (hkc : kc' + k2 ≤ kc) (hks : ks' + s2 ≤ ks) (hn : As.length = n) (hst : As.reverse ++ rest = st) (hw : (rest.map fun v => v.category).sum ≤ 8) (k : mw_W y d kc' ks' (pc + 3) ls (v :: rest) h1 Po) : mw_W y d kc ks pc ls st h Po :=
  mw_callSN dg hm hC hd hkc hks hn hst hw mw_ret_x (mw_ret_r k)
theorem mw_callSNv {idx n d' kc' ks' k2 s2 : Nat} {h1 : mw_H} {As : List Value} (dg : decode y.2.1 pc = .ok (.invokestatic idx, 3)) (hm : mw_mSN y.1.cls idx y' n) (hC : mw_Con y' d' k2 s2 As h (mw_void h1)) (hd : d' + mw_fr y' ≤ d) (hkc : kc' + k2 ≤ kc) (hks : ks' + s2 ≤ ks) (hn : As.length = n) (hst : As.reverse ++ rest = st) (hw : (rest.map fun v => v.category).sum ≤ 8) (k : mw_W y d kc' ks' (pc + 3) ls (rest) h1 Po) : mw_W y d kc ks pc ls st h Po :=
  mw_callSN dg hm hC hd hkc hks hn hst hw mw_void_x (mw_void_r k)
theorem mw_callIv {idx n d' kc' ks' k2 s2 : Nat} {h1 : mw_H} {a : Nat} {As : List Value} (dg : decode y.2.1 pc = .ok (.invokespecial idx, 3)) (hm : mw_mI y.1.cls idx y' n) (hC : mw_Con y' d' k2 s2 (.ref a :: As) h (mw_void h1)) (hd : d' + mw_fr y' ≤ d) (hkc : kc' + k2 ≤ kc) (hks : ks' + s2 ≤ ks) (hn : As.length = n) (hst : As.reverse ++ .ref a :: rest = st) (hw : (rest.map fun v => v.category).sum ≤ 8) (k : mw_W y d kc' ks' (pc + 3) ls (rest) h1 Po) : mw_W y d kc ks pc ls st h Po :=
  mw_callI dg hm hC hd hkc hks hn hst hw mw_void_x (mw_void_r k)
theorem mw_callINv {idx n d' kc' ks' k2 s2 : Nat} {h1 : mw_H} {a : Nat} {As : List Value} (dg : decode y.2.1 pc = .ok (.invokespecial idx, 3)) (hm : mw_mIN y.1.cls idx y' n) (hC : mw_Con y' d' k2 s2 (.ref a :: As) h (mw_void h1)) (hd : d' + mw_fr y' ≤ d) (hkc : kc' + k2 ≤ kc) (hks : ks' + s2 ≤ ks) (hn : As.length = n) (hst : As.reverse ++ .ref a :: rest = st) (hw : (rest.map fun v => v.category).sum ≤ 8) (k : mw_W y d kc' ks' (pc + 3) ls (rest) h1 Po) : mw_W y d kc ks pc ls st h Po :=
  mw_callIN dg hm hC hd hkc hks hn hst hw mw_void_x (mw_void_r k)
/-! throws -/
def mw_nm : List String := ["java/lang/RuntimeException", "java/lang/Exception"]
def mw_TH (own : String) (ik is ic ci : Nat) (cls text : String) : Prop := Bundle.fit cls = true ∧ Cond.classLink own ik cls ∈ lw_tbl ∧ Cond.initialized cls ∈ lw_tbl ∧ (∀ w ∈ vx_atS own ic cls mw_nm, w ∈ lw_tbl ∧ mw_ok w = true) ∧ (own, is, text) ∈ mw_strs ∧ mw_cl[ci]? = some (cls, mw_T0, 0)
theorem mw_nm_fit : ∀ n ∈ mw_nm, Bundle.fit n = true := by decide +kernel
theorem mw_ok_ot {w : Cond} (hg : mw_ok w = true) : vx_ot w = true := by
  simp only [mw_ok, Bool.and_eq_true] at hg
  simp only [vx_ot, hg.1, Bool.true_or]
theorem mw_thrown {G : mw_G} {H : Heap} {s t : State} {locs : List Loc} {cls : String} {ci : Nat} (hK : mw_K G s) (hR : mw_R G h H) (hS : va_S (mw_I G) s.heap H locs) (hcl : mw_cl[ci]? = some (cls, mw_T0, 0)) (hz : t.heap.size = H.size + 1) (oq : ∀ q : Nat, q < H.size → t.heap[q]? = H[q]?) (hce : ∃ ce : Cell, t.heap[H.size]? = some ce ∧ ce.vm = .none ∧ s.vm.findClass cls = some ce.cls) (hp : Po (.inr cls) (mw_n h (.inr (ci, [])))) : mw_X G Po cls s t := by
  obtain ⟨ce, e1, e2, e3⟩ := hce
  refine ⟨⟨_, hp, mw_R_new hR ?_ hz oq⟩, (mw_S_new hS hz oq).F rfl⟩
  refine ⟨_, hcl, ce, e1, ?_, e2, fun k hk => absurd hk (Nat.not_lt_zero k)⟩
  exact Option.some.inj (e3.symm.trans ((mw_know hK).1 ci _ hcl).2.1)
theorem mw_throw {ik is ic ci : Nat} {cls text : String} (hth : mw_TH y.1.cls ik is ic ci cls text) (d0 : decode y.2.1 pc = .ok (.new ik, 3)) (d3 : decode y.2.1 (pc + 3) = .ok (.dup, 1)) (d4 : decode y.2.1 (pc + 4) = .ok (.ldc is, 2)) (d6 : decode y.2.1 (pc + 6) = .ok (.invokespecial ic, 3)) (d9 : decode y.2.1 (pc + 9) = .ok (.athrow, 1)) (hn : y.2.2.2.2 = []) (hd : 6 ≤ d) (hkc : 1 ≤ kc) (hks : 6 ≤ ks) (hst : (st.map fun v => v.category).sum ≤ 8) (hp : Po (.inr cls) (mw_n h (.inr (ci, [])))) : mw_W y d kc ks pc ls st h Po := by
  intro G p l e R s m args below meth c mc msl H locs cells slots lsA C hc hs hR hS hL
  obtain ⟨hx, hb, hr, hml, hown, hlk, htr, htab, hnm, hRf, hRl, hRc, hRs, hK⟩ := id C
  obtain ⟨hfit, hk1, hk2, hat, hstr, hcl⟩ := hth
  obtain ⟨sa, hsa⟩ := hK.1.2.2.2.2.2.2.1 _ hstr
  rw [hn] at htab
  have hsum := mw_sum (G := G) hst
  refine mx_throwS (cls := cls) (names := mw_nm) (sa := sa) (A := mw_I G) hx hb htr hown hfit mw_nm_fit (mw_word hK hk1 rfl) (mw_word hK hk2 rfl) (vk_R.warm hK.2.1 hsa) (fun w hw => mw_wordC hK (hat w hw).1 (hat w hw).2) ?_ (mw_Zq hK hK.1.2.2.2.2.1) (mw_Zq hK hK.1.2.2.2.2.2.1) hS (hL.1.trans hml.symm) d0 d3 d4 d6 d9 (fun x hx9 => by rw [htab] at hx9; cases hx9) (by show 5 < R.frames; omega) (by show _ + (13 * 3 + 43) ≤ R.locals; omega) (by omega) (by omega) hlk (fun t ht hz oq hce => mw_thrown hK hR hS hcl hz oq hce hp) (fun z hz => hS.2.2 z hz) (by omega) (by omega)
  intro w hw
  rcases List.mem_cons.mp hw with rfl | hw
  · rfl
  · rcases List.mem_cons.mp hw with rfl | hw
    · rfl
    · exact mw_ok_ot (hat w hw).2
theorem mw_throwW {ik is ic ci : Nat} {cls text : String} (hth : mw_TH y.1.cls ik is ic ci cls text) (d0 : decode y.2.1 pc = .ok (.new ik, 3)) (d3 : decode y.2.1 (pc + 3) = .ok (.dup, 1)) (d4 : decode y.2.1 (pc + 4) = .ok (.ldc_w is, 3)) (d6 : decode y.2.1 (pc + 7) = .ok (.invokespecial ic, 3)) (d9 : decode y.2.1 (pc + 10) = .ok (.athrow, 1)) (hn : y.2.2.2.2 = []) (hd : 6 ≤ d) (hkc : 1 ≤ kc) (hks : 6 ≤ ks) (hst : (st.map fun v => v.category).sum ≤ 8) (hp : Po (.inr cls) (mw_n h (.inr (ci, [])))) : mw_W y d kc ks pc ls st h Po := by
  intro G p l e R s m args below meth c mc msl H locs cells slots lsA C hc hs hR hS hL
  obtain ⟨hx, hb, hr, hml, hown, hlk, htr, htab, hnm, hRf, hRl, hRc, hRs, hK⟩ := id C
  obtain ⟨hfit, hk1, hk2, hat, hstr, hcl⟩ := hth
  obtain ⟨sa, hsa⟩ := hK.1.2.2.2.2.2.2.1 _ hstr
  rw [hn] at htab
  have hsum := mw_sum (G := G) hst
  refine mx_throwSW (cls := cls) (names := mw_nm) (sa := sa) (A := mw_I G) hx hb htr hown hfit mw_nm_fit (mw_word hK hk1 rfl) (mw_word hK hk2 rfl) (vk_R.warm hK.2.1 hsa) (fun w hw => mw_wordC hK (hat w hw).1 (hat w hw).2) ?_ (mw_Zq hK hK.1.2.2.2.2.1) (mw_Zq hK hK.1.2.2.2.2.2.1) hS (hL.1.trans hml.symm) d0 d3 d4 d6 d9 (fun x hx9 => by rw [htab] at hx9; cases hx9) (by show 5 < R.frames; omega) (by show _ + (13 * 3 + 43) ≤ R.locals; omega) (by omega) (by omega) hlk (fun t ht hz oq hce => mw_thrown hK hR hS hcl hz oq hce hp) (fun z hz => hS.2.2 z hz) (by omega) (by omega)
  intro w hw
  rcases List.mem_cons.mp hw with rfl | hw
  · rfl
  · rcases List.mem_cons.mp hw with rfl | hw
    · rfl
    · exact mw_ok_ot (hat w hw).2
/-! catching: the row q of the table takes it, those ahead don't; what is caught goes into the place i and is not looked at -/
theorem mw_caught {E name : String} (pre suf : List (Nat × Nat × Nat × Nat)) (q : Nat × Nat × Nat × Nat) {i : Nat} {hp len : Nat} (hsplit : y.2.2.2.2 = pre ++ q :: suf) (hpass : ∀ z ∈ pre, z.2.2.2 ≠ 0 ∧ ∃ nm : String, Cond.classLink y.1.cls z.2.2.2 nm ∈ lw_tbl ∧ (E, nm) ∈ mw_ncs) (hcov : q.1 ≤ pc ∧ pc < q.2.1) (h0 : q.2.2.2 ≠ 0) (hl : Cond.classLink y.1.cls q.2.2.2 name ∈ lw_tbl) (hca : Cond.castable E name ∈ lw_tbl) (hhp : q.2.2.1 = hp)
    (dh : (∃ j : Fin 4, (j : Nat) = i ∧ len = 1 ∧ decode y.2.1 hp = .ok (.astore_n j, 1)) ∨ (len = 2 ∧ decode y.2.1 hp = .ok (.astore i, 2))) (hi : i < y.2.2.1) (k : mw_W y d kc ks (hp + len) (ls.set i none) [] h Po) (hone : ls.all (fun o => match o with | some w => w.category == 1 | none => true) = true := by rfl) : mw_T y d kc ks pc ls st h E Po := by
  intro G p l e R s m args below meth c mc msl H locs cells slots lsA q9 ce C hc hs hR hS hL hce hcv hcl
  obtain ⟨hx, hb, hr, hml, hown, hlk, htr, htab, hnm, hRf, hRl, hRc, hRs, hK⟩ := id C
  subst hhp
  have hT : c.exceptionTable.toList = tableOf pre ++ ⟨q.1, q.2.1, q.2.2.1, q.2.2.2⟩ :: tableOf suf := by
    rw [htab, hsplit]
    unfold tableOf
    rw [List.map_append]
    rfl
  refine vx_catch (E := E) (ce := ce) (name := name) hown _ _ _ hT (fun z hz => ?_) (by unfold covers; simp; exact hcov) h0 (mw_word hK hl rfl) (mw_wordC hK hca rfl) hce hcv hcl ?_
  · unfold tableOf at hz
    obtain ⟨z9, hz9, rfl⟩ := List.mem_map.mp hz
    obtain ⟨a1, nm, a2, a3⟩ := hpass z9 hz9
    exact Or.inr ⟨a1, nm, mw_word hK a2 rfl, va_Nc.moved hK.2.1.alike (hK.1.2.2.2.2.2.2.2 _ a3)⟩
  · rcases dh with ⟨j, hj, rfl, dh⟩ | ⟨rfl, dh⟩
    · exact lv_astore_n hx hb dh hj (mw_al_has hL) hi rfl (fun ls9 h9 => k G p l e R s m args below meth c mc msl H locs cells slots ls9 C hc hs hR hS (mw_L_drop hL hone h9))
    · exact lv_astore hx hb dh (mw_al_has hL) hi rfl (fun ls9 h9 => k G p l e R s m args below meth c mc msl H locs cells slots ls9 C hc hs hR hS (mw_L_drop hL hone h9))
end MWC
end
section
set_option maxRecDepth 100000 in
theorem cf_0 : mw_CF RX0 TX0 2 tyX0 := ⟨by decide +kernel, by decide +kernel, tyX0_ok, nmX0⟩
set_option maxRecDepth 100000 in
theorem cf_1 : mw_CF RX1 TX1 4 tyX1 := ⟨by decide +kernel, by decide +kernel, tyX1_ok, nmX1⟩
set_option maxRecDepth 100000 in
theorem cf_2 : mw_CF RX2 TX2 10 tyX2 := ⟨by decide +kernel, by decide +kernel, tyX2_ok, nmX2⟩
set_option maxRecDepth 100000 in
theorem cf_3 : mw_CF RX3 TX3 2 tyX3 := ⟨by decide +kernel, by decide +kernel, tyX3_ok, nmX3⟩
set_option maxRecDepth 100000 in
theorem cf_4 : mw_CF RX4 TX4 4 tyX4 := ⟨by decide +kernel, by decide +kernel, tyX4_ok, nmX4⟩
set_option maxRecDepth 100000 in
theorem cf_5 : mw_CF RX5 TX5 5 tyX5 := ⟨by decide +kernel, by decide +kernel, tyX5_ok, nmX5⟩
set_option maxRecDepth 100000 in
theorem cf_6 : mw_CF RX6 TX6 11 tyX6 := ⟨by decide +kernel, by decide +kernel, tyX6_ok, nmX6⟩
set_option maxRecDepth 100000 in
theorem fk_X0_9 : mw_F RX0 9 0 0 (.array .byte) true := ⟨RX0, TX0, 2, tyX0, rfl, cf_0, by decide, rfl, rfl, rfl, List.mem_of_getElem? (i := 63) rfl⟩
set_option maxRecDepth 100000 in
theorem fk_X0_15 : mw_F RX0 15 0 1 (.int) false := ⟨RX0, TX0, 2, tyX0, rfl, cf_0, by decide, rfl, rfl, rfl, List.mem_of_getElem? (i := 64) rfl⟩
set_option maxRecDepth 100000 in
theorem fk_X1_12 : mw_F RX1 12 1 0 (.object "Schemabridge$Fields") true := ⟨RX1, TX1, 4, tyX1, rfl, cf_1, by decide, rfl, rfl, rfl, List.mem_of_getElem? (i := 140) rfl⟩
set_option maxRecDepth 100000 in
theorem fk_X1_18 : mw_F RX1 18 1 1 (.array .int) true := ⟨RX1, TX1, 4, tyX1, rfl, cf_1, by decide, rfl, rfl, rfl, List.mem_of_getElem? (i := 141) rfl⟩
set_option maxRecDepth 100000 in
theorem fk_X1_22 : mw_F RX1 22 1 2 (.array .int) true := ⟨RX1, TX1, 4, tyX1, rfl, cf_1, by decide, rfl, rfl, rfl, List.mem_of_getElem? (i := 142) rfl⟩
set_option maxRecDepth 100000 in
theorem fk_X1_39 : mw_F RX1 39 1 3 (.int) false := ⟨RX1, TX1, 4, tyX1, rfl, cf_1, by decide, rfl, rfl, rfl, List.mem_of_getElem? (i := 143) rfl⟩
set_option maxRecDepth 100000 in
theorem fk_X2_9 : mw_F RX2 9 2 0 (.array .int) true := ⟨RX2, TX2, 10, tyX2, rfl, cf_2, by decide, rfl, rfl, rfl, List.mem_of_getElem? (i := 100) rfl⟩
set_option maxRecDepth 100000 in
theorem fk_X2_15 : mw_F RX2 15 2 1 (.array .int) true := ⟨RX2, TX2, 10, tyX2, rfl, cf_2, by decide, rfl, rfl, rfl, List.mem_of_getElem? (i := 101) rfl⟩
set_option maxRecDepth 100000 in
theorem fk_X2_18 : mw_F RX2 18 2 2 (.array .int) true := ⟨RX2, TX2, 10, tyX2, rfl, cf_2, by decide, rfl, rfl, rfl, List.mem_of_getElem? (i := 102) rfl⟩
set_option maxRecDepth 100000 in
theorem fk_X2_21 : mw_F RX2 21 2 3 (.array .int) true := ⟨RX2, TX2, 10, tyX2, rfl, cf_2, by decide, rfl, rfl, rfl, List.mem_of_getElem? (i := 103) rfl⟩
set_option maxRecDepth 100000 in
theorem fk_X2_27 : mw_F RX2 27 2 5 (.object "Schemabridge$Bytes") false := ⟨RX2, TX2, 10, tyX2, rfl, cf_2, by decide, rfl, rfl, rfl, List.mem_of_getElem? (i := 105) rfl⟩
set_option maxRecDepth 100000 in
theorem fk_X2_31 : mw_F RX2 31 2 9 (.int) false := ⟨RX2, TX2, 10, tyX2, rfl, cf_2, by decide, rfl, rfl, rfl, List.mem_of_getElem? (i := 109) rfl⟩
set_option maxRecDepth 100000 in
theorem fk_X2_35 : mw_F RX2 35 2 6 (.int) false := ⟨RX2, TX2, 10, tyX2, rfl, cf_2, by decide, rfl, rfl, rfl, List.mem_of_getElem? (i := 106) rfl⟩
set_option maxRecDepth 100000 in
theorem fk_X2_38 : mw_F RX2 38 2 7 (.int) false := ⟨RX2, TX2, 10, tyX2, rfl, cf_2, by decide, rfl, rfl, rfl, List.mem_of_getElem? (i := 107) rfl⟩
set_option maxRecDepth 100000 in
theorem fk_X2_41 : mw_F RX2 41 2 4 (.int) false := ⟨RX2, TX2, 10, tyX2, rfl, cf_2, by decide, rfl, rfl, rfl, List.mem_of_getElem? (i := 104) rfl⟩
set_option maxRecDepth 100000 in
theorem fk_X2_44 : mw_F RX2 44 2 8 (.int) false := ⟨RX2, TX2, 10, tyX2, rfl, cf_2, by decide, rfl, rfl, rfl, List.mem_of_getElem? (i := 108) rfl⟩
set_option maxRecDepth 100000 in
theorem fk_X3_10 : mw_F RX3 10 3 1 (.object "Schemabridge$Bytes") true := ⟨RX3, TX3, 2, tyX3, rfl, cf_3, by decide, rfl, rfl, rfl, List.mem_of_getElem? (i := 418) rfl⟩
set_option maxRecDepth 100000 in
theorem fk_X3_16 : mw_F RX3 16 3 0 (.object "Schemabridge$Schema") true := ⟨RX3, TX3, 2, tyX3, rfl, cf_3, by decide, rfl, rfl, rfl, List.mem_of_getElem? (i := 416) rfl⟩
set_option maxRecDepth 100000 in
theorem fk_X4_11 : mw_F RX4 11 4 0 (.array (.object "Schemabridge$Schema")) true := ⟨RX4, TX4, 4, tyX4, rfl, cf_4, by decide, rfl, rfl, rfl, List.mem_of_getElem? (i := 78) rfl⟩
set_option maxRecDepth 100000 in
theorem fk_X4_17 : mw_F RX4 17 4 1 (.array (.object "Schemabridge$Schema")) true := ⟨RX4, TX4, 4, tyX4, rfl, cf_4, by decide, rfl, rfl, rfl, List.mem_of_getElem? (i := 79) rfl⟩
set_option maxRecDepth 100000 in
theorem fk_X4_20 : mw_F RX4 20 4 2 (.array .boolean) true := ⟨RX4, TX4, 4, tyX4, rfl, cf_4, by decide, rfl, rfl, rfl, List.mem_of_getElem? (i := 80) rfl⟩
set_option maxRecDepth 100000 in
theorem fk_X4_39 : mw_F RX4 39 4 3 (.int) false := ⟨RX4, TX4, 4, tyX4, rfl, cf_4, by decide, rfl, rfl, rfl, List.mem_of_getElem? (i := 81) rfl⟩
set_option maxRecDepth 100000 in
theorem fk_X4_55 : mw_F RX4 55 5 0 (.int) true := ⟨RX5, TX5, 5, tyX5, rfl, cf_5, by decide, rfl, rfl, rfl, List.mem_of_getElem? (i := 346) rfl⟩
set_option maxRecDepth 100000 in
theorem fk_X5_9 : mw_F RX5 9 5 1 (.array .int) true := ⟨RX5, TX5, 5, tyX5, rfl, cf_5, by decide, rfl, rfl, rfl, List.mem_of_getElem? (i := 348) rfl⟩
set_option maxRecDepth 100000 in
theorem fk_X5_15 : mw_F RX5 15 5 2 (.array .int) true := ⟨RX5, TX5, 5, tyX5, rfl, cf_5, by decide, rfl, rfl, rfl, List.mem_of_getElem? (i := 349) rfl⟩
set_option maxRecDepth 100000 in
theorem fk_X5_18 : mw_F RX5 18 5 3 (.array .int) true := ⟨RX5, TX5, 5, tyX5, rfl, cf_5, by decide, rfl, rfl, rfl, List.mem_of_getElem? (i := 350) rfl⟩
set_option maxRecDepth 100000 in
theorem fk_X5_21 : mw_F RX5 21 5 4 (.array (.object "Schemabridge$Schema")) true := ⟨RX5, TX5, 5, tyX5, rfl, cf_5, by decide, rfl, rfl, rfl, List.mem_of_getElem? (i := 351) rfl⟩
set_option maxRecDepth 100000 in
theorem fk_X5_25 : mw_F RX5 25 5 0 (.int) true := ⟨RX5, TX5, 5, tyX5, rfl, cf_5, by decide, rfl, rfl, rfl, List.mem_of_getElem? (i := 345) rfl⟩
set_option maxRecDepth 100000 in
theorem fk_X6_11 : mw_F RX6 11 6 0 (.array (.object "Schemabridge$Schema")) true := ⟨RX6, TX6, 11, tyX6, rfl, cf_6, by decide, rfl, rfl, rfl, List.mem_of_getElem? (i := 153) rfl⟩
set_option maxRecDepth 100000 in
theorem fk_X6_17 : mw_F RX6 17 6 1 (.array (.object "Schemabridge$Message")) true := ⟨RX6, TX6, 11, tyX6, rfl, cf_6, by decide, rfl, rfl, rfl, List.mem_of_getElem? (i := 154) rfl⟩
set_option maxRecDepth 100000 in
theorem fk_X6_24 : mw_F RX6 24 6 2 (.object "Schemabridge$Bytes") true := ⟨RX6, TX6, 11, tyX6, rfl, cf_6, by decide, rfl, rfl, rfl, List.mem_of_getElem? (i := 155) rfl⟩
set_option maxRecDepth 100000 in
theorem fk_X6_31 : mw_F RX6 31 6 4 (.object "Schemabridge$PairSearch") true := ⟨RX6, TX6, 11, tyX6, rfl, cf_6, by decide, rfl, rfl, rfl, List.mem_of_getElem? (i := 157) rfl⟩
set_option maxRecDepth 100000 in
theorem fk_X6_38 : mw_F RX6 38 6 5 (.object "Schemabridge$Fields") true := ⟨RX6, TX6, 11, tyX6, rfl, cf_6, by decide, rfl, rfl, rfl, List.mem_of_getElem? (i := 158) rfl⟩
set_option maxRecDepth 100000 in
theorem fk_X6_45 : mw_F RX6 45 6 6 (.object "Schemabridge$Canon") true := ⟨RX6, TX6, 11, tyX6, rfl, cf_6, by decide, rfl, rfl, rfl, List.mem_of_getElem? (i := 159) rfl⟩
set_option maxRecDepth 100000 in
theorem fk_X6_49 : mw_F RX6 49 6 7 (.object "Schemabridge$Canon") true := ⟨RX6, TX6, 11, tyX6, rfl, cf_6, by decide, rfl, rfl, rfl, List.mem_of_getElem? (i := 160) rfl⟩
set_option maxRecDepth 100000 in
theorem fk_X6_52 : mw_F RX6 52 6 8 (.object "Schemabridge$Bytes") true := ⟨RX6, TX6, 11, tyX6, rfl, cf_6, by decide, rfl, rfl, rfl, List.mem_of_getElem? (i := 161) rfl⟩
set_option maxRecDepth 100000 in
theorem fk_X6_55 : mw_F RX6 55 6 9 (.object "Schemabridge$Bytes") true := ⟨RX6, TX6, 11, tyX6, rfl, cf_6, by decide, rfl, rfl, rfl, List.mem_of_getElem? (i := 162) rfl⟩
set_option maxRecDepth 100000 in
theorem fk_X6_58 : mw_F RX6 58 6 10 (.object "Schemabridge$Bytes") true := ⟨RX6, TX6, 11, tyX6, rfl, cf_6, by decide, rfl, rfl, rfl, List.mem_of_getElem? (i := 163) rfl⟩
set_option maxRecDepth 100000 in
theorem fk_X6_61 : mw_F RX6 61 6 3 (.int) false := ⟨RX6, TX6, 11, tyX6, rfl, cf_6, by decide, rfl, rfl, rfl, List.mem_of_getElem? (i := 156) rfl⟩
set_option maxRecDepth 100000 in
theorem fk_X6_123 : mw_F RX6 123 3 1 (.object "Schemabridge$Bytes") true := ⟨RX3, TX3, 2, tyX3, rfl, cf_3, by decide, rfl, rfl, rfl, List.mem_of_getElem? (i := 419) rfl⟩
set_option maxRecDepth 100000 in
theorem fk_X6_141 : mw_F RX6 141 3 0 (.object "Schemabridge$Schema") true := ⟨RX3, TX3, 2, tyX3, rfl, cf_3, by decide, rfl, rfl, rfl, List.mem_of_getElem? (i := 417) rfl⟩
set_option maxRecDepth 100000 in
theorem fk_X6_218 : mw_F RX6 218 5 0 (.int) true := ⟨RX5, TX5, 5, tyX5, rfl, cf_5, by decide, rfl, rfl, rfl, List.mem_of_getElem? (i := 347) rfl⟩
abbrev mm_X0_init : mw_M := (yX0_init, cX0_init, 1, none, [])
set_option maxRecDepth 100000 in
theorem mo_X0_init : mw_mO mm_X0_init 0 := ⟨List.mem_of_getElem? (i := 61) rfl, List.mem_of_getElem? (i := 31) rfl, ⟨by decide +kernel, by decide +kernel⟩, by decide +kernel, by decide⟩
abbrev mm_X0_count : mw_M := (yX0_count, cX0_count, 1, some (.int), [])
set_option maxRecDepth 100000 in
theorem mo_X0_count : mw_mO mm_X0_count 0 := ⟨List.mem_of_getElem? (i := 454) rfl, List.mem_of_getElem? (i := 31) rfl, ⟨by decide +kernel, by decide +kernel⟩, by decide +kernel, by decide⟩
abbrev mm_X0_at : mw_M := (yX0_at, cX0_at, 2, some (.byte), [])
set_option maxRecDepth 100000 in
theorem mo_X0_at : mw_mO mm_X0_at 1 := ⟨List.mem_of_getElem? (i := 475) rfl, List.mem_of_getElem? (i := 31) rfl, ⟨by decide +kernel, by decide +kernel⟩, by decide +kernel, by decide⟩
abbrev mm_X0_keepFirst : mw_M := (yX0_keepFirst, cX0_keepFirst, 2, none, [])
set_option maxRecDepth 100000 in
theorem mo_X0_keepFirst : mw_mO mm_X0_keepFirst 1 := ⟨List.mem_of_getElem? (i := 466) rfl, List.mem_of_getElem? (i := 31) rfl, ⟨by decide +kernel, by decide +kernel⟩, by decide +kernel, by decide⟩
abbrev mm_X0_add : mw_M := (yX0_add, cX0_add, 2, none, [])
set_option maxRecDepth 100000 in
theorem mo_X0_add : mw_mO mm_X0_add 1 := ⟨List.mem_of_getElem? (i := 479) rfl, List.mem_of_getElem? (i := 31) rfl, ⟨by decide +kernel, by decide +kernel⟩, by decide +kernel, by decide⟩
abbrev mm_X0_addRange : mw_M := (yX0_addRange, cX0_addRange, 5, none, [])
set_option maxRecDepth 100000 in
theorem mo_X0_addRange : mw_mO mm_X0_addRange 3 := ⟨List.mem_of_getElem? (i := 471) rfl, List.mem_of_getElem? (i := 31) rfl, ⟨by decide +kernel, by decide +kernel⟩, by decide +kernel, by decide⟩
abbrev mm_X0_replaceBy : mw_M := (yX0_replaceBy, cX0_replaceBy, 2, none, [])
set_option maxRecDepth 100000 in
theorem mo_X0_replaceBy : mw_mO mm_X0_replaceBy 1 := ⟨List.mem_of_getElem? (i := 462) rfl, List.mem_of_getElem? (i := 31) rfl, ⟨by decide +kernel, by decide +kernel⟩, by decide +kernel, by decide⟩
abbrev mm_X0_addNumberField : mw_M := (yX0_addNumberField, cX0_addNumberField, 4, none, [])
set_option maxRecDepth 100000 in
theorem mo_X0_addNumberField : mw_mO mm_X0_addNumberField 3 := ⟨List.mem_of_getElem? (i := 602) rfl, List.mem_of_getElem? (i := 31) rfl, ⟨by decide +kernel, by decide +kernel⟩, by decide +kernel, by decide⟩
abbrev mm_X0_addBytesHead : mw_M := (yX0_addBytesHead, cX0_addBytesHead, 3, none, [])
set_option maxRecDepth 100000 in
theorem mo_X0_addBytesHead : mw_mO mm_X0_addBytesHead 2 := ⟨List.mem_of_getElem? (i := 581) rfl, List.mem_of_getElem? (i := 31) rfl, ⟨by decide +kernel, by decide +kernel⟩, by decide +kernel, by decide⟩
abbrev mm_X0_isSameAs : mw_M := (yX0_isSameAs, cX0_isSameAs, 2, some (.boolean), [])
set_option maxRecDepth 100000 in
theorem mo_X0_isSameAs : mw_mO mm_X0_isSameAs 1 := ⟨List.mem_of_getElem? (i := 956) rfl, List.mem_of_getElem? (i := 31) rfl, ⟨by decide +kernel, by decide +kernel⟩, by decide +kernel, by decide⟩
abbrev mm_X0_hasSameRange : mw_M := (yX0_hasSameRange, cX0_hasSameRange, 6, some (.boolean), [])
set_option maxRecDepth 100000 in
theorem mo_X0_hasSameRange : mw_mO mm_X0_hasSameRange 4 := ⟨List.mem_of_getElem? (i := 948) rfl, List.mem_of_getElem? (i := 31) rfl, ⟨by decide +kernel, by decide +kernel⟩, by decide +kernel, by decide⟩
abbrev mm_X0_addKey : mw_M := (yX0_addKey, cX0_addKey, 3, none, [])
set_option maxRecDepth 100000 in
theorem mo_X0_addKey : mw_mO mm_X0_addKey 2 := ⟨List.mem_of_getElem? (i := 585) rfl, List.mem_of_getElem? (i := 31) rfl, ⟨by decide +kernel, by decide +kernel⟩, by decide +kernel, by decide⟩
abbrev mm_X0_addGroups : mw_M := (yX0_addGroups, cX0_addGroups, 4, none, [])
set_option maxRecDepth 100000 in
theorem mo_X0_addGroups : mw_mO mm_X0_addGroups 1 := ⟨List.mem_of_getElem? (i := 589) rfl, List.mem_of_getElem? (i := 31) rfl, ⟨by decide +kernel, by decide +kernel⟩, by decide +kernel, by decide⟩
abbrev mm_X0_addFour : mw_M := (yX0_addFour, cX0_addFour, 3, none, [])
set_option maxRecDepth 100000 in
theorem mo_X0_addFour : mw_mO mm_X0_addFour 1 := ⟨List.mem_of_getElem? (i := 606) rfl, List.mem_of_getElem? (i := 31) rfl, ⟨by decide +kernel, by decide +kernel⟩, by decide +kernel, by decide⟩
abbrev mm_X1_init : mw_M := (yX1_init, cX1_init, 1, none, [])
set_option maxRecDepth 100000 in
theorem mo_X1_init : mw_mO mm_X1_init 0 := ⟨List.mem_of_getElem? (i := 136) rfl, List.mem_of_getElem? (i := 34) rfl, ⟨by decide +kernel, by decide +kernel⟩, by decide +kernel, by decide⟩
abbrev mm_X1_choose : mw_M := (yX1_choose, cX1_choose, 4, none, [])
set_option maxRecDepth 100000 in
theorem mo_X1_choose : mw_mO mm_X1_choose 2 := ⟨List.mem_of_getElem? (i := 727) rfl, List.mem_of_getElem? (i := 34) rfl, ⟨by decide +kernel, by decide +kernel⟩, by decide +kernel, by decide⟩
abbrev mm_X1_writeTo : mw_M := (yX1_writeTo, cX1_writeTo, 3, none, [])
set_option maxRecDepth 100000 in
theorem mo_X1_writeTo : mw_mO mm_X1_writeTo 1 := ⟨List.mem_of_getElem? (i := 758) rfl, List.mem_of_getElem? (i := 34) rfl, ⟨by decide +kernel, by decide +kernel⟩, by decide +kernel, by decide⟩
abbrev mm_X1_hasSameFields : mw_M := (yX1_hasSameFields, cX1_hasSameFields, 3, some (.boolean), [])
set_option maxRecDepth 100000 in
theorem mo_X1_hasSameFields : mw_mO mm_X1_hasSameFields 1 := ⟨List.mem_of_getElem? (i := 940) rfl, List.mem_of_getElem? (i := 34) rfl, ⟨by decide +kernel, by decide +kernel⟩, by decide +kernel, by decide⟩
abbrev mm_X1_placeAt : mw_M := (yX1_placeAt, cX1_placeAt, 2, some (.int), [])
set_option maxRecDepth 100000 in
theorem mo_X1_placeAt : mw_mO mm_X1_placeAt 1 := ⟨List.mem_of_getElem? (i := 763) rfl, List.mem_of_getElem? (i := 34) rfl, ⟨by decide +kernel, by decide +kernel⟩, by decide +kernel, by decide⟩
abbrev mm_X1_noteLasts : mw_M := (yX1_noteLasts, cX1_noteLasts, 4, none, [])
set_option maxRecDepth 100000 in
theorem mo_X1_noteLasts : mw_mO mm_X1_noteLasts 1 := ⟨List.mem_of_getElem? (i := 733) rfl, List.mem_of_getElem? (i := 34) rfl, ⟨by decide +kernel, by decide +kernel⟩, by decide +kernel, by decide⟩
abbrev mm_X1_isToldBy : mw_M := (yX1_isToldBy, cX1_isToldBy, 4, some (.boolean), [])
set_option maxRecDepth 100000 in
theorem mo_X1_isToldBy : mw_mO mm_X1_isToldBy 2 := ⟨List.mem_of_getElem? (i := 742) rfl, List.mem_of_getElem? (i := 34) rfl, ⟨by decide +kernel, by decide +kernel⟩, by decide +kernel, by decide⟩
abbrev mm_X1_insert : mw_M := (yX1_insert, cX1_insert, 3, none, [])
set_option maxRecDepth 100000 in
theorem mo_X1_insert : mw_mO mm_X1_insert 1 := ⟨List.mem_of_getElem? (i := 754) rfl, List.mem_of_getElem? (i := 34) rfl, ⟨by decide +kernel, by decide +kernel⟩, by decide +kernel, by decide⟩
abbrev mm_X2_init : mw_M := (yX2_init, cX2_init, 1, none, [])
set_option maxRecDepth 100000 in
theorem mo_X2_init : mw_mO mm_X2_init 0 := ⟨List.mem_of_getElem? (i := 96) rfl, List.mem_of_getElem? (i := 33) rfl, ⟨by decide +kernel, by decide +kernel⟩, by decide +kernel, by decide⟩
abbrev mm_X2_scan : mw_M := (yX2_scan, cX2_scan, 6, none, [])
set_option maxRecDepth 100000 in
theorem mo_X2_scan : mw_mO mm_X2_scan 3 := ⟨List.mem_of_getElem? (i := 495) rfl, List.mem_of_getElem? (i := 33) rfl, ⟨by decide +kernel, by decide +kernel⟩, by decide +kernel, by decide⟩
abbrev mm_X2_count : mw_M := (yX2_count, cX2_count, 1, some (.int), [])
set_option maxRecDepth 100000 in
theorem mo_X2_count : mw_mO mm_X2_count 0 := ⟨List.mem_of_getElem? (i := 524) rfl, List.mem_of_getElem? (i := 33) rfl, ⟨by decide +kernel, by decide +kernel⟩, by decide +kernel, by decide⟩
abbrev mm_X2_problem : mw_M := (yX2_problem, cX2_problem, 1, some (.int), [])
set_option maxRecDepth 100000 in
theorem mo_X2_problem : mw_mO mm_X2_problem 0 := ⟨List.mem_of_getElem? (i := 832) rfl, List.mem_of_getElem? (i := 33) rfl, ⟨by decide +kernel, by decide +kernel⟩, by decide +kernel, by decide⟩
abbrev mm_X2_problemAt : mw_M := (yX2_problemAt, cX2_problemAt, 1, some (.int), [])
set_option maxRecDepth 100000 in
theorem mo_X2_problemAt : mw_mO mm_X2_problemAt 0 := ⟨List.mem_of_getElem? (i := 891) rfl, List.mem_of_getElem? (i := 33) rfl, ⟨by decide +kernel, by decide +kernel⟩, by decide +kernel, by decide⟩
abbrev mm_X2_tagAt : mw_M := (yX2_tagAt, cX2_tagAt, 2, some (.int), [])
set_option maxRecDepth 100000 in
theorem mo_X2_tagAt : mw_mO mm_X2_tagAt 1 := ⟨List.mem_of_getElem? (i := 548) rfl, List.mem_of_getElem? (i := 33) rfl, ⟨by decide +kernel, by decide +kernel⟩, by decide +kernel, by decide⟩
abbrev mm_X2_typeAt : mw_M := (yX2_typeAt, cX2_typeAt, 2, some (.int), [])
set_option maxRecDepth 100000 in
theorem mo_X2_typeAt : mw_mO mm_X2_typeAt 1 := ⟨List.mem_of_getElem? (i := 568) rfl, List.mem_of_getElem? (i := 33) rfl, ⟨by decide +kernel, by decide +kernel⟩, by decide +kernel, by decide⟩
abbrev mm_X2_numberAt : mw_M := (yX2_numberAt, cX2_numberAt, 2, some (.int), [])
set_option maxRecDepth 100000 in
theorem mo_X2_numberAt : mw_mO mm_X2_numberAt 1 := ⟨List.mem_of_getElem? (i := 577) rfl, List.mem_of_getElem? (i := 33) rfl, ⟨by decide +kernel, by decide +kernel⟩, by decide +kernel, by decide⟩
abbrev mm_X2_endAt : mw_M := (yX2_endAt, cX2_endAt, 2, some (.int), [])
set_option maxRecDepth 100000 in
theorem mo_X2_endAt : mw_mO mm_X2_endAt 1 := ⟨List.mem_of_getElem? (i := 597) rfl, List.mem_of_getElem? (i := 33) rfl, ⟨by decide +kernel, by decide +kernel⟩, by decide +kernel, by decide⟩
abbrev mm_X2_bytesAt : mw_M := (yX2_bytesAt, cX2_bytesAt, 2, some (.int), [])
set_option maxRecDepth 100000 in
theorem mo_X2_bytesAt : mw_mO mm_X2_bytesAt 1 := ⟨List.mem_of_getElem? (i := 573) rfl, List.mem_of_getElem? (i := 33) rfl, ⟨by decide +kernel, by decide +kernel⟩, by decide +kernel, by decide⟩
abbrev mm_X2_bytesBeginAt : mw_M := (yX2_bytesBeginAt, cX2_bytesBeginAt, 2, some (.int), [])
set_option maxRecDepth 100000 in
theorem mo_X2_bytesBeginAt : mw_mO mm_X2_bytesBeginAt 1 := ⟨List.mem_of_getElem? (i := 593) rfl, List.mem_of_getElem? (i := 33) rfl, ⟨by decide +kernel, by decide +kernel⟩, by decide +kernel, by decide⟩
abbrev mm_X2_isKnown : mw_M := (yX2_isKnown, cX2_isKnown, 3, some (.boolean), [])
set_option maxRecDepth 100000 in
theorem mo_X2_isKnown : mw_mO mm_X2_isKnown 2 := ⟨List.mem_of_getElem? (i := 556) rfl, List.mem_of_getElem? (i := 33) rfl, ⟨by decide +kernel, by decide +kernel⟩, by decide +kernel, by decide⟩
abbrev mm_X2_lastKnown : mw_M := (yX2_lastKnown, cX2_lastKnown, 4, some (.int), [])
set_option maxRecDepth 100000 in
theorem mo_X2_lastKnown : mw_mO mm_X2_lastKnown 2 := ⟨List.mem_of_getElem? (i := 629) rfl, List.mem_of_getElem? (i := 33) rfl, ⟨by decide +kernel, by decide +kernel⟩, by decide +kernel, by decide⟩
abbrev mm_X2_writeTo : mw_M := (yX2_writeTo, cX2_writeTo, 3, none, [])
set_option maxRecDepth 100000 in
theorem mo_X2_writeTo : mw_mO mm_X2_writeTo 2 := ⟨List.mem_of_getElem? (i := 564) rfl, List.mem_of_getElem? (i := 33) rfl, ⟨by decide +kernel, by decide +kernel⟩, by decide +kernel, by decide⟩
abbrev mm_X2_isSameAt : mw_M := (yX2_isSameAt, cX2_isSameAt, 4, some (.boolean), [])
set_option maxRecDepth 100000 in
theorem mo_X2_isSameAt : mw_mO mm_X2_isSameAt 3 := ⟨List.mem_of_getElem? (i := 944) rfl, List.mem_of_getElem? (i := 33) rfl, ⟨by decide +kernel, by decide +kernel⟩, by decide +kernel, by decide⟩
abbrev mm_X2_isPlace : mw_M := (yX2_isPlace, cX2_isPlace, 2, some (.boolean), [])
set_option maxRecDepth 100000 in
theorem mo_X2_isPlace : mw_mO mm_X2_isPlace 1 := ⟨List.mem_of_getElem? (i := 552) rfl, List.mem_of_getElem? (i := 33) rfl, ⟨by decide +kernel, by decide +kernel⟩, by decide +kernel, by decide⟩
abbrev mm_X2_scanField : mw_M := (yX2_scanField, cX2_scanField, 5, none, [])
set_option maxRecDepth 100000 in
theorem mo_X2_scanField : mw_mO mm_X2_scanField 0 := ⟨List.mem_of_getElem? (i := 499) rfl, List.mem_of_getElem? (i := 33) rfl, ⟨by decide +kernel, by decide +kernel⟩, by decide +kernel, by decide⟩
abbrev mm_X2_keyProblem : mw_M := (yX2_keyProblem, cX2_keyProblem, 2, some (.int), [])
set_option maxRecDepth 100000 in
theorem mo_X2_keyProblem : mw_mO mm_X2_keyProblem 2 := ⟨List.mem_of_getElem? (i := 507) rfl, List.mem_of_getElem? (i := 33) rfl, ⟨by decide +kernel, by decide +kernel⟩, by decide +kernel, by decide⟩
abbrev mm_X2_scanGroups : mw_M := (yX2_scanGroups, cX2_scanGroups, 4, some (.int), [])
set_option maxRecDepth 100000 in
theorem mo_X2_scanGroups : mw_mO mm_X2_scanGroups 0 := ⟨List.mem_of_getElem? (i := 503) rfl, List.mem_of_getElem? (i := 33) rfl, ⟨by decide +kernel, by decide +kernel⟩, by decide +kernel, by decide⟩
abbrev mm_X2_scanFour : mw_M := (yX2_scanFour, cX2_scanFour, 3, some (.int), [])
set_option maxRecDepth 100000 in
theorem mo_X2_scanFour : mw_mO mm_X2_scanFour 0 := ⟨List.mem_of_getElem? (i := 512) rfl, List.mem_of_getElem? (i := 33) rfl, ⟨by decide +kernel, by decide +kernel⟩, by decide +kernel, by decide⟩
abbrev mm_X2_skipBytes : mw_M := (yX2_skipBytes, cX2_skipBytes, 2, none, [])
set_option maxRecDepth 100000 in
theorem mo_X2_skipBytes : mw_mO mm_X2_skipBytes 1 := ⟨List.mem_of_getElem? (i := 516) rfl, List.mem_of_getElem? (i := 33) rfl, ⟨by decide +kernel, by decide +kernel⟩, by decide +kernel, by decide⟩
abbrev mm_X2_keepField : mw_M := (yX2_keepField, cX2_keepField, 4, none, [])
set_option maxRecDepth 100000 in
theorem mo_X2_keepField : mw_mO mm_X2_keepField 3 := ⟨List.mem_of_getElem? (i := 520) rfl, List.mem_of_getElem? (i := 33) rfl, ⟨by decide +kernel, by decide +kernel⟩, by decide +kernel, by decide⟩
abbrev mm_X3_init : mw_M := (yX3_init, cX3_init, 2, none, [])
set_option maxRecDepth 100000 in
theorem mo_X3_init : mw_mO mm_X3_init 1 := ⟨List.mem_of_getElem? (i := 412) rfl, List.mem_of_getElem? (i := 43) rfl, ⟨by decide +kernel, by decide +kernel⟩, by decide +kernel, by decide⟩
abbrev mm_X4_init : mw_M := (yX4_init, cX4_init, 1, none, [])
set_option maxRecDepth 100000 in
theorem mo_X4_init : mw_mO mm_X4_init 0 := ⟨List.mem_of_getElem? (i := 75) rfl, List.mem_of_getElem? (i := 32) rfl, ⟨by decide +kernel, by decide +kernel⟩, by decide +kernel, by decide⟩
abbrev mm_X4_leastReason : mw_M := (yX4_leastReason, cX4_leastReason, 4, some (.int), [])
set_option maxRecDepth 100000 in
theorem mo_X4_leastReason : mw_mO mm_X4_leastReason 2 := ⟨List.mem_of_getElem? (i := 903) rfl, List.mem_of_getElem? (i := 32) rfl, ⟨by decide +kernel, by decide +kernel⟩, by decide +kernel, by decide⟩
abbrev mm_X4_leadsToDifference : mw_M := (yX4_leadsToDifference, cX4_leadsToDifference, 7, some (.boolean), [])
set_option maxRecDepth 100000 in
theorem mo_X4_leadsToDifference : mw_mO mm_X4_leadsToDifference 3 := ⟨List.mem_of_getElem? (i := 919) rfl, List.mem_of_getElem? (i := 32) rfl, ⟨by decide +kernel, by decide +kernel⟩, by decide +kernel, by decide⟩
abbrev mm_X4_differsSomewhere : mw_M := (yX4_differsSomewhere, cX4_differsSomewhere, 4, some (.boolean), [])
set_option maxRecDepth 100000 in
theorem mo_X4_differsSomewhere : mw_mO mm_X4_differsSomewhere 2 := ⟨List.mem_of_getElem? (i := 928) rfl, List.mem_of_getElem? (i := 32) rfl, ⟨by decide +kernel, by decide +kernel⟩, by decide +kernel, by decide⟩
abbrev mm_X4_notePartsAt : mw_M := (yX4_notePartsAt, cX4_notePartsAt, 6, none, [])
set_option maxRecDepth 100000 in
theorem mo_X4_notePartsAt : mw_mO mm_X4_notePartsAt 3 := ⟨List.mem_of_getElem? (i := 923) rfl, List.mem_of_getElem? (i := 32) rfl, ⟨by decide +kernel, by decide +kernel⟩, by decide +kernel, by decide⟩
abbrev mm_X4_notePair : mw_M := (yX4_notePair, cX4_notePair, 4, none, [])
set_option maxRecDepth 100000 in
theorem mo_X4_notePair : mw_mO mm_X4_notePair 2 := ⟨List.mem_of_getElem? (i := 911) rfl, List.mem_of_getElem? (i := 32) rfl, ⟨by decide +kernel, by decide +kernel⟩, by decide +kernel, by decide⟩
abbrev mm_X4_forgetPairs : mw_M := (yX4_forgetPairs, cX4_forgetPairs, 2, none, [])
set_option maxRecDepth 100000 in
theorem mo_X4_forgetPairs : mw_mO mm_X4_forgetPairs 0 := ⟨List.mem_of_getElem? (i := 907) rfl, List.mem_of_getElem? (i := 32) rfl, ⟨by decide +kernel, by decide +kernel⟩, by decide +kernel, by decide⟩
abbrev mm_X5_init : mw_M := (yX5_init, cX5_init, 2, none, [])
set_option maxRecDepth 100000 in
theorem mo_X5_init : mw_mO mm_X5_init 1 := ⟨List.mem_of_getElem? (i := 339) rfl, List.mem_of_getElem? (i := 40) rfl, ⟨by decide +kernel, by decide +kernel⟩, by decide +kernel, by decide⟩
abbrev mm_X5_kindAt : mw_M := (yX5_kindAt, cX5_kindAt, 2, some (.int), [])
set_option maxRecDepth 100000 in
theorem mo_X5_kindAt : mw_mO mm_X5_kindAt 1 := ⟨List.mem_of_getElem? (i := 307) rfl, List.mem_of_getElem? (i := 40) rfl, ⟨by decide +kernel, by decide +kernel⟩, by decide +kernel, by decide⟩
abbrev mm_X5_defaultAt : mw_M := (yX5_defaultAt, cX5_defaultAt, 2, some (.int), [])
set_option maxRecDepth 100000 in
theorem mo_X5_defaultAt : mw_mO mm_X5_defaultAt 1 := ⟨List.mem_of_getElem? (i := 394) rfl, List.mem_of_getElem? (i := 40) rfl, ⟨by decide +kernel, by decide +kernel⟩, by decide +kernel, by decide⟩
abbrev mm_X5_partOf : mw_M := (yX5_partOf, cX5_partOf, 2, some (.object "Schemabridge$Schema"), [])
set_option maxRecDepth 100000 in
theorem mo_X5_partOf : mw_mO mm_X5_partOf 1 := ⟨List.mem_of_getElem? (i := 721) rfl, List.mem_of_getElem? (i := 40) rfl, ⟨by decide +kernel, by decide +kernel⟩, by decide +kernel, by decide⟩
abbrev mm_X5_giveKind : mw_M := (yX5_giveKind, cX5_giveKind, 4, none, [])
set_option maxRecDepth 100000 in
theorem mo_X5_giveKind : mw_mO mm_X5_giveKind 3 := ⟨List.mem_of_getElem? (i := 312) rfl, List.mem_of_getElem? (i := 40) rfl, ⟨by decide +kernel, by decide +kernel⟩, by decide +kernel, by decide⟩
abbrev mm_X5_giveDefault : mw_M := (yX5_giveDefault, cX5_giveDefault, 3, none, [])
set_option maxRecDepth 100000 in
theorem mo_X5_giveDefault : mw_mO mm_X5_giveDefault 2 := ⟨List.mem_of_getElem? (i := 398) rfl, List.mem_of_getElem? (i := 40) rfl, ⟨by decide +kernel, by decide +kernel⟩, by decide +kernel, by decide⟩
abbrev mm_X5_hasInt : mw_M := (yX5_hasInt, cX5_hasInt, 2, some (.boolean), [])
set_option maxRecDepth 100000 in
theorem mo_X5_hasInt : mw_mO mm_X5_hasInt 1 := ⟨List.mem_of_getElem? (i := 385) rfl, List.mem_of_getElem? (i := 40) rfl, ⟨by decide +kernel, by decide +kernel⟩, by decide +kernel, by decide⟩
abbrev mm_X5_hasBytes : mw_M := (yX5_hasBytes, cX5_hasBytes, 2, some (.boolean), [])
set_option maxRecDepth 100000 in
theorem mo_X5_hasBytes : mw_mO mm_X5_hasBytes 1 := ⟨List.mem_of_getElem? (i := 667) rfl, List.mem_of_getElem? (i := 40) rfl, ⟨by decide +kernel, by decide +kernel⟩, by decide +kernel, by decide⟩
abbrev mm_X5_typeAt : mw_M := (yX5_typeAt, cX5_typeAt, 2, some (.int), [])
set_option maxRecDepth 100000 in
theorem mo_X5_typeAt : mw_mO mm_X5_typeAt 1 := ⟨List.mem_of_getElem? (i := 560) rfl, List.mem_of_getElem? (i := 40) rfl, ⟨by decide +kernel, by decide +kernel⟩, by decide +kernel, by decide⟩
abbrev mm_X5_numberOf : mw_M := (yX5_numberOf, cX5_numberOf, 3, some (.int), [])
set_option maxRecDepth 100000 in
theorem mo_X5_numberOf : mw_mO mm_X5_numberOf 2 := ⟨List.mem_of_getElem? (i := 611) rfl, List.mem_of_getElem? (i := 40) rfl, ⟨by decide +kernel, by decide +kernel⟩, by decide +kernel, by decide⟩
abbrev mm_X5_valueOf : mw_M := (yX5_valueOf, cX5_valueOf, 3, some (.int), [])
set_option maxRecDepth 100000 in
theorem mo_X5_valueOf : mw_mO mm_X5_valueOf 2 := ⟨List.mem_of_getElem? (i := 635) rfl, List.mem_of_getElem? (i := 40) rfl, ⟨by decide +kernel, by decide +kernel⟩, by decide +kernel, by decide⟩
abbrev mm_X5_isDefault : mw_M := (yX5_isDefault, cX5_isDefault, 3, some (.boolean), [])
set_option maxRecDepth 100000 in
theorem mo_X5_isDefault : mw_mO mm_X5_isDefault 2 := ⟨List.mem_of_getElem? (i := 747) rfl, List.mem_of_getElem? (i := 40) rfl, ⟨by decide +kernel, by decide +kernel⟩, by decide +kernel, by decide⟩
abbrev mm_X5_differsAt : mw_M := (yX5_differsAt, cX5_differsAt, 6, some (.boolean), [])
set_option maxRecDepth 100000 in
theorem mo_X5_differsAt : mw_mO mm_X5_differsAt 2 := ⟨List.mem_of_getElem? (i := 915) rfl, List.mem_of_getElem? (i := 40) rfl, ⟨by decide +kernel, by decide +kernel⟩, by decide +kernel, by decide⟩
abbrev mm_X5_typeOfKind : mw_M := (yX5_typeOfKind, cX5_typeOfKind, 1, some (.int), [])
set_option maxRecDepth 100000 in
theorem mo_X5_typeOfKind : mw_mO mm_X5_typeOfKind 1 := ⟨List.mem_of_getElem? (i := 315) rfl, List.mem_of_getElem? (i := 40) rfl, ⟨by decide +kernel, by decide +kernel⟩, by decide +kernel, by decide⟩
abbrev mm_X5_isIntKind : mw_M := (yX5_isIntKind, cX5_isIntKind, 1, some (.boolean), [])
set_option maxRecDepth 100000 in
theorem mo_X5_isIntKind : mw_mO mm_X5_isIntKind 1 := ⟨List.mem_of_getElem? (i := 389) rfl, List.mem_of_getElem? (i := 40) rfl, ⟨by decide +kernel, by decide +kernel⟩, by decide +kernel, by decide⟩
abbrev mm_X6_init : mw_M := (yX6_init, cX6_init, 1, none, [])
set_option maxRecDepth 100000 in
theorem mo_X6_init : mw_mO mm_X6_init 0 := ⟨List.mem_of_getElem? (i := 49) rfl, List.mem_of_getElem? (i := 30) rfl, ⟨by decide +kernel, by decide +kernel⟩, by decide +kernel, by decide⟩
abbrev mm_X6_addSchema : mw_M := (yX6_addSchema, cX6_addSchema, 2, some (.int), [])
set_option maxRecDepth 100000 in
theorem mo_X6_addSchema : mw_mO mm_X6_addSchema 0 := ⟨List.mem_of_getElem? (i := 319) rfl, List.mem_of_getElem? (i := 30) rfl, ⟨by decide +kernel, by decide +kernel⟩, by decide +kernel, by decide⟩
abbrev mm_X6_setKind : mw_M := (yX6_setKind, cX6_setKind, 8, some (.int), [])
set_option maxRecDepth 100000 in
theorem mo_X6_setKind : mw_mO mm_X6_setKind 4 := ⟨List.mem_of_getElem? (i := 208) rfl, List.mem_of_getElem? (i := 30) rfl, ⟨by decide +kernel, by decide +kernel⟩, by decide +kernel, by decide⟩
abbrev mm_X6_dropKind : mw_M := (yX6_dropKind, cX6_dropKind, 5, some (.int), [])
set_option maxRecDepth 100000 in
theorem mo_X6_dropKind : mw_mO mm_X6_dropKind 2 := ⟨List.mem_of_getElem? (i := 373) rfl, List.mem_of_getElem? (i := 30) rfl, ⟨by decide +kernel, by decide +kernel⟩, by decide +kernel, by decide⟩
abbrev mm_X6_setDefault : mw_M := (yX6_setDefault, cX6_setDefault, 6, some (.int), [])
set_option maxRecDepth 100000 in
theorem mo_X6_setDefault : mw_mO mm_X6_setDefault 3 := ⟨List.mem_of_getElem? (i := 381) rfl, List.mem_of_getElem? (i := 30) rfl, ⟨by decide +kernel, by decide +kernel⟩, by decide +kernel, by decide⟩
abbrev mm_X6_kindOf : mw_M := (yX6_kindOf, cX6_kindOf, 4, some (.int), [])
set_option maxRecDepth 100000 in
theorem mo_X6_kindOf : mw_mO mm_X6_kindOf 2 := ⟨List.mem_of_getElem? (i := 369) rfl, List.mem_of_getElem? (i := 30) rfl, ⟨by decide +kernel, by decide +kernel⟩, by decide +kernel, by decide⟩
abbrev mm_X6_conflict : mw_M := (yX6_conflict, cX6_conflict, 3, some (.int), [])
set_option maxRecDepth 100000 in
theorem mo_X6_conflict : mw_mO mm_X6_conflict 2 := ⟨List.mem_of_getElem? (i := 899) rfl, List.mem_of_getElem? (i := 30) rfl, ⟨by decide +kernel, by decide +kernel⟩, by decide +kernel, by decide⟩
abbrev mm_X6_create : mw_M := (yX6_create, cX6_create, 2, some (.int), [])
set_option maxRecDepth 100000 in
theorem mo_X6_create : mw_mO mm_X6_create 1 := ⟨List.mem_of_getElem? (i := 408) rfl, List.mem_of_getElem? (i := 30) rfl, ⟨by decide +kernel, by decide +kernel⟩, by decide +kernel, by decide⟩
abbrev mm_X6_copy : mw_M := (yX6_copy, cX6_copy, 5, some (.int), [])
set_option maxRecDepth 100000 in
theorem mo_X6_copy : mw_mO mm_X6_copy 2 := ⟨List.mem_of_getElem? (i := 458) rfl, List.mem_of_getElem? (i := 30) rfl, ⟨by decide +kernel, by decide +kernel⟩, by decide +kernel, by decide⟩
abbrev mm_X6_discard : mw_M := (yX6_discard, cX6_discard, 3, some (.int), [])
set_option maxRecDepth 100000 in
theorem mo_X6_discard : mw_mO mm_X6_discard 1 := ⟨List.mem_of_getElem? (i := 483) rfl, List.mem_of_getElem? (i := 30) rfl, ⟨by decide +kernel, by decide +kernel⟩, by decide +kernel, by decide⟩
abbrev mm_X6_set : mw_M := (yX6_set, cX6_set, 5, none, [])
set_option maxRecDepth 100000 in
theorem mo_X6_set : mw_mO mm_X6_set 3 := ⟨List.mem_of_getElem? (i := 535) rfl, List.mem_of_getElem? (i := 30) rfl, ⟨by decide +kernel, by decide +kernel⟩, by decide +kernel, by decide⟩
abbrev mm_X6_append : mw_M := (yX6_append, cX6_append, 8, some (.int), [])
set_option maxRecDepth 100000 in
theorem mo_X6_append : mw_mO mm_X6_append 3 := ⟨List.mem_of_getElem? (i := 660) rfl, List.mem_of_getElem? (i := 30) rfl, ⟨by decide +kernel, by decide +kernel⟩, by decide +kernel, by decide⟩
abbrev mm_X6_setPart : mw_M := (yX6_setPart, cX6_setPart, 6, some (.int), [])
set_option maxRecDepth 100000 in
theorem mo_X6_setPart : mw_mO mm_X6_setPart 3 := ⟨List.mem_of_getElem? (i := 714) rfl, List.mem_of_getElem? (i := 30) rfl, ⟨by decide +kernel, by decide +kernel⟩, by decide +kernel, by decide⟩
abbrev mm_X6_clear : mw_M := (yX6_clear, cX6_clear, 7, some (.int), [])
set_option maxRecDepth 100000 in
theorem mo_X6_clear : mw_mO mm_X6_clear 2 := ⟨List.mem_of_getElem? (i := 790) rfl, List.mem_of_getElem? (i := 30) rfl, ⟨by decide +kernel, by decide +kernel⟩, by decide +kernel, by decide⟩
abbrev mm_X6_schemaOf : mw_M := (yX6_schemaOf, cX6_schemaOf, 2, some (.int), [])
set_option maxRecDepth 100000 in
theorem mo_X6_schemaOf : mw_mO mm_X6_schemaOf 1 := ⟨List.mem_of_getElem? (i := 872) rfl, List.mem_of_getElem? (i := 30) rfl, ⟨by decide +kernel, by decide +kernel⟩, by decide +kernel, by decide⟩
abbrev mm_X6_has : mw_M := (yX6_has, cX6_has, 4, some (.boolean), [])
set_option maxRecDepth 100000 in
theorem mo_X6_has : mw_mO mm_X6_has 2 := ⟨List.mem_of_getElem? (i := 794) rfl, List.mem_of_getElem? (i := 30) rfl, ⟨by decide +kernel, by decide +kernel⟩, by decide +kernel, by decide⟩
abbrev mm_X6_get : mw_M := (yX6_get, cX6_get, 6, some (.int), [])
set_option maxRecDepth 100000 in
theorem mo_X6_get : mw_mO mm_X6_get 2 := ⟨List.mem_of_getElem? (i := 625) rfl, List.mem_of_getElem? (i := 30) rfl, ⟨by decide +kernel, by decide +kernel⟩, by decide +kernel, by decide⟩
abbrev mm_X6_byteOf : mw_M := (yX6_byteOf, cX6_byteOf, 7, some (.byte), [])
set_option maxRecDepth 100000 in
theorem mo_X6_byteOf : mw_mO mm_X6_byteOf 3 := ⟨List.mem_of_getElem? (i := 683) rfl, List.mem_of_getElem? (i := 30) rfl, ⟨by decide +kernel, by decide +kernel⟩, by decide +kernel, by decide⟩
abbrev mm_X6_open : mw_M := (yX6_open, cX6_open, 8, some (.int), [])
set_option maxRecDepth 100000 in
theorem mo_X6_open : mw_mO mm_X6_open 2 := ⟨List.mem_of_getElem? (i := 853) rfl, List.mem_of_getElem? (i := 30) rfl, ⟨by decide +kernel, by decide +kernel⟩, by decide +kernel, by decide⟩
abbrev mm_X6_unknowns : mw_M := (yX6_unknowns, cX6_unknowns, 6, some (.int), [])
set_option maxRecDepth 100000 in
theorem mo_X6_unknowns : mw_mO mm_X6_unknowns 1 := ⟨List.mem_of_getElem? (i := 876) rfl, List.mem_of_getElem? (i := 30) rfl, ⟨by decide +kernel, by decide +kernel⟩, by decide +kernel, by decide⟩
abbrev mm_X6_unknownTag : mw_M := (yX6_unknownTag, cX6_unknownTag, 7, some (.int), [])
set_option maxRecDepth 100000 in
theorem mo_X6_unknownTag : mw_mO mm_X6_unknownTag 2 := ⟨List.mem_of_getElem? (i := 867) rfl, List.mem_of_getElem? (i := 30) rfl, ⟨by decide +kernel, by decide +kernel⟩, by decide +kernel, by decide⟩
abbrev mm_X6_weight : mw_M := (yX6_weight, cX6_weight, 2, some (.int), [])
set_option maxRecDepth 100000 in
theorem mo_X6_weight : mw_mO mm_X6_weight 1 := ⟨List.mem_of_getElem? (i := 445) rfl, List.mem_of_getElem? (i := 30) rfl, ⟨by decide +kernel, by decide +kernel⟩, by decide +kernel, by decide⟩
abbrev mm_X6_areSame : mw_M := (yX6_areSame, cX6_areSame, 3, some (.boolean), [])
set_option maxRecDepth 100000 in
theorem mo_X6_areSame : mw_mO mm_X6_areSame 2 := ⟨List.mem_of_getElem? (i := 932) rfl, List.mem_of_getElem? (i := 30) rfl, ⟨by decide +kernel, by decide +kernel⟩, by decide +kernel, by decide⟩
abbrev mm_X6_areSameByBytes : mw_M := (yX6_areSameByBytes, cX6_areSameByBytes, 3, some (.boolean), [])
set_option maxRecDepth 100000 in
theorem mo_X6_areSameByBytes : mw_mO mm_X6_areSameByBytes 2 := ⟨List.mem_of_getElem? (i := 952) rfl, List.mem_of_getElem? (i := 30) rfl, ⟨by decide +kernel, by decide +kernel⟩, by decide +kernel, by decide⟩
abbrev mm_X6_write : mw_M := (yX6_write, cX6_write, 3, some (.int), [])
set_option maxRecDepth 100000 in
theorem mo_X6_write : mw_mO mm_X6_write 1 := ⟨List.mem_of_getElem? (i := 802) rfl, List.mem_of_getElem? (i := 30) rfl, ⟨by decide +kernel, by decide +kernel⟩, by decide +kernel, by decide⟩
abbrev mm_X6_put : mw_M := (yX6_put, cX6_put, 2, some (.int), [])
set_option maxRecDepth 100000 in
theorem mo_X6_put : mw_mO mm_X6_put 1 := ⟨List.mem_of_getElem? (i := 816) rfl, List.mem_of_getElem? (i := 30) rfl, ⟨by decide +kernel, by decide +kernel⟩, by decide +kernel, by decide⟩
abbrev mm_X6_cut : mw_M := (yX6_cut, cX6_cut, 3, some (.int), [])
set_option maxRecDepth 100000 in
theorem mo_X6_cut : mw_mO mm_X6_cut 1 := ⟨List.mem_of_getElem? (i := 809) rfl, List.mem_of_getElem? (i := 30) rfl, ⟨by decide +kernel, by decide +kernel⟩, by decide +kernel, by decide⟩
abbrev mm_X6_length : mw_M := (yX6_length, cX6_length, 1, some (.int), [])
set_option maxRecDepth 100000 in
theorem mo_X6_length : mw_mO mm_X6_length 0 := ⟨List.mem_of_getElem? (i := 798) rfl, List.mem_of_getElem? (i := 30) rfl, ⟨by decide +kernel, by decide +kernel⟩, by decide +kernel, by decide⟩
abbrev mm_X6_byteAt : mw_M := (yX6_byteAt, cX6_byteAt, 2, some (.byte), [])
set_option maxRecDepth 100000 in
theorem mo_X6_byteAt : mw_mO mm_X6_byteAt 1 := ⟨List.mem_of_getElem? (i := 883) rfl, List.mem_of_getElem? (i := 30) rfl, ⟨by decide +kernel, by decide +kernel⟩, by decide +kernel, by decide⟩
abbrev mm_X6_fault : mw_M := (yX6_fault, cX6_fault, 1, some (.int), [])
set_option maxRecDepth 100000 in
theorem mo_X6_fault : mw_mO mm_X6_fault 0 := ⟨List.mem_of_getElem? (i := 846) rfl, List.mem_of_getElem? (i := 30) rfl, ⟨by decide +kernel, by decide +kernel⟩, by decide +kernel, by decide⟩
abbrev mm_X6_faultAt : mw_M := (yX6_faultAt, cX6_faultAt, 1, some (.int), [])
set_option maxRecDepth 100000 in
theorem mo_X6_faultAt : mw_mO mm_X6_faultAt 0 := ⟨List.mem_of_getElem? (i := 887) rfl, List.mem_of_getElem? (i := 30) rfl, ⟨by decide +kernel, by decide +kernel⟩, by decide +kernel, by decide⟩
abbrev mm_X6_read : mw_M := (yX6_read, cX6_read, 4, some (.int), [])
set_option maxRecDepth 100000 in
theorem mo_X6_read : mw_mO mm_X6_read 1 := ⟨List.mem_of_getElem? (i := 824) rfl, List.mem_of_getElem? (i := 30) rfl, ⟨by decide +kernel, by decide +kernel⟩, by decide +kernel, by decide⟩
abbrev mm_X6_isCanonical : mw_M := (yX6_isCanonical, cX6_isCanonical, 3, some (.boolean), [])
set_option maxRecDepth 100000 in
theorem mo_X6_isCanonical : mw_mO mm_X6_isCanonical 1 := ⟨List.mem_of_getElem? (i := 961) rfl, List.mem_of_getElem? (i := 30) rfl, ⟨by decide +kernel, by decide +kernel⟩, by decide +kernel, by decide⟩
abbrev mm_X6_schemaAt : mw_M := (yX6_schemaAt, cX6_schemaAt, 2, some (.object "Schemabridge$Schema"), [])
set_option maxRecDepth 100000 in
theorem mo_X6_schemaAt : mw_mO mm_X6_schemaAt 1 := ⟨List.mem_of_getElem? (i := 212) rfl, List.mem_of_getElem? (i := 30) rfl, ⟨by decide +kernel, by decide +kernel⟩, by decide +kernel, by decide⟩
abbrev mm_X6_messageAt : mw_M := (yX6_messageAt, cX6_messageAt, 2, some (.object "Schemabridge$Message"), [])
set_option maxRecDepth 100000 in
theorem mo_X6_messageAt : mw_mO mm_X6_messageAt 1 := ⟨List.mem_of_getElem? (i := 449) rfl, List.mem_of_getElem? (i := 30) rfl, ⟨by decide +kernel, by decide +kernel⟩, by decide +kernel, by decide⟩
abbrev mm_X6_isTag : mw_M := (yX6_isTag, cX6_isTag, 1, some (.boolean), [])
set_option maxRecDepth 100000 in
theorem mo_X6_isTag : mw_mO mm_X6_isTag 1 := ⟨List.mem_of_getElem? (i := 286) rfl, List.mem_of_getElem? (i := 30) rfl, ⟨by decide +kernel, by decide +kernel⟩, by decide +kernel, by decide⟩
abbrev mm_X6_checkTag : mw_M := (yX6_checkTag, cX6_checkTag, 1, none, [])
set_option maxRecDepth 100000 in
theorem mo_X6_checkTag : mw_mO mm_X6_checkTag 1 := ⟨List.mem_of_getElem? (i := 283) rfl, List.mem_of_getElem? (i := 30) rfl, ⟨by decide +kernel, by decide +kernel⟩, by decide +kernel, by decide⟩
abbrev mm_X6_checkHasInt : mw_M := (yX6_checkHasInt, cX6_checkHasInt, 2, none, [])
set_option maxRecDepth 100000 in
theorem mo_X6_checkHasInt : mw_mO mm_X6_checkHasInt 2 := ⟨List.mem_of_getElem? (i := 538) rfl, List.mem_of_getElem? (i := 30) rfl, ⟨by decide +kernel, by decide +kernel⟩, by decide +kernel, by decide⟩
abbrev mm_X6_checkHasBytes : mw_M := (yX6_checkHasBytes, cX6_checkHasBytes, 2, none, [])
set_option maxRecDepth 100000 in
theorem mo_X6_checkHasBytes : mw_mO mm_X6_checkHasBytes 2 := ⟨List.mem_of_getElem? (i := 663) rfl, List.mem_of_getElem? (i := 30) rfl, ⟨by decide +kernel, by decide +kernel⟩, by decide +kernel, by decide⟩
abbrev mm_X6_partAt : mw_M := (yX6_partAt, cX6_partAt, 3, some (.object "Schemabridge$Schema"), [])
set_option maxRecDepth 100000 in
theorem mo_X6_partAt : mw_mO mm_X6_partAt 2 := ⟨List.mem_of_getElem? (i := 717) rfl, List.mem_of_getElem? (i := 30) rfl, ⟨by decide +kernel, by decide +kernel⟩, by decide +kernel, by decide⟩
abbrev mm_X6_lastKnownOrThrow : mw_M := (yX6_lastKnownOrThrow, cX6_lastKnownOrThrow, 4, some (.int), [])
set_option maxRecDepth 100000 in
theorem mo_X6_lastKnownOrThrow : mw_mO mm_X6_lastKnownOrThrow 3 := ⟨List.mem_of_getElem? (i := 686) rfl, List.mem_of_getElem? (i := 30) rfl, ⟨by decide +kernel, by decide +kernel⟩, by decide +kernel, by decide⟩
abbrev mm_X6_fieldsOf : mw_M := (yX6_fieldsOf, cX6_fieldsOf, 2, some (.object "Schemabridge$Fields"), [])
set_option maxRecDepth 100000 in
theorem mo_X6_fieldsOf : mw_mO mm_X6_fieldsOf 1 := ⟨List.mem_of_getElem? (i := 487) rfl, List.mem_of_getElem? (i := 30) rfl, ⟨by decide +kernel, by decide +kernel⟩, by decide +kernel, by decide⟩
abbrev mm_X6_fieldsOfTape : mw_M := (yX6_fieldsOfTape, cX6_fieldsOfTape, 1, some (.object "Schemabridge$Fields"), [])
set_option maxRecDepth 100000 in
theorem mo_X6_fieldsOfTape : mw_mO mm_X6_fieldsOfTape 0 := ⟨List.mem_of_getElem? (i := 828) rfl, List.mem_of_getElem? (i := 30) rfl, ⟨by decide +kernel, by decide +kernel⟩, by decide +kernel, by decide⟩
abbrev mm_X6_fieldsIn : mw_M := (yX6_fieldsIn, cX6_fieldsIn, 4, some (.object "Schemabridge$Fields"), [])
set_option maxRecDepth 100000 in
theorem mo_X6_fieldsIn : mw_mO mm_X6_fieldsIn 3 := ⟨List.mem_of_getElem? (i := 491) rfl, List.mem_of_getElem? (i := 30) rfl, ⟨by decide +kernel, by decide +kernel⟩, by decide +kernel, by decide⟩
abbrev mm_X6_chooseBoth : mw_M := (yX6_chooseBoth, cX6_chooseBoth, 3, none, [])
set_option maxRecDepth 100000 in
theorem mo_X6_chooseBoth : mw_mO mm_X6_chooseBoth 2 := ⟨List.mem_of_getElem? (i := 936) rfl, List.mem_of_getElem? (i := 30) rfl, ⟨by decide +kernel, by decide +kernel⟩, by decide +kernel, by decide⟩
abbrev mm_X6_messageOf : mw_M := (yX6_messageOf, cX6_messageOf, 4, some (.object "Schemabridge$Message"), [])
set_option maxRecDepth 100000 in
theorem mo_X6_messageOf : mw_mO mm_X6_messageOf 2 := ⟨List.mem_of_getElem? (i := 836) rfl, List.mem_of_getElem? (i := 30) rfl, ⟨by decide +kernel, by decide +kernel⟩, by decide +kernel, by decide⟩
abbrev mm_X6_addMessage : mw_M := (yX6_addMessage, cX6_addMessage, 3, some (.int), [])
set_option maxRecDepth 100000 in
theorem mo_X6_addMessage : mw_mO mm_X6_addMessage 1 := ⟨List.mem_of_getElem? (i := 428) rfl, List.mem_of_getElem? (i := 30) rfl, ⟨by decide +kernel, by decide +kernel⟩, by decide +kernel, by decide⟩
abbrev mm_X6_removeMessage : mw_M := (yX6_removeMessage, cX6_removeMessage, 2, none, [])
set_option maxRecDepth 100000 in
theorem mo_X6_removeMessage : mw_mO mm_X6_removeMessage 1 := ⟨List.mem_of_getElem? (i := 528) rfl, List.mem_of_getElem? (i := 30) rfl, ⟨by decide +kernel, by decide +kernel⟩, by decide +kernel, by decide⟩
abbrev mm_X6_draftWithoutKnown : mw_M := (yX6_draftWithoutKnown, cX6_draftWithoutKnown, 5, none, [])
set_option maxRecDepth 100000 in
theorem mo_X6_draftWithoutKnown : mw_mO mm_X6_draftWithoutKnown 3 := ⟨List.mem_of_getElem? (i := 543) rfl, List.mem_of_getElem? (i := 30) rfl, ⟨by decide +kernel, by decide +kernel⟩, by decide +kernel, by decide⟩
abbrev mm_X6_takeDraft : mw_M := (yX6_takeDraft, cX6_takeDraft, 2, none, [])
set_option maxRecDepth 100000 in
theorem mo_X6_takeDraft : mw_mO mm_X6_takeDraft 1 := ⟨List.mem_of_getElem? (i := 616) rfl, List.mem_of_getElem? (i := 30) rfl, ⟨by decide +kernel, by decide +kernel⟩, by decide +kernel, by decide⟩
abbrev mm_J7_fill_53178 : mw_M := (yJ7_fill_53178, cJ7_fill_53178, 4, none, [])
set_option maxRecDepth 100000 in
theorem mo_J7_fill_53178 : mw_mO mm_J7_fill_53178 2 := ⟨List.mem_of_getElem? (i := 344) rfl, List.mem_of_getElem? (i := 42) rfl, ⟨by decide +kernel, by decide +kernel⟩, by decide +kernel, by decide⟩
abbrev mm_L_cell : mw_M := (yL_cell, cL_cell, 2, some (.int), [])
set_option maxRecDepth 100000 in
theorem mo_L_cell : mw_mO mm_L_cell 2 := ⟨List.mem_of_getElem? (i := 189) rfl, List.mem_of_getElem? (i := 29) rfl, ⟨by decide +kernel, by decide +kernel⟩, by decide +kernel, by decide⟩
abbrev mm_L_low : mw_M := (yL_low, cL_low, 2, some (.int), [])
set_option maxRecDepth 100000 in
theorem mo_L_low : mw_mO mm_L_low 2 := ⟨List.mem_of_getElem? (i := 193) rfl, List.mem_of_getElem? (i := 29) rfl, ⟨by decide +kernel, by decide +kernel⟩, by decide +kernel, by decide⟩
abbrev mm_L_setKind : mw_M := (yL_setKind, cL_setKind, 7, some (.int), [(0, 11, 14, 14), (0, 11, 19, 16)])
set_option maxRecDepth 100000 in
theorem mo_L_setKind : mw_mO mm_L_setKind 5 := ⟨List.mem_of_getElem? (i := 202) rfl, List.mem_of_getElem? (i := 29) rfl, ⟨by decide +kernel, by decide +kernel⟩, by decide +kernel, by decide⟩
abbrev mm_L_setDefault : mw_M := (yL_setDefault, cL_setDefault, 5, some (.int), [(0, 8, 11, 14), (0, 8, 16, 16), (0, 8, 21, 22)])
set_option maxRecDepth 100000 in
theorem mo_L_setDefault : mw_mO mm_L_setDefault 4 := ⟨List.mem_of_getElem? (i := 376) rfl, List.mem_of_getElem? (i := 29) rfl, ⟨by decide +kernel, by decide +kernel⟩, by decide +kernel, by decide⟩
abbrev mm_L_create : mw_M := (yL_create, cL_create, 4, some (.int), [(0, 6, 9, 14)])
set_option maxRecDepth 100000 in
theorem mo_L_create : mw_mO mm_L_create 2 := ⟨List.mem_of_getElem? (i := 404) rfl, List.mem_of_getElem? (i := 29) rfl, ⟨by decide +kernel, by decide +kernel⟩, by decide +kernel, by decide⟩
abbrev mm_L_set : mw_M := (yL_set, cL_set, 5, some (.int), [(0, 7, 10, 14), (0, 7, 15, 16), (0, 7, 20, 22)])
set_option maxRecDepth 100000 in
theorem mo_L_set : mw_mO mm_L_set 4 := ⟨List.mem_of_getElem? (i := 531) rfl, List.mem_of_getElem? (i := 29) rfl, ⟨by decide +kernel, by decide +kernel⟩, by decide +kernel, by decide⟩
abbrev mm_L_append : mw_M := (yL_append, cL_append, 6, some (.int), [(0, 10, 13, 14), (0, 10, 18, 16), (0, 10, 23, 22)])
set_option maxRecDepth 100000 in
theorem mo_L_append : mw_mO mm_L_append 4 := ⟨List.mem_of_getElem? (i := 656) rfl, List.mem_of_getElem? (i := 29) rfl, ⟨by decide +kernel, by decide +kernel⟩, by decide +kernel, by decide⟩
abbrev mm_L_setPart : mw_M := (yL_setPart, cL_setPart, 6, some (.int), [(0, 9, 12, 14), (0, 9, 17, 16), (0, 9, 22, 22)])
set_option maxRecDepth 100000 in
theorem mo_L_setPart : mw_mO mm_L_setPart 4 := ⟨List.mem_of_getElem? (i := 710) rfl, List.mem_of_getElem? (i := 29) rfl, ⟨by decide +kernel, by decide +kernel⟩, by decide +kernel, by decide⟩
abbrev mm_L_open : mw_M := (yL_open, cL_open, 5, some (.int), [(0, 7, 10, 14), (0, 7, 15, 16), (0, 7, 20, 22), (0, 7, 25, 43)])
set_option maxRecDepth 100000 in
theorem mo_L_open : mw_mO mm_L_open 3 := ⟨List.mem_of_getElem? (i := 849) rfl, List.mem_of_getElem? (i := 29) rfl, ⟨by decide +kernel, by decide +kernel⟩, by decide +kernel, by decide⟩
abbrev mm_L_byteOf : mw_M := (yL_byteOf, cL_byteOf, 6, some (.int), [(0, 9, 12, 14), (0, 9, 18, 16), (0, 9, 24, 43)])
set_option maxRecDepth 100000 in
theorem mo_L_byteOf : mw_mO mm_L_byteOf 4 := ⟨List.mem_of_getElem? (i := 678) rfl, List.mem_of_getElem? (i := 29) rfl, ⟨by decide +kernel, by decide +kernel⟩, by decide +kernel, by decide⟩
abbrev mm_L_read : mw_M := (yL_read, cL_read, 4, some (.int), [(0, 6, 9, 14), (0, 6, 13, 16)])
set_option maxRecDepth 100000 in
theorem mo_L_read : mw_mO mm_L_read 2 := ⟨List.mem_of_getElem? (i := 820) rfl, List.mem_of_getElem? (i := 29) rfl, ⟨by decide +kernel, by decide +kernel⟩, by decide +kernel, by decide⟩
abbrev mm_L_hasNone : mw_M := (yL_hasNone, cL_hasNone, 5, some (.boolean), [(0, 7, 10, 16)])
set_option maxRecDepth 100000 in
theorem mo_L_hasNone : mw_mO mm_L_hasNone 3 := ⟨List.mem_of_getElem? (i := 621) rfl, List.mem_of_getElem? (i := 29) rfl, ⟨by decide +kernel, by decide +kernel⟩, by decide +kernel, by decide⟩
abbrev mm_L_weight : mw_M := (yL_weight, cL_weight, 4, some (.int), [(0, 6, 9, 14)])
set_option maxRecDepth 100000 in
theorem mo_L_weight : mw_mO mm_L_weight 2 := ⟨List.mem_of_getElem? (i := 441) rfl, List.mem_of_getElem? (i := 29) rfl, ⟨by decide +kernel, by decide +kernel⟩, by decide +kernel, by decide⟩
abbrev mm_L_unknownTag : mw_M := (yL_unknownTag, cL_unknownTag, 5, some (.int), [(0, 7, 10, 14)])
set_option maxRecDepth 100000 in
theorem mo_L_unknownTag : mw_mO mm_L_unknownTag 3 := ⟨List.mem_of_getElem? (i := 863) rfl, List.mem_of_getElem? (i := 29) rfl, ⟨by decide +kernel, by decide +kernel⟩, by decide +kernel, by decide⟩
abbrev mm_L_cut : mw_M := (yL_cut, cL_cut, 4, some (.int), [(0, 6, 9, 14)])
set_option maxRecDepth 100000 in
theorem mo_L_cut : mw_mO mm_L_cut 2 := ⟨List.mem_of_getElem? (i := 805) rfl, List.mem_of_getElem? (i := 29) rfl, ⟨by decide +kernel, by decide +kernel⟩, by decide +kernel, by decide⟩
abbrev mm_L_tagAt : mw_M := (yL_tagAt, cL_tagAt, 1, some (.int), [])
set_option maxRecDepth 100000 in
theorem mo_L_tagAt : mw_mO mm_L_tagAt 1 := ⟨List.mem_of_getElem? (i := 365) rfl, List.mem_of_getElem? (i := 29) rfl, ⟨by decide +kernel, by decide +kernel⟩, by decide +kernel, by decide⟩
abbrev mm_L_kind : mw_M := (yL_kind, cL_kind, 4, some (.int), [])
set_option maxRecDepth 100000 in
theorem mo_L_kind : mw_mO mm_L_kind 3 := ⟨List.mem_of_getElem? (i := 432) rfl, List.mem_of_getElem? (i := 29) rfl, ⟨by decide +kernel, by decide +kernel⟩, by decide +kernel, by decide⟩
abbrev mm_L_place : mw_M := (yL_place, cL_place, 3, some (.int), [])
set_option maxRecDepth 100000 in
theorem mo_L_place : mw_mO mm_L_place 2 := ⟨List.mem_of_getElem? (i := 707) rfl, List.mem_of_getElem? (i := 29) rfl, ⟨by decide +kernel, by decide +kernel⟩, by decide +kernel, by decide⟩
abbrev mm_L_isKnown : mw_M := (yL_isKnown, cL_isKnown, 4, some (.boolean), [])
set_option maxRecDepth 100000 in
theorem mo_L_isKnown : mw_mO mm_L_isKnown 3 := ⟨List.mem_of_getElem? (i := 438) rfl, List.mem_of_getElem? (i := 29) rfl, ⟨by decide +kernel, by decide +kernel⟩, by decide +kernel, by decide⟩
abbrev mm_L_stands : mw_M := (yL_stands, cL_stands, 2, some (.int), [])
set_option maxRecDepth 100000 in
theorem mo_L_stands : mw_mO mm_L_stands 2 := ⟨List.mem_of_getElem? (i := 773) rfl, List.mem_of_getElem? (i := 29) rfl, ⟨by decide +kernel, by decide +kernel⟩, by decide +kernel, by decide⟩
abbrev mm_L_groups : mw_M := (yL_groups, cL_groups, 3, some (.int), [])
set_option maxRecDepth 100000 in
theorem mo_L_groups : mw_mO mm_L_groups 1 := ⟨List.mem_of_getElem? (i := 644) rfl, List.mem_of_getElem? (i := 29) rfl, ⟨by decide +kernel, by decide +kernel⟩, by decide +kernel, by decide⟩
abbrev mm_L_size : mw_M := (yL_size, cL_size, 3, some (.int), [])
set_option maxRecDepth 100000 in
theorem mo_L_size : mw_mO mm_L_size 3 := ⟨List.mem_of_getElem? (i := 641) rfl, List.mem_of_getElem? (i := 29) rfl, ⟨by decide +kernel, by decide +kernel⟩, by decide +kernel, by decide⟩
abbrev mm_L_byteAt : mw_M := (yL_byteAt, cL_byteAt, 4, some (.int), [])
set_option maxRecDepth 100000 in
theorem mo_L_byteAt : mw_mO mm_L_byteAt 4 := ⟨List.mem_of_getElem? (i := 785) rfl, List.mem_of_getElem? (i := 29) rfl, ⟨by decide +kernel, by decide +kernel⟩, by decide +kernel, by decide⟩
abbrev mm_L_weightOf : mw_M := (yL_weightOf, cL_weightOf, 6, some (.int), [])
set_option maxRecDepth 100000 in
theorem mo_L_weightOf : mw_mO mm_L_weightOf 4 := ⟨List.mem_of_getElem? (i := 879) rfl, List.mem_of_getElem? (i := 29) rfl, ⟨by decide +kernel, by decide +kernel⟩, by decide +kernel, by decide⟩
abbrev mm_L_last : mw_M := (yL_last, cL_last, 7, some (.int), [])
set_option maxRecDepth 100000 in
theorem mo_L_last : mw_mO mm_L_last 6 := ⟨List.mem_of_getElem? (i := 435) rfl, List.mem_of_getElem? (i := 29) rfl, ⟨by decide +kernel, by decide +kernel⟩, by decide +kernel, by decide⟩
abbrev mm_L_isCanonical : mw_M := (yL_isCanonical, cL_isCanonical, 10, some (.boolean), [])
set_option maxRecDepth 100000 in
theorem mo_L_isCanonical : mw_mO mm_L_isCanonical 8 := ⟨List.mem_of_getElem? (i := 770) rfl, List.mem_of_getElem? (i := 29) rfl, ⟨by decide +kernel, by decide +kernel⟩, by decide +kernel, by decide⟩
abbrev mm_L_writes : mw_M := (yL_writes, cL_writes, 3, none, [])
set_option maxRecDepth 100000 in
theorem mo_L_writes : mw_mO mm_L_writes 3 := ⟨List.mem_of_getElem? (i := 782) rfl, List.mem_of_getElem? (i := 29) rfl, ⟨by decide +kernel, by decide +kernel⟩, by decide +kernel, by decide⟩
abbrev mm_L_writeGroups : mw_M := (yL_writeGroups, cL_writeGroups, 5, none, [])
set_option maxRecDepth 100000 in
theorem mo_L_writeGroups : mw_mO mm_L_writeGroups 3 := ⟨List.mem_of_getElem? (i := 779) rfl, List.mem_of_getElem? (i := 29) rfl, ⟨by decide +kernel, by decide +kernel⟩, by decide +kernel, by decide⟩
abbrev mm_L_writeField : mw_M := (yL_writeField, cL_writeField, 8, none, [])
set_option maxRecDepth 100000 in
theorem mo_L_writeField : mw_mO mm_L_writeField 7 := ⟨List.mem_of_getElem? (i := 776) rfl, List.mem_of_getElem? (i := 29) rfl, ⟨by decide +kernel, by decide +kernel⟩, by decide +kernel, by decide⟩
abbrev mm_L_canonical : mw_M := (yL_canonical, cL_canonical, 13, some (.int), [])
set_option maxRecDepth 100000 in
theorem mo_L_canonical : mw_mO mm_L_canonical 11 := ⟨List.mem_of_getElem? (i := 767) rfl, List.mem_of_getElem? (i := 29) rfl, ⟨by decide +kernel, by decide +kernel⟩, by decide +kernel, by decide⟩
abbrev mm_L_remove : mw_M := (yL_remove, cL_remove, 8, none, [])
set_option maxRecDepth 100000 in
theorem mo_L_remove : mw_mO mm_L_remove 7 := ⟨List.mem_of_getElem? (i := 653) rfl, List.mem_of_getElem? (i := 29) rfl, ⟨by decide +kernel, by decide +kernel⟩, by decide +kernel, by decide⟩
abbrev mm_L_others : mw_M := (yL_others, cL_others, 8, some (.int), [])
set_option maxRecDepth 100000 in
theorem mo_L_others : mw_mO mm_L_others 6 := ⟨List.mem_of_getElem? (i := 647) rfl, List.mem_of_getElem? (i := 29) rfl, ⟨by decide +kernel, by decide +kernel⟩, by decide +kernel, by decide⟩
abbrev mm_L_weightOfOthers : mw_M := (yL_weightOfOthers, cL_weightOfOthers, 9, some (.int), [])
set_option maxRecDepth 100000 in
theorem mo_L_weightOfOthers : mw_mO mm_L_weightOfOthers 7 := ⟨List.mem_of_getElem? (i := 638) rfl, List.mem_of_getElem? (i := 29) rfl, ⟨by decide +kernel, by decide +kernel⟩, by decide +kernel, by decide⟩
abbrev mm_L_replace : mw_M := (yL_replace, cL_replace, 15, none, [])
set_option maxRecDepth 100000 in
theorem mo_L_replace : mw_mO mm_L_replace 12 := ⟨List.mem_of_getElem? (i := 650) rfl, List.mem_of_getElem? (i := 29) rfl, ⟨by decide +kernel, by decide +kernel⟩, by decide +kernel, by decide⟩
abbrev mm_L_number : mw_M := (yL_number, cL_number, 5, none, [])
set_option maxRecDepth 100000 in
theorem mo_L_number : mw_mO mm_L_number 3 := ⟨List.mem_of_getElem? (i := 842) rfl, List.mem_of_getElem? (i := 29) rfl, ⟨by decide +kernel, by decide +kernel⟩, by decide +kernel, by decide⟩
abbrev mm_L_reads : mw_M := (yL_reads, cL_reads, 17, some (.int), [])
set_option maxRecDepth 100000 in
theorem mo_L_reads : mw_mO mm_L_reads 9 := ⟨List.mem_of_getElem? (i := 839) rfl, List.mem_of_getElem? (i := 29) rfl, ⟨by decide +kernel, by decide +kernel⟩, by decide +kernel, by decide⟩
abbrev mm_L_free : mw_M := (yL_free, cL_free, 2, some (.int), [])
set_option maxRecDepth 100000 in
theorem mo_L_free : mw_mO mm_L_free 1 := ⟨List.mem_of_getElem? (i := 401) rfl, List.mem_of_getElem? (i := 29) rfl, ⟨by decide +kernel, by decide +kernel⟩, by decide +kernel, by decide⟩
abbrev mm_L_schemas : mw_M := (yL_schemas, cL_schemas, 12, some (.boolean), [])
set_option maxRecDepth 100000 in
theorem mo_L_schemas : mw_mO mm_L_schemas 6 := ⟨List.mem_of_getElem? (i := 199) rfl, List.mem_of_getElem? (i := 29) rfl, ⟨by decide +kernel, by decide +kernel⟩, by decide +kernel, by decide⟩
abbrev mm_L_keeps : mw_M := (yL_keeps, cL_keeps, 42, some (.boolean), [])
set_option maxRecDepth 100000 in
theorem mo_L_keeps : mw_mO mm_L_keeps 14 := ⟨List.mem_of_getElem? (i := 196) rfl, List.mem_of_getElem? (i := 29) rfl, ⟨by decide +kernel, by decide +kernel⟩, by decide +kernel, by decide⟩
abbrev mm_L_isReason : mw_M := (yL_isReason, cL_isReason, 14, some (.boolean), [])
set_option maxRecDepth 100000 in
theorem mo_L_isReason : mw_mO mm_L_isReason 5 := ⟨List.mem_of_getElem? (i := 894) rfl, List.mem_of_getElem? (i := 29) rfl, ⟨by decide +kernel, by decide +kernel⟩, by decide +kernel, by decide⟩
abbrev mm_L_isMessage : mw_M := (yL_isMessage, cL_isMessage, 16, some (.boolean), [])
set_option maxRecDepth 100000 in
theorem mo_L_isMessage : mw_mO mm_L_isMessage 10 := ⟨List.mem_of_getElem? (i := 860) rfl, List.mem_of_getElem? (i := 29) rfl, ⟨by decide +kernel, by decide +kernel⟩, by decide +kernel, by decide⟩
abbrev mm_L_isTold : mw_M := (yL_isTold, cL_isTold, 23, some (.boolean), [])
set_option maxRecDepth 100000 in
theorem mo_L_isTold : mw_mO mm_L_isTold 14 := ⟨List.mem_of_getElem? (i := 857) rfl, List.mem_of_getElem? (i := 29) rfl, ⟨by decide +kernel, by decide +kernel⟩, by decide +kernel, by decide⟩
set_option maxRecDepth 100000 in
theorem mk_L_8 : mw_mV RL 8 mm_X6_setKind 4 := ⟨mo_X6_setKind, rfl, List.mem_of_getElem? (i := 205) rfl, List.mem_of_getElem? (i := 206) rfl, List.mem_of_getElem? (i := 207) rfl⟩
set_option maxRecDepth 100000 in
theorem mk_L_18 : mw_mV RL 18 mm_X6_setDefault 3 := ⟨mo_X6_setDefault, rfl, List.mem_of_getElem? (i := 378) rfl, List.mem_of_getElem? (i := 379) rfl, List.mem_of_getElem? (i := 380) rfl⟩
set_option maxRecDepth 100000 in
theorem mk_L_24 : mw_mV RL 24 mm_X6_create 1 := ⟨mo_X6_create, rfl, List.mem_of_getElem? (i := 405) rfl, List.mem_of_getElem? (i := 406) rfl, List.mem_of_getElem? (i := 407) rfl⟩
set_option maxRecDepth 100000 in
theorem mk_L_28 : mw_mV RL 28 mm_X6_set 3 := ⟨mo_X6_set, rfl, List.mem_of_getElem? (i := 532) rfl, List.mem_of_getElem? (i := 533) rfl, List.mem_of_getElem? (i := 534) rfl⟩
set_option maxRecDepth 100000 in
theorem mk_L_32 : mw_mV RL 32 mm_X6_append 3 := ⟨mo_X6_append, rfl, List.mem_of_getElem? (i := 657) rfl, List.mem_of_getElem? (i := 658) rfl, List.mem_of_getElem? (i := 659) rfl⟩
set_option maxRecDepth 100000 in
theorem mk_L_36 : mw_mV RL 36 mm_X6_setPart 3 := ⟨mo_X6_setPart, rfl, List.mem_of_getElem? (i := 711) rfl, List.mem_of_getElem? (i := 712) rfl, List.mem_of_getElem? (i := 713) rfl⟩
set_option maxRecDepth 100000 in
theorem mk_L_39 : mw_mV RL 39 mm_X6_open 2 := ⟨mo_X6_open, rfl, List.mem_of_getElem? (i := 850) rfl, List.mem_of_getElem? (i := 851) rfl, List.mem_of_getElem? (i := 852) rfl⟩
set_option maxRecDepth 100000 in
theorem mk_L_45 : mw_mV RL 45 mm_X6_byteOf 3 := ⟨mo_X6_byteOf, rfl, List.mem_of_getElem? (i := 680) rfl, List.mem_of_getElem? (i := 681) rfl, List.mem_of_getElem? (i := 682) rfl⟩
set_option maxRecDepth 100000 in
theorem mk_L_49 : mw_mV RL 49 mm_X6_read 1 := ⟨mo_X6_read, rfl, List.mem_of_getElem? (i := 821) rfl, List.mem_of_getElem? (i := 822) rfl, List.mem_of_getElem? (i := 823) rfl⟩
set_option maxRecDepth 100000 in
theorem mk_L_52 : mw_mV RL 52 mm_X6_get 2 := ⟨mo_X6_get, rfl, List.mem_of_getElem? (i := 622) rfl, List.mem_of_getElem? (i := 623) rfl, List.mem_of_getElem? (i := 624) rfl⟩
set_option maxRecDepth 100000 in
theorem mk_L_55 : mw_mV RL 55 mm_X6_weight 1 := ⟨mo_X6_weight, rfl, List.mem_of_getElem? (i := 442) rfl, List.mem_of_getElem? (i := 443) rfl, List.mem_of_getElem? (i := 444) rfl⟩
set_option maxRecDepth 100000 in
theorem mk_L_58 : mw_mV RL 58 mm_X6_unknownTag 2 := ⟨mo_X6_unknownTag, rfl, List.mem_of_getElem? (i := 864) rfl, List.mem_of_getElem? (i := 865) rfl, List.mem_of_getElem? (i := 866) rfl⟩
set_option maxRecDepth 100000 in
theorem mk_L_61 : mw_mV RL 61 mm_X6_cut 1 := ⟨mo_X6_cut, rfl, List.mem_of_getElem? (i := 806) rfl, List.mem_of_getElem? (i := 807) rfl, List.mem_of_getElem? (i := 808) rfl⟩
set_option maxRecDepth 100000 in
theorem mk_L_64 : mw_mS RL 64 mm_L_tagAt 1 := ⟨mo_L_tagAt, rfl, List.mem_of_getElem? (i := 363) rfl, List.mem_of_getElem? (i := 364) rfl⟩
set_option maxRecDepth 100000 in
theorem mk_L_69 : mw_mS RL 69 mm_L_kind 3 := ⟨mo_L_kind, rfl, List.mem_of_getElem? (i := 430) rfl, List.mem_of_getElem? (i := 431) rfl⟩
set_option maxRecDepth 100000 in
theorem mk_L_73 : mw_mS RL 73 mm_L_groups 1 := ⟨mo_L_groups, rfl, List.mem_of_getElem? (i := 642) rfl, List.mem_of_getElem? (i := 643) rfl⟩
set_option maxRecDepth 100000 in
theorem mk_L_78 : mw_mS RL 78 mm_L_size 3 := ⟨mo_L_size, rfl, List.mem_of_getElem? (i := 639) rfl, List.mem_of_getElem? (i := 640) rfl⟩
set_option maxRecDepth 100000 in
theorem mk_L_82 : mw_mS RL 82 mm_L_isKnown 3 := ⟨mo_L_isKnown, rfl, List.mem_of_getElem? (i := 436) rfl, List.mem_of_getElem? (i := 437) rfl⟩
set_option maxRecDepth 100000 in
theorem mk_L_86 : mw_mS RL 86 mm_L_last 6 := ⟨mo_L_last, rfl, List.mem_of_getElem? (i := 433) rfl, List.mem_of_getElem? (i := 434) rfl⟩
set_option maxRecDepth 100000 in
theorem mk_L_90 : mw_mS RL 90 mm_L_stands 2 := ⟨mo_L_stands, rfl, List.mem_of_getElem? (i := 771) rfl, List.mem_of_getElem? (i := 772) rfl⟩
set_option maxRecDepth 100000 in
theorem mk_L_93 : mw_mS RL 93 mm_L_place 2 := ⟨mo_L_place, rfl, List.mem_of_getElem? (i := 705) rfl, List.mem_of_getElem? (i := 706) rfl⟩
set_option maxRecDepth 100000 in
theorem mk_L_96 : mw_mS RL 96 mm_L_writes 3 := ⟨mo_L_writes, rfl, List.mem_of_getElem? (i := 780) rfl, List.mem_of_getElem? (i := 781) rfl⟩
set_option maxRecDepth 100000 in
theorem mk_L_100 : mw_mS RL 100 mm_L_writeGroups 3 := ⟨mo_L_writeGroups, rfl, List.mem_of_getElem? (i := 777) rfl, List.mem_of_getElem? (i := 778) rfl⟩
set_option maxRecDepth 100000 in
theorem mk_L_103 : mw_mS RL 103 mm_L_byteAt 4 := ⟨mo_L_byteAt, rfl, List.mem_of_getElem? (i := 783) rfl, List.mem_of_getElem? (i := 784) rfl⟩
set_option maxRecDepth 100000 in
theorem mk_L_107 : mw_mS RL 107 mm_L_isCanonical 8 := ⟨mo_L_isCanonical, rfl, List.mem_of_getElem? (i := 768) rfl, List.mem_of_getElem? (i := 769) rfl⟩
set_option maxRecDepth 100000 in
theorem mk_L_111 : mw_mS RL 111 mm_L_writeField 7 := ⟨mo_L_writeField, rfl, List.mem_of_getElem? (i := 774) rfl, List.mem_of_getElem? (i := 775) rfl⟩
set_option maxRecDepth 100000 in
theorem mk_L_115 : mw_mS RL 115 mm_L_remove 7 := ⟨mo_L_remove, rfl, List.mem_of_getElem? (i := 651) rfl, List.mem_of_getElem? (i := 652) rfl⟩
set_option maxRecDepth 100000 in
theorem mk_L_119 : mw_mS RL 119 mm_L_number 3 := ⟨mo_L_number, rfl, List.mem_of_getElem? (i := 840) rfl, List.mem_of_getElem? (i := 841) rfl⟩
set_option maxRecDepth 100000 in
theorem mk_L_122 : mw_mSX RL 122 mm_L_setKind 5 := ⟨mo_L_setKind, by simp, List.mem_of_getElem? (i := 200) rfl, List.mem_of_getElem? (i := 201) rfl⟩
set_option maxRecDepth 100000 in
theorem mk_L_125 : mw_mV RL 125 mm_X6_addSchema 0 := ⟨mo_X6_addSchema, rfl, List.mem_of_getElem? (i := 316) rfl, List.mem_of_getElem? (i := 317) rfl, List.mem_of_getElem? (i := 318) rfl⟩
set_option maxRecDepth 100000 in
theorem mk_L_129 : mw_mS RL 129 mm_L_low 2 := ⟨mo_L_low, rfl, List.mem_of_getElem? (i := 191) rfl, List.mem_of_getElem? (i := 192) rfl⟩
set_option maxRecDepth 100000 in
theorem mk_L_132 : mw_mV RL 132 mm_X6_kindOf 2 := ⟨mo_X6_kindOf, rfl, List.mem_of_getElem? (i := 366) rfl, List.mem_of_getElem? (i := 367) rfl, List.mem_of_getElem? (i := 368) rfl⟩
set_option maxRecDepth 100000 in
theorem mk_L_135 : mw_mV RL 135 mm_X6_dropKind 2 := ⟨mo_X6_dropKind, rfl, List.mem_of_getElem? (i := 370) rfl, List.mem_of_getElem? (i := 371) rfl, List.mem_of_getElem? (i := 372) rfl⟩
set_option maxRecDepth 100000 in
theorem mk_L_138 : mw_mSX RL 138 mm_L_setDefault 4 := ⟨mo_L_setDefault, by simp, List.mem_of_getElem? (i := 374) rfl, List.mem_of_getElem? (i := 375) rfl⟩
set_option maxRecDepth 100000 in
theorem mk_L_141 : mw_mS RL 141 mm_L_schemas 6 := ⟨mo_L_schemas, rfl, List.mem_of_getElem? (i := 197) rfl, List.mem_of_getElem? (i := 198) rfl⟩
set_option maxRecDepth 100000 in
theorem mk_L_145 : mw_mS RL 145 mm_L_free 1 := ⟨mo_L_free, rfl, List.mem_of_getElem? (i := 399) rfl, List.mem_of_getElem? (i := 400) rfl⟩
set_option maxRecDepth 100000 in
theorem mk_L_149 : mw_mSX RL 149 mm_L_create 2 := ⟨mo_L_create, by simp, List.mem_of_getElem? (i := 402) rfl, List.mem_of_getElem? (i := 403) rfl⟩
set_option maxRecDepth 100000 in
theorem mk_L_152 : mw_mSX RL 152 mm_L_weight 2 := ⟨mo_L_weight, by simp, List.mem_of_getElem? (i := 439) rfl, List.mem_of_getElem? (i := 440) rfl⟩
set_option maxRecDepth 100000 in
theorem mk_L_154 : mw_mV RL 154 mm_X6_copy 2 := ⟨mo_X6_copy, rfl, List.mem_of_getElem? (i := 455) rfl, List.mem_of_getElem? (i := 456) rfl, List.mem_of_getElem? (i := 457) rfl⟩
set_option maxRecDepth 100000 in
theorem mk_L_157 : mw_mV RL 157 mm_X6_discard 1 := ⟨mo_X6_discard, rfl, List.mem_of_getElem? (i := 480) rfl, List.mem_of_getElem? (i := 481) rfl, List.mem_of_getElem? (i := 482) rfl⟩
set_option maxRecDepth 100000 in
theorem mk_L_160 : mw_mSX RL 160 mm_L_set 4 := ⟨mo_L_set, by simp, List.mem_of_getElem? (i := 529) rfl, List.mem_of_getElem? (i := 530) rfl⟩
set_option maxRecDepth 100000 in
theorem mk_L_163 : mw_mSX RL 163 mm_L_hasNone 3 := ⟨mo_L_hasNone, by simp, List.mem_of_getElem? (i := 619) rfl, List.mem_of_getElem? (i := 620) rfl⟩
set_option maxRecDepth 100000 in
theorem mk_L_167 : mw_mS RL 167 mm_L_weightOfOthers 7 := ⟨mo_L_weightOfOthers, rfl, List.mem_of_getElem? (i := 636) rfl, List.mem_of_getElem? (i := 637) rfl⟩
set_option maxRecDepth 100000 in
theorem mk_L_171 : mw_mS RL 171 mm_L_others 6 := ⟨mo_L_others, rfl, List.mem_of_getElem? (i := 645) rfl, List.mem_of_getElem? (i := 646) rfl⟩
set_option maxRecDepth 100000 in
theorem mk_L_174 : mw_mS RL 174 mm_L_replace 12 := ⟨mo_L_replace, rfl, List.mem_of_getElem? (i := 648) rfl, List.mem_of_getElem? (i := 649) rfl⟩
set_option maxRecDepth 100000 in
theorem mk_L_178 : mw_mSX RL 178 mm_L_append 4 := ⟨mo_L_append, by simp, List.mem_of_getElem? (i := 654) rfl, List.mem_of_getElem? (i := 655) rfl⟩
set_option maxRecDepth 100000 in
theorem mk_L_180 : mw_mSX RL 180 mm_L_byteOf 4 := ⟨mo_L_byteOf, by simp, List.mem_of_getElem? (i := 676) rfl, List.mem_of_getElem? (i := 677) rfl⟩
set_option maxRecDepth 100000 in
theorem mk_L_182 : mw_mSX RL 182 mm_L_setPart 4 := ⟨mo_L_setPart, by simp, List.mem_of_getElem? (i := 708) rfl, List.mem_of_getElem? (i := 709) rfl⟩
set_option maxRecDepth 100000 in
theorem mk_L_184 : mw_mS RL 184 mm_L_canonical 11 := ⟨mo_L_canonical, rfl, List.mem_of_getElem? (i := 765) rfl, List.mem_of_getElem? (i := 766) rfl⟩
set_option maxRecDepth 100000 in
theorem mk_L_188 : mw_mV RL 188 mm_X6_clear 2 := ⟨mo_X6_clear, rfl, List.mem_of_getElem? (i := 787) rfl, List.mem_of_getElem? (i := 788) rfl, List.mem_of_getElem? (i := 789) rfl⟩
set_option maxRecDepth 100000 in
theorem mk_L_191 : mw_mV RL 191 mm_X6_has 2 := ⟨mo_X6_has, rfl, List.mem_of_getElem? (i := 791) rfl, List.mem_of_getElem? (i := 792) rfl, List.mem_of_getElem? (i := 793) rfl⟩
set_option maxRecDepth 100000 in
theorem mk_L_195 : mw_mV RL 195 mm_X6_length 0 := ⟨mo_X6_length, rfl, List.mem_of_getElem? (i := 795) rfl, List.mem_of_getElem? (i := 796) rfl, List.mem_of_getElem? (i := 797) rfl⟩
set_option maxRecDepth 100000 in
theorem mk_L_198 : mw_mV RL 198 mm_X6_write 1 := ⟨mo_X6_write, rfl, List.mem_of_getElem? (i := 799) rfl, List.mem_of_getElem? (i := 800) rfl, List.mem_of_getElem? (i := 801) rfl⟩
set_option maxRecDepth 100000 in
theorem mk_L_201 : mw_mSX RL 201 mm_L_cut 2 := ⟨mo_L_cut, by simp, List.mem_of_getElem? (i := 803) rfl, List.mem_of_getElem? (i := 804) rfl⟩
set_option maxRecDepth 100000 in
theorem mk_L_205 : mw_mV RL 205 mm_X6_put 1 := ⟨mo_X6_put, rfl, List.mem_of_getElem? (i := 813) rfl, List.mem_of_getElem? (i := 814) rfl, List.mem_of_getElem? (i := 815) rfl⟩
set_option maxRecDepth 100000 in
theorem mk_L_209 : mw_mSX RL 209 mm_L_read 2 := ⟨mo_L_read, by simp, List.mem_of_getElem? (i := 818) rfl, List.mem_of_getElem? (i := 819) rfl⟩
set_option maxRecDepth 100000 in
theorem mk_L_211 : mw_mS RL 211 mm_L_reads 9 := ⟨mo_L_reads, rfl, List.mem_of_getElem? (i := 837) rfl, List.mem_of_getElem? (i := 838) rfl⟩
set_option maxRecDepth 100000 in
theorem mk_L_215 : mw_mV RL 215 mm_X6_fault 0 := ⟨mo_X6_fault, rfl, List.mem_of_getElem? (i := 843) rfl, List.mem_of_getElem? (i := 844) rfl, List.mem_of_getElem? (i := 845) rfl⟩
set_option maxRecDepth 100000 in
theorem mk_L_218 : mw_mSX RL 218 mm_L_open 3 := ⟨mo_L_open, by simp, List.mem_of_getElem? (i := 847) rfl, List.mem_of_getElem? (i := 848) rfl⟩
set_option maxRecDepth 100000 in
theorem mk_L_223 : mw_mSX RL 223 mm_L_unknownTag 3 := ⟨mo_L_unknownTag, by simp, List.mem_of_getElem? (i := 861) rfl, List.mem_of_getElem? (i := 862) rfl⟩
set_option maxRecDepth 100000 in
theorem mk_L_225 : mw_mV RL 225 mm_X6_schemaOf 1 := ⟨mo_X6_schemaOf, rfl, List.mem_of_getElem? (i := 869) rfl, List.mem_of_getElem? (i := 870) rfl, List.mem_of_getElem? (i := 871) rfl⟩
set_option maxRecDepth 100000 in
theorem mk_L_228 : mw_mV RL 228 mm_X6_unknowns 1 := ⟨mo_X6_unknowns, rfl, List.mem_of_getElem? (i := 873) rfl, List.mem_of_getElem? (i := 874) rfl, List.mem_of_getElem? (i := 875) rfl⟩
set_option maxRecDepth 100000 in
theorem mk_L_231 : mw_mS RL 231 mm_L_weightOf 4 := ⟨mo_L_weightOf, rfl, List.mem_of_getElem? (i := 877) rfl, List.mem_of_getElem? (i := 878) rfl⟩
set_option maxRecDepth 100000 in
theorem mk_L_235 : mw_mS RL 235 mm_L_isMessage 10 := ⟨mo_L_isMessage, rfl, List.mem_of_getElem? (i := 858) rfl, List.mem_of_getElem? (i := 859) rfl⟩
set_option maxRecDepth 100000 in
theorem mk_L_239 : mw_mV RL 239 mm_X6_byteAt 1 := ⟨mo_X6_byteAt, rfl, List.mem_of_getElem? (i := 880) rfl, List.mem_of_getElem? (i := 881) rfl, List.mem_of_getElem? (i := 882) rfl⟩
set_option maxRecDepth 100000 in
theorem mk_L_242 : mw_mV RL 242 mm_X6_faultAt 0 := ⟨mo_X6_faultAt, rfl, List.mem_of_getElem? (i := 884) rfl, List.mem_of_getElem? (i := 885) rfl, List.mem_of_getElem? (i := 886) rfl⟩
set_option maxRecDepth 100000 in
theorem mk_L_245 : mw_mS RL 245 mm_L_isReason 5 := ⟨mo_L_isReason, rfl, List.mem_of_getElem? (i := 892) rfl, List.mem_of_getElem? (i := 893) rfl⟩
set_option maxRecDepth 100000 in
theorem mk_L_249 : mw_mV RL 249 mm_X6_conflict 2 := ⟨mo_X6_conflict, rfl, List.mem_of_getElem? (i := 896) rfl, List.mem_of_getElem? (i := 897) rfl, List.mem_of_getElem? (i := 898) rfl⟩
set_option maxRecDepth 100000 in
theorem mk_L_252 : mw_mV RL 252 mm_X6_areSame 2 := ⟨mo_X6_areSame, rfl, List.mem_of_getElem? (i := 929) rfl, List.mem_of_getElem? (i := 930) rfl, List.mem_of_getElem? (i := 931) rfl⟩
set_option maxRecDepth 100000 in
theorem mk_L_255 : mw_mV RL 255 mm_X6_areSameByBytes 2 := ⟨mo_X6_areSameByBytes, rfl, List.mem_of_getElem? (i := 949) rfl, List.mem_of_getElem? (i := 950) rfl, List.mem_of_getElem? (i := 951) rfl⟩
set_option maxRecDepth 100000 in
theorem mk_L_258 : mw_mV RL 258 mm_X6_isCanonical 1 := ⟨mo_X6_isCanonical, rfl, List.mem_of_getElem? (i := 958) rfl, List.mem_of_getElem? (i := 959) rfl, List.mem_of_getElem? (i := 960) rfl⟩
set_option maxRecDepth 100000 in
theorem mk_L_261 : mw_mI RL 261 mm_X6_init 0 := ⟨mo_X6_init, rfl, rfl, rfl, List.mem_of_getElem? (i := 47) rfl, List.mem_of_getElem? (i := 48) rfl⟩
set_option maxRecDepth 100000 in
theorem mk_L_262 : mw_mS RL 262 mm_L_cell 2 := ⟨mo_L_cell, rfl, List.mem_of_getElem? (i := 187) rfl, List.mem_of_getElem? (i := 188) rfl⟩
set_option maxRecDepth 100000 in
theorem mk_L_266 : mw_mS RL 266 mm_L_keeps 14 := ⟨mo_L_keeps, rfl, List.mem_of_getElem? (i := 194) rfl, List.mem_of_getElem? (i := 195) rfl⟩
set_option maxRecDepth 100000 in
theorem mk_L_270 : mw_mS RL 270 mm_L_isTold 14 := ⟨mo_L_isTold, rfl, List.mem_of_getElem? (i := 855) rfl, List.mem_of_getElem? (i := 856) rfl⟩
set_option maxRecDepth 100000 in
theorem ob_X0_3 : Cond.methodLink RX0 3 objectInit ∈ lw_tbl ∧ Cond.instanceMethod objectInit ∈ lw_tbl ∧ Cond.code objectInit ⟨#[0xb1]⟩ 1 none ∈ lw_tbl := ⟨List.mem_of_getElem? (i := 62) rfl, List.mem_of_getElem? (i := 51) rfl, List.mem_of_getElem? (i := 52) rfl⟩
set_option maxRecDepth 100000 in
theorem mk_X0_19 : mw_mV RX0 19 mm_X0_at 1 := ⟨mo_X0_at, rfl, List.mem_of_getElem? (i := 472) rfl, List.mem_of_getElem? (i := 473) rfl, List.mem_of_getElem? (i := 474) rfl⟩
set_option maxRecDepth 100000 in
theorem mk_X0_23 : mw_mV RX0 23 mm_X0_add 1 := ⟨mo_X0_add, rfl, List.mem_of_getElem? (i := 476) rfl, List.mem_of_getElem? (i := 477) rfl, List.mem_of_getElem? (i := 478) rfl⟩
set_option maxRecDepth 100000 in
theorem mk_X0_27 : mw_mV RX0 27 mm_X0_keepFirst 1 := ⟨mo_X0_keepFirst, rfl, List.mem_of_getElem? (i := 463) rfl, List.mem_of_getElem? (i := 464) rfl, List.mem_of_getElem? (i := 465) rfl⟩
set_option maxRecDepth 100000 in
theorem mk_X0_31 : mw_mV RX0 31 mm_X0_count 0 := ⟨mo_X0_count, rfl, List.mem_of_getElem? (i := 467) rfl, List.mem_of_getElem? (i := 452) rfl, List.mem_of_getElem? (i := 453) rfl⟩
set_option maxRecDepth 100000 in
theorem mk_X0_34 : mw_mV RX0 34 mm_X0_addRange 3 := ⟨mo_X0_addRange, rfl, List.mem_of_getElem? (i := 468) rfl, List.mem_of_getElem? (i := 469) rfl, List.mem_of_getElem? (i := 470) rfl⟩
set_option maxRecDepth 100000 in
theorem mk_X0_38 : mw_mV RX0 38 mm_X0_addKey 2 := ⟨mo_X0_addKey, rfl, List.mem_of_getElem? (i := 582) rfl, List.mem_of_getElem? (i := 584) rfl, List.mem_of_getElem? (i := 14) rfl⟩
set_option maxRecDepth 100000 in
theorem mk_X0_42 : mw_mV RX0 42 mm_X0_addFour 1 := ⟨mo_X0_addFour, rfl, List.mem_of_getElem? (i := 603) rfl, List.mem_of_getElem? (i := 605) rfl, List.mem_of_getElem? (i := 16) rfl⟩
set_option maxRecDepth 100000 in
theorem mk_X0_45 : mw_mV RX0 45 mm_X0_addGroups 1 := ⟨mo_X0_addGroups, rfl, List.mem_of_getElem? (i := 586) rfl, List.mem_of_getElem? (i := 588) rfl, List.mem_of_getElem? (i := 15) rfl⟩
set_option maxRecDepth 100000 in
theorem mk_X0_48 : mw_mV RX0 48 mm_X0_hasSameRange 4 := ⟨mo_X0_hasSameRange, rfl, List.mem_of_getElem? (i := 957) rfl, List.mem_of_getElem? (i := 946) rfl, List.mem_of_getElem? (i := 947) rfl⟩
set_option maxRecDepth 100000 in
theorem ob_X1_3 : Cond.methodLink RX1 3 objectInit ∈ lw_tbl ∧ Cond.instanceMethod objectInit ∈ lw_tbl ∧ Cond.code objectInit ⟨#[0xb1]⟩ 1 none ∈ lw_tbl := ⟨List.mem_of_getElem? (i := 137) rfl, List.mem_of_getElem? (i := 51) rfl, List.mem_of_getElem? (i := 52) rfl⟩
set_option maxRecDepth 100000 in
theorem mk_X1_11 : mw_mIN RX1 11 mm_X2_init 0 := ⟨mo_X2_init, rfl, rfl, rfl, ⟨"Schemabridge", List.mem_of_getElem? (i := 139) rfl⟩, List.mem_of_getElem? (i := 95) rfl⟩
set_option maxRecDepth 100000 in
theorem mk_X1_25 : mw_mV RX1 25 mm_X0_count 0 := ⟨mo_X0_count, rfl, List.mem_of_getElem? (i := 728) rfl, List.mem_of_getElem? (i := 452) rfl, List.mem_of_getElem? (i := 453) rfl⟩
set_option maxRecDepth 100000 in
theorem mk_X1_31 : mw_mV RX1 31 mm_X2_scan 3 := ⟨mo_X2_scan, rfl, List.mem_of_getElem? (i := 729) rfl, List.mem_of_getElem? (i := 493) rfl, List.mem_of_getElem? (i := 494) rfl⟩
set_option maxRecDepth 100000 in
theorem mk_X1_35 : mw_mV RX1 35 mm_X1_noteLasts 1 := ⟨mo_X1_noteLasts, rfl, List.mem_of_getElem? (i := 730) rfl, List.mem_of_getElem? (i := 732) rfl, List.mem_of_getElem? (i := 18) rfl⟩
set_option maxRecDepth 100000 in
theorem mk_X1_42 : mw_mV RX1 42 mm_X2_count 0 := ⟨mo_X2_count, rfl, List.mem_of_getElem? (i := 735) rfl, List.mem_of_getElem? (i := 522) rfl, List.mem_of_getElem? (i := 523) rfl⟩
set_option maxRecDepth 100000 in
theorem mk_X1_43 : mw_mV RX1 43 mm_X2_isKnown 2 := ⟨mo_X2_isKnown, rfl, List.mem_of_getElem? (i := 738) rfl, List.mem_of_getElem? (i := 554) rfl, List.mem_of_getElem? (i := 555) rfl⟩
set_option maxRecDepth 100000 in
theorem mk_X1_47 : mw_mV RX1 47 mm_X1_isToldBy 2 := ⟨mo_X1_isToldBy, rfl, List.mem_of_getElem? (i := 739) rfl, List.mem_of_getElem? (i := 741) rfl, List.mem_of_getElem? (i := 19) rfl⟩
set_option maxRecDepth 100000 in
theorem mk_X1_50 : mw_mV RX1 50 mm_X1_insert 1 := ⟨mo_X1_insert, rfl, List.mem_of_getElem? (i := 751) rfl, List.mem_of_getElem? (i := 753) rfl, List.mem_of_getElem? (i := 20) rfl⟩
set_option maxRecDepth 100000 in
theorem mk_X1_54 : mw_mV RX1 54 mm_X0_keepFirst 1 := ⟨mo_X0_keepFirst, rfl, List.mem_of_getElem? (i := 759) rfl, List.mem_of_getElem? (i := 464) rfl, List.mem_of_getElem? (i := 465) rfl⟩
set_option maxRecDepth 100000 in
theorem mk_X1_57 : mw_mV RX1 57 mm_X1_placeAt 1 := ⟨mo_X1_placeAt, rfl, List.mem_of_getElem? (i := 760) rfl, List.mem_of_getElem? (i := 762) rfl, List.mem_of_getElem? (i := 21) rfl⟩
set_option maxRecDepth 100000 in
theorem mk_X1_61 : mw_mV RX1 61 mm_X2_writeTo 2 := ⟨mo_X2_writeTo, rfl, List.mem_of_getElem? (i := 764) rfl, List.mem_of_getElem? (i := 562) rfl, List.mem_of_getElem? (i := 563) rfl⟩
set_option maxRecDepth 100000 in
theorem mk_X1_65 : mw_mV RX1 65 mm_X2_isSameAt 3 := ⟨mo_X2_isSameAt, rfl, List.mem_of_getElem? (i := 941) rfl, List.mem_of_getElem? (i := 942) rfl, List.mem_of_getElem? (i := 943) rfl⟩
set_option maxRecDepth 100000 in
theorem mk_X1_69 : mw_mS RX1 69 mm_J7_fill_53178 2 := ⟨mo_J7_fill_53178, rfl, List.mem_of_getElem? (i := 734) rfl, List.mem_of_getElem? (i := 343) rfl⟩
set_option maxRecDepth 100000 in
theorem mk_X1_75 : mw_mV RX1 75 mm_X2_tagAt 1 := ⟨mo_X2_tagAt, rfl, List.mem_of_getElem? (i := 736) rfl, List.mem_of_getElem? (i := 546) rfl, List.mem_of_getElem? (i := 547) rfl⟩
set_option maxRecDepth 100000 in
theorem mk_X1_78 : mw_mSN RX1 78 mm_X6_isTag 1 := ⟨mo_X6_isTag, rfl, ⟨"Schemabridge", List.mem_of_getElem? (i := 737) rfl⟩, List.mem_of_getElem? (i := 285) rfl⟩
set_option maxRecDepth 100000 in
theorem mk_X1_82 : mw_mV RX1 82 mm_X2_numberAt 1 := ⟨mo_X2_numberAt, rfl, List.mem_of_getElem? (i := 743) rfl, List.mem_of_getElem? (i := 575) rfl, List.mem_of_getElem? (i := 576) rfl⟩
set_option maxRecDepth 100000 in
theorem mk_X1_85 : mw_mV RX1 85 mm_X5_isDefault 2 := ⟨mo_X5_isDefault, rfl, List.mem_of_getElem? (i := 744) rfl, List.mem_of_getElem? (i := 745) rfl, List.mem_of_getElem? (i := 746) rfl⟩
set_option maxRecDepth 100000 in
theorem ob_X2_3 : Cond.methodLink RX2 3 objectInit ∈ lw_tbl ∧ Cond.instanceMethod objectInit ∈ lw_tbl ∧ Cond.code objectInit ⟨#[0xb1]⟩ 1 none ∈ lw_tbl := ⟨List.mem_of_getElem? (i := 97) rfl, List.mem_of_getElem? (i := 51) rfl, List.mem_of_getElem? (i := 52) rfl⟩
set_option maxRecDepth 100000 in
theorem mk_X2_26 : mw_mIN RX2 26 mm_X0_init 0 := ⟨mo_X0_init, rfl, rfl, rfl, ⟨"Schemabridge", List.mem_of_getElem? (i := 99) rfl⟩, List.mem_of_getElem? (i := 60) rfl⟩
set_option maxRecDepth 100000 in
theorem mk_X2_47 : mw_mV RX2 47 mm_X2_scanField 0 := ⟨mo_X2_scanField, rfl, List.mem_of_getElem? (i := 496) rfl, List.mem_of_getElem? (i := 498) rfl, List.mem_of_getElem? (i := 6) rfl⟩
set_option maxRecDepth 100000 in
theorem mk_X2_50 : mw_mV RX2 50 mm_X2_isPlace 1 := ⟨mo_X2_isPlace, rfl, List.mem_of_getElem? (i := 549) rfl, List.mem_of_getElem? (i := 551) rfl, List.mem_of_getElem? (i := 13) rfl⟩
set_option maxRecDepth 100000 in
theorem mk_X2_54 : mw_mV RX2 54 mm_X2_typeAt 1 := ⟨mo_X2_typeAt, rfl, List.mem_of_getElem? (i := 565) rfl, List.mem_of_getElem? (i := 566) rfl, List.mem_of_getElem? (i := 567) rfl⟩
set_option maxRecDepth 100000 in
theorem mk_X2_58 : mw_mV RX2 58 mm_X2_numberAt 1 := ⟨mo_X2_numberAt, rfl, List.mem_of_getElem? (i := 574) rfl, List.mem_of_getElem? (i := 575) rfl, List.mem_of_getElem? (i := 576) rfl⟩
set_option maxRecDepth 100000 in
theorem mk_X2_61 : mw_mV RX2 61 mm_X2_endAt 1 := ⟨mo_X2_endAt, rfl, List.mem_of_getElem? (i := 594) rfl, List.mem_of_getElem? (i := 595) rfl, List.mem_of_getElem? (i := 596) rfl⟩
set_option maxRecDepth 100000 in
theorem mk_X2_64 : mw_mV RX2 64 mm_X2_bytesAt 1 := ⟨mo_X2_bytesAt, rfl, List.mem_of_getElem? (i := 570) rfl, List.mem_of_getElem? (i := 571) rfl, List.mem_of_getElem? (i := 572) rfl⟩
set_option maxRecDepth 100000 in
theorem mk_X2_67 : mw_mV RX2 67 mm_X5_typeAt 1 := ⟨mo_X5_typeAt, rfl, List.mem_of_getElem? (i := 557) rfl, List.mem_of_getElem? (i := 558) rfl, List.mem_of_getElem? (i := 559) rfl⟩
set_option maxRecDepth 100000 in
theorem mk_X2_70 : mw_mV RX2 70 mm_X2_tagAt 1 := ⟨mo_X2_tagAt, rfl, List.mem_of_getElem? (i := 569) rfl, List.mem_of_getElem? (i := 546) rfl, List.mem_of_getElem? (i := 547) rfl⟩
set_option maxRecDepth 100000 in
theorem mk_X2_73 : mw_mV RX2 73 mm_X2_isKnown 2 := ⟨mo_X2_isKnown, rfl, List.mem_of_getElem? (i := 630) rfl, List.mem_of_getElem? (i := 554) rfl, List.mem_of_getElem? (i := 555) rfl⟩
set_option maxRecDepth 100000 in
theorem mk_X2_77 : mw_mV RX2 77 mm_X0_addBytesHead 2 := ⟨mo_X0_addBytesHead, rfl, List.mem_of_getElem? (i := 578) rfl, List.mem_of_getElem? (i := 579) rfl, List.mem_of_getElem? (i := 580) rfl⟩
set_option maxRecDepth 100000 in
theorem mk_X2_81 : mw_mV RX2 81 mm_X2_bytesBeginAt 1 := ⟨mo_X2_bytesBeginAt, rfl, List.mem_of_getElem? (i := 590) rfl, List.mem_of_getElem? (i := 591) rfl, List.mem_of_getElem? (i := 592) rfl⟩
set_option maxRecDepth 100000 in
theorem mk_X2_84 : mw_mV RX2 84 mm_X0_addRange 3 := ⟨mo_X0_addRange, rfl, List.mem_of_getElem? (i := 598) rfl, List.mem_of_getElem? (i := 469) rfl, List.mem_of_getElem? (i := 470) rfl⟩
set_option maxRecDepth 100000 in
theorem mk_X2_88 : mw_mV RX2 88 mm_X0_addNumberField 3 := ⟨mo_X0_addNumberField, rfl, List.mem_of_getElem? (i := 599) rfl, List.mem_of_getElem? (i := 600) rfl, List.mem_of_getElem? (i := 601) rfl⟩
set_option maxRecDepth 100000 in
theorem mk_X2_92 : mw_mV RX2 92 mm_X0_hasSameRange 4 := ⟨mo_X0_hasSameRange, rfl, List.mem_of_getElem? (i := 945) rfl, List.mem_of_getElem? (i := 946) rfl, List.mem_of_getElem? (i := 947) rfl⟩
set_option maxRecDepth 100000 in
theorem mk_X2_96 : mw_mV RX2 96 mm_X2_scanGroups 0 := ⟨mo_X2_scanGroups, rfl, List.mem_of_getElem? (i := 500) rfl, List.mem_of_getElem? (i := 502) rfl, List.mem_of_getElem? (i := 7) rfl⟩
set_option maxRecDepth 100000 in
theorem mk_X2_100 : mw_mS RX2 100 mm_X2_keyProblem 2 := ⟨mo_X2_keyProblem, rfl, List.mem_of_getElem? (i := 505) rfl, List.mem_of_getElem? (i := 506) rfl⟩
set_option maxRecDepth 100000 in
theorem mk_X2_104 : mw_mV RX2 104 mm_X2_scanFour 0 := ⟨mo_X2_scanFour, rfl, List.mem_of_getElem? (i := 509) rfl, List.mem_of_getElem? (i := 511) rfl, List.mem_of_getElem? (i := 8) rfl⟩
set_option maxRecDepth 100000 in
theorem mk_X2_107 : mw_mV RX2 107 mm_X2_skipBytes 1 := ⟨mo_X2_skipBytes, rfl, List.mem_of_getElem? (i := 513) rfl, List.mem_of_getElem? (i := 515) rfl, List.mem_of_getElem? (i := 9) rfl⟩
set_option maxRecDepth 100000 in
theorem mk_X2_111 : mw_mV RX2 111 mm_X2_keepField 3 := ⟨mo_X2_keepField, rfl, List.mem_of_getElem? (i := 517) rfl, List.mem_of_getElem? (i := 519) rfl, List.mem_of_getElem? (i := 10) rfl⟩
set_option maxRecDepth 100000 in
theorem mk_X2_114 : mw_mSN RX2 114 mm_X6_isTag 1 := ⟨mo_X6_isTag, rfl, ⟨"Schemabridge", List.mem_of_getElem? (i := 508) rfl⟩, List.mem_of_getElem? (i := 285) rfl⟩
set_option maxRecDepth 100000 in
theorem mk_X2_117 : mw_mV RX2 117 mm_X0_at 1 := ⟨mo_X0_at, rfl, List.mem_of_getElem? (i := 504) rfl, List.mem_of_getElem? (i := 473) rfl, List.mem_of_getElem? (i := 474) rfl⟩
set_option maxRecDepth 100000 in
theorem ob_X3_1 : Cond.methodLink RX3 1 objectInit ∈ lw_tbl ∧ Cond.instanceMethod objectInit ∈ lw_tbl ∧ Cond.code objectInit ⟨#[0xb1]⟩ 1 none ∈ lw_tbl := ⟨List.mem_of_getElem? (i := 413) rfl, List.mem_of_getElem? (i := 51) rfl, List.mem_of_getElem? (i := 52) rfl⟩
set_option maxRecDepth 100000 in
theorem mk_X3_9 : mw_mIN RX3 9 mm_X0_init 0 := ⟨mo_X0_init, rfl, rfl, rfl, ⟨"Schemabridge", List.mem_of_getElem? (i := 415) rfl⟩, List.mem_of_getElem? (i := 60) rfl⟩
set_option maxRecDepth 100000 in
theorem ob_X4_3 : Cond.methodLink RX4 3 objectInit ∈ lw_tbl ∧ Cond.instanceMethod objectInit ∈ lw_tbl ∧ Cond.code objectInit ⟨#[0xb1]⟩ 1 none ∈ lw_tbl := ⟨List.mem_of_getElem? (i := 76) rfl, List.mem_of_getElem? (i := 51) rfl, List.mem_of_getElem? (i := 52) rfl⟩
set_option maxRecDepth 100000 in
theorem mk_X4_24 : mw_mV RX4 24 mm_X4_forgetPairs 0 := ⟨mo_X4_forgetPairs, rfl, List.mem_of_getElem? (i := 904) rfl, List.mem_of_getElem? (i := 906) rfl, List.mem_of_getElem? (i := 23) rfl⟩
set_option maxRecDepth 100000 in
theorem mk_X4_27 : mw_mV RX4 27 mm_X4_notePair 2 := ⟨mo_X4_notePair, rfl, List.mem_of_getElem? (i := 908) rfl, List.mem_of_getElem? (i := 910) rfl, List.mem_of_getElem? (i := 24) rfl⟩
set_option maxRecDepth 100000 in
theorem mk_X4_31 : mw_mV RX4 31 mm_X5_differsAt 2 := ⟨mo_X5_differsAt, rfl, List.mem_of_getElem? (i := 912) rfl, List.mem_of_getElem? (i := 913) rfl, List.mem_of_getElem? (i := 914) rfl⟩
set_option maxRecDepth 100000 in
theorem mk_X4_35 : mw_mV RX4 35 mm_X4_leadsToDifference 3 := ⟨mo_X4_leadsToDifference, rfl, List.mem_of_getElem? (i := 916) rfl, List.mem_of_getElem? (i := 918) rfl, List.mem_of_getElem? (i := 25) rfl⟩
set_option maxRecDepth 100000 in
theorem mk_X4_43 : mw_mV RX4 43 mm_X4_notePartsAt 3 := ⟨mo_X4_notePartsAt, rfl, List.mem_of_getElem? (i := 920) rfl, List.mem_of_getElem? (i := 922) rfl, List.mem_of_getElem? (i := 26) rfl⟩
set_option maxRecDepth 100000 in
theorem mk_X4_47 : mw_mV RX4 47 mm_X4_differsSomewhere 2 := ⟨mo_X4_differsSomewhere, rfl, List.mem_of_getElem? (i := 925) rfl, List.mem_of_getElem? (i := 927) rfl, List.mem_of_getElem? (i := 27) rfl⟩
set_option maxRecDepth 100000 in
theorem mk_X4_51 : mw_mV RX4 51 mm_X5_partOf 1 := ⟨mo_X5_partOf, rfl, List.mem_of_getElem? (i := 924) rfl, List.mem_of_getElem? (i := 719) rfl, List.mem_of_getElem? (i := 720) rfl⟩
set_option maxRecDepth 100000 in
theorem ob_X5_3 : Cond.methodLink RX5 3 objectInit ∈ lw_tbl ∧ Cond.instanceMethod objectInit ∈ lw_tbl ∧ Cond.code objectInit ⟨#[0xb1]⟩ 1 none ∈ lw_tbl := ⟨List.mem_of_getElem? (i := 340) rfl, List.mem_of_getElem? (i := 51) rfl, List.mem_of_getElem? (i := 52) rfl⟩
set_option maxRecDepth 100000 in
theorem mk_X5_29 : mw_mS RX5 29 mm_J7_fill_53178 2 := ⟨mo_J7_fill_53178, rfl, List.mem_of_getElem? (i := 342) rfl, List.mem_of_getElem? (i := 343) rfl⟩
set_option maxRecDepth 100000 in
theorem mk_X5_35 : mw_mSN RX5 35 mm_X6_isTag 1 := ⟨mo_X6_isTag, rfl, ⟨"Schemabridge", List.mem_of_getElem? (i := 308) rfl⟩, List.mem_of_getElem? (i := 285) rfl⟩
set_option maxRecDepth 100000 in
theorem mk_X5_39 : mw_mS RX5 39 mm_X5_typeOfKind 1 := ⟨mo_X5_typeOfKind, rfl, List.mem_of_getElem? (i := 313) rfl, List.mem_of_getElem? (i := 314) rfl⟩
set_option maxRecDepth 100000 in
theorem mk_X5_43 : mw_mV RX5 43 mm_X5_kindAt 1 := ⟨mo_X5_kindAt, rfl, List.mem_of_getElem? (i := 386) rfl, List.mem_of_getElem? (i := 305) rfl, List.mem_of_getElem? (i := 306) rfl⟩
set_option maxRecDepth 100000 in
theorem mk_X5_46 : mw_mS RX5 46 mm_X5_isIntKind 1 := ⟨mo_X5_isIntKind, rfl, List.mem_of_getElem? (i := 387) rfl, List.mem_of_getElem? (i := 388) rfl⟩
set_option maxRecDepth 100000 in
theorem mk_X5_49 : mw_mV RX5 49 mm_X5_typeAt 1 := ⟨mo_X5_typeAt, rfl, List.mem_of_getElem? (i := 668) rfl, List.mem_of_getElem? (i := 558) rfl, List.mem_of_getElem? (i := 559) rfl⟩
set_option maxRecDepth 100000 in
theorem mk_X5_52 : mw_mV RX5 52 mm_X5_hasInt 1 := ⟨mo_X5_hasInt, rfl, List.mem_of_getElem? (i := 748) rfl, List.mem_of_getElem? (i := 383) rfl, List.mem_of_getElem? (i := 384) rfl⟩
set_option maxRecDepth 100000 in
theorem mk_X5_55 : mw_mV RX5 55 mm_X5_valueOf 2 := ⟨mo_X5_valueOf, rfl, List.mem_of_getElem? (i := 749) rfl, List.mem_of_getElem? (i := 633) rfl, List.mem_of_getElem? (i := 634) rfl⟩
set_option maxRecDepth 100000 in
theorem mk_X5_59 : mw_mV RX5 59 mm_X5_defaultAt 1 := ⟨mo_X5_defaultAt, rfl, List.mem_of_getElem? (i := 750) rfl, List.mem_of_getElem? (i := 392) rfl, List.mem_of_getElem? (i := 393) rfl⟩
set_option maxRecDepth 100000 in
theorem ob_X6_1 : Cond.methodLink RX6 1 objectInit ∈ lw_tbl ∧ Cond.instanceMethod objectInit ∈ lw_tbl ∧ Cond.code objectInit ⟨#[0xb1]⟩ 1 none ∈ lw_tbl := ⟨List.mem_of_getElem? (i := 50) rfl, List.mem_of_getElem? (i := 51) rfl, List.mem_of_getElem? (i := 52) rfl⟩
set_option maxRecDepth 100000 in
theorem mk_X6_23 : mw_mIN RX6 23 mm_X0_init 0 := ⟨mo_X0_init, rfl, rfl, rfl, ⟨"Schemabridge", List.mem_of_getElem? (i := 59) rfl⟩, List.mem_of_getElem? (i := 60) rfl⟩
set_option maxRecDepth 100000 in
theorem mk_X6_30 : mw_mIN RX6 30 mm_X4_init 0 := ⟨mo_X4_init, rfl, rfl, rfl, ⟨"Schemabridge", List.mem_of_getElem? (i := 73) rfl⟩, List.mem_of_getElem? (i := 74) rfl⟩
set_option maxRecDepth 100000 in
theorem mk_X6_37 : mw_mIN RX6 37 mm_X2_init 0 := ⟨mo_X2_init, rfl, rfl, rfl, ⟨"Schemabridge", List.mem_of_getElem? (i := 94) rfl⟩, List.mem_of_getElem? (i := 95) rfl⟩
set_option maxRecDepth 100000 in
theorem mk_X6_44 : mw_mIN RX6 44 mm_X1_init 0 := ⟨mo_X1_init, rfl, rfl, rfl, ⟨"Schemabridge", List.mem_of_getElem? (i := 134) rfl⟩, List.mem_of_getElem? (i := 135) rfl⟩
set_option maxRecDepth 100000 in
theorem mk_X6_72 : mw_mI RX6 72 mm_X5_init 1 := ⟨mo_X5_init, rfl, rfl, rfl, List.mem_of_getElem? (i := 337) rfl, List.mem_of_getElem? (i := 338) rfl⟩
set_option maxRecDepth 100000 in
theorem mk_X6_75 : mw_mV RX6 75 mm_X6_schemaAt 1 := ⟨mo_X6_schemaAt, rfl, List.mem_of_getElem? (i := 209) rfl, List.mem_of_getElem? (i := 211) rfl, List.mem_of_getElem? (i := 0) rfl⟩
set_option maxRecDepth 100000 in
theorem mk_X6_79 : mw_mS RX6 79 mm_X6_checkTag 1 := ⟨mo_X6_checkTag, rfl, List.mem_of_getElem? (i := 281) rfl, List.mem_of_getElem? (i := 282) rfl⟩
set_option maxRecDepth 100000 in
theorem mk_X6_87 : mw_mV RX6 87 mm_X5_kindAt 1 := ⟨mo_X5_kindAt, rfl, List.mem_of_getElem? (i := 304) rfl, List.mem_of_getElem? (i := 305) rfl, List.mem_of_getElem? (i := 306) rfl⟩
set_option maxRecDepth 100000 in
theorem mk_X6_91 : mw_mV RX6 91 mm_X5_giveKind 3 := ⟨mo_X5_giveKind, rfl, List.mem_of_getElem? (i := 309) rfl, List.mem_of_getElem? (i := 310) rfl, List.mem_of_getElem? (i := 311) rfl⟩
set_option maxRecDepth 100000 in
theorem mk_X6_95 : mw_mV RX6 95 mm_X5_hasInt 1 := ⟨mo_X5_hasInt, rfl, List.mem_of_getElem? (i := 382) rfl, List.mem_of_getElem? (i := 383) rfl, List.mem_of_getElem? (i := 384) rfl⟩
set_option maxRecDepth 100000 in
theorem mk_X6_101 : mw_mV RX6 101 mm_X5_defaultAt 1 := ⟨mo_X5_defaultAt, rfl, List.mem_of_getElem? (i := 391) rfl, List.mem_of_getElem? (i := 392) rfl, List.mem_of_getElem? (i := 393) rfl⟩
set_option maxRecDepth 100000 in
theorem mk_X6_104 : mw_mV RX6 104 mm_X5_giveDefault 2 := ⟨mo_X5_giveDefault, rfl, List.mem_of_getElem? (i := 395) rfl, List.mem_of_getElem? (i := 396) rfl, List.mem_of_getElem? (i := 397) rfl⟩
set_option maxRecDepth 100000 in
theorem mk_X6_108 : mw_mV RX6 108 mm_X4_leastReason 2 := ⟨mo_X4_leastReason, rfl, List.mem_of_getElem? (i := 900) rfl, List.mem_of_getElem? (i := 901) rfl, List.mem_of_getElem? (i := 902) rfl⟩
set_option maxRecDepth 100000 in
theorem mk_X6_112 : mw_mI RX6 112 mm_X3_init 1 := ⟨mo_X3_init, rfl, rfl, rfl, List.mem_of_getElem? (i := 410) rfl, List.mem_of_getElem? (i := 411) rfl⟩
set_option maxRecDepth 100000 in
theorem mk_X6_115 : mw_mV RX6 115 mm_X6_addMessage 1 := ⟨mo_X6_addMessage, rfl, List.mem_of_getElem? (i := 425) rfl, List.mem_of_getElem? (i := 427) rfl, List.mem_of_getElem? (i := 2) rfl⟩
set_option maxRecDepth 100000 in
theorem mk_X6_119 : mw_mV RX6 119 mm_X6_messageAt 1 := ⟨mo_X6_messageAt, rfl, List.mem_of_getElem? (i := 446) rfl, List.mem_of_getElem? (i := 448) rfl, List.mem_of_getElem? (i := 3) rfl⟩
set_option maxRecDepth 100000 in
theorem mk_X6_126 : mw_mV RX6 126 mm_X0_replaceBy 1 := ⟨mo_X0_replaceBy, rfl, List.mem_of_getElem? (i := 459) rfl, List.mem_of_getElem? (i := 460) rfl, List.mem_of_getElem? (i := 461) rfl⟩
set_option maxRecDepth 100000 in
theorem mk_X6_130 : mw_mV RX6 130 mm_X6_fieldsOf 1 := ⟨mo_X6_fieldsOf, rfl, List.mem_of_getElem? (i := 484) rfl, List.mem_of_getElem? (i := 486) rfl, List.mem_of_getElem? (i := 4) rfl⟩
set_option maxRecDepth 100000 in
theorem mk_X6_134 : mw_mV RX6 134 mm_X2_count 0 := ⟨mo_X2_count, rfl, List.mem_of_getElem? (i := 521) rfl, List.mem_of_getElem? (i := 522) rfl, List.mem_of_getElem? (i := 523) rfl⟩
set_option maxRecDepth 100000 in
theorem mk_X6_138 : mw_mV RX6 138 mm_X6_removeMessage 1 := ⟨mo_X6_removeMessage, rfl, List.mem_of_getElem? (i := 525) rfl, List.mem_of_getElem? (i := 527) rfl, List.mem_of_getElem? (i := 11) rfl⟩
set_option maxRecDepth 100000 in
theorem mk_X6_145 : mw_mS RX6 145 mm_X6_checkHasInt 2 := ⟨mo_X6_checkHasInt, rfl, List.mem_of_getElem? (i := 536) rfl, List.mem_of_getElem? (i := 537) rfl⟩
set_option maxRecDepth 100000 in
theorem mk_X6_149 : mw_mV RX6 149 mm_X6_draftWithoutKnown 3 := ⟨mo_X6_draftWithoutKnown, rfl, List.mem_of_getElem? (i := 540) rfl, List.mem_of_getElem? (i := 542) rfl, List.mem_of_getElem? (i := 12) rfl⟩
set_option maxRecDepth 100000 in
theorem mk_X6_153 : mw_mV RX6 153 mm_X5_typeAt 1 := ⟨mo_X5_typeAt, rfl, List.mem_of_getElem? (i := 607) rfl, List.mem_of_getElem? (i := 558) rfl, List.mem_of_getElem? (i := 559) rfl⟩
set_option maxRecDepth 100000 in
theorem mk_X6_156 : mw_mV RX6 156 mm_X5_numberOf 2 := ⟨mo_X5_numberOf, rfl, List.mem_of_getElem? (i := 608) rfl, List.mem_of_getElem? (i := 609) rfl, List.mem_of_getElem? (i := 610) rfl⟩
set_option maxRecDepth 100000 in
theorem mk_X6_160 : mw_mV RX6 160 mm_X0_addNumberField 3 := ⟨mo_X0_addNumberField, rfl, List.mem_of_getElem? (i := 612) rfl, List.mem_of_getElem? (i := 600) rfl, List.mem_of_getElem? (i := 601) rfl⟩
set_option maxRecDepth 100000 in
theorem mk_X6_164 : mw_mV RX6 164 mm_X6_takeDraft 1 := ⟨mo_X6_takeDraft, rfl, List.mem_of_getElem? (i := 613) rfl, List.mem_of_getElem? (i := 615) rfl, List.mem_of_getElem? (i := 17) rfl⟩
set_option maxRecDepth 100000 in
theorem mk_X6_168 : mw_mS RX6 168 mm_X6_checkHasBytes 2 := ⟨mo_X6_checkHasBytes, rfl, List.mem_of_getElem? (i := 661) rfl, List.mem_of_getElem? (i := 662) rfl⟩
set_option maxRecDepth 100000 in
theorem mk_X6_171 : mw_mV RX6 171 mm_X2_lastKnown 2 := ⟨mo_X2_lastKnown, rfl, List.mem_of_getElem? (i := 626) rfl, List.mem_of_getElem? (i := 627) rfl, List.mem_of_getElem? (i := 628) rfl⟩
set_option maxRecDepth 100000 in
theorem mk_X6_175 : mw_mV RX6 175 mm_X2_bytesAt 1 := ⟨mo_X2_bytesAt, rfl, List.mem_of_getElem? (i := 670) rfl, List.mem_of_getElem? (i := 571) rfl, List.mem_of_getElem? (i := 572) rfl⟩
set_option maxRecDepth 100000 in
theorem mk_X6_178 : mw_mV RX6 178 mm_X0_addBytesHead 2 := ⟨mo_X0_addBytesHead, rfl, List.mem_of_getElem? (i := 671) rfl, List.mem_of_getElem? (i := 579) rfl, List.mem_of_getElem? (i := 580) rfl⟩
set_option maxRecDepth 100000 in
theorem mk_X6_181 : mw_mV RX6 181 mm_X2_bytesBeginAt 1 := ⟨mo_X2_bytesBeginAt, rfl, List.mem_of_getElem? (i := 672) rfl, List.mem_of_getElem? (i := 591) rfl, List.mem_of_getElem? (i := 592) rfl⟩
set_option maxRecDepth 100000 in
theorem mk_X6_184 : mw_mV RX6 184 mm_X2_endAt 1 := ⟨mo_X2_endAt, rfl, List.mem_of_getElem? (i := 673) rfl, List.mem_of_getElem? (i := 595) rfl, List.mem_of_getElem? (i := 596) rfl⟩
set_option maxRecDepth 100000 in
theorem mk_X6_187 : mw_mV RX6 187 mm_X0_addRange 3 := ⟨mo_X0_addRange, rfl, List.mem_of_getElem? (i := 674) rfl, List.mem_of_getElem? (i := 469) rfl, List.mem_of_getElem? (i := 470) rfl⟩
set_option maxRecDepth 100000 in
theorem mk_X6_191 : mw_mV RX6 191 mm_X0_add 1 := ⟨mo_X0_add, rfl, List.mem_of_getElem? (i := 675) rfl, List.mem_of_getElem? (i := 477) rfl, List.mem_of_getElem? (i := 478) rfl⟩
set_option maxRecDepth 100000 in
theorem mk_X6_195 : mw_mS RX6 195 mm_X6_partAt 2 := ⟨mo_X6_partAt, rfl, List.mem_of_getElem? (i := 715) rfl, List.mem_of_getElem? (i := 716) rfl⟩
set_option maxRecDepth 100000 in
theorem mk_X6_201 : mw_mV RX6 201 mm_X1_choose 2 := ⟨mo_X1_choose, rfl, List.mem_of_getElem? (i := 724) rfl, List.mem_of_getElem? (i := 725) rfl, List.mem_of_getElem? (i := 726) rfl⟩
set_option maxRecDepth 100000 in
theorem mk_X6_205 : mw_mV RX6 205 mm_X1_writeTo 1 := ⟨mo_X1_writeTo, rfl, List.mem_of_getElem? (i := 755) rfl, List.mem_of_getElem? (i := 756) rfl, List.mem_of_getElem? (i := 757) rfl⟩
set_option maxRecDepth 100000 in
theorem mk_X6_208 : mw_mV RX6 208 mm_X0_count 0 := ⟨mo_X0_count, rfl, List.mem_of_getElem? (i := 451) rfl, List.mem_of_getElem? (i := 452) rfl, List.mem_of_getElem? (i := 453) rfl⟩
set_option maxRecDepth 100000 in
theorem mk_X6_209 : mw_mV RX6 209 mm_X0_keepFirst 1 := ⟨mo_X0_keepFirst, rfl, List.mem_of_getElem? (i := 544) rfl, List.mem_of_getElem? (i := 464) rfl, List.mem_of_getElem? (i := 465) rfl⟩
set_option maxRecDepth 100000 in
theorem mk_X6_212 : mw_mV RX6 212 mm_X2_tagAt 1 := ⟨mo_X2_tagAt, rfl, List.mem_of_getElem? (i := 545) rfl, List.mem_of_getElem? (i := 546) rfl, List.mem_of_getElem? (i := 547) rfl⟩
set_option maxRecDepth 100000 in
theorem mk_X6_215 : mw_mV RX6 215 mm_X2_writeTo 2 := ⟨mo_X2_writeTo, rfl, List.mem_of_getElem? (i := 561) rfl, List.mem_of_getElem? (i := 562) rfl, List.mem_of_getElem? (i := 563) rfl⟩
set_option maxRecDepth 100000 in
theorem mk_X6_221 : mw_mV RX6 221 mm_X2_numberAt 1 := ⟨mo_X2_numberAt, rfl, List.mem_of_getElem? (i := 631) rfl, List.mem_of_getElem? (i := 575) rfl, List.mem_of_getElem? (i := 576) rfl⟩
set_option maxRecDepth 100000 in
theorem mk_X6_224 : mw_mV RX6 224 mm_X5_valueOf 2 := ⟨mo_X5_valueOf, rfl, List.mem_of_getElem? (i := 632) rfl, List.mem_of_getElem? (i := 633) rfl, List.mem_of_getElem? (i := 634) rfl⟩
set_option maxRecDepth 100000 in
theorem mk_X6_227 : mw_mS RX6 227 mm_X6_lastKnownOrThrow 3 := ⟨mo_X6_lastKnownOrThrow, rfl, List.mem_of_getElem? (i := 684) rfl, List.mem_of_getElem? (i := 685) rfl⟩
set_option maxRecDepth 100000 in
theorem mk_X6_236 : mw_mV RX6 236 mm_X0_at 1 := ⟨mo_X0_at, rfl, List.mem_of_getElem? (i := 704) rfl, List.mem_of_getElem? (i := 473) rfl, List.mem_of_getElem? (i := 474) rfl⟩
set_option maxRecDepth 100000 in
theorem mk_X6_240 : mw_mV RX6 240 mm_X6_fieldsIn 3 := ⟨mo_X6_fieldsIn, rfl, List.mem_of_getElem? (i := 488) rfl, List.mem_of_getElem? (i := 490) rfl, List.mem_of_getElem? (i := 5) rfl⟩
set_option maxRecDepth 100000 in
theorem mk_X6_244 : mw_mV RX6 244 mm_X2_problem 0 := ⟨mo_X2_problem, rfl, List.mem_of_getElem? (i := 829) rfl, List.mem_of_getElem? (i := 830) rfl, List.mem_of_getElem? (i := 831) rfl⟩
set_option maxRecDepth 100000 in
theorem mk_X6_249 : mw_mS RX6 249 mm_X6_messageOf 2 := ⟨mo_X6_messageOf, rfl, List.mem_of_getElem? (i := 834) rfl, List.mem_of_getElem? (i := 835) rfl⟩
set_option maxRecDepth 100000 in
theorem mk_X6_253 : mw_mV RX6 253 mm_X2_isKnown 2 := ⟨mo_X2_isKnown, rfl, List.mem_of_getElem? (i := 553) rfl, List.mem_of_getElem? (i := 554) rfl, List.mem_of_getElem? (i := 555) rfl⟩
set_option maxRecDepth 100000 in
theorem mk_X6_262 : mw_mV RX6 262 mm_X6_chooseBoth 2 := ⟨mo_X6_chooseBoth, rfl, List.mem_of_getElem? (i := 933) rfl, List.mem_of_getElem? (i := 935) rfl, List.mem_of_getElem? (i := 28) rfl⟩
set_option maxRecDepth 100000 in
theorem mk_X6_266 : mw_mV RX6 266 mm_X1_hasSameFields 1 := ⟨mo_X1_hasSameFields, rfl, List.mem_of_getElem? (i := 937) rfl, List.mem_of_getElem? (i := 938) rfl, List.mem_of_getElem? (i := 939) rfl⟩
set_option maxRecDepth 100000 in
theorem mk_X6_270 : mw_mV RX6 270 mm_X0_isSameAs 1 := ⟨mo_X0_isSameAs, rfl, List.mem_of_getElem? (i := 953) rfl, List.mem_of_getElem? (i := 954) rfl, List.mem_of_getElem? (i := 955) rfl⟩
set_option maxRecDepth 100000 in
theorem mk_X6_278 : mw_mV RX6 278 mm_X6_fieldsOfTape 0 := ⟨mo_X6_fieldsOfTape, rfl, List.mem_of_getElem? (i := 825) rfl, List.mem_of_getElem? (i := 827) rfl, List.mem_of_getElem? (i := 22) rfl⟩
set_option maxRecDepth 100000 in
theorem mk_X6_282 : mw_mV RX6 282 mm_X2_problemAt 0 := ⟨mo_X2_problemAt, rfl, List.mem_of_getElem? (i := 888) rfl, List.mem_of_getElem? (i := 889) rfl, List.mem_of_getElem? (i := 890) rfl⟩
set_option maxRecDepth 100000 in
theorem mk_X6_291 : mw_mS RX6 291 mm_X6_isTag 1 := ⟨mo_X6_isTag, rfl, List.mem_of_getElem? (i := 284) rfl, List.mem_of_getElem? (i := 285) rfl⟩
set_option maxRecDepth 100000 in
theorem mk_X6_298 : mw_mV RX6 298 mm_X5_hasBytes 1 := ⟨mo_X5_hasBytes, rfl, List.mem_of_getElem? (i := 664) rfl, List.mem_of_getElem? (i := 665) rfl, List.mem_of_getElem? (i := 666) rfl⟩
set_option maxRecDepth 100000 in
theorem mk_X6_303 : mw_mV RX6 303 mm_X5_partOf 1 := ⟨mo_X5_partOf, rfl, List.mem_of_getElem? (i := 718) rfl, List.mem_of_getElem? (i := 719) rfl, List.mem_of_getElem? (i := 720) rfl⟩
set_option maxRecDepth 100000 in
theorem mk_X6_310 : mw_mV RX6 310 mm_X2_scan 3 := ⟨mo_X2_scan, rfl, List.mem_of_getElem? (i := 492) rfl, List.mem_of_getElem? (i := 493) rfl, List.mem_of_getElem? (i := 494) rfl⟩
set_option maxRecDepth 100000 in
theorem nw_L_9 : Cond.classLink RL 9 RX6 ∈ lw_tbl ∧ Cond.instantiable RX6 11 ∈ lw_tbl ∧ Cond.initialized RX6 ∈ lw_tbl := ⟨List.mem_of_getElem? (i := 45) rfl, List.mem_of_getElem? (i := 46) rfl, List.mem_of_getElem? (i := 30) rfl⟩
set_option maxRecDepth 100000 in
theorem nw_X1_9 : Cond.classLink RX1 9 RX2 ∈ lw_tbl ∧ Cond.instantiable RX2 10 ∈ lw_tbl ∧ Cond.initialized RX2 ∈ lw_tbl := ⟨List.mem_of_getElem? (i := 138) rfl, List.mem_of_getElem? (i := 93) rfl, List.mem_of_getElem? (i := 33) rfl⟩
set_option maxRecDepth 100000 in
theorem nw_X2_24 : Cond.classLink RX2 24 RX0 ∈ lw_tbl ∧ Cond.instantiable RX0 2 ∈ lw_tbl ∧ Cond.initialized RX0 ∈ lw_tbl := ⟨List.mem_of_getElem? (i := 98) rfl, List.mem_of_getElem? (i := 58) rfl, List.mem_of_getElem? (i := 31) rfl⟩
set_option maxRecDepth 100000 in
theorem nw_X3_7 : Cond.classLink RX3 7 RX0 ∈ lw_tbl ∧ Cond.instantiable RX0 2 ∈ lw_tbl ∧ Cond.initialized RX0 ∈ lw_tbl := ⟨List.mem_of_getElem? (i := 414) rfl, List.mem_of_getElem? (i := 58) rfl, List.mem_of_getElem? (i := 31) rfl⟩
set_option maxRecDepth 100000 in
theorem nq_X4_9 : Cond.classLink RX4 9 RX5 ∈ lw_tbl ∧ Cond.arrayOver (.object RX5) ∈ lw_tbl := ⟨List.mem_of_getElem? (i := 77) rfl, List.mem_of_getElem? (i := 54) rfl⟩
set_option maxRecDepth 100000 in
theorem nq_X5_10 : Cond.classLink RX5 10 RX5 ∈ lw_tbl ∧ Cond.arrayOver (.object RX5) ∈ lw_tbl := ⟨List.mem_of_getElem? (i := 341) rfl, List.mem_of_getElem? (i := 54) rfl⟩
set_option maxRecDepth 100000 in
theorem nw_X6_9 : Cond.classLink RX6 9 RX5 ∈ lw_tbl ∧ Cond.instantiable RX5 5 ∈ lw_tbl ∧ Cond.initialized RX5 ∈ lw_tbl := ⟨List.mem_of_getElem? (i := 53) rfl, List.mem_of_getElem? (i := 336) rfl, List.mem_of_getElem? (i := 40) rfl⟩
set_option maxRecDepth 100000 in
theorem nq_X6_9 : Cond.classLink RX6 9 RX5 ∈ lw_tbl ∧ Cond.arrayOver (.object RX5) ∈ lw_tbl := ⟨List.mem_of_getElem? (i := 53) rfl, List.mem_of_getElem? (i := 54) rfl⟩
set_option maxRecDepth 100000 in
theorem nw_X6_15 : Cond.classLink RX6 15 RX3 ∈ lw_tbl ∧ Cond.instantiable RX3 2 ∈ lw_tbl ∧ Cond.initialized RX3 ∈ lw_tbl := ⟨List.mem_of_getElem? (i := 55) rfl, List.mem_of_getElem? (i := 409) rfl, List.mem_of_getElem? (i := 43) rfl⟩
set_option maxRecDepth 100000 in
theorem nq_X6_15 : Cond.classLink RX6 15 RX3 ∈ lw_tbl ∧ Cond.arrayOver (.object RX3) ∈ lw_tbl := ⟨List.mem_of_getElem? (i := 55) rfl, List.mem_of_getElem? (i := 56) rfl⟩
set_option maxRecDepth 100000 in
theorem nw_X6_21 : Cond.classLink RX6 21 RX0 ∈ lw_tbl ∧ Cond.instantiable RX0 2 ∈ lw_tbl ∧ Cond.initialized RX0 ∈ lw_tbl := ⟨List.mem_of_getElem? (i := 57) rfl, List.mem_of_getElem? (i := 58) rfl, List.mem_of_getElem? (i := 31) rfl⟩
set_option maxRecDepth 100000 in
theorem nw_X6_28 : Cond.classLink RX6 28 RX4 ∈ lw_tbl ∧ Cond.instantiable RX4 4 ∈ lw_tbl ∧ Cond.initialized RX4 ∈ lw_tbl := ⟨List.mem_of_getElem? (i := 71) rfl, List.mem_of_getElem? (i := 72) rfl, List.mem_of_getElem? (i := 32) rfl⟩
set_option maxRecDepth 100000 in
theorem nw_X6_35 : Cond.classLink RX6 35 RX2 ∈ lw_tbl ∧ Cond.instantiable RX2 10 ∈ lw_tbl ∧ Cond.initialized RX2 ∈ lw_tbl := ⟨List.mem_of_getElem? (i := 92) rfl, List.mem_of_getElem? (i := 93) rfl, List.mem_of_getElem? (i := 33) rfl⟩
set_option maxRecDepth 100000 in
theorem nw_X6_42 : Cond.classLink RX6 42 RX1 ∈ lw_tbl ∧ Cond.instantiable RX1 4 ∈ lw_tbl ∧ Cond.initialized RX1 ∈ lw_tbl := ⟨List.mem_of_getElem? (i := 132) rfl, List.mem_of_getElem? (i := 133) rfl, List.mem_of_getElem? (i := 34) rfl⟩
set_option maxRecDepth 100000 in
theorem ac_int : Cond.arrayClass .int ∈ lw_tbl := List.mem_of_getElem? (i := 131) rfl
set_option maxRecDepth 100000 in
theorem ac_byte : Cond.arrayClass .byte ∈ lw_tbl := List.mem_of_getElem? (i := 70) rfl
set_option maxRecDepth 100000 in
theorem ac_boolean : Cond.arrayClass .boolean ∈ lw_tbl := List.mem_of_getElem? (i := 91) rfl
set_option maxRecDepth 100000 in
theorem ac_long : Cond.arrayClass .long ∈ lw_tbl := List.mem_of_getElem? (i := 962) rfl
set_option maxRecDepth 100000 in
theorem ty_S : ∀ G : mw_G, (mw_tys G)[4]? = some (G.2.2.2.2 4, .object RX5) := fun _ => rfl
set_option maxRecDepth 100000 in
theorem ty_M : ∀ G : mw_G, (mw_tys G)[5]? = some (G.2.2.2.2 5, .object RX3) := fun _ => rfl
set_option maxRecDepth 100000 in
theorem th_X6_65_67_69 : mw_TH RX6 65 67 69 8 "java/lang/IllegalStateException" "there are 6 schemas" := ⟨by decide +kernel, List.mem_of_getElem? (i := 320) rfl, List.mem_of_getElem? (i := 41) rfl, by decide +kernel, by decide +kernel, rfl⟩
set_option maxRecDepth 100000 in
theorem th_X6_82_84_86 : mw_TH RX6 82 84 86 9 "java/lang/IllegalArgumentException" "there is no such kind" := ⟨by decide +kernel, List.mem_of_getElem? (i := 287) rfl, List.mem_of_getElem? (i := 39) rfl, by decide +kernel, by decide +kernel, rfl⟩
set_option maxRecDepth 100000 in
theorem th_X6_65_99_69 : mw_TH RX6 65 99 69 8 "java/lang/IllegalStateException" "the kind of the tag has no default" := ⟨by decide +kernel, List.mem_of_getElem? (i := 320) rfl, List.mem_of_getElem? (i := 41) rfl, by decide +kernel, by decide +kernel, rfl⟩
set_option maxRecDepth 100000 in
theorem th_X6_82_199_86 : mw_TH RX6 82 199 86 9 "java/lang/IllegalArgumentException" "the other message has not the schema of the part" := ⟨by decide +kernel, List.mem_of_getElem? (i := 287) rfl, List.mem_of_getElem? (i := 39) rfl, by decide +kernel, by decide +kernel, rfl⟩
set_option maxRecDepth 100000 in
theorem th_X6_65_247_69 : mw_TH RX6 65 247 69 8 "java/lang/IllegalStateException" "the bytes of the part have a fault" := ⟨by decide +kernel, List.mem_of_getElem? (i := 320) rfl, List.mem_of_getElem? (i := 41) rfl, by decide +kernel, by decide +kernel, rfl⟩
set_option maxRecDepth 100000 in
theorem th_X6_257_259_261 : mw_TH RX6 257 259 261 10 "java/lang/IndexOutOfBoundsException" "there is no such unknown field" := ⟨by decide +kernel, List.mem_of_getElem? (i := 213) rfl, List.mem_of_getElem? (i := 38) rfl, by decide +kernel, by decide +kernel, rfl⟩
set_option maxRecDepth 100000 in
theorem th_X6_65_274_69 : mw_TH RX6 65 274 69 8 "java/lang/IllegalStateException" "the tape has 120 bytes" := ⟨by decide +kernel, List.mem_of_getElem? (i := 320) rfl, List.mem_of_getElem? (i := 41) rfl, by decide +kernel, by decide +kernel, rfl⟩
set_option maxRecDepth 100000 in
theorem th_X6_257_276_261 : mw_TH RX6 257 276 261 10 "java/lang/IndexOutOfBoundsException" "the tape has no such length" := ⟨by decide +kernel, List.mem_of_getElem? (i := 213) rfl, List.mem_of_getElem? (i := 38) rfl, by decide +kernel, by decide +kernel, rfl⟩
set_option maxRecDepth 100000 in
theorem th_X6_257_233_261 : mw_TH RX6 257 233 261 10 "java/lang/IndexOutOfBoundsException" "there is no such byte" := ⟨by decide +kernel, List.mem_of_getElem? (i := 213) rfl, List.mem_of_getElem? (i := 38) rfl, by decide +kernel, by decide +kernel, rfl⟩
set_option maxRecDepth 100000 in
theorem th_X6_82_285_86 : mw_TH RX6 82 285 86 9 "java/lang/IllegalArgumentException" "the tape has a fault" := ⟨by decide +kernel, List.mem_of_getElem? (i := 287) rfl, List.mem_of_getElem? (i := 39) rfl, by decide +kernel, by decide +kernel, rfl⟩
set_option maxRecDepth 100000 in
theorem th_X6_257_287_261 : mw_TH RX6 257 287 261 10 "java/lang/IndexOutOfBoundsException" "there is no such schema" := ⟨by decide +kernel, List.mem_of_getElem? (i := 213) rfl, List.mem_of_getElem? (i := 38) rfl, by decide +kernel, by decide +kernel, rfl⟩
set_option maxRecDepth 100000 in
theorem th_X6_257_289_261 : mw_TH RX6 257 289 261 10 "java/lang/IndexOutOfBoundsException" "there is no such message" := ⟨by decide +kernel, List.mem_of_getElem? (i := 213) rfl, List.mem_of_getElem? (i := 38) rfl, by decide +kernel, by decide +kernel, rfl⟩
set_option maxRecDepth 100000 in
theorem th_X6_82_294_86 : mw_TH RX6 82 294 86 9 "java/lang/IllegalArgumentException" "tag is not 1 to 31" := ⟨by decide +kernel, List.mem_of_getElem? (i := 287) rfl, List.mem_of_getElem? (i := 39) rfl, by decide +kernel, by decide +kernel, rfl⟩
set_option maxRecDepth 100000 in
theorem th_X6_82_296_86 : mw_TH RX6 82 296 86 9 "java/lang/IllegalArgumentException" "the tag has not PLAIN, SIGNED or FOUR" := ⟨by decide +kernel, List.mem_of_getElem? (i := 287) rfl, List.mem_of_getElem? (i := 39) rfl, by decide +kernel, by decide +kernel, rfl⟩
set_option maxRecDepth 100000 in
theorem th_X6_82_301_86 : mw_TH RX6 82 301 86 9 "java/lang/IllegalArgumentException" "the tag has not TEXT or PART" := ⟨by decide +kernel, List.mem_of_getElem? (i := 287) rfl, List.mem_of_getElem? (i := 39) rfl, by decide +kernel, by decide +kernel, rfl⟩
set_option maxRecDepth 100000 in
theorem th_X6_82_306_86 : mw_TH RX6 82 306 86 9 "java/lang/IllegalArgumentException" "the tag has not PART" := ⟨by decide +kernel, List.mem_of_getElem? (i := 287) rfl, List.mem_of_getElem? (i := 39) rfl, by decide +kernel, by decide +kernel, rfl⟩
set_option maxRecDepth 100000 in
theorem th_X6_65_313_69 : mw_TH RX6 65 313 69 8 "java/lang/IllegalStateException" "there are 12 messages" := ⟨by decide +kernel, List.mem_of_getElem? (i := 320) rfl, List.mem_of_getElem? (i := 41) rfl, by decide +kernel, by decide +kernel, rfl⟩
set_option maxRecDepth 100000 in
theorem th_X6_65_315_69 : mw_TH RX6 65 315 69 8 "java/lang/IllegalStateException" "the weight would be above 120" := ⟨by decide +kernel, List.mem_of_getElem? (i := 320) rfl, List.mem_of_getElem? (i := 41) rfl, by decide +kernel, by decide +kernel, rfl⟩
set_option maxRecDepth 100000 in
theorem cl_L_14 : Cond.classLink RL 14 "java/lang/IndexOutOfBoundsException" ∈ lw_tbl := List.mem_of_getElem? (i := 203) rfl
set_option maxRecDepth 100000 in
theorem cl_L_16 : Cond.classLink RL 16 "java/lang/IllegalArgumentException" ∈ lw_tbl := List.mem_of_getElem? (i := 204) rfl
set_option maxRecDepth 100000 in
theorem cl_L_22 : Cond.classLink RL 22 "java/lang/IllegalStateException" ∈ lw_tbl := List.mem_of_getElem? (i := 377) rfl
set_option maxRecDepth 100000 in
theorem cl_L_43 : Cond.classLink RL 43 "java/util/NoSuchElementException" ∈ lw_tbl := List.mem_of_getElem? (i := 679) rfl
set_option maxRecDepth 100000 in
theorem kn_L_7 : Cond.constant RL 7 (1596693857 : Int32) ∈ lw_tbl := List.mem_of_getElem? (i := 190) rfl
set_option maxRecDepth 100000 in
theorem kn_L_162 : Cond.constant RL 162 (49152 : Int32) ∈ lw_tbl := List.mem_of_getElem? (i := 618) rfl
set_option maxRecDepth 100000 in
theorem kn_L_76 : Cond.constantLong RL 76 (255 : Int64) ∈ lw_tbl := List.mem_of_getElem? (i := 786) rfl
set_option maxRecDepth 100000 in
theorem kn_L_203 : Cond.constant RL 203 (32768 : Int32) ∈ lw_tbl := List.mem_of_getElem? (i := 811) rfl
set_option maxRecDepth 100000 in
theorem kn_L_204 : Cond.constant RL 204 (65536 : Int32) ∈ lw_tbl := List.mem_of_getElem? (i := 812) rfl
set_option maxRecDepth 100000 in
theorem kn_L_221 : Cond.constantLong RL 221 (-1 : Int64) ∈ lw_tbl := List.mem_of_getElem? (i := 895) rfl
set_option maxRecDepth 100000 in
theorem ca_8 : Cond.castable "java/lang/IllegalStateException" "java/lang/IllegalStateException" ∈ lw_tbl := List.mem_of_getElem? (i := 322) rfl
set_option maxRecDepth 100000 in
theorem ca_9 : Cond.castable "java/lang/IllegalArgumentException" "java/lang/IllegalArgumentException" ∈ lw_tbl := List.mem_of_getElem? (i := 289) rfl
set_option maxRecDepth 100000 in
theorem ca_10 : Cond.castable "java/lang/IndexOutOfBoundsException" "java/lang/IndexOutOfBoundsException" ∈ lw_tbl := List.mem_of_getElem? (i := 215) rfl
set_option maxRecDepth 100000 in
theorem ca_11 : Cond.castable "java/util/NoSuchElementException" "java/util/NoSuchElementException" ∈ lw_tbl := List.mem_of_getElem? (i := 689) rfl
end
