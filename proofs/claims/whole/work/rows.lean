section
-- ===== PART A: goes FIRST, ahead of the names: the tables' words, and 'selects' of the private methods out of them =====
/-- a private method of a class that the tables say can be made, by its rows of tables_1 -/
def lw_okq (q : MethodName × Nat) : Prop := (q.1.cls ≠ "java/lang/invoke/MethodHandle" ∧ q.1.cls ≠ "java/lang/invoke/VarHandle") ∧ Cond.instantiable q.1.cls q.2 ∈ tables_1 ∧ Cond.privateMethod q.1 ∈ tables_1 ∧ Cond.instanceMethod q.1 ∈ tables_1
theorem lw_p0 : lw_okq (⟨"java/lang/Throwable", "fillInStackTrace", "(I)Ljava/lang/Throwable;"⟩, 6) := ⟨⟨by decide +kernel, by decide +kernel⟩, List.mem_of_getElem? (i := 220) (by decide +kernel), List.mem_of_getElem? (i := 218) (by decide +kernel), List.mem_of_getElem? (i := 219) (by decide +kernel)⟩
theorem lw_p1 : lw_okq (⟨"Shortmessage$Text", "cut", "()V"⟩, 6) := ⟨⟨by decide +kernel, by decide +kernel⟩, List.mem_of_getElem? (i := 27) (by decide +kernel), List.mem_of_getElem? (i := 273) (by decide +kernel), List.mem_of_getElem? (i := 274) (by decide +kernel)⟩
theorem lw_p2 : lw_okq (⟨"Shortmessage$Text", "roomOfAPart", "()I"⟩, 6) := ⟨⟨by decide +kernel, by decide +kernel⟩, List.mem_of_getElem? (i := 27) (by decide +kernel), List.mem_of_getElem? (i := 277) (by decide +kernel), List.mem_of_getElem? (i := 278) (by decide +kernel)⟩
theorem lw_p3 : lw_okq (⟨"Shortmessage$Text", "signAt", "(I)I"⟩, 6) := ⟨⟨by decide +kernel, by decide +kernel⟩, List.mem_of_getElem? (i := 27) (by decide +kernel), List.mem_of_getElem? (i := 281) (by decide +kernel), List.mem_of_getElem? (i := 282) (by decide +kernel)⟩
theorem lw_p4 : lw_okq (⟨"Shortmessage", "requirePart", "(I)V"⟩, 8) := ⟨⟨by decide +kernel, by decide +kernel⟩, List.mem_of_getElem? (i := 19) (by decide +kernel), List.mem_of_getElem? (i := 301) (by decide +kernel), List.mem_of_getElem? (i := 302) (by decide +kernel)⟩
theorem lw_p5 : lw_okq (⟨"Shortmessage$Text", "septetsIn", "(I)I"⟩, 6) := ⟨⟨by decide +kernel, by decide +kernel⟩, List.mem_of_getElem? (i := 27) (by decide +kernel), List.mem_of_getElem? (i := 337) (by decide +kernel), List.mem_of_getElem? (i := 338) (by decide +kernel)⟩
theorem lw_p6 : lw_okq (⟨"Shortmessage$Text", "septetAt", "(II)I"⟩, 6) := ⟨⟨by decide +kernel, by decide +kernel⟩, List.mem_of_getElem? (i := 27) (by decide +kernel), List.mem_of_getElem? (i := 353) (by decide +kernel), List.mem_of_getElem? (i := 354) (by decide +kernel)⟩
theorem lw_p7 : lw_okq (⟨"Shortmessage", "requireReceiver", "(I)V"⟩, 8) := ⟨⟨by decide +kernel, by decide +kernel⟩, List.mem_of_getElem? (i := 19) (by decide +kernel), List.mem_of_getElem? (i := 367) (by decide +kernel), List.mem_of_getElem? (i := 368) (by decide +kernel)⟩
theorem lw_p8 : lw_okq (⟨"Shortmessage", "linkOf", "(I)LShortmessage$Link;"⟩, 8) := ⟨⟨by decide +kernel, by decide +kernel⟩, List.mem_of_getElem? (i := 19) (by decide +kernel), List.mem_of_getElem? (i := 375) (by decide +kernel), List.mem_of_getElem? (i := 376) (by decide +kernel)⟩
theorem lw_p9 : lw_okq (⟨"Shortmessage", "linkAt", "(I)LShortmessage$Link;"⟩, 8) := ⟨⟨by decide +kernel, by decide +kernel⟩, List.mem_of_getElem? (i := 19) (by decide +kernel), List.mem_of_getElem? (i := 379) (by decide +kernel), List.mem_of_getElem? (i := 380) (by decide +kernel)⟩
theorem lw_p10 : lw_okq (⟨"Shortmessage", "messageAt", "(I)LShortmessage$Message;"⟩, 8) := ⟨⟨by decide +kernel, by decide +kernel⟩, List.mem_of_getElem? (i := 19) (by decide +kernel), List.mem_of_getElem? (i := 495) (by decide +kernel), List.mem_of_getElem? (i := 496) (by decide +kernel)⟩
theorem lw_p11 : lw_okq (⟨"Shortmessage", "expireMessages", "()V"⟩, 8) := ⟨⟨by decide +kernel, by decide +kernel⟩, List.mem_of_getElem? (i := 19) (by decide +kernel), List.mem_of_getElem? (i := 538) (by decide +kernel), List.mem_of_getElem? (i := 539) (by decide +kernel)⟩
theorem lw_p12 : lw_okq (⟨"Shortmessage", "finish", "(LShortmessage$Message;I)V"⟩, 8) := ⟨⟨by decide +kernel, by decide +kernel⟩, List.mem_of_getElem? (i := 19) (by decide +kernel), List.mem_of_getElem? (i := 542) (by decide +kernel), List.mem_of_getElem? (i := 543) (by decide +kernel)⟩
theorem lw_p13 : lw_okq (⟨"Shortmessage", "sendParts", "()I"⟩, 8) := ⟨⟨by decide +kernel, by decide +kernel⟩, List.mem_of_getElem? (i := 19) (by decide +kernel), List.mem_of_getElem? (i := 558) (by decide +kernel), List.mem_of_getElem? (i := 559) (by decide +kernel)⟩
theorem lw_p14 : lw_okq (⟨"Shortmessage$Link", "sendNext", "(I)Z"⟩, 5) := ⟨⟨by decide +kernel, by decide +kernel⟩, List.mem_of_getElem? (i := 80) (by decide +kernel), List.mem_of_getElem? (i := 570) (by decide +kernel), List.mem_of_getElem? (i := 571) (by decide +kernel)⟩
theorem lw_p15 : lw_okq (⟨"Shortmessage", "settle", "(LShortmessage$Part;I)V"⟩, 8) := ⟨⟨by decide +kernel, by decide +kernel⟩, List.mem_of_getElem? (i := 19) (by decide +kernel), List.mem_of_getElem? (i := 635) (by decide +kernel), List.mem_of_getElem? (i := 636) (by decide +kernel)⟩
def lw_privs_1 : List (MethodName × Nat) := [(⟨"java/lang/Throwable", "fillInStackTrace", "(I)Ljava/lang/Throwable;"⟩, 6), (⟨"Shortmessage$Text", "cut", "()V"⟩, 6), (⟨"Shortmessage$Text", "roomOfAPart", "()I"⟩, 6), (⟨"Shortmessage$Text", "signAt", "(I)I"⟩, 6), (⟨"Shortmessage", "requirePart", "(I)V"⟩, 8), (⟨"Shortmessage$Text", "septetsIn", "(I)I"⟩, 6), (⟨"Shortmessage$Text", "septetAt", "(II)I"⟩, 6), (⟨"Shortmessage", "requireReceiver", "(I)V"⟩, 8), (⟨"Shortmessage", "linkOf", "(I)LShortmessage$Link;"⟩, 8), (⟨"Shortmessage", "linkAt", "(I)LShortmessage$Link;"⟩, 8), (⟨"Shortmessage", "messageAt", "(I)LShortmessage$Message;"⟩, 8), (⟨"Shortmessage", "expireMessages", "()V"⟩, 8), (⟨"Shortmessage", "finish", "(LShortmessage$Message;I)V"⟩, 8), (⟨"Shortmessage", "sendParts", "()I"⟩, 8), (⟨"Shortmessage$Link", "sendNext", "(I)Z"⟩, 5), (⟨"Shortmessage", "settle", "(LShortmessage$Part;I)V"⟩, 8)]
theorem lw_r1 : ∀ q ∈ lw_privs_1, lw_okq q := List.forall_mem_cons.mpr ⟨lw_p0, List.forall_mem_cons.mpr ⟨lw_p1, List.forall_mem_cons.mpr ⟨lw_p2, List.forall_mem_cons.mpr ⟨lw_p3, List.forall_mem_cons.mpr ⟨lw_p4, List.forall_mem_cons.mpr ⟨lw_p5, List.forall_mem_cons.mpr ⟨lw_p6, List.forall_mem_cons.mpr ⟨lw_p7, List.forall_mem_cons.mpr ⟨lw_p8, List.forall_mem_cons.mpr ⟨lw_p9, List.forall_mem_cons.mpr ⟨lw_p10, List.forall_mem_cons.mpr ⟨lw_p11, List.forall_mem_cons.mpr ⟨lw_p12, List.forall_mem_cons.mpr ⟨lw_p13, List.forall_mem_cons.mpr ⟨lw_p14, List.forall_mem_cons.mpr ⟨lw_p15, fun _ h => absurd h List.not_mem_nil⟩⟩⟩⟩⟩⟩⟩⟩⟩⟩⟩⟩⟩⟩⟩⟩
theorem lw_p16 : lw_okq (⟨"Shortmessage$Reception", "serviceWith", "(I)I"⟩, 3) := ⟨⟨by decide +kernel, by decide +kernel⟩, List.mem_of_getElem? (i := 62) (by decide +kernel), List.mem_of_getElem? (i := 678) (by decide +kernel), List.mem_of_getElem? (i := 679) (by decide +kernel)⟩
theorem lw_p17 : lw_okq (⟨"ShortmessageModel", "fails", "(I)Z"⟩, 26) := ⟨⟨by decide +kernel, by decide +kernel⟩, List.mem_of_getElem? (i := 682) (by decide +kernel), List.mem_of_getElem? (i := 779) (by decide +kernel), List.mem_of_getElem? (i := 780) (by decide +kernel)⟩
theorem lw_p18 : lw_okq (⟨"ShortmessageModel", "tells", "(I)I"⟩, 26) := ⟨⟨by decide +kernel, by decide +kernel⟩, List.mem_of_getElem? (i := 682) (by decide +kernel), List.mem_of_getElem? (i := 814) (by decide +kernel), List.mem_of_getElem? (i := 815) (by decide +kernel)⟩
theorem lw_p19 : lw_okq (⟨"ShortmessageModel", "isPart", "(I)Z"⟩, 26) := ⟨⟨by decide +kernel, by decide +kernel⟩, List.mem_of_getElem? (i := 682) (by decide +kernel), List.mem_of_getElem? (i := 822) (by decide +kernel), List.mem_of_getElem? (i := 823) (by decide +kernel)⟩
theorem lw_p20 : lw_okq (⟨"ShortmessageModel", "octetsOf", "(I)I"⟩, 26) := ⟨⟨by decide +kernel, by decide +kernel⟩, List.mem_of_getElem? (i := 682) (by decide +kernel), List.mem_of_getElem? (i := 830) (by decide +kernel), List.mem_of_getElem? (i := 831) (by decide +kernel)⟩
theorem lw_p21 : lw_okq (⟨"ShortmessageModel", "septet", "(II)I"⟩, 26) := ⟨⟨by decide +kernel, by decide +kernel⟩, List.mem_of_getElem? (i := 682) (by decide +kernel), List.mem_of_getElem? (i := 841) (by decide +kernel), List.mem_of_getElem? (i := 842) (by decide +kernel)⟩
theorem lw_p22 : lw_okq (⟨"ShortmessageModel", "partsIn", "(I)I"⟩, 26) := ⟨⟨by decide +kernel, by decide +kernel⟩, List.mem_of_getElem? (i := 682) (by decide +kernel), List.mem_of_getElem? (i := 849) (by decide +kernel), List.mem_of_getElem? (i := 850) (by decide +kernel)⟩
theorem lw_p23 : lw_okq (⟨"ShortmessageModel", "puts", "(IIIZ)V"⟩, 26) := ⟨⟨by decide +kernel, by decide +kernel⟩, List.mem_of_getElem? (i := 682) (by decide +kernel), List.mem_of_getElem? (i := 853) (by decide +kernel), List.mem_of_getElem? (i := 854) (by decide +kernel)⟩
theorem lw_p24 : lw_okq (⟨"ShortmessageModel", "isMessage", "(I)Z"⟩, 26) := ⟨⟨by decide +kernel, by decide +kernel⟩, List.mem_of_getElem? (i := 682) (by decide +kernel), List.mem_of_getElem? (i := 861) (by decide +kernel), List.mem_of_getElem? (i := 862) (by decide +kernel)⟩
theorem lw_p25 : lw_okq (⟨"ShortmessageModel", "lacks", "(I)I"⟩, 26) := ⟨⟨by decide +kernel, by decide +kernel⟩, List.mem_of_getElem? (i := 682) (by decide +kernel), List.mem_of_getElem? (i := 869) (by decide +kernel), List.mem_of_getElem? (i := 870) (by decide +kernel)⟩
theorem lw_p26 : lw_okq (⟨"ShortmessageModel", "ends", "(II)V"⟩, 26) := ⟨⟨by decide +kernel, by decide +kernel⟩, List.mem_of_getElem? (i := 682) (by decide +kernel), List.mem_of_getElem? (i := 889) (by decide +kernel), List.mem_of_getElem? (i := 890) (by decide +kernel)⟩
theorem lw_p27 : lw_okq (⟨"ShortmessageModel", "sends", "(I)I"⟩, 26) := ⟨⟨by decide +kernel, by decide +kernel⟩, List.mem_of_getElem? (i := 682) (by decide +kernel), List.mem_of_getElem? (i := 893) (by decide +kernel), List.mem_of_getElem? (i := 894) (by decide +kernel)⟩
theorem lw_p28 : lw_okq (⟨"ShortmessageModel", "first", "(I)I"⟩, 26) := ⟨⟨by decide +kernel, by decide +kernel⟩, List.mem_of_getElem? (i := 682) (by decide +kernel), List.mem_of_getElem? (i := 897) (by decide +kernel), List.mem_of_getElem? (i := 898) (by decide +kernel)⟩
theorem lw_p29 : lw_okq (⟨"ShortmessageModel", "of", "([II)I"⟩, 26) := ⟨⟨by decide +kernel, by decide +kernel⟩, List.mem_of_getElem? (i := 682) (by decide +kernel), List.mem_of_getElem? (i := 920) (by decide +kernel), List.mem_of_getElem? (i := 921) (by decide +kernel)⟩
theorem lw_p30 : lw_okq (⟨"ShortmessageModel", "becomes", "(II)V"⟩, 26) := ⟨⟨by decide +kernel, by decide +kernel⟩, List.mem_of_getElem? (i := 682) (by decide +kernel), List.mem_of_getElem? (i := 936) (by decide +kernel), List.mem_of_getElem? (i := 937) (by decide +kernel)⟩
def lw_privs_2 : List (MethodName × Nat) := [(⟨"Shortmessage$Reception", "serviceWith", "(I)I"⟩, 3), (⟨"ShortmessageModel", "fails", "(I)Z"⟩, 26), (⟨"ShortmessageModel", "tells", "(I)I"⟩, 26), (⟨"ShortmessageModel", "isPart", "(I)Z"⟩, 26), (⟨"ShortmessageModel", "octetsOf", "(I)I"⟩, 26), (⟨"ShortmessageModel", "septet", "(II)I"⟩, 26), (⟨"ShortmessageModel", "partsIn", "(I)I"⟩, 26), (⟨"ShortmessageModel", "puts", "(IIIZ)V"⟩, 26), (⟨"ShortmessageModel", "isMessage", "(I)Z"⟩, 26), (⟨"ShortmessageModel", "lacks", "(I)I"⟩, 26), (⟨"ShortmessageModel", "ends", "(II)V"⟩, 26), (⟨"ShortmessageModel", "sends", "(I)I"⟩, 26), (⟨"ShortmessageModel", "first", "(I)I"⟩, 26), (⟨"ShortmessageModel", "of", "([II)I"⟩, 26), (⟨"ShortmessageModel", "becomes", "(II)V"⟩, 26)]
theorem lw_r2 : ∀ q ∈ lw_privs_2, lw_okq q := List.forall_mem_cons.mpr ⟨lw_p16, List.forall_mem_cons.mpr ⟨lw_p17, List.forall_mem_cons.mpr ⟨lw_p18, List.forall_mem_cons.mpr ⟨lw_p19, List.forall_mem_cons.mpr ⟨lw_p20, List.forall_mem_cons.mpr ⟨lw_p21, List.forall_mem_cons.mpr ⟨lw_p22, List.forall_mem_cons.mpr ⟨lw_p23, List.forall_mem_cons.mpr ⟨lw_p24, List.forall_mem_cons.mpr ⟨lw_p25, List.forall_mem_cons.mpr ⟨lw_p26, List.forall_mem_cons.mpr ⟨lw_p27, List.forall_mem_cons.mpr ⟨lw_p28, List.forall_mem_cons.mpr ⟨lw_p29, List.forall_mem_cons.mpr ⟨lw_p30, fun _ h => absurd h List.not_mem_nil⟩⟩⟩⟩⟩⟩⟩⟩⟩⟩⟩⟩⟩⟩⟩
def lw_privs : List (MethodName × Nat) := lw_privs_1 ++ (lw_privs_2)
def lw_tbl : List Cond := k2_sels lw_privs ++ tables_1
theorem lw_privs_ok : ∀ q ∈ lw_privs, lw_okq q := by
  show ∀ q ∈ lw_privs_1 ++ (lw_privs_2), lw_okq q
  exact List.forall_mem_append.mpr ⟨lw_r1, lw_r2⟩
-- ===== end of PART A; then your names; then what follows =====
end
section
/-! ===== BEGIN words of one list among another's, by their places ===== -/
theorem goodIn_r {big : List Cond} (ws : List Cond) (ps : List Nat) (hp : ws = ps.filterMap (fun i => big[i]?)) (h : ws.all goodWord = true) : GoodIn big ws := by
  intro w hw
  have h1 := List.all_eq_true.mp h w hw
  rw [hp] at hw
  obtain ⟨i, -, hi⟩ := List.mem_filterMap.mp hw
  have hm : w ∈ big := by first | exact List.mem_of_getElem? hi | exact List.getElem?_mem hi
  exact ⟨hm, good_of_word h1⟩
theorem goodIn_app {big a b : List Cond} (ha : GoodIn big a) (hb : GoodIn big b) : GoodIn big (a ++ b) := fun w h => (List.mem_append.mp h).elim (ha w) (hb w)
theorem goodIn_ca {big a b : List Cond} {c : Cond} (ha : GoodIn big (c :: a)) (hb : GoodIn big b) : GoodIn big (c :: (a ++ b)) := fun w h => (List.mem_cons.mp h).elim (fun e => ha w (List.mem_cons.mpr (Or.inl e))) (fun h => (List.mem_append.mp h).elim (fun h => ha w (List.mem_cons.mpr (Or.inr h))) (hb w))
theorem goodIn_sub {big ws : List Cond} (hm : ∀ w ∈ ws, w ∈ big) (h : ws.all goodWord = true) : GoodIn big ws := fun w hw => ⟨hm w hw, good_of_word (List.all_eq_true.mp h w hw)⟩
/-! ===== END ===== -/

/-! ===== BEGIN exceptions that leave a method, and their catching by the caller (launches without stack traces) ===== -/
section VXA
/-! The laws vx_back, vx_callV, vx_callS, vx_callSW, vx_throw0, vx_throwS follow proofs of the library, with one case more: JvmDerived/Free/Laws.lean (Back.of_free), Shelf42/LK1.lean (callV, callS), Shelf/KitTraced.lean (throwNew0V, throwNewS). -/
/-- where a method has thrown q: the class by its name, the cell, what was written, the world -/
def vx_T (XC : String → State → State → Prop) (st : State) (q : Addr) (t : State) (mc ms : Nat) (free : Addr → Prop) : Prop :=
  ∃ (E : String) (ce : Cell) (L : List Loc), XC E st t ∧ t.heap[q]? = some ce ∧ ce.vm = .none ∧ st.vm.findClass E = some ce.cls ∧ st.WarmedH t.vm ∧ st.sameButNew ({ t with vm := st.vm } : State) L mc ms ∧ ∀ z ∈ L, free z.base
def vx_Q (Qc : Array Value → State → Outcome → State → Prop) (XC : String → State → State → Prop) (mc ms : Nat) (free : Addr → Prop) : Array Value → State → Outcome → State → Prop := fun a st o t =>
  (Qc a st o t ∧ ∃ L, FrameEnd st o t L mc ms ∧ ∀ q ∈ L, free q.base) ∨ ∃ q, o = .threw q ∧ vx_T XC st q t mc ms free
/-- a callee that returns or throws -/
def vx_Met (l : Launch) (y : MethodName) (ws : List Cond) (rm : Room) (Pc : Array Value → State → Prop) (Qc : Array Value → State → Outcome → State → Prop) (XC : String → State → State → Prop) (mc ms : Nat) (free : Addr → Prop) : Prop :=
  MetFree l y (headSpec ws rm) Pc (fun _ _ _ _ _ => True) (vx_Q Qc XC mc ms free)
def vx_Post (XC : String → State → State → Prop) (mc ms : Nat) (free : Addr → Prop) : Pt → Array Value → Addr → Pt → Prop := fun A a q B =>
  ∃ (g : JFrame) (mk : MethodId) (t : State) (L : List Loc) (E : String) (ce : Cell), B.U.heap = t.heap ∧ B.U.vm = t.vm ∧ XC E (A.U.calling g mk a) t ∧ t.heap[q]? = some ce ∧ ce.vm = .none ∧ A.U.vm.findClass E = some ce.cls ∧ B.locs = A.locs ++ L ∧ (∀ z ∈ L, free z.base) ∧ B.cells = A.cells + mc ∧ B.slots = A.slots + ms
def vx_Back (l : Launch) (R : Room) (p : Program) (e : Env) (below : List Frame) (s : State) (sargs : Array Value) (y : MethodName) (len W9 : Nat)
    (Pre : Pt → Array Value → Prop) (Post : Pt → Array Value → Option Value → Pt → Prop) (PostX : Pt → Array Value → Addr → Pt → Prop) : Prop :=
  ∀ (m : MethodId) (meth : Method) (c : Code) (A : Pt) (g : JFrame) (ig : Instr) (mk : MethodId) (a : Array Value),
    Stand p l e R s m sargs below meth c A.U A.locs A.cells A.slots → g.method = m → g.locals.size = c.maxLocals → decode c.code g.pc = .ok (ig, len) →
    2 * g.monitorRoom + (g.stack.map fun v => v.category).sum ≤ W9 → A.U.methodNamed? y = some mk → Pre A a →
    (∃ (v : Option Value) (B : Pt), Stand p l e R s m sargs below meth c B.U B.locs B.cells B.slots ∧ Post A a v B ∧
      Steps p.tables e below (doInvoke e (A.U.setTop g) [] mk a).1 (B.U.setTop { g with pc := g.pc + len, stack := v.toList ++ g.stack })) ∨
    (∃ (q : Addr) (B : Pt), Stand p l e R s m sargs below meth c B.U B.locs B.cells B.slots ∧ PostX A a q B ∧
      Steps p.tables e below (doInvoke e (A.U.setTop g) [] mk a).1 ((B.U.setTop g).pushFrame (.throwing q)))
section Payer
variable {l : Launch} {R : Room} {p : Program} {e : Env} {below : List Frame} {s : State} {sargs : Array Value} {y : MethodName} {len W9 : Nat}
theorem vx_back {ws : List Cond} {rm : Room} {Pc : Array Value → State → Prop} {Qc : Array Value → State → Outcome → State → Prop} {XC : String → State → State → Prop} {mc ms : Nat} {free : Addr → Prop} {bytes : ByteArray} {maxL : Nat} {ret : Option FieldType}
    (hM : vx_Met l y ws rm Pc Qc XC mc ms free) (hblind : FrameBlind Pc) (hrc : rm.cells = mc) (hrs : rm.slots = ms)
    (hframes : rm.frames + 1 ≤ R.frames) (hlocals : W9 + (maxL + 11) + rm.locals ≤ R.locals)
    (hws : ∀ w ∈ ws, ∀ a' U, s.WarmedH U.vm → w.before a' U = true) (hcode : Cond.code y bytes maxL ret ∈ ws) (hinit : ∀ a' U, s.WarmedH U.vm → (Cond.initialized y.cls).before a' U = true) :
    vx_Back l R p e below s sargs y len W9 (PreOf R mc ms Pc) (PostOf Qc mc ms free) (vx_Post XC mc ms free) := by
  intro m meth c A g ig mk a X hg hsize hdg hW hn hp
  have h1 : (headSpec ws rm).pre.before a A.U = true := atoms_intro fun w hw => hws w hw _ _ X.warmed
  have h2 : (Cond.code y bytes maxL ret).before a A.U = true := hws _ hcode _ _ X.warmed
  have h3 : (Cond.initialized y.cls).before a A.U = true := hinit _ _ X.warmed
  have h4 : A.cells + (headSpec ws rm).room.cells ≤ R.cells := by rw [show (headSpec ws rm).room.cells = mc from hrc]; exact hp.1
  have h5 : A.slots + (headSpec ws rm).room.slots ≤ R.slots := by rw [show (headSpec ws rm).room.slots = ms from hrs]; exact hp.2.1
  have hPc : Pc a (A.U.calling g mk a) := hblind _ _ _ _ hp.2.2
  obtain ⟨U, Ls, c0, s0⟩ := A
  dsimp only [Pt.U, Pt.locs, Pt.cells, Pt.slots] at h1 h2 h3 h4 h5 X hn hPc ⊢
  obtain ⟨methY, cY, hmY, hcY, -, hlY, -, -, -, -⟩ := Cond.code_spec hn h2
  obtain ⟨kY, hkY, -⟩ := className_of_methodNamed hn
  have hinitY : kY.init = .initialized := Cond.initialized_spec (findClass_of_methodNamed hn) hkY h3
  have h : At U g.method c below := by rw [hg]; exact X.here
  have hlocals9 : W9 + (maxL + 11) + (headSpec ws rm).room.locals ≤ R.locals := hlocals
  have happ : (headSpec ws rm).appliesLoose y e.platform (U.calling g mk a) = true :=
    Spec.appliesLoose_calling (g := g) h hdg hn hkY hinitY
      (X.room_calling (g := g) (R' := (headSpec ws rm).room) hsize hmY hcY hframes (by rw [hlY]; omega) h4 h5) h1
  obtain ⟨mid, hmid⟩ := h.above
  have hfr : (U.setTop g).frames = (.java g :: mid) ++ below := by rw [State.frames_setTop' g h.top, hmid]; rfl
  obtain ⟨o, s₂, hsteps, -, hend, hq⟩ := Steps.callFree hM p X.admits X.cas X.clock (acts := []) hfr happ hPc trivial
  have hq' : vx_Q Qc XC mc ms free a (U.calling g mk a) o s₂ := hq
  rw [State.frames_setTop' g h.top] at hend
  obtain ⟨g₀, hg0⟩ := Option.isSome_iff_exists.mp h.top
  obtain ⟨r, hr⟩ := State.topJava?_eq_some.mp hg0
  have hr' : (({ U with heap := s₂.heap, slotsUsed := s₂.slotsUsed } : State).setVm s₂.vm).frames = .java g₀ :: r := hr
  rcases hq' with ⟨hqc, L, hfe, hL⟩ | ⟨q, rfl, E, ce, L, hx, hce, hcv, hcl, hW₂, hsm, hL⟩
  · obtain ⟨⟨v, rfl⟩, hW₂, e2, q2, q3, q4, q5, q6⟩ := id hfe
    have e3 : s₂ = ({ (U.calling g mk a).setFrames s₂.frames with heap := s₂.heap, slotsUsed := s₂.slotsUsed } : State).setVm s₂.vm := by
      have : s₂ = ({ s₂ with vm := (U.calling g mk a).vm } : State).setVm s₂.vm := rfl
      rw [e2] at this
      exact this
    obtain ⟨c₂, i₂, len₂, hc₂, hd₂, hf₂⟩ := hend
    have hW' : U.WarmedH s₂.vm := hW₂
    have hcc : c₂ = c := by
      have h1 : s₂.code? g.method = U.code? g.method := by
        rw [State.code?_eq, State.code?_eq, hW'.alike.method?]
      exact Option.some.inj (hc₂.symm.trans (h1.trans h.code))
    subst hcc
    have hlen : len₂ = len := by rw [hdg] at hd₂; cases hd₂; rfl
    subst hlen
    have hs₂ : s₂ = (({ U with heap := s₂.heap, slotsUsed := s₂.slotsUsed } : State).setVm s₂.vm).setTop { g with pc := g.pc + len₂, stack := v.toList ++ g.stack } := by
      refine e3.trans ?_
      rw [hf₂, State.calling_eq h.top, State.setFrames_setFrames, State.setTop_of_frames _ hr', hr]
      rfl
    have hsame : U.sameButNew ({ U with heap := s₂.heap, slotsUsed := s₂.slotsUsed } : State) L mc ms := by
      refine ⟨?_, q2, q3, q4, q5, q6⟩
      obtain ⟨t, ht, -⟩ := State.frames_cons hr
      show ({ U with heap := s₂.heap, slotsUsed := s₂.slotsUsed } : State) = { U.setFrames U.frames with heap := s₂.heap, slotsUsed := s₂.slotsUsed }
      rw [State.setFrames_self ht]
    subst hg
    refine Or.inl ⟨v, ⟨(({ U with heap := s₂.heap, slotsUsed := s₂.slotsUsed } : State).setVm s₂.vm), Ls ++ L, c0 + mc, s0 + ms⟩,
      ⟨X.admits, X.cas, X.clock, X.frames, X.room, X.hears, X.method, X.code, (X.here.setHeapUsed s₂.heap s₂.slotsUsed).setVm hW'.alike, X.tail, State.WarmedH.trans X.warmed hW', X.limits, X.bytes, X.same.trans (hsame.setVm s.vm)⟩,
      ⟨g, mk, s₂, L, rfl, rfl, hqc, rfl, hL, rfl, rfl⟩, ?_⟩
    show Steps p.tables e below _ ((({ U with heap := s₂.heap, slotsUsed := s₂.slotsUsed } : State).setVm s₂.vm).setTop { g with pc := g.pc + len₂, stack := v.toList ++ g.stack })
    rw [← hs₂]
    exact hsteps
  · obtain ⟨e2, q2, q3, q4, q5, q6⟩ := id hsm
    have e3 : s₂ = ({ (U.calling g mk a).setFrames s₂.frames with heap := s₂.heap, slotsUsed := s₂.slotsUsed } : State).setVm s₂.vm := by
      have : s₂ = ({ s₂ with vm := (U.calling g mk a).vm } : State).setVm s₂.vm := rfl
      rw [e2] at this
      exact this
    have hf₂ : s₂.frames = .throwing q :: .java g :: U.frames.tail := hend
    have hW' : U.WarmedH s₂.vm := hW₂
    have hs₂ : s₂ = ((({ U with heap := s₂.heap, slotsUsed := s₂.slotsUsed } : State).setVm s₂.vm).setTop g).pushFrame (.throwing q) := by
      refine e3.trans ?_
      rw [hf₂, State.calling_eq h.top, State.setFrames_setFrames, State.pushFrame, State.frames_setTop _ hr', State.setTop_of_frames _ hr', State.setFrames_setFrames, hr]
      rfl
    have hsame : U.sameButNew ({ U with heap := s₂.heap, slotsUsed := s₂.slotsUsed } : State) L mc ms := by
      refine ⟨?_, q2, q3, q4, q5, q6⟩
      obtain ⟨t, ht, -⟩ := State.frames_cons hr
      show ({ U with heap := s₂.heap, slotsUsed := s₂.slotsUsed } : State) = { U.setFrames U.frames with heap := s₂.heap, slotsUsed := s₂.slotsUsed }
      rw [State.setFrames_self ht]
    subst hg
    refine Or.inr ⟨q, ⟨(({ U with heap := s₂.heap, slotsUsed := s₂.slotsUsed } : State).setVm s₂.vm), Ls ++ L, c0 + mc, s0 + ms⟩,
      ⟨X.admits, X.cas, X.clock, X.frames, X.room, X.hears, X.method, X.code, (X.here.setHeapUsed s₂.heap s₂.slotsUsed).setVm hW'.alike, X.tail, State.WarmedH.trans X.warmed hW', X.limits, X.bytes, X.same.trans (hsame.setVm s.vm)⟩,
      ⟨g, mk, s₂, L, E, ce, rfl, rfl, hx, hce, hcv, hcl, rfl, hL, rfl, rfl⟩, ?_⟩
    show Steps p.tables e below _ (((({ U with heap := s₂.heap, slotsUsed := s₂.slotsUsed } : State).setVm s₂.vm).setTop g).pushFrame (.throwing q))
    rw [← hs₂]
    exact hsteps
end Payer
section Calls
variable {p : Program} {l : Launch} {e : Env} {R : Room} {s : State} {m : MethodId} {args : Array Value} {below : List Frame} {meth : Method} {c : Code} {T : State} {locs : List Loc} {cells slots : Nat}
theorem vx_callV (X : Stand p l e R s m args below meth c T locs cells slots) (hexec : p.tables.exec = Jvm.exec) {own C : String} {index : Nat} {y : MethodName} {bytes : ByteArray} {maxL : Nat} {ret : Option FieldType}
    (hown : s.vm.findClass own = some m.cls) (hlink : (Cond.methodLink own index y).before args s = true) (hinst : (Cond.instanceMethod y).before args s = true) (hsel : (Cond.selects C y y).before args s = true)
    (hcode : (Cond.code y bytes maxL ret).before args s = true) (hy : y.cls ≠ "java/lang/invoke/MethodHandle" ∧ y.cls ≠ "java/lang/invoke/VarHandle")
    {W9 : Nat} {Pre : Pt → Array Value → Prop} {Post : Pt → Array Value → Option Value → Pt → Prop} {PostX : Pt → Array Value → Addr → Pt → Prop} (hK : vx_Back l R p e below s args y 3 W9 Pre Post PostX)
    {b : Addr} {cellB : Cell} (hcell : T.heap[b]? = some cellB) (hobj : cellB.vm.isStatics = false) (hcls : s.vm.findClass C = some cellB.cls)
    {g : JFrame} (hg : g.method = m) (hsize : g.locals.size = c.maxLocals) {argsL rest : List Value} (hlen : ∀ sig, parseMethodDescriptor y.desc = some sig → argsL.length = sig.parameters.length)
    (hstack : g.stack = argsL.reverse ++ .ref b :: rest) (hW : 2 * g.monitorRoom + (rest.map fun v => v.category).sum ≤ W9) (hdg : decode c.code g.pc = .ok (.invokevirtual index, 3))
    (hpre : ∀ vm₁, s.WarmedH vm₁ → Pre ⟨T.setVm vm₁, locs, cells, slots⟩ (Value.ref b :: argsL).toArray) :
    (∃ (v : Option Value) (vm₁ : Vm) (B : Pt), s.WarmedH vm₁ ∧ Stand p l e R s m args below meth c B.U B.locs B.cells B.slots ∧ Post ⟨T.setVm vm₁, locs, cells, slots⟩ (Value.ref b :: argsL).toArray v B ∧
      ∀ target, Steps p.tables e below (B.U.setTop { g with pc := g.pc + 3, stack := v.toList ++ rest }) target → Steps p.tables e below (T.setTop g) target) ∨
    (∃ (q : Addr) (vm₁ : Vm) (B : Pt), s.WarmedH vm₁ ∧ Stand p l e R s m args below meth c B.U B.locs B.cells B.slots ∧ PostX ⟨T.setVm vm₁, locs, cells, slots⟩ (Value.ref b :: argsL).toArray q B ∧
      Steps p.tables e below (T.setTop g) ((B.U.setTop { g with stack := rest }).pushFrame (.throwing q))) := by
  obtain ⟨mk, methM, hnamed, hmethM, hstM, habM⟩ := Cond.instanceMethod_spec hinst
  obtain ⟨methM', cM, hmethM', -, -, -, -, -, -, hsigM⟩ := Cond.code_spec hnamed hcode
  cases hmethM.symm.trans hmethM'
  obtain ⟨c2, r2, m2, q1, q2, q3, q4, kP, hkP, hkPi⟩ := Cond.selects_spec hsel
  cases hcls.symm.trans q1
  cases (State.methodFound?_of_named hnamed hy).symm.trans q2
  cases hnamed.symm.trans q3
  have hselP : selectMethod e.platform s.vm cellB.cls mk = .method mk := by rw [Launch.admits_selectMethod X.admits]; exact q4
  obtain ⟨vm₁, X₁, hstep₁⟩ := X.invokevirtual hexec hown hlink hnamed hmethM hstM hkP hkPi hy (a := b) (cell := cellB) hcell
    (fun z h => by rw [h] at hobj; cases hobj) hselP hmethM habM hkP hkPi (g := g) hg (argsL := argsL) (rest := rest) (hlen _ hsigM) hstack hdg
  rcases hK m meth c ⟨T.setVm vm₁, locs, cells, slots⟩ { g with stack := rest } (.invokevirtual index) mk (Value.ref b :: argsL).toArray X₁ hg hsize hdg hW (X₁.named hnamed) (hpre vm₁ X₁.warmed) with ⟨v, B, X', hpost, hsteps⟩ | ⟨q, B, X', hpost, hsteps⟩
  · exact Or.inl ⟨v, vm₁, B, X₁.warmed, X', hpost, fun target h => hstep₁ _ fun acts => by rw [doInvoke_state]; exact hsteps.trans h⟩
  · exact Or.inr ⟨q, vm₁, B, X₁.warmed, X', hpost, hstep₁ _ fun acts => by rw [doInvoke_state]; exact hsteps⟩
theorem vx_callS (X : Stand p l e R s m args below meth c T locs cells slots) (hexec : p.tables.exec = Jvm.exec) {own : String} {index : Nat} {y : MethodName} {bytes : ByteArray} {maxL : Nat} {ret : Option FieldType}
    (hown : s.vm.findClass own = some m.cls) (hlink : (Cond.methodLink own index y).before args s = true) (hstat : (Cond.static y).before args s = true) (hinit : (Cond.initialized y.cls).before args s = true)
    (hcode : (Cond.code y bytes maxL ret).before args s = true) (hy : y.cls ≠ "java/lang/invoke/MethodHandle" ∧ y.cls ≠ "java/lang/invoke/VarHandle")
    {W9 : Nat} {Pre : Pt → Array Value → Prop} {Post : Pt → Array Value → Option Value → Pt → Prop} {PostX : Pt → Array Value → Addr → Pt → Prop} (hK : vx_Back l R p e below s args y 3 W9 Pre Post PostX)
    {g : JFrame} (hg : g.method = m) (hsize : g.locals.size = c.maxLocals) {argsL rest : List Value} (hlen : ∀ sig, parseMethodDescriptor y.desc = some sig → argsL.length = sig.parameters.length)
    (hstack : g.stack = argsL.reverse ++ rest) (hW : 2 * g.monitorRoom + (rest.map fun v => v.category).sum ≤ W9) (hdg : decode c.code g.pc = .ok (.invokestatic index, 3))
    (hpre : ∀ vm₁, s.WarmedH vm₁ → Pre ⟨T.setVm vm₁, locs, cells, slots⟩ argsL.toArray) :
    (∃ (v : Option Value) (vm₁ : Vm) (B : Pt), s.WarmedH vm₁ ∧ Stand p l e R s m args below meth c B.U B.locs B.cells B.slots ∧ Post ⟨T.setVm vm₁, locs, cells, slots⟩ argsL.toArray v B ∧
      ∀ target, Steps p.tables e below (B.U.setTop { g with pc := g.pc + 3, stack := v.toList ++ rest }) target → Steps p.tables e below (T.setTop g) target) ∨
    (∃ (q : Addr) (vm₁ : Vm) (B : Pt), s.WarmedH vm₁ ∧ Stand p l e R s m args below meth c B.U B.locs B.cells B.slots ∧ PostX ⟨T.setVm vm₁, locs, cells, slots⟩ argsL.toArray q B ∧
      Steps p.tables e below (T.setTop g) ((B.U.setTop { g with stack := rest }).pushFrame (.throwing q))) := by
  obtain ⟨mk, hnamed⟩ := Cond.code_named hcode
  obtain ⟨methM, cM, hmethM, -, -, -, -, -, -, hsigM⟩ := Cond.code_spec hnamed hcode
  have hstatic : methM.isStatic = true := Cond.static_spec hnamed hmethM hstat
  obtain ⟨kP, hkP, -⟩ := className_of_methodNamed hnamed
  have hinitP : kP.init = .initialized := Cond.initialized_spec (findClass_of_methodNamed hnamed) hkP hinit
  obtain ⟨vm₁, X₁, hstep₁⟩ := X.invokestatic hexec hown hlink hnamed hmethM hstatic hkP hinitP hy (g := g) hg (argsL := argsL) (rest := rest) (hlen _ hsigM) hstack hdg
  rcases hK m meth c ⟨T.setVm vm₁, locs, cells, slots⟩ { g with stack := rest } (.invokestatic index) mk argsL.toArray X₁ hg hsize hdg hW (X₁.named hnamed) (hpre vm₁ X₁.warmed) with ⟨v, B, X', hpost, hsteps⟩ | ⟨q, B, X', hpost, hsteps⟩
  · exact Or.inl ⟨v, vm₁, B, X₁.warmed, X', hpost, fun target h => hstep₁ _ fun acts => by rw [doInvoke_state]; exact hsteps.trans h⟩
  · exact Or.inr ⟨q, vm₁, B, X₁.warmed, X', hpost, hstep₁ _ fun acts => by rw [doInvoke_state]; exact hsteps⟩
end Calls
theorem vx_cls {s : State} {T : State} {vm₁ : Vm} {E : String} {k : ClassId} (hW : s.WarmedH vm₁) (h : (T.setVm vm₁).vm.findClass E = some k) : s.vm.findClass E = some k := by
  have h1 : vm₁.findClass E = some k := h
  rw [hW.alike.findClass] at h1
  exact h1
/-- the method's frame g, with q thrown over it -/
def vx_W (p : Program) (l : Launch) (e : Env) (R : Room) (s : State) (m : MethodId) (args : Array Value) (below : List Frame) (meth : Method) (c : Code) (H : Heap) (locs : List Loc) (cells slots : Nat) (Q : State → Prop) (g : JFrame) (q : Addr) : Prop :=
  ∀ T : State, T.heap = H → Stand p l e R s m args below meth c T locs cells slots → ∃ t, Steps p.tables e below ((T.setTop g).pushFrame (.throwing q)) t ∧ Q t
def vx_Run (p : Program) (l : Launch) (e : Env) (R : Room) (s : State) (m : MethodId) (args : Array Value) (below : List Frame) (meth : Method) (c : Code) (H : Heap) (locs : List Loc) (cells slots mc ms : Nat) (g : JFrame) (rest : List Value) (Qa : State → Outcome → State → Prop) (XC : String → State → State → Prop) (free : Addr → Prop) : Prop :=
  ∀ T : State, T.heap = H → Stand p l e R s m args below meth c T locs cells slots →
    (∃ (v : Option Value) (st₀ t T' : State) (L : List Loc), st₀.heap = H ∧ Stand p l e R s m args below meth c T' (locs ++ L) (cells + mc) (slots + ms) ∧ (∀ q ∈ L, free q.base) ∧ T'.heap = t.heap ∧ T'.vm = t.vm ∧ Qa st₀ (.returned v) t ∧
      Goes p e below T g T' { g with pc := g.pc + 3, stack := v.toList ++ rest }) ∨
    (∃ (q : Addr) (st₀ t T' : State) (L : List Loc) (E : String) (ce : Cell), st₀.heap = H ∧ Stand p l e R s m args below meth c T' (locs ++ L) (cells + mc) (slots + ms) ∧ (∀ z ∈ L, free z.base) ∧ T'.heap = t.heap ∧ T'.vm = t.vm ∧ XC E st₀ t ∧ t.heap[q]? = some ce ∧ ce.vm = .none ∧ s.vm.findClass E = some ce.cls ∧
      Steps p.tables e below (T.setTop g) ((T'.setTop { g with stack := rest }).pushFrame (.throwing q)))
def vx_X {S : Type} (px : S → Prop) (B : String → S → State → Prop) (A : Nat → Prop) : String → State → State → Prop := fun E st t => ∃ u : S, px u ∧ B E u t ∧ va_F A st t
section Runs
variable {p : Program} {l : Launch} {e : Env} {R : Room} {s : State} {m : MethodId} {args : Array Value} {below : List Frame} {meth : Method} {c : Code} {H : Heap} {locs : List Loc} {cells slots : Nat}
variable {y : MethodName} {bytes cc : ByteArray} {maxL nL mc ms n index : Nat} {ret : Option FieldType} {ws : List Cond} {rm : Room} {Pc : Array Value → State → Prop} {Qc : Array Value → State → Outcome → State → Prop} {XC : String → State → State → Prop} {free : Addr → Prop} {Ts : List Cond} {own C : String} {b : Addr} {As rest : List Value} {g : JFrame}
theorem vx_callBack (cb : CallB R s args own index y bytes maxL ret ws rm mc ms n) (hM : vx_Met l y ws rm Pc Qc XC mc ms free) (hbl : FrameBlind Pc) : vx_Back l R p e below s args y 3 8 (PreOf R mc ms Pc) (PostOf Qc mc ms free) (vx_Post XC mc ms free) := by
  obtain ⟨hrc, hrs, hfr, hlo, hws, hcw, -, hini, -⟩ := cb
  exact vx_back (bytes := bytes) (maxL := maxL) (ret := ret) hM hbl hrc hrs hfr hlo hws hcw (fun a' U hW => word_at hW (Or.inl (by first | rfl | simp [Cond.onTables, Cond.keeps, Cond.steady])) hini)
theorem vx_runV (S : CallFix p m c cc nL s args Ts own) (hM : vx_Met l y ws rm Pc Qc XC mc ms free) (cw : CallW R s args own C index y bytes maxL ret ws rm mc ms n) (hp : PreV s H C b Pc As)
    (hg : g.method = m) (hn : As.length = n) (hsize : g.locals.size = nL) (hstack : g.stack = As.reverse ++ .ref b :: rest) (hW : 2 * g.monitorRoom + (rest.map fun v => v.category).sum ≤ 8) (hdg : decode cc g.pc = .ok (.invokevirtual index, 3)) (hf : cells + mc ≤ R.cells ∧ slots + ms ≤ R.slots) :
    vx_Run p l e R s m args below meth c H locs cells slots mc ms g rest (Qc (Value.ref b :: As).toArray) XC free := by
  have hK : vx_Back l R p e below s args y 3 8 (PreOf R mc ms Pc) (PostOf Qc mc ms free) (vx_Post XC mc ms free) := vx_callBack cw.1 hM hp.1
  obtain ⟨⟨-, -, -, -, -, -, hcode, -, hy, hlen, hl⟩, hin, hse⟩ := cw
  obtain ⟨hx, hb, hml, ho, -⟩ := S
  obtain ⟨-, ⟨cellB, hcB, hoB, hclB⟩, hPc⟩ := hp
  intro T hT X
  rcases vx_callV X hx (C := C) (bytes := bytes) (maxL := maxL) (ret := ret) ho hl hin hse hcode hy hK (by rw [hT]; exact hcB) hoB hclB hg (hsize.trans hml.symm) (argsL := As) (rest := rest) (fun sig h => hn.trans (hlen sig h)) hstack hW (by rw [hb]; exact hdg)
    (fun vm₁ hW₁ => ⟨hf.1, hf.2, hPc (T.setVm vm₁) hT hW₁⟩) with ⟨v, vm₁, ⟨U', l2, c2, s2⟩, hW₁, X', ⟨g', mk, t, L, e1, e2, hq, h1, hL, h2, h3⟩, st⟩ | ⟨q, vm₁, ⟨U', l2, c2, s2⟩, hW₁, X', ⟨g', mk, t, L, E, ce, e1, e2, hq, hce, hcv, hcl, h1, hL, h2, h3⟩, st⟩
  · dsimp only [Pt.U, Pt.locs, Pt.cells, Pt.slots] at X' e1 e2 h1 h2 h3 st
    subst h1; subst h2; subst h3
    exact Or.inl ⟨v, (T.setVm vm₁).calling g' mk (Value.ref b :: As).toArray, t, U', L, hT, X', hL, e1, e2, hq, st⟩
  · dsimp only [Pt.U, Pt.locs, Pt.cells, Pt.slots] at X' e1 e2 h1 h2 h3 st hcl
    subst h1; subst h2; subst h3
    exact Or.inr ⟨q, (T.setVm vm₁).calling g' mk (Value.ref b :: As).toArray, t, U', L, E, ce, hT, X', hL, e1, e2, hq, hce, hcv, vx_cls hW₁ hcl, st⟩
theorem vx_runS (S : CallFix p m c cc nL s args Ts own) (hM : vx_Met l y ws rm Pc Qc XC mc ms free) (cw : CallB R s args own index y bytes maxL ret ws rm mc ms n ∧ (Cond.static y).before args s = true) (hp : PreS s H Pc As)
    (hg : g.method = m) (hn : As.length = n) (hsize : g.locals.size = nL) (hstack : g.stack = As.reverse ++ rest) (hW : 2 * g.monitorRoom + (rest.map fun v => v.category).sum ≤ 8) (hdg : decode cc g.pc = .ok (.invokestatic index, 3)) (hf : cells + mc ≤ R.cells ∧ slots + ms ≤ R.slots) :
    vx_Run p l e R s m args below meth c H locs cells slots mc ms g rest (Qc As.toArray) XC free := by
  have hK : vx_Back l R p e below s args y 3 8 (PreOf R mc ms Pc) (PostOf Qc mc ms free) (vx_Post XC mc ms free) := vx_callBack cw.1 hM hp.1
  obtain ⟨⟨-, -, -, -, -, -, hcode, hini, hy, hlen, hl⟩, hstt⟩ := cw
  obtain ⟨hx, hb, hml, ho, -⟩ := S
  intro T hT X
  rcases vx_callS X hx (bytes := bytes) (maxL := maxL) (ret := ret) ho hl hstt hini hcode hy hK hg (hsize.trans hml.symm) (argsL := As) (rest := rest) (fun sig h => hn.trans (hlen sig h)) hstack hW (by rw [hb]; exact hdg)
    (fun vm₁ hW₁ => ⟨hf.1, hf.2, hp.2 (T.setVm vm₁) hT hW₁⟩) with ⟨v, vm₁, ⟨U', l2, c2, s2⟩, hW₁, X', ⟨g', mk, t, L, e1, e2, hq, h1, hL, h2, h3⟩, st⟩ | ⟨q, vm₁, ⟨U', l2, c2, s2⟩, hW₁, X', ⟨g', mk, t, L, E, ce, e1, e2, hq, hce, hcv, hcl, h1, hL, h2, h3⟩, st⟩
  · dsimp only [Pt.U, Pt.locs, Pt.cells, Pt.slots] at X' e1 e2 h1 h2 h3 st
    subst h1; subst h2; subst h3
    exact Or.inl ⟨v, (T.setVm vm₁).calling g' mk As.toArray, t, U', L, hT, X', hL, e1, e2, hq, st⟩
  · dsimp only [Pt.U, Pt.locs, Pt.cells, Pt.slots] at X' e1 e2 h1 h2 h3 st hcl
    subst h1; subst h2; subst h3
    exact Or.inr ⟨q, (T.setVm vm₁).calling g' mk As.toArray, t, U', L, E, ce, hT, X', hL, e1, e2, hq, hce, hcv, vx_cls hW₁ hcl, st⟩
end Runs
section Rows
variable {p : Program} {l : Launch} {e : Env} {R : Room} {s : State} {m : MethodId} {args : Array Value} {below : List Frame} {meth : Method} {c : Code} {H : Heap} {locs : List Loc} {cells slots : Nat} {Q : State → Prop}
variable {mc ms : Nat} {free : Addr → Prop} {A0 A1 : Nat → Prop} {H0 : Heap} {a : Array Value} {pc : Nat} {ls : Array Slot} {st0 rest : List Value}
theorem vx_keep {st₀ t T' : State} {L : List Loc} (h0 : st₀.heap = H) (e1 : T'.heap = t.heap) (hS : va_S A0 H0 H locs) (hA : ∀ q, q < H.size → A1 q → A0 q) (hf : ∀ q, free q → A0 q) (hL : ∀ q ∈ L, free q.base) (hF : va_F A1 st₀ t) :
    H.size ≤ T'.heap.size ∧ (∀ q : Nat, q < H.size → ¬ A1 q → T'.heap[q]? = H[q]?) ∧ va_S A0 H0 T'.heap (locs ++ L) := by
  obtain ⟨hz, hk⟩ := hF
  rw [h0] at hz hk
  exact ⟨by rw [e1]; exact hz, fun q h1 h2 => by rw [e1]; exact hk q h1 h2,
    ⟨Nat.le_trans hS.1 (by rw [e1]; exact hz), fun q h1 h2 => by rw [e1, hk q (Nat.lt_of_lt_of_le h1 hS.1) (fun z => h2 (hA q (Nat.lt_of_lt_of_le h1 hS.1) z))]; exact hS.2.1 q h1 h2, fun q hq => by
      rcases List.mem_append.mp hq with h | h
      · exact hS.2.2 q h
      · exact hf _ (hL q h)⟩⟩
theorem vx_calli {S SX : Type} {post : Int32 → S → Prop} {px : SX → Prop} {B : S → State → Prop} {BX : String → SX → State → Prop} {AX : Nat → Prop} (hr : vx_Run p l e R s m args below meth c H locs cells slots mc ms (F0 m pc ls st0) rest (va_Qi post B A1 a) (vx_X px BX AX) free) (hS : va_S A0 H0 H locs) (hA : ∀ q, q < H.size → A1 q → A0 q) (hf : ∀ q, free q → A0 q) (hAX : ∀ q, q < H.size → AX q → A0 q)
    (kx : ∀ (E : String) (ce : Cell) (q9 : Addr) (u : SX) (t : State) (H1 : Heap) (locs1 : List Loc), t.heap = H1 → s.vm.Alike t.vm → px u → BX E u t → H.size ≤ H1.size → (∀ q : Nat, q < H.size → ¬ AX q → H1[q]? = H[q]?) → va_S A0 H0 H1 locs1 → H1[q9]? = some ce → ce.vm = .none → s.vm.findClass E = some ce.cls → vx_W p l e R s m args below meth c H1 locs1 (cells + mc) (slots + ms) Q (F0 m pc ls rest) q9)
    (kk : ∀ (r : Int32) (u : S) (t : State) (H1 : Heap) (locs1 : List Loc), t.heap = H1 → s.vm.Alike t.vm → post r u → B u t → H.size ≤ H1.size → (∀ q : Nat, q < H.size → ¬ A1 q → H1[q]? = H[q]?) → va_S A0 H0 H1 locs1 → W p l e R s m args below meth c H1 locs1 (cells + mc) (slots + ms) Q (F0 m (pc + 3) ls (.int r :: rest))) : W p l e R s m args below meth c H locs cells slots Q (F0 m pc ls st0) := by
  intro T hT X
  rcases hr T hT X with ⟨v, st₀, t, T', L, h0, X', hL, e1, e2, ⟨⟨r, u, hv, hp, hb⟩, hF⟩, st⟩ | ⟨q, st₀, t, T', L, E, ce, h0, X', hL, e1, e2, ⟨u, hp, hb, hF⟩, hce, hcv, hcl, st⟩
  · cases hv
    obtain ⟨k1, k2, k3⟩ := vx_keep h0 e1 hS hA hf hL hF
    obtain ⟨t2, a1, b1⟩ := kk r u t T'.heap (locs ++ L) e1.symm (by rw [← e2]; exact X'.warmed.alike) hp hb k1 k2 k3 T' rfl X'
    exact ⟨t2, st t2 a1, b1⟩
  · obtain ⟨k1, k2, k3⟩ := vx_keep h0 e1 hS hAX hf hL hF
    obtain ⟨t2, a1, b1⟩ := kx E ce q u t T'.heap (locs ++ L) e1.symm (by rw [← e2]; exact X'.warmed.alike) hp hb k1 k2 k3 (by rw [e1]; exact hce) hcv hcl T' rfl X'
    exact ⟨t2, st.trans a1, b1⟩
theorem vx_calll {S SX : Type} {post : Int64 → S → Prop} {px : SX → Prop} {B : S → State → Prop} {BX : String → SX → State → Prop} {AX : Nat → Prop} (hr : vx_Run p l e R s m args below meth c H locs cells slots mc ms (F0 m pc ls st0) rest (va_Ql post B A1 a) (vx_X px BX AX) free) (hS : va_S A0 H0 H locs) (hA : ∀ q, q < H.size → A1 q → A0 q) (hf : ∀ q, free q → A0 q) (hAX : ∀ q, q < H.size → AX q → A0 q)
    (kx : ∀ (E : String) (ce : Cell) (q9 : Addr) (u : SX) (t : State) (H1 : Heap) (locs1 : List Loc), t.heap = H1 → s.vm.Alike t.vm → px u → BX E u t → H.size ≤ H1.size → (∀ q : Nat, q < H.size → ¬ AX q → H1[q]? = H[q]?) → va_S A0 H0 H1 locs1 → H1[q9]? = some ce → ce.vm = .none → s.vm.findClass E = some ce.cls → vx_W p l e R s m args below meth c H1 locs1 (cells + mc) (slots + ms) Q (F0 m pc ls rest) q9)
    (kk : ∀ (r : Int64) (u : S) (t : State) (H1 : Heap) (locs1 : List Loc), t.heap = H1 → s.vm.Alike t.vm → post r u → B u t → H.size ≤ H1.size → (∀ q : Nat, q < H.size → ¬ A1 q → H1[q]? = H[q]?) → va_S A0 H0 H1 locs1 → W p l e R s m args below meth c H1 locs1 (cells + mc) (slots + ms) Q (F0 m (pc + 3) ls (.long r :: rest))) : W p l e R s m args below meth c H locs cells slots Q (F0 m pc ls st0) := by
  intro T hT X
  rcases hr T hT X with ⟨v, st₀, t, T', L, h0, X', hL, e1, e2, ⟨⟨r, u, hv, hp, hb⟩, hF⟩, st⟩ | ⟨q, st₀, t, T', L, E, ce, h0, X', hL, e1, e2, ⟨u, hp, hb, hF⟩, hce, hcv, hcl, st⟩
  · cases hv
    obtain ⟨k1, k2, k3⟩ := vx_keep h0 e1 hS hA hf hL hF
    obtain ⟨t2, a1, b1⟩ := kk r u t T'.heap (locs ++ L) e1.symm (by rw [← e2]; exact X'.warmed.alike) hp hb k1 k2 k3 T' rfl X'
    exact ⟨t2, st t2 a1, b1⟩
  · obtain ⟨k1, k2, k3⟩ := vx_keep h0 e1 hS hAX hf hL hF
    obtain ⟨t2, a1, b1⟩ := kx E ce q u t T'.heap (locs ++ L) e1.symm (by rw [← e2]; exact X'.warmed.alike) hp hb k1 k2 k3 (by rw [e1]; exact hce) hcv hcl T' rfl X'
    exact ⟨t2, st.trans a1, b1⟩
theorem vx_callf {S SX : Type} {post : UInt32 → S → Prop} {px : SX → Prop} {B : S → State → Prop} {BX : String → SX → State → Prop} {AX : Nat → Prop} (hr : vx_Run p l e R s m args below meth c H locs cells slots mc ms (F0 m pc ls st0) rest (va_Qf post B A1 a) (vx_X px BX AX) free) (hS : va_S A0 H0 H locs) (hA : ∀ q, q < H.size → A1 q → A0 q) (hf : ∀ q, free q → A0 q) (hAX : ∀ q, q < H.size → AX q → A0 q)
    (kx : ∀ (E : String) (ce : Cell) (q9 : Addr) (u : SX) (t : State) (H1 : Heap) (locs1 : List Loc), t.heap = H1 → s.vm.Alike t.vm → px u → BX E u t → H.size ≤ H1.size → (∀ q : Nat, q < H.size → ¬ AX q → H1[q]? = H[q]?) → va_S A0 H0 H1 locs1 → H1[q9]? = some ce → ce.vm = .none → s.vm.findClass E = some ce.cls → vx_W p l e R s m args below meth c H1 locs1 (cells + mc) (slots + ms) Q (F0 m pc ls rest) q9)
    (kk : ∀ (r : UInt32) (u : S) (t : State) (H1 : Heap) (locs1 : List Loc), t.heap = H1 → s.vm.Alike t.vm → post r u → B u t → H.size ≤ H1.size → (∀ q : Nat, q < H.size → ¬ A1 q → H1[q]? = H[q]?) → va_S A0 H0 H1 locs1 → W p l e R s m args below meth c H1 locs1 (cells + mc) (slots + ms) Q (F0 m (pc + 3) ls (.float r :: rest))) : W p l e R s m args below meth c H locs cells slots Q (F0 m pc ls st0) := by
  intro T hT X
  rcases hr T hT X with ⟨v, st₀, t, T', L, h0, X', hL, e1, e2, ⟨⟨r, u, hv, hp, hb⟩, hF⟩, st⟩ | ⟨q, st₀, t, T', L, E, ce, h0, X', hL, e1, e2, ⟨u, hp, hb, hF⟩, hce, hcv, hcl, st⟩
  · cases hv
    obtain ⟨k1, k2, k3⟩ := vx_keep h0 e1 hS hA hf hL hF
    obtain ⟨t2, a1, b1⟩ := kk r u t T'.heap (locs ++ L) e1.symm (by rw [← e2]; exact X'.warmed.alike) hp hb k1 k2 k3 T' rfl X'
    exact ⟨t2, st t2 a1, b1⟩
  · obtain ⟨k1, k2, k3⟩ := vx_keep h0 e1 hS hAX hf hL hF
    obtain ⟨t2, a1, b1⟩ := kx E ce q u t T'.heap (locs ++ L) e1.symm (by rw [← e2]; exact X'.warmed.alike) hp hb k1 k2 k3 (by rw [e1]; exact hce) hcv hcl T' rfl X'
    exact ⟨t2, st.trans a1, b1⟩
theorem vx_calld {S SX : Type} {post : UInt64 → S → Prop} {px : SX → Prop} {B : S → State → Prop} {BX : String → SX → State → Prop} {AX : Nat → Prop} (hr : vx_Run p l e R s m args below meth c H locs cells slots mc ms (F0 m pc ls st0) rest (va_Qd post B A1 a) (vx_X px BX AX) free) (hS : va_S A0 H0 H locs) (hA : ∀ q, q < H.size → A1 q → A0 q) (hf : ∀ q, free q → A0 q) (hAX : ∀ q, q < H.size → AX q → A0 q)
    (kx : ∀ (E : String) (ce : Cell) (q9 : Addr) (u : SX) (t : State) (H1 : Heap) (locs1 : List Loc), t.heap = H1 → s.vm.Alike t.vm → px u → BX E u t → H.size ≤ H1.size → (∀ q : Nat, q < H.size → ¬ AX q → H1[q]? = H[q]?) → va_S A0 H0 H1 locs1 → H1[q9]? = some ce → ce.vm = .none → s.vm.findClass E = some ce.cls → vx_W p l e R s m args below meth c H1 locs1 (cells + mc) (slots + ms) Q (F0 m pc ls rest) q9)
    (kk : ∀ (r : UInt64) (u : S) (t : State) (H1 : Heap) (locs1 : List Loc), t.heap = H1 → s.vm.Alike t.vm → post r u → B u t → H.size ≤ H1.size → (∀ q : Nat, q < H.size → ¬ A1 q → H1[q]? = H[q]?) → va_S A0 H0 H1 locs1 → W p l e R s m args below meth c H1 locs1 (cells + mc) (slots + ms) Q (F0 m (pc + 3) ls (.double r :: rest))) : W p l e R s m args below meth c H locs cells slots Q (F0 m pc ls st0) := by
  intro T hT X
  rcases hr T hT X with ⟨v, st₀, t, T', L, h0, X', hL, e1, e2, ⟨⟨r, u, hv, hp, hb⟩, hF⟩, st⟩ | ⟨q, st₀, t, T', L, E, ce, h0, X', hL, e1, e2, ⟨u, hp, hb, hF⟩, hce, hcv, hcl, st⟩
  · cases hv
    obtain ⟨k1, k2, k3⟩ := vx_keep h0 e1 hS hA hf hL hF
    obtain ⟨t2, a1, b1⟩ := kk r u t T'.heap (locs ++ L) e1.symm (by rw [← e2]; exact X'.warmed.alike) hp hb k1 k2 k3 T' rfl X'
    exact ⟨t2, st t2 a1, b1⟩
  · obtain ⟨k1, k2, k3⟩ := vx_keep h0 e1 hS hAX hf hL hF
    obtain ⟨t2, a1, b1⟩ := kx E ce q u t T'.heap (locs ++ L) e1.symm (by rw [← e2]; exact X'.warmed.alike) hp hb k1 k2 k3 (by rw [e1]; exact hce) hcv hcl T' rfl X'
    exact ⟨t2, st.trans a1, b1⟩
theorem vx_callv {S SX : Type} {post : S → Prop} {px : SX → Prop} {B : S → State → Prop} {BX : String → SX → State → Prop} {AX : Nat → Prop} (hr : vx_Run p l e R s m args below meth c H locs cells slots mc ms (F0 m pc ls st0) rest (va_Qv post B A1 a) (vx_X px BX AX) free) (hS : va_S A0 H0 H locs) (hA : ∀ q, q < H.size → A1 q → A0 q) (hf : ∀ q, free q → A0 q) (hAX : ∀ q, q < H.size → AX q → A0 q)
    (kx : ∀ (E : String) (ce : Cell) (q9 : Addr) (u : SX) (t : State) (H1 : Heap) (locs1 : List Loc), t.heap = H1 → s.vm.Alike t.vm → px u → BX E u t → H.size ≤ H1.size → (∀ q : Nat, q < H.size → ¬ AX q → H1[q]? = H[q]?) → va_S A0 H0 H1 locs1 → H1[q9]? = some ce → ce.vm = .none → s.vm.findClass E = some ce.cls → vx_W p l e R s m args below meth c H1 locs1 (cells + mc) (slots + ms) Q (F0 m pc ls rest) q9)
    (kk : ∀ (u : S) (t : State) (H1 : Heap) (locs1 : List Loc), t.heap = H1 → s.vm.Alike t.vm → post u → B u t → H.size ≤ H1.size → (∀ q : Nat, q < H.size → ¬ A1 q → H1[q]? = H[q]?) → va_S A0 H0 H1 locs1 → W p l e R s m args below meth c H1 locs1 (cells + mc) (slots + ms) Q (F0 m (pc + 3) ls (rest))) : W p l e R s m args below meth c H locs cells slots Q (F0 m pc ls st0) := by
  intro T hT X
  rcases hr T hT X with ⟨v, st₀, t, T', L, h0, X', hL, e1, e2, ⟨⟨u, hv, hp, hb⟩, hF⟩, st⟩ | ⟨q, st₀, t, T', L, E, ce, h0, X', hL, e1, e2, ⟨u, hp, hb, hF⟩, hce, hcv, hcl, st⟩
  · cases hv
    obtain ⟨k1, k2, k3⟩ := vx_keep h0 e1 hS hA hf hL hF
    obtain ⟨t2, a1, b1⟩ := kk u t T'.heap (locs ++ L) e1.symm (by rw [← e2]; exact X'.warmed.alike) hp hb k1 k2 k3 T' rfl X'
    exact ⟨t2, st t2 a1, b1⟩
  · obtain ⟨k1, k2, k3⟩ := vx_keep h0 e1 hS hAX hf hL hF
    obtain ⟨t2, a1, b1⟩ := kx E ce q u t T'.heap (locs ++ L) e1.symm (by rw [← e2]; exact X'.warmed.alike) hp hb k1 k2 k3 (by rw [e1]; exact hce) hcv hcl T' rfl X'
    exact ⟨t2, st.trans a1, b1⟩
/-- caught by the row x of this method's table; the rows ahead don't take it -/
theorem vx_catch {own name : String} {E : String} {ce : Cell} {q : Addr} (hown : s.vm.findClass own = some m.cls) (pre : List ExceptionTableEntry) (x : ExceptionTableEntry) (suf : List ExceptionTableEntry) (hsplit : c.exceptionTable.toList = pre ++ x :: suf)
    (hpass : ∀ z ∈ pre, covers z pc = false ∨ (z.catchType ≠ 0 ∧ ∃ nm : String, (Cond.classLink own z.catchType nm).before args s = true ∧ va_Nc E nm s)) (hx : covers x pc = true) (h0 : x.catchType ≠ 0)
    (hlink : (Cond.classLink own x.catchType name).before args s = true) (hcast : (Cond.castable E name).before args s = true) (hcell : H[q]? = some ce) (hv : ce.vm = .none) (hcl : s.vm.findClass E = some ce.cls)
    (kk : W p l e R s m args below meth c H locs cells slots Q (F0 m x.handlerPc ls [.ref q])) : vx_W p l e R s m args below meth c H locs cells slots Q (F0 m pc ls rest) q := by
  intro T hT X
  have hpl : e.platform.magicAccessors = ({} : Platform).magicAccessors := by rw [X.admits.platform]
  obtain ⟨c3, c4, hc3, hc4, hasg⟩ := Cond.castable_spec hcast
  cases Option.some.inj (hc3.symm.trans hcl)
  obtain ⟨c5, hc5, hcl5⟩ := Cond.classLink_spec hown hlink e.platform hpl
  cases Option.some.inj (hc4.symm.trans hc5)
  obtain ⟨vm', X', st⟩ := X.thenCaughtThrough q (g := F0 m pc ls rest) rfl (Steps.refl _) (by rw [hT]; exact hcell) (by rw [hv]; rfl) (by obtain ⟨k9, h9, -⟩ := Vm.findClass_spec hcl; exact ⟨k9, h9⟩) pre x suf hsplit
    (fun z hz => by
      rcases hpass z hz with h | ⟨hz0, nm, hl1, hn1⟩
      · exact Or.inl h
      · obtain ⟨c6, hc6, hcl6⟩ := Cond.classLink_spec hown hl1 e.platform hpl
        obtain ⟨a8, b8, h1, h2, h3⟩ := hn1
        cases Option.some.inj (h1.symm.trans hcl)
        cases Option.some.inj (h2.symm.trans hc6)
        exact Or.inr ⟨hz0, _, hcl6, h3⟩) hx (Or.inr ⟨h0, c4, hcl5, hasg⟩)
  obtain ⟨t, a1, b1⟩ := kk (T.setVm vm') hT X'
  exact ⟨t, st.trans a1, b1⟩
end Rows
section Ends
variable {p : Program} {l : Launch} {e : Env} {R : Room} {s : State} {m : MethodId} {args : Array Value} {below : List Frame} {meth : Method} {c : Code} {H : Heap} {locs : List Loc} {cells slots : Nat} {Q : State → Prop}
variable {mc ms : Nat} {free : Addr → Prop} {A0 A1 : Nat → Prop} {H0 : Heap} {a : Array Value} {ls : Array Slot} {st0 rest : List Value}
variable {Qc : Array Value → State → Outcome → State → Prop} {XC : String → State → State → Prop}
/-- what a body that may throw owes at its end -/
def vx_MQ (below : List Frame) (Qc : Array Value → State → Outcome → State → Prop) (XC : String → State → State → Prop) (a : Array Value) (s : State) (mc ms : Nat) (free : Addr → Prop) : State → Prop := fun t =>
  ∃ o, t.status = .running ∧ Ended t below o ∧ vx_Q Qc XC mc ms free a s o t
theorem vx_ret {g : JFrame} {mc ms : Nat} (k : W p l e R s m args below meth c H locs cells slots (MQ below Qc args s mc ms free) g) : W p l e R s m args below meth c H locs cells slots (vx_MQ below Qc XC args s mc ms free) g := by
  intro T hT X
  obtain ⟨t, a1, o, b1, b2, b3, b4⟩ := k T hT X
  exact ⟨t, a1, o, b1, b2, Or.inl ⟨b3, b4⟩⟩
/-- not caught here: it goes on to the caller -/
theorem vx_widen {g : JFrame} {q : Addr} {k n : Nat} (h1 : cells ≤ k) (h2 : slots ≤ n) (kk : vx_W p l e R s m args below meth c H locs k n Q g q) : vx_W p l e R s m args below meth c H locs cells slots Q g q := fun T hT X => kk T hT (stand_widen X h1 h2)
theorem vx_out {pc : Nat} {E : String} {ce : Cell} {q : Addr} {mc ms : Nat} (hout : ∀ x ∈ c.exceptionTable.toList, covers x pc = false) (hlocks : meth.locks = false) (hcell : H[q]? = some ce) (hv : ce.vm = .none) (hcl : s.vm.findClass E = some ce.cls)
    (hx : ∀ t : State, t.heap = H → s.vm.Alike t.vm → XC E s t) (hf : ∀ z ∈ locs, free z.base) (hc : cells ≤ mc) (hs : slots ≤ ms) :
    vx_W p l e R s m args below meth c H locs cells slots (vx_MQ below Qc XC args s mc ms free) (F0 m pc ls rest) q := by
  intro T hT X
  obtain ⟨st1, hrun, hend, hW, hsm⟩ := X.leaveThrown q (g := F0 m pc ls rest) rfl rfl rfl hout hlocks
  have hcell9 : (T.setFrames (.throwing q :: below)).heap[q]? = some ce := by
    show T.heap[q]? = some ce
    rw [hT]; exact hcell
  exact ⟨_, st1, .threw q, hrun, hend, Or.inr ⟨q, rfl, E, ce, locs, hx _ hT hW.alike, hcell9, hv, hcl, hW, hsm.mono hc hs, hf⟩⟩
theorem vx_frame {U : State} {k n : Nat} (h : s.sameButNew ({ U with vm := s.vm } : State) locs k n) : s.heap.size ≤ U.heap.size ∧ ∀ q : Nat, q < s.heap.size → (∀ z ∈ locs, z.base ≠ q) → U.heap[q]? = s.heap[q]? := by
  obtain ⟨-, h2, -, -, -, h6⟩ := h
  refine ⟨h2, fun q hq hz => ?_⟩
  obtain ⟨c9, e1, e2, e3, e4⟩ := h6 q _ (Array.getElem?_eq_getElem hq)
  have hs : c9.slots = (s.heap[q]).slots := Array.ext_getElem? fun i => e4 i fun hm => hz _ hm rfl
  have h9 : c9 = s.heap[q] := by
    rw [hs] at e2
    exact e2
  have e5 : U.heap[q]? = some c9 := e1
  rw [e5, h9, Array.getElem?_eq_getElem hq]
/-- the words of a throw but the four that speak of the heap -/
def vx_no (w : Cond) : Bool := decide (w ≠ .isRef (.static Bundle.tN "UNASSIGNED_STACK" Bundle.steD)) && decide (w ≠ .isRef (.static Bundle.tN "SUPPRESSED_SENTINEL" Bundle.listD)) && decide (w ≠ .laysStatic Bundle.tN "UNASSIGNED_STACK" Bundle.steD) && decide (w ≠ .laysStatic Bundle.tN "SUPPRESSED_SENTINEL" Bundle.listD)
def vx_at0 (own : String) (ic : Nat) (X : String) (names : List String) : List Cond := (Bundle.ownAtoms0 own ic X names).filter vx_no
def vx_atS (own : String) (ic : Nat) (X : String) (names : List String) : List Cond := (Bundle.ownAtoms own ic X names).filter vx_no
/-- a word that the tables alone decide, or a good one -/
def vx_ot (w : Cond) : Bool := w.onTables || goodWord w
theorem vx_ot_at {args a' : Array Value} {s U : State} {w : Cond} (hW : s.WarmedH U.vm) (hvm : s.vm = U.vm) (hg : vx_ot w = true) (h : w.before args s = true) : w.before a' U = true := by
  simp only [vx_ot, Bool.or_eq_true] at hg
  rcases hg with hg | hg
  · exact va_tabs hg hvm h
  · exact word_at hW (good_of_word hg) h
/-- a list's words: the good ones out of the method's own list, the others by premises of their own -/
theorem vx_hat {args : Array Value} {s : State} {L B : List Cond} (h1 : ∀ w ∈ L.filter goodWord, w.before args s = true) (h2 : ∀ w ∈ L.filter (fun w => !goodWord w), w ∈ B) (h3 : ∀ w ∈ B, w.before args s = true) : ∀ w ∈ L, w.before args s = true := by
  intro w hw
  by_cases g : goodWord w = true
  · exact h1 w (List.mem_filter.mpr ⟨hw, g⟩)
  · refine h3 w (h2 w (List.mem_filter.mpr ⟨hw, ?_⟩))
    show (!goodWord w) = true
    cases hgw : goodWord w
    · rfl
    · exact absurd hgw g
theorem vx_c {args : Array Value} {s : State} {w : Cond} {B : List Cond} (h : w.before args s = true) (t : ∀ w ∈ B, w.before args s = true) : ∀ w' ∈ w :: B, w'.before args s = true := fun w' h' => (List.mem_cons.mp h').elim (fun e => by rw [e]; exact h) (t w')
theorem vx_n {args : Array Value} {s : State} : ∀ w ∈ ([] : List Cond), w.before args s = true := fun _ h => nomatch h
theorem vx_own {args : Array Value} {s : State} {L : List Cond} (h1 : ∀ w ∈ L.filter vx_no, w.before args s = true)
    (hU : (Cond.isRef (.static Bundle.tN "UNASSIGNED_STACK" Bundle.steD)).before args s = true) (hN : (Cond.isRef (.static Bundle.tN "SUPPRESSED_SENTINEL" Bundle.listD)).before args s = true)
    (lU : (Cond.laysStatic Bundle.tN "UNASSIGNED_STACK" Bundle.steD).before args s = true) (lN : (Cond.laysStatic Bundle.tN "SUPPRESSED_SENTINEL" Bundle.listD).before args s = true) : ∀ w ∈ L, w.before args s = true := by
  intro w hw
  by_cases e1 : w = .isRef (.static Bundle.tN "UNASSIGNED_STACK" Bundle.steD)
  · rw [e1]; exact hU
  · by_cases e2 : w = .isRef (.static Bundle.tN "SUPPRESSED_SENTINEL" Bundle.listD)
    · rw [e2]; exact hN
    · by_cases e3 : w = .laysStatic Bundle.tN "UNASSIGNED_STACK" Bundle.steD
      · rw [e3]; exact lU
      · by_cases e4 : w = .laysStatic Bundle.tN "SUPPRESSED_SENTINEL" Bundle.listD
        · rw [e4]; exact lN
        · exact h1 w (List.mem_filter.mpr ⟨hw, by unfold vx_no; rw [decide_eq_true e1, decide_eq_true e2, decide_eq_true e3, decide_eq_true e4]; rfl⟩)
/-- where a static field lies, its class's statics cell in H -/
def vx_L (C n d : String) (A : Nat → Prop) (U : State) (H : Heap) : Prop := ∃ (c : ClassId) (k : Class) (i : Nat) (f : Field) (a : Nat) (cell : Cell), U.vm.findClass C = some c ∧ U.fieldFound? C n d = some (c, k, i, f) ∧ f.isStatic = true ∧ k.statics = some a ∧ H[a]? = some cell ∧ cell.vm.isStatics = true ∧ cell.cls = c ∧ f.slot < cell.slots.size ∧ k.staticTypes[f.slot]? = some f.type ∧ ¬ A a
theorem vx_L.moved {C n d : String} {A : Nat → Prop} {u U : State} {H : Heap} (hvm : u.vm.Alike U.vm) (h : vx_L C n d A u H) : vx_L C n d A U H := by
  obtain ⟨c, k, i, f, a, cell, h1, h2, h3, h4, h5, h6, h7, h8, h9, h10⟩ := h
  obtain ⟨k', hi', he⟩ := State.fieldFound?_setVm hvm h2
  exact ⟨c, k', i, f, a, cell, by rw [hvm.findClass]; exact h1, hi', h3, by rw [he]; exact h4, h5, h6, h7, h8, by rw [he]; exact h9, h10⟩
theorem vx_L.kept {C n d : String} {A : Nat → Prop} {U : State} {H H1 : Heap} (h : vx_L C n d A U H) (hq : ∀ a : Nat, a < H.size → ¬ A a → H1[a]? = H[a]?) : vx_L C n d A U H1 := by
  obtain ⟨c, k, i, f, a, cell, h1, h2, h3, h4, h5, h6, h7, h8, h9, h10⟩ := h
  exact ⟨c, k, i, f, a, cell, h1, h2, h3, h4, by rw [hq a (Array.getElem?_eq_some_iff.mp h5).1 h10]; exact h5, h6, h7, h8, h9, h10⟩
theorem vx_L.narrow {C n d : String} {A B : Nat → Prop} {U : State} {H : Heap} (h : vx_L C n d A U H) (hAB : ∀ q, B q → A q) : vx_L C n d B U H := by
  obtain ⟨c, k, i, f, a, cell, h1, h2, h3, h4, h5, h6, h7, h8, h9, h10⟩ := h
  exact ⟨c, k, i, f, a, cell, h1, h2, h3, h4, h5, h6, h7, h8, h9, fun z => h10 (hAB _ z)⟩
theorem vx_L.word {C n d : String} {A : Nat → Prop} {s : State} {args : Array Value} (h : vx_L C n d A s s.heap) : (Cond.laysStatic C n d).before args s = true := by
  obtain ⟨c, k, i, f, a, cell, h1, h2, h3, h4, h5, h6, h7, h8, h9, -⟩ := h
  show (Cond.laysStatic C n d).holds args s none s [] = true
  exact Cond.laysStatic_of h1 h2 h3 h4 h5 h6 h7 h8 h9
/-- .. and what it holds: null or some reference -/
def vx_Zq (C n d : String) (A : Nat → Prop) (U : State) (H : Heap) : Prop := va_Zq C n d A U H ∧ vx_L C n d A U H
theorem vx_Zq.moved {C n d : String} {A : Nat → Prop} {u U : State} {H : Heap} (hvm : u.vm.Alike U.vm) (h : vx_Zq C n d A u H) : vx_Zq C n d A U H := ⟨va_Zq.moved hvm h.1, vx_L.moved hvm h.2⟩
theorem vx_Zq.kept {C n d : String} {A : Nat → Prop} {U : State} {H H1 : Heap} (h : vx_Zq C n d A U H) (hq : ∀ a : Nat, a < H.size → ¬ A a → H1[a]? = H[a]?) : vx_Zq C n d A U H1 := ⟨va_Zq.kept h.1 hq, vx_L.kept h.2 hq⟩
theorem vx_Zq.narrow {C n d : String} {A B : Nat → Prop} {U : State} {H : Heap} (h : vx_Zq C n d A U H) (hAB : ∀ q, B q → A q) : vx_Zq C n d B U H := ⟨va_Zq.narrow h.1 hAB, vx_L.narrow h.2 hAB⟩
theorem vx_Zqof {args : Array Value} {s : State} {C n d : String} {A : Nat → Prop} (hl : (Cond.laysStatic C n d).before args s = true) (hini : (Cond.initialized C).before args s = true) (h : (Cond.isRef (.static C n d)).before args s = true) (hA : ∀ a : Nat, a < s.heap.size → ¬ A a) : vx_Zq C n d A s s.heap := by
  refine ⟨va_Zqof hl hini h hA, ?_⟩
  obtain ⟨c, k, i, f, a, cell, h1, h2, h3, h4, h5, h6, h7, h8, h9⟩ := Cond.laysStatic_spec hl
  exact ⟨c, k, i, f, a, cell, h1, h2, h3, h4, h5, h6, h7, h8, h9, hA a (Array.getElem?_eq_some_iff.mp h5).1⟩
theorem vx_isRef {C n d : String} {v : Value} {A : Nat → Prop} {s : State} {args : Array Value} (h : va_Z C n d v A s s.heap) (hv : v.isRef = true) : (Cond.isRef (.static C n d)).before args s = true := by
  obtain ⟨cf, kf, fi, f, a, cell, h1, h2, h3, h4, h5, h6, h7, -⟩ := h
  have he : (Term.static C n d).eval args s none [] s = some v := by
    simp [Term.eval, State.fieldNamed?, h1, h2, h4, h5, h6, h7]
  simp only [Cond.before, Cond.holds, Cond.value, he]
  cases v <;> simp_all [Value.isRef]
theorem vx_isRefq {C n d : String} {A : Nat → Prop} {s : State} {args : Array Value} (h : va_Zq C n d A s s.heap) : (Cond.isRef (.static C n d)).before args s = true := by
  rcases h with h | ⟨t, h⟩
  · exact vx_isRef h rfl
  · exact vx_isRef h rfl
/-- the same frame, seen from here: as if the method were called anew in this heap -/
theorem vx_rebase {T : State} (X : Stand p l e R s m args below meth c T locs cells slots) {R' : Room} (hf : R'.frames ≤ R.frames) (hl : R'.locals ≤ R.locals) (hc : cells + R'.cells ≤ R.cells) (hs : slots + R'.slots ≤ R.slots) :
    Stand p l e R' ((T.setVm s.vm).setFrames (.invoking m args :: below)) m args below meth c T [] 0 0 := by
  have htop : (T.setVm s.vm).topJava?.isSome := X.here.top
  have hF : ((T.setVm s.vm).setFrames (.invoking m args :: below)).frames = .invoking m args :: below := State.frames_setFrames _ (State.cur_lt_of_top htop)
  obtain ⟨g₀, hg0⟩ := Option.isSome_iff_exists.mp htop
  obtain ⟨r, hr⟩ := State.topJava?_eq_some.mp hg0
  have hl9 : e.platform.stackLimits (T.setVm s.vm).me = e.platform.stackLimits s.me := X.limits
  have hb9 : (T.setVm s.vm).me.stackBytes = s.me.stackBytes := X.bytes
  refine ⟨X.admits, X.cas, X.clock, hF, ?_, X.hears, X.method, X.code, X.here, X.tail, X.warmed, ?_, ?_, ?_⟩
  · have h := X.room
    have hU : ((T.setVm s.vm).setFrames (.invoking m args :: below)).localsInUse = s.localsInUse := by
      rw [State.localsInUse_invoking hF (meth := meth) (c := c) X.method X.code, State.localsInUse_invoking X.frames X.method X.code]
    simp only [State.hasRoom, Bool.and_eq_true, decide_eq_true_eq] at h ⊢
    obtain ⟨⟨⟨⟨h1, h2, h3, h4, h5, h6⟩, h7⟩, h8⟩, h9⟩ := h
    rw [X.frames, List.length_cons] at h2 h3
    have q1 := X.heapSize
    have q2 := X.used
    simp only [hF, hU, List.length_cons, State.stackLimits_setFrames, State.stackBytes_setFrames, hl9, hb9]
    refine ⟨⟨⟨⟨by omega, by omega, by omega, by omega, by omega, h6⟩, ?_⟩, ?_⟩, X.book⟩
    · show T.heap.size + R'.cells ≤ e.platform.maxCells
      omega
    · show T.slotsUsed + R'.slots ≤ e.platform.maxSlots
      omega
  · rw [State.stackLimits_setFrames]; rfl
  · rw [State.stackBytes_setFrames]; rfl
  · refine ⟨?_, Nat.le_refl _, Nat.le_refl _, ?_, ?_, fun a c9 h9 => ⟨c9, h9, rfl, rfl, fun _ _ => rfl⟩⟩
    · obtain ⟨t, ht, -⟩ := State.frames_cons hr
      show T.setVm s.vm = { ((T.setVm s.vm).setFrames (.invoking m args :: below)).setFrames (T.setVm s.vm).frames with heap := T.heap, slotsUsed := T.slotsUsed }
      rw [State.setFrames_setFrames, State.setFrames_self ht]
      rfl
    · show T.slotsUsed = T.slotsUsed + ((T.heap.toList.drop T.heap.size).map (·.slots.size)).sum
      rw [List.drop_eq_nil_of_le (Nat.le_of_eq Array.length_toList)]
      rfl
    · show ((T.heap.toList.drop T.heap.size).map (·.slots.size)).sum ≤ 0
      rw [List.drop_eq_nil_of_le (Nat.le_of_eq Array.length_toList)]
      exact Nat.le_refl _
/-- 'throw new E()': new; dup; invokespecial; athrow -/
theorem vx_throw0 {cc : ByteArray} {pc : Nat} (hexec : p.tables.exec = Jvm.exec) (hb : c.code = cc) (hl : l.stackTraces = false) {own cls : String} {names : List String} {ik ic mc ms : Nat} {A : Nat → Prop}
    (hown : s.vm.findClass own = some m.cls) (hcls : Bundle.fit cls = true) (hnames : ∀ n ∈ names, Bundle.fit n = true)
    (hk : (Cond.classLink own ik cls).before args s = true) (hini : (Cond.initialized cls).before args s = true) (hat : ∀ w ∈ vx_at0 own ic cls names, w.before args s = true)
    (hgood : ∀ w ∈ Cond.classLink own ik cls :: Cond.initialized cls :: vx_at0 own ic cls names, vx_ot w = true)
    (hU : vx_Zq Bundle.tN "UNASSIGNED_STACK" Bundle.steD A s s.heap) (hN : vx_Zq Bundle.tN "SUPPRESSED_SENTINEL" Bundle.listD A s s.heap) (hS : va_S A s.heap H locs) (hsize : ls.size = c.maxLocals)
    (d0 : decode cc pc = .ok (.new ik, 3)) (d3 : decode cc (pc + 3) = .ok (.dup, 1)) (d4 : decode cc (pc + 4) = .ok (.invokespecial ic, 3)) (d7 : decode cc (pc + 7) = .ok (.athrow, 1))
    (hout : ∀ x ∈ c.exceptionTable.toList, covers x (pc + 7) = false)
    (hRframes : names.length + 3 < R.frames) (hRlocals : (rest.map fun v => v.category).sum + (13 * (names.length + 1) + 42) ≤ R.locals) (hRcells : cells + 1 ≤ R.cells) (hRslots : slots + 6 ≤ R.slots) (hlocks : meth.locks = false)
    (hx : ∀ t : State, s.vm.Alike t.vm → H.size ≤ t.heap.size → (∀ q : Nat, q < H.size → t.heap[q]? = H[q]?) → XC cls s t)
    (hf : ∀ z ∈ locs, free z.base) (hc : cells + 1 ≤ mc) (hs : slots + 6 ≤ ms) :
    W p l e R s m args below meth c H locs cells slots (vx_MQ below Qc XC args s mc ms free) (F0 m pc ls rest) := by
  intro T hT X
  have htr : e.platform.stackTraces = false := (show e.platform.stackTraces = l.stackTraces by rw [X.admits.platform]).trans hl
  have Y := vx_rebase X (R' := { frames := R.frames, locals := R.locals, cells := 1, slots := 6 }) (Nat.le_refl _) (Nat.le_refl _) hRcells hRslots
  obtain ⟨s', hA⟩ : ∃ z, z = (T.setVm s.vm).setFrames (.invoking m args :: below) := ⟨_, rfl⟩
  rw [← hA] at Y
  have hvm : s'.vm = s.vm := by rw [hA]; rfl
  have hhp : s'.heap = H := by rw [hA]; exact hT
  have hW0 : s.WarmedH s'.vm := by rw [hvm]; exact State.WarmedH.refl s
  have hat' : ∀ w ∈ vx_at0 own ic cls names, w.before args s' = true := fun w hw => vx_ot_at hW0 hvm.symm (hgood w (List.mem_cons_of_mem _ (List.mem_cons_of_mem _ hw))) (hat w hw)
  have hk' : (Cond.classLink own ik cls).before args s' = true := vx_ot_at hW0 hvm.symm (hgood _ List.mem_cons_self) hk
  have hini' : (Cond.initialized cls).before args s' = true := vx_ot_at hW0 hvm.symm (hgood _ (List.mem_cons_of_mem _ List.mem_cons_self)) hini
  have hU' : vx_Zq Bundle.tN "UNASSIGNED_STACK" Bundle.steD A s' s'.heap := by rw [hhp]; exact vx_Zq.moved hW0.alike (hU.kept hS.2.1)
  have hN' : vx_Zq Bundle.tN "SUPPRESSED_SENTINEL" Bundle.listD A s' s'.heap := by rw [hhp]; exact vx_Zq.moved hW0.alike (hN.kept hS.2.1)
  have h : ∀ w ∈ Bundle.ownAtoms0 own ic cls names, w.before args s' = true := vx_own hat' (vx_isRefq hU'.1) (vx_isRefq hN'.1) hU'.2.word hN'.2.word
  have hown' : s'.vm.findClass own = some m.cls := by rw [hvm]; exact hown
  have hins : (Cond.instantiable cls 6).before args s' = true := h _ (by simp [Bundle.ownAtoms0])
  obtain ⟨vm₁, cX, kX, hfX, hkX, -, -, X₁, st1⟩ := Y.newCold hexec (own := own) (C := cls) (index := ik) (n := 6) hown' hk' hins hini'
    (g := F0 m pc ls rest) rfl (by rw [hb]; exact d0) (Nat.le_refl _) (Nat.le_refl _)
  generalize hT1 : (T.setVm vm₁).pushCell { cls := cX, slots := kX.instanceTypes.map defaultValue, vm := .none } = T1 at X₁ st1
  have hcat : (Value.ref T.heap.size).category = 1 := rfl
  have hcellA : T1.heap[T.heap.size]? = some (freshCell cX kX) := by rw [← hT1]; exact State.heap_pushCell_size _ _
  have d3' : decode c.code (pc + 3) = .ok (.dup, 1) := by rw [hb]; exact d3
  obtain ⟨U, hsteps, hrun, hend, hW, hsame, ce, hce, hO⟩ := X₁.ctorThrow0 hexec htr (own := own) (cls := cls) (names := names) (ic := ic) hown' hcls hnames h (fun x hx => nomatch hx) hfX hkX hcellA (by rw [hhp, hT]; exact Nat.le_refl _)
    (g := { method := m, pc := pc + 4, locals := ls, stack := .ref T.heap.size :: .ref T.heap.size :: rest, locked := none }) rfl hsize rfl rfl (rest := rest) rfl
    (by rw [hb]; exact d4) (by rw [hb]; exact d7) hout hRframes (by simp only [List.map_cons, List.sum_cons, hcat]; omega) hlocks
  obtain ⟨f1, f2⟩ := vx_frame hsame
  rw [hhp] at f1 f2
  have hWs : s.WarmedH U.vm := State.WarmedH.trans hW0 hW
  have hcl : s.vm.findClass cls = some ce.cls := by
    have h9 := hO.cls
    rw [hvm] at h9
    exact h9
  have hall : s.sameButNew ({ U with vm := s.vm } : State) locs mc ms := by
    subst hA
    obtain ⟨e1, e2⟩ := hsame
    rw [State.setFrames_setFrames] at e1
    have h2 : (T.setVm s.vm).sameButNew ({ U with vm := s.vm } : State) [] (0 + 1) (0 + 6) := ⟨e1, e2⟩
    have h3 := X.same.trans h2
    rw [List.append_nil] at h3
    exact h3.mono hc hs
  refine ⟨U, ?_, .threw T.heap.size, hrun, hend, Or.inr ⟨T.heap.size, rfl, cls, ce, locs, hx U hWs.alike f1 (fun q hq => f2 q hq (fun z hz => nomatch hz)), hce, hO.vm, hcl, hWs, hall, hf⟩⟩
  refine st1 _ ?_
  show Steps p.tables e below (T1.setTop { method := m, pc := pc + 3, locals := ls, stack := .ref T.heap.size :: rest, locked := none }) _
  jvm_step X₁.here [X₁.here.top, hexec, d3', Value.category]
  exact hsteps
/-- 'throw new E("text")': new; dup; ldc; invokespecial; athrow -/
theorem vx_throwS {cc : ByteArray} {pc : Nat} (hexec : p.tables.exec = Jvm.exec) (hb : c.code = cc) (hl : l.stackTraces = false) {own cls text : String} {names : List String} {ik is ic mc ms sa : Nat} {A : Nat → Prop}
    (hown : s.vm.findClass own = some m.cls) (hcls : Bundle.fit cls = true) (hnames : ∀ n ∈ names, Bundle.fit n = true)
    (hk : (Cond.classLink own ik cls).before args s = true) (hini : (Cond.initialized cls).before args s = true) (hstr : vk_R own is text sa s) (hat : ∀ w ∈ vx_atS own ic cls names, w.before args s = true)
    (hgood : ∀ w ∈ Cond.classLink own ik cls :: Cond.initialized cls :: vx_atS own ic cls names, vx_ot w = true)
    (hU : vx_Zq Bundle.tN "UNASSIGNED_STACK" Bundle.steD A s s.heap) (hN : vx_Zq Bundle.tN "SUPPRESSED_SENTINEL" Bundle.listD A s s.heap) (hS : va_S A s.heap H locs) (hsize : ls.size = c.maxLocals)
    (d0 : decode cc pc = .ok (.new ik, 3)) (d3 : decode cc (pc + 3) = .ok (.dup, 1)) (d4 : decode cc (pc + 4) = .ok (.ldc is, 2)) (d6 : decode cc (pc + 6) = .ok (.invokespecial ic, 3)) (d9 : decode cc (pc + 9) = .ok (.athrow, 1))
    (hout : ∀ x ∈ c.exceptionTable.toList, covers x (pc + 9) = false)
    (hRframes : names.length + 3 < R.frames) (hRlocals : (rest.map fun v => v.category).sum + (13 * (names.length + 1) + 43) ≤ R.locals) (hRcells : cells + 1 ≤ R.cells) (hRslots : slots + 6 ≤ R.slots) (hlocks : meth.locks = false)
    (hx : ∀ t : State, s.vm.Alike t.vm → H.size ≤ t.heap.size → (∀ q : Nat, q < H.size → t.heap[q]? = H[q]?) → XC cls s t)
    (hf : ∀ z ∈ locs, free z.base) (hc : cells + 1 ≤ mc) (hs : slots + 6 ≤ ms) :
    W p l e R s m args below meth c H locs cells slots (vx_MQ below Qc XC args s mc ms free) (F0 m pc ls rest) := by
  intro T hT X
  have htr : e.platform.stackTraces = false := (show e.platform.stackTraces = l.stackTraces by rw [X.admits.platform]).trans hl
  have Y := vx_rebase X (R' := { frames := R.frames, locals := R.locals, cells := 1, slots := 6 }) (Nat.le_refl _) (Nat.le_refl _) hRcells hRslots
  obtain ⟨s', hA⟩ : ∃ z, z = (T.setVm s.vm).setFrames (.invoking m args :: below) := ⟨_, rfl⟩
  rw [← hA] at Y
  have hvm : s'.vm = s.vm := by rw [hA]; rfl
  have hhp : s'.heap = H := by rw [hA]; exact hT
  have hW0 : s.WarmedH s'.vm := by rw [hvm]; exact State.WarmedH.refl s
  have hat' : ∀ w ∈ vx_atS own ic cls names, w.before args s' = true := fun w hw => vx_ot_at hW0 hvm.symm (hgood w (List.mem_cons_of_mem _ (List.mem_cons_of_mem _ hw))) (hat w hw)
  have hk' : (Cond.classLink own ik cls).before args s' = true := vx_ot_at hW0 hvm.symm (hgood _ List.mem_cons_self) hk
  have hini' : (Cond.initialized cls).before args s' = true := vx_ot_at hW0 hvm.symm (hgood _ (List.mem_cons_of_mem _ List.mem_cons_self)) hini
  have hU' : vx_Zq Bundle.tN "UNASSIGNED_STACK" Bundle.steD A s' s'.heap := by rw [hhp]; exact vx_Zq.moved hW0.alike (hU.kept hS.2.1)
  have hN' : vx_Zq Bundle.tN "SUPPRESSED_SENTINEL" Bundle.listD A s' s'.heap := by rw [hhp]; exact vx_Zq.moved hW0.alike (hN.kept hS.2.1)
  have h : ∀ w ∈ Bundle.ownAtoms own ic cls names, w.before args s' = true := vx_own hat' (vx_isRefq hU'.1) (vx_isRefq hN'.1) hU'.2.word hN'.2.word
  have hown' : s'.vm.findClass own = some m.cls := by rw [hvm]; exact hown
  have hins : (Cond.instantiable cls 6).before args s' = true := h _ (by simp [Bundle.ownAtoms])
  obtain ⟨vm₁, cX, kX, hfX, hkX, -, -, X₁, st1⟩ := Y.newCold hexec (own := own) (C := cls) (index := ik) (n := 6) hown' hk' hins hini'
    (g := F0 m pc ls rest) rfl (by rw [hb]; exact d0) (Nat.le_refl _) (Nat.le_refl _)
  generalize hT1 : (T.setVm vm₁).pushCell { cls := cX, slots := kX.instanceTypes.map defaultValue, vm := .none } = T1 at X₁ st1
  have hcat : (Value.ref T.heap.size).category = 1 := rfl
  have hcellA : T1.heap[T.heap.size]? = some (freshCell cX kX) := by rw [← hT1]; exact State.heap_pushCell_size _ _
  have d3' : decode c.code (pc + 3) = .ok (.dup, 1) := by rw [hb]; exact d3
  have d4' : decode c.code (pc + 4) = .ok (.ldc is, 2) := by rw [hb]; exact d4
  have hstr' : vk_R own is text sa s' := vk_R.warm hW0 hstr
  obtain ⟨U, hsteps, hrun, hend, hW, hsame, ce, hce, hO⟩ := X₁.ctorThrowS hexec htr (own := own) (cls := cls) (names := names) (ic := ic) hown' hcls hnames h (fun x hx => nomatch hx) hfX hkX hcellA (by rw [hhp, hT]; exact Nat.le_refl _) (msg := .ref sa) rfl
    (g := { method := m, pc := pc + 6, locals := ls, stack := .ref sa :: .ref T.heap.size :: .ref T.heap.size :: rest, locked := none }) rfl hsize rfl rfl (rest := rest) rfl
    (by rw [hb]; exact d6) (by rw [hb]; exact d9) hout hRframes (by simp only [List.map_cons, List.sum_cons, hcat]; omega) hlocks
  obtain ⟨f1, f2⟩ := vx_frame hsame
  rw [hhp] at f1 f2
  have hWs : s.WarmedH U.vm := State.WarmedH.trans hW0 hW
  have hcl : s.vm.findClass cls = some ce.cls := by
    have h9 := hO.cls
    rw [hvm] at h9
    exact h9
  have hall : s.sameButNew ({ U with vm := s.vm } : State) locs mc ms := by
    subst hA
    obtain ⟨e1, e2⟩ := hsame
    rw [State.setFrames_setFrames] at e1
    have h2 : (T.setVm s.vm).sameButNew ({ U with vm := s.vm } : State) [] (0 + 1) (0 + 6) := ⟨e1, e2⟩
    have h3 := X.same.trans h2
    rw [List.append_nil] at h3
    exact h3.mono hc hs
  refine ⟨U, ?_, .threw T.heap.size, hrun, hend, Or.inr ⟨T.heap.size, rfl, cls, ce, locs, hx U hWs.alike f1 (fun q hq => f2 q hq (fun z hz => nomatch hz)), hce, hO.vm, hcl, hWs, hall, hf⟩⟩
  refine st1 _ ?_
  show Steps p.tables e below (T1.setTop { method := m, pc := pc + 3, locals := ls, stack := .ref T.heap.size :: rest, locked := none }) _
  jvm_step X₁.here [X₁.here.top, hexec, d3', Value.category]
  exact X₁.ldcString hexec (own := own) (text := text) (index := is) (a := sa) hown' hstr'.1 hstr'.2
    (g := { method := m, pc := pc + 4, locals := ls, stack := .ref T.heap.size :: .ref T.heap.size :: rest, locked := none }) rfl d4' _ hsteps
/-- 'throw new E("text")', the text by a wide index -/
theorem vx_throwSW {cc : ByteArray} {pc : Nat} (hexec : p.tables.exec = Jvm.exec) (hb : c.code = cc) (hl : l.stackTraces = false) {own cls text : String} {names : List String} {ik is ic mc ms sa : Nat} {A : Nat → Prop}
    (hown : s.vm.findClass own = some m.cls) (hcls : Bundle.fit cls = true) (hnames : ∀ n ∈ names, Bundle.fit n = true)
    (hk : (Cond.classLink own ik cls).before args s = true) (hini : (Cond.initialized cls).before args s = true) (hstr : vk_R own is text sa s) (hat : ∀ w ∈ vx_atS own ic cls names, w.before args s = true)
    (hgood : ∀ w ∈ Cond.classLink own ik cls :: Cond.initialized cls :: vx_atS own ic cls names, vx_ot w = true)
    (hU : vx_Zq Bundle.tN "UNASSIGNED_STACK" Bundle.steD A s s.heap) (hN : vx_Zq Bundle.tN "SUPPRESSED_SENTINEL" Bundle.listD A s s.heap) (hS : va_S A s.heap H locs) (hsize : ls.size = c.maxLocals)
    (d0 : decode cc pc = .ok (.new ik, 3)) (d3 : decode cc (pc + 3) = .ok (.dup, 1)) (d4 : decode cc (pc + 4) = .ok (.ldc_w is, 3)) (d7 : decode cc (pc + 7) = .ok (.invokespecial ic, 3)) (d10 : decode cc (pc + 10) = .ok (.athrow, 1))
    (hout : ∀ x ∈ c.exceptionTable.toList, covers x (pc + 10) = false)
    (hRframes : names.length + 3 < R.frames) (hRlocals : (rest.map fun v => v.category).sum + (13 * (names.length + 1) + 43) ≤ R.locals) (hRcells : cells + 1 ≤ R.cells) (hRslots : slots + 6 ≤ R.slots) (hlocks : meth.locks = false)
    (hx : ∀ t : State, s.vm.Alike t.vm → H.size ≤ t.heap.size → (∀ q : Nat, q < H.size → t.heap[q]? = H[q]?) → XC cls s t)
    (hf : ∀ z ∈ locs, free z.base) (hc : cells + 1 ≤ mc) (hs : slots + 6 ≤ ms) :
    W p l e R s m args below meth c H locs cells slots (vx_MQ below Qc XC args s mc ms free) (F0 m pc ls rest) := by
  intro T hT X
  have htr : e.platform.stackTraces = false := (show e.platform.stackTraces = l.stackTraces by rw [X.admits.platform]).trans hl
  have Y := vx_rebase X (R' := { frames := R.frames, locals := R.locals, cells := 1, slots := 6 }) (Nat.le_refl _) (Nat.le_refl _) hRcells hRslots
  obtain ⟨s', hA⟩ : ∃ z, z = (T.setVm s.vm).setFrames (.invoking m args :: below) := ⟨_, rfl⟩
  rw [← hA] at Y
  have hvm : s'.vm = s.vm := by rw [hA]; rfl
  have hhp : s'.heap = H := by rw [hA]; exact hT
  have hW0 : s.WarmedH s'.vm := by rw [hvm]; exact State.WarmedH.refl s
  have hat' : ∀ w ∈ vx_atS own ic cls names, w.before args s' = true := fun w hw => vx_ot_at hW0 hvm.symm (hgood w (List.mem_cons_of_mem _ (List.mem_cons_of_mem _ hw))) (hat w hw)
  have hk' : (Cond.classLink own ik cls).before args s' = true := vx_ot_at hW0 hvm.symm (hgood _ List.mem_cons_self) hk
  have hini' : (Cond.initialized cls).before args s' = true := vx_ot_at hW0 hvm.symm (hgood _ (List.mem_cons_of_mem _ List.mem_cons_self)) hini
  have hU' : vx_Zq Bundle.tN "UNASSIGNED_STACK" Bundle.steD A s' s'.heap := by rw [hhp]; exact vx_Zq.moved hW0.alike (hU.kept hS.2.1)
  have hN' : vx_Zq Bundle.tN "SUPPRESSED_SENTINEL" Bundle.listD A s' s'.heap := by rw [hhp]; exact vx_Zq.moved hW0.alike (hN.kept hS.2.1)
  have h : ∀ w ∈ Bundle.ownAtoms own ic cls names, w.before args s' = true := vx_own hat' (vx_isRefq hU'.1) (vx_isRefq hN'.1) hU'.2.word hN'.2.word
  have hown' : s'.vm.findClass own = some m.cls := by rw [hvm]; exact hown
  have hins : (Cond.instantiable cls 6).before args s' = true := h _ (by simp [Bundle.ownAtoms])
  obtain ⟨vm₁, cX, kX, hfX, hkX, -, -, X₁, st1⟩ := Y.newCold hexec (own := own) (C := cls) (index := ik) (n := 6) hown' hk' hins hini'
    (g := F0 m pc ls rest) rfl (by rw [hb]; exact d0) (Nat.le_refl _) (Nat.le_refl _)
  generalize hT1 : (T.setVm vm₁).pushCell { cls := cX, slots := kX.instanceTypes.map defaultValue, vm := .none } = T1 at X₁ st1
  have hcat : (Value.ref T.heap.size).category = 1 := rfl
  have hcellA : T1.heap[T.heap.size]? = some (freshCell cX kX) := by rw [← hT1]; exact State.heap_pushCell_size _ _
  have d3' : decode c.code (pc + 3) = .ok (.dup, 1) := by rw [hb]; exact d3
  have d4' : decode c.code (pc + 4) = .ok (.ldc_w is, 3) := by rw [hb]; exact d4
  have hstr' : vk_R own is text sa s' := vk_R.warm hW0 hstr
  obtain ⟨U, hsteps, hrun, hend, hW, hsame, ce, hce, hO⟩ := X₁.ctorThrowS hexec htr (own := own) (cls := cls) (names := names) (ic := ic) hown' hcls hnames h (fun x hx => nomatch hx) hfX hkX hcellA (by rw [hhp, hT]; exact Nat.le_refl _) (msg := .ref sa) rfl
    (g := { method := m, pc := pc + 7, locals := ls, stack := .ref sa :: .ref T.heap.size :: .ref T.heap.size :: rest, locked := none }) rfl hsize rfl rfl (rest := rest) rfl
    (by rw [hb]; exact d7) (by rw [hb]; exact d10) hout hRframes (by simp only [List.map_cons, List.sum_cons, hcat]; omega) hlocks
  obtain ⟨f1, f2⟩ := vx_frame hsame
  rw [hhp] at f1 f2
  have hWs : s.WarmedH U.vm := State.WarmedH.trans hW0 hW
  have hcl : s.vm.findClass cls = some ce.cls := by
    have h9 := hO.cls
    rw [hvm] at h9
    exact h9
  have hall : s.sameButNew ({ U with vm := s.vm } : State) locs mc ms := by
    subst hA
    obtain ⟨e1, e2⟩ := hsame
    rw [State.setFrames_setFrames] at e1
    have h2 : (T.setVm s.vm).sameButNew ({ U with vm := s.vm } : State) [] (0 + 1) (0 + 6) := ⟨e1, e2⟩
    have h3 := X.same.trans h2
    rw [List.append_nil] at h3
    exact h3.mono hc hs
  refine ⟨U, ?_, .threw T.heap.size, hrun, hend, Or.inr ⟨T.heap.size, rfl, cls, ce, locs, hx U hWs.alike f1 (fun q hq => f2 q hq (fun z hz => nomatch hz)), hce, hO.vm, hcl, hWs, hall, hf⟩⟩
  refine st1 _ ?_
  show Steps p.tables e below (T1.setTop { method := m, pc := pc + 3, locals := ls, stack := .ref T.heap.size :: rest, locked := none }) _
  jvm_step X₁.here [X₁.here.top, hexec, d3', Value.category]
  exact X₁.ldcStringW hexec (own := own) (text := text) (index := is) (a := sa) hown' hstr'.1 hstr'.2
    (g := { method := m, pc := pc + 4, locals := ls, stack := .ref T.heap.size :: .ref T.heap.size :: rest, locked := none }) rfl d4' _ hsteps
end Ends
section Bodies
variable {l : Launch}
theorem vx_ofW {y : MethodName} {ws ws' : List Cond} {rm : Room} {Pc : Array Value → State → Prop} {Qc : Array Value → State → Outcome → State → Prop} {XC : String → State → State → Prop} {mc ms : Nat} {free : Addr → Prop} {cc : ByteArray} {maxL : Nat} {ret : Option FieldType}
    (hy : plainName y.cls = true) (hw : ws = Cond.code y cc maxL ret :: ws')
    (body : ∀ p e s m args below meth c s₁, BodyLoose p l y (headSpec ws rm) cc maxL ret e s m args below meth c s₁ → c.maxLocals = maxL → (∀ x ∈ c.exceptionTable.toList, False) → Pc args s →
      W p l e (headSpec ws rm).room s m args below meth c s.heap [] 0 0 (vx_MQ below Qc XC args s mc ms free) (entryFrame m args maxL)) : vx_Met l y ws rm Pc Qc XC mc ms free := by
  refine MetFree.of_bodyS (code := cc) (maxLocals := maxL) (ret := ret) hy ?_ ?_
  · intro args s m h hn
    obtain ⟨meth, c, h1, h2, h3, h4, h5, h6, -, -⟩ := Cond.code_spec hn (atoms_spec (ws := ws) h _ (by rw [hw]; exact List.mem_cons_self))
    exact ⟨meth, c, h1, h2, h3, h4, h5, h6⟩
  · intro p e s m args below meth c s₁ B hml hP _
    have hh0 : s₁.heap = s.heap := by rw [B.state]; rfl
    have ht : ∀ x ∈ c.exceptionTable.toList, False := by
      obtain ⟨meth9, c9, h1, h2, -, -, -, -, h7, -⟩ := Cond.code_spec B.named (atoms_spec (ws := ws) B.pre _ (by rw [hw]; exact List.mem_cons_self))
      cases Option.some.inj (h1.symm.trans B.method)
      cases Option.some.inj (h2.symm.trans (Stand.of_body B).code)
      intro x hx
      rw [Array.isEmpty_iff.mp h7] at hx
      cases hx
    obtain ⟨t, a1, o, b1, b2, b3⟩ := body p e s m args below meth c s₁ B hml ht hP s₁ hh0 (Stand.of_body B)
    exact ⟨t, o, a1, b1, b2, b3⟩
/-- the table of a body with handlers -/
theorem vx_table {p : Program} {x y : MethodName} {S : Spec} {cc bytes : ByteArray} {maxL maxL' : Nat} {ret ret' : Option FieldType} {e : Env} {s s₁ : State} {m : MethodId} {args : Array Value} {below : List Frame} {meth : Method} {c : Code} {hh : List (Nat × Nat × Nat × Nat)}
    (B : BodyLoose p l y S cc maxL ret e s m args below meth c s₁) (h : (Cond.codeWith y bytes maxL' ret' hh).before args s = true) : c.exceptionTable.toList = tableOf hh := by
  obtain ⟨m9, meth9, c9, hn9, h1, h2, -, -, h6, -⟩ := Cond.codeWith_spec h
  cases Option.some.inj (hn9.symm.trans B.named)
  cases Option.some.inj (h1.symm.trans B.method)
  cases Option.some.inj (h2.symm.trans (Stand.of_body B).code)
  rw [← h6, table_eq]
end Bodies
end VXA
/-! ===== END ===== -/
/-! ===== BEGIN a static call of a method with an exception table ===== -/
section VXS
variable {p : Program} {l : Launch} {e : Env} {R : Room} {s : State} {m : MethodId} {args : Array Value} {below : List Frame} {meth : Method} {c : Code} {T : State} {H : Heap} {locs : List Loc} {cells slots : Nat}
abbrev vx_CSW (R : Room) (s : State) (args : Array Value) (own : String) (index : Nat) (y : MethodName) (bytes : ByteArray) (maxL : Nat) (ret : Option FieldType) (hh : List (Nat × Nat × Nat × Nat)) (ws : List Cond) (rm : Room) (mc ms n : Nat) : Prop :=
  (rm.cells = mc ∧ rm.slots = ms ∧ rm.frames + 1 ≤ R.frames ∧ 8 + (maxL + 11) + rm.locals ≤ R.locals ∧ (∀ w ∈ ws, ∀ (a' : Array Value) (U : State), s.WarmedH U.vm → w.before a' U = true) ∧ Cond.codeWith y bytes maxL ret hh ∈ ws) ∧
  (Cond.codeWith y bytes maxL ret hh).before args s = true ∧ (Cond.initialized y.cls).before args s = true ∧ (y.cls ≠ "java/lang/invoke/MethodHandle" ∧ y.cls ≠ "java/lang/invoke/VarHandle") ∧
  (∀ sig, parseMethodDescriptor y.desc = some sig → n = sig.parameters.length) ∧ (Cond.methodLink own index y).before args s = true ∧ (Cond.static y).before args s = true
theorem vx_cwSW {own : String} {index maxL mc ms : Nat} {y : MethodName} {bytes : ByteArray} {ret : Option FieldType} {hh : List (Nat × Nat × Nat × Nat)} {Ts ws ws' : List Cond} {rm : Room} (n : Nat) (ht : ∀ w ∈ Ts, w.before args s = true) (hT : GoodIn Ts (va_wsS own index y ws)) (hw : ws = Cond.codeWith y bytes maxL ret hh :: ws') (hrc : rm.cells = mc) (hrs : rm.slots = ms)
    (hd : y.cls ≠ "java/lang/invoke/MethodHandle" ∧ y.cls ≠ "java/lang/invoke/VarHandle" ∧ (parseMethodDescriptor y.desc).map (fun d => d.parameters.length) = some n) (hR : rm.frames + 1 ≤ R.frames ∧ 8 + (maxL + 11) + rm.locals ≤ R.locals) :
    vx_CSW R s args own index y bytes maxL ret hh ws rm mc ms n := by
  have ok : ∀ w ∈ va_wsS own index y ws, w.before args s = true := fun w h => ht w (hT w h).1
  have hG : GoodIn Ts ws := fun w h => hT w (by unfold va_wsS; exact List.mem_append_right _ h)
  have hc : Cond.codeWith y bytes maxL ret hh ∈ ws := by rw [hw]; exact List.mem_cons_self
  refine ⟨⟨hrc, hrs, hR.1, hR.2, pay_in ht hG, hc⟩, ht _ (hG _ hc).1, ok _ (by simp [va_wsS]), ⟨hd.1, hd.2.1⟩, fun sig h => ?_, ok _ (by simp [va_wsS]), ok _ (by simp [va_wsS])⟩
  have h2 := hd.2.2
  rw [h] at h2
  exact (Option.some.inj h2).symm
theorem vx_callSW (X : Stand p l e R s m args below meth c T locs cells slots) (hexec : p.tables.exec = Jvm.exec) {own : String} {index : Nat} {y : MethodName} {bytes : ByteArray} {maxL : Nat} {ret : Option FieldType} {hh : List (Nat × Nat × Nat × Nat)}
    (hown : s.vm.findClass own = some m.cls) (hlink : (Cond.methodLink own index y).before args s = true) (hstat : (Cond.static y).before args s = true) (hinit : (Cond.initialized y.cls).before args s = true)
    (hcode : (Cond.codeWith y bytes maxL ret hh).before args s = true) (hy : y.cls ≠ "java/lang/invoke/MethodHandle" ∧ y.cls ≠ "java/lang/invoke/VarHandle")
    {W9 : Nat} {Pre : Pt → Array Value → Prop} {Post : Pt → Array Value → Option Value → Pt → Prop} (hK : Back l R p e below s args y 3 W9 Pre Post)
    {g : JFrame} (hg : g.method = m) (hsize : g.locals.size = c.maxLocals) {argsL rest : List Value} (hlen : ∀ sig, parseMethodDescriptor y.desc = some sig → argsL.length = sig.parameters.length)
    (hstack : g.stack = argsL.reverse ++ rest) (hW : 2 * g.monitorRoom + (rest.map fun v => v.category).sum ≤ W9) (hdg : decode c.code g.pc = .ok (.invokestatic index, 3))
    (hpre : ∀ vm₁, s.WarmedH vm₁ → Pre ⟨T.setVm vm₁, locs, cells, slots⟩ argsL.toArray) :
    ∃ (v : Option Value) (vm₁ : Vm) (B : Pt), s.WarmedH vm₁ ∧ Stand p l e R s m args below meth c B.U B.locs B.cells B.slots ∧ Post ⟨T.setVm vm₁, locs, cells, slots⟩ argsL.toArray v B ∧
      ∀ target, Steps p.tables e below (B.U.setTop { g with pc := g.pc + 3, stack := v.toList ++ rest }) target → Steps p.tables e below (T.setTop g) target := by
  obtain ⟨mk, methM, cM, hnamed, hmethM, -, -, -, -, -, -, hsigM⟩ := Cond.codeWith_spec hcode
  have hstatic : methM.isStatic = true := Cond.static_spec hnamed hmethM hstat
  obtain ⟨kP, hkP, -⟩ := className_of_methodNamed hnamed
  have hinitP : kP.init = .initialized := Cond.initialized_spec (findClass_of_methodNamed hnamed) hkP hinit
  obtain ⟨vm₁, X₁, hstep₁⟩ := X.invokestatic hexec hown hlink hnamed hmethM hstatic hkP hinitP hy (g := g) hg (argsL := argsL) (rest := rest) (hlen _ hsigM) hstack hdg
  obtain ⟨v, B, X', hpost, hsteps⟩ := hK m meth c ⟨T.setVm vm₁, locs, cells, slots⟩ { g with stack := rest } (.invokestatic index) mk argsL.toArray X₁ hg hsize hdg hW (X₁.named hnamed) (hpre vm₁ X₁.warmed)
  exact ⟨v, vm₁, B, X₁.warmed, X', hpost, fun target h => hstep₁ _ fun acts => by rw [doInvoke_state]; exact hsteps.trans h⟩
theorem vx_runSW {y : MethodName} {bytes cc : ByteArray} {maxL nL mc ms n index : Nat} {ret : Option FieldType} {hh : List (Nat × Nat × Nat × Nat)} {ws : List Cond} {rm : Room} {Pc : Array Value → State → Prop} {Qc : Array Value → State → Outcome → State → Prop} {free : Addr → Prop} {Ts : List Cond} {own : String} {As rest : List Value} {g : JFrame}
    (S : CallFix p m c cc nL s args Ts own) (hM : Met l y ws rm Pc Qc mc ms free) (cw : vx_CSW R s args own index y bytes maxL ret hh ws rm mc ms n) (hp : PreS s H Pc As)
    (hg : g.method = m) (hn : As.length = n) (hsize : g.locals.size = nL) (hstack : g.stack = As.reverse ++ rest) (hW : 2 * g.monitorRoom + (rest.map fun v => v.category).sum ≤ 8) (hdg : decode cc g.pc = .ok (.invokestatic index, 3)) (hf : cells + mc ≤ R.cells ∧ slots + ms ≤ R.slots) :
    va_Run p l e R s m args below meth c H locs cells slots mc ms g rest (Qc As.toArray) (free) := by
  obtain ⟨⟨hrc, hrs, hfr, hlo, hws, hcw⟩, hcode, hini, hy, hlen, hl, hstt⟩ := cw
  have hK : Back l R p e below s args y 3 8 (PreOf R mc ms Pc) (PostOf Qc mc ms free) := va_backW (hh := hh) (bytes := bytes) (maxL := maxL) (ret := ret) hM hp.1 hrc hrs hfr hlo hws hcw (fun a' U hW => word_at hW (Or.inl (by first | rfl | simp [Cond.onTables, Cond.keeps, Cond.steady])) hini)
  obtain ⟨hx, hb, hml, ho, -⟩ := S
  intro T hT X
  obtain ⟨v, vm₁, ⟨U', l2, c2, s2⟩, hW₁, X', ⟨g', mk, t, L, e1, e2, hq, h1, hL, h2, h3⟩, st⟩ := vx_callSW X hx (hh := hh) (bytes := bytes) (maxL := maxL) (ret := ret) ho hl hstt hini hcode hy hK hg (hsize.trans hml.symm) (argsL := As) (rest := rest) (fun sig h => hn.trans (hlen sig h)) hstack hW (by rw [hb]; exact hdg)
    (fun vm₁ hW₁ => ⟨hf.1, hf.2, hp.2 (T.setVm vm₁) hT hW₁⟩)
  dsimp only [Pt.U, Pt.locs, Pt.cells, Pt.slots] at X' e1 e2 h1 h2 h3 st
  subst h1; subst h2; subst h3
  exact ⟨v, (T.setVm vm₁).calling g' mk As.toArray, t, U', L, hT, X', hL, e1, e2, hq, st⟩
/-- not caught here, past rows that name other classes: it goes on to the caller -/
theorem vx_outP {p : Program} {l : Launch} {e : Env} {R : Room} {s : State} {m : MethodId} {args : Array Value} {below : List Frame} {meth : Method} {c : Code} {H : Heap} {locs : List Loc} {cells slots : Nat} {free : Addr → Prop} {ls : Array Slot} {rest : List Value} {Qc : Array Value → State → Outcome → State → Prop} {XC : String → State → State → Prop}
    {pc : Nat} {own E : String} {ce : Cell} {q : Addr} {mc ms : Nat} (hown : s.vm.findClass own = some m.cls) (hlocks : meth.locks = false)
    (hpass : ∀ z ∈ c.exceptionTable.toList, covers z pc = false ∨ (z.catchType ≠ 0 ∧ ∃ nm : String, (Cond.classLink own z.catchType nm).before args s = true ∧ va_Nc E nm s)) (hcell : H[q]? = some ce) (hv : ce.vm = .none) (hcl : s.vm.findClass E = some ce.cls)
    (hx : ∀ t : State, t.heap = H → s.vm.Alike t.vm → XC E s t) (hf : ∀ z ∈ locs, free z.base) (hc : cells ≤ mc) (hs : slots ≤ ms) :
    vx_W p l e R s m args below meth c H locs cells slots (vx_MQ below Qc XC args s mc ms free) (F0 m pc ls rest) q := by
  intro T hT X
  have hpl : e.platform.magicAccessors = ({} : Platform).magicAccessors := by rw [X.admits.platform]
  obtain ⟨vm', hW', X', st⟩ := X.outThrough hlocks q (g := F0 m pc ls rest) rfl rfl rfl (cell := ce) (by rw [hT]; exact hcell) (by rw [hv]; rfl)
    (by obtain ⟨k9, h9, -⟩ := Vm.findClass_spec hcl; exact ⟨k9, h9⟩) (fun z hz => by
      rcases hpass z hz with h | ⟨hz0, nm, hl1, hn1⟩
      · exact Or.inl h
      · obtain ⟨c6, hc6, hcl6⟩ := Cond.classLink_spec hown hl1 e.platform hpl
        obtain ⟨a8, b8, h1, h2, h3⟩ := hn1
        cases Option.some.inj (h1.symm.trans hcl)
        cases Option.some.inj (h2.symm.trans hc6)
        exact Or.inr ⟨hz0, _, hcl6, h3⟩)
  obtain ⟨g₀, hfr⟩ := X'.frames_eq
  have hcell9 : ((T.setVm vm').setFrames (.throwing q :: below)).heap[q]? = some ce := by
    show T.heap[q]? = some ce
    rw [hT]; exact hcell
  have hend : Ended ((T.setVm vm').setFrames (.throwing q :: below)) below (.threw q) := State.frames_setFrames _ (State.cur_lt_of_frames hfr)
  refine ⟨(T.setVm vm').setFrames (.throwing q :: below), ?_, .threw q, X'.here.running, hend, Or.inr ⟨q, rfl, E, ce, locs, hx _ hT (X'.ends _).1.alike, hcell9, hv, hcl, (X'.ends _).1, (X'.ends _).2.mono hc hs, hf⟩⟩
  rw [X.pushThrowing_eq]
  exact st
/-- a thing of a world lies in the heap -/
theorem vx_lt {D : va_G} {cl : List vw_C} {ws : va_W} {H1 : Heap} (h : va_P D cl ws H1) {k : Nat} {q : Nat × va_E} (hk : ws[k]? = some q) : q.1 < H1.size := (h k q hk).lt
end VXS
/-! ===== END ===== -/
/-! ===== BEGIN methods with a table of their own: called by a name, returning or throwing ===== -/
section VXH
/-! vx_backW, vx_callVX, vx_callSX, vx_callVW, vx_runVW, vx_runVX, vx_runSX, vx_ofWH follow the same proofs as their sisters above (Free/Laws.lean, Shelf42/LK1.lean); vx_outP calls Shelf42/NT130.lean (outThrough). -/
section
variable {l : Launch} {R : Room} {p : Program} {e : Env} {below : List Frame} {s : State} {sargs : Array Value} {y : MethodName} {len W9 : Nat}
theorem vx_backW {ws : List Cond} {rm : Room} {Pc : Array Value → State → Prop} {Qc : Array Value → State → Outcome → State → Prop} {XC : String → State → State → Prop} {mc ms : Nat} {free : Addr → Prop} {bytes : ByteArray} {maxL : Nat} {ret : Option FieldType} {hh : List (Nat × Nat × Nat × Nat)}
    (hM : vx_Met l y ws rm Pc Qc XC mc ms free) (hblind : FrameBlind Pc) (hrc : rm.cells = mc) (hrs : rm.slots = ms)
    (hframes : rm.frames + 1 ≤ R.frames) (hlocals : W9 + (maxL + 11) + rm.locals ≤ R.locals)
    (hws : ∀ w ∈ ws, ∀ a' U, s.WarmedH U.vm → w.before a' U = true) (hcode : Cond.codeWith y bytes maxL ret hh ∈ ws) (hinit : ∀ a' U, s.WarmedH U.vm → (Cond.initialized y.cls).before a' U = true) :
    vx_Back l R p e below s sargs y len W9 (PreOf R mc ms Pc) (PostOf Qc mc ms free) (vx_Post XC mc ms free) := by
  intro m meth c A g ig mk a X hg hsize hdg hW hn hp
  have h1 : (headSpec ws rm).pre.before a A.U = true := atoms_intro fun w hw => hws w hw _ _ X.warmed
  have h2 : (Cond.codeWith y bytes maxL ret hh).before a A.U = true := hws _ hcode _ _ X.warmed
  have h3 : (Cond.initialized y.cls).before a A.U = true := hinit _ _ X.warmed
  have h4 : A.cells + (headSpec ws rm).room.cells ≤ R.cells := by rw [show (headSpec ws rm).room.cells = mc from hrc]; exact hp.1
  have h5 : A.slots + (headSpec ws rm).room.slots ≤ R.slots := by rw [show (headSpec ws rm).room.slots = ms from hrs]; exact hp.2.1
  have hPc : Pc a (A.U.calling g mk a) := hblind _ _ _ _ hp.2.2
  obtain ⟨U, Ls, c0, s0⟩ := A
  dsimp only [Pt.U, Pt.locs, Pt.cells, Pt.slots] at h1 h2 h3 h4 h5 X hn hPc ⊢
  obtain ⟨m9, methY, cY, hn9, hmY, hcY, -, hlY, -⟩ := Cond.codeWith_spec h2
  cases Option.some.inj (hn9.symm.trans hn)
  obtain ⟨kY, hkY, -⟩ := className_of_methodNamed hn
  have hinitY : kY.init = .initialized := Cond.initialized_spec (findClass_of_methodNamed hn) hkY h3
  have h : At U g.method c below := by rw [hg]; exact X.here
  have hlocals9 : W9 + (maxL + 11) + (headSpec ws rm).room.locals ≤ R.locals := hlocals
  have happ : (headSpec ws rm).appliesLoose y e.platform (U.calling g mk a) = true :=
    Spec.appliesLoose_calling (g := g) h hdg hn hkY hinitY
      (X.room_calling (g := g) (R' := (headSpec ws rm).room) hsize hmY hcY hframes (by rw [hlY]; omega) h4 h5) h1
  obtain ⟨mid, hmid⟩ := h.above
  have hfr : (U.setTop g).frames = (.java g :: mid) ++ below := by rw [State.frames_setTop' g h.top, hmid]; rfl
  obtain ⟨o, s₂, hsteps, -, hend, hq⟩ := Steps.callFree hM p X.admits X.cas X.clock (acts := []) hfr happ hPc trivial
  have hq' : vx_Q Qc XC mc ms free a (U.calling g mk a) o s₂ := hq
  rw [State.frames_setTop' g h.top] at hend
  obtain ⟨g₀, hg0⟩ := Option.isSome_iff_exists.mp h.top
  obtain ⟨r, hr⟩ := State.topJava?_eq_some.mp hg0
  have hr' : (({ U with heap := s₂.heap, slotsUsed := s₂.slotsUsed } : State).setVm s₂.vm).frames = .java g₀ :: r := hr
  rcases hq' with ⟨hqc, L, hfe, hL⟩ | ⟨q, rfl, E, ce, L, hx, hce, hcv, hcl, hW₂, hsm, hL⟩
  · obtain ⟨⟨v, rfl⟩, hW₂, e2, q2, q3, q4, q5, q6⟩ := id hfe
    have e3 : s₂ = ({ (U.calling g mk a).setFrames s₂.frames with heap := s₂.heap, slotsUsed := s₂.slotsUsed } : State).setVm s₂.vm := by
      have : s₂ = ({ s₂ with vm := (U.calling g mk a).vm } : State).setVm s₂.vm := rfl
      rw [e2] at this
      exact this
    obtain ⟨c₂, i₂, len₂, hc₂, hd₂, hf₂⟩ := hend
    have hW' : U.WarmedH s₂.vm := hW₂
    have hcc : c₂ = c := by
      have h1 : s₂.code? g.method = U.code? g.method := by
        rw [State.code?_eq, State.code?_eq, hW'.alike.method?]
      exact Option.some.inj (hc₂.symm.trans (h1.trans h.code))
    subst hcc
    have hlen : len₂ = len := by rw [hdg] at hd₂; cases hd₂; rfl
    subst hlen
    have hs₂ : s₂ = (({ U with heap := s₂.heap, slotsUsed := s₂.slotsUsed } : State).setVm s₂.vm).setTop { g with pc := g.pc + len₂, stack := v.toList ++ g.stack } := by
      refine e3.trans ?_
      rw [hf₂, State.calling_eq h.top, State.setFrames_setFrames, State.setTop_of_frames _ hr', hr]
      rfl
    have hsame : U.sameButNew ({ U with heap := s₂.heap, slotsUsed := s₂.slotsUsed } : State) L mc ms := by
      refine ⟨?_, q2, q3, q4, q5, q6⟩
      obtain ⟨t, ht, -⟩ := State.frames_cons hr
      show ({ U with heap := s₂.heap, slotsUsed := s₂.slotsUsed } : State) = { U.setFrames U.frames with heap := s₂.heap, slotsUsed := s₂.slotsUsed }
      rw [State.setFrames_self ht]
    subst hg
    refine Or.inl ⟨v, ⟨(({ U with heap := s₂.heap, slotsUsed := s₂.slotsUsed } : State).setVm s₂.vm), Ls ++ L, c0 + mc, s0 + ms⟩,
      ⟨X.admits, X.cas, X.clock, X.frames, X.room, X.hears, X.method, X.code, (X.here.setHeapUsed s₂.heap s₂.slotsUsed).setVm hW'.alike, X.tail, State.WarmedH.trans X.warmed hW', X.limits, X.bytes, X.same.trans (hsame.setVm s.vm)⟩,
      ⟨g, mk, s₂, L, rfl, rfl, hqc, rfl, hL, rfl, rfl⟩, ?_⟩
    show Steps p.tables e below _ ((({ U with heap := s₂.heap, slotsUsed := s₂.slotsUsed } : State).setVm s₂.vm).setTop { g with pc := g.pc + len₂, stack := v.toList ++ g.stack })
    rw [← hs₂]
    exact hsteps
  · obtain ⟨e2, q2, q3, q4, q5, q6⟩ := id hsm
    have e3 : s₂ = ({ (U.calling g mk a).setFrames s₂.frames with heap := s₂.heap, slotsUsed := s₂.slotsUsed } : State).setVm s₂.vm := by
      have : s₂ = ({ s₂ with vm := (U.calling g mk a).vm } : State).setVm s₂.vm := rfl
      rw [e2] at this
      exact this
    have hf₂ : s₂.frames = .throwing q :: .java g :: U.frames.tail := hend
    have hW' : U.WarmedH s₂.vm := hW₂
    have hs₂ : s₂ = ((({ U with heap := s₂.heap, slotsUsed := s₂.slotsUsed } : State).setVm s₂.vm).setTop g).pushFrame (.throwing q) := by
      refine e3.trans ?_
      rw [hf₂, State.calling_eq h.top, State.setFrames_setFrames, State.pushFrame, State.frames_setTop _ hr', State.setTop_of_frames _ hr', State.setFrames_setFrames, hr]
      rfl
    have hsame : U.sameButNew ({ U with heap := s₂.heap, slotsUsed := s₂.slotsUsed } : State) L mc ms := by
      refine ⟨?_, q2, q3, q4, q5, q6⟩
      obtain ⟨t, ht, -⟩ := State.frames_cons hr
      show ({ U with heap := s₂.heap, slotsUsed := s₂.slotsUsed } : State) = { U.setFrames U.frames with heap := s₂.heap, slotsUsed := s₂.slotsUsed }
      rw [State.setFrames_self ht]
    subst hg
    refine Or.inr ⟨q, ⟨(({ U with heap := s₂.heap, slotsUsed := s₂.slotsUsed } : State).setVm s₂.vm), Ls ++ L, c0 + mc, s0 + ms⟩,
      ⟨X.admits, X.cas, X.clock, X.frames, X.room, X.hears, X.method, X.code, (X.here.setHeapUsed s₂.heap s₂.slotsUsed).setVm hW'.alike, X.tail, State.WarmedH.trans X.warmed hW', X.limits, X.bytes, X.same.trans (hsame.setVm s.vm)⟩,
      ⟨g, mk, s₂, L, E, ce, rfl, rfl, hx, hce, hcv, hcl, rfl, hL, rfl, rfl⟩, ?_⟩
    show Steps p.tables e below _ (((({ U with heap := s₂.heap, slotsUsed := s₂.slotsUsed } : State).setVm s₂.vm).setTop g).pushFrame (.throwing q))
    rw [← hs₂]
    exact hsteps
end
variable {p : Program} {l : Launch} {e : Env} {R : Room} {s : State} {m : MethodId} {args : Array Value} {below : List Frame} {meth : Method} {c : Code} {T : State} {H : Heap} {locs : List Loc} {cells slots : Nat}
theorem vx_callVX (X : Stand p l e R s m args below meth c T locs cells slots) (hexec : p.tables.exec = Jvm.exec) {own C : String} {index : Nat} {y : MethodName} {bytes : ByteArray} {maxL : Nat} {ret : Option FieldType} {hh : List (Nat × Nat × Nat × Nat)}
    (hown : s.vm.findClass own = some m.cls) (hlink : (Cond.methodLink own index y).before args s = true) (hinst : (Cond.instanceMethod y).before args s = true) (hsel : (Cond.selects C y y).before args s = true)
    (hcode : (Cond.codeWith y bytes maxL ret hh).before args s = true) (hy : y.cls ≠ "java/lang/invoke/MethodHandle" ∧ y.cls ≠ "java/lang/invoke/VarHandle")
    {W9 : Nat} {Pre : Pt → Array Value → Prop} {Post : Pt → Array Value → Option Value → Pt → Prop} {PostX : Pt → Array Value → Addr → Pt → Prop} (hK : vx_Back l R p e below s args y 3 W9 Pre Post PostX)
    {b : Addr} {cellB : Cell} (hcell : T.heap[b]? = some cellB) (hobj : cellB.vm.isStatics = false) (hcls : s.vm.findClass C = some cellB.cls)
    {g : JFrame} (hg : g.method = m) (hsize : g.locals.size = c.maxLocals) {argsL rest : List Value} (hlen : ∀ sig, parseMethodDescriptor y.desc = some sig → argsL.length = sig.parameters.length)
    (hstack : g.stack = argsL.reverse ++ .ref b :: rest) (hW : 2 * g.monitorRoom + (rest.map fun v => v.category).sum ≤ W9) (hdg : decode c.code g.pc = .ok (.invokevirtual index, 3))
    (hpre : ∀ vm₁, s.WarmedH vm₁ → Pre ⟨T.setVm vm₁, locs, cells, slots⟩ (Value.ref b :: argsL).toArray) :
    (∃ (v : Option Value) (vm₁ : Vm) (B : Pt), s.WarmedH vm₁ ∧ Stand p l e R s m args below meth c B.U B.locs B.cells B.slots ∧ Post ⟨T.setVm vm₁, locs, cells, slots⟩ (Value.ref b :: argsL).toArray v B ∧
      ∀ target, Steps p.tables e below (B.U.setTop { g with pc := g.pc + 3, stack := v.toList ++ rest }) target → Steps p.tables e below (T.setTop g) target) ∨
    (∃ (q : Addr) (vm₁ : Vm) (B : Pt), s.WarmedH vm₁ ∧ Stand p l e R s m args below meth c B.U B.locs B.cells B.slots ∧ PostX ⟨T.setVm vm₁, locs, cells, slots⟩ (Value.ref b :: argsL).toArray q B ∧
      Steps p.tables e below (T.setTop g) ((B.U.setTop { g with stack := rest }).pushFrame (.throwing q))) := by
  obtain ⟨mk, methM, hnamed, hmethM, hstM, habM⟩ := Cond.instanceMethod_spec hinst
  obtain ⟨m8, methM', cM, hn8, hmethM', -, -, -, -, -, -, hsigM⟩ := Cond.codeWith_spec hcode
  cases Option.some.inj (hn8.symm.trans hnamed)
  cases hmethM.symm.trans hmethM'
  obtain ⟨c2, r2, m2, q1, q2, q3, q4, kP, hkP, hkPi⟩ := Cond.selects_spec hsel
  cases hcls.symm.trans q1
  cases (State.methodFound?_of_named hnamed hy).symm.trans q2
  cases hnamed.symm.trans q3
  have hselP : selectMethod e.platform s.vm cellB.cls mk = .method mk := by rw [Launch.admits_selectMethod X.admits]; exact q4
  obtain ⟨vm₁, X₁, hstep₁⟩ := X.invokevirtual hexec hown hlink hnamed hmethM hstM hkP hkPi hy (a := b) (cell := cellB) hcell
    (fun z h => by rw [h] at hobj; cases hobj) hselP hmethM habM hkP hkPi (g := g) hg (argsL := argsL) (rest := rest) (hlen _ hsigM) hstack hdg
  rcases hK m meth c ⟨T.setVm vm₁, locs, cells, slots⟩ { g with stack := rest } (.invokevirtual index) mk (Value.ref b :: argsL).toArray X₁ hg hsize hdg hW (X₁.named hnamed) (hpre vm₁ X₁.warmed) with ⟨v, B, X', hpost, hsteps⟩ | ⟨q, B, X', hpost, hsteps⟩
  · exact Or.inl ⟨v, vm₁, B, X₁.warmed, X', hpost, fun target h => hstep₁ _ fun acts => by rw [doInvoke_state]; exact hsteps.trans h⟩
  · exact Or.inr ⟨q, vm₁, B, X₁.warmed, X', hpost, hstep₁ _ fun acts => by rw [doInvoke_state]; exact hsteps⟩
theorem vx_callSX (X : Stand p l e R s m args below meth c T locs cells slots) (hexec : p.tables.exec = Jvm.exec) {own : String} {index : Nat} {y : MethodName} {bytes : ByteArray} {maxL : Nat} {ret : Option FieldType} {hh : List (Nat × Nat × Nat × Nat)}
    (hown : s.vm.findClass own = some m.cls) (hlink : (Cond.methodLink own index y).before args s = true) (hstat : (Cond.static y).before args s = true) (hinit : (Cond.initialized y.cls).before args s = true)
    (hcode : (Cond.codeWith y bytes maxL ret hh).before args s = true) (hy : y.cls ≠ "java/lang/invoke/MethodHandle" ∧ y.cls ≠ "java/lang/invoke/VarHandle")
    {W9 : Nat} {Pre : Pt → Array Value → Prop} {Post : Pt → Array Value → Option Value → Pt → Prop} {PostX : Pt → Array Value → Addr → Pt → Prop} (hK : vx_Back l R p e below s args y 3 W9 Pre Post PostX)
    {g : JFrame} (hg : g.method = m) (hsize : g.locals.size = c.maxLocals) {argsL rest : List Value} (hlen : ∀ sig, parseMethodDescriptor y.desc = some sig → argsL.length = sig.parameters.length)
    (hstack : g.stack = argsL.reverse ++ rest) (hW : 2 * g.monitorRoom + (rest.map fun v => v.category).sum ≤ W9) (hdg : decode c.code g.pc = .ok (.invokestatic index, 3))
    (hpre : ∀ vm₁, s.WarmedH vm₁ → Pre ⟨T.setVm vm₁, locs, cells, slots⟩ argsL.toArray) :
    (∃ (v : Option Value) (vm₁ : Vm) (B : Pt), s.WarmedH vm₁ ∧ Stand p l e R s m args below meth c B.U B.locs B.cells B.slots ∧ Post ⟨T.setVm vm₁, locs, cells, slots⟩ argsL.toArray v B ∧
      ∀ target, Steps p.tables e below (B.U.setTop { g with pc := g.pc + 3, stack := v.toList ++ rest }) target → Steps p.tables e below (T.setTop g) target) ∨
    (∃ (q : Addr) (vm₁ : Vm) (B : Pt), s.WarmedH vm₁ ∧ Stand p l e R s m args below meth c B.U B.locs B.cells B.slots ∧ PostX ⟨T.setVm vm₁, locs, cells, slots⟩ argsL.toArray q B ∧
      Steps p.tables e below (T.setTop g) ((B.U.setTop { g with stack := rest }).pushFrame (.throwing q))) := by
  obtain ⟨mk, methM, cM, hnamed, hmethM, -, -, -, -, -, -, hsigM⟩ := Cond.codeWith_spec hcode
  have hstatic : methM.isStatic = true := Cond.static_spec hnamed hmethM hstat
  obtain ⟨kP, hkP, -⟩ := className_of_methodNamed hnamed
  have hinitP : kP.init = .initialized := Cond.initialized_spec (findClass_of_methodNamed hnamed) hkP hinit
  obtain ⟨vm₁, X₁, hstep₁⟩ := X.invokestatic hexec hown hlink hnamed hmethM hstatic hkP hinitP hy (g := g) hg (argsL := argsL) (rest := rest) (hlen _ hsigM) hstack hdg
  rcases hK m meth c ⟨T.setVm vm₁, locs, cells, slots⟩ { g with stack := rest } (.invokestatic index) mk argsL.toArray X₁ hg hsize hdg hW (X₁.named hnamed) (hpre vm₁ X₁.warmed) with ⟨v, B, X', hpost, hsteps⟩ | ⟨q, B, X', hpost, hsteps⟩
  · exact Or.inl ⟨v, vm₁, B, X₁.warmed, X', hpost, fun target h => hstep₁ _ fun acts => by rw [doInvoke_state]; exact hsteps.trans h⟩
  · exact Or.inr ⟨q, vm₁, B, X₁.warmed, X', hpost, hstep₁ _ fun acts => by rw [doInvoke_state]; exact hsteps⟩
theorem vx_callVW (X : Stand p l e R s m args below meth c T locs cells slots) (hexec : p.tables.exec = Jvm.exec) {own C : String} {index : Nat} {y : MethodName} {bytes : ByteArray} {maxL : Nat} {ret : Option FieldType} {hh : List (Nat × Nat × Nat × Nat)}
    (hown : s.vm.findClass own = some m.cls) (hlink : (Cond.methodLink own index y).before args s = true) (hinst : (Cond.instanceMethod y).before args s = true) (hsel : (Cond.selects C y y).before args s = true)
    (hcode : (Cond.codeWith y bytes maxL ret hh).before args s = true) (hy : y.cls ≠ "java/lang/invoke/MethodHandle" ∧ y.cls ≠ "java/lang/invoke/VarHandle")
    {W9 : Nat} {Pre : Pt → Array Value → Prop} {Post : Pt → Array Value → Option Value → Pt → Prop} (hK : Back l R p e below s args y 3 W9 Pre Post)
    {b : Addr} {cellB : Cell} (hcell : T.heap[b]? = some cellB) (hobj : cellB.vm.isStatics = false) (hcls : s.vm.findClass C = some cellB.cls)
    {g : JFrame} (hg : g.method = m) (hsize : g.locals.size = c.maxLocals) {argsL rest : List Value} (hlen : ∀ sig, parseMethodDescriptor y.desc = some sig → argsL.length = sig.parameters.length)
    (hstack : g.stack = argsL.reverse ++ .ref b :: rest) (hW : 2 * g.monitorRoom + (rest.map fun v => v.category).sum ≤ W9) (hdg : decode c.code g.pc = .ok (.invokevirtual index, 3))
    (hpre : ∀ vm₁, s.WarmedH vm₁ → Pre ⟨T.setVm vm₁, locs, cells, slots⟩ (Value.ref b :: argsL).toArray) :
    ∃ (v : Option Value) (vm₁ : Vm) (B : Pt), s.WarmedH vm₁ ∧ Stand p l e R s m args below meth c B.U B.locs B.cells B.slots ∧ Post ⟨T.setVm vm₁, locs, cells, slots⟩ (Value.ref b :: argsL).toArray v B ∧
      ∀ target, Steps p.tables e below (B.U.setTop { g with pc := g.pc + 3, stack := v.toList ++ rest }) target → Steps p.tables e below (T.setTop g) target := by
  obtain ⟨mk, methM, hnamed, hmethM, hstM, habM⟩ := Cond.instanceMethod_spec hinst
  obtain ⟨m8, methM', cM, hn8, hmethM', -, -, -, -, -, -, hsigM⟩ := Cond.codeWith_spec hcode
  cases Option.some.inj (hn8.symm.trans hnamed)
  cases hmethM.symm.trans hmethM'
  obtain ⟨c2, r2, m2, q1, q2, q3, q4, kP, hkP, hkPi⟩ := Cond.selects_spec hsel
  cases hcls.symm.trans q1
  cases (State.methodFound?_of_named hnamed hy).symm.trans q2
  cases hnamed.symm.trans q3
  have hselP : selectMethod e.platform s.vm cellB.cls mk = .method mk := by rw [Launch.admits_selectMethod X.admits]; exact q4
  obtain ⟨vm₁, X₁, hstep₁⟩ := X.invokevirtual hexec hown hlink hnamed hmethM hstM hkP hkPi hy (a := b) (cell := cellB) hcell
    (fun z h => by rw [h] at hobj; cases hobj) hselP hmethM habM hkP hkPi (g := g) hg (argsL := argsL) (rest := rest) (hlen _ hsigM) hstack hdg
  obtain ⟨v, B, X', hpost, hsteps⟩ := hK m meth c ⟨T.setVm vm₁, locs, cells, slots⟩ { g with stack := rest } (.invokevirtual index) mk (Value.ref b :: argsL).toArray X₁ hg hsize hdg hW (X₁.named hnamed) (hpre vm₁ X₁.warmed)
  exact ⟨v, vm₁, B, X₁.warmed, X', hpost, fun target h => hstep₁ _ fun acts => by rw [doInvoke_state]; exact hsteps.trans h⟩
abbrev vx_CVW (R : Room) (s : State) (args : Array Value) (own C : String) (index : Nat) (y : MethodName) (bytes : ByteArray) (maxL : Nat) (ret : Option FieldType) (hh : List (Nat × Nat × Nat × Nat)) (ws : List Cond) (rm : Room) (mc ms n : Nat) : Prop :=
  (rm.cells = mc ∧ rm.slots = ms ∧ rm.frames + 1 ≤ R.frames ∧ 8 + (maxL + 11) + rm.locals ≤ R.locals ∧ (∀ w ∈ ws, ∀ (a' : Array Value) (U : State), s.WarmedH U.vm → w.before a' U = true) ∧ Cond.codeWith y bytes maxL ret hh ∈ ws) ∧
  (Cond.codeWith y bytes maxL ret hh).before args s = true ∧ (Cond.initialized y.cls).before args s = true ∧ (y.cls ≠ "java/lang/invoke/MethodHandle" ∧ y.cls ≠ "java/lang/invoke/VarHandle") ∧
  (∀ sig, parseMethodDescriptor y.desc = some sig → n = sig.parameters.length) ∧ (Cond.methodLink own index y).before args s = true ∧ (Cond.instanceMethod y).before args s = true ∧ (Cond.selects C y y).before args s = true
theorem vx_cwVW {own C : String} {index maxL mc ms : Nat} {y : MethodName} {bytes : ByteArray} {ret : Option FieldType} {hh : List (Nat × Nat × Nat × Nat)} {Ts ws ws' : List Cond} {rm : Room} (n : Nat) (ht : ∀ w ∈ Ts, w.before args s = true) (hT : GoodIn Ts (wsV own index C y ws)) (hw : ws = Cond.codeWith y bytes maxL ret hh :: ws') (hrc : rm.cells = mc) (hrs : rm.slots = ms)
    (hd : y.cls = C ∧ y.cls ≠ "java/lang/invoke/MethodHandle" ∧ y.cls ≠ "java/lang/invoke/VarHandle" ∧ (parseMethodDescriptor y.desc).map (fun d => d.parameters.length) = some n) (hR : rm.frames + 1 ≤ R.frames ∧ 8 + (maxL + 11) + rm.locals ≤ R.locals) :
    vx_CVW R s args own C index y bytes maxL ret hh ws rm mc ms n := by
  obtain ⟨hC, hd⟩ := hd
  subst hC
  have ok : ∀ w ∈ wsV own index y.cls y ws, w.before args s = true := fun w h => ht w (hT w h).1
  have hG : GoodIn Ts ws := fun w h => hT w (by unfold wsV; exact List.mem_append_right _ h)
  have hc : Cond.codeWith y bytes maxL ret hh ∈ ws := by rw [hw]; exact List.mem_cons_self
  refine ⟨⟨hrc, hrs, hR.1, hR.2, pay_in ht hG, hc⟩, ht _ (hG _ hc).1, ok _ (by simp [wsV]), ⟨hd.1, hd.2.1⟩, fun sig h => ?_, ok _ (by simp [wsV]), ok _ (by simp [wsV]), ok _ (by simp [wsV])⟩
  have h2 := hd.2.2
  rw [h] at h2
  exact (Option.some.inj h2).symm
theorem vx_runVW {y : MethodName} {bytes cc : ByteArray} {maxL nL mc ms n index : Nat} {ret : Option FieldType} {hh : List (Nat × Nat × Nat × Nat)} {ws : List Cond} {rm : Room} {Pc : Array Value → State → Prop} {Qc : Array Value → State → Outcome → State → Prop} {free : Addr → Prop} {Ts : List Cond} {own C : String} {b : Addr} {As rest : List Value} {g : JFrame}
    (S : CallFix p m c cc nL s args Ts own) (hM : Met l y ws rm Pc Qc mc ms free) (cw : vx_CVW R s args own C index y bytes maxL ret hh ws rm mc ms n) (hp : PreV s H C b Pc As)
    (hg : g.method = m) (hn : As.length = n) (hsize : g.locals.size = nL) (hstack : g.stack = As.reverse ++ .ref b :: rest) (hW : 2 * g.monitorRoom + (rest.map fun v => v.category).sum ≤ 8) (hdg : decode cc g.pc = .ok (.invokevirtual index, 3)) (hf : cells + mc ≤ R.cells ∧ slots + ms ≤ R.slots) :
    va_Run p l e R s m args below meth c H locs cells slots mc ms g rest (Qc (Value.ref b :: As).toArray) free := by
  obtain ⟨⟨hrc, hrs, hfr, hlo, hws, hcw⟩, hcode, hini, hy, hlen, hl, hin, hse⟩ := cw
  have hK : Back l R p e below s args y 3 8 (PreOf R mc ms Pc) (PostOf Qc mc ms free) := va_backW (hh := hh) (bytes := bytes) (maxL := maxL) (ret := ret) hM hp.1 hrc hrs hfr hlo hws hcw (fun a' U hW => word_at hW (Or.inl (by first | rfl | simp [Cond.onTables, Cond.keeps, Cond.steady])) hini)
  obtain ⟨hx, hb, hml, ho, -⟩ := S
  obtain ⟨-, ⟨cellB, hcB, hoB, hclB⟩, hPc⟩ := hp
  intro T hT X
  obtain ⟨v, vm₁, ⟨U', l2, c2, s2⟩, hW₁, X', ⟨g', mk, t, L, e1, e2, hq, h1, hL, h2, h3⟩, st⟩ := vx_callVW X hx (C := C) (hh := hh) (bytes := bytes) (maxL := maxL) (ret := ret) ho hl hin hse hcode hy hK (by rw [hT]; exact hcB) hoB hclB hg (hsize.trans hml.symm) (argsL := As) (rest := rest) (fun sig h => hn.trans (hlen sig h)) hstack hW (by rw [hb]; exact hdg)
    (fun vm₁ hW₁ => ⟨hf.1, hf.2, hPc (T.setVm vm₁) hT hW₁⟩)
  dsimp only [Pt.U, Pt.locs, Pt.cells, Pt.slots] at X' e1 e2 h1 h2 h3 st
  subst h1; subst h2; subst h3
  exact ⟨v, (T.setVm vm₁).calling g' mk (Value.ref b :: As).toArray, t, U', L, hT, X', hL, e1, e2, hq, st⟩
section
variable {y : MethodName} {bytes cc : ByteArray} {maxL nL mc ms n index : Nat} {ret : Option FieldType} {ws : List Cond} {rm : Room} {Pc : Array Value → State → Prop} {Qc : Array Value → State → Outcome → State → Prop} {XC : String → State → State → Prop} {free : Addr → Prop} {Ts : List Cond} {own C : String} {b : Addr} {As rest : List Value} {g : JFrame}
theorem vx_runVX {hh : List (Nat × Nat × Nat × Nat)} (S : CallFix p m c cc nL s args Ts own) (hM : vx_Met l y ws rm Pc Qc XC mc ms free) (cw : vx_CVW R s args own C index y bytes maxL ret hh ws rm mc ms n) (hp : PreV s H C b Pc As)
    (hg : g.method = m) (hn : As.length = n) (hsize : g.locals.size = nL) (hstack : g.stack = As.reverse ++ .ref b :: rest) (hW : 2 * g.monitorRoom + (rest.map fun v => v.category).sum ≤ 8) (hdg : decode cc g.pc = .ok (.invokevirtual index, 3)) (hf : cells + mc ≤ R.cells ∧ slots + ms ≤ R.slots) :
    vx_Run p l e R s m args below meth c H locs cells slots mc ms g rest (Qc (Value.ref b :: As).toArray) XC free := by
  obtain ⟨⟨hrc, hrs, hfr, hlo, hws, hcw⟩, hcode, hini, hy, hlen, hl, hin, hse⟩ := cw
  have hK : vx_Back l R p e below s args y 3 8 (PreOf R mc ms Pc) (PostOf Qc mc ms free) (vx_Post XC mc ms free) := vx_backW (hh := hh) (bytes := bytes) (maxL := maxL) (ret := ret) hM hp.1 hrc hrs hfr hlo hws hcw (fun a' U hW => word_at hW (Or.inl (by first | rfl | simp [Cond.onTables, Cond.keeps, Cond.steady])) hini)
  obtain ⟨hx, hb, hml, ho, -⟩ := S
  obtain ⟨-, ⟨cellB, hcB, hoB, hclB⟩, hPc⟩ := hp
  intro T hT X
  rcases vx_callVX X hx (C := C) (hh := hh) (bytes := bytes) (maxL := maxL) (ret := ret) ho hl hin hse hcode hy hK (by rw [hT]; exact hcB) hoB hclB hg (hsize.trans hml.symm) (argsL := As) (rest := rest) (fun sig h => hn.trans (hlen sig h)) hstack hW (by rw [hb]; exact hdg)
    (fun vm₁ hW₁ => ⟨hf.1, hf.2, hPc (T.setVm vm₁) hT hW₁⟩) with ⟨v, vm₁, ⟨U', l2, c2, s2⟩, hW₁, X', ⟨g', mk, t, L, e1, e2, hq, h1, hL, h2, h3⟩, st⟩ | ⟨q, vm₁, ⟨U', l2, c2, s2⟩, hW₁, X', ⟨g', mk, t, L, E, ce, e1, e2, hq, hce, hcv, hcl, h1, hL, h2, h3⟩, st⟩
  · dsimp only [Pt.U, Pt.locs, Pt.cells, Pt.slots] at X' e1 e2 h1 h2 h3 st
    subst h1; subst h2; subst h3
    exact Or.inl ⟨v, (T.setVm vm₁).calling g' mk (Value.ref b :: As).toArray, t, U', L, hT, X', hL, e1, e2, hq, st⟩
  · dsimp only [Pt.U, Pt.locs, Pt.cells, Pt.slots] at X' e1 e2 h1 h2 h3 st hcl
    subst h1; subst h2; subst h3
    exact Or.inr ⟨q, (T.setVm vm₁).calling g' mk (Value.ref b :: As).toArray, t, U', L, E, ce, hT, X', hL, e1, e2, hq, hce, hcv, vx_cls hW₁ hcl, st⟩
theorem vx_runSX {hh : List (Nat × Nat × Nat × Nat)} (S : CallFix p m c cc nL s args Ts own) (hM : vx_Met l y ws rm Pc Qc XC mc ms free) (cw : vx_CSW R s args own index y bytes maxL ret hh ws rm mc ms n) (hp : PreS s H Pc As)
    (hg : g.method = m) (hn : As.length = n) (hsize : g.locals.size = nL) (hstack : g.stack = As.reverse ++ rest) (hW : 2 * g.monitorRoom + (rest.map fun v => v.category).sum ≤ 8) (hdg : decode cc g.pc = .ok (.invokestatic index, 3)) (hf : cells + mc ≤ R.cells ∧ slots + ms ≤ R.slots) :
    vx_Run p l e R s m args below meth c H locs cells slots mc ms g rest (Qc As.toArray) XC free := by
  obtain ⟨⟨hrc, hrs, hfr, hlo, hws, hcw⟩, hcode, hini, hy, hlen, hl, hstt⟩ := cw
  have hK : vx_Back l R p e below s args y 3 8 (PreOf R mc ms Pc) (PostOf Qc mc ms free) (vx_Post XC mc ms free) := vx_backW (hh := hh) (bytes := bytes) (maxL := maxL) (ret := ret) hM hp.1 hrc hrs hfr hlo hws hcw (fun a' U hW => word_at hW (Or.inl (by first | rfl | simp [Cond.onTables, Cond.keeps, Cond.steady])) hini)
  obtain ⟨hx, hb, hml, ho, -⟩ := S
  intro T hT X
  rcases vx_callSX X hx (hh := hh) (bytes := bytes) (maxL := maxL) (ret := ret) ho hl hstt hini hcode hy hK hg (hsize.trans hml.symm) (argsL := As) (rest := rest) (fun sig h => hn.trans (hlen sig h)) hstack hW (by rw [hb]; exact hdg)
    (fun vm₁ hW₁ => ⟨hf.1, hf.2, hp.2 (T.setVm vm₁) hT hW₁⟩) with ⟨v, vm₁, ⟨U', l2, c2, s2⟩, hW₁, X', ⟨g', mk, t, L, e1, e2, hq, h1, hL, h2, h3⟩, st⟩ | ⟨q, vm₁, ⟨U', l2, c2, s2⟩, hW₁, X', ⟨g', mk, t, L, E, ce, e1, e2, hq, hce, hcv, hcl, h1, hL, h2, h3⟩, st⟩
  · dsimp only [Pt.U, Pt.locs, Pt.cells, Pt.slots] at X' e1 e2 h1 h2 h3 st
    subst h1; subst h2; subst h3
    exact Or.inl ⟨v, (T.setVm vm₁).calling g' mk As.toArray, t, U', L, hT, X', hL, e1, e2, hq, st⟩
  · dsimp only [Pt.U, Pt.locs, Pt.cells, Pt.slots] at X' e1 e2 h1 h2 h3 st hcl
    subst h1; subst h2; subst h3
    exact Or.inr ⟨q, (T.setVm vm₁).calling g' mk As.toArray, t, U', L, E, ce, hT, X', hL, e1, e2, hq, hce, hcv, vx_cls hW₁ hcl, st⟩
end
end VXH
theorem vx_ofWH {l : Launch} {y : MethodName} {ws ws' : List Cond} {rm : Room} {Pc : Array Value → State → Prop} {Qc : Array Value → State → Outcome → State → Prop} {XC : String → State → State → Prop} {mc ms : Nat} {free : Addr → Prop} {cc : ByteArray} {maxL : Nat} {ret : Option FieldType} {hh : List (Nat × Nat × Nat × Nat)}
    (hy : plainName y.cls = true) (hw : ws = Cond.codeWith y cc maxL ret hh :: ws')
    (body : ∀ p e s m args below meth c s₁, BodyLoose p l y (headSpec ws rm) cc maxL ret e s m args below meth c s₁ → c.maxLocals = maxL → Pc args s →
      W p l e (headSpec ws rm).room s m args below meth c s.heap [] 0 0 (vx_MQ below Qc XC args s mc ms free) (entryFrame m args maxL)) : vx_Met l y ws rm Pc Qc XC mc ms free := by
  refine MetFree.of_bodyS (code := cc) (maxLocals := maxL) (ret := ret) hy ?_ ?_
  · intro args s m h hn
    obtain ⟨m9, meth, c, hn9, h1, h2, h3, h4, -, h5, h6, -⟩ := Cond.codeWith_spec (atoms_spec (ws := ws) h _ (by rw [hw]; exact List.mem_cons_self))
    cases hn.symm.trans hn9
    exact ⟨meth, c, h1, h2, h3, h4, h5, h6⟩
  · intro p e s m args below meth c s₁ B hml hP _
    have hh0 : s₁.heap = s.heap := by rw [B.state]; rfl
    obtain ⟨t, a1, o, b1, b2, b3⟩ := body p e s m args below meth c s₁ B hml hP s₁ hh0 (Stand.of_body B)
    exact ⟨t, o, a1, b1, b2, b3⟩
/-! ===== END ===== -/

/-! ===== BEGIN printed: names, fields, word lists, decode rows ===== -/
def RX0 : String := "Shortmessage$Link"
def TX0 : u_T := fun k => match k with
  | 0 => ("Shortmessage$Link", "queue", "LShortmessage$Row;", true)
  | 1 => ("Shortmessage$Link", "sent", "LShortmessage$Row;", true)
  | 2 => ("Shortmessage$Link", "up", "Z", false)
  | 3 => ("Shortmessage$Link", "window", "I", false)
  | _ => ("Shortmessage$Link", "tokens", "I", false)
def tyX0 : Nat → FieldType := fun k => match k with
  | 0 => .object "Shortmessage$Row"
  | 1 => .object "Shortmessage$Row"
  | 2 => .boolean
  | 3 => .int
  | _ => .int
abbrev wsX00 : List Cond := u_ws RX0 TX0 5
theorem nmX0 : ∀ a, a < 5 → ∀ b, b < 5 → a ≠ b → (TX0 a).2.1 ≠ (TX0 b).2.1 := by decide +kernel
theorem tyX0_ok : ∀ k, k < 5 → parseFieldDescriptor (TX0 k).2.2.1 = some (tyX0 k) := by decide +kernel
abbrev cX0_init : ByteArray := prog_2_method_1_code
def yX0_init : MethodName := ⟨RX0, "<init>", "()V"⟩
abbrev cX0_gainToken : ByteArray := prog_2_method_2_code
def yX0_gainToken : MethodName := ⟨RX0, "gainToken", "()V"⟩
abbrev cX0_sendAll : ByteArray := prog_2_method_3_code
def yX0_sendAll : MethodName := ⟨RX0, "sendAll", "(I)I"⟩
abbrev cX0_sendNext : ByteArray := prog_2_method_4_code
def yX0_sendNext : MethodName := ⟨RX0, "sendNext", "(I)Z"⟩
abbrev cX0_goDown : ByteArray := prog_2_method_5_code
def yX0_goDown : MethodName := ⟨RX0, "goDown", "(I)V"⟩
def RX1 : String := "Shortmessage$Message"
def TX1 : u_T := fun k => match k with
  | 0 => ("Shortmessage$Message", "number", "I", true)
  | 1 => ("Shortmessage$Message", "receiver", "I", true)
  | 2 => ("Shortmessage$Message", "end", "I", true)
  | 3 => ("Shortmessage$Message", "link", "LShortmessage$Link;", true)
  | 4 => ("Shortmessage$Message", "signs", "[I", true)
  | 5 => ("Shortmessage$Message", "starts", "[I", true)
  | 6 => ("Shortmessage$Message", "partCount", "I", true)
  | 7 => ("Shortmessage$Message", "state", "I", false)
  | _ => ("Shortmessage$Message", "lacking", "I", false)
def tyX1 : Nat → FieldType := fun k => match k with
  | 0 => .int
  | 1 => .int
  | 2 => .int
  | 3 => .object "Shortmessage$Link"
  | 4 => .array .int
  | 5 => .array .int
  | 6 => .int
  | 7 => .int
  | _ => .int
abbrev wsX10 : List Cond := u_ws RX1 TX1 9
theorem nmX1 : ∀ a, a < 9 → ∀ b, b < 9 → a ≠ b → (TX1 a).2.1 ≠ (TX1 b).2.1 := by decide +kernel
theorem tyX1_ok : ∀ k, k < 9 → parseFieldDescriptor (TX1 k).2.2.1 = some (tyX1 k) := by decide +kernel
abbrev cX1_init : ByteArray := prog_3_method_1_code
def yX1_init : MethodName := ⟨RX1, "<init>", "(IIILShortmessage$Link;LShortmessage$Text;)V"⟩
abbrev cX1_lacks : ByteArray := prog_3_method_2_code
def yX1_lacks : MethodName := ⟨RX1, "lacks", "(I)Z"⟩
abbrev cX1_receive : ByteArray := prog_3_method_3_code
def yX1_receive : MethodName := ⟨RX1, "receive", "(I)V"⟩
abbrev cX1_partWith : ByteArray := prog_3_method_4_code
def yX1_partWith : MethodName := ⟨RX1, "partWith", "(I)I"⟩
def RX2 : String := "Shortmessage$Part"
def TX2 : u_T := fun k => match k with
  | 0 => ("Shortmessage$Part", "message", "LShortmessage$Message;", true)
  | 1 => ("Shortmessage$Part", "number", "I", true)
  | 2 => ("Shortmessage$Part", "failures", "I", false)
  | 3 => ("Shortmessage$Part", "tryAt", "I", false)
  | _ => ("Shortmessage$Part", "waitsForAlert", "Z", false)
def tyX2 : Nat → FieldType := fun k => match k with
  | 0 => .object "Shortmessage$Message"
  | 1 => .int
  | 2 => .int
  | 3 => .int
  | _ => .boolean
abbrev wsX20 : List Cond := u_ws RX2 TX2 5
theorem nmX2 : ∀ a, a < 5 → ∀ b, b < 5 → a ≠ b → (TX2 a).2.1 ≠ (TX2 b).2.1 := by decide +kernel
theorem tyX2_ok : ∀ k, k < 5 → parseFieldDescriptor (TX2 k).2.2.1 = some (tyX2 k) := by decide +kernel
abbrev cX2_init : ByteArray := prog_4_method_1_code
def yX2_init : MethodName := ⟨RX2, "<init>", "(LShortmessage$Message;II)V"⟩
abbrev cX2_isReady : ByteArray := prog_4_method_2_code
def yX2_isReady : MethodName := ⟨RX2, "isReady", "(I)Z"⟩
def RX3 : String := "Shortmessage$Reception"
def TX3 : u_T := fun k => match k with
  | 0 => ("Shortmessage$Reception", "keywords", "[I", true)
  | 1 => ("Shortmessage$Reception", "sessions", "[I", true)
  | _ => ("Shortmessage$Reception", "latest", "[I", true)
def tyX3 : Nat → FieldType := fun k => match k with
  | 0 => .array .int
  | 1 => .array .int
  | _ => .array .int
abbrev wsX30 : List Cond := u_ws RX3 TX3 3
theorem nmX3 : ∀ a, a < 3 → ∀ b, b < 3 → a ≠ b → (TX3 a).2.1 ≠ (TX3 b).2.1 := by decide +kernel
theorem tyX3_ok : ∀ k, k < 3 → parseFieldDescriptor (TX3 k).2.2.1 = some (tyX3 k) := by decide +kernel
abbrev cX3_init : ByteArray := prog_5_method_1_code
def yX3_init : MethodName := ⟨RX3, "<init>", "()V"⟩
abbrev cX3_giveKeyword : ByteArray := prog_5_method_2_code
def yX3_giveKeyword : MethodName := ⟨RX3, "giveKeyword", "(II)V"⟩
abbrev cX3_serviceFor : ByteArray := prog_5_method_3_code
def yX3_serviceFor : MethodName := ⟨RX3, "serviceFor", "(III)I"⟩
abbrev cX3_serviceWith : ByteArray := prog_5_method_4_code
def yX3_serviceWith : MethodName := ⟨RX3, "serviceWith", "(I)I"⟩
def RX4 : String := "Shortmessage$Row"
def TX4 : u_T := fun k => match k with
  | 0 => ("Shortmessage$Row", "row", "[LShortmessage$Part;", true)
  | _ => ("Shortmessage$Row", "count", "I", false)
def tyX4 : Nat → FieldType := fun k => match k with
  | 0 => .array (.object "Shortmessage$Part")
  | _ => .int
abbrev wsX40 : List Cond := u_ws RX4 TX4 2
theorem nmX4 : ∀ a, a < 2 → ∀ b, b < 2 → a ≠ b → (TX4 a).2.1 ≠ (TX4 b).2.1 := by decide +kernel
theorem tyX4_ok : ∀ k, k < 2 → parseFieldDescriptor (TX4 k).2.2.1 = some (tyX4 k) := by decide +kernel
abbrev cX4_init : ByteArray := prog_6_method_1_code
def yX4_init : MethodName := ⟨RX4, "<init>", "()V"⟩
abbrev cX4_at : ByteArray := prog_6_method_2_code
def yX4_at : MethodName := ⟨RX4, "at", "(I)LShortmessage$Part;"⟩
abbrev cX4_addLast : ByteArray := prog_6_method_3_code
def yX4_addLast : MethodName := ⟨RX4, "addLast", "(LShortmessage$Part;)V"⟩
abbrev cX4_insert : ByteArray := prog_6_method_4_code
def yX4_insert : MethodName := ⟨RX4, "insert", "(ILShortmessage$Part;)V"⟩
abbrev cX4_removeAt : ByteArray := prog_6_method_5_code
def yX4_removeAt : MethodName := ⟨RX4, "removeAt", "(I)LShortmessage$Part;"⟩
abbrev cX4_removeFirstReady : ByteArray := prog_6_method_6_code
def yX4_removeFirstReady : MethodName := ⟨RX4, "removeFirstReady", "(I)LShortmessage$Part;"⟩
abbrev cX4_removeAllOf : ByteArray := prog_6_method_7_code
def yX4_removeAllOf : MethodName := ⟨RX4, "removeAllOf", "(LShortmessage$Message;)V"⟩
abbrev cX4_wake : ByteArray := prog_6_method_8_code
def yX4_wake : MethodName := ⟨RX4, "wake", "(I)I"⟩
def RX5 : String := "Shortmessage$Text"
def TX5 : u_T := fun k => match k with
  | 0 => ("Shortmessage$Text", "row", "[I", true)
  | 1 => ("Shortmessage$Text", "count", "I", false)
  | 2 => ("Shortmessage$Text", "septetCount", "I", false)
  | 3 => ("Shortmessage$Text", "wide", "Z", false)
  | 4 => ("Shortmessage$Text", "starts", "[I", true)
  | _ => ("Shortmessage$Text", "partCount", "I", false)
def tyX5 : Nat → FieldType := fun k => match k with
  | 0 => .array .int
  | 1 => .int
  | 2 => .int
  | 3 => .boolean
  | 4 => .array .int
  | _ => .int
abbrev wsX50 : List Cond := u_ws RX5 TX5 6
theorem nmX5 : ∀ a, a < 6 → ∀ b, b < 6 → a ≠ b → (TX5 a).2.1 ≠ (TX5 b).2.1 := by decide +kernel
theorem tyX5_ok : ∀ k, k < 6 → parseFieldDescriptor (TX5 k).2.2.1 = some (tyX5 k) := by decide +kernel
abbrev cX5_init : ByteArray := prog_7_method_1_code
def yX5_init : MethodName := ⟨RX5, "<init>", "()V"⟩
abbrev cX5_append : ByteArray := prog_7_method_2_code
def yX5_append : MethodName := ⟨RX5, "append", "(II)V"⟩
abbrev cX5_clear : ByteArray := prog_7_method_3_code
def yX5_clear : MethodName := ⟨RX5, "clear", "()V"⟩
abbrev cX5_startOf : ByteArray := prog_7_method_4_code
def yX5_startOf : MethodName := ⟨RX5, "startOf", "(I)I"⟩
abbrev cX5_octetsOf : ByteArray := prog_7_method_5_code
def yX5_octetsOf : MethodName := ⟨RX5, "octetsOf", "(I)I"⟩
abbrev cX5_octetAt : ByteArray := prog_7_method_6_code
def yX5_octetAt : MethodName := ⟨RX5, "octetAt", "(II)I"⟩
abbrev cX5_copyOfSigns : ByteArray := prog_7_method_7_code
def yX5_copyOfSigns : MethodName := ⟨RX5, "copyOfSigns", "()[I"⟩
abbrev cX5_copyOfStarts : ByteArray := prog_7_method_8_code
def yX5_copyOfStarts : MethodName := ⟨RX5, "copyOfStarts", "()[I"⟩
abbrev cX5_signAt : ByteArray := prog_7_method_9_code
def yX5_signAt : MethodName := ⟨RX5, "signAt", "(I)I"⟩
abbrev cX5_cut : ByteArray := prog_7_method_10_code
def yX5_cut : MethodName := ⟨RX5, "cut", "()V"⟩
abbrev cX5_roomOfAPart : ByteArray := prog_7_method_11_code
def yX5_roomOfAPart : MethodName := ⟨RX5, "roomOfAPart", "()I"⟩
abbrev cX5_septetsIn : ByteArray := prog_7_method_12_code
def yX5_septetsIn : MethodName := ⟨RX5, "septetsIn", "(I)I"⟩
abbrev cX5_septetAt : ByteArray := prog_7_method_13_code
def yX5_septetAt : MethodName := ⟨RX5, "septetAt", "(II)I"⟩
abbrev cX5_septetsOf : ByteArray := prog_7_method_14_code
def yX5_septetsOf : MethodName := ⟨RX5, "septetsOf", "(I)I"⟩
abbrev cX5_septetOf : ByteArray := prog_7_method_15_code
def yX5_septetOf : MethodName := ⟨RX5, "septetOf", "(II)I"⟩
def RX6 : String := "Shortmessage"
def TX6 : u_T := fun k => match k with
  | 0 => ("Shortmessage", "text", "LShortmessage$Text;", true)
  | 1 => ("Shortmessage", "messages", "[LShortmessage$Message;", true)
  | 2 => ("Shortmessage", "messageCount", "I", false)
  | 3 => ("Shortmessage", "receiptRow", "[I", true)
  | 4 => ("Shortmessage", "receiptCount", "I", false)
  | 5 => ("Shortmessage", "links", "[LShortmessage$Link;", true)
  | 6 => ("Shortmessage", "reception", "LShortmessage$Reception;", true)
  | _ => ("Shortmessage", "now", "I", false)
def tyX6 : Nat → FieldType := fun k => match k with
  | 0 => .object "Shortmessage$Text"
  | 1 => .array (.object "Shortmessage$Message")
  | 2 => .int
  | 3 => .array .int
  | 4 => .int
  | 5 => .array (.object "Shortmessage$Link")
  | 6 => .object "Shortmessage$Reception"
  | _ => .int
abbrev wsX60 : List Cond := u_ws RX6 TX6 8
theorem nmX6 : ∀ a, a < 8 → ∀ b, b < 8 → a ≠ b → (TX6 a).2.1 ≠ (TX6 b).2.1 := by decide +kernel
theorem tyX6_ok : ∀ k, k < 8 → parseFieldDescriptor (TX6 k).2.2.1 = some (tyX6 k) := by decide +kernel
abbrev cX6_init : ByteArray := prog_1_method_1_code
def yX6_init : MethodName := ⟨RX6, "<init>", "()V"⟩
abbrev cX6_write : ByteArray := prog_1_method_2_code
def yX6_write : MethodName := ⟨RX6, "write", "(II)I"⟩
abbrev cX6_erase : ByteArray := prog_1_method_3_code
def yX6_erase : MethodName := ⟨RX6, "erase", "()I"⟩
abbrev cX6_isWide : ByteArray := prog_1_method_4_code
def yX6_isWide : MethodName := ⟨RX6, "isWide", "()Z"⟩
abbrev cX6_septets : ByteArray := prog_1_method_5_code
def yX6_septets : MethodName := ⟨RX6, "septets", "()I"⟩
abbrev cX6_parts : ByteArray := prog_1_method_6_code
def yX6_parts : MethodName := ⟨RX6, "parts", "()I"⟩
abbrev cX6_signs : ByteArray := prog_1_method_7_code
def yX6_signs : MethodName := ⟨RX6, "signs", "(I)I"⟩
abbrev cX6_octets : ByteArray := prog_1_method_8_code
def yX6_octets : MethodName := ⟨RX6, "octets", "(I)I"⟩
abbrev cX6_octet : ByteArray := prog_1_method_9_code
def yX6_octet : MethodName := ⟨RX6, "octet", "(II)I"⟩
abbrev cX6_requirePart : ByteArray := prog_1_method_10_code
def yX6_requirePart : MethodName := ⟨RX6, "requirePart", "(I)V"⟩
abbrev cX6_submit : ByteArray := prog_1_method_11_code
def yX6_submit : MethodName := ⟨RX6, "submit", "(II)I"⟩
abbrev cX6_state : ByteArray := prog_1_method_12_code
def yX6_state : MethodName := ⟨RX6, "state", "(I)I"⟩
abbrev cX6_missing : ByteArray := prog_1_method_13_code
def yX6_missing : MethodName := ⟨RX6, "missing", "(I)I"⟩
abbrev cX6_joined : ByteArray := prog_1_method_14_code
def yX6_joined : MethodName := ⟨RX6, "joined", "(II)I"⟩
abbrev cX6_receipts : ByteArray := prog_1_method_15_code
def yX6_receipts : MethodName := ⟨RX6, "receipts", "()I"⟩
abbrev cX6_receipt : ByteArray := prog_1_method_16_code
def yX6_receipt : MethodName := ⟨RX6, "receipt", "(I)I"⟩
abbrev cX6_messageAt : ByteArray := prog_1_method_17_code
def yX6_messageAt : MethodName := ⟨RX6, "messageAt", "(I)LShortmessage$Message;"⟩
abbrev cX6_requireReceiver : ByteArray := prog_1_method_18_code
def yX6_requireReceiver : MethodName := ⟨RX6, "requireReceiver", "(I)V"⟩
abbrev cX6_finish : ByteArray := prog_1_method_19_code
def yX6_finish : MethodName := ⟨RX6, "finish", "(LShortmessage$Message;I)V"⟩
abbrev cX6_pass : ByteArray := prog_1_method_20_code
def yX6_pass : MethodName := ⟨RX6, "pass", "(I)I"⟩
abbrev cX6_time : ByteArray := prog_1_method_21_code
def yX6_time : MethodName := ⟨RX6, "time", "()I"⟩
abbrev cX6_toggleLink : ByteArray := prog_1_method_22_code
def yX6_toggleLink : MethodName := ⟨RX6, "toggleLink", "(I)Z"⟩
abbrev cX6_setWindow : ByteArray := prog_1_method_23_code
def yX6_setWindow : MethodName := ⟨RX6, "setWindow", "(II)I"⟩
abbrev cX6_queued : ByteArray := prog_1_method_24_code
def yX6_queued : MethodName := ⟨RX6, "queued", "(I)I"⟩
abbrev cX6_underWay : ByteArray := prog_1_method_25_code
def yX6_underWay : MethodName := ⟨RX6, "underWay", "(I)I"⟩
abbrev cX6_tokens : ByteArray := prog_1_method_26_code
def yX6_tokens : MethodName := ⟨RX6, "tokens", "(I)I"⟩
abbrev cX6_acknowledge : ByteArray := prog_1_method_27_code
def yX6_acknowledge : MethodName := ⟨RX6, "acknowledge", "(II)I"⟩
abbrev cX6_alert : ByteArray := prog_1_method_28_code
def yX6_alert : MethodName := ⟨RX6, "alert", "(I)I"⟩
abbrev cX6_linkAt : ByteArray := prog_1_method_29_code
def yX6_linkAt : MethodName := ⟨RX6, "linkAt", "(I)LShortmessage$Link;"⟩
abbrev cX6_linkOf : ByteArray := prog_1_method_30_code
def yX6_linkOf : MethodName := ⟨RX6, "linkOf", "(I)LShortmessage$Link;"⟩
abbrev cX6_expireMessages : ByteArray := prog_1_method_31_code
def yX6_expireMessages : MethodName := ⟨RX6, "expireMessages", "()V"⟩
abbrev cX6_sendParts : ByteArray := prog_1_method_32_code
def yX6_sendParts : MethodName := ⟨RX6, "sendParts", "()I"⟩
abbrev cX6_settle : ByteArray := prog_1_method_33_code
def yX6_settle : MethodName := ⟨RX6, "settle", "(LShortmessage$Part;I)V"⟩
abbrev cX6_setKeyword : ByteArray := prog_1_method_34_code
def yX6_setKeyword : MethodName := ⟨RX6, "setKeyword", "(II)V"⟩
abbrev cX6_come : ByteArray := prog_1_method_35_code
def yX6_come : MethodName := ⟨RX6, "come", "(II)I"⟩
def RX7 : String := "ShortmessageModel"
def TX7 : u_T := fun k => match k with
  | 0 => ("ShortmessageModel", "time", "I", false)
  | 1 => ("ShortmessageModel", "signs", "I", false)
  | 2 => ("ShortmessageModel", "text", "[I", true)
  | 3 => ("ShortmessageModel", "messages", "I", false)
  | 4 => ("ShortmessageModel", "sign", "[I", true)
  | 5 => ("ShortmessageModel", "size", "[I", true)
  | 6 => ("ShortmessageModel", "receiver", "[I", true)
  | 7 => ("ShortmessageModel", "over", "[I", true)
  | 8 => ("ShortmessageModel", "state", "[I", true)
  | 9 => ("ShortmessageModel", "receipts", "I", false)
  | 10 => ("ShortmessageModel", "receipt", "[I", true)
  | 11 => ("ShortmessageModel", "due", "[I", true)
  | 12 => ("ShortmessageModel", "failures", "[I", true)
  | 13 => ("ShortmessageModel", "isWaiting", "[Z", true)
  | 14 => ("ShortmessageModel", "isDelivered", "[Z", true)
  | 15 => ("ShortmessageModel", "queued", "[I", true)
  | 16 => ("ShortmessageModel", "queue", "[I", true)
  | 17 => ("ShortmessageModel", "away", "[I", true)
  | 18 => ("ShortmessageModel", "under", "[I", true)
  | 19 => ("ShortmessageModel", "isDown", "[Z", true)
  | 20 => ("ShortmessageModel", "tokens", "[I", true)
  | 21 => ("ShortmessageModel", "window", "[I", true)
  | 22 => ("ShortmessageModel", "keyword", "[I", true)
  | 23 => ("ShortmessageModel", "session", "[I", true)
  | 24 => ("ShortmessageModel", "latest", "[I", true)
  | _ => ("ShortmessageModel", "thrown", "I", false)
def tyX7 : Nat → FieldType := fun k => match k with
  | 0 => .int
  | 1 => .int
  | 2 => .array .int
  | 3 => .int
  | 4 => .array .int
  | 5 => .array .int
  | 6 => .array .int
  | 7 => .array .int
  | 8 => .array .int
  | 9 => .int
  | 10 => .array .int
  | 11 => .array .int
  | 12 => .array .int
  | 13 => .array .boolean
  | 14 => .array .boolean
  | 15 => .array .int
  | 16 => .array .int
  | 17 => .array .int
  | 18 => .array .int
  | 19 => .array .boolean
  | 20 => .array .int
  | 21 => .array .int
  | 22 => .array .int
  | 23 => .array .int
  | 24 => .array .int
  | _ => .int
abbrev wsX70 : List Cond := u_ws RX7 TX7 26
theorem nmX7 : ∀ a, a < 26 → ∀ b, b < 26 → a ≠ b → (TX7 a).2.1 ≠ (TX7 b).2.1 := by decide +kernel
theorem tyX7_ok : ∀ k, k < 26 → parseFieldDescriptor (TX7 k).2.2.1 = some (tyX7 k) := by decide +kernel
abbrev cX7_init : ByteArray := prog_9_method_1_code
def yX7_init : MethodName := ⟨RX7, "<init>", "()V"⟩
abbrev cX7_thrown : ByteArray := prog_9_method_2_code
def yX7_thrown : MethodName := ⟨RX7, "thrown", "()I"⟩
abbrev cX7_fails : ByteArray := prog_9_method_3_code
def yX7_fails : MethodName := ⟨RX7, "fails", "(I)Z"⟩
abbrev cX7_tells : ByteArray := prog_9_method_4_code
def yX7_tells : MethodName := ⟨RX7, "tells", "(I)I"⟩
abbrev cX7_isIn : ByteArray := prog_9_method_5_code
def yX7_isIn : MethodName := ⟨RX7, "isIn", "(III)Z"⟩
abbrev cX7_hasWide : ByteArray := prog_9_method_6_code
def yX7_hasWide : MethodName := ⟨RX7, "hasWide", "([III)Z"⟩
abbrev cX7_width : ByteArray := prog_9_method_7_code
def yX7_width : MethodName := ⟨RX7, "width", "(I)I"⟩
abbrev cX7_septetsIn : ByteArray := prog_9_method_8_code
def yX7_septetsIn : MethodName := ⟨RX7, "septetsIn", "([III)I"⟩
abbrev cX7_signsOf : ByteArray := prog_9_method_9_code
def yX7_signsOf : MethodName := ⟨RX7, "signsOf", "([IIII)I"⟩
abbrev cX7_partsOf : ByteArray := prog_9_method_10_code
def yX7_partsOf : MethodName := ⟨RX7, "partsOf", "([III)I"⟩
abbrev cX7_begins : ByteArray := prog_9_method_11_code
def yX7_begins : MethodName := ⟨RX7, "begins", "([IIII)I"⟩
abbrev cX7_write : ByteArray := prog_9_method_12_code
def yX7_write : MethodName := ⟨RX7, "write", "(II)I"⟩
abbrev cX7_erase : ByteArray := prog_9_method_13_code
def yX7_erase : MethodName := ⟨RX7, "erase", "()I"⟩
abbrev cX7_isWide : ByteArray := prog_9_method_14_code
def yX7_isWide : MethodName := ⟨RX7, "isWide", "()Z"⟩
abbrev cX7_septets : ByteArray := prog_9_method_15_code
def yX7_septets : MethodName := ⟨RX7, "septets", "()I"⟩
abbrev cX7_parts : ByteArray := prog_9_method_16_code
def yX7_parts : MethodName := ⟨RX7, "parts", "()I"⟩
abbrev cX7_isPart : ByteArray := prog_9_method_17_code
def yX7_isPart : MethodName := ⟨RX7, "isPart", "(I)Z"⟩
abbrev cX7_signs : ByteArray := prog_9_method_18_code
def yX7_signs : MethodName := ⟨RX7, "signs", "(I)I"⟩
abbrev cX7_octetsOf : ByteArray := prog_9_method_19_code
def yX7_octetsOf : MethodName := ⟨RX7, "octetsOf", "(I)I"⟩
abbrev cX7_octets : ByteArray := prog_9_method_20_code
def yX7_octets : MethodName := ⟨RX7, "octets", "(I)I"⟩
abbrev cX7_septet : ByteArray := prog_9_method_21_code
def yX7_septet : MethodName := ⟨RX7, "septet", "(II)I"⟩
abbrev cX7_octet : ByteArray := prog_9_method_22_code
def yX7_octet : MethodName := ⟨RX7, "octet", "(II)I"⟩
abbrev cX7_partsIn : ByteArray := prog_9_method_23_code
def yX7_partsIn : MethodName := ⟨RX7, "partsIn", "(I)I"⟩
abbrev cX7_puts : ByteArray := prog_9_method_24_code
def yX7_puts : MethodName := ⟨RX7, "puts", "(IIIZ)V"⟩
abbrev cX7_submit : ByteArray := prog_9_method_25_code
def yX7_submit : MethodName := ⟨RX7, "submit", "(II)I"⟩
abbrev cX7_isMessage : ByteArray := prog_9_method_26_code
def yX7_isMessage : MethodName := ⟨RX7, "isMessage", "(I)Z"⟩
abbrev cX7_state : ByteArray := prog_9_method_27_code
def yX7_state : MethodName := ⟨RX7, "state", "(I)I"⟩
abbrev cX7_lacks : ByteArray := prog_9_method_28_code
def yX7_lacks : MethodName := ⟨RX7, "lacks", "(I)I"⟩
abbrev cX7_missing : ByteArray := prog_9_method_29_code
def yX7_missing : MethodName := ⟨RX7, "missing", "(I)I"⟩
abbrev cX7_joined : ByteArray := prog_9_method_30_code
def yX7_joined : MethodName := ⟨RX7, "joined", "(II)I"⟩
abbrev cX7_receipts : ByteArray := prog_9_method_31_code
def yX7_receipts : MethodName := ⟨RX7, "receipts", "()I"⟩
abbrev cX7_receipt : ByteArray := prog_9_method_32_code
def yX7_receipt : MethodName := ⟨RX7, "receipt", "(I)I"⟩
abbrev cX7_ends : ByteArray := prog_9_method_33_code
def yX7_ends : MethodName := ⟨RX7, "ends", "(II)V"⟩
abbrev cX7_first : ByteArray := prog_9_method_34_code
def yX7_first : MethodName := ⟨RX7, "first", "(I)I"⟩
abbrev cX7_sends : ByteArray := prog_9_method_35_code
def yX7_sends : MethodName := ⟨RX7, "sends", "(I)I"⟩
abbrev cX7_pass : ByteArray := prog_9_method_36_code
def yX7_pass : MethodName := ⟨RX7, "pass", "(I)I"⟩
abbrev cX7_time : ByteArray := prog_9_method_37_code
def yX7_time : MethodName := ⟨RX7, "time", "()I"⟩
abbrev cX7_isLink : ByteArray := prog_9_method_38_code
def yX7_isLink : MethodName := ⟨RX7, "isLink", "(I)Z"⟩
abbrev cX7_toggleLink : ByteArray := prog_9_method_39_code
def yX7_toggleLink : MethodName := ⟨RX7, "toggleLink", "(I)Z"⟩
abbrev cX7_setWindow : ByteArray := prog_9_method_40_code
def yX7_setWindow : MethodName := ⟨RX7, "setWindow", "(II)I"⟩
abbrev cX7_of : ByteArray := prog_9_method_41_code
def yX7_of : MethodName := ⟨RX7, "of", "([II)I"⟩
abbrev cX7_queued : ByteArray := prog_9_method_42_code
def yX7_queued : MethodName := ⟨RX7, "queued", "(I)I"⟩
abbrev cX7_underWay : ByteArray := prog_9_method_43_code
def yX7_underWay : MethodName := ⟨RX7, "underWay", "(I)I"⟩
abbrev cX7_tokens : ByteArray := prog_9_method_44_code
def yX7_tokens : MethodName := ⟨RX7, "tokens", "(I)I"⟩
abbrev cX7_becomes : ByteArray := prog_9_method_45_code
def yX7_becomes : MethodName := ⟨RX7, "becomes", "(II)V"⟩
abbrev cX7_acknowledge : ByteArray := prog_9_method_46_code
def yX7_acknowledge : MethodName := ⟨RX7, "acknowledge", "(II)I"⟩
abbrev cX7_alert : ByteArray := prog_9_method_47_code
def yX7_alert : MethodName := ⟨RX7, "alert", "(I)I"⟩
abbrev cX7_setKeyword : ByteArray := prog_9_method_48_code
def yX7_setKeyword : MethodName := ⟨RX7, "setKeyword", "(II)V"⟩
abbrev cX7_come : ByteArray := prog_9_method_49_code
def yX7_come : MethodName := ⟨RX7, "come", "(II)I"⟩
def RJx145de : String := "java/io/Serializable"
def TJx145de : u_T := fun k => match k with
  | _ => ("", "", "", false)
def tyJx145de : Nat → FieldType := fun k => match k with
  | _ => .int
abbrev wsJx145de0 : List Cond := u_ws RJx145de TJx145de 0
theorem nmJx145de : ∀ a, a < 0 → ∀ b, b < 0 → a ≠ b → (TJx145de a).2.1 ≠ (TJx145de b).2.1 := by decide +kernel
theorem tyJx145de_ok : ∀ k, k < 0 → parseFieldDescriptor (TJx145de k).2.2.1 = some (tyJx145de k) := by decide +kernel
def RJx8e188 : String := "java/lang/Cloneable"
def TJx8e188 : u_T := fun k => match k with
  | _ => ("", "", "", false)
def tyJx8e188 : Nat → FieldType := fun k => match k with
  | _ => .int
abbrev wsJx8e1880 : List Cond := u_ws RJx8e188 TJx8e188 0
theorem nmJx8e188 : ∀ a, a < 0 → ∀ b, b < 0 → a ≠ b → (TJx8e188 a).2.1 ≠ (TJx8e188 b).2.1 := by decide +kernel
theorem tyJx8e188_ok : ∀ k, k < 0 → parseFieldDescriptor (TJx8e188 k).2.2.1 = some (tyJx8e188 k) := by decide +kernel
def RJ9 : String := "java/lang/Math"
def TJ9 : u_T := fun k => match k with
  | _ => ("", "", "", false)
def tyJ9 : Nat → FieldType := fun k => match k with
  | _ => .int
abbrev wsJ90 : List Cond := u_ws RJ9 TJ9 0
theorem nmJ9 : ∀ a, a < 0 → ∀ b, b < 0 → a ≠ b → (TJ9 a).2.1 ≠ (TJ9 b).2.1 := by decide +kernel
theorem tyJ9_ok : ∀ k, k < 0 → parseFieldDescriptor (TJ9 k).2.2.1 = some (tyJ9 k) := by decide +kernel
abbrev cJ9_min_7cf53 : ByteArray := prog_15_method_69_code
def yJ9_min_7cf53 : MethodName := ⟨RJ9, "min", "(II)I"⟩
def RJ0 : String := "java/lang/String"
def TJ0 : u_T := fun k => match k with
  | _ => ("", "", "", false)
def tyJ0 : Nat → FieldType := fun k => match k with
  | _ => .int
abbrev wsJ00 : List Cond := u_ws RJ0 TJ0 0
theorem nmJ0 : ∀ a, a < 0 → ∀ b, b < 0 → a ≠ b → (TJ0 a).2.1 ≠ (TJ0 b).2.1 := by decide +kernel
theorem tyJ0_ok : ∀ k, k < 0 → parseFieldDescriptor (TJ0 k).2.2.1 = some (tyJ0 k) := by decide +kernel
def RJ10 : String := "java/lang/System"
def TJ10 : u_T := fun k => match k with
  | _ => ("", "", "", false)
def tyJ10 : Nat → FieldType := fun k => match k with
  | _ => .int
abbrev wsJ100 : List Cond := u_ws RJ10 TJ10 0
theorem nmJ10 : ∀ a, a < 0 → ∀ b, b < 0 → a ≠ b → (TJ10 a).2.1 ≠ (TJ10 b).2.1 := by decide +kernel
theorem tyJ10_ok : ∀ k, k < 0 → parseFieldDescriptor (TJ10 k).2.2.1 = some (tyJ10 k) := by decide +kernel
def RJ7 : String := "java/util/Arrays"
def TJ7 : u_T := fun k => match k with
  | _ => ("", "", "", false)
def tyJ7 : Nat → FieldType := fun k => match k with
  | _ => .int
abbrev wsJ70 : List Cond := u_ws RJ7 TJ7 0
theorem nmJ7 : ∀ a, a < 0 → ∀ b, b < 0 → a ≠ b → (TJ7 a).2.1 ≠ (TJ7 b).2.1 := by decide +kernel
theorem tyJ7_ok : ∀ k, k < 0 → parseFieldDescriptor (TJ7 k).2.2.1 = some (tyJ7 k) := by decide +kernel
abbrev cJ7_fill_53178 : ByteArray := prog_20_method_103_code
def yJ7_fill_53178 : MethodName := ⟨RJ7, "fill", "([II)V"⟩
abbrev cJ7_copyOf_59c91 : ByteArray := prog_20_method_123_code
def yJ7_copyOf_59c91 : MethodName := ⟨RJ7, "copyOf", "([II)[I"⟩
def RL : String := "ShortmessageLaw"
abbrev cL_write : ByteArray := method_3_code
def yL_write : MethodName := ⟨RL, "write", "(LShortmessage;II[J)I"⟩
abbrev cL_septets : ByteArray := method_4_code
def yL_septets : MethodName := ⟨RL, "septets", "(LShortmessage;[J)I"⟩
abbrev cL_signs : ByteArray := method_5_code
def yL_signs : MethodName := ⟨RL, "signs", "(LShortmessage;I[J)I"⟩
abbrev cL_octets : ByteArray := method_6_code
def yL_octets : MethodName := ⟨RL, "octets", "(LShortmessage;I[J)I"⟩
abbrev cL_octet : ByteArray := method_7_code
def yL_octet : MethodName := ⟨RL, "octet", "(LShortmessage;II[J)I"⟩
abbrev cL_submit : ByteArray := method_8_code
def yL_submit : MethodName := ⟨RL, "submit", "(LShortmessage;II[J)I"⟩
abbrev cL_state : ByteArray := method_9_code
def yL_state : MethodName := ⟨RL, "state", "(LShortmessage;I[J)I"⟩
abbrev cL_missing : ByteArray := method_10_code
def yL_missing : MethodName := ⟨RL, "missing", "(LShortmessage;I[J)I"⟩
abbrev cL_joined : ByteArray := method_11_code
def yL_joined : MethodName := ⟨RL, "joined", "(LShortmessage;II[J)I"⟩
abbrev cL_receipt : ByteArray := method_12_code
def yL_receipt : MethodName := ⟨RL, "receipt", "(LShortmessage;I[J)I"⟩
abbrev cL_pass : ByteArray := method_13_code
def yL_pass : MethodName := ⟨RL, "pass", "(LShortmessage;I[J)I"⟩
abbrev cL_toggleLink : ByteArray := method_14_code
def yL_toggleLink : MethodName := ⟨RL, "toggleLink", "(LShortmessage;I[J)I"⟩
abbrev cL_setWindow : ByteArray := method_15_code
def yL_setWindow : MethodName := ⟨RL, "setWindow", "(LShortmessage;II[J)I"⟩
abbrev cL_queued : ByteArray := method_16_code
def yL_queued : MethodName := ⟨RL, "queued", "(LShortmessage;I[J)I"⟩
abbrev cL_underWay : ByteArray := method_17_code
def yL_underWay : MethodName := ⟨RL, "underWay", "(LShortmessage;I[J)I"⟩
abbrev cL_tokens : ByteArray := method_18_code
def yL_tokens : MethodName := ⟨RL, "tokens", "(LShortmessage;I[J)I"⟩
abbrev cL_acknowledge : ByteArray := method_19_code
def yL_acknowledge : MethodName := ⟨RL, "acknowledge", "(LShortmessage;II[J)I"⟩
abbrev cL_alert : ByteArray := method_20_code
def yL_alert : MethodName := ⟨RL, "alert", "(LShortmessage;I[J)I"⟩
abbrev cL_setKeyword : ByteArray := method_21_code
def yL_setKeyword : MethodName := ⟨RL, "setKeyword", "(LShortmessage;II)I"⟩
abbrev cL_come : ByteArray := method_22_code
def yL_come : MethodName := ⟨RL, "come", "(LShortmessage;II[J)I"⟩
abbrev cL_law : ByteArray := code
def yL_law : MethodName := ⟨RL, "law", "([I)Z"⟩
def wsL_law0_r1 : List Cond := [Cond.classLink RL 8 RX6, Cond.instantiable RX6 8, Cond.initialized RX6, Cond.classLink RL 81 RX7, Cond.instantiable RX7 26, Cond.initialized RX7, Cond.arrayClass .long, Cond.methodLink RL 80 yX6_init, Cond.instanceMethod yX6_init, Cond.code yX6_init cX6_init 2 none, Cond.methodLink RX6 1 objectInit, Cond.instanceMethod objectInit, Cond.code objectInit ⟨#[0xb1]⟩ 1 none, Cond.classLink RX6 7 RX5, Cond.instantiable RX5 6, Cond.initialized RX5, Cond.fieldLink RX6 10 "Shortmessage" "text" "LShortmessage$Text;", Cond.classLink RX6 16 RX1, Cond.fieldLink RX6 18 "Shortmessage" "messages" "[LShortmessage$Message;", Cond.fieldLink RX6 22 "Shortmessage" "messageCount" "I", Cond.arrayClass .int, Cond.fieldLink RX6 26 "Shortmessage" "receiptRow" "[I", Cond.fieldLink RX6 30 "Shortmessage" "receiptCount" "I", Cond.classLink RX6 33 RX0]
def wsL_law0_r2 : List Cond := [Cond.fieldLink RX6 35 "Shortmessage" "links" "[LShortmessage$Link;", Cond.classLink RX6 39 RX3, Cond.instantiable RX3 3, Cond.initialized RX3, Cond.fieldLink RX6 42 "Shortmessage" "reception" "LShortmessage$Reception;", Cond.fieldLink RX6 46 "Shortmessage" "now" "I", Cond.instantiable RX0 5, Cond.initialized RX0, Cond.instanceMethod yX5_init, Cond.code yX5_init cX5_init 1 none, Cond.methodLink RX5 3 objectInit, Cond.fieldLink RX5 9 "Shortmessage$Text" "row" "[I", Cond.fieldLink RX5 15 "Shortmessage$Text" "count" "I", Cond.fieldLink RX5 19 "Shortmessage$Text" "septetCount" "I", Cond.fieldLink RX5 22 "Shortmessage$Text" "wide" "Z", Cond.fieldLink RX5 26 "Shortmessage$Text" "starts" "[I", Cond.fieldLink RX5 29 "Shortmessage$Text" "partCount" "I", Cond.methodLink RX6 41 yX3_init, Cond.instanceMethod yX3_init, Cond.code yX3_init cX3_init 1 none, Cond.methodLink RX3 3 objectInit, Cond.fieldLink RX3 9 "Shortmessage$Reception" "keywords" "[I", Cond.fieldLink RX3 15 "Shortmessage$Reception" "sessions" "[I", Cond.fieldLink RX3 18 "Shortmessage$Reception" "latest" "[I"]
def wsL_law0_r3 : List Cond := [Cond.methodLink RX3 21 yJ7_fill_53178, Cond.static yJ7_fill_53178, Cond.initialized RJ7, Cond.code yJ7_fill_53178 cJ7_fill_53178 4 none, Cond.instanceMethod yX0_init, Cond.code yX0_init cX0_init 1 none, Cond.methodLink RX0 3 objectInit, Cond.classLink RX0 9 RX4, Cond.instantiable RX4 2, Cond.initialized RX4, Cond.fieldLink RX0 12 "Shortmessage$Link" "queue" "LShortmessage$Row;", Cond.fieldLink RX0 18 "Shortmessage$Link" "sent" "LShortmessage$Row;", Cond.fieldLink RX0 21 "Shortmessage$Link" "up" "Z", Cond.fieldLink RX0 25 "Shortmessage$Link" "window" "I", Cond.fieldLink RX0 29 "Shortmessage$Link" "tokens" "I", Cond.instanceMethod yX4_init, Cond.code yX4_init cX4_init 1 none, Cond.methodLink RX4 3 objectInit, Cond.classLink RX4 9 RX2, Cond.fieldLink RX4 11 "Shortmessage$Row" "row" "[LShortmessage$Part;", Cond.fieldLink RX4 17 "Shortmessage$Row" "count" "I", Cond.methodLink RL 83 yX7_init, Cond.instanceMethod yX7_init, Cond.code yX7_init cX7_init 2 none]
def wsL_law0_r4 : List Cond := [Cond.methodLink RX7 1 objectInit, Cond.fieldLink RX7 7 "ShortmessageModel" "text" "[I", Cond.fieldLink RX7 13 "ShortmessageModel" "sign" "[I", Cond.fieldLink RX7 16 "ShortmessageModel" "size" "[I", Cond.fieldLink RX7 19 "ShortmessageModel" "receiver" "[I", Cond.fieldLink RX7 22 "ShortmessageModel" "over" "[I", Cond.fieldLink RX7 25 "ShortmessageModel" "state" "[I", Cond.fieldLink RX7 28 "ShortmessageModel" "receipt" "[I", Cond.fieldLink RX7 31 "ShortmessageModel" "due" "[I", Cond.fieldLink RX7 34 "ShortmessageModel" "failures" "[I", Cond.arrayClass .boolean, Cond.fieldLink RX7 37 "ShortmessageModel" "isWaiting" "[Z", Cond.fieldLink RX7 41 "ShortmessageModel" "isDelivered" "[Z", Cond.fieldLink RX7 44 "ShortmessageModel" "queued" "[I", Cond.fieldLink RX7 47 "ShortmessageModel" "queue" "[I", Cond.fieldLink RX7 50 "ShortmessageModel" "away" "[I", Cond.fieldLink RX7 53 "ShortmessageModel" "under" "[I", Cond.fieldLink RX7 56 "ShortmessageModel" "isDown" "[Z", Cond.fieldLink RX7 59 "ShortmessageModel" "tokens" "[I", Cond.fieldLink RX7 62 "ShortmessageModel" "window" "[I", Cond.fieldLink RX7 65 "ShortmessageModel" "keyword" "[I", Cond.fieldLink RX7 68 "ShortmessageModel" "session" "[I", Cond.fieldLink RX7 71 "ShortmessageModel" "latest" "[I", Cond.methodLink RL 84 yL_write]
def wsL_law0_r5 : List Cond := [Cond.static yL_write, Cond.initialized RL, Cond.codeWith yL_write cL_write 5 (some .int) [(0, 10, 13, 13), (0, 10, 17, 15)], Cond.classLink RL 13 "java/lang/IllegalArgumentException", Cond.classLink RL 15 "java/lang/IllegalStateException", Cond.methodLink RL 7 yX6_write, Cond.instanceMethod yX6_write, Cond.selects RX6 yX6_write yX6_write, Cond.code yX6_write cX6_write 3 (some .int), Cond.classLink RX6 50 "java/lang/IllegalArgumentException", Cond.initialized "java/lang/IllegalArgumentException", Cond.classLink RX6 60 "java/lang/IllegalStateException", Cond.initialized "java/lang/IllegalStateException", Cond.methodLink RX6 65 yX5_append, Cond.instanceMethod yX5_append, Cond.selects RX5 yX5_append yX5_append, Cond.code yX5_append cX5_append 4 none, Cond.methodLink RX5 32 yX5_septetsOf, Cond.static yX5_septetsOf, Cond.code yX5_septetsOf cX5_septetsOf 1 (some .int), Cond.methodLink RX5 36 yX5_cut, Cond.instanceMethod yX5_cut, Cond.selects RX5 yX5_cut yX5_cut, Cond.code yX5_cut cX5_cut 5 none]
def wsL_law0_r6 : List Cond := [Cond.methodLink RX5 58 yX5_roomOfAPart, Cond.instanceMethod yX5_roomOfAPart, Cond.selects RX5 yX5_roomOfAPart yX5_roomOfAPart, Cond.code yX5_roomOfAPart cX5_roomOfAPart 1 (some .int), Cond.methodLink RX5 45 yX5_signAt, Cond.instanceMethod yX5_signAt, Cond.selects RX5 yX5_signAt yX5_signAt, Cond.code yX5_signAt cX5_signAt 2 (some .int), Cond.methodLink RL 89 yX7_write, Cond.instanceMethod yX7_write, Cond.selects RX7 yX7_write yX7_write, Cond.code yX7_write cX7_write 5 (some .int), Cond.fieldLink RX7 98 "ShortmessageModel" "signs" "I", Cond.methodLink RX7 94 yX7_isIn, Cond.static yX7_isIn, Cond.code yX7_isIn cX7_isIn 3 (some .boolean), Cond.methodLink RX7 101 yX7_fails, Cond.instanceMethod yX7_fails, Cond.selects RX7 yX7_fails yX7_fails, Cond.code yX7_fails cX7_fails 2 (some .boolean), Cond.fieldLink RX7 74 "ShortmessageModel" "thrown" "I", Cond.methodLink RL 90 yX7_thrown, Cond.instanceMethod yX7_thrown, Cond.selects RX7 yX7_thrown yX7_thrown]
def wsL_law0_r7 : List Cond := [Cond.code yX7_thrown cX7_thrown 1 (some .int), Cond.methodLink RL 93 yX6_erase, Cond.instanceMethod yX6_erase, Cond.selects RX6 yX6_erase yX6_erase, Cond.code yX6_erase cX6_erase 2 (some .int), Cond.methodLink RX6 69 yX5_clear, Cond.instanceMethod yX5_clear, Cond.selects RX5 yX5_clear yX5_clear, Cond.code yX5_clear cX5_clear 1 none, Cond.methodLink RL 96 yX7_erase, Cond.instanceMethod yX7_erase, Cond.selects RX7 yX7_erase yX7_erase, Cond.code yX7_erase cX7_erase 2 (some .int), Cond.methodLink RL 97 yX6_isWide, Cond.instanceMethod yX6_isWide, Cond.selects RX6 yX6_isWide yX6_isWide, Cond.code yX6_isWide cX6_isWide 1 (some .boolean), Cond.methodLink RL 101 yX7_isWide, Cond.instanceMethod yX7_isWide, Cond.selects RX7 yX7_isWide yX7_isWide, Cond.code yX7_isWide cX7_isWide 1 (some .boolean), Cond.methodLink RX7 82 yX7_hasWide, Cond.static yX7_hasWide, Cond.code yX7_hasWide cX7_hasWide 5 (some .boolean)]
def wsL_law0_r8 : List Cond := [Cond.methodLink RL 102 yL_septets, Cond.static yL_septets, Cond.codeWith yL_septets cL_septets 3 (some .int) [(0, 8, 11, 15)], Cond.methodLink RL 17 yX6_septets, Cond.instanceMethod yX6_septets, Cond.selects RX6 yX6_septets yX6_septets, Cond.code yX6_septets cX6_septets 1 (some .int), Cond.methodLink RL 105 yX7_septets, Cond.instanceMethod yX7_septets, Cond.selects RX7 yX7_septets yX7_septets, Cond.code yX7_septets cX7_septets 1 (some .int), Cond.methodLink RX7 86 yX7_septetsIn, Cond.static yX7_septetsIn, Cond.code yX7_septetsIn cX7_septetsIn 5 (some .int), Cond.methodLink RX7 78 yX7_width, Cond.static yX7_width, Cond.code yX7_width cX7_width 1 (some .int), Cond.methodLink RL 106 yX6_parts, Cond.instanceMethod yX6_parts, Cond.selects RX6 yX6_parts yX6_parts, Cond.code yX6_parts cX6_parts 1 (some .int), Cond.methodLink RL 109 yX7_parts, Cond.instanceMethod yX7_parts, Cond.selects RX7 yX7_parts yX7_parts]
def wsL_law0_r9 : List Cond := [Cond.code yX7_parts cX7_parts 1 (some .int), Cond.methodLink RX7 105 yX7_partsOf, Cond.static yX7_partsOf, Cond.code yX7_partsOf cX7_partsOf 4 (some .int), Cond.methodLink RX7 90 yX7_signsOf, Cond.static yX7_signsOf, Cond.code yX7_signsOf cX7_signsOf 9 (some .int), Cond.methodLink RX7 108 yX7_tells, Cond.instanceMethod yX7_tells, Cond.selects RX7 yX7_tells yX7_tells, Cond.code yX7_tells cX7_tells 2 (some .int), Cond.methodLink RL 110 yL_signs, Cond.static yL_signs, Cond.codeWith yL_signs cL_signs 4 (some .int) [(0, 9, 12, 25)], Cond.classLink RL 25 "java/lang/IndexOutOfBoundsException", Cond.methodLink RL 21 yX6_signs, Cond.instanceMethod yX6_signs, Cond.selects RX6 yX6_signs yX6_signs, Cond.code yX6_signs cX6_signs 2 (some .int), Cond.methodLink RX6 84 yX6_requirePart, Cond.instanceMethod yX6_requirePart, Cond.selects RX6 yX6_requirePart yX6_requirePart, Cond.code yX6_requirePart cX6_requirePart 2 none, Cond.classLink RX6 95 "java/lang/IndexOutOfBoundsException"]
def wsL_law0_r10 : List Cond := [Cond.initialized "java/lang/IndexOutOfBoundsException", Cond.methodLink RX6 88 yX5_startOf, Cond.instanceMethod yX5_startOf, Cond.selects RX5 yX5_startOf yX5_startOf, Cond.code yX5_startOf cX5_startOf 2 (some .int), Cond.methodLink RL 113 yX7_signs, Cond.instanceMethod yX7_signs, Cond.selects RX7 yX7_signs yX7_signs, Cond.code yX7_signs cX7_signs 2 (some .int), Cond.methodLink RX7 111 yX7_isPart, Cond.instanceMethod yX7_isPart, Cond.selects RX7 yX7_isPart yX7_isPart, Cond.code yX7_isPart cX7_isPart 2 (some .boolean), Cond.methodLink RL 114 yL_octets, Cond.static yL_octets, Cond.codeWith yL_octets cL_octets 4 (some .int) [(0, 9, 12, 25)], Cond.methodLink RL 27 yX6_octets, Cond.instanceMethod yX6_octets, Cond.selects RX6 yX6_octets yX6_octets, Cond.code yX6_octets cX6_octets 2 (some .int), Cond.methodLink RX6 92 yX5_octetsOf, Cond.instanceMethod yX5_octetsOf, Cond.selects RX5 yX5_octetsOf yX5_octetsOf, Cond.code yX5_octetsOf cX5_octetsOf 2 (some .int)]
def wsL_law0_r11 : List Cond := [Cond.methodLink RX5 39 yX5_startOf, Cond.methodLink RX5 42 yX5_septetsIn, Cond.instanceMethod yX5_septetsIn, Cond.selects RX5 yX5_septetsIn yX5_septetsIn, Cond.code yX5_septetsIn cX5_septetsIn 5 (some .int), Cond.methodLink RL 116 yX7_octets, Cond.instanceMethod yX7_octets, Cond.selects RX7 yX7_octets yX7_octets, Cond.code yX7_octets cX7_octets 2 (some .int), Cond.methodLink RX7 117 yX7_octetsOf, Cond.instanceMethod yX7_octetsOf, Cond.selects RX7 yX7_octetsOf yX7_octetsOf, Cond.code yX7_octetsOf cX7_octetsOf 4 (some .int), Cond.methodLink RX7 114 yX7_begins, Cond.static yX7_begins, Cond.code yX7_begins cX7_begins 6 (some .int), Cond.methodLink RL 117 yL_octet, Cond.static yL_octet, Cond.codeWith yL_octet cL_octet 5 (some .int) [(0, 10, 13, 25)], Cond.methodLink RL 30 yX6_octet, Cond.instanceMethod yX6_octet, Cond.selects RX6 yX6_octet yX6_octet, Cond.code yX6_octet cX6_octet 3 (some .int), Cond.methodLink RX6 100 yX5_octetAt]
def wsL_law0_r12 : List Cond := [Cond.instanceMethod yX5_octetAt, Cond.selects RX5 yX5_octetAt yX5_octetAt, Cond.code yX5_octetAt cX5_octetAt 6 (some .int), Cond.methodLink RX5 48 yX5_septetAt, Cond.instanceMethod yX5_septetAt, Cond.selects RX5 yX5_septetAt yX5_septetAt, Cond.code yX5_septetAt cX5_septetAt 8 (some .int), Cond.methodLink RX5 62 yX5_septetOf, Cond.static yX5_septetOf, Cond.code yX5_septetOf cX5_septetOf 2 (some .int), Cond.methodLink RL 119 yX7_octet, Cond.instanceMethod yX7_octet, Cond.selects RX7 yX7_octet yX7_octet, Cond.code yX7_octet cX7_octet 6 (some .int), Cond.methodLink RX7 120 yX7_septet, Cond.instanceMethod yX7_septet, Cond.selects RX7 yX7_septet yX7_septet, Cond.code yX7_septet cX7_septet 6 (some .int), Cond.methodLink RL 120 yL_submit, Cond.static yL_submit, Cond.codeWith yL_submit cL_submit 5 (some .int) [(0, 10, 13, 13), (0, 10, 17, 15)], Cond.methodLink RL 33 yX6_submit, Cond.instanceMethod yX6_submit, Cond.selects RX6 yX6_submit yX6_submit]
def wsL_law0_r13 : List Cond := [Cond.code yX6_submit cX6_submit 5 (some .int), Cond.instantiable RX1 9, Cond.initialized RX1, Cond.classLink RX6 129 RX2, Cond.instantiable RX2 5, Cond.initialized RX2, Cond.methodLink RX6 106 yX6_requireReceiver, Cond.instanceMethod yX6_requireReceiver, Cond.selects RX6 yX6_requireReceiver yX6_requireReceiver, Cond.code yX6_requireReceiver cX6_requireReceiver 2 none, Cond.methodLink RX6 113 yX6_linkOf, Cond.instanceMethod yX6_linkOf, Cond.selects RX6 yX6_linkOf yX6_linkOf, Cond.code yX6_linkOf cX6_linkOf 2 (some (.object "Shortmessage$Link")), Cond.methodLink RX6 182 yX6_linkAt, Cond.instanceMethod yX6_linkAt, Cond.selects RX6 yX6_linkAt yX6_linkAt, Cond.code yX6_linkAt cX6_linkAt 2 (some (.object "Shortmessage$Link")), Cond.methodLink RX6 117 yX1_init, Cond.instanceMethod yX1_init, Cond.code yX1_init cX1_init 6 none, Cond.methodLink RX1 3 objectInit, Cond.fieldLink RX1 9 "Shortmessage$Message" "state" "I", Cond.fieldLink RX1 15 "Shortmessage$Message" "number" "I"]
def wsL_law0_r14 : List Cond := [Cond.fieldLink RX1 18 "Shortmessage$Message" "receiver" "I", Cond.fieldLink RX1 21 "Shortmessage$Message" "end" "I", Cond.fieldLink RX1 24 "Shortmessage$Message" "link" "LShortmessage$Link;", Cond.fieldLink RX1 34 "Shortmessage$Message" "signs" "[I", Cond.fieldLink RX1 41 "Shortmessage$Message" "starts" "[I", Cond.fieldLink RX1 47 "Shortmessage$Message" "partCount" "I", Cond.fieldLink RX1 48 "Shortmessage$Message" "lacking" "I", Cond.methodLink RX1 28 yX5_copyOfSigns, Cond.instanceMethod yX5_copyOfSigns, Cond.selects RX5 yX5_copyOfSigns yX5_copyOfSigns, Cond.code yX5_copyOfSigns cX5_copyOfSigns 1 (some (.array .int)), Cond.methodLink RX5 52 yJ7_copyOf_59c91, Cond.static yJ7_copyOf_59c91, Cond.code yJ7_copyOf_59c91 cJ7_copyOf_59c91 3 (some (.array .int)), Cond.methodLink RJ7 316 ⟨"[I", "clone", "()Ljava/lang/Object;"⟩, Cond.sameMethod "[I" "java/lang/Object" "clone" "()Ljava/lang/Object;", Cond.native ⟨"java/lang/Object", "clone", "()Ljava/lang/Object;"⟩, Cond.instanceMethod ⟨"java/lang/Object", "clone", "()Ljava/lang/Object;"⟩, Cond.selects "[I" ⟨"[I", "clone", "()Ljava/lang/Object;"⟩ ⟨"java/lang/Object", "clone", "()Ljava/lang/Object;"⟩, Cond.classLink RJ7 317 "[I", Cond.methodLink RJ7 304 Lib.Math.min.name, Cond.static Lib.Math.min.name, Cond.initialized "java/lang/Math", Cond.code Lib.Math.min.name Lib.Math.min.code 2 (some .int)]
def wsL_law0_r15 : List Cond := [Cond.methodLink RJ7 150 arraycopyName, Cond.native arraycopyName, Cond.static arraycopyName, Cond.initialized "java/lang/System", Cond.methodLink RX1 38 yX5_copyOfStarts, Cond.instanceMethod yX5_copyOfStarts, Cond.selects RX5 yX5_copyOfStarts yX5_copyOfStarts, Cond.code yX5_copyOfStarts cX5_copyOfStarts 1 (some (.array .int)), Cond.methodLink RX6 131 yX2_init, Cond.instanceMethod yX2_init, Cond.code yX2_init cX2_init 4 none, Cond.methodLink RX2 1 objectInit, Cond.fieldLink RX2 7 "Shortmessage$Part" "failures" "I", Cond.fieldLink RX2 13 "Shortmessage$Part" "waitsForAlert" "Z", Cond.fieldLink RX2 17 "Shortmessage$Part" "message" "LShortmessage$Message;", Cond.fieldLink RX2 21 "Shortmessage$Part" "number" "I", Cond.fieldLink RX2 24 "Shortmessage$Part" "tryAt" "I", Cond.methodLink RX6 134 yX4_addLast, Cond.instanceMethod yX4_addLast, Cond.selects RX4 yX4_addLast yX4_addLast, Cond.code yX4_addLast cX4_addLast 2 none, Cond.methodLink RX4 21 yX4_insert, Cond.instanceMethod yX4_insert, Cond.selects RX4 yX4_insert yX4_insert]
def wsL_law0_r16 : List Cond := [Cond.code yX4_insert cX4_insert 4 none, Cond.methodLink RL 122 yX7_submit, Cond.instanceMethod yX7_submit, Cond.selects RX7 yX7_submit yX7_submit, Cond.code yX7_submit cX7_submit 6 (some .int), Cond.fieldLink RX7 124 "ShortmessageModel" "messages" "I", Cond.fieldLink RX7 127 "ShortmessageModel" "time" "I", Cond.methodLink RX7 130 yX7_partsIn, Cond.instanceMethod yX7_partsIn, Cond.selects RX7 yX7_partsIn yX7_partsIn, Cond.code yX7_partsIn cX7_partsIn 2 (some .int), Cond.methodLink RX7 133 yX7_puts, Cond.instanceMethod yX7_puts, Cond.selects RX7 yX7_puts yX7_puts, Cond.code yX7_puts cX7_puts 5 none, Cond.methodLink RL 123 yL_state, Cond.static yL_state, Cond.codeWith yL_state cL_state 4 (some .int) [(0, 9, 12, 25)], Cond.methodLink RL 36 yX6_state, Cond.instanceMethod yX6_state, Cond.selects RX6 yX6_state yX6_state, Cond.code yX6_state cX6_state 2 (some .int), Cond.methodLink RX6 143 yX6_messageAt, Cond.instanceMethod yX6_messageAt]
def wsL_law0_r17 : List Cond := [Cond.selects RX6 yX6_messageAt yX6_messageAt, Cond.code yX6_messageAt cX6_messageAt 2 (some (.object "Shortmessage$Message")), Cond.methodLink RL 125 yX7_state, Cond.instanceMethod yX7_state, Cond.selects RX7 yX7_state yX7_state, Cond.code yX7_state cX7_state 2 (some .int), Cond.methodLink RX7 137 yX7_isMessage, Cond.instanceMethod yX7_isMessage, Cond.selects RX7 yX7_isMessage yX7_isMessage, Cond.code yX7_isMessage cX7_isMessage 2 (some .boolean), Cond.methodLink RL 126 yL_missing, Cond.static yL_missing, Cond.codeWith yL_missing cL_missing 4 (some .int) [(0, 9, 12, 25)], Cond.methodLink RL 39 yX6_missing, Cond.instanceMethod yX6_missing, Cond.selects RX6 yX6_missing yX6_missing, Cond.code yX6_missing cX6_missing 2 (some .int), Cond.methodLink RL 128 yX7_missing, Cond.instanceMethod yX7_missing, Cond.selects RX7 yX7_missing yX7_missing, Cond.code yX7_missing cX7_missing 2 (some .int), Cond.methodLink RX7 140 yX7_lacks, Cond.instanceMethod yX7_lacks, Cond.selects RX7 yX7_lacks yX7_lacks]
def wsL_law0_r18 : List Cond := [Cond.code yX7_lacks cX7_lacks 4 (some .int), Cond.methodLink RL 129 yL_joined, Cond.static yL_joined, Cond.codeWith yL_joined cL_joined 5 (some .int) [(0, 10, 13, 25)], Cond.methodLink RL 42 yX6_joined, Cond.instanceMethod yX6_joined, Cond.selects RX6 yX6_joined yX6_joined, Cond.code yX6_joined cX6_joined 4 (some .int), Cond.methodLink RX6 156 yX1_partWith, Cond.instanceMethod yX1_partWith, Cond.selects RX1 yX1_partWith yX1_partWith, Cond.code yX1_partWith cX1_partWith 4 (some .int), Cond.methodLink RX6 159 yX1_lacks, Cond.instanceMethod yX1_lacks, Cond.selects RX1 yX1_lacks yX1_lacks, Cond.code yX1_lacks cX1_lacks 2 (some .boolean), Cond.methodLink RL 131 yX7_joined, Cond.instanceMethod yX7_joined, Cond.selects RX7 yX7_joined yX7_joined, Cond.code yX7_joined cX7_joined 6 (some .int), Cond.methodLink RL 132 yX6_receipts, Cond.instanceMethod yX6_receipts, Cond.selects RX6 yX6_receipts yX6_receipts, Cond.code yX6_receipts cX6_receipts 1 (some .int)]
def wsL_law0_r19 : List Cond := [Cond.methodLink RL 135 yX7_receipts, Cond.instanceMethod yX7_receipts, Cond.selects RX7 yX7_receipts yX7_receipts, Cond.code yX7_receipts cX7_receipts 1 (some .int), Cond.fieldLink RX7 143 "ShortmessageModel" "receipts" "I", Cond.methodLink RL 136 yL_receipt, Cond.static yL_receipt, Cond.codeWith yL_receipt cL_receipt 4 (some .int) [(0, 9, 12, 25)], Cond.methodLink RL 45 yX6_receipt, Cond.instanceMethod yX6_receipt, Cond.selects RX6 yX6_receipt yX6_receipt, Cond.code yX6_receipt cX6_receipt 2 (some .int), Cond.methodLink RL 138 yX7_receipt, Cond.instanceMethod yX7_receipt, Cond.selects RX7 yX7_receipt yX7_receipt, Cond.code yX7_receipt cX7_receipt 2 (some .int), Cond.methodLink RL 139 yL_pass, Cond.static yL_pass, Cond.codeWith yL_pass cL_pass 4 (some .int) [(0, 9, 12, 13)], Cond.methodLink RL 48 yX6_pass, Cond.instanceMethod yX6_pass, Cond.selects RX6 yX6_pass yX6_pass, Cond.code yX6_pass cX6_pass 4 (some .int), Cond.methodLink RX6 175 yX6_expireMessages]
def wsL_law0_r20 : List Cond := [Cond.instanceMethod yX6_expireMessages, Cond.selects RX6 yX6_expireMessages yX6_expireMessages, Cond.code yX6_expireMessages cX6_expireMessages 3 none, Cond.methodLink RX6 228 yX6_finish, Cond.instanceMethod yX6_finish, Cond.selects RX6 yX6_finish yX6_finish, Cond.code yX6_finish cX6_finish 3 none, Cond.methodLink RX6 169 yX4_removeAllOf, Cond.instanceMethod yX4_removeAllOf, Cond.selects RX4 yX4_removeAllOf yX4_removeAllOf, Cond.code yX4_removeAllOf cX4_removeAllOf 4 none, Cond.methodLink RX4 25 yX4_at, Cond.instanceMethod yX4_at, Cond.selects RX4 yX4_at yX4_at, Cond.code yX4_at cX4_at 2 (some (.object "Shortmessage$Part")), Cond.methodLink RX4 33 yX4_removeAt, Cond.instanceMethod yX4_removeAt, Cond.selects RX4 yX4_removeAt yX4_removeAt, Cond.code yX4_removeAt cX4_removeAt 4 (some (.object "Shortmessage$Part")), Cond.methodLink RX6 178 yX6_sendParts, Cond.instanceMethod yX6_sendParts, Cond.selects RX6 yX6_sendParts yX6_sendParts, Cond.code yX6_sendParts cX6_sendParts 3 (some .int), Cond.methodLink RX6 232 yX0_gainToken]
def wsL_law0_r21 : List Cond := [Cond.instanceMethod yX0_gainToken, Cond.selects RX0 yX0_gainToken yX0_gainToken, Cond.code yX0_gainToken cX0_gainToken 1 none, Cond.methodLink RX6 235 yX0_sendAll, Cond.instanceMethod yX0_sendAll, Cond.selects RX0 yX0_sendAll yX0_sendAll, Cond.code yX0_sendAll cX0_sendAll 3 (some .int), Cond.methodLink RX0 32 yX0_sendNext, Cond.instanceMethod yX0_sendNext, Cond.selects RX0 yX0_sendNext yX0_sendNext, Cond.code yX0_sendNext cX0_sendNext 3 (some .boolean), Cond.methodLink RX0 39 yX4_removeFirstReady, Cond.instanceMethod yX4_removeFirstReady, Cond.selects RX4 yX4_removeFirstReady yX4_removeFirstReady, Cond.code yX4_removeFirstReady cX4_removeFirstReady 4 (some (.object "Shortmessage$Part")), Cond.methodLink RX4 29 yX2_isReady, Cond.instanceMethod yX2_isReady, Cond.selects RX2 yX2_isReady yX2_isReady, Cond.code yX2_isReady cX2_isReady 2 (some .boolean), Cond.methodLink RX0 43 yX4_addLast, Cond.methodLink RL 141 yX7_pass, Cond.instanceMethod yX7_pass, Cond.selects RX7 yX7_pass yX7_pass, Cond.code yX7_pass cX7_pass 5 (some .int)]
def wsL_law0_r22 : List Cond := [Cond.methodLink RX7 149 yX7_ends, Cond.instanceMethod yX7_ends, Cond.selects RX7 yX7_ends yX7_ends, Cond.code yX7_ends cX7_ends 7 none, Cond.methodLink RX7 153 yX7_sends, Cond.instanceMethod yX7_sends, Cond.selects RX7 yX7_sends yX7_sends, Cond.code yX7_sends cX7_sends 5 (some .int), Cond.methodLink RX7 146 yX7_first, Cond.instanceMethod yX7_first, Cond.selects RX7 yX7_first yX7_first, Cond.code yX7_first cX7_first 4 (some .int), Cond.methodLink RL 142 yX6_time, Cond.instanceMethod yX6_time, Cond.selects RX6 yX6_time yX6_time, Cond.code yX6_time cX6_time 1 (some .int), Cond.methodLink RL 145 yX7_time, Cond.instanceMethod yX7_time, Cond.selects RX7 yX7_time yX7_time, Cond.code yX7_time cX7_time 1 (some .int), Cond.methodLink RL 146 yL_toggleLink, Cond.static yL_toggleLink, Cond.codeWith yL_toggleLink cL_toggleLink 4 (some .int) [(0, 16, 19, 25)], Cond.methodLink RL 51 yX6_toggleLink]
def wsL_law0_r23 : List Cond := [Cond.instanceMethod yX6_toggleLink, Cond.selects RX6 yX6_toggleLink yX6_toggleLink, Cond.code yX6_toggleLink cX6_toggleLink 3 (some .boolean), Cond.methodLink RX6 188 yX0_goDown, Cond.instanceMethod yX0_goDown, Cond.selects RX0 yX0_goDown yX0_goDown, Cond.code yX0_goDown cX0_goDown 6 none, Cond.methodLink RX0 47 yX4_removeAt, Cond.methodLink RX0 64 yX4_insert, Cond.methodLink RL 148 yX7_toggleLink, Cond.instanceMethod yX7_toggleLink, Cond.selects RX7 yX7_toggleLink yX7_toggleLink, Cond.code yX7_toggleLink cX7_toggleLink 5 (some .boolean), Cond.methodLink RX7 156 yX7_isLink, Cond.static yX7_isLink, Cond.code yX7_isLink cX7_isLink 1 (some .boolean), Cond.methodLink RL 149 yL_setWindow, Cond.static yL_setWindow, Cond.codeWith yL_setWindow cL_setWindow 5 (some .int) [(0, 10, 13, 25), (0, 10, 17, 13)], Cond.methodLink RL 55 yX6_setWindow, Cond.instanceMethod yX6_setWindow, Cond.selects RX6 yX6_setWindow yX6_setWindow, Cond.code yX6_setWindow cX6_setWindow 5 (some .int), Cond.methodLink RL 151 yX7_setWindow]
def wsL_law0_r24 : List Cond := [Cond.instanceMethod yX7_setWindow, Cond.selects RX7 yX7_setWindow yX7_setWindow, Cond.code yX7_setWindow cX7_setWindow 4 (some .int), Cond.methodLink RL 152 yL_queued, Cond.static yL_queued, Cond.codeWith yL_queued cL_queued 4 (some .int) [(0, 9, 12, 25)], Cond.methodLink RL 58 yX6_queued, Cond.instanceMethod yX6_queued, Cond.selects RX6 yX6_queued yX6_queued, Cond.code yX6_queued cX6_queued 2 (some .int), Cond.methodLink RL 154 yX7_queued, Cond.instanceMethod yX7_queued, Cond.selects RX7 yX7_queued yX7_queued, Cond.code yX7_queued cX7_queued 2 (some .int), Cond.methodLink RX7 159 yX7_of, Cond.instanceMethod yX7_of, Cond.selects RX7 yX7_of yX7_of, Cond.code yX7_of cX7_of 3 (some .int), Cond.methodLink RL 155 yL_underWay, Cond.static yL_underWay, Cond.codeWith yL_underWay cL_underWay 4 (some .int) [(0, 9, 12, 25)], Cond.methodLink RL 61 yX6_underWay, Cond.instanceMethod yX6_underWay, Cond.selects RX6 yX6_underWay yX6_underWay]
def wsL_law0_r25 : List Cond := [Cond.code yX6_underWay cX6_underWay 2 (some .int), Cond.methodLink RL 157 yX7_underWay, Cond.instanceMethod yX7_underWay, Cond.selects RX7 yX7_underWay yX7_underWay, Cond.code yX7_underWay cX7_underWay 2 (some .int), Cond.methodLink RL 158 yL_tokens, Cond.static yL_tokens, Cond.codeWith yL_tokens cL_tokens 4 (some .int) [(0, 9, 12, 25)], Cond.methodLink RL 64 yX6_tokens, Cond.instanceMethod yX6_tokens, Cond.selects RX6 yX6_tokens yX6_tokens, Cond.code yX6_tokens cX6_tokens 2 (some .int), Cond.methodLink RL 160 yX7_tokens, Cond.instanceMethod yX7_tokens, Cond.selects RX7 yX7_tokens yX7_tokens, Cond.code yX7_tokens cX7_tokens 2 (some .int), Cond.methodLink RL 161 yL_acknowledge, Cond.static yL_acknowledge, Cond.codeWith yL_acknowledge cL_acknowledge 5 (some .int) [(0, 10, 13, 25), (0, 10, 17, 13), (0, 10, 21, 15)], Cond.methodLink RL 67 yX6_acknowledge, Cond.instanceMethod yX6_acknowledge, Cond.selects RX6 yX6_acknowledge yX6_acknowledge, Cond.code yX6_acknowledge cX6_acknowledge 5 (some .int), Cond.methodLink RX6 205 yX4_removeAt]
def wsL_law0_r26 : List Cond := [Cond.methodLink RX6 215 yX6_settle, Cond.instanceMethod yX6_settle, Cond.selects RX6 yX6_settle yX6_settle, Cond.code yX6_settle cX6_settle 4 none, Cond.methodLink RX6 238 yX1_receive, Cond.instanceMethod yX1_receive, Cond.selects RX1 yX1_receive yX1_receive, Cond.code yX1_receive cX1_receive 2 none, Cond.methodLink RL 163 yX7_acknowledge, Cond.instanceMethod yX7_acknowledge, Cond.selects RX7 yX7_acknowledge yX7_acknowledge, Cond.code yX7_acknowledge cX7_acknowledge 6 (some .int), Cond.methodLink RX7 163 yX7_becomes, Cond.instanceMethod yX7_becomes, Cond.selects RX7 yX7_becomes yX7_becomes, Cond.code yX7_becomes cX7_becomes 5 none, Cond.methodLink RL 164 yL_alert, Cond.static yL_alert, Cond.codeWith yL_alert cL_alert 4 (some .int) [(0, 9, 12, 13)], Cond.methodLink RL 70 yX6_alert, Cond.instanceMethod yX6_alert, Cond.selects RX6 yX6_alert yX6_alert, Cond.code yX6_alert cX6_alert 2 (some .int), Cond.methodLink RX6 220 yX4_wake]
def wsL_law0_r27 : List Cond := [Cond.instanceMethod yX4_wake, Cond.selects RX4 yX4_wake yX4_wake, Cond.code yX4_wake cX4_wake 5 (some .int), Cond.methodLink RL 166 yX7_alert, Cond.instanceMethod yX7_alert, Cond.selects RX7 yX7_alert yX7_alert, Cond.code yX7_alert cX7_alert 7 (some .int), Cond.methodLink RL 167 yL_setKeyword, Cond.static yL_setKeyword, Cond.codeWith yL_setKeyword cL_setKeyword 4 (some .int) [(0, 6, 9, 13)], Cond.methodLink RL 73 yX6_setKeyword, Cond.instanceMethod yX6_setKeyword, Cond.selects RX6 yX6_setKeyword yX6_setKeyword, Cond.code yX6_setKeyword cX6_setKeyword 3 none, Cond.methodLink RX6 252 yX3_giveKeyword, Cond.instanceMethod yX3_giveKeyword, Cond.selects RX3 yX3_giveKeyword yX3_giveKeyword, Cond.code yX3_giveKeyword cX3_giveKeyword 4 none, Cond.methodLink RL 170 yX7_setKeyword, Cond.instanceMethod yX7_setKeyword, Cond.selects RX7 yX7_setKeyword yX7_setKeyword, Cond.code yX7_setKeyword cX7_setKeyword 4 none, Cond.methodLink RL 171 yL_come, Cond.static yL_come]
def wsL_law0_r28 : List Cond := [Cond.codeWith yL_come cL_come 5 (some .int) [(0, 10, 13, 13)], Cond.methodLink RL 77 yX6_come, Cond.instanceMethod yX6_come, Cond.selects RX6 yX6_come yX6_come, Cond.code yX6_come cX6_come 3 (some .int), Cond.methodLink RX6 257 yX3_serviceFor, Cond.instanceMethod yX3_serviceFor, Cond.selects RX3 yX3_serviceFor yX3_serviceFor, Cond.code yX3_serviceFor cX3_serviceFor 5 (some .int), Cond.methodLink RX3 27 yX3_serviceWith, Cond.instanceMethod yX3_serviceWith, Cond.selects RX3 yX3_serviceWith yX3_serviceWith, Cond.code yX3_serviceWith cX3_serviceWith 3 (some .int), Cond.methodLink RL 173 yX7_come, Cond.instanceMethod yX7_come, Cond.selects RX7 yX7_come yX7_come, Cond.code yX7_come cX7_come 5 (some .int)]
def wsL_law0 : List Cond := (wsL_law0_r1 ++ (wsL_law0_r2 ++ (wsL_law0_r3 ++ (wsL_law0_r4 ++ (wsL_law0_r5 ++ (wsL_law0_r6 ++ (wsL_law0_r7 ++ (wsL_law0_r8 ++ (wsL_law0_r9 ++ (wsL_law0_r10 ++ (wsL_law0_r11 ++ (wsL_law0_r12 ++ (wsL_law0_r13 ++ (wsL_law0_r14 ++ (wsL_law0_r15 ++ (wsL_law0_r16 ++ (wsL_law0_r17 ++ (wsL_law0_r18 ++ (wsL_law0_r19 ++ (wsL_law0_r20 ++ (wsL_law0_r21 ++ (wsL_law0_r22 ++ (wsL_law0_r23 ++ (wsL_law0_r24 ++ (wsL_law0_r25 ++ (wsL_law0_r26 ++ (wsL_law0_r27 ++ wsL_law0_r28))))))))))))))))))))))))))) ++ wsX60 ++ wsX70 ++ wsX50 ++ wsX30 ++ wsX00 ++ wsX40 ++ wsX10 ++ wsX20 ++ ([] : List Cond)
def wsL_law : List Cond := wsL_law0 ++ (vx_atS RX6 54 "java/lang/IllegalArgumentException" ["java/lang/RuntimeException", "java/lang/Exception"]).filter goodWord ++ (vx_atS RX6 64 "java/lang/IllegalStateException" ["java/lang/RuntimeException", "java/lang/Exception"]).filter goodWord ++ (vx_atS RX6 99 "java/lang/IndexOutOfBoundsException" ["java/lang/RuntimeException", "java/lang/Exception"]).filter goodWord
theorem inlX0 : ∀ w ∈ wsX00, w ∈ wsL_law := fun _ h => List.mem_append_left _ (List.mem_append_left _ (List.mem_append_left _ (List.mem_append_left _ (List.mem_append_left _ (List.mem_append_left _ (List.mem_append_left _ (List.mem_append_right _ h)))))))
theorem inlX1 : ∀ w ∈ wsX10, w ∈ wsL_law := fun _ h => List.mem_append_left _ (List.mem_append_left _ (List.mem_append_left _ (List.mem_append_left _ (List.mem_append_left _ (List.mem_append_right _ h)))))
theorem inlX2 : ∀ w ∈ wsX20, w ∈ wsL_law := fun _ h => List.mem_append_left _ (List.mem_append_left _ (List.mem_append_left _ (List.mem_append_left _ (List.mem_append_right _ h))))
theorem inlX3 : ∀ w ∈ wsX30, w ∈ wsL_law := fun _ h => List.mem_append_left _ (List.mem_append_left _ (List.mem_append_left _ (List.mem_append_left _ (List.mem_append_left _ (List.mem_append_left _ (List.mem_append_left _ (List.mem_append_left _ (List.mem_append_right _ h))))))))
theorem inlX4 : ∀ w ∈ wsX40, w ∈ wsL_law := fun _ h => List.mem_append_left _ (List.mem_append_left _ (List.mem_append_left _ (List.mem_append_left _ (List.mem_append_left _ (List.mem_append_left _ (List.mem_append_right _ h))))))
theorem inlX5 : ∀ w ∈ wsX50, w ∈ wsL_law := fun _ h => List.mem_append_left _ (List.mem_append_left _ (List.mem_append_left _ (List.mem_append_left _ (List.mem_append_left _ (List.mem_append_left _ (List.mem_append_left _ (List.mem_append_left _ (List.mem_append_left _ (List.mem_append_right _ h)))))))))
theorem inlX6 : ∀ w ∈ wsX60, w ∈ wsL_law := fun _ h => List.mem_append_left _ (List.mem_append_left _ (List.mem_append_left _ (List.mem_append_left _ (List.mem_append_left _ (List.mem_append_left _ (List.mem_append_left _ (List.mem_append_left _ (List.mem_append_left _ (List.mem_append_left _ (List.mem_append_left _ (List.mem_append_right _ h)))))))))))
theorem inlX7 : ∀ w ∈ wsX70, w ∈ wsL_law := fun _ h => List.mem_append_left _ (List.mem_append_left _ (List.mem_append_left _ (List.mem_append_left _ (List.mem_append_left _ (List.mem_append_left _ (List.mem_append_left _ (List.mem_append_left _ (List.mem_append_left _ (List.mem_append_left _ (List.mem_append_right _ h))))))))))
abbrev vwCl : List vw_C := [(RX0, TX0, 5), (RX1, TX1, 9), (RX2, TX2, 5), (RX3, TX3, 3), (RX4, TX4, 2), (RX5, TX5, 6), (RX6, TX6, 8), (RX7, TX7, 26)]
end
section
theorem dX0_init_0 : decode cX0_init 0 = .ok (.aload_n 0, 1) := by decide +kernel
theorem dX0_init_1 : decode cX0_init 1 = .ok (.invokespecial 3, 3) := by decide +kernel
theorem dX0_init_4 : decode cX0_init 4 = .ok (.aload_n 0, 1) := by decide +kernel
theorem dX0_init_5 : decode cX0_init 5 = .ok (.new 9, 3) := by decide +kernel
theorem dX0_init_8 : decode cX0_init 8 = .ok (.dup, 1) := by decide +kernel
theorem dX0_init_9 : decode cX0_init 9 = .ok (.invokespecial 11, 3) := by decide +kernel
theorem dX0_init_12 : decode cX0_init 12 = .ok (.putfield 12, 3) := by decide +kernel
theorem dX0_init_15 : decode cX0_init 15 = .ok (.aload_n 0, 1) := by decide +kernel
theorem dX0_init_16 : decode cX0_init 16 = .ok (.new 9, 3) := by decide +kernel
theorem dX0_init_19 : decode cX0_init 19 = .ok (.dup, 1) := by decide +kernel
theorem dX0_init_20 : decode cX0_init 20 = .ok (.invokespecial 11, 3) := by decide +kernel
theorem dX0_init_23 : decode cX0_init 23 = .ok (.putfield 18, 3) := by decide +kernel
theorem dX0_init_26 : decode cX0_init 26 = .ok (.aload_n 0, 1) := by decide +kernel
theorem dX0_init_27 : decode cX0_init 27 = .ok (.iconst 1, 1) := by decide +kernel
theorem dX0_init_28 : decode cX0_init 28 = .ok (.putfield 21, 3) := by decide +kernel
theorem dX0_init_31 : decode cX0_init 31 = .ok (.aload_n 0, 1) := by decide +kernel
theorem dX0_init_32 : decode cX0_init 32 = .ok (.iconst 2, 1) := by decide +kernel
theorem dX0_init_33 : decode cX0_init 33 = .ok (.putfield 25, 3) := by decide +kernel
theorem dX0_init_36 : decode cX0_init 36 = .ok (.aload_n 0, 1) := by decide +kernel
theorem dX0_init_37 : decode cX0_init 37 = .ok (.iconst 5, 1) := by decide +kernel
theorem dX0_init_38 : decode cX0_init 38 = .ok (.putfield 29, 3) := by decide +kernel
theorem dX0_init_41 : decode cX0_init 41 = .ok (.return_, 1) := by decide +kernel
theorem dX0_gainToken_0 : decode cX0_gainToken 0 = .ok (.aload_n 0, 1) := by decide +kernel
theorem dX0_gainToken_1 : decode cX0_gainToken 1 = .ok (.getfield 29, 3) := by decide +kernel
theorem dX0_gainToken_4 : decode cX0_gainToken 4 = .ok (.iconst 5, 1) := by decide +kernel
theorem dX0_gainToken_5 : decode cX0_gainToken 5 = .ok (.if_icmp .ge 13, 3) := by decide +kernel
theorem dX0_gainToken_8 : decode cX0_gainToken 8 = .ok (.aload_n 0, 1) := by decide +kernel
theorem dX0_gainToken_9 : decode cX0_gainToken 9 = .ok (.dup, 1) := by decide +kernel
theorem dX0_gainToken_10 : decode cX0_gainToken 10 = .ok (.getfield 29, 3) := by decide +kernel
theorem dX0_gainToken_13 : decode cX0_gainToken 13 = .ok (.iconst 1, 1) := by decide +kernel
theorem dX0_gainToken_14 : decode cX0_gainToken 14 = .ok (.iadd, 1) := by decide +kernel
theorem dX0_gainToken_15 : decode cX0_gainToken 15 = .ok (.putfield 29, 3) := by decide +kernel
theorem dX0_gainToken_18 : decode cX0_gainToken 18 = .ok (.return_, 1) := by decide +kernel
theorem dX0_sendAll_0 : decode cX0_sendAll 0 = .ok (.iconst 0, 1) := by decide +kernel
theorem dX0_sendAll_1 : decode cX0_sendAll 1 = .ok (.istore_n 2, 1) := by decide +kernel
theorem dX0_sendAll_2 : decode cX0_sendAll 2 = .ok (.iload_n 2, 1) := by decide +kernel
theorem dX0_sendAll_3 : decode cX0_sendAll 3 = .ok (.iconst 5, 1) := by decide +kernel
theorem dX0_sendAll_4 : decode cX0_sendAll 4 = .ok (.if_icmp .ge 19, 3) := by decide +kernel
theorem dX0_sendAll_7 : decode cX0_sendAll 7 = .ok (.aload_n 0, 1) := by decide +kernel
theorem dX0_sendAll_8 : decode cX0_sendAll 8 = .ok (.iload_n 1, 1) := by decide +kernel
theorem dX0_sendAll_9 : decode cX0_sendAll 9 = .ok (.invokevirtual 32, 3) := by decide +kernel
theorem dX0_sendAll_12 : decode cX0_sendAll 12 = .ok (.ifCond .ne 5, 3) := by decide +kernel
theorem dX0_sendAll_15 : decode cX0_sendAll 15 = .ok (.iload_n 2, 1) := by decide +kernel
theorem dX0_sendAll_16 : decode cX0_sendAll 16 = .ok (.ireturn, 1) := by decide +kernel
theorem dX0_sendAll_17 : decode cX0_sendAll 17 = .ok (.iinc 2 1, 3) := by decide +kernel
theorem dX0_sendAll_20 : decode cX0_sendAll 20 = .ok (.goto (-18), 3) := by decide +kernel
theorem dX0_sendAll_23 : decode cX0_sendAll 23 = .ok (.iconst 5, 1) := by decide +kernel
theorem dX0_sendAll_24 : decode cX0_sendAll 24 = .ok (.ireturn, 1) := by decide +kernel
theorem dX0_sendNext_0 : decode cX0_sendNext 0 = .ok (.aload_n 0, 1) := by decide +kernel
theorem dX0_sendNext_1 : decode cX0_sendNext 1 = .ok (.getfield 21, 3) := by decide +kernel
theorem dX0_sendNext_4 : decode cX0_sendNext 4 = .ok (.ifCond .eq 25, 3) := by decide +kernel
theorem dX0_sendNext_7 : decode cX0_sendNext 7 = .ok (.aload_n 0, 1) := by decide +kernel
theorem dX0_sendNext_8 : decode cX0_sendNext 8 = .ok (.getfield 29, 3) := by decide +kernel
theorem dX0_sendNext_11 : decode cX0_sendNext 11 = .ok (.iconst 1, 1) := by decide +kernel
theorem dX0_sendNext_12 : decode cX0_sendNext 12 = .ok (.if_icmp .lt 17, 3) := by decide +kernel
theorem dX0_sendNext_15 : decode cX0_sendNext 15 = .ok (.aload_n 0, 1) := by decide +kernel
theorem dX0_sendNext_16 : decode cX0_sendNext 16 = .ok (.getfield 18, 3) := by decide +kernel
theorem dX0_sendNext_19 : decode cX0_sendNext 19 = .ok (.getfield 36, 3) := by decide +kernel
theorem dX0_sendNext_22 : decode cX0_sendNext 22 = .ok (.aload_n 0, 1) := by decide +kernel
theorem dX0_sendNext_23 : decode cX0_sendNext 23 = .ok (.getfield 25, 3) := by decide +kernel
theorem dX0_sendNext_26 : decode cX0_sendNext 26 = .ok (.if_icmp .lt 5, 3) := by decide +kernel
theorem dX0_sendNext_29 : decode cX0_sendNext 29 = .ok (.iconst 0, 1) := by decide +kernel
theorem dX0_sendNext_30 : decode cX0_sendNext 30 = .ok (.ireturn, 1) := by decide +kernel
theorem dX0_sendNext_31 : decode cX0_sendNext 31 = .ok (.aload_n 0, 1) := by decide +kernel
theorem dX0_sendNext_32 : decode cX0_sendNext 32 = .ok (.getfield 12, 3) := by decide +kernel
theorem dX0_sendNext_35 : decode cX0_sendNext 35 = .ok (.iload_n 1, 1) := by decide +kernel
theorem dX0_sendNext_36 : decode cX0_sendNext 36 = .ok (.invokevirtual 39, 3) := by decide +kernel
theorem dX0_sendNext_39 : decode cX0_sendNext 39 = .ok (.astore_n 2, 1) := by decide +kernel
theorem dX0_sendNext_40 : decode cX0_sendNext 40 = .ok (.aload_n 2, 1) := by decide +kernel
theorem dX0_sendNext_41 : decode cX0_sendNext 41 = .ok (.ifnonnull 5, 3) := by decide +kernel
theorem dX0_sendNext_44 : decode cX0_sendNext 44 = .ok (.iconst 0, 1) := by decide +kernel
theorem dX0_sendNext_45 : decode cX0_sendNext 45 = .ok (.ireturn, 1) := by decide +kernel
theorem dX0_sendNext_46 : decode cX0_sendNext 46 = .ok (.aload_n 0, 1) := by decide +kernel
theorem dX0_sendNext_47 : decode cX0_sendNext 47 = .ok (.getfield 18, 3) := by decide +kernel
theorem dX0_sendNext_50 : decode cX0_sendNext 50 = .ok (.aload_n 2, 1) := by decide +kernel
theorem dX0_sendNext_51 : decode cX0_sendNext 51 = .ok (.invokevirtual 43, 3) := by decide +kernel
theorem dX0_sendNext_54 : decode cX0_sendNext 54 = .ok (.aload_n 0, 1) := by decide +kernel
theorem dX0_sendNext_55 : decode cX0_sendNext 55 = .ok (.dup, 1) := by decide +kernel
theorem dX0_sendNext_56 : decode cX0_sendNext 56 = .ok (.getfield 29, 3) := by decide +kernel
theorem dX0_sendNext_59 : decode cX0_sendNext 59 = .ok (.iconst 1, 1) := by decide +kernel
theorem dX0_sendNext_60 : decode cX0_sendNext 60 = .ok (.isub, 1) := by decide +kernel
theorem dX0_sendNext_61 : decode cX0_sendNext 61 = .ok (.putfield 29, 3) := by decide +kernel
theorem dX0_sendNext_64 : decode cX0_sendNext 64 = .ok (.iconst 1, 1) := by decide +kernel
theorem dX0_sendNext_65 : decode cX0_sendNext 65 = .ok (.ireturn, 1) := by decide +kernel
theorem dX0_goDown_0 : decode cX0_goDown 0 = .ok (.aload_n 0, 1) := by decide +kernel
theorem dX0_goDown_1 : decode cX0_goDown 1 = .ok (.iconst 0, 1) := by decide +kernel
theorem dX0_goDown_2 : decode cX0_goDown 2 = .ok (.putfield 21, 3) := by decide +kernel
theorem dX0_goDown_5 : decode cX0_goDown 5 = .ok (.iconst 0, 1) := by decide +kernel
theorem dX0_goDown_6 : decode cX0_goDown 6 = .ok (.istore_n 2, 1) := by decide +kernel
theorem dX0_goDown_7 : decode cX0_goDown 7 = .ok (.aload_n 0, 1) := by decide +kernel
theorem dX0_goDown_8 : decode cX0_goDown 8 = .ok (.getfield 18, 3) := by decide +kernel
theorem dX0_goDown_11 : decode cX0_goDown 11 = .ok (.getfield 36, 3) := by decide +kernel
theorem dX0_goDown_14 : decode cX0_goDown 14 = .ok (.istore_n 3, 1) := by decide +kernel
theorem dX0_goDown_15 : decode cX0_goDown 15 = .ok (.iconst 0, 1) := by decide +kernel
theorem dX0_goDown_16 : decode cX0_goDown 16 = .ok (.istore 4, 2) := by decide +kernel
theorem dX0_goDown_18 : decode cX0_goDown 18 = .ok (.iload 4, 2) := by decide +kernel
theorem dX0_goDown_20 : decode cX0_goDown 20 = .ok (.iload_n 3, 1) := by decide +kernel
theorem dX0_goDown_21 : decode cX0_goDown 21 = .ok (.if_icmp .ge 54, 3) := by decide +kernel
theorem dX0_goDown_24 : decode cX0_goDown 24 = .ok (.aload_n 0, 1) := by decide +kernel
theorem dX0_goDown_25 : decode cX0_goDown 25 = .ok (.getfield 18, 3) := by decide +kernel
theorem dX0_goDown_28 : decode cX0_goDown 28 = .ok (.iconst 0, 1) := by decide +kernel
theorem dX0_goDown_29 : decode cX0_goDown 29 = .ok (.invokevirtual 47, 3) := by decide +kernel
theorem dX0_goDown_32 : decode cX0_goDown 32 = .ok (.astore 5, 2) := by decide +kernel
theorem dX0_goDown_34 : decode cX0_goDown 34 = .ok (.aload 5, 2) := by decide +kernel
theorem dX0_goDown_36 : decode cX0_goDown 36 = .ok (.ifnull 33, 3) := by decide +kernel
theorem dX0_goDown_39 : decode cX0_goDown 39 = .ok (.aload 5, 2) := by decide +kernel
theorem dX0_goDown_41 : decode cX0_goDown 41 = .ok (.getfield 50, 3) := by decide +kernel
theorem dX0_goDown_44 : decode cX0_goDown 44 = .ok (.getfield 56, 3) := by decide +kernel
theorem dX0_goDown_47 : decode cX0_goDown 47 = .ok (.ifCond .ne 22, 3) := by decide +kernel
theorem dX0_goDown_50 : decode cX0_goDown 50 = .ok (.aload 5, 2) := by decide +kernel
theorem dX0_goDown_52 : decode cX0_goDown 52 = .ok (.iload_n 1, 1) := by decide +kernel
theorem dX0_goDown_53 : decode cX0_goDown 53 = .ok (.putfield 61, 3) := by decide +kernel
theorem dX0_goDown_56 : decode cX0_goDown 56 = .ok (.aload_n 0, 1) := by decide +kernel
theorem dX0_goDown_57 : decode cX0_goDown 57 = .ok (.getfield 12, 3) := by decide +kernel
theorem dX0_goDown_60 : decode cX0_goDown 60 = .ok (.iload_n 2, 1) := by decide +kernel
theorem dX0_goDown_61 : decode cX0_goDown 61 = .ok (.aload 5, 2) := by decide +kernel
theorem dX0_goDown_63 : decode cX0_goDown 63 = .ok (.invokevirtual 64, 3) := by decide +kernel
theorem dX0_goDown_66 : decode cX0_goDown 66 = .ok (.iinc 2 1, 3) := by decide +kernel
theorem dX0_goDown_69 : decode cX0_goDown 69 = .ok (.iinc 4 1, 3) := by decide +kernel
theorem dX0_goDown_72 : decode cX0_goDown 72 = .ok (.goto (-54), 3) := by decide +kernel
theorem dX0_goDown_75 : decode cX0_goDown 75 = .ok (.return_, 1) := by decide +kernel
theorem dX1_init_0 : decode cX1_init 0 = .ok (.aload_n 0, 1) := by decide +kernel
theorem dX1_init_1 : decode cX1_init 1 = .ok (.invokespecial 3, 3) := by decide +kernel
theorem dX1_init_4 : decode cX1_init 4 = .ok (.aload_n 0, 1) := by decide +kernel
theorem dX1_init_5 : decode cX1_init 5 = .ok (.iconst 0, 1) := by decide +kernel
theorem dX1_init_6 : decode cX1_init 6 = .ok (.putfield 9, 3) := by decide +kernel
theorem dX1_init_9 : decode cX1_init 9 = .ok (.aload_n 0, 1) := by decide +kernel
theorem dX1_init_10 : decode cX1_init 10 = .ok (.iload_n 1, 1) := by decide +kernel
theorem dX1_init_11 : decode cX1_init 11 = .ok (.putfield 15, 3) := by decide +kernel
theorem dX1_init_14 : decode cX1_init 14 = .ok (.aload_n 0, 1) := by decide +kernel
theorem dX1_init_15 : decode cX1_init 15 = .ok (.iload_n 2, 1) := by decide +kernel
theorem dX1_init_16 : decode cX1_init 16 = .ok (.putfield 18, 3) := by decide +kernel
theorem dX1_init_19 : decode cX1_init 19 = .ok (.aload_n 0, 1) := by decide +kernel
theorem dX1_init_20 : decode cX1_init 20 = .ok (.iload_n 3, 1) := by decide +kernel
theorem dX1_init_21 : decode cX1_init 21 = .ok (.putfield 21, 3) := by decide +kernel
theorem dX1_init_24 : decode cX1_init 24 = .ok (.aload_n 0, 1) := by decide +kernel
theorem dX1_init_25 : decode cX1_init 25 = .ok (.aload 4, 2) := by decide +kernel
theorem dX1_init_27 : decode cX1_init 27 = .ok (.putfield 24, 3) := by decide +kernel
theorem dX1_init_30 : decode cX1_init 30 = .ok (.aload_n 0, 1) := by decide +kernel
theorem dX1_init_31 : decode cX1_init 31 = .ok (.aload 5, 2) := by decide +kernel
theorem dX1_init_33 : decode cX1_init 33 = .ok (.invokevirtual 28, 3) := by decide +kernel
theorem dX1_init_36 : decode cX1_init 36 = .ok (.putfield 34, 3) := by decide +kernel
theorem dX1_init_39 : decode cX1_init 39 = .ok (.aload_n 0, 1) := by decide +kernel
theorem dX1_init_40 : decode cX1_init 40 = .ok (.aload 5, 2) := by decide +kernel
theorem dX1_init_42 : decode cX1_init 42 = .ok (.invokevirtual 38, 3) := by decide +kernel
theorem dX1_init_45 : decode cX1_init 45 = .ok (.putfield 41, 3) := by decide +kernel
theorem dX1_init_48 : decode cX1_init 48 = .ok (.aload_n 0, 1) := by decide +kernel
theorem dX1_init_49 : decode cX1_init 49 = .ok (.aload 5, 2) := by decide +kernel
theorem dX1_init_51 : decode cX1_init 51 = .ok (.getfield 44, 3) := by decide +kernel
theorem dX1_init_54 : decode cX1_init 54 = .ok (.putfield 47, 3) := by decide +kernel
theorem dX1_init_57 : decode cX1_init 57 = .ok (.aload_n 0, 1) := by decide +kernel
theorem dX1_init_58 : decode cX1_init 58 = .ok (.iconst 1, 1) := by decide +kernel
theorem dX1_init_59 : decode cX1_init 59 = .ok (.aload 5, 2) := by decide +kernel
theorem dX1_init_61 : decode cX1_init 61 = .ok (.getfield 44, 3) := by decide +kernel
theorem dX1_init_64 : decode cX1_init 64 = .ok (.ishl, 1) := by decide +kernel
theorem dX1_init_65 : decode cX1_init 65 = .ok (.iconst 1, 1) := by decide +kernel
theorem dX1_init_66 : decode cX1_init 66 = .ok (.isub, 1) := by decide +kernel
theorem dX1_init_67 : decode cX1_init 67 = .ok (.putfield 48, 3) := by decide +kernel
theorem dX1_init_70 : decode cX1_init 70 = .ok (.return_, 1) := by decide +kernel
theorem dX1_lacks_0 : decode cX1_lacks 0 = .ok (.aload_n 0, 1) := by decide +kernel
theorem dX1_lacks_1 : decode cX1_lacks 1 = .ok (.getfield 48, 3) := by decide +kernel
theorem dX1_lacks_4 : decode cX1_lacks 4 = .ok (.iload_n 1, 1) := by decide +kernel
theorem dX1_lacks_5 : decode cX1_lacks 5 = .ok (.ishr, 1) := by decide +kernel
theorem dX1_lacks_6 : decode cX1_lacks 6 = .ok (.iconst 1, 1) := by decide +kernel
theorem dX1_lacks_7 : decode cX1_lacks 7 = .ok (.iand, 1) := by decide +kernel
theorem dX1_lacks_8 : decode cX1_lacks 8 = .ok (.iconst 1, 1) := by decide +kernel
theorem dX1_lacks_9 : decode cX1_lacks 9 = .ok (.if_icmp .ne 7, 3) := by decide +kernel
theorem dX1_lacks_12 : decode cX1_lacks 12 = .ok (.iconst 1, 1) := by decide +kernel
theorem dX1_lacks_13 : decode cX1_lacks 13 = .ok (.goto 4, 3) := by decide +kernel
theorem dX1_lacks_16 : decode cX1_lacks 16 = .ok (.iconst 0, 1) := by decide +kernel
theorem dX1_lacks_17 : decode cX1_lacks 17 = .ok (.ireturn, 1) := by decide +kernel
theorem dX1_receive_0 : decode cX1_receive 0 = .ok (.aload_n 0, 1) := by decide +kernel
theorem dX1_receive_1 : decode cX1_receive 1 = .ok (.dup, 1) := by decide +kernel
theorem dX1_receive_2 : decode cX1_receive 2 = .ok (.getfield 48, 3) := by decide +kernel
theorem dX1_receive_5 : decode cX1_receive 5 = .ok (.iconst 1, 1) := by decide +kernel
theorem dX1_receive_6 : decode cX1_receive 6 = .ok (.iload_n 1, 1) := by decide +kernel
theorem dX1_receive_7 : decode cX1_receive 7 = .ok (.ishl, 1) := by decide +kernel
theorem dX1_receive_8 : decode cX1_receive 8 = .ok (.iconst (-1), 1) := by decide +kernel
theorem dX1_receive_9 : decode cX1_receive 9 = .ok (.ixor, 1) := by decide +kernel
theorem dX1_receive_10 : decode cX1_receive 10 = .ok (.iand, 1) := by decide +kernel
theorem dX1_receive_11 : decode cX1_receive 11 = .ok (.putfield 48, 3) := by decide +kernel
theorem dX1_receive_14 : decode cX1_receive 14 = .ok (.return_, 1) := by decide +kernel
theorem dX1_partWith_0 : decode cX1_partWith 0 = .ok (.iconst 0, 1) := by decide +kernel
theorem dX1_partWith_1 : decode cX1_partWith 1 = .ok (.istore_n 2, 1) := by decide +kernel
theorem dX1_partWith_2 : decode cX1_partWith 2 = .ok (.iconst 1, 1) := by decide +kernel
theorem dX1_partWith_3 : decode cX1_partWith 3 = .ok (.istore_n 3, 1) := by decide +kernel
theorem dX1_partWith_4 : decode cX1_partWith 4 = .ok (.iload_n 3, 1) := by decide +kernel
theorem dX1_partWith_5 : decode cX1_partWith 5 = .ok (.aload_n 0, 1) := by decide +kernel
theorem dX1_partWith_6 : decode cX1_partWith 6 = .ok (.getfield 41, 3) := by decide +kernel
theorem dX1_partWith_9 : decode cX1_partWith 9 = .ok (.arraylength, 1) := by decide +kernel
theorem dX1_partWith_10 : decode cX1_partWith 10 = .ok (.if_icmp .ge 21, 3) := by decide +kernel
theorem dX1_partWith_13 : decode cX1_partWith 13 = .ok (.iload_n 1, 1) := by decide +kernel
theorem dX1_partWith_14 : decode cX1_partWith 14 = .ok (.aload_n 0, 1) := by decide +kernel
theorem dX1_partWith_15 : decode cX1_partWith 15 = .ok (.getfield 41, 3) := by decide +kernel
theorem dX1_partWith_18 : decode cX1_partWith 18 = .ok (.iload_n 3, 1) := by decide +kernel
theorem dX1_partWith_19 : decode cX1_partWith 19 = .ok (.iaload, 1) := by decide +kernel
theorem dX1_partWith_20 : decode cX1_partWith 20 = .ok (.if_icmp .lt 5, 3) := by decide +kernel
theorem dX1_partWith_23 : decode cX1_partWith 23 = .ok (.iload_n 3, 1) := by decide +kernel
theorem dX1_partWith_24 : decode cX1_partWith 24 = .ok (.istore_n 2, 1) := by decide +kernel
theorem dX1_partWith_25 : decode cX1_partWith 25 = .ok (.iinc 3 1, 3) := by decide +kernel
theorem dX1_partWith_28 : decode cX1_partWith 28 = .ok (.goto (-24), 3) := by decide +kernel
theorem dX1_partWith_31 : decode cX1_partWith 31 = .ok (.iload_n 2, 1) := by decide +kernel
theorem dX1_partWith_32 : decode cX1_partWith 32 = .ok (.ireturn, 1) := by decide +kernel
theorem dX2_init_0 : decode cX2_init 0 = .ok (.aload_n 0, 1) := by decide +kernel
theorem dX2_init_1 : decode cX2_init 1 = .ok (.invokespecial 1, 3) := by decide +kernel
theorem dX2_init_4 : decode cX2_init 4 = .ok (.aload_n 0, 1) := by decide +kernel
theorem dX2_init_5 : decode cX2_init 5 = .ok (.iconst 0, 1) := by decide +kernel
theorem dX2_init_6 : decode cX2_init 6 = .ok (.putfield 7, 3) := by decide +kernel
theorem dX2_init_9 : decode cX2_init 9 = .ok (.aload_n 0, 1) := by decide +kernel
theorem dX2_init_10 : decode cX2_init 10 = .ok (.iconst 0, 1) := by decide +kernel
theorem dX2_init_11 : decode cX2_init 11 = .ok (.putfield 13, 3) := by decide +kernel
theorem dX2_init_14 : decode cX2_init 14 = .ok (.aload_n 0, 1) := by decide +kernel
theorem dX2_init_15 : decode cX2_init 15 = .ok (.aload_n 1, 1) := by decide +kernel
theorem dX2_init_16 : decode cX2_init 16 = .ok (.putfield 17, 3) := by decide +kernel
theorem dX2_init_19 : decode cX2_init 19 = .ok (.aload_n 0, 1) := by decide +kernel
theorem dX2_init_20 : decode cX2_init 20 = .ok (.iload_n 2, 1) := by decide +kernel
theorem dX2_init_21 : decode cX2_init 21 = .ok (.putfield 21, 3) := by decide +kernel
theorem dX2_init_24 : decode cX2_init 24 = .ok (.aload_n 0, 1) := by decide +kernel
theorem dX2_init_25 : decode cX2_init 25 = .ok (.iload_n 3, 1) := by decide +kernel
theorem dX2_init_26 : decode cX2_init 26 = .ok (.putfield 24, 3) := by decide +kernel
theorem dX2_init_29 : decode cX2_init 29 = .ok (.return_, 1) := by decide +kernel
theorem dX2_isReady_0 : decode cX2_isReady 0 = .ok (.aload_n 0, 1) := by decide +kernel
theorem dX2_isReady_1 : decode cX2_isReady 1 = .ok (.getfield 13, 3) := by decide +kernel
theorem dX2_isReady_4 : decode cX2_isReady 4 = .ok (.ifCond .ne 15, 3) := by decide +kernel
theorem dX2_isReady_7 : decode cX2_isReady 7 = .ok (.aload_n 0, 1) := by decide +kernel
theorem dX2_isReady_8 : decode cX2_isReady 8 = .ok (.getfield 24, 3) := by decide +kernel
theorem dX2_isReady_11 : decode cX2_isReady 11 = .ok (.iload_n 1, 1) := by decide +kernel
theorem dX2_isReady_12 : decode cX2_isReady 12 = .ok (.if_icmp .gt 7, 3) := by decide +kernel
theorem dX2_isReady_15 : decode cX2_isReady 15 = .ok (.iconst 1, 1) := by decide +kernel
theorem dX2_isReady_16 : decode cX2_isReady 16 = .ok (.goto 4, 3) := by decide +kernel
theorem dX2_isReady_19 : decode cX2_isReady 19 = .ok (.iconst 0, 1) := by decide +kernel
theorem dX2_isReady_20 : decode cX2_isReady 20 = .ok (.ireturn, 1) := by decide +kernel
theorem dX3_init_0 : decode cX3_init 0 = .ok (.aload_n 0, 1) := by decide +kernel
theorem dX3_init_1 : decode cX3_init 1 = .ok (.invokespecial 3, 3) := by decide +kernel
theorem dX3_init_4 : decode cX3_init 4 = .ok (.aload_n 0, 1) := by decide +kernel
theorem dX3_init_5 : decode cX3_init 5 = .ok (.iconst 5, 1) := by decide +kernel
theorem dX3_init_6 : decode cX3_init 6 = .ok (.newarray .int, 2) := by decide +kernel
theorem dX3_init_8 : decode cX3_init 8 = .ok (.putfield 9, 3) := by decide +kernel
theorem dX3_init_11 : decode cX3_init 11 = .ok (.aload_n 0, 1) := by decide +kernel
theorem dX3_init_12 : decode cX3_init 12 = .ok (.bipush 9, 2) := by decide +kernel
theorem dX3_init_14 : decode cX3_init 14 = .ok (.newarray .int, 2) := by decide +kernel
theorem dX3_init_16 : decode cX3_init 16 = .ok (.putfield 15, 3) := by decide +kernel
theorem dX3_init_19 : decode cX3_init 19 = .ok (.aload_n 0, 1) := by decide +kernel
theorem dX3_init_20 : decode cX3_init 20 = .ok (.bipush 9, 2) := by decide +kernel
theorem dX3_init_22 : decode cX3_init 22 = .ok (.newarray .int, 2) := by decide +kernel
theorem dX3_init_24 : decode cX3_init 24 = .ok (.putfield 18, 3) := by decide +kernel
theorem dX3_init_27 : decode cX3_init 27 = .ok (.aload_n 0, 1) := by decide +kernel
theorem dX3_init_28 : decode cX3_init 28 = .ok (.getfield 9, 3) := by decide +kernel
theorem dX3_init_31 : decode cX3_init 31 = .ok (.iconst (-1), 1) := by decide +kernel
theorem dX3_init_32 : decode cX3_init 32 = .ok (.invokestatic 21, 3) := by decide +kernel
theorem dX3_init_35 : decode cX3_init 35 = .ok (.return_, 1) := by decide +kernel
theorem dX3_giveKeyword_0 : decode cX3_giveKeyword 0 = .ok (.iconst 0, 1) := by decide +kernel
theorem dX3_giveKeyword_1 : decode cX3_giveKeyword 1 = .ok (.istore_n 3, 1) := by decide +kernel
theorem dX3_giveKeyword_2 : decode cX3_giveKeyword 2 = .ok (.iload_n 3, 1) := by decide +kernel
theorem dX3_giveKeyword_3 : decode cX3_giveKeyword 3 = .ok (.aload_n 0, 1) := by decide +kernel
theorem dX3_giveKeyword_4 : decode cX3_giveKeyword 4 = .ok (.getfield 9, 3) := by decide +kernel
theorem dX3_giveKeyword_7 : decode cX3_giveKeyword 7 = .ok (.arraylength, 1) := by decide +kernel
theorem dX3_giveKeyword_8 : decode cX3_giveKeyword 8 = .ok (.if_icmp .ge 41, 3) := by decide +kernel
theorem dX3_giveKeyword_11 : decode cX3_giveKeyword 11 = .ok (.iload_n 3, 1) := by decide +kernel
theorem dX3_giveKeyword_12 : decode cX3_giveKeyword 12 = .ok (.iload_n 1, 1) := by decide +kernel
theorem dX3_giveKeyword_13 : decode cX3_giveKeyword 13 = .ok (.if_icmp .ne 13, 3) := by decide +kernel
theorem dX3_giveKeyword_16 : decode cX3_giveKeyword 16 = .ok (.aload_n 0, 1) := by decide +kernel
theorem dX3_giveKeyword_17 : decode cX3_giveKeyword 17 = .ok (.getfield 9, 3) := by decide +kernel
theorem dX3_giveKeyword_20 : decode cX3_giveKeyword 20 = .ok (.iload_n 3, 1) := by decide +kernel
theorem dX3_giveKeyword_21 : decode cX3_giveKeyword 21 = .ok (.iload_n 2, 1) := by decide +kernel
theorem dX3_giveKeyword_22 : decode cX3_giveKeyword 22 = .ok (.iastore, 1) := by decide +kernel
theorem dX3_giveKeyword_23 : decode cX3_giveKeyword 23 = .ok (.goto 20, 3) := by decide +kernel
theorem dX3_giveKeyword_26 : decode cX3_giveKeyword 26 = .ok (.aload_n 0, 1) := by decide +kernel
theorem dX3_giveKeyword_27 : decode cX3_giveKeyword 27 = .ok (.getfield 9, 3) := by decide +kernel
theorem dX3_giveKeyword_30 : decode cX3_giveKeyword 30 = .ok (.iload_n 3, 1) := by decide +kernel
theorem dX3_giveKeyword_31 : decode cX3_giveKeyword 31 = .ok (.iaload, 1) := by decide +kernel
theorem dX3_giveKeyword_32 : decode cX3_giveKeyword 32 = .ok (.iload_n 2, 1) := by decide +kernel
theorem dX3_giveKeyword_33 : decode cX3_giveKeyword 33 = .ok (.if_icmp .ne 10, 3) := by decide +kernel
theorem dX3_giveKeyword_36 : decode cX3_giveKeyword 36 = .ok (.aload_n 0, 1) := by decide +kernel
theorem dX3_giveKeyword_37 : decode cX3_giveKeyword 37 = .ok (.getfield 9, 3) := by decide +kernel
theorem dX3_giveKeyword_40 : decode cX3_giveKeyword 40 = .ok (.iload_n 3, 1) := by decide +kernel
theorem dX3_giveKeyword_41 : decode cX3_giveKeyword 41 = .ok (.iconst (-1), 1) := by decide +kernel
theorem dX3_giveKeyword_42 : decode cX3_giveKeyword 42 = .ok (.iastore, 1) := by decide +kernel
theorem dX3_giveKeyword_43 : decode cX3_giveKeyword 43 = .ok (.iinc 3 1, 3) := by decide +kernel
theorem dX3_giveKeyword_46 : decode cX3_giveKeyword 46 = .ok (.goto (-44), 3) := by decide +kernel
theorem dX3_giveKeyword_49 : decode cX3_giveKeyword 49 = .ok (.return_, 1) := by decide +kernel
theorem dX3_serviceFor_0 : decode cX3_serviceFor 0 = .ok (.iload_n 1, 1) := by decide +kernel
theorem dX3_serviceFor_1 : decode cX3_serviceFor 1 = .ok (.ifCond .lt 21, 3) := by decide +kernel
theorem dX3_serviceFor_4 : decode cX3_serviceFor 4 = .ok (.iload_n 1, 1) := by decide +kernel
theorem dX3_serviceFor_5 : decode cX3_serviceFor 5 = .ok (.aload_n 0, 1) := by decide +kernel
theorem dX3_serviceFor_6 : decode cX3_serviceFor 6 = .ok (.getfield 15, 3) := by decide +kernel
theorem dX3_serviceFor_9 : decode cX3_serviceFor 9 = .ok (.arraylength, 1) := by decide +kernel
theorem dX3_serviceFor_10 : decode cX3_serviceFor 10 = .ok (.if_icmp .ge 12, 3) := by decide +kernel
theorem dX3_serviceFor_13 : decode cX3_serviceFor 13 = .ok (.iload_n 1, 1) := by decide +kernel
theorem dX3_serviceFor_14 : decode cX3_serviceFor 14 = .ok (.aload_n 0, 1) := by decide +kernel
theorem dX3_serviceFor_15 : decode cX3_serviceFor 15 = .ok (.getfield 18, 3) := by decide +kernel
theorem dX3_serviceFor_18 : decode cX3_serviceFor 18 = .ok (.arraylength, 1) := by decide +kernel
theorem dX3_serviceFor_19 : decode cX3_serviceFor 19 = .ok (.if_icmp .lt 5, 3) := by decide +kernel
theorem dX3_serviceFor_22 : decode cX3_serviceFor 22 = .ok (.iconst 0, 1) := by decide +kernel
theorem dX3_serviceFor_23 : decode cX3_serviceFor 23 = .ok (.ireturn, 1) := by decide +kernel
theorem dX3_serviceFor_24 : decode cX3_serviceFor 24 = .ok (.aload_n 0, 1) := by decide +kernel
theorem dX3_serviceFor_25 : decode cX3_serviceFor 25 = .ok (.iload_n 2, 1) := by decide +kernel
theorem dX3_serviceFor_26 : decode cX3_serviceFor 26 = .ok (.invokevirtual 27, 3) := by decide +kernel
theorem dX3_serviceFor_29 : decode cX3_serviceFor 29 = .ok (.istore 4, 2) := by decide +kernel
theorem dX3_serviceFor_31 : decode cX3_serviceFor 31 = .ok (.iload 4, 2) := by decide +kernel
theorem dX3_serviceFor_33 : decode cX3_serviceFor 33 = .ok (.ifCond .eq 14, 3) := by decide +kernel
theorem dX3_serviceFor_36 : decode cX3_serviceFor 36 = .ok (.aload_n 0, 1) := by decide +kernel
theorem dX3_serviceFor_37 : decode cX3_serviceFor 37 = .ok (.getfield 15, 3) := by decide +kernel
theorem dX3_serviceFor_40 : decode cX3_serviceFor 40 = .ok (.iload_n 1, 1) := by decide +kernel
theorem dX3_serviceFor_41 : decode cX3_serviceFor 41 = .ok (.iload 4, 2) := by decide +kernel
theorem dX3_serviceFor_43 : decode cX3_serviceFor 43 = .ok (.iastore, 1) := by decide +kernel
theorem dX3_serviceFor_44 : decode cX3_serviceFor 44 = .ok (.goto 23, 3) := by decide +kernel
theorem dX3_serviceFor_47 : decode cX3_serviceFor 47 = .ok (.iload_n 3, 1) := by decide +kernel
theorem dX3_serviceFor_48 : decode cX3_serviceFor 48 = .ok (.aload_n 0, 1) := by decide +kernel
theorem dX3_serviceFor_49 : decode cX3_serviceFor 49 = .ok (.getfield 18, 3) := by decide +kernel
theorem dX3_serviceFor_52 : decode cX3_serviceFor 52 = .ok (.iload_n 1, 1) := by decide +kernel
theorem dX3_serviceFor_53 : decode cX3_serviceFor 53 = .ok (.iaload, 1) := by decide +kernel
theorem dX3_serviceFor_54 : decode cX3_serviceFor 54 = .ok (.isub, 1) := by decide +kernel
theorem dX3_serviceFor_55 : decode cX3_serviceFor 55 = .ok (.bipush 20, 2) := by decide +kernel
theorem dX3_serviceFor_57 : decode cX3_serviceFor 57 = .ok (.if_icmp .lt 10, 3) := by decide +kernel
theorem dX3_serviceFor_60 : decode cX3_serviceFor 60 = .ok (.aload_n 0, 1) := by decide +kernel
theorem dX3_serviceFor_61 : decode cX3_serviceFor 61 = .ok (.getfield 15, 3) := by decide +kernel
theorem dX3_serviceFor_64 : decode cX3_serviceFor 64 = .ok (.iload_n 1, 1) := by decide +kernel
theorem dX3_serviceFor_65 : decode cX3_serviceFor 65 = .ok (.iconst 0, 1) := by decide +kernel
theorem dX3_serviceFor_66 : decode cX3_serviceFor 66 = .ok (.iastore, 1) := by decide +kernel
theorem dX3_serviceFor_67 : decode cX3_serviceFor 67 = .ok (.aload_n 0, 1) := by decide +kernel
theorem dX3_serviceFor_68 : decode cX3_serviceFor 68 = .ok (.getfield 18, 3) := by decide +kernel
theorem dX3_serviceFor_71 : decode cX3_serviceFor 71 = .ok (.iload_n 1, 1) := by decide +kernel
theorem dX3_serviceFor_72 : decode cX3_serviceFor 72 = .ok (.iload_n 3, 1) := by decide +kernel
theorem dX3_serviceFor_73 : decode cX3_serviceFor 73 = .ok (.iastore, 1) := by decide +kernel
theorem dX3_serviceFor_74 : decode cX3_serviceFor 74 = .ok (.aload_n 0, 1) := by decide +kernel
theorem dX3_serviceFor_75 : decode cX3_serviceFor 75 = .ok (.getfield 15, 3) := by decide +kernel
theorem dX3_serviceFor_78 : decode cX3_serviceFor 78 = .ok (.iload_n 1, 1) := by decide +kernel
theorem dX3_serviceFor_79 : decode cX3_serviceFor 79 = .ok (.iaload, 1) := by decide +kernel
theorem dX3_serviceFor_80 : decode cX3_serviceFor 80 = .ok (.ireturn, 1) := by decide +kernel
theorem dX3_serviceWith_0 : decode cX3_serviceWith 0 = .ok (.iconst 1, 1) := by decide +kernel
theorem dX3_serviceWith_1 : decode cX3_serviceWith 1 = .ok (.istore_n 2, 1) := by decide +kernel
theorem dX3_serviceWith_2 : decode cX3_serviceWith 2 = .ok (.iload_n 2, 1) := by decide +kernel
theorem dX3_serviceWith_3 : decode cX3_serviceWith 3 = .ok (.aload_n 0, 1) := by decide +kernel
theorem dX3_serviceWith_4 : decode cX3_serviceWith 4 = .ok (.getfield 9, 3) := by decide +kernel
theorem dX3_serviceWith_7 : decode cX3_serviceWith 7 = .ok (.arraylength, 1) := by decide +kernel
theorem dX3_serviceWith_8 : decode cX3_serviceWith 8 = .ok (.if_icmp .ge 21, 3) := by decide +kernel
theorem dX3_serviceWith_11 : decode cX3_serviceWith 11 = .ok (.aload_n 0, 1) := by decide +kernel
theorem dX3_serviceWith_12 : decode cX3_serviceWith 12 = .ok (.getfield 9, 3) := by decide +kernel
theorem dX3_serviceWith_15 : decode cX3_serviceWith 15 = .ok (.iload_n 2, 1) := by decide +kernel
theorem dX3_serviceWith_16 : decode cX3_serviceWith 16 = .ok (.iaload, 1) := by decide +kernel
theorem dX3_serviceWith_17 : decode cX3_serviceWith 17 = .ok (.iload_n 1, 1) := by decide +kernel
theorem dX3_serviceWith_18 : decode cX3_serviceWith 18 = .ok (.if_icmp .ne 5, 3) := by decide +kernel
theorem dX3_serviceWith_21 : decode cX3_serviceWith 21 = .ok (.iload_n 2, 1) := by decide +kernel
theorem dX3_serviceWith_22 : decode cX3_serviceWith 22 = .ok (.ireturn, 1) := by decide +kernel
theorem dX3_serviceWith_23 : decode cX3_serviceWith 23 = .ok (.iinc 2 1, 3) := by decide +kernel
theorem dX3_serviceWith_26 : decode cX3_serviceWith 26 = .ok (.goto (-24), 3) := by decide +kernel
theorem dX3_serviceWith_29 : decode cX3_serviceWith 29 = .ok (.iconst 0, 1) := by decide +kernel
theorem dX3_serviceWith_30 : decode cX3_serviceWith 30 = .ok (.ireturn, 1) := by decide +kernel
theorem dX4_init_0 : decode cX4_init 0 = .ok (.aload_n 0, 1) := by decide +kernel
theorem dX4_init_1 : decode cX4_init 1 = .ok (.invokespecial 3, 3) := by decide +kernel
theorem dX4_init_4 : decode cX4_init 4 = .ok (.aload_n 0, 1) := by decide +kernel
theorem dX4_init_5 : decode cX4_init 5 = .ok (.bipush 120, 2) := by decide +kernel
theorem dX4_init_7 : decode cX4_init 7 = .ok (.anewarray 9, 3) := by decide +kernel
theorem dX4_init_10 : decode cX4_init 10 = .ok (.putfield 11, 3) := by decide +kernel
theorem dX4_init_13 : decode cX4_init 13 = .ok (.aload_n 0, 1) := by decide +kernel
theorem dX4_init_14 : decode cX4_init 14 = .ok (.iconst 0, 1) := by decide +kernel
theorem dX4_init_15 : decode cX4_init 15 = .ok (.putfield 17, 3) := by decide +kernel
theorem dX4_init_18 : decode cX4_init 18 = .ok (.return_, 1) := by decide +kernel
theorem dX4_at_0 : decode cX4_at 0 = .ok (.iload_n 1, 1) := by decide +kernel
theorem dX4_at_1 : decode cX4_at 1 = .ok (.ifCond .lt 29, 3) := by decide +kernel
theorem dX4_at_4 : decode cX4_at 4 = .ok (.iload_n 1, 1) := by decide +kernel
theorem dX4_at_5 : decode cX4_at 5 = .ok (.aload_n 0, 1) := by decide +kernel
theorem dX4_at_6 : decode cX4_at 6 = .ok (.getfield 17, 3) := by decide +kernel
theorem dX4_at_9 : decode cX4_at 9 = .ok (.if_icmp .ge 21, 3) := by decide +kernel
theorem dX4_at_12 : decode cX4_at 12 = .ok (.iload_n 1, 1) := by decide +kernel
theorem dX4_at_13 : decode cX4_at 13 = .ok (.aload_n 0, 1) := by decide +kernel
theorem dX4_at_14 : decode cX4_at 14 = .ok (.getfield 11, 3) := by decide +kernel
theorem dX4_at_17 : decode cX4_at 17 = .ok (.arraylength, 1) := by decide +kernel
theorem dX4_at_18 : decode cX4_at 18 = .ok (.if_icmp .ge 12, 3) := by decide +kernel
theorem dX4_at_21 : decode cX4_at 21 = .ok (.aload_n 0, 1) := by decide +kernel
theorem dX4_at_22 : decode cX4_at 22 = .ok (.getfield 11, 3) := by decide +kernel
theorem dX4_at_25 : decode cX4_at 25 = .ok (.iload_n 1, 1) := by decide +kernel
theorem dX4_at_26 : decode cX4_at 26 = .ok (.aaload, 1) := by decide +kernel
theorem dX4_at_27 : decode cX4_at 27 = .ok (.goto 4, 3) := by decide +kernel
theorem dX4_at_30 : decode cX4_at 30 = .ok (.aconst_null, 1) := by decide +kernel
theorem dX4_at_31 : decode cX4_at 31 = .ok (.areturn, 1) := by decide +kernel
theorem dX4_addLast_0 : decode cX4_addLast 0 = .ok (.aload_n 0, 1) := by decide +kernel
theorem dX4_addLast_1 : decode cX4_addLast 1 = .ok (.aload_n 0, 1) := by decide +kernel
theorem dX4_addLast_2 : decode cX4_addLast 2 = .ok (.getfield 17, 3) := by decide +kernel
theorem dX4_addLast_5 : decode cX4_addLast 5 = .ok (.aload_n 1, 1) := by decide +kernel
theorem dX4_addLast_6 : decode cX4_addLast 6 = .ok (.invokevirtual 21, 3) := by decide +kernel
theorem dX4_addLast_9 : decode cX4_addLast 9 = .ok (.return_, 1) := by decide +kernel
theorem dX4_insert_0 : decode cX4_insert 0 = .ok (.iload_n 1, 1) := by decide +kernel
theorem dX4_insert_1 : decode cX4_insert 1 = .ok (.ifCond .lt 23, 3) := by decide +kernel
theorem dX4_insert_4 : decode cX4_insert 4 = .ok (.iload_n 1, 1) := by decide +kernel
theorem dX4_insert_5 : decode cX4_insert 5 = .ok (.aload_n 0, 1) := by decide +kernel
theorem dX4_insert_6 : decode cX4_insert 6 = .ok (.getfield 17, 3) := by decide +kernel
theorem dX4_insert_9 : decode cX4_insert 9 = .ok (.if_icmp .gt 15, 3) := by decide +kernel
theorem dX4_insert_12 : decode cX4_insert 12 = .ok (.aload_n 0, 1) := by decide +kernel
theorem dX4_insert_13 : decode cX4_insert 13 = .ok (.getfield 17, 3) := by decide +kernel
theorem dX4_insert_16 : decode cX4_insert 16 = .ok (.aload_n 0, 1) := by decide +kernel
theorem dX4_insert_17 : decode cX4_insert 17 = .ok (.getfield 11, 3) := by decide +kernel
theorem dX4_insert_20 : decode cX4_insert 20 = .ok (.arraylength, 1) := by decide +kernel
theorem dX4_insert_21 : decode cX4_insert 21 = .ok (.if_icmp .lt 4, 3) := by decide +kernel
theorem dX4_insert_24 : decode cX4_insert 24 = .ok (.return_, 1) := by decide +kernel
theorem dX4_insert_25 : decode cX4_insert 25 = .ok (.aload_n 0, 1) := by decide +kernel
theorem dX4_insert_26 : decode cX4_insert 26 = .ok (.getfield 17, 3) := by decide +kernel
theorem dX4_insert_29 : decode cX4_insert 29 = .ok (.istore_n 3, 1) := by decide +kernel
theorem dX4_insert_30 : decode cX4_insert 30 = .ok (.iload_n 3, 1) := by decide +kernel
theorem dX4_insert_31 : decode cX4_insert 31 = .ok (.iload_n 1, 1) := by decide +kernel
theorem dX4_insert_32 : decode cX4_insert 32 = .ok (.if_icmp .le 23, 3) := by decide +kernel
theorem dX4_insert_35 : decode cX4_insert 35 = .ok (.aload_n 0, 1) := by decide +kernel
theorem dX4_insert_36 : decode cX4_insert 36 = .ok (.getfield 11, 3) := by decide +kernel
theorem dX4_insert_39 : decode cX4_insert 39 = .ok (.iload_n 3, 1) := by decide +kernel
theorem dX4_insert_40 : decode cX4_insert 40 = .ok (.aload_n 0, 1) := by decide +kernel
theorem dX4_insert_41 : decode cX4_insert 41 = .ok (.getfield 11, 3) := by decide +kernel
theorem dX4_insert_44 : decode cX4_insert 44 = .ok (.iload_n 3, 1) := by decide +kernel
theorem dX4_insert_45 : decode cX4_insert 45 = .ok (.iconst 1, 1) := by decide +kernel
theorem dX4_insert_46 : decode cX4_insert 46 = .ok (.isub, 1) := by decide +kernel
theorem dX4_insert_47 : decode cX4_insert 47 = .ok (.aaload, 1) := by decide +kernel
theorem dX4_insert_48 : decode cX4_insert 48 = .ok (.aastore, 1) := by decide +kernel
theorem dX4_insert_49 : decode cX4_insert 49 = .ok (.iinc 3 (-1), 3) := by decide +kernel
theorem dX4_insert_52 : decode cX4_insert 52 = .ok (.goto (-22), 3) := by decide +kernel
theorem dX4_insert_55 : decode cX4_insert 55 = .ok (.aload_n 0, 1) := by decide +kernel
theorem dX4_insert_56 : decode cX4_insert 56 = .ok (.getfield 11, 3) := by decide +kernel
theorem dX4_insert_59 : decode cX4_insert 59 = .ok (.iload_n 1, 1) := by decide +kernel
theorem dX4_insert_60 : decode cX4_insert 60 = .ok (.aload_n 2, 1) := by decide +kernel
theorem dX4_insert_61 : decode cX4_insert 61 = .ok (.aastore, 1) := by decide +kernel
theorem dX4_insert_62 : decode cX4_insert 62 = .ok (.aload_n 0, 1) := by decide +kernel
theorem dX4_insert_63 : decode cX4_insert 63 = .ok (.dup, 1) := by decide +kernel
theorem dX4_insert_64 : decode cX4_insert 64 = .ok (.getfield 17, 3) := by decide +kernel
theorem dX4_insert_67 : decode cX4_insert 67 = .ok (.iconst 1, 1) := by decide +kernel
theorem dX4_insert_68 : decode cX4_insert 68 = .ok (.iadd, 1) := by decide +kernel
theorem dX4_insert_69 : decode cX4_insert 69 = .ok (.putfield 17, 3) := by decide +kernel
theorem dX4_insert_72 : decode cX4_insert 72 = .ok (.return_, 1) := by decide +kernel
theorem dX4_removeAt_0 : decode cX4_removeAt 0 = .ok (.aload_n 0, 1) := by decide +kernel
theorem dX4_removeAt_1 : decode cX4_removeAt 1 = .ok (.iload_n 1, 1) := by decide +kernel
theorem dX4_removeAt_2 : decode cX4_removeAt 2 = .ok (.invokevirtual 25, 3) := by decide +kernel
theorem dX4_removeAt_5 : decode cX4_removeAt 5 = .ok (.astore_n 2, 1) := by decide +kernel
theorem dX4_removeAt_6 : decode cX4_removeAt 6 = .ok (.aload_n 2, 1) := by decide +kernel
theorem dX4_removeAt_7 : decode cX4_removeAt 7 = .ok (.ifnonnull 5, 3) := by decide +kernel
theorem dX4_removeAt_10 : decode cX4_removeAt 10 = .ok (.aconst_null, 1) := by decide +kernel
theorem dX4_removeAt_11 : decode cX4_removeAt 11 = .ok (.areturn, 1) := by decide +kernel
theorem dX4_removeAt_12 : decode cX4_removeAt 12 = .ok (.iload_n 1, 1) := by decide +kernel
theorem dX4_removeAt_13 : decode cX4_removeAt 13 = .ok (.iconst 1, 1) := by decide +kernel
theorem dX4_removeAt_14 : decode cX4_removeAt 14 = .ok (.iadd, 1) := by decide +kernel
theorem dX4_removeAt_15 : decode cX4_removeAt 15 = .ok (.istore_n 3, 1) := by decide +kernel
theorem dX4_removeAt_16 : decode cX4_removeAt 16 = .ok (.iload_n 3, 1) := by decide +kernel
theorem dX4_removeAt_17 : decode cX4_removeAt 17 = .ok (.aload_n 0, 1) := by decide +kernel
theorem dX4_removeAt_18 : decode cX4_removeAt 18 = .ok (.getfield 17, 3) := by decide +kernel
theorem dX4_removeAt_21 : decode cX4_removeAt 21 = .ok (.if_icmp .ge 23, 3) := by decide +kernel
theorem dX4_removeAt_24 : decode cX4_removeAt 24 = .ok (.aload_n 0, 1) := by decide +kernel
theorem dX4_removeAt_25 : decode cX4_removeAt 25 = .ok (.getfield 11, 3) := by decide +kernel
theorem dX4_removeAt_28 : decode cX4_removeAt 28 = .ok (.iload_n 3, 1) := by decide +kernel
theorem dX4_removeAt_29 : decode cX4_removeAt 29 = .ok (.iconst 1, 1) := by decide +kernel
theorem dX4_removeAt_30 : decode cX4_removeAt 30 = .ok (.isub, 1) := by decide +kernel
theorem dX4_removeAt_31 : decode cX4_removeAt 31 = .ok (.aload_n 0, 1) := by decide +kernel
theorem dX4_removeAt_32 : decode cX4_removeAt 32 = .ok (.getfield 11, 3) := by decide +kernel
theorem dX4_removeAt_35 : decode cX4_removeAt 35 = .ok (.iload_n 3, 1) := by decide +kernel
theorem dX4_removeAt_36 : decode cX4_removeAt 36 = .ok (.aaload, 1) := by decide +kernel
theorem dX4_removeAt_37 : decode cX4_removeAt 37 = .ok (.aastore, 1) := by decide +kernel
theorem dX4_removeAt_38 : decode cX4_removeAt 38 = .ok (.iinc 3 1, 3) := by decide +kernel
theorem dX4_removeAt_41 : decode cX4_removeAt 41 = .ok (.goto (-25), 3) := by decide +kernel
theorem dX4_removeAt_44 : decode cX4_removeAt 44 = .ok (.aload_n 0, 1) := by decide +kernel
theorem dX4_removeAt_45 : decode cX4_removeAt 45 = .ok (.dup, 1) := by decide +kernel
theorem dX4_removeAt_46 : decode cX4_removeAt 46 = .ok (.getfield 17, 3) := by decide +kernel
theorem dX4_removeAt_49 : decode cX4_removeAt 49 = .ok (.iconst 1, 1) := by decide +kernel
theorem dX4_removeAt_50 : decode cX4_removeAt 50 = .ok (.isub, 1) := by decide +kernel
theorem dX4_removeAt_51 : decode cX4_removeAt 51 = .ok (.putfield 17, 3) := by decide +kernel
theorem dX4_removeAt_54 : decode cX4_removeAt 54 = .ok (.aload_n 0, 1) := by decide +kernel
theorem dX4_removeAt_55 : decode cX4_removeAt 55 = .ok (.getfield 11, 3) := by decide +kernel
theorem dX4_removeAt_58 : decode cX4_removeAt 58 = .ok (.aload_n 0, 1) := by decide +kernel
theorem dX4_removeAt_59 : decode cX4_removeAt 59 = .ok (.getfield 17, 3) := by decide +kernel
theorem dX4_removeAt_62 : decode cX4_removeAt 62 = .ok (.aconst_null, 1) := by decide +kernel
theorem dX4_removeAt_63 : decode cX4_removeAt 63 = .ok (.aastore, 1) := by decide +kernel
theorem dX4_removeAt_64 : decode cX4_removeAt 64 = .ok (.aload_n 2, 1) := by decide +kernel
theorem dX4_removeAt_65 : decode cX4_removeAt 65 = .ok (.areturn, 1) := by decide +kernel
theorem dX4_removeFirstReady_0 : decode cX4_removeFirstReady 0 = .ok (.iconst 0, 1) := by decide +kernel
theorem dX4_removeFirstReady_1 : decode cX4_removeFirstReady 1 = .ok (.istore_n 2, 1) := by decide +kernel
theorem dX4_removeFirstReady_2 : decode cX4_removeFirstReady 2 = .ok (.iload_n 2, 1) := by decide +kernel
theorem dX4_removeFirstReady_3 : decode cX4_removeFirstReady 3 = .ok (.aload_n 0, 1) := by decide +kernel
theorem dX4_removeFirstReady_4 : decode cX4_removeFirstReady 4 = .ok (.getfield 17, 3) := by decide +kernel
theorem dX4_removeFirstReady_7 : decode cX4_removeFirstReady 7 = .ok (.if_icmp .ge 33, 3) := by decide +kernel
theorem dX4_removeFirstReady_10 : decode cX4_removeFirstReady 10 = .ok (.aload_n 0, 1) := by decide +kernel
theorem dX4_removeFirstReady_11 : decode cX4_removeFirstReady 11 = .ok (.iload_n 2, 1) := by decide +kernel
theorem dX4_removeFirstReady_12 : decode cX4_removeFirstReady 12 = .ok (.invokevirtual 25, 3) := by decide +kernel
theorem dX4_removeFirstReady_15 : decode cX4_removeFirstReady 15 = .ok (.astore_n 3, 1) := by decide +kernel
theorem dX4_removeFirstReady_16 : decode cX4_removeFirstReady 16 = .ok (.aload_n 3, 1) := by decide +kernel
theorem dX4_removeFirstReady_17 : decode cX4_removeFirstReady 17 = .ok (.ifnull 17, 3) := by decide +kernel
theorem dX4_removeFirstReady_20 : decode cX4_removeFirstReady 20 = .ok (.aload_n 3, 1) := by decide +kernel
theorem dX4_removeFirstReady_21 : decode cX4_removeFirstReady 21 = .ok (.iload_n 1, 1) := by decide +kernel
theorem dX4_removeFirstReady_22 : decode cX4_removeFirstReady 22 = .ok (.invokevirtual 29, 3) := by decide +kernel
theorem dX4_removeFirstReady_25 : decode cX4_removeFirstReady 25 = .ok (.ifCond .eq 9, 3) := by decide +kernel
theorem dX4_removeFirstReady_28 : decode cX4_removeFirstReady 28 = .ok (.aload_n 0, 1) := by decide +kernel
theorem dX4_removeFirstReady_29 : decode cX4_removeFirstReady 29 = .ok (.iload_n 2, 1) := by decide +kernel
theorem dX4_removeFirstReady_30 : decode cX4_removeFirstReady 30 = .ok (.invokevirtual 33, 3) := by decide +kernel
theorem dX4_removeFirstReady_33 : decode cX4_removeFirstReady 33 = .ok (.areturn, 1) := by decide +kernel
theorem dX4_removeFirstReady_34 : decode cX4_removeFirstReady 34 = .ok (.iinc 2 1, 3) := by decide +kernel
theorem dX4_removeFirstReady_37 : decode cX4_removeFirstReady 37 = .ok (.goto (-35), 3) := by decide +kernel
theorem dX4_removeFirstReady_40 : decode cX4_removeFirstReady 40 = .ok (.aconst_null, 1) := by decide +kernel
theorem dX4_removeFirstReady_41 : decode cX4_removeFirstReady 41 = .ok (.areturn, 1) := by decide +kernel
theorem dX4_removeAllOf_0 : decode cX4_removeAllOf 0 = .ok (.aload_n 0, 1) := by decide +kernel
theorem dX4_removeAllOf_1 : decode cX4_removeAllOf 1 = .ok (.getfield 17, 3) := by decide +kernel
theorem dX4_removeAllOf_4 : decode cX4_removeAllOf 4 = .ok (.iconst 1, 1) := by decide +kernel
theorem dX4_removeAllOf_5 : decode cX4_removeAllOf 5 = .ok (.isub, 1) := by decide +kernel
theorem dX4_removeAllOf_6 : decode cX4_removeAllOf 6 = .ok (.istore_n 2, 1) := by decide +kernel
theorem dX4_removeAllOf_7 : decode cX4_removeAllOf 7 = .ok (.iload_n 2, 1) := by decide +kernel
theorem dX4_removeAllOf_8 : decode cX4_removeAllOf 8 = .ok (.ifCond .lt 33, 3) := by decide +kernel
theorem dX4_removeAllOf_11 : decode cX4_removeAllOf 11 = .ok (.aload_n 0, 1) := by decide +kernel
theorem dX4_removeAllOf_12 : decode cX4_removeAllOf 12 = .ok (.iload_n 2, 1) := by decide +kernel
theorem dX4_removeAllOf_13 : decode cX4_removeAllOf 13 = .ok (.invokevirtual 25, 3) := by decide +kernel
theorem dX4_removeAllOf_16 : decode cX4_removeAllOf 16 = .ok (.astore_n 3, 1) := by decide +kernel
theorem dX4_removeAllOf_17 : decode cX4_removeAllOf 17 = .ok (.aload_n 3, 1) := by decide +kernel
theorem dX4_removeAllOf_18 : decode cX4_removeAllOf 18 = .ok (.ifnull 17, 3) := by decide +kernel
theorem dX4_removeAllOf_21 : decode cX4_removeAllOf 21 = .ok (.aload_n 3, 1) := by decide +kernel
theorem dX4_removeAllOf_22 : decode cX4_removeAllOf 22 = .ok (.getfield 36, 3) := by decide +kernel
theorem dX4_removeAllOf_25 : decode cX4_removeAllOf 25 = .ok (.aload_n 1, 1) := by decide +kernel
theorem dX4_removeAllOf_26 : decode cX4_removeAllOf 26 = .ok (.if_acmp .ne 9, 3) := by decide +kernel
theorem dX4_removeAllOf_29 : decode cX4_removeAllOf 29 = .ok (.aload_n 0, 1) := by decide +kernel
theorem dX4_removeAllOf_30 : decode cX4_removeAllOf 30 = .ok (.iload_n 2, 1) := by decide +kernel
theorem dX4_removeAllOf_31 : decode cX4_removeAllOf 31 = .ok (.invokevirtual 33, 3) := by decide +kernel
theorem dX4_removeAllOf_34 : decode cX4_removeAllOf 34 = .ok (.pop, 1) := by decide +kernel
theorem dX4_removeAllOf_35 : decode cX4_removeAllOf 35 = .ok (.iinc 2 (-1), 3) := by decide +kernel
theorem dX4_removeAllOf_38 : decode cX4_removeAllOf 38 = .ok (.goto (-31), 3) := by decide +kernel
theorem dX4_removeAllOf_41 : decode cX4_removeAllOf 41 = .ok (.return_, 1) := by decide +kernel
theorem dX4_wake_0 : decode cX4_wake 0 = .ok (.iconst 0, 1) := by decide +kernel
theorem dX4_wake_1 : decode cX4_wake 1 = .ok (.istore_n 2, 1) := by decide +kernel
theorem dX4_wake_2 : decode cX4_wake 2 = .ok (.iconst 0, 1) := by decide +kernel
theorem dX4_wake_3 : decode cX4_wake 3 = .ok (.istore_n 3, 1) := by decide +kernel
theorem dX4_wake_4 : decode cX4_wake 4 = .ok (.iload_n 3, 1) := by decide +kernel
theorem dX4_wake_5 : decode cX4_wake 5 = .ok (.aload_n 0, 1) := by decide +kernel
theorem dX4_wake_6 : decode cX4_wake 6 = .ok (.getfield 17, 3) := by decide +kernel
theorem dX4_wake_9 : decode cX4_wake 9 = .ok (.if_icmp .ge 50, 3) := by decide +kernel
theorem dX4_wake_12 : decode cX4_wake 12 = .ok (.aload_n 0, 1) := by decide +kernel
theorem dX4_wake_13 : decode cX4_wake 13 = .ok (.iload_n 3, 1) := by decide +kernel
theorem dX4_wake_14 : decode cX4_wake 14 = .ok (.invokevirtual 25, 3) := by decide +kernel
theorem dX4_wake_17 : decode cX4_wake 17 = .ok (.astore 4, 2) := by decide +kernel
theorem dX4_wake_19 : decode cX4_wake 19 = .ok (.aload 4, 2) := by decide +kernel
theorem dX4_wake_21 : decode cX4_wake 21 = .ok (.ifnull 32, 3) := by decide +kernel
theorem dX4_wake_24 : decode cX4_wake 24 = .ok (.aload 4, 2) := by decide +kernel
theorem dX4_wake_26 : decode cX4_wake 26 = .ok (.getfield 40, 3) := by decide +kernel
theorem dX4_wake_29 : decode cX4_wake 29 = .ok (.ifCond .eq 24, 3) := by decide +kernel
theorem dX4_wake_32 : decode cX4_wake 32 = .ok (.aload 4, 2) := by decide +kernel
theorem dX4_wake_34 : decode cX4_wake 34 = .ok (.getfield 36, 3) := by decide +kernel
theorem dX4_wake_37 : decode cX4_wake 37 = .ok (.getfield 44, 3) := by decide +kernel
theorem dX4_wake_40 : decode cX4_wake 40 = .ok (.iload_n 1, 1) := by decide +kernel
theorem dX4_wake_41 : decode cX4_wake 41 = .ok (.if_icmp .ne 12, 3) := by decide +kernel
theorem dX4_wake_44 : decode cX4_wake 44 = .ok (.aload 4, 2) := by decide +kernel
theorem dX4_wake_46 : decode cX4_wake 46 = .ok (.iconst 0, 1) := by decide +kernel
theorem dX4_wake_47 : decode cX4_wake 47 = .ok (.putfield 40, 3) := by decide +kernel
theorem dX4_wake_50 : decode cX4_wake 50 = .ok (.iinc 2 1, 3) := by decide +kernel
theorem dX4_wake_53 : decode cX4_wake 53 = .ok (.iinc 3 1, 3) := by decide +kernel
theorem dX4_wake_56 : decode cX4_wake 56 = .ok (.goto (-52), 3) := by decide +kernel
theorem dX4_wake_59 : decode cX4_wake 59 = .ok (.iload_n 2, 1) := by decide +kernel
theorem dX4_wake_60 : decode cX4_wake 60 = .ok (.ireturn, 1) := by decide +kernel
theorem dX5_init_0 : decode cX5_init 0 = .ok (.aload_n 0, 1) := by decide +kernel
theorem dX5_init_1 : decode cX5_init 1 = .ok (.invokespecial 3, 3) := by decide +kernel
theorem dX5_init_4 : decode cX5_init 4 = .ok (.aload_n 0, 1) := by decide +kernel
theorem dX5_init_5 : decode cX5_init 5 = .ok (.sipush 400, 3) := by decide +kernel
theorem dX5_init_8 : decode cX5_init 8 = .ok (.newarray .int, 2) := by decide +kernel
theorem dX5_init_10 : decode cX5_init 10 = .ok (.putfield 9, 3) := by decide +kernel
theorem dX5_init_13 : decode cX5_init 13 = .ok (.aload_n 0, 1) := by decide +kernel
theorem dX5_init_14 : decode cX5_init 14 = .ok (.iconst 0, 1) := by decide +kernel
theorem dX5_init_15 : decode cX5_init 15 = .ok (.putfield 15, 3) := by decide +kernel
theorem dX5_init_18 : decode cX5_init 18 = .ok (.aload_n 0, 1) := by decide +kernel
theorem dX5_init_19 : decode cX5_init 19 = .ok (.iconst 0, 1) := by decide +kernel
theorem dX5_init_20 : decode cX5_init 20 = .ok (.putfield 19, 3) := by decide +kernel
theorem dX5_init_23 : decode cX5_init 23 = .ok (.aload_n 0, 1) := by decide +kernel
theorem dX5_init_24 : decode cX5_init 24 = .ok (.iconst 0, 1) := by decide +kernel
theorem dX5_init_25 : decode cX5_init 25 = .ok (.putfield 22, 3) := by decide +kernel
theorem dX5_init_28 : decode cX5_init 28 = .ok (.aload_n 0, 1) := by decide +kernel
theorem dX5_init_29 : decode cX5_init 29 = .ok (.bipush 7, 2) := by decide +kernel
theorem dX5_init_31 : decode cX5_init 31 = .ok (.newarray .int, 2) := by decide +kernel
theorem dX5_init_33 : decode cX5_init 33 = .ok (.putfield 26, 3) := by decide +kernel
theorem dX5_init_36 : decode cX5_init 36 = .ok (.aload_n 0, 1) := by decide +kernel
theorem dX5_init_37 : decode cX5_init 37 = .ok (.iconst 0, 1) := by decide +kernel
theorem dX5_init_38 : decode cX5_init 38 = .ok (.putfield 29, 3) := by decide +kernel
theorem dX5_init_41 : decode cX5_init 41 = .ok (.return_, 1) := by decide +kernel
theorem dX5_append_0 : decode cX5_append 0 = .ok (.iconst 0, 1) := by decide +kernel
theorem dX5_append_1 : decode cX5_append 1 = .ok (.istore_n 3, 1) := by decide +kernel
theorem dX5_append_2 : decode cX5_append 2 = .ok (.iload_n 3, 1) := by decide +kernel
theorem dX5_append_3 : decode cX5_append 3 = .ok (.iload_n 2, 1) := by decide +kernel
theorem dX5_append_4 : decode cX5_append 4 = .ok (.if_icmp .ge 54, 3) := by decide +kernel
theorem dX5_append_7 : decode cX5_append 7 = .ok (.aload_n 0, 1) := by decide +kernel
theorem dX5_append_8 : decode cX5_append 8 = .ok (.getfield 15, 3) := by decide +kernel
theorem dX5_append_11 : decode cX5_append 11 = .ok (.aload_n 0, 1) := by decide +kernel
theorem dX5_append_12 : decode cX5_append 12 = .ok (.getfield 9, 3) := by decide +kernel
theorem dX5_append_15 : decode cX5_append 15 = .ok (.arraylength, 1) := by decide +kernel
theorem dX5_append_16 : decode cX5_append 16 = .ok (.if_icmp .ge 42, 3) := by decide +kernel
theorem dX5_append_19 : decode cX5_append 19 = .ok (.aload_n 0, 1) := by decide +kernel
theorem dX5_append_20 : decode cX5_append 20 = .ok (.getfield 9, 3) := by decide +kernel
theorem dX5_append_23 : decode cX5_append 23 = .ok (.aload_n 0, 1) := by decide +kernel
theorem dX5_append_24 : decode cX5_append 24 = .ok (.getfield 15, 3) := by decide +kernel
theorem dX5_append_27 : decode cX5_append 27 = .ok (.iload_n 1, 1) := by decide +kernel
theorem dX5_append_28 : decode cX5_append 28 = .ok (.iastore, 1) := by decide +kernel
theorem dX5_append_29 : decode cX5_append 29 = .ok (.aload_n 0, 1) := by decide +kernel
theorem dX5_append_30 : decode cX5_append 30 = .ok (.dup, 1) := by decide +kernel
theorem dX5_append_31 : decode cX5_append 31 = .ok (.getfield 15, 3) := by decide +kernel
theorem dX5_append_34 : decode cX5_append 34 = .ok (.iconst 1, 1) := by decide +kernel
theorem dX5_append_35 : decode cX5_append 35 = .ok (.iadd, 1) := by decide +kernel
theorem dX5_append_36 : decode cX5_append 36 = .ok (.putfield 15, 3) := by decide +kernel
theorem dX5_append_39 : decode cX5_append 39 = .ok (.aload_n 0, 1) := by decide +kernel
theorem dX5_append_40 : decode cX5_append 40 = .ok (.dup, 1) := by decide +kernel
theorem dX5_append_41 : decode cX5_append 41 = .ok (.getfield 19, 3) := by decide +kernel
theorem dX5_append_44 : decode cX5_append 44 = .ok (.iload_n 1, 1) := by decide +kernel
theorem dX5_append_45 : decode cX5_append 45 = .ok (.invokestatic 32, 3) := by decide +kernel
theorem dX5_append_48 : decode cX5_append 48 = .ok (.iadd, 1) := by decide +kernel
theorem dX5_append_49 : decode cX5_append 49 = .ok (.putfield 19, 3) := by decide +kernel
theorem dX5_append_52 : decode cX5_append 52 = .ok (.iinc 3 1, 3) := by decide +kernel
theorem dX5_append_55 : decode cX5_append 55 = .ok (.goto (-53), 3) := by decide +kernel
theorem dX5_append_58 : decode cX5_append 58 = .ok (.aload_n 0, 1) := by decide +kernel
theorem dX5_append_59 : decode cX5_append 59 = .ok (.aload_n 0, 1) := by decide +kernel
theorem dX5_append_60 : decode cX5_append 60 = .ok (.getfield 22, 3) := by decide +kernel
theorem dX5_append_63 : decode cX5_append 63 = .ok (.ifCond .ne 10, 3) := by decide +kernel
theorem dX5_append_66 : decode cX5_append 66 = .ok (.iload_n 1, 1) := by decide +kernel
theorem dX5_append_67 : decode cX5_append 67 = .ok (.sipush 160, 3) := by decide +kernel
theorem dX5_append_70 : decode cX5_append 70 = .ok (.if_icmp .lt 7, 3) := by decide +kernel
theorem dX5_append_73 : decode cX5_append 73 = .ok (.iconst 1, 1) := by decide +kernel
theorem dX5_append_74 : decode cX5_append 74 = .ok (.goto 4, 3) := by decide +kernel
theorem dX5_append_77 : decode cX5_append 77 = .ok (.iconst 0, 1) := by decide +kernel
theorem dX5_append_78 : decode cX5_append 78 = .ok (.putfield 22, 3) := by decide +kernel
theorem dX5_append_81 : decode cX5_append 81 = .ok (.aload_n 0, 1) := by decide +kernel
theorem dX5_append_82 : decode cX5_append 82 = .ok (.invokevirtual 36, 3) := by decide +kernel
theorem dX5_append_85 : decode cX5_append 85 = .ok (.return_, 1) := by decide +kernel
theorem dX5_clear_0 : decode cX5_clear 0 = .ok (.aload_n 0, 1) := by decide +kernel
theorem dX5_clear_1 : decode cX5_clear 1 = .ok (.iconst 0, 1) := by decide +kernel
theorem dX5_clear_2 : decode cX5_clear 2 = .ok (.putfield 15, 3) := by decide +kernel
theorem dX5_clear_5 : decode cX5_clear 5 = .ok (.aload_n 0, 1) := by decide +kernel
theorem dX5_clear_6 : decode cX5_clear 6 = .ok (.iconst 0, 1) := by decide +kernel
theorem dX5_clear_7 : decode cX5_clear 7 = .ok (.putfield 19, 3) := by decide +kernel
theorem dX5_clear_10 : decode cX5_clear 10 = .ok (.aload_n 0, 1) := by decide +kernel
theorem dX5_clear_11 : decode cX5_clear 11 = .ok (.iconst 0, 1) := by decide +kernel
theorem dX5_clear_12 : decode cX5_clear 12 = .ok (.putfield 22, 3) := by decide +kernel
theorem dX5_clear_15 : decode cX5_clear 15 = .ok (.aload_n 0, 1) := by decide +kernel
theorem dX5_clear_16 : decode cX5_clear 16 = .ok (.iconst 0, 1) := by decide +kernel
theorem dX5_clear_17 : decode cX5_clear 17 = .ok (.putfield 29, 3) := by decide +kernel
theorem dX5_clear_20 : decode cX5_clear 20 = .ok (.return_, 1) := by decide +kernel
theorem dX5_startOf_0 : decode cX5_startOf 0 = .ok (.iload_n 1, 1) := by decide +kernel
theorem dX5_startOf_1 : decode cX5_startOf 1 = .ok (.ifCond .lt 29, 3) := by decide +kernel
theorem dX5_startOf_4 : decode cX5_startOf 4 = .ok (.iload_n 1, 1) := by decide +kernel
theorem dX5_startOf_5 : decode cX5_startOf 5 = .ok (.aload_n 0, 1) := by decide +kernel
theorem dX5_startOf_6 : decode cX5_startOf 6 = .ok (.getfield 29, 3) := by decide +kernel
theorem dX5_startOf_9 : decode cX5_startOf 9 = .ok (.if_icmp .gt 21, 3) := by decide +kernel
theorem dX5_startOf_12 : decode cX5_startOf 12 = .ok (.iload_n 1, 1) := by decide +kernel
theorem dX5_startOf_13 : decode cX5_startOf 13 = .ok (.aload_n 0, 1) := by decide +kernel
theorem dX5_startOf_14 : decode cX5_startOf 14 = .ok (.getfield 26, 3) := by decide +kernel
theorem dX5_startOf_17 : decode cX5_startOf 17 = .ok (.arraylength, 1) := by decide +kernel
theorem dX5_startOf_18 : decode cX5_startOf 18 = .ok (.if_icmp .ge 12, 3) := by decide +kernel
theorem dX5_startOf_21 : decode cX5_startOf 21 = .ok (.aload_n 0, 1) := by decide +kernel
theorem dX5_startOf_22 : decode cX5_startOf 22 = .ok (.getfield 26, 3) := by decide +kernel
theorem dX5_startOf_25 : decode cX5_startOf 25 = .ok (.iload_n 1, 1) := by decide +kernel
theorem dX5_startOf_26 : decode cX5_startOf 26 = .ok (.iaload, 1) := by decide +kernel
theorem dX5_startOf_27 : decode cX5_startOf 27 = .ok (.goto 7, 3) := by decide +kernel
theorem dX5_startOf_30 : decode cX5_startOf 30 = .ok (.aload_n 0, 1) := by decide +kernel
theorem dX5_startOf_31 : decode cX5_startOf 31 = .ok (.getfield 15, 3) := by decide +kernel
theorem dX5_startOf_34 : decode cX5_startOf 34 = .ok (.ireturn, 1) := by decide +kernel
theorem dX5_octetsOf_0 : decode cX5_octetsOf 0 = .ok (.aload_n 0, 1) := by decide +kernel
theorem dX5_octetsOf_1 : decode cX5_octetsOf 1 = .ok (.getfield 22, 3) := by decide +kernel
theorem dX5_octetsOf_4 : decode cX5_octetsOf 4 = .ok (.ifCond .eq 19, 3) := by decide +kernel
theorem dX5_octetsOf_7 : decode cX5_octetsOf 7 = .ok (.iconst 2, 1) := by decide +kernel
theorem dX5_octetsOf_8 : decode cX5_octetsOf 8 = .ok (.aload_n 0, 1) := by decide +kernel
theorem dX5_octetsOf_9 : decode cX5_octetsOf 9 = .ok (.iload_n 1, 1) := by decide +kernel
theorem dX5_octetsOf_10 : decode cX5_octetsOf 10 = .ok (.iconst 1, 1) := by decide +kernel
theorem dX5_octetsOf_11 : decode cX5_octetsOf 11 = .ok (.iadd, 1) := by decide +kernel
theorem dX5_octetsOf_12 : decode cX5_octetsOf 12 = .ok (.invokevirtual 39, 3) := by decide +kernel
theorem dX5_octetsOf_15 : decode cX5_octetsOf 15 = .ok (.aload_n 0, 1) := by decide +kernel
theorem dX5_octetsOf_16 : decode cX5_octetsOf 16 = .ok (.iload_n 1, 1) := by decide +kernel
theorem dX5_octetsOf_17 : decode cX5_octetsOf 17 = .ok (.invokevirtual 39, 3) := by decide +kernel
theorem dX5_octetsOf_20 : decode cX5_octetsOf 20 = .ok (.isub, 1) := by decide +kernel
theorem dX5_octetsOf_21 : decode cX5_octetsOf 21 = .ok (.imul, 1) := by decide +kernel
theorem dX5_octetsOf_22 : decode cX5_octetsOf 22 = .ok (.ireturn, 1) := by decide +kernel
theorem dX5_octetsOf_23 : decode cX5_octetsOf 23 = .ok (.bipush 7, 2) := by decide +kernel
theorem dX5_octetsOf_25 : decode cX5_octetsOf 25 = .ok (.aload_n 0, 1) := by decide +kernel
theorem dX5_octetsOf_26 : decode cX5_octetsOf 26 = .ok (.iload_n 1, 1) := by decide +kernel
theorem dX5_octetsOf_27 : decode cX5_octetsOf 27 = .ok (.invokevirtual 42, 3) := by decide +kernel
theorem dX5_octetsOf_30 : decode cX5_octetsOf 30 = .ok (.imul, 1) := by decide +kernel
theorem dX5_octetsOf_31 : decode cX5_octetsOf 31 = .ok (.bipush 7, 2) := by decide +kernel
theorem dX5_octetsOf_33 : decode cX5_octetsOf 33 = .ok (.iadd, 1) := by decide +kernel
theorem dX5_octetsOf_34 : decode cX5_octetsOf 34 = .ok (.bipush 8, 2) := by decide +kernel
theorem dX5_octetsOf_36 : decode cX5_octetsOf 36 = .ok (.idiv, 1) := by decide +kernel
theorem dX5_octetsOf_37 : decode cX5_octetsOf 37 = .ok (.ireturn, 1) := by decide +kernel
theorem dX5_octetAt_0 : decode cX5_octetAt 0 = .ok (.aload_n 0, 1) := by decide +kernel
theorem dX5_octetAt_1 : decode cX5_octetAt 1 = .ok (.getfield 22, 3) := by decide +kernel
theorem dX5_octetAt_4 : decode cX5_octetAt 4 = .ok (.ifCond .eq 37, 3) := by decide +kernel
theorem dX5_octetAt_7 : decode cX5_octetAt 7 = .ok (.aload_n 0, 1) := by decide +kernel
theorem dX5_octetAt_8 : decode cX5_octetAt 8 = .ok (.aload_n 0, 1) := by decide +kernel
theorem dX5_octetAt_9 : decode cX5_octetAt 9 = .ok (.iload_n 1, 1) := by decide +kernel
theorem dX5_octetAt_10 : decode cX5_octetAt 10 = .ok (.invokevirtual 39, 3) := by decide +kernel
theorem dX5_octetAt_13 : decode cX5_octetAt 13 = .ok (.iload_n 2, 1) := by decide +kernel
theorem dX5_octetAt_14 : decode cX5_octetAt 14 = .ok (.iconst 2, 1) := by decide +kernel
theorem dX5_octetAt_15 : decode cX5_octetAt 15 = .ok (.idiv, 1) := by decide +kernel
theorem dX5_octetAt_16 : decode cX5_octetAt 16 = .ok (.iadd, 1) := by decide +kernel
theorem dX5_octetAt_17 : decode cX5_octetAt 17 = .ok (.invokevirtual 45, 3) := by decide +kernel
theorem dX5_octetAt_20 : decode cX5_octetAt 20 = .ok (.istore_n 3, 1) := by decide +kernel
theorem dX5_octetAt_21 : decode cX5_octetAt 21 = .ok (.iload_n 2, 1) := by decide +kernel
theorem dX5_octetAt_22 : decode cX5_octetAt 22 = .ok (.iconst 2, 1) := by decide +kernel
theorem dX5_octetAt_23 : decode cX5_octetAt 23 = .ok (.irem, 1) := by decide +kernel
theorem dX5_octetAt_24 : decode cX5_octetAt 24 = .ok (.ifCond .ne 11, 3) := by decide +kernel
theorem dX5_octetAt_27 : decode cX5_octetAt 27 = .ok (.iload_n 3, 1) := by decide +kernel
theorem dX5_octetAt_28 : decode cX5_octetAt 28 = .ok (.sipush 256, 3) := by decide +kernel
theorem dX5_octetAt_31 : decode cX5_octetAt 31 = .ok (.idiv, 1) := by decide +kernel
theorem dX5_octetAt_32 : decode cX5_octetAt 32 = .ok (.goto 8, 3) := by decide +kernel
theorem dX5_octetAt_35 : decode cX5_octetAt 35 = .ok (.iload_n 3, 1) := by decide +kernel
theorem dX5_octetAt_36 : decode cX5_octetAt 36 = .ok (.sipush 256, 3) := by decide +kernel
theorem dX5_octetAt_39 : decode cX5_octetAt 39 = .ok (.irem, 1) := by decide +kernel
theorem dX5_octetAt_40 : decode cX5_octetAt 40 = .ok (.ireturn, 1) := by decide +kernel
theorem dX5_octetAt_41 : decode cX5_octetAt 41 = .ok (.bipush 8, 2) := by decide +kernel
theorem dX5_octetAt_43 : decode cX5_octetAt 43 = .ok (.iload_n 2, 1) := by decide +kernel
theorem dX5_octetAt_44 : decode cX5_octetAt 44 = .ok (.imul, 1) := by decide +kernel
theorem dX5_octetAt_45 : decode cX5_octetAt 45 = .ok (.istore_n 3, 1) := by decide +kernel
theorem dX5_octetAt_46 : decode cX5_octetAt 46 = .ok (.aload_n 0, 1) := by decide +kernel
theorem dX5_octetAt_47 : decode cX5_octetAt 47 = .ok (.iload_n 1, 1) := by decide +kernel
theorem dX5_octetAt_48 : decode cX5_octetAt 48 = .ok (.iload_n 3, 1) := by decide +kernel
theorem dX5_octetAt_49 : decode cX5_octetAt 49 = .ok (.bipush 7, 2) := by decide +kernel
theorem dX5_octetAt_51 : decode cX5_octetAt 51 = .ok (.idiv, 1) := by decide +kernel
theorem dX5_octetAt_52 : decode cX5_octetAt 52 = .ok (.invokevirtual 48, 3) := by decide +kernel
theorem dX5_octetAt_55 : decode cX5_octetAt 55 = .ok (.istore 4, 2) := by decide +kernel
theorem dX5_octetAt_57 : decode cX5_octetAt 57 = .ok (.aload_n 0, 1) := by decide +kernel
theorem dX5_octetAt_58 : decode cX5_octetAt 58 = .ok (.iload_n 1, 1) := by decide +kernel
theorem dX5_octetAt_59 : decode cX5_octetAt 59 = .ok (.iload_n 3, 1) := by decide +kernel
theorem dX5_octetAt_60 : decode cX5_octetAt 60 = .ok (.bipush 7, 2) := by decide +kernel
theorem dX5_octetAt_62 : decode cX5_octetAt 62 = .ok (.idiv, 1) := by decide +kernel
theorem dX5_octetAt_63 : decode cX5_octetAt 63 = .ok (.iconst 1, 1) := by decide +kernel
theorem dX5_octetAt_64 : decode cX5_octetAt 64 = .ok (.iadd, 1) := by decide +kernel
theorem dX5_octetAt_65 : decode cX5_octetAt 65 = .ok (.invokevirtual 48, 3) := by decide +kernel
theorem dX5_octetAt_68 : decode cX5_octetAt 68 = .ok (.istore 5, 2) := by decide +kernel
theorem dX5_octetAt_70 : decode cX5_octetAt 70 = .ok (.iload 4, 2) := by decide +kernel
theorem dX5_octetAt_72 : decode cX5_octetAt 72 = .ok (.iload 5, 2) := by decide +kernel
theorem dX5_octetAt_74 : decode cX5_octetAt 74 = .ok (.bipush 7, 2) := by decide +kernel
theorem dX5_octetAt_76 : decode cX5_octetAt 76 = .ok (.ishl, 1) := by decide +kernel
theorem dX5_octetAt_77 : decode cX5_octetAt 77 = .ok (.ior, 1) := by decide +kernel
theorem dX5_octetAt_78 : decode cX5_octetAt 78 = .ok (.iload_n 3, 1) := by decide +kernel
theorem dX5_octetAt_79 : decode cX5_octetAt 79 = .ok (.bipush 7, 2) := by decide +kernel
theorem dX5_octetAt_81 : decode cX5_octetAt 81 = .ok (.irem, 1) := by decide +kernel
theorem dX5_octetAt_82 : decode cX5_octetAt 82 = .ok (.ishr, 1) := by decide +kernel
theorem dX5_octetAt_83 : decode cX5_octetAt 83 = .ok (.sipush 255, 3) := by decide +kernel
theorem dX5_octetAt_86 : decode cX5_octetAt 86 = .ok (.iand, 1) := by decide +kernel
theorem dX5_octetAt_87 : decode cX5_octetAt 87 = .ok (.ireturn, 1) := by decide +kernel
theorem dX5_copyOfSigns_0 : decode cX5_copyOfSigns 0 = .ok (.aload_n 0, 1) := by decide +kernel
theorem dX5_copyOfSigns_1 : decode cX5_copyOfSigns 1 = .ok (.getfield 9, 3) := by decide +kernel
theorem dX5_copyOfSigns_4 : decode cX5_copyOfSigns 4 = .ok (.aload_n 0, 1) := by decide +kernel
theorem dX5_copyOfSigns_5 : decode cX5_copyOfSigns 5 = .ok (.getfield 15, 3) := by decide +kernel
theorem dX5_copyOfSigns_8 : decode cX5_copyOfSigns 8 = .ok (.invokestatic 52, 3) := by decide +kernel
theorem dX5_copyOfSigns_11 : decode cX5_copyOfSigns 11 = .ok (.areturn, 1) := by decide +kernel
theorem dX5_copyOfStarts_0 : decode cX5_copyOfStarts 0 = .ok (.aload_n 0, 1) := by decide +kernel
theorem dX5_copyOfStarts_1 : decode cX5_copyOfStarts 1 = .ok (.getfield 26, 3) := by decide +kernel
theorem dX5_copyOfStarts_4 : decode cX5_copyOfStarts 4 = .ok (.aload_n 0, 1) := by decide +kernel
theorem dX5_copyOfStarts_5 : decode cX5_copyOfStarts 5 = .ok (.getfield 29, 3) := by decide +kernel
theorem dX5_copyOfStarts_8 : decode cX5_copyOfStarts 8 = .ok (.iconst 1, 1) := by decide +kernel
theorem dX5_copyOfStarts_9 : decode cX5_copyOfStarts 9 = .ok (.iadd, 1) := by decide +kernel
theorem dX5_copyOfStarts_10 : decode cX5_copyOfStarts 10 = .ok (.invokestatic 52, 3) := by decide +kernel
theorem dX5_copyOfStarts_13 : decode cX5_copyOfStarts 13 = .ok (.areturn, 1) := by decide +kernel
theorem dX5_signAt_0 : decode cX5_signAt 0 = .ok (.iload_n 1, 1) := by decide +kernel
theorem dX5_signAt_1 : decode cX5_signAt 1 = .ok (.ifCond .lt 29, 3) := by decide +kernel
theorem dX5_signAt_4 : decode cX5_signAt 4 = .ok (.iload_n 1, 1) := by decide +kernel
theorem dX5_signAt_5 : decode cX5_signAt 5 = .ok (.aload_n 0, 1) := by decide +kernel
theorem dX5_signAt_6 : decode cX5_signAt 6 = .ok (.getfield 15, 3) := by decide +kernel
theorem dX5_signAt_9 : decode cX5_signAt 9 = .ok (.if_icmp .ge 21, 3) := by decide +kernel
theorem dX5_signAt_12 : decode cX5_signAt 12 = .ok (.iload_n 1, 1) := by decide +kernel
theorem dX5_signAt_13 : decode cX5_signAt 13 = .ok (.aload_n 0, 1) := by decide +kernel
theorem dX5_signAt_14 : decode cX5_signAt 14 = .ok (.getfield 9, 3) := by decide +kernel
theorem dX5_signAt_17 : decode cX5_signAt 17 = .ok (.arraylength, 1) := by decide +kernel
theorem dX5_signAt_18 : decode cX5_signAt 18 = .ok (.if_icmp .ge 12, 3) := by decide +kernel
theorem dX5_signAt_21 : decode cX5_signAt 21 = .ok (.aload_n 0, 1) := by decide +kernel
theorem dX5_signAt_22 : decode cX5_signAt 22 = .ok (.getfield 9, 3) := by decide +kernel
theorem dX5_signAt_25 : decode cX5_signAt 25 = .ok (.iload_n 1, 1) := by decide +kernel
theorem dX5_signAt_26 : decode cX5_signAt 26 = .ok (.iaload, 1) := by decide +kernel
theorem dX5_signAt_27 : decode cX5_signAt 27 = .ok (.goto 4, 3) := by decide +kernel
theorem dX5_signAt_30 : decode cX5_signAt 30 = .ok (.iconst 0, 1) := by decide +kernel
theorem dX5_signAt_31 : decode cX5_signAt 31 = .ok (.ireturn, 1) := by decide +kernel
theorem dX5_cut_0 : decode cX5_cut 0 = .ok (.aload_n 0, 1) := by decide +kernel
theorem dX5_cut_1 : decode cX5_cut 1 = .ok (.invokevirtual 58, 3) := by decide +kernel
theorem dX5_cut_4 : decode cX5_cut 4 = .ok (.istore_n 1, 1) := by decide +kernel
theorem dX5_cut_5 : decode cX5_cut 5 = .ok (.iconst 0, 1) := by decide +kernel
theorem dX5_cut_6 : decode cX5_cut 6 = .ok (.istore_n 2, 1) := by decide +kernel
theorem dX5_cut_7 : decode cX5_cut 7 = .ok (.aload_n 0, 1) := by decide +kernel
theorem dX5_cut_8 : decode cX5_cut 8 = .ok (.iconst 1, 1) := by decide +kernel
theorem dX5_cut_9 : decode cX5_cut 9 = .ok (.putfield 29, 3) := by decide +kernel
theorem dX5_cut_12 : decode cX5_cut 12 = .ok (.aload_n 0, 1) := by decide +kernel
theorem dX5_cut_13 : decode cX5_cut 13 = .ok (.getfield 26, 3) := by decide +kernel
theorem dX5_cut_16 : decode cX5_cut 16 = .ok (.iconst 0, 1) := by decide +kernel
theorem dX5_cut_17 : decode cX5_cut 17 = .ok (.iconst 0, 1) := by decide +kernel
theorem dX5_cut_18 : decode cX5_cut 18 = .ok (.iastore, 1) := by decide +kernel
theorem dX5_cut_19 : decode cX5_cut 19 = .ok (.iconst 0, 1) := by decide +kernel
theorem dX5_cut_20 : decode cX5_cut 20 = .ok (.istore_n 3, 1) := by decide +kernel
theorem dX5_cut_21 : decode cX5_cut 21 = .ok (.iload_n 3, 1) := by decide +kernel
theorem dX5_cut_22 : decode cX5_cut 22 = .ok (.aload_n 0, 1) := by decide +kernel
theorem dX5_cut_23 : decode cX5_cut 23 = .ok (.getfield 15, 3) := by decide +kernel
theorem dX5_cut_26 : decode cX5_cut 26 = .ok (.if_icmp .ge 74, 3) := by decide +kernel
theorem dX5_cut_29 : decode cX5_cut 29 = .ok (.aload_n 0, 1) := by decide +kernel
theorem dX5_cut_30 : decode cX5_cut 30 = .ok (.getfield 22, 3) := by decide +kernel
theorem dX5_cut_33 : decode cX5_cut 33 = .ok (.ifCond .eq 7, 3) := by decide +kernel
theorem dX5_cut_36 : decode cX5_cut 36 = .ok (.iconst 1, 1) := by decide +kernel
theorem dX5_cut_37 : decode cX5_cut 37 = .ok (.goto 11, 3) := by decide +kernel
theorem dX5_cut_40 : decode cX5_cut 40 = .ok (.aload_n 0, 1) := by decide +kernel
theorem dX5_cut_41 : decode cX5_cut 41 = .ok (.iload_n 3, 1) := by decide +kernel
theorem dX5_cut_42 : decode cX5_cut 42 = .ok (.invokevirtual 45, 3) := by decide +kernel
theorem dX5_cut_45 : decode cX5_cut 45 = .ok (.invokestatic 32, 3) := by decide +kernel
theorem dX5_cut_48 : decode cX5_cut 48 = .ok (.istore 4, 2) := by decide +kernel
theorem dX5_cut_50 : decode cX5_cut 50 = .ok (.iload_n 2, 1) := by decide +kernel
theorem dX5_cut_51 : decode cX5_cut 51 = .ok (.iload 4, 2) := by decide +kernel
theorem dX5_cut_53 : decode cX5_cut 53 = .ok (.iadd, 1) := by decide +kernel
theorem dX5_cut_54 : decode cX5_cut 54 = .ok (.iload_n 1, 1) := by decide +kernel
theorem dX5_cut_55 : decode cX5_cut 55 = .ok (.if_icmp .le 34, 3) := by decide +kernel
theorem dX5_cut_58 : decode cX5_cut 58 = .ok (.aload_n 0, 1) := by decide +kernel
theorem dX5_cut_59 : decode cX5_cut 59 = .ok (.getfield 29, 3) := by decide +kernel
theorem dX5_cut_62 : decode cX5_cut 62 = .ok (.bipush 6, 2) := by decide +kernel
theorem dX5_cut_64 : decode cX5_cut 64 = .ok (.if_icmp .ge 25, 3) := by decide +kernel
theorem dX5_cut_67 : decode cX5_cut 67 = .ok (.aload_n 0, 1) := by decide +kernel
theorem dX5_cut_68 : decode cX5_cut 68 = .ok (.getfield 26, 3) := by decide +kernel
theorem dX5_cut_71 : decode cX5_cut 71 = .ok (.aload_n 0, 1) := by decide +kernel
theorem dX5_cut_72 : decode cX5_cut 72 = .ok (.getfield 29, 3) := by decide +kernel
theorem dX5_cut_75 : decode cX5_cut 75 = .ok (.iload_n 3, 1) := by decide +kernel
theorem dX5_cut_76 : decode cX5_cut 76 = .ok (.iastore, 1) := by decide +kernel
theorem dX5_cut_77 : decode cX5_cut 77 = .ok (.aload_n 0, 1) := by decide +kernel
theorem dX5_cut_78 : decode cX5_cut 78 = .ok (.dup, 1) := by decide +kernel
theorem dX5_cut_79 : decode cX5_cut 79 = .ok (.getfield 29, 3) := by decide +kernel
theorem dX5_cut_82 : decode cX5_cut 82 = .ok (.iconst 1, 1) := by decide +kernel
theorem dX5_cut_83 : decode cX5_cut 83 = .ok (.iadd, 1) := by decide +kernel
theorem dX5_cut_84 : decode cX5_cut 84 = .ok (.putfield 29, 3) := by decide +kernel
theorem dX5_cut_87 : decode cX5_cut 87 = .ok (.iconst 0, 1) := by decide +kernel
theorem dX5_cut_88 : decode cX5_cut 88 = .ok (.istore_n 2, 1) := by decide +kernel
theorem dX5_cut_89 : decode cX5_cut 89 = .ok (.iload_n 2, 1) := by decide +kernel
theorem dX5_cut_90 : decode cX5_cut 90 = .ok (.iload 4, 2) := by decide +kernel
theorem dX5_cut_92 : decode cX5_cut 92 = .ok (.iadd, 1) := by decide +kernel
theorem dX5_cut_93 : decode cX5_cut 93 = .ok (.istore_n 2, 1) := by decide +kernel
theorem dX5_cut_94 : decode cX5_cut 94 = .ok (.iinc 3 1, 3) := by decide +kernel
theorem dX5_cut_97 : decode cX5_cut 97 = .ok (.goto (-76), 3) := by decide +kernel
theorem dX5_cut_100 : decode cX5_cut 100 = .ok (.aload_n 0, 1) := by decide +kernel
theorem dX5_cut_101 : decode cX5_cut 101 = .ok (.getfield 26, 3) := by decide +kernel
theorem dX5_cut_104 : decode cX5_cut 104 = .ok (.aload_n 0, 1) := by decide +kernel
theorem dX5_cut_105 : decode cX5_cut 105 = .ok (.getfield 29, 3) := by decide +kernel
theorem dX5_cut_108 : decode cX5_cut 108 = .ok (.aload_n 0, 1) := by decide +kernel
theorem dX5_cut_109 : decode cX5_cut 109 = .ok (.getfield 15, 3) := by decide +kernel
theorem dX5_cut_112 : decode cX5_cut 112 = .ok (.iastore, 1) := by decide +kernel
theorem dX5_cut_113 : decode cX5_cut 113 = .ok (.return_, 1) := by decide +kernel
theorem dX5_roomOfAPart_0 : decode cX5_roomOfAPart 0 = .ok (.aload_n 0, 1) := by decide +kernel
theorem dX5_roomOfAPart_1 : decode cX5_roomOfAPart 1 = .ok (.getfield 22, 3) := by decide +kernel
theorem dX5_roomOfAPart_4 : decode cX5_roomOfAPart 4 = .ok (.ifCond .eq 20, 3) := by decide +kernel
theorem dX5_roomOfAPart_7 : decode cX5_roomOfAPart 7 = .ok (.aload_n 0, 1) := by decide +kernel
theorem dX5_roomOfAPart_8 : decode cX5_roomOfAPart 8 = .ok (.getfield 15, 3) := by decide +kernel
theorem dX5_roomOfAPart_11 : decode cX5_roomOfAPart 11 = .ok (.bipush 70, 2) := by decide +kernel
theorem dX5_roomOfAPart_13 : decode cX5_roomOfAPart 13 = .ok (.if_icmp .gt 8, 3) := by decide +kernel
theorem dX5_roomOfAPart_16 : decode cX5_roomOfAPart 16 = .ok (.bipush 70, 2) := by decide +kernel
theorem dX5_roomOfAPart_18 : decode cX5_roomOfAPart 18 = .ok (.goto 5, 3) := by decide +kernel
theorem dX5_roomOfAPart_21 : decode cX5_roomOfAPart 21 = .ok (.bipush 67, 2) := by decide +kernel
theorem dX5_roomOfAPart_23 : decode cX5_roomOfAPart 23 = .ok (.ireturn, 1) := by decide +kernel
theorem dX5_roomOfAPart_24 : decode cX5_roomOfAPart 24 = .ok (.aload_n 0, 1) := by decide +kernel
theorem dX5_roomOfAPart_25 : decode cX5_roomOfAPart 25 = .ok (.getfield 19, 3) := by decide +kernel
theorem dX5_roomOfAPart_28 : decode cX5_roomOfAPart 28 = .ok (.sipush 160, 3) := by decide +kernel
theorem dX5_roomOfAPart_31 : decode cX5_roomOfAPart 31 = .ok (.if_icmp .gt 9, 3) := by decide +kernel
theorem dX5_roomOfAPart_34 : decode cX5_roomOfAPart 34 = .ok (.sipush 160, 3) := by decide +kernel
theorem dX5_roomOfAPart_37 : decode cX5_roomOfAPart 37 = .ok (.goto 6, 3) := by decide +kernel
theorem dX5_roomOfAPart_40 : decode cX5_roomOfAPart 40 = .ok (.sipush 153, 3) := by decide +kernel
theorem dX5_roomOfAPart_43 : decode cX5_roomOfAPart 43 = .ok (.ireturn, 1) := by decide +kernel
theorem dX5_septetsIn_0 : decode cX5_septetsIn 0 = .ok (.iconst 0, 1) := by decide +kernel
theorem dX5_septetsIn_1 : decode cX5_septetsIn 1 = .ok (.istore_n 2, 1) := by decide +kernel
theorem dX5_septetsIn_2 : decode cX5_septetsIn 2 = .ok (.aload_n 0, 1) := by decide +kernel
theorem dX5_septetsIn_3 : decode cX5_septetsIn 3 = .ok (.iload_n 1, 1) := by decide +kernel
theorem dX5_septetsIn_4 : decode cX5_septetsIn 4 = .ok (.iconst 1, 1) := by decide +kernel
theorem dX5_septetsIn_5 : decode cX5_septetsIn 5 = .ok (.iadd, 1) := by decide +kernel
theorem dX5_septetsIn_6 : decode cX5_septetsIn 6 = .ok (.invokevirtual 39, 3) := by decide +kernel
theorem dX5_septetsIn_9 : decode cX5_septetsIn 9 = .ok (.istore_n 3, 1) := by decide +kernel
theorem dX5_septetsIn_10 : decode cX5_septetsIn 10 = .ok (.aload_n 0, 1) := by decide +kernel
theorem dX5_septetsIn_11 : decode cX5_septetsIn 11 = .ok (.iload_n 1, 1) := by decide +kernel
theorem dX5_septetsIn_12 : decode cX5_septetsIn 12 = .ok (.invokevirtual 39, 3) := by decide +kernel
theorem dX5_septetsIn_15 : decode cX5_septetsIn 15 = .ok (.istore 4, 2) := by decide +kernel
theorem dX5_septetsIn_17 : decode cX5_septetsIn 17 = .ok (.iload 4, 2) := by decide +kernel
theorem dX5_septetsIn_19 : decode cX5_septetsIn 19 = .ok (.iload_n 3, 1) := by decide +kernel
theorem dX5_septetsIn_20 : decode cX5_septetsIn 20 = .ok (.if_icmp .ge 21, 3) := by decide +kernel
theorem dX5_septetsIn_23 : decode cX5_septetsIn 23 = .ok (.iload_n 2, 1) := by decide +kernel
theorem dX5_septetsIn_24 : decode cX5_septetsIn 24 = .ok (.aload_n 0, 1) := by decide +kernel
theorem dX5_septetsIn_25 : decode cX5_septetsIn 25 = .ok (.iload 4, 2) := by decide +kernel
theorem dX5_septetsIn_27 : decode cX5_septetsIn 27 = .ok (.invokevirtual 45, 3) := by decide +kernel
theorem dX5_septetsIn_30 : decode cX5_septetsIn 30 = .ok (.invokestatic 32, 3) := by decide +kernel
theorem dX5_septetsIn_33 : decode cX5_septetsIn 33 = .ok (.iadd, 1) := by decide +kernel
theorem dX5_septetsIn_34 : decode cX5_septetsIn 34 = .ok (.istore_n 2, 1) := by decide +kernel
theorem dX5_septetsIn_35 : decode cX5_septetsIn 35 = .ok (.iinc 4 1, 3) := by decide +kernel
theorem dX5_septetsIn_38 : decode cX5_septetsIn 38 = .ok (.goto (-21), 3) := by decide +kernel
theorem dX5_septetsIn_41 : decode cX5_septetsIn 41 = .ok (.iload_n 2, 1) := by decide +kernel
theorem dX5_septetsIn_42 : decode cX5_septetsIn 42 = .ok (.ireturn, 1) := by decide +kernel
theorem dX5_septetAt_0 : decode cX5_septetAt 0 = .ok (.iconst 0, 1) := by decide +kernel
theorem dX5_septetAt_1 : decode cX5_septetAt 1 = .ok (.istore_n 3, 1) := by decide +kernel
theorem dX5_septetAt_2 : decode cX5_septetAt 2 = .ok (.aload_n 0, 1) := by decide +kernel
theorem dX5_septetAt_3 : decode cX5_septetAt 3 = .ok (.iload_n 1, 1) := by decide +kernel
theorem dX5_septetAt_4 : decode cX5_septetAt 4 = .ok (.iconst 1, 1) := by decide +kernel
theorem dX5_septetAt_5 : decode cX5_septetAt 5 = .ok (.iadd, 1) := by decide +kernel
theorem dX5_septetAt_6 : decode cX5_septetAt 6 = .ok (.invokevirtual 39, 3) := by decide +kernel
theorem dX5_septetAt_9 : decode cX5_septetAt 9 = .ok (.istore 4, 2) := by decide +kernel
theorem dX5_septetAt_11 : decode cX5_septetAt 11 = .ok (.aload_n 0, 1) := by decide +kernel
theorem dX5_septetAt_12 : decode cX5_septetAt 12 = .ok (.iload_n 1, 1) := by decide +kernel
theorem dX5_septetAt_13 : decode cX5_septetAt 13 = .ok (.invokevirtual 39, 3) := by decide +kernel
theorem dX5_septetAt_16 : decode cX5_septetAt 16 = .ok (.istore 5, 2) := by decide +kernel
theorem dX5_septetAt_18 : decode cX5_septetAt 18 = .ok (.iload 5, 2) := by decide +kernel
theorem dX5_septetAt_20 : decode cX5_septetAt 20 = .ok (.iload 4, 2) := by decide +kernel
theorem dX5_septetAt_22 : decode cX5_septetAt 22 = .ok (.if_icmp .ge 46, 3) := by decide +kernel
theorem dX5_septetAt_25 : decode cX5_septetAt 25 = .ok (.aload_n 0, 1) := by decide +kernel
theorem dX5_septetAt_26 : decode cX5_septetAt 26 = .ok (.iload 5, 2) := by decide +kernel
theorem dX5_septetAt_28 : decode cX5_septetAt 28 = .ok (.invokevirtual 45, 3) := by decide +kernel
theorem dX5_septetAt_31 : decode cX5_septetAt 31 = .ok (.istore 6, 2) := by decide +kernel
theorem dX5_septetAt_33 : decode cX5_septetAt 33 = .ok (.iload 6, 2) := by decide +kernel
theorem dX5_septetAt_35 : decode cX5_septetAt 35 = .ok (.invokestatic 32, 3) := by decide +kernel
theorem dX5_septetAt_38 : decode cX5_septetAt 38 = .ok (.istore 7, 2) := by decide +kernel
theorem dX5_septetAt_40 : decode cX5_septetAt 40 = .ok (.iload_n 2, 1) := by decide +kernel
theorem dX5_septetAt_41 : decode cX5_septetAt 41 = .ok (.iload_n 3, 1) := by decide +kernel
theorem dX5_septetAt_42 : decode cX5_septetAt 42 = .ok (.iload 7, 2) := by decide +kernel
theorem dX5_septetAt_44 : decode cX5_septetAt 44 = .ok (.iadd, 1) := by decide +kernel
theorem dX5_septetAt_45 : decode cX5_septetAt 45 = .ok (.if_icmp .ge 12, 3) := by decide +kernel
theorem dX5_septetAt_48 : decode cX5_septetAt 48 = .ok (.iload 6, 2) := by decide +kernel
theorem dX5_septetAt_50 : decode cX5_septetAt 50 = .ok (.iload_n 2, 1) := by decide +kernel
theorem dX5_septetAt_51 : decode cX5_septetAt 51 = .ok (.iload_n 3, 1) := by decide +kernel
theorem dX5_septetAt_52 : decode cX5_septetAt 52 = .ok (.isub, 1) := by decide +kernel
theorem dX5_septetAt_53 : decode cX5_septetAt 53 = .ok (.invokestatic 62, 3) := by decide +kernel
theorem dX5_septetAt_56 : decode cX5_septetAt 56 = .ok (.ireturn, 1) := by decide +kernel
theorem dX5_septetAt_57 : decode cX5_septetAt 57 = .ok (.iload_n 3, 1) := by decide +kernel
theorem dX5_septetAt_58 : decode cX5_septetAt 58 = .ok (.iload 7, 2) := by decide +kernel
theorem dX5_septetAt_60 : decode cX5_septetAt 60 = .ok (.iadd, 1) := by decide +kernel
theorem dX5_septetAt_61 : decode cX5_septetAt 61 = .ok (.istore_n 3, 1) := by decide +kernel
theorem dX5_septetAt_62 : decode cX5_septetAt 62 = .ok (.iinc 5 1, 3) := by decide +kernel
theorem dX5_septetAt_65 : decode cX5_septetAt 65 = .ok (.goto (-47), 3) := by decide +kernel
theorem dX5_septetAt_68 : decode cX5_septetAt 68 = .ok (.iconst 0, 1) := by decide +kernel
theorem dX5_septetAt_69 : decode cX5_septetAt 69 = .ok (.ireturn, 1) := by decide +kernel
theorem dX5_septetsOf_0 : decode cX5_septetsOf 0 = .ok (.iload_n 0, 1) := by decide +kernel
theorem dX5_septetsOf_1 : decode cX5_septetsOf 1 = .ok (.sipush 128, 3) := by decide +kernel
theorem dX5_septetsOf_4 : decode cX5_septetsOf 4 = .ok (.if_icmp .ge 7, 3) := by decide +kernel
theorem dX5_septetsOf_7 : decode cX5_septetsOf 7 = .ok (.iconst 1, 1) := by decide +kernel
theorem dX5_septetsOf_8 : decode cX5_septetsOf 8 = .ok (.goto 4, 3) := by decide +kernel
theorem dX5_septetsOf_11 : decode cX5_septetsOf 11 = .ok (.iconst 2, 1) := by decide +kernel
theorem dX5_septetsOf_12 : decode cX5_septetsOf 12 = .ok (.ireturn, 1) := by decide +kernel
theorem dX5_septetOf_0 : decode cX5_septetOf 0 = .ok (.iload_n 0, 1) := by decide +kernel
theorem dX5_septetOf_1 : decode cX5_septetOf 1 = .ok (.sipush 128, 3) := by decide +kernel
theorem dX5_septetOf_4 : decode cX5_septetOf 4 = .ok (.if_icmp .ge 5, 3) := by decide +kernel
theorem dX5_septetOf_7 : decode cX5_septetOf 7 = .ok (.iload_n 0, 1) := by decide +kernel
theorem dX5_septetOf_8 : decode cX5_septetOf 8 = .ok (.ireturn, 1) := by decide +kernel
theorem dX5_septetOf_9 : decode cX5_septetOf 9 = .ok (.iload_n 1, 1) := by decide +kernel
theorem dX5_septetOf_10 : decode cX5_septetOf 10 = .ok (.ifCond .ne 8, 3) := by decide +kernel
theorem dX5_septetOf_13 : decode cX5_septetOf 13 = .ok (.bipush 27, 2) := by decide +kernel
theorem dX5_septetOf_15 : decode cX5_septetOf 15 = .ok (.goto 8, 3) := by decide +kernel
theorem dX5_septetOf_18 : decode cX5_septetOf 18 = .ok (.iload_n 0, 1) := by decide +kernel
theorem dX5_septetOf_19 : decode cX5_septetOf 19 = .ok (.sipush 128, 3) := by decide +kernel
theorem dX5_septetOf_22 : decode cX5_septetOf 22 = .ok (.isub, 1) := by decide +kernel
theorem dX5_septetOf_23 : decode cX5_septetOf 23 = .ok (.ireturn, 1) := by decide +kernel
theorem dX6_init_0 : decode cX6_init 0 = .ok (.aload_n 0, 1) := by decide +kernel
theorem dX6_init_1 : decode cX6_init 1 = .ok (.invokespecial 1, 3) := by decide +kernel
theorem dX6_init_4 : decode cX6_init 4 = .ok (.aload_n 0, 1) := by decide +kernel
theorem dX6_init_5 : decode cX6_init 5 = .ok (.new 7, 3) := by decide +kernel
theorem dX6_init_8 : decode cX6_init 8 = .ok (.dup, 1) := by decide +kernel
theorem dX6_init_9 : decode cX6_init 9 = .ok (.invokespecial 9, 3) := by decide +kernel
theorem dX6_init_12 : decode cX6_init 12 = .ok (.putfield 10, 3) := by decide +kernel
theorem dX6_init_15 : decode cX6_init 15 = .ok (.aload_n 0, 1) := by decide +kernel
theorem dX6_init_16 : decode cX6_init 16 = .ok (.bipush 20, 2) := by decide +kernel
theorem dX6_init_18 : decode cX6_init 18 = .ok (.anewarray 16, 3) := by decide +kernel
theorem dX6_init_21 : decode cX6_init 21 = .ok (.putfield 18, 3) := by decide +kernel
theorem dX6_init_24 : decode cX6_init 24 = .ok (.aload_n 0, 1) := by decide +kernel
theorem dX6_init_25 : decode cX6_init 25 = .ok (.iconst 0, 1) := by decide +kernel
theorem dX6_init_26 : decode cX6_init 26 = .ok (.putfield 22, 3) := by decide +kernel
theorem dX6_init_29 : decode cX6_init 29 = .ok (.aload_n 0, 1) := by decide +kernel
theorem dX6_init_30 : decode cX6_init 30 = .ok (.bipush 20, 2) := by decide +kernel
theorem dX6_init_32 : decode cX6_init 32 = .ok (.newarray .int, 2) := by decide +kernel
theorem dX6_init_34 : decode cX6_init 34 = .ok (.putfield 26, 3) := by decide +kernel
theorem dX6_init_37 : decode cX6_init 37 = .ok (.aload_n 0, 1) := by decide +kernel
theorem dX6_init_38 : decode cX6_init 38 = .ok (.iconst 0, 1) := by decide +kernel
theorem dX6_init_39 : decode cX6_init 39 = .ok (.putfield 30, 3) := by decide +kernel
theorem dX6_init_42 : decode cX6_init 42 = .ok (.aload_n 0, 1) := by decide +kernel
theorem dX6_init_43 : decode cX6_init 43 = .ok (.iconst 3, 1) := by decide +kernel
theorem dX6_init_44 : decode cX6_init 44 = .ok (.anewarray 33, 3) := by decide +kernel
theorem dX6_init_47 : decode cX6_init 47 = .ok (.putfield 35, 3) := by decide +kernel
theorem dX6_init_50 : decode cX6_init 50 = .ok (.aload_n 0, 1) := by decide +kernel
theorem dX6_init_51 : decode cX6_init 51 = .ok (.new 39, 3) := by decide +kernel
theorem dX6_init_54 : decode cX6_init 54 = .ok (.dup, 1) := by decide +kernel
theorem dX6_init_55 : decode cX6_init 55 = .ok (.invokespecial 41, 3) := by decide +kernel
theorem dX6_init_58 : decode cX6_init 58 = .ok (.putfield 42, 3) := by decide +kernel
theorem dX6_init_61 : decode cX6_init 61 = .ok (.aload_n 0, 1) := by decide +kernel
theorem dX6_init_62 : decode cX6_init 62 = .ok (.iconst 0, 1) := by decide +kernel
theorem dX6_init_63 : decode cX6_init 63 = .ok (.putfield 46, 3) := by decide +kernel
theorem dX6_init_66 : decode cX6_init 66 = .ok (.iconst 0, 1) := by decide +kernel
theorem dX6_init_67 : decode cX6_init 67 = .ok (.istore_n 1, 1) := by decide +kernel
theorem dX6_init_68 : decode cX6_init 68 = .ok (.iload_n 1, 1) := by decide +kernel
theorem dX6_init_69 : decode cX6_init 69 = .ok (.aload_n 0, 1) := by decide +kernel
theorem dX6_init_70 : decode cX6_init 70 = .ok (.getfield 35, 3) := by decide +kernel
theorem dX6_init_73 : decode cX6_init 73 = .ok (.arraylength, 1) := by decide +kernel
theorem dX6_init_74 : decode cX6_init 74 = .ok (.if_icmp .ge 22, 3) := by decide +kernel
theorem dX6_init_77 : decode cX6_init 77 = .ok (.aload_n 0, 1) := by decide +kernel
theorem dX6_init_78 : decode cX6_init 78 = .ok (.getfield 35, 3) := by decide +kernel
theorem dX6_init_81 : decode cX6_init 81 = .ok (.iload_n 1, 1) := by decide +kernel
theorem dX6_init_82 : decode cX6_init 82 = .ok (.new 33, 3) := by decide +kernel
theorem dX6_init_85 : decode cX6_init 85 = .ok (.dup, 1) := by decide +kernel
theorem dX6_init_86 : decode cX6_init 86 = .ok (.invokespecial 49, 3) := by decide +kernel
theorem dX6_init_89 : decode cX6_init 89 = .ok (.aastore, 1) := by decide +kernel
theorem dX6_init_90 : decode cX6_init 90 = .ok (.iinc 1 1, 3) := by decide +kernel
theorem dX6_init_93 : decode cX6_init 93 = .ok (.goto (-25), 3) := by decide +kernel
theorem dX6_init_96 : decode cX6_init 96 = .ok (.return_, 1) := by decide +kernel
theorem dX6_write_0 : decode cX6_write 0 = .ok (.iload_n 1, 1) := by decide +kernel
theorem dX6_write_1 : decode cX6_write 1 = .ok (.ifCond .lt 22, 3) := by decide +kernel
theorem dX6_write_4 : decode cX6_write 4 = .ok (.iload_n 1, 1) := by decide +kernel
theorem dX6_write_5 : decode cX6_write 5 = .ok (.sipush 999, 3) := by decide +kernel
theorem dX6_write_8 : decode cX6_write 8 = .ok (.if_icmp .gt 15, 3) := by decide +kernel
theorem dX6_write_11 : decode cX6_write 11 = .ok (.iload_n 2, 1) := by decide +kernel
theorem dX6_write_12 : decode cX6_write 12 = .ok (.iconst 1, 1) := by decide +kernel
theorem dX6_write_13 : decode cX6_write 13 = .ok (.if_icmp .lt 10, 3) := by decide +kernel
theorem dX6_write_16 : decode cX6_write 16 = .ok (.iload_n 2, 1) := by decide +kernel
theorem dX6_write_17 : decode cX6_write 17 = .ok (.sipush 200, 3) := by decide +kernel
theorem dX6_write_20 : decode cX6_write 20 = .ok (.if_icmp .le 13, 3) := by decide +kernel
theorem dX6_write_23 : decode cX6_write 23 = .ok (.new 50, 3) := by decide +kernel
theorem dX6_write_26 : decode cX6_write 26 = .ok (.dup, 1) := by decide +kernel
theorem dX6_write_27 : decode cX6_write 27 = .ok (.ldc 52, 2) := by decide +kernel
theorem dX6_write_29 : decode cX6_write 29 = .ok (.invokespecial 54, 3) := by decide +kernel
theorem dX6_write_32 : decode cX6_write 32 = .ok (.athrow, 1) := by decide +kernel
theorem dX6_write_33 : decode cX6_write 33 = .ok (.aload_n 0, 1) := by decide +kernel
theorem dX6_write_34 : decode cX6_write 34 = .ok (.getfield 10, 3) := by decide +kernel
theorem dX6_write_37 : decode cX6_write 37 = .ok (.getfield 57, 3) := by decide +kernel
theorem dX6_write_40 : decode cX6_write 40 = .ok (.iload_n 2, 1) := by decide +kernel
theorem dX6_write_41 : decode cX6_write 41 = .ok (.iadd, 1) := by decide +kernel
theorem dX6_write_42 : decode cX6_write 42 = .ok (.sipush 400, 3) := by decide +kernel
theorem dX6_write_45 : decode cX6_write 45 = .ok (.if_icmp .le 13, 3) := by decide +kernel
theorem dX6_write_48 : decode cX6_write 48 = .ok (.new 60, 3) := by decide +kernel
theorem dX6_write_51 : decode cX6_write 51 = .ok (.dup, 1) := by decide +kernel
theorem dX6_write_52 : decode cX6_write 52 = .ok (.ldc 62, 2) := by decide +kernel
theorem dX6_write_54 : decode cX6_write 54 = .ok (.invokespecial 64, 3) := by decide +kernel
theorem dX6_write_57 : decode cX6_write 57 = .ok (.athrow, 1) := by decide +kernel
theorem dX6_write_58 : decode cX6_write 58 = .ok (.aload_n 0, 1) := by decide +kernel
theorem dX6_write_59 : decode cX6_write 59 = .ok (.getfield 10, 3) := by decide +kernel
theorem dX6_write_62 : decode cX6_write 62 = .ok (.iload_n 1, 1) := by decide +kernel
theorem dX6_write_63 : decode cX6_write 63 = .ok (.iload_n 2, 1) := by decide +kernel
theorem dX6_write_64 : decode cX6_write 64 = .ok (.invokevirtual 65, 3) := by decide +kernel
theorem dX6_write_67 : decode cX6_write 67 = .ok (.aload_n 0, 1) := by decide +kernel
theorem dX6_write_68 : decode cX6_write 68 = .ok (.getfield 10, 3) := by decide +kernel
theorem dX6_write_71 : decode cX6_write 71 = .ok (.getfield 57, 3) := by decide +kernel
theorem dX6_write_74 : decode cX6_write 74 = .ok (.ireturn, 1) := by decide +kernel
theorem dX6_erase_0 : decode cX6_erase 0 = .ok (.aload_n 0, 1) := by decide +kernel
theorem dX6_erase_1 : decode cX6_erase 1 = .ok (.getfield 10, 3) := by decide +kernel
theorem dX6_erase_4 : decode cX6_erase 4 = .ok (.getfield 57, 3) := by decide +kernel
theorem dX6_erase_7 : decode cX6_erase 7 = .ok (.istore_n 1, 1) := by decide +kernel
theorem dX6_erase_8 : decode cX6_erase 8 = .ok (.aload_n 0, 1) := by decide +kernel
theorem dX6_erase_9 : decode cX6_erase 9 = .ok (.getfield 10, 3) := by decide +kernel
theorem dX6_erase_12 : decode cX6_erase 12 = .ok (.invokevirtual 69, 3) := by decide +kernel
theorem dX6_erase_15 : decode cX6_erase 15 = .ok (.iload_n 1, 1) := by decide +kernel
theorem dX6_erase_16 : decode cX6_erase 16 = .ok (.ireturn, 1) := by decide +kernel
theorem dX6_isWide_0 : decode cX6_isWide 0 = .ok (.aload_n 0, 1) := by decide +kernel
theorem dX6_isWide_1 : decode cX6_isWide 1 = .ok (.getfield 10, 3) := by decide +kernel
theorem dX6_isWide_4 : decode cX6_isWide 4 = .ok (.getfield 72, 3) := by decide +kernel
theorem dX6_isWide_7 : decode cX6_isWide 7 = .ok (.ireturn, 1) := by decide +kernel
theorem dX6_septets_0 : decode cX6_septets 0 = .ok (.aload_n 0, 1) := by decide +kernel
theorem dX6_septets_1 : decode cX6_septets 1 = .ok (.getfield 10, 3) := by decide +kernel
theorem dX6_septets_4 : decode cX6_septets 4 = .ok (.getfield 72, 3) := by decide +kernel
theorem dX6_septets_7 : decode cX6_septets 7 = .ok (.ifCond .eq 13, 3) := by decide +kernel
theorem dX6_septets_10 : decode cX6_septets 10 = .ok (.new 60, 3) := by decide +kernel
theorem dX6_septets_13 : decode cX6_septets 13 = .ok (.dup, 1) := by decide +kernel
theorem dX6_septets_14 : decode cX6_septets 14 = .ok (.ldc 76, 2) := by decide +kernel
theorem dX6_septets_16 : decode cX6_septets 16 = .ok (.invokespecial 64, 3) := by decide +kernel
theorem dX6_septets_19 : decode cX6_septets 19 = .ok (.athrow, 1) := by decide +kernel
theorem dX6_septets_20 : decode cX6_septets 20 = .ok (.aload_n 0, 1) := by decide +kernel
theorem dX6_septets_21 : decode cX6_septets 21 = .ok (.getfield 10, 3) := by decide +kernel
theorem dX6_septets_24 : decode cX6_septets 24 = .ok (.getfield 78, 3) := by decide +kernel
theorem dX6_septets_27 : decode cX6_septets 27 = .ok (.ireturn, 1) := by decide +kernel
theorem dX6_parts_0 : decode cX6_parts 0 = .ok (.aload_n 0, 1) := by decide +kernel
theorem dX6_parts_1 : decode cX6_parts 1 = .ok (.getfield 10, 3) := by decide +kernel
theorem dX6_parts_4 : decode cX6_parts 4 = .ok (.getfield 81, 3) := by decide +kernel
theorem dX6_parts_7 : decode cX6_parts 7 = .ok (.ireturn, 1) := by decide +kernel
theorem dX6_signs_0 : decode cX6_signs 0 = .ok (.aload_n 0, 1) := by decide +kernel
theorem dX6_signs_1 : decode cX6_signs 1 = .ok (.iload_n 1, 1) := by decide +kernel
theorem dX6_signs_2 : decode cX6_signs 2 = .ok (.invokevirtual 84, 3) := by decide +kernel
theorem dX6_signs_5 : decode cX6_signs 5 = .ok (.aload_n 0, 1) := by decide +kernel
theorem dX6_signs_6 : decode cX6_signs 6 = .ok (.getfield 10, 3) := by decide +kernel
theorem dX6_signs_9 : decode cX6_signs 9 = .ok (.iload_n 1, 1) := by decide +kernel
theorem dX6_signs_10 : decode cX6_signs 10 = .ok (.iconst 1, 1) := by decide +kernel
theorem dX6_signs_11 : decode cX6_signs 11 = .ok (.iadd, 1) := by decide +kernel
theorem dX6_signs_12 : decode cX6_signs 12 = .ok (.invokevirtual 88, 3) := by decide +kernel
theorem dX6_signs_15 : decode cX6_signs 15 = .ok (.aload_n 0, 1) := by decide +kernel
theorem dX6_signs_16 : decode cX6_signs 16 = .ok (.getfield 10, 3) := by decide +kernel
theorem dX6_signs_19 : decode cX6_signs 19 = .ok (.iload_n 1, 1) := by decide +kernel
theorem dX6_signs_20 : decode cX6_signs 20 = .ok (.invokevirtual 88, 3) := by decide +kernel
theorem dX6_signs_23 : decode cX6_signs 23 = .ok (.isub, 1) := by decide +kernel
theorem dX6_signs_24 : decode cX6_signs 24 = .ok (.ireturn, 1) := by decide +kernel
theorem dX6_octets_0 : decode cX6_octets 0 = .ok (.aload_n 0, 1) := by decide +kernel
theorem dX6_octets_1 : decode cX6_octets 1 = .ok (.iload_n 1, 1) := by decide +kernel
theorem dX6_octets_2 : decode cX6_octets 2 = .ok (.invokevirtual 84, 3) := by decide +kernel
theorem dX6_octets_5 : decode cX6_octets 5 = .ok (.aload_n 0, 1) := by decide +kernel
theorem dX6_octets_6 : decode cX6_octets 6 = .ok (.getfield 10, 3) := by decide +kernel
theorem dX6_octets_9 : decode cX6_octets 9 = .ok (.iload_n 1, 1) := by decide +kernel
theorem dX6_octets_10 : decode cX6_octets 10 = .ok (.invokevirtual 92, 3) := by decide +kernel
theorem dX6_octets_13 : decode cX6_octets 13 = .ok (.ireturn, 1) := by decide +kernel
theorem dX6_octet_0 : decode cX6_octet 0 = .ok (.aload_n 0, 1) := by decide +kernel
theorem dX6_octet_1 : decode cX6_octet 1 = .ok (.iload_n 1, 1) := by decide +kernel
theorem dX6_octet_2 : decode cX6_octet 2 = .ok (.invokevirtual 84, 3) := by decide +kernel
theorem dX6_octet_5 : decode cX6_octet 5 = .ok (.iload_n 2, 1) := by decide +kernel
theorem dX6_octet_6 : decode cX6_octet 6 = .ok (.ifCond .lt 15, 3) := by decide +kernel
theorem dX6_octet_9 : decode cX6_octet 9 = .ok (.iload_n 2, 1) := by decide +kernel
theorem dX6_octet_10 : decode cX6_octet 10 = .ok (.aload_n 0, 1) := by decide +kernel
theorem dX6_octet_11 : decode cX6_octet 11 = .ok (.getfield 10, 3) := by decide +kernel
theorem dX6_octet_14 : decode cX6_octet 14 = .ok (.iload_n 1, 1) := by decide +kernel
theorem dX6_octet_15 : decode cX6_octet 15 = .ok (.invokevirtual 92, 3) := by decide +kernel
theorem dX6_octet_18 : decode cX6_octet 18 = .ok (.if_icmp .lt 13, 3) := by decide +kernel
theorem dX6_octet_21 : decode cX6_octet 21 = .ok (.new 95, 3) := by decide +kernel
theorem dX6_octet_24 : decode cX6_octet 24 = .ok (.dup, 1) := by decide +kernel
theorem dX6_octet_25 : decode cX6_octet 25 = .ok (.ldc 97, 2) := by decide +kernel
theorem dX6_octet_27 : decode cX6_octet 27 = .ok (.invokespecial 99, 3) := by decide +kernel
theorem dX6_octet_30 : decode cX6_octet 30 = .ok (.athrow, 1) := by decide +kernel
theorem dX6_octet_31 : decode cX6_octet 31 = .ok (.aload_n 0, 1) := by decide +kernel
theorem dX6_octet_32 : decode cX6_octet 32 = .ok (.getfield 10, 3) := by decide +kernel
theorem dX6_octet_35 : decode cX6_octet 35 = .ok (.iload_n 1, 1) := by decide +kernel
theorem dX6_octet_36 : decode cX6_octet 36 = .ok (.iload_n 2, 1) := by decide +kernel
theorem dX6_octet_37 : decode cX6_octet 37 = .ok (.invokevirtual 100, 3) := by decide +kernel
theorem dX6_octet_40 : decode cX6_octet 40 = .ok (.ireturn, 1) := by decide +kernel
theorem dX6_requirePart_0 : decode cX6_requirePart 0 = .ok (.iload_n 1, 1) := by decide +kernel
theorem dX6_requirePart_1 : decode cX6_requirePart 1 = .ok (.ifCond .lt 14, 3) := by decide +kernel
theorem dX6_requirePart_4 : decode cX6_requirePart 4 = .ok (.iload_n 1, 1) := by decide +kernel
theorem dX6_requirePart_5 : decode cX6_requirePart 5 = .ok (.aload_n 0, 1) := by decide +kernel
theorem dX6_requirePart_6 : decode cX6_requirePart 6 = .ok (.getfield 10, 3) := by decide +kernel
theorem dX6_requirePart_9 : decode cX6_requirePart 9 = .ok (.getfield 81, 3) := by decide +kernel
theorem dX6_requirePart_12 : decode cX6_requirePart 12 = .ok (.if_icmp .lt 13, 3) := by decide +kernel
theorem dX6_requirePart_15 : decode cX6_requirePart 15 = .ok (.new 95, 3) := by decide +kernel
theorem dX6_requirePart_18 : decode cX6_requirePart 18 = .ok (.dup, 1) := by decide +kernel
theorem dX6_requirePart_19 : decode cX6_requirePart 19 = .ok (.ldc 104, 2) := by decide +kernel
theorem dX6_requirePart_21 : decode cX6_requirePart 21 = .ok (.invokespecial 99, 3) := by decide +kernel
theorem dX6_requirePart_24 : decode cX6_requirePart 24 = .ok (.athrow, 1) := by decide +kernel
theorem dX6_requirePart_25 : decode cX6_requirePart 25 = .ok (.return_, 1) := by decide +kernel
theorem dX6_submit_0 : decode cX6_submit 0 = .ok (.aload_n 0, 1) := by decide +kernel
theorem dX6_submit_1 : decode cX6_submit 1 = .ok (.iload_n 1, 1) := by decide +kernel
theorem dX6_submit_2 : decode cX6_submit 2 = .ok (.invokevirtual 106, 3) := by decide +kernel
theorem dX6_submit_5 : decode cX6_submit 5 = .ok (.iload_n 2, 1) := by decide +kernel
theorem dX6_submit_6 : decode cX6_submit 6 = .ok (.iconst 1, 1) := by decide +kernel
theorem dX6_submit_7 : decode cX6_submit 7 = .ok (.if_icmp .lt 10, 3) := by decide +kernel
theorem dX6_submit_10 : decode cX6_submit 10 = .ok (.iload_n 2, 1) := by decide +kernel
theorem dX6_submit_11 : decode cX6_submit 11 = .ok (.sipush 1000, 3) := by decide +kernel
theorem dX6_submit_14 : decode cX6_submit 14 = .ok (.if_icmp .le 13, 3) := by decide +kernel
theorem dX6_submit_17 : decode cX6_submit 17 = .ok (.new 50, 3) := by decide +kernel
theorem dX6_submit_20 : decode cX6_submit 20 = .ok (.dup, 1) := by decide +kernel
theorem dX6_submit_21 : decode cX6_submit 21 = .ok (.ldc 109, 2) := by decide +kernel
theorem dX6_submit_23 : decode cX6_submit 23 = .ok (.invokespecial 54, 3) := by decide +kernel
theorem dX6_submit_26 : decode cX6_submit 26 = .ok (.athrow, 1) := by decide +kernel
theorem dX6_submit_27 : decode cX6_submit 27 = .ok (.aload_n 0, 1) := by decide +kernel
theorem dX6_submit_28 : decode cX6_submit 28 = .ok (.getfield 10, 3) := by decide +kernel
theorem dX6_submit_31 : decode cX6_submit 31 = .ok (.getfield 57, 3) := by decide +kernel
theorem dX6_submit_34 : decode cX6_submit 34 = .ok (.ifCond .eq 15, 3) := by decide +kernel
theorem dX6_submit_37 : decode cX6_submit 37 = .ok (.aload_n 0, 1) := by decide +kernel
theorem dX6_submit_38 : decode cX6_submit 38 = .ok (.getfield 22, 3) := by decide +kernel
theorem dX6_submit_41 : decode cX6_submit 41 = .ok (.aload_n 0, 1) := by decide +kernel
theorem dX6_submit_42 : decode cX6_submit 42 = .ok (.getfield 18, 3) := by decide +kernel
theorem dX6_submit_45 : decode cX6_submit 45 = .ok (.arraylength, 1) := by decide +kernel
theorem dX6_submit_46 : decode cX6_submit 46 = .ok (.if_icmp .lt 13, 3) := by decide +kernel
theorem dX6_submit_49 : decode cX6_submit 49 = .ok (.new 60, 3) := by decide +kernel
theorem dX6_submit_52 : decode cX6_submit 52 = .ok (.dup, 1) := by decide +kernel
theorem dX6_submit_53 : decode cX6_submit 53 = .ok (.ldc 111, 2) := by decide +kernel
theorem dX6_submit_55 : decode cX6_submit 55 = .ok (.invokespecial 64, 3) := by decide +kernel
theorem dX6_submit_58 : decode cX6_submit 58 = .ok (.athrow, 1) := by decide +kernel
theorem dX6_submit_59 : decode cX6_submit 59 = .ok (.new 16, 3) := by decide +kernel
theorem dX6_submit_62 : decode cX6_submit 62 = .ok (.dup, 1) := by decide +kernel
theorem dX6_submit_63 : decode cX6_submit 63 = .ok (.aload_n 0, 1) := by decide +kernel
theorem dX6_submit_64 : decode cX6_submit 64 = .ok (.getfield 22, 3) := by decide +kernel
theorem dX6_submit_67 : decode cX6_submit 67 = .ok (.iload_n 1, 1) := by decide +kernel
theorem dX6_submit_68 : decode cX6_submit 68 = .ok (.aload_n 0, 1) := by decide +kernel
theorem dX6_submit_69 : decode cX6_submit 69 = .ok (.getfield 46, 3) := by decide +kernel
theorem dX6_submit_72 : decode cX6_submit 72 = .ok (.iload_n 2, 1) := by decide +kernel
theorem dX6_submit_73 : decode cX6_submit 73 = .ok (.iadd, 1) := by decide +kernel
theorem dX6_submit_74 : decode cX6_submit 74 = .ok (.aload_n 0, 1) := by decide +kernel
theorem dX6_submit_75 : decode cX6_submit 75 = .ok (.iload_n 1, 1) := by decide +kernel
theorem dX6_submit_76 : decode cX6_submit 76 = .ok (.invokevirtual 113, 3) := by decide +kernel
theorem dX6_submit_79 : decode cX6_submit 79 = .ok (.aload_n 0, 1) := by decide +kernel
theorem dX6_submit_80 : decode cX6_submit 80 = .ok (.getfield 10, 3) := by decide +kernel
theorem dX6_submit_83 : decode cX6_submit 83 = .ok (.invokespecial 117, 3) := by decide +kernel
theorem dX6_submit_86 : decode cX6_submit 86 = .ok (.astore_n 3, 1) := by decide +kernel
theorem dX6_submit_87 : decode cX6_submit 87 = .ok (.aload_n 0, 1) := by decide +kernel
theorem dX6_submit_88 : decode cX6_submit 88 = .ok (.getfield 18, 3) := by decide +kernel
theorem dX6_submit_91 : decode cX6_submit 91 = .ok (.aload_n 0, 1) := by decide +kernel
theorem dX6_submit_92 : decode cX6_submit 92 = .ok (.getfield 22, 3) := by decide +kernel
theorem dX6_submit_95 : decode cX6_submit 95 = .ok (.aload_n 3, 1) := by decide +kernel
theorem dX6_submit_96 : decode cX6_submit 96 = .ok (.aastore, 1) := by decide +kernel
theorem dX6_submit_97 : decode cX6_submit 97 = .ok (.aload_n 0, 1) := by decide +kernel
theorem dX6_submit_98 : decode cX6_submit 98 = .ok (.dup, 1) := by decide +kernel
theorem dX6_submit_99 : decode cX6_submit 99 = .ok (.getfield 22, 3) := by decide +kernel
theorem dX6_submit_102 : decode cX6_submit 102 = .ok (.iconst 1, 1) := by decide +kernel
theorem dX6_submit_103 : decode cX6_submit 103 = .ok (.iadd, 1) := by decide +kernel
theorem dX6_submit_104 : decode cX6_submit 104 = .ok (.putfield 22, 3) := by decide +kernel
theorem dX6_submit_107 : decode cX6_submit 107 = .ok (.iconst 0, 1) := by decide +kernel
theorem dX6_submit_108 : decode cX6_submit 108 = .ok (.istore 4, 2) := by decide +kernel
theorem dX6_submit_110 : decode cX6_submit 110 = .ok (.iload 4, 2) := by decide +kernel
theorem dX6_submit_112 : decode cX6_submit 112 = .ok (.aload_n 3, 1) := by decide +kernel
theorem dX6_submit_113 : decode cX6_submit 113 = .ok (.getfield 120, 3) := by decide +kernel
theorem dX6_submit_116 : decode cX6_submit 116 = .ok (.if_icmp .ge 33, 3) := by decide +kernel
theorem dX6_submit_119 : decode cX6_submit 119 = .ok (.aload_n 3, 1) := by decide +kernel
theorem dX6_submit_120 : decode cX6_submit 120 = .ok (.getfield 121, 3) := by decide +kernel
theorem dX6_submit_123 : decode cX6_submit 123 = .ok (.getfield 125, 3) := by decide +kernel
theorem dX6_submit_126 : decode cX6_submit 126 = .ok (.new 129, 3) := by decide +kernel
theorem dX6_submit_129 : decode cX6_submit 129 = .ok (.dup, 1) := by decide +kernel
theorem dX6_submit_130 : decode cX6_submit 130 = .ok (.aload_n 3, 1) := by decide +kernel
theorem dX6_submit_131 : decode cX6_submit 131 = .ok (.iload 4, 2) := by decide +kernel
theorem dX6_submit_133 : decode cX6_submit 133 = .ok (.aload_n 0, 1) := by decide +kernel
theorem dX6_submit_134 : decode cX6_submit 134 = .ok (.getfield 46, 3) := by decide +kernel
theorem dX6_submit_137 : decode cX6_submit 137 = .ok (.invokespecial 131, 3) := by decide +kernel
theorem dX6_submit_140 : decode cX6_submit 140 = .ok (.invokevirtual 134, 3) := by decide +kernel
theorem dX6_submit_143 : decode cX6_submit 143 = .ok (.iinc 4 1, 3) := by decide +kernel
theorem dX6_submit_146 : decode cX6_submit 146 = .ok (.goto (-36), 3) := by decide +kernel
theorem dX6_submit_149 : decode cX6_submit 149 = .ok (.aload_n 0, 1) := by decide +kernel
theorem dX6_submit_150 : decode cX6_submit 150 = .ok (.getfield 10, 3) := by decide +kernel
theorem dX6_submit_153 : decode cX6_submit 153 = .ok (.invokevirtual 69, 3) := by decide +kernel
theorem dX6_submit_156 : decode cX6_submit 156 = .ok (.aload_n 3, 1) := by decide +kernel
theorem dX6_submit_157 : decode cX6_submit 157 = .ok (.getfield 140, 3) := by decide +kernel
theorem dX6_submit_160 : decode cX6_submit 160 = .ok (.ireturn, 1) := by decide +kernel
theorem dX6_state_0 : decode cX6_state 0 = .ok (.aload_n 0, 1) := by decide +kernel
theorem dX6_state_1 : decode cX6_state 1 = .ok (.iload_n 1, 1) := by decide +kernel
theorem dX6_state_2 : decode cX6_state 2 = .ok (.invokevirtual 143, 3) := by decide +kernel
theorem dX6_state_5 : decode cX6_state 5 = .ok (.getfield 147, 3) := by decide +kernel
theorem dX6_state_8 : decode cX6_state 8 = .ok (.ireturn, 1) := by decide +kernel
theorem dX6_missing_0 : decode cX6_missing 0 = .ok (.aload_n 0, 1) := by decide +kernel
theorem dX6_missing_1 : decode cX6_missing 1 = .ok (.iload_n 1, 1) := by decide +kernel
theorem dX6_missing_2 : decode cX6_missing 2 = .ok (.invokevirtual 143, 3) := by decide +kernel
theorem dX6_missing_5 : decode cX6_missing 5 = .ok (.getfield 150, 3) := by decide +kernel
theorem dX6_missing_8 : decode cX6_missing 8 = .ok (.ireturn, 1) := by decide +kernel
theorem dX6_joined_0 : decode cX6_joined 0 = .ok (.aload_n 0, 1) := by decide +kernel
theorem dX6_joined_1 : decode cX6_joined 1 = .ok (.iload_n 1, 1) := by decide +kernel
theorem dX6_joined_2 : decode cX6_joined 2 = .ok (.invokevirtual 143, 3) := by decide +kernel
theorem dX6_joined_5 : decode cX6_joined 5 = .ok (.astore_n 3, 1) := by decide +kernel
theorem dX6_joined_6 : decode cX6_joined 6 = .ok (.iload_n 2, 1) := by decide +kernel
theorem dX6_joined_7 : decode cX6_joined 7 = .ok (.ifCond .lt 12, 3) := by decide +kernel
theorem dX6_joined_10 : decode cX6_joined 10 = .ok (.iload_n 2, 1) := by decide +kernel
theorem dX6_joined_11 : decode cX6_joined 11 = .ok (.aload_n 3, 1) := by decide +kernel
theorem dX6_joined_12 : decode cX6_joined 12 = .ok (.getfield 153, 3) := by decide +kernel
theorem dX6_joined_15 : decode cX6_joined 15 = .ok (.arraylength, 1) := by decide +kernel
theorem dX6_joined_16 : decode cX6_joined 16 = .ok (.if_icmp .lt 13, 3) := by decide +kernel
theorem dX6_joined_19 : decode cX6_joined 19 = .ok (.new 95, 3) := by decide +kernel
theorem dX6_joined_22 : decode cX6_joined 22 = .ok (.dup, 1) := by decide +kernel
theorem dX6_joined_23 : decode cX6_joined 23 = .ok (.ldc 97, 2) := by decide +kernel
theorem dX6_joined_25 : decode cX6_joined 25 = .ok (.invokespecial 99, 3) := by decide +kernel
theorem dX6_joined_28 : decode cX6_joined 28 = .ok (.athrow, 1) := by decide +kernel
theorem dX6_joined_29 : decode cX6_joined 29 = .ok (.aload_n 3, 1) := by decide +kernel
theorem dX6_joined_30 : decode cX6_joined 30 = .ok (.aload_n 3, 1) := by decide +kernel
theorem dX6_joined_31 : decode cX6_joined 31 = .ok (.iload_n 2, 1) := by decide +kernel
theorem dX6_joined_32 : decode cX6_joined 32 = .ok (.invokevirtual 156, 3) := by decide +kernel
theorem dX6_joined_35 : decode cX6_joined 35 = .ok (.invokevirtual 159, 3) := by decide +kernel
theorem dX6_joined_38 : decode cX6_joined 38 = .ok (.ifCond .eq 7, 3) := by decide +kernel
theorem dX6_joined_41 : decode cX6_joined 41 = .ok (.iconst (-1), 1) := by decide +kernel
theorem dX6_joined_42 : decode cX6_joined 42 = .ok (.goto 9, 3) := by decide +kernel
theorem dX6_joined_45 : decode cX6_joined 45 = .ok (.aload_n 3, 1) := by decide +kernel
theorem dX6_joined_46 : decode cX6_joined 46 = .ok (.getfield 153, 3) := by decide +kernel
theorem dX6_joined_49 : decode cX6_joined 49 = .ok (.iload_n 2, 1) := by decide +kernel
theorem dX6_joined_50 : decode cX6_joined 50 = .ok (.iaload, 1) := by decide +kernel
theorem dX6_joined_51 : decode cX6_joined 51 = .ok (.ireturn, 1) := by decide +kernel
theorem dX6_receipts_0 : decode cX6_receipts 0 = .ok (.aload_n 0, 1) := by decide +kernel
theorem dX6_receipts_1 : decode cX6_receipts 1 = .ok (.getfield 30, 3) := by decide +kernel
theorem dX6_receipts_4 : decode cX6_receipts 4 = .ok (.ireturn, 1) := by decide +kernel
theorem dX6_receipt_0 : decode cX6_receipt 0 = .ok (.iload_n 1, 1) := by decide +kernel
theorem dX6_receipt_1 : decode cX6_receipt 1 = .ok (.ifCond .lt 20, 3) := by decide +kernel
theorem dX6_receipt_4 : decode cX6_receipt 4 = .ok (.iload_n 1, 1) := by decide +kernel
theorem dX6_receipt_5 : decode cX6_receipt 5 = .ok (.aload_n 0, 1) := by decide +kernel
theorem dX6_receipt_6 : decode cX6_receipt 6 = .ok (.getfield 30, 3) := by decide +kernel
theorem dX6_receipt_9 : decode cX6_receipt 9 = .ok (.if_icmp .ge 12, 3) := by decide +kernel
theorem dX6_receipt_12 : decode cX6_receipt 12 = .ok (.iload_n 1, 1) := by decide +kernel
theorem dX6_receipt_13 : decode cX6_receipt 13 = .ok (.aload_n 0, 1) := by decide +kernel
theorem dX6_receipt_14 : decode cX6_receipt 14 = .ok (.getfield 26, 3) := by decide +kernel
theorem dX6_receipt_17 : decode cX6_receipt 17 = .ok (.arraylength, 1) := by decide +kernel
theorem dX6_receipt_18 : decode cX6_receipt 18 = .ok (.if_icmp .lt 13, 3) := by decide +kernel
theorem dX6_receipt_21 : decode cX6_receipt 21 = .ok (.new 95, 3) := by decide +kernel
theorem dX6_receipt_24 : decode cX6_receipt 24 = .ok (.dup, 1) := by decide +kernel
theorem dX6_receipt_25 : decode cX6_receipt 25 = .ok (.ldc 163, 2) := by decide +kernel
theorem dX6_receipt_27 : decode cX6_receipt 27 = .ok (.invokespecial 99, 3) := by decide +kernel
theorem dX6_receipt_30 : decode cX6_receipt 30 = .ok (.athrow, 1) := by decide +kernel
theorem dX6_receipt_31 : decode cX6_receipt 31 = .ok (.aload_n 0, 1) := by decide +kernel
theorem dX6_receipt_32 : decode cX6_receipt 32 = .ok (.getfield 26, 3) := by decide +kernel
theorem dX6_receipt_35 : decode cX6_receipt 35 = .ok (.iload_n 1, 1) := by decide +kernel
theorem dX6_receipt_36 : decode cX6_receipt 36 = .ok (.iaload, 1) := by decide +kernel
theorem dX6_receipt_37 : decode cX6_receipt 37 = .ok (.ireturn, 1) := by decide +kernel
theorem dX6_messageAt_0 : decode cX6_messageAt 0 = .ok (.iload_n 1, 1) := by decide +kernel
theorem dX6_messageAt_1 : decode cX6_messageAt 1 = .ok (.ifCond .lt 29, 3) := by decide +kernel
theorem dX6_messageAt_4 : decode cX6_messageAt 4 = .ok (.iload_n 1, 1) := by decide +kernel
theorem dX6_messageAt_5 : decode cX6_messageAt 5 = .ok (.aload_n 0, 1) := by decide +kernel
theorem dX6_messageAt_6 : decode cX6_messageAt 6 = .ok (.getfield 22, 3) := by decide +kernel
theorem dX6_messageAt_9 : decode cX6_messageAt 9 = .ok (.if_icmp .ge 21, 3) := by decide +kernel
theorem dX6_messageAt_12 : decode cX6_messageAt 12 = .ok (.iload_n 1, 1) := by decide +kernel
theorem dX6_messageAt_13 : decode cX6_messageAt 13 = .ok (.aload_n 0, 1) := by decide +kernel
theorem dX6_messageAt_14 : decode cX6_messageAt 14 = .ok (.getfield 18, 3) := by decide +kernel
theorem dX6_messageAt_17 : decode cX6_messageAt 17 = .ok (.arraylength, 1) := by decide +kernel
theorem dX6_messageAt_18 : decode cX6_messageAt 18 = .ok (.if_icmp .ge 12, 3) := by decide +kernel
theorem dX6_messageAt_21 : decode cX6_messageAt 21 = .ok (.aload_n 0, 1) := by decide +kernel
theorem dX6_messageAt_22 : decode cX6_messageAt 22 = .ok (.getfield 18, 3) := by decide +kernel
theorem dX6_messageAt_25 : decode cX6_messageAt 25 = .ok (.iload_n 1, 1) := by decide +kernel
theorem dX6_messageAt_26 : decode cX6_messageAt 26 = .ok (.aaload, 1) := by decide +kernel
theorem dX6_messageAt_27 : decode cX6_messageAt 27 = .ok (.ifnonnull 13, 3) := by decide +kernel
theorem dX6_messageAt_30 : decode cX6_messageAt 30 = .ok (.new 95, 3) := by decide +kernel
theorem dX6_messageAt_33 : decode cX6_messageAt 33 = .ok (.dup, 1) := by decide +kernel
theorem dX6_messageAt_34 : decode cX6_messageAt 34 = .ok (.ldc 165, 2) := by decide +kernel
theorem dX6_messageAt_36 : decode cX6_messageAt 36 = .ok (.invokespecial 99, 3) := by decide +kernel
theorem dX6_messageAt_39 : decode cX6_messageAt 39 = .ok (.athrow, 1) := by decide +kernel
theorem dX6_messageAt_40 : decode cX6_messageAt 40 = .ok (.aload_n 0, 1) := by decide +kernel
theorem dX6_messageAt_41 : decode cX6_messageAt 41 = .ok (.getfield 18, 3) := by decide +kernel
theorem dX6_messageAt_44 : decode cX6_messageAt 44 = .ok (.iload_n 1, 1) := by decide +kernel
theorem dX6_messageAt_45 : decode cX6_messageAt 45 = .ok (.aaload, 1) := by decide +kernel
theorem dX6_messageAt_46 : decode cX6_messageAt 46 = .ok (.areturn, 1) := by decide +kernel
theorem dX6_requireReceiver_0 : decode cX6_requireReceiver 0 = .ok (.iload_n 1, 1) := by decide +kernel
theorem dX6_requireReceiver_1 : decode cX6_requireReceiver 1 = .ok (.ifCond .lt 9, 3) := by decide +kernel
theorem dX6_requireReceiver_4 : decode cX6_requireReceiver 4 = .ok (.iload_n 1, 1) := by decide +kernel
theorem dX6_requireReceiver_5 : decode cX6_requireReceiver 5 = .ok (.bipush 9, 2) := by decide +kernel
theorem dX6_requireReceiver_7 : decode cX6_requireReceiver 7 = .ok (.if_icmp .lt 13, 3) := by decide +kernel
theorem dX6_requireReceiver_10 : decode cX6_requireReceiver 10 = .ok (.new 50, 3) := by decide +kernel
theorem dX6_requireReceiver_13 : decode cX6_requireReceiver 13 = .ok (.dup, 1) := by decide +kernel
theorem dX6_requireReceiver_14 : decode cX6_requireReceiver 14 = .ok (.ldc 167, 2) := by decide +kernel
theorem dX6_requireReceiver_16 : decode cX6_requireReceiver 16 = .ok (.invokespecial 54, 3) := by decide +kernel
theorem dX6_requireReceiver_19 : decode cX6_requireReceiver 19 = .ok (.athrow, 1) := by decide +kernel
theorem dX6_requireReceiver_20 : decode cX6_requireReceiver 20 = .ok (.return_, 1) := by decide +kernel
theorem dX6_finish_0 : decode cX6_finish 0 = .ok (.aload_n 1, 1) := by decide +kernel
theorem dX6_finish_1 : decode cX6_finish 1 = .ok (.iload_n 2, 1) := by decide +kernel
theorem dX6_finish_2 : decode cX6_finish 2 = .ok (.putfield 147, 3) := by decide +kernel
theorem dX6_finish_5 : decode cX6_finish 5 = .ok (.aload_n 1, 1) := by decide +kernel
theorem dX6_finish_6 : decode cX6_finish 6 = .ok (.getfield 121, 3) := by decide +kernel
theorem dX6_finish_9 : decode cX6_finish 9 = .ok (.getfield 125, 3) := by decide +kernel
theorem dX6_finish_12 : decode cX6_finish 12 = .ok (.aload_n 1, 1) := by decide +kernel
theorem dX6_finish_13 : decode cX6_finish 13 = .ok (.invokevirtual 169, 3) := by decide +kernel
theorem dX6_finish_16 : decode cX6_finish 16 = .ok (.aload_n 0, 1) := by decide +kernel
theorem dX6_finish_17 : decode cX6_finish 17 = .ok (.getfield 30, 3) := by decide +kernel
theorem dX6_finish_20 : decode cX6_finish 20 = .ok (.aload_n 0, 1) := by decide +kernel
theorem dX6_finish_21 : decode cX6_finish 21 = .ok (.getfield 26, 3) := by decide +kernel
theorem dX6_finish_24 : decode cX6_finish 24 = .ok (.arraylength, 1) := by decide +kernel
theorem dX6_finish_25 : decode cX6_finish 25 = .ok (.if_icmp .ge 31, 3) := by decide +kernel
theorem dX6_finish_28 : decode cX6_finish 28 = .ok (.aload_n 0, 1) := by decide +kernel
theorem dX6_finish_29 : decode cX6_finish 29 = .ok (.getfield 26, 3) := by decide +kernel
theorem dX6_finish_32 : decode cX6_finish 32 = .ok (.aload_n 0, 1) := by decide +kernel
theorem dX6_finish_33 : decode cX6_finish 33 = .ok (.getfield 30, 3) := by decide +kernel
theorem dX6_finish_36 : decode cX6_finish 36 = .ok (.bipush 10, 2) := by decide +kernel
theorem dX6_finish_38 : decode cX6_finish 38 = .ok (.aload_n 1, 1) := by decide +kernel
theorem dX6_finish_39 : decode cX6_finish 39 = .ok (.getfield 140, 3) := by decide +kernel
theorem dX6_finish_42 : decode cX6_finish 42 = .ok (.imul, 1) := by decide +kernel
theorem dX6_finish_43 : decode cX6_finish 43 = .ok (.iload_n 2, 1) := by decide +kernel
theorem dX6_finish_44 : decode cX6_finish 44 = .ok (.iadd, 1) := by decide +kernel
theorem dX6_finish_45 : decode cX6_finish 45 = .ok (.iastore, 1) := by decide +kernel
theorem dX6_finish_46 : decode cX6_finish 46 = .ok (.aload_n 0, 1) := by decide +kernel
theorem dX6_finish_47 : decode cX6_finish 47 = .ok (.dup, 1) := by decide +kernel
theorem dX6_finish_48 : decode cX6_finish 48 = .ok (.getfield 30, 3) := by decide +kernel
theorem dX6_finish_51 : decode cX6_finish 51 = .ok (.iconst 1, 1) := by decide +kernel
theorem dX6_finish_52 : decode cX6_finish 52 = .ok (.iadd, 1) := by decide +kernel
theorem dX6_finish_53 : decode cX6_finish 53 = .ok (.putfield 30, 3) := by decide +kernel
theorem dX6_finish_56 : decode cX6_finish 56 = .ok (.return_, 1) := by decide +kernel
theorem dX6_pass_0 : decode cX6_pass 0 = .ok (.iload_n 1, 1) := by decide +kernel
theorem dX6_pass_1 : decode cX6_pass 1 = .ok (.iconst 1, 1) := by decide +kernel
theorem dX6_pass_2 : decode cX6_pass 2 = .ok (.if_icmp .lt 10, 3) := by decide +kernel
theorem dX6_pass_5 : decode cX6_pass 5 = .ok (.iload_n 1, 1) := by decide +kernel
theorem dX6_pass_6 : decode cX6_pass 6 = .ok (.sipush 200, 3) := by decide +kernel
theorem dX6_pass_9 : decode cX6_pass 9 = .ok (.if_icmp .le 13, 3) := by decide +kernel
theorem dX6_pass_12 : decode cX6_pass 12 = .ok (.new 50, 3) := by decide +kernel
theorem dX6_pass_15 : decode cX6_pass 15 = .ok (.dup, 1) := by decide +kernel
theorem dX6_pass_16 : decode cX6_pass 16 = .ok (.ldc 173, 2) := by decide +kernel
theorem dX6_pass_18 : decode cX6_pass 18 = .ok (.invokespecial 54, 3) := by decide +kernel
theorem dX6_pass_21 : decode cX6_pass 21 = .ok (.athrow, 1) := by decide +kernel
theorem dX6_pass_22 : decode cX6_pass 22 = .ok (.iconst 0, 1) := by decide +kernel
theorem dX6_pass_23 : decode cX6_pass 23 = .ok (.istore_n 2, 1) := by decide +kernel
theorem dX6_pass_24 : decode cX6_pass 24 = .ok (.iconst 0, 1) := by decide +kernel
theorem dX6_pass_25 : decode cX6_pass 25 = .ok (.istore_n 3, 1) := by decide +kernel
theorem dX6_pass_26 : decode cX6_pass 26 = .ok (.iload_n 3, 1) := by decide +kernel
theorem dX6_pass_27 : decode cX6_pass 27 = .ok (.iload_n 1, 1) := by decide +kernel
theorem dX6_pass_28 : decode cX6_pass 28 = .ok (.if_icmp .ge 30, 3) := by decide +kernel
theorem dX6_pass_31 : decode cX6_pass 31 = .ok (.aload_n 0, 1) := by decide +kernel
theorem dX6_pass_32 : decode cX6_pass 32 = .ok (.dup, 1) := by decide +kernel
theorem dX6_pass_33 : decode cX6_pass 33 = .ok (.getfield 46, 3) := by decide +kernel
theorem dX6_pass_36 : decode cX6_pass 36 = .ok (.iconst 1, 1) := by decide +kernel
theorem dX6_pass_37 : decode cX6_pass 37 = .ok (.iadd, 1) := by decide +kernel
theorem dX6_pass_38 : decode cX6_pass 38 = .ok (.putfield 46, 3) := by decide +kernel
theorem dX6_pass_41 : decode cX6_pass 41 = .ok (.aload_n 0, 1) := by decide +kernel
theorem dX6_pass_42 : decode cX6_pass 42 = .ok (.invokevirtual 175, 3) := by decide +kernel
theorem dX6_pass_45 : decode cX6_pass 45 = .ok (.iload_n 2, 1) := by decide +kernel
theorem dX6_pass_46 : decode cX6_pass 46 = .ok (.aload_n 0, 1) := by decide +kernel
theorem dX6_pass_47 : decode cX6_pass 47 = .ok (.invokevirtual 178, 3) := by decide +kernel
theorem dX6_pass_50 : decode cX6_pass 50 = .ok (.iadd, 1) := by decide +kernel
theorem dX6_pass_51 : decode cX6_pass 51 = .ok (.istore_n 2, 1) := by decide +kernel
theorem dX6_pass_52 : decode cX6_pass 52 = .ok (.iinc 3 1, 3) := by decide +kernel
theorem dX6_pass_55 : decode cX6_pass 55 = .ok (.goto (-29), 3) := by decide +kernel
theorem dX6_pass_58 : decode cX6_pass 58 = .ok (.iload_n 2, 1) := by decide +kernel
theorem dX6_pass_59 : decode cX6_pass 59 = .ok (.ireturn, 1) := by decide +kernel
theorem dX6_time_0 : decode cX6_time 0 = .ok (.aload_n 0, 1) := by decide +kernel
theorem dX6_time_1 : decode cX6_time 1 = .ok (.getfield 46, 3) := by decide +kernel
theorem dX6_time_4 : decode cX6_time 4 = .ok (.ireturn, 1) := by decide +kernel
theorem dX6_toggleLink_0 : decode cX6_toggleLink 0 = .ok (.aload_n 0, 1) := by decide +kernel
theorem dX6_toggleLink_1 : decode cX6_toggleLink 1 = .ok (.iload_n 1, 1) := by decide +kernel
theorem dX6_toggleLink_2 : decode cX6_toggleLink 2 = .ok (.invokevirtual 182, 3) := by decide +kernel
theorem dX6_toggleLink_5 : decode cX6_toggleLink 5 = .ok (.astore_n 2, 1) := by decide +kernel
theorem dX6_toggleLink_6 : decode cX6_toggleLink 6 = .ok (.aload_n 2, 1) := by decide +kernel
theorem dX6_toggleLink_7 : decode cX6_toggleLink 7 = .ok (.getfield 185, 3) := by decide +kernel
theorem dX6_toggleLink_10 : decode cX6_toggleLink 10 = .ok (.ifCond .eq 14, 3) := by decide +kernel
theorem dX6_toggleLink_13 : decode cX6_toggleLink 13 = .ok (.aload_n 2, 1) := by decide +kernel
theorem dX6_toggleLink_14 : decode cX6_toggleLink 14 = .ok (.aload_n 0, 1) := by decide +kernel
theorem dX6_toggleLink_15 : decode cX6_toggleLink 15 = .ok (.getfield 46, 3) := by decide +kernel
theorem dX6_toggleLink_18 : decode cX6_toggleLink 18 = .ok (.invokevirtual 188, 3) := by decide +kernel
theorem dX6_toggleLink_21 : decode cX6_toggleLink 21 = .ok (.goto 8, 3) := by decide +kernel
theorem dX6_toggleLink_24 : decode cX6_toggleLink 24 = .ok (.aload_n 2, 1) := by decide +kernel
theorem dX6_toggleLink_25 : decode cX6_toggleLink 25 = .ok (.iconst 1, 1) := by decide +kernel
theorem dX6_toggleLink_26 : decode cX6_toggleLink 26 = .ok (.putfield 185, 3) := by decide +kernel
theorem dX6_toggleLink_29 : decode cX6_toggleLink 29 = .ok (.aload_n 2, 1) := by decide +kernel
theorem dX6_toggleLink_30 : decode cX6_toggleLink 30 = .ok (.getfield 185, 3) := by decide +kernel
theorem dX6_toggleLink_33 : decode cX6_toggleLink 33 = .ok (.ireturn, 1) := by decide +kernel
theorem dX6_setWindow_0 : decode cX6_setWindow 0 = .ok (.aload_n 0, 1) := by decide +kernel
theorem dX6_setWindow_1 : decode cX6_setWindow 1 = .ok (.iload_n 1, 1) := by decide +kernel
theorem dX6_setWindow_2 : decode cX6_setWindow 2 = .ok (.invokevirtual 182, 3) := by decide +kernel
theorem dX6_setWindow_5 : decode cX6_setWindow 5 = .ok (.astore_n 3, 1) := by decide +kernel
theorem dX6_setWindow_6 : decode cX6_setWindow 6 = .ok (.iload_n 2, 1) := by decide +kernel
theorem dX6_setWindow_7 : decode cX6_setWindow 7 = .ok (.iconst 1, 1) := by decide +kernel
theorem dX6_setWindow_8 : decode cX6_setWindow 8 = .ok (.if_icmp .lt 9, 3) := by decide +kernel
theorem dX6_setWindow_11 : decode cX6_setWindow 11 = .ok (.iload_n 2, 1) := by decide +kernel
theorem dX6_setWindow_12 : decode cX6_setWindow 12 = .ok (.bipush 10, 2) := by decide +kernel
theorem dX6_setWindow_14 : decode cX6_setWindow 14 = .ok (.if_icmp .le 13, 3) := by decide +kernel
theorem dX6_setWindow_17 : decode cX6_setWindow 17 = .ok (.new 50, 3) := by decide +kernel
theorem dX6_setWindow_20 : decode cX6_setWindow 20 = .ok (.dup, 1) := by decide +kernel
theorem dX6_setWindow_21 : decode cX6_setWindow 21 = .ok (.ldc 191, 2) := by decide +kernel
theorem dX6_setWindow_23 : decode cX6_setWindow 23 = .ok (.invokespecial 54, 3) := by decide +kernel
theorem dX6_setWindow_26 : decode cX6_setWindow 26 = .ok (.athrow, 1) := by decide +kernel
theorem dX6_setWindow_27 : decode cX6_setWindow 27 = .ok (.aload_n 3, 1) := by decide +kernel
theorem dX6_setWindow_28 : decode cX6_setWindow 28 = .ok (.getfield 193, 3) := by decide +kernel
theorem dX6_setWindow_31 : decode cX6_setWindow 31 = .ok (.istore 4, 2) := by decide +kernel
theorem dX6_setWindow_33 : decode cX6_setWindow 33 = .ok (.aload_n 3, 1) := by decide +kernel
theorem dX6_setWindow_34 : decode cX6_setWindow 34 = .ok (.iload_n 2, 1) := by decide +kernel
theorem dX6_setWindow_35 : decode cX6_setWindow 35 = .ok (.putfield 193, 3) := by decide +kernel
theorem dX6_setWindow_38 : decode cX6_setWindow 38 = .ok (.iload 4, 2) := by decide +kernel
theorem dX6_setWindow_40 : decode cX6_setWindow 40 = .ok (.ireturn, 1) := by decide +kernel
theorem dX6_queued_0 : decode cX6_queued 0 = .ok (.aload_n 0, 1) := by decide +kernel
theorem dX6_queued_1 : decode cX6_queued 1 = .ok (.iload_n 1, 1) := by decide +kernel
theorem dX6_queued_2 : decode cX6_queued 2 = .ok (.invokevirtual 182, 3) := by decide +kernel
theorem dX6_queued_5 : decode cX6_queued 5 = .ok (.getfield 125, 3) := by decide +kernel
theorem dX6_queued_8 : decode cX6_queued 8 = .ok (.getfield 196, 3) := by decide +kernel
theorem dX6_queued_11 : decode cX6_queued 11 = .ok (.ireturn, 1) := by decide +kernel
theorem dX6_underWay_0 : decode cX6_underWay 0 = .ok (.aload_n 0, 1) := by decide +kernel
theorem dX6_underWay_1 : decode cX6_underWay 1 = .ok (.iload_n 1, 1) := by decide +kernel
theorem dX6_underWay_2 : decode cX6_underWay 2 = .ok (.invokevirtual 182, 3) := by decide +kernel
theorem dX6_underWay_5 : decode cX6_underWay 5 = .ok (.getfield 197, 3) := by decide +kernel
theorem dX6_underWay_8 : decode cX6_underWay 8 = .ok (.getfield 196, 3) := by decide +kernel
theorem dX6_underWay_11 : decode cX6_underWay 11 = .ok (.ireturn, 1) := by decide +kernel
theorem dX6_tokens_0 : decode cX6_tokens 0 = .ok (.aload_n 0, 1) := by decide +kernel
theorem dX6_tokens_1 : decode cX6_tokens 1 = .ok (.iload_n 1, 1) := by decide +kernel
theorem dX6_tokens_2 : decode cX6_tokens 2 = .ok (.invokevirtual 182, 3) := by decide +kernel
theorem dX6_tokens_5 : decode cX6_tokens 5 = .ok (.getfield 200, 3) := by decide +kernel
theorem dX6_tokens_8 : decode cX6_tokens 8 = .ok (.ireturn, 1) := by decide +kernel
theorem dX6_acknowledge_0 : decode cX6_acknowledge 0 = .ok (.aload_n 0, 1) := by decide +kernel
theorem dX6_acknowledge_1 : decode cX6_acknowledge 1 = .ok (.iload_n 1, 1) := by decide +kernel
theorem dX6_acknowledge_2 : decode cX6_acknowledge 2 = .ok (.invokevirtual 182, 3) := by decide +kernel
theorem dX6_acknowledge_5 : decode cX6_acknowledge 5 = .ok (.astore_n 3, 1) := by decide +kernel
theorem dX6_acknowledge_6 : decode cX6_acknowledge 6 = .ok (.iload_n 2, 1) := by decide +kernel
theorem dX6_acknowledge_7 : decode cX6_acknowledge 7 = .ok (.ifCond .lt 8, 3) := by decide +kernel
theorem dX6_acknowledge_10 : decode cX6_acknowledge 10 = .ok (.iload_n 2, 1) := by decide +kernel
theorem dX6_acknowledge_11 : decode cX6_acknowledge 11 = .ok (.iconst 3, 1) := by decide +kernel
theorem dX6_acknowledge_12 : decode cX6_acknowledge 12 = .ok (.if_icmp .le 13, 3) := by decide +kernel
theorem dX6_acknowledge_15 : decode cX6_acknowledge 15 = .ok (.new 50, 3) := by decide +kernel
theorem dX6_acknowledge_18 : decode cX6_acknowledge 18 = .ok (.dup, 1) := by decide +kernel
theorem dX6_acknowledge_19 : decode cX6_acknowledge 19 = .ok (.ldc 203, 2) := by decide +kernel
theorem dX6_acknowledge_21 : decode cX6_acknowledge 21 = .ok (.invokespecial 54, 3) := by decide +kernel
theorem dX6_acknowledge_24 : decode cX6_acknowledge 24 = .ok (.athrow, 1) := by decide +kernel
theorem dX6_acknowledge_25 : decode cX6_acknowledge 25 = .ok (.aload_n 3, 1) := by decide +kernel
theorem dX6_acknowledge_26 : decode cX6_acknowledge 26 = .ok (.getfield 197, 3) := by decide +kernel
theorem dX6_acknowledge_29 : decode cX6_acknowledge 29 = .ok (.iconst 0, 1) := by decide +kernel
theorem dX6_acknowledge_30 : decode cX6_acknowledge 30 = .ok (.invokevirtual 205, 3) := by decide +kernel
theorem dX6_acknowledge_33 : decode cX6_acknowledge 33 = .ok (.astore 4, 2) := by decide +kernel
theorem dX6_acknowledge_35 : decode cX6_acknowledge 35 = .ok (.aload 4, 2) := by decide +kernel
theorem dX6_acknowledge_37 : decode cX6_acknowledge 37 = .ok (.ifnonnull 13, 3) := by decide +kernel
theorem dX6_acknowledge_40 : decode cX6_acknowledge 40 = .ok (.new 60, 3) := by decide +kernel
theorem dX6_acknowledge_43 : decode cX6_acknowledge 43 = .ok (.dup, 1) := by decide +kernel
theorem dX6_acknowledge_44 : decode cX6_acknowledge 44 = .ok (.ldc 209, 2) := by decide +kernel
theorem dX6_acknowledge_46 : decode cX6_acknowledge 46 = .ok (.invokespecial 64, 3) := by decide +kernel
theorem dX6_acknowledge_49 : decode cX6_acknowledge 49 = .ok (.athrow, 1) := by decide +kernel
theorem dX6_acknowledge_50 : decode cX6_acknowledge 50 = .ok (.aload 4, 2) := by decide +kernel
theorem dX6_acknowledge_52 : decode cX6_acknowledge 52 = .ok (.getfield 211, 3) := by decide +kernel
theorem dX6_acknowledge_55 : decode cX6_acknowledge 55 = .ok (.getfield 147, 3) := by decide +kernel
theorem dX6_acknowledge_58 : decode cX6_acknowledge 58 = .ok (.ifCond .ne 10, 3) := by decide +kernel
theorem dX6_acknowledge_61 : decode cX6_acknowledge 61 = .ok (.aload_n 0, 1) := by decide +kernel
theorem dX6_acknowledge_62 : decode cX6_acknowledge 62 = .ok (.aload 4, 2) := by decide +kernel
theorem dX6_acknowledge_64 : decode cX6_acknowledge 64 = .ok (.iload_n 2, 1) := by decide +kernel
theorem dX6_acknowledge_65 : decode cX6_acknowledge 65 = .ok (.invokevirtual 215, 3) := by decide +kernel
theorem dX6_acknowledge_68 : decode cX6_acknowledge 68 = .ok (.bipush 10, 2) := by decide +kernel
theorem dX6_acknowledge_70 : decode cX6_acknowledge 70 = .ok (.aload 4, 2) := by decide +kernel
theorem dX6_acknowledge_72 : decode cX6_acknowledge 72 = .ok (.getfield 211, 3) := by decide +kernel
theorem dX6_acknowledge_75 : decode cX6_acknowledge 75 = .ok (.getfield 140, 3) := by decide +kernel
theorem dX6_acknowledge_78 : decode cX6_acknowledge 78 = .ok (.imul, 1) := by decide +kernel
theorem dX6_acknowledge_79 : decode cX6_acknowledge 79 = .ok (.aload 4, 2) := by decide +kernel
theorem dX6_acknowledge_81 : decode cX6_acknowledge 81 = .ok (.getfield 219, 3) := by decide +kernel
theorem dX6_acknowledge_84 : decode cX6_acknowledge 84 = .ok (.iadd, 1) := by decide +kernel
theorem dX6_acknowledge_85 : decode cX6_acknowledge 85 = .ok (.ireturn, 1) := by decide +kernel
theorem dX6_alert_0 : decode cX6_alert 0 = .ok (.aload_n 0, 1) := by decide +kernel
theorem dX6_alert_1 : decode cX6_alert 1 = .ok (.iload_n 1, 1) := by decide +kernel
theorem dX6_alert_2 : decode cX6_alert 2 = .ok (.invokevirtual 106, 3) := by decide +kernel
theorem dX6_alert_5 : decode cX6_alert 5 = .ok (.aload_n 0, 1) := by decide +kernel
theorem dX6_alert_6 : decode cX6_alert 6 = .ok (.iload_n 1, 1) := by decide +kernel
theorem dX6_alert_7 : decode cX6_alert 7 = .ok (.invokevirtual 113, 3) := by decide +kernel
theorem dX6_alert_10 : decode cX6_alert 10 = .ok (.getfield 125, 3) := by decide +kernel
theorem dX6_alert_13 : decode cX6_alert 13 = .ok (.iload_n 1, 1) := by decide +kernel
theorem dX6_alert_14 : decode cX6_alert 14 = .ok (.invokevirtual 220, 3) := by decide +kernel
theorem dX6_alert_17 : decode cX6_alert 17 = .ok (.ireturn, 1) := by decide +kernel
theorem dX6_linkAt_0 : decode cX6_linkAt 0 = .ok (.iload_n 1, 1) := by decide +kernel
theorem dX6_linkAt_1 : decode cX6_linkAt 1 = .ok (.ifCond .lt 12, 3) := by decide +kernel
theorem dX6_linkAt_4 : decode cX6_linkAt 4 = .ok (.iload_n 1, 1) := by decide +kernel
theorem dX6_linkAt_5 : decode cX6_linkAt 5 = .ok (.aload_n 0, 1) := by decide +kernel
theorem dX6_linkAt_6 : decode cX6_linkAt 6 = .ok (.getfield 35, 3) := by decide +kernel
theorem dX6_linkAt_9 : decode cX6_linkAt 9 = .ok (.arraylength, 1) := by decide +kernel
theorem dX6_linkAt_10 : decode cX6_linkAt 10 = .ok (.if_icmp .lt 13, 3) := by decide +kernel
theorem dX6_linkAt_13 : decode cX6_linkAt 13 = .ok (.new 95, 3) := by decide +kernel
theorem dX6_linkAt_16 : decode cX6_linkAt 16 = .ok (.dup, 1) := by decide +kernel
theorem dX6_linkAt_17 : decode cX6_linkAt 17 = .ok (.ldc 223, 2) := by decide +kernel
theorem dX6_linkAt_19 : decode cX6_linkAt 19 = .ok (.invokespecial 99, 3) := by decide +kernel
theorem dX6_linkAt_22 : decode cX6_linkAt 22 = .ok (.athrow, 1) := by decide +kernel
theorem dX6_linkAt_23 : decode cX6_linkAt 23 = .ok (.aload_n 0, 1) := by decide +kernel
theorem dX6_linkAt_24 : decode cX6_linkAt 24 = .ok (.getfield 35, 3) := by decide +kernel
theorem dX6_linkAt_27 : decode cX6_linkAt 27 = .ok (.iload_n 1, 1) := by decide +kernel
theorem dX6_linkAt_28 : decode cX6_linkAt 28 = .ok (.aaload, 1) := by decide +kernel
theorem dX6_linkAt_29 : decode cX6_linkAt 29 = .ok (.areturn, 1) := by decide +kernel
theorem dX6_linkOf_0 : decode cX6_linkOf 0 = .ok (.aload_n 0, 1) := by decide +kernel
theorem dX6_linkOf_1 : decode cX6_linkOf 1 = .ok (.iload_n 1, 1) := by decide +kernel
theorem dX6_linkOf_2 : decode cX6_linkOf 2 = .ok (.iconst 3, 1) := by decide +kernel
theorem dX6_linkOf_3 : decode cX6_linkOf 3 = .ok (.irem, 1) := by decide +kernel
theorem dX6_linkOf_4 : decode cX6_linkOf 4 = .ok (.invokevirtual 182, 3) := by decide +kernel
theorem dX6_linkOf_7 : decode cX6_linkOf 7 = .ok (.areturn, 1) := by decide +kernel
theorem dX6_expireMessages_0 : decode cX6_expireMessages 0 = .ok (.iconst 0, 1) := by decide +kernel
theorem dX6_expireMessages_1 : decode cX6_expireMessages 1 = .ok (.istore_n 1, 1) := by decide +kernel
theorem dX6_expireMessages_2 : decode cX6_expireMessages 2 = .ok (.iload_n 1, 1) := by decide +kernel
theorem dX6_expireMessages_3 : decode cX6_expireMessages 3 = .ok (.aload_n 0, 1) := by decide +kernel
theorem dX6_expireMessages_4 : decode cX6_expireMessages 4 = .ok (.getfield 22, 3) := by decide +kernel
theorem dX6_expireMessages_7 : decode cX6_expireMessages 7 = .ok (.if_icmp .ge 53, 3) := by decide +kernel
theorem dX6_expireMessages_10 : decode cX6_expireMessages 10 = .ok (.iload_n 1, 1) := by decide +kernel
theorem dX6_expireMessages_11 : decode cX6_expireMessages 11 = .ok (.aload_n 0, 1) := by decide +kernel
theorem dX6_expireMessages_12 : decode cX6_expireMessages 12 = .ok (.getfield 18, 3) := by decide +kernel
theorem dX6_expireMessages_15 : decode cX6_expireMessages 15 = .ok (.arraylength, 1) := by decide +kernel
theorem dX6_expireMessages_16 : decode cX6_expireMessages 16 = .ok (.if_icmp .ge 44, 3) := by decide +kernel
theorem dX6_expireMessages_19 : decode cX6_expireMessages 19 = .ok (.aload_n 0, 1) := by decide +kernel
theorem dX6_expireMessages_20 : decode cX6_expireMessages 20 = .ok (.getfield 18, 3) := by decide +kernel
theorem dX6_expireMessages_23 : decode cX6_expireMessages 23 = .ok (.iload_n 1, 1) := by decide +kernel
theorem dX6_expireMessages_24 : decode cX6_expireMessages 24 = .ok (.aaload, 1) := by decide +kernel
theorem dX6_expireMessages_25 : decode cX6_expireMessages 25 = .ok (.astore_n 2, 1) := by decide +kernel
theorem dX6_expireMessages_26 : decode cX6_expireMessages 26 = .ok (.aload_n 2, 1) := by decide +kernel
theorem dX6_expireMessages_27 : decode cX6_expireMessages 27 = .ok (.ifnull 27, 3) := by decide +kernel
theorem dX6_expireMessages_30 : decode cX6_expireMessages 30 = .ok (.aload_n 2, 1) := by decide +kernel
theorem dX6_expireMessages_31 : decode cX6_expireMessages 31 = .ok (.getfield 147, 3) := by decide +kernel
theorem dX6_expireMessages_34 : decode cX6_expireMessages 34 = .ok (.ifCond .ne 20, 3) := by decide +kernel
theorem dX6_expireMessages_37 : decode cX6_expireMessages 37 = .ok (.aload_n 0, 1) := by decide +kernel
theorem dX6_expireMessages_38 : decode cX6_expireMessages 38 = .ok (.getfield 46, 3) := by decide +kernel
theorem dX6_expireMessages_41 : decode cX6_expireMessages 41 = .ok (.aload_n 2, 1) := by decide +kernel
theorem dX6_expireMessages_42 : decode cX6_expireMessages 42 = .ok (.getfield 225, 3) := by decide +kernel
theorem dX6_expireMessages_45 : decode cX6_expireMessages 45 = .ok (.if_icmp .lt 9, 3) := by decide +kernel
theorem dX6_expireMessages_48 : decode cX6_expireMessages 48 = .ok (.aload_n 0, 1) := by decide +kernel
theorem dX6_expireMessages_49 : decode cX6_expireMessages 49 = .ok (.aload_n 2, 1) := by decide +kernel
theorem dX6_expireMessages_50 : decode cX6_expireMessages 50 = .ok (.iconst 3, 1) := by decide +kernel
theorem dX6_expireMessages_51 : decode cX6_expireMessages 51 = .ok (.invokevirtual 228, 3) := by decide +kernel
theorem dX6_expireMessages_54 : decode cX6_expireMessages 54 = .ok (.iinc 1 1, 3) := by decide +kernel
theorem dX6_expireMessages_57 : decode cX6_expireMessages 57 = .ok (.goto (-55), 3) := by decide +kernel
theorem dX6_expireMessages_60 : decode cX6_expireMessages 60 = .ok (.return_, 1) := by decide +kernel
theorem dX6_sendParts_0 : decode cX6_sendParts 0 = .ok (.iconst 0, 1) := by decide +kernel
theorem dX6_sendParts_1 : decode cX6_sendParts 1 = .ok (.istore_n 1, 1) := by decide +kernel
theorem dX6_sendParts_2 : decode cX6_sendParts 2 = .ok (.iconst 0, 1) := by decide +kernel
theorem dX6_sendParts_3 : decode cX6_sendParts 3 = .ok (.istore_n 2, 1) := by decide +kernel
theorem dX6_sendParts_4 : decode cX6_sendParts 4 = .ok (.iload_n 2, 1) := by decide +kernel
theorem dX6_sendParts_5 : decode cX6_sendParts 5 = .ok (.aload_n 0, 1) := by decide +kernel
theorem dX6_sendParts_6 : decode cX6_sendParts 6 = .ok (.getfield 35, 3) := by decide +kernel
theorem dX6_sendParts_9 : decode cX6_sendParts 9 = .ok (.arraylength, 1) := by decide +kernel
theorem dX6_sendParts_10 : decode cX6_sendParts 10 = .ok (.if_icmp .ge 34, 3) := by decide +kernel
theorem dX6_sendParts_13 : decode cX6_sendParts 13 = .ok (.aload_n 0, 1) := by decide +kernel
theorem dX6_sendParts_14 : decode cX6_sendParts 14 = .ok (.getfield 35, 3) := by decide +kernel
theorem dX6_sendParts_17 : decode cX6_sendParts 17 = .ok (.iload_n 2, 1) := by decide +kernel
theorem dX6_sendParts_18 : decode cX6_sendParts 18 = .ok (.aaload, 1) := by decide +kernel
theorem dX6_sendParts_19 : decode cX6_sendParts 19 = .ok (.invokevirtual 232, 3) := by decide +kernel
theorem dX6_sendParts_22 : decode cX6_sendParts 22 = .ok (.iload_n 1, 1) := by decide +kernel
theorem dX6_sendParts_23 : decode cX6_sendParts 23 = .ok (.aload_n 0, 1) := by decide +kernel
theorem dX6_sendParts_24 : decode cX6_sendParts 24 = .ok (.getfield 35, 3) := by decide +kernel
theorem dX6_sendParts_27 : decode cX6_sendParts 27 = .ok (.iload_n 2, 1) := by decide +kernel
theorem dX6_sendParts_28 : decode cX6_sendParts 28 = .ok (.aaload, 1) := by decide +kernel
theorem dX6_sendParts_29 : decode cX6_sendParts 29 = .ok (.aload_n 0, 1) := by decide +kernel
theorem dX6_sendParts_30 : decode cX6_sendParts 30 = .ok (.getfield 46, 3) := by decide +kernel
theorem dX6_sendParts_33 : decode cX6_sendParts 33 = .ok (.invokevirtual 235, 3) := by decide +kernel
theorem dX6_sendParts_36 : decode cX6_sendParts 36 = .ok (.iadd, 1) := by decide +kernel
theorem dX6_sendParts_37 : decode cX6_sendParts 37 = .ok (.istore_n 1, 1) := by decide +kernel
theorem dX6_sendParts_38 : decode cX6_sendParts 38 = .ok (.iinc 2 1, 3) := by decide +kernel
theorem dX6_sendParts_41 : decode cX6_sendParts 41 = .ok (.goto (-37), 3) := by decide +kernel
theorem dX6_sendParts_44 : decode cX6_sendParts 44 = .ok (.iload_n 1, 1) := by decide +kernel
theorem dX6_sendParts_45 : decode cX6_sendParts 45 = .ok (.ireturn, 1) := by decide +kernel
theorem dX6_settle_0 : decode cX6_settle 0 = .ok (.aload_n 1, 1) := by decide +kernel
theorem dX6_settle_1 : decode cX6_settle 1 = .ok (.getfield 211, 3) := by decide +kernel
theorem dX6_settle_4 : decode cX6_settle 4 = .ok (.astore_n 3, 1) := by decide +kernel
theorem dX6_settle_5 : decode cX6_settle 5 = .ok (.iload_n 2, 1) := by decide +kernel
theorem dX6_settle_6 : decode cX6_settle 6 = .ok (.tableswitch 125 0 2 #[26, 50, 106], 26) := by decide +kernel
theorem dX6_settle_32 : decode cX6_settle 32 = .ok (.aload_n 3, 1) := by decide +kernel
theorem dX6_settle_33 : decode cX6_settle 33 = .ok (.aload_n 1, 1) := by decide +kernel
theorem dX6_settle_34 : decode cX6_settle 34 = .ok (.getfield 219, 3) := by decide +kernel
theorem dX6_settle_37 : decode cX6_settle 37 = .ok (.invokevirtual 238, 3) := by decide +kernel
theorem dX6_settle_40 : decode cX6_settle 40 = .ok (.aload_n 3, 1) := by decide +kernel
theorem dX6_settle_41 : decode cX6_settle 41 = .ok (.getfield 150, 3) := by decide +kernel
theorem dX6_settle_44 : decode cX6_settle 44 = .ok (.ifCond .ne 93, 3) := by decide +kernel
theorem dX6_settle_47 : decode cX6_settle 47 = .ok (.aload_n 0, 1) := by decide +kernel
theorem dX6_settle_48 : decode cX6_settle 48 = .ok (.aload_n 3, 1) := by decide +kernel
theorem dX6_settle_49 : decode cX6_settle 49 = .ok (.iconst 1, 1) := by decide +kernel
theorem dX6_settle_50 : decode cX6_settle 50 = .ok (.invokevirtual 228, 3) := by decide +kernel
theorem dX6_settle_53 : decode cX6_settle 53 = .ok (.goto 84, 3) := by decide +kernel
theorem dX6_settle_56 : decode cX6_settle 56 = .ok (.aload_n 1, 1) := by decide +kernel
theorem dX6_settle_57 : decode cX6_settle 57 = .ok (.dup, 1) := by decide +kernel
theorem dX6_settle_58 : decode cX6_settle 58 = .ok (.getfield 241, 3) := by decide +kernel
theorem dX6_settle_61 : decode cX6_settle 61 = .ok (.iconst 1, 1) := by decide +kernel
theorem dX6_settle_62 : decode cX6_settle 62 = .ok (.iadd, 1) := by decide +kernel
theorem dX6_settle_63 : decode cX6_settle 63 = .ok (.putfield 241, 3) := by decide +kernel
theorem dX6_settle_66 : decode cX6_settle 66 = .ok (.aload_n 1, 1) := by decide +kernel
theorem dX6_settle_67 : decode cX6_settle 67 = .ok (.getfield 241, 3) := by decide +kernel
theorem dX6_settle_70 : decode cX6_settle 70 = .ok (.iconst 4, 1) := by decide +kernel
theorem dX6_settle_71 : decode cX6_settle 71 = .ok (.if_icmp .lt 12, 3) := by decide +kernel
theorem dX6_settle_74 : decode cX6_settle 74 = .ok (.aload_n 0, 1) := by decide +kernel
theorem dX6_settle_75 : decode cX6_settle 75 = .ok (.aload_n 3, 1) := by decide +kernel
theorem dX6_settle_76 : decode cX6_settle 76 = .ok (.iconst 2, 1) := by decide +kernel
theorem dX6_settle_77 : decode cX6_settle 77 = .ok (.invokevirtual 228, 3) := by decide +kernel
theorem dX6_settle_80 : decode cX6_settle 80 = .ok (.goto 57, 3) := by decide +kernel
theorem dX6_settle_83 : decode cX6_settle 83 = .ok (.aload_n 1, 1) := by decide +kernel
theorem dX6_settle_84 : decode cX6_settle 84 = .ok (.aload_n 0, 1) := by decide +kernel
theorem dX6_settle_85 : decode cX6_settle 85 = .ok (.getfield 46, 3) := by decide +kernel
theorem dX6_settle_88 : decode cX6_settle 88 = .ok (.iconst 1, 1) := by decide +kernel
theorem dX6_settle_89 : decode cX6_settle 89 = .ok (.aload_n 1, 1) := by decide +kernel
theorem dX6_settle_90 : decode cX6_settle 90 = .ok (.getfield 241, 3) := by decide +kernel
theorem dX6_settle_93 : decode cX6_settle 93 = .ok (.ishl, 1) := by decide +kernel
theorem dX6_settle_94 : decode cX6_settle 94 = .ok (.iadd, 1) := by decide +kernel
theorem dX6_settle_95 : decode cX6_settle 95 = .ok (.putfield 244, 3) := by decide +kernel
theorem dX6_settle_98 : decode cX6_settle 98 = .ok (.aload_n 3, 1) := by decide +kernel
theorem dX6_settle_99 : decode cX6_settle 99 = .ok (.getfield 121, 3) := by decide +kernel
theorem dX6_settle_102 : decode cX6_settle 102 = .ok (.getfield 125, 3) := by decide +kernel
theorem dX6_settle_105 : decode cX6_settle 105 = .ok (.aload_n 1, 1) := by decide +kernel
theorem dX6_settle_106 : decode cX6_settle 106 = .ok (.invokevirtual 134, 3) := by decide +kernel
theorem dX6_settle_109 : decode cX6_settle 109 = .ok (.goto 28, 3) := by decide +kernel
theorem dX6_settle_112 : decode cX6_settle 112 = .ok (.aload_n 1, 1) := by decide +kernel
theorem dX6_settle_113 : decode cX6_settle 113 = .ok (.iconst 1, 1) := by decide +kernel
theorem dX6_settle_114 : decode cX6_settle 114 = .ok (.putfield 247, 3) := by decide +kernel
theorem dX6_settle_117 : decode cX6_settle 117 = .ok (.aload_n 3, 1) := by decide +kernel
theorem dX6_settle_118 : decode cX6_settle 118 = .ok (.getfield 121, 3) := by decide +kernel
theorem dX6_settle_121 : decode cX6_settle 121 = .ok (.getfield 125, 3) := by decide +kernel
theorem dX6_settle_124 : decode cX6_settle 124 = .ok (.aload_n 1, 1) := by decide +kernel
theorem dX6_settle_125 : decode cX6_settle 125 = .ok (.invokevirtual 134, 3) := by decide +kernel
theorem dX6_settle_128 : decode cX6_settle 128 = .ok (.goto 9, 3) := by decide +kernel
theorem dX6_settle_131 : decode cX6_settle 131 = .ok (.aload_n 0, 1) := by decide +kernel
theorem dX6_settle_132 : decode cX6_settle 132 = .ok (.aload_n 3, 1) := by decide +kernel
theorem dX6_settle_133 : decode cX6_settle 133 = .ok (.iconst 2, 1) := by decide +kernel
theorem dX6_settle_134 : decode cX6_settle 134 = .ok (.invokevirtual 228, 3) := by decide +kernel
theorem dX6_settle_137 : decode cX6_settle 137 = .ok (.return_, 1) := by decide +kernel
theorem dX6_setKeyword_0 : decode cX6_setKeyword 0 = .ok (.iload_n 1, 1) := by decide +kernel
theorem dX6_setKeyword_1 : decode cX6_setKeyword 1 = .ok (.ifCond .le 20, 3) := by decide +kernel
theorem dX6_setKeyword_4 : decode cX6_setKeyword 4 = .ok (.iload_n 1, 1) := by decide +kernel
theorem dX6_setKeyword_5 : decode cX6_setKeyword 5 = .ok (.iconst 5, 1) := by decide +kernel
theorem dX6_setKeyword_6 : decode cX6_setKeyword 6 = .ok (.if_icmp .ge 15, 3) := by decide +kernel
theorem dX6_setKeyword_9 : decode cX6_setKeyword 9 = .ok (.iload_n 2, 1) := by decide +kernel
theorem dX6_setKeyword_10 : decode cX6_setKeyword 10 = .ok (.iconst (-1), 1) := by decide +kernel
theorem dX6_setKeyword_11 : decode cX6_setKeyword 11 = .ok (.if_icmp .lt 10, 3) := by decide +kernel
theorem dX6_setKeyword_14 : decode cX6_setKeyword 14 = .ok (.iload_n 2, 1) := by decide +kernel
theorem dX6_setKeyword_15 : decode cX6_setKeyword 15 = .ok (.sipush 999, 3) := by decide +kernel
theorem dX6_setKeyword_18 : decode cX6_setKeyword 18 = .ok (.if_icmp .le 13, 3) := by decide +kernel
theorem dX6_setKeyword_21 : decode cX6_setKeyword 21 = .ok (.new 50, 3) := by decide +kernel
theorem dX6_setKeyword_24 : decode cX6_setKeyword 24 = .ok (.dup, 1) := by decide +kernel
theorem dX6_setKeyword_25 : decode cX6_setKeyword 25 = .ok (.ldc 250, 2) := by decide +kernel
theorem dX6_setKeyword_27 : decode cX6_setKeyword 27 = .ok (.invokespecial 54, 3) := by decide +kernel
theorem dX6_setKeyword_30 : decode cX6_setKeyword 30 = .ok (.athrow, 1) := by decide +kernel
theorem dX6_setKeyword_31 : decode cX6_setKeyword 31 = .ok (.aload_n 0, 1) := by decide +kernel
theorem dX6_setKeyword_32 : decode cX6_setKeyword 32 = .ok (.getfield 42, 3) := by decide +kernel
theorem dX6_setKeyword_35 : decode cX6_setKeyword 35 = .ok (.iload_n 1, 1) := by decide +kernel
theorem dX6_setKeyword_36 : decode cX6_setKeyword 36 = .ok (.iload_n 2, 1) := by decide +kernel
theorem dX6_setKeyword_37 : decode cX6_setKeyword 37 = .ok (.invokevirtual 252, 3) := by decide +kernel
theorem dX6_setKeyword_40 : decode cX6_setKeyword 40 = .ok (.return_, 1) := by decide +kernel
theorem dX6_come_0 : decode cX6_come 0 = .ok (.iload_n 1, 1) := by decide +kernel
theorem dX6_come_1 : decode cX6_come 1 = .ok (.ifCond .lt 20, 3) := by decide +kernel
theorem dX6_come_4 : decode cX6_come 4 = .ok (.iload_n 1, 1) := by decide +kernel
theorem dX6_come_5 : decode cX6_come 5 = .ok (.bipush 9, 2) := by decide +kernel
theorem dX6_come_7 : decode cX6_come 7 = .ok (.if_icmp .ge 14, 3) := by decide +kernel
theorem dX6_come_10 : decode cX6_come 10 = .ok (.iload_n 2, 1) := by decide +kernel
theorem dX6_come_11 : decode cX6_come 11 = .ok (.ifCond .lt 10, 3) := by decide +kernel
theorem dX6_come_14 : decode cX6_come 14 = .ok (.iload_n 2, 1) := by decide +kernel
theorem dX6_come_15 : decode cX6_come 15 = .ok (.sipush 999, 3) := by decide +kernel
theorem dX6_come_18 : decode cX6_come 18 = .ok (.if_icmp .le 13, 3) := by decide +kernel
theorem dX6_come_21 : decode cX6_come 21 = .ok (.new 50, 3) := by decide +kernel
theorem dX6_come_24 : decode cX6_come 24 = .ok (.dup, 1) := by decide +kernel
theorem dX6_come_25 : decode cX6_come 25 = .ok (.ldc 255, 2) := by decide +kernel
theorem dX6_come_27 : decode cX6_come 27 = .ok (.invokespecial 54, 3) := by decide +kernel
theorem dX6_come_30 : decode cX6_come 30 = .ok (.athrow, 1) := by decide +kernel
theorem dX6_come_31 : decode cX6_come 31 = .ok (.aload_n 0, 1) := by decide +kernel
theorem dX6_come_32 : decode cX6_come 32 = .ok (.getfield 42, 3) := by decide +kernel
theorem dX6_come_35 : decode cX6_come 35 = .ok (.iload_n 1, 1) := by decide +kernel
theorem dX6_come_36 : decode cX6_come 36 = .ok (.iload_n 2, 1) := by decide +kernel
theorem dX6_come_37 : decode cX6_come 37 = .ok (.aload_n 0, 1) := by decide +kernel
theorem dX6_come_38 : decode cX6_come 38 = .ok (.getfield 46, 3) := by decide +kernel
theorem dX6_come_41 : decode cX6_come 41 = .ok (.invokevirtual 257, 3) := by decide +kernel
theorem dX6_come_44 : decode cX6_come 44 = .ok (.ireturn, 1) := by decide +kernel
end
section
theorem dX7_init_0 : decode cX7_init 0 = .ok (.aload_n 0, 1) := by decide +kernel
theorem dX7_init_1 : decode cX7_init 1 = .ok (.invokespecial 1, 3) := by decide +kernel
theorem dX7_init_4 : decode cX7_init 4 = .ok (.aload_n 0, 1) := by decide +kernel
theorem dX7_init_5 : decode cX7_init 5 = .ok (.sipush 400, 3) := by decide +kernel
theorem dX7_init_8 : decode cX7_init 8 = .ok (.newarray .int, 2) := by decide +kernel
theorem dX7_init_10 : decode cX7_init 10 = .ok (.putfield 7, 3) := by decide +kernel
theorem dX7_init_13 : decode cX7_init 13 = .ok (.aload_n 0, 1) := by decide +kernel
theorem dX7_init_14 : decode cX7_init 14 = .ok (.sipush 8000, 3) := by decide +kernel
theorem dX7_init_17 : decode cX7_init 17 = .ok (.newarray .int, 2) := by decide +kernel
theorem dX7_init_19 : decode cX7_init 19 = .ok (.putfield 13, 3) := by decide +kernel
theorem dX7_init_22 : decode cX7_init 22 = .ok (.aload_n 0, 1) := by decide +kernel
theorem dX7_init_23 : decode cX7_init 23 = .ok (.bipush 20, 2) := by decide +kernel
theorem dX7_init_25 : decode cX7_init 25 = .ok (.newarray .int, 2) := by decide +kernel
theorem dX7_init_27 : decode cX7_init 27 = .ok (.putfield 16, 3) := by decide +kernel
theorem dX7_init_30 : decode cX7_init 30 = .ok (.aload_n 0, 1) := by decide +kernel
theorem dX7_init_31 : decode cX7_init 31 = .ok (.bipush 20, 2) := by decide +kernel
theorem dX7_init_33 : decode cX7_init 33 = .ok (.newarray .int, 2) := by decide +kernel
theorem dX7_init_35 : decode cX7_init 35 = .ok (.putfield 19, 3) := by decide +kernel
theorem dX7_init_38 : decode cX7_init 38 = .ok (.aload_n 0, 1) := by decide +kernel
theorem dX7_init_39 : decode cX7_init 39 = .ok (.bipush 20, 2) := by decide +kernel
theorem dX7_init_41 : decode cX7_init 41 = .ok (.newarray .int, 2) := by decide +kernel
theorem dX7_init_43 : decode cX7_init 43 = .ok (.putfield 22, 3) := by decide +kernel
theorem dX7_init_46 : decode cX7_init 46 = .ok (.aload_n 0, 1) := by decide +kernel
theorem dX7_init_47 : decode cX7_init 47 = .ok (.bipush 20, 2) := by decide +kernel
theorem dX7_init_49 : decode cX7_init 49 = .ok (.newarray .int, 2) := by decide +kernel
theorem dX7_init_51 : decode cX7_init 51 = .ok (.putfield 25, 3) := by decide +kernel
theorem dX7_init_54 : decode cX7_init 54 = .ok (.aload_n 0, 1) := by decide +kernel
theorem dX7_init_55 : decode cX7_init 55 = .ok (.bipush 20, 2) := by decide +kernel
theorem dX7_init_57 : decode cX7_init 57 = .ok (.newarray .int, 2) := by decide +kernel
theorem dX7_init_59 : decode cX7_init 59 = .ok (.putfield 28, 3) := by decide +kernel
theorem dX7_init_62 : decode cX7_init 62 = .ok (.aload_n 0, 1) := by decide +kernel
theorem dX7_init_63 : decode cX7_init 63 = .ok (.sipush 200, 3) := by decide +kernel
theorem dX7_init_66 : decode cX7_init 66 = .ok (.newarray .int, 2) := by decide +kernel
theorem dX7_init_68 : decode cX7_init 68 = .ok (.putfield 31, 3) := by decide +kernel
theorem dX7_init_71 : decode cX7_init 71 = .ok (.aload_n 0, 1) := by decide +kernel
theorem dX7_init_72 : decode cX7_init 72 = .ok (.sipush 200, 3) := by decide +kernel
theorem dX7_init_75 : decode cX7_init 75 = .ok (.newarray .int, 2) := by decide +kernel
theorem dX7_init_77 : decode cX7_init 77 = .ok (.putfield 34, 3) := by decide +kernel
theorem dX7_init_80 : decode cX7_init 80 = .ok (.aload_n 0, 1) := by decide +kernel
theorem dX7_init_81 : decode cX7_init 81 = .ok (.sipush 200, 3) := by decide +kernel
theorem dX7_init_84 : decode cX7_init 84 = .ok (.newarray .boolean, 2) := by decide +kernel
theorem dX7_init_86 : decode cX7_init 86 = .ok (.putfield 37, 3) := by decide +kernel
theorem dX7_init_89 : decode cX7_init 89 = .ok (.aload_n 0, 1) := by decide +kernel
theorem dX7_init_90 : decode cX7_init 90 = .ok (.sipush 200, 3) := by decide +kernel
theorem dX7_init_93 : decode cX7_init 93 = .ok (.newarray .boolean, 2) := by decide +kernel
theorem dX7_init_95 : decode cX7_init 95 = .ok (.putfield 41, 3) := by decide +kernel
theorem dX7_init_98 : decode cX7_init 98 = .ok (.aload_n 0, 1) := by decide +kernel
theorem dX7_init_99 : decode cX7_init 99 = .ok (.iconst 3, 1) := by decide +kernel
theorem dX7_init_100 : decode cX7_init 100 = .ok (.newarray .int, 2) := by decide +kernel
theorem dX7_init_102 : decode cX7_init 102 = .ok (.putfield 44, 3) := by decide +kernel
theorem dX7_init_105 : decode cX7_init 105 = .ok (.aload_n 0, 1) := by decide +kernel
theorem dX7_init_106 : decode cX7_init 106 = .ok (.sipush 600, 3) := by decide +kernel
theorem dX7_init_109 : decode cX7_init 109 = .ok (.newarray .int, 2) := by decide +kernel
theorem dX7_init_111 : decode cX7_init 111 = .ok (.putfield 47, 3) := by decide +kernel
theorem dX7_init_114 : decode cX7_init 114 = .ok (.aload_n 0, 1) := by decide +kernel
theorem dX7_init_115 : decode cX7_init 115 = .ok (.iconst 3, 1) := by decide +kernel
theorem dX7_init_116 : decode cX7_init 116 = .ok (.newarray .int, 2) := by decide +kernel
theorem dX7_init_118 : decode cX7_init 118 = .ok (.putfield 50, 3) := by decide +kernel
theorem dX7_init_121 : decode cX7_init 121 = .ok (.aload_n 0, 1) := by decide +kernel
theorem dX7_init_122 : decode cX7_init 122 = .ok (.sipush 600, 3) := by decide +kernel
theorem dX7_init_125 : decode cX7_init 125 = .ok (.newarray .int, 2) := by decide +kernel
theorem dX7_init_127 : decode cX7_init 127 = .ok (.putfield 53, 3) := by decide +kernel
theorem dX7_init_130 : decode cX7_init 130 = .ok (.aload_n 0, 1) := by decide +kernel
theorem dX7_init_131 : decode cX7_init 131 = .ok (.iconst 3, 1) := by decide +kernel
theorem dX7_init_132 : decode cX7_init 132 = .ok (.newarray .boolean, 2) := by decide +kernel
theorem dX7_init_134 : decode cX7_init 134 = .ok (.putfield 56, 3) := by decide +kernel
theorem dX7_init_137 : decode cX7_init 137 = .ok (.aload_n 0, 1) := by decide +kernel
theorem dX7_init_138 : decode cX7_init 138 = .ok (.iconst 3, 1) := by decide +kernel
theorem dX7_init_139 : decode cX7_init 139 = .ok (.newarray .int, 2) := by decide +kernel
theorem dX7_init_141 : decode cX7_init 141 = .ok (.putfield 59, 3) := by decide +kernel
theorem dX7_init_144 : decode cX7_init 144 = .ok (.aload_n 0, 1) := by decide +kernel
theorem dX7_init_145 : decode cX7_init 145 = .ok (.iconst 3, 1) := by decide +kernel
theorem dX7_init_146 : decode cX7_init 146 = .ok (.newarray .int, 2) := by decide +kernel
theorem dX7_init_148 : decode cX7_init 148 = .ok (.putfield 62, 3) := by decide +kernel
theorem dX7_init_151 : decode cX7_init 151 = .ok (.aload_n 0, 1) := by decide +kernel
theorem dX7_init_152 : decode cX7_init 152 = .ok (.iconst 5, 1) := by decide +kernel
theorem dX7_init_153 : decode cX7_init 153 = .ok (.newarray .int, 2) := by decide +kernel
theorem dX7_init_155 : decode cX7_init 155 = .ok (.putfield 65, 3) := by decide +kernel
theorem dX7_init_158 : decode cX7_init 158 = .ok (.aload_n 0, 1) := by decide +kernel
theorem dX7_init_159 : decode cX7_init 159 = .ok (.bipush 9, 2) := by decide +kernel
theorem dX7_init_161 : decode cX7_init 161 = .ok (.newarray .int, 2) := by decide +kernel
theorem dX7_init_163 : decode cX7_init 163 = .ok (.putfield 68, 3) := by decide +kernel
theorem dX7_init_166 : decode cX7_init 166 = .ok (.aload_n 0, 1) := by decide +kernel
theorem dX7_init_167 : decode cX7_init 167 = .ok (.bipush 9, 2) := by decide +kernel
theorem dX7_init_169 : decode cX7_init 169 = .ok (.newarray .int, 2) := by decide +kernel
theorem dX7_init_171 : decode cX7_init 171 = .ok (.putfield 71, 3) := by decide +kernel
theorem dX7_init_174 : decode cX7_init 174 = .ok (.iconst 0, 1) := by decide +kernel
theorem dX7_init_175 : decode cX7_init 175 = .ok (.istore_n 1, 1) := by decide +kernel
theorem dX7_init_176 : decode cX7_init 176 = .ok (.iload_n 1, 1) := by decide +kernel
theorem dX7_init_177 : decode cX7_init 177 = .ok (.iconst 3, 1) := by decide +kernel
theorem dX7_init_178 : decode cX7_init 178 = .ok (.if_icmp .ge 23, 3) := by decide +kernel
theorem dX7_init_181 : decode cX7_init 181 = .ok (.aload_n 0, 1) := by decide +kernel
theorem dX7_init_182 : decode cX7_init 182 = .ok (.getfield 59, 3) := by decide +kernel
theorem dX7_init_185 : decode cX7_init 185 = .ok (.iload_n 1, 1) := by decide +kernel
theorem dX7_init_186 : decode cX7_init 186 = .ok (.iconst 5, 1) := by decide +kernel
theorem dX7_init_187 : decode cX7_init 187 = .ok (.iastore, 1) := by decide +kernel
theorem dX7_init_188 : decode cX7_init 188 = .ok (.aload_n 0, 1) := by decide +kernel
theorem dX7_init_189 : decode cX7_init 189 = .ok (.getfield 62, 3) := by decide +kernel
theorem dX7_init_192 : decode cX7_init 192 = .ok (.iload_n 1, 1) := by decide +kernel
theorem dX7_init_193 : decode cX7_init 193 = .ok (.iconst 2, 1) := by decide +kernel
theorem dX7_init_194 : decode cX7_init 194 = .ok (.iastore, 1) := by decide +kernel
theorem dX7_init_195 : decode cX7_init 195 = .ok (.iinc 1 1, 3) := by decide +kernel
theorem dX7_init_198 : decode cX7_init 198 = .ok (.goto (-22), 3) := by decide +kernel
theorem dX7_init_201 : decode cX7_init 201 = .ok (.iconst 0, 1) := by decide +kernel
theorem dX7_init_202 : decode cX7_init 202 = .ok (.istore_n 1, 1) := by decide +kernel
theorem dX7_init_203 : decode cX7_init 203 = .ok (.iload_n 1, 1) := by decide +kernel
theorem dX7_init_204 : decode cX7_init 204 = .ok (.iconst 5, 1) := by decide +kernel
theorem dX7_init_205 : decode cX7_init 205 = .ok (.if_icmp .ge 16, 3) := by decide +kernel
theorem dX7_init_208 : decode cX7_init 208 = .ok (.aload_n 0, 1) := by decide +kernel
theorem dX7_init_209 : decode cX7_init 209 = .ok (.getfield 65, 3) := by decide +kernel
theorem dX7_init_212 : decode cX7_init 212 = .ok (.iload_n 1, 1) := by decide +kernel
theorem dX7_init_213 : decode cX7_init 213 = .ok (.iconst (-1), 1) := by decide +kernel
theorem dX7_init_214 : decode cX7_init 214 = .ok (.iastore, 1) := by decide +kernel
theorem dX7_init_215 : decode cX7_init 215 = .ok (.iinc 1 1, 3) := by decide +kernel
theorem dX7_init_218 : decode cX7_init 218 = .ok (.goto (-15), 3) := by decide +kernel
theorem dX7_init_221 : decode cX7_init 221 = .ok (.return_, 1) := by decide +kernel
theorem dX7_thrown_0 : decode cX7_thrown 0 = .ok (.aload_n 0, 1) := by decide +kernel
theorem dX7_thrown_1 : decode cX7_thrown 1 = .ok (.getfield 74, 3) := by decide +kernel
theorem dX7_thrown_4 : decode cX7_thrown 4 = .ok (.ireturn, 1) := by decide +kernel
theorem dX7_fails_0 : decode cX7_fails 0 = .ok (.aload_n 0, 1) := by decide +kernel
theorem dX7_fails_1 : decode cX7_fails 1 = .ok (.iload_n 1, 1) := by decide +kernel
theorem dX7_fails_2 : decode cX7_fails 2 = .ok (.putfield 74, 3) := by decide +kernel
theorem dX7_fails_5 : decode cX7_fails 5 = .ok (.iload_n 1, 1) := by decide +kernel
theorem dX7_fails_6 : decode cX7_fails 6 = .ok (.ifCond .le 7, 3) := by decide +kernel
theorem dX7_fails_9 : decode cX7_fails 9 = .ok (.iconst 1, 1) := by decide +kernel
theorem dX7_fails_10 : decode cX7_fails 10 = .ok (.goto 4, 3) := by decide +kernel
theorem dX7_fails_13 : decode cX7_fails 13 = .ok (.iconst 0, 1) := by decide +kernel
theorem dX7_fails_14 : decode cX7_fails 14 = .ok (.ireturn, 1) := by decide +kernel
theorem dX7_tells_0 : decode cX7_tells 0 = .ok (.aload_n 0, 1) := by decide +kernel
theorem dX7_tells_1 : decode cX7_tells 1 = .ok (.iconst 0, 1) := by decide +kernel
theorem dX7_tells_2 : decode cX7_tells 2 = .ok (.putfield 74, 3) := by decide +kernel
theorem dX7_tells_5 : decode cX7_tells 5 = .ok (.iload_n 1, 1) := by decide +kernel
theorem dX7_tells_6 : decode cX7_tells 6 = .ok (.ireturn, 1) := by decide +kernel
theorem dX7_isIn_0 : decode cX7_isIn 0 = .ok (.iload_n 0, 1) := by decide +kernel
theorem dX7_isIn_1 : decode cX7_isIn 1 = .ok (.iload_n 1, 1) := by decide +kernel
theorem dX7_isIn_2 : decode cX7_isIn 2 = .ok (.if_icmp .lt 12, 3) := by decide +kernel
theorem dX7_isIn_5 : decode cX7_isIn 5 = .ok (.iload_n 0, 1) := by decide +kernel
theorem dX7_isIn_6 : decode cX7_isIn 6 = .ok (.iload_n 2, 1) := by decide +kernel
theorem dX7_isIn_7 : decode cX7_isIn 7 = .ok (.if_icmp .gt 7, 3) := by decide +kernel
theorem dX7_isIn_10 : decode cX7_isIn 10 = .ok (.iconst 1, 1) := by decide +kernel
theorem dX7_isIn_11 : decode cX7_isIn 11 = .ok (.goto 4, 3) := by decide +kernel
theorem dX7_isIn_14 : decode cX7_isIn 14 = .ok (.iconst 0, 1) := by decide +kernel
theorem dX7_isIn_15 : decode cX7_isIn 15 = .ok (.ireturn, 1) := by decide +kernel
theorem dX7_hasWide_0 : decode cX7_hasWide 0 = .ok (.iconst 0, 1) := by decide +kernel
theorem dX7_hasWide_1 : decode cX7_hasWide 1 = .ok (.istore_n 3, 1) := by decide +kernel
theorem dX7_hasWide_2 : decode cX7_hasWide 2 = .ok (.iload_n 1, 1) := by decide +kernel
theorem dX7_hasWide_3 : decode cX7_hasWide 3 = .ok (.istore 4, 2) := by decide +kernel
theorem dX7_hasWide_5 : decode cX7_hasWide 5 = .ok (.iload 4, 2) := by decide +kernel
theorem dX7_hasWide_7 : decode cX7_hasWide 7 = .ok (.iload_n 1, 1) := by decide +kernel
theorem dX7_hasWide_8 : decode cX7_hasWide 8 = .ok (.iload_n 2, 1) := by decide +kernel
theorem dX7_hasWide_9 : decode cX7_hasWide 9 = .ok (.iadd, 1) := by decide +kernel
theorem dX7_hasWide_10 : decode cX7_hasWide 10 = .ok (.if_icmp .ge 29, 3) := by decide +kernel
theorem dX7_hasWide_13 : decode cX7_hasWide 13 = .ok (.iload_n 3, 1) := by decide +kernel
theorem dX7_hasWide_14 : decode cX7_hasWide 14 = .ok (.ifCond .ne 13, 3) := by decide +kernel
theorem dX7_hasWide_17 : decode cX7_hasWide 17 = .ok (.aload_n 0, 1) := by decide +kernel
theorem dX7_hasWide_18 : decode cX7_hasWide 18 = .ok (.iload 4, 2) := by decide +kernel
theorem dX7_hasWide_20 : decode cX7_hasWide 20 = .ok (.iaload, 1) := by decide +kernel
theorem dX7_hasWide_21 : decode cX7_hasWide 21 = .ok (.sipush 159, 3) := by decide +kernel
theorem dX7_hasWide_24 : decode cX7_hasWide 24 = .ok (.if_icmp .le 7, 3) := by decide +kernel
theorem dX7_hasWide_27 : decode cX7_hasWide 27 = .ok (.iconst 1, 1) := by decide +kernel
theorem dX7_hasWide_28 : decode cX7_hasWide 28 = .ok (.goto 4, 3) := by decide +kernel
theorem dX7_hasWide_31 : decode cX7_hasWide 31 = .ok (.iconst 0, 1) := by decide +kernel
theorem dX7_hasWide_32 : decode cX7_hasWide 32 = .ok (.istore_n 3, 1) := by decide +kernel
theorem dX7_hasWide_33 : decode cX7_hasWide 33 = .ok (.iinc 4 1, 3) := by decide +kernel
theorem dX7_hasWide_36 : decode cX7_hasWide 36 = .ok (.goto (-31), 3) := by decide +kernel
theorem dX7_hasWide_39 : decode cX7_hasWide 39 = .ok (.iload_n 3, 1) := by decide +kernel
theorem dX7_hasWide_40 : decode cX7_hasWide 40 = .ok (.ireturn, 1) := by decide +kernel
theorem dX7_width_0 : decode cX7_width 0 = .ok (.iload_n 0, 1) := by decide +kernel
theorem dX7_width_1 : decode cX7_width 1 = .ok (.sipush 128, 3) := by decide +kernel
theorem dX7_width_4 : decode cX7_width 4 = .ok (.if_icmp .ge 7, 3) := by decide +kernel
theorem dX7_width_7 : decode cX7_width 7 = .ok (.iconst 1, 1) := by decide +kernel
theorem dX7_width_8 : decode cX7_width 8 = .ok (.goto 4, 3) := by decide +kernel
theorem dX7_width_11 : decode cX7_width 11 = .ok (.iconst 2, 1) := by decide +kernel
theorem dX7_width_12 : decode cX7_width 12 = .ok (.ireturn, 1) := by decide +kernel
theorem dX7_septetsIn_0 : decode cX7_septetsIn 0 = .ok (.iconst 0, 1) := by decide +kernel
theorem dX7_septetsIn_1 : decode cX7_septetsIn 1 = .ok (.istore_n 3, 1) := by decide +kernel
theorem dX7_septetsIn_2 : decode cX7_septetsIn 2 = .ok (.iload_n 1, 1) := by decide +kernel
theorem dX7_septetsIn_3 : decode cX7_septetsIn 3 = .ok (.istore 4, 2) := by decide +kernel
theorem dX7_septetsIn_5 : decode cX7_septetsIn 5 = .ok (.iload 4, 2) := by decide +kernel
theorem dX7_septetsIn_7 : decode cX7_septetsIn 7 = .ok (.iload_n 1, 1) := by decide +kernel
theorem dX7_septetsIn_8 : decode cX7_septetsIn 8 = .ok (.iload_n 2, 1) := by decide +kernel
theorem dX7_septetsIn_9 : decode cX7_septetsIn 9 = .ok (.iadd, 1) := by decide +kernel
theorem dX7_septetsIn_10 : decode cX7_septetsIn 10 = .ok (.if_icmp .ge 19, 3) := by decide +kernel
theorem dX7_septetsIn_13 : decode cX7_septetsIn 13 = .ok (.iload_n 3, 1) := by decide +kernel
theorem dX7_septetsIn_14 : decode cX7_septetsIn 14 = .ok (.aload_n 0, 1) := by decide +kernel
theorem dX7_septetsIn_15 : decode cX7_septetsIn 15 = .ok (.iload 4, 2) := by decide +kernel
theorem dX7_septetsIn_17 : decode cX7_septetsIn 17 = .ok (.iaload, 1) := by decide +kernel
theorem dX7_septetsIn_18 : decode cX7_septetsIn 18 = .ok (.invokestatic 78, 3) := by decide +kernel
theorem dX7_septetsIn_21 : decode cX7_septetsIn 21 = .ok (.iadd, 1) := by decide +kernel
theorem dX7_septetsIn_22 : decode cX7_septetsIn 22 = .ok (.istore_n 3, 1) := by decide +kernel
theorem dX7_septetsIn_23 : decode cX7_septetsIn 23 = .ok (.iinc 4 1, 3) := by decide +kernel
theorem dX7_septetsIn_26 : decode cX7_septetsIn 26 = .ok (.goto (-21), 3) := by decide +kernel
theorem dX7_septetsIn_29 : decode cX7_septetsIn 29 = .ok (.iload_n 3, 1) := by decide +kernel
theorem dX7_septetsIn_30 : decode cX7_septetsIn 30 = .ok (.ireturn, 1) := by decide +kernel
theorem dX7_signsOf_0 : decode cX7_signsOf 0 = .ok (.aload_n 0, 1) := by decide +kernel
theorem dX7_signsOf_1 : decode cX7_signsOf 1 = .ok (.iload_n 1, 1) := by decide +kernel
theorem dX7_signsOf_2 : decode cX7_signsOf 2 = .ok (.iload_n 2, 1) := by decide +kernel
theorem dX7_signsOf_3 : decode cX7_signsOf 3 = .ok (.invokestatic 82, 3) := by decide +kernel
theorem dX7_signsOf_6 : decode cX7_signsOf 6 = .ok (.istore 4, 2) := by decide +kernel
theorem dX7_signsOf_8 : decode cX7_signsOf 8 = .ok (.iload 4, 2) := by decide +kernel
theorem dX7_signsOf_10 : decode cX7_signsOf 10 = .ok (.ifCond .eq 12, 3) := by decide +kernel
theorem dX7_signsOf_13 : decode cX7_signsOf 13 = .ok (.iload_n 2, 1) := by decide +kernel
theorem dX7_signsOf_14 : decode cX7_signsOf 14 = .ok (.bipush 70, 2) := by decide +kernel
theorem dX7_signsOf_16 : decode cX7_signsOf 16 = .ok (.if_icmp .gt 28, 3) := by decide +kernel
theorem dX7_signsOf_19 : decode cX7_signsOf 19 = .ok (.goto 15, 3) := by decide +kernel
theorem dX7_signsOf_22 : decode cX7_signsOf 22 = .ok (.aload_n 0, 1) := by decide +kernel
theorem dX7_signsOf_23 : decode cX7_signsOf 23 = .ok (.iload_n 1, 1) := by decide +kernel
theorem dX7_signsOf_24 : decode cX7_signsOf 24 = .ok (.iload_n 2, 1) := by decide +kernel
theorem dX7_signsOf_25 : decode cX7_signsOf 25 = .ok (.invokestatic 86, 3) := by decide +kernel
theorem dX7_signsOf_28 : decode cX7_signsOf 28 = .ok (.sipush 160, 3) := by decide +kernel
theorem dX7_signsOf_31 : decode cX7_signsOf 31 = .ok (.if_icmp .gt 13, 3) := by decide +kernel
theorem dX7_signsOf_34 : decode cX7_signsOf 34 = .ok (.iload_n 3, 1) := by decide +kernel
theorem dX7_signsOf_35 : decode cX7_signsOf 35 = .ok (.ifCond .ne 7, 3) := by decide +kernel
theorem dX7_signsOf_38 : decode cX7_signsOf 38 = .ok (.iload_n 2, 1) := by decide +kernel
theorem dX7_signsOf_39 : decode cX7_signsOf 39 = .ok (.goto 4, 3) := by decide +kernel
theorem dX7_signsOf_42 : decode cX7_signsOf 42 = .ok (.iconst 0, 1) := by decide +kernel
theorem dX7_signsOf_43 : decode cX7_signsOf 43 = .ok (.ireturn, 1) := by decide +kernel
theorem dX7_signsOf_44 : decode cX7_signsOf 44 = .ok (.iconst 0, 1) := by decide +kernel
theorem dX7_signsOf_45 : decode cX7_signsOf 45 = .ok (.istore 5, 2) := by decide +kernel
theorem dX7_signsOf_47 : decode cX7_signsOf 47 = .ok (.iconst 0, 1) := by decide +kernel
theorem dX7_signsOf_48 : decode cX7_signsOf 48 = .ok (.istore 6, 2) := by decide +kernel
theorem dX7_signsOf_50 : decode cX7_signsOf 50 = .ok (.iconst 0, 1) := by decide +kernel
theorem dX7_signsOf_51 : decode cX7_signsOf 51 = .ok (.istore 7, 2) := by decide +kernel
theorem dX7_signsOf_53 : decode cX7_signsOf 53 = .ok (.iload 7, 2) := by decide +kernel
theorem dX7_signsOf_55 : decode cX7_signsOf 55 = .ok (.iload_n 3, 1) := by decide +kernel
theorem dX7_signsOf_56 : decode cX7_signsOf 56 = .ok (.if_icmp .gt 88, 3) := by decide +kernel
theorem dX7_signsOf_59 : decode cX7_signsOf 59 = .ok (.iconst 0, 1) := by decide +kernel
theorem dX7_signsOf_60 : decode cX7_signsOf 60 = .ok (.istore 6, 2) := by decide +kernel
theorem dX7_signsOf_62 : decode cX7_signsOf 62 = .ok (.iload 4, 2) := by decide +kernel
theorem dX7_signsOf_64 : decode cX7_signsOf 64 = .ok (.ifCond .eq 8, 3) := by decide +kernel
theorem dX7_signsOf_67 : decode cX7_signsOf 67 = .ok (.bipush 67, 2) := by decide +kernel
theorem dX7_signsOf_69 : decode cX7_signsOf 69 = .ok (.goto 6, 3) := by decide +kernel
theorem dX7_signsOf_72 : decode cX7_signsOf 72 = .ok (.sipush 153, 3) := by decide +kernel
theorem dX7_signsOf_75 : decode cX7_signsOf 75 = .ok (.istore 8, 2) := by decide +kernel
theorem dX7_signsOf_77 : decode cX7_signsOf 77 = .ok (.iload 5, 2) := by decide +kernel
theorem dX7_signsOf_79 : decode cX7_signsOf 79 = .ok (.iload_n 2, 1) := by decide +kernel
theorem dX7_signsOf_80 : decode cX7_signsOf 80 = .ok (.if_icmp .ge 58, 3) := by decide +kernel
theorem dX7_signsOf_83 : decode cX7_signsOf 83 = .ok (.iload 4, 2) := by decide +kernel
theorem dX7_signsOf_85 : decode cX7_signsOf 85 = .ok (.ifCond .eq 7, 3) := by decide +kernel
theorem dX7_signsOf_88 : decode cX7_signsOf 88 = .ok (.iconst 1, 1) := by decide +kernel
theorem dX7_signsOf_89 : decode cX7_signsOf 89 = .ok (.goto 12, 3) := by decide +kernel
theorem dX7_signsOf_92 : decode cX7_signsOf 92 = .ok (.aload_n 0, 1) := by decide +kernel
theorem dX7_signsOf_93 : decode cX7_signsOf 93 = .ok (.iload_n 1, 1) := by decide +kernel
theorem dX7_signsOf_94 : decode cX7_signsOf 94 = .ok (.iload 5, 2) := by decide +kernel
theorem dX7_signsOf_96 : decode cX7_signsOf 96 = .ok (.iadd, 1) := by decide +kernel
theorem dX7_signsOf_97 : decode cX7_signsOf 97 = .ok (.iaload, 1) := by decide +kernel
theorem dX7_signsOf_98 : decode cX7_signsOf 98 = .ok (.invokestatic 78, 3) := by decide +kernel
theorem dX7_signsOf_101 : decode cX7_signsOf 101 = .ok (.iload 8, 2) := by decide +kernel
theorem dX7_signsOf_103 : decode cX7_signsOf 103 = .ok (.if_icmp .gt 35, 3) := by decide +kernel
theorem dX7_signsOf_106 : decode cX7_signsOf 106 = .ok (.iload 8, 2) := by decide +kernel
theorem dX7_signsOf_108 : decode cX7_signsOf 108 = .ok (.iload 4, 2) := by decide +kernel
theorem dX7_signsOf_110 : decode cX7_signsOf 110 = .ok (.ifCond .eq 7, 3) := by decide +kernel
theorem dX7_signsOf_113 : decode cX7_signsOf 113 = .ok (.iconst 1, 1) := by decide +kernel
theorem dX7_signsOf_114 : decode cX7_signsOf 114 = .ok (.goto 12, 3) := by decide +kernel
theorem dX7_signsOf_117 : decode cX7_signsOf 117 = .ok (.aload_n 0, 1) := by decide +kernel
theorem dX7_signsOf_118 : decode cX7_signsOf 118 = .ok (.iload_n 1, 1) := by decide +kernel
theorem dX7_signsOf_119 : decode cX7_signsOf 119 = .ok (.iload 5, 2) := by decide +kernel
theorem dX7_signsOf_121 : decode cX7_signsOf 121 = .ok (.iadd, 1) := by decide +kernel
theorem dX7_signsOf_122 : decode cX7_signsOf 122 = .ok (.iaload, 1) := by decide +kernel
theorem dX7_signsOf_123 : decode cX7_signsOf 123 = .ok (.invokestatic 78, 3) := by decide +kernel
theorem dX7_signsOf_126 : decode cX7_signsOf 126 = .ok (.isub, 1) := by decide +kernel
theorem dX7_signsOf_127 : decode cX7_signsOf 127 = .ok (.istore 8, 2) := by decide +kernel
theorem dX7_signsOf_129 : decode cX7_signsOf 129 = .ok (.iinc 5 1, 3) := by decide +kernel
theorem dX7_signsOf_132 : decode cX7_signsOf 132 = .ok (.iinc 6 1, 3) := by decide +kernel
theorem dX7_signsOf_135 : decode cX7_signsOf 135 = .ok (.goto (-58), 3) := by decide +kernel
theorem dX7_signsOf_138 : decode cX7_signsOf 138 = .ok (.iinc 7 1, 3) := by decide +kernel
theorem dX7_signsOf_141 : decode cX7_signsOf 141 = .ok (.goto (-88), 3) := by decide +kernel
theorem dX7_signsOf_144 : decode cX7_signsOf 144 = .ok (.iload 6, 2) := by decide +kernel
theorem dX7_signsOf_146 : decode cX7_signsOf 146 = .ok (.ireturn, 1) := by decide +kernel
theorem dX7_partsOf_0 : decode cX7_partsOf 0 = .ok (.iconst 0, 1) := by decide +kernel
theorem dX7_partsOf_1 : decode cX7_partsOf 1 = .ok (.istore_n 3, 1) := by decide +kernel
theorem dX7_partsOf_2 : decode cX7_partsOf 2 = .ok (.aload_n 0, 1) := by decide +kernel
theorem dX7_partsOf_3 : decode cX7_partsOf 3 = .ok (.iload_n 1, 1) := by decide +kernel
theorem dX7_partsOf_4 : decode cX7_partsOf 4 = .ok (.iload_n 2, 1) := by decide +kernel
theorem dX7_partsOf_5 : decode cX7_partsOf 5 = .ok (.iload_n 3, 1) := by decide +kernel
theorem dX7_partsOf_6 : decode cX7_partsOf 6 = .ok (.invokestatic 90, 3) := by decide +kernel
theorem dX7_partsOf_9 : decode cX7_partsOf 9 = .ok (.ifCond .le 9, 3) := by decide +kernel
theorem dX7_partsOf_12 : decode cX7_partsOf 12 = .ok (.iinc 3 1, 3) := by decide +kernel
theorem dX7_partsOf_15 : decode cX7_partsOf 15 = .ok (.goto (-13), 3) := by decide +kernel
theorem dX7_partsOf_18 : decode cX7_partsOf 18 = .ok (.iload_n 3, 1) := by decide +kernel
theorem dX7_partsOf_19 : decode cX7_partsOf 19 = .ok (.ireturn, 1) := by decide +kernel
theorem dX7_begins_0 : decode cX7_begins 0 = .ok (.iconst 0, 1) := by decide +kernel
theorem dX7_begins_1 : decode cX7_begins 1 = .ok (.istore 4, 2) := by decide +kernel
theorem dX7_begins_3 : decode cX7_begins 3 = .ok (.iconst 0, 1) := by decide +kernel
theorem dX7_begins_4 : decode cX7_begins 4 = .ok (.istore 5, 2) := by decide +kernel
theorem dX7_begins_6 : decode cX7_begins 6 = .ok (.iload 5, 2) := by decide +kernel
theorem dX7_begins_8 : decode cX7_begins 8 = .ok (.iload_n 3, 1) := by decide +kernel
theorem dX7_begins_9 : decode cX7_begins 9 = .ok (.if_icmp .ge 22, 3) := by decide +kernel
theorem dX7_begins_12 : decode cX7_begins 12 = .ok (.iload 4, 2) := by decide +kernel
theorem dX7_begins_14 : decode cX7_begins 14 = .ok (.aload_n 0, 1) := by decide +kernel
theorem dX7_begins_15 : decode cX7_begins 15 = .ok (.iload_n 1, 1) := by decide +kernel
theorem dX7_begins_16 : decode cX7_begins 16 = .ok (.iload_n 2, 1) := by decide +kernel
theorem dX7_begins_17 : decode cX7_begins 17 = .ok (.iload 5, 2) := by decide +kernel
theorem dX7_begins_19 : decode cX7_begins 19 = .ok (.invokestatic 90, 3) := by decide +kernel
theorem dX7_begins_22 : decode cX7_begins 22 = .ok (.iadd, 1) := by decide +kernel
theorem dX7_begins_23 : decode cX7_begins 23 = .ok (.istore 4, 2) := by decide +kernel
theorem dX7_begins_25 : decode cX7_begins 25 = .ok (.iinc 5 1, 3) := by decide +kernel
theorem dX7_begins_28 : decode cX7_begins 28 = .ok (.goto (-22), 3) := by decide +kernel
theorem dX7_begins_31 : decode cX7_begins 31 = .ok (.iload 4, 2) := by decide +kernel
theorem dX7_begins_33 : decode cX7_begins 33 = .ok (.ireturn, 1) := by decide +kernel
theorem dX7_write_0 : decode cX7_write 0 = .ok (.iload_n 1, 1) := by decide +kernel
theorem dX7_write_1 : decode cX7_write 1 = .ok (.iconst 0, 1) := by decide +kernel
theorem dX7_write_2 : decode cX7_write 2 = .ok (.sipush 999, 3) := by decide +kernel
theorem dX7_write_5 : decode cX7_write 5 = .ok (.invokestatic 94, 3) := by decide +kernel
theorem dX7_write_8 : decode cX7_write 8 = .ok (.ifCond .eq 18, 3) := by decide +kernel
theorem dX7_write_11 : decode cX7_write 11 = .ok (.iload_n 2, 1) := by decide +kernel
theorem dX7_write_12 : decode cX7_write 12 = .ok (.iconst 1, 1) := by decide +kernel
theorem dX7_write_13 : decode cX7_write 13 = .ok (.sipush 200, 3) := by decide +kernel
theorem dX7_write_16 : decode cX7_write 16 = .ok (.invokestatic 94, 3) := by decide +kernel
theorem dX7_write_19 : decode cX7_write 19 = .ok (.ifCond .eq 7, 3) := by decide +kernel
theorem dX7_write_22 : decode cX7_write 22 = .ok (.iconst 1, 1) := by decide +kernel
theorem dX7_write_23 : decode cX7_write 23 = .ok (.goto 4, 3) := by decide +kernel
theorem dX7_write_26 : decode cX7_write 26 = .ok (.iconst 0, 1) := by decide +kernel
theorem dX7_write_27 : decode cX7_write 27 = .ok (.istore_n 3, 1) := by decide +kernel
theorem dX7_write_28 : decode cX7_write 28 = .ok (.aload_n 0, 1) := by decide +kernel
theorem dX7_write_29 : decode cX7_write 29 = .ok (.iload_n 3, 1) := by decide +kernel
theorem dX7_write_30 : decode cX7_write 30 = .ok (.ifCond .ne 7, 3) := by decide +kernel
theorem dX7_write_33 : decode cX7_write 33 = .ok (.iconst 1, 1) := by decide +kernel
theorem dX7_write_34 : decode cX7_write 34 = .ok (.goto 20, 3) := by decide +kernel
theorem dX7_write_37 : decode cX7_write 37 = .ok (.aload_n 0, 1) := by decide +kernel
theorem dX7_write_38 : decode cX7_write 38 = .ok (.getfield 98, 3) := by decide +kernel
theorem dX7_write_41 : decode cX7_write 41 = .ok (.iload_n 2, 1) := by decide +kernel
theorem dX7_write_42 : decode cX7_write 42 = .ok (.iadd, 1) := by decide +kernel
theorem dX7_write_43 : decode cX7_write 43 = .ok (.sipush 400, 3) := by decide +kernel
theorem dX7_write_46 : decode cX7_write 46 = .ok (.if_icmp .le 7, 3) := by decide +kernel
theorem dX7_write_49 : decode cX7_write 49 = .ok (.iconst 2, 1) := by decide +kernel
theorem dX7_write_50 : decode cX7_write 50 = .ok (.goto 4, 3) := by decide +kernel
theorem dX7_write_53 : decode cX7_write 53 = .ok (.iconst 0, 1) := by decide +kernel
theorem dX7_write_54 : decode cX7_write 54 = .ok (.invokevirtual 101, 3) := by decide +kernel
theorem dX7_write_57 : decode cX7_write 57 = .ok (.ifCond .eq 5, 3) := by decide +kernel
theorem dX7_write_60 : decode cX7_write 60 = .ok (.iconst 0, 1) := by decide +kernel
theorem dX7_write_61 : decode cX7_write 61 = .ok (.ireturn, 1) := by decide +kernel
theorem dX7_write_62 : decode cX7_write 62 = .ok (.iconst 0, 1) := by decide +kernel
theorem dX7_write_63 : decode cX7_write 63 = .ok (.istore 4, 2) := by decide +kernel
theorem dX7_write_65 : decode cX7_write 65 = .ok (.iload 4, 2) := by decide +kernel
theorem dX7_write_67 : decode cX7_write 67 = .ok (.iload_n 2, 1) := by decide +kernel
theorem dX7_write_68 : decode cX7_write 68 = .ok (.if_icmp .ge 29, 3) := by decide +kernel
theorem dX7_write_71 : decode cX7_write 71 = .ok (.aload_n 0, 1) := by decide +kernel
theorem dX7_write_72 : decode cX7_write 72 = .ok (.getfield 7, 3) := by decide +kernel
theorem dX7_write_75 : decode cX7_write 75 = .ok (.aload_n 0, 1) := by decide +kernel
theorem dX7_write_76 : decode cX7_write 76 = .ok (.getfield 98, 3) := by decide +kernel
theorem dX7_write_79 : decode cX7_write 79 = .ok (.iload_n 1, 1) := by decide +kernel
theorem dX7_write_80 : decode cX7_write 80 = .ok (.iastore, 1) := by decide +kernel
theorem dX7_write_81 : decode cX7_write 81 = .ok (.aload_n 0, 1) := by decide +kernel
theorem dX7_write_82 : decode cX7_write 82 = .ok (.dup, 1) := by decide +kernel
theorem dX7_write_83 : decode cX7_write 83 = .ok (.getfield 98, 3) := by decide +kernel
theorem dX7_write_86 : decode cX7_write 86 = .ok (.iconst 1, 1) := by decide +kernel
theorem dX7_write_87 : decode cX7_write 87 = .ok (.iadd, 1) := by decide +kernel
theorem dX7_write_88 : decode cX7_write 88 = .ok (.putfield 98, 3) := by decide +kernel
theorem dX7_write_91 : decode cX7_write 91 = .ok (.iinc 4 1, 3) := by decide +kernel
theorem dX7_write_94 : decode cX7_write 94 = .ok (.goto (-29), 3) := by decide +kernel
theorem dX7_write_97 : decode cX7_write 97 = .ok (.aload_n 0, 1) := by decide +kernel
theorem dX7_write_98 : decode cX7_write 98 = .ok (.getfield 98, 3) := by decide +kernel
theorem dX7_write_101 : decode cX7_write 101 = .ok (.ireturn, 1) := by decide +kernel
theorem dX7_erase_0 : decode cX7_erase 0 = .ok (.aload_n 0, 1) := by decide +kernel
theorem dX7_erase_1 : decode cX7_erase 1 = .ok (.iconst 0, 1) := by decide +kernel
theorem dX7_erase_2 : decode cX7_erase 2 = .ok (.putfield 74, 3) := by decide +kernel
theorem dX7_erase_5 : decode cX7_erase 5 = .ok (.aload_n 0, 1) := by decide +kernel
theorem dX7_erase_6 : decode cX7_erase 6 = .ok (.getfield 98, 3) := by decide +kernel
theorem dX7_erase_9 : decode cX7_erase 9 = .ok (.istore_n 1, 1) := by decide +kernel
theorem dX7_erase_10 : decode cX7_erase 10 = .ok (.aload_n 0, 1) := by decide +kernel
theorem dX7_erase_11 : decode cX7_erase 11 = .ok (.iconst 0, 1) := by decide +kernel
theorem dX7_erase_12 : decode cX7_erase 12 = .ok (.putfield 98, 3) := by decide +kernel
theorem dX7_erase_15 : decode cX7_erase 15 = .ok (.iload_n 1, 1) := by decide +kernel
theorem dX7_erase_16 : decode cX7_erase 16 = .ok (.ireturn, 1) := by decide +kernel
theorem dX7_isWide_0 : decode cX7_isWide 0 = .ok (.aload_n 0, 1) := by decide +kernel
theorem dX7_isWide_1 : decode cX7_isWide 1 = .ok (.iconst 0, 1) := by decide +kernel
theorem dX7_isWide_2 : decode cX7_isWide 2 = .ok (.putfield 74, 3) := by decide +kernel
theorem dX7_isWide_5 : decode cX7_isWide 5 = .ok (.aload_n 0, 1) := by decide +kernel
theorem dX7_isWide_6 : decode cX7_isWide 6 = .ok (.getfield 7, 3) := by decide +kernel
theorem dX7_isWide_9 : decode cX7_isWide 9 = .ok (.iconst 0, 1) := by decide +kernel
theorem dX7_isWide_10 : decode cX7_isWide 10 = .ok (.aload_n 0, 1) := by decide +kernel
theorem dX7_isWide_11 : decode cX7_isWide 11 = .ok (.getfield 98, 3) := by decide +kernel
theorem dX7_isWide_14 : decode cX7_isWide 14 = .ok (.invokestatic 82, 3) := by decide +kernel
theorem dX7_isWide_17 : decode cX7_isWide 17 = .ok (.ireturn, 1) := by decide +kernel
theorem dX7_septets_0 : decode cX7_septets 0 = .ok (.aload_n 0, 1) := by decide +kernel
theorem dX7_septets_1 : decode cX7_septets 1 = .ok (.aload_n 0, 1) := by decide +kernel
theorem dX7_septets_2 : decode cX7_septets 2 = .ok (.getfield 7, 3) := by decide +kernel
theorem dX7_septets_5 : decode cX7_septets 5 = .ok (.iconst 0, 1) := by decide +kernel
theorem dX7_septets_6 : decode cX7_septets 6 = .ok (.aload_n 0, 1) := by decide +kernel
theorem dX7_septets_7 : decode cX7_septets 7 = .ok (.getfield 98, 3) := by decide +kernel
theorem dX7_septets_10 : decode cX7_septets 10 = .ok (.invokestatic 82, 3) := by decide +kernel
theorem dX7_septets_13 : decode cX7_septets 13 = .ok (.ifCond .eq 7, 3) := by decide +kernel
theorem dX7_septets_16 : decode cX7_septets 16 = .ok (.iconst 1, 1) := by decide +kernel
theorem dX7_septets_17 : decode cX7_septets 17 = .ok (.goto 4, 3) := by decide +kernel
theorem dX7_septets_20 : decode cX7_septets 20 = .ok (.iconst 0, 1) := by decide +kernel
theorem dX7_septets_21 : decode cX7_septets 21 = .ok (.invokevirtual 101, 3) := by decide +kernel
theorem dX7_septets_24 : decode cX7_septets 24 = .ok (.ifCond .eq 7, 3) := by decide +kernel
theorem dX7_septets_27 : decode cX7_septets 27 = .ok (.iconst 0, 1) := by decide +kernel
theorem dX7_septets_28 : decode cX7_septets 28 = .ok (.goto 15, 3) := by decide +kernel
theorem dX7_septets_31 : decode cX7_septets 31 = .ok (.aload_n 0, 1) := by decide +kernel
theorem dX7_septets_32 : decode cX7_septets 32 = .ok (.getfield 7, 3) := by decide +kernel
theorem dX7_septets_35 : decode cX7_septets 35 = .ok (.iconst 0, 1) := by decide +kernel
theorem dX7_septets_36 : decode cX7_septets 36 = .ok (.aload_n 0, 1) := by decide +kernel
theorem dX7_septets_37 : decode cX7_septets 37 = .ok (.getfield 98, 3) := by decide +kernel
theorem dX7_septets_40 : decode cX7_septets 40 = .ok (.invokestatic 86, 3) := by decide +kernel
theorem dX7_septets_43 : decode cX7_septets 43 = .ok (.ireturn, 1) := by decide +kernel
theorem dX7_parts_0 : decode cX7_parts 0 = .ok (.aload_n 0, 1) := by decide +kernel
theorem dX7_parts_1 : decode cX7_parts 1 = .ok (.aload_n 0, 1) := by decide +kernel
theorem dX7_parts_2 : decode cX7_parts 2 = .ok (.getfield 7, 3) := by decide +kernel
theorem dX7_parts_5 : decode cX7_parts 5 = .ok (.iconst 0, 1) := by decide +kernel
theorem dX7_parts_6 : decode cX7_parts 6 = .ok (.aload_n 0, 1) := by decide +kernel
theorem dX7_parts_7 : decode cX7_parts 7 = .ok (.getfield 98, 3) := by decide +kernel
theorem dX7_parts_10 : decode cX7_parts 10 = .ok (.invokestatic 105, 3) := by decide +kernel
theorem dX7_parts_13 : decode cX7_parts 13 = .ok (.invokevirtual 108, 3) := by decide +kernel
theorem dX7_parts_16 : decode cX7_parts 16 = .ok (.ireturn, 1) := by decide +kernel
theorem dX7_isPart_0 : decode cX7_isPart 0 = .ok (.iload_n 1, 1) := by decide +kernel
theorem dX7_isPart_1 : decode cX7_isPart 1 = .ok (.ifCond .lt 23, 3) := by decide +kernel
theorem dX7_isPart_4 : decode cX7_isPart 4 = .ok (.iload_n 1, 1) := by decide +kernel
theorem dX7_isPart_5 : decode cX7_isPart 5 = .ok (.aload_n 0, 1) := by decide +kernel
theorem dX7_isPart_6 : decode cX7_isPart 6 = .ok (.getfield 7, 3) := by decide +kernel
theorem dX7_isPart_9 : decode cX7_isPart 9 = .ok (.iconst 0, 1) := by decide +kernel
theorem dX7_isPart_10 : decode cX7_isPart 10 = .ok (.aload_n 0, 1) := by decide +kernel
theorem dX7_isPart_11 : decode cX7_isPart 11 = .ok (.getfield 98, 3) := by decide +kernel
theorem dX7_isPart_14 : decode cX7_isPart 14 = .ok (.invokestatic 105, 3) := by decide +kernel
theorem dX7_isPart_17 : decode cX7_isPart 17 = .ok (.if_icmp .ge 7, 3) := by decide +kernel
theorem dX7_isPart_20 : decode cX7_isPart 20 = .ok (.iconst 1, 1) := by decide +kernel
theorem dX7_isPart_21 : decode cX7_isPart 21 = .ok (.goto 4, 3) := by decide +kernel
theorem dX7_isPart_24 : decode cX7_isPart 24 = .ok (.iconst 0, 1) := by decide +kernel
theorem dX7_isPart_25 : decode cX7_isPart 25 = .ok (.ireturn, 1) := by decide +kernel
theorem dX7_signs_0 : decode cX7_signs 0 = .ok (.aload_n 0, 1) := by decide +kernel
theorem dX7_signs_1 : decode cX7_signs 1 = .ok (.aload_n 0, 1) := by decide +kernel
theorem dX7_signs_2 : decode cX7_signs 2 = .ok (.iload_n 1, 1) := by decide +kernel
theorem dX7_signs_3 : decode cX7_signs 3 = .ok (.invokevirtual 111, 3) := by decide +kernel
theorem dX7_signs_6 : decode cX7_signs 6 = .ok (.ifCond .eq 7, 3) := by decide +kernel
theorem dX7_signs_9 : decode cX7_signs 9 = .ok (.iconst 0, 1) := by decide +kernel
theorem dX7_signs_10 : decode cX7_signs 10 = .ok (.goto 4, 3) := by decide +kernel
theorem dX7_signs_13 : decode cX7_signs 13 = .ok (.iconst 1, 1) := by decide +kernel
theorem dX7_signs_14 : decode cX7_signs 14 = .ok (.invokevirtual 101, 3) := by decide +kernel
theorem dX7_signs_17 : decode cX7_signs 17 = .ok (.ifCond .eq 7, 3) := by decide +kernel
theorem dX7_signs_20 : decode cX7_signs 20 = .ok (.iconst 0, 1) := by decide +kernel
theorem dX7_signs_21 : decode cX7_signs 21 = .ok (.goto 16, 3) := by decide +kernel
theorem dX7_signs_24 : decode cX7_signs 24 = .ok (.aload_n 0, 1) := by decide +kernel
theorem dX7_signs_25 : decode cX7_signs 25 = .ok (.getfield 7, 3) := by decide +kernel
theorem dX7_signs_28 : decode cX7_signs 28 = .ok (.iconst 0, 1) := by decide +kernel
theorem dX7_signs_29 : decode cX7_signs 29 = .ok (.aload_n 0, 1) := by decide +kernel
theorem dX7_signs_30 : decode cX7_signs 30 = .ok (.getfield 98, 3) := by decide +kernel
theorem dX7_signs_33 : decode cX7_signs 33 = .ok (.iload_n 1, 1) := by decide +kernel
theorem dX7_signs_34 : decode cX7_signs 34 = .ok (.invokestatic 90, 3) := by decide +kernel
theorem dX7_signs_37 : decode cX7_signs 37 = .ok (.ireturn, 1) := by decide +kernel
theorem dX7_octetsOf_0 : decode cX7_octetsOf 0 = .ok (.aload_n 0, 1) := by decide +kernel
theorem dX7_octetsOf_1 : decode cX7_octetsOf 1 = .ok (.getfield 7, 3) := by decide +kernel
theorem dX7_octetsOf_4 : decode cX7_octetsOf 4 = .ok (.iconst 0, 1) := by decide +kernel
theorem dX7_octetsOf_5 : decode cX7_octetsOf 5 = .ok (.aload_n 0, 1) := by decide +kernel
theorem dX7_octetsOf_6 : decode cX7_octetsOf 6 = .ok (.getfield 98, 3) := by decide +kernel
theorem dX7_octetsOf_9 : decode cX7_octetsOf 9 = .ok (.iload_n 1, 1) := by decide +kernel
theorem dX7_octetsOf_10 : decode cX7_octetsOf 10 = .ok (.invokestatic 90, 3) := by decide +kernel
theorem dX7_octetsOf_13 : decode cX7_octetsOf 13 = .ok (.istore_n 2, 1) := by decide +kernel
theorem dX7_octetsOf_14 : decode cX7_octetsOf 14 = .ok (.aload_n 0, 1) := by decide +kernel
theorem dX7_octetsOf_15 : decode cX7_octetsOf 15 = .ok (.getfield 7, 3) := by decide +kernel
theorem dX7_octetsOf_18 : decode cX7_octetsOf 18 = .ok (.iconst 0, 1) := by decide +kernel
theorem dX7_octetsOf_19 : decode cX7_octetsOf 19 = .ok (.aload_n 0, 1) := by decide +kernel
theorem dX7_octetsOf_20 : decode cX7_octetsOf 20 = .ok (.getfield 98, 3) := by decide +kernel
theorem dX7_octetsOf_23 : decode cX7_octetsOf 23 = .ok (.iload_n 1, 1) := by decide +kernel
theorem dX7_octetsOf_24 : decode cX7_octetsOf 24 = .ok (.invokestatic 114, 3) := by decide +kernel
theorem dX7_octetsOf_27 : decode cX7_octetsOf 27 = .ok (.istore_n 3, 1) := by decide +kernel
theorem dX7_octetsOf_28 : decode cX7_octetsOf 28 = .ok (.aload_n 0, 1) := by decide +kernel
theorem dX7_octetsOf_29 : decode cX7_octetsOf 29 = .ok (.getfield 7, 3) := by decide +kernel
theorem dX7_octetsOf_32 : decode cX7_octetsOf 32 = .ok (.iconst 0, 1) := by decide +kernel
theorem dX7_octetsOf_33 : decode cX7_octetsOf 33 = .ok (.aload_n 0, 1) := by decide +kernel
theorem dX7_octetsOf_34 : decode cX7_octetsOf 34 = .ok (.getfield 98, 3) := by decide +kernel
theorem dX7_octetsOf_37 : decode cX7_octetsOf 37 = .ok (.invokestatic 82, 3) := by decide +kernel
theorem dX7_octetsOf_40 : decode cX7_octetsOf 40 = .ok (.ifCond .eq 9, 3) := by decide +kernel
theorem dX7_octetsOf_43 : decode cX7_octetsOf 43 = .ok (.iconst 2, 1) := by decide +kernel
theorem dX7_octetsOf_44 : decode cX7_octetsOf 44 = .ok (.iload_n 2, 1) := by decide +kernel
theorem dX7_octetsOf_45 : decode cX7_octetsOf 45 = .ok (.imul, 1) := by decide +kernel
theorem dX7_octetsOf_46 : decode cX7_octetsOf 46 = .ok (.goto 21, 3) := by decide +kernel
theorem dX7_octetsOf_49 : decode cX7_octetsOf 49 = .ok (.bipush 7, 2) := by decide +kernel
theorem dX7_octetsOf_51 : decode cX7_octetsOf 51 = .ok (.aload_n 0, 1) := by decide +kernel
theorem dX7_octetsOf_52 : decode cX7_octetsOf 52 = .ok (.getfield 7, 3) := by decide +kernel
theorem dX7_octetsOf_55 : decode cX7_octetsOf 55 = .ok (.iload_n 3, 1) := by decide +kernel
theorem dX7_octetsOf_56 : decode cX7_octetsOf 56 = .ok (.iload_n 2, 1) := by decide +kernel
theorem dX7_octetsOf_57 : decode cX7_octetsOf 57 = .ok (.invokestatic 86, 3) := by decide +kernel
theorem dX7_octetsOf_60 : decode cX7_octetsOf 60 = .ok (.imul, 1) := by decide +kernel
theorem dX7_octetsOf_61 : decode cX7_octetsOf 61 = .ok (.bipush 7, 2) := by decide +kernel
theorem dX7_octetsOf_63 : decode cX7_octetsOf 63 = .ok (.iadd, 1) := by decide +kernel
theorem dX7_octetsOf_64 : decode cX7_octetsOf 64 = .ok (.bipush 8, 2) := by decide +kernel
theorem dX7_octetsOf_66 : decode cX7_octetsOf 66 = .ok (.idiv, 1) := by decide +kernel
theorem dX7_octetsOf_67 : decode cX7_octetsOf 67 = .ok (.ireturn, 1) := by decide +kernel
theorem dX7_octets_0 : decode cX7_octets 0 = .ok (.aload_n 0, 1) := by decide +kernel
theorem dX7_octets_1 : decode cX7_octets 1 = .ok (.aload_n 0, 1) := by decide +kernel
theorem dX7_octets_2 : decode cX7_octets 2 = .ok (.iload_n 1, 1) := by decide +kernel
theorem dX7_octets_3 : decode cX7_octets 3 = .ok (.invokevirtual 111, 3) := by decide +kernel
theorem dX7_octets_6 : decode cX7_octets 6 = .ok (.ifCond .eq 7, 3) := by decide +kernel
theorem dX7_octets_9 : decode cX7_octets 9 = .ok (.iconst 0, 1) := by decide +kernel
theorem dX7_octets_10 : decode cX7_octets 10 = .ok (.goto 4, 3) := by decide +kernel
theorem dX7_octets_13 : decode cX7_octets 13 = .ok (.iconst 1, 1) := by decide +kernel
theorem dX7_octets_14 : decode cX7_octets 14 = .ok (.invokevirtual 101, 3) := by decide +kernel
theorem dX7_octets_17 : decode cX7_octets 17 = .ok (.ifCond .eq 7, 3) := by decide +kernel
theorem dX7_octets_20 : decode cX7_octets 20 = .ok (.iconst 0, 1) := by decide +kernel
theorem dX7_octets_21 : decode cX7_octets 21 = .ok (.goto 8, 3) := by decide +kernel
theorem dX7_octets_24 : decode cX7_octets 24 = .ok (.aload_n 0, 1) := by decide +kernel
theorem dX7_octets_25 : decode cX7_octets 25 = .ok (.iload_n 1, 1) := by decide +kernel
theorem dX7_octets_26 : decode cX7_octets 26 = .ok (.invokevirtual 117, 3) := by decide +kernel
theorem dX7_octets_29 : decode cX7_octets 29 = .ok (.ireturn, 1) := by decide +kernel
theorem dX7_septet_0 : decode cX7_septet 0 = .ok (.aload_n 0, 1) := by decide +kernel
theorem dX7_septet_1 : decode cX7_septet 1 = .ok (.getfield 7, 3) := by decide +kernel
theorem dX7_septet_4 : decode cX7_septet 4 = .ok (.iconst 0, 1) := by decide +kernel
theorem dX7_septet_5 : decode cX7_septet 5 = .ok (.aload_n 0, 1) := by decide +kernel
theorem dX7_septet_6 : decode cX7_septet 6 = .ok (.getfield 98, 3) := by decide +kernel
theorem dX7_septet_9 : decode cX7_septet 9 = .ok (.iload_n 1, 1) := by decide +kernel
theorem dX7_septet_10 : decode cX7_septet 10 = .ok (.invokestatic 114, 3) := by decide +kernel
theorem dX7_septet_13 : decode cX7_septet 13 = .ok (.istore_n 3, 1) := by decide +kernel
theorem dX7_septet_14 : decode cX7_septet 14 = .ok (.iload_n 2, 1) := by decide +kernel
theorem dX7_septet_15 : decode cX7_septet 15 = .ok (.istore 4, 2) := by decide +kernel
theorem dX7_septet_17 : decode cX7_septet 17 = .ok (.iload_n 3, 1) := by decide +kernel
theorem dX7_septet_18 : decode cX7_septet 18 = .ok (.istore 5, 2) := by decide +kernel
theorem dX7_septet_20 : decode cX7_septet 20 = .ok (.iload 5, 2) := by decide +kernel
theorem dX7_septet_22 : decode cX7_septet 22 = .ok (.iload_n 3, 1) := by decide +kernel
theorem dX7_septet_23 : decode cX7_septet 23 = .ok (.aload_n 0, 1) := by decide +kernel
theorem dX7_septet_24 : decode cX7_septet 24 = .ok (.getfield 7, 3) := by decide +kernel
theorem dX7_septet_27 : decode cX7_septet 27 = .ok (.iconst 0, 1) := by decide +kernel
theorem dX7_septet_28 : decode cX7_septet 28 = .ok (.aload_n 0, 1) := by decide +kernel
theorem dX7_septet_29 : decode cX7_septet 29 = .ok (.getfield 98, 3) := by decide +kernel
theorem dX7_septet_32 : decode cX7_septet 32 = .ok (.iload_n 1, 1) := by decide +kernel
theorem dX7_septet_33 : decode cX7_septet 33 = .ok (.invokestatic 90, 3) := by decide +kernel
theorem dX7_septet_36 : decode cX7_septet 36 = .ok (.iadd, 1) := by decide +kernel
theorem dX7_septet_37 : decode cX7_septet 37 = .ok (.if_icmp .ge 84, 3) := by decide +kernel
theorem dX7_septet_40 : decode cX7_septet 40 = .ok (.iload 4, 2) := by decide +kernel
theorem dX7_septet_42 : decode cX7_septet 42 = .ok (.aload_n 0, 1) := by decide +kernel
theorem dX7_septet_43 : decode cX7_septet 43 = .ok (.getfield 7, 3) := by decide +kernel
theorem dX7_septet_46 : decode cX7_septet 46 = .ok (.iload 5, 2) := by decide +kernel
theorem dX7_septet_48 : decode cX7_septet 48 = .ok (.iaload, 1) := by decide +kernel
theorem dX7_septet_49 : decode cX7_septet 49 = .ok (.invokestatic 78, 3) := by decide +kernel
theorem dX7_septet_52 : decode cX7_septet 52 = .ok (.if_icmp .ge 48, 3) := by decide +kernel
theorem dX7_septet_55 : decode cX7_septet 55 = .ok (.aload_n 0, 1) := by decide +kernel
theorem dX7_septet_56 : decode cX7_septet 56 = .ok (.getfield 7, 3) := by decide +kernel
theorem dX7_septet_59 : decode cX7_septet 59 = .ok (.iload 5, 2) := by decide +kernel
theorem dX7_septet_61 : decode cX7_septet 61 = .ok (.iaload, 1) := by decide +kernel
theorem dX7_septet_62 : decode cX7_septet 62 = .ok (.sipush 128, 3) := by decide +kernel
theorem dX7_septet_65 : decode cX7_septet 65 = .ok (.if_icmp .ge 13, 3) := by decide +kernel
theorem dX7_septet_68 : decode cX7_septet 68 = .ok (.aload_n 0, 1) := by decide +kernel
theorem dX7_septet_69 : decode cX7_septet 69 = .ok (.getfield 7, 3) := by decide +kernel
theorem dX7_septet_72 : decode cX7_septet 72 = .ok (.iload 5, 2) := by decide +kernel
theorem dX7_septet_74 : decode cX7_septet 74 = .ok (.iaload, 1) := by decide +kernel
theorem dX7_septet_75 : decode cX7_septet 75 = .ok (.goto 24, 3) := by decide +kernel
theorem dX7_septet_78 : decode cX7_septet 78 = .ok (.iload 4, 2) := by decide +kernel
theorem dX7_septet_80 : decode cX7_septet 80 = .ok (.ifCond .ne 8, 3) := by decide +kernel
theorem dX7_septet_83 : decode cX7_septet 83 = .ok (.bipush 27, 2) := by decide +kernel
theorem dX7_septet_85 : decode cX7_septet 85 = .ok (.goto 14, 3) := by decide +kernel
theorem dX7_septet_88 : decode cX7_septet 88 = .ok (.aload_n 0, 1) := by decide +kernel
theorem dX7_septet_89 : decode cX7_septet 89 = .ok (.getfield 7, 3) := by decide +kernel
theorem dX7_septet_92 : decode cX7_septet 92 = .ok (.iload 5, 2) := by decide +kernel
theorem dX7_septet_94 : decode cX7_septet 94 = .ok (.iaload, 1) := by decide +kernel
theorem dX7_septet_95 : decode cX7_septet 95 = .ok (.sipush 128, 3) := by decide +kernel
theorem dX7_septet_98 : decode cX7_septet 98 = .ok (.isub, 1) := by decide +kernel
theorem dX7_septet_99 : decode cX7_septet 99 = .ok (.ireturn, 1) := by decide +kernel
theorem dX7_septet_100 : decode cX7_septet 100 = .ok (.iload 4, 2) := by decide +kernel
theorem dX7_septet_102 : decode cX7_septet 102 = .ok (.aload_n 0, 1) := by decide +kernel
theorem dX7_septet_103 : decode cX7_septet 103 = .ok (.getfield 7, 3) := by decide +kernel
theorem dX7_septet_106 : decode cX7_septet 106 = .ok (.iload 5, 2) := by decide +kernel
theorem dX7_septet_108 : decode cX7_septet 108 = .ok (.iaload, 1) := by decide +kernel
theorem dX7_septet_109 : decode cX7_septet 109 = .ok (.invokestatic 78, 3) := by decide +kernel
theorem dX7_septet_112 : decode cX7_septet 112 = .ok (.isub, 1) := by decide +kernel
theorem dX7_septet_113 : decode cX7_septet 113 = .ok (.istore 4, 2) := by decide +kernel
theorem dX7_septet_115 : decode cX7_septet 115 = .ok (.iinc 5 1, 3) := by decide +kernel
theorem dX7_septet_118 : decode cX7_septet 118 = .ok (.goto (-98), 3) := by decide +kernel
theorem dX7_septet_121 : decode cX7_septet 121 = .ok (.iconst 0, 1) := by decide +kernel
theorem dX7_septet_122 : decode cX7_septet 122 = .ok (.ireturn, 1) := by decide +kernel
theorem dX7_octet_0 : decode cX7_octet 0 = .ok (.aload_n 0, 1) := by decide +kernel
theorem dX7_octet_1 : decode cX7_octet 1 = .ok (.iload_n 1, 1) := by decide +kernel
theorem dX7_octet_2 : decode cX7_octet 2 = .ok (.invokevirtual 111, 3) := by decide +kernel
theorem dX7_octet_5 : decode cX7_octet 5 = .ok (.ifCond .eq 20, 3) := by decide +kernel
theorem dX7_octet_8 : decode cX7_octet 8 = .ok (.iload_n 2, 1) := by decide +kernel
theorem dX7_octet_9 : decode cX7_octet 9 = .ok (.ifCond .lt 16, 3) := by decide +kernel
theorem dX7_octet_12 : decode cX7_octet 12 = .ok (.iload_n 2, 1) := by decide +kernel
theorem dX7_octet_13 : decode cX7_octet 13 = .ok (.aload_n 0, 1) := by decide +kernel
theorem dX7_octet_14 : decode cX7_octet 14 = .ok (.iload_n 1, 1) := by decide +kernel
theorem dX7_octet_15 : decode cX7_octet 15 = .ok (.invokevirtual 117, 3) := by decide +kernel
theorem dX7_octet_18 : decode cX7_octet 18 = .ok (.if_icmp .ge 7, 3) := by decide +kernel
theorem dX7_octet_21 : decode cX7_octet 21 = .ok (.iconst 1, 1) := by decide +kernel
theorem dX7_octet_22 : decode cX7_octet 22 = .ok (.goto 4, 3) := by decide +kernel
theorem dX7_octet_25 : decode cX7_octet 25 = .ok (.iconst 0, 1) := by decide +kernel
theorem dX7_octet_26 : decode cX7_octet 26 = .ok (.istore_n 3, 1) := by decide +kernel
theorem dX7_octet_27 : decode cX7_octet 27 = .ok (.aload_n 0, 1) := by decide +kernel
theorem dX7_octet_28 : decode cX7_octet 28 = .ok (.iload_n 3, 1) := by decide +kernel
theorem dX7_octet_29 : decode cX7_octet 29 = .ok (.ifCond .eq 7, 3) := by decide +kernel
theorem dX7_octet_32 : decode cX7_octet 32 = .ok (.iconst 0, 1) := by decide +kernel
theorem dX7_octet_33 : decode cX7_octet 33 = .ok (.goto 4, 3) := by decide +kernel
theorem dX7_octet_36 : decode cX7_octet 36 = .ok (.iconst 1, 1) := by decide +kernel
theorem dX7_octet_37 : decode cX7_octet 37 = .ok (.invokevirtual 101, 3) := by decide +kernel
theorem dX7_octet_40 : decode cX7_octet 40 = .ok (.ifCond .eq 5, 3) := by decide +kernel
theorem dX7_octet_43 : decode cX7_octet 43 = .ok (.iconst 0, 1) := by decide +kernel
theorem dX7_octet_44 : decode cX7_octet 44 = .ok (.ireturn, 1) := by decide +kernel
theorem dX7_octet_45 : decode cX7_octet 45 = .ok (.aload_n 0, 1) := by decide +kernel
theorem dX7_octet_46 : decode cX7_octet 46 = .ok (.getfield 7, 3) := by decide +kernel
theorem dX7_octet_49 : decode cX7_octet 49 = .ok (.iconst 0, 1) := by decide +kernel
theorem dX7_octet_50 : decode cX7_octet 50 = .ok (.aload_n 0, 1) := by decide +kernel
theorem dX7_octet_51 : decode cX7_octet 51 = .ok (.getfield 98, 3) := by decide +kernel
theorem dX7_octet_54 : decode cX7_octet 54 = .ok (.invokestatic 82, 3) := by decide +kernel
theorem dX7_octet_57 : decode cX7_octet 57 = .ok (.ifCond .eq 49, 3) := by decide +kernel
theorem dX7_octet_60 : decode cX7_octet 60 = .ok (.aload_n 0, 1) := by decide +kernel
theorem dX7_octet_61 : decode cX7_octet 61 = .ok (.getfield 7, 3) := by decide +kernel
theorem dX7_octet_64 : decode cX7_octet 64 = .ok (.aload_n 0, 1) := by decide +kernel
theorem dX7_octet_65 : decode cX7_octet 65 = .ok (.getfield 7, 3) := by decide +kernel
theorem dX7_octet_68 : decode cX7_octet 68 = .ok (.iconst 0, 1) := by decide +kernel
theorem dX7_octet_69 : decode cX7_octet 69 = .ok (.aload_n 0, 1) := by decide +kernel
theorem dX7_octet_70 : decode cX7_octet 70 = .ok (.getfield 98, 3) := by decide +kernel
theorem dX7_octet_73 : decode cX7_octet 73 = .ok (.iload_n 1, 1) := by decide +kernel
theorem dX7_octet_74 : decode cX7_octet 74 = .ok (.invokestatic 114, 3) := by decide +kernel
theorem dX7_octet_77 : decode cX7_octet 77 = .ok (.iload_n 2, 1) := by decide +kernel
theorem dX7_octet_78 : decode cX7_octet 78 = .ok (.iconst 2, 1) := by decide +kernel
theorem dX7_octet_79 : decode cX7_octet 79 = .ok (.idiv, 1) := by decide +kernel
theorem dX7_octet_80 : decode cX7_octet 80 = .ok (.iadd, 1) := by decide +kernel
theorem dX7_octet_81 : decode cX7_octet 81 = .ok (.iaload, 1) := by decide +kernel
theorem dX7_octet_82 : decode cX7_octet 82 = .ok (.istore 4, 2) := by decide +kernel
theorem dX7_octet_84 : decode cX7_octet 84 = .ok (.iload_n 2, 1) := by decide +kernel
theorem dX7_octet_85 : decode cX7_octet 85 = .ok (.iconst 2, 1) := by decide +kernel
theorem dX7_octet_86 : decode cX7_octet 86 = .ok (.irem, 1) := by decide +kernel
theorem dX7_octet_87 : decode cX7_octet 87 = .ok (.ifCond .ne 12, 3) := by decide +kernel
theorem dX7_octet_90 : decode cX7_octet 90 = .ok (.iload 4, 2) := by decide +kernel
theorem dX7_octet_92 : decode cX7_octet 92 = .ok (.sipush 256, 3) := by decide +kernel
theorem dX7_octet_95 : decode cX7_octet 95 = .ok (.idiv, 1) := by decide +kernel
theorem dX7_octet_96 : decode cX7_octet 96 = .ok (.goto 9, 3) := by decide +kernel
theorem dX7_octet_99 : decode cX7_octet 99 = .ok (.iload 4, 2) := by decide +kernel
theorem dX7_octet_101 : decode cX7_octet 101 = .ok (.sipush 256, 3) := by decide +kernel
theorem dX7_octet_104 : decode cX7_octet 104 = .ok (.irem, 1) := by decide +kernel
theorem dX7_octet_105 : decode cX7_octet 105 = .ok (.ireturn, 1) := by decide +kernel
theorem dX7_octet_106 : decode cX7_octet 106 = .ok (.bipush 8, 2) := by decide +kernel
theorem dX7_octet_108 : decode cX7_octet 108 = .ok (.iload_n 2, 1) := by decide +kernel
theorem dX7_octet_109 : decode cX7_octet 109 = .ok (.imul, 1) := by decide +kernel
theorem dX7_octet_110 : decode cX7_octet 110 = .ok (.istore 4, 2) := by decide +kernel
theorem dX7_octet_112 : decode cX7_octet 112 = .ok (.aload_n 0, 1) := by decide +kernel
theorem dX7_octet_113 : decode cX7_octet 113 = .ok (.iload_n 1, 1) := by decide +kernel
theorem dX7_octet_114 : decode cX7_octet 114 = .ok (.iload 4, 2) := by decide +kernel
theorem dX7_octet_116 : decode cX7_octet 116 = .ok (.bipush 7, 2) := by decide +kernel
theorem dX7_octet_118 : decode cX7_octet 118 = .ok (.idiv, 1) := by decide +kernel
theorem dX7_octet_119 : decode cX7_octet 119 = .ok (.invokevirtual 120, 3) := by decide +kernel
theorem dX7_octet_122 : decode cX7_octet 122 = .ok (.aload_n 0, 1) := by decide +kernel
theorem dX7_octet_123 : decode cX7_octet 123 = .ok (.iload_n 1, 1) := by decide +kernel
theorem dX7_octet_124 : decode cX7_octet 124 = .ok (.iload 4, 2) := by decide +kernel
theorem dX7_octet_126 : decode cX7_octet 126 = .ok (.bipush 7, 2) := by decide +kernel
theorem dX7_octet_128 : decode cX7_octet 128 = .ok (.idiv, 1) := by decide +kernel
theorem dX7_octet_129 : decode cX7_octet 129 = .ok (.iconst 1, 1) := by decide +kernel
theorem dX7_octet_130 : decode cX7_octet 130 = .ok (.iadd, 1) := by decide +kernel
theorem dX7_octet_131 : decode cX7_octet 131 = .ok (.invokevirtual 120, 3) := by decide +kernel
theorem dX7_octet_134 : decode cX7_octet 134 = .ok (.bipush 7, 2) := by decide +kernel
theorem dX7_octet_136 : decode cX7_octet 136 = .ok (.ishl, 1) := by decide +kernel
theorem dX7_octet_137 : decode cX7_octet 137 = .ok (.ior, 1) := by decide +kernel
theorem dX7_octet_138 : decode cX7_octet 138 = .ok (.istore 5, 2) := by decide +kernel
theorem dX7_octet_140 : decode cX7_octet 140 = .ok (.iload 5, 2) := by decide +kernel
theorem dX7_octet_142 : decode cX7_octet 142 = .ok (.iload 4, 2) := by decide +kernel
theorem dX7_octet_144 : decode cX7_octet 144 = .ok (.bipush 7, 2) := by decide +kernel
theorem dX7_octet_146 : decode cX7_octet 146 = .ok (.irem, 1) := by decide +kernel
theorem dX7_octet_147 : decode cX7_octet 147 = .ok (.ishr, 1) := by decide +kernel
theorem dX7_octet_148 : decode cX7_octet 148 = .ok (.sipush 255, 3) := by decide +kernel
theorem dX7_octet_151 : decode cX7_octet 151 = .ok (.iand, 1) := by decide +kernel
theorem dX7_octet_152 : decode cX7_octet 152 = .ok (.ireturn, 1) := by decide +kernel
theorem dX7_partsIn_0 : decode cX7_partsIn 0 = .ok (.aload_n 0, 1) := by decide +kernel
theorem dX7_partsIn_1 : decode cX7_partsIn 1 = .ok (.getfield 13, 3) := by decide +kernel
theorem dX7_partsIn_4 : decode cX7_partsIn 4 = .ok (.sipush 400, 3) := by decide +kernel
theorem dX7_partsIn_7 : decode cX7_partsIn 7 = .ok (.iload_n 1, 1) := by decide +kernel
theorem dX7_partsIn_8 : decode cX7_partsIn 8 = .ok (.imul, 1) := by decide +kernel
theorem dX7_partsIn_9 : decode cX7_partsIn 9 = .ok (.aload_n 0, 1) := by decide +kernel
theorem dX7_partsIn_10 : decode cX7_partsIn 10 = .ok (.getfield 16, 3) := by decide +kernel
theorem dX7_partsIn_13 : decode cX7_partsIn 13 = .ok (.iload_n 1, 1) := by decide +kernel
theorem dX7_partsIn_14 : decode cX7_partsIn 14 = .ok (.iaload, 1) := by decide +kernel
theorem dX7_partsIn_15 : decode cX7_partsIn 15 = .ok (.invokestatic 105, 3) := by decide +kernel
theorem dX7_partsIn_18 : decode cX7_partsIn 18 = .ok (.ireturn, 1) := by decide +kernel
theorem dX7_puts_0 : decode cX7_puts 0 = .ok (.aload_n 0, 1) := by decide +kernel
theorem dX7_puts_1 : decode cX7_puts 1 = .ok (.getfield 47, 3) := by decide +kernel
theorem dX7_puts_4 : decode cX7_puts 4 = .ok (.sipush 200, 3) := by decide +kernel
theorem dX7_puts_7 : decode cX7_puts 7 = .ok (.iload_n 1, 1) := by decide +kernel
theorem dX7_puts_8 : decode cX7_puts 8 = .ok (.imul, 1) := by decide +kernel
theorem dX7_puts_9 : decode cX7_puts 9 = .ok (.aload_n 0, 1) := by decide +kernel
theorem dX7_puts_10 : decode cX7_puts 10 = .ok (.getfield 44, 3) := by decide +kernel
theorem dX7_puts_13 : decode cX7_puts 13 = .ok (.iload_n 1, 1) := by decide +kernel
theorem dX7_puts_14 : decode cX7_puts 14 = .ok (.iaload, 1) := by decide +kernel
theorem dX7_puts_15 : decode cX7_puts 15 = .ok (.iadd, 1) := by decide +kernel
theorem dX7_puts_16 : decode cX7_puts 16 = .ok (.iload_n 2, 1) := by decide +kernel
theorem dX7_puts_17 : decode cX7_puts 17 = .ok (.iastore, 1) := by decide +kernel
theorem dX7_puts_18 : decode cX7_puts 18 = .ok (.aload_n 0, 1) := by decide +kernel
theorem dX7_puts_19 : decode cX7_puts 19 = .ok (.getfield 44, 3) := by decide +kernel
theorem dX7_puts_22 : decode cX7_puts 22 = .ok (.iload_n 1, 1) := by decide +kernel
theorem dX7_puts_23 : decode cX7_puts 23 = .ok (.dup2, 1) := by decide +kernel
theorem dX7_puts_24 : decode cX7_puts 24 = .ok (.iaload, 1) := by decide +kernel
theorem dX7_puts_25 : decode cX7_puts 25 = .ok (.iconst 1, 1) := by decide +kernel
theorem dX7_puts_26 : decode cX7_puts 26 = .ok (.iadd, 1) := by decide +kernel
theorem dX7_puts_27 : decode cX7_puts 27 = .ok (.iastore, 1) := by decide +kernel
theorem dX7_puts_28 : decode cX7_puts 28 = .ok (.aload_n 0, 1) := by decide +kernel
theorem dX7_puts_29 : decode cX7_puts 29 = .ok (.getfield 31, 3) := by decide +kernel
theorem dX7_puts_32 : decode cX7_puts 32 = .ok (.iload_n 2, 1) := by decide +kernel
theorem dX7_puts_33 : decode cX7_puts 33 = .ok (.iload_n 3, 1) := by decide +kernel
theorem dX7_puts_34 : decode cX7_puts 34 = .ok (.iastore, 1) := by decide +kernel
theorem dX7_puts_35 : decode cX7_puts 35 = .ok (.aload_n 0, 1) := by decide +kernel
theorem dX7_puts_36 : decode cX7_puts 36 = .ok (.getfield 37, 3) := by decide +kernel
theorem dX7_puts_39 : decode cX7_puts 39 = .ok (.iload_n 2, 1) := by decide +kernel
theorem dX7_puts_40 : decode cX7_puts 40 = .ok (.iload 4, 2) := by decide +kernel
theorem dX7_puts_42 : decode cX7_puts 42 = .ok (.bastore, 1) := by decide +kernel
theorem dX7_puts_43 : decode cX7_puts 43 = .ok (.return_, 1) := by decide +kernel
theorem dX7_submit_0 : decode cX7_submit 0 = .ok (.iload_n 1, 1) := by decide +kernel
theorem dX7_submit_1 : decode cX7_submit 1 = .ok (.iconst 0, 1) := by decide +kernel
theorem dX7_submit_2 : decode cX7_submit 2 = .ok (.bipush 8, 2) := by decide +kernel
theorem dX7_submit_4 : decode cX7_submit 4 = .ok (.invokestatic 94, 3) := by decide +kernel
theorem dX7_submit_7 : decode cX7_submit 7 = .ok (.ifCond .eq 18, 3) := by decide +kernel
theorem dX7_submit_10 : decode cX7_submit 10 = .ok (.iload_n 2, 1) := by decide +kernel
theorem dX7_submit_11 : decode cX7_submit 11 = .ok (.iconst 1, 1) := by decide +kernel
theorem dX7_submit_12 : decode cX7_submit 12 = .ok (.sipush 1000, 3) := by decide +kernel
theorem dX7_submit_15 : decode cX7_submit 15 = .ok (.invokestatic 94, 3) := by decide +kernel
theorem dX7_submit_18 : decode cX7_submit 18 = .ok (.ifCond .eq 7, 3) := by decide +kernel
theorem dX7_submit_21 : decode cX7_submit 21 = .ok (.iconst 1, 1) := by decide +kernel
theorem dX7_submit_22 : decode cX7_submit 22 = .ok (.goto 4, 3) := by decide +kernel
theorem dX7_submit_25 : decode cX7_submit 25 = .ok (.iconst 0, 1) := by decide +kernel
theorem dX7_submit_26 : decode cX7_submit 26 = .ok (.istore_n 3, 1) := by decide +kernel
theorem dX7_submit_27 : decode cX7_submit 27 = .ok (.aload_n 0, 1) := by decide +kernel
theorem dX7_submit_28 : decode cX7_submit 28 = .ok (.iload_n 3, 1) := by decide +kernel
theorem dX7_submit_29 : decode cX7_submit 29 = .ok (.ifCond .ne 7, 3) := by decide +kernel
theorem dX7_submit_32 : decode cX7_submit 32 = .ok (.iconst 1, 1) := by decide +kernel
theorem dX7_submit_33 : decode cX7_submit 33 = .ok (.goto 24, 3) := by decide +kernel
theorem dX7_submit_36 : decode cX7_submit 36 = .ok (.aload_n 0, 1) := by decide +kernel
theorem dX7_submit_37 : decode cX7_submit 37 = .ok (.getfield 98, 3) := by decide +kernel
theorem dX7_submit_40 : decode cX7_submit 40 = .ok (.ifCond .eq 12, 3) := by decide +kernel
theorem dX7_submit_43 : decode cX7_submit 43 = .ok (.aload_n 0, 1) := by decide +kernel
theorem dX7_submit_44 : decode cX7_submit 44 = .ok (.getfield 124, 3) := by decide +kernel
theorem dX7_submit_47 : decode cX7_submit 47 = .ok (.bipush 20, 2) := by decide +kernel
theorem dX7_submit_49 : decode cX7_submit 49 = .ok (.if_icmp .ne 7, 3) := by decide +kernel
theorem dX7_submit_52 : decode cX7_submit 52 = .ok (.iconst 2, 1) := by decide +kernel
theorem dX7_submit_53 : decode cX7_submit 53 = .ok (.goto 4, 3) := by decide +kernel
theorem dX7_submit_56 : decode cX7_submit 56 = .ok (.iconst 0, 1) := by decide +kernel
theorem dX7_submit_57 : decode cX7_submit 57 = .ok (.invokevirtual 101, 3) := by decide +kernel
theorem dX7_submit_60 : decode cX7_submit 60 = .ok (.ifCond .eq 5, 3) := by decide +kernel
theorem dX7_submit_63 : decode cX7_submit 63 = .ok (.iconst 0, 1) := by decide +kernel
theorem dX7_submit_64 : decode cX7_submit 64 = .ok (.ireturn, 1) := by decide +kernel
theorem dX7_submit_65 : decode cX7_submit 65 = .ok (.aload_n 0, 1) := by decide +kernel
theorem dX7_submit_66 : decode cX7_submit 66 = .ok (.getfield 124, 3) := by decide +kernel
theorem dX7_submit_69 : decode cX7_submit 69 = .ok (.istore 4, 2) := by decide +kernel
theorem dX7_submit_71 : decode cX7_submit 71 = .ok (.iconst 0, 1) := by decide +kernel
theorem dX7_submit_72 : decode cX7_submit 72 = .ok (.istore 5, 2) := by decide +kernel
theorem dX7_submit_74 : decode cX7_submit 74 = .ok (.iload 5, 2) := by decide +kernel
theorem dX7_submit_76 : decode cX7_submit 76 = .ok (.aload_n 0, 1) := by decide +kernel
theorem dX7_submit_77 : decode cX7_submit 77 = .ok (.getfield 98, 3) := by decide +kernel
theorem dX7_submit_80 : decode cX7_submit 80 = .ok (.if_icmp .ge 30, 3) := by decide +kernel
theorem dX7_submit_83 : decode cX7_submit 83 = .ok (.aload_n 0, 1) := by decide +kernel
theorem dX7_submit_84 : decode cX7_submit 84 = .ok (.getfield 13, 3) := by decide +kernel
theorem dX7_submit_87 : decode cX7_submit 87 = .ok (.sipush 400, 3) := by decide +kernel
theorem dX7_submit_90 : decode cX7_submit 90 = .ok (.iload 4, 2) := by decide +kernel
theorem dX7_submit_92 : decode cX7_submit 92 = .ok (.imul, 1) := by decide +kernel
theorem dX7_submit_93 : decode cX7_submit 93 = .ok (.iload 5, 2) := by decide +kernel
theorem dX7_submit_95 : decode cX7_submit 95 = .ok (.iadd, 1) := by decide +kernel
theorem dX7_submit_96 : decode cX7_submit 96 = .ok (.aload_n 0, 1) := by decide +kernel
theorem dX7_submit_97 : decode cX7_submit 97 = .ok (.getfield 7, 3) := by decide +kernel
theorem dX7_submit_100 : decode cX7_submit 100 = .ok (.iload 5, 2) := by decide +kernel
theorem dX7_submit_102 : decode cX7_submit 102 = .ok (.iaload, 1) := by decide +kernel
theorem dX7_submit_103 : decode cX7_submit 103 = .ok (.iastore, 1) := by decide +kernel
theorem dX7_submit_104 : decode cX7_submit 104 = .ok (.iinc 5 1, 3) := by decide +kernel
theorem dX7_submit_107 : decode cX7_submit 107 = .ok (.goto (-33), 3) := by decide +kernel
theorem dX7_submit_110 : decode cX7_submit 110 = .ok (.aload_n 0, 1) := by decide +kernel
theorem dX7_submit_111 : decode cX7_submit 111 = .ok (.getfield 16, 3) := by decide +kernel
theorem dX7_submit_114 : decode cX7_submit 114 = .ok (.iload 4, 2) := by decide +kernel
theorem dX7_submit_116 : decode cX7_submit 116 = .ok (.aload_n 0, 1) := by decide +kernel
theorem dX7_submit_117 : decode cX7_submit 117 = .ok (.getfield 98, 3) := by decide +kernel
theorem dX7_submit_120 : decode cX7_submit 120 = .ok (.iastore, 1) := by decide +kernel
theorem dX7_submit_121 : decode cX7_submit 121 = .ok (.aload_n 0, 1) := by decide +kernel
theorem dX7_submit_122 : decode cX7_submit 122 = .ok (.getfield 19, 3) := by decide +kernel
theorem dX7_submit_125 : decode cX7_submit 125 = .ok (.iload 4, 2) := by decide +kernel
theorem dX7_submit_127 : decode cX7_submit 127 = .ok (.iload_n 1, 1) := by decide +kernel
theorem dX7_submit_128 : decode cX7_submit 128 = .ok (.iastore, 1) := by decide +kernel
theorem dX7_submit_129 : decode cX7_submit 129 = .ok (.aload_n 0, 1) := by decide +kernel
theorem dX7_submit_130 : decode cX7_submit 130 = .ok (.getfield 22, 3) := by decide +kernel
theorem dX7_submit_133 : decode cX7_submit 133 = .ok (.iload 4, 2) := by decide +kernel
theorem dX7_submit_135 : decode cX7_submit 135 = .ok (.aload_n 0, 1) := by decide +kernel
theorem dX7_submit_136 : decode cX7_submit 136 = .ok (.getfield 127, 3) := by decide +kernel
theorem dX7_submit_139 : decode cX7_submit 139 = .ok (.iload_n 2, 1) := by decide +kernel
theorem dX7_submit_140 : decode cX7_submit 140 = .ok (.iadd, 1) := by decide +kernel
theorem dX7_submit_141 : decode cX7_submit 141 = .ok (.iastore, 1) := by decide +kernel
theorem dX7_submit_142 : decode cX7_submit 142 = .ok (.aload_n 0, 1) := by decide +kernel
theorem dX7_submit_143 : decode cX7_submit 143 = .ok (.dup, 1) := by decide +kernel
theorem dX7_submit_144 : decode cX7_submit 144 = .ok (.getfield 124, 3) := by decide +kernel
theorem dX7_submit_147 : decode cX7_submit 147 = .ok (.iconst 1, 1) := by decide +kernel
theorem dX7_submit_148 : decode cX7_submit 148 = .ok (.iadd, 1) := by decide +kernel
theorem dX7_submit_149 : decode cX7_submit 149 = .ok (.putfield 124, 3) := by decide +kernel
theorem dX7_submit_152 : decode cX7_submit 152 = .ok (.aload_n 0, 1) := by decide +kernel
theorem dX7_submit_153 : decode cX7_submit 153 = .ok (.iconst 0, 1) := by decide +kernel
theorem dX7_submit_154 : decode cX7_submit 154 = .ok (.putfield 98, 3) := by decide +kernel
theorem dX7_submit_157 : decode cX7_submit 157 = .ok (.iconst 0, 1) := by decide +kernel
theorem dX7_submit_158 : decode cX7_submit 158 = .ok (.istore 5, 2) := by decide +kernel
theorem dX7_submit_160 : decode cX7_submit 160 = .ok (.iload 5, 2) := by decide +kernel
theorem dX7_submit_162 : decode cX7_submit 162 = .ok (.aload_n 0, 1) := by decide +kernel
theorem dX7_submit_163 : decode cX7_submit 163 = .ok (.iload 4, 2) := by decide +kernel
theorem dX7_submit_165 : decode cX7_submit 165 = .ok (.invokevirtual 130, 3) := by decide +kernel
theorem dX7_submit_168 : decode cX7_submit 168 = .ok (.if_icmp .ge 29, 3) := by decide +kernel
theorem dX7_submit_171 : decode cX7_submit 171 = .ok (.aload_n 0, 1) := by decide +kernel
theorem dX7_submit_172 : decode cX7_submit 172 = .ok (.iload_n 1, 1) := by decide +kernel
theorem dX7_submit_173 : decode cX7_submit 173 = .ok (.iconst 3, 1) := by decide +kernel
theorem dX7_submit_174 : decode cX7_submit 174 = .ok (.irem, 1) := by decide +kernel
theorem dX7_submit_175 : decode cX7_submit 175 = .ok (.bipush 10, 2) := by decide +kernel
theorem dX7_submit_177 : decode cX7_submit 177 = .ok (.iload 4, 2) := by decide +kernel
theorem dX7_submit_179 : decode cX7_submit 179 = .ok (.imul, 1) := by decide +kernel
theorem dX7_submit_180 : decode cX7_submit 180 = .ok (.iload 5, 2) := by decide +kernel
theorem dX7_submit_182 : decode cX7_submit 182 = .ok (.iadd, 1) := by decide +kernel
theorem dX7_submit_183 : decode cX7_submit 183 = .ok (.aload_n 0, 1) := by decide +kernel
theorem dX7_submit_184 : decode cX7_submit 184 = .ok (.getfield 127, 3) := by decide +kernel
theorem dX7_submit_187 : decode cX7_submit 187 = .ok (.iconst 0, 1) := by decide +kernel
theorem dX7_submit_188 : decode cX7_submit 188 = .ok (.invokevirtual 133, 3) := by decide +kernel
theorem dX7_submit_191 : decode cX7_submit 191 = .ok (.iinc 5 1, 3) := by decide +kernel
theorem dX7_submit_194 : decode cX7_submit 194 = .ok (.goto (-34), 3) := by decide +kernel
theorem dX7_submit_197 : decode cX7_submit 197 = .ok (.iload 4, 2) := by decide +kernel
theorem dX7_submit_199 : decode cX7_submit 199 = .ok (.ireturn, 1) := by decide +kernel
theorem dX7_isMessage_0 : decode cX7_isMessage 0 = .ok (.iload_n 1, 1) := by decide +kernel
theorem dX7_isMessage_1 : decode cX7_isMessage 1 = .ok (.iconst 0, 1) := by decide +kernel
theorem dX7_isMessage_2 : decode cX7_isMessage 2 = .ok (.aload_n 0, 1) := by decide +kernel
theorem dX7_isMessage_3 : decode cX7_isMessage 3 = .ok (.getfield 124, 3) := by decide +kernel
theorem dX7_isMessage_6 : decode cX7_isMessage 6 = .ok (.iconst 1, 1) := by decide +kernel
theorem dX7_isMessage_7 : decode cX7_isMessage 7 = .ok (.isub, 1) := by decide +kernel
theorem dX7_isMessage_8 : decode cX7_isMessage 8 = .ok (.invokestatic 94, 3) := by decide +kernel
theorem dX7_isMessage_11 : decode cX7_isMessage 11 = .ok (.ireturn, 1) := by decide +kernel
theorem dX7_state_0 : decode cX7_state 0 = .ok (.aload_n 0, 1) := by decide +kernel
theorem dX7_state_1 : decode cX7_state 1 = .ok (.aload_n 0, 1) := by decide +kernel
theorem dX7_state_2 : decode cX7_state 2 = .ok (.iload_n 1, 1) := by decide +kernel
theorem dX7_state_3 : decode cX7_state 3 = .ok (.invokevirtual 137, 3) := by decide +kernel
theorem dX7_state_6 : decode cX7_state 6 = .ok (.ifCond .eq 7, 3) := by decide +kernel
theorem dX7_state_9 : decode cX7_state 9 = .ok (.iconst 0, 1) := by decide +kernel
theorem dX7_state_10 : decode cX7_state 10 = .ok (.goto 4, 3) := by decide +kernel
theorem dX7_state_13 : decode cX7_state 13 = .ok (.iconst 1, 1) := by decide +kernel
theorem dX7_state_14 : decode cX7_state 14 = .ok (.invokevirtual 101, 3) := by decide +kernel
theorem dX7_state_17 : decode cX7_state 17 = .ok (.ifCond .eq 7, 3) := by decide +kernel
theorem dX7_state_20 : decode cX7_state 20 = .ok (.iconst 0, 1) := by decide +kernel
theorem dX7_state_21 : decode cX7_state 21 = .ok (.goto 9, 3) := by decide +kernel
theorem dX7_state_24 : decode cX7_state 24 = .ok (.aload_n 0, 1) := by decide +kernel
theorem dX7_state_25 : decode cX7_state 25 = .ok (.getfield 25, 3) := by decide +kernel
theorem dX7_state_28 : decode cX7_state 28 = .ok (.iload_n 1, 1) := by decide +kernel
theorem dX7_state_29 : decode cX7_state 29 = .ok (.iaload, 1) := by decide +kernel
theorem dX7_state_30 : decode cX7_state 30 = .ok (.ireturn, 1) := by decide +kernel
theorem dX7_lacks_0 : decode cX7_lacks 0 = .ok (.iconst 0, 1) := by decide +kernel
theorem dX7_lacks_1 : decode cX7_lacks 1 = .ok (.istore_n 2, 1) := by decide +kernel
theorem dX7_lacks_2 : decode cX7_lacks 2 = .ok (.iconst 0, 1) := by decide +kernel
theorem dX7_lacks_3 : decode cX7_lacks 3 = .ok (.istore_n 3, 1) := by decide +kernel
theorem dX7_lacks_4 : decode cX7_lacks 4 = .ok (.iload_n 3, 1) := by decide +kernel
theorem dX7_lacks_5 : decode cX7_lacks 5 = .ok (.aload_n 0, 1) := by decide +kernel
theorem dX7_lacks_6 : decode cX7_lacks 6 = .ok (.iload_n 1, 1) := by decide +kernel
theorem dX7_lacks_7 : decode cX7_lacks 7 = .ok (.invokevirtual 130, 3) := by decide +kernel
theorem dX7_lacks_10 : decode cX7_lacks 10 = .ok (.if_icmp .ge 33, 3) := by decide +kernel
theorem dX7_lacks_13 : decode cX7_lacks 13 = .ok (.iload_n 2, 1) := by decide +kernel
theorem dX7_lacks_14 : decode cX7_lacks 14 = .ok (.aload_n 0, 1) := by decide +kernel
theorem dX7_lacks_15 : decode cX7_lacks 15 = .ok (.getfield 41, 3) := by decide +kernel
theorem dX7_lacks_18 : decode cX7_lacks 18 = .ok (.bipush 10, 2) := by decide +kernel
theorem dX7_lacks_20 : decode cX7_lacks 20 = .ok (.iload_n 1, 1) := by decide +kernel
theorem dX7_lacks_21 : decode cX7_lacks 21 = .ok (.imul, 1) := by decide +kernel
theorem dX7_lacks_22 : decode cX7_lacks 22 = .ok (.iload_n 3, 1) := by decide +kernel
theorem dX7_lacks_23 : decode cX7_lacks 23 = .ok (.iadd, 1) := by decide +kernel
theorem dX7_lacks_24 : decode cX7_lacks 24 = .ok (.baload, 1) := by decide +kernel
theorem dX7_lacks_25 : decode cX7_lacks 25 = .ok (.ifCond .eq 7, 3) := by decide +kernel
theorem dX7_lacks_28 : decode cX7_lacks 28 = .ok (.iconst 0, 1) := by decide +kernel
theorem dX7_lacks_29 : decode cX7_lacks 29 = .ok (.goto 6, 3) := by decide +kernel
theorem dX7_lacks_32 : decode cX7_lacks 32 = .ok (.iconst 1, 1) := by decide +kernel
theorem dX7_lacks_33 : decode cX7_lacks 33 = .ok (.iload_n 3, 1) := by decide +kernel
theorem dX7_lacks_34 : decode cX7_lacks 34 = .ok (.ishl, 1) := by decide +kernel
theorem dX7_lacks_35 : decode cX7_lacks 35 = .ok (.ior, 1) := by decide +kernel
theorem dX7_lacks_36 : decode cX7_lacks 36 = .ok (.istore_n 2, 1) := by decide +kernel
theorem dX7_lacks_37 : decode cX7_lacks 37 = .ok (.iinc 3 1, 3) := by decide +kernel
theorem dX7_lacks_40 : decode cX7_lacks 40 = .ok (.goto (-36), 3) := by decide +kernel
theorem dX7_lacks_43 : decode cX7_lacks 43 = .ok (.iload_n 2, 1) := by decide +kernel
theorem dX7_lacks_44 : decode cX7_lacks 44 = .ok (.ireturn, 1) := by decide +kernel
theorem dX7_missing_0 : decode cX7_missing 0 = .ok (.aload_n 0, 1) := by decide +kernel
theorem dX7_missing_1 : decode cX7_missing 1 = .ok (.aload_n 0, 1) := by decide +kernel
theorem dX7_missing_2 : decode cX7_missing 2 = .ok (.iload_n 1, 1) := by decide +kernel
theorem dX7_missing_3 : decode cX7_missing 3 = .ok (.invokevirtual 137, 3) := by decide +kernel
theorem dX7_missing_6 : decode cX7_missing 6 = .ok (.ifCond .eq 7, 3) := by decide +kernel
theorem dX7_missing_9 : decode cX7_missing 9 = .ok (.iconst 0, 1) := by decide +kernel
theorem dX7_missing_10 : decode cX7_missing 10 = .ok (.goto 4, 3) := by decide +kernel
theorem dX7_missing_13 : decode cX7_missing 13 = .ok (.iconst 1, 1) := by decide +kernel
theorem dX7_missing_14 : decode cX7_missing 14 = .ok (.invokevirtual 101, 3) := by decide +kernel
theorem dX7_missing_17 : decode cX7_missing 17 = .ok (.ifCond .eq 7, 3) := by decide +kernel
theorem dX7_missing_20 : decode cX7_missing 20 = .ok (.iconst 0, 1) := by decide +kernel
theorem dX7_missing_21 : decode cX7_missing 21 = .ok (.goto 8, 3) := by decide +kernel
theorem dX7_missing_24 : decode cX7_missing 24 = .ok (.aload_n 0, 1) := by decide +kernel
theorem dX7_missing_25 : decode cX7_missing 25 = .ok (.iload_n 1, 1) := by decide +kernel
theorem dX7_missing_26 : decode cX7_missing 26 = .ok (.invokevirtual 140, 3) := by decide +kernel
theorem dX7_missing_29 : decode cX7_missing 29 = .ok (.ireturn, 1) := by decide +kernel
theorem dX7_joined_0 : decode cX7_joined 0 = .ok (.aload_n 0, 1) := by decide +kernel
theorem dX7_joined_1 : decode cX7_joined 1 = .ok (.iload_n 1, 1) := by decide +kernel
theorem dX7_joined_2 : decode cX7_joined 2 = .ok (.invokevirtual 137, 3) := by decide +kernel
theorem dX7_joined_5 : decode cX7_joined 5 = .ok (.ifCond .eq 21, 3) := by decide +kernel
theorem dX7_joined_8 : decode cX7_joined 8 = .ok (.iload_n 2, 1) := by decide +kernel
theorem dX7_joined_9 : decode cX7_joined 9 = .ok (.ifCond .lt 17, 3) := by decide +kernel
theorem dX7_joined_12 : decode cX7_joined 12 = .ok (.iload_n 2, 1) := by decide +kernel
theorem dX7_joined_13 : decode cX7_joined 13 = .ok (.aload_n 0, 1) := by decide +kernel
theorem dX7_joined_14 : decode cX7_joined 14 = .ok (.getfield 16, 3) := by decide +kernel
theorem dX7_joined_17 : decode cX7_joined 17 = .ok (.iload_n 1, 1) := by decide +kernel
theorem dX7_joined_18 : decode cX7_joined 18 = .ok (.iaload, 1) := by decide +kernel
theorem dX7_joined_19 : decode cX7_joined 19 = .ok (.if_icmp .ge 7, 3) := by decide +kernel
theorem dX7_joined_22 : decode cX7_joined 22 = .ok (.iconst 1, 1) := by decide +kernel
theorem dX7_joined_23 : decode cX7_joined 23 = .ok (.goto 4, 3) := by decide +kernel
theorem dX7_joined_26 : decode cX7_joined 26 = .ok (.iconst 0, 1) := by decide +kernel
theorem dX7_joined_27 : decode cX7_joined 27 = .ok (.istore_n 3, 1) := by decide +kernel
theorem dX7_joined_28 : decode cX7_joined 28 = .ok (.aload_n 0, 1) := by decide +kernel
theorem dX7_joined_29 : decode cX7_joined 29 = .ok (.iload_n 3, 1) := by decide +kernel
theorem dX7_joined_30 : decode cX7_joined 30 = .ok (.ifCond .eq 7, 3) := by decide +kernel
theorem dX7_joined_33 : decode cX7_joined 33 = .ok (.iconst 0, 1) := by decide +kernel
theorem dX7_joined_34 : decode cX7_joined 34 = .ok (.goto 4, 3) := by decide +kernel
theorem dX7_joined_37 : decode cX7_joined 37 = .ok (.iconst 1, 1) := by decide +kernel
theorem dX7_joined_38 : decode cX7_joined 38 = .ok (.invokevirtual 101, 3) := by decide +kernel
theorem dX7_joined_41 : decode cX7_joined 41 = .ok (.ifCond .eq 5, 3) := by decide +kernel
theorem dX7_joined_44 : decode cX7_joined 44 = .ok (.iconst 0, 1) := by decide +kernel
theorem dX7_joined_45 : decode cX7_joined 45 = .ok (.ireturn, 1) := by decide +kernel
theorem dX7_joined_46 : decode cX7_joined 46 = .ok (.iconst 0, 1) := by decide +kernel
theorem dX7_joined_47 : decode cX7_joined 47 = .ok (.istore 4, 2) := by decide +kernel
theorem dX7_joined_49 : decode cX7_joined 49 = .ok (.iload_n 2, 1) := by decide +kernel
theorem dX7_joined_50 : decode cX7_joined 50 = .ok (.istore 5, 2) := by decide +kernel
theorem dX7_joined_52 : decode cX7_joined 52 = .ok (.iload 5, 2) := by decide +kernel
theorem dX7_joined_54 : decode cX7_joined 54 = .ok (.aload_n 0, 1) := by decide +kernel
theorem dX7_joined_55 : decode cX7_joined 55 = .ok (.getfield 13, 3) := by decide +kernel
theorem dX7_joined_58 : decode cX7_joined 58 = .ok (.sipush 400, 3) := by decide +kernel
theorem dX7_joined_61 : decode cX7_joined 61 = .ok (.iload_n 1, 1) := by decide +kernel
theorem dX7_joined_62 : decode cX7_joined 62 = .ok (.imul, 1) := by decide +kernel
theorem dX7_joined_63 : decode cX7_joined 63 = .ok (.aload_n 0, 1) := by decide +kernel
theorem dX7_joined_64 : decode cX7_joined 64 = .ok (.getfield 16, 3) := by decide +kernel
theorem dX7_joined_67 : decode cX7_joined 67 = .ok (.iload_n 1, 1) := by decide +kernel
theorem dX7_joined_68 : decode cX7_joined 68 = .ok (.iaload, 1) := by decide +kernel
theorem dX7_joined_69 : decode cX7_joined 69 = .ok (.iload 4, 2) := by decide +kernel
theorem dX7_joined_71 : decode cX7_joined 71 = .ok (.invokestatic 90, 3) := by decide +kernel
theorem dX7_joined_74 : decode cX7_joined 74 = .ok (.if_icmp .lt 34, 3) := by decide +kernel
theorem dX7_joined_77 : decode cX7_joined 77 = .ok (.iload 5, 2) := by decide +kernel
theorem dX7_joined_79 : decode cX7_joined 79 = .ok (.aload_n 0, 1) := by decide +kernel
theorem dX7_joined_80 : decode cX7_joined 80 = .ok (.getfield 13, 3) := by decide +kernel
theorem dX7_joined_83 : decode cX7_joined 83 = .ok (.sipush 400, 3) := by decide +kernel
theorem dX7_joined_86 : decode cX7_joined 86 = .ok (.iload_n 1, 1) := by decide +kernel
theorem dX7_joined_87 : decode cX7_joined 87 = .ok (.imul, 1) := by decide +kernel
theorem dX7_joined_88 : decode cX7_joined 88 = .ok (.aload_n 0, 1) := by decide +kernel
theorem dX7_joined_89 : decode cX7_joined 89 = .ok (.getfield 16, 3) := by decide +kernel
theorem dX7_joined_92 : decode cX7_joined 92 = .ok (.iload_n 1, 1) := by decide +kernel
theorem dX7_joined_93 : decode cX7_joined 93 = .ok (.iaload, 1) := by decide +kernel
theorem dX7_joined_94 : decode cX7_joined 94 = .ok (.iload 4, 2) := by decide +kernel
theorem dX7_joined_96 : decode cX7_joined 96 = .ok (.invokestatic 90, 3) := by decide +kernel
theorem dX7_joined_99 : decode cX7_joined 99 = .ok (.isub, 1) := by decide +kernel
theorem dX7_joined_100 : decode cX7_joined 100 = .ok (.istore 5, 2) := by decide +kernel
theorem dX7_joined_102 : decode cX7_joined 102 = .ok (.iinc 4 1, 3) := by decide +kernel
theorem dX7_joined_105 : decode cX7_joined 105 = .ok (.goto (-53), 3) := by decide +kernel
theorem dX7_joined_108 : decode cX7_joined 108 = .ok (.aload_n 0, 1) := by decide +kernel
theorem dX7_joined_109 : decode cX7_joined 109 = .ok (.getfield 41, 3) := by decide +kernel
theorem dX7_joined_112 : decode cX7_joined 112 = .ok (.bipush 10, 2) := by decide +kernel
theorem dX7_joined_114 : decode cX7_joined 114 = .ok (.iload_n 1, 1) := by decide +kernel
theorem dX7_joined_115 : decode cX7_joined 115 = .ok (.imul, 1) := by decide +kernel
theorem dX7_joined_116 : decode cX7_joined 116 = .ok (.iload 4, 2) := by decide +kernel
theorem dX7_joined_118 : decode cX7_joined 118 = .ok (.iadd, 1) := by decide +kernel
theorem dX7_joined_119 : decode cX7_joined 119 = .ok (.baload, 1) := by decide +kernel
theorem dX7_joined_120 : decode cX7_joined 120 = .ok (.ifCond .eq 18, 3) := by decide +kernel
theorem dX7_joined_123 : decode cX7_joined 123 = .ok (.aload_n 0, 1) := by decide +kernel
theorem dX7_joined_124 : decode cX7_joined 124 = .ok (.getfield 13, 3) := by decide +kernel
theorem dX7_joined_127 : decode cX7_joined 127 = .ok (.sipush 400, 3) := by decide +kernel
theorem dX7_joined_130 : decode cX7_joined 130 = .ok (.iload_n 1, 1) := by decide +kernel
theorem dX7_joined_131 : decode cX7_joined 131 = .ok (.imul, 1) := by decide +kernel
theorem dX7_joined_132 : decode cX7_joined 132 = .ok (.iload_n 2, 1) := by decide +kernel
theorem dX7_joined_133 : decode cX7_joined 133 = .ok (.iadd, 1) := by decide +kernel
theorem dX7_joined_134 : decode cX7_joined 134 = .ok (.iaload, 1) := by decide +kernel
theorem dX7_joined_135 : decode cX7_joined 135 = .ok (.goto 4, 3) := by decide +kernel
theorem dX7_joined_138 : decode cX7_joined 138 = .ok (.iconst (-1), 1) := by decide +kernel
theorem dX7_joined_139 : decode cX7_joined 139 = .ok (.ireturn, 1) := by decide +kernel
theorem dX7_receipts_0 : decode cX7_receipts 0 = .ok (.aload_n 0, 1) := by decide +kernel
theorem dX7_receipts_1 : decode cX7_receipts 1 = .ok (.aload_n 0, 1) := by decide +kernel
theorem dX7_receipts_2 : decode cX7_receipts 2 = .ok (.getfield 143, 3) := by decide +kernel
theorem dX7_receipts_5 : decode cX7_receipts 5 = .ok (.invokevirtual 108, 3) := by decide +kernel
theorem dX7_receipts_8 : decode cX7_receipts 8 = .ok (.ireturn, 1) := by decide +kernel
theorem dX7_receipt_0 : decode cX7_receipt 0 = .ok (.aload_n 0, 1) := by decide +kernel
theorem dX7_receipt_1 : decode cX7_receipt 1 = .ok (.iload_n 1, 1) := by decide +kernel
theorem dX7_receipt_2 : decode cX7_receipt 2 = .ok (.iconst 0, 1) := by decide +kernel
theorem dX7_receipt_3 : decode cX7_receipt 3 = .ok (.aload_n 0, 1) := by decide +kernel
theorem dX7_receipt_4 : decode cX7_receipt 4 = .ok (.getfield 143, 3) := by decide +kernel
theorem dX7_receipt_7 : decode cX7_receipt 7 = .ok (.iconst 1, 1) := by decide +kernel
theorem dX7_receipt_8 : decode cX7_receipt 8 = .ok (.isub, 1) := by decide +kernel
theorem dX7_receipt_9 : decode cX7_receipt 9 = .ok (.invokestatic 94, 3) := by decide +kernel
theorem dX7_receipt_12 : decode cX7_receipt 12 = .ok (.ifCond .eq 7, 3) := by decide +kernel
theorem dX7_receipt_15 : decode cX7_receipt 15 = .ok (.iconst 0, 1) := by decide +kernel
theorem dX7_receipt_16 : decode cX7_receipt 16 = .ok (.goto 4, 3) := by decide +kernel
theorem dX7_receipt_19 : decode cX7_receipt 19 = .ok (.iconst 1, 1) := by decide +kernel
theorem dX7_receipt_20 : decode cX7_receipt 20 = .ok (.invokevirtual 101, 3) := by decide +kernel
theorem dX7_receipt_23 : decode cX7_receipt 23 = .ok (.ifCond .eq 7, 3) := by decide +kernel
theorem dX7_receipt_26 : decode cX7_receipt 26 = .ok (.iconst 0, 1) := by decide +kernel
theorem dX7_receipt_27 : decode cX7_receipt 27 = .ok (.goto 9, 3) := by decide +kernel
theorem dX7_receipt_30 : decode cX7_receipt 30 = .ok (.aload_n 0, 1) := by decide +kernel
theorem dX7_receipt_31 : decode cX7_receipt 31 = .ok (.getfield 28, 3) := by decide +kernel
theorem dX7_receipt_34 : decode cX7_receipt 34 = .ok (.iload_n 1, 1) := by decide +kernel
theorem dX7_receipt_35 : decode cX7_receipt 35 = .ok (.iaload, 1) := by decide +kernel
theorem dX7_receipt_36 : decode cX7_receipt 36 = .ok (.ireturn, 1) := by decide +kernel
theorem dX7_ends_0 : decode cX7_ends 0 = .ok (.aload_n 0, 1) := by decide +kernel
theorem dX7_ends_1 : decode cX7_ends 1 = .ok (.getfield 25, 3) := by decide +kernel
theorem dX7_ends_4 : decode cX7_ends 4 = .ok (.iload_n 1, 1) := by decide +kernel
theorem dX7_ends_5 : decode cX7_ends 5 = .ok (.iload_n 2, 1) := by decide +kernel
theorem dX7_ends_6 : decode cX7_ends 6 = .ok (.iastore, 1) := by decide +kernel
theorem dX7_ends_7 : decode cX7_ends 7 = .ok (.aload_n 0, 1) := by decide +kernel
theorem dX7_ends_8 : decode cX7_ends 8 = .ok (.getfield 28, 3) := by decide +kernel
theorem dX7_ends_11 : decode cX7_ends 11 = .ok (.aload_n 0, 1) := by decide +kernel
theorem dX7_ends_12 : decode cX7_ends 12 = .ok (.getfield 143, 3) := by decide +kernel
theorem dX7_ends_15 : decode cX7_ends 15 = .ok (.bipush 10, 2) := by decide +kernel
theorem dX7_ends_17 : decode cX7_ends 17 = .ok (.iload_n 1, 1) := by decide +kernel
theorem dX7_ends_18 : decode cX7_ends 18 = .ok (.imul, 1) := by decide +kernel
theorem dX7_ends_19 : decode cX7_ends 19 = .ok (.iload_n 2, 1) := by decide +kernel
theorem dX7_ends_20 : decode cX7_ends 20 = .ok (.iadd, 1) := by decide +kernel
theorem dX7_ends_21 : decode cX7_ends 21 = .ok (.iastore, 1) := by decide +kernel
theorem dX7_ends_22 : decode cX7_ends 22 = .ok (.aload_n 0, 1) := by decide +kernel
theorem dX7_ends_23 : decode cX7_ends 23 = .ok (.dup, 1) := by decide +kernel
theorem dX7_ends_24 : decode cX7_ends 24 = .ok (.getfield 143, 3) := by decide +kernel
theorem dX7_ends_27 : decode cX7_ends 27 = .ok (.iconst 1, 1) := by decide +kernel
theorem dX7_ends_28 : decode cX7_ends 28 = .ok (.iadd, 1) := by decide +kernel
theorem dX7_ends_29 : decode cX7_ends 29 = .ok (.putfield 143, 3) := by decide +kernel
theorem dX7_ends_32 : decode cX7_ends 32 = .ok (.aload_n 0, 1) := by decide +kernel
theorem dX7_ends_33 : decode cX7_ends 33 = .ok (.getfield 19, 3) := by decide +kernel
theorem dX7_ends_36 : decode cX7_ends 36 = .ok (.iload_n 1, 1) := by decide +kernel
theorem dX7_ends_37 : decode cX7_ends 37 = .ok (.iaload, 1) := by decide +kernel
theorem dX7_ends_38 : decode cX7_ends 38 = .ok (.iconst 3, 1) := by decide +kernel
theorem dX7_ends_39 : decode cX7_ends 39 = .ok (.irem, 1) := by decide +kernel
theorem dX7_ends_40 : decode cX7_ends 40 = .ok (.istore_n 3, 1) := by decide +kernel
theorem dX7_ends_41 : decode cX7_ends 41 = .ok (.iconst 0, 1) := by decide +kernel
theorem dX7_ends_42 : decode cX7_ends 42 = .ok (.istore 4, 2) := by decide +kernel
theorem dX7_ends_44 : decode cX7_ends 44 = .ok (.iconst 0, 1) := by decide +kernel
theorem dX7_ends_45 : decode cX7_ends 45 = .ok (.istore 5, 2) := by decide +kernel
theorem dX7_ends_47 : decode cX7_ends 47 = .ok (.iload 5, 2) := by decide +kernel
theorem dX7_ends_49 : decode cX7_ends 49 = .ok (.aload_n 0, 1) := by decide +kernel
theorem dX7_ends_50 : decode cX7_ends 50 = .ok (.getfield 44, 3) := by decide +kernel
theorem dX7_ends_53 : decode cX7_ends 53 = .ok (.iload_n 3, 1) := by decide +kernel
theorem dX7_ends_54 : decode cX7_ends 54 = .ok (.iaload, 1) := by decide +kernel
theorem dX7_ends_55 : decode cX7_ends 55 = .ok (.if_icmp .ge 51, 3) := by decide +kernel
theorem dX7_ends_58 : decode cX7_ends 58 = .ok (.aload_n 0, 1) := by decide +kernel
theorem dX7_ends_59 : decode cX7_ends 59 = .ok (.getfield 47, 3) := by decide +kernel
theorem dX7_ends_62 : decode cX7_ends 62 = .ok (.sipush 200, 3) := by decide +kernel
theorem dX7_ends_65 : decode cX7_ends 65 = .ok (.iload_n 3, 1) := by decide +kernel
theorem dX7_ends_66 : decode cX7_ends 66 = .ok (.imul, 1) := by decide +kernel
theorem dX7_ends_67 : decode cX7_ends 67 = .ok (.iload 5, 2) := by decide +kernel
theorem dX7_ends_69 : decode cX7_ends 69 = .ok (.iadd, 1) := by decide +kernel
theorem dX7_ends_70 : decode cX7_ends 70 = .ok (.iaload, 1) := by decide +kernel
theorem dX7_ends_71 : decode cX7_ends 71 = .ok (.istore 6, 2) := by decide +kernel
theorem dX7_ends_73 : decode cX7_ends 73 = .ok (.iload 6, 2) := by decide +kernel
theorem dX7_ends_75 : decode cX7_ends 75 = .ok (.bipush 10, 2) := by decide +kernel
theorem dX7_ends_77 : decode cX7_ends 77 = .ok (.idiv, 1) := by decide +kernel
theorem dX7_ends_78 : decode cX7_ends 78 = .ok (.iload_n 1, 1) := by decide +kernel
theorem dX7_ends_79 : decode cX7_ends 79 = .ok (.if_icmp .eq 21, 3) := by decide +kernel
theorem dX7_ends_82 : decode cX7_ends 82 = .ok (.aload_n 0, 1) := by decide +kernel
theorem dX7_ends_83 : decode cX7_ends 83 = .ok (.getfield 47, 3) := by decide +kernel
theorem dX7_ends_86 : decode cX7_ends 86 = .ok (.sipush 200, 3) := by decide +kernel
theorem dX7_ends_89 : decode cX7_ends 89 = .ok (.iload_n 3, 1) := by decide +kernel
theorem dX7_ends_90 : decode cX7_ends 90 = .ok (.imul, 1) := by decide +kernel
theorem dX7_ends_91 : decode cX7_ends 91 = .ok (.iload 4, 2) := by decide +kernel
theorem dX7_ends_93 : decode cX7_ends 93 = .ok (.iadd, 1) := by decide +kernel
theorem dX7_ends_94 : decode cX7_ends 94 = .ok (.iload 6, 2) := by decide +kernel
theorem dX7_ends_96 : decode cX7_ends 96 = .ok (.iastore, 1) := by decide +kernel
theorem dX7_ends_97 : decode cX7_ends 97 = .ok (.iinc 4 1, 3) := by decide +kernel
theorem dX7_ends_100 : decode cX7_ends 100 = .ok (.iinc 5 1, 3) := by decide +kernel
theorem dX7_ends_103 : decode cX7_ends 103 = .ok (.goto (-56), 3) := by decide +kernel
theorem dX7_ends_106 : decode cX7_ends 106 = .ok (.aload_n 0, 1) := by decide +kernel
theorem dX7_ends_107 : decode cX7_ends 107 = .ok (.getfield 44, 3) := by decide +kernel
theorem dX7_ends_110 : decode cX7_ends 110 = .ok (.iload_n 3, 1) := by decide +kernel
theorem dX7_ends_111 : decode cX7_ends 111 = .ok (.iload 4, 2) := by decide +kernel
theorem dX7_ends_113 : decode cX7_ends 113 = .ok (.iastore, 1) := by decide +kernel
theorem dX7_ends_114 : decode cX7_ends 114 = .ok (.return_, 1) := by decide +kernel
theorem dX7_first_0 : decode cX7_first 0 = .ok (.iconst 0, 1) := by decide +kernel
theorem dX7_first_1 : decode cX7_first 1 = .ok (.istore_n 2, 1) := by decide +kernel
theorem dX7_first_2 : decode cX7_first 2 = .ok (.iload_n 2, 1) := by decide +kernel
theorem dX7_first_3 : decode cX7_first 3 = .ok (.aload_n 0, 1) := by decide +kernel
theorem dX7_first_4 : decode cX7_first 4 = .ok (.getfield 44, 3) := by decide +kernel
theorem dX7_first_7 : decode cX7_first 7 = .ok (.iload_n 1, 1) := by decide +kernel
theorem dX7_first_8 : decode cX7_first 8 = .ok (.iaload, 1) := by decide +kernel
theorem dX7_first_9 : decode cX7_first 9 = .ok (.if_icmp .ge 46, 3) := by decide +kernel
theorem dX7_first_12 : decode cX7_first 12 = .ok (.aload_n 0, 1) := by decide +kernel
theorem dX7_first_13 : decode cX7_first 13 = .ok (.getfield 47, 3) := by decide +kernel
theorem dX7_first_16 : decode cX7_first 16 = .ok (.sipush 200, 3) := by decide +kernel
theorem dX7_first_19 : decode cX7_first 19 = .ok (.iload_n 1, 1) := by decide +kernel
theorem dX7_first_20 : decode cX7_first 20 = .ok (.imul, 1) := by decide +kernel
theorem dX7_first_21 : decode cX7_first 21 = .ok (.iload_n 2, 1) := by decide +kernel
theorem dX7_first_22 : decode cX7_first 22 = .ok (.iadd, 1) := by decide +kernel
theorem dX7_first_23 : decode cX7_first 23 = .ok (.iaload, 1) := by decide +kernel
theorem dX7_first_24 : decode cX7_first 24 = .ok (.istore_n 3, 1) := by decide +kernel
theorem dX7_first_25 : decode cX7_first 25 = .ok (.aload_n 0, 1) := by decide +kernel
theorem dX7_first_26 : decode cX7_first 26 = .ok (.getfield 31, 3) := by decide +kernel
theorem dX7_first_29 : decode cX7_first 29 = .ok (.iload_n 3, 1) := by decide +kernel
theorem dX7_first_30 : decode cX7_first 30 = .ok (.iaload, 1) := by decide +kernel
theorem dX7_first_31 : decode cX7_first 31 = .ok (.aload_n 0, 1) := by decide +kernel
theorem dX7_first_32 : decode cX7_first 32 = .ok (.getfield 127, 3) := by decide +kernel
theorem dX7_first_35 : decode cX7_first 35 = .ok (.if_icmp .gt 14, 3) := by decide +kernel
theorem dX7_first_38 : decode cX7_first 38 = .ok (.aload_n 0, 1) := by decide +kernel
theorem dX7_first_39 : decode cX7_first 39 = .ok (.getfield 37, 3) := by decide +kernel
theorem dX7_first_42 : decode cX7_first 42 = .ok (.iload_n 3, 1) := by decide +kernel
theorem dX7_first_43 : decode cX7_first 43 = .ok (.baload, 1) := by decide +kernel
theorem dX7_first_44 : decode cX7_first 44 = .ok (.ifCond .ne 5, 3) := by decide +kernel
theorem dX7_first_47 : decode cX7_first 47 = .ok (.iload_n 2, 1) := by decide +kernel
theorem dX7_first_48 : decode cX7_first 48 = .ok (.ireturn, 1) := by decide +kernel
theorem dX7_first_49 : decode cX7_first 49 = .ok (.iinc 2 1, 3) := by decide +kernel
theorem dX7_first_52 : decode cX7_first 52 = .ok (.goto (-50), 3) := by decide +kernel
theorem dX7_first_55 : decode cX7_first 55 = .ok (.iconst (-1), 1) := by decide +kernel
theorem dX7_first_56 : decode cX7_first 56 = .ok (.ireturn, 1) := by decide +kernel
theorem dX7_sends_0 : decode cX7_sends 0 = .ok (.iconst 0, 1) := by decide +kernel
theorem dX7_sends_1 : decode cX7_sends 1 = .ok (.istore_n 2, 1) := by decide +kernel
theorem dX7_sends_2 : decode cX7_sends 2 = .ok (.aload_n 0, 1) := by decide +kernel
theorem dX7_sends_3 : decode cX7_sends 3 = .ok (.iload_n 1, 1) := by decide +kernel
theorem dX7_sends_4 : decode cX7_sends 4 = .ok (.invokevirtual 146, 3) := by decide +kernel
theorem dX7_sends_7 : decode cX7_sends 7 = .ok (.istore_n 3, 1) := by decide +kernel
theorem dX7_sends_8 : decode cX7_sends 8 = .ok (.aload_n 0, 1) := by decide +kernel
theorem dX7_sends_9 : decode cX7_sends 9 = .ok (.getfield 56, 3) := by decide +kernel
theorem dX7_sends_12 : decode cX7_sends 12 = .ok (.iload_n 1, 1) := by decide +kernel
theorem dX7_sends_13 : decode cX7_sends 13 = .ok (.baload, 1) := by decide +kernel
theorem dX7_sends_14 : decode cX7_sends 14 = .ok (.ifCond .ne 151, 3) := by decide +kernel
theorem dX7_sends_17 : decode cX7_sends 17 = .ok (.aload_n 0, 1) := by decide +kernel
theorem dX7_sends_18 : decode cX7_sends 18 = .ok (.getfield 59, 3) := by decide +kernel
theorem dX7_sends_21 : decode cX7_sends 21 = .ok (.iload_n 1, 1) := by decide +kernel
theorem dX7_sends_22 : decode cX7_sends 22 = .ok (.iaload, 1) := by decide +kernel
theorem dX7_sends_23 : decode cX7_sends 23 = .ok (.ifCond .le 142, 3) := by decide +kernel
theorem dX7_sends_26 : decode cX7_sends 26 = .ok (.aload_n 0, 1) := by decide +kernel
theorem dX7_sends_27 : decode cX7_sends 27 = .ok (.getfield 50, 3) := by decide +kernel
theorem dX7_sends_30 : decode cX7_sends 30 = .ok (.iload_n 1, 1) := by decide +kernel
theorem dX7_sends_31 : decode cX7_sends 31 = .ok (.iaload, 1) := by decide +kernel
theorem dX7_sends_32 : decode cX7_sends 32 = .ok (.aload_n 0, 1) := by decide +kernel
theorem dX7_sends_33 : decode cX7_sends 33 = .ok (.getfield 62, 3) := by decide +kernel
theorem dX7_sends_36 : decode cX7_sends 36 = .ok (.iload_n 1, 1) := by decide +kernel
theorem dX7_sends_37 : decode cX7_sends 37 = .ok (.iaload, 1) := by decide +kernel
theorem dX7_sends_38 : decode cX7_sends 38 = .ok (.if_icmp .ge 127, 3) := by decide +kernel
theorem dX7_sends_41 : decode cX7_sends 41 = .ok (.iload_n 3, 1) := by decide +kernel
theorem dX7_sends_42 : decode cX7_sends 42 = .ok (.iconst (-1), 1) := by decide +kernel
theorem dX7_sends_43 : decode cX7_sends 43 = .ok (.if_icmp .eq 122, 3) := by decide +kernel
theorem dX7_sends_46 : decode cX7_sends 46 = .ok (.aload_n 0, 1) := by decide +kernel
theorem dX7_sends_47 : decode cX7_sends 47 = .ok (.getfield 53, 3) := by decide +kernel
theorem dX7_sends_50 : decode cX7_sends 50 = .ok (.sipush 200, 3) := by decide +kernel
theorem dX7_sends_53 : decode cX7_sends 53 = .ok (.iload_n 1, 1) := by decide +kernel
theorem dX7_sends_54 : decode cX7_sends 54 = .ok (.imul, 1) := by decide +kernel
theorem dX7_sends_55 : decode cX7_sends 55 = .ok (.aload_n 0, 1) := by decide +kernel
theorem dX7_sends_56 : decode cX7_sends 56 = .ok (.getfield 50, 3) := by decide +kernel
theorem dX7_sends_59 : decode cX7_sends 59 = .ok (.iload_n 1, 1) := by decide +kernel
theorem dX7_sends_60 : decode cX7_sends 60 = .ok (.iaload, 1) := by decide +kernel
theorem dX7_sends_61 : decode cX7_sends 61 = .ok (.iadd, 1) := by decide +kernel
theorem dX7_sends_62 : decode cX7_sends 62 = .ok (.aload_n 0, 1) := by decide +kernel
theorem dX7_sends_63 : decode cX7_sends 63 = .ok (.getfield 47, 3) := by decide +kernel
theorem dX7_sends_66 : decode cX7_sends 66 = .ok (.sipush 200, 3) := by decide +kernel
theorem dX7_sends_69 : decode cX7_sends 69 = .ok (.iload_n 1, 1) := by decide +kernel
theorem dX7_sends_70 : decode cX7_sends 70 = .ok (.imul, 1) := by decide +kernel
theorem dX7_sends_71 : decode cX7_sends 71 = .ok (.iload_n 3, 1) := by decide +kernel
theorem dX7_sends_72 : decode cX7_sends 72 = .ok (.iadd, 1) := by decide +kernel
theorem dX7_sends_73 : decode cX7_sends 73 = .ok (.iaload, 1) := by decide +kernel
theorem dX7_sends_74 : decode cX7_sends 74 = .ok (.iastore, 1) := by decide +kernel
theorem dX7_sends_75 : decode cX7_sends 75 = .ok (.aload_n 0, 1) := by decide +kernel
theorem dX7_sends_76 : decode cX7_sends 76 = .ok (.getfield 50, 3) := by decide +kernel
theorem dX7_sends_79 : decode cX7_sends 79 = .ok (.iload_n 1, 1) := by decide +kernel
theorem dX7_sends_80 : decode cX7_sends 80 = .ok (.dup2, 1) := by decide +kernel
theorem dX7_sends_81 : decode cX7_sends 81 = .ok (.iaload, 1) := by decide +kernel
theorem dX7_sends_82 : decode cX7_sends 82 = .ok (.iconst 1, 1) := by decide +kernel
theorem dX7_sends_83 : decode cX7_sends 83 = .ok (.iadd, 1) := by decide +kernel
theorem dX7_sends_84 : decode cX7_sends 84 = .ok (.iastore, 1) := by decide +kernel
theorem dX7_sends_85 : decode cX7_sends 85 = .ok (.aload_n 0, 1) := by decide +kernel
theorem dX7_sends_86 : decode cX7_sends 86 = .ok (.getfield 59, 3) := by decide +kernel
theorem dX7_sends_89 : decode cX7_sends 89 = .ok (.iload_n 1, 1) := by decide +kernel
theorem dX7_sends_90 : decode cX7_sends 90 = .ok (.dup2, 1) := by decide +kernel
theorem dX7_sends_91 : decode cX7_sends 91 = .ok (.iaload, 1) := by decide +kernel
theorem dX7_sends_92 : decode cX7_sends 92 = .ok (.iconst 1, 1) := by decide +kernel
theorem dX7_sends_93 : decode cX7_sends 93 = .ok (.isub, 1) := by decide +kernel
theorem dX7_sends_94 : decode cX7_sends 94 = .ok (.iastore, 1) := by decide +kernel
theorem dX7_sends_95 : decode cX7_sends 95 = .ok (.aload_n 0, 1) := by decide +kernel
theorem dX7_sends_96 : decode cX7_sends 96 = .ok (.getfield 44, 3) := by decide +kernel
theorem dX7_sends_99 : decode cX7_sends 99 = .ok (.iload_n 1, 1) := by decide +kernel
theorem dX7_sends_100 : decode cX7_sends 100 = .ok (.dup2, 1) := by decide +kernel
theorem dX7_sends_101 : decode cX7_sends 101 = .ok (.iaload, 1) := by decide +kernel
theorem dX7_sends_102 : decode cX7_sends 102 = .ok (.iconst 1, 1) := by decide +kernel
theorem dX7_sends_103 : decode cX7_sends 103 = .ok (.isub, 1) := by decide +kernel
theorem dX7_sends_104 : decode cX7_sends 104 = .ok (.iastore, 1) := by decide +kernel
theorem dX7_sends_105 : decode cX7_sends 105 = .ok (.sipush 200, 3) := by decide +kernel
theorem dX7_sends_108 : decode cX7_sends 108 = .ok (.iload_n 1, 1) := by decide +kernel
theorem dX7_sends_109 : decode cX7_sends 109 = .ok (.imul, 1) := by decide +kernel
theorem dX7_sends_110 : decode cX7_sends 110 = .ok (.iload_n 3, 1) := by decide +kernel
theorem dX7_sends_111 : decode cX7_sends 111 = .ok (.iadd, 1) := by decide +kernel
theorem dX7_sends_112 : decode cX7_sends 112 = .ok (.istore 4, 2) := by decide +kernel
theorem dX7_sends_114 : decode cX7_sends 114 = .ok (.iload 4, 2) := by decide +kernel
theorem dX7_sends_116 : decode cX7_sends 116 = .ok (.sipush 200, 3) := by decide +kernel
theorem dX7_sends_119 : decode cX7_sends 119 = .ok (.iload_n 1, 1) := by decide +kernel
theorem dX7_sends_120 : decode cX7_sends 120 = .ok (.imul, 1) := by decide +kernel
theorem dX7_sends_121 : decode cX7_sends 121 = .ok (.aload_n 0, 1) := by decide +kernel
theorem dX7_sends_122 : decode cX7_sends 122 = .ok (.getfield 44, 3) := by decide +kernel
theorem dX7_sends_125 : decode cX7_sends 125 = .ok (.iload_n 1, 1) := by decide +kernel
theorem dX7_sends_126 : decode cX7_sends 126 = .ok (.iaload, 1) := by decide +kernel
theorem dX7_sends_127 : decode cX7_sends 127 = .ok (.iadd, 1) := by decide +kernel
theorem dX7_sends_128 : decode cX7_sends 128 = .ok (.if_icmp .ge 25, 3) := by decide +kernel
theorem dX7_sends_131 : decode cX7_sends 131 = .ok (.aload_n 0, 1) := by decide +kernel
theorem dX7_sends_132 : decode cX7_sends 132 = .ok (.getfield 47, 3) := by decide +kernel
theorem dX7_sends_135 : decode cX7_sends 135 = .ok (.iload 4, 2) := by decide +kernel
theorem dX7_sends_137 : decode cX7_sends 137 = .ok (.aload_n 0, 1) := by decide +kernel
theorem dX7_sends_138 : decode cX7_sends 138 = .ok (.getfield 47, 3) := by decide +kernel
theorem dX7_sends_141 : decode cX7_sends 141 = .ok (.iload 4, 2) := by decide +kernel
theorem dX7_sends_143 : decode cX7_sends 143 = .ok (.iconst 1, 1) := by decide +kernel
theorem dX7_sends_144 : decode cX7_sends 144 = .ok (.iadd, 1) := by decide +kernel
theorem dX7_sends_145 : decode cX7_sends 145 = .ok (.iaload, 1) := by decide +kernel
theorem dX7_sends_146 : decode cX7_sends 146 = .ok (.iastore, 1) := by decide +kernel
theorem dX7_sends_147 : decode cX7_sends 147 = .ok (.iinc 4 1, 3) := by decide +kernel
theorem dX7_sends_150 : decode cX7_sends 150 = .ok (.goto (-36), 3) := by decide +kernel
theorem dX7_sends_153 : decode cX7_sends 153 = .ok (.iinc 2 1, 3) := by decide +kernel
theorem dX7_sends_156 : decode cX7_sends 156 = .ok (.aload_n 0, 1) := by decide +kernel
theorem dX7_sends_157 : decode cX7_sends 157 = .ok (.iload_n 1, 1) := by decide +kernel
theorem dX7_sends_158 : decode cX7_sends 158 = .ok (.invokevirtual 146, 3) := by decide +kernel
theorem dX7_sends_161 : decode cX7_sends 161 = .ok (.istore_n 3, 1) := by decide +kernel
theorem dX7_sends_162 : decode cX7_sends 162 = .ok (.goto (-154), 3) := by decide +kernel
theorem dX7_sends_165 : decode cX7_sends 165 = .ok (.iload_n 2, 1) := by decide +kernel
theorem dX7_sends_166 : decode cX7_sends 166 = .ok (.ireturn, 1) := by decide +kernel
theorem dX7_pass_0 : decode cX7_pass 0 = .ok (.aload_n 0, 1) := by decide +kernel
theorem dX7_pass_1 : decode cX7_pass 1 = .ok (.iload_n 1, 1) := by decide +kernel
theorem dX7_pass_2 : decode cX7_pass 2 = .ok (.iconst 1, 1) := by decide +kernel
theorem dX7_pass_3 : decode cX7_pass 3 = .ok (.sipush 200, 3) := by decide +kernel
theorem dX7_pass_6 : decode cX7_pass 6 = .ok (.invokestatic 94, 3) := by decide +kernel
theorem dX7_pass_9 : decode cX7_pass 9 = .ok (.ifCond .eq 7, 3) := by decide +kernel
theorem dX7_pass_12 : decode cX7_pass 12 = .ok (.iconst 0, 1) := by decide +kernel
theorem dX7_pass_13 : decode cX7_pass 13 = .ok (.goto 4, 3) := by decide +kernel
theorem dX7_pass_16 : decode cX7_pass 16 = .ok (.iconst 1, 1) := by decide +kernel
theorem dX7_pass_17 : decode cX7_pass 17 = .ok (.invokevirtual 101, 3) := by decide +kernel
theorem dX7_pass_20 : decode cX7_pass 20 = .ok (.ifCond .eq 5, 3) := by decide +kernel
theorem dX7_pass_23 : decode cX7_pass 23 = .ok (.iconst 0, 1) := by decide +kernel
theorem dX7_pass_24 : decode cX7_pass 24 = .ok (.ireturn, 1) := by decide +kernel
theorem dX7_pass_25 : decode cX7_pass 25 = .ok (.iconst 0, 1) := by decide +kernel
theorem dX7_pass_26 : decode cX7_pass 26 = .ok (.istore_n 2, 1) := by decide +kernel
theorem dX7_pass_27 : decode cX7_pass 27 = .ok (.iconst 0, 1) := by decide +kernel
theorem dX7_pass_28 : decode cX7_pass 28 = .ok (.istore_n 3, 1) := by decide +kernel
theorem dX7_pass_29 : decode cX7_pass 29 = .ok (.iload_n 3, 1) := by decide +kernel
theorem dX7_pass_30 : decode cX7_pass 30 = .ok (.iload_n 1, 1) := by decide +kernel
theorem dX7_pass_31 : decode cX7_pass 31 = .ok (.if_icmp .ge 118, 3) := by decide +kernel
theorem dX7_pass_34 : decode cX7_pass 34 = .ok (.aload_n 0, 1) := by decide +kernel
theorem dX7_pass_35 : decode cX7_pass 35 = .ok (.dup, 1) := by decide +kernel
theorem dX7_pass_36 : decode cX7_pass 36 = .ok (.getfield 127, 3) := by decide +kernel
theorem dX7_pass_39 : decode cX7_pass 39 = .ok (.iconst 1, 1) := by decide +kernel
theorem dX7_pass_40 : decode cX7_pass 40 = .ok (.iadd, 1) := by decide +kernel
theorem dX7_pass_41 : decode cX7_pass 41 = .ok (.putfield 127, 3) := by decide +kernel
theorem dX7_pass_44 : decode cX7_pass 44 = .ok (.iconst 0, 1) := by decide +kernel
theorem dX7_pass_45 : decode cX7_pass 45 = .ok (.istore 4, 2) := by decide +kernel
theorem dX7_pass_47 : decode cX7_pass 47 = .ok (.iload 4, 2) := by decide +kernel
theorem dX7_pass_49 : decode cX7_pass 49 = .ok (.aload_n 0, 1) := by decide +kernel
theorem dX7_pass_50 : decode cX7_pass 50 = .ok (.getfield 124, 3) := by decide +kernel
theorem dX7_pass_53 : decode cX7_pass 53 = .ok (.if_icmp .ge 40, 3) := by decide +kernel
theorem dX7_pass_56 : decode cX7_pass 56 = .ok (.aload_n 0, 1) := by decide +kernel
theorem dX7_pass_57 : decode cX7_pass 57 = .ok (.getfield 25, 3) := by decide +kernel
theorem dX7_pass_60 : decode cX7_pass 60 = .ok (.iload 4, 2) := by decide +kernel
theorem dX7_pass_62 : decode cX7_pass 62 = .ok (.iaload, 1) := by decide +kernel
theorem dX7_pass_63 : decode cX7_pass 63 = .ok (.ifCond .ne 24, 3) := by decide +kernel
theorem dX7_pass_66 : decode cX7_pass 66 = .ok (.aload_n 0, 1) := by decide +kernel
theorem dX7_pass_67 : decode cX7_pass 67 = .ok (.getfield 127, 3) := by decide +kernel
theorem dX7_pass_70 : decode cX7_pass 70 = .ok (.aload_n 0, 1) := by decide +kernel
theorem dX7_pass_71 : decode cX7_pass 71 = .ok (.getfield 22, 3) := by decide +kernel
theorem dX7_pass_74 : decode cX7_pass 74 = .ok (.iload 4, 2) := by decide +kernel
theorem dX7_pass_76 : decode cX7_pass 76 = .ok (.iaload, 1) := by decide +kernel
theorem dX7_pass_77 : decode cX7_pass 77 = .ok (.if_icmp .lt 10, 3) := by decide +kernel
theorem dX7_pass_80 : decode cX7_pass 80 = .ok (.aload_n 0, 1) := by decide +kernel
theorem dX7_pass_81 : decode cX7_pass 81 = .ok (.iload 4, 2) := by decide +kernel
theorem dX7_pass_83 : decode cX7_pass 83 = .ok (.iconst 3, 1) := by decide +kernel
theorem dX7_pass_84 : decode cX7_pass 84 = .ok (.invokevirtual 149, 3) := by decide +kernel
theorem dX7_pass_87 : decode cX7_pass 87 = .ok (.iinc 4 1, 3) := by decide +kernel
theorem dX7_pass_90 : decode cX7_pass 90 = .ok (.goto (-43), 3) := by decide +kernel
theorem dX7_pass_93 : decode cX7_pass 93 = .ok (.iconst 0, 1) := by decide +kernel
theorem dX7_pass_94 : decode cX7_pass 94 = .ok (.istore 4, 2) := by decide +kernel
theorem dX7_pass_96 : decode cX7_pass 96 = .ok (.iload 4, 2) := by decide +kernel
theorem dX7_pass_98 : decode cX7_pass 98 = .ok (.iconst 3, 1) := by decide +kernel
theorem dX7_pass_99 : decode cX7_pass 99 = .ok (.if_icmp .ge 44, 3) := by decide +kernel
theorem dX7_pass_102 : decode cX7_pass 102 = .ok (.aload_n 0, 1) := by decide +kernel
theorem dX7_pass_103 : decode cX7_pass 103 = .ok (.getfield 59, 3) := by decide +kernel
theorem dX7_pass_106 : decode cX7_pass 106 = .ok (.iload 4, 2) := by decide +kernel
theorem dX7_pass_108 : decode cX7_pass 108 = .ok (.dup2, 1) := by decide +kernel
theorem dX7_pass_109 : decode cX7_pass 109 = .ok (.iaload, 1) := by decide +kernel
theorem dX7_pass_110 : decode cX7_pass 110 = .ok (.aload_n 0, 1) := by decide +kernel
theorem dX7_pass_111 : decode cX7_pass 111 = .ok (.getfield 59, 3) := by decide +kernel
theorem dX7_pass_114 : decode cX7_pass 114 = .ok (.iload 4, 2) := by decide +kernel
theorem dX7_pass_116 : decode cX7_pass 116 = .ok (.iaload, 1) := by decide +kernel
theorem dX7_pass_117 : decode cX7_pass 117 = .ok (.iconst 5, 1) := by decide +kernel
theorem dX7_pass_118 : decode cX7_pass 118 = .ok (.if_icmp .ge 7, 3) := by decide +kernel
theorem dX7_pass_121 : decode cX7_pass 121 = .ok (.iconst 1, 1) := by decide +kernel
theorem dX7_pass_122 : decode cX7_pass 122 = .ok (.goto 4, 3) := by decide +kernel
theorem dX7_pass_125 : decode cX7_pass 125 = .ok (.iconst 0, 1) := by decide +kernel
theorem dX7_pass_126 : decode cX7_pass 126 = .ok (.iadd, 1) := by decide +kernel
theorem dX7_pass_127 : decode cX7_pass 127 = .ok (.iastore, 1) := by decide +kernel
theorem dX7_pass_128 : decode cX7_pass 128 = .ok (.iload_n 2, 1) := by decide +kernel
theorem dX7_pass_129 : decode cX7_pass 129 = .ok (.aload_n 0, 1) := by decide +kernel
theorem dX7_pass_130 : decode cX7_pass 130 = .ok (.iload 4, 2) := by decide +kernel
theorem dX7_pass_132 : decode cX7_pass 132 = .ok (.invokevirtual 153, 3) := by decide +kernel
theorem dX7_pass_135 : decode cX7_pass 135 = .ok (.iadd, 1) := by decide +kernel
theorem dX7_pass_136 : decode cX7_pass 136 = .ok (.istore_n 2, 1) := by decide +kernel
theorem dX7_pass_137 : decode cX7_pass 137 = .ok (.iinc 4 1, 3) := by decide +kernel
theorem dX7_pass_140 : decode cX7_pass 140 = .ok (.goto (-44), 3) := by decide +kernel
theorem dX7_pass_143 : decode cX7_pass 143 = .ok (.iinc 3 1, 3) := by decide +kernel
theorem dX7_pass_146 : decode cX7_pass 146 = .ok (.goto (-117), 3) := by decide +kernel
theorem dX7_pass_149 : decode cX7_pass 149 = .ok (.iload_n 2, 1) := by decide +kernel
theorem dX7_pass_150 : decode cX7_pass 150 = .ok (.ireturn, 1) := by decide +kernel
theorem dX7_time_0 : decode cX7_time 0 = .ok (.aload_n 0, 1) := by decide +kernel
theorem dX7_time_1 : decode cX7_time 1 = .ok (.aload_n 0, 1) := by decide +kernel
theorem dX7_time_2 : decode cX7_time 2 = .ok (.getfield 127, 3) := by decide +kernel
theorem dX7_time_5 : decode cX7_time 5 = .ok (.invokevirtual 108, 3) := by decide +kernel
theorem dX7_time_8 : decode cX7_time 8 = .ok (.ireturn, 1) := by decide +kernel
theorem dX7_isLink_0 : decode cX7_isLink 0 = .ok (.iload_n 0, 1) := by decide +kernel
theorem dX7_isLink_1 : decode cX7_isLink 1 = .ok (.iconst 0, 1) := by decide +kernel
theorem dX7_isLink_2 : decode cX7_isLink 2 = .ok (.iconst 2, 1) := by decide +kernel
theorem dX7_isLink_3 : decode cX7_isLink 3 = .ok (.invokestatic 94, 3) := by decide +kernel
theorem dX7_isLink_6 : decode cX7_isLink 6 = .ok (.ireturn, 1) := by decide +kernel
theorem dX7_toggleLink_0 : decode cX7_toggleLink 0 = .ok (.aload_n 0, 1) := by decide +kernel
theorem dX7_toggleLink_1 : decode cX7_toggleLink 1 = .ok (.iload_n 1, 1) := by decide +kernel
theorem dX7_toggleLink_2 : decode cX7_toggleLink 2 = .ok (.invokestatic 156, 3) := by decide +kernel
theorem dX7_toggleLink_5 : decode cX7_toggleLink 5 = .ok (.ifCond .eq 7, 3) := by decide +kernel
theorem dX7_toggleLink_8 : decode cX7_toggleLink 8 = .ok (.iconst 0, 1) := by decide +kernel
theorem dX7_toggleLink_9 : decode cX7_toggleLink 9 = .ok (.goto 4, 3) := by decide +kernel
theorem dX7_toggleLink_12 : decode cX7_toggleLink 12 = .ok (.iconst 1, 1) := by decide +kernel
theorem dX7_toggleLink_13 : decode cX7_toggleLink 13 = .ok (.invokevirtual 101, 3) := by decide +kernel
theorem dX7_toggleLink_16 : decode cX7_toggleLink 16 = .ok (.ifCond .eq 5, 3) := by decide +kernel
theorem dX7_toggleLink_19 : decode cX7_toggleLink 19 = .ok (.iconst 0, 1) := by decide +kernel
theorem dX7_toggleLink_20 : decode cX7_toggleLink 20 = .ok (.ireturn, 1) := by decide +kernel
theorem dX7_toggleLink_21 : decode cX7_toggleLink 21 = .ok (.aload_n 0, 1) := by decide +kernel
theorem dX7_toggleLink_22 : decode cX7_toggleLink 22 = .ok (.getfield 56, 3) := by decide +kernel
theorem dX7_toggleLink_25 : decode cX7_toggleLink 25 = .ok (.iload_n 1, 1) := by decide +kernel
theorem dX7_toggleLink_26 : decode cX7_toggleLink 26 = .ok (.aload_n 0, 1) := by decide +kernel
theorem dX7_toggleLink_27 : decode cX7_toggleLink 27 = .ok (.getfield 56, 3) := by decide +kernel
theorem dX7_toggleLink_30 : decode cX7_toggleLink 30 = .ok (.iload_n 1, 1) := by decide +kernel
theorem dX7_toggleLink_31 : decode cX7_toggleLink 31 = .ok (.baload, 1) := by decide +kernel
theorem dX7_toggleLink_32 : decode cX7_toggleLink 32 = .ok (.ifCond .ne 7, 3) := by decide +kernel
theorem dX7_toggleLink_35 : decode cX7_toggleLink 35 = .ok (.iconst 1, 1) := by decide +kernel
theorem dX7_toggleLink_36 : decode cX7_toggleLink 36 = .ok (.goto 4, 3) := by decide +kernel
theorem dX7_toggleLink_39 : decode cX7_toggleLink 39 = .ok (.iconst 0, 1) := by decide +kernel
theorem dX7_toggleLink_40 : decode cX7_toggleLink 40 = .ok (.bastore, 1) := by decide +kernel
theorem dX7_toggleLink_41 : decode cX7_toggleLink 41 = .ok (.aload_n 0, 1) := by decide +kernel
theorem dX7_toggleLink_42 : decode cX7_toggleLink 42 = .ok (.getfield 56, 3) := by decide +kernel
theorem dX7_toggleLink_45 : decode cX7_toggleLink 45 = .ok (.iload_n 1, 1) := by decide +kernel
theorem dX7_toggleLink_46 : decode cX7_toggleLink 46 = .ok (.baload, 1) := by decide +kernel
theorem dX7_toggleLink_47 : decode cX7_toggleLink 47 = .ok (.ifCond .eq 138, 3) := by decide +kernel
theorem dX7_toggleLink_50 : decode cX7_toggleLink 50 = .ok (.aload_n 0, 1) := by decide +kernel
theorem dX7_toggleLink_51 : decode cX7_toggleLink 51 = .ok (.getfield 50, 3) := by decide +kernel
theorem dX7_toggleLink_54 : decode cX7_toggleLink 54 = .ok (.iload_n 1, 1) := by decide +kernel
theorem dX7_toggleLink_55 : decode cX7_toggleLink 55 = .ok (.iaload, 1) := by decide +kernel
theorem dX7_toggleLink_56 : decode cX7_toggleLink 56 = .ok (.iconst 1, 1) := by decide +kernel
theorem dX7_toggleLink_57 : decode cX7_toggleLink 57 = .ok (.isub, 1) := by decide +kernel
theorem dX7_toggleLink_58 : decode cX7_toggleLink 58 = .ok (.istore_n 2, 1) := by decide +kernel
theorem dX7_toggleLink_59 : decode cX7_toggleLink 59 = .ok (.iload_n 2, 1) := by decide +kernel
theorem dX7_toggleLink_60 : decode cX7_toggleLink 60 = .ok (.ifCond .lt 118, 3) := by decide +kernel
theorem dX7_toggleLink_63 : decode cX7_toggleLink 63 = .ok (.aload_n 0, 1) := by decide +kernel
theorem dX7_toggleLink_64 : decode cX7_toggleLink 64 = .ok (.getfield 53, 3) := by decide +kernel
theorem dX7_toggleLink_67 : decode cX7_toggleLink 67 = .ok (.sipush 200, 3) := by decide +kernel
theorem dX7_toggleLink_70 : decode cX7_toggleLink 70 = .ok (.iload_n 1, 1) := by decide +kernel
theorem dX7_toggleLink_71 : decode cX7_toggleLink 71 = .ok (.imul, 1) := by decide +kernel
theorem dX7_toggleLink_72 : decode cX7_toggleLink 72 = .ok (.iload_n 2, 1) := by decide +kernel
theorem dX7_toggleLink_73 : decode cX7_toggleLink 73 = .ok (.iadd, 1) := by decide +kernel
theorem dX7_toggleLink_74 : decode cX7_toggleLink 74 = .ok (.iaload, 1) := by decide +kernel
theorem dX7_toggleLink_75 : decode cX7_toggleLink 75 = .ok (.istore_n 3, 1) := by decide +kernel
theorem dX7_toggleLink_76 : decode cX7_toggleLink 76 = .ok (.aload_n 0, 1) := by decide +kernel
theorem dX7_toggleLink_77 : decode cX7_toggleLink 77 = .ok (.getfield 25, 3) := by decide +kernel
theorem dX7_toggleLink_80 : decode cX7_toggleLink 80 = .ok (.iload_n 3, 1) := by decide +kernel
theorem dX7_toggleLink_81 : decode cX7_toggleLink 81 = .ok (.bipush 10, 2) := by decide +kernel
theorem dX7_toggleLink_83 : decode cX7_toggleLink 83 = .ok (.idiv, 1) := by decide +kernel
theorem dX7_toggleLink_84 : decode cX7_toggleLink 84 = .ok (.iaload, 1) := by decide +kernel
theorem dX7_toggleLink_85 : decode cX7_toggleLink 85 = .ok (.ifCond .ne 87, 3) := by decide +kernel
theorem dX7_toggleLink_88 : decode cX7_toggleLink 88 = .ok (.sipush 200, 3) := by decide +kernel
theorem dX7_toggleLink_91 : decode cX7_toggleLink 91 = .ok (.iload_n 1, 1) := by decide +kernel
theorem dX7_toggleLink_92 : decode cX7_toggleLink 92 = .ok (.imul, 1) := by decide +kernel
theorem dX7_toggleLink_93 : decode cX7_toggleLink 93 = .ok (.aload_n 0, 1) := by decide +kernel
theorem dX7_toggleLink_94 : decode cX7_toggleLink 94 = .ok (.getfield 44, 3) := by decide +kernel
theorem dX7_toggleLink_97 : decode cX7_toggleLink 97 = .ok (.iload_n 1, 1) := by decide +kernel
theorem dX7_toggleLink_98 : decode cX7_toggleLink 98 = .ok (.iaload, 1) := by decide +kernel
theorem dX7_toggleLink_99 : decode cX7_toggleLink 99 = .ok (.iadd, 1) := by decide +kernel
theorem dX7_toggleLink_100 : decode cX7_toggleLink 100 = .ok (.istore 4, 2) := by decide +kernel
theorem dX7_toggleLink_102 : decode cX7_toggleLink 102 = .ok (.iload 4, 2) := by decide +kernel
theorem dX7_toggleLink_104 : decode cX7_toggleLink 104 = .ok (.sipush 200, 3) := by decide +kernel
theorem dX7_toggleLink_107 : decode cX7_toggleLink 107 = .ok (.iload_n 1, 1) := by decide +kernel
theorem dX7_toggleLink_108 : decode cX7_toggleLink 108 = .ok (.imul, 1) := by decide +kernel
theorem dX7_toggleLink_109 : decode cX7_toggleLink 109 = .ok (.if_icmp .le 25, 3) := by decide +kernel
theorem dX7_toggleLink_112 : decode cX7_toggleLink 112 = .ok (.aload_n 0, 1) := by decide +kernel
theorem dX7_toggleLink_113 : decode cX7_toggleLink 113 = .ok (.getfield 47, 3) := by decide +kernel
theorem dX7_toggleLink_116 : decode cX7_toggleLink 116 = .ok (.iload 4, 2) := by decide +kernel
theorem dX7_toggleLink_118 : decode cX7_toggleLink 118 = .ok (.aload_n 0, 1) := by decide +kernel
theorem dX7_toggleLink_119 : decode cX7_toggleLink 119 = .ok (.getfield 47, 3) := by decide +kernel
theorem dX7_toggleLink_122 : decode cX7_toggleLink 122 = .ok (.iload 4, 2) := by decide +kernel
theorem dX7_toggleLink_124 : decode cX7_toggleLink 124 = .ok (.iconst 1, 1) := by decide +kernel
theorem dX7_toggleLink_125 : decode cX7_toggleLink 125 = .ok (.isub, 1) := by decide +kernel
theorem dX7_toggleLink_126 : decode cX7_toggleLink 126 = .ok (.iaload, 1) := by decide +kernel
theorem dX7_toggleLink_127 : decode cX7_toggleLink 127 = .ok (.iastore, 1) := by decide +kernel
theorem dX7_toggleLink_128 : decode cX7_toggleLink 128 = .ok (.iinc 4 (-1), 3) := by decide +kernel
theorem dX7_toggleLink_131 : decode cX7_toggleLink 131 = .ok (.goto (-29), 3) := by decide +kernel
theorem dX7_toggleLink_134 : decode cX7_toggleLink 134 = .ok (.aload_n 0, 1) := by decide +kernel
theorem dX7_toggleLink_135 : decode cX7_toggleLink 135 = .ok (.getfield 47, 3) := by decide +kernel
theorem dX7_toggleLink_138 : decode cX7_toggleLink 138 = .ok (.sipush 200, 3) := by decide +kernel
theorem dX7_toggleLink_141 : decode cX7_toggleLink 141 = .ok (.iload_n 1, 1) := by decide +kernel
theorem dX7_toggleLink_142 : decode cX7_toggleLink 142 = .ok (.imul, 1) := by decide +kernel
theorem dX7_toggleLink_143 : decode cX7_toggleLink 143 = .ok (.iload_n 3, 1) := by decide +kernel
theorem dX7_toggleLink_144 : decode cX7_toggleLink 144 = .ok (.iastore, 1) := by decide +kernel
theorem dX7_toggleLink_145 : decode cX7_toggleLink 145 = .ok (.aload_n 0, 1) := by decide +kernel
theorem dX7_toggleLink_146 : decode cX7_toggleLink 146 = .ok (.getfield 44, 3) := by decide +kernel
theorem dX7_toggleLink_149 : decode cX7_toggleLink 149 = .ok (.iload_n 1, 1) := by decide +kernel
theorem dX7_toggleLink_150 : decode cX7_toggleLink 150 = .ok (.dup2, 1) := by decide +kernel
theorem dX7_toggleLink_151 : decode cX7_toggleLink 151 = .ok (.iaload, 1) := by decide +kernel
theorem dX7_toggleLink_152 : decode cX7_toggleLink 152 = .ok (.iconst 1, 1) := by decide +kernel
theorem dX7_toggleLink_153 : decode cX7_toggleLink 153 = .ok (.iadd, 1) := by decide +kernel
theorem dX7_toggleLink_154 : decode cX7_toggleLink 154 = .ok (.iastore, 1) := by decide +kernel
theorem dX7_toggleLink_155 : decode cX7_toggleLink 155 = .ok (.aload_n 0, 1) := by decide +kernel
theorem dX7_toggleLink_156 : decode cX7_toggleLink 156 = .ok (.getfield 31, 3) := by decide +kernel
theorem dX7_toggleLink_159 : decode cX7_toggleLink 159 = .ok (.iload_n 3, 1) := by decide +kernel
theorem dX7_toggleLink_160 : decode cX7_toggleLink 160 = .ok (.aload_n 0, 1) := by decide +kernel
theorem dX7_toggleLink_161 : decode cX7_toggleLink 161 = .ok (.getfield 127, 3) := by decide +kernel
theorem dX7_toggleLink_164 : decode cX7_toggleLink 164 = .ok (.iastore, 1) := by decide +kernel
theorem dX7_toggleLink_165 : decode cX7_toggleLink 165 = .ok (.aload_n 0, 1) := by decide +kernel
theorem dX7_toggleLink_166 : decode cX7_toggleLink 166 = .ok (.getfield 37, 3) := by decide +kernel
theorem dX7_toggleLink_169 : decode cX7_toggleLink 169 = .ok (.iload_n 3, 1) := by decide +kernel
theorem dX7_toggleLink_170 : decode cX7_toggleLink 170 = .ok (.iconst 0, 1) := by decide +kernel
theorem dX7_toggleLink_171 : decode cX7_toggleLink 171 = .ok (.bastore, 1) := by decide +kernel
theorem dX7_toggleLink_172 : decode cX7_toggleLink 172 = .ok (.iinc 2 (-1), 3) := by decide +kernel
theorem dX7_toggleLink_175 : decode cX7_toggleLink 175 = .ok (.goto (-116), 3) := by decide +kernel
theorem dX7_toggleLink_178 : decode cX7_toggleLink 178 = .ok (.aload_n 0, 1) := by decide +kernel
theorem dX7_toggleLink_179 : decode cX7_toggleLink 179 = .ok (.getfield 50, 3) := by decide +kernel
theorem dX7_toggleLink_182 : decode cX7_toggleLink 182 = .ok (.iload_n 1, 1) := by decide +kernel
theorem dX7_toggleLink_183 : decode cX7_toggleLink 183 = .ok (.iconst 0, 1) := by decide +kernel
theorem dX7_toggleLink_184 : decode cX7_toggleLink 184 = .ok (.iastore, 1) := by decide +kernel
theorem dX7_toggleLink_185 : decode cX7_toggleLink 185 = .ok (.aload_n 0, 1) := by decide +kernel
theorem dX7_toggleLink_186 : decode cX7_toggleLink 186 = .ok (.getfield 56, 3) := by decide +kernel
theorem dX7_toggleLink_189 : decode cX7_toggleLink 189 = .ok (.iload_n 1, 1) := by decide +kernel
theorem dX7_toggleLink_190 : decode cX7_toggleLink 190 = .ok (.baload, 1) := by decide +kernel
theorem dX7_toggleLink_191 : decode cX7_toggleLink 191 = .ok (.ifCond .ne 7, 3) := by decide +kernel
theorem dX7_toggleLink_194 : decode cX7_toggleLink 194 = .ok (.iconst 1, 1) := by decide +kernel
theorem dX7_toggleLink_195 : decode cX7_toggleLink 195 = .ok (.goto 4, 3) := by decide +kernel
theorem dX7_toggleLink_198 : decode cX7_toggleLink 198 = .ok (.iconst 0, 1) := by decide +kernel
theorem dX7_toggleLink_199 : decode cX7_toggleLink 199 = .ok (.ireturn, 1) := by decide +kernel
theorem dX7_setWindow_0 : decode cX7_setWindow 0 = .ok (.aload_n 0, 1) := by decide +kernel
theorem dX7_setWindow_1 : decode cX7_setWindow 1 = .ok (.iload_n 1, 1) := by decide +kernel
theorem dX7_setWindow_2 : decode cX7_setWindow 2 = .ok (.invokestatic 156, 3) := by decide +kernel
theorem dX7_setWindow_5 : decode cX7_setWindow 5 = .ok (.ifCond .ne 7, 3) := by decide +kernel
theorem dX7_setWindow_8 : decode cX7_setWindow 8 = .ok (.iconst 1, 1) := by decide +kernel
theorem dX7_setWindow_9 : decode cX7_setWindow 9 = .ok (.goto 18, 3) := by decide +kernel
theorem dX7_setWindow_12 : decode cX7_setWindow 12 = .ok (.iload_n 2, 1) := by decide +kernel
theorem dX7_setWindow_13 : decode cX7_setWindow 13 = .ok (.iconst 1, 1) := by decide +kernel
theorem dX7_setWindow_14 : decode cX7_setWindow 14 = .ok (.bipush 10, 2) := by decide +kernel
theorem dX7_setWindow_16 : decode cX7_setWindow 16 = .ok (.invokestatic 94, 3) := by decide +kernel
theorem dX7_setWindow_19 : decode cX7_setWindow 19 = .ok (.ifCond .eq 7, 3) := by decide +kernel
theorem dX7_setWindow_22 : decode cX7_setWindow 22 = .ok (.iconst 0, 1) := by decide +kernel
theorem dX7_setWindow_23 : decode cX7_setWindow 23 = .ok (.goto 4, 3) := by decide +kernel
theorem dX7_setWindow_26 : decode cX7_setWindow 26 = .ok (.iconst 2, 1) := by decide +kernel
theorem dX7_setWindow_27 : decode cX7_setWindow 27 = .ok (.invokevirtual 101, 3) := by decide +kernel
theorem dX7_setWindow_30 : decode cX7_setWindow 30 = .ok (.ifCond .eq 5, 3) := by decide +kernel
theorem dX7_setWindow_33 : decode cX7_setWindow 33 = .ok (.iconst 0, 1) := by decide +kernel
theorem dX7_setWindow_34 : decode cX7_setWindow 34 = .ok (.ireturn, 1) := by decide +kernel
theorem dX7_setWindow_35 : decode cX7_setWindow 35 = .ok (.aload_n 0, 1) := by decide +kernel
theorem dX7_setWindow_36 : decode cX7_setWindow 36 = .ok (.getfield 62, 3) := by decide +kernel
theorem dX7_setWindow_39 : decode cX7_setWindow 39 = .ok (.iload_n 1, 1) := by decide +kernel
theorem dX7_setWindow_40 : decode cX7_setWindow 40 = .ok (.iaload, 1) := by decide +kernel
theorem dX7_setWindow_41 : decode cX7_setWindow 41 = .ok (.istore_n 3, 1) := by decide +kernel
theorem dX7_setWindow_42 : decode cX7_setWindow 42 = .ok (.aload_n 0, 1) := by decide +kernel
theorem dX7_setWindow_43 : decode cX7_setWindow 43 = .ok (.getfield 62, 3) := by decide +kernel
theorem dX7_setWindow_46 : decode cX7_setWindow 46 = .ok (.iload_n 1, 1) := by decide +kernel
theorem dX7_setWindow_47 : decode cX7_setWindow 47 = .ok (.iload_n 2, 1) := by decide +kernel
theorem dX7_setWindow_48 : decode cX7_setWindow 48 = .ok (.iastore, 1) := by decide +kernel
theorem dX7_setWindow_49 : decode cX7_setWindow 49 = .ok (.iload_n 3, 1) := by decide +kernel
theorem dX7_setWindow_50 : decode cX7_setWindow 50 = .ok (.ireturn, 1) := by decide +kernel
theorem dX7_of_0 : decode cX7_of 0 = .ok (.aload_n 0, 1) := by decide +kernel
theorem dX7_of_1 : decode cX7_of 1 = .ok (.iload_n 2, 1) := by decide +kernel
theorem dX7_of_2 : decode cX7_of 2 = .ok (.invokestatic 156, 3) := by decide +kernel
theorem dX7_of_5 : decode cX7_of 5 = .ok (.ifCond .eq 7, 3) := by decide +kernel
theorem dX7_of_8 : decode cX7_of 8 = .ok (.iconst 0, 1) := by decide +kernel
theorem dX7_of_9 : decode cX7_of 9 = .ok (.goto 4, 3) := by decide +kernel
theorem dX7_of_12 : decode cX7_of 12 = .ok (.iconst 1, 1) := by decide +kernel
theorem dX7_of_13 : decode cX7_of 13 = .ok (.invokevirtual 101, 3) := by decide +kernel
theorem dX7_of_16 : decode cX7_of 16 = .ok (.ifCond .eq 7, 3) := by decide +kernel
theorem dX7_of_19 : decode cX7_of 19 = .ok (.iconst 0, 1) := by decide +kernel
theorem dX7_of_20 : decode cX7_of 20 = .ok (.goto 6, 3) := by decide +kernel
theorem dX7_of_23 : decode cX7_of 23 = .ok (.aload_n 1, 1) := by decide +kernel
theorem dX7_of_24 : decode cX7_of 24 = .ok (.iload_n 2, 1) := by decide +kernel
theorem dX7_of_25 : decode cX7_of 25 = .ok (.iaload, 1) := by decide +kernel
theorem dX7_of_26 : decode cX7_of 26 = .ok (.ireturn, 1) := by decide +kernel
theorem dX7_queued_0 : decode cX7_queued 0 = .ok (.aload_n 0, 1) := by decide +kernel
theorem dX7_queued_1 : decode cX7_queued 1 = .ok (.aload_n 0, 1) := by decide +kernel
theorem dX7_queued_2 : decode cX7_queued 2 = .ok (.getfield 44, 3) := by decide +kernel
theorem dX7_queued_5 : decode cX7_queued 5 = .ok (.iload_n 1, 1) := by decide +kernel
theorem dX7_queued_6 : decode cX7_queued 6 = .ok (.invokevirtual 159, 3) := by decide +kernel
theorem dX7_queued_9 : decode cX7_queued 9 = .ok (.ireturn, 1) := by decide +kernel
theorem dX7_underWay_0 : decode cX7_underWay 0 = .ok (.aload_n 0, 1) := by decide +kernel
theorem dX7_underWay_1 : decode cX7_underWay 1 = .ok (.aload_n 0, 1) := by decide +kernel
theorem dX7_underWay_2 : decode cX7_underWay 2 = .ok (.getfield 50, 3) := by decide +kernel
theorem dX7_underWay_5 : decode cX7_underWay 5 = .ok (.iload_n 1, 1) := by decide +kernel
theorem dX7_underWay_6 : decode cX7_underWay 6 = .ok (.invokevirtual 159, 3) := by decide +kernel
theorem dX7_underWay_9 : decode cX7_underWay 9 = .ok (.ireturn, 1) := by decide +kernel
theorem dX7_tokens_0 : decode cX7_tokens 0 = .ok (.aload_n 0, 1) := by decide +kernel
theorem dX7_tokens_1 : decode cX7_tokens 1 = .ok (.aload_n 0, 1) := by decide +kernel
theorem dX7_tokens_2 : decode cX7_tokens 2 = .ok (.getfield 59, 3) := by decide +kernel
theorem dX7_tokens_5 : decode cX7_tokens 5 = .ok (.iload_n 1, 1) := by decide +kernel
theorem dX7_tokens_6 : decode cX7_tokens 6 = .ok (.invokevirtual 159, 3) := by decide +kernel
theorem dX7_tokens_9 : decode cX7_tokens 9 = .ok (.ireturn, 1) := by decide +kernel
theorem dX7_becomes_0 : decode cX7_becomes 0 = .ok (.iload_n 1, 1) := by decide +kernel
theorem dX7_becomes_1 : decode cX7_becomes 1 = .ok (.bipush 10, 2) := by decide +kernel
theorem dX7_becomes_3 : decode cX7_becomes 3 = .ok (.idiv, 1) := by decide +kernel
theorem dX7_becomes_4 : decode cX7_becomes 4 = .ok (.istore_n 3, 1) := by decide +kernel
theorem dX7_becomes_5 : decode cX7_becomes 5 = .ok (.aload_n 0, 1) := by decide +kernel
theorem dX7_becomes_6 : decode cX7_becomes 6 = .ok (.getfield 19, 3) := by decide +kernel
theorem dX7_becomes_9 : decode cX7_becomes 9 = .ok (.iload_n 3, 1) := by decide +kernel
theorem dX7_becomes_10 : decode cX7_becomes 10 = .ok (.iaload, 1) := by decide +kernel
theorem dX7_becomes_11 : decode cX7_becomes 11 = .ok (.iconst 3, 1) := by decide +kernel
theorem dX7_becomes_12 : decode cX7_becomes 12 = .ok (.irem, 1) := by decide +kernel
theorem dX7_becomes_13 : decode cX7_becomes 13 = .ok (.istore 4, 2) := by decide +kernel
theorem dX7_becomes_15 : decode cX7_becomes 15 = .ok (.iload_n 2, 1) := by decide +kernel
theorem dX7_becomes_16 : decode cX7_becomes 16 = .ok (.ifCond .ne 27, 3) := by decide +kernel
theorem dX7_becomes_19 : decode cX7_becomes 19 = .ok (.aload_n 0, 1) := by decide +kernel
theorem dX7_becomes_20 : decode cX7_becomes 20 = .ok (.getfield 41, 3) := by decide +kernel
theorem dX7_becomes_23 : decode cX7_becomes 23 = .ok (.iload_n 1, 1) := by decide +kernel
theorem dX7_becomes_24 : decode cX7_becomes 24 = .ok (.iconst 1, 1) := by decide +kernel
theorem dX7_becomes_25 : decode cX7_becomes 25 = .ok (.bastore, 1) := by decide +kernel
theorem dX7_becomes_26 : decode cX7_becomes 26 = .ok (.aload_n 0, 1) := by decide +kernel
theorem dX7_becomes_27 : decode cX7_becomes 27 = .ok (.iload_n 3, 1) := by decide +kernel
theorem dX7_becomes_28 : decode cX7_becomes 28 = .ok (.invokevirtual 140, 3) := by decide +kernel
theorem dX7_becomes_31 : decode cX7_becomes 31 = .ok (.ifCond .ne 87, 3) := by decide +kernel
theorem dX7_becomes_34 : decode cX7_becomes 34 = .ok (.aload_n 0, 1) := by decide +kernel
theorem dX7_becomes_35 : decode cX7_becomes 35 = .ok (.iload_n 3, 1) := by decide +kernel
theorem dX7_becomes_36 : decode cX7_becomes 36 = .ok (.iconst 1, 1) := by decide +kernel
theorem dX7_becomes_37 : decode cX7_becomes 37 = .ok (.invokevirtual 149, 3) := by decide +kernel
theorem dX7_becomes_40 : decode cX7_becomes 40 = .ok (.goto 78, 3) := by decide +kernel
theorem dX7_becomes_43 : decode cX7_becomes 43 = .ok (.iload_n 2, 1) := by decide +kernel
theorem dX7_becomes_44 : decode cX7_becomes 44 = .ok (.iconst 1, 1) := by decide +kernel
theorem dX7_becomes_45 : decode cX7_becomes 45 = .ok (.if_icmp .ne 47, 3) := by decide +kernel
theorem dX7_becomes_48 : decode cX7_becomes 48 = .ok (.aload_n 0, 1) := by decide +kernel
theorem dX7_becomes_49 : decode cX7_becomes 49 = .ok (.getfield 34, 3) := by decide +kernel
theorem dX7_becomes_52 : decode cX7_becomes 52 = .ok (.iload_n 1, 1) := by decide +kernel
theorem dX7_becomes_53 : decode cX7_becomes 53 = .ok (.iaload, 1) := by decide +kernel
theorem dX7_becomes_54 : decode cX7_becomes 54 = .ok (.iconst 3, 1) := by decide +kernel
theorem dX7_becomes_55 : decode cX7_becomes 55 = .ok (.if_icmp .ge 37, 3) := by decide +kernel
theorem dX7_becomes_58 : decode cX7_becomes 58 = .ok (.aload_n 0, 1) := by decide +kernel
theorem dX7_becomes_59 : decode cX7_becomes 59 = .ok (.getfield 34, 3) := by decide +kernel
theorem dX7_becomes_62 : decode cX7_becomes 62 = .ok (.iload_n 1, 1) := by decide +kernel
theorem dX7_becomes_63 : decode cX7_becomes 63 = .ok (.dup2, 1) := by decide +kernel
theorem dX7_becomes_64 : decode cX7_becomes 64 = .ok (.iaload, 1) := by decide +kernel
theorem dX7_becomes_65 : decode cX7_becomes 65 = .ok (.iconst 1, 1) := by decide +kernel
theorem dX7_becomes_66 : decode cX7_becomes 66 = .ok (.iadd, 1) := by decide +kernel
theorem dX7_becomes_67 : decode cX7_becomes 67 = .ok (.iastore, 1) := by decide +kernel
theorem dX7_becomes_68 : decode cX7_becomes 68 = .ok (.aload_n 0, 1) := by decide +kernel
theorem dX7_becomes_69 : decode cX7_becomes 69 = .ok (.iload 4, 2) := by decide +kernel
theorem dX7_becomes_71 : decode cX7_becomes 71 = .ok (.iload_n 1, 1) := by decide +kernel
theorem dX7_becomes_72 : decode cX7_becomes 72 = .ok (.aload_n 0, 1) := by decide +kernel
theorem dX7_becomes_73 : decode cX7_becomes 73 = .ok (.getfield 127, 3) := by decide +kernel
theorem dX7_becomes_76 : decode cX7_becomes 76 = .ok (.iconst 1, 1) := by decide +kernel
theorem dX7_becomes_77 : decode cX7_becomes 77 = .ok (.aload_n 0, 1) := by decide +kernel
theorem dX7_becomes_78 : decode cX7_becomes 78 = .ok (.getfield 34, 3) := by decide +kernel
theorem dX7_becomes_81 : decode cX7_becomes 81 = .ok (.iload_n 1, 1) := by decide +kernel
theorem dX7_becomes_82 : decode cX7_becomes 82 = .ok (.iaload, 1) := by decide +kernel
theorem dX7_becomes_83 : decode cX7_becomes 83 = .ok (.ishl, 1) := by decide +kernel
theorem dX7_becomes_84 : decode cX7_becomes 84 = .ok (.iadd, 1) := by decide +kernel
theorem dX7_becomes_85 : decode cX7_becomes 85 = .ok (.iconst 0, 1) := by decide +kernel
theorem dX7_becomes_86 : decode cX7_becomes 86 = .ok (.invokevirtual 133, 3) := by decide +kernel
theorem dX7_becomes_89 : decode cX7_becomes 89 = .ok (.goto 29, 3) := by decide +kernel
theorem dX7_becomes_92 : decode cX7_becomes 92 = .ok (.iload_n 2, 1) := by decide +kernel
theorem dX7_becomes_93 : decode cX7_becomes 93 = .ok (.iconst 2, 1) := by decide +kernel
theorem dX7_becomes_94 : decode cX7_becomes 94 = .ok (.if_icmp .ne 18, 3) := by decide +kernel
theorem dX7_becomes_97 : decode cX7_becomes 97 = .ok (.aload_n 0, 1) := by decide +kernel
theorem dX7_becomes_98 : decode cX7_becomes 98 = .ok (.iload 4, 2) := by decide +kernel
theorem dX7_becomes_100 : decode cX7_becomes 100 = .ok (.iload_n 1, 1) := by decide +kernel
theorem dX7_becomes_101 : decode cX7_becomes 101 = .ok (.aload_n 0, 1) := by decide +kernel
theorem dX7_becomes_102 : decode cX7_becomes 102 = .ok (.getfield 127, 3) := by decide +kernel
theorem dX7_becomes_105 : decode cX7_becomes 105 = .ok (.iconst 1, 1) := by decide +kernel
theorem dX7_becomes_106 : decode cX7_becomes 106 = .ok (.invokevirtual 133, 3) := by decide +kernel
theorem dX7_becomes_109 : decode cX7_becomes 109 = .ok (.goto 9, 3) := by decide +kernel
theorem dX7_becomes_112 : decode cX7_becomes 112 = .ok (.aload_n 0, 1) := by decide +kernel
theorem dX7_becomes_113 : decode cX7_becomes 113 = .ok (.iload_n 3, 1) := by decide +kernel
theorem dX7_becomes_114 : decode cX7_becomes 114 = .ok (.iconst 2, 1) := by decide +kernel
theorem dX7_becomes_115 : decode cX7_becomes 115 = .ok (.invokevirtual 149, 3) := by decide +kernel
theorem dX7_becomes_118 : decode cX7_becomes 118 = .ok (.return_, 1) := by decide +kernel
theorem dX7_acknowledge_0 : decode cX7_acknowledge 0 = .ok (.iload_n 1, 1) := by decide +kernel
theorem dX7_acknowledge_1 : decode cX7_acknowledge 1 = .ok (.invokestatic 156, 3) := by decide +kernel
theorem dX7_acknowledge_4 : decode cX7_acknowledge 4 = .ok (.istore_n 3, 1) := by decide +kernel
theorem dX7_acknowledge_5 : decode cX7_acknowledge 5 = .ok (.aload_n 0, 1) := by decide +kernel
theorem dX7_acknowledge_6 : decode cX7_acknowledge 6 = .ok (.iload_n 3, 1) := by decide +kernel
theorem dX7_acknowledge_7 : decode cX7_acknowledge 7 = .ok (.ifCond .ne 7, 3) := by decide +kernel
theorem dX7_acknowledge_10 : decode cX7_acknowledge 10 = .ok (.iconst 1, 1) := by decide +kernel
theorem dX7_acknowledge_11 : decode cX7_acknowledge 11 = .ok (.goto 30, 3) := by decide +kernel
theorem dX7_acknowledge_14 : decode cX7_acknowledge 14 = .ok (.iload_n 2, 1) := by decide +kernel
theorem dX7_acknowledge_15 : decode cX7_acknowledge 15 = .ok (.iconst 0, 1) := by decide +kernel
theorem dX7_acknowledge_16 : decode cX7_acknowledge 16 = .ok (.iconst 3, 1) := by decide +kernel
theorem dX7_acknowledge_17 : decode cX7_acknowledge 17 = .ok (.invokestatic 94, 3) := by decide +kernel
theorem dX7_acknowledge_20 : decode cX7_acknowledge 20 = .ok (.ifCond .ne 7, 3) := by decide +kernel
theorem dX7_acknowledge_23 : decode cX7_acknowledge 23 = .ok (.iconst 2, 1) := by decide +kernel
theorem dX7_acknowledge_24 : decode cX7_acknowledge 24 = .ok (.goto 17, 3) := by decide +kernel
theorem dX7_acknowledge_27 : decode cX7_acknowledge 27 = .ok (.aload_n 0, 1) := by decide +kernel
theorem dX7_acknowledge_28 : decode cX7_acknowledge 28 = .ok (.getfield 50, 3) := by decide +kernel
theorem dX7_acknowledge_31 : decode cX7_acknowledge 31 = .ok (.iload_n 1, 1) := by decide +kernel
theorem dX7_acknowledge_32 : decode cX7_acknowledge 32 = .ok (.iaload, 1) := by decide +kernel
theorem dX7_acknowledge_33 : decode cX7_acknowledge 33 = .ok (.ifCond .ne 7, 3) := by decide +kernel
theorem dX7_acknowledge_36 : decode cX7_acknowledge 36 = .ok (.iconst 3, 1) := by decide +kernel
theorem dX7_acknowledge_37 : decode cX7_acknowledge 37 = .ok (.goto 4, 3) := by decide +kernel
theorem dX7_acknowledge_40 : decode cX7_acknowledge 40 = .ok (.iconst 0, 1) := by decide +kernel
theorem dX7_acknowledge_41 : decode cX7_acknowledge 41 = .ok (.invokevirtual 101, 3) := by decide +kernel
theorem dX7_acknowledge_44 : decode cX7_acknowledge 44 = .ok (.ifCond .eq 5, 3) := by decide +kernel
theorem dX7_acknowledge_47 : decode cX7_acknowledge 47 = .ok (.iconst 0, 1) := by decide +kernel
theorem dX7_acknowledge_48 : decode cX7_acknowledge 48 = .ok (.ireturn, 1) := by decide +kernel
theorem dX7_acknowledge_49 : decode cX7_acknowledge 49 = .ok (.aload_n 0, 1) := by decide +kernel
theorem dX7_acknowledge_50 : decode cX7_acknowledge 50 = .ok (.getfield 53, 3) := by decide +kernel
theorem dX7_acknowledge_53 : decode cX7_acknowledge 53 = .ok (.sipush 200, 3) := by decide +kernel
theorem dX7_acknowledge_56 : decode cX7_acknowledge 56 = .ok (.iload_n 1, 1) := by decide +kernel
theorem dX7_acknowledge_57 : decode cX7_acknowledge 57 = .ok (.imul, 1) := by decide +kernel
theorem dX7_acknowledge_58 : decode cX7_acknowledge 58 = .ok (.iaload, 1) := by decide +kernel
theorem dX7_acknowledge_59 : decode cX7_acknowledge 59 = .ok (.istore 4, 2) := by decide +kernel
theorem dX7_acknowledge_61 : decode cX7_acknowledge 61 = .ok (.aload_n 0, 1) := by decide +kernel
theorem dX7_acknowledge_62 : decode cX7_acknowledge 62 = .ok (.getfield 50, 3) := by decide +kernel
theorem dX7_acknowledge_65 : decode cX7_acknowledge 65 = .ok (.iload_n 1, 1) := by decide +kernel
theorem dX7_acknowledge_66 : decode cX7_acknowledge 66 = .ok (.dup2, 1) := by decide +kernel
theorem dX7_acknowledge_67 : decode cX7_acknowledge 67 = .ok (.iaload, 1) := by decide +kernel
theorem dX7_acknowledge_68 : decode cX7_acknowledge 68 = .ok (.iconst 1, 1) := by decide +kernel
theorem dX7_acknowledge_69 : decode cX7_acknowledge 69 = .ok (.isub, 1) := by decide +kernel
theorem dX7_acknowledge_70 : decode cX7_acknowledge 70 = .ok (.iastore, 1) := by decide +kernel
theorem dX7_acknowledge_71 : decode cX7_acknowledge 71 = .ok (.sipush 200, 3) := by decide +kernel
theorem dX7_acknowledge_74 : decode cX7_acknowledge 74 = .ok (.iload_n 1, 1) := by decide +kernel
theorem dX7_acknowledge_75 : decode cX7_acknowledge 75 = .ok (.imul, 1) := by decide +kernel
theorem dX7_acknowledge_76 : decode cX7_acknowledge 76 = .ok (.istore 5, 2) := by decide +kernel
theorem dX7_acknowledge_78 : decode cX7_acknowledge 78 = .ok (.iload 5, 2) := by decide +kernel
theorem dX7_acknowledge_80 : decode cX7_acknowledge 80 = .ok (.sipush 200, 3) := by decide +kernel
theorem dX7_acknowledge_83 : decode cX7_acknowledge 83 = .ok (.iload_n 1, 1) := by decide +kernel
theorem dX7_acknowledge_84 : decode cX7_acknowledge 84 = .ok (.imul, 1) := by decide +kernel
theorem dX7_acknowledge_85 : decode cX7_acknowledge 85 = .ok (.aload_n 0, 1) := by decide +kernel
theorem dX7_acknowledge_86 : decode cX7_acknowledge 86 = .ok (.getfield 50, 3) := by decide +kernel
theorem dX7_acknowledge_89 : decode cX7_acknowledge 89 = .ok (.iload_n 1, 1) := by decide +kernel
theorem dX7_acknowledge_90 : decode cX7_acknowledge 90 = .ok (.iaload, 1) := by decide +kernel
theorem dX7_acknowledge_91 : decode cX7_acknowledge 91 = .ok (.iadd, 1) := by decide +kernel
theorem dX7_acknowledge_92 : decode cX7_acknowledge 92 = .ok (.if_icmp .ge 25, 3) := by decide +kernel
theorem dX7_acknowledge_95 : decode cX7_acknowledge 95 = .ok (.aload_n 0, 1) := by decide +kernel
theorem dX7_acknowledge_96 : decode cX7_acknowledge 96 = .ok (.getfield 53, 3) := by decide +kernel
theorem dX7_acknowledge_99 : decode cX7_acknowledge 99 = .ok (.iload 5, 2) := by decide +kernel
theorem dX7_acknowledge_101 : decode cX7_acknowledge 101 = .ok (.aload_n 0, 1) := by decide +kernel
theorem dX7_acknowledge_102 : decode cX7_acknowledge 102 = .ok (.getfield 53, 3) := by decide +kernel
theorem dX7_acknowledge_105 : decode cX7_acknowledge 105 = .ok (.iload 5, 2) := by decide +kernel
theorem dX7_acknowledge_107 : decode cX7_acknowledge 107 = .ok (.iconst 1, 1) := by decide +kernel
theorem dX7_acknowledge_108 : decode cX7_acknowledge 108 = .ok (.iadd, 1) := by decide +kernel
theorem dX7_acknowledge_109 : decode cX7_acknowledge 109 = .ok (.iaload, 1) := by decide +kernel
theorem dX7_acknowledge_110 : decode cX7_acknowledge 110 = .ok (.iastore, 1) := by decide +kernel
theorem dX7_acknowledge_111 : decode cX7_acknowledge 111 = .ok (.iinc 5 1, 3) := by decide +kernel
theorem dX7_acknowledge_114 : decode cX7_acknowledge 114 = .ok (.goto (-36), 3) := by decide +kernel
theorem dX7_acknowledge_117 : decode cX7_acknowledge 117 = .ok (.aload_n 0, 1) := by decide +kernel
theorem dX7_acknowledge_118 : decode cX7_acknowledge 118 = .ok (.getfield 25, 3) := by decide +kernel
theorem dX7_acknowledge_121 : decode cX7_acknowledge 121 = .ok (.iload 4, 2) := by decide +kernel
theorem dX7_acknowledge_123 : decode cX7_acknowledge 123 = .ok (.bipush 10, 2) := by decide +kernel
theorem dX7_acknowledge_125 : decode cX7_acknowledge 125 = .ok (.idiv, 1) := by decide +kernel
theorem dX7_acknowledge_126 : decode cX7_acknowledge 126 = .ok (.iaload, 1) := by decide +kernel
theorem dX7_acknowledge_127 : decode cX7_acknowledge 127 = .ok (.ifCond .ne 10, 3) := by decide +kernel
theorem dX7_acknowledge_130 : decode cX7_acknowledge 130 = .ok (.aload_n 0, 1) := by decide +kernel
theorem dX7_acknowledge_131 : decode cX7_acknowledge 131 = .ok (.iload 4, 2) := by decide +kernel
theorem dX7_acknowledge_133 : decode cX7_acknowledge 133 = .ok (.iload_n 2, 1) := by decide +kernel
theorem dX7_acknowledge_134 : decode cX7_acknowledge 134 = .ok (.invokevirtual 163, 3) := by decide +kernel
theorem dX7_acknowledge_137 : decode cX7_acknowledge 137 = .ok (.iload 4, 2) := by decide +kernel
theorem dX7_acknowledge_139 : decode cX7_acknowledge 139 = .ok (.ireturn, 1) := by decide +kernel
theorem dX7_alert_0 : decode cX7_alert 0 = .ok (.aload_n 0, 1) := by decide +kernel
theorem dX7_alert_1 : decode cX7_alert 1 = .ok (.iload_n 1, 1) := by decide +kernel
theorem dX7_alert_2 : decode cX7_alert 2 = .ok (.iconst 0, 1) := by decide +kernel
theorem dX7_alert_3 : decode cX7_alert 3 = .ok (.bipush 8, 2) := by decide +kernel
theorem dX7_alert_5 : decode cX7_alert 5 = .ok (.invokestatic 94, 3) := by decide +kernel
theorem dX7_alert_8 : decode cX7_alert 8 = .ok (.ifCond .eq 7, 3) := by decide +kernel
theorem dX7_alert_11 : decode cX7_alert 11 = .ok (.iconst 0, 1) := by decide +kernel
theorem dX7_alert_12 : decode cX7_alert 12 = .ok (.goto 4, 3) := by decide +kernel
theorem dX7_alert_15 : decode cX7_alert 15 = .ok (.iconst 1, 1) := by decide +kernel
theorem dX7_alert_16 : decode cX7_alert 16 = .ok (.invokevirtual 101, 3) := by decide +kernel
theorem dX7_alert_19 : decode cX7_alert 19 = .ok (.ifCond .eq 5, 3) := by decide +kernel
theorem dX7_alert_22 : decode cX7_alert 22 = .ok (.iconst 0, 1) := by decide +kernel
theorem dX7_alert_23 : decode cX7_alert 23 = .ok (.ireturn, 1) := by decide +kernel
theorem dX7_alert_24 : decode cX7_alert 24 = .ok (.iload_n 1, 1) := by decide +kernel
theorem dX7_alert_25 : decode cX7_alert 25 = .ok (.iconst 3, 1) := by decide +kernel
theorem dX7_alert_26 : decode cX7_alert 26 = .ok (.irem, 1) := by decide +kernel
theorem dX7_alert_27 : decode cX7_alert 27 = .ok (.istore_n 2, 1) := by decide +kernel
theorem dX7_alert_28 : decode cX7_alert 28 = .ok (.iconst 0, 1) := by decide +kernel
theorem dX7_alert_29 : decode cX7_alert 29 = .ok (.istore_n 3, 1) := by decide +kernel
theorem dX7_alert_30 : decode cX7_alert 30 = .ok (.sipush 200, 3) := by decide +kernel
theorem dX7_alert_33 : decode cX7_alert 33 = .ok (.iload_n 2, 1) := by decide +kernel
theorem dX7_alert_34 : decode cX7_alert 34 = .ok (.imul, 1) := by decide +kernel
theorem dX7_alert_35 : decode cX7_alert 35 = .ok (.istore 4, 2) := by decide +kernel
theorem dX7_alert_37 : decode cX7_alert 37 = .ok (.iload 4, 2) := by decide +kernel
theorem dX7_alert_39 : decode cX7_alert 39 = .ok (.sipush 200, 3) := by decide +kernel
theorem dX7_alert_42 : decode cX7_alert 42 = .ok (.iload_n 2, 1) := by decide +kernel
theorem dX7_alert_43 : decode cX7_alert 43 = .ok (.imul, 1) := by decide +kernel
theorem dX7_alert_44 : decode cX7_alert 44 = .ok (.aload_n 0, 1) := by decide +kernel
theorem dX7_alert_45 : decode cX7_alert 45 = .ok (.getfield 44, 3) := by decide +kernel
theorem dX7_alert_48 : decode cX7_alert 48 = .ok (.iload_n 2, 1) := by decide +kernel
theorem dX7_alert_49 : decode cX7_alert 49 = .ok (.iaload, 1) := by decide +kernel
theorem dX7_alert_50 : decode cX7_alert 50 = .ok (.iadd, 1) := by decide +kernel
theorem dX7_alert_51 : decode cX7_alert 51 = .ok (.if_icmp .ge 89, 3) := by decide +kernel
theorem dX7_alert_54 : decode cX7_alert 54 = .ok (.aload_n 0, 1) := by decide +kernel
theorem dX7_alert_55 : decode cX7_alert 55 = .ok (.getfield 47, 3) := by decide +kernel
theorem dX7_alert_58 : decode cX7_alert 58 = .ok (.iload 4, 2) := by decide +kernel
theorem dX7_alert_60 : decode cX7_alert 60 = .ok (.iaload, 1) := by decide +kernel
theorem dX7_alert_61 : decode cX7_alert 61 = .ok (.istore 5, 2) := by decide +kernel
theorem dX7_alert_63 : decode cX7_alert 63 = .ok (.aload_n 0, 1) := by decide +kernel
theorem dX7_alert_64 : decode cX7_alert 64 = .ok (.getfield 37, 3) := by decide +kernel
theorem dX7_alert_67 : decode cX7_alert 67 = .ok (.iload 5, 2) := by decide +kernel
theorem dX7_alert_69 : decode cX7_alert 69 = .ok (.baload, 1) := by decide +kernel
theorem dX7_alert_70 : decode cX7_alert 70 = .ok (.ifCond .eq 21, 3) := by decide +kernel
theorem dX7_alert_73 : decode cX7_alert 73 = .ok (.aload_n 0, 1) := by decide +kernel
theorem dX7_alert_74 : decode cX7_alert 74 = .ok (.getfield 19, 3) := by decide +kernel
theorem dX7_alert_77 : decode cX7_alert 77 = .ok (.iload 5, 2) := by decide +kernel
theorem dX7_alert_79 : decode cX7_alert 79 = .ok (.bipush 10, 2) := by decide +kernel
theorem dX7_alert_81 : decode cX7_alert 81 = .ok (.idiv, 1) := by decide +kernel
theorem dX7_alert_82 : decode cX7_alert 82 = .ok (.iaload, 1) := by decide +kernel
theorem dX7_alert_83 : decode cX7_alert 83 = .ok (.iload_n 1, 1) := by decide +kernel
theorem dX7_alert_84 : decode cX7_alert 84 = .ok (.if_icmp .ne 7, 3) := by decide +kernel
theorem dX7_alert_87 : decode cX7_alert 87 = .ok (.iconst 1, 1) := by decide +kernel
theorem dX7_alert_88 : decode cX7_alert 88 = .ok (.goto 4, 3) := by decide +kernel
theorem dX7_alert_91 : decode cX7_alert 91 = .ok (.iconst 0, 1) := by decide +kernel
theorem dX7_alert_92 : decode cX7_alert 92 = .ok (.istore 6, 2) := by decide +kernel
theorem dX7_alert_94 : decode cX7_alert 94 = .ok (.iload_n 3, 1) := by decide +kernel
theorem dX7_alert_95 : decode cX7_alert 95 = .ok (.iload 6, 2) := by decide +kernel
theorem dX7_alert_97 : decode cX7_alert 97 = .ok (.ifCond .eq 7, 3) := by decide +kernel
theorem dX7_alert_100 : decode cX7_alert 100 = .ok (.iconst 1, 1) := by decide +kernel
theorem dX7_alert_101 : decode cX7_alert 101 = .ok (.goto 4, 3) := by decide +kernel
theorem dX7_alert_104 : decode cX7_alert 104 = .ok (.iconst 0, 1) := by decide +kernel
theorem dX7_alert_105 : decode cX7_alert 105 = .ok (.iadd, 1) := by decide +kernel
theorem dX7_alert_106 : decode cX7_alert 106 = .ok (.istore_n 3, 1) := by decide +kernel
theorem dX7_alert_107 : decode cX7_alert 107 = .ok (.aload_n 0, 1) := by decide +kernel
theorem dX7_alert_108 : decode cX7_alert 108 = .ok (.getfield 37, 3) := by decide +kernel
theorem dX7_alert_111 : decode cX7_alert 111 = .ok (.iload 5, 2) := by decide +kernel
theorem dX7_alert_113 : decode cX7_alert 113 = .ok (.aload_n 0, 1) := by decide +kernel
theorem dX7_alert_114 : decode cX7_alert 114 = .ok (.getfield 37, 3) := by decide +kernel
theorem dX7_alert_117 : decode cX7_alert 117 = .ok (.iload 5, 2) := by decide +kernel
theorem dX7_alert_119 : decode cX7_alert 119 = .ok (.baload, 1) := by decide +kernel
theorem dX7_alert_120 : decode cX7_alert 120 = .ok (.ifCond .eq 12, 3) := by decide +kernel
theorem dX7_alert_123 : decode cX7_alert 123 = .ok (.iload 6, 2) := by decide +kernel
theorem dX7_alert_125 : decode cX7_alert 125 = .ok (.ifCond .ne 7, 3) := by decide +kernel
theorem dX7_alert_128 : decode cX7_alert 128 = .ok (.iconst 1, 1) := by decide +kernel
theorem dX7_alert_129 : decode cX7_alert 129 = .ok (.goto 4, 3) := by decide +kernel
theorem dX7_alert_132 : decode cX7_alert 132 = .ok (.iconst 0, 1) := by decide +kernel
theorem dX7_alert_133 : decode cX7_alert 133 = .ok (.bastore, 1) := by decide +kernel
theorem dX7_alert_134 : decode cX7_alert 134 = .ok (.iinc 4 1, 3) := by decide +kernel
theorem dX7_alert_137 : decode cX7_alert 137 = .ok (.goto (-100), 3) := by decide +kernel
theorem dX7_alert_140 : decode cX7_alert 140 = .ok (.iload_n 3, 1) := by decide +kernel
theorem dX7_alert_141 : decode cX7_alert 141 = .ok (.ireturn, 1) := by decide +kernel
theorem dX7_setKeyword_0 : decode cX7_setKeyword 0 = .ok (.aload_n 0, 1) := by decide +kernel
theorem dX7_setKeyword_1 : decode cX7_setKeyword 1 = .ok (.iload_n 1, 1) := by decide +kernel
theorem dX7_setKeyword_2 : decode cX7_setKeyword 2 = .ok (.iconst 1, 1) := by decide +kernel
theorem dX7_setKeyword_3 : decode cX7_setKeyword 3 = .ok (.iconst 4, 1) := by decide +kernel
theorem dX7_setKeyword_4 : decode cX7_setKeyword 4 = .ok (.invokestatic 94, 3) := by decide +kernel
theorem dX7_setKeyword_7 : decode cX7_setKeyword 7 = .ok (.ifCond .eq 18, 3) := by decide +kernel
theorem dX7_setKeyword_10 : decode cX7_setKeyword 10 = .ok (.iload_n 2, 1) := by decide +kernel
theorem dX7_setKeyword_11 : decode cX7_setKeyword 11 = .ok (.iconst (-1), 1) := by decide +kernel
theorem dX7_setKeyword_12 : decode cX7_setKeyword 12 = .ok (.sipush 999, 3) := by decide +kernel
theorem dX7_setKeyword_15 : decode cX7_setKeyword 15 = .ok (.invokestatic 94, 3) := by decide +kernel
theorem dX7_setKeyword_18 : decode cX7_setKeyword 18 = .ok (.ifCond .eq 7, 3) := by decide +kernel
theorem dX7_setKeyword_21 : decode cX7_setKeyword 21 = .ok (.iconst 0, 1) := by decide +kernel
theorem dX7_setKeyword_22 : decode cX7_setKeyword 22 = .ok (.goto 4, 3) := by decide +kernel
theorem dX7_setKeyword_25 : decode cX7_setKeyword 25 = .ok (.iconst 1, 1) := by decide +kernel
theorem dX7_setKeyword_26 : decode cX7_setKeyword 26 = .ok (.invokevirtual 101, 3) := by decide +kernel
theorem dX7_setKeyword_29 : decode cX7_setKeyword 29 = .ok (.ifCond .ne 49, 3) := by decide +kernel
theorem dX7_setKeyword_32 : decode cX7_setKeyword 32 = .ok (.iconst 1, 1) := by decide +kernel
theorem dX7_setKeyword_33 : decode cX7_setKeyword 33 = .ok (.istore_n 3, 1) := by decide +kernel
theorem dX7_setKeyword_34 : decode cX7_setKeyword 34 = .ok (.iload_n 3, 1) := by decide +kernel
theorem dX7_setKeyword_35 : decode cX7_setKeyword 35 = .ok (.iconst 5, 1) := by decide +kernel
theorem dX7_setKeyword_36 : decode cX7_setKeyword 36 = .ok (.if_icmp .ge 35, 3) := by decide +kernel
theorem dX7_setKeyword_39 : decode cX7_setKeyword 39 = .ok (.aload_n 0, 1) := by decide +kernel
theorem dX7_setKeyword_40 : decode cX7_setKeyword 40 = .ok (.getfield 65, 3) := by decide +kernel
theorem dX7_setKeyword_43 : decode cX7_setKeyword 43 = .ok (.iload_n 3, 1) := by decide +kernel
theorem dX7_setKeyword_44 : decode cX7_setKeyword 44 = .ok (.aload_n 0, 1) := by decide +kernel
theorem dX7_setKeyword_45 : decode cX7_setKeyword 45 = .ok (.getfield 65, 3) := by decide +kernel
theorem dX7_setKeyword_48 : decode cX7_setKeyword 48 = .ok (.iload_n 3, 1) := by decide +kernel
theorem dX7_setKeyword_49 : decode cX7_setKeyword 49 = .ok (.iaload, 1) := by decide +kernel
theorem dX7_setKeyword_50 : decode cX7_setKeyword 50 = .ok (.iload_n 2, 1) := by decide +kernel
theorem dX7_setKeyword_51 : decode cX7_setKeyword 51 = .ok (.if_icmp .ne 7, 3) := by decide +kernel
theorem dX7_setKeyword_54 : decode cX7_setKeyword 54 = .ok (.iconst (-1), 1) := by decide +kernel
theorem dX7_setKeyword_55 : decode cX7_setKeyword 55 = .ok (.goto 9, 3) := by decide +kernel
theorem dX7_setKeyword_58 : decode cX7_setKeyword 58 = .ok (.aload_n 0, 1) := by decide +kernel
theorem dX7_setKeyword_59 : decode cX7_setKeyword 59 = .ok (.getfield 65, 3) := by decide +kernel
theorem dX7_setKeyword_62 : decode cX7_setKeyword 62 = .ok (.iload_n 3, 1) := by decide +kernel
theorem dX7_setKeyword_63 : decode cX7_setKeyword 63 = .ok (.iaload, 1) := by decide +kernel
theorem dX7_setKeyword_64 : decode cX7_setKeyword 64 = .ok (.iastore, 1) := by decide +kernel
theorem dX7_setKeyword_65 : decode cX7_setKeyword 65 = .ok (.iinc 3 1, 3) := by decide +kernel
theorem dX7_setKeyword_68 : decode cX7_setKeyword 68 = .ok (.goto (-34), 3) := by decide +kernel
theorem dX7_setKeyword_71 : decode cX7_setKeyword 71 = .ok (.aload_n 0, 1) := by decide +kernel
theorem dX7_setKeyword_72 : decode cX7_setKeyword 72 = .ok (.getfield 65, 3) := by decide +kernel
theorem dX7_setKeyword_75 : decode cX7_setKeyword 75 = .ok (.iload_n 1, 1) := by decide +kernel
theorem dX7_setKeyword_76 : decode cX7_setKeyword 76 = .ok (.iload_n 2, 1) := by decide +kernel
theorem dX7_setKeyword_77 : decode cX7_setKeyword 77 = .ok (.iastore, 1) := by decide +kernel
theorem dX7_setKeyword_78 : decode cX7_setKeyword 78 = .ok (.return_, 1) := by decide +kernel
theorem dX7_come_0 : decode cX7_come 0 = .ok (.aload_n 0, 1) := by decide +kernel
theorem dX7_come_1 : decode cX7_come 1 = .ok (.iload_n 1, 1) := by decide +kernel
theorem dX7_come_2 : decode cX7_come 2 = .ok (.iconst 0, 1) := by decide +kernel
theorem dX7_come_3 : decode cX7_come 3 = .ok (.bipush 8, 2) := by decide +kernel
theorem dX7_come_5 : decode cX7_come 5 = .ok (.invokestatic 94, 3) := by decide +kernel
theorem dX7_come_8 : decode cX7_come 8 = .ok (.ifCond .eq 18, 3) := by decide +kernel
theorem dX7_come_11 : decode cX7_come 11 = .ok (.iload_n 2, 1) := by decide +kernel
theorem dX7_come_12 : decode cX7_come 12 = .ok (.iconst 0, 1) := by decide +kernel
theorem dX7_come_13 : decode cX7_come 13 = .ok (.sipush 999, 3) := by decide +kernel
theorem dX7_come_16 : decode cX7_come 16 = .ok (.invokestatic 94, 3) := by decide +kernel
theorem dX7_come_19 : decode cX7_come 19 = .ok (.ifCond .eq 7, 3) := by decide +kernel
theorem dX7_come_22 : decode cX7_come 22 = .ok (.iconst 0, 1) := by decide +kernel
theorem dX7_come_23 : decode cX7_come 23 = .ok (.goto 4, 3) := by decide +kernel
theorem dX7_come_26 : decode cX7_come 26 = .ok (.iconst 1, 1) := by decide +kernel
theorem dX7_come_27 : decode cX7_come 27 = .ok (.invokevirtual 101, 3) := by decide +kernel
theorem dX7_come_30 : decode cX7_come 30 = .ok (.ifCond .eq 5, 3) := by decide +kernel
theorem dX7_come_33 : decode cX7_come 33 = .ok (.iconst 0, 1) := by decide +kernel
theorem dX7_come_34 : decode cX7_come 34 = .ok (.ireturn, 1) := by decide +kernel
theorem dX7_come_35 : decode cX7_come 35 = .ok (.iconst 0, 1) := by decide +kernel
theorem dX7_come_36 : decode cX7_come 36 = .ok (.istore_n 3, 1) := by decide +kernel
theorem dX7_come_37 : decode cX7_come 37 = .ok (.iconst 1, 1) := by decide +kernel
theorem dX7_come_38 : decode cX7_come 38 = .ok (.istore 4, 2) := by decide +kernel
theorem dX7_come_40 : decode cX7_come 40 = .ok (.iload 4, 2) := by decide +kernel
theorem dX7_come_42 : decode cX7_come 42 = .ok (.iconst 5, 1) := by decide +kernel
theorem dX7_come_43 : decode cX7_come 43 = .ok (.if_icmp .ge 27, 3) := by decide +kernel
theorem dX7_come_46 : decode cX7_come 46 = .ok (.aload_n 0, 1) := by decide +kernel
theorem dX7_come_47 : decode cX7_come 47 = .ok (.getfield 65, 3) := by decide +kernel
theorem dX7_come_50 : decode cX7_come 50 = .ok (.iload 4, 2) := by decide +kernel
theorem dX7_come_52 : decode cX7_come 52 = .ok (.iaload, 1) := by decide +kernel
theorem dX7_come_53 : decode cX7_come 53 = .ok (.iload_n 2, 1) := by decide +kernel
theorem dX7_come_54 : decode cX7_come 54 = .ok (.if_icmp .ne 8, 3) := by decide +kernel
theorem dX7_come_57 : decode cX7_come 57 = .ok (.iload 4, 2) := by decide +kernel
theorem dX7_come_59 : decode cX7_come 59 = .ok (.goto 4, 3) := by decide +kernel
theorem dX7_come_62 : decode cX7_come 62 = .ok (.iload_n 3, 1) := by decide +kernel
theorem dX7_come_63 : decode cX7_come 63 = .ok (.istore_n 3, 1) := by decide +kernel
theorem dX7_come_64 : decode cX7_come 64 = .ok (.iinc 4 1, 3) := by decide +kernel
theorem dX7_come_67 : decode cX7_come 67 = .ok (.goto (-27), 3) := by decide +kernel
theorem dX7_come_70 : decode cX7_come 70 = .ok (.aload_n 0, 1) := by decide +kernel
theorem dX7_come_71 : decode cX7_come 71 = .ok (.getfield 68, 3) := by decide +kernel
theorem dX7_come_74 : decode cX7_come 74 = .ok (.iload_n 1, 1) := by decide +kernel
theorem dX7_come_75 : decode cX7_come 75 = .ok (.iaload, 1) := by decide +kernel
theorem dX7_come_76 : decode cX7_come 76 = .ok (.ifCond .le 23, 3) := by decide +kernel
theorem dX7_come_79 : decode cX7_come 79 = .ok (.aload_n 0, 1) := by decide +kernel
theorem dX7_come_80 : decode cX7_come 80 = .ok (.getfield 127, 3) := by decide +kernel
theorem dX7_come_83 : decode cX7_come 83 = .ok (.aload_n 0, 1) := by decide +kernel
theorem dX7_come_84 : decode cX7_come 84 = .ok (.getfield 71, 3) := by decide +kernel
theorem dX7_come_87 : decode cX7_come 87 = .ok (.iload_n 1, 1) := by decide +kernel
theorem dX7_come_88 : decode cX7_come 88 = .ok (.iaload, 1) := by decide +kernel
theorem dX7_come_89 : decode cX7_come 89 = .ok (.isub, 1) := by decide +kernel
theorem dX7_come_90 : decode cX7_come 90 = .ok (.bipush 20, 2) := by decide +kernel
theorem dX7_come_92 : decode cX7_come 92 = .ok (.if_icmp .ge 7, 3) := by decide +kernel
theorem dX7_come_95 : decode cX7_come 95 = .ok (.iconst 1, 1) := by decide +kernel
theorem dX7_come_96 : decode cX7_come 96 = .ok (.goto 4, 3) := by decide +kernel
theorem dX7_come_99 : decode cX7_come 99 = .ok (.iconst 0, 1) := by decide +kernel
theorem dX7_come_100 : decode cX7_come 100 = .ok (.istore 4, 2) := by decide +kernel
theorem dX7_come_102 : decode cX7_come 102 = .ok (.aload_n 0, 1) := by decide +kernel
theorem dX7_come_103 : decode cX7_come 103 = .ok (.getfield 68, 3) := by decide +kernel
theorem dX7_come_106 : decode cX7_come 106 = .ok (.iload_n 1, 1) := by decide +kernel
theorem dX7_come_107 : decode cX7_come 107 = .ok (.iload_n 3, 1) := by decide +kernel
theorem dX7_come_108 : decode cX7_come 108 = .ok (.ifCond .le 7, 3) := by decide +kernel
theorem dX7_come_111 : decode cX7_come 111 = .ok (.iload_n 3, 1) := by decide +kernel
theorem dX7_come_112 : decode cX7_come 112 = .ok (.goto 18, 3) := by decide +kernel
theorem dX7_come_115 : decode cX7_come 115 = .ok (.iload 4, 2) := by decide +kernel
theorem dX7_come_117 : decode cX7_come 117 = .ok (.ifCond .eq 12, 3) := by decide +kernel
theorem dX7_come_120 : decode cX7_come 120 = .ok (.aload_n 0, 1) := by decide +kernel
theorem dX7_come_121 : decode cX7_come 121 = .ok (.getfield 68, 3) := by decide +kernel
theorem dX7_come_124 : decode cX7_come 124 = .ok (.iload_n 1, 1) := by decide +kernel
theorem dX7_come_125 : decode cX7_come 125 = .ok (.iaload, 1) := by decide +kernel
theorem dX7_come_126 : decode cX7_come 126 = .ok (.goto 4, 3) := by decide +kernel
theorem dX7_come_129 : decode cX7_come 129 = .ok (.iconst 0, 1) := by decide +kernel
theorem dX7_come_130 : decode cX7_come 130 = .ok (.iastore, 1) := by decide +kernel
theorem dX7_come_131 : decode cX7_come 131 = .ok (.aload_n 0, 1) := by decide +kernel
theorem dX7_come_132 : decode cX7_come 132 = .ok (.getfield 71, 3) := by decide +kernel
theorem dX7_come_135 : decode cX7_come 135 = .ok (.iload_n 1, 1) := by decide +kernel
theorem dX7_come_136 : decode cX7_come 136 = .ok (.aload_n 0, 1) := by decide +kernel
theorem dX7_come_137 : decode cX7_come 137 = .ok (.getfield 127, 3) := by decide +kernel
theorem dX7_come_140 : decode cX7_come 140 = .ok (.iastore, 1) := by decide +kernel
theorem dX7_come_141 : decode cX7_come 141 = .ok (.aload_n 0, 1) := by decide +kernel
theorem dX7_come_142 : decode cX7_come 142 = .ok (.getfield 68, 3) := by decide +kernel
theorem dX7_come_145 : decode cX7_come 145 = .ok (.iload_n 1, 1) := by decide +kernel
theorem dX7_come_146 : decode cX7_come 146 = .ok (.iaload, 1) := by decide +kernel
theorem dX7_come_147 : decode cX7_come 147 = .ok (.ireturn, 1) := by decide +kernel
theorem dJ9_min_7cf53_0 : decode cJ9_min_7cf53 0 = .ok (.iload_n 0, 1) := by decide +kernel
theorem dJ9_min_7cf53_1 : decode cJ9_min_7cf53 1 = .ok (.iload_n 1, 1) := by decide +kernel
theorem dJ9_min_7cf53_2 : decode cJ9_min_7cf53 2 = .ok (.if_icmp .gt 7, 3) := by decide +kernel
theorem dJ9_min_7cf53_5 : decode cJ9_min_7cf53 5 = .ok (.iload_n 0, 1) := by decide +kernel
theorem dJ9_min_7cf53_6 : decode cJ9_min_7cf53 6 = .ok (.goto 4, 3) := by decide +kernel
theorem dJ9_min_7cf53_9 : decode cJ9_min_7cf53 9 = .ok (.iload_n 1, 1) := by decide +kernel
theorem dJ9_min_7cf53_10 : decode cJ9_min_7cf53 10 = .ok (.ireturn, 1) := by decide +kernel
theorem dJ7_fill_53178_0 : decode cJ7_fill_53178 0 = .ok (.iconst 0, 1) := by decide +kernel
theorem dJ7_fill_53178_1 : decode cJ7_fill_53178 1 = .ok (.istore_n 2, 1) := by decide +kernel
theorem dJ7_fill_53178_2 : decode cJ7_fill_53178 2 = .ok (.aload_n 0, 1) := by decide +kernel
theorem dJ7_fill_53178_3 : decode cJ7_fill_53178 3 = .ok (.arraylength, 1) := by decide +kernel
theorem dJ7_fill_53178_4 : decode cJ7_fill_53178 4 = .ok (.istore_n 3, 1) := by decide +kernel
theorem dJ7_fill_53178_5 : decode cJ7_fill_53178 5 = .ok (.iload_n 2, 1) := by decide +kernel
theorem dJ7_fill_53178_6 : decode cJ7_fill_53178 6 = .ok (.iload_n 3, 1) := by decide +kernel
theorem dJ7_fill_53178_7 : decode cJ7_fill_53178 7 = .ok (.if_icmp .ge 13, 3) := by decide +kernel
theorem dJ7_fill_53178_10 : decode cJ7_fill_53178 10 = .ok (.aload_n 0, 1) := by decide +kernel
theorem dJ7_fill_53178_11 : decode cJ7_fill_53178 11 = .ok (.iload_n 2, 1) := by decide +kernel
theorem dJ7_fill_53178_12 : decode cJ7_fill_53178 12 = .ok (.iload_n 1, 1) := by decide +kernel
theorem dJ7_fill_53178_13 : decode cJ7_fill_53178 13 = .ok (.iastore, 1) := by decide +kernel
theorem dJ7_fill_53178_14 : decode cJ7_fill_53178 14 = .ok (.iinc 2 1, 3) := by decide +kernel
theorem dJ7_fill_53178_17 : decode cJ7_fill_53178 17 = .ok (.goto (-12), 3) := by decide +kernel
theorem dJ7_fill_53178_20 : decode cJ7_fill_53178 20 = .ok (.return_, 1) := by decide +kernel
theorem dJ7_copyOf_59c91_0 : decode cJ7_copyOf_59c91 0 = .ok (.iload_n 1, 1) := by decide +kernel
theorem dJ7_copyOf_59c91_1 : decode cJ7_copyOf_59c91 1 = .ok (.aload_n 0, 1) := by decide +kernel
theorem dJ7_copyOf_59c91_2 : decode cJ7_copyOf_59c91 2 = .ok (.arraylength, 1) := by decide +kernel
theorem dJ7_copyOf_59c91_3 : decode cJ7_copyOf_59c91 3 = .ok (.if_icmp .ne 11, 3) := by decide +kernel
theorem dJ7_copyOf_59c91_6 : decode cJ7_copyOf_59c91 6 = .ok (.aload_n 0, 1) := by decide +kernel
theorem dJ7_copyOf_59c91_7 : decode cJ7_copyOf_59c91 7 = .ok (.invokevirtual 316, 3) := by decide +kernel
theorem dJ7_copyOf_59c91_10 : decode cJ7_copyOf_59c91 10 = .ok (.checkcast 317, 3) := by decide +kernel
theorem dJ7_copyOf_59c91_13 : decode cJ7_copyOf_59c91 13 = .ok (.areturn, 1) := by decide +kernel
theorem dJ7_copyOf_59c91_14 : decode cJ7_copyOf_59c91 14 = .ok (.iload_n 1, 1) := by decide +kernel
theorem dJ7_copyOf_59c91_15 : decode cJ7_copyOf_59c91 15 = .ok (.newarray .int, 2) := by decide +kernel
theorem dJ7_copyOf_59c91_17 : decode cJ7_copyOf_59c91 17 = .ok (.astore_n 2, 1) := by decide +kernel
theorem dJ7_copyOf_59c91_18 : decode cJ7_copyOf_59c91 18 = .ok (.aload_n 0, 1) := by decide +kernel
theorem dJ7_copyOf_59c91_19 : decode cJ7_copyOf_59c91 19 = .ok (.iconst 0, 1) := by decide +kernel
theorem dJ7_copyOf_59c91_20 : decode cJ7_copyOf_59c91 20 = .ok (.aload_n 2, 1) := by decide +kernel
theorem dJ7_copyOf_59c91_21 : decode cJ7_copyOf_59c91 21 = .ok (.iconst 0, 1) := by decide +kernel
theorem dJ7_copyOf_59c91_22 : decode cJ7_copyOf_59c91 22 = .ok (.aload_n 0, 1) := by decide +kernel
theorem dJ7_copyOf_59c91_23 : decode cJ7_copyOf_59c91 23 = .ok (.arraylength, 1) := by decide +kernel
theorem dJ7_copyOf_59c91_24 : decode cJ7_copyOf_59c91 24 = .ok (.iload_n 1, 1) := by decide +kernel
theorem dJ7_copyOf_59c91_25 : decode cJ7_copyOf_59c91 25 = .ok (.invokestatic 304, 3) := by decide +kernel
theorem dJ7_copyOf_59c91_28 : decode cJ7_copyOf_59c91 28 = .ok (.invokestatic 150, 3) := by decide +kernel
theorem dJ7_copyOf_59c91_31 : decode cJ7_copyOf_59c91 31 = .ok (.aload_n 2, 1) := by decide +kernel
theorem dJ7_copyOf_59c91_32 : decode cJ7_copyOf_59c91 32 = .ok (.areturn, 1) := by decide +kernel
end
section
theorem dL_write_0 : decode cL_write 0 = .ok (.aload_n 3, 1) := by decide +kernel
theorem dL_write_1 : decode cL_write 1 = .ok (.iconst 0, 1) := by decide +kernel
theorem dL_write_2 : decode cL_write 2 = .ok (.aload_n 0, 1) := by decide +kernel
theorem dL_write_3 : decode cL_write 3 = .ok (.iload_n 1, 1) := by decide +kernel
theorem dL_write_4 : decode cL_write 4 = .ok (.iload_n 2, 1) := by decide +kernel
theorem dL_write_5 : decode cL_write 5 = .ok (.invokevirtual 7, 3) := by decide +kernel
theorem dL_write_8 : decode cL_write 8 = .ok (.i2l, 1) := by decide +kernel
theorem dL_write_9 : decode cL_write 9 = .ok (.lastore, 1) := by decide +kernel
theorem dL_write_10 : decode cL_write 10 = .ok (.goto 11, 3) := by decide +kernel
theorem dL_write_13 : decode cL_write 13 = .ok (.astore 4, 2) := by decide +kernel
theorem dL_write_15 : decode cL_write 15 = .ok (.iconst 1, 1) := by decide +kernel
theorem dL_write_16 : decode cL_write 16 = .ok (.ireturn, 1) := by decide +kernel
theorem dL_write_17 : decode cL_write 17 = .ok (.astore 4, 2) := by decide +kernel
theorem dL_write_19 : decode cL_write 19 = .ok (.iconst 2, 1) := by decide +kernel
theorem dL_write_20 : decode cL_write 20 = .ok (.ireturn, 1) := by decide +kernel
theorem dL_write_21 : decode cL_write 21 = .ok (.iconst 0, 1) := by decide +kernel
theorem dL_write_22 : decode cL_write 22 = .ok (.ireturn, 1) := by decide +kernel
theorem dL_septets_0 : decode cL_septets 0 = .ok (.aload_n 1, 1) := by decide +kernel
theorem dL_septets_1 : decode cL_septets 1 = .ok (.iconst 0, 1) := by decide +kernel
theorem dL_septets_2 : decode cL_septets 2 = .ok (.aload_n 0, 1) := by decide +kernel
theorem dL_septets_3 : decode cL_septets 3 = .ok (.invokevirtual 17, 3) := by decide +kernel
theorem dL_septets_6 : decode cL_septets 6 = .ok (.i2l, 1) := by decide +kernel
theorem dL_septets_7 : decode cL_septets 7 = .ok (.lastore, 1) := by decide +kernel
theorem dL_septets_8 : decode cL_septets 8 = .ok (.goto 6, 3) := by decide +kernel
theorem dL_septets_11 : decode cL_septets 11 = .ok (.astore_n 2, 1) := by decide +kernel
theorem dL_septets_12 : decode cL_septets 12 = .ok (.iconst 1, 1) := by decide +kernel
theorem dL_septets_13 : decode cL_septets 13 = .ok (.ireturn, 1) := by decide +kernel
theorem dL_septets_14 : decode cL_septets 14 = .ok (.iconst 0, 1) := by decide +kernel
theorem dL_septets_15 : decode cL_septets 15 = .ok (.ireturn, 1) := by decide +kernel
theorem dL_signs_0 : decode cL_signs 0 = .ok (.aload_n 2, 1) := by decide +kernel
theorem dL_signs_1 : decode cL_signs 1 = .ok (.iconst 0, 1) := by decide +kernel
theorem dL_signs_2 : decode cL_signs 2 = .ok (.aload_n 0, 1) := by decide +kernel
theorem dL_signs_3 : decode cL_signs 3 = .ok (.iload_n 1, 1) := by decide +kernel
theorem dL_signs_4 : decode cL_signs 4 = .ok (.invokevirtual 21, 3) := by decide +kernel
theorem dL_signs_7 : decode cL_signs 7 = .ok (.i2l, 1) := by decide +kernel
theorem dL_signs_8 : decode cL_signs 8 = .ok (.lastore, 1) := by decide +kernel
theorem dL_signs_9 : decode cL_signs 9 = .ok (.goto 6, 3) := by decide +kernel
theorem dL_signs_12 : decode cL_signs 12 = .ok (.astore_n 3, 1) := by decide +kernel
theorem dL_signs_13 : decode cL_signs 13 = .ok (.iconst 1, 1) := by decide +kernel
theorem dL_signs_14 : decode cL_signs 14 = .ok (.ireturn, 1) := by decide +kernel
theorem dL_signs_15 : decode cL_signs 15 = .ok (.iconst 0, 1) := by decide +kernel
theorem dL_signs_16 : decode cL_signs 16 = .ok (.ireturn, 1) := by decide +kernel
theorem dL_octets_0 : decode cL_octets 0 = .ok (.aload_n 2, 1) := by decide +kernel
theorem dL_octets_1 : decode cL_octets 1 = .ok (.iconst 0, 1) := by decide +kernel
theorem dL_octets_2 : decode cL_octets 2 = .ok (.aload_n 0, 1) := by decide +kernel
theorem dL_octets_3 : decode cL_octets 3 = .ok (.iload_n 1, 1) := by decide +kernel
theorem dL_octets_4 : decode cL_octets 4 = .ok (.invokevirtual 27, 3) := by decide +kernel
theorem dL_octets_7 : decode cL_octets 7 = .ok (.i2l, 1) := by decide +kernel
theorem dL_octets_8 : decode cL_octets 8 = .ok (.lastore, 1) := by decide +kernel
theorem dL_octets_9 : decode cL_octets 9 = .ok (.goto 6, 3) := by decide +kernel
theorem dL_octets_12 : decode cL_octets 12 = .ok (.astore_n 3, 1) := by decide +kernel
theorem dL_octets_13 : decode cL_octets 13 = .ok (.iconst 1, 1) := by decide +kernel
theorem dL_octets_14 : decode cL_octets 14 = .ok (.ireturn, 1) := by decide +kernel
theorem dL_octets_15 : decode cL_octets 15 = .ok (.iconst 0, 1) := by decide +kernel
theorem dL_octets_16 : decode cL_octets 16 = .ok (.ireturn, 1) := by decide +kernel
theorem dL_octet_0 : decode cL_octet 0 = .ok (.aload_n 3, 1) := by decide +kernel
theorem dL_octet_1 : decode cL_octet 1 = .ok (.iconst 0, 1) := by decide +kernel
theorem dL_octet_2 : decode cL_octet 2 = .ok (.aload_n 0, 1) := by decide +kernel
theorem dL_octet_3 : decode cL_octet 3 = .ok (.iload_n 1, 1) := by decide +kernel
theorem dL_octet_4 : decode cL_octet 4 = .ok (.iload_n 2, 1) := by decide +kernel
theorem dL_octet_5 : decode cL_octet 5 = .ok (.invokevirtual 30, 3) := by decide +kernel
theorem dL_octet_8 : decode cL_octet 8 = .ok (.i2l, 1) := by decide +kernel
theorem dL_octet_9 : decode cL_octet 9 = .ok (.lastore, 1) := by decide +kernel
theorem dL_octet_10 : decode cL_octet 10 = .ok (.goto 7, 3) := by decide +kernel
theorem dL_octet_13 : decode cL_octet 13 = .ok (.astore 4, 2) := by decide +kernel
theorem dL_octet_15 : decode cL_octet 15 = .ok (.iconst 1, 1) := by decide +kernel
theorem dL_octet_16 : decode cL_octet 16 = .ok (.ireturn, 1) := by decide +kernel
theorem dL_octet_17 : decode cL_octet 17 = .ok (.iconst 0, 1) := by decide +kernel
theorem dL_octet_18 : decode cL_octet 18 = .ok (.ireturn, 1) := by decide +kernel
theorem dL_submit_0 : decode cL_submit 0 = .ok (.aload_n 3, 1) := by decide +kernel
theorem dL_submit_1 : decode cL_submit 1 = .ok (.iconst 0, 1) := by decide +kernel
theorem dL_submit_2 : decode cL_submit 2 = .ok (.aload_n 0, 1) := by decide +kernel
theorem dL_submit_3 : decode cL_submit 3 = .ok (.iload_n 1, 1) := by decide +kernel
theorem dL_submit_4 : decode cL_submit 4 = .ok (.iload_n 2, 1) := by decide +kernel
theorem dL_submit_5 : decode cL_submit 5 = .ok (.invokevirtual 33, 3) := by decide +kernel
theorem dL_submit_8 : decode cL_submit 8 = .ok (.i2l, 1) := by decide +kernel
theorem dL_submit_9 : decode cL_submit 9 = .ok (.lastore, 1) := by decide +kernel
theorem dL_submit_10 : decode cL_submit 10 = .ok (.goto 11, 3) := by decide +kernel
theorem dL_submit_13 : decode cL_submit 13 = .ok (.astore 4, 2) := by decide +kernel
theorem dL_submit_15 : decode cL_submit 15 = .ok (.iconst 1, 1) := by decide +kernel
theorem dL_submit_16 : decode cL_submit 16 = .ok (.ireturn, 1) := by decide +kernel
theorem dL_submit_17 : decode cL_submit 17 = .ok (.astore 4, 2) := by decide +kernel
theorem dL_submit_19 : decode cL_submit 19 = .ok (.iconst 2, 1) := by decide +kernel
theorem dL_submit_20 : decode cL_submit 20 = .ok (.ireturn, 1) := by decide +kernel
theorem dL_submit_21 : decode cL_submit 21 = .ok (.iconst 0, 1) := by decide +kernel
theorem dL_submit_22 : decode cL_submit 22 = .ok (.ireturn, 1) := by decide +kernel
theorem dL_state_0 : decode cL_state 0 = .ok (.aload_n 2, 1) := by decide +kernel
theorem dL_state_1 : decode cL_state 1 = .ok (.iconst 0, 1) := by decide +kernel
theorem dL_state_2 : decode cL_state 2 = .ok (.aload_n 0, 1) := by decide +kernel
theorem dL_state_3 : decode cL_state 3 = .ok (.iload_n 1, 1) := by decide +kernel
theorem dL_state_4 : decode cL_state 4 = .ok (.invokevirtual 36, 3) := by decide +kernel
theorem dL_state_7 : decode cL_state 7 = .ok (.i2l, 1) := by decide +kernel
theorem dL_state_8 : decode cL_state 8 = .ok (.lastore, 1) := by decide +kernel
theorem dL_state_9 : decode cL_state 9 = .ok (.goto 6, 3) := by decide +kernel
theorem dL_state_12 : decode cL_state 12 = .ok (.astore_n 3, 1) := by decide +kernel
theorem dL_state_13 : decode cL_state 13 = .ok (.iconst 1, 1) := by decide +kernel
theorem dL_state_14 : decode cL_state 14 = .ok (.ireturn, 1) := by decide +kernel
theorem dL_state_15 : decode cL_state 15 = .ok (.iconst 0, 1) := by decide +kernel
theorem dL_state_16 : decode cL_state 16 = .ok (.ireturn, 1) := by decide +kernel
theorem dL_missing_0 : decode cL_missing 0 = .ok (.aload_n 2, 1) := by decide +kernel
theorem dL_missing_1 : decode cL_missing 1 = .ok (.iconst 0, 1) := by decide +kernel
theorem dL_missing_2 : decode cL_missing 2 = .ok (.aload_n 0, 1) := by decide +kernel
theorem dL_missing_3 : decode cL_missing 3 = .ok (.iload_n 1, 1) := by decide +kernel
theorem dL_missing_4 : decode cL_missing 4 = .ok (.invokevirtual 39, 3) := by decide +kernel
theorem dL_missing_7 : decode cL_missing 7 = .ok (.i2l, 1) := by decide +kernel
theorem dL_missing_8 : decode cL_missing 8 = .ok (.lastore, 1) := by decide +kernel
theorem dL_missing_9 : decode cL_missing 9 = .ok (.goto 6, 3) := by decide +kernel
theorem dL_missing_12 : decode cL_missing 12 = .ok (.astore_n 3, 1) := by decide +kernel
theorem dL_missing_13 : decode cL_missing 13 = .ok (.iconst 1, 1) := by decide +kernel
theorem dL_missing_14 : decode cL_missing 14 = .ok (.ireturn, 1) := by decide +kernel
theorem dL_missing_15 : decode cL_missing 15 = .ok (.iconst 0, 1) := by decide +kernel
theorem dL_missing_16 : decode cL_missing 16 = .ok (.ireturn, 1) := by decide +kernel
theorem dL_joined_0 : decode cL_joined 0 = .ok (.aload_n 3, 1) := by decide +kernel
theorem dL_joined_1 : decode cL_joined 1 = .ok (.iconst 0, 1) := by decide +kernel
theorem dL_joined_2 : decode cL_joined 2 = .ok (.aload_n 0, 1) := by decide +kernel
theorem dL_joined_3 : decode cL_joined 3 = .ok (.iload_n 1, 1) := by decide +kernel
theorem dL_joined_4 : decode cL_joined 4 = .ok (.iload_n 2, 1) := by decide +kernel
theorem dL_joined_5 : decode cL_joined 5 = .ok (.invokevirtual 42, 3) := by decide +kernel
theorem dL_joined_8 : decode cL_joined 8 = .ok (.i2l, 1) := by decide +kernel
theorem dL_joined_9 : decode cL_joined 9 = .ok (.lastore, 1) := by decide +kernel
theorem dL_joined_10 : decode cL_joined 10 = .ok (.goto 7, 3) := by decide +kernel
theorem dL_joined_13 : decode cL_joined 13 = .ok (.astore 4, 2) := by decide +kernel
theorem dL_joined_15 : decode cL_joined 15 = .ok (.iconst 1, 1) := by decide +kernel
theorem dL_joined_16 : decode cL_joined 16 = .ok (.ireturn, 1) := by decide +kernel
theorem dL_joined_17 : decode cL_joined 17 = .ok (.iconst 0, 1) := by decide +kernel
theorem dL_joined_18 : decode cL_joined 18 = .ok (.ireturn, 1) := by decide +kernel
theorem dL_receipt_0 : decode cL_receipt 0 = .ok (.aload_n 2, 1) := by decide +kernel
theorem dL_receipt_1 : decode cL_receipt 1 = .ok (.iconst 0, 1) := by decide +kernel
theorem dL_receipt_2 : decode cL_receipt 2 = .ok (.aload_n 0, 1) := by decide +kernel
theorem dL_receipt_3 : decode cL_receipt 3 = .ok (.iload_n 1, 1) := by decide +kernel
theorem dL_receipt_4 : decode cL_receipt 4 = .ok (.invokevirtual 45, 3) := by decide +kernel
theorem dL_receipt_7 : decode cL_receipt 7 = .ok (.i2l, 1) := by decide +kernel
theorem dL_receipt_8 : decode cL_receipt 8 = .ok (.lastore, 1) := by decide +kernel
theorem dL_receipt_9 : decode cL_receipt 9 = .ok (.goto 6, 3) := by decide +kernel
theorem dL_receipt_12 : decode cL_receipt 12 = .ok (.astore_n 3, 1) := by decide +kernel
theorem dL_receipt_13 : decode cL_receipt 13 = .ok (.iconst 1, 1) := by decide +kernel
theorem dL_receipt_14 : decode cL_receipt 14 = .ok (.ireturn, 1) := by decide +kernel
theorem dL_receipt_15 : decode cL_receipt 15 = .ok (.iconst 0, 1) := by decide +kernel
theorem dL_receipt_16 : decode cL_receipt 16 = .ok (.ireturn, 1) := by decide +kernel
theorem dL_pass_0 : decode cL_pass 0 = .ok (.aload_n 2, 1) := by decide +kernel
theorem dL_pass_1 : decode cL_pass 1 = .ok (.iconst 0, 1) := by decide +kernel
theorem dL_pass_2 : decode cL_pass 2 = .ok (.aload_n 0, 1) := by decide +kernel
theorem dL_pass_3 : decode cL_pass 3 = .ok (.iload_n 1, 1) := by decide +kernel
theorem dL_pass_4 : decode cL_pass 4 = .ok (.invokevirtual 48, 3) := by decide +kernel
theorem dL_pass_7 : decode cL_pass 7 = .ok (.i2l, 1) := by decide +kernel
theorem dL_pass_8 : decode cL_pass 8 = .ok (.lastore, 1) := by decide +kernel
theorem dL_pass_9 : decode cL_pass 9 = .ok (.goto 6, 3) := by decide +kernel
theorem dL_pass_12 : decode cL_pass 12 = .ok (.astore_n 3, 1) := by decide +kernel
theorem dL_pass_13 : decode cL_pass 13 = .ok (.iconst 1, 1) := by decide +kernel
theorem dL_pass_14 : decode cL_pass 14 = .ok (.ireturn, 1) := by decide +kernel
theorem dL_pass_15 : decode cL_pass 15 = .ok (.iconst 0, 1) := by decide +kernel
theorem dL_pass_16 : decode cL_pass 16 = .ok (.ireturn, 1) := by decide +kernel
theorem dL_toggleLink_0 : decode cL_toggleLink 0 = .ok (.aload_n 2, 1) := by decide +kernel
theorem dL_toggleLink_1 : decode cL_toggleLink 1 = .ok (.iconst 0, 1) := by decide +kernel
theorem dL_toggleLink_2 : decode cL_toggleLink 2 = .ok (.aload_n 0, 1) := by decide +kernel
theorem dL_toggleLink_3 : decode cL_toggleLink 3 = .ok (.iload_n 1, 1) := by decide +kernel
theorem dL_toggleLink_4 : decode cL_toggleLink 4 = .ok (.invokevirtual 51, 3) := by decide +kernel
theorem dL_toggleLink_7 : decode cL_toggleLink 7 = .ok (.ifCond .eq 7, 3) := by decide +kernel
theorem dL_toggleLink_10 : decode cL_toggleLink 10 = .ok (.lconst 1, 1) := by decide +kernel
theorem dL_toggleLink_11 : decode cL_toggleLink 11 = .ok (.goto 4, 3) := by decide +kernel
theorem dL_toggleLink_14 : decode cL_toggleLink 14 = .ok (.lconst 0, 1) := by decide +kernel
theorem dL_toggleLink_15 : decode cL_toggleLink 15 = .ok (.lastore, 1) := by decide +kernel
theorem dL_toggleLink_16 : decode cL_toggleLink 16 = .ok (.goto 6, 3) := by decide +kernel
theorem dL_toggleLink_19 : decode cL_toggleLink 19 = .ok (.astore_n 3, 1) := by decide +kernel
theorem dL_toggleLink_20 : decode cL_toggleLink 20 = .ok (.iconst 1, 1) := by decide +kernel
theorem dL_toggleLink_21 : decode cL_toggleLink 21 = .ok (.ireturn, 1) := by decide +kernel
theorem dL_toggleLink_22 : decode cL_toggleLink 22 = .ok (.iconst 0, 1) := by decide +kernel
theorem dL_toggleLink_23 : decode cL_toggleLink 23 = .ok (.ireturn, 1) := by decide +kernel
theorem dL_setWindow_0 : decode cL_setWindow 0 = .ok (.aload_n 3, 1) := by decide +kernel
theorem dL_setWindow_1 : decode cL_setWindow 1 = .ok (.iconst 0, 1) := by decide +kernel
theorem dL_setWindow_2 : decode cL_setWindow 2 = .ok (.aload_n 0, 1) := by decide +kernel
theorem dL_setWindow_3 : decode cL_setWindow 3 = .ok (.iload_n 1, 1) := by decide +kernel
theorem dL_setWindow_4 : decode cL_setWindow 4 = .ok (.iload_n 2, 1) := by decide +kernel
theorem dL_setWindow_5 : decode cL_setWindow 5 = .ok (.invokevirtual 55, 3) := by decide +kernel
theorem dL_setWindow_8 : decode cL_setWindow 8 = .ok (.i2l, 1) := by decide +kernel
theorem dL_setWindow_9 : decode cL_setWindow 9 = .ok (.lastore, 1) := by decide +kernel
theorem dL_setWindow_10 : decode cL_setWindow 10 = .ok (.goto 11, 3) := by decide +kernel
theorem dL_setWindow_13 : decode cL_setWindow 13 = .ok (.astore 4, 2) := by decide +kernel
theorem dL_setWindow_15 : decode cL_setWindow 15 = .ok (.iconst 1, 1) := by decide +kernel
theorem dL_setWindow_16 : decode cL_setWindow 16 = .ok (.ireturn, 1) := by decide +kernel
theorem dL_setWindow_17 : decode cL_setWindow 17 = .ok (.astore 4, 2) := by decide +kernel
theorem dL_setWindow_19 : decode cL_setWindow 19 = .ok (.iconst 2, 1) := by decide +kernel
theorem dL_setWindow_20 : decode cL_setWindow 20 = .ok (.ireturn, 1) := by decide +kernel
theorem dL_setWindow_21 : decode cL_setWindow 21 = .ok (.iconst 0, 1) := by decide +kernel
theorem dL_setWindow_22 : decode cL_setWindow 22 = .ok (.ireturn, 1) := by decide +kernel
theorem dL_queued_0 : decode cL_queued 0 = .ok (.aload_n 2, 1) := by decide +kernel
theorem dL_queued_1 : decode cL_queued 1 = .ok (.iconst 0, 1) := by decide +kernel
theorem dL_queued_2 : decode cL_queued 2 = .ok (.aload_n 0, 1) := by decide +kernel
theorem dL_queued_3 : decode cL_queued 3 = .ok (.iload_n 1, 1) := by decide +kernel
theorem dL_queued_4 : decode cL_queued 4 = .ok (.invokevirtual 58, 3) := by decide +kernel
theorem dL_queued_7 : decode cL_queued 7 = .ok (.i2l, 1) := by decide +kernel
theorem dL_queued_8 : decode cL_queued 8 = .ok (.lastore, 1) := by decide +kernel
theorem dL_queued_9 : decode cL_queued 9 = .ok (.goto 6, 3) := by decide +kernel
theorem dL_queued_12 : decode cL_queued 12 = .ok (.astore_n 3, 1) := by decide +kernel
theorem dL_queued_13 : decode cL_queued 13 = .ok (.iconst 1, 1) := by decide +kernel
theorem dL_queued_14 : decode cL_queued 14 = .ok (.ireturn, 1) := by decide +kernel
theorem dL_queued_15 : decode cL_queued 15 = .ok (.iconst 0, 1) := by decide +kernel
theorem dL_queued_16 : decode cL_queued 16 = .ok (.ireturn, 1) := by decide +kernel
theorem dL_underWay_0 : decode cL_underWay 0 = .ok (.aload_n 2, 1) := by decide +kernel
theorem dL_underWay_1 : decode cL_underWay 1 = .ok (.iconst 0, 1) := by decide +kernel
theorem dL_underWay_2 : decode cL_underWay 2 = .ok (.aload_n 0, 1) := by decide +kernel
theorem dL_underWay_3 : decode cL_underWay 3 = .ok (.iload_n 1, 1) := by decide +kernel
theorem dL_underWay_4 : decode cL_underWay 4 = .ok (.invokevirtual 61, 3) := by decide +kernel
theorem dL_underWay_7 : decode cL_underWay 7 = .ok (.i2l, 1) := by decide +kernel
theorem dL_underWay_8 : decode cL_underWay 8 = .ok (.lastore, 1) := by decide +kernel
theorem dL_underWay_9 : decode cL_underWay 9 = .ok (.goto 6, 3) := by decide +kernel
theorem dL_underWay_12 : decode cL_underWay 12 = .ok (.astore_n 3, 1) := by decide +kernel
theorem dL_underWay_13 : decode cL_underWay 13 = .ok (.iconst 1, 1) := by decide +kernel
theorem dL_underWay_14 : decode cL_underWay 14 = .ok (.ireturn, 1) := by decide +kernel
theorem dL_underWay_15 : decode cL_underWay 15 = .ok (.iconst 0, 1) := by decide +kernel
theorem dL_underWay_16 : decode cL_underWay 16 = .ok (.ireturn, 1) := by decide +kernel
theorem dL_tokens_0 : decode cL_tokens 0 = .ok (.aload_n 2, 1) := by decide +kernel
theorem dL_tokens_1 : decode cL_tokens 1 = .ok (.iconst 0, 1) := by decide +kernel
theorem dL_tokens_2 : decode cL_tokens 2 = .ok (.aload_n 0, 1) := by decide +kernel
theorem dL_tokens_3 : decode cL_tokens 3 = .ok (.iload_n 1, 1) := by decide +kernel
theorem dL_tokens_4 : decode cL_tokens 4 = .ok (.invokevirtual 64, 3) := by decide +kernel
theorem dL_tokens_7 : decode cL_tokens 7 = .ok (.i2l, 1) := by decide +kernel
theorem dL_tokens_8 : decode cL_tokens 8 = .ok (.lastore, 1) := by decide +kernel
theorem dL_tokens_9 : decode cL_tokens 9 = .ok (.goto 6, 3) := by decide +kernel
theorem dL_tokens_12 : decode cL_tokens 12 = .ok (.astore_n 3, 1) := by decide +kernel
theorem dL_tokens_13 : decode cL_tokens 13 = .ok (.iconst 1, 1) := by decide +kernel
theorem dL_tokens_14 : decode cL_tokens 14 = .ok (.ireturn, 1) := by decide +kernel
theorem dL_tokens_15 : decode cL_tokens 15 = .ok (.iconst 0, 1) := by decide +kernel
theorem dL_tokens_16 : decode cL_tokens 16 = .ok (.ireturn, 1) := by decide +kernel
theorem dL_acknowledge_0 : decode cL_acknowledge 0 = .ok (.aload_n 3, 1) := by decide +kernel
theorem dL_acknowledge_1 : decode cL_acknowledge 1 = .ok (.iconst 0, 1) := by decide +kernel
theorem dL_acknowledge_2 : decode cL_acknowledge 2 = .ok (.aload_n 0, 1) := by decide +kernel
theorem dL_acknowledge_3 : decode cL_acknowledge 3 = .ok (.iload_n 1, 1) := by decide +kernel
theorem dL_acknowledge_4 : decode cL_acknowledge 4 = .ok (.iload_n 2, 1) := by decide +kernel
theorem dL_acknowledge_5 : decode cL_acknowledge 5 = .ok (.invokevirtual 67, 3) := by decide +kernel
theorem dL_acknowledge_8 : decode cL_acknowledge 8 = .ok (.i2l, 1) := by decide +kernel
theorem dL_acknowledge_9 : decode cL_acknowledge 9 = .ok (.lastore, 1) := by decide +kernel
theorem dL_acknowledge_10 : decode cL_acknowledge 10 = .ok (.goto 15, 3) := by decide +kernel
theorem dL_acknowledge_13 : decode cL_acknowledge 13 = .ok (.astore 4, 2) := by decide +kernel
theorem dL_acknowledge_15 : decode cL_acknowledge 15 = .ok (.iconst 1, 1) := by decide +kernel
theorem dL_acknowledge_16 : decode cL_acknowledge 16 = .ok (.ireturn, 1) := by decide +kernel
theorem dL_acknowledge_17 : decode cL_acknowledge 17 = .ok (.astore 4, 2) := by decide +kernel
theorem dL_acknowledge_19 : decode cL_acknowledge 19 = .ok (.iconst 2, 1) := by decide +kernel
theorem dL_acknowledge_20 : decode cL_acknowledge 20 = .ok (.ireturn, 1) := by decide +kernel
theorem dL_acknowledge_21 : decode cL_acknowledge 21 = .ok (.astore 4, 2) := by decide +kernel
theorem dL_acknowledge_23 : decode cL_acknowledge 23 = .ok (.iconst 3, 1) := by decide +kernel
theorem dL_acknowledge_24 : decode cL_acknowledge 24 = .ok (.ireturn, 1) := by decide +kernel
theorem dL_acknowledge_25 : decode cL_acknowledge 25 = .ok (.iconst 0, 1) := by decide +kernel
theorem dL_acknowledge_26 : decode cL_acknowledge 26 = .ok (.ireturn, 1) := by decide +kernel
theorem dL_alert_0 : decode cL_alert 0 = .ok (.aload_n 2, 1) := by decide +kernel
theorem dL_alert_1 : decode cL_alert 1 = .ok (.iconst 0, 1) := by decide +kernel
theorem dL_alert_2 : decode cL_alert 2 = .ok (.aload_n 0, 1) := by decide +kernel
theorem dL_alert_3 : decode cL_alert 3 = .ok (.iload_n 1, 1) := by decide +kernel
theorem dL_alert_4 : decode cL_alert 4 = .ok (.invokevirtual 70, 3) := by decide +kernel
theorem dL_alert_7 : decode cL_alert 7 = .ok (.i2l, 1) := by decide +kernel
theorem dL_alert_8 : decode cL_alert 8 = .ok (.lastore, 1) := by decide +kernel
theorem dL_alert_9 : decode cL_alert 9 = .ok (.goto 6, 3) := by decide +kernel
theorem dL_alert_12 : decode cL_alert 12 = .ok (.astore_n 3, 1) := by decide +kernel
theorem dL_alert_13 : decode cL_alert 13 = .ok (.iconst 1, 1) := by decide +kernel
theorem dL_alert_14 : decode cL_alert 14 = .ok (.ireturn, 1) := by decide +kernel
theorem dL_alert_15 : decode cL_alert 15 = .ok (.iconst 0, 1) := by decide +kernel
theorem dL_alert_16 : decode cL_alert 16 = .ok (.ireturn, 1) := by decide +kernel
theorem dL_setKeyword_0 : decode cL_setKeyword 0 = .ok (.aload_n 0, 1) := by decide +kernel
theorem dL_setKeyword_1 : decode cL_setKeyword 1 = .ok (.iload_n 1, 1) := by decide +kernel
theorem dL_setKeyword_2 : decode cL_setKeyword 2 = .ok (.iload_n 2, 1) := by decide +kernel
theorem dL_setKeyword_3 : decode cL_setKeyword 3 = .ok (.invokevirtual 73, 3) := by decide +kernel
theorem dL_setKeyword_6 : decode cL_setKeyword 6 = .ok (.goto 6, 3) := by decide +kernel
theorem dL_setKeyword_9 : decode cL_setKeyword 9 = .ok (.astore_n 3, 1) := by decide +kernel
theorem dL_setKeyword_10 : decode cL_setKeyword 10 = .ok (.iconst 1, 1) := by decide +kernel
theorem dL_setKeyword_11 : decode cL_setKeyword 11 = .ok (.ireturn, 1) := by decide +kernel
theorem dL_setKeyword_12 : decode cL_setKeyword 12 = .ok (.iconst 0, 1) := by decide +kernel
theorem dL_setKeyword_13 : decode cL_setKeyword 13 = .ok (.ireturn, 1) := by decide +kernel
theorem dL_come_0 : decode cL_come 0 = .ok (.aload_n 3, 1) := by decide +kernel
theorem dL_come_1 : decode cL_come 1 = .ok (.iconst 0, 1) := by decide +kernel
theorem dL_come_2 : decode cL_come 2 = .ok (.aload_n 0, 1) := by decide +kernel
theorem dL_come_3 : decode cL_come 3 = .ok (.iload_n 1, 1) := by decide +kernel
theorem dL_come_4 : decode cL_come 4 = .ok (.iload_n 2, 1) := by decide +kernel
theorem dL_come_5 : decode cL_come 5 = .ok (.invokevirtual 77, 3) := by decide +kernel
theorem dL_come_8 : decode cL_come 8 = .ok (.i2l, 1) := by decide +kernel
theorem dL_come_9 : decode cL_come 9 = .ok (.lastore, 1) := by decide +kernel
theorem dL_come_10 : decode cL_come 10 = .ok (.goto 7, 3) := by decide +kernel
theorem dL_come_13 : decode cL_come 13 = .ok (.astore 4, 2) := by decide +kernel
theorem dL_come_15 : decode cL_come 15 = .ok (.iconst 1, 1) := by decide +kernel
theorem dL_come_16 : decode cL_come 16 = .ok (.ireturn, 1) := by decide +kernel
theorem dL_come_17 : decode cL_come 17 = .ok (.iconst 0, 1) := by decide +kernel
theorem dL_come_18 : decode cL_come 18 = .ok (.ireturn, 1) := by decide +kernel
end
section
theorem dL_law_0 : decode cL_law 0 = .ok (.new 8, 3) := by decide +kernel
theorem dL_law_3 : decode cL_law 3 = .ok (.dup, 1) := by decide +kernel
theorem dL_law_4 : decode cL_law 4 = .ok (.invokespecial 80, 3) := by decide +kernel
theorem dL_law_7 : decode cL_law 7 = .ok (.astore_n 1, 1) := by decide +kernel
theorem dL_law_8 : decode cL_law 8 = .ok (.new 81, 3) := by decide +kernel
theorem dL_law_11 : decode cL_law 11 = .ok (.dup, 1) := by decide +kernel
theorem dL_law_12 : decode cL_law 12 = .ok (.invokespecial 83, 3) := by decide +kernel
theorem dL_law_15 : decode cL_law 15 = .ok (.astore_n 2, 1) := by decide +kernel
theorem dL_law_16 : decode cL_law 16 = .ok (.iconst 1, 1) := by decide +kernel
theorem dL_law_17 : decode cL_law 17 = .ok (.newarray .long, 2) := by decide +kernel
theorem dL_law_19 : decode cL_law 19 = .ok (.astore_n 3, 1) := by decide +kernel
theorem dL_law_20 : decode cL_law 20 = .ok (.iconst 0, 1) := by decide +kernel
theorem dL_law_21 : decode cL_law 21 = .ok (.istore 4, 2) := by decide +kernel
theorem dL_law_23 : decode cL_law 23 = .ok (.iload 4, 2) := by decide +kernel
theorem dL_law_25 : decode cL_law 25 = .ok (.aload_n 0, 1) := by decide +kernel
theorem dL_law_26 : decode cL_law 26 = .ok (.arraylength, 1) := by decide +kernel
theorem dL_law_27 : decode cL_law 27 = .ok (.iconst 3, 1) := by decide +kernel
theorem dL_law_28 : decode cL_law 28 = .ok (.isub, 1) := by decide +kernel
theorem dL_law_29 : decode cL_law 29 = .ok (.if_icmp .gt 1385, 3) := by decide +kernel
theorem dL_law_32 : decode cL_law 32 = .ok (.aload_n 0, 1) := by decide +kernel
theorem dL_law_33 : decode cL_law 33 = .ok (.iload 4, 2) := by decide +kernel
theorem dL_law_35 : decode cL_law 35 = .ok (.iaload, 1) := by decide +kernel
theorem dL_law_36 : decode cL_law 36 = .ok (.bipush 31, 2) := by decide +kernel
theorem dL_law_38 : decode cL_law 38 = .ok (.iand, 1) := by decide +kernel
theorem dL_law_39 : decode cL_law 39 = .ok (.tableswitch 1369 0 24 #[113, 181, 194, 207, 251, 264, 320, 376, 444, 512, 568, 624, 692, 705, 761, 817, 830, 893, 961, 1017, 1073, 1129, 1197, 1253, 1301], 113) := by decide +kernel
theorem dL_law_152 : decode cL_law 152 = .ok (.aload_n 1, 1) := by decide +kernel
theorem dL_law_153 : decode cL_law 153 = .ok (.aload_n 0, 1) := by decide +kernel
theorem dL_law_154 : decode cL_law 154 = .ok (.iload 4, 2) := by decide +kernel
theorem dL_law_156 : decode cL_law 156 = .ok (.iconst 1, 1) := by decide +kernel
theorem dL_law_157 : decode cL_law 157 = .ok (.iadd, 1) := by decide +kernel
theorem dL_law_158 : decode cL_law 158 = .ok (.iaload, 1) := by decide +kernel
theorem dL_law_159 : decode cL_law 159 = .ok (.aload_n 0, 1) := by decide +kernel
theorem dL_law_160 : decode cL_law 160 = .ok (.iload 4, 2) := by decide +kernel
theorem dL_law_162 : decode cL_law 162 = .ok (.iconst 2, 1) := by decide +kernel
theorem dL_law_163 : decode cL_law 163 = .ok (.iadd, 1) := by decide +kernel
theorem dL_law_164 : decode cL_law 164 = .ok (.iaload, 1) := by decide +kernel
theorem dL_law_165 : decode cL_law 165 = .ok (.aload_n 3, 1) := by decide +kernel
theorem dL_law_166 : decode cL_law 166 = .ok (.invokestatic 84, 3) := by decide +kernel
theorem dL_law_169 : decode cL_law 169 = .ok (.istore 5, 2) := by decide +kernel
theorem dL_law_171 : decode cL_law 171 = .ok (.aload_n 2, 1) := by decide +kernel
theorem dL_law_172 : decode cL_law 172 = .ok (.aload_n 0, 1) := by decide +kernel
theorem dL_law_173 : decode cL_law 173 = .ok (.iload 4, 2) := by decide +kernel
theorem dL_law_175 : decode cL_law 175 = .ok (.iconst 1, 1) := by decide +kernel
theorem dL_law_176 : decode cL_law 176 = .ok (.iadd, 1) := by decide +kernel
theorem dL_law_177 : decode cL_law 177 = .ok (.iaload, 1) := by decide +kernel
theorem dL_law_178 : decode cL_law 178 = .ok (.aload_n 0, 1) := by decide +kernel
theorem dL_law_179 : decode cL_law 179 = .ok (.iload 4, 2) := by decide +kernel
theorem dL_law_181 : decode cL_law 181 = .ok (.iconst 2, 1) := by decide +kernel
theorem dL_law_182 : decode cL_law 182 = .ok (.iadd, 1) := by decide +kernel
theorem dL_law_183 : decode cL_law 183 = .ok (.iaload, 1) := by decide +kernel
theorem dL_law_184 : decode cL_law 184 = .ok (.invokevirtual 89, 3) := by decide +kernel
theorem dL_law_187 : decode cL_law 187 = .ok (.istore 6, 2) := by decide +kernel
theorem dL_law_189 : decode cL_law 189 = .ok (.aload_n 2, 1) := by decide +kernel
theorem dL_law_190 : decode cL_law 190 = .ok (.invokevirtual 90, 3) := by decide +kernel
theorem dL_law_193 : decode cL_law 193 = .ok (.iload 5, 2) := by decide +kernel
theorem dL_law_195 : decode cL_law 195 = .ok (.if_icmp .eq 5, 3) := by decide +kernel
theorem dL_law_198 : decode cL_law 198 = .ok (.iconst 0, 1) := by decide +kernel
theorem dL_law_199 : decode cL_law 199 = .ok (.ireturn, 1) := by decide +kernel
theorem dL_law_200 : decode cL_law 200 = .ok (.iload 5, 2) := by decide +kernel
theorem dL_law_202 : decode cL_law 202 = .ok (.ifCond .ne 15, 3) := by decide +kernel
theorem dL_law_205 : decode cL_law 205 = .ok (.aload_n 3, 1) := by decide +kernel
theorem dL_law_206 : decode cL_law 206 = .ok (.iconst 0, 1) := by decide +kernel
theorem dL_law_207 : decode cL_law 207 = .ok (.laload, 1) := by decide +kernel
theorem dL_law_208 : decode cL_law 208 = .ok (.iload 6, 2) := by decide +kernel
theorem dL_law_210 : decode cL_law 210 = .ok (.i2l, 1) := by decide +kernel
theorem dL_law_211 : decode cL_law 211 = .ok (.lcmp, 1) := by decide +kernel
theorem dL_law_212 : decode cL_law 212 = .ok (.ifCond .eq 5, 3) := by decide +kernel
theorem dL_law_215 : decode cL_law 215 = .ok (.iconst 0, 1) := by decide +kernel
theorem dL_law_216 : decode cL_law 216 = .ok (.ireturn, 1) := by decide +kernel
theorem dL_law_217 : decode cL_law 217 = .ok (.goto 1191, 3) := by decide +kernel
theorem dL_law_220 : decode cL_law 220 = .ok (.aload_n 1, 1) := by decide +kernel
theorem dL_law_221 : decode cL_law 221 = .ok (.invokevirtual 93, 3) := by decide +kernel
theorem dL_law_224 : decode cL_law 224 = .ok (.aload_n 2, 1) := by decide +kernel
theorem dL_law_225 : decode cL_law 225 = .ok (.invokevirtual 96, 3) := by decide +kernel
theorem dL_law_228 : decode cL_law 228 = .ok (.if_icmp .eq 1180, 3) := by decide +kernel
theorem dL_law_231 : decode cL_law 231 = .ok (.iconst 0, 1) := by decide +kernel
theorem dL_law_232 : decode cL_law 232 = .ok (.ireturn, 1) := by decide +kernel
theorem dL_law_233 : decode cL_law 233 = .ok (.aload_n 1, 1) := by decide +kernel
theorem dL_law_234 : decode cL_law 234 = .ok (.invokevirtual 97, 3) := by decide +kernel
theorem dL_law_237 : decode cL_law 237 = .ok (.aload_n 2, 1) := by decide +kernel
theorem dL_law_238 : decode cL_law 238 = .ok (.invokevirtual 101, 3) := by decide +kernel
theorem dL_law_241 : decode cL_law 241 = .ok (.if_icmp .eq 1167, 3) := by decide +kernel
theorem dL_law_244 : decode cL_law 244 = .ok (.iconst 0, 1) := by decide +kernel
theorem dL_law_245 : decode cL_law 245 = .ok (.ireturn, 1) := by decide +kernel
theorem dL_law_246 : decode cL_law 246 = .ok (.aload_n 1, 1) := by decide +kernel
theorem dL_law_247 : decode cL_law 247 = .ok (.aload_n 3, 1) := by decide +kernel
theorem dL_law_248 : decode cL_law 248 = .ok (.invokestatic 102, 3) := by decide +kernel
theorem dL_law_251 : decode cL_law 251 = .ok (.istore 5, 2) := by decide +kernel
theorem dL_law_253 : decode cL_law 253 = .ok (.aload_n 2, 1) := by decide +kernel
theorem dL_law_254 : decode cL_law 254 = .ok (.invokevirtual 105, 3) := by decide +kernel
theorem dL_law_257 : decode cL_law 257 = .ok (.istore 6, 2) := by decide +kernel
theorem dL_law_259 : decode cL_law 259 = .ok (.aload_n 2, 1) := by decide +kernel
theorem dL_law_260 : decode cL_law 260 = .ok (.invokevirtual 90, 3) := by decide +kernel
theorem dL_law_263 : decode cL_law 263 = .ok (.iload 5, 2) := by decide +kernel
theorem dL_law_265 : decode cL_law 265 = .ok (.if_icmp .eq 5, 3) := by decide +kernel
theorem dL_law_268 : decode cL_law 268 = .ok (.iconst 0, 1) := by decide +kernel
theorem dL_law_269 : decode cL_law 269 = .ok (.ireturn, 1) := by decide +kernel
theorem dL_law_270 : decode cL_law 270 = .ok (.iload 5, 2) := by decide +kernel
theorem dL_law_272 : decode cL_law 272 = .ok (.ifCond .ne 15, 3) := by decide +kernel
theorem dL_law_275 : decode cL_law 275 = .ok (.aload_n 3, 1) := by decide +kernel
theorem dL_law_276 : decode cL_law 276 = .ok (.iconst 0, 1) := by decide +kernel
theorem dL_law_277 : decode cL_law 277 = .ok (.laload, 1) := by decide +kernel
theorem dL_law_278 : decode cL_law 278 = .ok (.iload 6, 2) := by decide +kernel
theorem dL_law_280 : decode cL_law 280 = .ok (.i2l, 1) := by decide +kernel
theorem dL_law_281 : decode cL_law 281 = .ok (.lcmp, 1) := by decide +kernel
theorem dL_law_282 : decode cL_law 282 = .ok (.ifCond .eq 5, 3) := by decide +kernel
theorem dL_law_285 : decode cL_law 285 = .ok (.iconst 0, 1) := by decide +kernel
theorem dL_law_286 : decode cL_law 286 = .ok (.ireturn, 1) := by decide +kernel
theorem dL_law_287 : decode cL_law 287 = .ok (.goto 1121, 3) := by decide +kernel
theorem dL_law_290 : decode cL_law 290 = .ok (.aload_n 1, 1) := by decide +kernel
theorem dL_law_291 : decode cL_law 291 = .ok (.invokevirtual 106, 3) := by decide +kernel
theorem dL_law_294 : decode cL_law 294 = .ok (.aload_n 2, 1) := by decide +kernel
theorem dL_law_295 : decode cL_law 295 = .ok (.invokevirtual 109, 3) := by decide +kernel
theorem dL_law_298 : decode cL_law 298 = .ok (.if_icmp .eq 1110, 3) := by decide +kernel
theorem dL_law_301 : decode cL_law 301 = .ok (.iconst 0, 1) := by decide +kernel
theorem dL_law_302 : decode cL_law 302 = .ok (.ireturn, 1) := by decide +kernel
theorem dL_law_303 : decode cL_law 303 = .ok (.aload_n 1, 1) := by decide +kernel
theorem dL_law_304 : decode cL_law 304 = .ok (.aload_n 0, 1) := by decide +kernel
theorem dL_law_305 : decode cL_law 305 = .ok (.iload 4, 2) := by decide +kernel
theorem dL_law_307 : decode cL_law 307 = .ok (.iconst 1, 1) := by decide +kernel
theorem dL_law_308 : decode cL_law 308 = .ok (.iadd, 1) := by decide +kernel
theorem dL_law_309 : decode cL_law 309 = .ok (.iaload, 1) := by decide +kernel
theorem dL_law_310 : decode cL_law 310 = .ok (.aload_n 3, 1) := by decide +kernel
theorem dL_law_311 : decode cL_law 311 = .ok (.invokestatic 110, 3) := by decide +kernel
theorem dL_law_314 : decode cL_law 314 = .ok (.istore 5, 2) := by decide +kernel
theorem dL_law_316 : decode cL_law 316 = .ok (.aload_n 2, 1) := by decide +kernel
theorem dL_law_317 : decode cL_law 317 = .ok (.aload_n 0, 1) := by decide +kernel
theorem dL_law_318 : decode cL_law 318 = .ok (.iload 4, 2) := by decide +kernel
theorem dL_law_320 : decode cL_law 320 = .ok (.iconst 1, 1) := by decide +kernel
theorem dL_law_321 : decode cL_law 321 = .ok (.iadd, 1) := by decide +kernel
theorem dL_law_322 : decode cL_law 322 = .ok (.iaload, 1) := by decide +kernel
theorem dL_law_323 : decode cL_law 323 = .ok (.invokevirtual 113, 3) := by decide +kernel
theorem dL_law_326 : decode cL_law 326 = .ok (.istore 6, 2) := by decide +kernel
theorem dL_law_328 : decode cL_law 328 = .ok (.aload_n 2, 1) := by decide +kernel
theorem dL_law_329 : decode cL_law 329 = .ok (.invokevirtual 90, 3) := by decide +kernel
theorem dL_law_332 : decode cL_law 332 = .ok (.iload 5, 2) := by decide +kernel
theorem dL_law_334 : decode cL_law 334 = .ok (.if_icmp .eq 5, 3) := by decide +kernel
theorem dL_law_337 : decode cL_law 337 = .ok (.iconst 0, 1) := by decide +kernel
theorem dL_law_338 : decode cL_law 338 = .ok (.ireturn, 1) := by decide +kernel
theorem dL_law_339 : decode cL_law 339 = .ok (.iload 5, 2) := by decide +kernel
theorem dL_law_341 : decode cL_law 341 = .ok (.ifCond .ne 15, 3) := by decide +kernel
theorem dL_law_344 : decode cL_law 344 = .ok (.aload_n 3, 1) := by decide +kernel
theorem dL_law_345 : decode cL_law 345 = .ok (.iconst 0, 1) := by decide +kernel
theorem dL_law_346 : decode cL_law 346 = .ok (.laload, 1) := by decide +kernel
theorem dL_law_347 : decode cL_law 347 = .ok (.iload 6, 2) := by decide +kernel
theorem dL_law_349 : decode cL_law 349 = .ok (.i2l, 1) := by decide +kernel
theorem dL_law_350 : decode cL_law 350 = .ok (.lcmp, 1) := by decide +kernel
theorem dL_law_351 : decode cL_law 351 = .ok (.ifCond .eq 5, 3) := by decide +kernel
theorem dL_law_354 : decode cL_law 354 = .ok (.iconst 0, 1) := by decide +kernel
theorem dL_law_355 : decode cL_law 355 = .ok (.ireturn, 1) := by decide +kernel
theorem dL_law_356 : decode cL_law 356 = .ok (.goto 1052, 3) := by decide +kernel
theorem dL_law_359 : decode cL_law 359 = .ok (.aload_n 1, 1) := by decide +kernel
theorem dL_law_360 : decode cL_law 360 = .ok (.aload_n 0, 1) := by decide +kernel
theorem dL_law_361 : decode cL_law 361 = .ok (.iload 4, 2) := by decide +kernel
theorem dL_law_363 : decode cL_law 363 = .ok (.iconst 1, 1) := by decide +kernel
theorem dL_law_364 : decode cL_law 364 = .ok (.iadd, 1) := by decide +kernel
theorem dL_law_365 : decode cL_law 365 = .ok (.iaload, 1) := by decide +kernel
theorem dL_law_366 : decode cL_law 366 = .ok (.aload_n 3, 1) := by decide +kernel
theorem dL_law_367 : decode cL_law 367 = .ok (.invokestatic 114, 3) := by decide +kernel
theorem dL_law_370 : decode cL_law 370 = .ok (.istore 5, 2) := by decide +kernel
theorem dL_law_372 : decode cL_law 372 = .ok (.aload_n 2, 1) := by decide +kernel
theorem dL_law_373 : decode cL_law 373 = .ok (.aload_n 0, 1) := by decide +kernel
theorem dL_law_374 : decode cL_law 374 = .ok (.iload 4, 2) := by decide +kernel
theorem dL_law_376 : decode cL_law 376 = .ok (.iconst 1, 1) := by decide +kernel
theorem dL_law_377 : decode cL_law 377 = .ok (.iadd, 1) := by decide +kernel
theorem dL_law_378 : decode cL_law 378 = .ok (.iaload, 1) := by decide +kernel
theorem dL_law_379 : decode cL_law 379 = .ok (.invokevirtual 116, 3) := by decide +kernel
theorem dL_law_382 : decode cL_law 382 = .ok (.istore 6, 2) := by decide +kernel
theorem dL_law_384 : decode cL_law 384 = .ok (.aload_n 2, 1) := by decide +kernel
theorem dL_law_385 : decode cL_law 385 = .ok (.invokevirtual 90, 3) := by decide +kernel
theorem dL_law_388 : decode cL_law 388 = .ok (.iload 5, 2) := by decide +kernel
theorem dL_law_390 : decode cL_law 390 = .ok (.if_icmp .eq 5, 3) := by decide +kernel
theorem dL_law_393 : decode cL_law 393 = .ok (.iconst 0, 1) := by decide +kernel
theorem dL_law_394 : decode cL_law 394 = .ok (.ireturn, 1) := by decide +kernel
theorem dL_law_395 : decode cL_law 395 = .ok (.iload 5, 2) := by decide +kernel
theorem dL_law_397 : decode cL_law 397 = .ok (.ifCond .ne 15, 3) := by decide +kernel
theorem dL_law_400 : decode cL_law 400 = .ok (.aload_n 3, 1) := by decide +kernel
theorem dL_law_401 : decode cL_law 401 = .ok (.iconst 0, 1) := by decide +kernel
theorem dL_law_402 : decode cL_law 402 = .ok (.laload, 1) := by decide +kernel
theorem dL_law_403 : decode cL_law 403 = .ok (.iload 6, 2) := by decide +kernel
theorem dL_law_405 : decode cL_law 405 = .ok (.i2l, 1) := by decide +kernel
theorem dL_law_406 : decode cL_law 406 = .ok (.lcmp, 1) := by decide +kernel
theorem dL_law_407 : decode cL_law 407 = .ok (.ifCond .eq 5, 3) := by decide +kernel
theorem dL_law_410 : decode cL_law 410 = .ok (.iconst 0, 1) := by decide +kernel
theorem dL_law_411 : decode cL_law 411 = .ok (.ireturn, 1) := by decide +kernel
theorem dL_law_412 : decode cL_law 412 = .ok (.goto 996, 3) := by decide +kernel
theorem dL_law_415 : decode cL_law 415 = .ok (.aload_n 1, 1) := by decide +kernel
theorem dL_law_416 : decode cL_law 416 = .ok (.aload_n 0, 1) := by decide +kernel
theorem dL_law_417 : decode cL_law 417 = .ok (.iload 4, 2) := by decide +kernel
theorem dL_law_419 : decode cL_law 419 = .ok (.iconst 1, 1) := by decide +kernel
theorem dL_law_420 : decode cL_law 420 = .ok (.iadd, 1) := by decide +kernel
theorem dL_law_421 : decode cL_law 421 = .ok (.iaload, 1) := by decide +kernel
theorem dL_law_422 : decode cL_law 422 = .ok (.aload_n 0, 1) := by decide +kernel
theorem dL_law_423 : decode cL_law 423 = .ok (.iload 4, 2) := by decide +kernel
theorem dL_law_425 : decode cL_law 425 = .ok (.iconst 2, 1) := by decide +kernel
theorem dL_law_426 : decode cL_law 426 = .ok (.iadd, 1) := by decide +kernel
theorem dL_law_427 : decode cL_law 427 = .ok (.iaload, 1) := by decide +kernel
theorem dL_law_428 : decode cL_law 428 = .ok (.aload_n 3, 1) := by decide +kernel
theorem dL_law_429 : decode cL_law 429 = .ok (.invokestatic 117, 3) := by decide +kernel
theorem dL_law_432 : decode cL_law 432 = .ok (.istore 5, 2) := by decide +kernel
theorem dL_law_434 : decode cL_law 434 = .ok (.aload_n 2, 1) := by decide +kernel
theorem dL_law_435 : decode cL_law 435 = .ok (.aload_n 0, 1) := by decide +kernel
theorem dL_law_436 : decode cL_law 436 = .ok (.iload 4, 2) := by decide +kernel
theorem dL_law_438 : decode cL_law 438 = .ok (.iconst 1, 1) := by decide +kernel
theorem dL_law_439 : decode cL_law 439 = .ok (.iadd, 1) := by decide +kernel
theorem dL_law_440 : decode cL_law 440 = .ok (.iaload, 1) := by decide +kernel
theorem dL_law_441 : decode cL_law 441 = .ok (.aload_n 0, 1) := by decide +kernel
theorem dL_law_442 : decode cL_law 442 = .ok (.iload 4, 2) := by decide +kernel
theorem dL_law_444 : decode cL_law 444 = .ok (.iconst 2, 1) := by decide +kernel
theorem dL_law_445 : decode cL_law 445 = .ok (.iadd, 1) := by decide +kernel
theorem dL_law_446 : decode cL_law 446 = .ok (.iaload, 1) := by decide +kernel
theorem dL_law_447 : decode cL_law 447 = .ok (.invokevirtual 119, 3) := by decide +kernel
theorem dL_law_450 : decode cL_law 450 = .ok (.istore 6, 2) := by decide +kernel
theorem dL_law_452 : decode cL_law 452 = .ok (.aload_n 2, 1) := by decide +kernel
theorem dL_law_453 : decode cL_law 453 = .ok (.invokevirtual 90, 3) := by decide +kernel
theorem dL_law_456 : decode cL_law 456 = .ok (.iload 5, 2) := by decide +kernel
theorem dL_law_458 : decode cL_law 458 = .ok (.if_icmp .eq 5, 3) := by decide +kernel
theorem dL_law_461 : decode cL_law 461 = .ok (.iconst 0, 1) := by decide +kernel
theorem dL_law_462 : decode cL_law 462 = .ok (.ireturn, 1) := by decide +kernel
theorem dL_law_463 : decode cL_law 463 = .ok (.iload 5, 2) := by decide +kernel
theorem dL_law_465 : decode cL_law 465 = .ok (.ifCond .ne 15, 3) := by decide +kernel
theorem dL_law_468 : decode cL_law 468 = .ok (.aload_n 3, 1) := by decide +kernel
theorem dL_law_469 : decode cL_law 469 = .ok (.iconst 0, 1) := by decide +kernel
theorem dL_law_470 : decode cL_law 470 = .ok (.laload, 1) := by decide +kernel
theorem dL_law_471 : decode cL_law 471 = .ok (.iload 6, 2) := by decide +kernel
theorem dL_law_473 : decode cL_law 473 = .ok (.i2l, 1) := by decide +kernel
theorem dL_law_474 : decode cL_law 474 = .ok (.lcmp, 1) := by decide +kernel
theorem dL_law_475 : decode cL_law 475 = .ok (.ifCond .eq 5, 3) := by decide +kernel
theorem dL_law_478 : decode cL_law 478 = .ok (.iconst 0, 1) := by decide +kernel
theorem dL_law_479 : decode cL_law 479 = .ok (.ireturn, 1) := by decide +kernel
theorem dL_law_480 : decode cL_law 480 = .ok (.goto 928, 3) := by decide +kernel
theorem dL_law_483 : decode cL_law 483 = .ok (.aload_n 1, 1) := by decide +kernel
theorem dL_law_484 : decode cL_law 484 = .ok (.aload_n 0, 1) := by decide +kernel
theorem dL_law_485 : decode cL_law 485 = .ok (.iload 4, 2) := by decide +kernel
theorem dL_law_487 : decode cL_law 487 = .ok (.iconst 1, 1) := by decide +kernel
theorem dL_law_488 : decode cL_law 488 = .ok (.iadd, 1) := by decide +kernel
theorem dL_law_489 : decode cL_law 489 = .ok (.iaload, 1) := by decide +kernel
theorem dL_law_490 : decode cL_law 490 = .ok (.aload_n 0, 1) := by decide +kernel
theorem dL_law_491 : decode cL_law 491 = .ok (.iload 4, 2) := by decide +kernel
theorem dL_law_493 : decode cL_law 493 = .ok (.iconst 2, 1) := by decide +kernel
theorem dL_law_494 : decode cL_law 494 = .ok (.iadd, 1) := by decide +kernel
theorem dL_law_495 : decode cL_law 495 = .ok (.iaload, 1) := by decide +kernel
theorem dL_law_496 : decode cL_law 496 = .ok (.aload_n 3, 1) := by decide +kernel
theorem dL_law_497 : decode cL_law 497 = .ok (.invokestatic 120, 3) := by decide +kernel
theorem dL_law_500 : decode cL_law 500 = .ok (.istore 5, 2) := by decide +kernel
theorem dL_law_502 : decode cL_law 502 = .ok (.aload_n 2, 1) := by decide +kernel
theorem dL_law_503 : decode cL_law 503 = .ok (.aload_n 0, 1) := by decide +kernel
theorem dL_law_504 : decode cL_law 504 = .ok (.iload 4, 2) := by decide +kernel
theorem dL_law_506 : decode cL_law 506 = .ok (.iconst 1, 1) := by decide +kernel
theorem dL_law_507 : decode cL_law 507 = .ok (.iadd, 1) := by decide +kernel
theorem dL_law_508 : decode cL_law 508 = .ok (.iaload, 1) := by decide +kernel
theorem dL_law_509 : decode cL_law 509 = .ok (.aload_n 0, 1) := by decide +kernel
theorem dL_law_510 : decode cL_law 510 = .ok (.iload 4, 2) := by decide +kernel
theorem dL_law_512 : decode cL_law 512 = .ok (.iconst 2, 1) := by decide +kernel
theorem dL_law_513 : decode cL_law 513 = .ok (.iadd, 1) := by decide +kernel
theorem dL_law_514 : decode cL_law 514 = .ok (.iaload, 1) := by decide +kernel
theorem dL_law_515 : decode cL_law 515 = .ok (.invokevirtual 122, 3) := by decide +kernel
theorem dL_law_518 : decode cL_law 518 = .ok (.istore 6, 2) := by decide +kernel
theorem dL_law_520 : decode cL_law 520 = .ok (.aload_n 2, 1) := by decide +kernel
theorem dL_law_521 : decode cL_law 521 = .ok (.invokevirtual 90, 3) := by decide +kernel
theorem dL_law_524 : decode cL_law 524 = .ok (.iload 5, 2) := by decide +kernel
theorem dL_law_526 : decode cL_law 526 = .ok (.if_icmp .eq 5, 3) := by decide +kernel
theorem dL_law_529 : decode cL_law 529 = .ok (.iconst 0, 1) := by decide +kernel
theorem dL_law_530 : decode cL_law 530 = .ok (.ireturn, 1) := by decide +kernel
theorem dL_law_531 : decode cL_law 531 = .ok (.iload 5, 2) := by decide +kernel
theorem dL_law_533 : decode cL_law 533 = .ok (.ifCond .ne 15, 3) := by decide +kernel
theorem dL_law_536 : decode cL_law 536 = .ok (.aload_n 3, 1) := by decide +kernel
theorem dL_law_537 : decode cL_law 537 = .ok (.iconst 0, 1) := by decide +kernel
theorem dL_law_538 : decode cL_law 538 = .ok (.laload, 1) := by decide +kernel
theorem dL_law_539 : decode cL_law 539 = .ok (.iload 6, 2) := by decide +kernel
theorem dL_law_541 : decode cL_law 541 = .ok (.i2l, 1) := by decide +kernel
theorem dL_law_542 : decode cL_law 542 = .ok (.lcmp, 1) := by decide +kernel
theorem dL_law_543 : decode cL_law 543 = .ok (.ifCond .eq 5, 3) := by decide +kernel
theorem dL_law_546 : decode cL_law 546 = .ok (.iconst 0, 1) := by decide +kernel
theorem dL_law_547 : decode cL_law 547 = .ok (.ireturn, 1) := by decide +kernel
theorem dL_law_548 : decode cL_law 548 = .ok (.goto 860, 3) := by decide +kernel
theorem dL_law_551 : decode cL_law 551 = .ok (.aload_n 1, 1) := by decide +kernel
theorem dL_law_552 : decode cL_law 552 = .ok (.aload_n 0, 1) := by decide +kernel
theorem dL_law_553 : decode cL_law 553 = .ok (.iload 4, 2) := by decide +kernel
theorem dL_law_555 : decode cL_law 555 = .ok (.iconst 1, 1) := by decide +kernel
theorem dL_law_556 : decode cL_law 556 = .ok (.iadd, 1) := by decide +kernel
theorem dL_law_557 : decode cL_law 557 = .ok (.iaload, 1) := by decide +kernel
theorem dL_law_558 : decode cL_law 558 = .ok (.aload_n 3, 1) := by decide +kernel
theorem dL_law_559 : decode cL_law 559 = .ok (.invokestatic 123, 3) := by decide +kernel
theorem dL_law_562 : decode cL_law 562 = .ok (.istore 5, 2) := by decide +kernel
theorem dL_law_564 : decode cL_law 564 = .ok (.aload_n 2, 1) := by decide +kernel
theorem dL_law_565 : decode cL_law 565 = .ok (.aload_n 0, 1) := by decide +kernel
theorem dL_law_566 : decode cL_law 566 = .ok (.iload 4, 2) := by decide +kernel
theorem dL_law_568 : decode cL_law 568 = .ok (.iconst 1, 1) := by decide +kernel
theorem dL_law_569 : decode cL_law 569 = .ok (.iadd, 1) := by decide +kernel
theorem dL_law_570 : decode cL_law 570 = .ok (.iaload, 1) := by decide +kernel
theorem dL_law_571 : decode cL_law 571 = .ok (.invokevirtual 125, 3) := by decide +kernel
theorem dL_law_574 : decode cL_law 574 = .ok (.istore 6, 2) := by decide +kernel
theorem dL_law_576 : decode cL_law 576 = .ok (.aload_n 2, 1) := by decide +kernel
theorem dL_law_577 : decode cL_law 577 = .ok (.invokevirtual 90, 3) := by decide +kernel
theorem dL_law_580 : decode cL_law 580 = .ok (.iload 5, 2) := by decide +kernel
theorem dL_law_582 : decode cL_law 582 = .ok (.if_icmp .eq 5, 3) := by decide +kernel
theorem dL_law_585 : decode cL_law 585 = .ok (.iconst 0, 1) := by decide +kernel
theorem dL_law_586 : decode cL_law 586 = .ok (.ireturn, 1) := by decide +kernel
theorem dL_law_587 : decode cL_law 587 = .ok (.iload 5, 2) := by decide +kernel
theorem dL_law_589 : decode cL_law 589 = .ok (.ifCond .ne 15, 3) := by decide +kernel
theorem dL_law_592 : decode cL_law 592 = .ok (.aload_n 3, 1) := by decide +kernel
theorem dL_law_593 : decode cL_law 593 = .ok (.iconst 0, 1) := by decide +kernel
theorem dL_law_594 : decode cL_law 594 = .ok (.laload, 1) := by decide +kernel
theorem dL_law_595 : decode cL_law 595 = .ok (.iload 6, 2) := by decide +kernel
theorem dL_law_597 : decode cL_law 597 = .ok (.i2l, 1) := by decide +kernel
theorem dL_law_598 : decode cL_law 598 = .ok (.lcmp, 1) := by decide +kernel
theorem dL_law_599 : decode cL_law 599 = .ok (.ifCond .eq 5, 3) := by decide +kernel
theorem dL_law_602 : decode cL_law 602 = .ok (.iconst 0, 1) := by decide +kernel
theorem dL_law_603 : decode cL_law 603 = .ok (.ireturn, 1) := by decide +kernel
theorem dL_law_604 : decode cL_law 604 = .ok (.goto 804, 3) := by decide +kernel
theorem dL_law_607 : decode cL_law 607 = .ok (.aload_n 1, 1) := by decide +kernel
theorem dL_law_608 : decode cL_law 608 = .ok (.aload_n 0, 1) := by decide +kernel
theorem dL_law_609 : decode cL_law 609 = .ok (.iload 4, 2) := by decide +kernel
theorem dL_law_611 : decode cL_law 611 = .ok (.iconst 1, 1) := by decide +kernel
theorem dL_law_612 : decode cL_law 612 = .ok (.iadd, 1) := by decide +kernel
theorem dL_law_613 : decode cL_law 613 = .ok (.iaload, 1) := by decide +kernel
theorem dL_law_614 : decode cL_law 614 = .ok (.aload_n 3, 1) := by decide +kernel
theorem dL_law_615 : decode cL_law 615 = .ok (.invokestatic 126, 3) := by decide +kernel
theorem dL_law_618 : decode cL_law 618 = .ok (.istore 5, 2) := by decide +kernel
theorem dL_law_620 : decode cL_law 620 = .ok (.aload_n 2, 1) := by decide +kernel
theorem dL_law_621 : decode cL_law 621 = .ok (.aload_n 0, 1) := by decide +kernel
theorem dL_law_622 : decode cL_law 622 = .ok (.iload 4, 2) := by decide +kernel
theorem dL_law_624 : decode cL_law 624 = .ok (.iconst 1, 1) := by decide +kernel
theorem dL_law_625 : decode cL_law 625 = .ok (.iadd, 1) := by decide +kernel
theorem dL_law_626 : decode cL_law 626 = .ok (.iaload, 1) := by decide +kernel
theorem dL_law_627 : decode cL_law 627 = .ok (.invokevirtual 128, 3) := by decide +kernel
theorem dL_law_630 : decode cL_law 630 = .ok (.istore 6, 2) := by decide +kernel
theorem dL_law_632 : decode cL_law 632 = .ok (.aload_n 2, 1) := by decide +kernel
theorem dL_law_633 : decode cL_law 633 = .ok (.invokevirtual 90, 3) := by decide +kernel
theorem dL_law_636 : decode cL_law 636 = .ok (.iload 5, 2) := by decide +kernel
theorem dL_law_638 : decode cL_law 638 = .ok (.if_icmp .eq 5, 3) := by decide +kernel
theorem dL_law_641 : decode cL_law 641 = .ok (.iconst 0, 1) := by decide +kernel
theorem dL_law_642 : decode cL_law 642 = .ok (.ireturn, 1) := by decide +kernel
theorem dL_law_643 : decode cL_law 643 = .ok (.iload 5, 2) := by decide +kernel
theorem dL_law_645 : decode cL_law 645 = .ok (.ifCond .ne 15, 3) := by decide +kernel
theorem dL_law_648 : decode cL_law 648 = .ok (.aload_n 3, 1) := by decide +kernel
theorem dL_law_649 : decode cL_law 649 = .ok (.iconst 0, 1) := by decide +kernel
theorem dL_law_650 : decode cL_law 650 = .ok (.laload, 1) := by decide +kernel
theorem dL_law_651 : decode cL_law 651 = .ok (.iload 6, 2) := by decide +kernel
theorem dL_law_653 : decode cL_law 653 = .ok (.i2l, 1) := by decide +kernel
theorem dL_law_654 : decode cL_law 654 = .ok (.lcmp, 1) := by decide +kernel
theorem dL_law_655 : decode cL_law 655 = .ok (.ifCond .eq 5, 3) := by decide +kernel
theorem dL_law_658 : decode cL_law 658 = .ok (.iconst 0, 1) := by decide +kernel
theorem dL_law_659 : decode cL_law 659 = .ok (.ireturn, 1) := by decide +kernel
theorem dL_law_660 : decode cL_law 660 = .ok (.goto 748, 3) := by decide +kernel
theorem dL_law_663 : decode cL_law 663 = .ok (.aload_n 1, 1) := by decide +kernel
theorem dL_law_664 : decode cL_law 664 = .ok (.aload_n 0, 1) := by decide +kernel
theorem dL_law_665 : decode cL_law 665 = .ok (.iload 4, 2) := by decide +kernel
theorem dL_law_667 : decode cL_law 667 = .ok (.iconst 1, 1) := by decide +kernel
theorem dL_law_668 : decode cL_law 668 = .ok (.iadd, 1) := by decide +kernel
theorem dL_law_669 : decode cL_law 669 = .ok (.iaload, 1) := by decide +kernel
theorem dL_law_670 : decode cL_law 670 = .ok (.aload_n 0, 1) := by decide +kernel
theorem dL_law_671 : decode cL_law 671 = .ok (.iload 4, 2) := by decide +kernel
theorem dL_law_673 : decode cL_law 673 = .ok (.iconst 2, 1) := by decide +kernel
theorem dL_law_674 : decode cL_law 674 = .ok (.iadd, 1) := by decide +kernel
theorem dL_law_675 : decode cL_law 675 = .ok (.iaload, 1) := by decide +kernel
theorem dL_law_676 : decode cL_law 676 = .ok (.aload_n 3, 1) := by decide +kernel
theorem dL_law_677 : decode cL_law 677 = .ok (.invokestatic 129, 3) := by decide +kernel
theorem dL_law_680 : decode cL_law 680 = .ok (.istore 5, 2) := by decide +kernel
theorem dL_law_682 : decode cL_law 682 = .ok (.aload_n 2, 1) := by decide +kernel
theorem dL_law_683 : decode cL_law 683 = .ok (.aload_n 0, 1) := by decide +kernel
theorem dL_law_684 : decode cL_law 684 = .ok (.iload 4, 2) := by decide +kernel
theorem dL_law_686 : decode cL_law 686 = .ok (.iconst 1, 1) := by decide +kernel
theorem dL_law_687 : decode cL_law 687 = .ok (.iadd, 1) := by decide +kernel
theorem dL_law_688 : decode cL_law 688 = .ok (.iaload, 1) := by decide +kernel
theorem dL_law_689 : decode cL_law 689 = .ok (.aload_n 0, 1) := by decide +kernel
theorem dL_law_690 : decode cL_law 690 = .ok (.iload 4, 2) := by decide +kernel
theorem dL_law_692 : decode cL_law 692 = .ok (.iconst 2, 1) := by decide +kernel
theorem dL_law_693 : decode cL_law 693 = .ok (.iadd, 1) := by decide +kernel
theorem dL_law_694 : decode cL_law 694 = .ok (.iaload, 1) := by decide +kernel
theorem dL_law_695 : decode cL_law 695 = .ok (.invokevirtual 131, 3) := by decide +kernel
theorem dL_law_698 : decode cL_law 698 = .ok (.istore 6, 2) := by decide +kernel
theorem dL_law_700 : decode cL_law 700 = .ok (.aload_n 2, 1) := by decide +kernel
theorem dL_law_701 : decode cL_law 701 = .ok (.invokevirtual 90, 3) := by decide +kernel
theorem dL_law_704 : decode cL_law 704 = .ok (.iload 5, 2) := by decide +kernel
theorem dL_law_706 : decode cL_law 706 = .ok (.if_icmp .eq 5, 3) := by decide +kernel
theorem dL_law_709 : decode cL_law 709 = .ok (.iconst 0, 1) := by decide +kernel
theorem dL_law_710 : decode cL_law 710 = .ok (.ireturn, 1) := by decide +kernel
theorem dL_law_711 : decode cL_law 711 = .ok (.iload 5, 2) := by decide +kernel
theorem dL_law_713 : decode cL_law 713 = .ok (.ifCond .ne 15, 3) := by decide +kernel
theorem dL_law_716 : decode cL_law 716 = .ok (.aload_n 3, 1) := by decide +kernel
theorem dL_law_717 : decode cL_law 717 = .ok (.iconst 0, 1) := by decide +kernel
theorem dL_law_718 : decode cL_law 718 = .ok (.laload, 1) := by decide +kernel
theorem dL_law_719 : decode cL_law 719 = .ok (.iload 6, 2) := by decide +kernel
theorem dL_law_721 : decode cL_law 721 = .ok (.i2l, 1) := by decide +kernel
theorem dL_law_722 : decode cL_law 722 = .ok (.lcmp, 1) := by decide +kernel
theorem dL_law_723 : decode cL_law 723 = .ok (.ifCond .eq 5, 3) := by decide +kernel
theorem dL_law_726 : decode cL_law 726 = .ok (.iconst 0, 1) := by decide +kernel
theorem dL_law_727 : decode cL_law 727 = .ok (.ireturn, 1) := by decide +kernel
theorem dL_law_728 : decode cL_law 728 = .ok (.goto 680, 3) := by decide +kernel
theorem dL_law_731 : decode cL_law 731 = .ok (.aload_n 1, 1) := by decide +kernel
theorem dL_law_732 : decode cL_law 732 = .ok (.invokevirtual 132, 3) := by decide +kernel
theorem dL_law_735 : decode cL_law 735 = .ok (.aload_n 2, 1) := by decide +kernel
theorem dL_law_736 : decode cL_law 736 = .ok (.invokevirtual 135, 3) := by decide +kernel
theorem dL_law_739 : decode cL_law 739 = .ok (.if_icmp .eq 669, 3) := by decide +kernel
theorem dL_law_742 : decode cL_law 742 = .ok (.iconst 0, 1) := by decide +kernel
theorem dL_law_743 : decode cL_law 743 = .ok (.ireturn, 1) := by decide +kernel
theorem dL_law_744 : decode cL_law 744 = .ok (.aload_n 1, 1) := by decide +kernel
theorem dL_law_745 : decode cL_law 745 = .ok (.aload_n 0, 1) := by decide +kernel
theorem dL_law_746 : decode cL_law 746 = .ok (.iload 4, 2) := by decide +kernel
theorem dL_law_748 : decode cL_law 748 = .ok (.iconst 1, 1) := by decide +kernel
theorem dL_law_749 : decode cL_law 749 = .ok (.iadd, 1) := by decide +kernel
theorem dL_law_750 : decode cL_law 750 = .ok (.iaload, 1) := by decide +kernel
theorem dL_law_751 : decode cL_law 751 = .ok (.aload_n 3, 1) := by decide +kernel
theorem dL_law_752 : decode cL_law 752 = .ok (.invokestatic 136, 3) := by decide +kernel
theorem dL_law_755 : decode cL_law 755 = .ok (.istore 5, 2) := by decide +kernel
theorem dL_law_757 : decode cL_law 757 = .ok (.aload_n 2, 1) := by decide +kernel
theorem dL_law_758 : decode cL_law 758 = .ok (.aload_n 0, 1) := by decide +kernel
theorem dL_law_759 : decode cL_law 759 = .ok (.iload 4, 2) := by decide +kernel
theorem dL_law_761 : decode cL_law 761 = .ok (.iconst 1, 1) := by decide +kernel
theorem dL_law_762 : decode cL_law 762 = .ok (.iadd, 1) := by decide +kernel
theorem dL_law_763 : decode cL_law 763 = .ok (.iaload, 1) := by decide +kernel
theorem dL_law_764 : decode cL_law 764 = .ok (.invokevirtual 138, 3) := by decide +kernel
theorem dL_law_767 : decode cL_law 767 = .ok (.istore 6, 2) := by decide +kernel
theorem dL_law_769 : decode cL_law 769 = .ok (.aload_n 2, 1) := by decide +kernel
theorem dL_law_770 : decode cL_law 770 = .ok (.invokevirtual 90, 3) := by decide +kernel
theorem dL_law_773 : decode cL_law 773 = .ok (.iload 5, 2) := by decide +kernel
theorem dL_law_775 : decode cL_law 775 = .ok (.if_icmp .eq 5, 3) := by decide +kernel
theorem dL_law_778 : decode cL_law 778 = .ok (.iconst 0, 1) := by decide +kernel
theorem dL_law_779 : decode cL_law 779 = .ok (.ireturn, 1) := by decide +kernel
theorem dL_law_780 : decode cL_law 780 = .ok (.iload 5, 2) := by decide +kernel
theorem dL_law_782 : decode cL_law 782 = .ok (.ifCond .ne 15, 3) := by decide +kernel
theorem dL_law_785 : decode cL_law 785 = .ok (.aload_n 3, 1) := by decide +kernel
theorem dL_law_786 : decode cL_law 786 = .ok (.iconst 0, 1) := by decide +kernel
theorem dL_law_787 : decode cL_law 787 = .ok (.laload, 1) := by decide +kernel
theorem dL_law_788 : decode cL_law 788 = .ok (.iload 6, 2) := by decide +kernel
theorem dL_law_790 : decode cL_law 790 = .ok (.i2l, 1) := by decide +kernel
theorem dL_law_791 : decode cL_law 791 = .ok (.lcmp, 1) := by decide +kernel
theorem dL_law_792 : decode cL_law 792 = .ok (.ifCond .eq 5, 3) := by decide +kernel
theorem dL_law_795 : decode cL_law 795 = .ok (.iconst 0, 1) := by decide +kernel
theorem dL_law_796 : decode cL_law 796 = .ok (.ireturn, 1) := by decide +kernel
theorem dL_law_797 : decode cL_law 797 = .ok (.goto 611, 3) := by decide +kernel
theorem dL_law_800 : decode cL_law 800 = .ok (.aload_n 1, 1) := by decide +kernel
theorem dL_law_801 : decode cL_law 801 = .ok (.aload_n 0, 1) := by decide +kernel
theorem dL_law_802 : decode cL_law 802 = .ok (.iload 4, 2) := by decide +kernel
theorem dL_law_804 : decode cL_law 804 = .ok (.iconst 1, 1) := by decide +kernel
theorem dL_law_805 : decode cL_law 805 = .ok (.iadd, 1) := by decide +kernel
theorem dL_law_806 : decode cL_law 806 = .ok (.iaload, 1) := by decide +kernel
theorem dL_law_807 : decode cL_law 807 = .ok (.aload_n 3, 1) := by decide +kernel
theorem dL_law_808 : decode cL_law 808 = .ok (.invokestatic 139, 3) := by decide +kernel
theorem dL_law_811 : decode cL_law 811 = .ok (.istore 5, 2) := by decide +kernel
theorem dL_law_813 : decode cL_law 813 = .ok (.aload_n 2, 1) := by decide +kernel
theorem dL_law_814 : decode cL_law 814 = .ok (.aload_n 0, 1) := by decide +kernel
theorem dL_law_815 : decode cL_law 815 = .ok (.iload 4, 2) := by decide +kernel
theorem dL_law_817 : decode cL_law 817 = .ok (.iconst 1, 1) := by decide +kernel
theorem dL_law_818 : decode cL_law 818 = .ok (.iadd, 1) := by decide +kernel
theorem dL_law_819 : decode cL_law 819 = .ok (.iaload, 1) := by decide +kernel
theorem dL_law_820 : decode cL_law 820 = .ok (.invokevirtual 141, 3) := by decide +kernel
theorem dL_law_823 : decode cL_law 823 = .ok (.istore 6, 2) := by decide +kernel
theorem dL_law_825 : decode cL_law 825 = .ok (.aload_n 2, 1) := by decide +kernel
theorem dL_law_826 : decode cL_law 826 = .ok (.invokevirtual 90, 3) := by decide +kernel
theorem dL_law_829 : decode cL_law 829 = .ok (.iload 5, 2) := by decide +kernel
theorem dL_law_831 : decode cL_law 831 = .ok (.if_icmp .eq 5, 3) := by decide +kernel
theorem dL_law_834 : decode cL_law 834 = .ok (.iconst 0, 1) := by decide +kernel
theorem dL_law_835 : decode cL_law 835 = .ok (.ireturn, 1) := by decide +kernel
theorem dL_law_836 : decode cL_law 836 = .ok (.iload 5, 2) := by decide +kernel
theorem dL_law_838 : decode cL_law 838 = .ok (.ifCond .ne 15, 3) := by decide +kernel
theorem dL_law_841 : decode cL_law 841 = .ok (.aload_n 3, 1) := by decide +kernel
theorem dL_law_842 : decode cL_law 842 = .ok (.iconst 0, 1) := by decide +kernel
theorem dL_law_843 : decode cL_law 843 = .ok (.laload, 1) := by decide +kernel
theorem dL_law_844 : decode cL_law 844 = .ok (.iload 6, 2) := by decide +kernel
theorem dL_law_846 : decode cL_law 846 = .ok (.i2l, 1) := by decide +kernel
theorem dL_law_847 : decode cL_law 847 = .ok (.lcmp, 1) := by decide +kernel
theorem dL_law_848 : decode cL_law 848 = .ok (.ifCond .eq 5, 3) := by decide +kernel
theorem dL_law_851 : decode cL_law 851 = .ok (.iconst 0, 1) := by decide +kernel
theorem dL_law_852 : decode cL_law 852 = .ok (.ireturn, 1) := by decide +kernel
theorem dL_law_853 : decode cL_law 853 = .ok (.goto 555, 3) := by decide +kernel
theorem dL_law_856 : decode cL_law 856 = .ok (.aload_n 1, 1) := by decide +kernel
theorem dL_law_857 : decode cL_law 857 = .ok (.invokevirtual 142, 3) := by decide +kernel
theorem dL_law_860 : decode cL_law 860 = .ok (.aload_n 2, 1) := by decide +kernel
theorem dL_law_861 : decode cL_law 861 = .ok (.invokevirtual 145, 3) := by decide +kernel
theorem dL_law_864 : decode cL_law 864 = .ok (.if_icmp .eq 544, 3) := by decide +kernel
theorem dL_law_867 : decode cL_law 867 = .ok (.iconst 0, 1) := by decide +kernel
theorem dL_law_868 : decode cL_law 868 = .ok (.ireturn, 1) := by decide +kernel
theorem dL_law_869 : decode cL_law 869 = .ok (.aload_n 1, 1) := by decide +kernel
theorem dL_law_870 : decode cL_law 870 = .ok (.aload_n 0, 1) := by decide +kernel
theorem dL_law_871 : decode cL_law 871 = .ok (.iload 4, 2) := by decide +kernel
theorem dL_law_873 : decode cL_law 873 = .ok (.iconst 1, 1) := by decide +kernel
theorem dL_law_874 : decode cL_law 874 = .ok (.iadd, 1) := by decide +kernel
theorem dL_law_875 : decode cL_law 875 = .ok (.iaload, 1) := by decide +kernel
theorem dL_law_876 : decode cL_law 876 = .ok (.aload_n 3, 1) := by decide +kernel
theorem dL_law_877 : decode cL_law 877 = .ok (.invokestatic 146, 3) := by decide +kernel
theorem dL_law_880 : decode cL_law 880 = .ok (.istore 5, 2) := by decide +kernel
theorem dL_law_882 : decode cL_law 882 = .ok (.aload_n 2, 1) := by decide +kernel
theorem dL_law_883 : decode cL_law 883 = .ok (.aload_n 0, 1) := by decide +kernel
theorem dL_law_884 : decode cL_law 884 = .ok (.iload 4, 2) := by decide +kernel
theorem dL_law_886 : decode cL_law 886 = .ok (.iconst 1, 1) := by decide +kernel
theorem dL_law_887 : decode cL_law 887 = .ok (.iadd, 1) := by decide +kernel
theorem dL_law_888 : decode cL_law 888 = .ok (.iaload, 1) := by decide +kernel
theorem dL_law_889 : decode cL_law 889 = .ok (.invokevirtual 148, 3) := by decide +kernel
theorem dL_law_892 : decode cL_law 892 = .ok (.istore 6, 2) := by decide +kernel
theorem dL_law_894 : decode cL_law 894 = .ok (.aload_n 2, 1) := by decide +kernel
theorem dL_law_895 : decode cL_law 895 = .ok (.invokevirtual 90, 3) := by decide +kernel
theorem dL_law_898 : decode cL_law 898 = .ok (.iload 5, 2) := by decide +kernel
theorem dL_law_900 : decode cL_law 900 = .ok (.if_icmp .eq 5, 3) := by decide +kernel
theorem dL_law_903 : decode cL_law 903 = .ok (.iconst 0, 1) := by decide +kernel
theorem dL_law_904 : decode cL_law 904 = .ok (.ireturn, 1) := by decide +kernel
theorem dL_law_905 : decode cL_law 905 = .ok (.iload 5, 2) := by decide +kernel
theorem dL_law_907 : decode cL_law 907 = .ok (.ifCond .ne 22, 3) := by decide +kernel
theorem dL_law_910 : decode cL_law 910 = .ok (.aload_n 3, 1) := by decide +kernel
theorem dL_law_911 : decode cL_law 911 = .ok (.iconst 0, 1) := by decide +kernel
theorem dL_law_912 : decode cL_law 912 = .ok (.laload, 1) := by decide +kernel
theorem dL_law_913 : decode cL_law 913 = .ok (.iload 6, 2) := by decide +kernel
theorem dL_law_915 : decode cL_law 915 = .ok (.ifCond .eq 7, 3) := by decide +kernel
theorem dL_law_918 : decode cL_law 918 = .ok (.lconst 1, 1) := by decide +kernel
theorem dL_law_919 : decode cL_law 919 = .ok (.goto 4, 3) := by decide +kernel
theorem dL_law_922 : decode cL_law 922 = .ok (.lconst 0, 1) := by decide +kernel
theorem dL_law_923 : decode cL_law 923 = .ok (.lcmp, 1) := by decide +kernel
theorem dL_law_924 : decode cL_law 924 = .ok (.ifCond .eq 5, 3) := by decide +kernel
theorem dL_law_927 : decode cL_law 927 = .ok (.iconst 0, 1) := by decide +kernel
theorem dL_law_928 : decode cL_law 928 = .ok (.ireturn, 1) := by decide +kernel
theorem dL_law_929 : decode cL_law 929 = .ok (.goto 479, 3) := by decide +kernel
theorem dL_law_932 : decode cL_law 932 = .ok (.aload_n 1, 1) := by decide +kernel
theorem dL_law_933 : decode cL_law 933 = .ok (.aload_n 0, 1) := by decide +kernel
theorem dL_law_934 : decode cL_law 934 = .ok (.iload 4, 2) := by decide +kernel
theorem dL_law_936 : decode cL_law 936 = .ok (.iconst 1, 1) := by decide +kernel
theorem dL_law_937 : decode cL_law 937 = .ok (.iadd, 1) := by decide +kernel
theorem dL_law_938 : decode cL_law 938 = .ok (.iaload, 1) := by decide +kernel
theorem dL_law_939 : decode cL_law 939 = .ok (.aload_n 0, 1) := by decide +kernel
theorem dL_law_940 : decode cL_law 940 = .ok (.iload 4, 2) := by decide +kernel
theorem dL_law_942 : decode cL_law 942 = .ok (.iconst 2, 1) := by decide +kernel
theorem dL_law_943 : decode cL_law 943 = .ok (.iadd, 1) := by decide +kernel
theorem dL_law_944 : decode cL_law 944 = .ok (.iaload, 1) := by decide +kernel
theorem dL_law_945 : decode cL_law 945 = .ok (.aload_n 3, 1) := by decide +kernel
theorem dL_law_946 : decode cL_law 946 = .ok (.invokestatic 149, 3) := by decide +kernel
theorem dL_law_949 : decode cL_law 949 = .ok (.istore 5, 2) := by decide +kernel
theorem dL_law_951 : decode cL_law 951 = .ok (.aload_n 2, 1) := by decide +kernel
theorem dL_law_952 : decode cL_law 952 = .ok (.aload_n 0, 1) := by decide +kernel
theorem dL_law_953 : decode cL_law 953 = .ok (.iload 4, 2) := by decide +kernel
theorem dL_law_955 : decode cL_law 955 = .ok (.iconst 1, 1) := by decide +kernel
theorem dL_law_956 : decode cL_law 956 = .ok (.iadd, 1) := by decide +kernel
theorem dL_law_957 : decode cL_law 957 = .ok (.iaload, 1) := by decide +kernel
theorem dL_law_958 : decode cL_law 958 = .ok (.aload_n 0, 1) := by decide +kernel
theorem dL_law_959 : decode cL_law 959 = .ok (.iload 4, 2) := by decide +kernel
theorem dL_law_961 : decode cL_law 961 = .ok (.iconst 2, 1) := by decide +kernel
theorem dL_law_962 : decode cL_law 962 = .ok (.iadd, 1) := by decide +kernel
theorem dL_law_963 : decode cL_law 963 = .ok (.iaload, 1) := by decide +kernel
theorem dL_law_964 : decode cL_law 964 = .ok (.invokevirtual 151, 3) := by decide +kernel
theorem dL_law_967 : decode cL_law 967 = .ok (.istore 6, 2) := by decide +kernel
theorem dL_law_969 : decode cL_law 969 = .ok (.aload_n 2, 1) := by decide +kernel
theorem dL_law_970 : decode cL_law 970 = .ok (.invokevirtual 90, 3) := by decide +kernel
theorem dL_law_973 : decode cL_law 973 = .ok (.iload 5, 2) := by decide +kernel
theorem dL_law_975 : decode cL_law 975 = .ok (.if_icmp .eq 5, 3) := by decide +kernel
theorem dL_law_978 : decode cL_law 978 = .ok (.iconst 0, 1) := by decide +kernel
theorem dL_law_979 : decode cL_law 979 = .ok (.ireturn, 1) := by decide +kernel
theorem dL_law_980 : decode cL_law 980 = .ok (.iload 5, 2) := by decide +kernel
theorem dL_law_982 : decode cL_law 982 = .ok (.ifCond .ne 15, 3) := by decide +kernel
theorem dL_law_985 : decode cL_law 985 = .ok (.aload_n 3, 1) := by decide +kernel
theorem dL_law_986 : decode cL_law 986 = .ok (.iconst 0, 1) := by decide +kernel
theorem dL_law_987 : decode cL_law 987 = .ok (.laload, 1) := by decide +kernel
theorem dL_law_988 : decode cL_law 988 = .ok (.iload 6, 2) := by decide +kernel
theorem dL_law_990 : decode cL_law 990 = .ok (.i2l, 1) := by decide +kernel
theorem dL_law_991 : decode cL_law 991 = .ok (.lcmp, 1) := by decide +kernel
theorem dL_law_992 : decode cL_law 992 = .ok (.ifCond .eq 5, 3) := by decide +kernel
theorem dL_law_995 : decode cL_law 995 = .ok (.iconst 0, 1) := by decide +kernel
theorem dL_law_996 : decode cL_law 996 = .ok (.ireturn, 1) := by decide +kernel
theorem dL_law_997 : decode cL_law 997 = .ok (.goto 411, 3) := by decide +kernel
theorem dL_law_1000 : decode cL_law 1000 = .ok (.aload_n 1, 1) := by decide +kernel
theorem dL_law_1001 : decode cL_law 1001 = .ok (.aload_n 0, 1) := by decide +kernel
theorem dL_law_1002 : decode cL_law 1002 = .ok (.iload 4, 2) := by decide +kernel
theorem dL_law_1004 : decode cL_law 1004 = .ok (.iconst 1, 1) := by decide +kernel
theorem dL_law_1005 : decode cL_law 1005 = .ok (.iadd, 1) := by decide +kernel
theorem dL_law_1006 : decode cL_law 1006 = .ok (.iaload, 1) := by decide +kernel
theorem dL_law_1007 : decode cL_law 1007 = .ok (.aload_n 3, 1) := by decide +kernel
theorem dL_law_1008 : decode cL_law 1008 = .ok (.invokestatic 152, 3) := by decide +kernel
theorem dL_law_1011 : decode cL_law 1011 = .ok (.istore 5, 2) := by decide +kernel
theorem dL_law_1013 : decode cL_law 1013 = .ok (.aload_n 2, 1) := by decide +kernel
theorem dL_law_1014 : decode cL_law 1014 = .ok (.aload_n 0, 1) := by decide +kernel
theorem dL_law_1015 : decode cL_law 1015 = .ok (.iload 4, 2) := by decide +kernel
theorem dL_law_1017 : decode cL_law 1017 = .ok (.iconst 1, 1) := by decide +kernel
theorem dL_law_1018 : decode cL_law 1018 = .ok (.iadd, 1) := by decide +kernel
theorem dL_law_1019 : decode cL_law 1019 = .ok (.iaload, 1) := by decide +kernel
theorem dL_law_1020 : decode cL_law 1020 = .ok (.invokevirtual 154, 3) := by decide +kernel
theorem dL_law_1023 : decode cL_law 1023 = .ok (.istore 6, 2) := by decide +kernel
theorem dL_law_1025 : decode cL_law 1025 = .ok (.aload_n 2, 1) := by decide +kernel
theorem dL_law_1026 : decode cL_law 1026 = .ok (.invokevirtual 90, 3) := by decide +kernel
theorem dL_law_1029 : decode cL_law 1029 = .ok (.iload 5, 2) := by decide +kernel
theorem dL_law_1031 : decode cL_law 1031 = .ok (.if_icmp .eq 5, 3) := by decide +kernel
theorem dL_law_1034 : decode cL_law 1034 = .ok (.iconst 0, 1) := by decide +kernel
theorem dL_law_1035 : decode cL_law 1035 = .ok (.ireturn, 1) := by decide +kernel
theorem dL_law_1036 : decode cL_law 1036 = .ok (.iload 5, 2) := by decide +kernel
theorem dL_law_1038 : decode cL_law 1038 = .ok (.ifCond .ne 15, 3) := by decide +kernel
theorem dL_law_1041 : decode cL_law 1041 = .ok (.aload_n 3, 1) := by decide +kernel
theorem dL_law_1042 : decode cL_law 1042 = .ok (.iconst 0, 1) := by decide +kernel
theorem dL_law_1043 : decode cL_law 1043 = .ok (.laload, 1) := by decide +kernel
theorem dL_law_1044 : decode cL_law 1044 = .ok (.iload 6, 2) := by decide +kernel
theorem dL_law_1046 : decode cL_law 1046 = .ok (.i2l, 1) := by decide +kernel
theorem dL_law_1047 : decode cL_law 1047 = .ok (.lcmp, 1) := by decide +kernel
theorem dL_law_1048 : decode cL_law 1048 = .ok (.ifCond .eq 5, 3) := by decide +kernel
theorem dL_law_1051 : decode cL_law 1051 = .ok (.iconst 0, 1) := by decide +kernel
theorem dL_law_1052 : decode cL_law 1052 = .ok (.ireturn, 1) := by decide +kernel
theorem dL_law_1053 : decode cL_law 1053 = .ok (.goto 355, 3) := by decide +kernel
theorem dL_law_1056 : decode cL_law 1056 = .ok (.aload_n 1, 1) := by decide +kernel
theorem dL_law_1057 : decode cL_law 1057 = .ok (.aload_n 0, 1) := by decide +kernel
theorem dL_law_1058 : decode cL_law 1058 = .ok (.iload 4, 2) := by decide +kernel
theorem dL_law_1060 : decode cL_law 1060 = .ok (.iconst 1, 1) := by decide +kernel
theorem dL_law_1061 : decode cL_law 1061 = .ok (.iadd, 1) := by decide +kernel
theorem dL_law_1062 : decode cL_law 1062 = .ok (.iaload, 1) := by decide +kernel
theorem dL_law_1063 : decode cL_law 1063 = .ok (.aload_n 3, 1) := by decide +kernel
theorem dL_law_1064 : decode cL_law 1064 = .ok (.invokestatic 155, 3) := by decide +kernel
theorem dL_law_1067 : decode cL_law 1067 = .ok (.istore 5, 2) := by decide +kernel
theorem dL_law_1069 : decode cL_law 1069 = .ok (.aload_n 2, 1) := by decide +kernel
theorem dL_law_1070 : decode cL_law 1070 = .ok (.aload_n 0, 1) := by decide +kernel
theorem dL_law_1071 : decode cL_law 1071 = .ok (.iload 4, 2) := by decide +kernel
theorem dL_law_1073 : decode cL_law 1073 = .ok (.iconst 1, 1) := by decide +kernel
theorem dL_law_1074 : decode cL_law 1074 = .ok (.iadd, 1) := by decide +kernel
theorem dL_law_1075 : decode cL_law 1075 = .ok (.iaload, 1) := by decide +kernel
theorem dL_law_1076 : decode cL_law 1076 = .ok (.invokevirtual 157, 3) := by decide +kernel
theorem dL_law_1079 : decode cL_law 1079 = .ok (.istore 6, 2) := by decide +kernel
theorem dL_law_1081 : decode cL_law 1081 = .ok (.aload_n 2, 1) := by decide +kernel
theorem dL_law_1082 : decode cL_law 1082 = .ok (.invokevirtual 90, 3) := by decide +kernel
theorem dL_law_1085 : decode cL_law 1085 = .ok (.iload 5, 2) := by decide +kernel
theorem dL_law_1087 : decode cL_law 1087 = .ok (.if_icmp .eq 5, 3) := by decide +kernel
theorem dL_law_1090 : decode cL_law 1090 = .ok (.iconst 0, 1) := by decide +kernel
theorem dL_law_1091 : decode cL_law 1091 = .ok (.ireturn, 1) := by decide +kernel
theorem dL_law_1092 : decode cL_law 1092 = .ok (.iload 5, 2) := by decide +kernel
theorem dL_law_1094 : decode cL_law 1094 = .ok (.ifCond .ne 15, 3) := by decide +kernel
theorem dL_law_1097 : decode cL_law 1097 = .ok (.aload_n 3, 1) := by decide +kernel
theorem dL_law_1098 : decode cL_law 1098 = .ok (.iconst 0, 1) := by decide +kernel
theorem dL_law_1099 : decode cL_law 1099 = .ok (.laload, 1) := by decide +kernel
theorem dL_law_1100 : decode cL_law 1100 = .ok (.iload 6, 2) := by decide +kernel
theorem dL_law_1102 : decode cL_law 1102 = .ok (.i2l, 1) := by decide +kernel
theorem dL_law_1103 : decode cL_law 1103 = .ok (.lcmp, 1) := by decide +kernel
theorem dL_law_1104 : decode cL_law 1104 = .ok (.ifCond .eq 5, 3) := by decide +kernel
theorem dL_law_1107 : decode cL_law 1107 = .ok (.iconst 0, 1) := by decide +kernel
theorem dL_law_1108 : decode cL_law 1108 = .ok (.ireturn, 1) := by decide +kernel
theorem dL_law_1109 : decode cL_law 1109 = .ok (.goto 299, 3) := by decide +kernel
theorem dL_law_1112 : decode cL_law 1112 = .ok (.aload_n 1, 1) := by decide +kernel
theorem dL_law_1113 : decode cL_law 1113 = .ok (.aload_n 0, 1) := by decide +kernel
theorem dL_law_1114 : decode cL_law 1114 = .ok (.iload 4, 2) := by decide +kernel
theorem dL_law_1116 : decode cL_law 1116 = .ok (.iconst 1, 1) := by decide +kernel
theorem dL_law_1117 : decode cL_law 1117 = .ok (.iadd, 1) := by decide +kernel
theorem dL_law_1118 : decode cL_law 1118 = .ok (.iaload, 1) := by decide +kernel
theorem dL_law_1119 : decode cL_law 1119 = .ok (.aload_n 3, 1) := by decide +kernel
theorem dL_law_1120 : decode cL_law 1120 = .ok (.invokestatic 158, 3) := by decide +kernel
theorem dL_law_1123 : decode cL_law 1123 = .ok (.istore 5, 2) := by decide +kernel
theorem dL_law_1125 : decode cL_law 1125 = .ok (.aload_n 2, 1) := by decide +kernel
theorem dL_law_1126 : decode cL_law 1126 = .ok (.aload_n 0, 1) := by decide +kernel
theorem dL_law_1127 : decode cL_law 1127 = .ok (.iload 4, 2) := by decide +kernel
theorem dL_law_1129 : decode cL_law 1129 = .ok (.iconst 1, 1) := by decide +kernel
theorem dL_law_1130 : decode cL_law 1130 = .ok (.iadd, 1) := by decide +kernel
theorem dL_law_1131 : decode cL_law 1131 = .ok (.iaload, 1) := by decide +kernel
theorem dL_law_1132 : decode cL_law 1132 = .ok (.invokevirtual 160, 3) := by decide +kernel
theorem dL_law_1135 : decode cL_law 1135 = .ok (.istore 6, 2) := by decide +kernel
theorem dL_law_1137 : decode cL_law 1137 = .ok (.aload_n 2, 1) := by decide +kernel
theorem dL_law_1138 : decode cL_law 1138 = .ok (.invokevirtual 90, 3) := by decide +kernel
theorem dL_law_1141 : decode cL_law 1141 = .ok (.iload 5, 2) := by decide +kernel
theorem dL_law_1143 : decode cL_law 1143 = .ok (.if_icmp .eq 5, 3) := by decide +kernel
theorem dL_law_1146 : decode cL_law 1146 = .ok (.iconst 0, 1) := by decide +kernel
theorem dL_law_1147 : decode cL_law 1147 = .ok (.ireturn, 1) := by decide +kernel
theorem dL_law_1148 : decode cL_law 1148 = .ok (.iload 5, 2) := by decide +kernel
theorem dL_law_1150 : decode cL_law 1150 = .ok (.ifCond .ne 15, 3) := by decide +kernel
theorem dL_law_1153 : decode cL_law 1153 = .ok (.aload_n 3, 1) := by decide +kernel
theorem dL_law_1154 : decode cL_law 1154 = .ok (.iconst 0, 1) := by decide +kernel
theorem dL_law_1155 : decode cL_law 1155 = .ok (.laload, 1) := by decide +kernel
theorem dL_law_1156 : decode cL_law 1156 = .ok (.iload 6, 2) := by decide +kernel
theorem dL_law_1158 : decode cL_law 1158 = .ok (.i2l, 1) := by decide +kernel
theorem dL_law_1159 : decode cL_law 1159 = .ok (.lcmp, 1) := by decide +kernel
theorem dL_law_1160 : decode cL_law 1160 = .ok (.ifCond .eq 5, 3) := by decide +kernel
theorem dL_law_1163 : decode cL_law 1163 = .ok (.iconst 0, 1) := by decide +kernel
theorem dL_law_1164 : decode cL_law 1164 = .ok (.ireturn, 1) := by decide +kernel
theorem dL_law_1165 : decode cL_law 1165 = .ok (.goto 243, 3) := by decide +kernel
theorem dL_law_1168 : decode cL_law 1168 = .ok (.aload_n 1, 1) := by decide +kernel
theorem dL_law_1169 : decode cL_law 1169 = .ok (.aload_n 0, 1) := by decide +kernel
theorem dL_law_1170 : decode cL_law 1170 = .ok (.iload 4, 2) := by decide +kernel
theorem dL_law_1172 : decode cL_law 1172 = .ok (.iconst 1, 1) := by decide +kernel
theorem dL_law_1173 : decode cL_law 1173 = .ok (.iadd, 1) := by decide +kernel
theorem dL_law_1174 : decode cL_law 1174 = .ok (.iaload, 1) := by decide +kernel
theorem dL_law_1175 : decode cL_law 1175 = .ok (.aload_n 0, 1) := by decide +kernel
theorem dL_law_1176 : decode cL_law 1176 = .ok (.iload 4, 2) := by decide +kernel
theorem dL_law_1178 : decode cL_law 1178 = .ok (.iconst 2, 1) := by decide +kernel
theorem dL_law_1179 : decode cL_law 1179 = .ok (.iadd, 1) := by decide +kernel
theorem dL_law_1180 : decode cL_law 1180 = .ok (.iaload, 1) := by decide +kernel
theorem dL_law_1181 : decode cL_law 1181 = .ok (.aload_n 3, 1) := by decide +kernel
theorem dL_law_1182 : decode cL_law 1182 = .ok (.invokestatic 161, 3) := by decide +kernel
theorem dL_law_1185 : decode cL_law 1185 = .ok (.istore 5, 2) := by decide +kernel
theorem dL_law_1187 : decode cL_law 1187 = .ok (.aload_n 2, 1) := by decide +kernel
theorem dL_law_1188 : decode cL_law 1188 = .ok (.aload_n 0, 1) := by decide +kernel
theorem dL_law_1189 : decode cL_law 1189 = .ok (.iload 4, 2) := by decide +kernel
theorem dL_law_1191 : decode cL_law 1191 = .ok (.iconst 1, 1) := by decide +kernel
theorem dL_law_1192 : decode cL_law 1192 = .ok (.iadd, 1) := by decide +kernel
theorem dL_law_1193 : decode cL_law 1193 = .ok (.iaload, 1) := by decide +kernel
theorem dL_law_1194 : decode cL_law 1194 = .ok (.aload_n 0, 1) := by decide +kernel
theorem dL_law_1195 : decode cL_law 1195 = .ok (.iload 4, 2) := by decide +kernel
theorem dL_law_1197 : decode cL_law 1197 = .ok (.iconst 2, 1) := by decide +kernel
theorem dL_law_1198 : decode cL_law 1198 = .ok (.iadd, 1) := by decide +kernel
theorem dL_law_1199 : decode cL_law 1199 = .ok (.iaload, 1) := by decide +kernel
theorem dL_law_1200 : decode cL_law 1200 = .ok (.invokevirtual 163, 3) := by decide +kernel
theorem dL_law_1203 : decode cL_law 1203 = .ok (.istore 6, 2) := by decide +kernel
theorem dL_law_1205 : decode cL_law 1205 = .ok (.aload_n 2, 1) := by decide +kernel
theorem dL_law_1206 : decode cL_law 1206 = .ok (.invokevirtual 90, 3) := by decide +kernel
theorem dL_law_1209 : decode cL_law 1209 = .ok (.iload 5, 2) := by decide +kernel
theorem dL_law_1211 : decode cL_law 1211 = .ok (.if_icmp .eq 5, 3) := by decide +kernel
theorem dL_law_1214 : decode cL_law 1214 = .ok (.iconst 0, 1) := by decide +kernel
theorem dL_law_1215 : decode cL_law 1215 = .ok (.ireturn, 1) := by decide +kernel
theorem dL_law_1216 : decode cL_law 1216 = .ok (.iload 5, 2) := by decide +kernel
theorem dL_law_1218 : decode cL_law 1218 = .ok (.ifCond .ne 15, 3) := by decide +kernel
theorem dL_law_1221 : decode cL_law 1221 = .ok (.aload_n 3, 1) := by decide +kernel
theorem dL_law_1222 : decode cL_law 1222 = .ok (.iconst 0, 1) := by decide +kernel
theorem dL_law_1223 : decode cL_law 1223 = .ok (.laload, 1) := by decide +kernel
theorem dL_law_1224 : decode cL_law 1224 = .ok (.iload 6, 2) := by decide +kernel
theorem dL_law_1226 : decode cL_law 1226 = .ok (.i2l, 1) := by decide +kernel
theorem dL_law_1227 : decode cL_law 1227 = .ok (.lcmp, 1) := by decide +kernel
theorem dL_law_1228 : decode cL_law 1228 = .ok (.ifCond .eq 5, 3) := by decide +kernel
theorem dL_law_1231 : decode cL_law 1231 = .ok (.iconst 0, 1) := by decide +kernel
theorem dL_law_1232 : decode cL_law 1232 = .ok (.ireturn, 1) := by decide +kernel
theorem dL_law_1233 : decode cL_law 1233 = .ok (.goto 175, 3) := by decide +kernel
theorem dL_law_1236 : decode cL_law 1236 = .ok (.aload_n 1, 1) := by decide +kernel
theorem dL_law_1237 : decode cL_law 1237 = .ok (.aload_n 0, 1) := by decide +kernel
theorem dL_law_1238 : decode cL_law 1238 = .ok (.iload 4, 2) := by decide +kernel
theorem dL_law_1240 : decode cL_law 1240 = .ok (.iconst 1, 1) := by decide +kernel
theorem dL_law_1241 : decode cL_law 1241 = .ok (.iadd, 1) := by decide +kernel
theorem dL_law_1242 : decode cL_law 1242 = .ok (.iaload, 1) := by decide +kernel
theorem dL_law_1243 : decode cL_law 1243 = .ok (.aload_n 3, 1) := by decide +kernel
theorem dL_law_1244 : decode cL_law 1244 = .ok (.invokestatic 164, 3) := by decide +kernel
theorem dL_law_1247 : decode cL_law 1247 = .ok (.istore 5, 2) := by decide +kernel
theorem dL_law_1249 : decode cL_law 1249 = .ok (.aload_n 2, 1) := by decide +kernel
theorem dL_law_1250 : decode cL_law 1250 = .ok (.aload_n 0, 1) := by decide +kernel
theorem dL_law_1251 : decode cL_law 1251 = .ok (.iload 4, 2) := by decide +kernel
theorem dL_law_1253 : decode cL_law 1253 = .ok (.iconst 1, 1) := by decide +kernel
theorem dL_law_1254 : decode cL_law 1254 = .ok (.iadd, 1) := by decide +kernel
theorem dL_law_1255 : decode cL_law 1255 = .ok (.iaload, 1) := by decide +kernel
theorem dL_law_1256 : decode cL_law 1256 = .ok (.invokevirtual 166, 3) := by decide +kernel
theorem dL_law_1259 : decode cL_law 1259 = .ok (.istore 6, 2) := by decide +kernel
theorem dL_law_1261 : decode cL_law 1261 = .ok (.aload_n 2, 1) := by decide +kernel
theorem dL_law_1262 : decode cL_law 1262 = .ok (.invokevirtual 90, 3) := by decide +kernel
theorem dL_law_1265 : decode cL_law 1265 = .ok (.iload 5, 2) := by decide +kernel
theorem dL_law_1267 : decode cL_law 1267 = .ok (.if_icmp .eq 5, 3) := by decide +kernel
theorem dL_law_1270 : decode cL_law 1270 = .ok (.iconst 0, 1) := by decide +kernel
theorem dL_law_1271 : decode cL_law 1271 = .ok (.ireturn, 1) := by decide +kernel
theorem dL_law_1272 : decode cL_law 1272 = .ok (.iload 5, 2) := by decide +kernel
theorem dL_law_1274 : decode cL_law 1274 = .ok (.ifCond .ne 15, 3) := by decide +kernel
theorem dL_law_1277 : decode cL_law 1277 = .ok (.aload_n 3, 1) := by decide +kernel
theorem dL_law_1278 : decode cL_law 1278 = .ok (.iconst 0, 1) := by decide +kernel
theorem dL_law_1279 : decode cL_law 1279 = .ok (.laload, 1) := by decide +kernel
theorem dL_law_1280 : decode cL_law 1280 = .ok (.iload 6, 2) := by decide +kernel
theorem dL_law_1282 : decode cL_law 1282 = .ok (.i2l, 1) := by decide +kernel
theorem dL_law_1283 : decode cL_law 1283 = .ok (.lcmp, 1) := by decide +kernel
theorem dL_law_1284 : decode cL_law 1284 = .ok (.ifCond .eq 5, 3) := by decide +kernel
theorem dL_law_1287 : decode cL_law 1287 = .ok (.iconst 0, 1) := by decide +kernel
theorem dL_law_1288 : decode cL_law 1288 = .ok (.ireturn, 1) := by decide +kernel
theorem dL_law_1289 : decode cL_law 1289 = .ok (.goto 119, 3) := by decide +kernel
theorem dL_law_1292 : decode cL_law 1292 = .ok (.aload_n 1, 1) := by decide +kernel
theorem dL_law_1293 : decode cL_law 1293 = .ok (.aload_n 0, 1) := by decide +kernel
theorem dL_law_1294 : decode cL_law 1294 = .ok (.iload 4, 2) := by decide +kernel
theorem dL_law_1296 : decode cL_law 1296 = .ok (.iconst 1, 1) := by decide +kernel
theorem dL_law_1297 : decode cL_law 1297 = .ok (.iadd, 1) := by decide +kernel
theorem dL_law_1298 : decode cL_law 1298 = .ok (.iaload, 1) := by decide +kernel
theorem dL_law_1299 : decode cL_law 1299 = .ok (.aload_n 0, 1) := by decide +kernel
theorem dL_law_1300 : decode cL_law 1300 = .ok (.iload 4, 2) := by decide +kernel
theorem dL_law_1302 : decode cL_law 1302 = .ok (.iconst 2, 1) := by decide +kernel
theorem dL_law_1303 : decode cL_law 1303 = .ok (.iadd, 1) := by decide +kernel
theorem dL_law_1304 : decode cL_law 1304 = .ok (.iaload, 1) := by decide +kernel
theorem dL_law_1305 : decode cL_law 1305 = .ok (.invokestatic 167, 3) := by decide +kernel
theorem dL_law_1308 : decode cL_law 1308 = .ok (.istore 5, 2) := by decide +kernel
theorem dL_law_1310 : decode cL_law 1310 = .ok (.aload_n 2, 1) := by decide +kernel
theorem dL_law_1311 : decode cL_law 1311 = .ok (.aload_n 0, 1) := by decide +kernel
theorem dL_law_1312 : decode cL_law 1312 = .ok (.iload 4, 2) := by decide +kernel
theorem dL_law_1314 : decode cL_law 1314 = .ok (.iconst 1, 1) := by decide +kernel
theorem dL_law_1315 : decode cL_law 1315 = .ok (.iadd, 1) := by decide +kernel
theorem dL_law_1316 : decode cL_law 1316 = .ok (.iaload, 1) := by decide +kernel
theorem dL_law_1317 : decode cL_law 1317 = .ok (.aload_n 0, 1) := by decide +kernel
theorem dL_law_1318 : decode cL_law 1318 = .ok (.iload 4, 2) := by decide +kernel
theorem dL_law_1320 : decode cL_law 1320 = .ok (.iconst 2, 1) := by decide +kernel
theorem dL_law_1321 : decode cL_law 1321 = .ok (.iadd, 1) := by decide +kernel
theorem dL_law_1322 : decode cL_law 1322 = .ok (.iaload, 1) := by decide +kernel
theorem dL_law_1323 : decode cL_law 1323 = .ok (.invokevirtual 170, 3) := by decide +kernel
theorem dL_law_1326 : decode cL_law 1326 = .ok (.aload_n 2, 1) := by decide +kernel
theorem dL_law_1327 : decode cL_law 1327 = .ok (.invokevirtual 90, 3) := by decide +kernel
theorem dL_law_1330 : decode cL_law 1330 = .ok (.iload 5, 2) := by decide +kernel
theorem dL_law_1332 : decode cL_law 1332 = .ok (.if_icmp .eq 5, 3) := by decide +kernel
theorem dL_law_1335 : decode cL_law 1335 = .ok (.iconst 0, 1) := by decide +kernel
theorem dL_law_1336 : decode cL_law 1336 = .ok (.ireturn, 1) := by decide +kernel
theorem dL_law_1337 : decode cL_law 1337 = .ok (.goto 71, 3) := by decide +kernel
theorem dL_law_1340 : decode cL_law 1340 = .ok (.aload_n 1, 1) := by decide +kernel
theorem dL_law_1341 : decode cL_law 1341 = .ok (.aload_n 0, 1) := by decide +kernel
theorem dL_law_1342 : decode cL_law 1342 = .ok (.iload 4, 2) := by decide +kernel
theorem dL_law_1344 : decode cL_law 1344 = .ok (.iconst 1, 1) := by decide +kernel
theorem dL_law_1345 : decode cL_law 1345 = .ok (.iadd, 1) := by decide +kernel
theorem dL_law_1346 : decode cL_law 1346 = .ok (.iaload, 1) := by decide +kernel
theorem dL_law_1347 : decode cL_law 1347 = .ok (.aload_n 0, 1) := by decide +kernel
theorem dL_law_1348 : decode cL_law 1348 = .ok (.iload 4, 2) := by decide +kernel
theorem dL_law_1350 : decode cL_law 1350 = .ok (.iconst 2, 1) := by decide +kernel
theorem dL_law_1351 : decode cL_law 1351 = .ok (.iadd, 1) := by decide +kernel
theorem dL_law_1352 : decode cL_law 1352 = .ok (.iaload, 1) := by decide +kernel
theorem dL_law_1353 : decode cL_law 1353 = .ok (.aload_n 3, 1) := by decide +kernel
theorem dL_law_1354 : decode cL_law 1354 = .ok (.invokestatic 171, 3) := by decide +kernel
theorem dL_law_1357 : decode cL_law 1357 = .ok (.istore 5, 2) := by decide +kernel
theorem dL_law_1359 : decode cL_law 1359 = .ok (.aload_n 2, 1) := by decide +kernel
theorem dL_law_1360 : decode cL_law 1360 = .ok (.aload_n 0, 1) := by decide +kernel
theorem dL_law_1361 : decode cL_law 1361 = .ok (.iload 4, 2) := by decide +kernel
theorem dL_law_1363 : decode cL_law 1363 = .ok (.iconst 1, 1) := by decide +kernel
theorem dL_law_1364 : decode cL_law 1364 = .ok (.iadd, 1) := by decide +kernel
theorem dL_law_1365 : decode cL_law 1365 = .ok (.iaload, 1) := by decide +kernel
theorem dL_law_1366 : decode cL_law 1366 = .ok (.aload_n 0, 1) := by decide +kernel
theorem dL_law_1367 : decode cL_law 1367 = .ok (.iload 4, 2) := by decide +kernel
theorem dL_law_1369 : decode cL_law 1369 = .ok (.iconst 2, 1) := by decide +kernel
theorem dL_law_1370 : decode cL_law 1370 = .ok (.iadd, 1) := by decide +kernel
theorem dL_law_1371 : decode cL_law 1371 = .ok (.iaload, 1) := by decide +kernel
theorem dL_law_1372 : decode cL_law 1372 = .ok (.invokevirtual 173, 3) := by decide +kernel
theorem dL_law_1375 : decode cL_law 1375 = .ok (.istore 6, 2) := by decide +kernel
theorem dL_law_1377 : decode cL_law 1377 = .ok (.aload_n 2, 1) := by decide +kernel
theorem dL_law_1378 : decode cL_law 1378 = .ok (.invokevirtual 90, 3) := by decide +kernel
theorem dL_law_1381 : decode cL_law 1381 = .ok (.iload 5, 2) := by decide +kernel
theorem dL_law_1383 : decode cL_law 1383 = .ok (.if_icmp .eq 5, 3) := by decide +kernel
theorem dL_law_1386 : decode cL_law 1386 = .ok (.iconst 0, 1) := by decide +kernel
theorem dL_law_1387 : decode cL_law 1387 = .ok (.ireturn, 1) := by decide +kernel
theorem dL_law_1388 : decode cL_law 1388 = .ok (.iload 5, 2) := by decide +kernel
theorem dL_law_1390 : decode cL_law 1390 = .ok (.ifCond .ne 15, 3) := by decide +kernel
theorem dL_law_1393 : decode cL_law 1393 = .ok (.aload_n 3, 1) := by decide +kernel
theorem dL_law_1394 : decode cL_law 1394 = .ok (.iconst 0, 1) := by decide +kernel
theorem dL_law_1395 : decode cL_law 1395 = .ok (.laload, 1) := by decide +kernel
theorem dL_law_1396 : decode cL_law 1396 = .ok (.iload 6, 2) := by decide +kernel
theorem dL_law_1398 : decode cL_law 1398 = .ok (.i2l, 1) := by decide +kernel
theorem dL_law_1399 : decode cL_law 1399 = .ok (.lcmp, 1) := by decide +kernel
theorem dL_law_1400 : decode cL_law 1400 = .ok (.ifCond .eq 5, 3) := by decide +kernel
theorem dL_law_1403 : decode cL_law 1403 = .ok (.iconst 0, 1) := by decide +kernel
theorem dL_law_1404 : decode cL_law 1404 = .ok (.ireturn, 1) := by decide +kernel
theorem dL_law_1405 : decode cL_law 1405 = .ok (.goto 3, 3) := by decide +kernel
theorem dL_law_1408 : decode cL_law 1408 = .ok (.iinc 4 3, 3) := by decide +kernel
theorem dL_law_1411 : decode cL_law 1411 = .ok (.goto (-1388), 3) := by decide +kernel
theorem dL_law_1414 : decode cL_law 1414 = .ok (.iconst 1, 1) := by decide +kernel
theorem dL_law_1415 : decode cL_law 1415 = .ok (.ireturn, 1) := by decide +kernel
end
section
/-! ===== BEGIN a constructor that throws (launches without stack traces) ===== -/
section VXIA
variable {p : Program} {l : Launch} {e : Env} {R : Room} {s : State} {m : MethodId} {args : Array Value} {below : List Frame} {meth : Method} {c : Code} {T : State} {locs : List Loc} {cells slots : Nat}
theorem vx_callI (X : Stand p l e R s m args below meth c T locs cells slots) (hexec : p.tables.exec = Jvm.exec) {own : String} {index : Nat} {y : MethodName} {bytes : ByteArray} {maxL : Nat}
    (hown : s.vm.findClass own = some m.cls) (hy1 : y.name = "<init>") (hlink : (Cond.methodLink own index y).before args s = true) (hinst : (Cond.instanceMethod y).before args s = true)
    (hcode : (Cond.code y bytes maxL none).before args s = true) (hy : y.cls ≠ "java/lang/invoke/MethodHandle" ∧ y.cls ≠ "java/lang/invoke/VarHandle")
    {W9 : Nat} {Pre : Pt → Array Value → Prop} {Post : Pt → Array Value → Option Value → Pt → Prop} {PostX : Pt → Array Value → Addr → Pt → Prop} (hK : vx_Back l R p e below s args y 3 W9 Pre Post PostX)
    {g : JFrame} (hg : g.method = m) (hsize : g.locals.size = c.maxLocals) {a : Addr} {argsL rest : List Value} (hlen : ∀ sig, parseMethodDescriptor y.desc = some sig → argsL.length = sig.parameters.length)
    (hstack : g.stack = argsL.reverse ++ .ref a :: rest) (hW : 2 * g.monitorRoom + (rest.map fun v => v.category).sum ≤ W9) (hdg : decode c.code g.pc = .ok (.invokespecial index, 3))
    (hpre : ∀ vm₁, s.WarmedH vm₁ → Pre ⟨T.setVm vm₁, locs, cells, slots⟩ (Value.ref a :: argsL).toArray) :
    (∃ (v : Option Value) (vm₁ : Vm) (B : Pt), s.WarmedH vm₁ ∧ Stand p l e R s m args below meth c B.U B.locs B.cells B.slots ∧ Post ⟨T.setVm vm₁, locs, cells, slots⟩ (Value.ref a :: argsL).toArray v B ∧
      ∀ target, Steps p.tables e below (B.U.setTop { g with pc := g.pc + 3, stack := v.toList ++ rest }) target → Steps p.tables e below (T.setTop g) target) ∨
    (∃ (q : Addr) (vm₁ : Vm) (B : Pt), s.WarmedH vm₁ ∧ Stand p l e R s m args below meth c B.U B.locs B.cells B.slots ∧ PostX ⟨T.setVm vm₁, locs, cells, slots⟩ (Value.ref a :: argsL).toArray q B ∧
      Steps p.tables e below (T.setTop g) ((B.U.setTop { g with stack := rest }).pushFrame (.throwing q))) := by
  subst hg
  have hpl : e.platform.magicAccessors = ({} : Platform).magicAccessors := by rw [X.admits.platform]
  obtain ⟨mk, methM, cM, kP, vm₁, hnamed, hmethM, hcodeM, -, hlocalsM, -, hkP, -, hW₁, hstep₁⟩ := Steps.initColdArgs (e := e) X.here hexec X.warmed hpl hown hy1 hy hlink hinst hcode (f := g) rfl hlen hstack hdg
  have X₁ := X.noted hW₁
  rcases hK g.method meth c ⟨T.setVm vm₁, locs, cells, slots⟩ { g with stack := rest } (.invokespecial index) mk (Value.ref a :: argsL).toArray X₁ rfl hsize hdg hW (X₁.named hnamed) (hpre vm₁ X₁.warmed) with ⟨v, B, X', hpost, hsteps⟩ | ⟨q, B, X', hpost, hsteps⟩
  · exact Or.inl ⟨v, vm₁, B, X₁.warmed, X', hpost, fun target h => hstep₁ _ fun acts => by rw [doInvoke_state]; exact hsteps.trans h⟩
  · exact Or.inr ⟨q, vm₁, B, X₁.warmed, X', hpost, hstep₁ _ fun acts => by rw [doInvoke_state]; exact hsteps⟩
end VXIA
section VXIB
variable {p : Program} {l : Launch} {e : Env} {R : Room} {s : State} {m : MethodId} {args : Array Value} {below : List Frame} {meth : Method} {c : Code} {H : Heap} {locs : List Loc} {cells slots : Nat}
variable {y : MethodName} {bytes cc : ByteArray} {maxL nL mc ms n index : Nat} {ret : Option FieldType} {ws : List Cond} {rm : Room} {Pc : Array Value → State → Prop} {Qc : Array Value → State → Outcome → State → Prop} {XC : String → State → State → Prop} {free : Addr → Prop} {Ts : List Cond} {own C : String} {b : Addr} {As rest : List Value} {g : JFrame}
theorem vx_runI (S : CallFix p m c cc nL s args Ts own) (hM : vx_Met l y ws rm Pc Qc XC mc ms free) (cw : CallB R s args own index y bytes maxL none ws rm mc ms n ∧ y.name = "<init>" ∧ (Cond.instanceMethod y).before args s = true) (hp : PreS s H Pc (.ref b :: As))
    (hg : g.method = m) (hn : As.length = n) (hsize : g.locals.size = nL) (hstack : g.stack = As.reverse ++ .ref b :: rest) (hW : 2 * g.monitorRoom + (rest.map fun v => v.category).sum ≤ 8) (hdg : decode cc g.pc = .ok (.invokespecial index, 3)) (hf : cells + mc ≤ R.cells ∧ slots + ms ≤ R.slots) :
    vx_Run p l e R s m args below meth c H locs cells slots mc ms g rest (Qc (Value.ref b :: As).toArray) XC free := by
  have hK : vx_Back l R p e below s args y 3 8 (PreOf R mc ms Pc) (PostOf Qc mc ms free) (vx_Post XC mc ms free) := vx_callBack cw.1 hM hp.1
  obtain ⟨⟨-, -, -, -, -, -, hcode, -, hy, hlen, hl⟩, hy1, hin⟩ := cw
  obtain ⟨hx, hb, hml, ho, -⟩ := S
  have hPc := hp.2
  intro T hT X
  rcases vx_callI X hx (bytes := bytes) (maxL := maxL) ho hy1 hl hin hcode hy hK hg (hsize.trans hml.symm) (a := b) (argsL := As) (rest := rest) (fun sig h => hn.trans (hlen sig h)) hstack hW (by rw [hb]; exact hdg)
    (fun vm₁ hW₁ => ⟨hf.1, hf.2, hPc (T.setVm vm₁) hT hW₁⟩) with ⟨v, vm₁, ⟨U', l2, c2, s2⟩, hW₁, X', ⟨g', mk, t, L, e1, e2, hq, h1, hL, h2, h3⟩, st⟩ | ⟨q, vm₁, ⟨U', l2, c2, s2⟩, hW₁, X', ⟨g', mk, t, L, E, ce, e1, e2, hq, hce, hcv, hcl, h1, hL, h2, h3⟩, st⟩
  · dsimp only [Pt.U, Pt.locs, Pt.cells, Pt.slots] at X' e1 e2 h1 h2 h3 st
    subst h1; subst h2; subst h3
    exact Or.inl ⟨v, (T.setVm vm₁).calling g' mk (Value.ref b :: As).toArray, t, U', L, hT, X', hL, e1, e2, hq, st⟩
  · dsimp only [Pt.U, Pt.locs, Pt.cells, Pt.slots] at X' e1 e2 h1 h2 h3 st hcl
    subst h1; subst h2; subst h3
    exact Or.inr ⟨q, (T.setVm vm₁).calling g' mk (Value.ref b :: As).toArray, t, U', L, E, ce, hT, X', hL, e1, e2, hq, hce, hcv, vx_cls hW₁ hcl, st⟩
end VXIB
/-! ===== END ===== -/
/-! ===== BEGIN a private constructor of a nest mate that throws ===== -/
section VXIC
variable {p : Program} {l : Launch} {e : Env} {R : Room} {s : State} {m : MethodId} {args : Array Value} {below : List Frame} {meth : Method} {c : Code} {T : State} {locs : List Loc} {cells slots : Nat}
theorem vx_callIN (X : Stand p l e R s m args below meth c T locs cells slots) (hexec : p.tables.exec = Jvm.exec) {own : String} {index : Nat} {host : String} {y : MethodName} {bytes : ByteArray} {maxL : Nat}
    (hown : s.vm.findClass own = some m.cls) (hy1 : y.name = "<init>") (hlink : (Cond.methodLinkNest own index y host).before args s = true) (hinst : (Cond.instanceMethod y).before args s = true)
    (hcode : (Cond.code y bytes maxL none).before args s = true) (hy : y.cls ≠ "java/lang/invoke/MethodHandle" ∧ y.cls ≠ "java/lang/invoke/VarHandle")
    {W9 : Nat} {Pre : Pt → Array Value → Prop} {Post : Pt → Array Value → Option Value → Pt → Prop} {PostX : Pt → Array Value → Addr → Pt → Prop} (hK : vx_Back l R p e below s args y 3 W9 Pre Post PostX)
    {g : JFrame} (hg : g.method = m) (hsize : g.locals.size = c.maxLocals) {a : Addr} {argsL rest : List Value} (hlen : ∀ sig, parseMethodDescriptor y.desc = some sig → argsL.length = sig.parameters.length)
    (hstack : g.stack = argsL.reverse ++ .ref a :: rest) (hW : 2 * g.monitorRoom + (rest.map fun v => v.category).sum ≤ W9) (hdg : decode c.code g.pc = .ok (.invokespecial index, 3))
    (hpre : ∀ vm₁, s.WarmedH vm₁ → Pre ⟨T.setVm vm₁, locs, cells, slots⟩ (Value.ref a :: argsL).toArray) :
    (∃ (v : Option Value) (vm₁ : Vm) (B : Pt), s.WarmedH vm₁ ∧ Stand p l e R s m args below meth c B.U B.locs B.cells B.slots ∧ Post ⟨T.setVm vm₁, locs, cells, slots⟩ (Value.ref a :: argsL).toArray v B ∧
      ∀ target, Steps p.tables e below (B.U.setTop { g with pc := g.pc + 3, stack := v.toList ++ rest }) target → Steps p.tables e below (T.setTop g) target) ∨
    (∃ (q : Addr) (vm₁ : Vm) (B : Pt), s.WarmedH vm₁ ∧ Stand p l e R s m args below meth c B.U B.locs B.cells B.slots ∧ PostX ⟨T.setVm vm₁, locs, cells, slots⟩ (Value.ref a :: argsL).toArray q B ∧
      Steps p.tables e below (T.setTop g) ((B.U.setTop { g with stack := rest }).pushFrame (.throwing q))) := by
  subst hg
  have hpl : e.platform.magicAccessors = ({} : Platform).magicAccessors := by rw [X.admits.platform]
  obtain ⟨mk, methM, cM, kP, vm₁, hnamed, hmethM, hcodeM, -, hlocalsM, -, hkP, -, hW₁, hstep₁⟩ := Steps.initColdArgsNest (e := e) X.here hexec X.warmed hpl hown hy1 hy hlink hinst hcode (f := g) rfl hlen hstack hdg
  have X₁ := X.noted hW₁
  rcases hK g.method meth c ⟨T.setVm vm₁, locs, cells, slots⟩ { g with stack := rest } (.invokespecial index) mk (Value.ref a :: argsL).toArray X₁ rfl hsize hdg hW (X₁.named hnamed) (hpre vm₁ X₁.warmed) with ⟨v, B, X', hpost, hsteps⟩ | ⟨q, B, X', hpost, hsteps⟩
  · exact Or.inl ⟨v, vm₁, B, X₁.warmed, X', hpost, fun target h => hstep₁ _ fun acts => by rw [doInvoke_state]; exact hsteps.trans h⟩
  · exact Or.inr ⟨q, vm₁, B, X₁.warmed, X', hpost, hstep₁ _ fun acts => by rw [doInvoke_state]; exact hsteps⟩
end VXIC
section VXID
variable {p : Program} {l : Launch} {e : Env} {R : Room} {s : State} {m : MethodId} {args : Array Value} {below : List Frame} {meth : Method} {c : Code} {H : Heap} {locs : List Loc} {cells slots : Nat}
theorem vx_runIN {y : MethodName} {bytes cc : ByteArray} {maxL nL mc ms n index : Nat} {ws : List Cond} {rm : Room} {Pc : Array Value → State → Prop} {Qc : Array Value → State → Outcome → State → Prop} {XC : String → State → State → Prop} {free : Addr → Prop} {Ts : List Cond} {own host : String} {b : Addr} {As rest : List Value} {g : JFrame}
    (S : CallFix p m c cc nL s args Ts own) (hM : vx_Met l y ws rm Pc Qc XC mc ms free) (cw : va_CN R s args own index y host bytes maxL none ws rm mc ms n ∧ y.name = "<init>" ∧ (Cond.instanceMethod y).before args s = true) (hp : PreS s H Pc (.ref b :: As))
    (hg : g.method = m) (hn : As.length = n) (hsize : g.locals.size = nL) (hstack : g.stack = As.reverse ++ .ref b :: rest) (hW : 2 * g.monitorRoom + (rest.map fun v => v.category).sum ≤ 8) (hdg : decode cc g.pc = .ok (.invokespecial index, 3)) (hf : cells + mc ≤ R.cells ∧ slots + ms ≤ R.slots) :
    vx_Run p l e R s m args below meth c H locs cells slots mc ms g rest (Qc (Value.ref b :: As).toArray) XC free := by
  obtain ⟨⟨⟨hrc, hrs, hfr, hlo, hws, hcw⟩, hcode, hini, hy, hlen, hl⟩, hx1, hx2⟩ := cw
  have hK : vx_Back l R p e below s args y 3 8 (PreOf R mc ms Pc) (PostOf Qc mc ms free) (vx_Post XC mc ms free) := vx_back (bytes := bytes) (maxL := maxL) (ret := none) hM hp.1 hrc hrs hfr hlo hws hcw (fun a' U hW => word_at hW (Or.inl (by first | rfl | simp [Cond.onTables, Cond.keeps, Cond.steady])) hini)
  obtain ⟨hx, hb, hml, ho, -⟩ := S
  have hPc := hp.2
  intro T hT X
  rcases vx_callIN X hx (bytes := bytes) (maxL := maxL) ho hx1 hl hx2 hcode hy hK hg (hsize.trans hml.symm) (a := b) (argsL := As) (rest := rest) (fun sig h => hn.trans (hlen sig h)) hstack hW (by rw [hb]; exact hdg)
    (fun vm₁ hW₁ => ⟨hf.1, hf.2, hPc (T.setVm vm₁) hT hW₁⟩) with ⟨v, vm₁, ⟨U', l2, c2, s2⟩, hW₁, X', ⟨g', mk, t, L, e1, e2, hq, h1, hL, h2, h3⟩, st⟩ | ⟨q, vm₁, ⟨U', l2, c2, s2⟩, hW₁, X', ⟨g', mk, t, L, E, ce, e1, e2, hq, hce, hcv, hcl, h1, hL, h2, h3⟩, st⟩
  · dsimp only [Pt.U, Pt.locs, Pt.cells, Pt.slots] at X' e1 e2 h1 h2 h3 st
    subst h1; subst h2; subst h3
    exact Or.inl ⟨v, (T.setVm vm₁).calling g' mk (Value.ref b :: As).toArray, t, U', L, hT, X', hL, e1, e2, hq, st⟩
  · dsimp only [Pt.U, Pt.locs, Pt.cells, Pt.slots] at X' e1 e2 h1 h2 h3 st hcl
    subst h1; subst h2; subst h3
    exact Or.inr ⟨q, (T.setVm vm₁).calling g' mk (Value.ref b :: As).toArray, t, U', L, E, ce, hT, X', hL, e1, e2, hq, hce, hcv, vx_cls hW₁ hcl, st⟩
end VXID
/-! ===== END ===== -/
end
section
/-! ===== WORLDS BY CODES: every cell that the two sides hold has a number (its code); ad tells its address, F what it holds ===== -/
abbrev Dx : Type := (Nat → ClassId) × (Nat → Nat → Nat) × (Nat → ClassId)
/-- the kinds of arrays, by their places -/
def tysD (aC : Nat → ClassId) : List (ClassId × FieldType) := [(aC 0, .int), (aC 1, .boolean), (aC 2, .long), (aC 3, .object RX2), (aC 4, .object RX1), (aC 5, .object RX0)]
def Bo (b0 : Nat) : Nat → Prop := fun q => b0 ≤ q
abbrev Fn : Type := Nat → Option va_E
def WD (D : Dx) (b0 : Nat) (ad : Nat → Nat) (F : Fn) (H : Heap) : Prop :=
  (∃ ws : va_W, va_P (D.1, D.2.1) vwCl ws H ∧ va_D (Bo b0) ws ∧ ∀ (c : Nat) (e : va_E), F c = some e → ∃ i : Nat, ws[i]? = some (ad c, e)) ∧
  ∀ c c' : Nat, F c ≠ none → F c' ≠ none → ad c = ad c' → c = c'
theorem up_s {α : Type} {f : Nat → α} {k : Nat} {v : α} : va_up f k v k = v := by simp [va_up]
theorem up_n {α : Type} {f : Nat → α} {k j : Nat} {v : α} (h : j ≠ k) : va_up f k v j = f j := by simp [va_up, h]
/-- a cell's contents change -/
theorem WD.put {D : Dx} {b0 : Nat} {ad : Nat → Nat} {F : Fn} {H1 : Heap} {ws : va_W} {c i : Nat} {e0 e : va_E}
    (hi : ∀ c c' : Nat, F c ≠ none → F c' ≠ none → ad c = ad c' → c = c') (hw : ∀ (c : Nat) (e : va_E), F c = some e → ∃ i : Nat, ws[i]? = some (ad c, e))
    (h0 : F c = some e0) (hx : ws[i]? = some (ad c, e0)) (hP : va_P (D.1, D.2.1) vwCl (ws.set i (ad c, e)) H1) (hD : va_D (Bo b0) (ws.set i (ad c, e))) : WD D b0 ad (va_up F c (some e)) H1 := by
  have hn : ∀ x : Nat, va_up F c (some e) x ≠ none → F x ≠ none := by
    intro x hx2
    by_cases hc : x = c
    · subst hc; rw [h0]; simp
    · rwa [up_n hc] at hx2
  refine ⟨⟨ws.set i (ad c, e), hP, hD, fun x e' hx2 => ?_⟩, fun x y hx2 hy2 hxy => hi x y (hn x hx2) (hn y hy2) hxy⟩
  by_cases hc : x = c
  · subst hc
    rw [up_s] at hx2
    cases hx2
    exact ⟨i, List.getElem?_set_self (List.getElem?_eq_some_iff.mp hx).1⟩
  · rw [up_n hc] at hx2
    obtain ⟨j, hj⟩ := hw x e' hx2
    refine ⟨j, ?_⟩
    rw [List.getElem?_set_ne, hj]
    intro hij
    subst hij
    rw [hx] at hj
    have h2 : ad c = ad x := congrArg Prod.fst (Option.some.inj hj)
    exact hc (hi x c (by rw [hx2]; simp) (by rw [h0]; simp) h2.symm)
/-- a new cell -/
theorem WD.push {D : Dx} {b0 : Nat} {ad : Nat → Nat} {F : Fn} {H1 : Heap} {ws : va_W} {c q : Nat} {e : va_E}
    (hi : ∀ c c' : Nat, F c ≠ none → F c' ≠ none → ad c = ad c' → c = c') (hw : ∀ (c : Nat) (e : va_E), F c = some e → ∃ i : Nat, ws[i]? = some (ad c, e))
    (h0 : F c = none) (hP : va_P (D.1, D.2.1) vwCl (ws ++ [(q, e)]) H1) (hD : va_D (Bo b0) (ws ++ [(q, e)])) : WD D b0 (va_up ad c q) (va_up F c (some e)) H1 := by
  have hl : (ws ++ [(q, e)])[ws.length]? = some (q, e) := by simp
  have hold : ∀ (x : Nat) (e' : va_E), F x = some e' → ∃ j : Nat, (ws ++ [(q, e)])[j]? = some (ad x, e') ∧ j < ws.length := by
    intro x e' h
    obtain ⟨j, hj⟩ := hw x e' h
    have hlt := (List.getElem?_eq_some_iff.mp hj).1
    exact ⟨j, by rw [List.getElem?_append_left hlt, hj], hlt⟩
  have hfr : ∀ x : Nat, F x ≠ none → ad x ≠ q := by
    intro x hx2 hq
    obtain ⟨e', he'⟩ := Option.ne_none_iff_exists'.mp hx2
    obtain ⟨j, hj, hlt⟩ := hold x e' he'
    have := hD.1 j ws.length _ _ hj hl hq
    omega
  refine ⟨⟨_, hP, hD, fun x e' hx2 => ?_⟩, fun x y hx2 hy2 hxy => ?_⟩
  · by_cases hc : x = c
    · subst hc
      rw [up_s] at hx2
      cases hx2
      exact ⟨ws.length, by rw [up_s]; exact hl⟩
    · rw [up_n hc] at hx2
      obtain ⟨j, hj, -⟩ := hold x e' hx2
      exact ⟨j, by rw [up_n hc]; exact hj⟩
  · by_cases hc : x = c <;> by_cases hd : y = c
    · rw [hc, hd]
    · subst hc
      rw [up_s, up_n hd] at hxy
      rw [up_n hd] at hy2
      exact absurd hxy.symm (hfr y hy2)
    · subst hd
      rw [up_s, up_n hc] at hxy
      rw [up_n hc] at hx2
      exact absurd hxy (hfr x hx2)
    · rw [up_n hc] at hx2 hxy
      rw [up_n hd] at hy2 hxy
      exact hi x y hx2 hy2 hxy
theorem WD.kept {D : Dx} {b0 : Nat} {ad : Nat → Nat} {F : Fn} {H H1 : Heap} (h : WD D b0 ad F H) (hq : ∀ q : Nat, q < H.size → H1[q]? = H[q]?) : WD D b0 ad F H1 := by
  obtain ⟨⟨ws, hP, hD, hw⟩, hi⟩ := h
  exact ⟨⟨ws, hP.kept fun k x hx => hq x.1 (hP k x hx).lt, hD, hw⟩, hi⟩
/-- the words that are no good words: nest mates, strings, arrays of objects, not castable, the two statics of Throwable -/
def nestF : List (String × Nat × String × String × String) := [(RX6, 57, "Shortmessage$Text", "count", "I"), (RX6, 78, "Shortmessage$Text", "septetCount", "I"), (RX6, 72, "Shortmessage$Text", "wide", "Z"), (RX1, 44, "Shortmessage$Text", "partCount", "I"), (RX6, 81, "Shortmessage$Text", "partCount", "I"), (RX0, 36, "Shortmessage$Row", "count", "I"), (RX6, 196, "Shortmessage$Row", "count", "I"), (RX6, 125, "Shortmessage$Link", "queue", "LShortmessage$Row;"), (RX6, 197, "Shortmessage$Link", "sent", "LShortmessage$Row;"), (RX6, 185, "Shortmessage$Link", "up", "Z"), (RX6, 193, "Shortmessage$Link", "window", "I"), (RX6, 200, "Shortmessage$Link", "tokens", "I"), (RX6, 140, "Shortmessage$Message", "number", "I"), (RX4, 44, "Shortmessage$Message", "receiver", "I"), (RX6, 225, "Shortmessage$Message", "end", "I"), (RX6, 121, "Shortmessage$Message", "link", "LShortmessage$Link;"), (RX6, 153, "Shortmessage$Message", "signs", "[I"), (RX6, 120, "Shortmessage$Message", "partCount", "I"), (RX0, 56, "Shortmessage$Message", "state", "I"), (RX6, 147, "Shortmessage$Message", "state", "I"), (RX6, 150, "Shortmessage$Message", "lacking", "I"), (RX0, 50, "Shortmessage$Part", "message", "LShortmessage$Message;"), (RX4, 36, "Shortmessage$Part", "message", "LShortmessage$Message;"), (RX6, 211, "Shortmessage$Part", "message", "LShortmessage$Message;"), (RX6, 219, "Shortmessage$Part", "number", "I"), (RX6, 241, "Shortmessage$Part", "failures", "I"), (RX0, 61, "Shortmessage$Part", "tryAt", "I"), (RX6, 244, "Shortmessage$Part", "tryAt", "I"), (RX4, 40, "Shortmessage$Part", "waitsForAlert", "Z"), (RX6, 247, "Shortmessage$Part", "waitsForAlert", "Z")]
def nestM : List (String × Nat × MethodName) := [(RX6, 9, yX5_init), (RX6, 49, yX0_init), (RX0, 11, yX4_init)]
def strW : List (Nat × String) := [(52, "sign or times out of range"), (62, "the text would be too long"), (76, "the text is wide"), (104, "no such part"), (97, "no such place"), (167, "receiver out of range"), (109, "validity out of range"), (111, "no text, or no room for a message"), (223, "no such link"), (165, "no such message"), (163, "no such receipt"), (173, "ticks out of range"), (191, "window out of range"), (203, "outcome out of range"), (209, "no part is under way"), (250, "service or sign out of range"), (255, "person or sign out of range")]
def notC : List (String × String) := [("java/lang/IllegalStateException", "java/lang/IllegalArgumentException"), ("java/lang/IllegalArgumentException", "java/lang/IndexOutOfBoundsException"), ("java/lang/IllegalStateException", "java/lang/IndexOutOfBoundsException")]
def excW : List String := ["java/lang/IllegalArgumentException", "java/lang/IllegalStateException", "java/lang/IndexOutOfBoundsException"]
def decW : List MethodName := [Bundle.initS "java/lang/RuntimeException", Bundle.initS "java/lang/Exception", Bundle.initS Bundle.tN]
def Ev (D : Dx) (b0 : Nat) (U : State) : Prop :=
  va_K (D.1, D.2.1) vwCl (tysD D.2.2) U ∧ (∀ q ∈ nestF, va_Nw (.fieldLinkNest q.1 q.2.1 q.2.2.1 q.2.2.2.1 q.2.2.2.2 RX6) U) ∧ (∀ q ∈ nestM, va_Nw (.methodLinkNest q.1 q.2.1 q.2.2 RX6) U) ∧
  (∀ q ∈ strW, ∃ a : Nat, vk_R RX6 q.1 q.2 a U) ∧ (∀ q ∈ notC, va_Nc q.1 q.2 U) ∧ ((∀ q ∈ excW, va_Nw (.castable q q) U) ∧ (∀ q ∈ decW, va_Nw (.declares q) U) ∧ va_Nw (.castable "[I" "java/lang/Cloneable") U) ∧ (va_AO RX2 U ∧ va_AO RX1 U ∧ va_AO RX0 U) ∧
  vx_Zq Bundle.tN "UNASSIGNED_STACK" Bundle.steD (Bo b0) U U.heap ∧ vx_Zq Bundle.tN "SUPPRESSED_SENTINEL" Bundle.listD (Bo b0) U U.heap ∧ b0 ≤ U.heap.size
theorem Ev.moved {D : Dx} {b0 : Nat} {s U : State} (h : Ev D b0 s) (hW : s.WarmedH U.vm) (hz : s.heap.size ≤ U.heap.size) (hq : ∀ q : Nat, q < s.heap.size → ¬ Bo b0 q → U.heap[q]? = s.heap[q]?) : Ev D b0 U := by
  obtain ⟨h1, h2, h3, h4, h5, h10, h6, h7, h8, h9⟩ := h
  exact ⟨va_K.moved hW.alike h1, fun q hq => va_Nw.warmF hW (h2 q hq), fun q hq => va_Nw.warmM hW (h3 q hq), fun q hq => (h4 q hq).imp fun a ha => vk_R.warm hW ha, fun q hq => va_Nc.moved hW.alike (h5 q hq), ⟨fun q hq => va_Nw.warmC hW (h10.1 q hq), fun q hq => va_Nw.warmD hW (h10.2.1 q hq), va_Nw.warmC hW h10.2.2⟩,
    ⟨va_AO.moved hW.alike h6.1, va_AO.moved hW.alike h6.2.1, va_AO.moved hW.alike h6.2.2⟩, vx_Zq.moved hW.alike (h7.kept hq), vx_Zq.moved hW.alike (h8.kept hq), Nat.le_trans h9 hz⟩
theorem Ev.blind {D : Dx} {b0 : Nat} {U : State} {g : JFrame} {mk : MethodId} {a : Array Value} (h : Ev D b0 U) : Ev D b0 (U.calling g mk a) :=
  h.moved (State.WarmedH.refl U) (Nat.le_refl _) (fun _ _ _ => rfl)
end
section
/-! ===== A METHOD'S FRAME over a world, its surroundings in one tuple ===== -/
abbrev Cxt : Type := Program × Launch × Env × Room × State × MethodId × Array Value × List Frame × Method × Code × Nat × Dx × Nat × (State → Prop)
abbrev xp (X : Cxt) : Program := X.1
abbrev xl (X : Cxt) : Launch := X.2.1
abbrev xe (X : Cxt) : Env := X.2.2.1
abbrev xR (X : Cxt) : Room := X.2.2.2.1
abbrev xs (X : Cxt) : State := X.2.2.2.2.1
abbrev xm (X : Cxt) : MethodId := X.2.2.2.2.2.1
abbrev xa (X : Cxt) : Array Value := X.2.2.2.2.2.2.1
abbrev xo (X : Cxt) : List Frame := X.2.2.2.2.2.2.2.1
abbrev xt (X : Cxt) : Method := X.2.2.2.2.2.2.2.2.1
abbrev xc (X : Cxt) : Code := X.2.2.2.2.2.2.2.2.2.1
abbrev xn (X : Cxt) : Nat := X.2.2.2.2.2.2.2.2.2.2.1
abbrev xD (X : Cxt) : Dx := X.2.2.2.2.2.2.2.2.2.2.2.1
abbrev xb (X : Cxt) : Nat := X.2.2.2.2.2.2.2.2.2.2.2.2.1
abbrev xQ (X : Cxt) : State → Prop := X.2.2.2.2.2.2.2.2.2.2.2.2.2
/-- the newest value of a place of the locals -/
def alk (i : Nat) : List (Nat × Value) → Option Value
  | [] => none
  | (j, v) :: r => match Nat.beq j i with
    | true => some v
    | false => alk i r
abbrev Lv : Type := List (Nat × Value)
def flatL (nL : Nat) (lv : Lv) : Lv := (List.range nL).filterMap (fun i => (alk i lv).map (fun v => (i, v)))
def lh (ls : Array Slot) (nL : Nat) (lv : Lv) : Prop := lv_has ls nL (flatL nL lv) ∧ ∀ (i : Nat) (v : Value), alk i lv = some v → i < nL ∧ v.category = 1
theorem flatL_mem {nL i : Nat} {lv : Lv} {v : Value} : (i, v) ∈ flatL nL lv ↔ i < nL ∧ alk i lv = some v := by
  simp only [flatL, List.mem_filterMap, List.mem_range, Option.map_eq_some_iff, Prod.mk.injEq]
  constructor
  · rintro ⟨a, h1, w, h2, rfl, rfl⟩
    exact ⟨h1, h2⟩
  · rintro ⟨h1, h2⟩
    exact ⟨i, h1, v, h2, rfl, rfl⟩
theorem lh.at {ls : Array Slot} {nL i : Nat} {lv : Lv} {v : Value} (h : lh ls nL lv) (ha : alk i lv = some v) : ls[i]? = some (.val v) := h.1.2.2 (i, v) (flatL_mem.mpr ⟨(h.2 i v ha).1, ha⟩)
theorem alk_s {i : Nat} {v : Value} {lv : Lv} : alk i ((i, v) :: lv) = some v := by simp [alk]
theorem alk_n {i j : Nat} {v : Value} {lv : Lv} (h : j ≠ i) : alk i ((j, v) :: lv) = alk i lv := by
  have : Nat.beq j i = false := by
    cases hb : Nat.beq j i with
    | false => rfl
    | true => exact absurd (Nat.eq_of_beq_eq_true hb) h
  simp [alk, this]
theorem lh.of {ls ls' : Array Slot} {nL i : Nat} {lv : Lv} {v : Value} (h : lh ls nL lv) (hi : i < nL) (hc : v.category = 1) (h' : lv_has ls' nL ((i, v) :: (flatL nL lv).filter (fun q => !(q.1 == i) && !(q.1 + 1 == i && q.2.category == 2)))) : lh ls' nL ((i, v) :: lv) := by
  refine ⟨⟨h'.1, h'.2.1, fun q hq => ?_⟩, fun j w hw => ?_⟩
  · obtain ⟨j, w⟩ := q
    obtain ⟨h1, h2⟩ := flatL_mem.mp hq
    by_cases hj : i = j
    · subst hj
      rw [alk_s] at h2
      cases h2
      exact h'.2.2 _ List.mem_cons_self
    · rw [alk_n hj] at h2
      refine h'.2.2 _ (List.mem_cons_of_mem _ (List.mem_filter.mpr ⟨flatL_mem.mpr ⟨h1, h2⟩, ?_⟩))
      have hc1 := (h.2 j w h2).2
      simp [hc1, Ne.symm hj]
  · by_cases hj : i = j
    · subst hj
      rw [alk_s] at hw
      cases hw
      exact ⟨hi, hc⟩
    · rw [alk_n hj] at hw
      exact h.2 j w hw
/-- fewer locals -/
def alls (lv : Lv) : Lv → Prop
  | [] => True
  | (i, v) :: r => alk i lv = some v ∧ alls lv r
theorem alls_at {lv : Lv} : ∀ {l : Lv}, alls lv l → ∀ (i : Nat) (v : Value), alk i l = some v → alk i lv = some v
  | [], _, i, v, h => by simp [alk] at h
  | (j, w) :: r, hs, i, v, h => by
    by_cases hj : j = i
    · subst hj
      rw [alk_s] at h
      cases h
      exact hs.1
    · rw [alk_n hj] at h
      exact alls_at hs.2 i v h
theorem lh.sub {ls : Array Slot} {nL : Nat} {lv lv' : Lv} (h : lh ls nL lv) (hs : alls lv lv') : lh ls nL lv' := by
  refine ⟨⟨h.1.1, h.1.2.1, fun q hq => ?_⟩, fun i v hv => h.2 i v (alls_at hs i v hv)⟩
  obtain ⟨j, w⟩ := q
  exact h.at (alls_at hs j w (flatL_mem.mp hq).2)
def V (X : Cxt) (k n pc : Nat) (lv : Lv) (st : List Value) (ad : Nat → Nat) (F : Fn) : Prop :=
  ∀ (H : Heap) (locs : List Loc) (ls : Array Slot), WD (xD X) (xb X) ad F H → va_S (Bo (xb X)) (xs X).heap H locs → lh ls (xn X) lv →
    W (xp X) (xl X) (xe X) (xR X) (xs X) (xm X) (xa X) (xo X) (xt X) (xc X) H locs k n (xQ X) (F0 (xm X) pc ls st)
/-- what a body knows of its surroundings: the machine, its bytes, its words, its room, its result's kind, its table of handlers -/
abbrev Okx (X : Cxt) (cc : ByteArray) (nL : Nat) (y : MethodName) (Ts : List Cond) (R : Room) (ret : Option FieldType) (tb : List ExceptionTableEntry) : Prop :=
  (xp X).tables.exec = Jvm.exec ∧ (xc X).code = cc ∧ (xc X).maxLocals = xn X ∧ (xs X).vm.findClass y.cls = some (xm X).cls ∧ (∀ w ∈ Ts, w.before (xa X) (xs X) = true) ∧
  (xt X).locks = false ∧ Ev (xD X) (xb X) (xs X) ∧ xR X = R ∧ (xt X).sig.returnType = ret ∧ (xc X).exceptionTable.toList = tb ∧ (xt X).name = y.name ∧ xn X = nL ∧ (xl X).stackTraces = false
variable {X : Cxt} {cc : ByteArray} {nL : Nat} {y : MethodName} {Ts : List Cond} {R : Room} {ret : Option FieldType} {tb : List ExceptionTableEntry} {k n pc : Nat} {lv : Lv} {st : List Value} {ad : Nat → Nat} {F : Fn}
theorem V_sub {lv' : Lv} (hs : alls lv lv') (K : V X k n pc lv' st ad F) : V X k n pc lv st ad F := fun H locs ls hW hS hl => K H locs ls hW hS (hl.sub hs)
theorem V_wide {k' n' : Nat} (h1 : k ≤ k') (h2 : n ≤ n') (K : V X k' n' pc lv st ad F) : V X k n pc lv st ad F := fun H locs ls hW hS hl => W.widen h1 h2 (K H locs ls hW hS hl)
theorem V_eq {st' : List Value} {F' : Fn} (hs : st = st') (hF : F = F') (K : V X k n pc lv st' ad F') : V X k n pc lv st ad F := hs ▸ hF ▸ K
/-- a number on the stack gets a name -/
theorem V_nm {v w : Int32} (h : v = w) (K : V X k n pc lv (.int w :: st) ad F) : V X k n pc lv (.int v :: st) ad F := h ▸ K
theorem V_nm2 {u v w x : Int32} (h : v = w) (h2 : u = x) (K : V X k n pc lv (.int x :: .int w :: st) ad F) : V X k n pc lv (.int u :: .int v :: st) ad F := h ▸ h2 ▸ K
theorem V_rf {r r' : Option Nat} (h : r = r') (K : V X k n pc lv (va_rf r' :: st) ad F) : V X k n pc lv (va_rf r :: st) ad F := h ▸ K

theorem V_iconst {i : Int} {v : Int32} (C : Okx X cc nL y Ts R ret tb) (d : decode cc pc = .ok (.iconst i, 1)) (hv : Int32.ofInt i = v) (K : V X k n (pc + 1) lv (.int v :: st) ad F) : V X k n pc lv (st) ad F := fun H locs ls hW hS hl => lv_iconst C.1 C.2.1 d hv (K H locs ls hW hS hl)
theorem V_bipush {i : Int} {v : Int32} (C : Okx X cc nL y Ts R ret tb) (d : decode cc pc = .ok (.bipush i, 2)) (hv : (Int8.ofInt i).toInt32 = v) (K : V X k n (pc + 2) lv (.int v :: st) ad F) : V X k n pc lv (st) ad F := fun H locs ls hW hS hl => lv_bipush C.1 C.2.1 d hv (K H locs ls hW hS hl)
theorem V_sipush {i : Int} {v : Int32} (C : Okx X cc nL y Ts R ret tb) (d : decode cc pc = .ok (.sipush i, 3)) (hv : (Int16.ofInt i).toInt32 = v) (K : V X k n (pc + 3) lv (.int v :: st) ad F) : V X k n pc lv (st) ad F := fun H locs ls hW hS hl => lv_sipush C.1 C.2.1 d hv (K H locs ls hW hS hl)
theorem V_lconst {i : Fin 2} {v : Int64} (C : Okx X cc nL y Ts R ret tb) (d : decode cc pc = .ok (.lconst i, 1)) (hv : Int64.ofNat (i : Nat) = v) (K : V X k n (pc + 1) lv (.long v :: st) ad F) : V X k n pc lv (st) ad F := fun H locs ls hW hS hl => lv_lconst C.1 C.2.1 d hv (K H locs ls hW hS hl)
theorem V_iload_n {i : Fin 4} {x : Int32} (C : Okx X cc nL y Ts R ret tb) (d : decode cc pc = .ok (.iload_n i, 1)) (h : alk (i : Nat) lv = some (.int x)) (K : V X k n (pc + 1) lv (.int x :: st) ad F) : V X k n pc lv (st) ad F := fun H locs ls hW hS hl => lv_iload_n C.1 C.2.1 d rfl (hl.at h) (K H locs ls hW hS hl)
theorem V_iload {i : Nat} {x : Int32} (C : Okx X cc nL y Ts R ret tb) (d : decode cc pc = .ok (.iload i, 2)) (h : alk i lv = some (.int x)) (K : V X k n (pc + 2) lv (.int x :: st) ad F) : V X k n pc lv (st) ad F := fun H locs ls hW hS hl => lv_iload C.1 C.2.1 d (hl.at h) (K H locs ls hW hS hl)
theorem V_aload_n {i : Fin 4} {x : Nat} (C : Okx X cc nL y Ts R ret tb) (d : decode cc pc = .ok (.aload_n i, 1)) (h : alk (i : Nat) lv = some (.ref x)) (K : V X k n (pc + 1) lv (.ref x :: st) ad F) : V X k n pc lv (st) ad F := fun H locs ls hW hS hl => lv_aload_n C.1 C.2.1 d rfl (hl.at h) (K H locs ls hW hS hl)
theorem V_aload {i : Nat} {x : Nat} (C : Okx X cc nL y Ts R ret tb) (d : decode cc pc = .ok (.aload i, 2)) (h : alk i lv = some (.ref x)) (K : V X k n (pc + 2) lv (.ref x :: st) ad F) : V X k n pc lv (st) ad F := fun H locs ls hW hS hl => lv_aload C.1 C.2.1 d (hl.at h) (K H locs ls hW hS hl)
theorem V_aload_nN {i : Fin 4} (C : Okx X cc nL y Ts R ret tb) (d : decode cc pc = .ok (.aload_n i, 1)) (h : alk (i : Nat) lv = some .null) (K : V X k n (pc + 1) lv (.null :: st) ad F) : V X k n pc lv (st) ad F := fun H locs ls hW hS hl => lv_aload_nN C.1 C.2.1 d rfl (hl.at h) (K H locs ls hW hS hl)
theorem V_aloadN {i : Nat} (C : Okx X cc nL y Ts R ret tb) (d : decode cc pc = .ok (.aload i, 2)) (h : alk i lv = some .null) (K : V X k n (pc + 2) lv (.null :: st) ad F) : V X k n pc lv (st) ad F := fun H locs ls hW hS hl => lv_aloadN C.1 C.2.1 d (hl.at h) (K H locs ls hW hS hl)
theorem V_istore_n {i : Fin 4} {x : Int32} (C : Okx X cc nL y Ts R ret tb) (d : decode cc pc = .ok (.istore_n i, 1)) (hn : (i : Nat) < nL) (K : V X k n (pc + 1) (((i : Nat), .int x) :: lv) st ad F) : V X k n pc lv (.int x :: st) ad F := fun H locs ls hW hS hl => lv_istore_n C.1 C.2.1 d rfl hl.1 (by rw [C.2.2.2.2.2.2.2.2.2.2.2.1]; exact hn) rfl fun ls' hl' => K H locs ls' hW hS (hl.of (by rw [C.2.2.2.2.2.2.2.2.2.2.2.1]; exact hn) rfl hl')
theorem V_istore {i : Nat} {x : Int32} (C : Okx X cc nL y Ts R ret tb) (d : decode cc pc = .ok (.istore i, 2)) (hn : i < nL) (K : V X k n (pc + 2) ((i, .int x) :: lv) st ad F) : V X k n pc lv (.int x :: st) ad F := fun H locs ls hW hS hl => lv_istore C.1 C.2.1 d hl.1 (by rw [C.2.2.2.2.2.2.2.2.2.2.2.1]; exact hn) rfl fun ls' hl' => K H locs ls' hW hS (hl.of (by rw [C.2.2.2.2.2.2.2.2.2.2.2.1]; exact hn) rfl hl')
theorem V_astore_n {i : Fin 4} {x : Nat} (C : Okx X cc nL y Ts R ret tb) (d : decode cc pc = .ok (.astore_n i, 1)) (hn : (i : Nat) < nL) (K : V X k n (pc + 1) (((i : Nat), .ref x) :: lv) st ad F) : V X k n pc lv (.ref x :: st) ad F := fun H locs ls hW hS hl => lv_astore_n C.1 C.2.1 d rfl hl.1 (by rw [C.2.2.2.2.2.2.2.2.2.2.2.1]; exact hn) rfl fun ls' hl' => K H locs ls' hW hS (hl.of (by rw [C.2.2.2.2.2.2.2.2.2.2.2.1]; exact hn) rfl hl')
theorem V_astore {i : Nat} {x : Nat} (C : Okx X cc nL y Ts R ret tb) (d : decode cc pc = .ok (.astore i, 2)) (hn : i < nL) (K : V X k n (pc + 2) ((i, .ref x) :: lv) st ad F) : V X k n pc lv (.ref x :: st) ad F := fun H locs ls hW hS hl => lv_astore C.1 C.2.1 d hl.1 (by rw [C.2.2.2.2.2.2.2.2.2.2.2.1]; exact hn) rfl fun ls' hl' => K H locs ls' hW hS (hl.of (by rw [C.2.2.2.2.2.2.2.2.2.2.2.1]; exact hn) rfl hl')
theorem V_astore_nN {i : Fin 4} (C : Okx X cc nL y Ts R ret tb) (d : decode cc pc = .ok (.astore_n i, 1)) (hn : (i : Nat) < nL) (K : V X k n (pc + 1) (((i : Nat), .null) :: lv) st ad F) : V X k n pc lv (.null :: st) ad F := fun H locs ls hW hS hl => lv_astore_nN C.1 C.2.1 d rfl hl.1 (by rw [C.2.2.2.2.2.2.2.2.2.2.2.1]; exact hn) rfl fun ls' hl' => K H locs ls' hW hS (hl.of (by rw [C.2.2.2.2.2.2.2.2.2.2.2.1]; exact hn) rfl hl')
theorem V_astoreN {i : Nat} (C : Okx X cc nL y Ts R ret tb) (d : decode cc pc = .ok (.astore i, 2)) (hn : i < nL) (K : V X k n (pc + 2) ((i, .null) :: lv) st ad F) : V X k n pc lv (.null :: st) ad F := fun H locs ls hW hS hl => lv_astoreN C.1 C.2.1 d hl.1 (by rw [C.2.2.2.2.2.2.2.2.2.2.2.1]; exact hn) rfl fun ls' hl' => K H locs ls' hW hS (hl.of (by rw [C.2.2.2.2.2.2.2.2.2.2.2.1]; exact hn) rfl hl')
theorem V_iinc {i : Nat} {a : Int} {x v : Int32} (C : Okx X cc nL y Ts R ret tb) (d : decode cc pc = .ok (.iinc i a, 3)) (h : alk i lv = some (.int x)) (hv : x + Int32.ofInt a = v) (hn : i < nL) (K : V X k n (pc + 3) ((i, .int v) :: lv) st ad F) : V X k n pc lv st ad F := fun H locs ls hW hS hl => by
  obtain ⟨j, hj⟩ := List.getElem?_of_mem (flatL_mem.mpr ⟨(hl.2 i _ h).1, h⟩ : (i, Value.int x) ∈ flatL (xn X) lv)
  exact lv_iinc C.1 C.2.1 d hl.1 hj hv (by rw [C.2.2.2.2.2.2.2.2.2.2.2.1]; exact hn) rfl fun ls' hl' => K H locs ls' hW hS (hl.of (by rw [C.2.2.2.2.2.2.2.2.2.2.2.1]; exact hn) rfl hl')
theorem V_iadd {x z : Int32} (C : Okx X cc nL y Ts R ret tb) (d : decode cc pc = .ok (.iadd, 1))  (K : V X k n (pc + 1) lv (.int (x + z) :: st) ad F) : V X k n pc lv (.int z :: .int x :: st) ad F := fun H locs ls hW hS hl => lv_iadd C.1 C.2.1 d (K H locs ls hW hS hl)
theorem V_isub {x z : Int32} (C : Okx X cc nL y Ts R ret tb) (d : decode cc pc = .ok (.isub, 1))  (K : V X k n (pc + 1) lv (.int (x - z) :: st) ad F) : V X k n pc lv (.int z :: .int x :: st) ad F := fun H locs ls hW hS hl => lv_isub C.1 C.2.1 d (K H locs ls hW hS hl)
theorem V_imul {x z : Int32} (C : Okx X cc nL y Ts R ret tb) (d : decode cc pc = .ok (.imul, 1))  (K : V X k n (pc + 1) lv (.int (x * z) :: st) ad F) : V X k n pc lv (.int z :: .int x :: st) ad F := fun H locs ls hW hS hl => lv_imul C.1 C.2.1 d (K H locs ls hW hS hl)
theorem V_iand {x z : Int32} (C : Okx X cc nL y Ts R ret tb) (d : decode cc pc = .ok (.iand, 1))  (K : V X k n (pc + 1) lv (.int (x &&& z) :: st) ad F) : V X k n pc lv (.int z :: .int x :: st) ad F := fun H locs ls hW hS hl => lv_iand C.1 C.2.1 d (K H locs ls hW hS hl)
theorem V_ior {x z : Int32} (C : Okx X cc nL y Ts R ret tb) (d : decode cc pc = .ok (.ior, 1))  (K : V X k n (pc + 1) lv (.int (x ||| z) :: st) ad F) : V X k n pc lv (.int z :: .int x :: st) ad F := fun H locs ls hW hS hl => lv_ior C.1 C.2.1 d (K H locs ls hW hS hl)
theorem V_ixor {x z : Int32} (C : Okx X cc nL y Ts R ret tb) (d : decode cc pc = .ok (.ixor, 1))  (K : V X k n (pc + 1) lv (.int (x ^^^ z) :: st) ad F) : V X k n pc lv (.int z :: .int x :: st) ad F := fun H locs ls hW hS hl => lv_ixor C.1 C.2.1 d (K H locs ls hW hS hl)
theorem V_ishl {x z : Int32} (C : Okx X cc nL y Ts R ret tb) (d : decode cc pc = .ok (.ishl, 1))  (K : V X k n (pc + 1) lv (.int (x <<< (z &&& 31)) :: st) ad F) : V X k n pc lv (.int z :: .int x :: st) ad F := fun H locs ls hW hS hl => lv_ishl C.1 C.2.1 d (K H locs ls hW hS hl)
theorem V_ishr {x z : Int32} (C : Okx X cc nL y Ts R ret tb) (d : decode cc pc = .ok (.ishr, 1))  (K : V X k n (pc + 1) lv (.int (x >>> (z &&& 31)) :: st) ad F) : V X k n pc lv (.int z :: .int x :: st) ad F := fun H locs ls hW hS hl => lv_ishr C.1 C.2.1 d (K H locs ls hW hS hl)
theorem V_idiv {x z : Int32} (C : Okx X cc nL y Ts R ret tb) (d : decode cc pc = .ok (.idiv, 1)) (h : ¬ z = 0) (K : V X k n (pc + 1) lv (.int (x / z) :: st) ad F) : V X k n pc lv (.int z :: .int x :: st) ad F := fun H locs ls hW hS hl => lv_idiv C.1 C.2.1 d h (K H locs ls hW hS hl)
theorem V_irem {x z : Int32} (C : Okx X cc nL y Ts R ret tb) (d : decode cc pc = .ok (.irem, 1)) (h : ¬ z = 0) (K : V X k n (pc + 1) lv (.int (x - x / z * z) :: st) ad F) : V X k n pc lv (.int z :: .int x :: st) ad F := fun H locs ls hW hS hl => lv_irem C.1 C.2.1 d h (K H locs ls hW hS hl)
theorem V_i2l {x : Int32} {v : Int64} (C : Okx X cc nL y Ts R ret tb) (d : decode cc pc = .ok (.i2l, 1)) (hv : x.toInt64 = v) (K : V X k n (pc + 1) lv (.long v :: st) ad F) : V X k n pc lv (.int x :: st) ad F := fun H locs ls hW hS hl => lv_i2l C.1 C.2.1 d hv (K H locs ls hW hS hl)
theorem V_lcmp {x z : Int64} (C : Okx X cc nL y Ts R ret tb) (d : decode cc pc = .ok (.lcmp, 1))  (K : V X k n (pc + 1) lv (.int (lg_cmp x z) :: st) ad F) : V X k n pc lv (.long z :: .long x :: st) ad F := fun H locs ls hW hS hl => W.lcmp C.1 C.2.1 d (K H locs ls hW hS hl)
theorem V_dup {v : Value} (C : Okx X cc nL y Ts R ret tb) (d : decode cc pc = .ok (.dup, 1)) (hv : v.category = 1) (K : V X k n (pc + 1) lv (v :: v :: st) ad F) : V X k n pc lv (v :: st) ad F := fun H locs ls hW hS hl => lv_dup C.1 C.2.1 d hv (K H locs ls hW hS hl)
theorem V_pop {v : Value} (C : Okx X cc nL y Ts R ret tb) (d : decode cc pc = .ok (.pop, 1)) (hv : v.category = 1) (K : V X k n (pc + 1) lv (st) ad F) : V X k n pc lv (v :: st) ad F := fun H locs ls hW hS hl => lv_pop C.1 C.2.1 d hv (K H locs ls hW hS hl)
theorem V_dup2 {v w : Value} (C : Okx X cc nL y Ts R ret tb) (d : decode cc pc = .ok (.dup2, 1)) (hv : v.category = 1) (hw : w.category = 1) (K : V X k n (pc + 1) lv (v :: w :: v :: w :: st) ad F) : V X k n pc lv (v :: w :: st) ad F := fun H locs ls hW hS hl => lv_dup2_11 C.1 C.2.1 d hv hw (K H locs ls hW hS hl)
theorem V_null  (C : Okx X cc nL y Ts R ret tb) (d : decode cc pc = .ok (.aconst_null, 1))  (K : V X k n (pc + 1) lv (.null :: st) ad F) : V X k n pc lv (st) ad F := fun H locs ls hW hS hl => lv_null C.1 C.2.1 d (K H locs ls hW hS hl)
theorem V_goto {off : Int} {tgt : Nat} (C : Okx X cc nL y Ts R ret tb) (d : decode cc pc = .ok (.goto off, 3)) (ht : (pc : Int) + off = (tgt : Int)) (K : V X k n tgt lv st ad F) : V X k n pc lv st ad F := fun H locs ls hW hS hl => lv_goto C.1 C.2.1 d ht (K H locs ls hW hS hl)
theorem V_ifeq {x : Int32} {off : Int} {tgt : Nat} (C : Okx X cc nL y Ts R ret tb) (d : decode cc pc = .ok (.ifCond .eq off, 3)) (ht : (pc : Int) + off = (tgt : Int)) (Kt : x = 0 → V X k n tgt lv st ad F) (Kf : ¬ x = 0 → V X k n (pc + 3) lv st ad F) : V X k n pc lv (.int x :: st) ad F := fun H locs ls hW hS hl => lv_if_eq C.1 C.2.1 d ht (fun h => Kt h H locs ls hW hS hl) (fun h => Kf h H locs ls hW hS hl)
theorem V_ifeq_t {x : Int32} {off : Int} {tgt : Nat} (C : Okx X cc nL y Ts R ret tb) (d : decode cc pc = .ok (.ifCond .eq off, 3)) (ht : (pc : Int) + off = (tgt : Int)) (h : x = 0) (K : V X k n tgt lv st ad F) : V X k n pc lv (.int x :: st) ad F := V_ifeq C d ht (fun _ => K) (fun h2 => absurd h h2)
theorem V_ifeq_f {x : Int32} {off : Int} {tgt : Nat} (C : Okx X cc nL y Ts R ret tb) (d : decode cc pc = .ok (.ifCond .eq off, 3)) (ht : (pc : Int) + off = (tgt : Int)) (h : ¬ x = 0) (K : V X k n (pc + 3) lv st ad F) : V X k n pc lv (.int x :: st) ad F := V_ifeq C d ht (fun h2 => absurd h2 h) (fun _ => K)
theorem V_icmpeq {x z : Int32} {off : Int} {tgt : Nat} (C : Okx X cc nL y Ts R ret tb) (d : decode cc pc = .ok (.if_icmp .eq off, 3)) (ht : (pc : Int) + off = (tgt : Int)) (Kt : x = z → V X k n tgt lv st ad F) (Kf : ¬ x = z → V X k n (pc + 3) lv st ad F) : V X k n pc lv (.int z :: .int x :: st) ad F := fun H locs ls hW hS hl => lv_icmp_eq C.1 C.2.1 d ht (fun h => Kt h H locs ls hW hS hl) (fun h => Kf h H locs ls hW hS hl)
theorem V_icmpeq_t {x z : Int32} {off : Int} {tgt : Nat} (C : Okx X cc nL y Ts R ret tb) (d : decode cc pc = .ok (.if_icmp .eq off, 3)) (ht : (pc : Int) + off = (tgt : Int)) (h : x = z) (K : V X k n tgt lv st ad F) : V X k n pc lv (.int z :: .int x :: st) ad F := V_icmpeq C d ht (fun _ => K) (fun h2 => absurd h h2)
theorem V_icmpeq_f {x z : Int32} {off : Int} {tgt : Nat} (C : Okx X cc nL y Ts R ret tb) (d : decode cc pc = .ok (.if_icmp .eq off, 3)) (ht : (pc : Int) + off = (tgt : Int)) (h : ¬ x = z) (K : V X k n (pc + 3) lv st ad F) : V X k n pc lv (.int z :: .int x :: st) ad F := V_icmpeq C d ht (fun h2 => absurd h2 h) (fun _ => K)
theorem V_ifne {x : Int32} {off : Int} {tgt : Nat} (C : Okx X cc nL y Ts R ret tb) (d : decode cc pc = .ok (.ifCond .ne off, 3)) (ht : (pc : Int) + off = (tgt : Int)) (Kt : ¬ x = 0 → V X k n tgt lv st ad F) (Kf : x = 0 → V X k n (pc + 3) lv st ad F) : V X k n pc lv (.int x :: st) ad F := fun H locs ls hW hS hl => lv_if_ne C.1 C.2.1 d ht (fun h => Kt h H locs ls hW hS hl) (fun h => Kf h H locs ls hW hS hl)
theorem V_ifne_t {x : Int32} {off : Int} {tgt : Nat} (C : Okx X cc nL y Ts R ret tb) (d : decode cc pc = .ok (.ifCond .ne off, 3)) (ht : (pc : Int) + off = (tgt : Int)) (h : ¬ x = 0) (K : V X k n tgt lv st ad F) : V X k n pc lv (.int x :: st) ad F := V_ifne C d ht (fun _ => K) (fun h2 => absurd h2 h)
theorem V_ifne_f {x : Int32} {off : Int} {tgt : Nat} (C : Okx X cc nL y Ts R ret tb) (d : decode cc pc = .ok (.ifCond .ne off, 3)) (ht : (pc : Int) + off = (tgt : Int)) (h : x = 0) (K : V X k n (pc + 3) lv st ad F) : V X k n pc lv (.int x :: st) ad F := V_ifne C d ht (fun h2 => absurd h h2) (fun _ => K)
theorem V_icmpne {x z : Int32} {off : Int} {tgt : Nat} (C : Okx X cc nL y Ts R ret tb) (d : decode cc pc = .ok (.if_icmp .ne off, 3)) (ht : (pc : Int) + off = (tgt : Int)) (Kt : ¬ x = z → V X k n tgt lv st ad F) (Kf : x = z → V X k n (pc + 3) lv st ad F) : V X k n pc lv (.int z :: .int x :: st) ad F := fun H locs ls hW hS hl => lv_icmp_ne C.1 C.2.1 d ht (fun h => Kt h H locs ls hW hS hl) (fun h => Kf h H locs ls hW hS hl)
theorem V_icmpne_t {x z : Int32} {off : Int} {tgt : Nat} (C : Okx X cc nL y Ts R ret tb) (d : decode cc pc = .ok (.if_icmp .ne off, 3)) (ht : (pc : Int) + off = (tgt : Int)) (h : ¬ x = z) (K : V X k n tgt lv st ad F) : V X k n pc lv (.int z :: .int x :: st) ad F := V_icmpne C d ht (fun _ => K) (fun h2 => absurd h2 h)
theorem V_icmpne_f {x z : Int32} {off : Int} {tgt : Nat} (C : Okx X cc nL y Ts R ret tb) (d : decode cc pc = .ok (.if_icmp .ne off, 3)) (ht : (pc : Int) + off = (tgt : Int)) (h : x = z) (K : V X k n (pc + 3) lv st ad F) : V X k n pc lv (.int z :: .int x :: st) ad F := V_icmpne C d ht (fun h2 => absurd h h2) (fun _ => K)
theorem V_iflt {x : Int32} {off : Int} {tgt : Nat} (C : Okx X cc nL y Ts R ret tb) (d : decode cc pc = .ok (.ifCond .lt off, 3)) (ht : (pc : Int) + off = (tgt : Int)) (Kt : x < 0 → V X k n tgt lv st ad F) (Kf : ¬ x < 0 → V X k n (pc + 3) lv st ad F) : V X k n pc lv (.int x :: st) ad F := fun H locs ls hW hS hl => lv_if_lt C.1 C.2.1 d ht (fun h => Kt h H locs ls hW hS hl) (fun h => Kf h H locs ls hW hS hl)
theorem V_iflt_t {x : Int32} {off : Int} {tgt : Nat} (C : Okx X cc nL y Ts R ret tb) (d : decode cc pc = .ok (.ifCond .lt off, 3)) (ht : (pc : Int) + off = (tgt : Int)) (h : x < 0) (K : V X k n tgt lv st ad F) : V X k n pc lv (.int x :: st) ad F := V_iflt C d ht (fun _ => K) (fun h2 => absurd h h2)
theorem V_iflt_f {x : Int32} {off : Int} {tgt : Nat} (C : Okx X cc nL y Ts R ret tb) (d : decode cc pc = .ok (.ifCond .lt off, 3)) (ht : (pc : Int) + off = (tgt : Int)) (h : ¬ x < 0) (K : V X k n (pc + 3) lv st ad F) : V X k n pc lv (.int x :: st) ad F := V_iflt C d ht (fun h2 => absurd h2 h) (fun _ => K)
theorem V_icmplt {x z : Int32} {off : Int} {tgt : Nat} (C : Okx X cc nL y Ts R ret tb) (d : decode cc pc = .ok (.if_icmp .lt off, 3)) (ht : (pc : Int) + off = (tgt : Int)) (Kt : x < z → V X k n tgt lv st ad F) (Kf : ¬ x < z → V X k n (pc + 3) lv st ad F) : V X k n pc lv (.int z :: .int x :: st) ad F := fun H locs ls hW hS hl => lv_icmp_lt C.1 C.2.1 d ht (fun h => Kt h H locs ls hW hS hl) (fun h => Kf h H locs ls hW hS hl)
theorem V_icmplt_t {x z : Int32} {off : Int} {tgt : Nat} (C : Okx X cc nL y Ts R ret tb) (d : decode cc pc = .ok (.if_icmp .lt off, 3)) (ht : (pc : Int) + off = (tgt : Int)) (h : x < z) (K : V X k n tgt lv st ad F) : V X k n pc lv (.int z :: .int x :: st) ad F := V_icmplt C d ht (fun _ => K) (fun h2 => absurd h h2)
theorem V_icmplt_f {x z : Int32} {off : Int} {tgt : Nat} (C : Okx X cc nL y Ts R ret tb) (d : decode cc pc = .ok (.if_icmp .lt off, 3)) (ht : (pc : Int) + off = (tgt : Int)) (h : ¬ x < z) (K : V X k n (pc + 3) lv st ad F) : V X k n pc lv (.int z :: .int x :: st) ad F := V_icmplt C d ht (fun h2 => absurd h2 h) (fun _ => K)
theorem V_ifge {x : Int32} {off : Int} {tgt : Nat} (C : Okx X cc nL y Ts R ret tb) (d : decode cc pc = .ok (.ifCond .ge off, 3)) (ht : (pc : Int) + off = (tgt : Int)) (Kt : 0 ≤ x → V X k n tgt lv st ad F) (Kf : ¬ 0 ≤ x → V X k n (pc + 3) lv st ad F) : V X k n pc lv (.int x :: st) ad F := fun H locs ls hW hS hl => lv_if_ge C.1 C.2.1 d ht (fun h => Kt h H locs ls hW hS hl) (fun h => Kf h H locs ls hW hS hl)
theorem V_ifge_t {x : Int32} {off : Int} {tgt : Nat} (C : Okx X cc nL y Ts R ret tb) (d : decode cc pc = .ok (.ifCond .ge off, 3)) (ht : (pc : Int) + off = (tgt : Int)) (h : 0 ≤ x) (K : V X k n tgt lv st ad F) : V X k n pc lv (.int x :: st) ad F := V_ifge C d ht (fun _ => K) (fun h2 => absurd h h2)
theorem V_ifge_f {x : Int32} {off : Int} {tgt : Nat} (C : Okx X cc nL y Ts R ret tb) (d : decode cc pc = .ok (.ifCond .ge off, 3)) (ht : (pc : Int) + off = (tgt : Int)) (h : ¬ 0 ≤ x) (K : V X k n (pc + 3) lv st ad F) : V X k n pc lv (.int x :: st) ad F := V_ifge C d ht (fun h2 => absurd h2 h) (fun _ => K)
theorem V_icmpge {x z : Int32} {off : Int} {tgt : Nat} (C : Okx X cc nL y Ts R ret tb) (d : decode cc pc = .ok (.if_icmp .ge off, 3)) (ht : (pc : Int) + off = (tgt : Int)) (Kt : z ≤ x → V X k n tgt lv st ad F) (Kf : ¬ z ≤ x → V X k n (pc + 3) lv st ad F) : V X k n pc lv (.int z :: .int x :: st) ad F := fun H locs ls hW hS hl => lv_icmp_ge C.1 C.2.1 d ht (fun h => Kt h H locs ls hW hS hl) (fun h => Kf h H locs ls hW hS hl)
theorem V_icmpge_t {x z : Int32} {off : Int} {tgt : Nat} (C : Okx X cc nL y Ts R ret tb) (d : decode cc pc = .ok (.if_icmp .ge off, 3)) (ht : (pc : Int) + off = (tgt : Int)) (h : z ≤ x) (K : V X k n tgt lv st ad F) : V X k n pc lv (.int z :: .int x :: st) ad F := V_icmpge C d ht (fun _ => K) (fun h2 => absurd h h2)
theorem V_icmpge_f {x z : Int32} {off : Int} {tgt : Nat} (C : Okx X cc nL y Ts R ret tb) (d : decode cc pc = .ok (.if_icmp .ge off, 3)) (ht : (pc : Int) + off = (tgt : Int)) (h : ¬ z ≤ x) (K : V X k n (pc + 3) lv st ad F) : V X k n pc lv (.int z :: .int x :: st) ad F := V_icmpge C d ht (fun h2 => absurd h2 h) (fun _ => K)
theorem V_ifgt {x : Int32} {off : Int} {tgt : Nat} (C : Okx X cc nL y Ts R ret tb) (d : decode cc pc = .ok (.ifCond .gt off, 3)) (ht : (pc : Int) + off = (tgt : Int)) (Kt : 0 < x → V X k n tgt lv st ad F) (Kf : ¬ 0 < x → V X k n (pc + 3) lv st ad F) : V X k n pc lv (.int x :: st) ad F := fun H locs ls hW hS hl => lv_if_gt C.1 C.2.1 d ht (fun h => Kt h H locs ls hW hS hl) (fun h => Kf h H locs ls hW hS hl)
theorem V_ifgt_t {x : Int32} {off : Int} {tgt : Nat} (C : Okx X cc nL y Ts R ret tb) (d : decode cc pc = .ok (.ifCond .gt off, 3)) (ht : (pc : Int) + off = (tgt : Int)) (h : 0 < x) (K : V X k n tgt lv st ad F) : V X k n pc lv (.int x :: st) ad F := V_ifgt C d ht (fun _ => K) (fun h2 => absurd h h2)
theorem V_ifgt_f {x : Int32} {off : Int} {tgt : Nat} (C : Okx X cc nL y Ts R ret tb) (d : decode cc pc = .ok (.ifCond .gt off, 3)) (ht : (pc : Int) + off = (tgt : Int)) (h : ¬ 0 < x) (K : V X k n (pc + 3) lv st ad F) : V X k n pc lv (.int x :: st) ad F := V_ifgt C d ht (fun h2 => absurd h2 h) (fun _ => K)
theorem V_icmpgt {x z : Int32} {off : Int} {tgt : Nat} (C : Okx X cc nL y Ts R ret tb) (d : decode cc pc = .ok (.if_icmp .gt off, 3)) (ht : (pc : Int) + off = (tgt : Int)) (Kt : z < x → V X k n tgt lv st ad F) (Kf : ¬ z < x → V X k n (pc + 3) lv st ad F) : V X k n pc lv (.int z :: .int x :: st) ad F := fun H locs ls hW hS hl => lv_icmp_gt C.1 C.2.1 d ht (fun h => Kt h H locs ls hW hS hl) (fun h => Kf h H locs ls hW hS hl)
theorem V_icmpgt_t {x z : Int32} {off : Int} {tgt : Nat} (C : Okx X cc nL y Ts R ret tb) (d : decode cc pc = .ok (.if_icmp .gt off, 3)) (ht : (pc : Int) + off = (tgt : Int)) (h : z < x) (K : V X k n tgt lv st ad F) : V X k n pc lv (.int z :: .int x :: st) ad F := V_icmpgt C d ht (fun _ => K) (fun h2 => absurd h h2)
theorem V_icmpgt_f {x z : Int32} {off : Int} {tgt : Nat} (C : Okx X cc nL y Ts R ret tb) (d : decode cc pc = .ok (.if_icmp .gt off, 3)) (ht : (pc : Int) + off = (tgt : Int)) (h : ¬ z < x) (K : V X k n (pc + 3) lv st ad F) : V X k n pc lv (.int z :: .int x :: st) ad F := V_icmpgt C d ht (fun h2 => absurd h2 h) (fun _ => K)
theorem V_ifle {x : Int32} {off : Int} {tgt : Nat} (C : Okx X cc nL y Ts R ret tb) (d : decode cc pc = .ok (.ifCond .le off, 3)) (ht : (pc : Int) + off = (tgt : Int)) (Kt : x ≤ 0 → V X k n tgt lv st ad F) (Kf : ¬ x ≤ 0 → V X k n (pc + 3) lv st ad F) : V X k n pc lv (.int x :: st) ad F := fun H locs ls hW hS hl => lv_if_le C.1 C.2.1 d ht (fun h => Kt h H locs ls hW hS hl) (fun h => Kf h H locs ls hW hS hl)
theorem V_ifle_t {x : Int32} {off : Int} {tgt : Nat} (C : Okx X cc nL y Ts R ret tb) (d : decode cc pc = .ok (.ifCond .le off, 3)) (ht : (pc : Int) + off = (tgt : Int)) (h : x ≤ 0) (K : V X k n tgt lv st ad F) : V X k n pc lv (.int x :: st) ad F := V_ifle C d ht (fun _ => K) (fun h2 => absurd h h2)
theorem V_ifle_f {x : Int32} {off : Int} {tgt : Nat} (C : Okx X cc nL y Ts R ret tb) (d : decode cc pc = .ok (.ifCond .le off, 3)) (ht : (pc : Int) + off = (tgt : Int)) (h : ¬ x ≤ 0) (K : V X k n (pc + 3) lv st ad F) : V X k n pc lv (.int x :: st) ad F := V_ifle C d ht (fun h2 => absurd h2 h) (fun _ => K)
theorem V_icmple {x z : Int32} {off : Int} {tgt : Nat} (C : Okx X cc nL y Ts R ret tb) (d : decode cc pc = .ok (.if_icmp .le off, 3)) (ht : (pc : Int) + off = (tgt : Int)) (Kt : x ≤ z → V X k n tgt lv st ad F) (Kf : ¬ x ≤ z → V X k n (pc + 3) lv st ad F) : V X k n pc lv (.int z :: .int x :: st) ad F := fun H locs ls hW hS hl => lv_icmp_le C.1 C.2.1 d ht (fun h => Kt h H locs ls hW hS hl) (fun h => Kf h H locs ls hW hS hl)
theorem V_icmple_t {x z : Int32} {off : Int} {tgt : Nat} (C : Okx X cc nL y Ts R ret tb) (d : decode cc pc = .ok (.if_icmp .le off, 3)) (ht : (pc : Int) + off = (tgt : Int)) (h : x ≤ z) (K : V X k n tgt lv st ad F) : V X k n pc lv (.int z :: .int x :: st) ad F := V_icmple C d ht (fun _ => K) (fun h2 => absurd h h2)
theorem V_icmple_f {x z : Int32} {off : Int} {tgt : Nat} (C : Okx X cc nL y Ts R ret tb) (d : decode cc pc = .ok (.if_icmp .le off, 3)) (ht : (pc : Int) + off = (tgt : Int)) (h : ¬ x ≤ z) (K : V X k n (pc + 3) lv st ad F) : V X k n pc lv (.int z :: .int x :: st) ad F := V_icmple C d ht (fun h2 => absurd h2 h) (fun _ => K)
theorem V_acmpeq {rx ry : Option Nat} {off : Int} {tgt : Nat} (C : Okx X cc nL y Ts R ret tb) (d : decode cc pc = .ok (.if_acmp .eq off, 3)) (ht : (pc : Int) + off = (tgt : Int)) (Kt : rx = ry → V X k n tgt lv st ad F) (Kf : ¬ rx = ry → V X k n (pc + 3) lv st ad F) : V X k n pc lv (va_rf ry :: va_rf rx :: st) ad F := fun H locs ls hW hS hl => lv_acmp_eq C.1 C.2.1 d ht (fun h => Kt h H locs ls hW hS hl) (fun h => Kf h H locs ls hW hS hl)
theorem V_acmpeq_t {rx ry : Option Nat} {off : Int} {tgt : Nat} (C : Okx X cc nL y Ts R ret tb) (d : decode cc pc = .ok (.if_acmp .eq off, 3)) (ht : (pc : Int) + off = (tgt : Int)) (h : rx = ry) (K : V X k n tgt lv st ad F) : V X k n pc lv (va_rf ry :: va_rf rx :: st) ad F := V_acmpeq C d ht (fun _ => K) (fun h2 => absurd h h2)
theorem V_acmpeq_f {rx ry : Option Nat} {off : Int} {tgt : Nat} (C : Okx X cc nL y Ts R ret tb) (d : decode cc pc = .ok (.if_acmp .eq off, 3)) (ht : (pc : Int) + off = (tgt : Int)) (h : ¬ rx = ry) (K : V X k n (pc + 3) lv st ad F) : V X k n pc lv (va_rf ry :: va_rf rx :: st) ad F := V_acmpeq C d ht (fun h2 => absurd h2 h) (fun _ => K)
theorem V_acmpne {rx ry : Option Nat} {off : Int} {tgt : Nat} (C : Okx X cc nL y Ts R ret tb) (d : decode cc pc = .ok (.if_acmp .ne off, 3)) (ht : (pc : Int) + off = (tgt : Int)) (Kt : ¬ rx = ry → V X k n tgt lv st ad F) (Kf : rx = ry → V X k n (pc + 3) lv st ad F) : V X k n pc lv (va_rf ry :: va_rf rx :: st) ad F := fun H locs ls hW hS hl => lv_acmp_ne C.1 C.2.1 d ht (fun h => Kt h H locs ls hW hS hl) (fun h => Kf h H locs ls hW hS hl)
theorem V_acmpne_t {rx ry : Option Nat} {off : Int} {tgt : Nat} (C : Okx X cc nL y Ts R ret tb) (d : decode cc pc = .ok (.if_acmp .ne off, 3)) (ht : (pc : Int) + off = (tgt : Int)) (h : ¬ rx = ry) (K : V X k n tgt lv st ad F) : V X k n pc lv (va_rf ry :: va_rf rx :: st) ad F := V_acmpne C d ht (fun _ => K) (fun h2 => absurd h2 h)
theorem V_acmpne_f {rx ry : Option Nat} {off : Int} {tgt : Nat} (C : Okx X cc nL y Ts R ret tb) (d : decode cc pc = .ok (.if_acmp .ne off, 3)) (ht : (pc : Int) + off = (tgt : Int)) (h : rx = ry) (K : V X k n (pc + 3) lv st ad F) : V X k n pc lv (va_rf ry :: va_rf rx :: st) ad F := V_acmpne C d ht (fun h2 => absurd h h2) (fun _ => K)
theorem V_ifnull {x : Nat} {off : Int} (C : Okx X cc nL y Ts R ret tb) (d : decode cc pc = .ok (.ifnull off, 3)) (K : V X k n (pc + 3) lv st ad F) : V X k n pc lv (.ref x :: st) ad F := fun H locs ls hW hS hl => lv_ifnull C.1 C.2.1 d (K H locs ls hW hS hl)
theorem V_ifnullN {off : Int} {tgt : Nat} (C : Okx X cc nL y Ts R ret tb) (d : decode cc pc = .ok (.ifnull off, 3)) (ht : (pc : Int) + off = (tgt : Int)) (K : V X k n tgt lv st ad F) : V X k n pc lv (.null :: st) ad F := fun H locs ls hW hS hl => lv_ifnullN C.1 C.2.1 d ht (K H locs ls hW hS hl)
theorem V_ifnonnull {x : Nat} {off : Int} {tgt : Nat} (C : Okx X cc nL y Ts R ret tb) (d : decode cc pc = .ok (.ifnonnull off, 3)) (ht : (pc : Int) + off = (tgt : Int)) (K : V X k n tgt lv st ad F) : V X k n pc lv (.ref x :: st) ad F := fun H locs ls hW hS hl => lv_ifnonnull C.1 C.2.1 d ht (K H locs ls hW hS hl)
theorem V_ifnonnullN {off : Int} (C : Okx X cc nL y Ts R ret tb) (d : decode cc pc = .ok (.ifnonnull off, 3)) (K : V X k n (pc + 3) lv st ad F) : V X k n pc lv (.null :: st) ad F := fun H locs ls hW hS hl => lv_ifnonnullN C.1 C.2.1 d (K H locs ls hW hS hl)
theorem V_tableOut {dflt lo hi : Int} {offs : Array Int} {len : Nat} {x : Int32} {tgt : Nat} (C : Okx X cc nL y Ts R ret tb) (d : decode cc pc = .ok (.tableswitch dflt lo hi offs, len)) (h : x.toInt < lo ∨ hi < x.toInt) (ht : (pc : Int) + dflt = (tgt : Int)) (K : V X k n tgt lv st ad F) : V X k n pc lv (.int x :: st) ad F := fun H locs ls hW hS hl => lv_tableOut C.1 C.2.1 d h ht (K H locs ls hW hS hl)
theorem V_tableIn {dflt lo hi : Int} {offs : Array Int} {len : Nat} {x : Int32} {off : Int} {tgt : Nat} (C : Okx X cc nL y Ts R ret tb) (d : decode cc pc = .ok (.tableswitch dflt lo hi offs, len)) (h1 : ¬ x.toInt < lo) (h2 : ¬ hi < x.toInt) (ho : offs[(x.toInt - lo).toNat]? = some off) (ht : (pc : Int) + off = (tgt : Int)) (K : V X k n tgt lv st ad F) : V X k n pc lv (.int x :: st) ad F := fun H locs ls hW hS hl => lv_tableIn C.1 C.2.1 d h1 h2 ho ht (K H locs ls hW hS hl)
end
section
/-! ===== ROWS OF THE HEAP, over a world by codes ===== -/
abbrev ALL : List Cond := wsL_law
/-- field kf of the class ci is what the pool's entry idx of the class own names -/
def FR (own : String) (idx ci kf : Nat) : Prop := ∃ (Cn : String) (T : u_T) (N : Nat), vwCl[ci]? = some (Cn, T, N) ∧ kf < N ∧ (∀ w ∈ u_ws Cn T N, w ∈ ALL) ∧
  (Cond.fieldLink own idx (T kf).1 (T kf).2.1 (T kf).2.2.1 ∈ ALL ∨ (own, idx, (T kf).1, (T kf).2.1, (T kf).2.2.1) ∈ nestF)
/-- .. and it can be written there: fin tells whether it is final, ty its type -/
def FP (own : String) (idx ci kf : Nat) (fin : Bool) (ty : FieldType) : Prop := ∃ (Cn : String) (T : u_T) (N : Nat) (ty0 : Nat → FieldType), vwCl[ci]? = some (Cn, T, N) ∧ kf < N ∧ (∀ w ∈ u_ws Cn T N, w ∈ ALL) ∧
  (∀ j, j < N → parseFieldDescriptor (T j).2.2.1 = some (ty0 j)) ∧ (∀ a, a < N → ∀ b, b < N → a ≠ b → (T a).2.1 ≠ (T b).2.1) ∧ (T kf).2.2.2 = fin ∧ (fin = true → (T kf).1 = own ∧ Cond.fieldLink own idx (T kf).1 (T kf).2.1 (T kf).2.2.1 ∈ ALL) ∧ parseFieldDescriptor (T kf).2.2.1 = some ty ∧
  (Cond.fieldLink own idx (T kf).1 (T kf).2.1 (T kf).2.2.1 ∈ ALL ∨ (own, idx, (T kf).1, (T kf).2.1, (T kf).2.2.1) ∈ nestF)
/-- the class ci is what the pool's entry idx of the class own makes, with these first values -/
def NW (own : String) (idx ci N : Nat) (fs : List Value) : Prop := ∃ (Cn : String) (T : u_T) (ty0 : Nat → FieldType), vwCl[ci]? = some (Cn, T, N) ∧ (∀ w ∈ u_ws Cn T N, w ∈ ALL) ∧
  (∀ j, j < N → parseFieldDescriptor (T j).2.2.1 = some (ty0 j)) ∧ (∀ j, j < N → defaultValue (ty0 j) = vp_V fs j) ∧ Cond.classLink own idx Cn ∈ ALL ∧ Cond.instantiable Cn N ∈ ALL ∧ Cond.initialized Cn ∈ ALL
/-- arrays: of ints, booleans, longs; of references of the kind t -/
abbrev aI (D : Dx) (N : Nat) (f : Nat → Int32) : va_E := .inl (D.2.2 0, N, .inl f)
abbrev aZ (D : Dx) (N : Nat) (f : Nat → Int32) : va_E := .inl (D.2.2 1, N, .inl f)
abbrev aJ (D : Dx) (N : Nat) (f : Nat → Int64) : va_E := .inl (D.2.2 2, N, .inr (.inl f))
abbrev aQ (D : Dx) (t N : Nat) (f : Nat → Option Nat) : va_E := .inl (D.2.2 t, N, .inr (.inr (.inr (.inr f))))
abbrev oB (ci : Nat) (fs : List Value) : va_E := .inr (ci, fs)
variable {X : Cxt} {cc : ByteArray} {nL : Nat} {y : MethodName} {R : Room} {ret : Option FieldType} {tb : List ExceptionTableEntry} {k n pc : Nat} {lv : Lv} {st : List Value} {ad : Nat → Nat} {F : Fn}
abbrev Ok (X : Cxt) (cc : ByteArray) (nL : Nat) (y : MethodName) (R : Room) (ret : Option FieldType) (tb : List ExceptionTableEntry) : Prop := Okx X cc nL y ALL R ret tb
theorem Ok.ts (C : Ok X cc nL y R ret tb) : ∀ w ∈ ALL, w.before (xa X) (xs X) = true := C.2.2.2.2.1
theorem Ok.own (C : Ok X cc nL y R ret tb) : (xs X).vm.findClass y.cls = some (xm X).cls := C.2.2.2.1
theorem Ok.ev (C : Ok X cc nL y R ret tb) : Ev (xD X) (xb X) (xs X) := C.2.2.2.2.2.2.1
theorem Ok.room (C : Ok X cc nL y R ret tb) : xR X = R := C.2.2.2.2.2.2.2.1
theorem Ok.rty (C : Ok X cc nL y R ret tb) : (xt X).sig.returnType = ret := C.2.2.2.2.2.2.2.2.1
theorem Ok.tab (C : Ok X cc nL y R ret tb) : (xc X).exceptionTable.toList = tb := C.2.2.2.2.2.2.2.2.2.1
theorem Ok.nm (C : Ok X cc nL y R ret tb) : (xt X).name = y.name := C.2.2.2.2.2.2.2.2.2.2.1
theorem Ok.nl (C : Ok X cc nL y R ret tb) : xn X = nL := C.2.2.2.2.2.2.2.2.2.2.2.1
theorem Ok.notr (C : Ok X cc nL y R ret tb) : (xl X).stackTraces = false := C.2.2.2.2.2.2.2.2.2.2.2.2
theorem Ok.fresh (C : Ok X cc nL y R ret tb) : ∀ q : Nat, (xs X).heap.size ≤ q → Bo (xb X) q := fun _ h => Nat.le_trans C.ev.2.2.2.2.2.2.2.2.2 h
theorem V_get {idx ci kf c0 : Nat} {fs : List Value} {v : Value} (C : Ok X cc nL y R ret tb) (d : decode cc pc = .ok (.getfield idx, 3)) (hf : FR y.cls idx ci kf) (hc : F c0 = some (oB ci fs)) (hv : fs[kf]? = some v) (K : V X k n (pc + 3) lv (v :: st) ad F) : V X k n pc lv (.ref (ad c0) :: st) ad F := by
  intro H locs ls hW hS hl
  obtain ⟨⟨ws, hP, hD, hw⟩, hi⟩ := id hW
  obtain ⟨i, hx⟩ := hw _ _ hc
  obtain ⟨Cn, T, N, h1, h2, h3, h4⟩ := hf
  rcases h4 with h4 | h4
  · exact va_get C.1 C.2.1 C.ts h3 C.own C.ev.1 hP i hx h1 kf h2 (C.ts _ h4) (fun _ h => h) hv d (K H locs ls hW hS hl)
  · exact va_getN C.1 C.2.1 C.ts h3 C.own C.ev.1 hP i hx h1 kf h2 (va_Nw.use rfl (C.ev.2.1 _ h4)) (fun _ h => h) hv d (K H locs ls hW hS hl)
theorem V_put {idx ci kf c0 : Nat} {fs : List Value} {v : Value} {ty : FieldType} (C : Ok X cc nL y R ret tb) (d : decode cc pc = .ok (.putfield idx, 3)) (hf : FP y.cls idx ci kf false ty) (hc : F c0 = some (oB ci fs)) (hn : narrow ty v = v) (hfit : fits ty v = true) (hlt : kf < fs.length) (K : V X k n (pc + 3) lv st ad (va_up F c0 (some (oB ci (fs.set kf v))))) : V X k n pc lv (v :: .ref (ad c0) :: st) ad F := by
  intro H locs ls hW hS hl
  obtain ⟨⟨ws, hP, hD, hw⟩, hi⟩ := id hW
  obtain ⟨i, hx⟩ := hw _ _ hc
  obtain ⟨Cn, T, N, ty0, h1, h2, h3, h5, h6, h7, -, h8, h4⟩ := hf
  rcases h4 with h4 | h4
  · exact va_put C.1 C.2.1 C.ts h3 ty0 h5 h6 C.own C.ev.1 hP hD hS i hx h1 kf h2 (C.ts _ h4) (fun _ h => h) h7 h8 hn hfit hlt d (fun H1 locs1 hP1 hD1 hS1 => K H1 locs1 ls (WD.put hi hw hc hx hP1 hD1) hS1 hl)
  · exact va_putN C.1 C.2.1 C.ts h3 ty0 h5 h6 C.own C.ev.1 hP hD hS i hx h1 kf h2 (va_Nw.use rfl (C.ev.2.1 _ h4)) (fun _ h => h) h7 h8 hn hfit hlt d (fun H1 locs1 hP1 hD1 hS1 => K H1 locs1 ls (WD.put hi hw hc hx hP1 hD1) hS1 hl)
theorem V_putF {idx ci kf c0 : Nat} {fs : List Value} {v : Value} {ty : FieldType} (C : Ok X cc nL y R ret tb) (hin : y.name = "<init>") (d : decode cc pc = .ok (.putfield idx, 3)) (hf : FP y.cls idx ci kf true ty) (hc : F c0 = some (oB ci fs)) (hn : narrow ty v = v) (hfit : fits ty v = true) (hlt : kf < fs.length) (K : V X k n (pc + 3) lv st ad (va_up F c0 (some (oB ci (fs.set kf v))))) : V X k n pc lv (v :: .ref (ad c0) :: st) ad F := by
  intro H locs ls hW hS hl
  obtain ⟨⟨ws, hP, hD, hw⟩, hi⟩ := id hW
  obtain ⟨i, hx⟩ := hw _ _ hc
  obtain ⟨Cn, T, N, ty0, h1, h2, h3, h5, h6, h7, h9, h8, -⟩ := hf
  obtain ⟨h9, h4⟩ := h9 rfl
  exact va_putF C.1 C.2.1 C.ts h3 ty0 h5 h6 C.own C.ev.1 hP hD hS i hx h1 kf h2 (C.ts _ h4) (fun _ h => h) h7 (C.nm.trans hin) h9 h8 hn hfit hlt d (fun H1 locs1 hP1 hD1 hS1 => K H1 locs1 ls (WD.put hi hw hc hx hP1 hD1) hS1 hl)
theorem nI_cl {j : Nat} {i : Int32} {N : Nat} (hi : i = nI j) (hj : j < N) (hN : N < 2 ^ 31) : vp_in i N ∧ i.toNatClampNeg = j := by
  subst hi
  exact ⟨vp_in_nI hj hN, nI_clamp (by omega)⟩
theorem V_iald {c0 N j : Nat} {f : Nat → Int32} {i : Int32} (C : Ok X cc nL y R ret tb) (d : decode cc pc = .ok (.iaload, 1)) (hc : F c0 = some (aI (xD X) N f)) (hi : i = nI j) (hj : j < N) (hN : N < 2 ^ 31) (K : V X k n (pc + 1) lv (.int (f j) :: st) ad F) : V X k n pc lv (.int i :: .ref (ad c0) :: st) ad F := by
  intro H locs ls hW hS hl
  obtain ⟨⟨ws, hP, hD, hw⟩, -⟩ := id hW
  obtain ⟨p, hx⟩ := hw _ _ hc
  obtain ⟨h1, h2⟩ := nI_cl hi hj hN
  exact va_iald C.1 C.2.1 C.ev.1 hP p 0 hx rfl h1 d (by rw [h2]; exact K H locs ls hW hS hl)
theorem V_zald {c0 N j : Nat} {f : Nat → Int32} {i : Int32} (C : Ok X cc nL y R ret tb) (d : decode cc pc = .ok (.baload, 1)) (hc : F c0 = some (aZ (xD X) N f)) (hi : i = nI j) (hj : j < N) (hN : N < 2 ^ 31) (K : V X k n (pc + 1) lv (.int (f j) :: st) ad F) : V X k n pc lv (.int i :: .ref (ad c0) :: st) ad F := by
  intro H locs ls hW hS hl
  obtain ⟨⟨ws, hP, hD, hw⟩, -⟩ := id hW
  obtain ⟨p, hx⟩ := hw _ _ hc
  obtain ⟨h1, h2⟩ := nI_cl hi hj hN
  exact va_zald C.1 C.2.1 C.ev.1 hP p 1 hx rfl h1 d (by rw [h2]; exact K H locs ls hW hS hl)
theorem V_lald {c0 N j : Nat} {f : Nat → Int64} {i : Int32} (C : Ok X cc nL y R ret tb) (d : decode cc pc = .ok (.laload, 1)) (hc : F c0 = some (aJ (xD X) N f)) (hi : i = nI j) (hj : j < N) (hN : N < 2 ^ 31) (K : V X k n (pc + 1) lv (.long (f j) :: st) ad F) : V X k n pc lv (.int i :: .ref (ad c0) :: st) ad F := by
  intro H locs ls hW hS hl
  obtain ⟨⟨ws, hP, hD, hw⟩, -⟩ := id hW
  obtain ⟨p, hx⟩ := hw _ _ hc
  obtain ⟨h1, h2⟩ := nI_cl hi hj hN
  exact va_lald C.1 C.2.1 C.ev.1 hP p 2 hx rfl h1 d (by rw [h2]; exact K H locs ls hW hS hl)
theorem V_aald {t c0 N j : Nat} {Cn : String} {f : Nat → Option Nat} {i : Int32} (C : Ok X cc nL y R ret tb) (d : decode cc pc = .ok (.aaload, 1)) (hc : F c0 = some (aQ (xD X) t N f)) (ht : (tysD (xD X).2.2)[t]? = some ((xD X).2.2 t, .object Cn)) (hi : i = nI j) (hj : j < N) (hN : N < 2 ^ 31) (K : V X k n (pc + 1) lv (va_rf (f j) :: st) ad F) : V X k n pc lv (.int i :: .ref (ad c0) :: st) ad F := by
  intro H locs ls hW hS hl
  obtain ⟨⟨ws, hP, hD, hw⟩, -⟩ := id hW
  obtain ⟨p, hx⟩ := hw _ _ hc
  obtain ⟨h1, h2⟩ := nI_cl hi hj hN
  exact va_aldq C.1 C.2.1 C.ev.1 hP p t hx ht h1 d (by rw [h2]; exact K H locs ls hW hS hl)
theorem V_iast {c0 N j : Nat} {f : Nat → Int32} {i x : Int32} (C : Ok X cc nL y R ret tb) (d : decode cc pc = .ok (.iastore, 1)) (hc : F c0 = some (aI (xD X) N f)) (hi : i = nI j) (hj : j < N) (hN : N < 2 ^ 31) (K : V X k n (pc + 1) lv st ad (va_up F c0 (some (aI (xD X) N (upd f j x))))) : V X k n pc lv (.int x :: .int i :: .ref (ad c0) :: st) ad F := by
  intro H locs ls hW hS hl
  obtain ⟨⟨ws, hP, hD, hw⟩, hin⟩ := id hW
  obtain ⟨p, hx⟩ := hw _ _ hc
  obtain ⟨h1, h2⟩ := nI_cl hi hj hN
  refine va_iast C.1 C.2.1 C.ev.1 hP hD hS p 0 hx rfl h1 d (fun H1 locs1 hP1 hD1 hS1 => ?_)
  rw [h2] at hP1 hD1
  exact K H1 locs1 ls (WD.put hin hw hc hx hP1 hD1) hS1 hl
theorem V_zast {c0 N j : Nat} {f : Nat → Int32} {i x : Int32} (C : Ok X cc nL y R ret tb) (d : decode cc pc = .ok (.bastore, 1)) (hc : F c0 = some (aZ (xD X) N f)) (hi : i = nI j) (hj : j < N) (hN : N < 2 ^ 31) (hz : vp_nar .boolean x = x) (K : V X k n (pc + 1) lv st ad (va_up F c0 (some (aZ (xD X) N (upd f j x))))) : V X k n pc lv (.int x :: .int i :: .ref (ad c0) :: st) ad F := by
  intro H locs ls hW hS hl
  obtain ⟨⟨ws, hP, hD, hw⟩, hin⟩ := id hW
  obtain ⟨p, hx⟩ := hw _ _ hc
  obtain ⟨h1, h2⟩ := nI_cl hi hj hN
  refine va_zast C.1 C.2.1 C.ev.1 hP hD hS p 1 hx rfl h1 d (fun H1 locs1 hP1 hD1 hS1 => ?_)
  rw [h2, hz] at hP1 hD1
  exact K H1 locs1 ls (WD.put hin hw hc hx hP1 hD1) hS1 hl
theorem V_last {c0 N j : Nat} {f : Nat → Int64} {i : Int32} {x : Int64} (C : Ok X cc nL y R ret tb) (d : decode cc pc = .ok (.lastore, 1)) (hc : F c0 = some (aJ (xD X) N f)) (hi : i = nI j) (hj : j < N) (hN : N < 2 ^ 31) (K : V X k n (pc + 1) lv st ad (va_up F c0 (some (aJ (xD X) N (vp_updL f j x))))) : V X k n pc lv (.long x :: .int i :: .ref (ad c0) :: st) ad F := by
  intro H locs ls hW hS hl
  obtain ⟨⟨ws, hP, hD, hw⟩, hin⟩ := id hW
  obtain ⟨p, hx⟩ := hw _ _ hc
  obtain ⟨h1, h2⟩ := nI_cl hi hj hN
  refine va_last C.1 C.2.1 C.ev.1 hP hD hS p 2 hx rfl h1 d (fun H1 locs1 hP1 hD1 hS1 => ?_)
  rw [h2] at hP1 hD1
  exact K H1 locs1 ls (WD.put hin hw hc hx hP1 hD1) hS1 hl
theorem V_aast {t c0 cv ci N j : Nat} {r : vw_C} {vs : List Value} {f : Nat → Option Nat} {i : Int32} (C : Ok X cc nL y R ret tb) (d : decode cc pc = .ok (.aastore, 1)) (hc : F c0 = some (aQ (xD X) t N f)) (ht : (tysD (xD X).2.2)[t]? = some ((xD X).2.2 t, .object r.1)) (hv : F cv = some (oB ci vs)) (hcl : vwCl[ci]? = some r) (hi : i = nI j) (hj : j < N) (hN : N < 2 ^ 31) (K : V X k n (pc + 1) lv st ad (va_up F c0 (some (aQ (xD X) t N (va_up f j (some (ad cv))))))) : V X k n pc lv (.ref (ad cv) :: .int i :: .ref (ad c0) :: st) ad F := by
  intro H locs ls hW hS hl
  obtain ⟨⟨ws, hP, hD, hw⟩, hin⟩ := id hW
  obtain ⟨p, hx⟩ := hw _ _ hc
  obtain ⟨pv, hxv⟩ := hw _ _ hv
  obtain ⟨h1, h2⟩ := nI_cl hi hj hN
  refine va_astq C.1 C.2.1 C.ev.1 hP hD hS p t pv ci hx ht hxv hcl h1 d (fun H1 locs1 hP1 hD1 hS1 => ?_)
  rw [h2] at hP1 hD1
  exact K H1 locs1 ls (WD.put hin hw hc hx hP1 hD1) hS1 hl
theorem V_aastN {t c0 N j : Nat} {Cn : String} {f : Nat → Option Nat} {i : Int32} (C : Ok X cc nL y R ret tb) (d : decode cc pc = .ok (.aastore, 1)) (hc : F c0 = some (aQ (xD X) t N f)) (ht : (tysD (xD X).2.2)[t]? = some ((xD X).2.2 t, .object Cn)) (hi : i = nI j) (hj : j < N) (hN : N < 2 ^ 31) (K : V X k n (pc + 1) lv st ad (va_up F c0 (some (aQ (xD X) t N (va_up f j none))))) : V X k n pc lv (.null :: .int i :: .ref (ad c0) :: st) ad F := by
  intro H locs ls hW hS hl
  obtain ⟨⟨ws, hP, hD, hw⟩, hin⟩ := id hW
  obtain ⟨p, hx⟩ := hw _ _ hc
  obtain ⟨h1, h2⟩ := nI_cl hi hj hN
  refine va_astqN C.1 C.2.1 C.ev.1 hP hD hS p t hx ht h1 d (fun H1 locs1 hP1 hD1 hS1 => ?_)
  rw [h2] at hP1 hD1
  exact K H1 locs1 ls (WD.put hin hw hc hx hP1 hD1) hS1 hl
theorem V_alen {t c0 N : Nat} {x : (Nat → Int32) ⊕ (Nat → Int64) ⊕ (Nat → UInt32) ⊕ (Nat → UInt64) ⊕ (Nat → Option Nat)} {ty : FieldType} (C : Ok X cc nL y R ret tb) (d : decode cc pc = .ok (.arraylength, 1)) (hc : F c0 = some (.inl ((xD X).2.2 t, N, x))) (ht : (tysD (xD X).2.2)[t]? = some ((xD X).2.2 t, ty)) (K : V X k n (pc + 1) lv (.int (nI N) :: st) ad F) : V X k n pc lv (.ref (ad c0) :: st) ad F := by
  intro H locs ls hW hS hl
  obtain ⟨⟨ws, hP, hD, hw⟩, -⟩ := id hW
  obtain ⟨p, hx⟩ := hw _ _ hc
  exact va_alen C.1 C.2.1 C.ev.1 hP p t hx ht rfl d (K H locs ls hW hS hl)
theorem V_new {idx ci N : Nat} {fs : List Value} (c0 : Nat) (C : Ok X cc nL y R ret tb) (d : decode cc pc = .ok (.new idx, 3)) (hf : NW y.cls idx ci N fs) (hc : F c0 = none) (h1 : k + 1 ≤ R.cells) (h2 : n + N ≤ R.slots) (K : ∀ q : Nat, V X (k + 1) (n + N) (pc + 3) lv (.ref q :: st) (va_up ad c0 q) (va_up F c0 (some (oB ci fs)))) : V X k n pc lv st ad F := by
  intro H locs ls hW hS hl
  obtain ⟨⟨ws, hP, hD, hw⟩, hi⟩ := id hW
  obtain ⟨Cn, T, ty0, g1, g2, g3, g4, g5, g6, g7⟩ := hf
  have hR := C.room
  exact va_new C.1 C.2.1 C.ts g2 ty0 g3 C.own (C.ts _ g5) (C.ts _ g6) (C.ts _ g7) C.ev.1 hP hD hS C.fresh g1 g4 (by rw [hR]; exact h1) (by rw [hR]; exact h2) d (fun q H1 hP1 hD1 hS1 => K q H1 locs ls (WD.push hi hw hc hP1 hD1) hS1 hl)
theorem tys_same {D : Dx} {cA : ClassId} {t : Nat} {ty : FieldType} {s : State} (hK : va_K (D.1, D.2.1) vwCl (tysD D.2.2) s) (ht : (tysD D.2.2)[t]? = some (D.2.2 t, ty)) (hK1 : va_K (D.1, D.2.1) vwCl (tysD D.2.2 ++ [(cA, ty)]) s) : cA = D.2.2 t := by
  have h1 := (hK.2 t _ ht).2
  have h2 := (hK1.2 6 (cA, ty) (by rfl)).2
  cases ty with
  | object Cn =>
    obtain ⟨_, _, _, _, _, e1⟩ := h1
    obtain ⟨_, _, _, _, _, e2⟩ := h2
    exact Option.some.inj (e2.symm.trans e1)
  | _ => exact Option.some.inj ((show s.vm.findClass _ = some cA from h2).symm.trans h1)
theorem V_newi {N : Nat} {i : Int32} (c0 : Nat) (C : Ok X cc nL y R ret tb) (d : decode cc pc = .ok (.newarray .int, 2)) (hA : Cond.arrayClass .int ∈ ALL) (hc : F c0 = none) (hi : i = nI N) (hN : N * 4 ≤ 536870912) (h1 : k + 1 ≤ R.cells) (h2 : n + N ≤ R.slots) (K : ∀ q : Nat, V X (k + 1) (n + N) (pc + 2) lv (.ref q :: st) (va_up ad c0 q) (va_up F c0 (some (aI (xD X) N (fun _ => 0))))) : V X k n pc lv (.int i :: st) ad F := by
  intro H locs ls hW hS hl
  obtain ⟨⟨ws, hP, hD, hw⟩, hin⟩ := id hW
  have hR := C.room
  have hc1 : i.toNatClampNeg = N := by rw [hi]; exact nI_clamp (by omega)
  refine va_newa (atype := .int) (a0 := (N, .inl (fun _ => 0))) C.1 C.2.1 (C.ts _ hA) rfl C.ev.1 hP hD hS C.fresh (fun _ => rfl) (by rw [hi]; exact nI_pos (by omega)) hc1 hN (by rw [hR]; exact h1) (by rw [hR]; exact h2) d (fun q cA H1 hK1 hP1 hD1 hS1 => ?_)
  cases tys_same (t := 0) C.ev.1 rfl hK1
  exact K q H1 locs ls (WD.push hin hw hc hP1 hD1) hS1 hl
theorem V_newz {N : Nat} {i : Int32} (c0 : Nat) (C : Ok X cc nL y R ret tb) (d : decode cc pc = .ok (.newarray .boolean, 2)) (hA : Cond.arrayClass .boolean ∈ ALL) (hc : F c0 = none) (hi : i = nI N) (hN : N * 4 ≤ 536870912) (h1 : k + 1 ≤ R.cells) (h2 : n + N ≤ R.slots) (K : ∀ q : Nat, V X (k + 1) (n + N) (pc + 2) lv (.ref q :: st) (va_up ad c0 q) (va_up F c0 (some (aZ (xD X) N (fun _ => 0))))) : V X k n pc lv (.int i :: st) ad F := by
  intro H locs ls hW hS hl
  obtain ⟨⟨ws, hP, hD, hw⟩, hin⟩ := id hW
  have hR := C.room
  have hc1 : i.toNatClampNeg = N := by rw [hi]; exact nI_clamp (by omega)
  refine va_newa (atype := .boolean) (a0 := (N, .inl (fun _ => 0))) C.1 C.2.1 (C.ts _ hA) rfl C.ev.1 hP hD hS C.fresh (fun _ => rfl) (by rw [hi]; exact nI_pos (by omega)) hc1 (by show N * 1 ≤ _; omega) (by rw [hR]; exact h1) (by rw [hR]; exact h2) d (fun q cA H1 hK1 hP1 hD1 hS1 => ?_)
  cases tys_same (t := 1) C.ev.1 rfl hK1
  exact K q H1 locs ls (WD.push hin hw hc hP1 hD1) hS1 hl
theorem V_newl {N : Nat} {i : Int32} (c0 : Nat) (C : Ok X cc nL y R ret tb) (d : decode cc pc = .ok (.newarray .long, 2)) (hA : Cond.arrayClass .long ∈ ALL) (hc : F c0 = none) (hi : i = nI N) (hN : N * 8 ≤ 536870912) (h1 : k + 1 ≤ R.cells) (h2 : n + N ≤ R.slots) (K : ∀ q : Nat, V X (k + 1) (n + N) (pc + 2) lv (.ref q :: st) (va_up ad c0 q) (va_up F c0 (some (aJ (xD X) N (fun _ => 0))))) : V X k n pc lv (.int i :: st) ad F := by
  intro H locs ls hW hS hl
  obtain ⟨⟨ws, hP, hD, hw⟩, hin⟩ := id hW
  have hR := C.room
  have hc1 : i.toNatClampNeg = N := by rw [hi]; exact nI_clamp (by omega)
  refine va_newa (atype := .long) (a0 := (N, .inr (.inl (fun _ => 0)))) C.1 C.2.1 (C.ts _ hA) rfl C.ev.1 hP hD hS C.fresh (fun _ => rfl) (by rw [hi]; exact nI_pos (by omega)) hc1 hN (by rw [hR]; exact h1) (by rw [hR]; exact h2) d (fun q cA H1 hK1 hP1 hD1 hS1 => ?_)
  cases tys_same (t := 2) C.ev.1 rfl hK1
  exact K q H1 locs ls (WD.push hin hw hc hP1 hD1) hS1 hl
theorem V_newq {idx t N : Nat} {Cn : String} {i : Int32} (c0 : Nat) (C : Ok X cc nL y R ret tb) (d : decode cc pc = .ok (.anewarray idx, 3)) (hA : Cond.classLink y.cls idx Cn ∈ ALL) (hao : va_AO Cn (xs X)) (ht : (tysD (xD X).2.2)[t]? = some ((xD X).2.2 t, .object Cn)) (hc : F c0 = none) (hi : i = nI N) (hN : N * 4 ≤ 536870912) (h1 : k + 1 ≤ R.cells) (h2 : n + N ≤ R.slots) (K : ∀ q : Nat, V X (k + 1) (n + N) (pc + 3) lv (.ref q :: st) (va_up ad c0 q) (va_up F c0 (some (aQ (xD X) t N (fun _ => none))))) : V X k n pc lv (.int i :: st) ad F := by
  intro H locs ls hW hS hl
  obtain ⟨⟨ws, hP, hD, hw⟩, hin⟩ := id hW
  have hR := C.room
  have hc1 : i.toNatClampNeg = N := by rw [hi]; exact nI_clamp (by omega)
  refine va_newq C.1 C.2.1 C.own (C.ts _ hA) hao C.ev.1 hP hD hS C.fresh (by rw [hi]; exact nI_pos (by omega)) hc1 hN (by rw [hR]; exact h1) (by rw [hR]; exact h2) d (fun q cA H1 hK1 hP1 hD1 hS1 => ?_)
  cases tys_same (t := t) C.ev.1 ht hK1
  exact K q H1 locs ls (WD.push hin hw hc hP1 hD1) hS1 hl
end
section
/-! ===== CONTRACTS over worlds by codes; calls, ends, throws ===== -/
abbrev Pst : Type := Option Value → (Nat → Nat) → Fn → Prop
abbrev Pxt : Type := String → (Nat → Nat) → Fn → Prop
def noX : Pxt := fun _ _ _ => False
def qcP (D : Dx) (b0 : Nat) (Po : Pst) : Array Value → State → Outcome → State → Prop := fun _ st oc t => (∃ (v : Option Value) (ad : Nat → Nat) (F : Fn), oc = .returned v ∧ Po v ad F ∧ WD D b0 ad F t.heap) ∧ va_F (Bo b0) st t
def xcP (D : Dx) (b0 : Nat) (Px : Pxt) : String → State → State → Prop := fun E st t => ∃ (ad : Nat → Nat) (F : Fn), Px E ad F ∧ WD D b0 ad F t.heap ∧ va_F (Bo b0) st t
/-- THE CONTRACT: from the world (ad, F), with these arguments, the method returns with Po or throws with Px -/
def Ct (l : Launch) (D : Dx) (b0 : Nat) (y : MethodName) (ws : List Cond) (rm : Room) (av : List Value) (ad : Nat → Nat) (F : Fn) (Po : Pst) (Px : Pxt) : Prop :=
  l.stackTraces = false → vx_Met l y ws rm (va_Pc av (fun U => Ev D b0 U ∧ WD D b0 ad F U.heap)) (qcP D b0 Po) (xcP D b0 Px) rm.cells rm.slots (Bo b0)
abbrev wsA (y : MethodName) (cc : ByteArray) (maxL : Nat) (ret : Option FieldType) : List Cond := .code y cc maxL ret :: ALL
abbrev wsH (y : MethodName) (cc : ByteArray) (maxL : Nat) (ret : Option FieldType) (hh : List (Nat × Nat × Nat × Nat)) : List Cond := .codeWith y cc maxL ret hh :: ALL
def Rx (X : Cxt) (Po : Pst) (Px : Pxt) : Prop := xQ X = vx_MQ (xo X) (qcP (xD X) (xb X) Po) (xcP (xD X) (xb X) Px) (xa X) (xs X) (xR X).cells (xR X).slots (Bo (xb X))
def enL : Nat → List Value → Lv
  | _, [] => []
  | i, v :: r => (i, v) :: enL (i + 1) r
theorem enL_args : ∀ (vs : List Value) (i : Nat), (∀ q ∈ vs, q.category = 1) → lv_args i vs = enL i vs
  | [], _, _ => rfl
  | v :: r, i, h => by
    have h1 := h v List.mem_cons_self
    simp only [lv_args, enL, h1]
    rw [if_neg (by decide), enL_args r (i + 1) (fun q hq => h q (List.mem_cons_of_mem _ hq))]
theorem enL_mem : ∀ (vs : List Value) (i : Nat) (q : Nat × Value), q ∈ enL i vs → q.1 < i + vs.length ∧ q.2 ∈ vs
  | [], _, q, h => by simp [enL] at h
  | v :: r, i, q, h => by
    rcases List.mem_cons.mp h with rfl | h
    · exact ⟨by simp, List.mem_cons_self⟩
    · have := enL_mem r (i + 1) q h
      exact ⟨by simp only [List.length_cons]; omega, List.mem_cons_of_mem _ this.2⟩
theorem alk_mem : ∀ {lv : Lv} {i : Nat} {v : Value}, alk i lv = some v → (i, v) ∈ lv
  | [], i, v, h => by simp [alk] at h
  | (j, w) :: r, i, v, h => by
    by_cases hj : j = i
    · subst hj
      rw [alk_s] at h
      cases h
      exact List.mem_cons_self
    · rw [alk_n hj] at h
      exact List.mem_cons_of_mem _ (alk_mem h)
theorem sl_len : ∀ (vs : List Value), (∀ q ∈ vs, q.category = 1) → (lg_sl vs).length = vs.length
  | [], _ => rfl
  | v :: r, h => by
    have h1 := h v List.mem_cons_self
    have h2 := sl_len r (fun q hq => h q (List.mem_cons_of_mem _ hq))
    simp only [lg_sl, List.flatMap_cons, List.length_append, List.length_cons] at h2 ⊢
    rw [h1, if_neg (by decide), h2]
    simp [Nat.add_comm]
theorem lh_entry {av : List Value} {n : Nat} (hc : ∀ q ∈ av, q.category = 1) (hn : av.length ≤ n) : lh ((lg_sl av ++ List.replicate (n - (lg_sl av).length) Slot.unset).toArray) n (enL 0 av) := by
  have h := lv_entry av (n := n) (by rw [sl_len av hc]; exact hn)
  rw [enL_args av 0 hc] at h
  refine ⟨⟨h.1, h.2.1, fun q hq => ?_⟩, fun i v hv => ?_⟩
  · obtain ⟨j, w⟩ := q
    exact h.2.2 _ (alk_mem (flatL_mem.mp hq).2)
  · obtain ⟨a1, a2⟩ := enL_mem av 0 (i, v) (alk_mem hv)
    exact ⟨by simp only at a1; omega, hc _ a2⟩
theorem Ct.of {l : Launch} {D : Dx} {b0 : Nat} {y : MethodName} {cc : ByteArray} {maxL : Nat} {ret : Option FieldType} {rm : Room} {av : List Value} {ad : Nat → Nat} {F : Fn} {Po : Pst} {Px : Pxt} (hy : plainName y.cls = true) (hc : ∀ q ∈ av, q.category = 1) (hn : av.length ≤ maxL)
    (body : ∀ X : Cxt, xD X = D → xb X = b0 → xl X = l → Ok X cc maxL y rm ret [] → Rx X Po Px → V X 0 0 0 (enL 0 av) [] ad F) : Ct l D b0 y (wsA y cc maxL ret) rm av ad F Po Px := by
  intro hl0
  refine vx_ofW hy rfl ?_
  intro p e s m args below meth c s₁ B hml hte hv
  obtain ⟨rfl, hEv, hW⟩ := hv
  have hts := atoms_spec (ws := wsA y cc maxL ret) B.pre
  have K := body (p, l, e, rm, s, m, av.toArray, below, meth, c, maxL, D, b0, vx_MQ below (qcP D b0 Po) (xcP D b0 Px) av.toArray s rm.cells rm.slots (Bo b0)) rfl rfl rfl
    ⟨B.exec, B.bytes, hml, findClass_of_methodNamed B.named, fun w h => hts w (List.mem_cons_of_mem _ h), B.notSynchronized, hEv, rfl, B.returns, List.eq_nil_iff_forall_not_mem.mpr hte, (name_of_methodNamed B.named B.method).1, rfl, hl0⟩ rfl
  rw [lg_entry_eq]
  exact K s.heap [] _ hW va_S.rf (lh_entry hc hn)
theorem Ct.ofH {l : Launch} {D : Dx} {b0 : Nat} {y : MethodName} {cc : ByteArray} {maxL : Nat} {ret : Option FieldType} {hh : List (Nat × Nat × Nat × Nat)} {rm : Room} {av : List Value} {ad : Nat → Nat} {F : Fn} {Po : Pst} {Px : Pxt} (hy : plainName y.cls = true) (hc : ∀ q ∈ av, q.category = 1) (hn : av.length ≤ maxL)
    (body : ∀ X : Cxt, xD X = D → xb X = b0 → xl X = l → Ok X cc maxL y rm ret (tableOf hh) → Rx X Po Px → V X 0 0 0 (enL 0 av) [] ad F) : Ct l D b0 y (wsH y cc maxL ret hh) rm av ad F Po Px := by
  intro hl0
  refine vx_ofWH hy rfl ?_
  intro p e s m args below meth c s₁ B hml hv
  obtain ⟨rfl, hEv, hW⟩ := hv
  have hts := atoms_spec (ws := wsH y cc maxL ret hh) B.pre
  have K := body (p, l, e, rm, s, m, av.toArray, below, meth, c, maxL, D, b0, vx_MQ below (qcP D b0 Po) (xcP D b0 Px) av.toArray s rm.cells rm.slots (Bo b0)) rfl rfl rfl
    ⟨B.exec, B.bytes, hml, findClass_of_methodNamed B.named, fun w h => hts w (List.mem_cons_of_mem _ h), B.notSynchronized, hEv, rfl, B.returns, vx_table (x := y) B (hts _ List.mem_cons_self), (name_of_methodNamed B.named B.method).1, rfl, hl0⟩ rfl
  rw [lg_entry_eq]
  exact K s.heap [] _ hW va_S.rf (lh_entry hc hn)
/-- a contract says less, of a smaller world's facts -/
theorem Ct.weaken {l : Launch} {D : Dx} {b0 : Nat} {y : MethodName} {ws : List Cond} {rm : Room} {av : List Value} {ad : Nat → Nat} {F : Fn} {Po Po' : Pst} {Px Px' : Pxt} (h : Ct l D b0 y ws rm av ad F Po Px) (hp : ∀ v a G, Po v a G → Po' v a G) (hx : ∀ E a G, Px E a G → Px' E a G) : Ct l D b0 y ws rm av ad F Po' Px' := by
  intro hl
  intro p e ha hc hk s m args below hf happ hP hK
  obtain ⟨t, o, h1, h2, h3, h4⟩ := h hl p e ha hc hk s m args below hf happ hP hK
  refine ⟨t, o, h1, h2, h3, ?_⟩
  rcases h4 with ⟨⟨⟨v, a, G, e1, e2, e3⟩, e4⟩, e5⟩ | ⟨q, e0, E, ce, L, ⟨a, G, e1, e2, e3⟩, e5⟩
  · exact Or.inl ⟨⟨⟨v, a, G, e1, hp _ _ _ e2, e3⟩, e4⟩, e5⟩
  · exact Or.inr ⟨q, e0, E, ce, L, ⟨a, G, hx _ _ _ e1, e2, e3⟩, e5⟩
variable {X : Cxt} {cc : ByteArray} {nL : Nat} {y : MethodName} {R : Room} {ret : Option FieldType} {tb : List ExceptionTableEntry} {k n pc : Nat} {lv : Lv} {st : List Value} {ad : Nat → Nat} {F : Fn} {Po : Pst} {Px : Pxt}
/-- the frame, with an exception of the class E over it -/
def VT (X : Cxt) (k n pc : Nat) (lv : Lv) (rest : List Value) (ad : Nat → Nat) (F : Fn) (E : String) : Prop :=
  ∀ (H : Heap) (locs : List Loc) (ls : Array Slot) (q : Addr) (ce : Cell), WD (xD X) (xb X) ad F H → va_S (Bo (xb X)) (xs X).heap H locs → lh ls (xn X) lv → H[q]? = some ce → ce.vm = .none → (xs X).vm.findClass E = some ce.cls →
    vx_W (xp X) (xl X) (xe X) (xR X) (xs X) (xm X) (xa X) (xo X) (xt X) (xc X) H locs k n (xQ X) (F0 (xm X) pc ls rest) q
theorem V_ofRun {mc ms : Nat} {rest : List Value} {a : Array Value} {Po Px} (hr : ∀ (H : Heap) (locs : List Loc) (ls : Array Slot), WD (xD X) (xb X) ad F H → va_S (Bo (xb X)) (xs X).heap H locs → lh ls (xn X) lv →
      vx_Run (xp X) (xl X) (xe X) (xR X) (xs X) (xm X) (xa X) (xo X) (xt X) (xc X) H locs k n mc ms (F0 (xm X) pc ls st) rest (qcP (xD X) (xb X) Po a) (xcP (xD X) (xb X) Px) (Bo (xb X)))
    (Kx : ∀ (E : String) (ad' : Nat → Nat) (F' : Fn), Px E ad' F' → VT X (k + mc) (n + ms) pc lv rest ad' F' E)
    (K : ∀ (v : Option Value) (ad' : Nat → Nat) (F' : Fn), Po v ad' F' → V X (k + mc) (n + ms) (pc + 3) lv (v.toList ++ rest) ad' F') : V X k n pc lv st ad F := by
  intro H locs ls hW hS hl T hT XX
  rcases hr H locs ls hW hS hl T hT XX with ⟨v, st₀, t, T', L, h0, X', hL, e1, e2, ⟨⟨v', ad', F', hv, hp, hw⟩, hF⟩, go⟩ | ⟨q, st₀, t, T', L, E, ce, h0, X', hL, e1, e2, ⟨ad', F', hp, hw, hF⟩, hce, hcv, hcl, go⟩
  · cases hv
    obtain ⟨k1, k2, k3⟩ := vx_keep h0 e1 hS (fun _ _ h => h) (fun _ h => h) hL hF
    obtain ⟨t2, a1, b1⟩ := K v ad' F' hp T'.heap (locs ++ L) ls (by rw [e1]; exact hw) k3 hl T' rfl X'
    exact ⟨t2, go t2 a1, b1⟩
  · obtain ⟨k1, k2, k3⟩ := vx_keep h0 e1 hS (fun _ _ h => h) (fun _ h => h) hL hF
    obtain ⟨t2, a1, b1⟩ := Kx E ad' F' hp T'.heap (locs ++ L) ls q ce (by rw [e1]; exact hw) k3 hl (by rw [e1]; exact hce) hcv hcl T' rfl X'
    exact ⟨t2, go.trans a1, b1⟩
theorem pre_blind {D : Dx} {b0 : Nat} {av : List Value} : FrameBlind (va_Pc av (fun U => Ev D b0 U ∧ WD D b0 ad F U.heap)) := fun _ _ _ _ h => ⟨h.1, h.2.1.blind, h.2.2⟩
theorem pre_at (C : Ok X cc nL y R ret tb) {H : Heap} {locs : List Loc} {av : List Value} (hW : WD (xD X) (xb X) ad F H) (hS : va_S (Bo (xb X)) (xs X).heap H locs) : ∀ U : State, U.heap = H → (xs X).WarmedH U.vm → va_Pc av (fun U => Ev (xD X) (xb X) U ∧ WD (xD X) (xb X) ad F U.heap) av.toArray U :=
  fun U hU hWm => ⟨rfl, C.ev.moved hWm (by rw [hU]; exact hS.1) (fun q h1 h2 => by rw [hU]; exact hS.2.1 q h1 h2), by rw [hU]; exact hW⟩
theorem goodALL : GoodIn ALL ALL := goodIn_sub (fun _ h => h) (by decide +kernel)
/-- what a caller of the class own needs of the method yc, by its pool's entry idx -/
def MB (yc : MethodName) (bytes : ByteArray) (maxL : Nat) (retc : Option FieldType) (na : Nat) : Prop := Cond.code yc bytes maxL retc ∈ ALL ∧ Cond.initialized yc.cls ∈ ALL ∧
  (yc.cls ≠ "java/lang/invoke/MethodHandle" ∧ yc.cls ≠ "java/lang/invoke/VarHandle" ∧ (parseMethodDescriptor yc.desc).map (fun d => d.parameters.length) = some na)
def MV (own : String) (idx : Nat) (yc : MethodName) (bytes : ByteArray) (maxL : Nat) (retc : Option FieldType) (na : Nat) : Prop := MB yc bytes maxL retc na ∧ Cond.methodLink own idx yc ∈ ALL ∧ Cond.instanceMethod yc ∈ ALL ∧ Cond.selects yc.cls yc yc ∈ ALL
def MS (own : String) (idx : Nat) (yc : MethodName) (bytes : ByteArray) (maxL : Nat) (retc : Option FieldType) (na : Nat) : Prop := MB yc bytes maxL retc na ∧ Cond.methodLink own idx yc ∈ ALL ∧ Cond.static yc ∈ ALL
def MI (own : String) (idx : Nat) (yc : MethodName) (bytes : ByteArray) (maxL na : Nat) : Prop := MB yc bytes maxL none na ∧ yc.name = "<init>" ∧ Cond.instanceMethod yc ∈ ALL ∧ (Cond.methodLink own idx yc ∈ ALL ∨ (own, idx, yc) ∈ nestM)
def MH (own : String) (idx : Nat) (yc : MethodName) (bytes : ByteArray) (maxL : Nat) (retc : Option FieldType) (hh : List (Nat × Nat × Nat × Nat)) (na : Nat) : Prop := Cond.codeWith yc bytes maxL retc hh ∈ ALL ∧ Cond.initialized yc.cls ∈ ALL ∧
  (yc.cls ≠ "java/lang/invoke/MethodHandle" ∧ yc.cls ≠ "java/lang/invoke/VarHandle" ∧ (parseMethodDescriptor yc.desc).map (fun d => d.parameters.length) = some na) ∧ Cond.methodLink own idx yc ∈ ALL ∧ Cond.static yc ∈ ALL
theorem MB.good {yc : MethodName} {bytes : ByteArray} {maxL na : Nat} {retc : Option FieldType} (h : MB yc bytes maxL retc na) : GoodIn ALL (wsA yc bytes maxL retc) := fun w hw => by
  rcases List.mem_cons.mp hw with rfl | hw
  · exact goodALL _ h.1
  · exact goodALL _ hw
theorem MB.callB (C : Ok X cc nL y R ret tb) {idx maxL na : Nat} {yc : MethodName} {bytes : ByteArray} {retc : Option FieldType} {rm : Room} (h : MB yc bytes maxL retc na) (hl : Cond.methodLink y.cls idx yc ∈ ALL) (hR : rm.frames + 1 ≤ R.frames ∧ 8 + (maxL + 11) + rm.locals ≤ R.locals) : CallB (xR X) (xs X) (xa X) y.cls idx yc bytes maxL retc (wsA yc bytes maxL retc) rm rm.cells rm.slots na :=
  callB_of na C.ts h.good rfl rfl rfl (C.ts _ h.2.1) (C.ts _ hl) h.2.2 (by rw [C.room]; exact hR)
theorem V_invV {idx maxL c0 ci : Nat} {yc : MethodName} {bytes : ByteArray} {retc : Option FieldType} {rm : Room} {As rest fs : List Value} {T : u_T} {N : Nat} {Pc Xc} (C : Ok X cc nL y R ret tb) (d : decode cc pc = .ok (.invokevirtual idx, 3))
    (hc : F c0 = some (oB ci fs)) (hcl : vwCl[ci]? = some (yc.cls, T, N)) (hM : Ct (xl X) (xD X) (xb X) yc (wsA yc bytes maxL retc) rm (.ref (ad c0) :: As) ad F Pc Xc) (hg : MV y.cls idx yc bytes maxL retc As.length) (hst : st = As.reverse ++ .ref (ad c0) :: rest)
    (hcat : (rest.map fun v => v.category).sum ≤ 8) (hR : rm.frames + 1 ≤ R.frames ∧ 8 + (maxL + 11) + rm.locals ≤ R.locals) (hk : k + rm.cells ≤ R.cells ∧ n + rm.slots ≤ R.slots)
    (Kx : ∀ (E : String) (ad' : Nat → Nat) (F' : Fn), Xc E ad' F' → VT X (k + rm.cells) (n + rm.slots) pc lv rest ad' F' E)
    (K : ∀ (v : Option Value) (ad' : Nat → Nat) (F' : Fn), Pc v ad' F' → V X (k + rm.cells) (n + rm.slots) (pc + 3) lv (v.toList ++ rest) ad' F') : V X k n pc lv st ad F := by
  subst hst
  refine V_ofRun (a := (Value.ref (ad c0) :: As).toArray) (fun H locs ls hW hS hl => ?_) Kx K
  obtain ⟨⟨ws, hP, hD, hw⟩, -⟩ := id hW
  obtain ⟨i, hx⟩ := hw _ _ hc
  exact vx_runV ⟨C.1, C.2.1, C.2.2.1, C.own, C.ts⟩ (hM C.notr) ⟨hg.1.callB C hg.2.1 hR, C.ts _ hg.2.2.1, C.ts _ hg.2.2.2⟩ ⟨pre_blind, va_recv C.ev.1 hP hcl hx, pre_at C hW hS⟩ rfl rfl hl.1.1 rfl (by show 2 * 0 + _ ≤ 8; omega) d (by rw [C.room]; exact hk)
theorem V_invS {idx maxL : Nat} {yc : MethodName} {bytes : ByteArray} {retc : Option FieldType} {rm : Room} {As rest : List Value} {Pc Xc} (C : Ok X cc nL y R ret tb) (d : decode cc pc = .ok (.invokestatic idx, 3))
    (hM : Ct (xl X) (xD X) (xb X) yc (wsA yc bytes maxL retc) rm As ad F Pc Xc) (hg : MS y.cls idx yc bytes maxL retc As.length) (hst : st = As.reverse ++ rest)
    (hcat : (rest.map fun v => v.category).sum ≤ 8) (hR : rm.frames + 1 ≤ R.frames ∧ 8 + (maxL + 11) + rm.locals ≤ R.locals) (hk : k + rm.cells ≤ R.cells ∧ n + rm.slots ≤ R.slots)
    (Kx : ∀ (E : String) (ad' : Nat → Nat) (F' : Fn), Xc E ad' F' → VT X (k + rm.cells) (n + rm.slots) pc lv rest ad' F' E)
    (K : ∀ (v : Option Value) (ad' : Nat → Nat) (F' : Fn), Pc v ad' F' → V X (k + rm.cells) (n + rm.slots) (pc + 3) lv (v.toList ++ rest) ad' F') : V X k n pc lv st ad F := by
  subst hst
  refine V_ofRun (a := As.toArray) (fun H locs ls hW hS hl => ?_) Kx K
  exact vx_runS ⟨C.1, C.2.1, C.2.2.1, C.own, C.ts⟩ (hM C.notr) ⟨hg.1.callB C hg.2.1 hR, C.ts _ hg.2.2⟩ ⟨pre_blind, pre_at C hW hS⟩ rfl rfl hl.1.1 rfl (by show 2 * 0 + _ ≤ 8; omega) d (by rw [C.room]; exact hk)
theorem V_invH {idx maxL : Nat} {yc : MethodName} {bytes : ByteArray} {retc : Option FieldType} {hh : List (Nat × Nat × Nat × Nat)} {rm : Room} {As rest : List Value} {Pc Xc} (C : Ok X cc nL y R ret tb) (d : decode cc pc = .ok (.invokestatic idx, 3))
    (hM : Ct (xl X) (xD X) (xb X) yc (wsH yc bytes maxL retc hh) rm As ad F Pc Xc) (hg : MH y.cls idx yc bytes maxL retc hh As.length) (hst : st = As.reverse ++ rest)
    (hcat : (rest.map fun v => v.category).sum ≤ 8) (hR : rm.frames + 1 ≤ R.frames ∧ 8 + (maxL + 11) + rm.locals ≤ R.locals) (hk : k + rm.cells ≤ R.cells ∧ n + rm.slots ≤ R.slots)
    (Kx : ∀ (E : String) (ad' : Nat → Nat) (F' : Fn), Xc E ad' F' → VT X (k + rm.cells) (n + rm.slots) pc lv rest ad' F' E)
    (K : ∀ (v : Option Value) (ad' : Nat → Nat) (F' : Fn), Pc v ad' F' → V X (k + rm.cells) (n + rm.slots) (pc + 3) lv (v.toList ++ rest) ad' F') : V X k n pc lv st ad F := by
  subst hst
  refine V_ofRun (a := As.toArray) (fun H locs ls hW hS hl => ?_) Kx K
  obtain ⟨h1, h2, h3, h4, h5⟩ := hg
  have hG : GoodIn ALL (va_wsS y.cls idx yc (wsH yc bytes maxL retc hh)) := fun w hw => by
    unfold va_wsS at hw
    simp only [List.mem_append, List.mem_cons, List.not_mem_nil, or_false] at hw
    rcases hw with (rfl | rfl | rfl) | rfl | hw
    · exact goodALL _ h4
    · exact goodALL _ h5
    · exact goodALL _ h2
    · exact goodALL _ h1
    · exact goodALL _ hw
  exact vx_runSX ⟨C.1, C.2.1, C.2.2.1, C.own, C.ts⟩ (hM C.notr) (vx_cwSW As.length C.ts hG rfl rfl rfl h3 (by rw [C.room]; exact hR)) ⟨pre_blind, pre_at C hW hS⟩ rfl rfl hl.1.1 rfl (by show 2 * 0 + _ ≤ 8; omega) d (by rw [C.room]; exact hk)
theorem V_invI {idx maxL b : Nat} {yc : MethodName} {bytes : ByteArray} {rm : Room} {As rest : List Value} {Pc Xc} (C : Ok X cc nL y R ret tb) (d : decode cc pc = .ok (.invokespecial idx, 3))
    (hM : Ct (xl X) (xD X) (xb X) yc (wsA yc bytes maxL none) rm (.ref b :: As) ad F Pc Xc) (hg : MI y.cls idx yc bytes maxL As.length) (hst : st = As.reverse ++ .ref b :: rest)
    (hcat : (rest.map fun v => v.category).sum ≤ 8) (hR : rm.frames + 1 ≤ R.frames ∧ 8 + (maxL + 11) + rm.locals ≤ R.locals) (hk : k + rm.cells ≤ R.cells ∧ n + rm.slots ≤ R.slots)
    (Kx : ∀ (E : String) (ad' : Nat → Nat) (F' : Fn), Xc E ad' F' → VT X (k + rm.cells) (n + rm.slots) pc lv rest ad' F' E)
    (K : ∀ (v : Option Value) (ad' : Nat → Nat) (F' : Fn), Pc v ad' F' → V X (k + rm.cells) (n + rm.slots) (pc + 3) lv (v.toList ++ rest) ad' F') : V X k n pc lv st ad F := by
  subst hst
  refine V_ofRun (a := (Value.ref b :: As).toArray) (fun H locs ls hW hS hl => ?_) Kx K
  obtain ⟨h1, h2, h3, h4⟩ := hg
  rcases h4 with h4 | h4
  · exact vx_runI ⟨C.1, C.2.1, C.2.2.1, C.own, C.ts⟩ (hM C.notr) ⟨h1.callB C h4 hR, h2, C.ts _ h3⟩ ⟨pre_blind, pre_at C hW hS⟩ rfl rfl hl.1.1 rfl (by show 2 * 0 + _ ≤ 8; omega) d (by rw [C.room]; exact hk)
  · exact vx_runIN ⟨C.1, C.2.1, C.2.2.1, C.own, C.ts⟩ (hM C.notr) ⟨va_cnB As.length C.ts h1.good rfl rfl rfl (C.ev.2.2.1 _ h4) (C.ts _ h1.2.1) h1.2.2 (by rw [C.room]; exact hR), h2, C.ts _ h3⟩ ⟨pre_blind, pre_at C hW hS⟩ rfl rfl hl.1.1 rfl (by show 2 * 0 + _ ≤ 8; omega) d (by rw [C.room]; exact hk)
theorem VT_no {E : String} {rest : List Value} : noX E ad F → VT X k n pc lv rest ad F E := fun h => h.elim
theorem V_objInit {idx b : Nat} (C : Ok X cc nL y R ret tb) (d : decode cc pc = .ok (.invokespecial idx, 3)) (h1 : Cond.methodLink y.cls idx objectInit ∈ ALL) (h2 : Cond.instanceMethod objectInit ∈ ALL) (h3 : Cond.code objectInit ⟨#[0xb1]⟩ 1 none ∈ ALL) (hf : 1 ≤ R.frames) (hlo : 12 ≤ R.locals) (hst : st = []) (K : V X k n (pc + 3) lv st ad F) : V X k n pc lv (.ref b :: st) ad F := by
  subst hst
  intro H locs ls hW hS hl
  refine W.objInit C.1 C.2.1 C.own (C.ts _ h1) (C.ts _ h2) (C.ts _ h3) rfl (by rw [C.2.2.1]; exact hl.1.1) rfl d (by rw [C.room]; exact hf) (by rw [C.room]; exact hlo) ?_
  exact K H locs ls hW hS hl
theorem V_ireturn {v : Int32} {ty : FieldType} (C : Ok X cc nL y R (some ty) tb) (Q : Rx X Po Px) (d : decode cc pc = .ok (.ireturn, 1)) (hn : narrow ty (.int v) = .int v) (hk : k ≤ R.cells) (hs : n ≤ R.slots) (h : Po (some (.int v)) ad F) : V X k n pc lv [.int v] ad F := by
  intro H locs ls hW hS hl
  rw [Q, C.room]
  refine W.widen hk hs (vx_ret ?_)
  exact W.zret C.1 C.2.1 C.rty hn (fun t ht _ => ⟨⟨_, ad, F, rfl, h, by rw [ht]; exact hW⟩, hS.F ht⟩) hS.2.2 d C.2.2.2.2.2.1
theorem V_return (C : Ok X cc nL y R none tb) (Q : Rx X Po Px) (d : decode cc pc = .ok (.return_, 1)) (hk : k ≤ R.cells) (hs : n ≤ R.slots) (h : Po none ad F) : V X k n pc lv [] ad F := by
  intro H locs ls hW hS hl
  rw [Q, C.room]
  refine W.widen hk hs (vx_ret ?_)
  exact W.vret C.1 C.2.1 C.rty (fun t ht _ => ⟨⟨_, ad, F, rfl, h, by rw [ht]; exact hW⟩, hS.F ht⟩) hS.2.2 d C.2.2.2.2.2.1
theorem V_areturn {v : Value} {ty : FieldType} (C : Ok X cc nL y R (some ty) tb) (Q : Rx X Po Px) (d : decode cc pc = .ok (.areturn, 1)) (hty : (∃ n, ty = .object n) ∨ ∃ t, ty = .array t) (hv : v = .null ∨ ∃ a, v = .ref a) (hk : k ≤ R.cells) (hs : n ≤ R.slots) (h : Po (some v) ad F) : V X k n pc lv [v] ad F := by
  intro H locs ls hW hS hl
  rw [Q, C.room]
  refine W.widen hk hs (vx_ret ?_)
  exact W.aret C.1 C.2.1 C.rty hty hv (fun t ht _ => ⟨⟨_, ad, F, rfl, h, by rw [ht]; exact hW⟩, hS.F ht⟩) hS.2.2 d C.2.2.2.2.2.1
theorem VT_out {E : String} {rest : List Value} (C : Ok X cc nL y R ret []) (Q : Rx X Po Px) (hk : k ≤ R.cells) (hs : n ≤ R.slots) (h : Px E ad F) : VT X k n pc lv rest ad F E := by
  intro H locs ls q ce hW hS hl h1 h2 h3
  rw [Q, C.room]
  exact vx_out (by rw [C.tab]; exact fun _ h => nomatch h) C.2.2.2.2.2.1 h1 h2 h3 (fun t ht _ => ⟨ad, F, h, by rw [ht]; exact hW, hS.F ht⟩) hS.2.2 hk hs
theorem VT_catch {E : String} {rest : List Value} (pre : List ExceptionTableEntry) (x : ExceptionTableEntry) (suf : List ExceptionTableEntry) (C : Ok X cc nL y R ret tb) (hsplit : tb = pre ++ x :: suf) (hpass : ∀ z ∈ pre, covers z pc = false ∨ (z.catchType ≠ 0 ∧ ∃ nm : String, Cond.classLink y.cls z.catchType nm ∈ ALL ∧ (E, nm) ∈ notC)) (hx : covers x pc = true) (h0 : x.catchType ≠ 0) (hl : Cond.classLink y.cls x.catchType E ∈ ALL) (hE : E ∈ excW) (K : ∀ q : Nat, V X k n x.handlerPc lv [.ref q] ad F) : VT X k n pc lv rest ad F E := by
  intro H locs ls q ce hW hS hlh h1 h2 h3
  exact vx_catch C.own pre x suf (C.tab.trans hsplit) (fun z hz => (hpass z hz).imp id fun h => ⟨h.1, h.2.imp fun nm hn => ⟨C.ts _ hn.1, C.ev.2.2.2.2.1 _ hn.2⟩⟩) hx h0 (C.ts _ hl) (va_Nw.use rfl (C.ev.2.2.2.2.2.1.1 _ hE)) h1 h2 h3 (K q H locs ls hW hS hlh)
def exN : List String := ["java/lang/RuntimeException", "java/lang/Exception"]
/-- the words of 'throw new E(text)' -/
def TH (ik is ic : Nat) (E text : String) : Prop := Bundle.fit E = true ∧ Cond.classLink RX6 ik E ∈ ALL ∧ Cond.initialized E ∈ ALL ∧ (is, text) ∈ strW ∧ E ∈ excW ∧ (∀ w ∈ (vx_atS RX6 ic E exN).filter goodWord, w ∈ ALL) ∧ (∀ w ∈ (vx_atS RX6 ic E exN).filter (fun w => !goodWord w), w ∈ Cond.castable E E :: decW.map Cond.declares) ∧ (∀ w ∈ Cond.classLink RX6 ik E :: Cond.initialized E :: vx_atS RX6 ic E exN, vx_ot w = true)
theorem TH.hat {ik is ic : Nat} {E text : String} (C : Ok X cc nL y R ret tb) (h : TH ik is ic E text) : ∀ w ∈ vx_atS RX6 ic E exN, w.before (xa X) (xs X) = true :=
  vx_hat (fun w hw => C.ts _ (h.2.2.2.2.2.1 w hw)) h.2.2.2.2.2.2.1 (vx_c (va_Nw.use rfl (C.ev.2.2.2.2.2.1.1 _ h.2.2.2.2.1)) (fun w hw => by
    obtain ⟨q, hq, rfl⟩ := List.mem_map.mp hw
    exact va_Nw.use rfl (C.ev.2.2.2.2.2.1.2.1 _ hq)))
theorem exN_fit : ∀ n ∈ exN, Bundle.fit n = true := by decide +kernel
theorem V_throwS {ik is ic : Nat} {E text : String} (C : Ok X cc nL y R ret []) (Q : Rx X Po Px) (ho : y.cls = RX6) (h : TH ik is ic E text)
    (d0 : decode cc pc = .ok (.new ik, 3)) (d3 : decode cc (pc + 3) = .ok (.dup, 1)) (d4 : decode cc (pc + 4) = .ok (.ldc is, 2)) (d6 : decode cc (pc + 6) = .ok (.invokespecial ic, 3)) (d9 : decode cc (pc + 9) = .ok (.athrow, 1))
    (hR : 5 < R.frames ∧ (st.map fun v => v.category).sum + 82 ≤ R.locals) (hk : k + 1 ≤ R.cells) (hs : n + 6 ≤ R.slots) (hp : Px E ad F) : V X k n pc lv st ad F := by
  intro H locs ls hW hS hl
  obtain ⟨a, ha⟩ := C.ev.2.2.2.1 _ h.2.2.2.1
  have hown : (xs X).vm.findClass RX6 = some (xm X).cls := by rw [← ho]; exact C.own
  rw [Q, C.room]
  refine vx_throwS (names := exN) C.1 C.2.1 C.notr hown h.1 exN_fit (C.ts _ h.2.1) (C.ts _ h.2.2.1) ha (h.hat C) h.2.2.2.2.2.2.2 C.ev.2.2.2.2.2.2.2.1 C.ev.2.2.2.2.2.2.2.2.1 hS (by rw [C.2.2.1]; exact hl.1.1) d0 d3 d4 d6 d9 (by rw [C.tab]; exact fun _ h => nomatch h) ?_ ?_ hk hs C.2.2.2.2.2.1 (fun t _ h1 h2 => ⟨ad, F, hp, hW.kept h2, ⟨Nat.le_trans hS.1 h1, fun q g1 g2 => (h2 q (Nat.lt_of_lt_of_le g1 hS.1)).trans (hS.2.1 q g1 g2)⟩⟩) hS.2.2 hk hs
  · exact hR.1
  · exact hR.2
theorem V_throwSW {ik is ic : Nat} {E text : String} (C : Ok X cc nL y R ret []) (Q : Rx X Po Px) (ho : y.cls = RX6) (h : TH ik is ic E text)
    (d0 : decode cc pc = .ok (.new ik, 3)) (d3 : decode cc (pc + 3) = .ok (.dup, 1)) (d4 : decode cc (pc + 4) = .ok (.ldc_w is, 3)) (d7 : decode cc (pc + 7) = .ok (.invokespecial ic, 3)) (d10 : decode cc (pc + 10) = .ok (.athrow, 1))
    (hR : 5 < R.frames ∧ (st.map fun v => v.category).sum + 82 ≤ R.locals) (hk : k + 1 ≤ R.cells) (hs : n + 6 ≤ R.slots) (hp : Px E ad F) : V X k n pc lv st ad F := by
  intro H locs ls hW hS hl
  obtain ⟨a, ha⟩ := C.ev.2.2.2.1 _ h.2.2.2.1
  have hown : (xs X).vm.findClass RX6 = some (xm X).cls := by rw [← ho]; exact C.own
  rw [Q, C.room]
  refine vx_throwSW (names := exN) C.1 C.2.1 C.notr hown h.1 exN_fit (C.ts _ h.2.1) (C.ts _ h.2.2.1) ha (h.hat C) h.2.2.2.2.2.2.2 C.ev.2.2.2.2.2.2.2.1 C.ev.2.2.2.2.2.2.2.2.1 hS (by rw [C.2.2.1]; exact hl.1.1) d0 d3 d4 d7 d10 (by rw [C.tab]; exact fun _ h => nomatch h) ?_ ?_ hk hs C.2.2.2.2.2.1 (fun t _ h1 h2 => ⟨ad, F, hp, hW.kept h2, ⟨Nat.le_trans hS.1 h1, fun q g1 g2 => (h2 q (Nat.lt_of_lt_of_le g1 hS.1)).trans (hS.2.1 q g1 g2)⟩⟩) hS.2.2 hk hs
  · exact hR.1
  · exact hR.2
/-! System.arraycopy of ints, Math.min -/
theorem V_copyi {idx ca cb na nb sp dp m : Nat} {f g : Nat → Int32} {isp idp im : Int32} (C : Ok X cc nL y R ret tb) (d : decode cc pc = .ok (.invokestatic idx, 3)) (h1 : Cond.methodLink y.cls idx arraycopyName ∈ ALL) (h2 : Cond.native arraycopyName ∈ ALL) (h3 : Cond.static arraycopyName ∈ ALL) (h4 : Cond.initialized "java/lang/System" ∈ ALL)
    (ha : F ca = some (aI (xD X) na f)) (hb : F cb = some (aI (xD X) nb g)) (e1 : isp = nI sp) (e2 : idp = nI dp) (e3 : im = nI m) (l1 : sp + m ≤ na) (l2 : dp + m ≤ nb) (hN : na < 2 ^ 31 ∧ nb < 2 ^ 31) (hf : 1 ≤ R.frames) (hlo : (st.map fun v => v.category).sum + (nativeFrameWords "java/lang/System" "arraycopy" 5 + 11) ≤ R.locals)
    (K : V X k n (pc + 3) lv st ad (va_up F cb (some (aI (xD X) nb (va_cpy f g sp dp m))))) : V X k n pc lv (.int im :: .int idp :: .ref (ad cb) :: .int isp :: .ref (ad ca) :: st) ad F := by
  intro H locs ls hW hS hl
  obtain ⟨⟨ws, hP, hD, hw⟩, hin⟩ := id hW
  obtain ⟨pa, hxa⟩ := hw _ _ ha
  obtain ⟨pb, hxb⟩ := hw _ _ hb
  subst e1; subst e2; subst e3
  have c1 : (nI sp).toNatClampNeg = sp := nI_clamp (by omega)
  have c2 : (nI dp).toNatClampNeg = dp := nI_clamp (by omega)
  have c3 : (nI m).toNatClampNeg = m := nI_clamp (by omega)
  have hR := C.room
  refine va_copyi C.1 C.2.1 (by rw [C.2.2.1]; exact hl.1.1.symm) C.own (C.ts _ h1) (C.ts _ h2) (C.ts _ h3) (C.ts _ h4) C.ev.1 hP hD hS pa pb 0 0 hxa hxb rfl rfl rfl (nI_pos (by omega)) (nI_pos (by omega)) (nI_pos (by omega)) (by rw [c1, c3]; exact l1) (by rw [c2, c3]; exact l2) (fun _ _ => rfl) (by rw [hR]; exact hf) (by rw [hR]; exact hlo) d (fun H1 locs1 hP1 hD1 hS1 => ?_)
  rw [c1, c2, c3] at hP1 hD1
  exact K H1 locs1 ls (WD.put hin hw hb hxb hP1 hD1) hS1 hl
theorem V_min {idx : Nat} {x z : Int32} (C : Ok X cc nL y R ret tb) (d : decode cc pc = .ok (.invokestatic idx, 3)) (h1 : Cond.methodLink y.cls idx Lib.Math.min.name ∈ ALL) (h2 : Cond.static Lib.Math.min.name ∈ ALL) (h3 : Cond.initialized "java/lang/Math" ∈ ALL) (h4 : Cond.code Lib.Math.min.name Lib.Math.min.code 2 (some .int) ∈ ALL)
    (hf : 1 ≤ R.frames) (hlo : (st.map fun v => v.category).sum + 13 ≤ R.locals) (hk : k ≤ R.cells) (hs : n ≤ R.slots) (K : V X k n (pc + 3) lv (.int (if z < x then z else x) :: st) ad F) : V X k n pc lv (.int z :: .int x :: st) ad F := by
  intro H locs ls hW hS hl
  have hR := C.room
  exact va_mmin C.1 C.2.1 (by rw [C.2.2.1]; exact hl.1.1.symm) C.own (C.ts _ h1) (C.ts _ h2) (C.ts _ h3) (C.ts _ h4) (by rw [hR]; exact hf) (by rw [hR]; exact hlo) (by rw [hR]; exact hk) (by rw [hR]; exact hs) d (K H locs ls hW hS hl)
/-! stores whose world gets a name -/
theorem up_or {F F' : Fn} {c0 : Nat} {e : va_E} (h : F' = va_up F c0 (some e)) : F' c0 = some e ∧ ∀ c : Nat, c ≠ c0 → F' c = F c := by
  subst h
  exact ⟨up_s, fun c hc => up_n hc⟩
theorem fr_step {F F0 F1 : Fn} {c0 : Nat} {L : List Nat} (h : ∀ c : Nat, c ∉ L → F c = F0 c) (h1 : ∀ c : Nat, c ≠ c0 → F1 c = F c) (hm : c0 ∈ L) : ∀ c : Nat, c ∉ L → F1 c = F0 c := fun c hc => (h1 c (fun e => hc (e ▸ hm))).trans (h c hc)
theorem fr_join {F F0 F1 : Fn} {L L1 : List Nat} (h : ∀ c : Nat, c ∉ L → F c = F0 c) (h1 : ∀ c : Nat, c ∉ L1 → F1 c = F c) (hm : ∀ c ∈ L1, c ∈ L) : ∀ c : Nat, c ∉ L → F1 c = F0 c := fun c hc => (h1 c (fun e => hc (hm c e))).trans (h c hc)
theorem G_put {idx ci kf c0 : Nat} {fs : List Value} {v : Value} {ty : FieldType} (C : Ok X cc nL y R ret tb) (d : decode cc pc = .ok (.putfield idx, 3)) (hf : FP y.cls idx ci kf false ty) (hc : F c0 = some (oB ci fs)) (hn : narrow ty v = v) (hfit : fits ty v = true) (hlt : kf < fs.length) (K : ∀ F' : Fn, F' c0 = some (oB ci (fs.set kf v)) → (∀ c : Nat, c ≠ c0 → F' c = F c) → V X k n (pc + 3) lv st ad F') : V X k n pc lv (v :: .ref (ad c0) :: st) ad F :=
  V_put C d hf hc hn hfit hlt (K _ (up_or rfl).1 (up_or rfl).2)
theorem G_putF {idx ci kf c0 : Nat} {fs : List Value} {v : Value} {ty : FieldType} (C : Ok X cc nL y R ret tb) (hin : y.name = "<init>") (d : decode cc pc = .ok (.putfield idx, 3)) (hf : FP y.cls idx ci kf true ty) (hc : F c0 = some (oB ci fs)) (hn : narrow ty v = v) (hfit : fits ty v = true) (hlt : kf < fs.length) (K : ∀ F' : Fn, F' c0 = some (oB ci (fs.set kf v)) → (∀ c : Nat, c ≠ c0 → F' c = F c) → V X k n (pc + 3) lv st ad F') : V X k n pc lv (v :: .ref (ad c0) :: st) ad F :=
  V_putF C hin d hf hc hn hfit hlt (K _ (up_or rfl).1 (up_or rfl).2)
theorem G_iast {c0 N j : Nat} {f : Nat → Int32} {i x : Int32} (C : Ok X cc nL y R ret tb) (d : decode cc pc = .ok (.iastore, 1)) (hc : F c0 = some (aI (xD X) N f)) (hi : i = nI j) (hj : j < N) (hN : N < 2 ^ 31) (K : ∀ F' : Fn, F' c0 = some (aI (xD X) N (upd f j x)) → (∀ c : Nat, c ≠ c0 → F' c = F c) → V X k n (pc + 1) lv st ad F') : V X k n pc lv (.int x :: .int i :: .ref (ad c0) :: st) ad F :=
  V_iast C d hc hi hj hN (K _ (up_or rfl).1 (up_or rfl).2)
theorem G_zast {c0 N j : Nat} {f : Nat → Int32} {i x : Int32} (C : Ok X cc nL y R ret tb) (d : decode cc pc = .ok (.bastore, 1)) (hc : F c0 = some (aZ (xD X) N f)) (hi : i = nI j) (hj : j < N) (hN : N < 2 ^ 31) (hz : vp_nar .boolean x = x) (K : ∀ F' : Fn, F' c0 = some (aZ (xD X) N (upd f j x)) → (∀ c : Nat, c ≠ c0 → F' c = F c) → V X k n (pc + 1) lv st ad F') : V X k n pc lv (.int x :: .int i :: .ref (ad c0) :: st) ad F :=
  V_zast C d hc hi hj hN hz (K _ (up_or rfl).1 (up_or rfl).2)
theorem G_last {c0 N j : Nat} {f : Nat → Int64} {i : Int32} {x : Int64} (C : Ok X cc nL y R ret tb) (d : decode cc pc = .ok (.lastore, 1)) (hc : F c0 = some (aJ (xD X) N f)) (hi : i = nI j) (hj : j < N) (hN : N < 2 ^ 31) (K : ∀ F' : Fn, F' c0 = some (aJ (xD X) N (vp_updL f j x)) → (∀ c : Nat, c ≠ c0 → F' c = F c) → V X k n (pc + 1) lv st ad F') : V X k n pc lv (.long x :: .int i :: .ref (ad c0) :: st) ad F :=
  V_last C d hc hi hj hN (K _ (up_or rfl).1 (up_or rfl).2)
theorem G_aast {t c0 cv ci N j : Nat} {r : vw_C} {vs : List Value} {f : Nat → Option Nat} {i : Int32} (C : Ok X cc nL y R ret tb) (d : decode cc pc = .ok (.aastore, 1)) (hc : F c0 = some (aQ (xD X) t N f)) (ht : (tysD (xD X).2.2)[t]? = some ((xD X).2.2 t, .object r.1)) (hv : F cv = some (oB ci vs)) (hcl : vwCl[ci]? = some r) (hi : i = nI j) (hj : j < N) (hN : N < 2 ^ 31) (K : ∀ F' : Fn, F' c0 = some (aQ (xD X) t N (va_up f j (some (ad cv)))) → (∀ c : Nat, c ≠ c0 → F' c = F c) → V X k n (pc + 1) lv st ad F') : V X k n pc lv (.ref (ad cv) :: .int i :: .ref (ad c0) :: st) ad F :=
  V_aast C d hc ht hv hcl hi hj hN (K _ (up_or rfl).1 (up_or rfl).2)
theorem G_aastN {t c0 N j : Nat} {Cn : String} {f : Nat → Option Nat} {i : Int32} (C : Ok X cc nL y R ret tb) (d : decode cc pc = .ok (.aastore, 1)) (hc : F c0 = some (aQ (xD X) t N f)) (ht : (tysD (xD X).2.2)[t]? = some ((xD X).2.2 t, .object Cn)) (hi : i = nI j) (hj : j < N) (hN : N < 2 ^ 31) (K : ∀ F' : Fn, F' c0 = some (aQ (xD X) t N (va_up f j none)) → (∀ c : Nat, c ≠ c0 → F' c = F c) → V X k n (pc + 1) lv st ad F') : V X k n pc lv (.null :: .int i :: .ref (ad c0) :: st) ad F :=
  V_aastN C d hc ht hi hj hN (K _ (up_or rfl).1 (up_or rfl).2)
/-- a new cell, at an address that is told apart: the world and the addresses get names -/
theorem G_new {idx ci N : Nat} {fs : List Value} (c0 : Nat) (C : Ok X cc nL y R ret tb) (d : decode cc pc = .ok (.new idx, 3)) (hf : NW y.cls idx ci N fs) (hc : F c0 = none) (h1 : k + 1 ≤ R.cells) (h2 : n + N ≤ R.slots) (K : ∀ (ad' : Nat → Nat) (F' : Fn), (∀ c : Nat, c ≠ c0 → ad' c = ad c) → F' c0 = some (oB ci fs) → (∀ c : Nat, c ≠ c0 → F' c = F c) → V X (k + 1) (n + N) (pc + 3) lv (.ref (ad' c0) :: st) ad' F') : V X k n pc lv st ad F :=
  V_new c0 C d hf hc h1 h2 (fun q => by have h := K (va_up ad c0 q) _ (fun c hc => up_n hc) (up_or rfl).1 (up_or rfl).2; rwa [up_s] at h)
theorem G_newi {N : Nat} {i : Int32} (c0 : Nat) (C : Ok X cc nL y R ret tb) (d : decode cc pc = .ok (.newarray .int, 2)) (hA : Cond.arrayClass .int ∈ ALL) (hc : F c0 = none) (hi : i = nI N) (hN : N * 4 ≤ 536870912) (h1 : k + 1 ≤ R.cells) (h2 : n + N ≤ R.slots) (K : ∀ (ad' : Nat → Nat) (F' : Fn), (∀ c : Nat, c ≠ c0 → ad' c = ad c) → F' c0 = some (aI (xD X) N (fun _ => 0)) → (∀ c : Nat, c ≠ c0 → F' c = F c) → V X (k + 1) (n + N) (pc + 2) lv (.ref (ad' c0) :: st) ad' F') : V X k n pc lv (.int i :: st) ad F :=
  V_newi c0 C d hA hc hi hN h1 h2 (fun q => by have h := K (va_up ad c0 q) _ (fun c hc => up_n hc) (up_or rfl).1 (up_or rfl).2; rwa [up_s] at h)
theorem G_newz {N : Nat} {i : Int32} (c0 : Nat) (C : Ok X cc nL y R ret tb) (d : decode cc pc = .ok (.newarray .boolean, 2)) (hA : Cond.arrayClass .boolean ∈ ALL) (hc : F c0 = none) (hi : i = nI N) (hN : N * 4 ≤ 536870912) (h1 : k + 1 ≤ R.cells) (h2 : n + N ≤ R.slots) (K : ∀ (ad' : Nat → Nat) (F' : Fn), (∀ c : Nat, c ≠ c0 → ad' c = ad c) → F' c0 = some (aZ (xD X) N (fun _ => 0)) → (∀ c : Nat, c ≠ c0 → F' c = F c) → V X (k + 1) (n + N) (pc + 2) lv (.ref (ad' c0) :: st) ad' F') : V X k n pc lv (.int i :: st) ad F :=
  V_newz c0 C d hA hc hi hN h1 h2 (fun q => by have h := K (va_up ad c0 q) _ (fun c hc => up_n hc) (up_or rfl).1 (up_or rfl).2; rwa [up_s] at h)
theorem G_newl {N : Nat} {i : Int32} (c0 : Nat) (C : Ok X cc nL y R ret tb) (d : decode cc pc = .ok (.newarray .long, 2)) (hA : Cond.arrayClass .long ∈ ALL) (hc : F c0 = none) (hi : i = nI N) (hN : N * 8 ≤ 536870912) (h1 : k + 1 ≤ R.cells) (h2 : n + N ≤ R.slots) (K : ∀ (ad' : Nat → Nat) (F' : Fn), (∀ c : Nat, c ≠ c0 → ad' c = ad c) → F' c0 = some (aJ (xD X) N (fun _ => 0)) → (∀ c : Nat, c ≠ c0 → F' c = F c) → V X (k + 1) (n + N) (pc + 2) lv (.ref (ad' c0) :: st) ad' F') : V X k n pc lv (.int i :: st) ad F :=
  V_newl c0 C d hA hc hi hN h1 h2 (fun q => by have h := K (va_up ad c0 q) _ (fun c hc => up_n hc) (up_or rfl).1 (up_or rfl).2; rwa [up_s] at h)
theorem G_newq {idx t N : Nat} {Cn : String} {i : Int32} (c0 : Nat) (C : Ok X cc nL y R ret tb) (d : decode cc pc = .ok (.anewarray idx, 3)) (hA : Cond.classLink y.cls idx Cn ∈ ALL) (hao : va_AO Cn (xs X)) (ht : (tysD (xD X).2.2)[t]? = some ((xD X).2.2 t, .object Cn)) (hc : F c0 = none) (hi : i = nI N) (hN : N * 4 ≤ 536870912) (h1 : k + 1 ≤ R.cells) (h2 : n + N ≤ R.slots) (K : ∀ (ad' : Nat → Nat) (F' : Fn), (∀ c : Nat, c ≠ c0 → ad' c = ad c) → F' c0 = some (aQ (xD X) t N (fun _ => none)) → (∀ c : Nat, c ≠ c0 → F' c = F c) → V X (k + 1) (n + N) (pc + 3) lv (.ref (ad' c0) :: st) ad' F') : V X k n pc lv (.int i :: st) ad F :=
  V_newq c0 C d hA hao ht hc hi hN h1 h2 (fun q => by have h := K (va_up ad c0 q) _ (fun c hc => up_n hc) (up_or rfl).1 (up_or rfl).2; rwa [up_s] at h)
end
section
theorem inr_1 : ∀ w ∈ wsL_law0_r1, w ∈ wsL_law := fun w h => List.mem_append_left _ (List.mem_append_left _ (List.mem_append_left _ (List.mem_append_left _ (List.mem_append_left _ (List.mem_append_left _ (List.mem_append_left _ (List.mem_append_left _ (List.mem_append_left _ (List.mem_append_left _ (List.mem_append_left _ (List.mem_append_left _ (List.mem_append_left _ h))))))))))))
theorem inr_2 : ∀ w ∈ wsL_law0_r2, w ∈ wsL_law := fun w h => List.mem_append_left _ (List.mem_append_left _ (List.mem_append_left _ (List.mem_append_left _ (List.mem_append_left _ (List.mem_append_left _ (List.mem_append_left _ (List.mem_append_left _ (List.mem_append_left _ (List.mem_append_left _ (List.mem_append_left _ (List.mem_append_left _ (List.mem_append_right _ (List.mem_append_left _ h)))))))))))))
theorem inr_3 : ∀ w ∈ wsL_law0_r3, w ∈ wsL_law := fun w h => List.mem_append_left _ (List.mem_append_left _ (List.mem_append_left _ (List.mem_append_left _ (List.mem_append_left _ (List.mem_append_left _ (List.mem_append_left _ (List.mem_append_left _ (List.mem_append_left _ (List.mem_append_left _ (List.mem_append_left _ (List.mem_append_left _ (List.mem_append_right _ (List.mem_append_right _ (List.mem_append_left _ h))))))))))))))
theorem inr_4 : ∀ w ∈ wsL_law0_r4, w ∈ wsL_law := fun w h => List.mem_append_left _ (List.mem_append_left _ (List.mem_append_left _ (List.mem_append_left _ (List.mem_append_left _ (List.mem_append_left _ (List.mem_append_left _ (List.mem_append_left _ (List.mem_append_left _ (List.mem_append_left _ (List.mem_append_left _ (List.mem_append_left _ (List.mem_append_right _ (List.mem_append_right _ (List.mem_append_right _ (List.mem_append_left _ h)))))))))))))))
theorem inr_5 : ∀ w ∈ wsL_law0_r5, w ∈ wsL_law := fun w h => List.mem_append_left _ (List.mem_append_left _ (List.mem_append_left _ (List.mem_append_left _ (List.mem_append_left _ (List.mem_append_left _ (List.mem_append_left _ (List.mem_append_left _ (List.mem_append_left _ (List.mem_append_left _ (List.mem_append_left _ (List.mem_append_left _ (List.mem_append_right _ (List.mem_append_right _ (List.mem_append_right _ (List.mem_append_right _ (List.mem_append_left _ h))))))))))))))))
theorem inr_6 : ∀ w ∈ wsL_law0_r6, w ∈ wsL_law := fun w h => List.mem_append_left _ (List.mem_append_left _ (List.mem_append_left _ (List.mem_append_left _ (List.mem_append_left _ (List.mem_append_left _ (List.mem_append_left _ (List.mem_append_left _ (List.mem_append_left _ (List.mem_append_left _ (List.mem_append_left _ (List.mem_append_left _ (List.mem_append_right _ (List.mem_append_right _ (List.mem_append_right _ (List.mem_append_right _ (List.mem_append_right _ (List.mem_append_left _ h)))))))))))))))))
theorem inr_7 : ∀ w ∈ wsL_law0_r7, w ∈ wsL_law := fun w h => List.mem_append_left _ (List.mem_append_left _ (List.mem_append_left _ (List.mem_append_left _ (List.mem_append_left _ (List.mem_append_left _ (List.mem_append_left _ (List.mem_append_left _ (List.mem_append_left _ (List.mem_append_left _ (List.mem_append_left _ (List.mem_append_left _ (List.mem_append_right _ (List.mem_append_right _ (List.mem_append_right _ (List.mem_append_right _ (List.mem_append_right _ (List.mem_append_right _ (List.mem_append_left _ h))))))))))))))))))
theorem inr_8 : ∀ w ∈ wsL_law0_r8, w ∈ wsL_law := fun w h => List.mem_append_left _ (List.mem_append_left _ (List.mem_append_left _ (List.mem_append_left _ (List.mem_append_left _ (List.mem_append_left _ (List.mem_append_left _ (List.mem_append_left _ (List.mem_append_left _ (List.mem_append_left _ (List.mem_append_left _ (List.mem_append_left _ (List.mem_append_right _ (List.mem_append_right _ (List.mem_append_right _ (List.mem_append_right _ (List.mem_append_right _ (List.mem_append_right _ (List.mem_append_right _ (List.mem_append_left _ h)))))))))))))))))))
theorem inr_9 : ∀ w ∈ wsL_law0_r9, w ∈ wsL_law := fun w h => List.mem_append_left _ (List.mem_append_left _ (List.mem_append_left _ (List.mem_append_left _ (List.mem_append_left _ (List.mem_append_left _ (List.mem_append_left _ (List.mem_append_left _ (List.mem_append_left _ (List.mem_append_left _ (List.mem_append_left _ (List.mem_append_left _ (List.mem_append_right _ (List.mem_append_right _ (List.mem_append_right _ (List.mem_append_right _ (List.mem_append_right _ (List.mem_append_right _ (List.mem_append_right _ (List.mem_append_right _ (List.mem_append_left _ h))))))))))))))))))))
theorem inr_10 : ∀ w ∈ wsL_law0_r10, w ∈ wsL_law := fun w h => List.mem_append_left _ (List.mem_append_left _ (List.mem_append_left _ (List.mem_append_left _ (List.mem_append_left _ (List.mem_append_left _ (List.mem_append_left _ (List.mem_append_left _ (List.mem_append_left _ (List.mem_append_left _ (List.mem_append_left _ (List.mem_append_left _ (List.mem_append_right _ (List.mem_append_right _ (List.mem_append_right _ (List.mem_append_right _ (List.mem_append_right _ (List.mem_append_right _ (List.mem_append_right _ (List.mem_append_right _ (List.mem_append_right _ (List.mem_append_left _ h)))))))))))))))))))))
theorem inr_11 : ∀ w ∈ wsL_law0_r11, w ∈ wsL_law := fun w h => List.mem_append_left _ (List.mem_append_left _ (List.mem_append_left _ (List.mem_append_left _ (List.mem_append_left _ (List.mem_append_left _ (List.mem_append_left _ (List.mem_append_left _ (List.mem_append_left _ (List.mem_append_left _ (List.mem_append_left _ (List.mem_append_left _ (List.mem_append_right _ (List.mem_append_right _ (List.mem_append_right _ (List.mem_append_right _ (List.mem_append_right _ (List.mem_append_right _ (List.mem_append_right _ (List.mem_append_right _ (List.mem_append_right _ (List.mem_append_right _ (List.mem_append_left _ h))))))))))))))))))))))
theorem inr_12 : ∀ w ∈ wsL_law0_r12, w ∈ wsL_law := fun w h => List.mem_append_left _ (List.mem_append_left _ (List.mem_append_left _ (List.mem_append_left _ (List.mem_append_left _ (List.mem_append_left _ (List.mem_append_left _ (List.mem_append_left _ (List.mem_append_left _ (List.mem_append_left _ (List.mem_append_left _ (List.mem_append_left _ (List.mem_append_right _ (List.mem_append_right _ (List.mem_append_right _ (List.mem_append_right _ (List.mem_append_right _ (List.mem_append_right _ (List.mem_append_right _ (List.mem_append_right _ (List.mem_append_right _ (List.mem_append_right _ (List.mem_append_right _ (List.mem_append_left _ h)))))))))))))))))))))))
theorem inr_13 : ∀ w ∈ wsL_law0_r13, w ∈ wsL_law := fun w h => List.mem_append_left _ (List.mem_append_left _ (List.mem_append_left _ (List.mem_append_left _ (List.mem_append_left _ (List.mem_append_left _ (List.mem_append_left _ (List.mem_append_left _ (List.mem_append_left _ (List.mem_append_left _ (List.mem_append_left _ (List.mem_append_left _ (List.mem_append_right _ (List.mem_append_right _ (List.mem_append_right _ (List.mem_append_right _ (List.mem_append_right _ (List.mem_append_right _ (List.mem_append_right _ (List.mem_append_right _ (List.mem_append_right _ (List.mem_append_right _ (List.mem_append_right _ (List.mem_append_right _ (List.mem_append_left _ h))))))))))))))))))))))))
theorem inr_14 : ∀ w ∈ wsL_law0_r14, w ∈ wsL_law := fun w h => List.mem_append_left _ (List.mem_append_left _ (List.mem_append_left _ (List.mem_append_left _ (List.mem_append_left _ (List.mem_append_left _ (List.mem_append_left _ (List.mem_append_left _ (List.mem_append_left _ (List.mem_append_left _ (List.mem_append_left _ (List.mem_append_left _ (List.mem_append_right _ (List.mem_append_right _ (List.mem_append_right _ (List.mem_append_right _ (List.mem_append_right _ (List.mem_append_right _ (List.mem_append_right _ (List.mem_append_right _ (List.mem_append_right _ (List.mem_append_right _ (List.mem_append_right _ (List.mem_append_right _ (List.mem_append_right _ (List.mem_append_left _ h)))))))))))))))))))))))))
theorem inr_15 : ∀ w ∈ wsL_law0_r15, w ∈ wsL_law := fun w h => List.mem_append_left _ (List.mem_append_left _ (List.mem_append_left _ (List.mem_append_left _ (List.mem_append_left _ (List.mem_append_left _ (List.mem_append_left _ (List.mem_append_left _ (List.mem_append_left _ (List.mem_append_left _ (List.mem_append_left _ (List.mem_append_left _ (List.mem_append_right _ (List.mem_append_right _ (List.mem_append_right _ (List.mem_append_right _ (List.mem_append_right _ (List.mem_append_right _ (List.mem_append_right _ (List.mem_append_right _ (List.mem_append_right _ (List.mem_append_right _ (List.mem_append_right _ (List.mem_append_right _ (List.mem_append_right _ (List.mem_append_right _ (List.mem_append_left _ h))))))))))))))))))))))))))
theorem inr_16 : ∀ w ∈ wsL_law0_r16, w ∈ wsL_law := fun w h => List.mem_append_left _ (List.mem_append_left _ (List.mem_append_left _ (List.mem_append_left _ (List.mem_append_left _ (List.mem_append_left _ (List.mem_append_left _ (List.mem_append_left _ (List.mem_append_left _ (List.mem_append_left _ (List.mem_append_left _ (List.mem_append_left _ (List.mem_append_right _ (List.mem_append_right _ (List.mem_append_right _ (List.mem_append_right _ (List.mem_append_right _ (List.mem_append_right _ (List.mem_append_right _ (List.mem_append_right _ (List.mem_append_right _ (List.mem_append_right _ (List.mem_append_right _ (List.mem_append_right _ (List.mem_append_right _ (List.mem_append_right _ (List.mem_append_right _ (List.mem_append_left _ h)))))))))))))))))))))))))))
theorem inr_17 : ∀ w ∈ wsL_law0_r17, w ∈ wsL_law := fun w h => List.mem_append_left _ (List.mem_append_left _ (List.mem_append_left _ (List.mem_append_left _ (List.mem_append_left _ (List.mem_append_left _ (List.mem_append_left _ (List.mem_append_left _ (List.mem_append_left _ (List.mem_append_left _ (List.mem_append_left _ (List.mem_append_left _ (List.mem_append_right _ (List.mem_append_right _ (List.mem_append_right _ (List.mem_append_right _ (List.mem_append_right _ (List.mem_append_right _ (List.mem_append_right _ (List.mem_append_right _ (List.mem_append_right _ (List.mem_append_right _ (List.mem_append_right _ (List.mem_append_right _ (List.mem_append_right _ (List.mem_append_right _ (List.mem_append_right _ (List.mem_append_right _ (List.mem_append_left _ h))))))))))))))))))))))))))))
theorem inr_18 : ∀ w ∈ wsL_law0_r18, w ∈ wsL_law := fun w h => List.mem_append_left _ (List.mem_append_left _ (List.mem_append_left _ (List.mem_append_left _ (List.mem_append_left _ (List.mem_append_left _ (List.mem_append_left _ (List.mem_append_left _ (List.mem_append_left _ (List.mem_append_left _ (List.mem_append_left _ (List.mem_append_left _ (List.mem_append_right _ (List.mem_append_right _ (List.mem_append_right _ (List.mem_append_right _ (List.mem_append_right _ (List.mem_append_right _ (List.mem_append_right _ (List.mem_append_right _ (List.mem_append_right _ (List.mem_append_right _ (List.mem_append_right _ (List.mem_append_right _ (List.mem_append_right _ (List.mem_append_right _ (List.mem_append_right _ (List.mem_append_right _ (List.mem_append_right _ (List.mem_append_left _ h)))))))))))))))))))))))))))))
theorem inr_19 : ∀ w ∈ wsL_law0_r19, w ∈ wsL_law := fun w h => List.mem_append_left _ (List.mem_append_left _ (List.mem_append_left _ (List.mem_append_left _ (List.mem_append_left _ (List.mem_append_left _ (List.mem_append_left _ (List.mem_append_left _ (List.mem_append_left _ (List.mem_append_left _ (List.mem_append_left _ (List.mem_append_left _ (List.mem_append_right _ (List.mem_append_right _ (List.mem_append_right _ (List.mem_append_right _ (List.mem_append_right _ (List.mem_append_right _ (List.mem_append_right _ (List.mem_append_right _ (List.mem_append_right _ (List.mem_append_right _ (List.mem_append_right _ (List.mem_append_right _ (List.mem_append_right _ (List.mem_append_right _ (List.mem_append_right _ (List.mem_append_right _ (List.mem_append_right _ (List.mem_append_right _ (List.mem_append_left _ h))))))))))))))))))))))))))))))
theorem inr_20 : ∀ w ∈ wsL_law0_r20, w ∈ wsL_law := fun w h => List.mem_append_left _ (List.mem_append_left _ (List.mem_append_left _ (List.mem_append_left _ (List.mem_append_left _ (List.mem_append_left _ (List.mem_append_left _ (List.mem_append_left _ (List.mem_append_left _ (List.mem_append_left _ (List.mem_append_left _ (List.mem_append_left _ (List.mem_append_right _ (List.mem_append_right _ (List.mem_append_right _ (List.mem_append_right _ (List.mem_append_right _ (List.mem_append_right _ (List.mem_append_right _ (List.mem_append_right _ (List.mem_append_right _ (List.mem_append_right _ (List.mem_append_right _ (List.mem_append_right _ (List.mem_append_right _ (List.mem_append_right _ (List.mem_append_right _ (List.mem_append_right _ (List.mem_append_right _ (List.mem_append_right _ (List.mem_append_right _ (List.mem_append_left _ h)))))))))))))))))))))))))))))))
theorem inr_21 : ∀ w ∈ wsL_law0_r21, w ∈ wsL_law := fun w h => List.mem_append_left _ (List.mem_append_left _ (List.mem_append_left _ (List.mem_append_left _ (List.mem_append_left _ (List.mem_append_left _ (List.mem_append_left _ (List.mem_append_left _ (List.mem_append_left _ (List.mem_append_left _ (List.mem_append_left _ (List.mem_append_left _ (List.mem_append_right _ (List.mem_append_right _ (List.mem_append_right _ (List.mem_append_right _ (List.mem_append_right _ (List.mem_append_right _ (List.mem_append_right _ (List.mem_append_right _ (List.mem_append_right _ (List.mem_append_right _ (List.mem_append_right _ (List.mem_append_right _ (List.mem_append_right _ (List.mem_append_right _ (List.mem_append_right _ (List.mem_append_right _ (List.mem_append_right _ (List.mem_append_right _ (List.mem_append_right _ (List.mem_append_right _ (List.mem_append_left _ h))))))))))))))))))))))))))))))))
theorem inr_22 : ∀ w ∈ wsL_law0_r22, w ∈ wsL_law := fun w h => List.mem_append_left _ (List.mem_append_left _ (List.mem_append_left _ (List.mem_append_left _ (List.mem_append_left _ (List.mem_append_left _ (List.mem_append_left _ (List.mem_append_left _ (List.mem_append_left _ (List.mem_append_left _ (List.mem_append_left _ (List.mem_append_left _ (List.mem_append_right _ (List.mem_append_right _ (List.mem_append_right _ (List.mem_append_right _ (List.mem_append_right _ (List.mem_append_right _ (List.mem_append_right _ (List.mem_append_right _ (List.mem_append_right _ (List.mem_append_right _ (List.mem_append_right _ (List.mem_append_right _ (List.mem_append_right _ (List.mem_append_right _ (List.mem_append_right _ (List.mem_append_right _ (List.mem_append_right _ (List.mem_append_right _ (List.mem_append_right _ (List.mem_append_right _ (List.mem_append_right _ (List.mem_append_left _ h)))))))))))))))))))))))))))))))))
theorem inr_23 : ∀ w ∈ wsL_law0_r23, w ∈ wsL_law := fun w h => List.mem_append_left _ (List.mem_append_left _ (List.mem_append_left _ (List.mem_append_left _ (List.mem_append_left _ (List.mem_append_left _ (List.mem_append_left _ (List.mem_append_left _ (List.mem_append_left _ (List.mem_append_left _ (List.mem_append_left _ (List.mem_append_left _ (List.mem_append_right _ (List.mem_append_right _ (List.mem_append_right _ (List.mem_append_right _ (List.mem_append_right _ (List.mem_append_right _ (List.mem_append_right _ (List.mem_append_right _ (List.mem_append_right _ (List.mem_append_right _ (List.mem_append_right _ (List.mem_append_right _ (List.mem_append_right _ (List.mem_append_right _ (List.mem_append_right _ (List.mem_append_right _ (List.mem_append_right _ (List.mem_append_right _ (List.mem_append_right _ (List.mem_append_right _ (List.mem_append_right _ (List.mem_append_right _ (List.mem_append_left _ h))))))))))))))))))))))))))))))))))
theorem inr_24 : ∀ w ∈ wsL_law0_r24, w ∈ wsL_law := fun w h => List.mem_append_left _ (List.mem_append_left _ (List.mem_append_left _ (List.mem_append_left _ (List.mem_append_left _ (List.mem_append_left _ (List.mem_append_left _ (List.mem_append_left _ (List.mem_append_left _ (List.mem_append_left _ (List.mem_append_left _ (List.mem_append_left _ (List.mem_append_right _ (List.mem_append_right _ (List.mem_append_right _ (List.mem_append_right _ (List.mem_append_right _ (List.mem_append_right _ (List.mem_append_right _ (List.mem_append_right _ (List.mem_append_right _ (List.mem_append_right _ (List.mem_append_right _ (List.mem_append_right _ (List.mem_append_right _ (List.mem_append_right _ (List.mem_append_right _ (List.mem_append_right _ (List.mem_append_right _ (List.mem_append_right _ (List.mem_append_right _ (List.mem_append_right _ (List.mem_append_right _ (List.mem_append_right _ (List.mem_append_right _ (List.mem_append_left _ h)))))))))))))))))))))))))))))))))))
theorem inr_25 : ∀ w ∈ wsL_law0_r25, w ∈ wsL_law := fun w h => List.mem_append_left _ (List.mem_append_left _ (List.mem_append_left _ (List.mem_append_left _ (List.mem_append_left _ (List.mem_append_left _ (List.mem_append_left _ (List.mem_append_left _ (List.mem_append_left _ (List.mem_append_left _ (List.mem_append_left _ (List.mem_append_left _ (List.mem_append_right _ (List.mem_append_right _ (List.mem_append_right _ (List.mem_append_right _ (List.mem_append_right _ (List.mem_append_right _ (List.mem_append_right _ (List.mem_append_right _ (List.mem_append_right _ (List.mem_append_right _ (List.mem_append_right _ (List.mem_append_right _ (List.mem_append_right _ (List.mem_append_right _ (List.mem_append_right _ (List.mem_append_right _ (List.mem_append_right _ (List.mem_append_right _ (List.mem_append_right _ (List.mem_append_right _ (List.mem_append_right _ (List.mem_append_right _ (List.mem_append_right _ (List.mem_append_right _ (List.mem_append_left _ h))))))))))))))))))))))))))))))))))))
theorem inr_26 : ∀ w ∈ wsL_law0_r26, w ∈ wsL_law := fun w h => List.mem_append_left _ (List.mem_append_left _ (List.mem_append_left _ (List.mem_append_left _ (List.mem_append_left _ (List.mem_append_left _ (List.mem_append_left _ (List.mem_append_left _ (List.mem_append_left _ (List.mem_append_left _ (List.mem_append_left _ (List.mem_append_left _ (List.mem_append_right _ (List.mem_append_right _ (List.mem_append_right _ (List.mem_append_right _ (List.mem_append_right _ (List.mem_append_right _ (List.mem_append_right _ (List.mem_append_right _ (List.mem_append_right _ (List.mem_append_right _ (List.mem_append_right _ (List.mem_append_right _ (List.mem_append_right _ (List.mem_append_right _ (List.mem_append_right _ (List.mem_append_right _ (List.mem_append_right _ (List.mem_append_right _ (List.mem_append_right _ (List.mem_append_right _ (List.mem_append_right _ (List.mem_append_right _ (List.mem_append_right _ (List.mem_append_right _ (List.mem_append_right _ (List.mem_append_left _ h)))))))))))))))))))))))))))))))))))))
theorem inr_27 : ∀ w ∈ wsL_law0_r27, w ∈ wsL_law := fun w h => List.mem_append_left _ (List.mem_append_left _ (List.mem_append_left _ (List.mem_append_left _ (List.mem_append_left _ (List.mem_append_left _ (List.mem_append_left _ (List.mem_append_left _ (List.mem_append_left _ (List.mem_append_left _ (List.mem_append_left _ (List.mem_append_left _ (List.mem_append_right _ (List.mem_append_right _ (List.mem_append_right _ (List.mem_append_right _ (List.mem_append_right _ (List.mem_append_right _ (List.mem_append_right _ (List.mem_append_right _ (List.mem_append_right _ (List.mem_append_right _ (List.mem_append_right _ (List.mem_append_right _ (List.mem_append_right _ (List.mem_append_right _ (List.mem_append_right _ (List.mem_append_right _ (List.mem_append_right _ (List.mem_append_right _ (List.mem_append_right _ (List.mem_append_right _ (List.mem_append_right _ (List.mem_append_right _ (List.mem_append_right _ (List.mem_append_right _ (List.mem_append_right _ (List.mem_append_right _ (List.mem_append_left _ h))))))))))))))))))))))))))))))))))))))
theorem inr_28 : ∀ w ∈ wsL_law0_r28, w ∈ wsL_law := fun w h => List.mem_append_left _ (List.mem_append_left _ (List.mem_append_left _ (List.mem_append_left _ (List.mem_append_left _ (List.mem_append_left _ (List.mem_append_left _ (List.mem_append_left _ (List.mem_append_left _ (List.mem_append_left _ (List.mem_append_left _ (List.mem_append_left _ (List.mem_append_right _ (List.mem_append_right _ (List.mem_append_right _ (List.mem_append_right _ (List.mem_append_right _ (List.mem_append_right _ (List.mem_append_right _ (List.mem_append_right _ (List.mem_append_right _ (List.mem_append_right _ (List.mem_append_right _ (List.mem_append_right _ (List.mem_append_right _ (List.mem_append_right _ (List.mem_append_right _ (List.mem_append_right _ (List.mem_append_right _ (List.mem_append_right _ (List.mem_append_right _ (List.mem_append_right _ (List.mem_append_right _ (List.mem_append_right _ (List.mem_append_right _ (List.mem_append_right _ (List.mem_append_right _ (List.mem_append_right _ (List.mem_append_right _ (h)))))))))))))))))))))))))))))))))))))))
theorem fr_0_12 : FR RX0 12 0 0 := ⟨RX0, TX0, 5, rfl, by decide, inlX0, Or.inl (inr_3 _ (List.mem_of_getElem? (i := 10) rfl))⟩
theorem fr_0_18 : FR RX0 18 0 1 := ⟨RX0, TX0, 5, rfl, by decide, inlX0, Or.inl (inr_3 _ (List.mem_of_getElem? (i := 11) rfl))⟩
theorem fr_0_21 : FR RX0 21 0 2 := ⟨RX0, TX0, 5, rfl, by decide, inlX0, Or.inl (inr_3 _ (List.mem_of_getElem? (i := 12) rfl))⟩
theorem fr_0_25 : FR RX0 25 0 3 := ⟨RX0, TX0, 5, rfl, by decide, inlX0, Or.inl (inr_3 _ (List.mem_of_getElem? (i := 13) rfl))⟩
theorem fr_0_29 : FR RX0 29 0 4 := ⟨RX0, TX0, 5, rfl, by decide, inlX0, Or.inl (inr_3 _ (List.mem_of_getElem? (i := 14) rfl))⟩
theorem fr_0_36 : FR RX0 36 4 1 := ⟨RX4, TX4, 2, rfl, by decide, inlX4, Or.inr (List.mem_of_getElem? (i := 5) rfl)⟩
theorem fr_0_50 : FR RX0 50 2 0 := ⟨RX2, TX2, 5, rfl, by decide, inlX2, Or.inr (List.mem_of_getElem? (i := 21) rfl)⟩
theorem fr_0_56 : FR RX0 56 1 7 := ⟨RX1, TX1, 9, rfl, by decide, inlX1, Or.inr (List.mem_of_getElem? (i := 18) rfl)⟩
theorem fr_1_41 : FR RX1 41 1 5 := ⟨RX1, TX1, 9, rfl, by decide, inlX1, Or.inl (inr_14 _ (List.mem_of_getElem? (i := 4) rfl))⟩
theorem fr_1_44 : FR RX1 44 5 5 := ⟨RX5, TX5, 6, rfl, by decide, inlX5, Or.inr (List.mem_of_getElem? (i := 3) rfl)⟩
theorem fr_1_48 : FR RX1 48 1 8 := ⟨RX1, TX1, 9, rfl, by decide, inlX1, Or.inl (inr_14 _ (List.mem_of_getElem? (i := 6) rfl))⟩
theorem fr_2_13 : FR RX2 13 2 4 := ⟨RX2, TX2, 5, rfl, by decide, inlX2, Or.inl (inr_15 _ (List.mem_of_getElem? (i := 13) rfl))⟩
theorem fr_2_24 : FR RX2 24 2 3 := ⟨RX2, TX2, 5, rfl, by decide, inlX2, Or.inl (inr_15 _ (List.mem_of_getElem? (i := 16) rfl))⟩
theorem fr_3_15 : FR RX3 15 3 1 := ⟨RX3, TX3, 3, rfl, by decide, inlX3, Or.inl (inr_2 _ (List.mem_of_getElem? (i := 22) rfl))⟩
theorem fr_3_18 : FR RX3 18 3 2 := ⟨RX3, TX3, 3, rfl, by decide, inlX3, Or.inl (inr_2 _ (List.mem_of_getElem? (i := 23) rfl))⟩
theorem fr_3_9 : FR RX3 9 3 0 := ⟨RX3, TX3, 3, rfl, by decide, inlX3, Or.inl (inr_2 _ (List.mem_of_getElem? (i := 21) rfl))⟩
theorem fr_4_11 : FR RX4 11 4 0 := ⟨RX4, TX4, 2, rfl, by decide, inlX4, Or.inl (inr_3 _ (List.mem_of_getElem? (i := 19) rfl))⟩
theorem fr_4_17 : FR RX4 17 4 1 := ⟨RX4, TX4, 2, rfl, by decide, inlX4, Or.inl (inr_3 _ (List.mem_of_getElem? (i := 20) rfl))⟩
theorem fr_4_36 : FR RX4 36 2 0 := ⟨RX2, TX2, 5, rfl, by decide, inlX2, Or.inr (List.mem_of_getElem? (i := 22) rfl)⟩
theorem fr_4_40 : FR RX4 40 2 4 := ⟨RX2, TX2, 5, rfl, by decide, inlX2, Or.inr (List.mem_of_getElem? (i := 28) rfl)⟩
theorem fr_4_44 : FR RX4 44 1 1 := ⟨RX1, TX1, 9, rfl, by decide, inlX1, Or.inr (List.mem_of_getElem? (i := 13) rfl)⟩
theorem fr_5_15 : FR RX5 15 5 1 := ⟨RX5, TX5, 6, rfl, by decide, inlX5, Or.inl (inr_2 _ (List.mem_of_getElem? (i := 12) rfl))⟩
theorem fr_5_19 : FR RX5 19 5 2 := ⟨RX5, TX5, 6, rfl, by decide, inlX5, Or.inl (inr_2 _ (List.mem_of_getElem? (i := 13) rfl))⟩
theorem fr_5_22 : FR RX5 22 5 3 := ⟨RX5, TX5, 6, rfl, by decide, inlX5, Or.inl (inr_2 _ (List.mem_of_getElem? (i := 14) rfl))⟩
theorem fr_5_26 : FR RX5 26 5 4 := ⟨RX5, TX5, 6, rfl, by decide, inlX5, Or.inl (inr_2 _ (List.mem_of_getElem? (i := 15) rfl))⟩
theorem fr_5_29 : FR RX5 29 5 5 := ⟨RX5, TX5, 6, rfl, by decide, inlX5, Or.inl (inr_2 _ (List.mem_of_getElem? (i := 16) rfl))⟩
theorem fr_5_9 : FR RX5 9 5 0 := ⟨RX5, TX5, 6, rfl, by decide, inlX5, Or.inl (inr_2 _ (List.mem_of_getElem? (i := 11) rfl))⟩
theorem fr_6_10 : FR RX6 10 6 0 := ⟨RX6, TX6, 8, rfl, by decide, inlX6, Or.inl (inr_1 _ (List.mem_of_getElem? (i := 16) rfl))⟩
theorem fr_6_120 : FR RX6 120 1 6 := ⟨RX1, TX1, 9, rfl, by decide, inlX1, Or.inr (List.mem_of_getElem? (i := 17) rfl)⟩
theorem fr_6_121 : FR RX6 121 1 3 := ⟨RX1, TX1, 9, rfl, by decide, inlX1, Or.inr (List.mem_of_getElem? (i := 15) rfl)⟩
theorem fr_6_125 : FR RX6 125 0 0 := ⟨RX0, TX0, 5, rfl, by decide, inlX0, Or.inr (List.mem_of_getElem? (i := 7) rfl)⟩
theorem fr_6_140 : FR RX6 140 1 0 := ⟨RX1, TX1, 9, rfl, by decide, inlX1, Or.inr (List.mem_of_getElem? (i := 12) rfl)⟩
theorem fr_6_147 : FR RX6 147 1 7 := ⟨RX1, TX1, 9, rfl, by decide, inlX1, Or.inr (List.mem_of_getElem? (i := 19) rfl)⟩
theorem fr_6_150 : FR RX6 150 1 8 := ⟨RX1, TX1, 9, rfl, by decide, inlX1, Or.inr (List.mem_of_getElem? (i := 20) rfl)⟩
theorem fr_6_153 : FR RX6 153 1 4 := ⟨RX1, TX1, 9, rfl, by decide, inlX1, Or.inr (List.mem_of_getElem? (i := 16) rfl)⟩
theorem fr_6_18 : FR RX6 18 6 1 := ⟨RX6, TX6, 8, rfl, by decide, inlX6, Or.inl (inr_1 _ (List.mem_of_getElem? (i := 18) rfl))⟩
theorem fr_6_185 : FR RX6 185 0 2 := ⟨RX0, TX0, 5, rfl, by decide, inlX0, Or.inr (List.mem_of_getElem? (i := 9) rfl)⟩
theorem fr_6_193 : FR RX6 193 0 3 := ⟨RX0, TX0, 5, rfl, by decide, inlX0, Or.inr (List.mem_of_getElem? (i := 10) rfl)⟩
theorem fr_6_196 : FR RX6 196 4 1 := ⟨RX4, TX4, 2, rfl, by decide, inlX4, Or.inr (List.mem_of_getElem? (i := 6) rfl)⟩
theorem fr_6_197 : FR RX6 197 0 1 := ⟨RX0, TX0, 5, rfl, by decide, inlX0, Or.inr (List.mem_of_getElem? (i := 8) rfl)⟩
theorem fr_6_200 : FR RX6 200 0 4 := ⟨RX0, TX0, 5, rfl, by decide, inlX0, Or.inr (List.mem_of_getElem? (i := 11) rfl)⟩
theorem fr_6_211 : FR RX6 211 2 0 := ⟨RX2, TX2, 5, rfl, by decide, inlX2, Or.inr (List.mem_of_getElem? (i := 23) rfl)⟩
theorem fr_6_219 : FR RX6 219 2 1 := ⟨RX2, TX2, 5, rfl, by decide, inlX2, Or.inr (List.mem_of_getElem? (i := 24) rfl)⟩
theorem fr_6_22 : FR RX6 22 6 2 := ⟨RX6, TX6, 8, rfl, by decide, inlX6, Or.inl (inr_1 _ (List.mem_of_getElem? (i := 19) rfl))⟩
theorem fr_6_225 : FR RX6 225 1 2 := ⟨RX1, TX1, 9, rfl, by decide, inlX1, Or.inr (List.mem_of_getElem? (i := 14) rfl)⟩
theorem fr_6_241 : FR RX6 241 2 2 := ⟨RX2, TX2, 5, rfl, by decide, inlX2, Or.inr (List.mem_of_getElem? (i := 25) rfl)⟩
theorem fr_6_26 : FR RX6 26 6 3 := ⟨RX6, TX6, 8, rfl, by decide, inlX6, Or.inl (inr_1 _ (List.mem_of_getElem? (i := 21) rfl))⟩
theorem fr_6_30 : FR RX6 30 6 4 := ⟨RX6, TX6, 8, rfl, by decide, inlX6, Or.inl (inr_1 _ (List.mem_of_getElem? (i := 22) rfl))⟩
theorem fr_6_35 : FR RX6 35 6 5 := ⟨RX6, TX6, 8, rfl, by decide, inlX6, Or.inl (inr_2 _ (List.mem_of_getElem? (i := 0) rfl))⟩
theorem fr_6_42 : FR RX6 42 6 6 := ⟨RX6, TX6, 8, rfl, by decide, inlX6, Or.inl (inr_2 _ (List.mem_of_getElem? (i := 4) rfl))⟩
theorem fr_6_46 : FR RX6 46 6 7 := ⟨RX6, TX6, 8, rfl, by decide, inlX6, Or.inl (inr_2 _ (List.mem_of_getElem? (i := 5) rfl))⟩
theorem fr_6_57 : FR RX6 57 5 1 := ⟨RX5, TX5, 6, rfl, by decide, inlX5, Or.inr (List.mem_of_getElem? (i := 0) rfl)⟩
theorem fr_6_72 : FR RX6 72 5 3 := ⟨RX5, TX5, 6, rfl, by decide, inlX5, Or.inr (List.mem_of_getElem? (i := 2) rfl)⟩
theorem fr_6_78 : FR RX6 78 5 2 := ⟨RX5, TX5, 6, rfl, by decide, inlX5, Or.inr (List.mem_of_getElem? (i := 1) rfl)⟩
theorem fr_6_81 : FR RX6 81 5 5 := ⟨RX5, TX5, 6, rfl, by decide, inlX5, Or.inr (List.mem_of_getElem? (i := 4) rfl)⟩
theorem fr_7_124 : FR RX7 124 7 3 := ⟨RX7, TX7, 26, rfl, by decide, inlX7, Or.inl (inr_16 _ (List.mem_of_getElem? (i := 5) rfl))⟩
theorem fr_7_127 : FR RX7 127 7 0 := ⟨RX7, TX7, 26, rfl, by decide, inlX7, Or.inl (inr_16 _ (List.mem_of_getElem? (i := 6) rfl))⟩
theorem fr_7_13 : FR RX7 13 7 4 := ⟨RX7, TX7, 26, rfl, by decide, inlX7, Or.inl (inr_4 _ (List.mem_of_getElem? (i := 2) rfl))⟩
theorem fr_7_143 : FR RX7 143 7 9 := ⟨RX7, TX7, 26, rfl, by decide, inlX7, Or.inl (inr_19 _ (List.mem_of_getElem? (i := 4) rfl))⟩
theorem fr_7_16 : FR RX7 16 7 5 := ⟨RX7, TX7, 26, rfl, by decide, inlX7, Or.inl (inr_4 _ (List.mem_of_getElem? (i := 3) rfl))⟩
theorem fr_7_19 : FR RX7 19 7 6 := ⟨RX7, TX7, 26, rfl, by decide, inlX7, Or.inl (inr_4 _ (List.mem_of_getElem? (i := 4) rfl))⟩
theorem fr_7_22 : FR RX7 22 7 7 := ⟨RX7, TX7, 26, rfl, by decide, inlX7, Or.inl (inr_4 _ (List.mem_of_getElem? (i := 5) rfl))⟩
theorem fr_7_25 : FR RX7 25 7 8 := ⟨RX7, TX7, 26, rfl, by decide, inlX7, Or.inl (inr_4 _ (List.mem_of_getElem? (i := 6) rfl))⟩
theorem fr_7_28 : FR RX7 28 7 10 := ⟨RX7, TX7, 26, rfl, by decide, inlX7, Or.inl (inr_4 _ (List.mem_of_getElem? (i := 7) rfl))⟩
theorem fr_7_31 : FR RX7 31 7 11 := ⟨RX7, TX7, 26, rfl, by decide, inlX7, Or.inl (inr_4 _ (List.mem_of_getElem? (i := 8) rfl))⟩
theorem fr_7_34 : FR RX7 34 7 12 := ⟨RX7, TX7, 26, rfl, by decide, inlX7, Or.inl (inr_4 _ (List.mem_of_getElem? (i := 9) rfl))⟩
theorem fr_7_37 : FR RX7 37 7 13 := ⟨RX7, TX7, 26, rfl, by decide, inlX7, Or.inl (inr_4 _ (List.mem_of_getElem? (i := 11) rfl))⟩
theorem fr_7_41 : FR RX7 41 7 14 := ⟨RX7, TX7, 26, rfl, by decide, inlX7, Or.inl (inr_4 _ (List.mem_of_getElem? (i := 12) rfl))⟩
theorem fr_7_44 : FR RX7 44 7 15 := ⟨RX7, TX7, 26, rfl, by decide, inlX7, Or.inl (inr_4 _ (List.mem_of_getElem? (i := 13) rfl))⟩
theorem fr_7_47 : FR RX7 47 7 16 := ⟨RX7, TX7, 26, rfl, by decide, inlX7, Or.inl (inr_4 _ (List.mem_of_getElem? (i := 14) rfl))⟩
theorem fr_7_50 : FR RX7 50 7 17 := ⟨RX7, TX7, 26, rfl, by decide, inlX7, Or.inl (inr_4 _ (List.mem_of_getElem? (i := 15) rfl))⟩
theorem fr_7_53 : FR RX7 53 7 18 := ⟨RX7, TX7, 26, rfl, by decide, inlX7, Or.inl (inr_4 _ (List.mem_of_getElem? (i := 16) rfl))⟩
theorem fr_7_56 : FR RX7 56 7 19 := ⟨RX7, TX7, 26, rfl, by decide, inlX7, Or.inl (inr_4 _ (List.mem_of_getElem? (i := 17) rfl))⟩
theorem fr_7_59 : FR RX7 59 7 20 := ⟨RX7, TX7, 26, rfl, by decide, inlX7, Or.inl (inr_4 _ (List.mem_of_getElem? (i := 18) rfl))⟩
theorem fr_7_62 : FR RX7 62 7 21 := ⟨RX7, TX7, 26, rfl, by decide, inlX7, Or.inl (inr_4 _ (List.mem_of_getElem? (i := 19) rfl))⟩
theorem fr_7_65 : FR RX7 65 7 22 := ⟨RX7, TX7, 26, rfl, by decide, inlX7, Or.inl (inr_4 _ (List.mem_of_getElem? (i := 20) rfl))⟩
theorem fr_7_68 : FR RX7 68 7 23 := ⟨RX7, TX7, 26, rfl, by decide, inlX7, Or.inl (inr_4 _ (List.mem_of_getElem? (i := 21) rfl))⟩
theorem fr_7_7 : FR RX7 7 7 2 := ⟨RX7, TX7, 26, rfl, by decide, inlX7, Or.inl (inr_4 _ (List.mem_of_getElem? (i := 1) rfl))⟩
theorem fr_7_71 : FR RX7 71 7 24 := ⟨RX7, TX7, 26, rfl, by decide, inlX7, Or.inl (inr_4 _ (List.mem_of_getElem? (i := 22) rfl))⟩
theorem fr_7_74 : FR RX7 74 7 25 := ⟨RX7, TX7, 26, rfl, by decide, inlX7, Or.inl (inr_6 _ (List.mem_of_getElem? (i := 20) rfl))⟩
theorem fr_7_98 : FR RX7 98 7 1 := ⟨RX7, TX7, 26, rfl, by decide, inlX7, Or.inl (inr_6 _ (List.mem_of_getElem? (i := 12) rfl))⟩
theorem fp_0_29 : FP RX0 29 0 4 false (.int) := ⟨RX0, TX0, 5, tyX0, rfl, by decide, inlX0, tyX0_ok, nmX0, rfl, (fun h => nomatch h), by decide +kernel, Or.inl (inr_3 _ (List.mem_of_getElem? (i := 14) rfl))⟩
theorem fp_0_21 : FP RX0 21 0 2 false (.boolean) := ⟨RX0, TX0, 5, tyX0, rfl, by decide, inlX0, tyX0_ok, nmX0, rfl, (fun h => nomatch h), by decide +kernel, Or.inl (inr_3 _ (List.mem_of_getElem? (i := 12) rfl))⟩
theorem fp_0_61 : FP RX0 61 2 3 false (.int) := ⟨RX2, TX2, 5, tyX2, rfl, by decide, inlX2, tyX2_ok, nmX2, rfl, (fun h => nomatch h), by decide +kernel, Or.inr (List.mem_of_getElem? (i := 26) rfl)⟩
theorem fp_0_12 : FP RX0 12 0 0 true (.object "Shortmessage$Row") := ⟨RX0, TX0, 5, tyX0, rfl, by decide, inlX0, tyX0_ok, nmX0, rfl, (fun _ => ⟨rfl, (inr_3 _ (List.mem_of_getElem? (i := 10) rfl))⟩), by decide +kernel, Or.inl (inr_3 _ (List.mem_of_getElem? (i := 10) rfl))⟩
theorem fp_0_18 : FP RX0 18 0 1 true (.object "Shortmessage$Row") := ⟨RX0, TX0, 5, tyX0, rfl, by decide, inlX0, tyX0_ok, nmX0, rfl, (fun _ => ⟨rfl, (inr_3 _ (List.mem_of_getElem? (i := 11) rfl))⟩), by decide +kernel, Or.inl (inr_3 _ (List.mem_of_getElem? (i := 11) rfl))⟩
theorem fp_0_25 : FP RX0 25 0 3 false (.int) := ⟨RX0, TX0, 5, tyX0, rfl, by decide, inlX0, tyX0_ok, nmX0, rfl, (fun h => nomatch h), by decide +kernel, Or.inl (inr_3 _ (List.mem_of_getElem? (i := 13) rfl))⟩
theorem fp_1_15 : FP RX1 15 1 0 true (.int) := ⟨RX1, TX1, 9, tyX1, rfl, by decide, inlX1, tyX1_ok, nmX1, rfl, (fun _ => ⟨rfl, (inr_13 _ (List.mem_of_getElem? (i := 23) rfl))⟩), by decide +kernel, Or.inl (inr_13 _ (List.mem_of_getElem? (i := 23) rfl))⟩
theorem fp_1_18 : FP RX1 18 1 1 true (.int) := ⟨RX1, TX1, 9, tyX1, rfl, by decide, inlX1, tyX1_ok, nmX1, rfl, (fun _ => ⟨rfl, (inr_14 _ (List.mem_of_getElem? (i := 0) rfl))⟩), by decide +kernel, Or.inl (inr_14 _ (List.mem_of_getElem? (i := 0) rfl))⟩
theorem fp_1_21 : FP RX1 21 1 2 true (.int) := ⟨RX1, TX1, 9, tyX1, rfl, by decide, inlX1, tyX1_ok, nmX1, rfl, (fun _ => ⟨rfl, (inr_14 _ (List.mem_of_getElem? (i := 1) rfl))⟩), by decide +kernel, Or.inl (inr_14 _ (List.mem_of_getElem? (i := 1) rfl))⟩
theorem fp_1_24 : FP RX1 24 1 3 true (.object "Shortmessage$Link") := ⟨RX1, TX1, 9, tyX1, rfl, by decide, inlX1, tyX1_ok, nmX1, rfl, (fun _ => ⟨rfl, (inr_14 _ (List.mem_of_getElem? (i := 2) rfl))⟩), by decide +kernel, Or.inl (inr_14 _ (List.mem_of_getElem? (i := 2) rfl))⟩
theorem fp_1_34 : FP RX1 34 1 4 true (.array .int) := ⟨RX1, TX1, 9, tyX1, rfl, by decide, inlX1, tyX1_ok, nmX1, rfl, (fun _ => ⟨rfl, (inr_14 _ (List.mem_of_getElem? (i := 3) rfl))⟩), by decide +kernel, Or.inl (inr_14 _ (List.mem_of_getElem? (i := 3) rfl))⟩
theorem fp_1_41 : FP RX1 41 1 5 true (.array .int) := ⟨RX1, TX1, 9, tyX1, rfl, by decide, inlX1, tyX1_ok, nmX1, rfl, (fun _ => ⟨rfl, (inr_14 _ (List.mem_of_getElem? (i := 4) rfl))⟩), by decide +kernel, Or.inl (inr_14 _ (List.mem_of_getElem? (i := 4) rfl))⟩
theorem fp_1_47 : FP RX1 47 1 6 true (.int) := ⟨RX1, TX1, 9, tyX1, rfl, by decide, inlX1, tyX1_ok, nmX1, rfl, (fun _ => ⟨rfl, (inr_14 _ (List.mem_of_getElem? (i := 5) rfl))⟩), by decide +kernel, Or.inl (inr_14 _ (List.mem_of_getElem? (i := 5) rfl))⟩
theorem fp_1_48 : FP RX1 48 1 8 false (.int) := ⟨RX1, TX1, 9, tyX1, rfl, by decide, inlX1, tyX1_ok, nmX1, rfl, (fun h => nomatch h), by decide +kernel, Or.inl (inr_14 _ (List.mem_of_getElem? (i := 6) rfl))⟩
theorem fp_1_9 : FP RX1 9 1 7 false (.int) := ⟨RX1, TX1, 9, tyX1, rfl, by decide, inlX1, tyX1_ok, nmX1, rfl, (fun h => nomatch h), by decide +kernel, Or.inl (inr_13 _ (List.mem_of_getElem? (i := 22) rfl))⟩
theorem fp_2_13 : FP RX2 13 2 4 false (.boolean) := ⟨RX2, TX2, 5, tyX2, rfl, by decide, inlX2, tyX2_ok, nmX2, rfl, (fun h => nomatch h), by decide +kernel, Or.inl (inr_15 _ (List.mem_of_getElem? (i := 13) rfl))⟩
theorem fp_2_17 : FP RX2 17 2 0 true (.object "Shortmessage$Message") := ⟨RX2, TX2, 5, tyX2, rfl, by decide, inlX2, tyX2_ok, nmX2, rfl, (fun _ => ⟨rfl, (inr_15 _ (List.mem_of_getElem? (i := 14) rfl))⟩), by decide +kernel, Or.inl (inr_15 _ (List.mem_of_getElem? (i := 14) rfl))⟩
theorem fp_2_21 : FP RX2 21 2 1 true (.int) := ⟨RX2, TX2, 5, tyX2, rfl, by decide, inlX2, tyX2_ok, nmX2, rfl, (fun _ => ⟨rfl, (inr_15 _ (List.mem_of_getElem? (i := 15) rfl))⟩), by decide +kernel, Or.inl (inr_15 _ (List.mem_of_getElem? (i := 15) rfl))⟩
theorem fp_2_24 : FP RX2 24 2 3 false (.int) := ⟨RX2, TX2, 5, tyX2, rfl, by decide, inlX2, tyX2_ok, nmX2, rfl, (fun h => nomatch h), by decide +kernel, Or.inl (inr_15 _ (List.mem_of_getElem? (i := 16) rfl))⟩
theorem fp_2_7 : FP RX2 7 2 2 false (.int) := ⟨RX2, TX2, 5, tyX2, rfl, by decide, inlX2, tyX2_ok, nmX2, rfl, (fun h => nomatch h), by decide +kernel, Or.inl (inr_15 _ (List.mem_of_getElem? (i := 12) rfl))⟩
theorem fp_3_15 : FP RX3 15 3 1 true (.array .int) := ⟨RX3, TX3, 3, tyX3, rfl, by decide, inlX3, tyX3_ok, nmX3, rfl, (fun _ => ⟨rfl, (inr_2 _ (List.mem_of_getElem? (i := 22) rfl))⟩), by decide +kernel, Or.inl (inr_2 _ (List.mem_of_getElem? (i := 22) rfl))⟩
theorem fp_3_18 : FP RX3 18 3 2 true (.array .int) := ⟨RX3, TX3, 3, tyX3, rfl, by decide, inlX3, tyX3_ok, nmX3, rfl, (fun _ => ⟨rfl, (inr_2 _ (List.mem_of_getElem? (i := 23) rfl))⟩), by decide +kernel, Or.inl (inr_2 _ (List.mem_of_getElem? (i := 23) rfl))⟩
theorem fp_3_9 : FP RX3 9 3 0 true (.array .int) := ⟨RX3, TX3, 3, tyX3, rfl, by decide, inlX3, tyX3_ok, nmX3, rfl, (fun _ => ⟨rfl, (inr_2 _ (List.mem_of_getElem? (i := 21) rfl))⟩), by decide +kernel, Or.inl (inr_2 _ (List.mem_of_getElem? (i := 21) rfl))⟩
theorem fp_4_11 : FP RX4 11 4 0 true (.array (.object "Shortmessage$Part")) := ⟨RX4, TX4, 2, tyX4, rfl, by decide, inlX4, tyX4_ok, nmX4, rfl, (fun _ => ⟨rfl, (inr_3 _ (List.mem_of_getElem? (i := 19) rfl))⟩), by decide +kernel, Or.inl (inr_3 _ (List.mem_of_getElem? (i := 19) rfl))⟩
theorem fp_4_17 : FP RX4 17 4 1 false (.int) := ⟨RX4, TX4, 2, tyX4, rfl, by decide, inlX4, tyX4_ok, nmX4, rfl, (fun h => nomatch h), by decide +kernel, Or.inl (inr_3 _ (List.mem_of_getElem? (i := 20) rfl))⟩
theorem fp_4_40 : FP RX4 40 2 4 false (.boolean) := ⟨RX2, TX2, 5, tyX2, rfl, by decide, inlX2, tyX2_ok, nmX2, rfl, (fun h => nomatch h), by decide +kernel, Or.inr (List.mem_of_getElem? (i := 28) rfl)⟩
theorem fp_5_15 : FP RX5 15 5 1 false (.int) := ⟨RX5, TX5, 6, tyX5, rfl, by decide, inlX5, tyX5_ok, nmX5, rfl, (fun h => nomatch h), by decide +kernel, Or.inl (inr_2 _ (List.mem_of_getElem? (i := 12) rfl))⟩
theorem fp_5_19 : FP RX5 19 5 2 false (.int) := ⟨RX5, TX5, 6, tyX5, rfl, by decide, inlX5, tyX5_ok, nmX5, rfl, (fun h => nomatch h), by decide +kernel, Or.inl (inr_2 _ (List.mem_of_getElem? (i := 13) rfl))⟩
theorem fp_5_22 : FP RX5 22 5 3 false (.boolean) := ⟨RX5, TX5, 6, tyX5, rfl, by decide, inlX5, tyX5_ok, nmX5, rfl, (fun h => nomatch h), by decide +kernel, Or.inl (inr_2 _ (List.mem_of_getElem? (i := 14) rfl))⟩
theorem fp_5_29 : FP RX5 29 5 5 false (.int) := ⟨RX5, TX5, 6, tyX5, rfl, by decide, inlX5, tyX5_ok, nmX5, rfl, (fun h => nomatch h), by decide +kernel, Or.inl (inr_2 _ (List.mem_of_getElem? (i := 16) rfl))⟩
theorem fp_5_26 : FP RX5 26 5 4 true (.array .int) := ⟨RX5, TX5, 6, tyX5, rfl, by decide, inlX5, tyX5_ok, nmX5, rfl, (fun _ => ⟨rfl, (inr_2 _ (List.mem_of_getElem? (i := 15) rfl))⟩), by decide +kernel, Or.inl (inr_2 _ (List.mem_of_getElem? (i := 15) rfl))⟩
theorem fp_5_9 : FP RX5 9 5 0 true (.array .int) := ⟨RX5, TX5, 6, tyX5, rfl, by decide, inlX5, tyX5_ok, nmX5, rfl, (fun _ => ⟨rfl, (inr_2 _ (List.mem_of_getElem? (i := 11) rfl))⟩), by decide +kernel, Or.inl (inr_2 _ (List.mem_of_getElem? (i := 11) rfl))⟩
theorem fp_6_147 : FP RX6 147 1 7 false (.int) := ⟨RX1, TX1, 9, tyX1, rfl, by decide, inlX1, tyX1_ok, nmX1, rfl, (fun h => nomatch h), by decide +kernel, Or.inr (List.mem_of_getElem? (i := 19) rfl)⟩
theorem fp_6_30 : FP RX6 30 6 4 false (.int) := ⟨RX6, TX6, 8, tyX6, rfl, by decide, inlX6, tyX6_ok, nmX6, rfl, (fun h => nomatch h), by decide +kernel, Or.inl (inr_1 _ (List.mem_of_getElem? (i := 22) rfl))⟩
theorem fp_6_10 : FP RX6 10 6 0 true (.object "Shortmessage$Text") := ⟨RX6, TX6, 8, tyX6, rfl, by decide, inlX6, tyX6_ok, nmX6, rfl, (fun _ => ⟨rfl, (inr_1 _ (List.mem_of_getElem? (i := 16) rfl))⟩), by decide +kernel, Or.inl (inr_1 _ (List.mem_of_getElem? (i := 16) rfl))⟩
theorem fp_6_18 : FP RX6 18 6 1 true (.array (.object "Shortmessage$Message")) := ⟨RX6, TX6, 8, tyX6, rfl, by decide, inlX6, tyX6_ok, nmX6, rfl, (fun _ => ⟨rfl, (inr_1 _ (List.mem_of_getElem? (i := 18) rfl))⟩), by decide +kernel, Or.inl (inr_1 _ (List.mem_of_getElem? (i := 18) rfl))⟩
theorem fp_6_22 : FP RX6 22 6 2 false (.int) := ⟨RX6, TX6, 8, tyX6, rfl, by decide, inlX6, tyX6_ok, nmX6, rfl, (fun h => nomatch h), by decide +kernel, Or.inl (inr_1 _ (List.mem_of_getElem? (i := 19) rfl))⟩
theorem fp_6_26 : FP RX6 26 6 3 true (.array .int) := ⟨RX6, TX6, 8, tyX6, rfl, by decide, inlX6, tyX6_ok, nmX6, rfl, (fun _ => ⟨rfl, (inr_1 _ (List.mem_of_getElem? (i := 21) rfl))⟩), by decide +kernel, Or.inl (inr_1 _ (List.mem_of_getElem? (i := 21) rfl))⟩
theorem fp_6_35 : FP RX6 35 6 5 true (.array (.object "Shortmessage$Link")) := ⟨RX6, TX6, 8, tyX6, rfl, by decide, inlX6, tyX6_ok, nmX6, rfl, (fun _ => ⟨rfl, (inr_2 _ (List.mem_of_getElem? (i := 0) rfl))⟩), by decide +kernel, Or.inl (inr_2 _ (List.mem_of_getElem? (i := 0) rfl))⟩
theorem fp_6_42 : FP RX6 42 6 6 true (.object "Shortmessage$Reception") := ⟨RX6, TX6, 8, tyX6, rfl, by decide, inlX6, tyX6_ok, nmX6, rfl, (fun _ => ⟨rfl, (inr_2 _ (List.mem_of_getElem? (i := 4) rfl))⟩), by decide +kernel, Or.inl (inr_2 _ (List.mem_of_getElem? (i := 4) rfl))⟩
theorem fp_6_46 : FP RX6 46 6 7 false (.int) := ⟨RX6, TX6, 8, tyX6, rfl, by decide, inlX6, tyX6_ok, nmX6, rfl, (fun h => nomatch h), by decide +kernel, Or.inl (inr_2 _ (List.mem_of_getElem? (i := 5) rfl))⟩
theorem fp_6_193 : FP RX6 193 0 3 false (.int) := ⟨RX0, TX0, 5, tyX0, rfl, by decide, inlX0, tyX0_ok, nmX0, rfl, (fun h => nomatch h), by decide +kernel, Or.inr (List.mem_of_getElem? (i := 10) rfl)⟩
theorem fp_6_241 : FP RX6 241 2 2 false (.int) := ⟨RX2, TX2, 5, tyX2, rfl, by decide, inlX2, tyX2_ok, nmX2, rfl, (fun h => nomatch h), by decide +kernel, Or.inr (List.mem_of_getElem? (i := 25) rfl)⟩
theorem fp_6_244 : FP RX6 244 2 3 false (.int) := ⟨RX2, TX2, 5, tyX2, rfl, by decide, inlX2, tyX2_ok, nmX2, rfl, (fun h => nomatch h), by decide +kernel, Or.inr (List.mem_of_getElem? (i := 27) rfl)⟩
theorem fp_6_247 : FP RX6 247 2 4 false (.boolean) := ⟨RX2, TX2, 5, tyX2, rfl, by decide, inlX2, tyX2_ok, nmX2, rfl, (fun h => nomatch h), by decide +kernel, Or.inr (List.mem_of_getElem? (i := 29) rfl)⟩
theorem fp_6_185 : FP RX6 185 0 2 false (.boolean) := ⟨RX0, TX0, 5, tyX0, rfl, by decide, inlX0, tyX0_ok, nmX0, rfl, (fun h => nomatch h), by decide +kernel, Or.inr (List.mem_of_getElem? (i := 9) rfl)⟩
theorem fp_7_143 : FP RX7 143 7 9 false (.int) := ⟨RX7, TX7, 26, tyX7, rfl, by decide, inlX7, tyX7_ok, nmX7, rfl, (fun h => nomatch h), by decide +kernel, Or.inl (inr_19 _ (List.mem_of_getElem? (i := 4) rfl))⟩
theorem fp_7_74 : FP RX7 74 7 25 false (.int) := ⟨RX7, TX7, 26, tyX7, rfl, by decide, inlX7, tyX7_ok, nmX7, rfl, (fun h => nomatch h), by decide +kernel, Or.inl (inr_6 _ (List.mem_of_getElem? (i := 20) rfl))⟩
theorem fp_7_98 : FP RX7 98 7 1 false (.int) := ⟨RX7, TX7, 26, tyX7, rfl, by decide, inlX7, tyX7_ok, nmX7, rfl, (fun h => nomatch h), by decide +kernel, Or.inl (inr_6 _ (List.mem_of_getElem? (i := 12) rfl))⟩
theorem fp_7_13 : FP RX7 13 7 4 true (.array .int) := ⟨RX7, TX7, 26, tyX7, rfl, by decide, inlX7, tyX7_ok, nmX7, rfl, (fun _ => ⟨rfl, (inr_4 _ (List.mem_of_getElem? (i := 2) rfl))⟩), by decide +kernel, Or.inl (inr_4 _ (List.mem_of_getElem? (i := 2) rfl))⟩
theorem fp_7_16 : FP RX7 16 7 5 true (.array .int) := ⟨RX7, TX7, 26, tyX7, rfl, by decide, inlX7, tyX7_ok, nmX7, rfl, (fun _ => ⟨rfl, (inr_4 _ (List.mem_of_getElem? (i := 3) rfl))⟩), by decide +kernel, Or.inl (inr_4 _ (List.mem_of_getElem? (i := 3) rfl))⟩
theorem fp_7_19 : FP RX7 19 7 6 true (.array .int) := ⟨RX7, TX7, 26, tyX7, rfl, by decide, inlX7, tyX7_ok, nmX7, rfl, (fun _ => ⟨rfl, (inr_4 _ (List.mem_of_getElem? (i := 4) rfl))⟩), by decide +kernel, Or.inl (inr_4 _ (List.mem_of_getElem? (i := 4) rfl))⟩
theorem fp_7_22 : FP RX7 22 7 7 true (.array .int) := ⟨RX7, TX7, 26, tyX7, rfl, by decide, inlX7, tyX7_ok, nmX7, rfl, (fun _ => ⟨rfl, (inr_4 _ (List.mem_of_getElem? (i := 5) rfl))⟩), by decide +kernel, Or.inl (inr_4 _ (List.mem_of_getElem? (i := 5) rfl))⟩
theorem fp_7_25 : FP RX7 25 7 8 true (.array .int) := ⟨RX7, TX7, 26, tyX7, rfl, by decide, inlX7, tyX7_ok, nmX7, rfl, (fun _ => ⟨rfl, (inr_4 _ (List.mem_of_getElem? (i := 6) rfl))⟩), by decide +kernel, Or.inl (inr_4 _ (List.mem_of_getElem? (i := 6) rfl))⟩
theorem fp_7_28 : FP RX7 28 7 10 true (.array .int) := ⟨RX7, TX7, 26, tyX7, rfl, by decide, inlX7, tyX7_ok, nmX7, rfl, (fun _ => ⟨rfl, (inr_4 _ (List.mem_of_getElem? (i := 7) rfl))⟩), by decide +kernel, Or.inl (inr_4 _ (List.mem_of_getElem? (i := 7) rfl))⟩
theorem fp_7_31 : FP RX7 31 7 11 true (.array .int) := ⟨RX7, TX7, 26, tyX7, rfl, by decide, inlX7, tyX7_ok, nmX7, rfl, (fun _ => ⟨rfl, (inr_4 _ (List.mem_of_getElem? (i := 8) rfl))⟩), by decide +kernel, Or.inl (inr_4 _ (List.mem_of_getElem? (i := 8) rfl))⟩
theorem fp_7_34 : FP RX7 34 7 12 true (.array .int) := ⟨RX7, TX7, 26, tyX7, rfl, by decide, inlX7, tyX7_ok, nmX7, rfl, (fun _ => ⟨rfl, (inr_4 _ (List.mem_of_getElem? (i := 9) rfl))⟩), by decide +kernel, Or.inl (inr_4 _ (List.mem_of_getElem? (i := 9) rfl))⟩
theorem fp_7_37 : FP RX7 37 7 13 true (.array .boolean) := ⟨RX7, TX7, 26, tyX7, rfl, by decide, inlX7, tyX7_ok, nmX7, rfl, (fun _ => ⟨rfl, (inr_4 _ (List.mem_of_getElem? (i := 11) rfl))⟩), by decide +kernel, Or.inl (inr_4 _ (List.mem_of_getElem? (i := 11) rfl))⟩
theorem fp_7_41 : FP RX7 41 7 14 true (.array .boolean) := ⟨RX7, TX7, 26, tyX7, rfl, by decide, inlX7, tyX7_ok, nmX7, rfl, (fun _ => ⟨rfl, (inr_4 _ (List.mem_of_getElem? (i := 12) rfl))⟩), by decide +kernel, Or.inl (inr_4 _ (List.mem_of_getElem? (i := 12) rfl))⟩
theorem fp_7_44 : FP RX7 44 7 15 true (.array .int) := ⟨RX7, TX7, 26, tyX7, rfl, by decide, inlX7, tyX7_ok, nmX7, rfl, (fun _ => ⟨rfl, (inr_4 _ (List.mem_of_getElem? (i := 13) rfl))⟩), by decide +kernel, Or.inl (inr_4 _ (List.mem_of_getElem? (i := 13) rfl))⟩
theorem fp_7_47 : FP RX7 47 7 16 true (.array .int) := ⟨RX7, TX7, 26, tyX7, rfl, by decide, inlX7, tyX7_ok, nmX7, rfl, (fun _ => ⟨rfl, (inr_4 _ (List.mem_of_getElem? (i := 14) rfl))⟩), by decide +kernel, Or.inl (inr_4 _ (List.mem_of_getElem? (i := 14) rfl))⟩
theorem fp_7_50 : FP RX7 50 7 17 true (.array .int) := ⟨RX7, TX7, 26, tyX7, rfl, by decide, inlX7, tyX7_ok, nmX7, rfl, (fun _ => ⟨rfl, (inr_4 _ (List.mem_of_getElem? (i := 15) rfl))⟩), by decide +kernel, Or.inl (inr_4 _ (List.mem_of_getElem? (i := 15) rfl))⟩
theorem fp_7_53 : FP RX7 53 7 18 true (.array .int) := ⟨RX7, TX7, 26, tyX7, rfl, by decide, inlX7, tyX7_ok, nmX7, rfl, (fun _ => ⟨rfl, (inr_4 _ (List.mem_of_getElem? (i := 16) rfl))⟩), by decide +kernel, Or.inl (inr_4 _ (List.mem_of_getElem? (i := 16) rfl))⟩
theorem fp_7_56 : FP RX7 56 7 19 true (.array .boolean) := ⟨RX7, TX7, 26, tyX7, rfl, by decide, inlX7, tyX7_ok, nmX7, rfl, (fun _ => ⟨rfl, (inr_4 _ (List.mem_of_getElem? (i := 17) rfl))⟩), by decide +kernel, Or.inl (inr_4 _ (List.mem_of_getElem? (i := 17) rfl))⟩
theorem fp_7_59 : FP RX7 59 7 20 true (.array .int) := ⟨RX7, TX7, 26, tyX7, rfl, by decide, inlX7, tyX7_ok, nmX7, rfl, (fun _ => ⟨rfl, (inr_4 _ (List.mem_of_getElem? (i := 18) rfl))⟩), by decide +kernel, Or.inl (inr_4 _ (List.mem_of_getElem? (i := 18) rfl))⟩
theorem fp_7_62 : FP RX7 62 7 21 true (.array .int) := ⟨RX7, TX7, 26, tyX7, rfl, by decide, inlX7, tyX7_ok, nmX7, rfl, (fun _ => ⟨rfl, (inr_4 _ (List.mem_of_getElem? (i := 19) rfl))⟩), by decide +kernel, Or.inl (inr_4 _ (List.mem_of_getElem? (i := 19) rfl))⟩
theorem fp_7_65 : FP RX7 65 7 22 true (.array .int) := ⟨RX7, TX7, 26, tyX7, rfl, by decide, inlX7, tyX7_ok, nmX7, rfl, (fun _ => ⟨rfl, (inr_4 _ (List.mem_of_getElem? (i := 20) rfl))⟩), by decide +kernel, Or.inl (inr_4 _ (List.mem_of_getElem? (i := 20) rfl))⟩
theorem fp_7_68 : FP RX7 68 7 23 true (.array .int) := ⟨RX7, TX7, 26, tyX7, rfl, by decide, inlX7, tyX7_ok, nmX7, rfl, (fun _ => ⟨rfl, (inr_4 _ (List.mem_of_getElem? (i := 21) rfl))⟩), by decide +kernel, Or.inl (inr_4 _ (List.mem_of_getElem? (i := 21) rfl))⟩
theorem fp_7_7 : FP RX7 7 7 2 true (.array .int) := ⟨RX7, TX7, 26, tyX7, rfl, by decide, inlX7, tyX7_ok, nmX7, rfl, (fun _ => ⟨rfl, (inr_4 _ (List.mem_of_getElem? (i := 1) rfl))⟩), by decide +kernel, Or.inl (inr_4 _ (List.mem_of_getElem? (i := 1) rfl))⟩
theorem fp_7_71 : FP RX7 71 7 24 true (.array .int) := ⟨RX7, TX7, 26, tyX7, rfl, by decide, inlX7, tyX7_ok, nmX7, rfl, (fun _ => ⟨rfl, (inr_4 _ (List.mem_of_getElem? (i := 22) rfl))⟩), by decide +kernel, Or.inl (inr_4 _ (List.mem_of_getElem? (i := 22) rfl))⟩
theorem fp_7_127 : FP RX7 127 7 0 false (.int) := ⟨RX7, TX7, 26, tyX7, rfl, by decide, inlX7, tyX7_ok, nmX7, rfl, (fun h => nomatch h), by decide +kernel, Or.inl (inr_16 _ (List.mem_of_getElem? (i := 6) rfl))⟩
theorem fp_7_124 : FP RX7 124 7 3 false (.int) := ⟨RX7, TX7, 26, tyX7, rfl, by decide, inlX7, tyX7_ok, nmX7, rfl, (fun h => nomatch h), by decide +kernel, Or.inl (inr_16 _ (List.mem_of_getElem? (i := 5) rfl))⟩
theorem nw_L_8 : NW RL 8 6 8 [.null, .null, .int 0, .null, .int 0, .null, .null, .int 0] := ⟨RX6, TX6, tyX6, rfl, inlX6, tyX6_ok, (fun j hj => by have := List.mem_range.mpr hj; revert j; decide +kernel), (inr_1 _ (List.mem_of_getElem? (i := 0) rfl)), (inr_1 _ (List.mem_of_getElem? (i := 1) rfl)), (inr_1 _ (List.mem_of_getElem? (i := 2) rfl))⟩
theorem nw_L_81 : NW RL 81 7 26 [.int 0, .int 0, .null, .int 0, .null, .null, .null, .null, .null, .int 0, .null, .null, .null, .null, .null, .null, .null, .null, .null, .null, .null, .null, .null, .null, .null, .int 0] := ⟨RX7, TX7, tyX7, rfl, inlX7, tyX7_ok, (fun j hj => by have := List.mem_range.mpr hj; revert j; decide +kernel), (inr_1 _ (List.mem_of_getElem? (i := 3) rfl)), (inr_1 _ (List.mem_of_getElem? (i := 4) rfl)), (inr_1 _ (List.mem_of_getElem? (i := 5) rfl))⟩
theorem nw_0_9 : NW RX0 9 4 2 [.null, .int 0] := ⟨RX4, TX4, tyX4, rfl, inlX4, tyX4_ok, (fun j hj => by have := List.mem_range.mpr hj; revert j; decide +kernel), (inr_3 _ (List.mem_of_getElem? (i := 7) rfl)), (inr_3 _ (List.mem_of_getElem? (i := 8) rfl)), (inr_3 _ (List.mem_of_getElem? (i := 9) rfl))⟩
theorem nw_6_129 : NW RX6 129 2 5 [.null, .int 0, .int 0, .int 0, .int 0] := ⟨RX2, TX2, tyX2, rfl, inlX2, tyX2_ok, (fun j hj => by have := List.mem_range.mpr hj; revert j; decide +kernel), (inr_13 _ (List.mem_of_getElem? (i := 3) rfl)), (inr_13 _ (List.mem_of_getElem? (i := 4) rfl)), (inr_13 _ (List.mem_of_getElem? (i := 5) rfl))⟩
theorem nw_6_16 : NW RX6 16 1 9 [.int 0, .int 0, .int 0, .null, .null, .null, .int 0, .int 0, .int 0] := ⟨RX1, TX1, tyX1, rfl, inlX1, tyX1_ok, (fun j hj => by have := List.mem_range.mpr hj; revert j; decide +kernel), (inr_1 _ (List.mem_of_getElem? (i := 17) rfl)), (inr_13 _ (List.mem_of_getElem? (i := 1) rfl)), (inr_13 _ (List.mem_of_getElem? (i := 2) rfl))⟩
theorem nw_6_33 : NW RX6 33 0 5 [.null, .null, .int 0, .int 0, .int 0] := ⟨RX0, TX0, tyX0, rfl, inlX0, tyX0_ok, (fun j hj => by have := List.mem_range.mpr hj; revert j; decide +kernel), (inr_1 _ (List.mem_of_getElem? (i := 23) rfl)), (inr_2 _ (List.mem_of_getElem? (i := 6) rfl)), (inr_2 _ (List.mem_of_getElem? (i := 7) rfl))⟩
theorem nw_6_39 : NW RX6 39 3 3 [.null, .null, .null] := ⟨RX3, TX3, tyX3, rfl, inlX3, tyX3_ok, (fun j hj => by have := List.mem_range.mpr hj; revert j; decide +kernel), (inr_2 _ (List.mem_of_getElem? (i := 1) rfl)), (inr_2 _ (List.mem_of_getElem? (i := 2) rfl)), (inr_2 _ (List.mem_of_getElem? (i := 3) rfl))⟩
theorem nw_6_7 : NW RX6 7 5 6 [.null, .int 0, .int 0, .int 0, .null, .int 0] := ⟨RX5, TX5, tyX5, rfl, inlX5, tyX5_ok, (fun j hj => by have := List.mem_range.mpr hj; revert j; decide +kernel), (inr_1 _ (List.mem_of_getElem? (i := 13) rfl)), (inr_1 _ (List.mem_of_getElem? (i := 14) rfl)), (inr_1 _ (List.mem_of_getElem? (i := 15) rfl))⟩
theorem mb_X6_init : MB yX6_init cX6_init 2 none 0 := ⟨(inr_1 _ (List.mem_of_getElem? (i := 9) rfl)), (inr_1 _ (List.mem_of_getElem? (i := 2) rfl)), by decide +kernel⟩
theorem mb_X5_init : MB yX5_init cX5_init 1 none 0 := ⟨(inr_2 _ (List.mem_of_getElem? (i := 9) rfl)), (inr_1 _ (List.mem_of_getElem? (i := 15) rfl)), by decide +kernel⟩
theorem mb_X3_init : MB yX3_init cX3_init 1 none 0 := ⟨(inr_2 _ (List.mem_of_getElem? (i := 19) rfl)), (inr_2 _ (List.mem_of_getElem? (i := 3) rfl)), by decide +kernel⟩
theorem mb_J7_fill_53178 : MB yJ7_fill_53178 cJ7_fill_53178 4 none 2 := ⟨(inr_3 _ (List.mem_of_getElem? (i := 3) rfl)), (inr_3 _ (List.mem_of_getElem? (i := 2) rfl)), by decide +kernel⟩
theorem mb_X0_init : MB yX0_init cX0_init 1 none 0 := ⟨(inr_3 _ (List.mem_of_getElem? (i := 5) rfl)), (inr_2 _ (List.mem_of_getElem? (i := 7) rfl)), by decide +kernel⟩
theorem mb_X4_init : MB yX4_init cX4_init 1 none 0 := ⟨(inr_3 _ (List.mem_of_getElem? (i := 16) rfl)), (inr_3 _ (List.mem_of_getElem? (i := 9) rfl)), by decide +kernel⟩
theorem mb_X7_init : MB yX7_init cX7_init 2 none 0 := ⟨(inr_3 _ (List.mem_of_getElem? (i := 23) rfl)), (inr_1 _ (List.mem_of_getElem? (i := 5) rfl)), by decide +kernel⟩
theorem mb_X6_write : MB yX6_write cX6_write 3 (some .int) 2 := ⟨(inr_5 _ (List.mem_of_getElem? (i := 8) rfl)), (inr_1 _ (List.mem_of_getElem? (i := 2) rfl)), by decide +kernel⟩
theorem mb_X5_append : MB yX5_append cX5_append 4 none 2 := ⟨(inr_5 _ (List.mem_of_getElem? (i := 16) rfl)), (inr_1 _ (List.mem_of_getElem? (i := 15) rfl)), by decide +kernel⟩
theorem mb_X5_septetsOf : MB yX5_septetsOf cX5_septetsOf 1 (some .int) 1 := ⟨(inr_5 _ (List.mem_of_getElem? (i := 19) rfl)), (inr_1 _ (List.mem_of_getElem? (i := 15) rfl)), by decide +kernel⟩
theorem mb_X5_cut : MB yX5_cut cX5_cut 5 none 0 := ⟨(inr_5 _ (List.mem_of_getElem? (i := 23) rfl)), (inr_1 _ (List.mem_of_getElem? (i := 15) rfl)), by decide +kernel⟩
theorem mb_X5_roomOfAPart : MB yX5_roomOfAPart cX5_roomOfAPart 1 (some .int) 0 := ⟨(inr_6 _ (List.mem_of_getElem? (i := 3) rfl)), (inr_1 _ (List.mem_of_getElem? (i := 15) rfl)), by decide +kernel⟩
theorem mb_X5_signAt : MB yX5_signAt cX5_signAt 2 (some .int) 1 := ⟨(inr_6 _ (List.mem_of_getElem? (i := 7) rfl)), (inr_1 _ (List.mem_of_getElem? (i := 15) rfl)), by decide +kernel⟩
theorem mb_X7_write : MB yX7_write cX7_write 5 (some .int) 2 := ⟨(inr_6 _ (List.mem_of_getElem? (i := 11) rfl)), (inr_1 _ (List.mem_of_getElem? (i := 5) rfl)), by decide +kernel⟩
theorem mb_X7_isIn : MB yX7_isIn cX7_isIn 3 (some .boolean) 3 := ⟨(inr_6 _ (List.mem_of_getElem? (i := 15) rfl)), (inr_1 _ (List.mem_of_getElem? (i := 5) rfl)), by decide +kernel⟩
theorem mb_X7_fails : MB yX7_fails cX7_fails 2 (some .boolean) 1 := ⟨(inr_6 _ (List.mem_of_getElem? (i := 19) rfl)), (inr_1 _ (List.mem_of_getElem? (i := 5) rfl)), by decide +kernel⟩
theorem mb_X7_thrown : MB yX7_thrown cX7_thrown 1 (some .int) 0 := ⟨(inr_7 _ (List.mem_of_getElem? (i := 0) rfl)), (inr_1 _ (List.mem_of_getElem? (i := 5) rfl)), by decide +kernel⟩
theorem mb_X6_erase : MB yX6_erase cX6_erase 2 (some .int) 0 := ⟨(inr_7 _ (List.mem_of_getElem? (i := 4) rfl)), (inr_1 _ (List.mem_of_getElem? (i := 2) rfl)), by decide +kernel⟩
theorem mb_X5_clear : MB yX5_clear cX5_clear 1 none 0 := ⟨(inr_7 _ (List.mem_of_getElem? (i := 8) rfl)), (inr_1 _ (List.mem_of_getElem? (i := 15) rfl)), by decide +kernel⟩
theorem mb_X7_erase : MB yX7_erase cX7_erase 2 (some .int) 0 := ⟨(inr_7 _ (List.mem_of_getElem? (i := 12) rfl)), (inr_1 _ (List.mem_of_getElem? (i := 5) rfl)), by decide +kernel⟩
theorem mb_X6_isWide : MB yX6_isWide cX6_isWide 1 (some .boolean) 0 := ⟨(inr_7 _ (List.mem_of_getElem? (i := 16) rfl)), (inr_1 _ (List.mem_of_getElem? (i := 2) rfl)), by decide +kernel⟩
theorem mb_X7_isWide : MB yX7_isWide cX7_isWide 1 (some .boolean) 0 := ⟨(inr_7 _ (List.mem_of_getElem? (i := 20) rfl)), (inr_1 _ (List.mem_of_getElem? (i := 5) rfl)), by decide +kernel⟩
theorem mb_X7_hasWide : MB yX7_hasWide cX7_hasWide 5 (some .boolean) 3 := ⟨(inr_7 _ (List.mem_of_getElem? (i := 23) rfl)), (inr_1 _ (List.mem_of_getElem? (i := 5) rfl)), by decide +kernel⟩
theorem mb_X6_septets : MB yX6_septets cX6_septets 1 (some .int) 0 := ⟨(inr_8 _ (List.mem_of_getElem? (i := 6) rfl)), (inr_1 _ (List.mem_of_getElem? (i := 2) rfl)), by decide +kernel⟩
theorem mb_X7_septets : MB yX7_septets cX7_septets 1 (some .int) 0 := ⟨(inr_8 _ (List.mem_of_getElem? (i := 10) rfl)), (inr_1 _ (List.mem_of_getElem? (i := 5) rfl)), by decide +kernel⟩
theorem mb_X7_septetsIn : MB yX7_septetsIn cX7_septetsIn 5 (some .int) 3 := ⟨(inr_8 _ (List.mem_of_getElem? (i := 13) rfl)), (inr_1 _ (List.mem_of_getElem? (i := 5) rfl)), by decide +kernel⟩
theorem mb_X7_width : MB yX7_width cX7_width 1 (some .int) 1 := ⟨(inr_8 _ (List.mem_of_getElem? (i := 16) rfl)), (inr_1 _ (List.mem_of_getElem? (i := 5) rfl)), by decide +kernel⟩
theorem mb_X6_parts : MB yX6_parts cX6_parts 1 (some .int) 0 := ⟨(inr_8 _ (List.mem_of_getElem? (i := 20) rfl)), (inr_1 _ (List.mem_of_getElem? (i := 2) rfl)), by decide +kernel⟩
theorem mb_X7_parts : MB yX7_parts cX7_parts 1 (some .int) 0 := ⟨(inr_9 _ (List.mem_of_getElem? (i := 0) rfl)), (inr_1 _ (List.mem_of_getElem? (i := 5) rfl)), by decide +kernel⟩
theorem mb_X7_partsOf : MB yX7_partsOf cX7_partsOf 4 (some .int) 3 := ⟨(inr_9 _ (List.mem_of_getElem? (i := 3) rfl)), (inr_1 _ (List.mem_of_getElem? (i := 5) rfl)), by decide +kernel⟩
theorem mb_X7_signsOf : MB yX7_signsOf cX7_signsOf 9 (some .int) 4 := ⟨(inr_9 _ (List.mem_of_getElem? (i := 6) rfl)), (inr_1 _ (List.mem_of_getElem? (i := 5) rfl)), by decide +kernel⟩
theorem mb_X7_tells : MB yX7_tells cX7_tells 2 (some .int) 1 := ⟨(inr_9 _ (List.mem_of_getElem? (i := 10) rfl)), (inr_1 _ (List.mem_of_getElem? (i := 5) rfl)), by decide +kernel⟩
theorem mb_X6_signs : MB yX6_signs cX6_signs 2 (some .int) 1 := ⟨(inr_9 _ (List.mem_of_getElem? (i := 18) rfl)), (inr_1 _ (List.mem_of_getElem? (i := 2) rfl)), by decide +kernel⟩
theorem mb_X6_requirePart : MB yX6_requirePart cX6_requirePart 2 none 1 := ⟨(inr_9 _ (List.mem_of_getElem? (i := 22) rfl)), (inr_1 _ (List.mem_of_getElem? (i := 2) rfl)), by decide +kernel⟩
theorem mb_X5_startOf : MB yX5_startOf cX5_startOf 2 (some .int) 1 := ⟨(inr_10 _ (List.mem_of_getElem? (i := 4) rfl)), (inr_1 _ (List.mem_of_getElem? (i := 15) rfl)), by decide +kernel⟩
theorem mb_X7_signs : MB yX7_signs cX7_signs 2 (some .int) 1 := ⟨(inr_10 _ (List.mem_of_getElem? (i := 8) rfl)), (inr_1 _ (List.mem_of_getElem? (i := 5) rfl)), by decide +kernel⟩
theorem mb_X7_isPart : MB yX7_isPart cX7_isPart 2 (some .boolean) 1 := ⟨(inr_10 _ (List.mem_of_getElem? (i := 12) rfl)), (inr_1 _ (List.mem_of_getElem? (i := 5) rfl)), by decide +kernel⟩
theorem mb_X6_octets : MB yX6_octets cX6_octets 2 (some .int) 1 := ⟨(inr_10 _ (List.mem_of_getElem? (i := 19) rfl)), (inr_1 _ (List.mem_of_getElem? (i := 2) rfl)), by decide +kernel⟩
theorem mb_X5_octetsOf : MB yX5_octetsOf cX5_octetsOf 2 (some .int) 1 := ⟨(inr_10 _ (List.mem_of_getElem? (i := 23) rfl)), (inr_1 _ (List.mem_of_getElem? (i := 15) rfl)), by decide +kernel⟩
theorem mb_X5_septetsIn : MB yX5_septetsIn cX5_septetsIn 5 (some .int) 1 := ⟨(inr_11 _ (List.mem_of_getElem? (i := 4) rfl)), (inr_1 _ (List.mem_of_getElem? (i := 15) rfl)), by decide +kernel⟩
theorem mb_X7_octets : MB yX7_octets cX7_octets 2 (some .int) 1 := ⟨(inr_11 _ (List.mem_of_getElem? (i := 8) rfl)), (inr_1 _ (List.mem_of_getElem? (i := 5) rfl)), by decide +kernel⟩
theorem mb_X7_octetsOf : MB yX7_octetsOf cX7_octetsOf 4 (some .int) 1 := ⟨(inr_11 _ (List.mem_of_getElem? (i := 12) rfl)), (inr_1 _ (List.mem_of_getElem? (i := 5) rfl)), by decide +kernel⟩
theorem mb_X7_begins : MB yX7_begins cX7_begins 6 (some .int) 4 := ⟨(inr_11 _ (List.mem_of_getElem? (i := 15) rfl)), (inr_1 _ (List.mem_of_getElem? (i := 5) rfl)), by decide +kernel⟩
theorem mb_X6_octet : MB yX6_octet cX6_octet 3 (some .int) 2 := ⟨(inr_11 _ (List.mem_of_getElem? (i := 22) rfl)), (inr_1 _ (List.mem_of_getElem? (i := 2) rfl)), by decide +kernel⟩
theorem mb_X5_octetAt : MB yX5_octetAt cX5_octetAt 6 (some .int) 2 := ⟨(inr_12 _ (List.mem_of_getElem? (i := 2) rfl)), (inr_1 _ (List.mem_of_getElem? (i := 15) rfl)), by decide +kernel⟩
theorem mb_X5_septetAt : MB yX5_septetAt cX5_septetAt 8 (some .int) 2 := ⟨(inr_12 _ (List.mem_of_getElem? (i := 6) rfl)), (inr_1 _ (List.mem_of_getElem? (i := 15) rfl)), by decide +kernel⟩
theorem mb_X5_septetOf : MB yX5_septetOf cX5_septetOf 2 (some .int) 2 := ⟨(inr_12 _ (List.mem_of_getElem? (i := 9) rfl)), (inr_1 _ (List.mem_of_getElem? (i := 15) rfl)), by decide +kernel⟩
theorem mb_X7_octet : MB yX7_octet cX7_octet 6 (some .int) 2 := ⟨(inr_12 _ (List.mem_of_getElem? (i := 13) rfl)), (inr_1 _ (List.mem_of_getElem? (i := 5) rfl)), by decide +kernel⟩
theorem mb_X7_septet : MB yX7_septet cX7_septet 6 (some .int) 2 := ⟨(inr_12 _ (List.mem_of_getElem? (i := 17) rfl)), (inr_1 _ (List.mem_of_getElem? (i := 5) rfl)), by decide +kernel⟩
theorem mb_X6_submit : MB yX6_submit cX6_submit 5 (some .int) 2 := ⟨(inr_13 _ (List.mem_of_getElem? (i := 0) rfl)), (inr_1 _ (List.mem_of_getElem? (i := 2) rfl)), by decide +kernel⟩
theorem mb_X6_requireReceiver : MB yX6_requireReceiver cX6_requireReceiver 2 none 1 := ⟨(inr_13 _ (List.mem_of_getElem? (i := 9) rfl)), (inr_1 _ (List.mem_of_getElem? (i := 2) rfl)), by decide +kernel⟩
theorem mb_X6_linkOf : MB yX6_linkOf cX6_linkOf 2 (some (.object "Shortmessage$Link")) 1 := ⟨(inr_13 _ (List.mem_of_getElem? (i := 13) rfl)), (inr_1 _ (List.mem_of_getElem? (i := 2) rfl)), by decide +kernel⟩
theorem mb_X6_linkAt : MB yX6_linkAt cX6_linkAt 2 (some (.object "Shortmessage$Link")) 1 := ⟨(inr_13 _ (List.mem_of_getElem? (i := 17) rfl)), (inr_1 _ (List.mem_of_getElem? (i := 2) rfl)), by decide +kernel⟩
theorem mb_X1_init : MB yX1_init cX1_init 6 none 5 := ⟨(inr_13 _ (List.mem_of_getElem? (i := 20) rfl)), (inr_13 _ (List.mem_of_getElem? (i := 2) rfl)), by decide +kernel⟩
theorem mb_X5_copyOfSigns : MB yX5_copyOfSigns cX5_copyOfSigns 1 (some (.array .int)) 0 := ⟨(inr_14 _ (List.mem_of_getElem? (i := 10) rfl)), (inr_1 _ (List.mem_of_getElem? (i := 15) rfl)), by decide +kernel⟩
theorem mb_J7_copyOf_59c91 : MB yJ7_copyOf_59c91 cJ7_copyOf_59c91 3 (some (.array .int)) 2 := ⟨(inr_14 _ (List.mem_of_getElem? (i := 13) rfl)), (inr_3 _ (List.mem_of_getElem? (i := 2) rfl)), by decide +kernel⟩
theorem mb_X5_copyOfStarts : MB yX5_copyOfStarts cX5_copyOfStarts 1 (some (.array .int)) 0 := ⟨(inr_15 _ (List.mem_of_getElem? (i := 7) rfl)), (inr_1 _ (List.mem_of_getElem? (i := 15) rfl)), by decide +kernel⟩
theorem mb_X2_init : MB yX2_init cX2_init 4 none 3 := ⟨(inr_15 _ (List.mem_of_getElem? (i := 10) rfl)), (inr_13 _ (List.mem_of_getElem? (i := 5) rfl)), by decide +kernel⟩
theorem mb_X4_addLast : MB yX4_addLast cX4_addLast 2 none 1 := ⟨(inr_15 _ (List.mem_of_getElem? (i := 20) rfl)), (inr_3 _ (List.mem_of_getElem? (i := 9) rfl)), by decide +kernel⟩
theorem mb_X4_insert : MB yX4_insert cX4_insert 4 none 2 := ⟨(inr_16 _ (List.mem_of_getElem? (i := 0) rfl)), (inr_3 _ (List.mem_of_getElem? (i := 9) rfl)), by decide +kernel⟩
theorem mb_X7_submit : MB yX7_submit cX7_submit 6 (some .int) 2 := ⟨(inr_16 _ (List.mem_of_getElem? (i := 4) rfl)), (inr_1 _ (List.mem_of_getElem? (i := 5) rfl)), by decide +kernel⟩
theorem mb_X7_partsIn : MB yX7_partsIn cX7_partsIn 2 (some .int) 1 := ⟨(inr_16 _ (List.mem_of_getElem? (i := 10) rfl)), (inr_1 _ (List.mem_of_getElem? (i := 5) rfl)), by decide +kernel⟩
theorem mb_X7_puts : MB yX7_puts cX7_puts 5 none 4 := ⟨(inr_16 _ (List.mem_of_getElem? (i := 14) rfl)), (inr_1 _ (List.mem_of_getElem? (i := 5) rfl)), by decide +kernel⟩
theorem mb_X6_state : MB yX6_state cX6_state 2 (some .int) 1 := ⟨(inr_16 _ (List.mem_of_getElem? (i := 21) rfl)), (inr_1 _ (List.mem_of_getElem? (i := 2) rfl)), by decide +kernel⟩
theorem mb_X6_messageAt : MB yX6_messageAt cX6_messageAt 2 (some (.object "Shortmessage$Message")) 1 := ⟨(inr_17 _ (List.mem_of_getElem? (i := 1) rfl)), (inr_1 _ (List.mem_of_getElem? (i := 2) rfl)), by decide +kernel⟩
theorem mb_X7_state : MB yX7_state cX7_state 2 (some .int) 1 := ⟨(inr_17 _ (List.mem_of_getElem? (i := 5) rfl)), (inr_1 _ (List.mem_of_getElem? (i := 5) rfl)), by decide +kernel⟩
theorem mb_X7_isMessage : MB yX7_isMessage cX7_isMessage 2 (some .boolean) 1 := ⟨(inr_17 _ (List.mem_of_getElem? (i := 9) rfl)), (inr_1 _ (List.mem_of_getElem? (i := 5) rfl)), by decide +kernel⟩
theorem mb_X6_missing : MB yX6_missing cX6_missing 2 (some .int) 1 := ⟨(inr_17 _ (List.mem_of_getElem? (i := 16) rfl)), (inr_1 _ (List.mem_of_getElem? (i := 2) rfl)), by decide +kernel⟩
theorem mb_X7_missing : MB yX7_missing cX7_missing 2 (some .int) 1 := ⟨(inr_17 _ (List.mem_of_getElem? (i := 20) rfl)), (inr_1 _ (List.mem_of_getElem? (i := 5) rfl)), by decide +kernel⟩
theorem mb_X7_lacks : MB yX7_lacks cX7_lacks 4 (some .int) 1 := ⟨(inr_18 _ (List.mem_of_getElem? (i := 0) rfl)), (inr_1 _ (List.mem_of_getElem? (i := 5) rfl)), by decide +kernel⟩
theorem mb_X6_joined : MB yX6_joined cX6_joined 4 (some .int) 2 := ⟨(inr_18 _ (List.mem_of_getElem? (i := 7) rfl)), (inr_1 _ (List.mem_of_getElem? (i := 2) rfl)), by decide +kernel⟩
theorem mb_X1_partWith : MB yX1_partWith cX1_partWith 4 (some .int) 1 := ⟨(inr_18 _ (List.mem_of_getElem? (i := 11) rfl)), (inr_13 _ (List.mem_of_getElem? (i := 2) rfl)), by decide +kernel⟩
theorem mb_X1_lacks : MB yX1_lacks cX1_lacks 2 (some .boolean) 1 := ⟨(inr_18 _ (List.mem_of_getElem? (i := 15) rfl)), (inr_13 _ (List.mem_of_getElem? (i := 2) rfl)), by decide +kernel⟩
theorem mb_X7_joined : MB yX7_joined cX7_joined 6 (some .int) 2 := ⟨(inr_18 _ (List.mem_of_getElem? (i := 19) rfl)), (inr_1 _ (List.mem_of_getElem? (i := 5) rfl)), by decide +kernel⟩
theorem mb_X6_receipts : MB yX6_receipts cX6_receipts 1 (some .int) 0 := ⟨(inr_18 _ (List.mem_of_getElem? (i := 23) rfl)), (inr_1 _ (List.mem_of_getElem? (i := 2) rfl)), by decide +kernel⟩
theorem mb_X7_receipts : MB yX7_receipts cX7_receipts 1 (some .int) 0 := ⟨(inr_19 _ (List.mem_of_getElem? (i := 3) rfl)), (inr_1 _ (List.mem_of_getElem? (i := 5) rfl)), by decide +kernel⟩
theorem mb_X6_receipt : MB yX6_receipt cX6_receipt 2 (some .int) 1 := ⟨(inr_19 _ (List.mem_of_getElem? (i := 11) rfl)), (inr_1 _ (List.mem_of_getElem? (i := 2) rfl)), by decide +kernel⟩
theorem mb_X7_receipt : MB yX7_receipt cX7_receipt 2 (some .int) 1 := ⟨(inr_19 _ (List.mem_of_getElem? (i := 15) rfl)), (inr_1 _ (List.mem_of_getElem? (i := 5) rfl)), by decide +kernel⟩
theorem mb_X6_pass : MB yX6_pass cX6_pass 4 (some .int) 1 := ⟨(inr_19 _ (List.mem_of_getElem? (i := 22) rfl)), (inr_1 _ (List.mem_of_getElem? (i := 2) rfl)), by decide +kernel⟩
theorem mb_X6_expireMessages : MB yX6_expireMessages cX6_expireMessages 3 none 0 := ⟨(inr_20 _ (List.mem_of_getElem? (i := 2) rfl)), (inr_1 _ (List.mem_of_getElem? (i := 2) rfl)), by decide +kernel⟩
theorem mb_X6_finish : MB yX6_finish cX6_finish 3 none 2 := ⟨(inr_20 _ (List.mem_of_getElem? (i := 6) rfl)), (inr_1 _ (List.mem_of_getElem? (i := 2) rfl)), by decide +kernel⟩
theorem mb_X4_removeAllOf : MB yX4_removeAllOf cX4_removeAllOf 4 none 1 := ⟨(inr_20 _ (List.mem_of_getElem? (i := 10) rfl)), (inr_3 _ (List.mem_of_getElem? (i := 9) rfl)), by decide +kernel⟩
theorem mb_X4_at : MB yX4_at cX4_at 2 (some (.object "Shortmessage$Part")) 1 := ⟨(inr_20 _ (List.mem_of_getElem? (i := 14) rfl)), (inr_3 _ (List.mem_of_getElem? (i := 9) rfl)), by decide +kernel⟩
theorem mb_X4_removeAt : MB yX4_removeAt cX4_removeAt 4 (some (.object "Shortmessage$Part")) 1 := ⟨(inr_20 _ (List.mem_of_getElem? (i := 18) rfl)), (inr_3 _ (List.mem_of_getElem? (i := 9) rfl)), by decide +kernel⟩
theorem mb_X6_sendParts : MB yX6_sendParts cX6_sendParts 3 (some .int) 0 := ⟨(inr_20 _ (List.mem_of_getElem? (i := 22) rfl)), (inr_1 _ (List.mem_of_getElem? (i := 2) rfl)), by decide +kernel⟩
theorem mb_X0_gainToken : MB yX0_gainToken cX0_gainToken 1 none 0 := ⟨(inr_21 _ (List.mem_of_getElem? (i := 2) rfl)), (inr_2 _ (List.mem_of_getElem? (i := 7) rfl)), by decide +kernel⟩
theorem mb_X0_sendAll : MB yX0_sendAll cX0_sendAll 3 (some .int) 1 := ⟨(inr_21 _ (List.mem_of_getElem? (i := 6) rfl)), (inr_2 _ (List.mem_of_getElem? (i := 7) rfl)), by decide +kernel⟩
theorem mb_X0_sendNext : MB yX0_sendNext cX0_sendNext 3 (some .boolean) 1 := ⟨(inr_21 _ (List.mem_of_getElem? (i := 10) rfl)), (inr_2 _ (List.mem_of_getElem? (i := 7) rfl)), by decide +kernel⟩
theorem mb_X4_removeFirstReady : MB yX4_removeFirstReady cX4_removeFirstReady 4 (some (.object "Shortmessage$Part")) 1 := ⟨(inr_21 _ (List.mem_of_getElem? (i := 14) rfl)), (inr_3 _ (List.mem_of_getElem? (i := 9) rfl)), by decide +kernel⟩
theorem mb_X2_isReady : MB yX2_isReady cX2_isReady 2 (some .boolean) 1 := ⟨(inr_21 _ (List.mem_of_getElem? (i := 18) rfl)), (inr_13 _ (List.mem_of_getElem? (i := 5) rfl)), by decide +kernel⟩
theorem mb_X7_pass : MB yX7_pass cX7_pass 5 (some .int) 1 := ⟨(inr_21 _ (List.mem_of_getElem? (i := 23) rfl)), (inr_1 _ (List.mem_of_getElem? (i := 5) rfl)), by decide +kernel⟩
theorem mb_X7_ends : MB yX7_ends cX7_ends 7 none 2 := ⟨(inr_22 _ (List.mem_of_getElem? (i := 3) rfl)), (inr_1 _ (List.mem_of_getElem? (i := 5) rfl)), by decide +kernel⟩
theorem mb_X7_sends : MB yX7_sends cX7_sends 5 (some .int) 1 := ⟨(inr_22 _ (List.mem_of_getElem? (i := 7) rfl)), (inr_1 _ (List.mem_of_getElem? (i := 5) rfl)), by decide +kernel⟩
theorem mb_X7_first : MB yX7_first cX7_first 4 (some .int) 1 := ⟨(inr_22 _ (List.mem_of_getElem? (i := 11) rfl)), (inr_1 _ (List.mem_of_getElem? (i := 5) rfl)), by decide +kernel⟩
theorem mb_X6_time : MB yX6_time cX6_time 1 (some .int) 0 := ⟨(inr_22 _ (List.mem_of_getElem? (i := 15) rfl)), (inr_1 _ (List.mem_of_getElem? (i := 2) rfl)), by decide +kernel⟩
theorem mb_X7_time : MB yX7_time cX7_time 1 (some .int) 0 := ⟨(inr_22 _ (List.mem_of_getElem? (i := 19) rfl)), (inr_1 _ (List.mem_of_getElem? (i := 5) rfl)), by decide +kernel⟩
theorem mb_X6_toggleLink : MB yX6_toggleLink cX6_toggleLink 3 (some .boolean) 1 := ⟨(inr_23 _ (List.mem_of_getElem? (i := 2) rfl)), (inr_1 _ (List.mem_of_getElem? (i := 2) rfl)), by decide +kernel⟩
theorem mb_X0_goDown : MB yX0_goDown cX0_goDown 6 none 1 := ⟨(inr_23 _ (List.mem_of_getElem? (i := 6) rfl)), (inr_2 _ (List.mem_of_getElem? (i := 7) rfl)), by decide +kernel⟩
theorem mb_X7_toggleLink : MB yX7_toggleLink cX7_toggleLink 5 (some .boolean) 1 := ⟨(inr_23 _ (List.mem_of_getElem? (i := 12) rfl)), (inr_1 _ (List.mem_of_getElem? (i := 5) rfl)), by decide +kernel⟩
theorem mb_X7_isLink : MB yX7_isLink cX7_isLink 1 (some .boolean) 1 := ⟨(inr_23 _ (List.mem_of_getElem? (i := 15) rfl)), (inr_1 _ (List.mem_of_getElem? (i := 5) rfl)), by decide +kernel⟩
theorem mb_X6_setWindow : MB yX6_setWindow cX6_setWindow 5 (some .int) 2 := ⟨(inr_23 _ (List.mem_of_getElem? (i := 22) rfl)), (inr_1 _ (List.mem_of_getElem? (i := 2) rfl)), by decide +kernel⟩
theorem mb_X7_setWindow : MB yX7_setWindow cX7_setWindow 4 (some .int) 2 := ⟨(inr_24 _ (List.mem_of_getElem? (i := 2) rfl)), (inr_1 _ (List.mem_of_getElem? (i := 5) rfl)), by decide +kernel⟩
theorem mb_X6_queued : MB yX6_queued cX6_queued 2 (some .int) 1 := ⟨(inr_24 _ (List.mem_of_getElem? (i := 9) rfl)), (inr_1 _ (List.mem_of_getElem? (i := 2) rfl)), by decide +kernel⟩
theorem mb_X7_queued : MB yX7_queued cX7_queued 2 (some .int) 1 := ⟨(inr_24 _ (List.mem_of_getElem? (i := 13) rfl)), (inr_1 _ (List.mem_of_getElem? (i := 5) rfl)), by decide +kernel⟩
theorem mb_X7_of : MB yX7_of cX7_of 3 (some .int) 2 := ⟨(inr_24 _ (List.mem_of_getElem? (i := 17) rfl)), (inr_1 _ (List.mem_of_getElem? (i := 5) rfl)), by decide +kernel⟩
theorem mb_X6_underWay : MB yX6_underWay cX6_underWay 2 (some .int) 1 := ⟨(inr_25 _ (List.mem_of_getElem? (i := 0) rfl)), (inr_1 _ (List.mem_of_getElem? (i := 2) rfl)), by decide +kernel⟩
theorem mb_X7_underWay : MB yX7_underWay cX7_underWay 2 (some .int) 1 := ⟨(inr_25 _ (List.mem_of_getElem? (i := 4) rfl)), (inr_1 _ (List.mem_of_getElem? (i := 5) rfl)), by decide +kernel⟩
theorem mb_X6_tokens : MB yX6_tokens cX6_tokens 2 (some .int) 1 := ⟨(inr_25 _ (List.mem_of_getElem? (i := 11) rfl)), (inr_1 _ (List.mem_of_getElem? (i := 2) rfl)), by decide +kernel⟩
theorem mb_X7_tokens : MB yX7_tokens cX7_tokens 2 (some .int) 1 := ⟨(inr_25 _ (List.mem_of_getElem? (i := 15) rfl)), (inr_1 _ (List.mem_of_getElem? (i := 5) rfl)), by decide +kernel⟩
theorem mb_X6_acknowledge : MB yX6_acknowledge cX6_acknowledge 5 (some .int) 2 := ⟨(inr_25 _ (List.mem_of_getElem? (i := 22) rfl)), (inr_1 _ (List.mem_of_getElem? (i := 2) rfl)), by decide +kernel⟩
theorem mb_X6_settle : MB yX6_settle cX6_settle 4 none 2 := ⟨(inr_26 _ (List.mem_of_getElem? (i := 3) rfl)), (inr_1 _ (List.mem_of_getElem? (i := 2) rfl)), by decide +kernel⟩
theorem mb_X1_receive : MB yX1_receive cX1_receive 2 none 1 := ⟨(inr_26 _ (List.mem_of_getElem? (i := 7) rfl)), (inr_13 _ (List.mem_of_getElem? (i := 2) rfl)), by decide +kernel⟩
theorem mb_X7_acknowledge : MB yX7_acknowledge cX7_acknowledge 6 (some .int) 2 := ⟨(inr_26 _ (List.mem_of_getElem? (i := 11) rfl)), (inr_1 _ (List.mem_of_getElem? (i := 5) rfl)), by decide +kernel⟩
theorem mb_X7_becomes : MB yX7_becomes cX7_becomes 5 none 2 := ⟨(inr_26 _ (List.mem_of_getElem? (i := 15) rfl)), (inr_1 _ (List.mem_of_getElem? (i := 5) rfl)), by decide +kernel⟩
theorem mb_X6_alert : MB yX6_alert cX6_alert 2 (some .int) 1 := ⟨(inr_26 _ (List.mem_of_getElem? (i := 22) rfl)), (inr_1 _ (List.mem_of_getElem? (i := 2) rfl)), by decide +kernel⟩
theorem mb_X4_wake : MB yX4_wake cX4_wake 5 (some .int) 1 := ⟨(inr_27 _ (List.mem_of_getElem? (i := 2) rfl)), (inr_3 _ (List.mem_of_getElem? (i := 9) rfl)), by decide +kernel⟩
theorem mb_X7_alert : MB yX7_alert cX7_alert 7 (some .int) 1 := ⟨(inr_27 _ (List.mem_of_getElem? (i := 6) rfl)), (inr_1 _ (List.mem_of_getElem? (i := 5) rfl)), by decide +kernel⟩
theorem mb_X6_setKeyword : MB yX6_setKeyword cX6_setKeyword 3 none 2 := ⟨(inr_27 _ (List.mem_of_getElem? (i := 13) rfl)), (inr_1 _ (List.mem_of_getElem? (i := 2) rfl)), by decide +kernel⟩
theorem mb_X3_giveKeyword : MB yX3_giveKeyword cX3_giveKeyword 4 none 2 := ⟨(inr_27 _ (List.mem_of_getElem? (i := 17) rfl)), (inr_2 _ (List.mem_of_getElem? (i := 3) rfl)), by decide +kernel⟩
theorem mb_X7_setKeyword : MB yX7_setKeyword cX7_setKeyword 4 none 2 := ⟨(inr_27 _ (List.mem_of_getElem? (i := 21) rfl)), (inr_1 _ (List.mem_of_getElem? (i := 5) rfl)), by decide +kernel⟩
theorem mb_X6_come : MB yX6_come cX6_come 3 (some .int) 2 := ⟨(inr_28 _ (List.mem_of_getElem? (i := 4) rfl)), (inr_1 _ (List.mem_of_getElem? (i := 2) rfl)), by decide +kernel⟩
theorem mb_X3_serviceFor : MB yX3_serviceFor cX3_serviceFor 5 (some .int) 3 := ⟨(inr_28 _ (List.mem_of_getElem? (i := 8) rfl)), (inr_2 _ (List.mem_of_getElem? (i := 3) rfl)), by decide +kernel⟩
theorem mb_X3_serviceWith : MB yX3_serviceWith cX3_serviceWith 3 (some .int) 1 := ⟨(inr_28 _ (List.mem_of_getElem? (i := 12) rfl)), (inr_2 _ (List.mem_of_getElem? (i := 3) rfl)), by decide +kernel⟩
theorem mb_X7_come : MB yX7_come cX7_come 5 (some .int) 2 := ⟨(inr_28 _ (List.mem_of_getElem? (i := 16) rfl)), (inr_1 _ (List.mem_of_getElem? (i := 5) rfl)), by decide +kernel⟩
theorem mi_L_80 : MI RL 80 yX6_init cX6_init 2 0 := ⟨mb_X6_init, rfl, (inr_1 _ (List.mem_of_getElem? (i := 8) rfl)), Or.inl (inr_1 _ (List.mem_of_getElem? (i := 7) rfl))⟩
theorem mi_L_83 : MI RL 83 yX7_init cX7_init 2 0 := ⟨mb_X7_init, rfl, (inr_3 _ (List.mem_of_getElem? (i := 22) rfl)), Or.inl (inr_3 _ (List.mem_of_getElem? (i := 21) rfl))⟩
theorem mh_L_102 : MH RL 102 yL_septets cL_septets 3 (some .int) [(0, 8, 11, 15)] 2 := ⟨(inr_8 _ (List.mem_of_getElem? (i := 2) rfl)), (inr_5 _ (List.mem_of_getElem? (i := 1) rfl)), by decide +kernel, (inr_8 _ (List.mem_of_getElem? (i := 0) rfl)), (inr_8 _ (List.mem_of_getElem? (i := 1) rfl))⟩
theorem mh_L_110 : MH RL 110 yL_signs cL_signs 4 (some .int) [(0, 9, 12, 25)] 3 := ⟨(inr_9 _ (List.mem_of_getElem? (i := 13) rfl)), (inr_5 _ (List.mem_of_getElem? (i := 1) rfl)), by decide +kernel, (inr_9 _ (List.mem_of_getElem? (i := 11) rfl)), (inr_9 _ (List.mem_of_getElem? (i := 12) rfl))⟩
theorem mh_L_114 : MH RL 114 yL_octets cL_octets 4 (some .int) [(0, 9, 12, 25)] 3 := ⟨(inr_10 _ (List.mem_of_getElem? (i := 15) rfl)), (inr_5 _ (List.mem_of_getElem? (i := 1) rfl)), by decide +kernel, (inr_10 _ (List.mem_of_getElem? (i := 13) rfl)), (inr_10 _ (List.mem_of_getElem? (i := 14) rfl))⟩
theorem mh_L_117 : MH RL 117 yL_octet cL_octet 5 (some .int) [(0, 10, 13, 25)] 4 := ⟨(inr_11 _ (List.mem_of_getElem? (i := 18) rfl)), (inr_5 _ (List.mem_of_getElem? (i := 1) rfl)), by decide +kernel, (inr_11 _ (List.mem_of_getElem? (i := 16) rfl)), (inr_11 _ (List.mem_of_getElem? (i := 17) rfl))⟩
theorem mh_L_120 : MH RL 120 yL_submit cL_submit 5 (some .int) [(0, 10, 13, 13), (0, 10, 17, 15)] 4 := ⟨(inr_12 _ (List.mem_of_getElem? (i := 20) rfl)), (inr_5 _ (List.mem_of_getElem? (i := 1) rfl)), by decide +kernel, (inr_12 _ (List.mem_of_getElem? (i := 18) rfl)), (inr_12 _ (List.mem_of_getElem? (i := 19) rfl))⟩
theorem mh_L_123 : MH RL 123 yL_state cL_state 4 (some .int) [(0, 9, 12, 25)] 3 := ⟨(inr_16 _ (List.mem_of_getElem? (i := 17) rfl)), (inr_5 _ (List.mem_of_getElem? (i := 1) rfl)), by decide +kernel, (inr_16 _ (List.mem_of_getElem? (i := 15) rfl)), (inr_16 _ (List.mem_of_getElem? (i := 16) rfl))⟩
theorem mh_L_126 : MH RL 126 yL_missing cL_missing 4 (some .int) [(0, 9, 12, 25)] 3 := ⟨(inr_17 _ (List.mem_of_getElem? (i := 12) rfl)), (inr_5 _ (List.mem_of_getElem? (i := 1) rfl)), by decide +kernel, (inr_17 _ (List.mem_of_getElem? (i := 10) rfl)), (inr_17 _ (List.mem_of_getElem? (i := 11) rfl))⟩
theorem mh_L_129 : MH RL 129 yL_joined cL_joined 5 (some .int) [(0, 10, 13, 25)] 4 := ⟨(inr_18 _ (List.mem_of_getElem? (i := 3) rfl)), (inr_5 _ (List.mem_of_getElem? (i := 1) rfl)), by decide +kernel, (inr_18 _ (List.mem_of_getElem? (i := 1) rfl)), (inr_18 _ (List.mem_of_getElem? (i := 2) rfl))⟩
theorem mh_L_136 : MH RL 136 yL_receipt cL_receipt 4 (some .int) [(0, 9, 12, 25)] 3 := ⟨(inr_19 _ (List.mem_of_getElem? (i := 7) rfl)), (inr_5 _ (List.mem_of_getElem? (i := 1) rfl)), by decide +kernel, (inr_19 _ (List.mem_of_getElem? (i := 5) rfl)), (inr_19 _ (List.mem_of_getElem? (i := 6) rfl))⟩
theorem mh_L_139 : MH RL 139 yL_pass cL_pass 4 (some .int) [(0, 9, 12, 13)] 3 := ⟨(inr_19 _ (List.mem_of_getElem? (i := 18) rfl)), (inr_5 _ (List.mem_of_getElem? (i := 1) rfl)), by decide +kernel, (inr_19 _ (List.mem_of_getElem? (i := 16) rfl)), (inr_19 _ (List.mem_of_getElem? (i := 17) rfl))⟩
theorem mh_L_146 : MH RL 146 yL_toggleLink cL_toggleLink 4 (some .int) [(0, 16, 19, 25)] 3 := ⟨(inr_22 _ (List.mem_of_getElem? (i := 22) rfl)), (inr_5 _ (List.mem_of_getElem? (i := 1) rfl)), by decide +kernel, (inr_22 _ (List.mem_of_getElem? (i := 20) rfl)), (inr_22 _ (List.mem_of_getElem? (i := 21) rfl))⟩
theorem mh_L_149 : MH RL 149 yL_setWindow cL_setWindow 5 (some .int) [(0, 10, 13, 25), (0, 10, 17, 13)] 4 := ⟨(inr_23 _ (List.mem_of_getElem? (i := 18) rfl)), (inr_5 _ (List.mem_of_getElem? (i := 1) rfl)), by decide +kernel, (inr_23 _ (List.mem_of_getElem? (i := 16) rfl)), (inr_23 _ (List.mem_of_getElem? (i := 17) rfl))⟩
theorem mh_L_152 : MH RL 152 yL_queued cL_queued 4 (some .int) [(0, 9, 12, 25)] 3 := ⟨(inr_24 _ (List.mem_of_getElem? (i := 5) rfl)), (inr_5 _ (List.mem_of_getElem? (i := 1) rfl)), by decide +kernel, (inr_24 _ (List.mem_of_getElem? (i := 3) rfl)), (inr_24 _ (List.mem_of_getElem? (i := 4) rfl))⟩
theorem mh_L_155 : MH RL 155 yL_underWay cL_underWay 4 (some .int) [(0, 9, 12, 25)] 3 := ⟨(inr_24 _ (List.mem_of_getElem? (i := 20) rfl)), (inr_5 _ (List.mem_of_getElem? (i := 1) rfl)), by decide +kernel, (inr_24 _ (List.mem_of_getElem? (i := 18) rfl)), (inr_24 _ (List.mem_of_getElem? (i := 19) rfl))⟩
theorem mh_L_158 : MH RL 158 yL_tokens cL_tokens 4 (some .int) [(0, 9, 12, 25)] 3 := ⟨(inr_25 _ (List.mem_of_getElem? (i := 7) rfl)), (inr_5 _ (List.mem_of_getElem? (i := 1) rfl)), by decide +kernel, (inr_25 _ (List.mem_of_getElem? (i := 5) rfl)), (inr_25 _ (List.mem_of_getElem? (i := 6) rfl))⟩
theorem mh_L_161 : MH RL 161 yL_acknowledge cL_acknowledge 5 (some .int) [(0, 10, 13, 25), (0, 10, 17, 13), (0, 10, 21, 15)] 4 := ⟨(inr_25 _ (List.mem_of_getElem? (i := 18) rfl)), (inr_5 _ (List.mem_of_getElem? (i := 1) rfl)), by decide +kernel, (inr_25 _ (List.mem_of_getElem? (i := 16) rfl)), (inr_25 _ (List.mem_of_getElem? (i := 17) rfl))⟩
theorem mh_L_164 : MH RL 164 yL_alert cL_alert 4 (some .int) [(0, 9, 12, 13)] 3 := ⟨(inr_26 _ (List.mem_of_getElem? (i := 18) rfl)), (inr_5 _ (List.mem_of_getElem? (i := 1) rfl)), by decide +kernel, (inr_26 _ (List.mem_of_getElem? (i := 16) rfl)), (inr_26 _ (List.mem_of_getElem? (i := 17) rfl))⟩
theorem mh_L_167 : MH RL 167 yL_setKeyword cL_setKeyword 4 (some .int) [(0, 6, 9, 13)] 3 := ⟨(inr_27 _ (List.mem_of_getElem? (i := 9) rfl)), (inr_5 _ (List.mem_of_getElem? (i := 1) rfl)), by decide +kernel, (inr_27 _ (List.mem_of_getElem? (i := 7) rfl)), (inr_27 _ (List.mem_of_getElem? (i := 8) rfl))⟩
theorem mh_L_171 : MH RL 171 yL_come cL_come 5 (some .int) [(0, 10, 13, 13)] 4 := ⟨(inr_28 _ (List.mem_of_getElem? (i := 0) rfl)), (inr_5 _ (List.mem_of_getElem? (i := 1) rfl)), by decide +kernel, (inr_27 _ (List.mem_of_getElem? (i := 22) rfl)), (inr_27 _ (List.mem_of_getElem? (i := 23) rfl))⟩
theorem mh_L_84 : MH RL 84 yL_write cL_write 5 (some .int) [(0, 10, 13, 13), (0, 10, 17, 15)] 4 := ⟨(inr_5 _ (List.mem_of_getElem? (i := 2) rfl)), (inr_5 _ (List.mem_of_getElem? (i := 1) rfl)), by decide +kernel, (inr_4 _ (List.mem_of_getElem? (i := 23) rfl)), (inr_5 _ (List.mem_of_getElem? (i := 0) rfl))⟩
theorem mv_L_101 : MV RL 101 yX7_isWide cX7_isWide 1 (some .boolean) 0 := ⟨mb_X7_isWide, (inr_7 _ (List.mem_of_getElem? (i := 17) rfl)), (inr_7 _ (List.mem_of_getElem? (i := 18) rfl)), (inr_7 _ (List.mem_of_getElem? (i := 19) rfl))⟩
theorem mv_L_105 : MV RL 105 yX7_septets cX7_septets 1 (some .int) 0 := ⟨mb_X7_septets, (inr_8 _ (List.mem_of_getElem? (i := 7) rfl)), (inr_8 _ (List.mem_of_getElem? (i := 8) rfl)), (inr_8 _ (List.mem_of_getElem? (i := 9) rfl))⟩
theorem mv_L_106 : MV RL 106 yX6_parts cX6_parts 1 (some .int) 0 := ⟨mb_X6_parts, (inr_8 _ (List.mem_of_getElem? (i := 17) rfl)), (inr_8 _ (List.mem_of_getElem? (i := 18) rfl)), (inr_8 _ (List.mem_of_getElem? (i := 19) rfl))⟩
theorem mv_L_109 : MV RL 109 yX7_parts cX7_parts 1 (some .int) 0 := ⟨mb_X7_parts, (inr_8 _ (List.mem_of_getElem? (i := 21) rfl)), (inr_8 _ (List.mem_of_getElem? (i := 22) rfl)), (inr_8 _ (List.mem_of_getElem? (i := 23) rfl))⟩
theorem mv_L_113 : MV RL 113 yX7_signs cX7_signs 2 (some .int) 1 := ⟨mb_X7_signs, (inr_10 _ (List.mem_of_getElem? (i := 5) rfl)), (inr_10 _ (List.mem_of_getElem? (i := 6) rfl)), (inr_10 _ (List.mem_of_getElem? (i := 7) rfl))⟩
theorem mv_L_116 : MV RL 116 yX7_octets cX7_octets 2 (some .int) 1 := ⟨mb_X7_octets, (inr_11 _ (List.mem_of_getElem? (i := 5) rfl)), (inr_11 _ (List.mem_of_getElem? (i := 6) rfl)), (inr_11 _ (List.mem_of_getElem? (i := 7) rfl))⟩
theorem mv_L_119 : MV RL 119 yX7_octet cX7_octet 6 (some .int) 2 := ⟨mb_X7_octet, (inr_12 _ (List.mem_of_getElem? (i := 10) rfl)), (inr_12 _ (List.mem_of_getElem? (i := 11) rfl)), (inr_12 _ (List.mem_of_getElem? (i := 12) rfl))⟩
theorem mv_L_122 : MV RL 122 yX7_submit cX7_submit 6 (some .int) 2 := ⟨mb_X7_submit, (inr_16 _ (List.mem_of_getElem? (i := 1) rfl)), (inr_16 _ (List.mem_of_getElem? (i := 2) rfl)), (inr_16 _ (List.mem_of_getElem? (i := 3) rfl))⟩
theorem mv_L_125 : MV RL 125 yX7_state cX7_state 2 (some .int) 1 := ⟨mb_X7_state, (inr_17 _ (List.mem_of_getElem? (i := 2) rfl)), (inr_17 _ (List.mem_of_getElem? (i := 3) rfl)), (inr_17 _ (List.mem_of_getElem? (i := 4) rfl))⟩
theorem mv_L_128 : MV RL 128 yX7_missing cX7_missing 2 (some .int) 1 := ⟨mb_X7_missing, (inr_17 _ (List.mem_of_getElem? (i := 17) rfl)), (inr_17 _ (List.mem_of_getElem? (i := 18) rfl)), (inr_17 _ (List.mem_of_getElem? (i := 19) rfl))⟩
theorem mv_L_131 : MV RL 131 yX7_joined cX7_joined 6 (some .int) 2 := ⟨mb_X7_joined, (inr_18 _ (List.mem_of_getElem? (i := 16) rfl)), (inr_18 _ (List.mem_of_getElem? (i := 17) rfl)), (inr_18 _ (List.mem_of_getElem? (i := 18) rfl))⟩
theorem mv_L_132 : MV RL 132 yX6_receipts cX6_receipts 1 (some .int) 0 := ⟨mb_X6_receipts, (inr_18 _ (List.mem_of_getElem? (i := 20) rfl)), (inr_18 _ (List.mem_of_getElem? (i := 21) rfl)), (inr_18 _ (List.mem_of_getElem? (i := 22) rfl))⟩
theorem mv_L_135 : MV RL 135 yX7_receipts cX7_receipts 1 (some .int) 0 := ⟨mb_X7_receipts, (inr_19 _ (List.mem_of_getElem? (i := 0) rfl)), (inr_19 _ (List.mem_of_getElem? (i := 1) rfl)), (inr_19 _ (List.mem_of_getElem? (i := 2) rfl))⟩
theorem mv_L_138 : MV RL 138 yX7_receipt cX7_receipt 2 (some .int) 1 := ⟨mb_X7_receipt, (inr_19 _ (List.mem_of_getElem? (i := 12) rfl)), (inr_19 _ (List.mem_of_getElem? (i := 13) rfl)), (inr_19 _ (List.mem_of_getElem? (i := 14) rfl))⟩
theorem mv_L_141 : MV RL 141 yX7_pass cX7_pass 5 (some .int) 1 := ⟨mb_X7_pass, (inr_21 _ (List.mem_of_getElem? (i := 20) rfl)), (inr_21 _ (List.mem_of_getElem? (i := 21) rfl)), (inr_21 _ (List.mem_of_getElem? (i := 22) rfl))⟩
theorem mv_L_142 : MV RL 142 yX6_time cX6_time 1 (some .int) 0 := ⟨mb_X6_time, (inr_22 _ (List.mem_of_getElem? (i := 12) rfl)), (inr_22 _ (List.mem_of_getElem? (i := 13) rfl)), (inr_22 _ (List.mem_of_getElem? (i := 14) rfl))⟩
theorem mv_L_145 : MV RL 145 yX7_time cX7_time 1 (some .int) 0 := ⟨mb_X7_time, (inr_22 _ (List.mem_of_getElem? (i := 16) rfl)), (inr_22 _ (List.mem_of_getElem? (i := 17) rfl)), (inr_22 _ (List.mem_of_getElem? (i := 18) rfl))⟩
theorem mv_L_148 : MV RL 148 yX7_toggleLink cX7_toggleLink 5 (some .boolean) 1 := ⟨mb_X7_toggleLink, (inr_23 _ (List.mem_of_getElem? (i := 9) rfl)), (inr_23 _ (List.mem_of_getElem? (i := 10) rfl)), (inr_23 _ (List.mem_of_getElem? (i := 11) rfl))⟩
theorem mv_L_151 : MV RL 151 yX7_setWindow cX7_setWindow 4 (some .int) 2 := ⟨mb_X7_setWindow, (inr_23 _ (List.mem_of_getElem? (i := 23) rfl)), (inr_24 _ (List.mem_of_getElem? (i := 0) rfl)), (inr_24 _ (List.mem_of_getElem? (i := 1) rfl))⟩
theorem mv_L_154 : MV RL 154 yX7_queued cX7_queued 2 (some .int) 1 := ⟨mb_X7_queued, (inr_24 _ (List.mem_of_getElem? (i := 10) rfl)), (inr_24 _ (List.mem_of_getElem? (i := 11) rfl)), (inr_24 _ (List.mem_of_getElem? (i := 12) rfl))⟩
theorem mv_L_157 : MV RL 157 yX7_underWay cX7_underWay 2 (some .int) 1 := ⟨mb_X7_underWay, (inr_25 _ (List.mem_of_getElem? (i := 1) rfl)), (inr_25 _ (List.mem_of_getElem? (i := 2) rfl)), (inr_25 _ (List.mem_of_getElem? (i := 3) rfl))⟩
theorem mv_L_160 : MV RL 160 yX7_tokens cX7_tokens 2 (some .int) 1 := ⟨mb_X7_tokens, (inr_25 _ (List.mem_of_getElem? (i := 12) rfl)), (inr_25 _ (List.mem_of_getElem? (i := 13) rfl)), (inr_25 _ (List.mem_of_getElem? (i := 14) rfl))⟩
theorem mv_L_163 : MV RL 163 yX7_acknowledge cX7_acknowledge 6 (some .int) 2 := ⟨mb_X7_acknowledge, (inr_26 _ (List.mem_of_getElem? (i := 8) rfl)), (inr_26 _ (List.mem_of_getElem? (i := 9) rfl)), (inr_26 _ (List.mem_of_getElem? (i := 10) rfl))⟩
theorem mv_L_166 : MV RL 166 yX7_alert cX7_alert 7 (some .int) 1 := ⟨mb_X7_alert, (inr_27 _ (List.mem_of_getElem? (i := 3) rfl)), (inr_27 _ (List.mem_of_getElem? (i := 4) rfl)), (inr_27 _ (List.mem_of_getElem? (i := 5) rfl))⟩
theorem mv_L_17 : MV RL 17 yX6_septets cX6_septets 1 (some .int) 0 := ⟨mb_X6_septets, (inr_8 _ (List.mem_of_getElem? (i := 3) rfl)), (inr_8 _ (List.mem_of_getElem? (i := 4) rfl)), (inr_8 _ (List.mem_of_getElem? (i := 5) rfl))⟩
theorem mv_L_170 : MV RL 170 yX7_setKeyword cX7_setKeyword 4 none 2 := ⟨mb_X7_setKeyword, (inr_27 _ (List.mem_of_getElem? (i := 18) rfl)), (inr_27 _ (List.mem_of_getElem? (i := 19) rfl)), (inr_27 _ (List.mem_of_getElem? (i := 20) rfl))⟩
theorem mv_L_173 : MV RL 173 yX7_come cX7_come 5 (some .int) 2 := ⟨mb_X7_come, (inr_28 _ (List.mem_of_getElem? (i := 13) rfl)), (inr_28 _ (List.mem_of_getElem? (i := 14) rfl)), (inr_28 _ (List.mem_of_getElem? (i := 15) rfl))⟩
theorem mv_L_21 : MV RL 21 yX6_signs cX6_signs 2 (some .int) 1 := ⟨mb_X6_signs, (inr_9 _ (List.mem_of_getElem? (i := 15) rfl)), (inr_9 _ (List.mem_of_getElem? (i := 16) rfl)), (inr_9 _ (List.mem_of_getElem? (i := 17) rfl))⟩
theorem mv_L_27 : MV RL 27 yX6_octets cX6_octets 2 (some .int) 1 := ⟨mb_X6_octets, (inr_10 _ (List.mem_of_getElem? (i := 16) rfl)), (inr_10 _ (List.mem_of_getElem? (i := 17) rfl)), (inr_10 _ (List.mem_of_getElem? (i := 18) rfl))⟩
theorem mv_L_30 : MV RL 30 yX6_octet cX6_octet 3 (some .int) 2 := ⟨mb_X6_octet, (inr_11 _ (List.mem_of_getElem? (i := 19) rfl)), (inr_11 _ (List.mem_of_getElem? (i := 20) rfl)), (inr_11 _ (List.mem_of_getElem? (i := 21) rfl))⟩
theorem mv_L_33 : MV RL 33 yX6_submit cX6_submit 5 (some .int) 2 := ⟨mb_X6_submit, (inr_12 _ (List.mem_of_getElem? (i := 21) rfl)), (inr_12 _ (List.mem_of_getElem? (i := 22) rfl)), (inr_12 _ (List.mem_of_getElem? (i := 23) rfl))⟩
theorem mv_L_36 : MV RL 36 yX6_state cX6_state 2 (some .int) 1 := ⟨mb_X6_state, (inr_16 _ (List.mem_of_getElem? (i := 18) rfl)), (inr_16 _ (List.mem_of_getElem? (i := 19) rfl)), (inr_16 _ (List.mem_of_getElem? (i := 20) rfl))⟩
theorem mv_L_39 : MV RL 39 yX6_missing cX6_missing 2 (some .int) 1 := ⟨mb_X6_missing, (inr_17 _ (List.mem_of_getElem? (i := 13) rfl)), (inr_17 _ (List.mem_of_getElem? (i := 14) rfl)), (inr_17 _ (List.mem_of_getElem? (i := 15) rfl))⟩
theorem mv_L_42 : MV RL 42 yX6_joined cX6_joined 4 (some .int) 2 := ⟨mb_X6_joined, (inr_18 _ (List.mem_of_getElem? (i := 4) rfl)), (inr_18 _ (List.mem_of_getElem? (i := 5) rfl)), (inr_18 _ (List.mem_of_getElem? (i := 6) rfl))⟩
theorem mv_L_45 : MV RL 45 yX6_receipt cX6_receipt 2 (some .int) 1 := ⟨mb_X6_receipt, (inr_19 _ (List.mem_of_getElem? (i := 8) rfl)), (inr_19 _ (List.mem_of_getElem? (i := 9) rfl)), (inr_19 _ (List.mem_of_getElem? (i := 10) rfl))⟩
theorem mv_L_48 : MV RL 48 yX6_pass cX6_pass 4 (some .int) 1 := ⟨mb_X6_pass, (inr_19 _ (List.mem_of_getElem? (i := 19) rfl)), (inr_19 _ (List.mem_of_getElem? (i := 20) rfl)), (inr_19 _ (List.mem_of_getElem? (i := 21) rfl))⟩
theorem mv_L_51 : MV RL 51 yX6_toggleLink cX6_toggleLink 3 (some .boolean) 1 := ⟨mb_X6_toggleLink, (inr_22 _ (List.mem_of_getElem? (i := 23) rfl)), (inr_23 _ (List.mem_of_getElem? (i := 0) rfl)), (inr_23 _ (List.mem_of_getElem? (i := 1) rfl))⟩
theorem mv_L_55 : MV RL 55 yX6_setWindow cX6_setWindow 5 (some .int) 2 := ⟨mb_X6_setWindow, (inr_23 _ (List.mem_of_getElem? (i := 19) rfl)), (inr_23 _ (List.mem_of_getElem? (i := 20) rfl)), (inr_23 _ (List.mem_of_getElem? (i := 21) rfl))⟩
theorem mv_L_58 : MV RL 58 yX6_queued cX6_queued 2 (some .int) 1 := ⟨mb_X6_queued, (inr_24 _ (List.mem_of_getElem? (i := 6) rfl)), (inr_24 _ (List.mem_of_getElem? (i := 7) rfl)), (inr_24 _ (List.mem_of_getElem? (i := 8) rfl))⟩
theorem mv_L_61 : MV RL 61 yX6_underWay cX6_underWay 2 (some .int) 1 := ⟨mb_X6_underWay, (inr_24 _ (List.mem_of_getElem? (i := 21) rfl)), (inr_24 _ (List.mem_of_getElem? (i := 22) rfl)), (inr_24 _ (List.mem_of_getElem? (i := 23) rfl))⟩
theorem mv_L_64 : MV RL 64 yX6_tokens cX6_tokens 2 (some .int) 1 := ⟨mb_X6_tokens, (inr_25 _ (List.mem_of_getElem? (i := 8) rfl)), (inr_25 _ (List.mem_of_getElem? (i := 9) rfl)), (inr_25 _ (List.mem_of_getElem? (i := 10) rfl))⟩
theorem mv_L_67 : MV RL 67 yX6_acknowledge cX6_acknowledge 5 (some .int) 2 := ⟨mb_X6_acknowledge, (inr_25 _ (List.mem_of_getElem? (i := 19) rfl)), (inr_25 _ (List.mem_of_getElem? (i := 20) rfl)), (inr_25 _ (List.mem_of_getElem? (i := 21) rfl))⟩
theorem mv_L_7 : MV RL 7 yX6_write cX6_write 3 (some .int) 2 := ⟨mb_X6_write, (inr_5 _ (List.mem_of_getElem? (i := 5) rfl)), (inr_5 _ (List.mem_of_getElem? (i := 6) rfl)), (inr_5 _ (List.mem_of_getElem? (i := 7) rfl))⟩
theorem mv_L_70 : MV RL 70 yX6_alert cX6_alert 2 (some .int) 1 := ⟨mb_X6_alert, (inr_26 _ (List.mem_of_getElem? (i := 19) rfl)), (inr_26 _ (List.mem_of_getElem? (i := 20) rfl)), (inr_26 _ (List.mem_of_getElem? (i := 21) rfl))⟩
theorem mv_L_73 : MV RL 73 yX6_setKeyword cX6_setKeyword 3 none 2 := ⟨mb_X6_setKeyword, (inr_27 _ (List.mem_of_getElem? (i := 10) rfl)), (inr_27 _ (List.mem_of_getElem? (i := 11) rfl)), (inr_27 _ (List.mem_of_getElem? (i := 12) rfl))⟩
theorem mv_L_77 : MV RL 77 yX6_come cX6_come 3 (some .int) 2 := ⟨mb_X6_come, (inr_28 _ (List.mem_of_getElem? (i := 1) rfl)), (inr_28 _ (List.mem_of_getElem? (i := 2) rfl)), (inr_28 _ (List.mem_of_getElem? (i := 3) rfl))⟩
theorem mv_L_89 : MV RL 89 yX7_write cX7_write 5 (some .int) 2 := ⟨mb_X7_write, (inr_6 _ (List.mem_of_getElem? (i := 8) rfl)), (inr_6 _ (List.mem_of_getElem? (i := 9) rfl)), (inr_6 _ (List.mem_of_getElem? (i := 10) rfl))⟩
theorem mv_L_90 : MV RL 90 yX7_thrown cX7_thrown 1 (some .int) 0 := ⟨mb_X7_thrown, (inr_6 _ (List.mem_of_getElem? (i := 21) rfl)), (inr_6 _ (List.mem_of_getElem? (i := 22) rfl)), (inr_6 _ (List.mem_of_getElem? (i := 23) rfl))⟩
theorem mv_L_93 : MV RL 93 yX6_erase cX6_erase 2 (some .int) 0 := ⟨mb_X6_erase, (inr_7 _ (List.mem_of_getElem? (i := 1) rfl)), (inr_7 _ (List.mem_of_getElem? (i := 2) rfl)), (inr_7 _ (List.mem_of_getElem? (i := 3) rfl))⟩
theorem mv_L_96 : MV RL 96 yX7_erase cX7_erase 2 (some .int) 0 := ⟨mb_X7_erase, (inr_7 _ (List.mem_of_getElem? (i := 9) rfl)), (inr_7 _ (List.mem_of_getElem? (i := 10) rfl)), (inr_7 _ (List.mem_of_getElem? (i := 11) rfl))⟩
theorem mv_L_97 : MV RL 97 yX6_isWide cX6_isWide 1 (some .boolean) 0 := ⟨mb_X6_isWide, (inr_7 _ (List.mem_of_getElem? (i := 13) rfl)), (inr_7 _ (List.mem_of_getElem? (i := 14) rfl)), (inr_7 _ (List.mem_of_getElem? (i := 15) rfl))⟩
theorem mi_0_11 : MI RX0 11 yX4_init cX4_init 1 0 := ⟨mb_X4_init, rfl, (inr_3 _ (List.mem_of_getElem? (i := 15) rfl)), Or.inr (List.mem_of_getElem? (i := 2) rfl)⟩
theorem mo_0_3 : Cond.methodLink RX0 3 objectInit ∈ ALL := (inr_3 _ (List.mem_of_getElem? (i := 6) rfl))
theorem mv_0_32 : MV RX0 32 yX0_sendNext cX0_sendNext 3 (some .boolean) 1 := ⟨mb_X0_sendNext, (inr_21 _ (List.mem_of_getElem? (i := 7) rfl)), (inr_21 _ (List.mem_of_getElem? (i := 8) rfl)), (inr_21 _ (List.mem_of_getElem? (i := 9) rfl))⟩
theorem mv_0_39 : MV RX0 39 yX4_removeFirstReady cX4_removeFirstReady 4 (some (.object "Shortmessage$Part")) 1 := ⟨mb_X4_removeFirstReady, (inr_21 _ (List.mem_of_getElem? (i := 11) rfl)), (inr_21 _ (List.mem_of_getElem? (i := 12) rfl)), (inr_21 _ (List.mem_of_getElem? (i := 13) rfl))⟩
theorem mv_0_43 : MV RX0 43 yX4_addLast cX4_addLast 2 none 1 := ⟨mb_X4_addLast, (inr_21 _ (List.mem_of_getElem? (i := 19) rfl)), (inr_15 _ (List.mem_of_getElem? (i := 18) rfl)), (inr_15 _ (List.mem_of_getElem? (i := 19) rfl))⟩
theorem mv_0_47 : MV RX0 47 yX4_removeAt cX4_removeAt 4 (some (.object "Shortmessage$Part")) 1 := ⟨mb_X4_removeAt, (inr_23 _ (List.mem_of_getElem? (i := 7) rfl)), (inr_20 _ (List.mem_of_getElem? (i := 16) rfl)), (inr_20 _ (List.mem_of_getElem? (i := 17) rfl))⟩
theorem mv_0_64 : MV RX0 64 yX4_insert cX4_insert 4 none 2 := ⟨mb_X4_insert, (inr_23 _ (List.mem_of_getElem? (i := 8) rfl)), (inr_15 _ (List.mem_of_getElem? (i := 22) rfl)), (inr_15 _ (List.mem_of_getElem? (i := 23) rfl))⟩
theorem mo_1_3 : Cond.methodLink RX1 3 objectInit ∈ ALL := (inr_13 _ (List.mem_of_getElem? (i := 21) rfl))
theorem mv_1_28 : MV RX1 28 yX5_copyOfSigns cX5_copyOfSigns 1 (some (.array .int)) 0 := ⟨mb_X5_copyOfSigns, (inr_14 _ (List.mem_of_getElem? (i := 7) rfl)), (inr_14 _ (List.mem_of_getElem? (i := 8) rfl)), (inr_14 _ (List.mem_of_getElem? (i := 9) rfl))⟩
theorem mv_1_38 : MV RX1 38 yX5_copyOfStarts cX5_copyOfStarts 1 (some (.array .int)) 0 := ⟨mb_X5_copyOfStarts, (inr_15 _ (List.mem_of_getElem? (i := 4) rfl)), (inr_15 _ (List.mem_of_getElem? (i := 5) rfl)), (inr_15 _ (List.mem_of_getElem? (i := 6) rfl))⟩
theorem mo_2_1 : Cond.methodLink RX2 1 objectInit ∈ ALL := (inr_15 _ (List.mem_of_getElem? (i := 11) rfl))
theorem mo_3_3 : Cond.methodLink RX3 3 objectInit ∈ ALL := (inr_2 _ (List.mem_of_getElem? (i := 20) rfl))
theorem ms_3_21 : MS RX3 21 yJ7_fill_53178 cJ7_fill_53178 4 none 2 := ⟨mb_J7_fill_53178, (inr_3 _ (List.mem_of_getElem? (i := 0) rfl)), (inr_3 _ (List.mem_of_getElem? (i := 1) rfl))⟩
theorem mv_3_27 : MV RX3 27 yX3_serviceWith cX3_serviceWith 3 (some .int) 1 := ⟨mb_X3_serviceWith, (inr_28 _ (List.mem_of_getElem? (i := 9) rfl)), (inr_28 _ (List.mem_of_getElem? (i := 10) rfl)), (inr_28 _ (List.mem_of_getElem? (i := 11) rfl))⟩
theorem mo_4_3 : Cond.methodLink RX4 3 objectInit ∈ ALL := (inr_3 _ (List.mem_of_getElem? (i := 17) rfl))
theorem mv_4_21 : MV RX4 21 yX4_insert cX4_insert 4 none 2 := ⟨mb_X4_insert, (inr_15 _ (List.mem_of_getElem? (i := 21) rfl)), (inr_15 _ (List.mem_of_getElem? (i := 22) rfl)), (inr_15 _ (List.mem_of_getElem? (i := 23) rfl))⟩
theorem mv_4_25 : MV RX4 25 yX4_at cX4_at 2 (some (.object "Shortmessage$Part")) 1 := ⟨mb_X4_at, (inr_20 _ (List.mem_of_getElem? (i := 11) rfl)), (inr_20 _ (List.mem_of_getElem? (i := 12) rfl)), (inr_20 _ (List.mem_of_getElem? (i := 13) rfl))⟩
theorem mv_4_29 : MV RX4 29 yX2_isReady cX2_isReady 2 (some .boolean) 1 := ⟨mb_X2_isReady, (inr_21 _ (List.mem_of_getElem? (i := 15) rfl)), (inr_21 _ (List.mem_of_getElem? (i := 16) rfl)), (inr_21 _ (List.mem_of_getElem? (i := 17) rfl))⟩
theorem mv_4_33 : MV RX4 33 yX4_removeAt cX4_removeAt 4 (some (.object "Shortmessage$Part")) 1 := ⟨mb_X4_removeAt, (inr_20 _ (List.mem_of_getElem? (i := 15) rfl)), (inr_20 _ (List.mem_of_getElem? (i := 16) rfl)), (inr_20 _ (List.mem_of_getElem? (i := 17) rfl))⟩
theorem mo_5_3 : Cond.methodLink RX5 3 objectInit ∈ ALL := (inr_2 _ (List.mem_of_getElem? (i := 10) rfl))
theorem ms_5_32 : MS RX5 32 yX5_septetsOf cX5_septetsOf 1 (some .int) 1 := ⟨mb_X5_septetsOf, (inr_5 _ (List.mem_of_getElem? (i := 17) rfl)), (inr_5 _ (List.mem_of_getElem? (i := 18) rfl))⟩
theorem ms_5_52 : MS RX5 52 yJ7_copyOf_59c91 cJ7_copyOf_59c91 3 (some (.array .int)) 2 := ⟨mb_J7_copyOf_59c91, (inr_14 _ (List.mem_of_getElem? (i := 11) rfl)), (inr_14 _ (List.mem_of_getElem? (i := 12) rfl))⟩
theorem ms_5_62 : MS RX5 62 yX5_septetOf cX5_septetOf 2 (some .int) 2 := ⟨mb_X5_septetOf, (inr_12 _ (List.mem_of_getElem? (i := 7) rfl)), (inr_12 _ (List.mem_of_getElem? (i := 8) rfl))⟩
theorem mv_5_36 : MV RX5 36 yX5_cut cX5_cut 5 none 0 := ⟨mb_X5_cut, (inr_5 _ (List.mem_of_getElem? (i := 20) rfl)), (inr_5 _ (List.mem_of_getElem? (i := 21) rfl)), (inr_5 _ (List.mem_of_getElem? (i := 22) rfl))⟩
theorem mv_5_39 : MV RX5 39 yX5_startOf cX5_startOf 2 (some .int) 1 := ⟨mb_X5_startOf, (inr_11 _ (List.mem_of_getElem? (i := 0) rfl)), (inr_10 _ (List.mem_of_getElem? (i := 2) rfl)), (inr_10 _ (List.mem_of_getElem? (i := 3) rfl))⟩
theorem mv_5_42 : MV RX5 42 yX5_septetsIn cX5_septetsIn 5 (some .int) 1 := ⟨mb_X5_septetsIn, (inr_11 _ (List.mem_of_getElem? (i := 1) rfl)), (inr_11 _ (List.mem_of_getElem? (i := 2) rfl)), (inr_11 _ (List.mem_of_getElem? (i := 3) rfl))⟩
theorem mv_5_45 : MV RX5 45 yX5_signAt cX5_signAt 2 (some .int) 1 := ⟨mb_X5_signAt, (inr_6 _ (List.mem_of_getElem? (i := 4) rfl)), (inr_6 _ (List.mem_of_getElem? (i := 5) rfl)), (inr_6 _ (List.mem_of_getElem? (i := 6) rfl))⟩
theorem mv_5_48 : MV RX5 48 yX5_septetAt cX5_septetAt 8 (some .int) 2 := ⟨mb_X5_septetAt, (inr_12 _ (List.mem_of_getElem? (i := 3) rfl)), (inr_12 _ (List.mem_of_getElem? (i := 4) rfl)), (inr_12 _ (List.mem_of_getElem? (i := 5) rfl))⟩
theorem mv_5_58 : MV RX5 58 yX5_roomOfAPart cX5_roomOfAPart 1 (some .int) 0 := ⟨mb_X5_roomOfAPart, (inr_6 _ (List.mem_of_getElem? (i := 0) rfl)), (inr_6 _ (List.mem_of_getElem? (i := 1) rfl)), (inr_6 _ (List.mem_of_getElem? (i := 2) rfl))⟩
theorem mo_6_1 : Cond.methodLink RX6 1 objectInit ∈ ALL := (inr_1 _ (List.mem_of_getElem? (i := 10) rfl))
theorem mi_6_117 : MI RX6 117 yX1_init cX1_init 6 5 := ⟨mb_X1_init, rfl, (inr_13 _ (List.mem_of_getElem? (i := 19) rfl)), Or.inl (inr_13 _ (List.mem_of_getElem? (i := 18) rfl))⟩
theorem mi_6_131 : MI RX6 131 yX2_init cX2_init 4 3 := ⟨mb_X2_init, rfl, (inr_15 _ (List.mem_of_getElem? (i := 9) rfl)), Or.inl (inr_15 _ (List.mem_of_getElem? (i := 8) rfl))⟩
theorem mi_6_41 : MI RX6 41 yX3_init cX3_init 1 0 := ⟨mb_X3_init, rfl, (inr_2 _ (List.mem_of_getElem? (i := 18) rfl)), Or.inl (inr_2 _ (List.mem_of_getElem? (i := 17) rfl))⟩
theorem mi_6_49 : MI RX6 49 yX0_init cX0_init 1 0 := ⟨mb_X0_init, rfl, (inr_3 _ (List.mem_of_getElem? (i := 4) rfl)), Or.inr (List.mem_of_getElem? (i := 1) rfl)⟩
theorem mi_6_9 : MI RX6 9 yX5_init cX5_init 1 0 := ⟨mb_X5_init, rfl, (inr_2 _ (List.mem_of_getElem? (i := 8) rfl)), Or.inr (List.mem_of_getElem? (i := 0) rfl)⟩
theorem mv_6_100 : MV RX6 100 yX5_octetAt cX5_octetAt 6 (some .int) 2 := ⟨mb_X5_octetAt, (inr_11 _ (List.mem_of_getElem? (i := 23) rfl)), (inr_12 _ (List.mem_of_getElem? (i := 0) rfl)), (inr_12 _ (List.mem_of_getElem? (i := 1) rfl))⟩
theorem mv_6_106 : MV RX6 106 yX6_requireReceiver cX6_requireReceiver 2 none 1 := ⟨mb_X6_requireReceiver, (inr_13 _ (List.mem_of_getElem? (i := 6) rfl)), (inr_13 _ (List.mem_of_getElem? (i := 7) rfl)), (inr_13 _ (List.mem_of_getElem? (i := 8) rfl))⟩
theorem mv_6_113 : MV RX6 113 yX6_linkOf cX6_linkOf 2 (some (.object "Shortmessage$Link")) 1 := ⟨mb_X6_linkOf, (inr_13 _ (List.mem_of_getElem? (i := 10) rfl)), (inr_13 _ (List.mem_of_getElem? (i := 11) rfl)), (inr_13 _ (List.mem_of_getElem? (i := 12) rfl))⟩
theorem mv_6_134 : MV RX6 134 yX4_addLast cX4_addLast 2 none 1 := ⟨mb_X4_addLast, (inr_15 _ (List.mem_of_getElem? (i := 17) rfl)), (inr_15 _ (List.mem_of_getElem? (i := 18) rfl)), (inr_15 _ (List.mem_of_getElem? (i := 19) rfl))⟩
theorem mv_6_143 : MV RX6 143 yX6_messageAt cX6_messageAt 2 (some (.object "Shortmessage$Message")) 1 := ⟨mb_X6_messageAt, (inr_16 _ (List.mem_of_getElem? (i := 22) rfl)), (inr_16 _ (List.mem_of_getElem? (i := 23) rfl)), (inr_17 _ (List.mem_of_getElem? (i := 0) rfl))⟩
theorem mv_6_156 : MV RX6 156 yX1_partWith cX1_partWith 4 (some .int) 1 := ⟨mb_X1_partWith, (inr_18 _ (List.mem_of_getElem? (i := 8) rfl)), (inr_18 _ (List.mem_of_getElem? (i := 9) rfl)), (inr_18 _ (List.mem_of_getElem? (i := 10) rfl))⟩
theorem mv_6_159 : MV RX6 159 yX1_lacks cX1_lacks 2 (some .boolean) 1 := ⟨mb_X1_lacks, (inr_18 _ (List.mem_of_getElem? (i := 12) rfl)), (inr_18 _ (List.mem_of_getElem? (i := 13) rfl)), (inr_18 _ (List.mem_of_getElem? (i := 14) rfl))⟩
theorem mv_6_169 : MV RX6 169 yX4_removeAllOf cX4_removeAllOf 4 none 1 := ⟨mb_X4_removeAllOf, (inr_20 _ (List.mem_of_getElem? (i := 7) rfl)), (inr_20 _ (List.mem_of_getElem? (i := 8) rfl)), (inr_20 _ (List.mem_of_getElem? (i := 9) rfl))⟩
theorem mv_6_175 : MV RX6 175 yX6_expireMessages cX6_expireMessages 3 none 0 := ⟨mb_X6_expireMessages, (inr_19 _ (List.mem_of_getElem? (i := 23) rfl)), (inr_20 _ (List.mem_of_getElem? (i := 0) rfl)), (inr_20 _ (List.mem_of_getElem? (i := 1) rfl))⟩
theorem mv_6_178 : MV RX6 178 yX6_sendParts cX6_sendParts 3 (some .int) 0 := ⟨mb_X6_sendParts, (inr_20 _ (List.mem_of_getElem? (i := 19) rfl)), (inr_20 _ (List.mem_of_getElem? (i := 20) rfl)), (inr_20 _ (List.mem_of_getElem? (i := 21) rfl))⟩
theorem mv_6_182 : MV RX6 182 yX6_linkAt cX6_linkAt 2 (some (.object "Shortmessage$Link")) 1 := ⟨mb_X6_linkAt, (inr_13 _ (List.mem_of_getElem? (i := 14) rfl)), (inr_13 _ (List.mem_of_getElem? (i := 15) rfl)), (inr_13 _ (List.mem_of_getElem? (i := 16) rfl))⟩
theorem mv_6_188 : MV RX6 188 yX0_goDown cX0_goDown 6 none 1 := ⟨mb_X0_goDown, (inr_23 _ (List.mem_of_getElem? (i := 3) rfl)), (inr_23 _ (List.mem_of_getElem? (i := 4) rfl)), (inr_23 _ (List.mem_of_getElem? (i := 5) rfl))⟩
theorem mv_6_205 : MV RX6 205 yX4_removeAt cX4_removeAt 4 (some (.object "Shortmessage$Part")) 1 := ⟨mb_X4_removeAt, (inr_25 _ (List.mem_of_getElem? (i := 23) rfl)), (inr_20 _ (List.mem_of_getElem? (i := 16) rfl)), (inr_20 _ (List.mem_of_getElem? (i := 17) rfl))⟩
theorem mv_6_215 : MV RX6 215 yX6_settle cX6_settle 4 none 2 := ⟨mb_X6_settle, (inr_26 _ (List.mem_of_getElem? (i := 0) rfl)), (inr_26 _ (List.mem_of_getElem? (i := 1) rfl)), (inr_26 _ (List.mem_of_getElem? (i := 2) rfl))⟩
theorem mv_6_220 : MV RX6 220 yX4_wake cX4_wake 5 (some .int) 1 := ⟨mb_X4_wake, (inr_26 _ (List.mem_of_getElem? (i := 23) rfl)), (inr_27 _ (List.mem_of_getElem? (i := 0) rfl)), (inr_27 _ (List.mem_of_getElem? (i := 1) rfl))⟩
theorem mv_6_228 : MV RX6 228 yX6_finish cX6_finish 3 none 2 := ⟨mb_X6_finish, (inr_20 _ (List.mem_of_getElem? (i := 3) rfl)), (inr_20 _ (List.mem_of_getElem? (i := 4) rfl)), (inr_20 _ (List.mem_of_getElem? (i := 5) rfl))⟩
theorem mv_6_232 : MV RX6 232 yX0_gainToken cX0_gainToken 1 none 0 := ⟨mb_X0_gainToken, (inr_20 _ (List.mem_of_getElem? (i := 23) rfl)), (inr_21 _ (List.mem_of_getElem? (i := 0) rfl)), (inr_21 _ (List.mem_of_getElem? (i := 1) rfl))⟩
theorem mv_6_235 : MV RX6 235 yX0_sendAll cX0_sendAll 3 (some .int) 1 := ⟨mb_X0_sendAll, (inr_21 _ (List.mem_of_getElem? (i := 3) rfl)), (inr_21 _ (List.mem_of_getElem? (i := 4) rfl)), (inr_21 _ (List.mem_of_getElem? (i := 5) rfl))⟩
theorem mv_6_238 : MV RX6 238 yX1_receive cX1_receive 2 none 1 := ⟨mb_X1_receive, (inr_26 _ (List.mem_of_getElem? (i := 4) rfl)), (inr_26 _ (List.mem_of_getElem? (i := 5) rfl)), (inr_26 _ (List.mem_of_getElem? (i := 6) rfl))⟩
theorem mv_6_252 : MV RX6 252 yX3_giveKeyword cX3_giveKeyword 4 none 2 := ⟨mb_X3_giveKeyword, (inr_27 _ (List.mem_of_getElem? (i := 14) rfl)), (inr_27 _ (List.mem_of_getElem? (i := 15) rfl)), (inr_27 _ (List.mem_of_getElem? (i := 16) rfl))⟩
theorem mv_6_257 : MV RX6 257 yX3_serviceFor cX3_serviceFor 5 (some .int) 3 := ⟨mb_X3_serviceFor, (inr_28 _ (List.mem_of_getElem? (i := 5) rfl)), (inr_28 _ (List.mem_of_getElem? (i := 6) rfl)), (inr_28 _ (List.mem_of_getElem? (i := 7) rfl))⟩
theorem mv_6_65 : MV RX6 65 yX5_append cX5_append 4 none 2 := ⟨mb_X5_append, (inr_5 _ (List.mem_of_getElem? (i := 13) rfl)), (inr_5 _ (List.mem_of_getElem? (i := 14) rfl)), (inr_5 _ (List.mem_of_getElem? (i := 15) rfl))⟩
theorem mv_6_69 : MV RX6 69 yX5_clear cX5_clear 1 none 0 := ⟨mb_X5_clear, (inr_7 _ (List.mem_of_getElem? (i := 5) rfl)), (inr_7 _ (List.mem_of_getElem? (i := 6) rfl)), (inr_7 _ (List.mem_of_getElem? (i := 7) rfl))⟩
theorem mv_6_84 : MV RX6 84 yX6_requirePart cX6_requirePart 2 none 1 := ⟨mb_X6_requirePart, (inr_9 _ (List.mem_of_getElem? (i := 19) rfl)), (inr_9 _ (List.mem_of_getElem? (i := 20) rfl)), (inr_9 _ (List.mem_of_getElem? (i := 21) rfl))⟩
theorem mv_6_88 : MV RX6 88 yX5_startOf cX5_startOf 2 (some .int) 1 := ⟨mb_X5_startOf, (inr_10 _ (List.mem_of_getElem? (i := 1) rfl)), (inr_10 _ (List.mem_of_getElem? (i := 2) rfl)), (inr_10 _ (List.mem_of_getElem? (i := 3) rfl))⟩
theorem mv_6_92 : MV RX6 92 yX5_octetsOf cX5_octetsOf 2 (some .int) 1 := ⟨mb_X5_octetsOf, (inr_10 _ (List.mem_of_getElem? (i := 20) rfl)), (inr_10 _ (List.mem_of_getElem? (i := 21) rfl)), (inr_10 _ (List.mem_of_getElem? (i := 22) rfl))⟩
theorem mo_7_1 : Cond.methodLink RX7 1 objectInit ∈ ALL := (inr_4 _ (List.mem_of_getElem? (i := 0) rfl))
theorem ms_7_105 : MS RX7 105 yX7_partsOf cX7_partsOf 4 (some .int) 3 := ⟨mb_X7_partsOf, (inr_9 _ (List.mem_of_getElem? (i := 1) rfl)), (inr_9 _ (List.mem_of_getElem? (i := 2) rfl))⟩
theorem ms_7_114 : MS RX7 114 yX7_begins cX7_begins 6 (some .int) 4 := ⟨mb_X7_begins, (inr_11 _ (List.mem_of_getElem? (i := 13) rfl)), (inr_11 _ (List.mem_of_getElem? (i := 14) rfl))⟩
theorem ms_7_156 : MS RX7 156 yX7_isLink cX7_isLink 1 (some .boolean) 1 := ⟨mb_X7_isLink, (inr_23 _ (List.mem_of_getElem? (i := 13) rfl)), (inr_23 _ (List.mem_of_getElem? (i := 14) rfl))⟩
theorem ms_7_78 : MS RX7 78 yX7_width cX7_width 1 (some .int) 1 := ⟨mb_X7_width, (inr_8 _ (List.mem_of_getElem? (i := 14) rfl)), (inr_8 _ (List.mem_of_getElem? (i := 15) rfl))⟩
theorem ms_7_82 : MS RX7 82 yX7_hasWide cX7_hasWide 5 (some .boolean) 3 := ⟨mb_X7_hasWide, (inr_7 _ (List.mem_of_getElem? (i := 21) rfl)), (inr_7 _ (List.mem_of_getElem? (i := 22) rfl))⟩
theorem ms_7_86 : MS RX7 86 yX7_septetsIn cX7_septetsIn 5 (some .int) 3 := ⟨mb_X7_septetsIn, (inr_8 _ (List.mem_of_getElem? (i := 11) rfl)), (inr_8 _ (List.mem_of_getElem? (i := 12) rfl))⟩
theorem ms_7_90 : MS RX7 90 yX7_signsOf cX7_signsOf 9 (some .int) 4 := ⟨mb_X7_signsOf, (inr_9 _ (List.mem_of_getElem? (i := 4) rfl)), (inr_9 _ (List.mem_of_getElem? (i := 5) rfl))⟩
theorem ms_7_94 : MS RX7 94 yX7_isIn cX7_isIn 3 (some .boolean) 3 := ⟨mb_X7_isIn, (inr_6 _ (List.mem_of_getElem? (i := 13) rfl)), (inr_6 _ (List.mem_of_getElem? (i := 14) rfl))⟩
theorem mv_7_101 : MV RX7 101 yX7_fails cX7_fails 2 (some .boolean) 1 := ⟨mb_X7_fails, (inr_6 _ (List.mem_of_getElem? (i := 16) rfl)), (inr_6 _ (List.mem_of_getElem? (i := 17) rfl)), (inr_6 _ (List.mem_of_getElem? (i := 18) rfl))⟩
theorem mv_7_108 : MV RX7 108 yX7_tells cX7_tells 2 (some .int) 1 := ⟨mb_X7_tells, (inr_9 _ (List.mem_of_getElem? (i := 7) rfl)), (inr_9 _ (List.mem_of_getElem? (i := 8) rfl)), (inr_9 _ (List.mem_of_getElem? (i := 9) rfl))⟩
theorem mv_7_111 : MV RX7 111 yX7_isPart cX7_isPart 2 (some .boolean) 1 := ⟨mb_X7_isPart, (inr_10 _ (List.mem_of_getElem? (i := 9) rfl)), (inr_10 _ (List.mem_of_getElem? (i := 10) rfl)), (inr_10 _ (List.mem_of_getElem? (i := 11) rfl))⟩
theorem mv_7_117 : MV RX7 117 yX7_octetsOf cX7_octetsOf 4 (some .int) 1 := ⟨mb_X7_octetsOf, (inr_11 _ (List.mem_of_getElem? (i := 9) rfl)), (inr_11 _ (List.mem_of_getElem? (i := 10) rfl)), (inr_11 _ (List.mem_of_getElem? (i := 11) rfl))⟩
theorem mv_7_120 : MV RX7 120 yX7_septet cX7_septet 6 (some .int) 2 := ⟨mb_X7_septet, (inr_12 _ (List.mem_of_getElem? (i := 14) rfl)), (inr_12 _ (List.mem_of_getElem? (i := 15) rfl)), (inr_12 _ (List.mem_of_getElem? (i := 16) rfl))⟩
theorem mv_7_130 : MV RX7 130 yX7_partsIn cX7_partsIn 2 (some .int) 1 := ⟨mb_X7_partsIn, (inr_16 _ (List.mem_of_getElem? (i := 7) rfl)), (inr_16 _ (List.mem_of_getElem? (i := 8) rfl)), (inr_16 _ (List.mem_of_getElem? (i := 9) rfl))⟩
theorem mv_7_133 : MV RX7 133 yX7_puts cX7_puts 5 none 4 := ⟨mb_X7_puts, (inr_16 _ (List.mem_of_getElem? (i := 11) rfl)), (inr_16 _ (List.mem_of_getElem? (i := 12) rfl)), (inr_16 _ (List.mem_of_getElem? (i := 13) rfl))⟩
theorem mv_7_137 : MV RX7 137 yX7_isMessage cX7_isMessage 2 (some .boolean) 1 := ⟨mb_X7_isMessage, (inr_17 _ (List.mem_of_getElem? (i := 6) rfl)), (inr_17 _ (List.mem_of_getElem? (i := 7) rfl)), (inr_17 _ (List.mem_of_getElem? (i := 8) rfl))⟩
theorem mv_7_140 : MV RX7 140 yX7_lacks cX7_lacks 4 (some .int) 1 := ⟨mb_X7_lacks, (inr_17 _ (List.mem_of_getElem? (i := 21) rfl)), (inr_17 _ (List.mem_of_getElem? (i := 22) rfl)), (inr_17 _ (List.mem_of_getElem? (i := 23) rfl))⟩
theorem mv_7_146 : MV RX7 146 yX7_first cX7_first 4 (some .int) 1 := ⟨mb_X7_first, (inr_22 _ (List.mem_of_getElem? (i := 8) rfl)), (inr_22 _ (List.mem_of_getElem? (i := 9) rfl)), (inr_22 _ (List.mem_of_getElem? (i := 10) rfl))⟩
theorem mv_7_149 : MV RX7 149 yX7_ends cX7_ends 7 none 2 := ⟨mb_X7_ends, (inr_22 _ (List.mem_of_getElem? (i := 0) rfl)), (inr_22 _ (List.mem_of_getElem? (i := 1) rfl)), (inr_22 _ (List.mem_of_getElem? (i := 2) rfl))⟩
theorem mv_7_153 : MV RX7 153 yX7_sends cX7_sends 5 (some .int) 1 := ⟨mb_X7_sends, (inr_22 _ (List.mem_of_getElem? (i := 4) rfl)), (inr_22 _ (List.mem_of_getElem? (i := 5) rfl)), (inr_22 _ (List.mem_of_getElem? (i := 6) rfl))⟩
theorem mv_7_159 : MV RX7 159 yX7_of cX7_of 3 (some .int) 2 := ⟨mb_X7_of, (inr_24 _ (List.mem_of_getElem? (i := 14) rfl)), (inr_24 _ (List.mem_of_getElem? (i := 15) rfl)), (inr_24 _ (List.mem_of_getElem? (i := 16) rfl))⟩
theorem mv_7_163 : MV RX7 163 yX7_becomes cX7_becomes 5 none 2 := ⟨mb_X7_becomes, (inr_26 _ (List.mem_of_getElem? (i := 12) rfl)), (inr_26 _ (List.mem_of_getElem? (i := 13) rfl)), (inr_26 _ (List.mem_of_getElem? (i := 14) rfl))⟩
theorem mo_i : Cond.instanceMethod objectInit ∈ ALL := (inr_1 _ (List.mem_of_getElem? (i := 11) rfl))
theorem mo_c : Cond.code objectInit ⟨#[0xb1]⟩ 1 none ∈ ALL := (inr_1 _ (List.mem_of_getElem? (i := 12) rfl))
theorem ar_int : Cond.arrayClass .int ∈ ALL := (inr_1 _ (List.mem_of_getElem? (i := 20) rfl))
theorem ar_boolean : Cond.arrayClass .boolean ∈ ALL := (inr_4 _ (List.mem_of_getElem? (i := 10) rfl))
theorem ar_long : Cond.arrayClass .long ∈ ALL := (inr_1 _ (List.mem_of_getElem? (i := 6) rfl))
theorem cl_4_9 : Cond.classLink RX4 9 RX2 ∈ ALL := (inr_3 _ (List.mem_of_getElem? (i := 18) rfl))
theorem cl_6_16 : Cond.classLink RX6 16 RX1 ∈ ALL := (inr_1 _ (List.mem_of_getElem? (i := 17) rfl))
theorem cl_6_33 : Cond.classLink RX6 33 RX0 ∈ ALL := (inr_1 _ (List.mem_of_getElem? (i := 23) rfl))
abbrev eIAE : String := "java/lang/IllegalArgumentException"
theorem th_IAE_g : ∀ w ∈ (vx_atS RX6 54 eIAE exN).filter goodWord, w ∈ ALL := fun w h => List.mem_append_left _ (List.mem_append_left _ (List.mem_append_right _ h))
theorem th_IAE_n : ∀ w ∈ (vx_atS RX6 54 eIAE exN).filter (fun w => !goodWord w), w ∈ Cond.castable eIAE eIAE :: decW.map Cond.declares := by decide +kernel
theorem th_IAE_o : ∀ w ∈ Cond.classLink RX6 50 eIAE :: Cond.initialized eIAE :: vx_atS RX6 54 eIAE exN, vx_ot w = true := by decide +kernel
theorem th_IAE (is : Nat) (text : String) (h : (is, text) ∈ strW) : TH 50 is 54 eIAE text := ⟨by decide +kernel, (inr_5 _ (List.mem_of_getElem? (i := 9) rfl)), (inr_5 _ (List.mem_of_getElem? (i := 10) rfl)), h, List.mem_of_getElem? (i := 0) rfl, th_IAE_g, th_IAE_n, th_IAE_o⟩
abbrev eISE : String := "java/lang/IllegalStateException"
theorem th_ISE_g : ∀ w ∈ (vx_atS RX6 64 eISE exN).filter goodWord, w ∈ ALL := fun w h => List.mem_append_left _ (List.mem_append_right _ h)
theorem th_ISE_n : ∀ w ∈ (vx_atS RX6 64 eISE exN).filter (fun w => !goodWord w), w ∈ Cond.castable eISE eISE :: decW.map Cond.declares := by decide +kernel
theorem th_ISE_o : ∀ w ∈ Cond.classLink RX6 60 eISE :: Cond.initialized eISE :: vx_atS RX6 64 eISE exN, vx_ot w = true := by decide +kernel
theorem th_ISE (is : Nat) (text : String) (h : (is, text) ∈ strW) : TH 60 is 64 eISE text := ⟨by decide +kernel, (inr_5 _ (List.mem_of_getElem? (i := 11) rfl)), (inr_5 _ (List.mem_of_getElem? (i := 12) rfl)), h, List.mem_of_getElem? (i := 1) rfl, th_ISE_g, th_ISE_n, th_ISE_o⟩
abbrev eIOB : String := "java/lang/IndexOutOfBoundsException"
theorem th_IOB_g : ∀ w ∈ (vx_atS RX6 99 eIOB exN).filter goodWord, w ∈ ALL := fun w h => List.mem_append_right _ h
theorem th_IOB_n : ∀ w ∈ (vx_atS RX6 99 eIOB exN).filter (fun w => !goodWord w), w ∈ Cond.castable eIOB eIOB :: decW.map Cond.declares := by decide +kernel
theorem th_IOB_o : ∀ w ∈ Cond.classLink RX6 95 eIOB :: Cond.initialized eIOB :: vx_atS RX6 99 eIOB exN, vx_ot w = true := by decide +kernel
theorem th_IOB (is : Nat) (text : String) (h : (is, text) ∈ strW) : TH 95 is 99 eIOB text := ⟨by decide +kernel, (inr_9 _ (List.mem_of_getElem? (i := 23) rfl)), (inr_10 _ (List.mem_of_getElem? (i := 0) rfl)), h, List.mem_of_getElem? (i := 2) rfl, th_IOB_g, th_IOB_n, th_IOB_o⟩
theorem sw_52 : ((52, "sign or times out of range") : Nat × String) ∈ strW := List.mem_of_getElem? (i := 0) rfl
theorem sw_62 : ((62, "the text would be too long") : Nat × String) ∈ strW := List.mem_of_getElem? (i := 1) rfl
theorem sw_76 : ((76, "the text is wide") : Nat × String) ∈ strW := List.mem_of_getElem? (i := 2) rfl
theorem sw_104 : ((104, "no such part") : Nat × String) ∈ strW := List.mem_of_getElem? (i := 3) rfl
theorem sw_97 : ((97, "no such place") : Nat × String) ∈ strW := List.mem_of_getElem? (i := 4) rfl
theorem sw_167 : ((167, "receiver out of range") : Nat × String) ∈ strW := List.mem_of_getElem? (i := 5) rfl
theorem sw_109 : ((109, "validity out of range") : Nat × String) ∈ strW := List.mem_of_getElem? (i := 6) rfl
theorem sw_111 : ((111, "no text, or no room for a message") : Nat × String) ∈ strW := List.mem_of_getElem? (i := 7) rfl
theorem sw_223 : ((223, "no such link") : Nat × String) ∈ strW := List.mem_of_getElem? (i := 8) rfl
theorem sw_165 : ((165, "no such message") : Nat × String) ∈ strW := List.mem_of_getElem? (i := 9) rfl
theorem sw_163 : ((163, "no such receipt") : Nat × String) ∈ strW := List.mem_of_getElem? (i := 10) rfl
theorem sw_173 : ((173, "ticks out of range") : Nat × String) ∈ strW := List.mem_of_getElem? (i := 11) rfl
theorem sw_191 : ((191, "window out of range") : Nat × String) ∈ strW := List.mem_of_getElem? (i := 12) rfl
theorem sw_203 : ((203, "outcome out of range") : Nat × String) ∈ strW := List.mem_of_getElem? (i := 13) rfl
theorem sw_209 : ((209, "no part is under way") : Nat × String) ∈ strW := List.mem_of_getElem? (i := 14) rfl
theorem sw_250 : ((250, "service or sign out of range") : Nat × String) ∈ strW := List.mem_of_getElem? (i := 15) rfl
theorem sw_255 : ((255, "person or sign out of range") : Nat × String) ∈ strW := List.mem_of_getElem? (i := 16) rfl
theorem cl_L_13 : Cond.classLink RL 13 "java/lang/IllegalArgumentException" ∈ ALL := (inr_5 _ (List.mem_of_getElem? (i := 3) rfl))
theorem cl_L_15 : Cond.classLink RL 15 "java/lang/IllegalStateException" ∈ ALL := (inr_5 _ (List.mem_of_getElem? (i := 4) rfl))
theorem cl_L_25 : Cond.classLink RL 25 "java/lang/IndexOutOfBoundsException" ∈ ALL := (inr_9 _ (List.mem_of_getElem? (i := 14) rfl))
theorem nat_ac : Cond.native arraycopyName ∈ ALL := (inr_15 _ (List.mem_of_getElem? (i := 1) rfl))
theorem st_ac : Cond.static arraycopyName ∈ ALL := (inr_15 _ (List.mem_of_getElem? (i := 2) rfl))
theorem ini_sys : Cond.initialized "java/lang/System" ∈ ALL := (inr_15 _ (List.mem_of_getElem? (i := 3) rfl))
theorem ini_math : Cond.initialized "java/lang/Math" ∈ ALL := (inr_14 _ (List.mem_of_getElem? (i := 22) rfl))
theorem mcl_methodLink : Cond.methodLink RJ7 316 ⟨"[I", "clone", "()Ljava/lang/Object;"⟩ ∈ ALL := (inr_14 _ (List.mem_of_getElem? (i := 14) rfl))
theorem mcl_sameMethod : Cond.sameMethod "[I" "java/lang/Object" "clone" "()Ljava/lang/Object;" ∈ ALL := (inr_14 _ (List.mem_of_getElem? (i := 15) rfl))
theorem mcl_native : Cond.native ⟨"java/lang/Object", "clone", "()Ljava/lang/Object;"⟩ ∈ ALL := (inr_14 _ (List.mem_of_getElem? (i := 16) rfl))
theorem mcl_instanceMethod : Cond.instanceMethod ⟨"java/lang/Object", "clone", "()Ljava/lang/Object;"⟩ ∈ ALL := (inr_14 _ (List.mem_of_getElem? (i := 17) rfl))
theorem mcl_selects : Cond.selects "[I" ⟨"[I", "clone", "()Ljava/lang/Object;"⟩ ⟨"java/lang/Object", "clone", "()Ljava/lang/Object;"⟩ ∈ ALL := (inr_14 _ (List.mem_of_getElem? (i := 18) rfl))
theorem mm_methodLink : Cond.methodLink RJ7 304 Lib.Math.min.name ∈ ALL := (inr_14 _ (List.mem_of_getElem? (i := 20) rfl))
theorem mm_static : Cond.static Lib.Math.min.name ∈ ALL := (inr_14 _ (List.mem_of_getElem? (i := 21) rfl))
theorem mm_code : Cond.code Lib.Math.min.name Lib.Math.min.code 2 (some .int) ∈ ALL := (inr_14 _ (List.mem_of_getElem? (i := 23) rfl))
theorem ml_ac : Cond.methodLink RJ7 150 arraycopyName ∈ ALL := (inr_15 _ (List.mem_of_getElem? (i := 0) rfl))
end
section
/-! ===== helpers of walks ===== -/
/-- a room for k levels of calls below, that make nothing -/
abbrev rK (k : Nat) : Room := { frames := k, cells := 0, slots := 0, locals := 40 * k }
abbrev r0 : Room := rK 0
/-- a method that only reads: it answers v, the world stays -/
def pRd (v : Option Value) (ad : Nat → Nat) (F : Fn) : Pst := fun v' ad' F' => v' = v ∧ ad = ad' ∧ F = F'
theorem nI_inc (j : Nat) : nI j + Int32.ofInt 1 = nI (j + 1) := nI_1 j
theorem nI_m1 {j : Nat} (h : 0 < j) : nI j - 1 = nI (j - 1) := by
  obtain ⟨i, rfl⟩ : ∃ i, j = i + 1 := ⟨j - 1, by omega⟩
  exact nI_pred i
theorem nI_dec {j : Nat} (h : 0 < j) : nI j + Int32.ofInt (-1) = nI (j - 1) := by
  obtain ⟨i, rfl⟩ : ∃ i, j = i + 1 := ⟨j - 1, by omega⟩
  exact pk_m1 i
theorem nI_decS (j : Nat) : nI j + Int32.ofInt (-1) = nI j - 1 := by rw [Int32.sub_eq_add_neg]; congr 1
theorem nodup_idx {L : List Nat} (h : L.Nodup) {i j q : Nat} (hi : L[i]? = some q) (hj : L[j]? = some q) : i = j := by
  obtain ⟨i1, i2⟩ := List.getElem?_eq_some_iff.mp hi
  obtain ⟨j1, j2⟩ := List.getElem?_eq_some_iff.mp hj
  rcases Nat.lt_trichotomy i j with hl | hl | hl
  · exact absurd (i2.trans j2.symm) (List.pairwise_iff_getElem.mp h i j i1 j1 hl)
  · exact hl
  · exact absurd (j2.trans i2.symm) (List.pairwise_iff_getElem.mp h j i j1 i1 hl)
theorem V_sb {X : Cxt} {k n pc : Nat} {lv lv' : Lv} {st : List Value} {ad : Nat → Nat} {F : Fn} (K : V X k n pc lv' st ad F) (hs : alls lv lv') : V X k n pc lv st ad F := V_sub hs K
theorem V_acmpneR {X : Cxt} {cc : ByteArray} {nL : Nat} {y : MethodName} {R : Room} {ret : Option FieldType} {tb : List ExceptionTableEntry} {k n pc : Nat} {lv : Lv} {st : List Value} {ad : Nat → Nat} {F : Fn} {a b : Nat} {off : Int} {tgt : Nat} (C : Ok X cc nL y R ret tb) (d : decode cc pc = .ok (.if_acmp .ne off, 3)) (ht : (pc : Int) + off = (tgt : Int)) (Kt : ¬ a = b → V X k n tgt lv st ad F) (Kf : a = b → V X k n (pc + 3) lv st ad F) : V X k n pc lv (.ref b :: .ref a :: st) ad F :=
  V_acmpne (rx := some a) (ry := some b) C d ht (fun h => Kt (fun e => h (by rw [e]))) (fun h => Kf (Option.some.inj h))
theorem rf_or (r : Option Nat) : va_rf r = .null ∨ ∃ a, va_rf r = .ref a := by
  cases r with
  | none => exact Or.inl rfl
  | some a => exact Or.inr ⟨a, rfl⟩
theorem rf_cat (r : Option Nat) : (va_rf r).category = 1 := by cases r <;> rfl
set_option maxHeartbeats 400000 in
set_option maxRecDepth 100000 in
/-- Row.at -/
theorem c_at {l : Launch} {D : Dx} {b0 : Nat} {ad : Nat → Nat} {F : Fn} (o a n j : Nat) (f : Nat → Option Nat) (hr : F o = some (oB 4 [.ref (ad a), .int (nI n)])) (ha : F a = some (aQ D 3 120 f)) (hn : n ≤ 120) (hj : j < 2 ^ 31) : Ct l D b0 yX4_at (wsA yX4_at cX4_at 2 (some (.object "Shortmessage$Part"))) r0 [.ref (ad o), .int (nI j)] ad F (pRd (some (va_rf (if j < n then f j else none))) ad F) noX := by
  refine Ct.of (by decide +kernel) (by simp [Value.category]) (Nat.le_of_ble_eq_true rfl) (fun X eD eb el C Q => ?_)
  subst eD; subst eb; subst el
  refine V_iload_n C dX4_at_0 rfl ?_
  refine V_iflt_f (tgt := 30) C dX4_at_1 (by decide) (nI_pos hj) ?_
  refine V_iload_n C dX4_at_4 rfl ?_
  refine V_aload_n C dX4_at_5 rfl ?_
  refine V_get C dX4_at_6 fr_4_17 hr rfl ?_
  refine V_icmpge (tgt := 30) C dX4_at_9 (by decide) (fun hc => ?_) (fun hc => ?_)
  · have hlt : ¬ j < n := fun h => nI_ge h (by omega) hc
    rw [if_neg hlt] at Q
    refine V_null C dX4_at_30 ?_
    exact V_areturn C Q dX4_at_31 (Or.inl ⟨_, rfl⟩) (Or.inl rfl) (Nat.le_of_ble_eq_true rfl) (Nat.le_of_ble_eq_true rfl) ⟨rfl, rfl, rfl⟩
  · have hlt : j < n := Nat.lt_of_not_le fun h => hc (nI_le h hj)
    rw [if_pos hlt] at Q
    refine V_iload_n C dX4_at_12 rfl ?_
    refine V_aload_n C dX4_at_13 rfl ?_
    refine V_get C dX4_at_14 fr_4_11 hr rfl ?_
    refine V_alen C dX4_at_17 ha rfl ?_
    refine V_icmpge_f (tgt := 30) C dX4_at_18 (by decide) (nI_ge (by omega : j < 120) (by omega)) ?_
    refine V_aload_n C dX4_at_21 rfl ?_
    refine V_get C dX4_at_22 fr_4_11 hr rfl ?_
    refine V_iload_n C dX4_at_25 rfl ?_
    refine V_aald C dX4_at_26 ha rfl rfl (by omega) (by omega) ?_
    refine V_goto (tgt := 31) C dX4_at_27 (by decide) ?_
    exact V_areturn C Q dX4_at_31 (Or.inl ⟨_, rfl⟩) (rf_or _) (Nat.le_of_ble_eq_true rfl) (Nat.le_of_ble_eq_true rfl) ⟨rfl, rfl, rfl⟩
/-- a row of parts: its object at the code o, its array at a, the codes of its parts in their order -/
def RowAt (D : Dx) (ad : Nat → Nat) (F : Fn) (o a : Nat) (L : List Nat) : Prop := F o = some (oB 4 [.ref (ad a), .int (nI L.length)]) ∧ L.length ≤ 120 ∧ ∃ f : Nat → Option Nat, F a = some (aQ D 3 120 f) ∧ ∀ j, j < L.length → f j = (L[j]?).map ad
def Prts (F : Fn) (L : List Nat) : Prop := ∀ c ∈ L, ∃ fs : List Value, F c = some (oB 2 fs)
theorem obj_ne {F : Fn} {a o ci : Nat} {x : ClassId × vp_A} {fs : List Value} (h1 : F a = some (.inl x)) (h2 : F o = some (oB ci fs)) : o ≠ a := fun h => by
  subst h
  rw [h1] at h2
  cases h2
theorem cls_ne {F : Fn} {o p ci cj : Nat} {fs gs : List Value} (h1 : F o = some (oB ci fs)) (h2 : F p = some (oB cj gs)) (h : ci ≠ cj) : o ≠ p := fun e => by
  subst e
  rw [h1] at h2
  cases h2
  exact h rfl
set_option maxHeartbeats 400000 in
set_option maxRecDepth 100000 in
/-- Row.insert -/
theorem c_insert {l : Launch} {D : Dx} {b0 : Nat} {ad : Nat → Nat} {F : Fn} (o a i c : Nat) (L : List Nat) (hR : RowAt D ad F o a L) (hP : Prts F L) (hc : ∃ fs : List Value, F c = some (oB 2 fs)) (hi : i ≤ L.length) (hl : L.length < 120) : Ct l D b0 yX4_insert (wsA yX4_insert cX4_insert 4 none) r0 [.ref (ad o), .int (nI i), .ref (ad c)] ad F (fun v ad1 F1 => v = none ∧ ad = ad1 ∧ RowAt D ad F1 o a (L.insertIdx i c) ∧ ∀ x, x ∉ [o, a] → F1 x = F x) noX := by
  refine Ct.of (by decide +kernel) (by simp [Value.category]) (Nat.le_of_ble_eq_true rfl) (fun X eD eb el C Q => ?_)
  subst eD; subst eb; subst el
  obtain ⟨hr, hl2, f, ha, hf⟩ := hR
  obtain ⟨fc, hcc⟩ := hc
  have hoa : o ≠ a := obj_ne ha hr
  obtain ⟨n, hn⟩ : ∃ n, n = L.length := ⟨_, rfl⟩
  rw [← hn] at hr hl2 hf hi hl
  refine V_iload_n C dX4_insert_0 rfl ?_
  refine V_iflt_f (tgt := 24) C dX4_insert_1 (by decide) (nI_pos (by omega)) ?_
  refine V_iload_n C dX4_insert_4 rfl ?_
  refine V_aload_n C dX4_insert_5 rfl ?_
  refine V_get C dX4_insert_6 fr_4_17 hr rfl ?_
  refine V_icmpgt_f (tgt := 24) C dX4_insert_9 (by decide) (fun h => nI_nlt hi (by omega) h) ?_
  refine V_aload_n C dX4_insert_12 rfl ?_
  refine V_get C dX4_insert_13 fr_4_17 hr rfl ?_
  refine V_aload_n C dX4_insert_16 rfl ?_
  refine V_get C dX4_insert_17 fr_4_11 hr rfl ?_
  refine V_alen C dX4_insert_20 ha rfl ?_
  refine V_icmplt_t (tgt := 25) C dX4_insert_21 (by decide) (nI_lt hl (by omega)) ?_
  refine V_aload_n C dX4_insert_25 rfl ?_
  refine V_get C dX4_insert_26 fr_4_17 hr rfl ?_
  refine V_istore_n C dX4_insert_29 (by decide) ?_
  have hr0 := hr
  have ha0 := ha
  have hcn : c ∉ [o, a] := by simp [cls_ne hcc hr (by decide), obj_ne ha hcc]
  have loop : ∀ (d j : Nat) (G : Fn) (g : Nat → Option Nat), j = i + d → j ≤ n → G o = some (oB 4 [.ref (ad a), .int (nI n)]) → G a = some (aQ (xD X) 3 120 g) → (∀ t, t < j → g t = f t) → (∀ t, j < t → t ≤ n → g t = f (t - 1)) → (∀ x, x ∉ [o, a] → G x = F x) →
      V X 0 0 30 [(0, .ref (ad o)), (1, .int (nI i)), (2, .ref (ad c)), (3, .int (nI j))] [] ad G := by
    intro d
    induction d with
    | zero =>
      intro j G g hj hjn hr ha h1 h2 hK
      have hj' : j = i := by omega
      subst hj'
      refine V_iload_n C dX4_insert_30 rfl ?_
      refine V_iload_n C dX4_insert_31 rfl ?_
      refine V_icmple_t (tgt := 55) C dX4_insert_32 (by decide) (Int32.le_refl _) ?_
      refine V_aload_n C dX4_insert_55 rfl ?_
      refine V_get C dX4_insert_56 fr_4_11 hr rfl ?_
      refine V_iload_n C dX4_insert_59 rfl ?_
      refine V_aload_n C dX4_insert_60 rfl ?_
      have hcG : G c = some (oB 2 fc) := (hK c hcn).trans hcc
      refine G_aast C dX4_insert_61 ha rfl hcG rfl rfl (by omega) (by omega) (fun G1 ha hfr => ?_)
      have hr := (hfr _ hoa).trans hr
      have hK := fr_step hK hfr (by simp)
      refine V_aload_n C dX4_insert_62 rfl ?_
      refine V_dup C dX4_insert_63 rfl ?_
      refine V_get C dX4_insert_64 fr_4_17 hr rfl ?_
      refine V_iconst (v := 1) C dX4_insert_67 rfl ?_
      refine V_iadd C dX4_insert_68 ?_
      refine V_nm (nI_1 n) ?_
      refine G_put C dX4_insert_69 fp_4_17 hr rfl rfl (Nat.le_of_ble_eq_true rfl) (fun G2 hr hfr => ?_)
      dsimp only [List.set] at hr
      have ha := (hfr _ hoa.symm).trans ha
      have hK := fr_step hK hfr (by simp)
      refine V_return C Q dX4_insert_72 (Nat.le_of_ble_eq_true rfl) (Nat.le_of_ble_eq_true rfl) ⟨rfl, rfl, ⟨by rw [List.length_insertIdx_of_le_length (by omega), ← hn]; exact hr, by rw [List.length_insertIdx_of_le_length (by omega)]; omega, _, ha, fun t ht => ?_⟩, hK⟩
      rw [List.length_insertIdx_of_le_length (by omega)] at ht
      rw [List.getElem?_insertIdx]
      rcases Nat.lt_trichotomy t j with h | h | h
      · rw [va_up, if_neg (by omega), h1 t h, hf t (by omega), if_pos h]
      · subst h
        simp [va_up]
        omega
      · rw [va_up, if_neg (by omega), h2 t h (by omega), hf (t - 1) (by omega), if_neg (by omega), if_neg (by omega)]
    | succ d ih =>
      intro j G g hj hjn hr ha h1 h2 hK
      refine V_iload_n C dX4_insert_30 rfl ?_
      refine V_iload_n C dX4_insert_31 rfl ?_
      refine V_icmple_f (tgt := 55) C dX4_insert_32 (by decide) (nI_ge (by omega) (by omega)) ?_
      refine V_aload_n C dX4_insert_35 rfl ?_
      refine V_get C dX4_insert_36 fr_4_11 hr rfl ?_
      refine V_iload_n C dX4_insert_39 rfl ?_
      refine V_aload_n C dX4_insert_40 rfl ?_
      refine V_get C dX4_insert_41 fr_4_11 hr rfl ?_
      refine V_iload_n C dX4_insert_44 rfl ?_
      refine V_iconst (v := 1) C dX4_insert_45 rfl ?_
      refine V_isub C dX4_insert_46 ?_
      refine V_nm (nI_m1 (by omega)) ?_
      refine V_aald C dX4_insert_47 ha rfl rfl (by omega) (by omega) ?_
      obtain ⟨q, hq⟩ : ∃ q, L[j - 1]? = some q := ⟨L[j - 1]'(by omega), List.getElem?_eq_getElem (by omega)⟩
      obtain ⟨fq, hqF⟩ := hP q (List.mem_of_getElem? hq)
      refine V_rf (r' := some (ad q)) (by rw [h1 (j - 1) (by omega), hf (j - 1) (by omega), hq]; rfl) ?_
      have hqG : G q = some (oB 2 fq) := (hK q (by simp [cls_ne hqF hr0 (by decide), obj_ne ha0 hqF])).trans hqF
      refine G_aast C dX4_insert_48 ha rfl hqG rfl rfl (by omega) (by omega) (fun G1 ha hfr => ?_)
      have hr := (hfr _ hoa).trans hr
      have hK := fr_step hK hfr (by simp)
      refine V_iinc C dX4_insert_49 rfl (nI_dec (by omega)) (by decide) ?_
      refine V_goto (tgt := 30) C dX4_insert_52 (by decide) ?_
      refine V_sb (ih (j - 1) G1 _ (by omega) (by omega) hr ha (fun t ht => ?_) (fun t ht1 ht2 => ?_) hK) ⟨rfl, rfl, rfl, rfl, trivial⟩
      · rw [va_up, if_neg (by omega)]; exact h1 t (by omega)
      · by_cases h : t = j
        · subst h; rw [va_up, if_pos rfl, hf (t - 1) (by omega), hq]; rfl
        · rw [va_up, if_neg h]; exact h2 t (by omega) ht2
  refine V_sb (loop (n - i) n F f (by omega) (Nat.le_refl n) hr ha (fun _ _ => rfl) (fun t h1 h2 => absurd h2 (by omega)) (fun _ _ => rfl)) ⟨rfl, rfl, rfl, rfl, trivial⟩
theorem c_atR {l : Launch} {D : Dx} {b0 : Nat} {ad : Nat → Nat} {F : Fn} (o a j c : Nat) (L : List Nat) (hR : RowAt D ad F o a L) (hc : L[j]? = some c) : Ct l D b0 yX4_at (wsA yX4_at cX4_at 2 (some (.object RX2))) r0 [.ref (ad o), .int (nI j)] ad F (pRd (some (.ref (ad c))) ad F) noX := by
  obtain ⟨hr, hl, f, ha, hf⟩ := hR
  have hj : j < L.length := (List.getElem?_eq_some_iff.mp hc).1
  have h := c_at (l := l) (b0 := b0) o a L.length j f hr ha hl (by omega)
  rwa [if_pos hj, hf j hj, hc] at h
theorem c_atN {l : Launch} {D : Dx} {b0 : Nat} {ad : Nat → Nat} {F : Fn} (o a j : Nat) (L : List Nat) (hR : RowAt D ad F o a L) (hj : L.length ≤ j) (hj2 : j < 2 ^ 31) : Ct l D b0 yX4_at (wsA yX4_at cX4_at 2 (some (.object RX2))) r0 [.ref (ad o), .int (nI j)] ad F (pRd (some .null) ad F) noX := by
  obtain ⟨hr, hl, f, ha, hf⟩ := hR
  have h := c_at (l := l) (b0 := b0) o a L.length j f hr ha hl hj2
  rwa [if_neg (by omega)] at h
set_option maxHeartbeats 400000 in
set_option maxRecDepth 100000 in
/-- Row.addLast -/
theorem c_addLast {l : Launch} {D : Dx} {b0 : Nat} {ad : Nat → Nat} {F : Fn} (o a c : Nat) (L : List Nat) (hR : RowAt D ad F o a L) (hP : Prts F L) (hc : ∃ fs : List Value, F c = some (oB 2 fs)) (hl : L.length < 120) : Ct l D b0 yX4_addLast (wsA yX4_addLast cX4_addLast 2 none) (rK 1) [.ref (ad o), .ref (ad c)] ad F (fun v ad1 F1 => v = none ∧ ad = ad1 ∧ RowAt D ad F1 o a (L ++ [c]) ∧ ∀ x, x ∉ [o, a] → F1 x = F x) noX := by
  refine Ct.of (by decide +kernel) (by simp [Value.category]) (Nat.le_of_ble_eq_true rfl) (fun X eD eb el C Q => ?_)
  subst eD; subst eb; subst el
  have hr := hR.1
  refine V_aload_n C dX4_addLast_0 rfl ?_
  refine V_aload_n C dX4_addLast_1 rfl ?_
  refine V_get C dX4_addLast_2 fr_4_17 hr rfl ?_
  refine V_aload_n C dX4_addLast_5 rfl ?_
  refine V_invV C dX4_addLast_6 hr rfl (c_insert o a L.length c L hR hP hc (Nat.le_refl _) hl) mv_4_21 rfl (Nat.le_of_ble_eq_true rfl) ⟨Nat.le_of_ble_eq_true rfl, Nat.le_of_ble_eq_true rfl⟩ ⟨Nat.le_of_ble_eq_true rfl, Nat.le_of_ble_eq_true rfl⟩ (fun _ _ _ h => VT_no h) (fun v ad1 F1 hp => ?_)
  obtain ⟨rfl, rfl, h1, h2⟩ := hp
  rw [List.insertIdx_length_self] at h1
  exact V_return C Q dX4_addLast_9 (Nat.le_of_ble_eq_true rfl) (Nat.le_of_ble_eq_true rfl) ⟨rfl, rfl, h1, h2⟩
set_option maxHeartbeats 400000 in
set_option maxRecDepth 100000 in
/-- Row.removeAt, nothing there -/
theorem c_removeAtN {l : Launch} {D : Dx} {b0 : Nat} {ad : Nat → Nat} {F : Fn} (o a j : Nat) (L : List Nat) (hR : RowAt D ad F o a L) (hj : L.length ≤ j) (hj2 : j < 2 ^ 31) : Ct l D b0 yX4_removeAt (wsA yX4_removeAt cX4_removeAt 4 (some (.object "Shortmessage$Part"))) (rK 1) [.ref (ad o), .int (nI j)] ad F (pRd (some .null) ad F) noX := by
  refine Ct.of (by decide +kernel) (by simp [Value.category]) (Nat.le_of_ble_eq_true rfl) (fun X eD eb el C Q => ?_)
  subst eD; subst eb; subst el
  have hr := hR.1
  refine V_aload_n C dX4_removeAt_0 rfl ?_
  refine V_iload_n C dX4_removeAt_1 rfl ?_
  refine V_invV C dX4_removeAt_2 hr rfl (c_atN o a j L hR hj hj2) mv_4_25 rfl (Nat.le_of_ble_eq_true rfl) ⟨Nat.le_of_ble_eq_true rfl, Nat.le_of_ble_eq_true rfl⟩ ⟨Nat.le_of_ble_eq_true rfl, Nat.le_of_ble_eq_true rfl⟩ (fun _ _ _ h => VT_no h) (fun v ad1 F1 hp => ?_)
  obtain ⟨rfl, rfl, rfl⟩ := hp
  refine V_astore_nN C dX4_removeAt_5 (by decide) ?_
  refine V_aload_nN C dX4_removeAt_6 rfl ?_
  refine V_ifnonnullN C dX4_removeAt_7 ?_
  refine V_null C dX4_removeAt_10 ?_
  exact V_areturn C Q dX4_removeAt_11 (Or.inl ⟨_, rfl⟩) (Or.inl rfl) (Nat.le_of_ble_eq_true rfl) (Nat.le_of_ble_eq_true rfl) ⟨rfl, rfl, rfl⟩
set_option maxHeartbeats 400000 in
set_option maxRecDepth 100000 in
/-- Row.removeAt -/
theorem c_removeAt {l : Launch} {D : Dx} {b0 : Nat} {ad : Nat → Nat} {F : Fn} (o a i c : Nat) (L : List Nat) (hR : RowAt D ad F o a L) (hP : Prts F L) (hc : L[i]? = some c) : Ct l D b0 yX4_removeAt (wsA yX4_removeAt cX4_removeAt 4 (some (.object "Shortmessage$Part"))) (rK 1) [.ref (ad o), .int (nI i)] ad F (fun v ad1 F1 => v = some (.ref (ad c)) ∧ ad = ad1 ∧ RowAt D ad F1 o a (L.eraseIdx i) ∧ ∀ x, x ∉ [o, a] → F1 x = F x) noX := by
  refine Ct.of (by decide +kernel) (by simp [Value.category]) (Nat.le_of_ble_eq_true rfl) (fun X eD eb el C Q => ?_)
  subst eD; subst eb; subst el
  have hr := hR.1
  refine V_aload_n C dX4_removeAt_0 rfl ?_
  refine V_iload_n C dX4_removeAt_1 rfl ?_
  refine V_invV C dX4_removeAt_2 hr rfl (c_atR o a i c L hR hc) mv_4_25 rfl (Nat.le_of_ble_eq_true rfl) ⟨Nat.le_of_ble_eq_true rfl, Nat.le_of_ble_eq_true rfl⟩ ⟨Nat.le_of_ble_eq_true rfl, Nat.le_of_ble_eq_true rfl⟩ (fun _ _ _ h => VT_no h) (fun v ad1 F1 hp => ?_)
  obtain ⟨rfl, rfl, rfl⟩ := hp
  refine V_astore_n C dX4_removeAt_5 (by decide) ?_
  refine V_aload_n C dX4_removeAt_6 rfl ?_
  refine V_ifnonnull (tgt := 12) C dX4_removeAt_7 (by decide) ?_
  refine V_iload_n C dX4_removeAt_12 rfl ?_
  refine V_iconst (v := 1) C dX4_removeAt_13 rfl ?_
  refine V_iadd C dX4_removeAt_14 ?_
  refine V_nm (nI_1 i) ?_
  refine V_istore_n C dX4_removeAt_15 (by decide) ?_
  have hi : i < L.length := (List.getElem?_eq_some_iff.mp hc).1
  have hlen : (L.eraseIdx i).length = L.length - 1 := List.length_eraseIdx_of_lt hi
  obtain ⟨-, hl2, f, ha, hf⟩ := hR
  have hoa : o ≠ a := obj_ne ha hr
  obtain ⟨n, hn⟩ : ∃ n, n = L.length := ⟨_, rfl⟩
  rw [← hn] at hr hl2 hf hi hlen
  have hr0 := hr
  have ha0 := ha
  have loop : ∀ (d t : Nat) (G : Fn) (g : Nat → Option Nat), t + d = n → i < t → G o = some (oB 4 [.ref (ad a), .int (nI n)]) → G a = some (aQ (xD X) 3 120 g) → (∀ s, s < i → g s = f s) → (∀ s, i ≤ s → s + 1 < t → g s = f (s + 1)) → (∀ s, t ≤ s + 1 → s < n → g s = f s) → (∀ x, x ∉ [o, a] → G x = F x) →
      V X 0 0 16 [(0, .ref (ad o)), (1, .int (nI i)), (2, .ref (ad c)), (3, .int (nI t))] [] ad G := by
    intro d
    induction d with
    | zero =>
      intro t G g hd hit hr ha h1 h2 h3 hK
      have ht : t = n := by omega
      subst ht
      refine V_iload_n C dX4_removeAt_16 rfl ?_
      refine V_aload_n C dX4_removeAt_17 rfl ?_
      refine V_get C dX4_removeAt_18 fr_4_17 hr rfl ?_
      refine V_icmpge_t (tgt := 44) C dX4_removeAt_21 (by decide) (Int32.le_refl _) ?_
      refine V_aload_n C dX4_removeAt_44 rfl ?_
      refine V_dup C dX4_removeAt_45 rfl ?_
      refine V_get C dX4_removeAt_46 fr_4_17 hr rfl ?_
      refine V_iconst (v := 1) C dX4_removeAt_49 rfl ?_
      refine V_isub C dX4_removeAt_50 ?_
      refine V_nm (nI_m1 (by omega)) ?_
      refine G_put C dX4_removeAt_51 fp_4_17 hr rfl rfl (Nat.le_of_ble_eq_true rfl) (fun G1 hr hfr => ?_)
      dsimp only [List.set] at hr
      have ha := (hfr _ hoa.symm).trans ha
      have hK := fr_step hK hfr (by simp)
      refine V_aload_n C dX4_removeAt_54 rfl ?_
      refine V_get C dX4_removeAt_55 fr_4_11 hr rfl ?_
      refine V_aload_n C dX4_removeAt_58 rfl ?_
      refine V_get C dX4_removeAt_59 fr_4_17 hr rfl ?_
      refine V_null C dX4_removeAt_62 ?_
      refine G_aastN C dX4_removeAt_63 ha rfl rfl (by omega) (by omega) (fun G2 ha hfr => ?_)
      have hr := (hfr _ hoa).trans hr
      have hK := fr_step hK hfr (by simp)
      refine V_aload_n C dX4_removeAt_64 rfl ?_
      refine V_areturn C Q dX4_removeAt_65 (Or.inl ⟨_, rfl⟩) (Or.inr ⟨_, rfl⟩) (Nat.le_of_ble_eq_true rfl) (Nat.le_of_ble_eq_true rfl) ⟨rfl, rfl, ⟨by rw [hlen]; exact hr, by omega, _, ha, fun s hs => ?_⟩, hK⟩
      rw [hlen] at hs
      rw [List.getElem?_eraseIdx, va_up, if_neg (by omega)]
      by_cases h : s < i
      · rw [if_pos h, h1 s h, hf s (by omega)]
      · rw [if_neg h, h2 s (by omega) (by omega), hf (s + 1) (by omega)]
    | succ d ih =>
      intro t G g hd hit hr ha h1 h2 h3 hK
      refine V_iload_n C dX4_removeAt_16 rfl ?_
      refine V_aload_n C dX4_removeAt_17 rfl ?_
      refine V_get C dX4_removeAt_18 fr_4_17 hr rfl ?_
      refine V_icmpge_f (tgt := 44) C dX4_removeAt_21 (by decide) (nI_ge (by omega) (by omega)) ?_
      refine V_aload_n C dX4_removeAt_24 rfl ?_
      refine V_get C dX4_removeAt_25 fr_4_11 hr rfl ?_
      refine V_iload_n C dX4_removeAt_28 rfl ?_
      refine V_iconst (v := 1) C dX4_removeAt_29 rfl ?_
      refine V_isub C dX4_removeAt_30 ?_
      refine V_nm (nI_m1 (by omega)) ?_
      refine V_aload_n C dX4_removeAt_31 rfl ?_
      refine V_get C dX4_removeAt_32 fr_4_11 hr rfl ?_
      refine V_iload_n C dX4_removeAt_35 rfl ?_
      refine V_aald C dX4_removeAt_36 ha rfl rfl (by omega) (by omega) ?_
      obtain ⟨q, hq⟩ : ∃ q, L[t]? = some q := ⟨L[t]'(by omega), List.getElem?_eq_getElem (by omega)⟩
      obtain ⟨fq, hqF⟩ := hP q (List.mem_of_getElem? hq)
      refine V_rf (r' := some (ad q)) (by rw [h3 t (by omega) (by omega), hf t (by omega), hq]; rfl) ?_
      have hqG : G q = some (oB 2 fq) := (hK q (by simp [cls_ne hqF hr0 (by decide), obj_ne ha0 hqF])).trans hqF
      refine G_aast C dX4_removeAt_37 ha rfl hqG rfl rfl (by omega) (by omega) (fun G1 ha hfr => ?_)
      have hr := (hfr _ hoa).trans hr
      have hK := fr_step hK hfr (by simp)
      refine V_iinc C dX4_removeAt_38 rfl (nI_inc _) (by decide) ?_
      refine V_goto (tgt := 16) C dX4_removeAt_41 (by decide) ?_
      refine V_sb (ih (t + 1) G1 _ (by omega) (by omega) hr ha (fun s hs => ?_) (fun s hs1 hs2 => ?_) (fun s hs1 hs2 => ?_) hK) ⟨rfl, rfl, rfl, rfl, trivial⟩
      · rw [va_up, if_neg (by omega)]; exact h1 s hs
      · by_cases h : s = t - 1
        · subst h; rw [va_up, if_pos rfl, show t - 1 + 1 = t by omega, hf t (by omega), hq]; rfl
        · rw [va_up, if_neg h]; exact h2 s hs1 (by omega)
      · rw [va_up, if_neg (by omega)]; exact h3 s (by omega) hs2
  refine V_sb (loop (n - (i + 1)) (i + 1) F f (by omega) (by omega) hr ha (fun _ _ => rfl) (fun s h1 h2 => absurd h2 (by omega)) (fun _ _ _ => rfl) (fun _ _ => rfl)) ⟨rfl, rfl, rfl, rfl, trivial⟩
/-- is a part ready: it waits for no alert, and may be tried now -/
def rdyI (now ta wf : Int32) : Prop := wf = 0 ∧ ta ≤ now
set_option maxHeartbeats 400000 in
set_option maxRecDepth 100000 in
/-- Part.isReady -/
theorem c_isReadyT {l : Launch} {D : Dx} {b0 : Nat} {ad : Nat → Nat} {F : Fn} (c : Nat) (m : Nat) (p fl ta wf now : Int32) (hc : F c = some (oB 2 [.ref m, .int p, .int fl, .int ta, .int wf])) (h : rdyI now ta wf) : Ct l D b0 yX2_isReady (wsA yX2_isReady cX2_isReady 2 (some .boolean)) r0 [.ref (ad c), .int now] ad F (pRd (some (.int 1)) ad F) noX := by
  refine Ct.of (by decide +kernel) (by simp [Value.category]) (Nat.le_of_ble_eq_true rfl) (fun X eD eb el C Q => ?_)
  subst eD; subst eb; subst el
  refine V_aload_n C dX2_isReady_0 rfl ?_
  refine V_get C dX2_isReady_1 fr_2_13 hc rfl ?_
  refine V_ifne_f (tgt := 19) C dX2_isReady_4 (by decide) h.1 ?_
  refine V_aload_n C dX2_isReady_7 rfl ?_
  refine V_get C dX2_isReady_8 fr_2_24 hc rfl ?_
  refine V_iload_n C dX2_isReady_11 rfl ?_
  refine V_icmpgt_f (tgt := 19) C dX2_isReady_12 (by decide) (fun h2 => absurd h.2 (Int32.not_le.mpr h2)) ?_
  refine V_iconst (v := 1) C dX2_isReady_15 rfl ?_
  refine V_goto (tgt := 20) C dX2_isReady_16 (by decide) ?_
  exact V_ireturn C Q dX2_isReady_20 rfl (Nat.le_of_ble_eq_true rfl) (Nat.le_of_ble_eq_true rfl) ⟨rfl, rfl, rfl⟩
set_option maxHeartbeats 400000 in
set_option maxRecDepth 100000 in
/-- Part.isReady -/
theorem c_isReadyF {l : Launch} {D : Dx} {b0 : Nat} {ad : Nat → Nat} {F : Fn} (c : Nat) (m : Nat) (p fl ta wf now : Int32) (hc : F c = some (oB 2 [.ref m, .int p, .int fl, .int ta, .int wf])) (h : ¬ rdyI now ta wf) : Ct l D b0 yX2_isReady (wsA yX2_isReady cX2_isReady 2 (some .boolean)) r0 [.ref (ad c), .int now] ad F (pRd (some (.int 0)) ad F) noX := by
  refine Ct.of (by decide +kernel) (by simp [Value.category]) (Nat.le_of_ble_eq_true rfl) (fun X eD eb el C Q => ?_)
  subst eD; subst eb; subst el
  refine V_aload_n C dX2_isReady_0 rfl ?_
  refine V_get C dX2_isReady_1 fr_2_13 hc rfl ?_
  refine V_ifne (tgt := 19) C dX2_isReady_4 (by decide) (fun h2 => ?_) (fun h2 => ?_)
  · refine V_iconst (v := 0) C dX2_isReady_19 rfl ?_
    exact V_ireturn C Q dX2_isReady_20 rfl (Nat.le_of_ble_eq_true rfl) (Nat.le_of_ble_eq_true rfl) ⟨rfl, rfl, rfl⟩
  · refine V_aload_n C dX2_isReady_7 rfl ?_
    refine V_get C dX2_isReady_8 fr_2_24 hc rfl ?_
    refine V_iload_n C dX2_isReady_11 rfl ?_
    refine V_icmpgt_t (tgt := 19) C dX2_isReady_12 (by decide) (Int32.not_le.mp fun h3 => h ⟨h2, h3⟩) ?_
    refine V_iconst (v := 0) C dX2_isReady_19 rfl ?_
    exact V_ireturn C Q dX2_isReady_20 rfl (Nat.le_of_ble_eq_true rfl) (Nat.le_of_ble_eq_true rfl) ⟨rfl, rfl, rfl⟩
theorem prts_of {F : Fn} {L : List Nat} {g : Nat → List Value} (h : ∀ c ∈ L, F c = some (oB 2 (g c))) : Prts F L := fun c hc => ⟨_, h c hc⟩
set_option maxHeartbeats 400000 in
set_option maxRecDepth 100000 in
/-- Row.removeFirstReady: none -/
theorem c_rfrN {l : Launch} {D : Dx} {b0 : Nat} {ad : Nat → Nat} {F : Fn} (o a : Nat) (now : Int32) (L : List Nat) (pm : Nat → Nat) (pn pf pt pw : Nat → Int32) (hR : RowAt D ad F o a L) (hP : ∀ c ∈ L, F c = some (oB 2 [.ref (pm c), .int (pn c), .int (pf c), .int (pt c), .int (pw c)])) (hno : ∀ c ∈ L, ¬ rdyI now (pt c) (pw c)) : Ct l D b0 yX4_removeFirstReady (wsA yX4_removeFirstReady cX4_removeFirstReady 4 (some (.object "Shortmessage$Part"))) (rK 2) [.ref (ad o), .int now] ad F (pRd (some .null) ad F) noX := by
  refine Ct.of (by decide +kernel) (by simp [Value.category]) (Nat.le_of_ble_eq_true rfl) (fun X eD eb el C Q => ?_)
  subst eD; subst eb; subst el
  have hr := hR.1
  have hl2 := hR.2.1
  refine V_iconst (v := 0) C dX4_removeFirstReady_0 rfl ?_
  refine V_istore_n C dX4_removeFirstReady_1 (by decide) ?_
  have loop : ∀ (d t : Nat), t + d = L.length → V X 0 0 2 [(0, .ref (ad o)), (1, .int now), (2, .int (nI t))] [] ad F := by
    intro d
    induction d with
    | zero =>
      intro t hd
      have ht : t = L.length := by omega
      subst ht
      refine V_iload_n C dX4_removeFirstReady_2 rfl ?_
      refine V_aload_n C dX4_removeFirstReady_3 rfl ?_
      refine V_get C dX4_removeFirstReady_4 fr_4_17 hr rfl ?_
      refine V_icmpge_t (tgt := 40) C dX4_removeFirstReady_7 (by decide) (Int32.le_refl _) ?_
      refine V_null C dX4_removeFirstReady_40 ?_
      exact V_areturn C Q dX4_removeFirstReady_41 (Or.inl ⟨_, rfl⟩) (Or.inl rfl) (Nat.le_of_ble_eq_true rfl) (Nat.le_of_ble_eq_true rfl) ⟨rfl, rfl, rfl⟩
    | succ d ih =>
      intro t hd
      refine V_iload_n C dX4_removeFirstReady_2 rfl ?_
      refine V_aload_n C dX4_removeFirstReady_3 rfl ?_
      refine V_get C dX4_removeFirstReady_4 fr_4_17 hr rfl ?_
      refine V_icmpge_f (tgt := 40) C dX4_removeFirstReady_7 (by decide) (nI_ge (by omega) (by omega)) ?_
      refine V_aload_n C dX4_removeFirstReady_10 rfl ?_
      refine V_iload_n C dX4_removeFirstReady_11 rfl ?_
      obtain ⟨q, hq⟩ : ∃ q, L[t]? = some q := ⟨L[t]'(by omega), List.getElem?_eq_getElem (by omega)⟩
      have hqm := List.mem_of_getElem? hq
      have hqF := hP q hqm
      refine V_invV C dX4_removeFirstReady_12 hr rfl (c_atR o a t q L hR hq) mv_4_25 rfl (Nat.le_of_ble_eq_true rfl) ⟨Nat.le_of_ble_eq_true rfl, Nat.le_of_ble_eq_true rfl⟩ ⟨Nat.le_of_ble_eq_true rfl, Nat.le_of_ble_eq_true rfl⟩ (fun _ _ _ h => VT_no h) (fun v ad1 F1 hp => ?_)
      obtain ⟨rfl, rfl, rfl⟩ := hp
      refine V_astore_n C dX4_removeFirstReady_15 (by decide) ?_
      refine V_aload_n C dX4_removeFirstReady_16 rfl ?_
      refine V_ifnull C dX4_removeFirstReady_17 ?_
      refine V_aload_n C dX4_removeFirstReady_20 rfl ?_
      refine V_iload_n C dX4_removeFirstReady_21 rfl ?_
      refine V_invV C dX4_removeFirstReady_22 hqF rfl (c_isReadyF q (pm q) (pn q) (pf q) (pt q) (pw q) now hqF (hno q hqm)) mv_4_29 rfl (Nat.le_of_ble_eq_true rfl) ⟨Nat.le_of_ble_eq_true rfl, Nat.le_of_ble_eq_true rfl⟩ ⟨Nat.le_of_ble_eq_true rfl, Nat.le_of_ble_eq_true rfl⟩ (fun _ _ _ h => VT_no h) (fun v ad1 F1 hp => ?_)
      obtain ⟨rfl, rfl, rfl⟩ := hp
      refine V_ifeq_t (tgt := 34) C dX4_removeFirstReady_25 (by decide) rfl ?_
      refine V_iinc C dX4_removeFirstReady_34 rfl (nI_inc _) (by decide) ?_
      refine V_goto (tgt := 2) C dX4_removeFirstReady_37 (by decide) ?_
      refine V_sb (ih (t + 1) (by omega)) ⟨rfl, rfl, rfl, trivial⟩
  refine V_sb (loop L.length 0 (by omega)) ⟨rfl, rfl, rfl, trivial⟩
set_option maxHeartbeats 400000 in
set_option maxRecDepth 100000 in
/-- Row.removeFirstReady -/
theorem c_rfr {l : Launch} {D : Dx} {b0 : Nat} {ad : Nat → Nat} {F : Fn} (o a i c : Nat) (now : Int32) (L : List Nat) (pm : Nat → Nat) (pn pf pt pw : Nat → Int32) (hR : RowAt D ad F o a L) (hP : ∀ c ∈ L, F c = some (oB 2 [.ref (pm c), .int (pn c), .int (pf c), .int (pt c), .int (pw c)])) (hc : L[i]? = some c) (hy : rdyI now (pt c) (pw c)) (hno : ∀ j q, j < i → L[j]? = some q → ¬ rdyI now (pt q) (pw q)) : Ct l D b0 yX4_removeFirstReady (wsA yX4_removeFirstReady cX4_removeFirstReady 4 (some (.object "Shortmessage$Part"))) (rK 2) [.ref (ad o), .int now] ad F (fun v ad1 F1 => v = some (.ref (ad c)) ∧ ad = ad1 ∧ RowAt D ad F1 o a (L.eraseIdx i) ∧ ∀ x, x ∉ [o, a] → F1 x = F x) noX := by
  refine Ct.of (by decide +kernel) (by simp [Value.category]) (Nat.le_of_ble_eq_true rfl) (fun X eD eb el C Q => ?_)
  subst eD; subst eb; subst el
  have hr := hR.1
  have hl2 := hR.2.1
  have hi : i < L.length := (List.getElem?_eq_some_iff.mp hc).1
  refine V_iconst (v := 0) C dX4_removeFirstReady_0 rfl ?_
  refine V_istore_n C dX4_removeFirstReady_1 (by decide) ?_
  have loop : ∀ (d t : Nat), t + d = i → V X 0 0 2 [(0, .ref (ad o)), (1, .int now), (2, .int (nI t))] [] ad F := by
    intro d
    induction d with
    | zero =>
      intro t hd
      have ht : t = i := by omega
      subst ht
      refine V_iload_n C dX4_removeFirstReady_2 rfl ?_
      refine V_aload_n C dX4_removeFirstReady_3 rfl ?_
      refine V_get C dX4_removeFirstReady_4 fr_4_17 hr rfl ?_
      refine V_icmpge_f (tgt := 40) C dX4_removeFirstReady_7 (by decide) (nI_ge (by omega) (by omega)) ?_
      refine V_aload_n C dX4_removeFirstReady_10 rfl ?_
      refine V_iload_n C dX4_removeFirstReady_11 rfl ?_
      have hqF := hP c (List.mem_of_getElem? hc)
      refine V_invV C dX4_removeFirstReady_12 hr rfl (c_atR o a t c L hR hc) mv_4_25 rfl (Nat.le_of_ble_eq_true rfl) ⟨Nat.le_of_ble_eq_true rfl, Nat.le_of_ble_eq_true rfl⟩ ⟨Nat.le_of_ble_eq_true rfl, Nat.le_of_ble_eq_true rfl⟩ (fun _ _ _ h => VT_no h) (fun v ad1 F1 hp => ?_)
      obtain ⟨rfl, rfl, rfl⟩ := hp
      refine V_astore_n C dX4_removeFirstReady_15 (by decide) ?_
      refine V_aload_n C dX4_removeFirstReady_16 rfl ?_
      refine V_ifnull C dX4_removeFirstReady_17 ?_
      refine V_aload_n C dX4_removeFirstReady_20 rfl ?_
      refine V_iload_n C dX4_removeFirstReady_21 rfl ?_
      refine V_invV C dX4_removeFirstReady_22 hqF rfl (c_isReadyT c (pm c) (pn c) (pf c) (pt c) (pw c) now hqF hy) mv_4_29 rfl (Nat.le_of_ble_eq_true rfl) ⟨Nat.le_of_ble_eq_true rfl, Nat.le_of_ble_eq_true rfl⟩ ⟨Nat.le_of_ble_eq_true rfl, Nat.le_of_ble_eq_true rfl⟩ (fun _ _ _ h => VT_no h) (fun v ad1 F1 hp => ?_)
      obtain ⟨rfl, rfl, rfl⟩ := hp
      refine V_ifeq_f (tgt := 34) C dX4_removeFirstReady_25 (by decide) (by decide) ?_
      refine V_aload_n C dX4_removeFirstReady_28 rfl ?_
      refine V_iload_n C dX4_removeFirstReady_29 rfl ?_
      refine V_invV C dX4_removeFirstReady_30 hr rfl (c_removeAt o a t c L hR (prts_of hP) hc) mv_4_33 rfl (Nat.le_of_ble_eq_true rfl) ⟨Nat.le_of_ble_eq_true rfl, Nat.le_of_ble_eq_true rfl⟩ ⟨Nat.le_of_ble_eq_true rfl, Nat.le_of_ble_eq_true rfl⟩ (fun _ _ _ h => VT_no h) (fun v ad1 F1 hp => ?_)
      obtain ⟨rfl, rfl, h1, h2⟩ := hp
      exact V_areturn C Q dX4_removeFirstReady_33 (Or.inl ⟨_, rfl⟩) (Or.inr ⟨_, rfl⟩) (Nat.le_of_ble_eq_true rfl) (Nat.le_of_ble_eq_true rfl) ⟨rfl, rfl, h1, h2⟩
    | succ d ih =>
      intro t hd
      refine V_iload_n C dX4_removeFirstReady_2 rfl ?_
      refine V_aload_n C dX4_removeFirstReady_3 rfl ?_
      refine V_get C dX4_removeFirstReady_4 fr_4_17 hr rfl ?_
      refine V_icmpge_f (tgt := 40) C dX4_removeFirstReady_7 (by decide) (nI_ge (by omega) (by omega)) ?_
      refine V_aload_n C dX4_removeFirstReady_10 rfl ?_
      refine V_iload_n C dX4_removeFirstReady_11 rfl ?_
      obtain ⟨q, hq⟩ : ∃ q, L[t]? = some q := ⟨L[t]'(by omega), List.getElem?_eq_getElem (by omega)⟩
      have hqF := hP q (List.mem_of_getElem? hq)
      refine V_invV C dX4_removeFirstReady_12 hr rfl (c_atR o a t q L hR hq) mv_4_25 rfl (Nat.le_of_ble_eq_true rfl) ⟨Nat.le_of_ble_eq_true rfl, Nat.le_of_ble_eq_true rfl⟩ ⟨Nat.le_of_ble_eq_true rfl, Nat.le_of_ble_eq_true rfl⟩ (fun _ _ _ h => VT_no h) (fun v ad1 F1 hp => ?_)
      obtain ⟨rfl, rfl, rfl⟩ := hp
      refine V_astore_n C dX4_removeFirstReady_15 (by decide) ?_
      refine V_aload_n C dX4_removeFirstReady_16 rfl ?_
      refine V_ifnull C dX4_removeFirstReady_17 ?_
      refine V_aload_n C dX4_removeFirstReady_20 rfl ?_
      refine V_iload_n C dX4_removeFirstReady_21 rfl ?_
      refine V_invV C dX4_removeFirstReady_22 hqF rfl (c_isReadyF q (pm q) (pn q) (pf q) (pt q) (pw q) now hqF (hno t q (by omega) hq)) mv_4_29 rfl (Nat.le_of_ble_eq_true rfl) ⟨Nat.le_of_ble_eq_true rfl, Nat.le_of_ble_eq_true rfl⟩ ⟨Nat.le_of_ble_eq_true rfl, Nat.le_of_ble_eq_true rfl⟩ (fun _ _ _ h => VT_no h) (fun v ad1 F1 hp => ?_)
      obtain ⟨rfl, rfl, rfl⟩ := hp
      refine V_ifeq_t (tgt := 34) C dX4_removeFirstReady_25 (by decide) rfl ?_
      refine V_iinc C dX4_removeFirstReady_34 rfl (nI_inc _) (by decide) ?_
      refine V_goto (tgt := 2) C dX4_removeFirstReady_37 (by decide) ?_
      refine V_sb (ih (t + 1) (by omega)) ⟨rfl, rfl, rfl, trivial⟩
  refine V_sb (loop i 0 (by omega)) ⟨rfl, rfl, rfl, trivial⟩
set_option maxHeartbeats 400000 in
set_option maxRecDepth 100000 in
/-- Row.removeAllOf -/
theorem c_removeAllOf {l : Launch} {D : Dx} {b0 : Nat} {ad : Nat → Nat} {F : Fn} (o a m : Nat) (L : List Nat) (pm : Nat → Nat) (pn pf pt pw : Nat → Int32) (hR : RowAt D ad F o a L) (hP : ∀ c ∈ L, F c = some (oB 2 [.ref (pm c), .int (pn c), .int (pf c), .int (pt c), .int (pw c)])) : Ct l D b0 yX4_removeAllOf (wsA yX4_removeAllOf cX4_removeAllOf 4 none) (rK 2) [.ref (ad o), .ref m] ad F (fun v ad1 F1 => v = none ∧ ad = ad1 ∧ RowAt D ad F1 o a (L.filter (fun c => decide (pm c ≠ m))) ∧ ∀ x, x ∉ [o, a] → F1 x = F x) noX := by
  refine Ct.of (by decide +kernel) (by simp [Value.category]) (Nat.le_of_ble_eq_true rfl) (fun X eD eb el C Q => ?_)
  subst eD; subst eb; subst el
  have hr := hR.1
  have hl2 := hR.2.1
  obtain ⟨f0, ha0, -⟩ := hR.2.2
  have hno : ∀ c ∈ L, c ∉ [o, a] := fun c hc => by simp [cls_ne (hP c hc) hr (by decide), obj_ne ha0 (hP c hc)]
  refine V_aload_n C dX4_removeAllOf_0 rfl ?_
  refine V_get C dX4_removeAllOf_1 fr_4_17 hr rfl ?_
  refine V_iconst (v := 1) C dX4_removeAllOf_4 rfl ?_
  refine V_isub C dX4_removeAllOf_5 ?_
  have loop : ∀ (d : Nat) (x : Int32) (G : Fn), d ≤ L.length → x = nI d - 1 → RowAt (xD X) ad G o a (L.take d ++ (L.drop d).filter (fun c => decide (pm c ≠ m))) → (∀ x, x ∉ [o, a] → G x = F x) →
      V X 0 0 7 [(0, .ref (ad o)), (1, .ref m), (2, .int x)] [] ad G := by
    intro d
    induction d with
    | zero =>
      intro x G hd hx hG hK
      subst hx
      refine V_iload_n C dX4_removeAllOf_7 rfl ?_
      refine V_iflt_t (tgt := 41) C dX4_removeAllOf_8 (by decide) (by decide) ?_
      exact V_return C Q dX4_removeAllOf_41 (Nat.le_of_ble_eq_true rfl) (Nat.le_of_ble_eq_true rfl) ⟨rfl, rfl, by simpa using hG, hK⟩
    | succ d ih =>
      intro x G hd hx hG hK
      rw [nI_pred] at hx
      subst hx
      have hr := hG.1
      obtain ⟨q, hq⟩ : ∃ q, L[d]? = some q := ⟨L[d]'(by omega), List.getElem?_eq_getElem (by omega)⟩
      have hqm := List.mem_of_getElem? hq
      have hqF := (hK q (hno q hqm)).trans (hP q hqm)
      have hqd : L.drop d = q :: L.drop (d + 1) := by rw [List.drop_eq_getElem_cons (by omega)]; congr 1; exact Option.some.inj ((List.getElem?_eq_getElem (by omega)).symm.trans hq)
      have hqt : L.take (d + 1) = L.take d ++ [q] := by rw [List.take_add_one, hq]; rfl
      have hlt : (L.take d).length = d := by rw [List.length_take]; omega
      obtain ⟨Rr, hRr⟩ : ∃ z, z = (L.drop (d + 1)).filter (fun c => decide (pm c ≠ m)) := ⟨_, rfl⟩
      rw [← hRr, hqt, List.append_assoc] at hG
      have hq2 : (L.take d ++ ([q] ++ Rr))[d]? = some q := by rw [List.getElem?_append_right (by omega), hlt, Nat.sub_self]; rfl
      refine V_iload_n C dX4_removeAllOf_7 rfl ?_
      refine V_iflt_f (tgt := 41) C dX4_removeAllOf_8 (by decide) (nI_pos (by omega)) ?_
      refine V_aload_n C dX4_removeAllOf_11 rfl ?_
      refine V_iload_n C dX4_removeAllOf_12 rfl ?_
      refine V_invV C dX4_removeAllOf_13 hr rfl (c_atR o a d q _ hG hq2) mv_4_25 rfl (Nat.le_of_ble_eq_true rfl) ⟨Nat.le_of_ble_eq_true rfl, Nat.le_of_ble_eq_true rfl⟩ ⟨Nat.le_of_ble_eq_true rfl, Nat.le_of_ble_eq_true rfl⟩ (fun _ _ _ h => VT_no h) (fun v ad1 F1 hp => ?_)
      obtain ⟨rfl, rfl, rfl⟩ := hp
      refine V_astore_n C dX4_removeAllOf_16 (by decide) ?_
      refine V_aload_n C dX4_removeAllOf_17 rfl ?_
      refine V_ifnull C dX4_removeAllOf_18 ?_
      refine V_aload_n C dX4_removeAllOf_21 rfl ?_
      refine V_get C dX4_removeAllOf_22 fr_4_36 hqF rfl ?_
      refine V_aload_n C dX4_removeAllOf_25 rfl ?_
      refine V_acmpneR (tgt := 35) C dX4_removeAllOf_26 (by decide) (fun hc => ?_) (fun hc => ?_)
      · refine V_iinc C dX4_removeAllOf_35 rfl (nI_decS _) (by decide) ?_
        refine V_goto (tgt := 7) C dX4_removeAllOf_38 (by decide) ?_
        refine V_sb (ih _ G (by omega) rfl ?_ hK) ⟨rfl, rfl, rfl, trivial⟩
        rw [hqd, List.filter_cons_of_pos (by simpa using hc), ← hRr]
        exact hG
      · refine V_aload_n C dX4_removeAllOf_29 rfl ?_
        refine V_iload_n C dX4_removeAllOf_30 rfl ?_
        have hPG : Prts G (L.take d ++ ([q] ++ Rr)) := fun c hc => by
          have hcL : c ∈ L := by
            rcases List.mem_append.mp hc with h | h
            · exact List.mem_of_mem_take h
            · rcases List.mem_append.mp h with h | h
              · rw [List.mem_singleton.mp h]; exact hqm
              · rw [hRr] at h; exact List.mem_of_mem_drop (List.mem_filter.mp h).1
          exact ⟨_, (hK c (hno c hcL)).trans (hP c hcL)⟩
        refine V_invV C dX4_removeAllOf_31 hr rfl (c_removeAt o a d q _ hG hPG hq2) mv_4_33 rfl (Nat.le_of_ble_eq_true rfl) ⟨Nat.le_of_ble_eq_true rfl, Nat.le_of_ble_eq_true rfl⟩ ⟨Nat.le_of_ble_eq_true rfl, Nat.le_of_ble_eq_true rfl⟩ (fun _ _ _ h => VT_no h) (fun v ad1 F1 hp => ?_)
        obtain ⟨rfl, rfl, h1, h2⟩ := hp
        refine V_pop C dX4_removeAllOf_34 rfl ?_
        refine V_iinc C dX4_removeAllOf_35 rfl (nI_decS _) (by decide) ?_
        refine V_goto (tgt := 7) C dX4_removeAllOf_38 (by decide) ?_
        refine V_sb (ih _ F1 (by omega) rfl ?_ (fr_join hK h2 (fun _ h => h))) ⟨rfl, rfl, rfl, trivial⟩
        rw [hqd, List.filter_cons_of_neg (by simpa using hc), ← hRr]
        rw [List.eraseIdx_append_of_length_le (by omega), hlt, Nat.sub_self] at h1
        exact h1
  refine V_istore_n C dX4_removeAllOf_6 (by decide) ?_
  refine V_sb (loop L.length _ F (Nat.le_refl _) rfl (by simpa using hR) (fun _ _ => rfl)) ⟨rfl, rfl, rfl, trivial⟩
def wkD (rcv : Nat → Int32) (pw : Nat → Int32) (rv : Int32) (c : Nat) : Bool := decide (¬ pw c = 0 ∧ rcv c = rv)
theorem RowAt.kept {D : Dx} {ad : Nat → Nat} {F G : Fn} {o a : Nat} {L : List Nat} (h : RowAt D ad F o a L) (h1 : G o = F o) (h2 : G a = F a) : RowAt D ad G o a L := by
  obtain ⟨x1, x2, f, x3, x4⟩ := h
  exact ⟨h1.trans x1, x2, f, h2.trans x3, x4⟩
set_option maxHeartbeats 400000 in
set_option maxRecDepth 100000 in
/-- Row.wake -/
theorem c_wake {l : Launch} {D : Dx} {b0 : Nat} {ad : Nat → Nat} {F : Fn} (o a : Nat) (rv : Int32) (L : List Nat) (pm : Nat → Nat) (pn pf pt pw : Nat → Int32) (mc : Nat → Nat) (mf : Nat → List Value) (rcv : Nat → Int32) (hR : RowAt D ad F o a L) (hP : ∀ c ∈ L, F c = some (oB 2 [.ref (pm c), .int (pn c), .int (pf c), .int (pt c), .int (pw c)])) (hm : ∀ c ∈ L, pm c = ad (mc c) ∧ F (mc c) = some (oB 1 (mf c)) ∧ (mf c)[1]? = some (.int (rcv c))) (hnd : L.Nodup) : Ct l D b0 yX4_wake (wsA yX4_wake cX4_wake 5 (some .int)) (rK 1) [.ref (ad o), .int rv] ad F (fun v ad1 F1 => v = some (.int (nI (L.filter (wkD rcv pw rv)).length)) ∧ ad = ad1 ∧ (∀ c ∈ L, F1 c = some (oB 2 [.ref (pm c), .int (pn c), .int (pf c), .int (pt c), .int (if wkD rcv pw rv c then 0 else pw c)])) ∧ ∀ x, x ∉ L → F1 x = F x) noX := by
  refine Ct.of (by decide +kernel) (by simp [Value.category]) (Nat.le_of_ble_eq_true rfl) (fun X eD eb el C Q => ?_)
  subst eD; subst eb; subst el
  have hr := hR.1
  have hl2 := hR.2.1
  obtain ⟨f0, ha0, -⟩ := hR.2.2
  have hoL : o ∉ L := fun h => cls_ne (hP o h) hr (by decide) rfl
  have haL : a ∉ L := fun h => obj_ne ha0 (hP a h) rfl
  refine V_iconst (v := 0) C dX4_wake_0 rfl ?_
  refine V_istore_n C dX4_wake_1 (by decide) ?_
  refine V_iconst (v := 0) C dX4_wake_2 rfl ?_
  refine V_istore_n C dX4_wake_3 (by decide) ?_
  have loop : ∀ (d t : Nat) (G : Fn), t + d = L.length → (∀ c ∈ L.take t, G c = some (oB 2 [.ref (pm c), .int (pn c), .int (pf c), .int (pt c), .int (if wkD rcv pw rv c then 0 else pw c)])) → (∀ x, x ∉ L.take t → G x = F x) →
      V X 0 0 4 [(0, .ref (ad o)), (1, .int rv), (2, .int (nI ((L.take t).filter (wkD rcv pw rv)).length)), (3, .int (nI t))] [] ad G := by
    intro d
    induction d with
    | zero =>
      intro t G hd h1 h2
      have ht : t = L.length := by omega
      subst ht
      rw [List.take_length] at h1 h2 ⊢
      have hr := (h2 o hoL).trans hr
      refine V_iload_n C dX4_wake_4 rfl ?_
      refine V_aload_n C dX4_wake_5 rfl ?_
      refine V_get C dX4_wake_6 fr_4_17 hr rfl ?_
      refine V_icmpge_t (tgt := 59) C dX4_wake_9 (by decide) (Int32.le_refl _) ?_
      refine V_iload_n C dX4_wake_59 rfl ?_
      exact V_ireturn C Q dX4_wake_60 rfl (Nat.le_of_ble_eq_true rfl) (Nat.le_of_ble_eq_true rfl) ⟨rfl, rfl, h1, h2⟩
    | succ d ih =>
      intro t G hd h1 h2
      have hsub : ∀ x, x ∈ L.take t → x ∈ L := fun x hx => List.mem_of_mem_take hx
      have hRG := hR.kept (h2 o (fun h => hoL (hsub o h))) (h2 a (fun h => haL (hsub a h)))
      have hr := hRG.1
      obtain ⟨q, hq⟩ : ∃ q, L[t]? = some q := ⟨L[t]'(by omega), List.getElem?_eq_getElem (by omega)⟩
      have hqm := List.mem_of_getElem? hq
      have hqt : q ∉ L.take t := fun h => by
        obtain ⟨j, hj⟩ := List.getElem?_of_mem h
        have hjt : j < t := by have := (List.getElem?_eq_some_iff.mp hj).1; rw [List.length_take] at this; omega
        rw [List.getElem?_take_of_lt hjt] at hj
        exact absurd (nodup_idx hnd hj hq) (by omega)
      have htk : L.take (t + 1) = L.take t ++ [q] := by rw [List.take_add_one, hq]; rfl
      have hqF := (h2 q hqt).trans (hP q hqm)
      obtain ⟨em, hmF, hmr⟩ := hm q hqm
      have hmG : G (mc q) = some (oB 1 (mf q)) := (h2 (mc q) (fun h => cls_ne (hP _ (hsub _ h)) hmF (by decide) rfl)).trans hmF
      rw [em] at hqF
      refine V_iload_n C dX4_wake_4 rfl ?_
      refine V_aload_n C dX4_wake_5 rfl ?_
      refine V_get C dX4_wake_6 fr_4_17 hr rfl ?_
      refine V_icmpge_f (tgt := 59) C dX4_wake_9 (by decide) (nI_ge (by omega) (by omega)) ?_
      refine V_aload_n C dX4_wake_12 rfl ?_
      refine V_iload_n C dX4_wake_13 rfl ?_
      refine V_invV C dX4_wake_14 hr rfl (c_atR o a t q L hRG hq) mv_4_25 rfl (Nat.le_of_ble_eq_true rfl) ⟨Nat.le_of_ble_eq_true rfl, Nat.le_of_ble_eq_true rfl⟩ ⟨Nat.le_of_ble_eq_true rfl, Nat.le_of_ble_eq_true rfl⟩ (fun _ _ _ h => VT_no h) (fun v ad1 F1 hp => ?_)
      obtain ⟨rfl, rfl, rfl⟩ := hp
      refine V_astore C dX4_wake_17 (by decide) ?_
      refine V_aload C dX4_wake_19 rfl ?_
      refine V_ifnull C dX4_wake_21 ?_
      refine V_aload C dX4_wake_24 rfl ?_
      refine V_get C dX4_wake_26 fr_4_40 hqF rfl ?_
      refine V_ifeq (tgt := 53) C dX4_wake_29 (by decide) (fun hc => ?_) (fun hc => ?_)
      · have hw : wkD rcv pw rv q = false := by simp [wkD, hc]
        refine V_iinc C dX4_wake_53 rfl (nI_inc _) (by decide) ?_
        refine V_goto (tgt := 4) C dX4_wake_56 (by decide) ?_
        refine V_sb (ih (t + 1) G (by omega) (fun c hc => ?_) (fun x hx => ?_)) ⟨rfl, rfl, ?_, rfl, trivial⟩
        · rw [htk] at hc
          rcases List.mem_append.mp hc with h | h
          · exact h1 c h
          · rw [List.mem_singleton.mp h, hw, em]; exact hqF
        · rw [htk] at hx
          exact h2 x (fun h => hx (List.mem_append_left _ h))
        · rw [htk, List.filter_append, show [q].filter (wkD rcv pw rv) = [] by simp [hw], List.append_nil]; rfl
      · refine V_aload C dX4_wake_32 rfl ?_
        refine V_get C dX4_wake_34 fr_4_36 hqF rfl ?_
        refine V_get C dX4_wake_37 fr_4_44 hmG hmr ?_
        refine V_iload_n C dX4_wake_40 rfl ?_
        refine V_icmpne (tgt := 53) C dX4_wake_41 (by decide) (fun hc2 => ?_) (fun hc2 => ?_)
        · have hw : wkD rcv pw rv q = false := by simp [wkD, hc2]
          refine V_iinc C dX4_wake_53 rfl (nI_inc _) (by decide) ?_
          refine V_goto (tgt := 4) C dX4_wake_56 (by decide) ?_
          refine V_sb (ih (t + 1) G (by omega) (fun c hc => ?_) (fun x hx => ?_)) ⟨rfl, rfl, ?_, rfl, trivial⟩
          · rw [htk] at hc
            rcases List.mem_append.mp hc with h | h
            · exact h1 c h
            · rw [List.mem_singleton.mp h, hw, em]; exact hqF
          · rw [htk] at hx
            exact h2 x (fun h => hx (List.mem_append_left _ h))
          · rw [htk, List.filter_append, show [q].filter (wkD rcv pw rv) = [] by simp [hw], List.append_nil]; rfl
        · have hw : wkD rcv pw rv q = true := by simp [wkD, hc, hc2]
          refine V_aload C dX4_wake_44 rfl ?_
          refine V_iconst (v := 0) C dX4_wake_46 rfl ?_
          refine G_put C dX4_wake_47 fp_4_40 hqF rfl rfl (Nat.le_of_ble_eq_true rfl) (fun G1 hqF hfr => ?_)
          dsimp only [List.set] at hqF
          refine V_iinc C dX4_wake_50 rfl (nI_inc _) (by decide) ?_
          refine V_iinc C dX4_wake_53 rfl (nI_inc _) (by decide) ?_
          refine V_goto (tgt := 4) C dX4_wake_56 (by decide) ?_
          refine V_sb (ih (t + 1) G1 (by omega) (fun c hc => ?_) (fun x hx => ?_)) ⟨rfl, rfl, ?_, rfl, trivial⟩
          · rw [htk] at hc
            rcases List.mem_append.mp hc with h | h
            · exact (hfr c (fun e => hqt (e ▸ h))).trans (h1 c h)
            · rw [List.mem_singleton.mp h, hw, em]; exact hqF
          · rw [htk] at hx
            exact (hfr x (fun e => hx (List.mem_append_right _ (by rw [e]; simp)))).trans (h2 x (fun h => hx (List.mem_append_left _ h)))
          · rw [htk, List.filter_append, show [q].filter (wkD rcv pw rv) = [q] by simp [hw], List.length_append]; rfl
  refine V_sb (loop L.length 0 F (by omega) (fun c h => by simp at h) (fun _ _ => rfl)) ⟨rfl, rfl, rfl, rfl, trivial⟩
/-- what a constructor's room is: k levels, so many cells and slots -/
abbrev rC (k c n : Nat) : Room := { frames := k, cells := c, slots := n, locals := 40 * k }
set_option maxHeartbeats 400000 in
set_option maxRecDepth 100000 in
/-- Row(): a new array -/
theorem c_Row_init {l : Launch} {D : Dx} {b0 : Nat} {ad : Nat → Nat} {F : Fn} (o a : Nat) (hr : F o = some (oB 4 [.null, .int 0])) (ha : F a = none) : Ct l D b0 yX4_init (wsA yX4_init cX4_init 1 none) (rC 1 1 120) [.ref (ad o)] ad F (fun v ad1 F1 => v = none ∧ (∀ x, x ≠ a → ad1 x = ad x) ∧ RowAt D ad1 F1 o a [] ∧ ∀ x, x ∉ [o, a] → F1 x = F x) noX := by
  refine Ct.of (by decide +kernel) (by simp [Value.category]) (Nat.le_of_ble_eq_true rfl) (fun X eD eb el C Q => ?_)
  subst eD; subst eb; subst el
  have hoa : o ≠ a := fun e => by rw [e, ha] at hr; cases hr
  refine V_aload_n C dX4_init_0 rfl ?_
  refine V_objInit C dX4_init_1 mo_4_3 mo_i mo_c (Nat.le_of_ble_eq_true rfl) (Nat.le_of_ble_eq_true rfl) rfl ?_
  refine V_aload_n C dX4_init_4 rfl ?_
  refine V_bipush (v := 120) C dX4_init_5 (by decide) ?_
  refine G_newq (Cn := RX2) (t := 3) (N := 120) a C dX4_init_7 cl_4_9 C.ev.2.2.2.2.2.2.1.1 rfl ha rfl (by decide) (Nat.le_of_ble_eq_true rfl) (Nat.le_of_ble_eq_true rfl) (fun ad1 F1 had ha hfr => ?_)
  have hr := (hfr o hoa).trans hr
  have eo : ad o = ad1 o := (had o hoa).symm
  rw [eo]
  refine G_putF C rfl dX4_init_10 fp_4_11 hr rfl rfl (Nat.le_of_ble_eq_true rfl) (fun F2 hr hfr2 => ?_)
  dsimp only [List.set] at hr
  have ha := (hfr2 _ hoa.symm).trans ha
  refine V_aload_n C dX4_init_13 rfl ?_
  refine V_iconst (v := 0) C dX4_init_14 rfl ?_
  refine G_put C dX4_init_15 fp_4_17 hr rfl rfl (Nat.le_of_ble_eq_true rfl) (fun F3 hr hfr3 => ?_)
  dsimp only [List.set] at hr
  have ha := (hfr3 _ hoa.symm).trans ha
  refine V_return C Q dX4_init_18 (Nat.le_of_ble_eq_true rfl) (Nat.le_of_ble_eq_true rfl) ⟨rfl, had, ⟨hr, by decide, _, ha, fun j hj => absurd hj (Nat.not_lt_zero j)⟩, fun x hx => ?_⟩
  have h1 : x ≠ o := fun e => hx (by simp [e])
  have h2 : x ≠ a := fun e => hx (by simp [e])
  exact (hfr3 x h1).trans ((hfr2 x h1).trans (hfr x h2))
set_option maxHeartbeats 400000 in
set_option maxRecDepth 100000 in
/-- Part(message, number, tryAt) -/
theorem c_Part_init {l : Launch} {D : Dx} {b0 : Nat} {ad : Nat → Nat} {F : Fn} (c m : Nat) (p ta : Int32) (hc : F c = some (oB 2 [.null, .int 0, .int 0, .int 0, .int 0])) : Ct l D b0 yX2_init (wsA yX2_init cX2_init 4 none) (rK 1) [.ref (ad c), .ref m, .int p, .int ta] ad F (fun v ad1 F1 => v = none ∧ ad = ad1 ∧ F1 c = some (oB 2 [.ref m, .int p, .int 0, .int ta, .int 0]) ∧ ∀ x, x ≠ c → F1 x = F x) noX := by
  refine Ct.of (by decide +kernel) (by simp [Value.category]) (Nat.le_of_ble_eq_true rfl) (fun X eD eb el C Q => ?_)
  subst eD; subst eb; subst el
  refine V_aload_n C dX2_init_0 rfl ?_
  refine V_objInit C dX2_init_1 mo_2_1 mo_i mo_c (Nat.le_of_ble_eq_true rfl) (Nat.le_of_ble_eq_true rfl) rfl ?_
  have hK : ∀ x, x ≠ c → F x = F x := fun _ _ => rfl
  refine V_aload_n C dX2_init_4 rfl ?_
  refine V_iconst (v := 0) C dX2_init_5 rfl ?_
  refine G_put C dX2_init_6 fp_2_7 hc rfl rfl (Nat.le_of_ble_eq_true rfl) (fun F1 hc hfr => ?_)
  dsimp only [List.set] at hc
  have hK := fun x h => (hfr x h).trans (hK x h)
  refine V_aload_n C dX2_init_9 rfl ?_
  refine V_iconst (v := 0) C dX2_init_10 rfl ?_
  refine G_put C dX2_init_11 fp_2_13 hc rfl rfl (Nat.le_of_ble_eq_true rfl) (fun F2 hc hfr => ?_)
  dsimp only [List.set] at hc
  have hK := fun x h => (hfr x h).trans (hK x h)
  refine V_aload_n C dX2_init_14 rfl ?_
  refine V_aload_n C dX2_init_15 rfl ?_
  refine G_putF C rfl dX2_init_16 fp_2_17 hc rfl rfl (Nat.le_of_ble_eq_true rfl) (fun F3 hc hfr => ?_)
  dsimp only [List.set] at hc
  have hK := fun x h => (hfr x h).trans (hK x h)
  refine V_aload_n C dX2_init_19 rfl ?_
  refine V_iload_n C dX2_init_20 rfl ?_
  refine G_putF C rfl dX2_init_21 fp_2_21 hc rfl rfl (Nat.le_of_ble_eq_true rfl) (fun F4 hc hfr => ?_)
  dsimp only [List.set] at hc
  have hK := fun x h => (hfr x h).trans (hK x h)
  refine V_aload_n C dX2_init_24 rfl ?_
  refine V_iload_n C dX2_init_25 rfl ?_
  refine G_put C dX2_init_26 fp_2_24 hc rfl rfl (Nat.le_of_ble_eq_true rfl) (fun F5 hc hfr => ?_)
  dsimp only [List.set] at hc
  have hK := fun x h => (hfr x h).trans (hK x h)
  exact V_return C Q dX2_init_29 (Nat.le_of_ble_eq_true rfl) (Nat.le_of_ble_eq_true rfl) ⟨rfl, rfl, hc, hK⟩
end
section
/-! ===== LINKS ===== -/
/-- a link at the code k: its rows at o1 (queue) and o2 (sent) -/
def LinkAt (ad : Nat → Nat) (F : Fn) (k o1 o2 : Nat) (up wn tk : Int32) : Prop := F k = some (oB 0 [.ref (ad o1), .ref (ad o2), .int up, .int wn, .int tk])
/-- parts, by the values of their fields -/
def PrtV (F : Fn) (L : List Nat) (pm : Nat → Nat) (pn pf pt pw : Nat → Int32) : Prop := ∀ c ∈ L, F c = some (oB 2 [.ref (pm c), .int (pn c), .int (pf c), .int (pt c), .int (pw c)])
set_option maxHeartbeats 400000 in
set_option maxRecDepth 100000 in
/-- Link.gainToken -/
theorem c_gainToken {l : Launch} {D : Dx} {b0 : Nat} {ad : Nat → Nat} {F : Fn} (k o1 o2 : Nat) (up wn : Int32) (tk : Nat) (hk : LinkAt ad F k o1 o2 up wn (nI tk)) (ht : tk ≤ 5) : Ct l D b0 yX0_gainToken (wsA yX0_gainToken cX0_gainToken 1 none) r0 [.ref (ad k)] ad F (fun v ad1 F1 => v = none ∧ ad = ad1 ∧ LinkAt ad F1 k o1 o2 up wn (nI (if tk < 5 then tk + 1 else tk)) ∧ ∀ x, x ≠ k → F1 x = F x) noX := by
  refine Ct.of (by decide +kernel) (by simp [Value.category]) (Nat.le_of_ble_eq_true rfl) (fun X eD eb el C Q => ?_)
  subst eD; subst eb; subst el
  unfold LinkAt at hk
  refine V_aload_n C dX0_gainToken_0 rfl ?_
  refine V_get C dX0_gainToken_1 fr_0_29 hk rfl ?_
  refine V_iconst (v := 5) C dX0_gainToken_4 rfl ?_
  refine V_icmpge (tgt := 18) C dX0_gainToken_5 (by decide) (fun hc => ?_) (fun hc => ?_)
  · have h5 : ¬ tk < 5 := fun q => nI_ge q (by omega) hc
    exact V_return C Q dX0_gainToken_18 (Nat.le_of_ble_eq_true rfl) (Nat.le_of_ble_eq_true rfl) ⟨rfl, rfl, by rw [if_neg h5]; exact hk, fun _ _ => rfl⟩
  · have h5 : tk < 5 := Nat.lt_of_not_le fun q => hc (nI_le q (by omega))
    refine V_aload_n C dX0_gainToken_8 rfl ?_
    refine V_dup C dX0_gainToken_9 rfl ?_
    refine V_get C dX0_gainToken_10 fr_0_29 hk rfl ?_
    refine V_iconst (v := 1) C dX0_gainToken_13 rfl ?_
    refine V_iadd C dX0_gainToken_14 ?_
    refine V_nm (nI_1 tk) ?_
    refine G_put C dX0_gainToken_15 fp_0_29 hk rfl rfl (Nat.le_of_ble_eq_true rfl) (fun F1 hk hfr => ?_)
    dsimp only [List.set] at hk
    exact V_return C Q dX0_gainToken_18 (Nat.le_of_ble_eq_true rfl) (Nat.le_of_ble_eq_true rfl) ⟨rfl, rfl, by rw [if_pos h5]; exact hk, hfr⟩
set_option maxHeartbeats 400000 in
set_option maxRecDepth 100000 in
/-- Link.sendNext: down, no token, or the window full -/
theorem c_sendNextR {l : Launch} {D : Dx} {b0 : Nat} {ad : Nat → Nat} {F : Fn} (k o1 a1 o2 a2 : Nat) (up : Int32) (wn tk : Nat) (now : Int32) (Lq Ls : List Nat) (hk : LinkAt ad F k o1 o2 up (nI wn) (nI tk)) (hq : RowAt D ad F o1 a1 Lq) (hs : RowAt D ad F o2 a2 Ls) (hw : wn ≤ 10) (ht : tk ≤ 5) (hno : up = 0 ∨ tk < 1 ∨ wn ≤ Ls.length) : Ct l D b0 yX0_sendNext (wsA yX0_sendNext cX0_sendNext 3 (some .boolean)) (rK 3) [.ref (ad k), .int now] ad F (pRd (some (.int 0)) ad F) noX := by
  refine Ct.of (by decide +kernel) (by simp [Value.category]) (Nat.le_of_ble_eq_true rfl) (fun X eD eb el C Q => ?_)
  subst eD; subst eb; subst el
  have hL := hs.2.1
  have hs1 := hs.1
  unfold LinkAt at hk
  refine V_aload_n C dX0_sendNext_0 rfl ?_
  refine V_get C dX0_sendNext_1 fr_0_21 hk rfl ?_
  refine V_ifeq (tgt := 29) C dX0_sendNext_4 (by decide) (fun h1 => ?_) (fun h1 => ?_)
  · refine V_iconst (v := 0) C dX0_sendNext_29 rfl ?_
    exact V_ireturn C Q dX0_sendNext_30 rfl (Nat.le_of_ble_eq_true rfl) (Nat.le_of_ble_eq_true rfl) ⟨rfl, rfl, rfl⟩
  · refine V_aload_n C dX0_sendNext_7 rfl ?_
    refine V_get C dX0_sendNext_8 fr_0_29 hk rfl ?_
    refine V_iconst (v := 1) C dX0_sendNext_11 rfl ?_
    refine V_icmplt (tgt := 29) C dX0_sendNext_12 (by decide) (fun h2 => ?_) (fun h2 => ?_)
    · refine V_iconst (v := 0) C dX0_sendNext_29 rfl ?_
      exact V_ireturn C Q dX0_sendNext_30 rfl (Nat.le_of_ble_eq_true rfl) (Nat.le_of_ble_eq_true rfl) ⟨rfl, rfl, rfl⟩
    · refine V_aload_n C dX0_sendNext_15 rfl ?_
      refine V_get C dX0_sendNext_16 fr_0_18 hk rfl ?_
      refine V_get C dX0_sendNext_19 fr_0_36 hs1 rfl ?_
      refine V_aload_n C dX0_sendNext_22 rfl ?_
      refine V_get C dX0_sendNext_23 fr_0_25 hk rfl ?_
      have hfull : wn ≤ Ls.length := by
        rcases hno with h | h | h
        · exact absurd h h1
        · exact absurd (show nI tk < 1 from nI_lt h (by decide)) h2
        · exact h
      refine V_icmplt_f (tgt := 31) C dX0_sendNext_26 (by decide) (nI_nlt hfull (by omega)) ?_
      refine V_iconst (v := 0) C dX0_sendNext_29 rfl ?_
      exact V_ireturn C Q dX0_sendNext_30 rfl (Nat.le_of_ble_eq_true rfl) (Nat.le_of_ble_eq_true rfl) ⟨rfl, rfl, rfl⟩
set_option maxHeartbeats 400000 in
set_option maxRecDepth 100000 in
/-- Link.sendNext: nothing ready -/
theorem c_sendNextN {l : Launch} {D : Dx} {b0 : Nat} {ad : Nat → Nat} {F : Fn} (k o1 a1 o2 a2 : Nat) (up : Int32) (wn tk : Nat) (now : Int32) (Lq Ls : List Nat) (pm : Nat → Nat) (pn pf pt pw : Nat → Int32) (hk : LinkAt ad F k o1 o2 up (nI wn) (nI tk)) (hq : RowAt D ad F o1 a1 Lq) (hs : RowAt D ad F o2 a2 Ls) (hw : wn ≤ 10) (ht : tk ≤ 5) (hP : PrtV F Lq pm pn pf pt pw) (hup : ¬ up = 0) (htk : 0 < tk) (hwn : Ls.length < wn) (hno : ∀ c ∈ Lq, ¬ rdyI now (pt c) (pw c)) : Ct l D b0 yX0_sendNext (wsA yX0_sendNext cX0_sendNext 3 (some .boolean)) (rK 3) [.ref (ad k), .int now] ad F (pRd (some (.int 0)) ad F) noX := by
  refine Ct.of (by decide +kernel) (by simp [Value.category]) (Nat.le_of_ble_eq_true rfl) (fun X eD eb el C Q => ?_)
  subst eD; subst eb; subst el
  have hL := hs.2.1
  have hs1 := hs.1
  have hq1 := hq.1
  unfold LinkAt at hk
  refine V_aload_n C dX0_sendNext_0 rfl ?_
  refine V_get C dX0_sendNext_1 fr_0_21 hk rfl ?_
  refine V_ifeq_f (tgt := 29) C dX0_sendNext_4 (by decide) hup ?_
  refine V_aload_n C dX0_sendNext_7 rfl ?_
  refine V_get C dX0_sendNext_8 fr_0_29 hk rfl ?_
  refine V_iconst (v := 1) C dX0_sendNext_11 rfl ?_
  refine V_icmplt_f (tgt := 29) C dX0_sendNext_12 (by decide) (fun h => nI_nlt (show 1 ≤ tk from htk) (by omega) h) ?_
  refine V_aload_n C dX0_sendNext_15 rfl ?_
  refine V_get C dX0_sendNext_16 fr_0_18 hk rfl ?_
  refine V_get C dX0_sendNext_19 fr_0_36 hs1 rfl ?_
  refine V_aload_n C dX0_sendNext_22 rfl ?_
  refine V_get C dX0_sendNext_23 fr_0_25 hk rfl ?_
  refine V_icmplt_t (tgt := 31) C dX0_sendNext_26 (by decide) (nI_lt hwn (by omega)) ?_
  refine V_aload_n C dX0_sendNext_31 rfl ?_
  refine V_get C dX0_sendNext_32 fr_0_12 hk rfl ?_
  refine V_iload_n C dX0_sendNext_35 rfl ?_
  refine V_invV C dX0_sendNext_36 hq1 rfl (c_rfrN o1 a1 now Lq pm pn pf pt pw hq hP hno) mv_0_39 rfl (Nat.le_of_ble_eq_true rfl) ⟨Nat.le_of_ble_eq_true rfl, Nat.le_of_ble_eq_true rfl⟩ ⟨Nat.le_of_ble_eq_true rfl, Nat.le_of_ble_eq_true rfl⟩ (fun _ _ _ h => VT_no h) (fun v ad1 F1 hp => ?_)
  obtain ⟨rfl, rfl, rfl⟩ := hp
  refine V_astore_nN C dX0_sendNext_39 (by decide) ?_
  refine V_aload_nN C dX0_sendNext_40 rfl ?_
  refine V_ifnonnullN C dX0_sendNext_41 ?_
  refine V_iconst (v := 0) C dX0_sendNext_44 rfl ?_
  exact V_ireturn C Q dX0_sendNext_45 rfl (Nat.le_of_ble_eq_true rfl) (Nat.le_of_ble_eq_true rfl) ⟨rfl, rfl, rfl⟩
set_option maxHeartbeats 400000 in
set_option maxRecDepth 100000 in
/-- Link.sendNext: a part is sent -/
theorem c_sendNextY {l : Launch} {D : Dx} {b0 : Nat} {ad : Nat → Nat} {F : Fn} (k o1 a1 o2 a2 : Nat) (up : Int32) (wn tk : Nat) (now : Int32) (Lq Ls : List Nat) (pm : Nat → Nat) (pn pf pt pw : Nat → Int32) (i c : Nat) (hk : LinkAt ad F k o1 o2 up (nI wn) (nI tk)) (hq : RowAt D ad F o1 a1 Lq) (hs : RowAt D ad F o2 a2 Ls) (hw : wn ≤ 10) (ht : tk ≤ 5) (hP : PrtV F Lq pm pn pf pt pw) (hup : ¬ up = 0) (htk : 0 < tk) (hwn : Ls.length < wn) (hc : Lq[i]? = some c) (hy : rdyI now (pt c) (pw c)) (hno : ∀ j q, j < i → Lq[j]? = some q → ¬ rdyI now (pt q) (pw q)) (hPs : Prts F Ls) (hd : o1 ≠ o2 ∧ o1 ≠ a2 ∧ a1 ≠ o2 ∧ a1 ≠ a2) : Ct l D b0 yX0_sendNext (wsA yX0_sendNext cX0_sendNext 3 (some .boolean)) (rK 3) [.ref (ad k), .int now] ad F (fun v ad1 F1 => v = some (.int 1) ∧ ad = ad1 ∧ LinkAt ad F1 k o1 o2 up (nI wn) (nI (tk - 1)) ∧ RowAt D ad F1 o1 a1 (Lq.eraseIdx i) ∧ RowAt D ad F1 o2 a2 (Ls ++ [c]) ∧ ∀ x, x ∉ [k, o1, a1, o2, a2] → F1 x = F x) noX := by
  refine Ct.of (by decide +kernel) (by simp [Value.category]) (Nat.le_of_ble_eq_true rfl) (fun X eD eb el C Q => ?_)
  subst eD; subst eb; subst el
  have hL := hs.2.1
  have hs1 := hs.1
  have hq1 := hq.1
  unfold LinkAt at hk
  refine V_aload_n C dX0_sendNext_0 rfl ?_
  refine V_get C dX0_sendNext_1 fr_0_21 hk rfl ?_
  refine V_ifeq_f (tgt := 29) C dX0_sendNext_4 (by decide) hup ?_
  refine V_aload_n C dX0_sendNext_7 rfl ?_
  refine V_get C dX0_sendNext_8 fr_0_29 hk rfl ?_
  refine V_iconst (v := 1) C dX0_sendNext_11 rfl ?_
  refine V_icmplt_f (tgt := 29) C dX0_sendNext_12 (by decide) (fun h => nI_nlt (show 1 ≤ tk from htk) (by omega) h) ?_
  refine V_aload_n C dX0_sendNext_15 rfl ?_
  refine V_get C dX0_sendNext_16 fr_0_18 hk rfl ?_
  refine V_get C dX0_sendNext_19 fr_0_36 hs1 rfl ?_
  refine V_aload_n C dX0_sendNext_22 rfl ?_
  refine V_get C dX0_sendNext_23 fr_0_25 hk rfl ?_
  refine V_icmplt_t (tgt := 31) C dX0_sendNext_26 (by decide) (nI_lt hwn (by omega)) ?_
  refine V_aload_n C dX0_sendNext_31 rfl ?_
  refine V_get C dX0_sendNext_32 fr_0_12 hk rfl ?_
  refine V_iload_n C dX0_sendNext_35 rfl ?_
  refine V_invV C dX0_sendNext_36 hq1 rfl (c_rfr o1 a1 i c now Lq pm pn pf pt pw hq hP hc hy hno) mv_0_39 rfl (Nat.le_of_ble_eq_true rfl) ⟨Nat.le_of_ble_eq_true rfl, Nat.le_of_ble_eq_true rfl⟩ ⟨Nat.le_of_ble_eq_true rfl, Nat.le_of_ble_eq_true rfl⟩ (fun _ _ _ h => VT_no h) (fun v ad1 F1 hp => ?_)
  obtain ⟨rfl, rfl, hq, hf1⟩ := hp
  obtain ⟨fq, hfa1, -⟩ := hq.2.2
  obtain ⟨fs, hfa2, -⟩ := hs.2.2
  have hko1 : k ≠ o1 := cls_ne hk hq1 (by decide)
  have hko2 : k ≠ o2 := cls_ne hk hs1 (by decide)
  have hcF := hP c (List.mem_of_getElem? hc)
  have hka1 : k ≠ a1 := fun e => by have h9 := ‹RowAt (xD X) ad F o1 a1 Lq›.2.2; obtain ⟨f9, h9, -⟩ := h9; exact obj_ne h9 hk e
  have hka2 : k ≠ a2 := obj_ne hfa2 hk
  have hk1 := (hf1 k (by simp [hko1, hka1])).trans hk
  have hs2 := hs.kept (hf1 o2 (by simp [Ne.symm hd.1, Ne.symm hd.2.2.1])) (hf1 a2 (by simp [Ne.symm hd.2.1, Ne.symm hd.2.2.2]))
  have hP1 : Prts F1 Ls := fun q hq9 => by
    obtain ⟨fs9, h9⟩ := hPs q hq9
    obtain ⟨f8, h8, -⟩ := ‹RowAt (xD X) ad F o1 a1 Lq›.2.2
    exact ⟨fs9, (hf1 q (by simp [cls_ne h9 hq1 (by decide), obj_ne h8 h9])).trans h9⟩
  have hc1 : F1 c = some (oB 2 [.ref (pm c), .int (pn c), .int (pf c), .int (pt c), .int (pw c)]) := by
    obtain ⟨f8, h8, -⟩ := ‹RowAt (xD X) ad F o1 a1 Lq›.2.2
    exact (hf1 c (by simp [cls_ne hcF hq1 (by decide), obj_ne h8 hcF])).trans hcF
  have hs3 := hs2.1
  refine V_astore_n C dX0_sendNext_39 (by decide) ?_
  refine V_aload_n C dX0_sendNext_40 rfl ?_
  refine V_ifnonnull (tgt := 46) C dX0_sendNext_41 (by decide) ?_
  refine V_aload_n C dX0_sendNext_46 rfl ?_
  refine V_get C dX0_sendNext_47 fr_0_18 hk1 rfl ?_
  refine V_aload_n C dX0_sendNext_50 rfl ?_
  refine V_invV C dX0_sendNext_51 hs3 rfl (c_addLast o2 a2 c Ls hs2 hP1 ⟨_, hc1⟩ (by omega)) mv_0_43 rfl (Nat.le_of_ble_eq_true rfl) ⟨Nat.le_of_ble_eq_true rfl, Nat.le_of_ble_eq_true rfl⟩ ⟨Nat.le_of_ble_eq_true rfl, Nat.le_of_ble_eq_true rfl⟩ (fun _ _ _ h => VT_no h) (fun v ad2 F2 hp => ?_)
  obtain ⟨rfl, rfl, hs4, hf2⟩ := hp
  have hk2 := (hf2 k (by simp [hko2, hka2])).trans hk1
  have hq2 := hq.kept (hf2 o1 (by simp [hd.1, hd.2.1])) (hf2 a1 (by simp [hd.2.2.1, hd.2.2.2]))
  refine V_aload_n C dX0_sendNext_54 rfl ?_
  refine V_dup C dX0_sendNext_55 rfl ?_
  refine V_get C dX0_sendNext_56 fr_0_29 hk2 rfl ?_
  refine V_iconst (v := 1) C dX0_sendNext_59 rfl ?_
  refine V_isub C dX0_sendNext_60 ?_
  refine V_nm (nI_m1 htk) ?_
  refine G_put C dX0_sendNext_61 fp_0_29 hk2 rfl rfl (Nat.le_of_ble_eq_true rfl) (fun F3 hk2 hfr => ?_)
  dsimp only [List.set] at hk2
  refine V_iconst (v := 1) C dX0_sendNext_64 rfl ?_
  refine V_ireturn C Q dX0_sendNext_65 rfl (Nat.le_of_ble_eq_true rfl) (Nat.le_of_ble_eq_true rfl) ⟨rfl, rfl, hk2, hq2.kept (hfr o1 hko1.symm) (hfr a1 hka1.symm), hs4.kept (hfr o2 hko2.symm) (hfr a2 hka2.symm), fun x hx => ?_⟩
  have h1 : x ≠ k := fun e => hx (by simp [e])
  have h2 : x ∉ [o1, a1] := fun h => hx (by simp at h ⊢; rcases h with h | h <;> simp [h])
  have h3 : x ∉ [o2, a2] := fun h => hx (by simp at h ⊢; rcases h with h | h <;> simp [h])
  exact (hfr x h1).trans ((hf2 x h3).trans (hf1 x h2))
/-- a link's state in lists: the queue, what is under way, the tokens -/
abbrev Lst : Type := List Nat × List Nat × Nat
/-- one part is sent, if one can be -/
def snd1 (rd : Nat → Bool) (up : Bool) (wn : Nat) (q : Lst) : Option Lst :=
  if up = true ∧ 0 < q.2.2 ∧ q.2.1.length < wn then (q.1.findIdx? rd).map (fun i => (q.1.eraseIdx i, q.2.1 ++ [q.1.getD i 0], q.2.2 - 1)) else none
def sndN (rd : Nat → Bool) (up : Bool) (wn : Nat) : Nat → Lst → Lst × Nat
  | 0, q => (q, 0)
  | n + 1, q => match snd1 rd up wn q with
    | none => (q, 0)
    | some q' => ((sndN rd up wn n q').1, (sndN rd up wn n q').2 + 1)
def rdB (now : Int32) (pt pw : Nat → Int32) (c : Nat) : Bool := decide (pw c = 0 ∧ pt c ≤ now)
/-- the whole link: its object, its two rows -/
def LkA (D : Dx) (ad : Nat → Nat) (F : Fn) (k o1 a1 o2 a2 : Nat) (up : Int32) (wn : Nat) (q : Lst) : Prop :=
  LinkAt ad F k o1 o2 up (nI wn) (nI q.2.2) ∧ RowAt D ad F o1 a1 q.1 ∧ RowAt D ad F o2 a2 q.2.1
theorem c_sendNext {l : Launch} {D : Dx} {b0 : Nat} {ad : Nat → Nat} {F : Fn} (k o1 a1 o2 a2 : Nat) (up : Int32) (wn : Nat) (now : Int32) (q : Lst) (pm : Nat → Nat) (pn pf pt pw : Nat → Int32) (hk : LkA D ad F k o1 a1 o2 a2 up wn q) (hP : PrtV F q.1 pm pn pf pt pw) (hPs : Prts F q.2.1) (hd : o1 ≠ o2 ∧ o1 ≠ a2 ∧ a1 ≠ o2 ∧ a1 ≠ a2) (hw : wn ≤ 10) (ht : q.2.2 ≤ 5) :
    Ct l D b0 yX0_sendNext (wsA yX0_sendNext cX0_sendNext 3 (some .boolean)) (rK 3) [.ref (ad k), .int now] ad F (fun v ad1 F1 => ad = ad1 ∧ (match snd1 (rdB now pt pw) (decide (¬ up = 0)) wn q with
      | none => v = some (.int 0) ∧ F = F1
      | some q' => v = some (.int 1) ∧ LkA D ad F1 k o1 a1 o2 a2 up wn q' ∧ ∀ x, x ∉ [k, o1, a1, o2, a2] → F1 x = F x)) noX := by
  obtain ⟨h1, h2, h3⟩ := hk
  by_cases hg : ¬ up = 0 ∧ 0 < q.2.2 ∧ q.2.1.length < wn
  · have hg' : (decide (¬ up = 0) = true ∧ 0 < q.2.2 ∧ q.2.1.length < wn) := ⟨by simpa using hg.1, hg.2⟩
    cases hf : q.1.findIdx? (rdB now pt pw) with
    | none =>
      have e : snd1 (rdB now pt pw) (decide (¬ up = 0)) wn q = none := by simp only [snd1]; rw [if_pos hg', hf]; rfl
      rw [e]
      refine (c_sendNextN k o1 a1 o2 a2 up wn q.2.2 now q.1 q.2.1 pm pn pf pt pw h1 h2 h3 hw ht hP hg.1 hg.2.1 hg.2.2 (fun c hc => ?_)).weaken (fun v a G h => ⟨h.2.1, h.1, h.2.2⟩) (fun _ _ _ h => h)
      have := List.findIdx?_eq_none_iff.mp hf c hc
      simpa [rdB, rdyI] using this
    | some i =>
      obtain ⟨hi, hi1, hi2⟩ := List.findIdx?_eq_some_iff_getElem.mp hf
      have hgi : q.1[i]? = some (q.1.getD i 0) := by rw [List.getD_eq_getElem?_getD, List.getElem?_eq_getElem hi]; rfl
      have e : snd1 (rdB now pt pw) (decide (¬ up = 0)) wn q = some (q.1.eraseIdx i, q.2.1 ++ [q.1.getD i 0], q.2.2 - 1) := by simp only [snd1]; rw [if_pos hg', hf]; rfl
      rw [e]
      refine (c_sendNextY k o1 a1 o2 a2 up wn q.2.2 now q.1 q.2.1 pm pn pf pt pw i (q.1.getD i 0) h1 h2 h3 hw ht hP hg.1 hg.2.1 hg.2.2 hgi ?_ (fun j c hj hc => ?_) hPs hd).weaken (fun v a G h => ⟨h.2.1, h.1, ⟨h.2.2.1, h.2.2.2.1, h.2.2.2.2.1⟩, h.2.2.2.2.2⟩) (fun _ _ _ h => h)
      · have e2 : q.1[i] = q.1.getD i 0 := Option.some.inj ((List.getElem?_eq_getElem hi).symm.trans hgi)
        rw [e2] at hi1
        simpa [rdB, rdyI] using hi1
      · have hjl := (List.getElem?_eq_some_iff.mp hc)
        have := hi2 j hj
        rw [hjl.2] at this
        simpa [rdB, rdyI] using this
  · have e : snd1 (rdB now pt pw) (decide (¬ up = 0)) wn q = none := by
      simp only [snd1]; rw [if_neg]; simpa using hg
    rw [e]
    refine (c_sendNextR k o1 a1 o2 a2 up wn q.2.2 now q.1 q.2.1 h1 h2 h3 hw ht ?_).weaken (fun v a G h => ⟨h.2.1, h.1, h.2.2⟩) (fun _ _ _ h => h)
    by_cases e1 : up = 0
    · exact Or.inl e1
    · by_cases e2 : 0 < q.2.2
      · exact Or.inr (Or.inr (Nat.le_of_not_lt fun h => hg ⟨e1, e2, h⟩))
      · exact Or.inr (Or.inl (by omega))
theorem snd1_sub {rd : Nat → Bool} {up : Bool} {wn : Nat} {q q' : Lst} (h : snd1 rd up wn q = some q') : (∀ c ∈ q'.1, c ∈ q.1) ∧ (∀ c ∈ q'.2.1, c ∈ q.2.1 ∨ c ∈ q.1) ∧ q'.2.2 ≤ q.2.2 := by
  simp only [snd1] at h
  split at h
  · cases hf : q.1.findIdx? rd with
    | none => rw [hf] at h; cases h
    | some i =>
      rw [hf] at h
      obtain ⟨hi, -, -⟩ := List.findIdx?_eq_some_iff_getElem.mp hf
      cases h
      refine ⟨fun c hc => List.mem_of_mem_eraseIdx hc, fun c hc => ?_, Nat.sub_le _ _⟩
      rcases List.mem_append.mp hc with h | h
      · exact Or.inl h
      · rw [List.mem_singleton.mp h, List.getD_eq_getElem?_getD, List.getElem?_eq_getElem hi]
        exact Or.inr (List.getElem_mem hi)
  · cases h
set_option maxHeartbeats 400000 in
set_option maxRecDepth 100000 in
/-- Link.sendAll -/
theorem c_sendAll {l : Launch} {D : Dx} {b0 : Nat} {ad : Nat → Nat} {F : Fn} (k o1 a1 o2 a2 : Nat) (up : Int32) (wn : Nat) (now : Int32) (q : Lst) (pm : Nat → Nat) (pn pf pt pw : Nat → Int32) (hk : LkA D ad F k o1 a1 o2 a2 up wn q) (hP : PrtV F q.1 pm pn pf pt pw) (hPs : Prts F q.2.1) (hd : o1 ≠ o2 ∧ o1 ≠ a2 ∧ a1 ≠ o2 ∧ a1 ≠ a2) (hw : wn ≤ 10) (ht : q.2.2 ≤ 5) : Ct l D b0 yX0_sendAll (wsA yX0_sendAll cX0_sendAll 3 (some .int)) (rK 4) [.ref (ad k), .int now] ad F (fun v ad1 F1 => v = some (.int (nI (sndN (rdB now pt pw) (decide (¬ up = 0)) wn 5 q).2)) ∧ ad = ad1 ∧ LkA D ad F1 k o1 a1 o2 a2 up wn (sndN (rdB now pt pw) (decide (¬ up = 0)) wn 5 q).1 ∧ ∀ x, x ∉ [k, o1, a1, o2, a2] → F1 x = F x) noX := by
  refine Ct.of (by decide +kernel) (by simp [Value.category]) (Nat.le_of_ble_eq_true rfl) (fun X eD eb el C Q => ?_)
  subst eD; subst eb; subst el
  obtain ⟨rd, hrd⟩ : ∃ z, z = rdB now pt pw := ⟨_, rfl⟩
  obtain ⟨ub, hub⟩ : ∃ z, z = decide (¬ up = 0) := ⟨_, rfl⟩
  rw [← hrd, ← hub] at Q
  obtain ⟨fq, hfq, -⟩ := hk.2.1.2.2
  obtain ⟨fs, hfs, -⟩ := hk.2.2.2.2
  have hsep : ∀ c, c ∈ q.1 ∨ c ∈ q.2.1 → c ∉ [k, o1, a1, o2, a2] := fun c hc => by
    obtain ⟨gs, hgs⟩ : ∃ gs, F c = some (oB 2 gs) := hc.elim (fun h => ⟨_, hP c h⟩) (fun h => hPs c h)
    simp [cls_ne hgs hk.1 (by decide), cls_ne hgs hk.2.1.1 (by decide), cls_ne hgs hk.2.2.1 (by decide), obj_ne hfq hgs, obj_ne hfs hgs]
  refine V_iconst (v := 0) C dX0_sendAll_0 rfl ?_
  refine V_istore_n C dX0_sendAll_1 (by decide) ?_
  have loop : ∀ (d t : Nat) (G : Fn) (p : Lst), t + d = 5 → LkA (xD X) ad G k o1 a1 o2 a2 up wn p → (∀ c ∈ p.1, c ∈ q.1) → (∀ c ∈ p.2.1, c ∈ q.2.1 ∨ c ∈ q.1) → p.2.2 ≤ 5 → (∀ x, x ∉ [k, o1, a1, o2, a2] → G x = F x) → (sndN rd ub wn 5 q).2 = t + (sndN rd ub wn d p).2 → (sndN rd ub wn 5 q).1 = (sndN rd ub wn d p).1 →
      V X 0 0 2 [(0, .ref (ad k)), (1, .int now), (2, .int (nI t))] [] ad G := by
    intro d
    induction d with
    | zero =>
      intro t G p hd9 hp h1 h2 h3 hK e1 e2
      have ht5 : t = 5 := by omega
      subst ht5
      refine V_iload_n C dX0_sendAll_2 rfl ?_
      refine V_iconst (v := 5) C dX0_sendAll_3 rfl ?_
      refine V_icmpge_t (tgt := 23) C dX0_sendAll_4 (by decide) (Int32.le_refl _) ?_
      refine V_iconst (v := 5) C dX0_sendAll_23 rfl ?_
      exact V_ireturn C Q dX0_sendAll_24 rfl (Nat.le_of_ble_eq_true rfl) (Nat.le_of_ble_eq_true rfl) ⟨by rw [e1]; rfl, rfl, by rw [e2]; exact hp, hK⟩
    | succ d ih =>
      intro t G p hd9 hp h1 h2 h3 hK e1 e2
      have hk9 := hp.1
      have hPG : PrtV G p.1 pm pn pf pt pw := fun c hc => (hK c (hsep c (Or.inl (h1 c hc)))).trans (hP c (h1 c hc))
      have hPsG : Prts G p.2.1 := fun c hc => by
        rcases h2 c hc with h | h
        · obtain ⟨gs, hgs⟩ := hPs c h
          exact ⟨gs, (hK c (hsep c (Or.inr h))).trans hgs⟩
        · exact ⟨_, (hK c (hsep c (Or.inl h))).trans (hP c h)⟩
      refine V_iload_n C dX0_sendAll_2 rfl ?_
      refine V_iconst (v := 5) C dX0_sendAll_3 rfl ?_
      refine V_icmpge_f (tgt := 23) C dX0_sendAll_4 (by decide) (nI_ge (a := t) (b := 5) (by omega) (by decide)) ?_
      refine V_aload_n C dX0_sendAll_7 rfl ?_
      refine V_iload_n C dX0_sendAll_8 rfl ?_
      refine V_invV C dX0_sendAll_9 hk9 rfl (c_sendNext k o1 a1 o2 a2 up wn now p pm pn pf pt pw hp hPG hPsG hd hw h3) mv_0_32 rfl (Nat.le_of_ble_eq_true rfl) ⟨Nat.le_of_ble_eq_true rfl, Nat.le_of_ble_eq_true rfl⟩ ⟨Nat.le_of_ble_eq_true rfl, Nat.le_of_ble_eq_true rfl⟩ (fun _ _ _ h => VT_no h) (fun v ad1 F1 hpz => ?_)
      obtain ⟨rfl, hp2⟩ := hpz
      rw [← hrd, ← hub] at hp2
      cases hs : snd1 rd ub wn p with
      | none =>
        rw [hs] at hp2
        obtain ⟨rfl, rfl⟩ := hp2
        refine V_ifne_f (tgt := 17) C dX0_sendAll_12 (by decide) (by decide) ?_
        refine V_iload_n C dX0_sendAll_15 rfl ?_
        exact V_ireturn C Q dX0_sendAll_16 rfl (Nat.le_of_ble_eq_true rfl) (Nat.le_of_ble_eq_true rfl) ⟨by rw [e1]; simp only [sndN, hs]; rfl, rfl, by rw [e2]; simp only [sndN, hs]; exact hp, hK⟩
      | some p2 =>
        rw [hs] at hp2
        obtain ⟨rfl, h5, h6⟩ := hp2
        obtain ⟨s1, s2, s3⟩ := snd1_sub hs
        refine V_ifne_t (tgt := 17) C dX0_sendAll_12 (by decide) (by decide) ?_
        refine V_iinc C dX0_sendAll_17 rfl (nI_inc _) (by decide) ?_
        refine V_goto (tgt := 2) C dX0_sendAll_20 (by decide) ?_
        refine V_sb (ih (t + 1) F1 p2 (by omega) h5 (fun c hc => h1 c (s1 c hc)) (fun c hc => (s2 c hc).elim (h2 c) (fun h => Or.inr (h1 c h))) (by omega) (fr_join hK h6 (fun _ h => h)) (by rw [e1]; simp only [sndN, hs]; omega) (by rw [e2]; simp only [sndN, hs])) ⟨rfl, rfl, rfl, trivial⟩
  refine V_sb (loop 5 0 F q rfl hk (fun _ h => h) (fun _ h => Or.inl h) ht (fun _ _ => rfl) (by omega) rfl) ⟨rfl, rfl, rfl, trivial⟩
theorem ins_len (q : Nat) (B : List Nat) : ∀ A : List Nat, (A ++ B).insertIdx A.length q = A ++ q :: B
  | [] => by simp
  | a :: A => by simp [ins_len q B A]
def wtB (stt : Nat → Int32) (c : Nat) : Bool := decide (stt c = 0)
set_option maxHeartbeats 400000 in
set_option maxRecDepth 100000 in
/-- Link.goDown -/
theorem c_goDown {l : Launch} {D : Dx} {b0 : Nat} {ad : Nat → Nat} {F : Fn} (k o1 a1 o2 a2 : Nat) (up wn tk now : Int32) (Lq Ls : List Nat) (pm : Nat → Nat) (pn pf pt pw : Nat → Int32) (mc : Nat → Nat) (mf : Nat → List Value) (stt : Nat → Int32) (hk : LinkAt ad F k o1 o2 up wn tk) (hq : RowAt D ad F o1 a1 Lq) (hs : RowAt D ad F o2 a2 Ls) (hP : PrtV F Ls pm pn pf pt pw) (hPq : Prts F Lq) (hm : ∀ c ∈ Ls, pm c = ad (mc c) ∧ F (mc c) = some (oB 1 (mf c)) ∧ (mf c)[7]? = some (.int (stt c))) (hd : o1 ≠ o2 ∧ o1 ≠ a2 ∧ a1 ≠ o2 ∧ a1 ≠ a2) (hcap : Lq.length + Ls.length ≤ 120) (hnd : ∀ c ∈ Ls, c ∉ Lq) : Ct l D b0 yX0_goDown (wsA yX0_goDown cX0_goDown 6 none) (rK 2) [.ref (ad k), .int now] ad F (fun v ad1 F1 => v = none ∧ ad = ad1 ∧ LinkAt ad F1 k o1 o2 0 wn tk ∧ RowAt D ad F1 o1 a1 (Ls.filter (wtB stt) ++ Lq) ∧ RowAt D ad F1 o2 a2 [] ∧ (∀ c ∈ Ls, F1 c = some (oB 2 [.ref (pm c), .int (pn c), .int (pf c), .int (if wtB stt c then now else pt c), .int (pw c)])) ∧ ∀ x, x ∉ [k, o1, a1, o2, a2] → x ∉ Ls → F1 x = F x) noX := by
  refine Ct.of (by decide +kernel) (by simp [Value.category]) (Nat.le_of_ble_eq_true rfl) (fun X eD eb el C Q => ?_)
  subst eD; subst eb; subst el
  have hs1 := hs.1
  have hq1 := hq.1
  have hL := hs.2.1
  unfold LinkAt at hk
  obtain ⟨fq, hfq, -⟩ := hq.2.2
  obtain ⟨fs, hfs, -⟩ := hs.2.2
  have hko1 : k ≠ o1 := cls_ne hk hq1 (by decide)
  have hko2 : k ≠ o2 := cls_ne hk hs1 (by decide)
  have hka1 : k ≠ a1 := obj_ne hfq hk
  have hka2 : k ≠ a2 := obj_ne hfs hk
  have hsep : ∀ c gs, F c = some (oB 2 gs) → c ∉ [k, o1, a1, o2, a2] := fun c gs hgs => by
    simp [cls_ne hgs hk (by decide), cls_ne hgs hq1 (by decide), cls_ne hgs hs1 (by decide), obj_ne hfq hgs, obj_ne hfs hgs]
  have hsepM : ∀ c gs, F c = some (oB 1 gs) → c ∉ [k, o1, a1, o2, a2] := fun c gs hgs => by
    simp [cls_ne hgs hk (by decide), cls_ne hgs hq1 (by decide), cls_ne hgs hs1 (by decide), obj_ne hfq hgs, obj_ne hfs hgs]
  refine V_aload_n C dX0_goDown_0 rfl ?_
  refine V_iconst (v := 0) C dX0_goDown_1 rfl ?_
  refine G_put C dX0_goDown_2 fp_0_21 hk rfl rfl (Nat.le_of_ble_eq_true rfl) (fun F1 hk hfr => ?_)
  dsimp only [List.set] at hk
  have hs1 := (hfr _ hko2.symm).trans hs1
  have hfr0 := hfr
  refine V_iconst (v := 0) C dX0_goDown_5 rfl ?_
  refine V_istore_n C dX0_goDown_6 (by decide) ?_
  refine V_aload_n C dX0_goDown_7 rfl ?_
  refine V_get C dX0_goDown_8 fr_0_18 hk rfl ?_
  refine V_get C dX0_goDown_11 fr_0_36 hs1 rfl ?_
  refine V_istore_n C dX0_goDown_14 (by decide) ?_
  refine V_iconst (v := 0) C dX0_goDown_15 rfl ?_
  refine V_istore C dX0_goDown_16 (by decide) ?_
  have loop : ∀ (d t : Nat) (G : Fn), t + d = Ls.length → G k = some (oB 0 [.ref (ad o1), .ref (ad o2), .int 0, .int wn, .int tk]) → RowAt (xD X) ad G o1 a1 ((Ls.take t).filter (wtB stt) ++ Lq) → RowAt (xD X) ad G o2 a2 (Ls.drop t) →
        (∀ c ∈ Ls, G c = some (oB 2 [.ref (pm c), .int (pn c), .int (pf c), .int (if c ∈ Ls.take t ∧ wtB stt c = true then now else pt c), .int (pw c)])) → (∀ x, x ∉ [k, o1, a1, o2, a2] → x ∉ Ls → G x = F x) →
      V X 0 0 18 [(0, .ref (ad k)), (1, .int now), (2, .int (nI ((Ls.take t).filter (wtB stt)).length)), (3, .int (nI Ls.length)), (4, .int (nI t))] [] ad G := by
    intro d
    induction d with
    | zero =>
      intro t G hd9 g1 g2 g3 g4 hK
      have ht : t = Ls.length := by omega
      subst ht
      rw [List.take_length] at g2
      rw [List.drop_length] at g3
      refine V_iload C dX0_goDown_18 rfl ?_
      refine V_iload_n C dX0_goDown_20 rfl ?_
      refine V_icmpge_t (tgt := 75) C dX0_goDown_21 (by decide) (Int32.le_refl _) ?_
      exact V_return C Q dX0_goDown_75 (Nat.le_of_ble_eq_true rfl) (Nat.le_of_ble_eq_true rfl) ⟨rfl, rfl, g1, g2, g3, fun c hc => by rw [g4 c hc, List.take_length]; simp [hc], hK⟩
    | succ d ih =>
      intro t G hd9 g1 g2 g3 g4 hK
      obtain ⟨q, hq⟩ : ∃ q, Ls[t]? = some q := ⟨Ls[t]'(by omega), List.getElem?_eq_getElem (by omega)⟩
      have hqm := List.mem_of_getElem? hq
      have hdq : Ls.drop t = q :: Ls.drop (t + 1) := by rw [List.drop_eq_getElem_cons (by omega)]; congr 1; exact Option.some.inj ((List.getElem?_eq_getElem (by omega)).symm.trans hq)
      have hqt : Ls.take (t + 1) = Ls.take t ++ [q] := by rw [List.take_add_one, hq]; rfl
      obtain ⟨em, hmF, hms⟩ := hm q hqm
      have hmG : G (mc q) = some (oB 1 (mf q)) := (hK (mc q) (hsepM _ _ hmF) (fun h => cls_ne (hP _ h) hmF (by decide) rfl)).trans hmF
      have hPG : Prts G (Ls.drop t) := fun c hc => ⟨_, g4 c (List.mem_of_mem_drop hc)⟩
      have hq0 : (Ls.drop t)[0]? = some q := by rw [hdq]; rfl
      have hPqG : Prts G ((Ls.take t).filter (wtB stt) ++ Lq) := fun c hc => by
        rcases List.mem_append.mp hc with h | h
        · exact ⟨_, g4 c (List.mem_of_mem_take (List.mem_filter.mp h).1)⟩
        · obtain ⟨gs, hgs⟩ := hPq c h
          exact ⟨gs, (hK c (hsep c gs hgs) (fun h2 => hnd c h2 h)).trans hgs⟩
      have hgq := g4 q hqm
      have g31 := g3.1
      have hlen : ((Ls.take t).filter (wtB stt)).length ≤ t := Nat.le_trans (List.length_filter_le _ _) (by rw [List.length_take]; omega)
      obtain ⟨fq2, hfq2, -⟩ := g2.2.2
      obtain ⟨fs2, hfs2, -⟩ := g3.2.2
      refine V_iload C dX0_goDown_18 rfl ?_
      refine V_iload_n C dX0_goDown_20 rfl ?_
      refine V_icmpge_f (tgt := 75) C dX0_goDown_21 (by decide) (nI_ge (by omega) (by omega)) ?_
      refine V_aload_n C dX0_goDown_24 rfl ?_
      refine V_get C dX0_goDown_25 fr_0_18 g1 rfl ?_
      refine V_iconst (v := 0) C dX0_goDown_28 rfl ?_
      refine V_invV C dX0_goDown_29 g31 rfl (c_removeAt o2 a2 0 q _ g3 hPG hq0) mv_0_47 rfl (Nat.le_of_ble_eq_true rfl) ⟨Nat.le_of_ble_eq_true rfl, Nat.le_of_ble_eq_true rfl⟩ ⟨Nat.le_of_ble_eq_true rfl, Nat.le_of_ble_eq_true rfl⟩ (fun _ _ _ h => VT_no h) (fun v ad1 G1 hp => ?_)
      obtain ⟨rfl, rfl, g3, f1⟩ := hp
      rw [hdq, List.eraseIdx_cons_zero] at g3
      have hqF := (f1 q (fun h => hsep q _ (hP q hqm) (by simp at h ⊢; rcases h with h | h <;> simp [h]))).trans hgq
      have hmF := (f1 (mc q) (fun h => hsepM _ _ hmF (by simp at h ⊢; rcases h with h | h <;> simp [h]))).trans hmG
      have g1 := (f1 k (by simp [hko2, hka2])).trans g1
      have g2 := g2.kept (f1 o1 (by simp [hd.1, hd.2.1])) (f1 a1 (by simp [hd.2.2.1, hd.2.2.2]))
      have g4 := fun c hc => (f1 c (fun h => hsep c _ (hP c hc) (by simp at h ⊢; rcases h with h | h <;> simp [h]))).trans (g4 c hc)
      have hPqG : Prts G1 ((Ls.take t).filter (wtB stt) ++ Lq) := fun c hc => by
        obtain ⟨gs, hgs⟩ := hPqG c hc
        have hc2 : ∃ gs2, F c = some (oB 2 gs2) := by
          rcases List.mem_append.mp hc with h | h
          · exact ⟨_, hP c (List.mem_of_mem_take (List.mem_filter.mp h).1)⟩
          · exact hPq c h
        obtain ⟨gs2, hgs2⟩ := hc2
        exact ⟨gs, (f1 c (fun h => hsep c _ hgs2 (by simp at h ⊢; rcases h with h | h <;> simp [h]))).trans hgs⟩
      have hK : ∀ x, x ∉ [k, o1, a1, o2, a2] → x ∉ Ls → G1 x = F x := fun x hx hx2 => (f1 x (fun h => hx (by simp at h ⊢; rcases h with h | h <;> simp [h]))).trans (hK x hx hx2)
      rw [em] at hqF
      refine V_astore C dX0_goDown_32 (by decide) ?_
      refine V_aload C dX0_goDown_34 rfl ?_
      refine V_ifnull C dX0_goDown_36 ?_
      refine V_aload C dX0_goDown_39 rfl ?_
      refine V_get C dX0_goDown_41 fr_0_50 hqF rfl ?_
      refine V_get C dX0_goDown_44 fr_0_56 hmF hms ?_
      refine V_ifne (tgt := 69) C dX0_goDown_47 (by decide) (fun hc => ?_) (fun hc => ?_)
      · have hw : wtB stt q = false := by simp [wtB, hc]
        refine V_iinc C dX0_goDown_69 rfl (nI_inc _) (by decide) ?_
        refine V_goto (tgt := 18) C dX0_goDown_72 (by decide) ?_
        refine V_sb (ih (t + 1) G1 (by omega) g1 ?_ g3 (fun c hc => ?_) hK) ⟨rfl, rfl, ?_, rfl, rfl, trivial⟩
        · rw [hqt, List.filter_append, show [q].filter (wtB stt) = [] by simp [hw], List.append_nil]; exact g2
        · rw [g4 c hc, hqt]
          congr 6
          by_cases e : c = q
          · subst e; simp [hw]
          · simp [e]
        · rw [hqt, List.filter_append, show [q].filter (wtB stt) = [] by simp [hw], List.append_nil]; rfl
      · have hw : wtB stt q = true := by simpa [wtB] using hc
        refine V_aload C dX0_goDown_50 rfl ?_
        refine V_iload_n C dX0_goDown_52 rfl ?_
        refine G_put C dX0_goDown_53 fp_0_61 hqF rfl rfl (Nat.le_of_ble_eq_true rfl) (fun G2 hqF hfr => ?_)
        dsimp only [List.set] at hqF
        have hsq : ∀ z, z ∈ [k, o1, a1, o2, a2] → z ≠ q := fun z hz e => hsep q _ (hP q hqm) (e ▸ hz)
        have g1 := (hfr k (hsq k (by simp))).trans g1
        have g2 := g2.kept (hfr o1 (hsq o1 (by simp))) (hfr a1 (hsq a1 (by simp)))
        have g3 := g3.kept (hfr o2 (hsq o2 (by simp))) (hfr a2 (hsq a2 (by simp)))
        have hPqG : Prts G2 ((Ls.take t).filter (wtB stt) ++ Lq) := fun c hc => by
          by_cases e : c = q
          · subst e; exact ⟨_, hqF⟩
          · obtain ⟨gs, hgs⟩ := hPqG c hc
            exact ⟨gs, (hfr c e).trans hgs⟩
        have g21 := g2.1
        refine V_aload_n C dX0_goDown_56 rfl ?_
        refine V_get C dX0_goDown_57 fr_0_12 g1 rfl ?_
        refine V_iload_n C dX0_goDown_60 rfl ?_
        refine V_aload C dX0_goDown_61 rfl ?_
        refine V_invV C dX0_goDown_63 g21 rfl (c_insert o1 a1 ((Ls.take t).filter (wtB stt)).length q _ g2 hPqG ⟨_, hqF⟩ (by rw [List.length_append]; omega) (by rw [List.length_append]; omega)) mv_0_64 rfl (Nat.le_of_ble_eq_true rfl) ⟨Nat.le_of_ble_eq_true rfl, Nat.le_of_ble_eq_true rfl⟩ ⟨Nat.le_of_ble_eq_true rfl, Nat.le_of_ble_eq_true rfl⟩ (fun _ _ _ h => VT_no h) (fun v ad1 G3 hp => ?_)
        obtain ⟨rfl, rfl, g2, f3⟩ := hp
        have hins : ((Ls.take t).filter (wtB stt) ++ Lq).insertIdx ((Ls.take t).filter (wtB stt)).length q = (Ls.take t).filter (wtB stt) ++ q :: Lq := ins_len q Lq _
        rw [hins] at g2
        refine V_iinc C dX0_goDown_66 rfl (nI_inc _) (by decide) ?_
        refine V_iinc C dX0_goDown_69 rfl (nI_inc _) (by decide) ?_
        refine V_goto (tgt := 18) C dX0_goDown_72 (by decide) ?_
        refine V_sb (ih (t + 1) G3 (by omega) ((f3 k (by simp [hko1, hka1])).trans g1) ?_ (g3.kept (f3 o2 (by simp [hd.1.symm, hd.2.2.1.symm])) (f3 a2 (by simp [hd.2.1.symm, hd.2.2.2.symm]))) (fun c hc => ?_) (fun x hx hx2 => ?_)) ⟨rfl, rfl, ?_, rfl, rfl, trivial⟩
        · rw [hqt, List.filter_append, show [q].filter (wtB stt) = [q] by simp [hw], List.append_assoc]; exact g2
        · refine (f3 c (fun h => hsep c _ (hP c hc) (by simp at h ⊢; rcases h with h | h <;> simp [h]))).trans ?_
          by_cases e : c = q
          · subst e
            rw [hqF, hqt, em]
            simp [hw]
          · rw [hfr c e, g4 c hc, hqt]
            simp [e]
        · exact (f3 x (fun h => hx (by simp at h ⊢; rcases h with h | h <;> simp [h]))).trans ((hfr x (fun e => hx2 (e ▸ hqm))).trans (hK x hx hx2))
        · rw [hqt, List.filter_append, show [q].filter (wtB stt) = [q] by simp [hw], List.length_append]; rfl
  refine V_sb (loop Ls.length 0 F1 (by omega) hk (hq.kept (hfr o1 hko1.symm) (hfr a1 hka1.symm)) (hs.kept (hfr o2 hko2.symm) (hfr a2 hka2.symm)) (fun c hc => ?_) (fun x hx _ => hfr x (fun e => hx (by simp [e])))) ⟨rfl, rfl, rfl, rfl, rfl, trivial⟩
  rw [hfr c (fun e => cls_ne (hP c hc) (‹F k = _›) (by decide) e), hP c hc]
  simp
end
section
/-! ===== MESSAGES, RECEPTION ===== -/
def MsgAt (F : Fn) (c : Nat) (num rcv en : Int32) (lk sg sa : Nat) (np stt lw : Int32) : Prop := F c = some (oB 1 [.int num, .int rcv, .int en, .ref lk, .ref sg, .ref sa, .int np, .int stt, .int lw])
/-- a set of parts loses one -/
def clrB (w p : Nat) : Nat := if w.testBit p then w - 2 ^ p else w
theorem clr_ok : ∀ w, w < 64 → ∀ p, p < 6 → nI w &&& (((1 : Int32) <<< (nI p &&& 31)) ^^^ (-1)) = nI (clrB w p) := by decide +kernel
theorem has_ok : ∀ w, w < 64 → ∀ p, p < 6 → ((nI w >>> (nI p &&& 31)) &&& 1 = 1 ↔ w.testBit p = true) := by decide +kernel
theorem clr_lt : ∀ w, w < 64 → ∀ p, p < 6 → clrB w p < 64 := by decide +kernel
theorem all_ok : ∀ n, n < 7 → ((1 : Int32) <<< (nI n &&& 31)) - 1 = nI (2 ^ n - 1) := by decide +kernel
set_option maxHeartbeats 400000 in
set_option maxRecDepth 100000 in
/-- Message.lacks -/
theorem c_lacks {l : Launch} {D : Dx} {b0 : Nat} {ad : Nat → Nat} {F : Fn} (c : Nat) (num rcv en : Int32) (lk sg sa : Nat) (np stt : Int32) (w p : Nat) (hm : MsgAt F c num rcv en lk sg sa np stt (nI w)) (hw : w < 64) (hp9 : p < 6) : Ct l D b0 yX1_lacks (wsA yX1_lacks cX1_lacks 2 (some .boolean)) r0 [.ref (ad c), .int (nI p)] ad F (pRd (some (.int (if w.testBit p then 1 else 0))) ad F) noX := by
  refine Ct.of (by decide +kernel) (by simp [Value.category]) (Nat.le_of_ble_eq_true rfl) (fun X eD eb el C Q => ?_)
  subst eD; subst eb; subst el
  unfold MsgAt at hm
  refine V_aload_n C dX1_lacks_0 rfl ?_
  refine V_get C dX1_lacks_1 fr_1_48 hm rfl ?_
  refine V_iload_n C dX1_lacks_4 rfl ?_
  refine V_ishr C dX1_lacks_5 ?_
  refine V_iconst (v := 1) C dX1_lacks_6 rfl ?_
  refine V_iand C dX1_lacks_7 ?_
  refine V_iconst (v := 1) C dX1_lacks_8 rfl ?_
  refine V_icmpne (tgt := 16) C dX1_lacks_9 (by decide) (fun hc => ?_) (fun hc => ?_)
  · rw [if_neg (fun h => hc ((has_ok w hw p hp9).mpr h))] at Q
    refine V_iconst (v := 0) C dX1_lacks_16 rfl ?_
    exact V_ireturn C Q dX1_lacks_17 rfl (Nat.le_of_ble_eq_true rfl) (Nat.le_of_ble_eq_true rfl) ⟨rfl, rfl, rfl⟩
  · rw [if_pos ((has_ok w hw p hp9).mp hc)] at Q
    refine V_iconst (v := 1) C dX1_lacks_12 rfl ?_
    refine V_goto (tgt := 17) C dX1_lacks_13 (by decide) ?_
    exact V_ireturn C Q dX1_lacks_17 rfl (Nat.le_of_ble_eq_true rfl) (Nat.le_of_ble_eq_true rfl) ⟨rfl, rfl, rfl⟩
set_option maxHeartbeats 400000 in
set_option maxRecDepth 100000 in
/-- Message.receive -/
theorem c_receive {l : Launch} {D : Dx} {b0 : Nat} {ad : Nat → Nat} {F : Fn} (c : Nat) (num rcv en : Int32) (lk sg sa : Nat) (np stt : Int32) (w p : Nat) (hm : MsgAt F c num rcv en lk sg sa np stt (nI w)) (hw : w < 64) (hp9 : p < 6) : Ct l D b0 yX1_receive (wsA yX1_receive cX1_receive 2 none) r0 [.ref (ad c), .int (nI p)] ad F (fun v ad1 F1 => v = none ∧ ad = ad1 ∧ MsgAt F1 c num rcv en lk sg sa np stt (nI (clrB w p)) ∧ ∀ x, x ≠ c → F1 x = F x) noX := by
  refine Ct.of (by decide +kernel) (by simp [Value.category]) (Nat.le_of_ble_eq_true rfl) (fun X eD eb el C Q => ?_)
  subst eD; subst eb; subst el
  unfold MsgAt at hm
  refine V_aload_n C dX1_receive_0 rfl ?_
  refine V_dup C dX1_receive_1 rfl ?_
  refine V_get C dX1_receive_2 fr_1_48 hm rfl ?_
  refine V_iconst (v := 1) C dX1_receive_5 rfl ?_
  refine V_iload_n C dX1_receive_6 rfl ?_
  refine V_ishl C dX1_receive_7 ?_
  refine V_iconst (v := (-1)) C dX1_receive_8 rfl ?_
  refine V_ixor C dX1_receive_9 ?_
  refine V_iand C dX1_receive_10 ?_
  refine V_nm (clr_ok w hw p hp9) ?_
  refine G_put C dX1_receive_11 fp_1_48 hm rfl rfl (Nat.le_of_ble_eq_true rfl) (fun F1 hm hfr => ?_)
  dsimp only [List.set] at hm
  exact V_return C Q dX1_receive_14 (Nat.le_of_ble_eq_true rfl) (Nat.le_of_ble_eq_true rfl) ⟨rfl, rfl, hm, hfr⟩
/-- the part that has a place: the last one that begins there or before -/
def pwF (ps : Nat → Nat) (place : Nat) : Nat → Nat
  | 0 => 0
  | n + 1 => if ps (n + 1) ≤ place then n + 1 else pwF ps place n
set_option maxHeartbeats 400000 in
set_option maxRecDepth 100000 in
/-- Message.partWith -/
theorem c_partWith {l : Launch} {D : Dx} {b0 : Nat} {ad : Nat → Nat} {F : Fn} (c sa N place : Nat) (ps : Nat → Nat) (g : Nat → Int32) (num rcv en : Int32) (lk sg : Nat) (np stt lw : Int32) (hm : MsgAt F c num rcv en lk sg (ad sa) np stt lw) (hs : F sa = some (aI D (N + 1) g)) (hg : ∀ j, j ≤ N → g j = nI (ps j)) (hN : N < 100) (hps : ∀ j, j ≤ N → ps j < 2 ^ 31) (hpl : place < 2 ^ 31) : Ct l D b0 yX1_partWith (wsA yX1_partWith cX1_partWith 4 (some .int)) r0 [.ref (ad c), .int (nI place)] ad F (pRd (some (.int (nI (pwF ps place N)))) ad F) noX := by
  refine Ct.of (by decide +kernel) (by simp [Value.category]) (Nat.le_of_ble_eq_true rfl) (fun X eD eb el C Q => ?_)
  subst eD; subst eb; subst el
  unfold MsgAt at hm
  refine V_iconst (v := 0) C dX1_partWith_0 rfl ?_
  refine V_istore_n C dX1_partWith_1 (by decide) ?_
  refine V_iconst (v := 1) C dX1_partWith_2 rfl ?_
  refine V_istore_n C dX1_partWith_3 (by decide) ?_
  have loop : ∀ (d t : Nat), t + d = N → V X 0 0 4 [(0, .ref (ad c)), (1, .int (nI place)), (2, .int (nI (pwF ps place t))), (3, .int (nI (t + 1)))] [] ad F := by
    intro d
    induction d with
    | zero =>
      intro t hd
      have ht : t = N := by omega
      subst ht
      refine V_iload_n C dX1_partWith_4 rfl ?_
      refine V_aload_n C dX1_partWith_5 rfl ?_
      refine V_get C dX1_partWith_6 fr_1_41 hm rfl ?_
      refine V_alen C dX1_partWith_9 hs rfl ?_
      refine V_icmpge_t (tgt := 31) C dX1_partWith_10 (by decide) (Int32.le_refl _) ?_
      refine V_iload_n C dX1_partWith_31 rfl ?_
      exact V_ireturn C Q dX1_partWith_32 rfl (Nat.le_of_ble_eq_true rfl) (Nat.le_of_ble_eq_true rfl) ⟨rfl, rfl, rfl⟩
    | succ d ih =>
      intro t hd
      have h1 := hps (t + 1) (by omega)
      refine V_iload_n C dX1_partWith_4 rfl ?_
      refine V_aload_n C dX1_partWith_5 rfl ?_
      refine V_get C dX1_partWith_6 fr_1_41 hm rfl ?_
      refine V_alen C dX1_partWith_9 hs rfl ?_
      refine V_icmpge_f (tgt := 31) C dX1_partWith_10 (by decide) (nI_ge (by omega) (by omega)) ?_
      refine V_iload_n C dX1_partWith_13 rfl ?_
      refine V_aload_n C dX1_partWith_14 rfl ?_
      refine V_get C dX1_partWith_15 fr_1_41 hm rfl ?_
      refine V_iload_n C dX1_partWith_18 rfl ?_
      refine V_iald C dX1_partWith_19 hs rfl (by omega) (by omega) ?_
      refine V_nm (hg (t + 1) (by omega)) ?_
      refine V_icmplt (tgt := 25) C dX1_partWith_20 (by decide) (fun hc => ?_) (fun hc => ?_)
      · have e : pwF ps place (t + 1) = pwF ps place t := by rw [pwF, if_neg (fun h => nI_nlt h hpl hc)]
        refine V_iinc C dX1_partWith_25 rfl (nI_inc _) (by decide) ?_
        refine V_goto (tgt := 4) C dX1_partWith_28 (by decide) ?_
        refine V_sb (ih (t + 1) (by omega)) ⟨rfl, rfl, by rw [e]; rfl, rfl, trivial⟩
      · have e : pwF ps place (t + 1) = t + 1 := by rw [pwF, if_pos (Nat.le_of_not_lt fun h => hc (nI_lt h h1))]
        refine V_iload_n C dX1_partWith_23 rfl ?_
        refine V_istore_n C dX1_partWith_24 (by decide) ?_
        refine V_iinc C dX1_partWith_25 rfl (nI_inc _) (by decide) ?_
        refine V_goto (tgt := 4) C dX1_partWith_28 (by decide) ?_
        refine V_sb (ih (t + 1) (by omega)) ⟨rfl, rfl, by rw [e]; rfl, rfl, trivial⟩
  refine V_sb (loop N 0 (by omega)) ⟨rfl, rfl, rfl, rfl, trivial⟩
set_option maxHeartbeats 400000 in
set_option maxRecDepth 100000 in
/-- Arrays.fill -/
theorem c_fill {l : Launch} {D : Dx} {b0 : Nat} {ad : Nat → Nat} {F : Fn} (a N : Nat) (f : Nat → Int32) (x : Int32) (ha : F a = some (aI D N f)) (hN : N < 2 ^ 31) : Ct l D b0 yJ7_fill_53178 (wsA yJ7_fill_53178 cJ7_fill_53178 4 none) r0 [.ref (ad a), .int x] ad F (fun v ad1 F1 => v = none ∧ ad = ad1 ∧ (∃ g, F1 a = some (aI D N g) ∧ ∀ j, j < N → g j = x) ∧ ∀ z, z ≠ a → F1 z = F z) noX := by
  refine Ct.of (by decide +kernel) (by simp [Value.category]) (Nat.le_of_ble_eq_true rfl) (fun X eD eb el C Q => ?_)
  subst eD; subst eb; subst el
  refine V_iconst (v := 0) C dJ7_fill_53178_0 rfl ?_
  refine V_istore_n C dJ7_fill_53178_1 (by decide) ?_
  refine V_aload_n C dJ7_fill_53178_2 rfl ?_
  refine V_alen C dJ7_fill_53178_3 ha rfl ?_
  refine V_istore_n C dJ7_fill_53178_4 (by decide) ?_
  have loop : ∀ (d t : Nat) (G : Fn) (g : Nat → Int32), t + d = N → G a = some (aI (xD X) N g) → (∀ j, j < t → g j = x) → (∀ z, z ≠ a → G z = F z) → V X 0 0 5 [(0, .ref (ad a)), (1, .int x), (2, .int (nI t)), (3, .int (nI N))] [] ad G := by
    intro d
    induction d with
    | zero =>
      intro t G g hd ha hg hK
      have ht : t = N := by omega
      subst ht
      refine V_iload_n C dJ7_fill_53178_5 rfl ?_
      refine V_iload_n C dJ7_fill_53178_6 rfl ?_
      refine V_icmpge_t (tgt := 20) C dJ7_fill_53178_7 (by decide) (Int32.le_refl _) ?_
      exact V_return C Q dJ7_fill_53178_20 (Nat.le_of_ble_eq_true rfl) (Nat.le_of_ble_eq_true rfl) ⟨rfl, rfl, ⟨g, ha, hg⟩, hK⟩
    | succ d ih =>
      intro t G g hd ha hg hK
      refine V_iload_n C dJ7_fill_53178_5 rfl ?_
      refine V_iload_n C dJ7_fill_53178_6 rfl ?_
      refine V_icmpge_f (tgt := 20) C dJ7_fill_53178_7 (by decide) (nI_ge (by omega) hN) ?_
      refine V_aload_n C dJ7_fill_53178_10 rfl ?_
      refine V_iload_n C dJ7_fill_53178_11 rfl ?_
      refine V_iload_n C dJ7_fill_53178_12 rfl ?_
      refine G_iast C dJ7_fill_53178_13 ha rfl (by omega) hN (fun G1 ha hfr => ?_)
      refine V_iinc C dJ7_fill_53178_14 rfl (nI_inc _) (by decide) ?_
      refine V_goto (tgt := 5) C dJ7_fill_53178_17 (by decide) ?_
      refine V_sb (ih (t + 1) G1 _ (by omega) ha (fun j hj => ?_) (fun z hz => (hfr z hz).trans (hK z hz))) ⟨rfl, rfl, rfl, rfl, trivial⟩
      by_cases e : j = t
      · subst e; simp [upd]
      · simp [upd, e]; exact hg j (by omega)
  refine V_sb (loop N 0 F f (by omega) ha (fun j hj => absurd hj (Nat.not_lt_zero j)) (fun _ _ => rfl)) ⟨rfl, rfl, rfl, rfl, trivial⟩
def RcpAt (ad : Nat → Nat) (F : Fn) (c k s la : Nat) : Prop := F c = some (oB 3 [.ref (ad k), .ref (ad s), .ref (ad la)])
def svW (kw : Nat → Int32) (x : Int32) : Nat := if kw 1 = x then 1 else if kw 2 = x then 2 else if kw 3 = x then 3 else if kw 4 = x then 4 else 0
set_option maxHeartbeats 400000 in
set_option maxRecDepth 100000 in
/-- Reception.serviceWith -/
theorem c_serviceWith {l : Launch} {D : Dx} {b0 : Nat} {ad : Nat → Nat} {F : Fn} (c k s la : Nat) (kw : Nat → Int32) (x : Int32) (hr : RcpAt ad F c k s la) (hk : F k = some (aI D 5 kw)) : Ct l D b0 yX3_serviceWith (wsA yX3_serviceWith cX3_serviceWith 3 (some .int)) r0 [.ref (ad c), .int x] ad F (pRd (some (.int (nI (svW kw x)))) ad F) noX := by
  refine Ct.of (by decide +kernel) (by simp [Value.category]) (Nat.le_of_ble_eq_true rfl) (fun X eD eb el C Q => ?_)
  subst eD; subst eb; subst el
  unfold RcpAt at hr
  refine V_iconst (v := 1) C dX3_serviceWith_0 rfl ?_
  refine V_istore_n C dX3_serviceWith_1 (by decide) ?_
  refine V_iload_n C dX3_serviceWith_2 rfl ?_
  refine V_aload_n C dX3_serviceWith_3 rfl ?_
  refine V_get C dX3_serviceWith_4 fr_3_9 hr rfl ?_
  refine V_alen C dX3_serviceWith_7 hk rfl ?_
  refine V_icmpge_f (tgt := 29) C dX3_serviceWith_8 (by decide) (by decide) ?_
  refine V_aload_n C dX3_serviceWith_11 rfl ?_
  refine V_get C dX3_serviceWith_12 fr_3_9 hr rfl ?_
  refine V_iload_n C dX3_serviceWith_15 rfl ?_
  refine V_iald C dX3_serviceWith_16 hk (show _ = nI 1 from rfl) (by decide) (by decide) ?_
  refine V_iload_n C dX3_serviceWith_17 rfl ?_
  refine V_icmpne (tgt := 23) C dX3_serviceWith_18 (by decide) (fun h1 => ?_) (fun h1 => ?_)
  · refine V_iinc C dX3_serviceWith_23 rfl rfl (by decide) ?_
    refine V_goto (tgt := 2) C dX3_serviceWith_26 (by decide) ?_
    refine V_iload_n C dX3_serviceWith_2 rfl ?_
    refine V_aload_n C dX3_serviceWith_3 rfl ?_
    refine V_get C dX3_serviceWith_4 fr_3_9 hr rfl ?_
    refine V_alen C dX3_serviceWith_7 hk rfl ?_
    refine V_icmpge_f (tgt := 29) C dX3_serviceWith_8 (by decide) (by decide) ?_
    refine V_aload_n C dX3_serviceWith_11 rfl ?_
    refine V_get C dX3_serviceWith_12 fr_3_9 hr rfl ?_
    refine V_iload_n C dX3_serviceWith_15 rfl ?_
    refine V_iald C dX3_serviceWith_16 hk (show _ = nI 2 from rfl) (by decide) (by decide) ?_
    refine V_iload_n C dX3_serviceWith_17 rfl ?_
    refine V_icmpne (tgt := 23) C dX3_serviceWith_18 (by decide) (fun h2 => ?_) (fun h2 => ?_)
    · refine V_iinc C dX3_serviceWith_23 rfl rfl (by decide) ?_
      refine V_goto (tgt := 2) C dX3_serviceWith_26 (by decide) ?_
      refine V_iload_n C dX3_serviceWith_2 rfl ?_
      refine V_aload_n C dX3_serviceWith_3 rfl ?_
      refine V_get C dX3_serviceWith_4 fr_3_9 hr rfl ?_
      refine V_alen C dX3_serviceWith_7 hk rfl ?_
      refine V_icmpge_f (tgt := 29) C dX3_serviceWith_8 (by decide) (by decide) ?_
      refine V_aload_n C dX3_serviceWith_11 rfl ?_
      refine V_get C dX3_serviceWith_12 fr_3_9 hr rfl ?_
      refine V_iload_n C dX3_serviceWith_15 rfl ?_
      refine V_iald C dX3_serviceWith_16 hk (show _ = nI 3 from rfl) (by decide) (by decide) ?_
      refine V_iload_n C dX3_serviceWith_17 rfl ?_
      refine V_icmpne (tgt := 23) C dX3_serviceWith_18 (by decide) (fun h3 => ?_) (fun h3 => ?_)
      · refine V_iinc C dX3_serviceWith_23 rfl rfl (by decide) ?_
        refine V_goto (tgt := 2) C dX3_serviceWith_26 (by decide) ?_
        refine V_iload_n C dX3_serviceWith_2 rfl ?_
        refine V_aload_n C dX3_serviceWith_3 rfl ?_
        refine V_get C dX3_serviceWith_4 fr_3_9 hr rfl ?_
        refine V_alen C dX3_serviceWith_7 hk rfl ?_
        refine V_icmpge_f (tgt := 29) C dX3_serviceWith_8 (by decide) (by decide) ?_
        refine V_aload_n C dX3_serviceWith_11 rfl ?_
        refine V_get C dX3_serviceWith_12 fr_3_9 hr rfl ?_
        refine V_iload_n C dX3_serviceWith_15 rfl ?_
        refine V_iald C dX3_serviceWith_16 hk (show _ = nI 4 from rfl) (by decide) (by decide) ?_
        refine V_iload_n C dX3_serviceWith_17 rfl ?_
        refine V_icmpne (tgt := 23) C dX3_serviceWith_18 (by decide) (fun h4 => ?_) (fun h4 => ?_)
        · refine V_iinc C dX3_serviceWith_23 rfl rfl (by decide) ?_
          refine V_goto (tgt := 2) C dX3_serviceWith_26 (by decide) ?_
          refine V_iload_n C dX3_serviceWith_2 rfl ?_
          refine V_aload_n C dX3_serviceWith_3 rfl ?_
          refine V_get C dX3_serviceWith_4 fr_3_9 hr rfl ?_
          refine V_alen C dX3_serviceWith_7 hk rfl ?_
          refine V_icmpge_t (tgt := 29) C dX3_serviceWith_8 (by decide) (by decide) ?_
          refine V_iconst (v := 0) C dX3_serviceWith_29 rfl ?_
          exact V_ireturn C Q dX3_serviceWith_30 rfl (Nat.le_of_ble_eq_true rfl) (Nat.le_of_ble_eq_true rfl) ⟨by simp only [svW]; rw [if_neg h1, if_neg h2, if_neg h3, if_neg h4]; rfl, rfl, rfl⟩
        · refine V_iload_n C dX3_serviceWith_21 rfl ?_
          exact V_ireturn C Q dX3_serviceWith_22 rfl (Nat.le_of_ble_eq_true rfl) (Nat.le_of_ble_eq_true rfl) ⟨by simp only [svW]; rw [if_neg h1, if_neg h2, if_neg h3, if_pos h4]; rfl, rfl, rfl⟩
      · refine V_iload_n C dX3_serviceWith_21 rfl ?_
        exact V_ireturn C Q dX3_serviceWith_22 rfl (Nat.le_of_ble_eq_true rfl) (Nat.le_of_ble_eq_true rfl) ⟨by simp only [svW]; rw [if_neg h1, if_neg h2, if_pos h3]; rfl, rfl, rfl⟩
    · refine V_iload_n C dX3_serviceWith_21 rfl ?_
      exact V_ireturn C Q dX3_serviceWith_22 rfl (Nat.le_of_ble_eq_true rfl) (Nat.le_of_ble_eq_true rfl) ⟨by simp only [svW]; rw [if_neg h1, if_pos h2]; rfl, rfl, rfl⟩
  · refine V_iload_n C dX3_serviceWith_21 rfl ?_
    exact V_ireturn C Q dX3_serviceWith_22 rfl (Nat.le_of_ble_eq_true rfl) (Nat.le_of_ble_eq_true rfl) ⟨by simp only [svW]; rw [if_pos h1]; rfl, rfl, rfl⟩
def gkF (kw : Nat → Int32) (sv : Nat) (x : Int32) (j : Nat) : Int32 := if j = sv then x else if kw j = x then -1 else kw j
set_option maxHeartbeats 400000 in
set_option maxRecDepth 100000 in
/-- Reception.giveKeyword -/
theorem c_giveKeyword {l : Launch} {D : Dx} {b0 : Nat} {ad : Nat → Nat} {F : Fn} (c k s la sv : Nat) (kw : Nat → Int32) (x : Int32) (hr : RcpAt ad F c k s la) (hk : F k = some (aI D 5 kw)) (hsv : sv < 5) : Ct l D b0 yX3_giveKeyword (wsA yX3_giveKeyword cX3_giveKeyword 4 none) r0 [.ref (ad c), .int (nI sv), .int x] ad F (fun v ad1 F1 => v = none ∧ ad = ad1 ∧ (∃ g, F1 k = some (aI D 5 g) ∧ ∀ j, j < 5 → g j = gkF kw sv x j) ∧ ∀ z, z ≠ k → F1 z = F z) noX := by
  refine Ct.of (by decide +kernel) (by simp [Value.category]) (Nat.le_of_ble_eq_true rfl) (fun X eD eb el C Q => ?_)
  subst eD; subst eb; subst el
  unfold RcpAt at hr
  have hck : c ≠ k := obj_ne hk hr
  refine V_iconst (v := 0) C dX3_giveKeyword_0 rfl ?_
  refine V_istore_n C dX3_giveKeyword_1 (by decide) ?_
  have loop : ∀ (d t : Nat) (G : Fn) (g : Nat → Int32), t + d = 5 → G c = some (oB 3 [.ref (ad k), .ref (ad s), .ref (ad la)]) → G k = some (aI (xD X) 5 g) → (∀ j, j < t → g j = gkF kw sv x j) → (∀ j, t ≤ j → g j = kw j) → (∀ z, z ≠ k → G z = F z) →
      V X 0 0 2 [(0, .ref (ad c)), (1, .int (nI sv)), (2, .int x), (3, .int (nI t))] [] ad G := by
    intro d
    induction d with
    | zero =>
      intro t G g hd hr hk h1 h2 hK
      have ht : t = 5 := by omega
      subst ht
      refine V_iload_n C dX3_giveKeyword_2 rfl ?_
      refine V_aload_n C dX3_giveKeyword_3 rfl ?_
      refine V_get C dX3_giveKeyword_4 fr_3_9 hr rfl ?_
      refine V_alen C dX3_giveKeyword_7 hk rfl ?_
      refine V_icmpge_t (tgt := 49) C dX3_giveKeyword_8 (by decide) (Int32.le_refl _) ?_
      exact V_return C Q dX3_giveKeyword_49 (Nat.le_of_ble_eq_true rfl) (Nat.le_of_ble_eq_true rfl) ⟨rfl, rfl, ⟨g, hk, h1⟩, hK⟩
    | succ d ih =>
      intro t G g hd hr hk h1 h2 hK
      refine V_iload_n C dX3_giveKeyword_2 rfl ?_
      refine V_aload_n C dX3_giveKeyword_3 rfl ?_
      refine V_get C dX3_giveKeyword_4 fr_3_9 hr rfl ?_
      refine V_alen C dX3_giveKeyword_7 hk rfl ?_
      refine V_icmpge_f (tgt := 49) C dX3_giveKeyword_8 (by decide) (nI_ge (by omega) (by omega)) ?_
      refine V_iload_n C dX3_giveKeyword_11 rfl ?_
      refine V_iload_n C dX3_giveKeyword_12 rfl ?_
      refine V_icmpne (tgt := 26) C dX3_giveKeyword_13 (by decide) (fun hc => ?_) (fun hc => ?_)
      · have hts : ¬ t = sv := fun e => hc (by rw [e])
        refine V_aload_n C dX3_giveKeyword_26 rfl ?_
        refine V_get C dX3_giveKeyword_27 fr_3_9 hr rfl ?_
        refine V_iload_n C dX3_giveKeyword_30 rfl ?_
        refine V_iald C dX3_giveKeyword_31 hk rfl (by omega) (by decide) ?_
        refine V_nm (h2 t (Nat.le_refl t)) ?_
        refine V_iload_n C dX3_giveKeyword_32 rfl ?_
        refine V_icmpne (tgt := 43) C dX3_giveKeyword_33 (by decide) (fun hc2 => ?_) (fun hc2 => ?_)
        · refine V_iinc C dX3_giveKeyword_43 rfl (nI_inc _) (by decide) ?_
          refine V_goto (tgt := 2) C dX3_giveKeyword_46 (by decide) ?_
          refine V_sb (ih (t + 1) G _ (by omega) hr hk (fun j hj => ?_) (fun j hj => ?_) hK) ⟨rfl, rfl, rfl, rfl, trivial⟩
          · by_cases e : j = t
            · subst e; simp only [gkF]; rw [if_neg hts, if_neg hc2]; exact h2 j (Nat.le_refl j)
            · exact h1 j (by omega)
          · exact h2 j (by omega)
        · refine V_aload_n C dX3_giveKeyword_36 rfl ?_
          refine V_get C dX3_giveKeyword_37 fr_3_9 hr rfl ?_
          refine V_iload_n C dX3_giveKeyword_40 rfl ?_
          refine V_iconst (v := (-1)) C dX3_giveKeyword_41 rfl ?_
          refine G_iast C dX3_giveKeyword_42 hk rfl (by omega) (by decide) (fun G1 hk hfr => ?_)
          have hr := (hfr _ hck).trans hr
          refine V_iinc C dX3_giveKeyword_43 rfl (nI_inc _) (by decide) ?_
          refine V_goto (tgt := 2) C dX3_giveKeyword_46 (by decide) ?_
          refine V_sb (ih (t + 1) G1 _ (by omega) hr hk (fun j hj => ?_) (fun j hj => ?_) (fun z hz => (hfr z hz).trans (hK z hz))) ⟨rfl, rfl, rfl, rfl, trivial⟩
          · by_cases e : j = t
            · subst e; simp only [upd, if_pos, gkF]; rw [if_neg hts, if_pos hc2]
            · simp only [upd, if_neg e]; exact h1 j (by omega)
          · rw [upd, if_neg (by omega)]; exact h2 j (by omega)
      · have hts : t = sv := (nI_eq (by omega) (by omega)).mp hc
        refine V_aload_n C dX3_giveKeyword_16 rfl ?_
        refine V_get C dX3_giveKeyword_17 fr_3_9 hr rfl ?_
        refine V_iload_n C dX3_giveKeyword_20 rfl ?_
        refine V_iload_n C dX3_giveKeyword_21 rfl ?_
        refine G_iast C dX3_giveKeyword_22 hk rfl (by omega) (by decide) (fun G1 hk hfr => ?_)
        have hr := (hfr _ hck).trans hr
        refine V_goto (tgt := 43) C dX3_giveKeyword_23 (by decide) ?_
        refine V_iinc C dX3_giveKeyword_43 rfl (nI_inc _) (by decide) ?_
        refine V_goto (tgt := 2) C dX3_giveKeyword_46 (by decide) ?_
        refine V_sb (ih (t + 1) G1 _ (by omega) hr hk (fun j hj => ?_) (fun j hj => ?_) (fun z hz => (hfr z hz).trans (hK z hz))) ⟨rfl, rfl, rfl, rfl, trivial⟩
        · by_cases e : j = t
          · subst e; simp only [upd, if_pos, gkF]; rw [if_pos hts]
          · simp only [upd, if_neg e]; exact h1 j (by omega)
        · rw [upd, if_neg (by omega)]; exact h2 j (by omega)
  refine V_sb (loop 5 0 F kw rfl hr hk (fun j hj => absurd hj (Nat.not_lt_zero j)) (fun _ _ => rfl) (fun _ _ => rfl)) ⟨rfl, rfl, rfl, rfl, trivial⟩
/-- the session behind an incoming text -/
def seW (kw se lt : Nat → Int32) (p : Nat) (x now : Int32) : Int32 := if svW kw x = 0 then (if 20 ≤ now - lt p then 0 else se p) else nI (svW kw x)
theorem svW_lt (kw : Nat → Int32) (x : Int32) : svW kw x < 5 := by unfold svW; (repeat' split) <;> decide
set_option maxHeartbeats 400000 in
set_option maxRecDepth 100000 in
/-- Reception.serviceFor -/
theorem c_serviceFor {l : Launch} {D : Dx} {b0 : Nat} {ad : Nat → Nat} {F : Fn} (c k s la p : Nat) (kw se lt : Nat → Int32) (x now : Int32) (hr : RcpAt ad F c k s la) (hk : F k = some (aI D 5 kw)) (hs : F s = some (aI D 9 se)) (hla : F la = some (aI D 9 lt)) (hp9 : p < 9) (hsl : s ≠ la) : Ct l D b0 yX3_serviceFor (wsA yX3_serviceFor cX3_serviceFor 5 (some .int)) (rK 1) [.ref (ad c), .int (nI p), .int x, .int now] ad F (fun v ad1 F1 => v = some (.int (seW kw se lt p x now)) ∧ ad = ad1 ∧ F1 s = some (aI D 9 (upd se p (seW kw se lt p x now))) ∧ F1 la = some (aI D 9 (upd lt p now)) ∧ ∀ z, z ∉ [s, la] → F1 z = F z) noX := by
  refine Ct.of (by decide +kernel) (by simp [Value.category]) (Nat.le_of_ble_eq_true rfl) (fun X eD eb el C Q => ?_)
  subst eD; subst eb; subst el
  have hr0 := hr
  unfold RcpAt at hr
  have hcs : c ≠ s := obj_ne hs hr
  have hcl : c ≠ la := obj_ne hla hr
  have hv5 := svW_lt kw x
  refine V_iload_n C dX3_serviceFor_0 rfl ?_
  refine V_iflt_f (tgt := 22) C dX3_serviceFor_1 (by decide) (nI_pos (by omega)) ?_
  refine V_iload_n C dX3_serviceFor_4 rfl ?_
  refine V_aload_n C dX3_serviceFor_5 rfl ?_
  refine V_get C dX3_serviceFor_6 fr_3_15 hr rfl ?_
  refine V_alen C dX3_serviceFor_9 hs rfl ?_
  refine V_icmpge_f (tgt := 22) C dX3_serviceFor_10 (by decide) (nI_ge (b := 9) hp9 (by decide)) ?_
  refine V_iload_n C dX3_serviceFor_13 rfl ?_
  refine V_aload_n C dX3_serviceFor_14 rfl ?_
  refine V_get C dX3_serviceFor_15 fr_3_18 hr rfl ?_
  refine V_alen C dX3_serviceFor_18 hla rfl ?_
  refine V_icmplt_t (tgt := 24) C dX3_serviceFor_19 (by decide) (nI_lt (b := 9) hp9 (by decide)) ?_
  refine V_aload_n C dX3_serviceFor_24 rfl ?_
  refine V_iload_n C dX3_serviceFor_25 rfl ?_
  refine V_invV C dX3_serviceFor_26 hr rfl (c_serviceWith c k s la kw x hr0 hk) mv_3_27 rfl (Nat.le_of_ble_eq_true rfl) ⟨Nat.le_of_ble_eq_true rfl, Nat.le_of_ble_eq_true rfl⟩ ⟨Nat.le_of_ble_eq_true rfl, Nat.le_of_ble_eq_true rfl⟩ (fun _ _ _ h => VT_no h) (fun v ad1 F1 hp => ?_)
  obtain ⟨rfl, rfl, rfl⟩ := hp
  have hK : ∀ z, z ∉ [s, la] → F z = F z := fun _ _ => rfl
  refine V_istore C dX3_serviceFor_29 (by decide) ?_
  refine V_iload C dX3_serviceFor_31 rfl ?_
  refine V_ifeq (tgt := 47) C dX3_serviceFor_33 (by decide) (fun hc => ?_) (fun hc => ?_)
  · have h0 : svW kw x = 0 := (nI_eq (b := 0) (by omega) (by decide)).mp hc
    refine V_iload_n C dX3_serviceFor_47 rfl ?_
    refine V_aload_n C dX3_serviceFor_48 rfl ?_
    refine V_get C dX3_serviceFor_49 fr_3_18 hr rfl ?_
    refine V_iload_n C dX3_serviceFor_52 rfl ?_
    refine V_iald C dX3_serviceFor_53 hla rfl hp9 (by decide) ?_
    refine V_isub C dX3_serviceFor_54 ?_
    refine V_bipush (v := 20) C dX3_serviceFor_55 (by decide) ?_
    refine V_icmplt (tgt := 67) C dX3_serviceFor_57 (by decide) (fun hc2 => ?_) (fun hc2 => ?_)
    · have h20 : ¬ (20 : Int32) ≤ now - lt p := Int32.not_le.mpr hc2
      refine V_aload_n C dX3_serviceFor_67 rfl ?_
      refine V_get C dX3_serviceFor_68 fr_3_18 hr rfl ?_
      refine V_iload_n C dX3_serviceFor_71 rfl ?_
      refine V_iload_n C dX3_serviceFor_72 rfl ?_
      refine G_iast C dX3_serviceFor_73 hla rfl hp9 (by decide) (fun G1 hla hfr => ?_)
      have hr := (hfr _ hcl).trans hr
      have hs := (hfr _ hsl).trans hs
      have hK := fr_step hK hfr (by simp)
      refine V_aload_n C dX3_serviceFor_74 rfl ?_
      refine V_get C dX3_serviceFor_75 fr_3_15 hr rfl ?_
      refine V_iload_n C dX3_serviceFor_78 rfl ?_
      refine V_iald C dX3_serviceFor_79 hs rfl hp9 (by decide) ?_
      have ev : se p = seW kw se lt p x now := by simp only [seW]; rw [if_pos h0, if_neg h20]
      have es : upd se p (se p) = se := by funext j; simp only [upd]; split <;> simp_all
      have hs : G1 s = some (aI (xD X) 9 (upd se p (seW kw se lt p x now))) := by rw [← ev, es]; exact hs
      refine V_nm ev ?_
      exact V_ireturn C Q dX3_serviceFor_80 rfl (Nat.le_of_ble_eq_true rfl) (Nat.le_of_ble_eq_true rfl) ⟨rfl, rfl, hs, hla, hK⟩
    · have h20 : (20 : Int32) ≤ now - lt p := Int32.not_lt.mp hc2
      refine V_aload_n C dX3_serviceFor_60 rfl ?_
      refine V_get C dX3_serviceFor_61 fr_3_15 hr rfl ?_
      refine V_iload_n C dX3_serviceFor_64 rfl ?_
      refine V_iconst (v := 0) C dX3_serviceFor_65 rfl ?_
      refine G_iast C dX3_serviceFor_66 hs rfl hp9 (by decide) (fun G1 hs hfr => ?_)
      have hr := (hfr _ hcs).trans hr
      have hla := (hfr _ hsl.symm).trans hla
      have hK := fr_step hK hfr (by simp)
      refine V_aload_n C dX3_serviceFor_67 rfl ?_
      refine V_get C dX3_serviceFor_68 fr_3_18 hr rfl ?_
      refine V_iload_n C dX3_serviceFor_71 rfl ?_
      refine V_iload_n C dX3_serviceFor_72 rfl ?_
      refine G_iast C dX3_serviceFor_73 hla rfl hp9 (by decide) (fun G2 hla hfr => ?_)
      have hr := (hfr _ hcl).trans hr
      have hs := (hfr _ hsl).trans hs
      have hK := fr_step hK hfr (by simp)
      refine V_aload_n C dX3_serviceFor_74 rfl ?_
      refine V_get C dX3_serviceFor_75 fr_3_15 hr rfl ?_
      refine V_iload_n C dX3_serviceFor_78 rfl ?_
      refine V_iald C dX3_serviceFor_79 hs rfl hp9 (by decide) ?_
      have ev : (0 : Int32) = seW kw se lt p x now := by simp only [seW]; rw [if_pos h0, if_pos h20]
      rw [ev] at hs ⊢
      refine V_nm (w := seW kw se lt p x now) (by simp [upd]) ?_
      exact V_ireturn C Q dX3_serviceFor_80 rfl (Nat.le_of_ble_eq_true rfl) (Nat.le_of_ble_eq_true rfl) ⟨rfl, rfl, hs, hla, hK⟩
  · have h0 : ¬ svW kw x = 0 := fun e => hc (by rw [e]; rfl)
    refine V_aload_n C dX3_serviceFor_36 rfl ?_
    refine V_get C dX3_serviceFor_37 fr_3_15 hr rfl ?_
    refine V_iload_n C dX3_serviceFor_40 rfl ?_
    refine V_iload C dX3_serviceFor_41 rfl ?_
    refine G_iast C dX3_serviceFor_43 hs rfl hp9 (by decide) (fun G1 hs hfr => ?_)
    have hr := (hfr _ hcs).trans hr
    have hla := (hfr _ hsl.symm).trans hla
    have hK := fr_step hK hfr (by simp)
    refine V_goto (tgt := 67) C dX3_serviceFor_44 (by decide) ?_
    refine V_aload_n C dX3_serviceFor_67 rfl ?_
    refine V_get C dX3_serviceFor_68 fr_3_18 hr rfl ?_
    refine V_iload_n C dX3_serviceFor_71 rfl ?_
    refine V_iload_n C dX3_serviceFor_72 rfl ?_
    refine G_iast C dX3_serviceFor_73 hla rfl hp9 (by decide) (fun G2 hla hfr => ?_)
    have hr := (hfr _ hcl).trans hr
    have hs := (hfr _ hsl).trans hs
    have hK := fr_step hK hfr (by simp)
    refine V_aload_n C dX3_serviceFor_74 rfl ?_
    refine V_get C dX3_serviceFor_75 fr_3_15 hr rfl ?_
    refine V_iload_n C dX3_serviceFor_78 rfl ?_
    refine V_iald C dX3_serviceFor_79 hs rfl hp9 (by decide) ?_
    have ev : nI (svW kw x) = seW kw se lt p x now := by simp only [seW]; rw [if_neg h0]
    rw [ev] at hs ⊢
    refine V_nm (w := seW kw se lt p x now) (by simp [upd]) ?_
    exact V_ireturn C Q dX3_serviceFor_80 rfl (Nat.le_of_ble_eq_true rfl) (Nat.le_of_ble_eq_true rfl) ⟨rfl, rfl, hs, hla, hK⟩
end
section
/-! ===== THE TEXT, as numbers: widths, parts, where they begin ===== -/
def w1 (s : Nat) : Nat := if s < 128 then 1 else 2
def wideL (L : List Nat) : Bool := L.any (fun s => decide (160 ≤ s))
def septL (L : List Nat) : Nat := (L.map w1).sum
def szL (L : List Nat) : List Nat := L.map (fun s => if wideL L then 1 else w1 s)
def roomL (L : List Nat) : Nat := if wideL L then (if L.length ≤ 70 then 70 else 67) else (if septL L ≤ 160 then 160 else 153)
/-- how many of the sizes, from the first on, fit into r -/
def takeN : Nat → List Nat → Nat
  | _, [] => 0
  | r, s :: z => if s ≤ r then takeN (r - s) z + 1 else 0
def posn (r : Nat) (Z : List Nat) : Nat → Nat
  | 0 => 0
  | k + 1 => posn r Z k + takeN r (Z.drop (posn r Z k))
def posL (L : List Nat) (k : Nat) : Nat := posn (roomL L) (szL L) k
def npL (L : List Nat) : Nat := ((List.range 6).filter (fun k => decide (posL L k < L.length))).length
theorem w1_12 (s : Nat) : w1 s = 1 ∨ w1 s = 2 := by unfold w1; split <;> simp
theorem szL_len (L : List Nat) : (szL L).length = L.length := by simp [szL]
theorem szL_12 {L : List Nat} : ∀ s ∈ szL L, 1 ≤ s ∧ s ≤ 2 := by
  intro s hs
  obtain ⟨x, -, rfl⟩ := List.mem_map.mp hs
  split
  · decide
  · rcases w1_12 x with h | h <;> rw [h] <;> decide
theorem takeN_le : ∀ (Z : List Nat) (r : Nat), takeN r Z ≤ Z.length
  | [], _ => Nat.le_refl _
  | s :: z, r => by
    unfold takeN
    split
    · have := takeN_le z (r - s); simp; omega
    · simp
theorem takeN_iff : ∀ (Z : List Nat) (r t : Nat), t ≤ Z.length → ((Z.take t).sum ≤ r ↔ t ≤ takeN r Z)
  | [], r, t, h => by simp at h; subst h; simp
  | s :: z, r, 0, _ => by simp
  | s :: z, r, t + 1, h => by
    have h1 : t ≤ z.length := by simpa using h
    rw [List.take_succ_cons, List.sum_cons, takeN]
    by_cases hs : s ≤ r
    · rw [if_pos hs]
      have := takeN_iff z (r - s) t h1
      constructor
      · intro hh
        have := this.mp (by omega)
        omega
      · intro hh
        have := this.mpr (by omega)
        omega
    · rw [if_neg hs]
      constructor
      · intro hh; omega
      · intro hh; omega
theorem posn_le (r : Nat) (Z : List Nat) : ∀ k, posn r Z k ≤ Z.length
  | 0 => Nat.zero_le _
  | k + 1 => by
    have h1 := posn_le r Z k
    have h2 := takeN_le (Z.drop (posn r Z k)) r
    rw [List.length_drop] at h2
    unfold posn
    omega
theorem posn_mono (r : Nat) (Z : List Nat) (k : Nat) : posn r Z k ≤ posn r Z (k + 1) := by
  show posn r Z k ≤ posn r Z k + _
  omega
theorem posn_mono_le (r : Nat) (Z : List Nat) {j k : Nat} (h : j ≤ k) : posn r Z j ≤ posn r Z k := by
  induction k with
  | zero => rw [Nat.le_zero.mp h]; exact Nat.le_refl _
  | succ k ih =>
    rcases Nat.lt_or_ge j (k + 1) with h1 | h1
    · exact Nat.le_trans (ih (by omega)) (posn_mono r Z k)
    · rw [show j = k + 1 by omega]; exact Nat.le_refl _
theorem sum_take_add (Z : List Nat) (a b : Nat) : (Z.take (a + b)).sum = (Z.take a).sum + ((Z.drop a).take b).sum := by
  rw [List.take_add, List.sum_append]
theorem posn_lt {r : Nat} {Z : List Nat} (hr : 2 ≤ r) (hZ : ∀ s ∈ Z, 1 ≤ s ∧ s ≤ 2) {k : Nat} (h : posn r Z k < Z.length) : posn r Z k < posn r Z (k + 1) := by
  have h1 : 1 ≤ takeN r (Z.drop (posn r Z k)) := by
    refine (takeN_iff _ _ 1 (by rw [List.length_drop]; omega)).mp ?_
    rw [List.drop_eq_getElem_cons h, List.take_succ_cons, List.take_zero, List.sum_cons, List.sum_nil]
    have := (hZ _ (List.getElem_mem h)).2
    omega
  show posn r Z k < posn r Z k + _
  omega
/-- a part that isn't the last one leaves no room for one more sign -/
theorem part_full {r : Nat} {Z : List Nat} (hZ : ∀ s ∈ Z, 1 ≤ s ∧ s ≤ 2) {k : Nat} (h : posn r Z (k + 1) < Z.length) : r ≤ ((Z.drop (posn r Z k)).take (takeN r (Z.drop (posn r Z k)))).sum + Z[posn r Z (k + 1)] - 1 := by
  obtain ⟨t, ht⟩ : ∃ t, t = takeN r (Z.drop (posn r Z k)) := ⟨_, rfl⟩
  have hp : posn r Z (k + 1) = posn r Z k + t := by rw [ht]; rfl
  have h1 : ¬ ((Z.drop (posn r Z k)).take (t + 1)).sum ≤ r := fun hh => by
    have := (takeN_iff _ _ (t + 1) (by rw [List.length_drop]; omega)).mp hh
    omega
  have e : (Z.drop (posn r Z k)).take (t + 1) = (Z.drop (posn r Z k)).take t ++ [Z[posn r Z (k + 1)]] := by
    rw [List.take_add_one, List.getElem?_drop, ← hp, List.getElem?_eq_getElem h]
    rfl
  rw [e, List.sum_append] at h1
  rw [← ht]
  simp at h1
  omega
theorem sums_ge {r m : Nat} {Z : List Nat} (hZ : ∀ s ∈ Z, 1 ≤ s ∧ s ≤ 2) (hm : ∀ s ∈ Z, m + s ≤ r + 1) : ∀ k, posn r Z k < Z.length → k * m ≤ (Z.take (posn r Z k)).sum := by
  intro k
  induction k with
  | zero => intro _; simp
  | succ k ih =>
    intro h
    have h1 := ih (Nat.lt_of_le_of_lt (posn_mono r Z k) h)
    have h2 := part_full hZ h
    have h3 := hm _ (List.getElem_mem h)
    have h5 := (hZ _ (List.getElem_mem h)).1
    have h4 : (Z.take (posn r Z (k + 1))).sum = (Z.take (posn r Z k)).sum + ((Z.drop (posn r Z k)).take (takeN r (Z.drop (posn r Z k)))).sum := sum_take_add _ _ _
    rw [h4, Nat.succ_mul]
    omega
theorem one_part {r : Nat} {Z : List Nat} (h : Z.sum ≤ r) : posn r Z 1 = Z.length := by
  have h1 : Z.length ≤ takeN r Z := (takeN_iff Z r Z.length (Nat.le_refl _)).mp (by rw [List.take_length]; exact h)
  have h2 := takeN_le Z r
  show 0 + takeN r (Z.drop 0) = _
  rw [List.drop_zero]
  omega
theorem sum_take_le (Z : List Nat) (t : Nat) : (Z.take t).sum ≤ Z.sum := by
  have h := sum_take_add Z t Z.length
  rw [List.take_of_length_le (by omega)] at h
  omega
theorem sum_le_two : ∀ (Z : List Nat), (∀ s ∈ Z, 1 ≤ s ∧ s ≤ 2) → Z.sum ≤ 2 * Z.length
  | [], _ => by simp
  | s :: z, h => by
    have h1 := (h s List.mem_cons_self).2
    have h2 := sum_le_two z (fun x hx => h x (List.mem_cons_of_mem _ hx))
    simp
    omega
theorem sz_wide {L : List Nat} (h : wideL L = true) : ∀ s ∈ szL L, s = 1 := by
  intro s hs
  obtain ⟨x, -, rfl⟩ := List.mem_map.mp hs
  rw [if_pos h]
theorem sum_ones : ∀ (Z : List Nat), (∀ s ∈ Z, s = 1) → Z.sum = Z.length
  | [], _ => rfl
  | s :: z, h => by
    rw [List.sum_cons, sum_ones z (fun x hx => h x (List.mem_cons_of_mem _ hx)), h s List.mem_cons_self, List.length_cons]
    omega
theorem sz_small {L : List Nat} (h : wideL L = false) : szL L = L.map w1 := by
  unfold szL
  rw [h]
  rfl
theorem roomL_ge (L : List Nat) : 67 ≤ roomL L ∧ roomL L ≤ 160 := by
  unfold roomL
  (repeat' split) <;> decide
/-- at most six parts -/
theorem posL_6 {L : List Nat} (hL : L.length ≤ 400) : posL L 6 = L.length := by
  have h0 : posL L 6 ≤ L.length := by have := posn_le (roomL L) (szL L) 6; rw [szL_len] at this; exact this
  rcases Nat.lt_or_ge (posL L 6) L.length with h | h
  · exfalso
    have hlt : posn (roomL L) (szL L) 6 < (szL L).length := by rw [szL_len]; exact h
    have hs := szL_12 (L := L)
    by_cases hw : wideL L = true
    · have h1 := sz_wide hw
      have hsum := sum_ones _ h1
      rw [szL_len] at hsum
      by_cases h7 : L.length ≤ 70
      · have e : roomL L = 70 := by unfold roomL; rw [if_pos hw, if_pos h7]
        have := one_part (r := 70) (Z := szL L) (by omega)
        have h2 := posn_mono_le 70 (szL L) (show 1 ≤ 6 by decide)
        rw [e] at hlt
        omega
      · have e : roomL L = 67 := by unfold roomL; rw [if_pos hw, if_neg h7]
        have := sums_ge (m := 67) hs (fun s hs2 => by rw [h1 s hs2, e]; decide) 6 hlt
        have h2 := sum_take_le (szL L) (posn (roomL L) (szL L) 6)
        omega
    · have hw : wideL L = false := by simpa using hw
      have e0 : (szL L).sum = septL L := by rw [sz_small hw]; rfl
      by_cases h7 : septL L ≤ 160
      · have e : roomL L = 160 := by unfold roomL; rw [if_neg (by rw [hw]; decide), if_pos h7]
        have := one_part (r := 160) (Z := szL L) (by omega)
        have h2 := posn_mono_le 160 (szL L) (show 1 ≤ 6 by decide)
        rw [e] at hlt
        omega
      · have e : roomL L = 153 := by unfold roomL; rw [if_neg (by rw [hw]; decide), if_neg h7]
        have := sums_ge (m := 152) hs (fun s hs2 => by have := (hs s hs2).2; omega) 6 hlt
        have h2 := sum_take_le (szL L) (posn (roomL L) (szL L) 6)
        have h3 := sum_le_two _ hs
        rw [szL_len] at h3
        omega
  · omega
theorem posL_le (L : List Nat) (k : Nat) : posL L k ≤ L.length := by have := posn_le (roomL L) (szL L) k; rw [szL_len] at this; exact this
theorem posL_mono (L : List Nat) {j k : Nat} (h : j ≤ k) : posL L j ≤ posL L k := posn_mono_le _ _ h
theorem posL_lt {L : List Nat} {k : Nat} (h : posL L k < L.length) : posL L k < posL L (k + 1) := posn_lt (by have := (roomL_ge L).1; omega) szL_12 (by rw [szL_len]; exact h)
theorem posL_ge6 {L : List Nat} (hL : L.length ≤ 400) {k : Nat} (h : 6 ≤ k) : posL L k = L.length := Nat.le_antisymm (posL_le L k) (by have := posL_mono L h; rw [posL_6 hL] at this; exact this)
/-- counting what holds below a border -/
theorem cnt_below {p : Nat → Bool} (m : Nat) : ∀ n, m ≤ n → (∀ k, k < n → (p k = true ↔ k < m)) → ((List.range n).filter p).length = m := by
  intro n
  induction n with
  | zero => intro h _; simp; omega
  | succ n ih =>
    intro hm hp
    rw [List.range_succ, List.filter_append, List.length_append]
    by_cases h : n < m
    · have : m = n + 1 := by omega
      subst this
      have h1 : ((List.range n).filter p).length = n := by
        rw [List.filter_eq_self.mpr (fun k hk => (hp k (by have := List.mem_range.mp hk; omega)).mpr (by have := List.mem_range.mp hk; omega)), List.length_range]
      rw [h1, List.filter_cons_of_pos ((hp n (by omega)).mpr h)]
      simp
    · rw [ih (by omega) (fun k hk => hp k (by omega)), List.filter_cons_of_neg (by rw [hp n (by omega)]; exact h)]
      simp
/-- the number of parts: the first place where all is taken -/
theorem npL_eq {L : List Nat} {m : Nat} (h1 : ∀ k, k < m → posL L k < L.length) (h2 : posL L m = L.length) (hm : m ≤ 6) : npL L = m := by
  refine cnt_below m 6 hm (fun k _ => ?_)
  simp only [decide_eq_true_eq]
  constructor
  · intro h
    rcases Nat.lt_or_ge k m with h3 | h3
    · exact h3
    · have := posL_mono L h3; omega
  · exact h1 k
theorem npL_ex {L : List Nat} (hL : L.length ≤ 400) : ∃ m, m ≤ 6 ∧ (∀ k, k < m → posL L k < L.length) ∧ posL L m = L.length := by
  obtain ⟨m, h1, h2⟩ := pk_least (fun k => posL L k = L.length) ⟨6, posL_6 hL⟩
  refine ⟨m, ?_, fun k hk => ?_, h1⟩
  · rcases Nat.lt_or_ge 6 m with h | h
    · exact absurd (posL_6 hL) (h2 6 h)
    · exact h
  · have := h2 k hk
    have h3 := posL_le L k
    omega
theorem npL_spec {L : List Nat} (hL : L.length ≤ 400) : npL L ≤ 6 ∧ (∀ k, k < npL L → posL L k < L.length) ∧ posL L (npL L) = L.length := by
  obtain ⟨m, h1, h2, h3⟩ := npL_ex hL
  rw [npL_eq h2 h3 h1]
  exact ⟨h1, h2, h3⟩
theorem npL_nil : npL [] = 0 := npL_eq (fun k hk => absurd hk (Nat.not_lt_zero k)) rfl (by decide)
theorem npL_pos {L : List Nat} (hL : L.length ≤ 400) (h : L ≠ []) : 0 < npL L := by
  obtain ⟨-, -, h3⟩ := npL_spec hL
  rcases Nat.eq_zero_or_pos (npL L) with h0 | h0
  · rw [h0] at h3
    have : L.length = 0 := h3.symm
    exact absurd (List.length_eq_zero_iff.mp this) h
  · exact h0
end
section
/-! ===== THE CLASS'S TEXT ===== -/
def SgnAt (D : Dx) (F : Fn) (r : Nat) (L : List Nat) : Prop := L.length ≤ 400 ∧ (∀ x ∈ L, x < 1000) ∧ ∃ f : Nat → Int32, F r = some (aI D 400 f) ∧ ∀ j, j < L.length → f j = nI (L.getD j 0)
def b2i (b : Bool) : Int32 := if b = true then 1 else 0
def TxO (ad : Nat → Nat) (F : Fn) (t r s : Nat) (L : List Nat) (pc : Int32) : Prop := F t = some (oB 5 [.ref (ad r), .int (nI L.length), .int (nI (septL L)), .int (b2i (wideL L)), .ref (ad s), .int pc])
def StA (D : Dx) (F : Fn) (s : Nat) (L : List Nat) : Prop := ∃ g : Nat → Int32, F s = some (aI D 7 g) ∧ (L ≠ [] → ∀ k, k ≤ npL L → g k = nI (posL L k))
def TextAt (D : Dx) (ad : Nat → Nat) (F : Fn) (t r s : Nat) (L : List Nat) : Prop := TxO ad F t r s L (nI (npL L)) ∧ SgnAt D F r L ∧ StA D F s L
theorem getD_lt {L : List Nat} (h : ∀ x ∈ L, x < 1000) (j : Nat) : L.getD j 0 < 1000 := by
  rw [List.getD_eq_getElem?_getD]
  cases hj : L[j]? with
  | none => simp
  | some x => exact h x (List.mem_of_getElem? hj)
set_option maxHeartbeats 400000 in
set_option maxRecDepth 100000 in
/-- Text.septetsOf -/
theorem c_septetsOf {l : Launch} {D : Dx} {b0 : Nat} {ad : Nat → Nat} {F : Fn} (x : Nat) (hx : x < 1000) : Ct l D b0 yX5_septetsOf (wsA yX5_septetsOf cX5_septetsOf 1 (some .int)) r0 [.int (nI x)] ad F (pRd (some (.int (nI (w1 x)))) ad F) noX := by
  refine Ct.of (by decide +kernel) (by simp [Value.category]) (Nat.le_of_ble_eq_true rfl) (fun X eD eb el C Q => ?_)
  subst eD; subst eb; subst el
  refine V_iload_n C dX5_septetsOf_0 rfl ?_
  refine V_sipush (v := 128) C dX5_septetsOf_1 (by decide) ?_
  refine V_icmpge (tgt := 11) C dX5_septetsOf_4 (by decide) (fun hc => ?_) (fun hc => ?_)
  · rw [show w1 x = 2 from if_neg (fun h => nI_ge (a := x) (b := 128) h (by decide) hc)] at Q
    refine V_iconst (v := 2) C dX5_septetsOf_11 rfl ?_
    exact V_ireturn C Q dX5_septetsOf_12 rfl (Nat.le_of_ble_eq_true rfl) (Nat.le_of_ble_eq_true rfl) ⟨rfl, rfl, rfl⟩
  · rw [show w1 x = 1 from if_pos (Nat.lt_of_not_le fun h => hc (nI_le (a := 128) (b := x) h (by omega)))] at Q
    refine V_iconst (v := 1) C dX5_septetsOf_7 rfl ?_
    refine V_goto (tgt := 12) C dX5_septetsOf_8 (by decide) ?_
    exact V_ireturn C Q dX5_septetsOf_12 rfl (Nat.le_of_ble_eq_true rfl) (Nat.le_of_ble_eq_true rfl) ⟨rfl, rfl, rfl⟩
/-- the septet idx of the sign x -/
def sptO (x idx : Nat) : Nat := if x < 128 then x else if idx = 0 then 27 else x - 128
set_option maxHeartbeats 400000 in
set_option maxRecDepth 100000 in
/-- Text.septetOf -/
theorem c_septetOf {l : Launch} {D : Dx} {b0 : Nat} {ad : Nat → Nat} {F : Fn} (x i : Nat) (hx : x < 1000) (hi : i < 2 ^ 31) : Ct l D b0 yX5_septetOf (wsA yX5_septetOf cX5_septetOf 2 (some .int)) r0 [.int (nI x), .int (nI i)] ad F (pRd (some (.int (nI (sptO x i)))) ad F) noX := by
  refine Ct.of (by decide +kernel) (by simp [Value.category]) (Nat.le_of_ble_eq_true rfl) (fun X eD eb el C Q => ?_)
  subst eD; subst eb; subst el
  refine V_iload_n C dX5_septetOf_0 rfl ?_
  refine V_sipush (v := 128) C dX5_septetOf_1 (by decide) ?_
  refine V_icmpge (tgt := 9) C dX5_septetOf_4 (by decide) (fun hc => ?_) (fun hc => ?_)
  · have h128 : ¬ x < 128 := fun h => nI_ge (a := x) (b := 128) h (by decide) hc
    refine V_iload_n C dX5_septetOf_9 rfl ?_
    refine V_ifne (tgt := 18) C dX5_septetOf_10 (by decide) (fun hc2 => ?_) (fun hc2 => ?_)
    · rw [show sptO x i = x - 128 by unfold sptO; rw [if_neg h128, if_neg (fun e => hc2 (by rw [e]; rfl))]] at Q
      refine V_iload_n C dX5_septetOf_18 rfl ?_
      refine V_sipush (v := 128) C dX5_septetOf_19 (by decide) ?_
      refine V_isub C dX5_septetOf_22 ?_
      refine V_nm (pk_sub (a := x) (b := 128) (by omega)) ?_
      exact V_ireturn C Q dX5_septetOf_23 rfl (Nat.le_of_ble_eq_true rfl) (Nat.le_of_ble_eq_true rfl) ⟨rfl, rfl, rfl⟩
    · rw [show sptO x i = 27 by unfold sptO; rw [if_neg h128, if_pos ((nI_eq (b := 0) hi (by decide)).mp hc2)]] at Q
      refine V_bipush (v := 27) C dX5_septetOf_13 (by decide) ?_
      refine V_goto (tgt := 23) C dX5_septetOf_15 (by decide) ?_
      exact V_ireturn C Q dX5_septetOf_23 rfl (Nat.le_of_ble_eq_true rfl) (Nat.le_of_ble_eq_true rfl) ⟨rfl, rfl, rfl⟩
  · rw [show sptO x i = x from if_pos (Nat.lt_of_not_le fun h => hc (nI_le (a := 128) (b := x) h (by omega)))] at Q
    refine V_iload_n C dX5_septetOf_7 rfl ?_
    exact V_ireturn C Q dX5_septetOf_8 rfl (Nat.le_of_ble_eq_true rfl) (Nat.le_of_ble_eq_true rfl) ⟨rfl, rfl, rfl⟩
set_option maxHeartbeats 400000 in
set_option maxRecDepth 100000 in
/-- Text.signAt -/
theorem c_signAt {l : Launch} {D : Dx} {b0 : Nat} {ad : Nat → Nat} {F : Fn} (t r s : Nat) (L : List Nat) (pc : Int32) (j : Nat) (ht : TxO ad F t r s L pc) (hS : SgnAt D F r L) (hj : j < L.length) : Ct l D b0 yX5_signAt (wsA yX5_signAt cX5_signAt 2 (some .int)) r0 [.ref (ad t), .int (nI j)] ad F (pRd (some (.int (nI (L.getD j 0)))) ad F) noX := by
  refine Ct.of (by decide +kernel) (by simp [Value.category]) (Nat.le_of_ble_eq_true rfl) (fun X eD eb el C Q => ?_)
  subst eD; subst eb; subst el
  unfold TxO at ht
  obtain ⟨hl, hx, f, hr, hf⟩ := hS
  refine V_iload_n C dX5_signAt_0 rfl ?_
  refine V_iflt_f (tgt := 30) C dX5_signAt_1 (by decide) (nI_pos (by omega)) ?_
  refine V_iload_n C dX5_signAt_4 rfl ?_
  refine V_aload_n C dX5_signAt_5 rfl ?_
  refine V_get C dX5_signAt_6 fr_5_15 ht rfl ?_
  refine V_icmpge_f (tgt := 30) C dX5_signAt_9 (by decide) (nI_ge hj (by omega)) ?_
  refine V_iload_n C dX5_signAt_12 rfl ?_
  refine V_aload_n C dX5_signAt_13 rfl ?_
  refine V_get C dX5_signAt_14 fr_5_9 ht rfl ?_
  refine V_alen C dX5_signAt_17 hr rfl ?_
  refine V_icmpge_f (tgt := 30) C dX5_signAt_18 (by decide) (nI_ge (a := j) (b := 400) (by omega) (by decide)) ?_
  refine V_aload_n C dX5_signAt_21 rfl ?_
  refine V_get C dX5_signAt_22 fr_5_9 ht rfl ?_
  refine V_iload_n C dX5_signAt_25 rfl ?_
  refine V_iald C dX5_signAt_26 hr rfl (by omega) (by decide) ?_
  refine V_nm (hf j hj) ?_
  refine V_goto (tgt := 31) C dX5_signAt_27 (by decide) ?_
  exact V_ireturn C Q dX5_signAt_31 rfl (Nat.le_of_ble_eq_true rfl) (Nat.le_of_ble_eq_true rfl) ⟨rfl, rfl, rfl⟩
set_option maxHeartbeats 400000 in
set_option maxRecDepth 100000 in
/-- Text.roomOfAPart -/
theorem c_roomOf {l : Launch} {D : Dx} {b0 : Nat} {ad : Nat → Nat} {F : Fn} (t r s : Nat) (L : List Nat) (pc : Int32) (ht : TxO ad F t r s L pc) (hl : L.length ≤ 400) : Ct l D b0 yX5_roomOfAPart (wsA yX5_roomOfAPart cX5_roomOfAPart 1 (some .int)) r0 [.ref (ad t)] ad F (pRd (some (.int (nI (roomL L)))) ad F) noX := by
  refine Ct.of (by decide +kernel) (by simp [Value.category]) (Nat.le_of_ble_eq_true rfl) (fun X eD eb el C Q => ?_)
  subst eD; subst eb; subst el
  unfold TxO at ht
  have hs2 : septL L ≤ 800 := by have := sum_le_two (L.map w1) (fun s hs => by obtain ⟨x, -, rfl⟩ := List.mem_map.mp hs; rcases w1_12 x with h | h <;> rw [h] <;> decide); rw [List.length_map] at this; unfold septL; omega
  refine V_aload_n C dX5_roomOfAPart_0 rfl ?_
  refine V_get C dX5_roomOfAPart_1 fr_5_22 ht rfl ?_
  refine V_ifeq (tgt := 24) C dX5_roomOfAPart_4 (by decide) (fun hc => ?_) (fun hc => ?_)
  · have hw : ¬ wideL L = true := fun h => by rw [h] at hc; exact absurd hc (by decide)
    refine V_aload_n C dX5_roomOfAPart_24 rfl ?_
    refine V_get C dX5_roomOfAPart_25 fr_5_19 ht rfl ?_
    refine V_sipush (v := 160) C dX5_roomOfAPart_28 (by decide) ?_
    refine V_icmpgt (tgt := 40) C dX5_roomOfAPart_31 (by decide) (fun hc2 => ?_) (fun hc2 => ?_)
    · rw [show roomL L = 153 by unfold roomL; rw [if_neg hw, if_neg (fun h => nI_nlt (a := 160) h (by decide) hc2)]] at Q
      refine V_sipush (v := 153) C dX5_roomOfAPart_40 (by decide) ?_
      exact V_ireturn C Q dX5_roomOfAPart_43 rfl (Nat.le_of_ble_eq_true rfl) (Nat.le_of_ble_eq_true rfl) ⟨rfl, rfl, rfl⟩
    · rw [show roomL L = 160 by unfold roomL; rw [if_neg hw, if_pos (Nat.le_of_not_lt fun h => hc2 (nI_lt (a := 160) h (by omega)))]] at Q
      refine V_sipush (v := 160) C dX5_roomOfAPart_34 (by decide) ?_
      refine V_goto (tgt := 43) C dX5_roomOfAPart_37 (by decide) ?_
      exact V_ireturn C Q dX5_roomOfAPart_43 rfl (Nat.le_of_ble_eq_true rfl) (Nat.le_of_ble_eq_true rfl) ⟨rfl, rfl, rfl⟩
  · have hw : wideL L = true := by cases h : wideL L with | true => rfl | false => (rw [h] at hc; exact absurd rfl hc)
    refine V_aload_n C dX5_roomOfAPart_7 rfl ?_
    refine V_get C dX5_roomOfAPart_8 fr_5_15 ht rfl ?_
    refine V_bipush (v := 70) C dX5_roomOfAPart_11 (by decide) ?_
    refine V_icmpgt (tgt := 21) C dX5_roomOfAPart_13 (by decide) (fun hc2 => ?_) (fun hc2 => ?_)
    · rw [show roomL L = 67 by unfold roomL; rw [if_pos hw, if_neg (fun h => nI_nlt (a := 70) h (by decide) hc2)]] at Q
      refine V_bipush (v := 67) C dX5_roomOfAPart_21 (by decide) ?_
      exact V_ireturn C Q dX5_roomOfAPart_23 rfl (Nat.le_of_ble_eq_true rfl) (Nat.le_of_ble_eq_true rfl) ⟨rfl, rfl, rfl⟩
    · rw [show roomL L = 70 by unfold roomL; rw [if_pos hw, if_pos (Nat.le_of_not_lt fun h => hc2 (nI_lt (a := 70) h (by omega)))]] at Q
      refine V_bipush (v := 70) C dX5_roomOfAPart_16 (by decide) ?_
      refine V_goto (tgt := 23) C dX5_roomOfAPart_18 (by decide) ?_
      exact V_ireturn C Q dX5_roomOfAPart_23 rfl (Nat.le_of_ble_eq_true rfl) (Nat.le_of_ble_eq_true rfl) ⟨rfl, rfl, rfl⟩
theorem szL_at {L : List Nat} {i : Nat} (h : i < L.length) : (szL L)[i]'(by rw [szL_len]; exact h) = if wideL L then 1 else w1 (L.getD i 0) := by
  have e : L.getD i 0 = L[i] := by rw [List.getD_eq_getElem?_getD, List.getElem?_eq_getElem h]; rfl
  simp only [szL, List.getElem_map, e]
/-- the sizes between two places -/
def btw (L : List Nat) (a b : Nat) : Nat := (((szL L).drop a).take (b - a)).sum
theorem btw_0 (L : List Nat) (a : Nat) : btw L a a = 0 := by simp [btw]
theorem btw_s {L : List Nat} {a i : Nat} (h : i < L.length) (ha : a ≤ i) : btw L a (i + 1) = btw L a i + (if wideL L then 1 else w1 (L.getD i 0)) := by
  unfold btw
  rw [show i + 1 - a = (i - a) + 1 by omega, List.take_add_one, List.getElem?_drop, show a + (i - a) = i by omega, List.getElem?_eq_getElem (by rw [szL_len]; exact h), List.sum_append, szL_at h]
  simp
theorem btw_le {L : List Nat} {p i : Nat} (h : i ≤ L.length) (ha : posL L p ≤ i) : btw L (posL L p) i ≤ roomL L ↔ i ≤ posL L (p + 1) := by
  have h1 := takeN_iff ((szL L).drop (posL L p)) (roomL L) (i - posL L p) (by rw [List.length_drop, szL_len]; omega)
  have h2 : posL L (p + 1) = posL L p + takeN (roomL L) ((szL L).drop (posL L p)) := rfl
  unfold btw
  rw [h1, h2]
  omega
theorem btw_lt (L : List Nat) (a b : Nat) (h : L.length ≤ 400) : btw L a b ≤ 800 := by
  have h1 := sum_take_le ((szL L).drop a) (b - a)
  have h2 := sum_le_two ((szL L).drop a) (fun s hs => szL_12 s (List.mem_of_mem_drop hs))
  rw [List.length_drop, szL_len] at h2
  unfold btw
  omega
set_option maxHeartbeats 400000 in
set_option maxRecDepth 100000 in
/-- Text.cut -/
theorem c_cut {l : Launch} {D : Dx} {b0 : Nat} {ad : Nat → Nat} {F : Fn} (t r s : Nat) (L : List Nat) (pc : Int32) (g0 : Nat → Int32) (ht : TxO ad F t r s L pc) (hS : SgnAt D F r L) (hs : F s = some (aI D 7 g0)) (hne : L ≠ []) (hrs : r ≠ s) : Ct l D b0 yX5_cut (wsA yX5_cut cX5_cut 5 none) (rK 1) [.ref (ad t)] ad F (fun v ad1 F1 => v = none ∧ ad = ad1 ∧ TextAt D ad F1 t r s L ∧ ∀ x, x ∉ [t, s] → F1 x = F x) noX := by
  refine Ct.of (by decide +kernel) (by simp [Value.category]) (Nat.le_of_ble_eq_true rfl) (fun X eD eb el C Q => ?_)
  subst eD; subst eb; subst el
  have hl := hS.1
  have hlp : 0 < L.length := by cases L with | nil => exact absurd rfl hne | cons a b => simp
  obtain ⟨-, hxs, f0, hr0, -⟩ := id hS
  have hts : t ≠ s := obj_ne hs ht
  have htr : t ≠ r := obj_ne hr0 ht
  refine V_aload_n C dX5_cut_0 rfl ?_
  refine V_invV C dX5_cut_1 ht rfl (c_roomOf t r s L pc ht hl) mv_5_58 rfl (Nat.le_of_ble_eq_true rfl) ⟨Nat.le_of_ble_eq_true rfl, Nat.le_of_ble_eq_true rfl⟩ ⟨Nat.le_of_ble_eq_true rfl, Nat.le_of_ble_eq_true rfl⟩ (fun _ _ _ h => VT_no h) (fun v ad1 F1 hp => ?_)
  obtain ⟨rfl, rfl, rfl⟩ := hp
  unfold TxO at ht
  refine V_istore_n C dX5_cut_4 (by decide) ?_
  refine V_iconst (v := 0) C dX5_cut_5 rfl ?_
  refine V_istore_n C dX5_cut_6 (by decide) ?_
  refine V_aload_n C dX5_cut_7 rfl ?_
  refine V_iconst (v := 1) C dX5_cut_8 rfl ?_
  refine G_put C dX5_cut_9 fp_5_29 ht rfl rfl (Nat.le_of_ble_eq_true rfl) (fun F1 ht hfr => ?_)
  dsimp only [List.set] at ht
  have hs := (hfr _ hts.symm).trans hs
  have hfr1 := hfr
  refine V_aload_n C dX5_cut_12 rfl ?_
  refine V_get C dX5_cut_13 fr_5_26 ht rfl ?_
  refine V_iconst (v := 0) C dX5_cut_16 rfl ?_
  refine V_iconst (v := 0) C dX5_cut_17 rfl ?_
  refine G_iast C dX5_cut_18 hs (show _ = nI 0 from rfl) (by decide) (by decide) (fun F2 hs hfr => ?_)
  have ht := (hfr _ hts).trans ht
  refine V_iconst (v := 0) C dX5_cut_19 rfl ?_
  refine V_istore_n C dX5_cut_20 (by decide) ?_
  have hK : ∀ x, x ∉ [t, s] → F2 x = F x := fun x hx => (hfr x (fun e => hx (by simp [e]))).trans (hfr1 x (fun e => hx (by simp [e])))
  have loop : ∀ (d i p : Nat) (G : Fn) (g : Nat → Int32), i + d = L.length → p ≤ 5 → posL L p ≤ i → i ≤ posL L (p + 1) → (p = 0 ∨ posL L p < i) → TxO ad G t r s L (nI (p + 1)) → G s = some (aI (xD X) 7 g) → (∀ k, k ≤ p → g k = nI (posL L k)) → (∀ x, x ∉ [t, s] → G x = F x) → ∀ z : Value,
      V X 0 0 21 [(0, .ref (ad t)), (1, .int (nI (roomL L))), (2, .int (nI (btw L (posL L p) i))), (3, .int (nI i))] [] ad G := by
    intro d
    induction d with
    | zero =>
      intro i p G g hd hp5 h1 h2 h3 ht hs hg hK z
      have hi : i = L.length := by omega
      subst hi
      unfold TxO at ht
      have hq : posL L (p + 1) = L.length := Nat.le_antisymm (posL_le L _) h2
      have hnp : npL L = p + 1 := npL_eq (fun k hk => by
        have := posL_mono L (show k ≤ p by omega)
        rcases h3 with h3 | h3
        · subst h3; have : posL L 0 = 0 := rfl; omega
        · omega) hq (by omega)
      refine V_iload_n C dX5_cut_21 rfl ?_
      refine V_aload_n C dX5_cut_22 rfl ?_
      refine V_get C dX5_cut_23 fr_5_15 ht rfl ?_
      refine V_icmpge_t (tgt := 100) C dX5_cut_26 (by decide) (Int32.le_refl _) ?_
      refine V_aload_n C dX5_cut_100 rfl ?_
      refine V_get C dX5_cut_101 fr_5_26 ht rfl ?_
      refine V_aload_n C dX5_cut_104 rfl ?_
      refine V_get C dX5_cut_105 fr_5_29 ht rfl ?_
      refine V_aload_n C dX5_cut_108 rfl ?_
      refine V_get C dX5_cut_109 fr_5_15 ht rfl ?_
      refine G_iast C dX5_cut_112 hs rfl (by omega) (by decide) (fun G1 hs hfr => ?_)
      have ht := (hfr _ hts).trans ht
      have hK := fr_step hK hfr (by simp)
      refine V_return C Q dX5_cut_113 (Nat.le_of_ble_eq_true rfl) (Nat.le_of_ble_eq_true rfl) ⟨rfl, rfl, ⟨by rw [hnp]; exact ht, ⟨hl, hxs, f0, (hK r (by simp [Ne.symm htr, hrs])).trans hr0, ?_⟩, ⟨_, hs, fun _ k hk => ?_⟩⟩, hK⟩
      · obtain ⟨-, -, f9, hr9, hf9⟩ := hS
        rw [hr0] at hr9
        cases hr9
        exact hf9
      · rw [hnp] at hk
        by_cases e : k = p + 1
        · subst e; simp only [upd, if_pos]; rw [hq]
        · simp only [upd, if_neg e]; exact hg k (by omega)
    | succ d ih =>
      intro i p G g hd hp5 h1 h2 h3 ht hs hg hK z
      have hi : i < L.length := by omega
      have hSG : SgnAt (xD X) G r L := by
        obtain ⟨a1, a2, f9, a3, a4⟩ := hS
        exact ⟨a1, a2, f9, (hK r (by simp [Ne.symm htr, hrs])).trans a3, a4⟩
      have hb1 := btw_s hi h1
      have hx9 := getD_lt hxs i
      have hsz : (if wideL L then 1 else w1 (L.getD i 0)) ≤ 2 := by
        split
        · decide
        · rcases w1_12 (L.getD i 0) with h | h <;> rw [h] <;> decide
      obtain ⟨sz, hsz0⟩ : ∃ sz, sz = if wideL L then 1 else w1 (L.getD i 0) := ⟨_, rfl⟩
      rw [← hsz0] at hb1 hsz
      have hbl := btw_lt L (posL L p) i hl
      have hroom := roomL_ge L
      have tail : V X 0 0 48 [(0, .ref (ad t)), (1, .int (nI (roomL L))), (2, .int (nI (btw L (posL L p) i))), (3, .int (nI i))] [.int (nI sz)] ad G := by
        have ht := ht
        unfold TxO at ht
        refine V_istore C dX5_cut_48 (by decide) ?_
        refine V_iload_n C dX5_cut_50 rfl ?_
        refine V_iload C dX5_cut_51 rfl ?_
        refine V_iadd C dX5_cut_53 ?_
        refine V_nm (nI_add _ _) ?_
        refine V_iload_n C dX5_cut_54 rfl ?_
        refine V_icmple (tgt := 89) C dX5_cut_55 (by decide) (fun hc => ?_) (fun hc => ?_)
        · have hle : btw L (posL L p) (i + 1) ≤ roomL L := by rw [hb1]; exact (nI_leI (by omega) (by omega)).mp hc
          refine V_iload_n C dX5_cut_89 rfl ?_
          refine V_iload C dX5_cut_90 rfl ?_
          refine V_iadd C dX5_cut_92 ?_
          refine V_nm (nI_add _ _) ?_
          refine V_istore_n C dX5_cut_93 (by decide) ?_
          refine V_iinc C dX5_cut_94 rfl (nI_inc _) (by decide) ?_
          refine V_goto (tgt := 21) C dX5_cut_97 (by decide) ?_
          refine V_sb (ih (i + 1) p G g (by omega) hp5 (by omega) ((btw_le (by omega) (by omega)).mp hle) (Or.inr (by omega)) ht hs hg hK z) ⟨rfl, rfl, by rw [hb1]; rfl, rfl, trivial⟩
        · have hle : ¬ btw L (posL L p) (i + 1) ≤ roomL L := fun h => hc (by rw [hb1] at h; exact nI_le h (by omega))
          have hip : i = posL L (p + 1) := by
            rcases Nat.lt_or_ge i (posL L (p + 1)) with h | h
            · exact absurd ((btw_le (by omega) (by omega)).mpr h) hle
            · omega
          have hp4 : p < 5 := by
            rcases Nat.lt_or_ge p 5 with h | h
            · exact h
            · have e5 : p = 5 := by omega
              subst e5
              have h6 : posL L (5 + 1) = L.length := posL_6 hl
              omega
          have hlt2 := posL_lt (L := L) (k := p + 1) (by omega)
          refine V_aload_n C dX5_cut_58 rfl ?_
          refine V_get C dX5_cut_59 fr_5_29 ht rfl ?_
          refine V_bipush (v := 6) C dX5_cut_62 (by decide) ?_
          refine V_icmpge_f (tgt := 89) C dX5_cut_64 (by decide) (nI_ge (a := p + 1) (b := 6) (by omega) (by decide)) ?_
          refine V_aload_n C dX5_cut_67 rfl ?_
          refine V_get C dX5_cut_68 fr_5_26 ht rfl ?_
          refine V_aload_n C dX5_cut_71 rfl ?_
          refine V_get C dX5_cut_72 fr_5_29 ht rfl ?_
          refine V_iload_n C dX5_cut_75 rfl ?_
          refine G_iast C dX5_cut_76 hs rfl (by omega) (by decide) (fun G1 hs hfr => ?_)
          have ht := (hfr _ hts).trans ht
          have hK := fr_step hK hfr (by simp)
          refine V_aload_n C dX5_cut_77 rfl ?_
          refine V_dup C dX5_cut_78 rfl ?_
          refine V_get C dX5_cut_79 fr_5_29 ht rfl ?_
          refine V_iconst (v := 1) C dX5_cut_82 rfl ?_
          refine V_iadd C dX5_cut_83 ?_
          refine V_nm (nI_1 (p + 1)) ?_
          refine G_put C dX5_cut_84 fp_5_29 ht rfl rfl (Nat.le_of_ble_eq_true rfl) (fun G2 ht hfr => ?_)
          dsimp only [List.set] at ht
          have hs := (hfr _ hts.symm).trans hs
          have hK := fr_step hK hfr (by simp)
          refine V_iconst (v := 0) C dX5_cut_87 rfl ?_
          refine V_istore_n C dX5_cut_88 (by decide) ?_
          refine V_iload_n C dX5_cut_89 rfl ?_
          refine V_iload C dX5_cut_90 rfl ?_
          refine V_iadd C dX5_cut_92 ?_
          refine V_nm (show (0 : Int32) + nI sz = nI (0 + sz) from nI_add 0 sz) ?_
          refine V_istore_n C dX5_cut_93 (by decide) ?_
          refine V_iinc C dX5_cut_94 rfl (nI_inc _) (by decide) ?_
          refine V_goto (tgt := 21) C dX5_cut_97 (by decide) ?_
          refine V_sb (ih (i + 1) (p + 1) G2 _ (by omega) (by omega) (by omega) (by omega) (Or.inr (by omega)) ht hs (fun k hk => ?_) hK z) ⟨rfl, rfl, ?_, rfl, trivial⟩
          · by_cases e : k = p + 1
            · subst e; simp only [upd, if_pos]; rw [hip]
            · simp only [upd, if_neg e]; exact hg k (by omega)
          · rw [← hip, btw_s hi (Nat.le_refl i), btw_0, ← hsz0]; rfl
      have ht0 := ht
      unfold TxO at ht
      refine V_iload_n C dX5_cut_21 rfl ?_
      refine V_aload_n C dX5_cut_22 rfl ?_
      refine V_get C dX5_cut_23 fr_5_15 ht rfl ?_
      refine V_icmpge_f (tgt := 100) C dX5_cut_26 (by decide) (nI_ge hi (by omega)) ?_
      refine V_aload_n C dX5_cut_29 rfl ?_
      refine V_get C dX5_cut_30 fr_5_22 ht rfl ?_
      refine V_ifeq (tgt := 40) C dX5_cut_33 (by decide) (fun hc => ?_) (fun hc => ?_)
      · have hw : ¬ wideL L = true := fun h => by rw [h] at hc; exact absurd hc (by decide)
        refine V_aload_n C dX5_cut_40 rfl ?_
        refine V_iload_n C dX5_cut_41 rfl ?_
        refine V_invV C dX5_cut_42 ht rfl (c_signAt t r s L (nI (p + 1)) i ht0 hSG hi) mv_5_45 rfl (Nat.le_of_ble_eq_true rfl) ⟨Nat.le_of_ble_eq_true rfl, Nat.le_of_ble_eq_true rfl⟩ ⟨Nat.le_of_ble_eq_true rfl, Nat.le_of_ble_eq_true rfl⟩ (fun _ _ _ h => VT_no h) (fun v ad1 F1 hp => ?_)
        obtain ⟨rfl, rfl, rfl⟩ := hp
        refine V_invS C dX5_cut_45 (c_septetsOf (L.getD i 0) hx9) ms_5_32 rfl (Nat.le_of_ble_eq_true rfl) ⟨Nat.le_of_ble_eq_true rfl, Nat.le_of_ble_eq_true rfl⟩ ⟨Nat.le_of_ble_eq_true rfl, Nat.le_of_ble_eq_true rfl⟩ (fun _ _ _ h => VT_no h) (fun v ad1 F1 hp => ?_)
        obtain ⟨rfl, rfl, rfl⟩ := hp
        refine V_nm (w := nI sz) (by rw [hsz0, if_neg hw]) ?_
        exact V_sb tail ⟨rfl, rfl, rfl, rfl, trivial⟩
      · have hw : wideL L = true := by cases h : wideL L with | true => rfl | false => (rw [h] at hc; exact absurd rfl hc)
        refine V_iconst (v := 1) C dX5_cut_36 rfl ?_
        refine V_goto (tgt := 48) C dX5_cut_37 (by decide) ?_
        refine V_nm (w := nI sz) (by rw [hsz0, if_pos hw]; rfl) ?_
        exact V_sb tail ⟨rfl, rfl, rfl, rfl, trivial⟩
  refine V_sb (loop L.length 0 0 F2 _ (by omega) (by decide) (Nat.zero_le _) (Nat.zero_le _) (Or.inl rfl) ht hs (fun k hk => ?_) hK .null) ⟨rfl, rfl, ?_, rfl, trivial⟩
  · rw [Nat.le_zero.mp hk]; rfl
  · rw [show posL L 0 = 0 from rfl, btw_0]; rfl
theorem septL_app (L : List Nat) (x n : Nat) : septL (L ++ List.replicate n x) = septL L + n * w1 x := by
  simp [septL, List.map_append, List.sum_append]
theorem wideL_app (L : List Nat) (x n : Nat) (h : 0 < n) : wideL (L ++ List.replicate n x) = (wideL L || decide (160 ≤ x)) := by
  cases n with
  | zero => omega
  | succ n =>
    simp only [wideL, List.any_append]
    congr 1
    induction n with
    | zero => simp
    | succ n ih => rw [List.replicate_succ, List.any_cons, ih (by omega), Bool.or_self]
theorem septL_le {L : List Nat} : septL L ≤ 2 * L.length := by
  have := sum_le_two (L.map w1) (fun s hs => by obtain ⟨x, -, rfl⟩ := List.mem_map.mp hs; rcases w1_12 x with h | h <;> rw [h] <;> decide)
  rw [List.length_map] at this
  exact this
set_option maxHeartbeats 400000 in
set_option maxRecDepth 100000 in
/-- Text.append -/
theorem c_append {l : Launch} {D : Dx} {b0 : Nat} {ad : Nat → Nat} {F : Fn} (t r s : Nat) (L : List Nat) (x m : Nat) (hT : TextAt D ad F t r s L) (hx : x < 1000) (hm : 0 < m) (hm2 : L.length + m ≤ 400) (hrs : r ≠ s) : Ct l D b0 yX5_append (wsA yX5_append cX5_append 4 none) (rK 2) [.ref (ad t), .int (nI x), .int (nI m)] ad F (fun v ad1 F1 => v = none ∧ ad = ad1 ∧ TextAt D ad F1 t r s (L ++ List.replicate m x) ∧ ∀ z, z ∉ [t, r, s] → F1 z = F z) noX := by
  refine Ct.of (by decide +kernel) (by simp [Value.category]) (Nat.le_of_ble_eq_true rfl) (fun X eD eb el C Q => ?_)
  subst eD; subst eb; subst el
  obtain ⟨ht, ⟨hl, hxs, f0, hr, hf0⟩, g0, hs, -⟩ := hT
  unfold TxO at ht
  have hts : t ≠ s := obj_ne hs ht
  have htr : t ≠ r := obj_ne hr ht
  refine V_iconst (v := 0) C dX5_append_0 rfl ?_
  refine V_istore_n C dX5_append_1 (by decide) ?_
  have loop : ∀ (d i : Nat) (G : Fn) (f : Nat → Int32), i + d = m → G t = some (oB 5 [.ref (ad r), .int (nI (L.length + i)), .int (nI (septL L + i * w1 x)), .int (b2i (wideL L)), .ref (ad s), .int (nI (npL L))]) → G r = some (aI (xD X) 400 f) → (∀ j, j < L.length + i → f j = nI ((L ++ List.replicate i x).getD j 0)) → (∀ z, z ∉ [t, r, s] → G z = F z) → G s = F s →
      V X 0 0 2 [(0, .ref (ad t)), (1, .int (nI x)), (2, .int (nI m)), (3, .int (nI i))] [] ad G := by
    intro d
    induction d with
    | zero =>
      intro i G f hd ht hr hf hK hsG
      have hi : i = m := by omega
      subst hi
      have hsG := hsG.trans hs
      refine V_iload_n C dX5_append_2 rfl ?_
      refine V_iload_n C dX5_append_3 rfl ?_
      refine V_icmpge_t (tgt := 58) C dX5_append_4 (by decide) (Int32.le_refl _) ?_
      refine V_aload_n C dX5_append_58 rfl ?_
      refine V_aload_n C dX5_append_59 rfl ?_
      refine V_get C dX5_append_60 fr_5_22 ht rfl ?_
      have hlen : (L ++ List.replicate i x).length = L.length + i := by simp
      have hne : L ++ List.replicate i x ≠ [] := fun e => by rw [e] at hlen; simp at hlen; omega
      have fin : V X 0 0 78 [(0, .ref (ad t)), (1, .int (nI x))] [.int (b2i (wideL (L ++ List.replicate i x))), .ref (ad t)] ad G := by
        refine G_put C dX5_append_78 fp_5_22 ht (by unfold b2i; split <;> rfl) (by unfold b2i; split <;> rfl) (Nat.le_of_ble_eq_true rfl) (fun G1 ht hfr => ?_)
        dsimp only [List.set] at ht
        have hr := (hfr _ htr.symm).trans hr
        have hsG := (hfr _ hts.symm).trans hsG
        rw [← septL_app, ← hlen] at ht
        refine V_aload_n C dX5_append_81 rfl ?_
        refine V_invV C dX5_append_82 ht rfl (c_cut t r s (L ++ List.replicate i x) _ g0 ht ⟨by rw [hlen]; exact hm2, fun y hy => ?_, f, hr, fun j hj => hf j (by rw [← hlen]; exact hj)⟩ hsG hne hrs) mv_5_36 rfl (Nat.le_of_ble_eq_true rfl) ⟨Nat.le_of_ble_eq_true rfl, Nat.le_of_ble_eq_true rfl⟩ ⟨Nat.le_of_ble_eq_true rfl, Nat.le_of_ble_eq_true rfl⟩ (fun _ _ _ h => VT_no h) ?_
        · rcases List.mem_append.mp hy with h | h
          · exact hxs y h
          · rw [List.eq_of_mem_replicate h]; exact hx
        intro v ad1 G2 hp
        obtain ⟨rfl, rfl, h1, h2⟩ := hp
        exact V_return C Q dX5_append_85 (Nat.le_of_ble_eq_true rfl) (Nat.le_of_ble_eq_true rfl) ⟨rfl, rfl, h1, fun z hz => (h2 z (fun h => hz (by simp at h ⊢; rcases h with h | h <;> simp [h]))).trans ((hfr z (fun e => hz (by simp [e]))).trans (hK z hz))⟩
      have hwd := wideL_app L x i hm
      refine V_ifne (tgt := 73) C dX5_append_63 (by decide) (fun hc => ?_) (fun hc => ?_)
      · refine V_iconst (v := 1) C dX5_append_73 rfl ?_
        refine V_goto (tgt := 78) C dX5_append_74 (by decide) ?_
        have hwL : wideL L = true := by cases h : wideL L with | true => rfl | false => (rw [h] at hc; exact absurd rfl hc)
        refine V_nm (w := b2i (wideL (L ++ List.replicate i x))) (by rw [hwd, hwL]; rfl) ?_
        exact V_sb fin ⟨rfl, rfl, trivial⟩
      · have hwL : wideL L = false := by cases h : wideL L with | false => rfl | true => (rw [h] at hc; exact absurd hc (by decide))
        refine V_iload_n C dX5_append_66 rfl ?_
        refine V_sipush (v := 160) C dX5_append_67 (by decide) ?_
        refine V_icmplt (tgt := 77) C dX5_append_70 (by decide) (fun hc2 => ?_) (fun hc2 => ?_)
        · have h160 : ¬ 160 ≤ x := fun h => nI_nlt (a := x) (b := 160) h (by omega) hc2
          refine V_iconst (v := 0) C dX5_append_77 rfl ?_
          refine V_nm (w := b2i (wideL (L ++ List.replicate i x))) (by rw [hwd, hwL, decide_eq_false h160]; rfl) ?_
          exact V_sb fin ⟨rfl, rfl, trivial⟩
        · have h160 : 160 ≤ x := Nat.le_of_not_lt fun h => hc2 (nI_lt (a := x) (b := 160) h (by decide))
          refine V_iconst (v := 1) C dX5_append_73 rfl ?_
          refine V_goto (tgt := 78) C dX5_append_74 (by decide) ?_
          refine V_nm (w := b2i (wideL (L ++ List.replicate i x))) (by rw [hwd, hwL, decide_eq_true h160]; rfl) ?_
          exact V_sb fin ⟨rfl, rfl, trivial⟩
    | succ d ih =>
      intro i G f hd ht hr hf hK hsG
      have hsl := septL_le (L := L)
      have hw2 : w1 x ≤ 2 := by rcases w1_12 x with h | h <;> rw [h] <;> decide
      have hiw : i * w1 x ≤ i * 2 := Nat.mul_le_mul_left i hw2
      refine V_iload_n C dX5_append_2 rfl ?_
      refine V_iload_n C dX5_append_3 rfl ?_
      refine V_icmpge_f (tgt := 58) C dX5_append_4 (by decide) (nI_ge (by omega) (by omega)) ?_
      refine V_aload_n C dX5_append_7 rfl ?_
      refine V_get C dX5_append_8 fr_5_15 ht rfl ?_
      refine V_aload_n C dX5_append_11 rfl ?_
      refine V_get C dX5_append_12 fr_5_9 ht rfl ?_
      refine V_alen C dX5_append_15 hr rfl ?_
      refine V_icmpge_f (tgt := 58) C dX5_append_16 (by decide) (nI_ge (a := L.length + i) (b := 400) (by omega) (by decide)) ?_
      refine V_aload_n C dX5_append_19 rfl ?_
      refine V_get C dX5_append_20 fr_5_9 ht rfl ?_
      refine V_aload_n C dX5_append_23 rfl ?_
      refine V_get C dX5_append_24 fr_5_15 ht rfl ?_
      refine V_iload_n C dX5_append_27 rfl ?_
      refine G_iast C dX5_append_28 hr rfl (by omega) (by decide) (fun G1 hr hfr => ?_)
      have ht := (hfr _ htr).trans ht
      have hfr1 := hfr
      refine V_aload_n C dX5_append_29 rfl ?_
      refine V_dup C dX5_append_30 rfl ?_
      refine V_get C dX5_append_31 fr_5_15 ht rfl ?_
      refine V_iconst (v := 1) C dX5_append_34 rfl ?_
      refine V_iadd C dX5_append_35 ?_
      refine V_nm (nI_1 _) ?_
      refine G_put C dX5_append_36 fp_5_15 ht rfl rfl (Nat.le_of_ble_eq_true rfl) (fun G2 ht hfr => ?_)
      dsimp only [List.set] at ht
      have hr := (hfr _ htr.symm).trans hr
      have hfr2 := hfr
      refine V_aload_n C dX5_append_39 rfl ?_
      refine V_dup C dX5_append_40 rfl ?_
      refine V_get C dX5_append_41 fr_5_19 ht rfl ?_
      refine V_iload_n C dX5_append_44 rfl ?_
      refine V_invS C dX5_append_45 (c_septetsOf x hx) ms_5_32 rfl (Nat.le_of_ble_eq_true rfl) ⟨Nat.le_of_ble_eq_true rfl, Nat.le_of_ble_eq_true rfl⟩ ⟨Nat.le_of_ble_eq_true rfl, Nat.le_of_ble_eq_true rfl⟩ (fun _ _ _ h => VT_no h) (fun v ad1 F1 hp => ?_)
      obtain ⟨rfl, rfl, rfl⟩ := hp
      refine V_iadd C dX5_append_48 ?_
      refine V_nm (nI_add _ _) ?_
      refine G_put C dX5_append_49 fp_5_19 ht rfl rfl (Nat.le_of_ble_eq_true rfl) (fun G3 ht hfr => ?_)
      dsimp only [List.set] at ht
      have hr := (hfr _ htr.symm).trans hr
      refine V_iinc C dX5_append_52 rfl (nI_inc _) (by decide) ?_
      refine V_goto (tgt := 2) C dX5_append_55 (by decide) ?_
      refine V_sb (ih (i + 1) G3 _ (by omega) (by rw [show septL L + (i + 1) * w1 x = septL L + i * w1 x + w1 x by rw [Nat.succ_mul]; omega]; exact ht) hr (fun j hj => ?_) (fun z hz => ?_) ?_) ⟨rfl, rfl, rfl, rfl, trivial⟩
      · by_cases e : j = L.length + i
        · subst e
          simp only [upd, if_pos]
          rw [List.getD_eq_getElem?_getD, List.getElem?_append_right (by omega), List.getElem?_replicate, if_pos (by omega)]
          rfl
        · simp only [upd, if_neg e]
          have h9 : (L ++ List.replicate i x ++ [x])[j]? = (L ++ List.replicate i x)[j]? := List.getElem?_append_left (by rw [List.length_append, List.length_replicate]; omega)
          rw [hf j (by omega), List.replicate_succ', ← List.append_assoc, List.getD_eq_getElem?_getD, List.getD_eq_getElem?_getD, h9]
      · exact (hfr z (fun e => hz (by simp [e]))).trans ((hfr2 z (fun e => hz (by simp [e]))).trans ((hfr1 z (fun e => hz (by simp [e]))).trans (hK z hz)))
      · exact (hfr s hts.symm).trans ((hfr2 s hts.symm).trans ((hfr1 s hrs.symm).trans hsG))
  refine V_sb (loop m 0 F f0 (by omega) (by simpa using ht) hr (fun j hj => by simpa using hf0 j hj) (fun _ _ => rfl) rfl) ⟨rfl, rfl, rfl, rfl, trivial⟩
set_option maxHeartbeats 400000 in
set_option maxRecDepth 100000 in
/-- Text.clear -/
theorem c_clear {l : Launch} {D : Dx} {b0 : Nat} {ad : Nat → Nat} {F : Fn} (t r s : Nat) (L : List Nat) (hT : TextAt D ad F t r s L) (hrs : r ≠ s) : Ct l D b0 yX5_clear (wsA yX5_clear cX5_clear 1 none) r0 [.ref (ad t)] ad F (fun v ad1 F1 => v = none ∧ ad = ad1 ∧ TextAt D ad F1 t r s [] ∧ ∀ z, z ≠ t → F1 z = F z) noX := by
  refine Ct.of (by decide +kernel) (by simp [Value.category]) (Nat.le_of_ble_eq_true rfl) (fun X eD eb el C Q => ?_)
  subst eD; subst eb; subst el
  obtain ⟨ht, ⟨hl, hxs, f0, hr, hf0⟩, g0, hs, -⟩ := hT
  unfold TxO at ht
  have hts : t ≠ s := obj_ne hs ht
  have htr : t ≠ r := obj_ne hr ht
  have hK : ∀ z, z ≠ t → F z = F z := fun _ _ => rfl
  refine V_aload_n C dX5_clear_0 rfl ?_
  refine V_iconst (v := 0) C dX5_clear_1 rfl ?_
  refine G_put C dX5_clear_2 fp_5_15 ht rfl rfl (Nat.le_of_ble_eq_true rfl) (fun G0 ht hfr => ?_)
  dsimp only [List.set] at ht
  have hK := fun x h => (hfr x h).trans (hK x h)
  refine V_aload_n C dX5_clear_5 rfl ?_
  refine V_iconst (v := 0) C dX5_clear_6 rfl ?_
  refine G_put C dX5_clear_7 fp_5_19 ht rfl rfl (Nat.le_of_ble_eq_true rfl) (fun G1 ht hfr => ?_)
  dsimp only [List.set] at ht
  have hK := fun x h => (hfr x h).trans (hK x h)
  refine V_aload_n C dX5_clear_10 rfl ?_
  refine V_iconst (v := 0) C dX5_clear_11 rfl ?_
  refine G_put C dX5_clear_12 fp_5_22 ht rfl rfl (Nat.le_of_ble_eq_true rfl) (fun G2 ht hfr => ?_)
  dsimp only [List.set] at ht
  have hK := fun x h => (hfr x h).trans (hK x h)
  refine V_aload_n C dX5_clear_15 rfl ?_
  refine V_iconst (v := 0) C dX5_clear_16 rfl ?_
  refine G_put C dX5_clear_17 fp_5_29 ht rfl rfl (Nat.le_of_ble_eq_true rfl) (fun G3 ht hfr => ?_)
  dsimp only [List.set] at ht
  have hK := fun x h => (hfr x h).trans (hK x h)
  exact V_return C Q dX5_clear_20 (Nat.le_of_ble_eq_true rfl) (Nat.le_of_ble_eq_true rfl) ⟨rfl, rfl, ⟨by rw [npL_nil]; exact ht, ⟨by decide, fun x hx => absurd hx List.not_mem_nil, f0, (hK r htr.symm).trans hr, fun j hj => absurd hj (Nat.not_lt_zero j)⟩, g0, (hK s hts.symm).trans hs, fun h => absurd rfl h⟩, hK⟩
set_option maxHeartbeats 400000 in
set_option maxRecDepth 100000 in
/-- Text.startOf -/
theorem c_startOf {l : Launch} {D : Dx} {b0 : Nat} {ad : Nat → Nat} {F : Fn} (t r s : Nat) (L : List Nat) (k : Nat) (hT : TextAt D ad F t r s L) (hk : k ≤ npL L) (hne : L ≠ []) : Ct l D b0 yX5_startOf (wsA yX5_startOf cX5_startOf 2 (some .int)) r0 [.ref (ad t), .int (nI k)] ad F (pRd (some (.int (nI (posL L k)))) ad F) noX := by
  refine Ct.of (by decide +kernel) (by simp [Value.category]) (Nat.le_of_ble_eq_true rfl) (fun X eD eb el C Q => ?_)
  subst eD; subst eb; subst el
  obtain ⟨ht, ⟨hl, -⟩, g0, hs, hg⟩ := hT
  unfold TxO at ht
  have h6 := (npL_spec hl).1
  refine V_iload_n C dX5_startOf_0 rfl ?_
  refine V_iflt_f (tgt := 30) C dX5_startOf_1 (by decide) (nI_pos (by omega)) ?_
  refine V_iload_n C dX5_startOf_4 rfl ?_
  refine V_aload_n C dX5_startOf_5 rfl ?_
  refine V_get C dX5_startOf_6 fr_5_29 ht rfl ?_
  refine V_icmpgt_f (tgt := 30) C dX5_startOf_9 (by decide) (fun h => nI_nlt hk (by omega) h) ?_
  refine V_iload_n C dX5_startOf_12 rfl ?_
  refine V_aload_n C dX5_startOf_13 rfl ?_
  refine V_get C dX5_startOf_14 fr_5_26 ht rfl ?_
  refine V_alen C dX5_startOf_17 hs rfl ?_
  refine V_icmpge_f (tgt := 30) C dX5_startOf_18 (by decide) (nI_ge (a := k) (b := 7) (by omega) (by decide)) ?_
  refine V_aload_n C dX5_startOf_21 rfl ?_
  refine V_get C dX5_startOf_22 fr_5_26 ht rfl ?_
  refine V_iload_n C dX5_startOf_25 rfl ?_
  refine V_iald C dX5_startOf_26 hs rfl (by omega) (by decide) ?_
  refine V_nm (hg hne k hk) ?_
  refine V_goto (tgt := 34) C dX5_startOf_27 (by decide) ?_
  exact V_ireturn C Q dX5_startOf_34 rfl (Nat.le_of_ble_eq_true rfl) (Nat.le_of_ble_eq_true rfl) ⟨rfl, rfl, rfl⟩
end
section
/-! ===== Arrays.copyOf, and what the text tells of its parts ===== -/
theorem cl_J7_317 : Cond.classLink RJ7 317 "[I" ∈ ALL := inr_14 _ (List.mem_of_getElem? (i := 19) rfl)
section CP
variable {X : Cxt} {cc : ByteArray} {nL : Nat} {y : MethodName} {R : Room} {ret : Option FieldType} {tb : List ExceptionTableEntry} {k n pc : Nat} {lv : Lv} {st : List Value} {ad : Nat → Nat} {F : Fn}
theorem G_clone {N ca : Nat} {f : Nat → Int32} (c0 : Nat) (C : Ok X cc nL y R ret tb) (hy9 : y.cls = RJ7) (d : decode cc pc = .ok (.invokevirtual 316, 3)) (ha : F ca = some (aI (xD X) N f)) (hc : F c0 = none) (hf : 1 ≤ R.frames) (hlo : (st.map fun v => v.category).sum + 14 ≤ R.locals) (h1 : k + 1 ≤ R.cells) (h2 : n + N ≤ R.slots)
    (K : ∀ (ad' : Nat → Nat) (F' : Fn), (∀ c : Nat, c ≠ c0 → ad' c = ad c) → F' c0 = some (aI (xD X) N f) → (∀ c : Nat, c ≠ c0 → F' c = F c) → V X (k + 1) (n + N) (pc + 3) lv (.ref (ad' c0) :: st) ad' F') : V X k n pc lv (.ref (ad ca) :: st) ad F := by
  intro H locs ls hW hS hl
  obtain ⟨⟨ws, hP, hD, hw⟩, hin⟩ := id hW
  obtain ⟨p, hx⟩ := hw _ _ ha
  have hR := C.room
  have hown : (xs X).vm.findClass RJ7 = some (xm X).cls := by rw [← hy9]; exact C.own
  refine va_clone C.1 C.2.1 (by rw [C.2.2.1]; exact hl.1.1.symm) hown (C.ts _ mcl_methodLink) (C.ts _ mcl_sameMethod) (C.ts _ mcl_native) (C.ts _ mcl_instanceMethod) (C.ts _ mcl_selects) C.ev.2.2.2.2.2.1.2.2 C.ev.1 hP hD hS C.fresh p 0 hx rfl (C.ev.1.2 0 _ rfl).2 (fun i v hv => ?_) (by rw [hR]; exact hf) (by rw [hR]; exact hlo) (by rw [hR]; exact h1) (by rw [hR]; exact h2) d (fun q H1 _ hP1 hD1 hS1 => ?_)
  · obtain ⟨hlt, rfl⟩ := Array.getElem?_eq_some_iff.mp hv
    simp [vp_cell, arrV, fits]
  · have h := K (va_up ad c0 q) _ (fun c hc => up_n hc) (up_or rfl).1 (up_or rfl).2
    rw [up_s] at h
    exact h H1 locs ls (WD.push hin hw hc hP1 hD1) hS1 hl
theorem V_castI {N ca : Nat} {f : Nat → Int32} (C : Ok X cc nL y R ret tb) (hy9 : y.cls = RJ7) (d : decode cc pc = .ok (.checkcast 317, 3)) (ha : F ca = some (aI (xD X) N f)) (K : V X k n (pc + 3) lv (.ref (ad ca) :: st) ad F) : V X k n pc lv (.ref (ad ca) :: st) ad F := by
  intro H locs ls hW hS hl
  obtain ⟨⟨ws, hP, hD, hw⟩, hin⟩ := id hW
  obtain ⟨p, hx⟩ := hw _ _ ha
  have hown : (xs X).vm.findClass RJ7 = some (xm X).cls := by rw [← hy9]; exact C.own
  exact va_castA C.1 C.2.1 hown (C.ts _ cl_J7_317) hP p hx (C.ev.1.2 0 _ rfl).2 d (K H locs ls hW hS hl)
end CP
set_option maxHeartbeats 400000 in
set_option maxRecDepth 100000 in
/-- Arrays.copyOf of ints -/
theorem c_copyOf {l : Launch} {D : Dx} {b0 : Nat} {ad : Nat → Nat} {F : Fn} (a N m c : Nat) (f : Nat → Int32) (ha : F a = some (aI D N f)) (hm : m ≤ N) (hN : N ≤ 400) (hc : F c = none) : Ct l D b0 yJ7_copyOf_59c91 (wsA yJ7_copyOf_59c91 cJ7_copyOf_59c91 3 (some (.array .int))) (rC 1 1 400) [.ref (ad a), .int (nI m)] ad F (fun v ad1 F1 => v = some (.ref (ad1 c)) ∧ (∀ x, x ≠ c → ad1 x = ad x) ∧ (∃ g, F1 c = some (aI D m g) ∧ ∀ j, j < m → g j = f j) ∧ ∀ x, x ≠ c → F1 x = F x) noX := by
  refine Ct.of (by decide +kernel) (by simp [Value.category]) (Nat.le_of_ble_eq_true rfl) (fun X eD eb el C Q => ?_)
  subst eD; subst eb; subst el
  have hac : a ≠ c := fun e => by rw [e, hc] at ha; cases ha
  refine V_iload_n C dJ7_copyOf_59c91_0 rfl ?_
  refine V_aload_n C dJ7_copyOf_59c91_1 rfl ?_
  refine V_alen C dJ7_copyOf_59c91_2 ha rfl ?_
  refine V_icmpne (tgt := 14) C dJ7_copyOf_59c91_3 (by decide) (fun hcn => ?_) (fun hcn => ?_)
  · refine V_iload_n C dJ7_copyOf_59c91_14 rfl ?_
    refine G_newi (N := m) c C dJ7_copyOf_59c91_15 ar_int hc rfl (by omega) (Nat.le_of_ble_eq_true rfl) (by show 0 + m ≤ 400; omega) (fun ad1 F1 had hc1 hfr => ?_)
    have ha1 := (hfr a hac).trans ha
    have ea : ad a = ad1 a := (had a hac).symm
    rw [ea]
    refine V_astore_n C dJ7_copyOf_59c91_17 (by decide) ?_
    refine V_aload_n C dJ7_copyOf_59c91_18 rfl ?_
    refine V_iconst (v := 0) C dJ7_copyOf_59c91_19 rfl ?_
    refine V_aload_n C dJ7_copyOf_59c91_20 rfl ?_
    refine V_iconst (v := 0) C dJ7_copyOf_59c91_21 rfl ?_
    refine V_aload_n C dJ7_copyOf_59c91_22 rfl ?_
    refine V_alen C dJ7_copyOf_59c91_23 ha1 rfl ?_
    refine V_iload_n C dJ7_copyOf_59c91_24 rfl ?_
    refine V_min C dJ7_copyOf_59c91_25 mm_methodLink mm_static ini_math mm_code (Nat.le_of_ble_eq_true rfl) (Nat.le_of_ble_eq_true rfl) (Nat.le_of_ble_eq_true rfl) (by show 0 + m ≤ 400; omega) ?_
    refine V_nm (w := nI m) ?_ ?_
    · split
      · rfl
      · rename_i h
        have : ¬ m < N := fun h2 => h (nI_lt h2 (by omega))
        rw [show m = N by omega]
    refine V_copyi C dJ7_copyOf_59c91_28 ml_ac nat_ac st_ac ini_sys ha1 hc1 (sp := 0) (dp := 0) rfl rfl rfl (by omega) (by omega) (by omega) (Nat.le_of_ble_eq_true rfl) (by decide +kernel) ?_
    obtain ⟨F2, hF2⟩ : ∃ z, z = va_up F1 c (some (aI (xD X) m (va_cpy f (fun _ => 0) 0 0 m))) := ⟨_, rfl⟩
    obtain ⟨hc2, hfr2⟩ := up_or hF2
    rw [← hF2]
    refine V_aload_n C dJ7_copyOf_59c91_31 rfl ?_
    refine V_areturn C Q dJ7_copyOf_59c91_32 (Or.inr ⟨_, rfl⟩) (Or.inr ⟨_, rfl⟩) (Nat.le_of_ble_eq_true rfl) (by show 0 + m ≤ 400; omega) ⟨rfl, had, ⟨_, hc2, fun j hj => ?_⟩, fun x hx => (hfr2 x hx).trans (hfr x hx)⟩
    simp [va_cpy, hj]
  · have hmN : m = N := (nI_eq (by omega) (by omega)).mp hcn
    subst hmN
    refine V_aload_n C dJ7_copyOf_59c91_6 rfl ?_
    refine G_clone c C rfl dJ7_copyOf_59c91_7 ha hc (Nat.le_of_ble_eq_true rfl) (Nat.le_of_ble_eq_true rfl) (Nat.le_of_ble_eq_true rfl) (by show 0 + m ≤ 400; omega) (fun ad1 F1 had hc1 hfr => ?_)
    refine V_castI C rfl dJ7_copyOf_59c91_10 hc1 ?_
    exact V_areturn C Q dJ7_copyOf_59c91_13 (Or.inr ⟨_, rfl⟩) (Or.inr ⟨_, rfl⟩) (Nat.le_of_ble_eq_true rfl) (by show 0 + m ≤ 400; omega) ⟨rfl, had, ⟨_, hc1, fun _ _ => rfl⟩, hfr⟩
set_option maxHeartbeats 400000 in
set_option maxRecDepth 100000 in
/-- Text.copyOfSigns -/
theorem c_copyOfSigns {l : Launch} {D : Dx} {b0 : Nat} {ad : Nat → Nat} {F : Fn} (t r s c : Nat) (L : List Nat) (hT : TextAt D ad F t r s L) (hc : F c = none) : Ct l D b0 yX5_copyOfSigns (wsA yX5_copyOfSigns cX5_copyOfSigns 1 (some (.array .int))) (rC 2 1 400) [.ref (ad t)] ad F (fun v ad1 F1 => v = some (.ref (ad1 c)) ∧ (∀ x, x ≠ c → ad1 x = ad x) ∧ (∃ g, F1 c = some (aI D L.length g) ∧ ∀ j, j < L.length → g j = nI (L.getD j 0)) ∧ ∀ x, x ≠ c → F1 x = F x) noX := by
  refine Ct.of (by decide +kernel) (by simp [Value.category]) (Nat.le_of_ble_eq_true rfl) (fun X eD eb el C Q => ?_)
  subst eD; subst eb; subst el
  obtain ⟨ht, ⟨hl, hxs, f0, hr, hf0⟩, g0, hs, hg⟩ := hT
  unfold TxO at ht
  have h6 := (npL_spec hl).1
  refine V_aload_n C dX5_copyOfSigns_0 rfl ?_
  refine V_get C dX5_copyOfSigns_1 fr_5_9 ht rfl ?_
  refine V_aload_n C dX5_copyOfSigns_4 rfl ?_
  refine V_get C dX5_copyOfSigns_5 fr_5_15 ht rfl ?_
  refine V_invS C dX5_copyOfSigns_8 (c_copyOf r 400 L.length c f0 hr hl (by decide) hc) ms_5_52 rfl (Nat.le_of_ble_eq_true rfl) ⟨Nat.le_of_ble_eq_true rfl, Nat.le_of_ble_eq_true rfl⟩ ⟨Nat.le_of_ble_eq_true rfl, Nat.le_of_ble_eq_true rfl⟩ (fun _ _ _ h => VT_no h) (fun v ad1 F1 hp => ?_)
  obtain ⟨rfl, had, ⟨g, h1, h2⟩, h3⟩ := hp
  exact V_areturn C Q dX5_copyOfSigns_11 (Or.inr ⟨_, rfl⟩) (Or.inr ⟨_, rfl⟩) (Nat.le_of_ble_eq_true rfl) (Nat.le_of_ble_eq_true rfl) ⟨rfl, had, ⟨g, h1, fun j hj => (h2 j hj).trans (hf0 j hj)⟩, h3⟩
set_option maxHeartbeats 400000 in
set_option maxRecDepth 100000 in
/-- Text.copyOfStarts -/
theorem c_copyOfStarts {l : Launch} {D : Dx} {b0 : Nat} {ad : Nat → Nat} {F : Fn} (t r s c : Nat) (L : List Nat) (hT : TextAt D ad F t r s L) (hc : F c = none) (hne : L ≠ []) : Ct l D b0 yX5_copyOfStarts (wsA yX5_copyOfStarts cX5_copyOfStarts 1 (some (.array .int))) (rC 2 1 400) [.ref (ad t)] ad F (fun v ad1 F1 => v = some (.ref (ad1 c)) ∧ (∀ x, x ≠ c → ad1 x = ad x) ∧ (∃ g, F1 c = some (aI D (npL L + 1) g) ∧ ∀ j, j ≤ npL L → g j = nI (posL L j)) ∧ ∀ x, x ≠ c → F1 x = F x) noX := by
  refine Ct.of (by decide +kernel) (by simp [Value.category]) (Nat.le_of_ble_eq_true rfl) (fun X eD eb el C Q => ?_)
  subst eD; subst eb; subst el
  obtain ⟨ht, ⟨hl, hxs, f0, hr, hf0⟩, g0, hs, hg⟩ := hT
  unfold TxO at ht
  have h6 := (npL_spec hl).1
  refine V_aload_n C dX5_copyOfStarts_0 rfl ?_
  refine V_get C dX5_copyOfStarts_1 fr_5_26 ht rfl ?_
  refine V_aload_n C dX5_copyOfStarts_4 rfl ?_
  refine V_get C dX5_copyOfStarts_5 fr_5_29 ht rfl ?_
  refine V_iconst (v := 1) C dX5_copyOfStarts_8 rfl ?_
  refine V_iadd C dX5_copyOfStarts_9 ?_
  refine V_nm (nI_1 _) ?_
  refine V_invS C dX5_copyOfStarts_10 (c_copyOf s 7 (npL L + 1) c g0 hs (by omega) (by decide) hc) ms_5_52 rfl (Nat.le_of_ble_eq_true rfl) ⟨Nat.le_of_ble_eq_true rfl, Nat.le_of_ble_eq_true rfl⟩ ⟨Nat.le_of_ble_eq_true rfl, Nat.le_of_ble_eq_true rfl⟩ (fun _ _ _ h => VT_no h) (fun v ad1 F1 hp => ?_)
  obtain ⟨rfl, had, ⟨g, h1, h2⟩, h3⟩ := hp
  exact V_areturn C Q dX5_copyOfStarts_13 (Or.inr ⟨_, rfl⟩) (Or.inr ⟨_, rfl⟩) (Nat.le_of_ble_eq_true rfl) (Nat.le_of_ble_eq_true rfl) ⟨rfl, had, ⟨g, h1, fun j hj => (h2 j (by omega)).trans (hg hne j hj)⟩, h3⟩
end
section
/-! ===== octets of parts ===== -/
/-- the signs of a part -/
def ptL (L : List Nat) (k : Nat) : List Nat := (L.drop (posL L k)).take (posL L (k + 1) - posL L k)
def octN (L : List Nat) (k : Nat) : Nat := if wideL L then 2 * (posL L (k + 1) - posL L k) else (7 * septL (ptL L k) + 7) / 8
/-- a septet of a row of signs, 0 behind the last one -/
def sepF : List Nat → Nat → Nat
  | [], _ => 0
  | x :: r, i => if i < w1 x then sptO x i else sepF r (i - w1 x)
def octI (L : List Nat) (k place : Nat) : Int32 :=
  if wideL L then (if place % 2 = 0 then nI (L.getD (posL L k + place / 2) 0 / 256) else nI (L.getD (posL L k + place / 2) 0 % 256))
  else ((nI (sepF (ptL L k) (8 * place / 7)) ||| (nI (sepF (ptL L k) (8 * place / 7 + 1)) <<< ((7 : Int32) &&& 31))) >>> (nI (8 * place % 7) &&& 31)) &&& 255
theorem sub_drop {L : List Nat} {i e : Nat} (h : i < e) (he : e ≤ L.length) : (L.drop i).take (e - i) = L.getD i 0 :: (L.drop (i + 1)).take (e - (i + 1)) := by
  have hi : i < L.length := by omega
  rw [List.drop_eq_getElem_cons hi, show e - i = (e - (i + 1)) + 1 by omega, List.take_succ_cons]
  rw [List.getD_eq_getElem?_getD, List.getElem?_eq_getElem hi]
  rfl
theorem sepW {L : List Nat} : ∀ x ∈ L, x < 1000 → True := fun _ _ _ => trivial
theorem septL_cons (x : Nat) (r : List Nat) : septL (x :: r) = w1 x + septL r := by simp [septL]
theorem wide_tr {L : List Nat} (h : ¬ b2i (wideL L) = 0) : wideL L = true := by
  cases h2 : wideL L with
  | true => rfl
  | false => rw [h2] at h; exact absurd rfl h
theorem wide_fa {L : List Nat} (h : b2i (wideL L) = 0) : ¬ wideL L = true := fun h2 => by rw [h2] at h; exact absurd h (by decide)
set_option maxHeartbeats 400000 in
set_option maxRecDepth 100000 in
/-- Text.septetsIn -/
theorem c_septetsIn {l : Launch} {D : Dx} {b0 : Nat} {ad : Nat → Nat} {F : Fn} (t r s : Nat) (L : List Nat) (k : Nat) (hT : TextAt D ad F t r s L) (hk : k < npL L) : Ct l D b0 yX5_septetsIn (wsA yX5_septetsIn cX5_septetsIn 5 (some .int)) (rK 1) [.ref (ad t), .int (nI k)] ad F (pRd (some (.int (nI (septL (ptL L k))))) ad F) noX := by
  refine Ct.of (by decide +kernel) (by simp [Value.category]) (Nat.le_of_ble_eq_true rfl) (fun X eD eb el C Q => ?_)
  subst eD; subst eb; subst el
  obtain ⟨ht, hS, g0, hs, hg⟩ := id hT
  have ht0 := ht
  unfold TxO at ht
  have hl := hS.1
  have hxs := hS.2.1
  have hne : L ≠ [] := fun e => by rw [e, npL_nil] at hk; exact absurd hk (Nat.not_lt_zero k)
  have h6 := (npL_spec hl).1
  have hpe := posL_le L (k + 1)
  have hpm := posL_mono L (show k ≤ k + 1 by omega)
  have hsl := septL_le (L := L)
  refine V_iconst (v := 0) C dX5_septetsIn_0 rfl ?_
  refine V_istore_n C dX5_septetsIn_1 (by decide) ?_
  refine V_aload_n C dX5_septetsIn_2 rfl ?_
  refine V_iload_n C dX5_septetsIn_3 rfl ?_
  refine V_iconst (v := 1) C dX5_septetsIn_4 rfl ?_
  refine V_iadd C dX5_septetsIn_5 ?_
  refine V_nm (nI_1 k) ?_
  refine V_invV C dX5_septetsIn_6 ht rfl (c_startOf t r s L (k + 1) hT hk hne) mv_5_39 rfl (Nat.le_of_ble_eq_true rfl) ⟨Nat.le_of_ble_eq_true rfl, Nat.le_of_ble_eq_true rfl⟩ ⟨Nat.le_of_ble_eq_true rfl, Nat.le_of_ble_eq_true rfl⟩ (fun _ _ _ h => VT_no h) (fun v ad1 F1 hp => ?_)
  obtain ⟨rfl, rfl, rfl⟩ := hp
  refine V_istore_n C dX5_septetsIn_9 (by decide) ?_
  refine V_aload_n C dX5_septetsIn_10 rfl ?_
  refine V_iload_n C dX5_septetsIn_11 rfl ?_
  refine V_invV C dX5_septetsIn_12 ht rfl (c_startOf t r s L k hT (by omega) hne) mv_5_39 rfl (Nat.le_of_ble_eq_true rfl) ⟨Nat.le_of_ble_eq_true rfl, Nat.le_of_ble_eq_true rfl⟩ ⟨Nat.le_of_ble_eq_true rfl, Nat.le_of_ble_eq_true rfl⟩ (fun _ _ _ h => VT_no h) (fun v ad1 F1 hp => ?_)
  obtain ⟨rfl, rfl, rfl⟩ := hp
  refine V_istore C dX5_septetsIn_15 (by decide) ?_
  have loop : ∀ (d i m : Nat), i + d = posL L (k + 1) → m + septL ((L.drop i).take (posL L (k + 1) - i)) = septL (ptL L k) → m ≤ 2 * i →
      V X 0 0 17 [(0, .ref (ad t)), (1, .int (nI k)), (2, .int (nI m)), (3, .int (nI (posL L (k + 1)))), (4, .int (nI i))] [] ad F := by
    intro d
    induction d with
    | zero =>
      intro i m hd hm hm2
      have hi : i = posL L (k + 1) := by omega
      subst hi
      rw [Nat.sub_self, List.take_zero] at hm
      have hm3 : m = septL (ptL L k) := by rw [← hm]; rfl
      subst hm3
      refine V_iload C dX5_septetsIn_17 rfl ?_
      refine V_iload_n C dX5_septetsIn_19 rfl ?_
      refine V_icmpge_t (tgt := 41) C dX5_septetsIn_20 (by decide) (Int32.le_refl _) ?_
      refine V_iload_n C dX5_septetsIn_41 rfl ?_
      exact V_ireturn C Q dX5_septetsIn_42 rfl (Nat.le_of_ble_eq_true rfl) (Nat.le_of_ble_eq_true rfl) ⟨rfl, rfl, rfl⟩
    | succ d ih =>
      intro i m hd hm hm2
      have hx9 := getD_lt hxs i
      have hw2 : w1 (L.getD i 0) ≤ 2 := by rcases w1_12 (L.getD i 0) with h | h <;> rw [h] <;> decide
      refine V_iload C dX5_septetsIn_17 rfl ?_
      refine V_iload_n C dX5_septetsIn_19 rfl ?_
      refine V_icmpge_f (tgt := 41) C dX5_septetsIn_20 (by decide) (nI_ge (by omega) (by omega)) ?_
      refine V_iload_n C dX5_septetsIn_23 rfl ?_
      refine V_aload_n C dX5_septetsIn_24 rfl ?_
      refine V_iload C dX5_septetsIn_25 rfl ?_
      refine V_invV C dX5_septetsIn_27 ht rfl (c_signAt t r s L _ i ht0 hS (by omega)) mv_5_45 rfl (Nat.le_of_ble_eq_true rfl) ⟨Nat.le_of_ble_eq_true rfl, Nat.le_of_ble_eq_true rfl⟩ ⟨Nat.le_of_ble_eq_true rfl, Nat.le_of_ble_eq_true rfl⟩ (fun _ _ _ h => VT_no h) (fun v ad1 F1 hp => ?_)
      obtain ⟨rfl, rfl, rfl⟩ := hp
      refine V_invS C dX5_septetsIn_30 (c_septetsOf (L.getD i 0) hx9) ms_5_32 rfl (Nat.le_of_ble_eq_true rfl) ⟨Nat.le_of_ble_eq_true rfl, Nat.le_of_ble_eq_true rfl⟩ ⟨Nat.le_of_ble_eq_true rfl, Nat.le_of_ble_eq_true rfl⟩ (fun _ _ _ h => VT_no h) (fun v ad1 F1 hp => ?_)
      obtain ⟨rfl, rfl, rfl⟩ := hp
      refine V_iadd C dX5_septetsIn_33 ?_
      refine V_nm (nI_add _ _) ?_
      refine V_istore_n C dX5_septetsIn_34 (by decide) ?_
      refine V_iinc C dX5_septetsIn_35 rfl (nI_inc _) (by decide) ?_
      refine V_goto (tgt := 17) C dX5_septetsIn_38 (by decide) ?_
      refine V_sb (ih (i + 1) (m + w1 (L.getD i 0)) (by omega) (by rw [sub_drop (show i < posL L (k + 1) by omega) hpe, septL_cons] at hm; omega) (by omega)) ⟨rfl, rfl, rfl, rfl, rfl, trivial⟩
  refine V_sb (loop (posL L (k + 1) - posL L k) (posL L k) 0 (by omega) (by rw [Nat.zero_add]; rfl) (Nat.zero_le _)) ⟨rfl, rfl, rfl, rfl, rfl, trivial⟩
set_option maxHeartbeats 400000 in
set_option maxRecDepth 100000 in
/-- Text.octetsOf -/
theorem c_octetsOf {l : Launch} {D : Dx} {b0 : Nat} {ad : Nat → Nat} {F : Fn} (t r s : Nat) (L : List Nat) (k : Nat) (hT : TextAt D ad F t r s L) (hk : k < npL L) : Ct l D b0 yX5_octetsOf (wsA yX5_octetsOf cX5_octetsOf 2 (some .int)) (rK 2) [.ref (ad t), .int (nI k)] ad F (pRd (some (.int (nI (octN L k)))) ad F) noX := by
  refine Ct.of (by decide +kernel) (by simp [Value.category]) (Nat.le_of_ble_eq_true rfl) (fun X eD eb el C Q => ?_)
  subst eD; subst eb; subst el
  obtain ⟨ht, hS, g0, hs, hg⟩ := id hT
  have ht0 := ht
  unfold TxO at ht
  have hl := hS.1
  have hxs := hS.2.1
  have hne : L ≠ [] := fun e => by rw [e, npL_nil] at hk; exact absurd hk (Nat.not_lt_zero k)
  have h6 := (npL_spec hl).1
  have hpe := posL_le L (k + 1)
  have hpm := posL_mono L (show k ≤ k + 1 by omega)
  have hsl := septL_le (L := L)
  refine V_aload_n C dX5_octetsOf_0 rfl ?_
  refine V_get C dX5_octetsOf_1 fr_5_22 ht rfl ?_
  refine V_ifeq (tgt := 23) C dX5_octetsOf_4 (by decide) (fun hc => ?_) (fun hc => ?_)
  · have hw := wide_fa hc
    have hp2 : septL (ptL L k) ≤ 2 * 400 := by
      refine Nat.le_trans septL_le (Nat.mul_le_mul_left 2 ?_)
      unfold ptL
      rw [List.length_take, List.length_drop]
      omega
    rw [show octN L k = (7 * septL (ptL L k) + 7) / 8 from if_neg hw] at Q
    refine V_bipush (v := 7) C dX5_octetsOf_23 (by decide) ?_
    refine V_aload_n C dX5_octetsOf_25 rfl ?_
    refine V_iload_n C dX5_octetsOf_26 rfl ?_
    refine V_invV C dX5_octetsOf_27 ht rfl (c_septetsIn t r s L k hT hk) mv_5_42 rfl (Nat.le_of_ble_eq_true rfl) ⟨Nat.le_of_ble_eq_true rfl, Nat.le_of_ble_eq_true rfl⟩ ⟨Nat.le_of_ble_eq_true rfl, Nat.le_of_ble_eq_true rfl⟩ (fun _ _ _ h => VT_no h) (fun v ad1 F1 hp => ?_)
    obtain ⟨rfl, rfl, rfl⟩ := hp
    refine V_imul C dX5_octetsOf_30 ?_
    refine V_nm (pk_mul 7 _) ?_
    refine V_bipush (v := 7) C dX5_octetsOf_31 (by decide) ?_
    refine V_iadd C dX5_octetsOf_33 ?_
    refine V_nm (nI_add _ 7) ?_
    refine V_bipush (v := 8) C dX5_octetsOf_34 (by decide) ?_
    refine V_idiv C dX5_octetsOf_36 (by decide) ?_
    refine V_nm (pk_div (d := 8) (by omega) (by decide) (by decide)) ?_
    exact V_ireturn C Q dX5_octetsOf_37 rfl (Nat.le_of_ble_eq_true rfl) (Nat.le_of_ble_eq_true rfl) ⟨rfl, rfl, rfl⟩
  · rw [show octN L k = 2 * (posL L (k + 1) - posL L k) from if_pos (wide_tr hc)] at Q
    refine V_iconst (v := 2) C dX5_octetsOf_7 rfl ?_
    refine V_aload_n C dX5_octetsOf_8 rfl ?_
    refine V_iload_n C dX5_octetsOf_9 rfl ?_
    refine V_iconst (v := 1) C dX5_octetsOf_10 rfl ?_
    refine V_iadd C dX5_octetsOf_11 ?_
    refine V_nm (nI_1 k) ?_
    refine V_invV C dX5_octetsOf_12 ht rfl (c_startOf t r s L (k + 1) hT hk hne) mv_5_39 rfl (Nat.le_of_ble_eq_true rfl) ⟨Nat.le_of_ble_eq_true rfl, Nat.le_of_ble_eq_true rfl⟩ ⟨Nat.le_of_ble_eq_true rfl, Nat.le_of_ble_eq_true rfl⟩ (fun _ _ _ h => VT_no h) (fun v ad1 F1 hp => ?_)
    obtain ⟨rfl, rfl, rfl⟩ := hp
    refine V_aload_n C dX5_octetsOf_15 rfl ?_
    refine V_iload_n C dX5_octetsOf_16 rfl ?_
    refine V_invV C dX5_octetsOf_17 ht rfl (c_startOf t r s L k hT (by omega) hne) mv_5_39 rfl (Nat.le_of_ble_eq_true rfl) ⟨Nat.le_of_ble_eq_true rfl, Nat.le_of_ble_eq_true rfl⟩ ⟨Nat.le_of_ble_eq_true rfl, Nat.le_of_ble_eq_true rfl⟩ (fun _ _ _ h => VT_no h) (fun v ad1 F1 hp => ?_)
    obtain ⟨rfl, rfl, rfl⟩ := hp
    refine V_isub C dX5_octetsOf_20 ?_
    refine V_nm (pk_sub hpm) ?_
    refine V_imul C dX5_octetsOf_21 ?_
    refine V_nm (pk_mul 2 _) ?_
    exact V_ireturn C Q dX5_octetsOf_22 rfl (Nat.le_of_ble_eq_true rfl) (Nat.le_of_ble_eq_true rfl) ⟨rfl, rfl, rfl⟩
set_option maxHeartbeats 400000 in
set_option maxRecDepth 100000 in
/-- Text.septetAt -/
theorem c_septetAt {l : Launch} {D : Dx} {b0 : Nat} {ad : Nat → Nat} {F : Fn} (t r s : Nat) (L : List Nat) (k : Nat) (x : Nat) (hT : TextAt D ad F t r s L) (hk : k < npL L) (hx : x < 2 ^ 30) : Ct l D b0 yX5_septetAt (wsA yX5_septetAt cX5_septetAt 8 (some .int)) (rK 1) [.ref (ad t), .int (nI k), .int (nI x)] ad F (pRd (some (.int (nI (sepF (ptL L k) x)))) ad F) noX := by
  refine Ct.of (by decide +kernel) (by simp [Value.category]) (Nat.le_of_ble_eq_true rfl) (fun X eD eb el C Q => ?_)
  subst eD; subst eb; subst el
  obtain ⟨ht, hS, g0, hs, hg⟩ := id hT
  have ht0 := ht
  unfold TxO at ht
  have hl := hS.1
  have hxs := hS.2.1
  have hne : L ≠ [] := fun e => by rw [e, npL_nil] at hk; exact absurd hk (Nat.not_lt_zero k)
  have h6 := (npL_spec hl).1
  have hpe := posL_le L (k + 1)
  have hpm := posL_mono L (show k ≤ k + 1 by omega)
  have hsl := septL_le (L := L)
  refine V_iconst (v := 0) C dX5_septetAt_0 rfl ?_
  refine V_istore_n C dX5_septetAt_1 (by decide) ?_
  refine V_aload_n C dX5_septetAt_2 rfl ?_
  refine V_iload_n C dX5_septetAt_3 rfl ?_
  refine V_iconst (v := 1) C dX5_septetAt_4 rfl ?_
  refine V_iadd C dX5_septetAt_5 ?_
  refine V_nm (nI_1 k) ?_
  refine V_invV C dX5_septetAt_6 ht rfl (c_startOf t r s L (k + 1) hT hk hne) mv_5_39 rfl (Nat.le_of_ble_eq_true rfl) ⟨Nat.le_of_ble_eq_true rfl, Nat.le_of_ble_eq_true rfl⟩ ⟨Nat.le_of_ble_eq_true rfl, Nat.le_of_ble_eq_true rfl⟩ (fun _ _ _ h => VT_no h) (fun v ad1 F1 hp => ?_)
  obtain ⟨rfl, rfl, rfl⟩ := hp
  refine V_istore C dX5_septetAt_9 (by decide) ?_
  refine V_aload_n C dX5_septetAt_11 rfl ?_
  refine V_iload_n C dX5_septetAt_12 rfl ?_
  refine V_invV C dX5_septetAt_13 ht rfl (c_startOf t r s L k hT (by omega) hne) mv_5_39 rfl (Nat.le_of_ble_eq_true rfl) ⟨Nat.le_of_ble_eq_true rfl, Nat.le_of_ble_eq_true rfl⟩ ⟨Nat.le_of_ble_eq_true rfl, Nat.le_of_ble_eq_true rfl⟩ (fun _ _ _ h => VT_no h) (fun v ad1 F1 hp => ?_)
  obtain ⟨rfl, rfl, rfl⟩ := hp
  refine V_istore C dX5_septetAt_16 (by decide) ?_
  have loop : ∀ (d i m : Nat), i + d = posL L (k + 1) → m ≤ x → sepF ((L.drop i).take (posL L (k + 1) - i)) (x - m) = sepF (ptL L k) x →
      V X 0 0 18 [(0, .ref (ad t)), (1, .int (nI k)), (2, .int (nI x)), (3, .int (nI m)), (4, .int (nI (posL L (k + 1)))), (5, .int (nI i))] [] ad F := by
    intro d
    induction d with
    | zero =>
      intro i m hd hm hs9
      have hi : i = posL L (k + 1) := by omega
      subst hi
      rw [Nat.sub_self, List.take_zero] at hs9
      rw [← hs9] at Q
      refine V_iload C dX5_septetAt_18 rfl ?_
      refine V_iload C dX5_septetAt_20 rfl ?_
      refine V_icmpge_t (tgt := 68) C dX5_septetAt_22 (by decide) (Int32.le_refl _) ?_
      refine V_iconst (v := 0) C dX5_septetAt_68 rfl ?_
      exact V_ireturn C Q dX5_septetAt_69 rfl (Nat.le_of_ble_eq_true rfl) (Nat.le_of_ble_eq_true rfl) ⟨rfl, rfl, rfl⟩
    | succ d ih =>
      intro i m hd hm hs9
      have hx9 := getD_lt hxs i
      have hw2 : w1 (L.getD i 0) ≤ 2 := by rcases w1_12 (L.getD i 0) with h | h <;> rw [h] <;> decide
      rw [sub_drop (show i < posL L (k + 1) by omega) hpe, sepF] at hs9
      refine V_iload C dX5_septetAt_18 rfl ?_
      refine V_iload C dX5_septetAt_20 rfl ?_
      refine V_icmpge_f (tgt := 68) C dX5_septetAt_22 (by decide) (nI_ge (by omega) (by omega)) ?_
      refine V_aload_n C dX5_septetAt_25 rfl ?_
      refine V_iload C dX5_septetAt_26 rfl ?_
      refine V_invV C dX5_septetAt_28 ht rfl (c_signAt t r s L _ i ht0 hS (by omega)) mv_5_45 rfl (Nat.le_of_ble_eq_true rfl) ⟨Nat.le_of_ble_eq_true rfl, Nat.le_of_ble_eq_true rfl⟩ ⟨Nat.le_of_ble_eq_true rfl, Nat.le_of_ble_eq_true rfl⟩ (fun _ _ _ h => VT_no h) (fun v ad1 F1 hp => ?_)
      obtain ⟨rfl, rfl, rfl⟩ := hp
      refine V_istore C dX5_septetAt_31 (by decide) ?_
      refine V_iload C dX5_septetAt_33 rfl ?_
      refine V_invS C dX5_septetAt_35 (c_septetsOf (L.getD i 0) hx9) ms_5_32 rfl (Nat.le_of_ble_eq_true rfl) ⟨Nat.le_of_ble_eq_true rfl, Nat.le_of_ble_eq_true rfl⟩ ⟨Nat.le_of_ble_eq_true rfl, Nat.le_of_ble_eq_true rfl⟩ (fun _ _ _ h => VT_no h) (fun v ad1 F1 hp => ?_)
      obtain ⟨rfl, rfl, rfl⟩ := hp
      refine V_istore C dX5_septetAt_38 (by decide) ?_
      refine V_iload_n C dX5_septetAt_40 rfl ?_
      refine V_iload_n C dX5_septetAt_41 rfl ?_
      refine V_iload C dX5_septetAt_42 rfl ?_
      refine V_iadd C dX5_septetAt_44 ?_
      refine V_nm (nI_add _ _) ?_
      refine V_icmpge (tgt := 57) C dX5_septetAt_45 (by decide) (fun hc => ?_) (fun hc => ?_)
      · have hlt : ¬ x - m < w1 (L.getD i 0) := fun h => nI_ge (show x < m + w1 (L.getD i 0) by omega) (by omega) hc
        rw [if_neg hlt] at hs9
        refine V_iload_n C dX5_septetAt_57 rfl ?_
        refine V_iload C dX5_septetAt_58 rfl ?_
        refine V_iadd C dX5_septetAt_60 ?_
        refine V_nm (nI_add _ _) ?_
        refine V_istore_n C dX5_septetAt_61 (by decide) ?_
        refine V_iinc C dX5_septetAt_62 rfl (nI_inc _) (by decide) ?_
        refine V_goto (tgt := 18) C dX5_septetAt_65 (by decide) ?_
        refine V_sb (ih (i + 1) (m + w1 (L.getD i 0)) (by omega) (by omega) (by rw [show x - (m + w1 (L.getD i 0)) = x - m - w1 (L.getD i 0) by omega]; exact hs9)) ⟨rfl, rfl, rfl, rfl, rfl, rfl, trivial⟩
      · have hlt : x - m < w1 (L.getD i 0) := by
          have : x < m + w1 (L.getD i 0) := Nat.lt_of_not_le fun h => hc (nI_le h (by omega))
          omega
        rw [if_pos hlt] at hs9
        rw [← hs9] at Q
        refine V_iload C dX5_septetAt_48 rfl ?_
        refine V_iload_n C dX5_septetAt_50 rfl ?_
        refine V_iload_n C dX5_septetAt_51 rfl ?_
        refine V_isub C dX5_septetAt_52 ?_
        refine V_nm (pk_sub hm) ?_
        refine V_invS C dX5_septetAt_53 (c_septetOf (L.getD i 0) (x - m) hx9 (by omega)) ms_5_62 rfl (Nat.le_of_ble_eq_true rfl) ⟨Nat.le_of_ble_eq_true rfl, Nat.le_of_ble_eq_true rfl⟩ ⟨Nat.le_of_ble_eq_true rfl, Nat.le_of_ble_eq_true rfl⟩ (fun _ _ _ h => VT_no h) (fun v ad1 F1 hp => ?_)
        obtain ⟨rfl, rfl, rfl⟩ := hp
        exact V_ireturn C Q dX5_septetAt_56 rfl (Nat.le_of_ble_eq_true rfl) (Nat.le_of_ble_eq_true rfl) ⟨rfl, rfl, rfl⟩
  refine V_sb (loop (posL L (k + 1) - posL L k) (posL L k) 0 (by omega) (Nat.zero_le _) rfl) ⟨rfl, rfl, rfl, rfl, rfl, rfl, trivial⟩
set_option maxHeartbeats 400000 in
set_option maxRecDepth 100000 in
/-- Text.octetAt -/
theorem c_octetAt {l : Launch} {D : Dx} {b0 : Nat} {ad : Nat → Nat} {F : Fn} (t r s : Nat) (L : List Nat) (k : Nat) (x : Nat) (hT : TextAt D ad F t r s L) (hk : k < npL L) (hx : x < octN L k) : Ct l D b0 yX5_octetAt (wsA yX5_octetAt cX5_octetAt 6 (some .int)) (rK 2) [.ref (ad t), .int (nI k), .int (nI x)] ad F (pRd (some (.int (octI L k x))) ad F) noX := by
  refine Ct.of (by decide +kernel) (by simp [Value.category]) (Nat.le_of_ble_eq_true rfl) (fun X eD eb el C Q => ?_)
  subst eD; subst eb; subst el
  obtain ⟨ht, hS, g0, hs, hg⟩ := id hT
  have ht0 := ht
  unfold TxO at ht
  have hl := hS.1
  have hxs := hS.2.1
  have hne : L ≠ [] := fun e => by rw [e, npL_nil] at hk; exact absurd hk (Nat.not_lt_zero k)
  have h6 := (npL_spec hl).1
  have hpe := posL_le L (k + 1)
  have hpm := posL_mono L (show k ≤ k + 1 by omega)
  have hsl := septL_le (L := L)
  refine V_aload_n C dX5_octetAt_0 rfl ?_
  refine V_get C dX5_octetAt_1 fr_5_22 ht rfl ?_
  refine V_ifeq (tgt := 41) C dX5_octetAt_4 (by decide) (fun hc => ?_) (fun hc => ?_)
  · have hw := wide_fa hc
    have hp2 : septL (ptL L k) ≤ 2 * 400 := by
      refine Nat.le_trans septL_le (Nat.mul_le_mul_left 2 ?_)
      unfold ptL
      rw [List.length_take, List.length_drop]
      omega
    rw [show octN L k = (7 * septL (ptL L k) + 7) / 8 from if_neg hw] at hx
    have e : octI L k x = ((nI (sepF (ptL L k) (8 * x / 7)) ||| (nI (sepF (ptL L k) (8 * x / 7 + 1)) <<< ((7 : Int32) &&& 31))) >>> (nI (8 * x % 7) &&& 31)) &&& 255 := if_neg hw
    rw [e] at Q
    refine V_bipush (v := 8) C dX5_octetAt_41 (by decide) ?_
    refine V_iload_n C dX5_octetAt_43 rfl ?_
    refine V_imul C dX5_octetAt_44 ?_
    refine V_nm (pk_mul 8 x) ?_
    refine V_istore_n C dX5_octetAt_45 (by decide) ?_
    refine V_aload_n C dX5_octetAt_46 rfl ?_
    refine V_iload_n C dX5_octetAt_47 rfl ?_
    refine V_iload_n C dX5_octetAt_48 rfl ?_
    refine V_bipush (v := 7) C dX5_octetAt_49 (by decide) ?_
    refine V_idiv C dX5_octetAt_51 (by decide) ?_
    refine V_nm (pk_div (d := 7) (by omega) (by decide) (by decide)) ?_
    refine V_invV C dX5_octetAt_52 ht rfl (c_septetAt t r s L k (8 * x / 7) hT hk (by omega)) mv_5_48 rfl (Nat.le_of_ble_eq_true rfl) ⟨Nat.le_of_ble_eq_true rfl, Nat.le_of_ble_eq_true rfl⟩ ⟨Nat.le_of_ble_eq_true rfl, Nat.le_of_ble_eq_true rfl⟩ (fun _ _ _ h => VT_no h) (fun v ad1 F1 hp => ?_)
    obtain ⟨rfl, rfl, rfl⟩ := hp
    refine V_istore C dX5_octetAt_55 (by decide) ?_
    refine V_aload_n C dX5_octetAt_57 rfl ?_
    refine V_iload_n C dX5_octetAt_58 rfl ?_
    refine V_iload_n C dX5_octetAt_59 rfl ?_
    refine V_bipush (v := 7) C dX5_octetAt_60 (by decide) ?_
    refine V_idiv C dX5_octetAt_62 (by decide) ?_
    refine V_nm (pk_div (d := 7) (by omega) (by decide) (by decide)) ?_
    refine V_iconst (v := 1) C dX5_octetAt_63 rfl ?_
    refine V_iadd C dX5_octetAt_64 ?_
    refine V_nm (nI_1 _) ?_
    refine V_invV C dX5_octetAt_65 ht rfl (c_septetAt t r s L k (8 * x / 7 + 1) hT hk (by omega)) mv_5_48 rfl (Nat.le_of_ble_eq_true rfl) ⟨Nat.le_of_ble_eq_true rfl, Nat.le_of_ble_eq_true rfl⟩ ⟨Nat.le_of_ble_eq_true rfl, Nat.le_of_ble_eq_true rfl⟩ (fun _ _ _ h => VT_no h) (fun v ad1 F1 hp => ?_)
    obtain ⟨rfl, rfl, rfl⟩ := hp
    refine V_istore C dX5_octetAt_68 (by decide) ?_
    refine V_iload C dX5_octetAt_70 rfl ?_
    refine V_iload C dX5_octetAt_72 rfl ?_
    refine V_bipush (v := 7) C dX5_octetAt_74 (by decide) ?_
    refine V_ishl C dX5_octetAt_76 ?_
    refine V_ior C dX5_octetAt_77 ?_
    refine V_iload_n C dX5_octetAt_78 rfl ?_
    refine V_bipush (v := 7) C dX5_octetAt_79 (by decide) ?_
    refine V_irem C dX5_octetAt_81 (by decide) ?_
    refine V_nm (pk_rem (d := 7) (by omega) (by decide) (by decide)) ?_
    refine V_ishr C dX5_octetAt_82 ?_
    refine V_sipush (v := 255) C dX5_octetAt_83 (by decide) ?_
    refine V_iand C dX5_octetAt_86 ?_
    exact V_ireturn C Q dX5_octetAt_87 rfl (Nat.le_of_ble_eq_true rfl) (Nat.le_of_ble_eq_true rfl) ⟨rfl, rfl, rfl⟩
  · have hw := wide_tr hc
    rw [show octN L k = 2 * (posL L (k + 1) - posL L k) from if_pos hw] at hx
    have hx9 := getD_lt hxs (posL L k + x / 2)
    have e : octI L k x = (if x % 2 = 0 then nI (L.getD (posL L k + x / 2) 0 / 256) else nI (L.getD (posL L k + x / 2) 0 % 256)) := if_pos hw
    refine V_aload_n C dX5_octetAt_7 rfl ?_
    refine V_aload_n C dX5_octetAt_8 rfl ?_
    refine V_iload_n C dX5_octetAt_9 rfl ?_
    refine V_invV C dX5_octetAt_10 ht rfl (c_startOf t r s L k hT (by omega) hne) mv_5_39 rfl (Nat.le_of_ble_eq_true rfl) ⟨Nat.le_of_ble_eq_true rfl, Nat.le_of_ble_eq_true rfl⟩ ⟨Nat.le_of_ble_eq_true rfl, Nat.le_of_ble_eq_true rfl⟩ (fun _ _ _ h => VT_no h) (fun v ad1 F1 hp => ?_)
    obtain ⟨rfl, rfl, rfl⟩ := hp
    refine V_iload_n C dX5_octetAt_13 rfl ?_
    refine V_iconst (v := 2) C dX5_octetAt_14 rfl ?_
    refine V_idiv C dX5_octetAt_15 (by decide) ?_
    refine V_nm (pk_div (d := 2) (by omega) (by decide) (by decide)) ?_
    refine V_iadd C dX5_octetAt_16 ?_
    refine V_nm (nI_add _ _) ?_
    refine V_invV C dX5_octetAt_17 ht rfl (c_signAt t r s L _ (posL L k + x / 2) ht0 hS (by omega)) mv_5_45 rfl (Nat.le_of_ble_eq_true rfl) ⟨Nat.le_of_ble_eq_true rfl, Nat.le_of_ble_eq_true rfl⟩ ⟨Nat.le_of_ble_eq_true rfl, Nat.le_of_ble_eq_true rfl⟩ (fun _ _ _ h => VT_no h) (fun v ad1 F1 hp => ?_)
    obtain ⟨rfl, rfl, rfl⟩ := hp
    refine V_istore_n C dX5_octetAt_20 (by decide) ?_
    refine V_iload_n C dX5_octetAt_21 rfl ?_
    refine V_iconst (v := 2) C dX5_octetAt_22 rfl ?_
    refine V_irem C dX5_octetAt_23 (by decide) ?_
    refine V_nm (pk_rem (d := 2) (by omega) (by decide) (by decide)) ?_
    refine V_ifne (tgt := 35) C dX5_octetAt_24 (by decide) (fun hc2 => ?_) (fun hc2 => ?_)
    · have h2 : ¬ x % 2 = 0 := fun h => hc2 (by rw [h]; rfl)
      rw [e, if_neg h2] at Q
      refine V_iload_n C dX5_octetAt_35 rfl ?_
      refine V_sipush (v := 256) C dX5_octetAt_36 (by decide) ?_
      refine V_irem C dX5_octetAt_39 (by decide) ?_
      refine V_nm (pk_rem (d := 256) (by omega) (by decide) (by decide)) ?_
      exact V_ireturn C Q dX5_octetAt_40 rfl (Nat.le_of_ble_eq_true rfl) (Nat.le_of_ble_eq_true rfl) ⟨rfl, rfl, rfl⟩
    · have h2 : x % 2 = 0 := (nI_eq (b := 0) (by omega) (by decide)).mp hc2
      rw [e, if_pos h2] at Q
      refine V_iload_n C dX5_octetAt_27 rfl ?_
      refine V_sipush (v := 256) C dX5_octetAt_28 (by decide) ?_
      refine V_idiv C dX5_octetAt_31 (by decide) ?_
      refine V_nm (pk_div (d := 256) (by omega) (by decide) (by decide)) ?_
      refine V_goto (tgt := 40) C dX5_octetAt_32 (by decide) ?_
      exact V_ireturn C Q dX5_octetAt_40 rfl (Nat.le_of_ble_eq_true rfl) (Nat.le_of_ble_eq_true rfl) ⟨rfl, rfl, rfl⟩
end
