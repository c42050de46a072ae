section
-- ===== PART A: goes FIRST, ahead of the names: the tables' words, and 'selects' of the private methods out of them =====
/-- a private method of a class that the tables say can be made, by its rows of tables_1 -/
def lw_okq (q : MethodName × Nat) : Prop := (q.1.cls ≠ "java/lang/invoke/MethodHandle" ∧ q.1.cls ≠ "java/lang/invoke/VarHandle") ∧ Cond.instantiable q.1.cls q.2 ∈ tables_1 ∧ Cond.privateMethod q.1 ∈ tables_1 ∧ Cond.instanceMethod q.1 ∈ tables_1
theorem lw_p0 : lw_okq (⟨"java/lang/Throwable", "fillInStackTrace", "(I)Ljava/lang/Throwable;"⟩, 6) := ⟨⟨by decide +kernel, by decide +kernel⟩, List.mem_of_getElem? (i := 286) (by decide +kernel), List.mem_of_getElem? (i := 284) (by decide +kernel), List.mem_of_getElem? (i := 285) (by decide +kernel)⟩
theorem lw_p1 : lw_okq (⟨"OasisBooks", "imagineLater", "(II)V"⟩, 3) := ⟨⟨by decide +kernel, by decide +kernel⟩, List.mem_of_getElem? (i := 18) (by decide +kernel), List.mem_of_getElem? (i := 347) (by decide +kernel), List.mem_of_getElem? (i := 348) (by decide +kernel)⟩
theorem lw_p2 : lw_okq (⟨"OasisBooks$People", "putAt", "(II)V"⟩, 5) := ⟨⟨by decide +kernel, by decide +kernel⟩, List.mem_of_getElem? (i := 58) (by decide +kernel), List.mem_of_getElem? (i := 367) (by decide +kernel), List.mem_of_getElem? (i := 368) (by decide +kernel)⟩
theorem lw_p3 : lw_okq (⟨"OasisBooks$Deals", "set", "(III)V"⟩, 2) := ⟨⟨by decide +kernel, by decide +kernel⟩, List.mem_of_getElem? (i := 159) (by decide +kernel), List.mem_of_getElem? (i := 379) (by decide +kernel), List.mem_of_getElem? (i := 380) (by decide +kernel)⟩
theorem lw_p4 : lw_okq (⟨"OasisBooks$Oasis", "letDayGoBy", "(I)I"⟩, 8) := ⟨⟨by decide +kernel, by decide +kernel⟩, List.mem_of_getElem? (i := 26) (by decide +kernel), List.mem_of_getElem? (i := 387) (by decide +kernel), List.mem_of_getElem? (i := 388) (by decide +kernel)⟩
theorem lw_p5 : lw_okq (⟨"OasisBooks$Oasis", "giveWater", "()I"⟩, 8) := ⟨⟨by decide +kernel, by decide +kernel⟩, List.mem_of_getElem? (i := 26) (by decide +kernel), List.mem_of_getElem? (i := 403) (by decide +kernel), List.mem_of_getElem? (i := 404) (by decide +kernel)⟩
theorem lw_p6 : lw_okq (⟨"OasisBooks$Oasis", "giveLentWater", "(LOasisBooks$Owner;III)I"⟩, 8) := ⟨⟨by decide +kernel, by decide +kernel⟩, List.mem_of_getElem? (i := 26) (by decide +kernel), List.mem_of_getElem? (i := 408) (by decide +kernel), List.mem_of_getElem? (i := 409) (by decide +kernel)⟩
theorem lw_p7 : lw_okq (⟨"OasisBooks$Oasis", "deliverSales", "()V"⟩, 8) := ⟨⟨by decide +kernel, by decide +kernel⟩, List.mem_of_getElem? (i := 26) (by decide +kernel), List.mem_of_getElem? (i := 441) (by decide +kernel), List.mem_of_getElem? (i := 442) (by decide +kernel)⟩
theorem lw_p8 : lw_okq (⟨"OasisBooks$Deals", "moveTo", "(II)V"⟩, 2) := ⟨⟨by decide +kernel, by decide +kernel⟩, List.mem_of_getElem? (i := 159) (by decide +kernel), List.mem_of_getElem? (i := 457) (by decide +kernel), List.mem_of_getElem? (i := 458) (by decide +kernel)⟩
theorem lw_p9 : lw_okq (⟨"OasisBooks", "imagineHarvest", "(I)V"⟩, 3) := ⟨⟨by decide +kernel, by decide +kernel⟩, List.mem_of_getElem? (i := 18) (by decide +kernel), List.mem_of_getElem? (i := 461) (by decide +kernel), List.mem_of_getElem? (i := 462) (by decide +kernel)⟩
theorem lw_p10 : lw_okq (⟨"OasisBooks", "digestOwners", "(J)J"⟩, 3) := ⟨⟨by decide +kernel, by decide +kernel⟩, List.mem_of_getElem? (i := 18) (by decide +kernel), List.mem_of_getElem? (i := 469) (by decide +kernel), List.mem_of_getElem? (i := 470) (by decide +kernel)⟩
theorem lw_p11 : lw_okq (⟨"OasisBooks", "mustLive", "(I)V"⟩, 3) := ⟨⟨by decide +kernel, by decide +kernel⟩, List.mem_of_getElem? (i := 18) (by decide +kernel), List.mem_of_getElem? (i := 481) (by decide +kernel), List.mem_of_getElem? (i := 482) (by decide +kernel)⟩
theorem lw_p12 : lw_okq (⟨"OasisBooks", "cameUntilLater", "(I)I"⟩, 3) := ⟨⟨by decide +kernel, by decide +kernel⟩, List.mem_of_getElem? (i := 18) (by decide +kernel), List.mem_of_getElem? (i := 528) (by decide +kernel), List.mem_of_getElem? (i := 529) (by decide +kernel)⟩
theorem lw_p13 : lw_okq (⟨"OasisBooks", "reapedAtHarvest", "(I)I"⟩, 3) := ⟨⟨by decide +kernel, by decide +kernel⟩, List.mem_of_getElem? (i := 18) (by decide +kernel), List.mem_of_getElem? (i := 532) (by decide +kernel), List.mem_of_getElem? (i := 533) (by decide +kernel)⟩
theorem lw_p14 : lw_okq (⟨"OasisBooksModel", "no", "(I)I"⟩, 2) := ⟨⟨by decide +kernel, by decide +kernel⟩, List.mem_of_getElem? (i := 772) (by decide +kernel), List.mem_of_getElem? (i := 872) (by decide +kernel), List.mem_of_getElem? (i := 873) (by decide +kernel)⟩
theorem lw_p15 : lw_okq (⟨"OasisBooksModel", "at", "(I)[I"⟩, 2) := ⟨⟨by decide +kernel, by decide +kernel⟩, List.mem_of_getElem? (i := 772) (by decide +kernel), List.mem_of_getElem? (i := 880) (by decide +kernel), List.mem_of_getElem? (i := 881) (by decide +kernel)⟩
def lw_privs_1 : List (MethodName × Nat) := [(⟨"java/lang/Throwable", "fillInStackTrace", "(I)Ljava/lang/Throwable;"⟩, 6), (⟨"OasisBooks", "imagineLater", "(II)V"⟩, 3), (⟨"OasisBooks$People", "putAt", "(II)V"⟩, 5), (⟨"OasisBooks$Deals", "set", "(III)V"⟩, 2), (⟨"OasisBooks$Oasis", "letDayGoBy", "(I)I"⟩, 8), (⟨"OasisBooks$Oasis", "giveWater", "()I"⟩, 8), (⟨"OasisBooks$Oasis", "giveLentWater", "(LOasisBooks$Owner;III)I"⟩, 8), (⟨"OasisBooks$Oasis", "deliverSales", "()V"⟩, 8), (⟨"OasisBooks$Deals", "moveTo", "(II)V"⟩, 2), (⟨"OasisBooks", "imagineHarvest", "(I)V"⟩, 3), (⟨"OasisBooks", "digestOwners", "(J)J"⟩, 3), (⟨"OasisBooks", "mustLive", "(I)V"⟩, 3), (⟨"OasisBooks", "cameUntilLater", "(I)I"⟩, 3), (⟨"OasisBooks", "reapedAtHarvest", "(I)I"⟩, 3), (⟨"OasisBooksModel", "no", "(I)I"⟩, 2), (⟨"OasisBooksModel", "at", "(I)[I"⟩, 2)]
theorem lw_r1 : ∀ q ∈ lw_privs_1, lw_okq q := List.forall_mem_cons.mpr ⟨lw_p0, List.forall_mem_cons.mpr ⟨lw_p1, List.forall_mem_cons.mpr ⟨lw_p2, List.forall_mem_cons.mpr ⟨lw_p3, List.forall_mem_cons.mpr ⟨lw_p4, List.forall_mem_cons.mpr ⟨lw_p5, List.forall_mem_cons.mpr ⟨lw_p6, List.forall_mem_cons.mpr ⟨lw_p7, List.forall_mem_cons.mpr ⟨lw_p8, List.forall_mem_cons.mpr ⟨lw_p9, List.forall_mem_cons.mpr ⟨lw_p10, List.forall_mem_cons.mpr ⟨lw_p11, List.forall_mem_cons.mpr ⟨lw_p12, List.forall_mem_cons.mpr ⟨lw_p13, List.forall_mem_cons.mpr ⟨lw_p14, List.forall_mem_cons.mpr ⟨lw_p15, fun _ h => absurd h List.not_mem_nil⟩⟩⟩⟩⟩⟩⟩⟩⟩⟩⟩⟩⟩⟩⟩⟩
theorem lw_p16 : lw_okq (⟨"OasisBooksModel", "lives", "(I)Z"⟩, 2) := ⟨⟨by decide +kernel, by decide +kernel⟩, List.mem_of_getElem? (i := 772) (by decide +kernel), List.mem_of_getElem? (i := 891) (by decide +kernel), List.mem_of_getElem? (i := 892) (by decide +kernel)⟩
theorem lw_p17 : lw_okq (⟨"OasisBooksModel", "pay", "(I)I"⟩, 2) := ⟨⟨by decide +kernel, by decide +kernel⟩, List.mem_of_getElem? (i := 772) (by decide +kernel), List.mem_of_getElem? (i := 918) (by decide +kernel), List.mem_of_getElem? (i := 919) (by decide +kernel)⟩
theorem lw_p18 : lw_okq (⟨"OasisBooksModel$Oasis", "water", "(I)I"⟩, 17) := ⟨⟨by decide +kernel, by decide +kernel⟩, List.mem_of_getElem? (i := 778) (by decide +kernel), List.mem_of_getElem? (i := 971) (by decide +kernel), List.mem_of_getElem? (i := 972) (by decide +kernel)⟩
theorem lw_p19 : lw_okq (⟨"OasisBooksModel$Oasis", "today", "(II)I"⟩, 17) := ⟨⟨by decide +kernel, by decide +kernel⟩, List.mem_of_getElem? (i := 778) (by decide +kernel), List.mem_of_getElem? (i := 975) (by decide +kernel), List.mem_of_getElem? (i := 976) (by decide +kernel)⟩
theorem lw_p20 : lw_okq (⟨"OasisBooksModel$Oasis", "palms", "([I)V"⟩, 17) := ⟨⟨by decide +kernel, by decide +kernel⟩, List.mem_of_getElem? (i := 778) (by decide +kernel), List.mem_of_getElem? (i := 979) (by decide +kernel), List.mem_of_getElem? (i := 980) (by decide +kernel)⟩
theorem lw_p21 : lw_okq (⟨"OasisBooksModel$Oasis", "harvest", "()V"⟩, 17) := ⟨⟨by decide +kernel, by decide +kernel⟩, List.mem_of_getElem? (i := 778) (by decide +kernel), List.mem_of_getElem? (i := 983) (by decide +kernel), List.mem_of_getElem? (i := 984) (by decide +kernel)⟩
theorem lw_p22 : lw_okq (⟨"OasisBooksModel$Oasis", "age", "()V"⟩, 17) := ⟨⟨by decide +kernel, by decide +kernel⟩, List.mem_of_getElem? (i := 778) (by decide +kernel), List.mem_of_getElem? (i := 991) (by decide +kernel), List.mem_of_getElem? (i := 992) (by decide +kernel)⟩
theorem lw_p23 : lw_okq (⟨"OasisBooksModel", "ownerNow", "(II)I"⟩, 2) := ⟨⟨by decide +kernel, by decide +kernel⟩, List.mem_of_getElem? (i := 772) (by decide +kernel), List.mem_of_getElem? (i := 999) (by decide +kernel), List.mem_of_getElem? (i := 1000) (by decide +kernel)⟩
theorem lw_p24 : lw_okq (⟨"OasisBooksModel", "manyNow", "(I)I"⟩, 2) := ⟨⟨by decide +kernel, by decide +kernel⟩, List.mem_of_getElem? (i := 772) (by decide +kernel), List.mem_of_getElem? (i := 1038) (by decide +kernel), List.mem_of_getElem? (i := 1039) (by decide +kernel)⟩
theorem lw_p25 : lw_okq (⟨"OasisBooksModel", "comeNow", "(III)I"⟩, 2) := ⟨⟨by decide +kernel, by decide +kernel⟩, List.mem_of_getElem? (i := 772) (by decide +kernel), List.mem_of_getElem? (i := 1051) (by decide +kernel), List.mem_of_getElem? (i := 1052) (by decide +kernel)⟩
theorem lw_p26 : lw_okq (⟨"OasisBooksModel", "digNow", "(II)I"⟩, 2) := ⟨⟨by decide +kernel, by decide +kernel⟩, List.mem_of_getElem? (i := 772) (by decide +kernel), List.mem_of_getElem? (i := 1066) (by decide +kernel), List.mem_of_getElem? (i := 1067) (by decide +kernel)⟩
theorem lw_p27 : lw_okq (⟨"OasisBooksModel", "takesNow", "(III)I"⟩, 2) := ⟨⟨by decide +kernel, by decide +kernel⟩, List.mem_of_getElem? (i := 772) (by decide +kernel), List.mem_of_getElem? (i := 1075) (by decide +kernel), List.mem_of_getElem? (i := 1076) (by decide +kernel)⟩
theorem lw_p28 : lw_okq (⟨"OasisBooksModel", "reapNow", "(II)I"⟩, 2) := ⟨⟨by decide +kernel, by decide +kernel⟩, List.mem_of_getElem? (i := 772) (by decide +kernel), List.mem_of_getElem? (i := 1083) (by decide +kernel), List.mem_of_getElem? (i := 1084) (by decide +kernel)⟩
def lw_privs_2 : List (MethodName × Nat) := [(⟨"OasisBooksModel", "lives", "(I)Z"⟩, 2), (⟨"OasisBooksModel", "pay", "(I)I"⟩, 2), (⟨"OasisBooksModel$Oasis", "water", "(I)I"⟩, 17), (⟨"OasisBooksModel$Oasis", "today", "(II)I"⟩, 17), (⟨"OasisBooksModel$Oasis", "palms", "([I)V"⟩, 17), (⟨"OasisBooksModel$Oasis", "harvest", "()V"⟩, 17), (⟨"OasisBooksModel$Oasis", "age", "()V"⟩, 17), (⟨"OasisBooksModel", "ownerNow", "(II)I"⟩, 2), (⟨"OasisBooksModel", "manyNow", "(I)I"⟩, 2), (⟨"OasisBooksModel", "comeNow", "(III)I"⟩, 2), (⟨"OasisBooksModel", "digNow", "(II)I"⟩, 2), (⟨"OasisBooksModel", "takesNow", "(III)I"⟩, 2), (⟨"OasisBooksModel", "reapNow", "(II)I"⟩, 2)]
theorem lw_r2 : ∀ q ∈ lw_privs_2, lw_okq q := List.forall_mem_cons.mpr ⟨lw_p16, List.forall_mem_cons.mpr ⟨lw_p17, List.forall_mem_cons.mpr ⟨lw_p18, List.forall_mem_cons.mpr ⟨lw_p19, List.forall_mem_cons.mpr ⟨lw_p20, List.forall_mem_cons.mpr ⟨lw_p21, List.forall_mem_cons.mpr ⟨lw_p22, List.forall_mem_cons.mpr ⟨lw_p23, List.forall_mem_cons.mpr ⟨lw_p24, List.forall_mem_cons.mpr ⟨lw_p25, List.forall_mem_cons.mpr ⟨lw_p26, List.forall_mem_cons.mpr ⟨lw_p27, List.forall_mem_cons.mpr ⟨lw_p28, fun _ h => absurd h List.not_mem_nil⟩⟩⟩⟩⟩⟩⟩⟩⟩⟩⟩⟩⟩
def lw_privs : List (MethodName × Nat) := lw_privs_1 ++ (lw_privs_2)
def lw_tbl : List Cond := k2_sels lw_privs ++ tables_1
theorem lw_privs_ok : ∀ q ∈ lw_privs, lw_okq q := by
  show ∀ q ∈ lw_privs_1 ++ (lw_privs_2), lw_okq q
  exact List.forall_mem_append.mpr ⟨lw_r1, lw_r2⟩
/-- the streams that the claim lets the run draw from -/
abbrev lw_cs : List Choice := [Jvm.Choice.named "NaN.bits"]
theorem lw_bits : nanBits ∈ lw_cs := by first | decide | exact List.mem_cons_self | simp [lw_cs, nanBits]
/-! ===== BEGIN words of one list among another's, by their places ===== -/
theorem goodIn_r {big : List Cond} (ws : List Cond) (ps : List Nat) (hp : ws = ps.filterMap (fun i => big[i]?)) (h : ws.all goodWord = true) : GoodIn big ws := by
  intro w hw
  have h1 := List.all_eq_true.mp h w hw
  rw [hp] at hw
  obtain ⟨i, -, hi⟩ := List.mem_filterMap.mp hw
  have hm : w ∈ big := by first | exact List.mem_of_getElem? hi | exact List.getElem?_mem hi
  exact ⟨hm, good_of_word h1⟩
theorem goodIn_app {big a b : List Cond} (ha : GoodIn big a) (hb : GoodIn big b) : GoodIn big (a ++ b) := fun w h => (List.mem_append.mp h).elim (ha w) (hb w)
theorem goodIn_ca {big a b : List Cond} {c : Cond} (ha : GoodIn big (c :: a)) (hb : GoodIn big b) : GoodIn big (c :: (a ++ b)) := fun w h => (List.mem_cons.mp h).elim (fun e => ha w (List.mem_cons.mpr (Or.inl e))) (fun h => (List.mem_append.mp h).elim (fun h => ha w (List.mem_cons.mpr (Or.inr h))) (hb w))
theorem goodIn_sub {big ws : List Cond} (hm : ∀ w ∈ ws, w ∈ big) (h : ws.all goodWord = true) : GoodIn big ws := fun w hw => ⟨hm w hw, good_of_word (List.all_eq_true.mp h w hw)⟩
/-! ===== END ===== -/


/-! ===== BEGIN exceptions that leave a method, and their catching by the caller (launches without stack traces) ===== -/
section VXA
/-! The laws vx_back, vx_callV, vx_callS, vx_callSW, vx_throw0, vx_throwS follow proofs of the library, with one case more: JvmDerived/Free/Laws.lean (Back.of_free), Shelf42/LK1.lean (callV, callS), Shelf/KitTraced.lean (throwNew0V, throwNewS). -/
/-- where a method has thrown q: the class by its name, the cell, what was written, the world -/
def vx_T (XC : String → State → State → Prop) (st : State) (q : Addr) (t : State) (mc ms : Nat) (free : Addr → Prop) : Prop :=
  ∃ (E : String) (ce : Cell) (L : List Loc), XC E st t ∧ t.heap[q]? = some ce ∧ ce.vm = .none ∧ st.vm.findClass E = some ce.cls ∧ st.WarmedH t.vm ∧ st.sameButNew ({ t with vm := st.vm } : State) L mc ms ∧ ∀ z ∈ L, free z.base
def vx_Q (Qc : Array Value → State → Outcome → State → Prop) (XC : String → State → State → Prop) (mc ms : Nat) (free : Addr → Prop) : Array Value → State → Outcome → State → Prop := fun a st o t =>
  (Qc a st o t ∧ ∃ L, FrameEnd st o t L mc ms ∧ ∀ q ∈ L, free q.base) ∨ ∃ q, o = .threw q ∧ vx_T XC st q t mc ms free
/-- a callee that returns or throws -/
def vx_Met (l : Launch) (y : MethodName) (ws : List Cond) (rm : Room) (Pc : Array Value → State → Prop) (Qc : Array Value → State → Outcome → State → Prop) (XC : String → State → State → Prop) (mc ms : Nat) (free : Addr → Prop) : Prop :=
  MetFree l y (headSpec ws rm) Pc (fun _ _ _ _ _ => True) (vx_Q Qc XC mc ms free)
def vx_Post (XC : String → State → State → Prop) (mc ms : Nat) (free : Addr → Prop) : Pt → Array Value → Addr → Pt → Prop := fun A a q B =>
  ∃ (g : JFrame) (mk : MethodId) (t : State) (L : List Loc) (E : String) (ce : Cell), B.U.heap = t.heap ∧ B.U.vm = t.vm ∧ XC E (A.U.calling g mk a) t ∧ t.heap[q]? = some ce ∧ ce.vm = .none ∧ A.U.vm.findClass E = some ce.cls ∧ B.locs = A.locs ++ L ∧ (∀ z ∈ L, free z.base) ∧ B.cells = A.cells + mc ∧ B.slots = A.slots + ms
def vx_Back (l : Launch) (R : Room) (p : Program) (e : Env) (below : List Frame) (s : State) (sargs : Array Value) (y : MethodName) (len W9 : Nat)
    (Pre : Pt → Array Value → Prop) (Post : Pt → Array Value → Option Value → Pt → Prop) (PostX : Pt → Array Value → Addr → Pt → Prop) : Prop :=
  ∀ (m : MethodId) (meth : Method) (c : Code) (A : Pt) (g : JFrame) (ig : Instr) (mk : MethodId) (a : Array Value),
    Stand p l e R s m sargs below meth c A.U A.locs A.cells A.slots → g.method = m → g.locals.size = c.maxLocals → decode c.code g.pc = .ok (ig, len) →
    2 * g.monitorRoom + (g.stack.map fun v => v.category).sum ≤ W9 → A.U.methodNamed? y = some mk → Pre A a →
    (∃ (v : Option Value) (B : Pt), Stand p l e R s m sargs below meth c B.U B.locs B.cells B.slots ∧ Post A a v B ∧
      Steps p.tables e below (doInvoke e (A.U.setTop g) [] mk a).1 (B.U.setTop { g with pc := g.pc + len, stack := v.toList ++ g.stack })) ∨
    (∃ (q : Addr) (B : Pt), Stand p l e R s m sargs below meth c B.U B.locs B.cells B.slots ∧ PostX A a q B ∧
      Steps p.tables e below (doInvoke e (A.U.setTop g) [] mk a).1 ((B.U.setTop g).pushFrame (.throwing q)))
section Payer
variable {l : Launch} {R : Room} {p : Program} {e : Env} {below : List Frame} {s : State} {sargs : Array Value} {y : MethodName} {len W9 : Nat}
theorem vx_back {ws : List Cond} {rm : Room} {Pc : Array Value → State → Prop} {Qc : Array Value → State → Outcome → State → Prop} {XC : String → State → State → Prop} {mc ms : Nat} {free : Addr → Prop} {bytes : ByteArray} {maxL : Nat} {ret : Option FieldType}
    (hM : vx_Met l y ws rm Pc Qc XC mc ms free) (hblind : FrameBlind Pc) (hrc : rm.cells = mc) (hrs : rm.slots = ms)
    (hframes : rm.frames + 1 ≤ R.frames) (hlocals : W9 + (maxL + 11) + rm.locals ≤ R.locals)
    (hws : ∀ w ∈ ws, ∀ a' U, s.WarmedH U.vm → w.before a' U = true) (hcode : Cond.code y bytes maxL ret ∈ ws) (hinit : ∀ a' U, s.WarmedH U.vm → (Cond.initialized y.cls).before a' U = true) :
    vx_Back l R p e below s sargs y len W9 (PreOf R mc ms Pc) (PostOf Qc mc ms free) (vx_Post XC mc ms free) := by
  intro m meth c A g ig mk a X hg hsize hdg hW hn hp
  have h1 : (headSpec ws rm).pre.before a A.U = true := atoms_intro fun w hw => hws w hw _ _ X.warmed
  have h2 : (Cond.code y bytes maxL ret).before a A.U = true := hws _ hcode _ _ X.warmed
  have h3 : (Cond.initialized y.cls).before a A.U = true := hinit _ _ X.warmed
  have h4 : A.cells + (headSpec ws rm).room.cells ≤ R.cells := by rw [show (headSpec ws rm).room.cells = mc from hrc]; exact hp.1
  have h5 : A.slots + (headSpec ws rm).room.slots ≤ R.slots := by rw [show (headSpec ws rm).room.slots = ms from hrs]; exact hp.2.1
  have hPc : Pc a (A.U.calling g mk a) := hblind _ _ _ _ hp.2.2
  obtain ⟨U, Ls, c0, s0⟩ := A
  dsimp only [Pt.U, Pt.locs, Pt.cells, Pt.slots] at h1 h2 h3 h4 h5 X hn hPc ⊢
  obtain ⟨methY, cY, hmY, hcY, -, hlY, -, -, -, -⟩ := Cond.code_spec hn h2
  obtain ⟨kY, hkY, -⟩ := className_of_methodNamed hn
  have hinitY : kY.init = .initialized := Cond.initialized_spec (findClass_of_methodNamed hn) hkY h3
  have h : At U g.method c below := by rw [hg]; exact X.here
  have hlocals9 : W9 + (maxL + 11) + (headSpec ws rm).room.locals ≤ R.locals := hlocals
  have happ : (headSpec ws rm).appliesLoose y e.platform (U.calling g mk a) = true :=
    Spec.appliesLoose_calling (g := g) h hdg hn hkY hinitY
      (X.room_calling (g := g) (R' := (headSpec ws rm).room) hsize hmY hcY hframes (by rw [hlY]; omega) h4 h5) h1
  obtain ⟨mid, hmid⟩ := h.above
  have hfr : (U.setTop g).frames = (.java g :: mid) ++ below := by rw [State.frames_setTop' g h.top, hmid]; rfl
  obtain ⟨o, s₂, hsteps, -, hend, hq⟩ := Steps.callFree hM p X.admits X.cas X.clock (acts := []) hfr happ hPc trivial
  have hq' : vx_Q Qc XC mc ms free a (U.calling g mk a) o s₂ := hq
  rw [State.frames_setTop' g h.top] at hend
  obtain ⟨g₀, hg0⟩ := Option.isSome_iff_exists.mp h.top
  obtain ⟨r, hr⟩ := State.topJava?_eq_some.mp hg0
  have hr' : (({ U with heap := s₂.heap, slotsUsed := s₂.slotsUsed } : State).setVm s₂.vm).frames = .java g₀ :: r := hr
  rcases hq' with ⟨hqc, L, hfe, hL⟩ | ⟨q, rfl, E, ce, L, hx, hce, hcv, hcl, hW₂, hsm, hL⟩
  · obtain ⟨⟨v, rfl⟩, hW₂, e2, q2, q3, q4, q5, q6⟩ := id hfe
    have e3 : s₂ = ({ (U.calling g mk a).setFrames s₂.frames with heap := s₂.heap, slotsUsed := s₂.slotsUsed } : State).setVm s₂.vm := by
      have : s₂ = ({ s₂ with vm := (U.calling g mk a).vm } : State).setVm s₂.vm := rfl
      rw [e2] at this
      exact this
    obtain ⟨c₂, i₂, len₂, hc₂, hd₂, hf₂⟩ := hend
    have hW' : U.WarmedH s₂.vm := hW₂
    have hcc : c₂ = c := by
      have h1 : s₂.code? g.method = U.code? g.method := by
        rw [State.code?_eq, State.code?_eq, hW'.alike.method?]
      exact Option.some.inj (hc₂.symm.trans (h1.trans h.code))
    subst hcc
    have hlen : len₂ = len := by rw [hdg] at hd₂; cases hd₂; rfl
    subst hlen
    have hs₂ : s₂ = (({ U with heap := s₂.heap, slotsUsed := s₂.slotsUsed } : State).setVm s₂.vm).setTop { g with pc := g.pc + len₂, stack := v.toList ++ g.stack } := by
      refine e3.trans ?_
      rw [hf₂, State.calling_eq h.top, State.setFrames_setFrames, State.setTop_of_frames _ hr', hr]
      rfl
    have hsame : U.sameButNew ({ U with heap := s₂.heap, slotsUsed := s₂.slotsUsed } : State) L mc ms := by
      refine ⟨?_, q2, q3, q4, q5, q6⟩
      obtain ⟨t, ht, -⟩ := State.frames_cons hr
      show ({ U with heap := s₂.heap, slotsUsed := s₂.slotsUsed } : State) = { U.setFrames U.frames with heap := s₂.heap, slotsUsed := s₂.slotsUsed }
      rw [State.setFrames_self ht]
    subst hg
    refine Or.inl ⟨v, ⟨(({ U with heap := s₂.heap, slotsUsed := s₂.slotsUsed } : State).setVm s₂.vm), Ls ++ L, c0 + mc, s0 + ms⟩,
      ⟨X.admits, X.cas, X.clock, X.frames, X.room, X.hears, X.method, X.code, (X.here.setHeapUsed s₂.heap s₂.slotsUsed).setVm hW'.alike, X.tail, State.WarmedH.trans X.warmed hW', X.limits, X.bytes, X.same.trans (hsame.setVm s.vm)⟩,
      ⟨g, mk, s₂, L, rfl, rfl, hqc, rfl, hL, rfl, rfl⟩, ?_⟩
    show Steps p.tables e below _ ((({ U with heap := s₂.heap, slotsUsed := s₂.slotsUsed } : State).setVm s₂.vm).setTop { g with pc := g.pc + len₂, stack := v.toList ++ g.stack })
    rw [← hs₂]
    exact hsteps
  · obtain ⟨e2, q2, q3, q4, q5, q6⟩ := id hsm
    have e3 : s₂ = ({ (U.calling g mk a).setFrames s₂.frames with heap := s₂.heap, slotsUsed := s₂.slotsUsed } : State).setVm s₂.vm := by
      have : s₂ = ({ s₂ with vm := (U.calling g mk a).vm } : State).setVm s₂.vm := rfl
      rw [e2] at this
      exact this
    have hf₂ : s₂.frames = .throwing q :: .java g :: U.frames.tail := hend
    have hW' : U.WarmedH s₂.vm := hW₂
    have hs₂ : s₂ = ((({ U with heap := s₂.heap, slotsUsed := s₂.slotsUsed } : State).setVm s₂.vm).setTop g).pushFrame (.throwing q) := by
      refine e3.trans ?_
      rw [hf₂, State.calling_eq h.top, State.setFrames_setFrames, State.pushFrame, State.frames_setTop _ hr', State.setTop_of_frames _ hr', State.setFrames_setFrames, hr]
      rfl
    have hsame : U.sameButNew ({ U with heap := s₂.heap, slotsUsed := s₂.slotsUsed } : State) L mc ms := by
      refine ⟨?_, q2, q3, q4, q5, q6⟩
      obtain ⟨t, ht, -⟩ := State.frames_cons hr
      show ({ U with heap := s₂.heap, slotsUsed := s₂.slotsUsed } : State) = { U.setFrames U.frames with heap := s₂.heap, slotsUsed := s₂.slotsUsed }
      rw [State.setFrames_self ht]
    subst hg
    refine Or.inr ⟨q, ⟨(({ U with heap := s₂.heap, slotsUsed := s₂.slotsUsed } : State).setVm s₂.vm), Ls ++ L, c0 + mc, s0 + ms⟩,
      ⟨X.admits, X.cas, X.clock, X.frames, X.room, X.hears, X.method, X.code, (X.here.setHeapUsed s₂.heap s₂.slotsUsed).setVm hW'.alike, X.tail, State.WarmedH.trans X.warmed hW', X.limits, X.bytes, X.same.trans (hsame.setVm s.vm)⟩,
      ⟨g, mk, s₂, L, E, ce, rfl, rfl, hx, hce, hcv, hcl, rfl, hL, rfl, rfl⟩, ?_⟩
    show Steps p.tables e below _ (((({ U with heap := s₂.heap, slotsUsed := s₂.slotsUsed } : State).setVm s₂.vm).setTop g).pushFrame (.throwing q))
    rw [← hs₂]
    exact hsteps
end Payer
section Calls
variable {p : Program} {l : Launch} {e : Env} {R : Room} {s : State} {m : MethodId} {args : Array Value} {below : List Frame} {meth : Method} {c : Code} {T : State} {locs : List Loc} {cells slots : Nat}
theorem vx_callV (X : Stand p l e R s m args below meth c T locs cells slots) (hexec : p.tables.exec = Jvm.exec) {own C : String} {index : Nat} {y : MethodName} {bytes : ByteArray} {maxL : Nat} {ret : Option FieldType}
    (hown : s.vm.findClass own = some m.cls) (hlink : (Cond.methodLink own index y).before args s = true) (hinst : (Cond.instanceMethod y).before args s = true) (hsel : (Cond.selects C y y).before args s = true)
    (hcode : (Cond.code y bytes maxL ret).before args s = true) (hy : y.cls ≠ "java/lang/invoke/MethodHandle" ∧ y.cls ≠ "java/lang/invoke/VarHandle")
    {W9 : Nat} {Pre : Pt → Array Value → Prop} {Post : Pt → Array Value → Option Value → Pt → Prop} {PostX : Pt → Array Value → Addr → Pt → Prop} (hK : vx_Back l R p e below s args y 3 W9 Pre Post PostX)
    {b : Addr} {cellB : Cell} (hcell : T.heap[b]? = some cellB) (hobj : cellB.vm.isStatics = false) (hcls : s.vm.findClass C = some cellB.cls)
    {g : JFrame} (hg : g.method = m) (hsize : g.locals.size = c.maxLocals) {argsL rest : List Value} (hlen : ∀ sig, parseMethodDescriptor y.desc = some sig → argsL.length = sig.parameters.length)
    (hstack : g.stack = argsL.reverse ++ .ref b :: rest) (hW : 2 * g.monitorRoom + (rest.map fun v => v.category).sum ≤ W9) (hdg : decode c.code g.pc = .ok (.invokevirtual index, 3))
    (hpre : ∀ vm₁, s.WarmedH vm₁ → Pre ⟨T.setVm vm₁, locs, cells, slots⟩ (Value.ref b :: argsL).toArray) :
    (∃ (v : Option Value) (vm₁ : Vm) (B : Pt), s.WarmedH vm₁ ∧ Stand p l e R s m args below meth c B.U B.locs B.cells B.slots ∧ Post ⟨T.setVm vm₁, locs, cells, slots⟩ (Value.ref b :: argsL).toArray v B ∧
      ∀ target, Steps p.tables e below (B.U.setTop { g with pc := g.pc + 3, stack := v.toList ++ rest }) target → Steps p.tables e below (T.setTop g) target) ∨
    (∃ (q : Addr) (vm₁ : Vm) (B : Pt), s.WarmedH vm₁ ∧ Stand p l e R s m args below meth c B.U B.locs B.cells B.slots ∧ PostX ⟨T.setVm vm₁, locs, cells, slots⟩ (Value.ref b :: argsL).toArray q B ∧
      Steps p.tables e below (T.setTop g) ((B.U.setTop { g with stack := rest }).pushFrame (.throwing q))) := by
  obtain ⟨mk, methM, hnamed, hmethM, hstM, habM⟩ := Cond.instanceMethod_spec hinst
  obtain ⟨methM', cM, hmethM', -, -, -, -, -, -, hsigM⟩ := Cond.code_spec hnamed hcode
  cases hmethM.symm.trans hmethM'
  obtain ⟨c2, r2, m2, q1, q2, q3, q4, kP, hkP, hkPi⟩ := Cond.selects_spec hsel
  cases hcls.symm.trans q1
  cases (State.methodFound?_of_named hnamed hy).symm.trans q2
  cases hnamed.symm.trans q3
  have hselP : selectMethod e.platform s.vm cellB.cls mk = .method mk := by rw [Launch.admits_selectMethod X.admits]; exact q4
  obtain ⟨vm₁, X₁, hstep₁⟩ := X.invokevirtual hexec hown hlink hnamed hmethM hstM hkP hkPi hy (a := b) (cell := cellB) hcell
    (fun z h => by rw [h] at hobj; cases hobj) hselP hmethM habM hkP hkPi (g := g) hg (argsL := argsL) (rest := rest) (hlen _ hsigM) hstack hdg
  rcases hK m meth c ⟨T.setVm vm₁, locs, cells, slots⟩ { g with stack := rest } (.invokevirtual index) mk (Value.ref b :: argsL).toArray X₁ hg hsize hdg hW (X₁.named hnamed) (hpre vm₁ X₁.warmed) with ⟨v, B, X', hpost, hsteps⟩ | ⟨q, B, X', hpost, hsteps⟩
  · exact Or.inl ⟨v, vm₁, B, X₁.warmed, X', hpost, fun target h => hstep₁ _ fun acts => by rw [doInvoke_state]; exact hsteps.trans h⟩
  · exact Or.inr ⟨q, vm₁, B, X₁.warmed, X', hpost, hstep₁ _ fun acts => by rw [doInvoke_state]; exact hsteps⟩
theorem vx_callS (X : Stand p l e R s m args below meth c T locs cells slots) (hexec : p.tables.exec = Jvm.exec) {own : String} {index : Nat} {y : MethodName} {bytes : ByteArray} {maxL : Nat} {ret : Option FieldType}
    (hown : s.vm.findClass own = some m.cls) (hlink : (Cond.methodLink own index y).before args s = true) (hstat : (Cond.static y).before args s = true) (hinit : (Cond.initialized y.cls).before args s = true)
    (hcode : (Cond.code y bytes maxL ret).before args s = true) (hy : y.cls ≠ "java/lang/invoke/MethodHandle" ∧ y.cls ≠ "java/lang/invoke/VarHandle")
    {W9 : Nat} {Pre : Pt → Array Value → Prop} {Post : Pt → Array Value → Option Value → Pt → Prop} {PostX : Pt → Array Value → Addr → Pt → Prop} (hK : vx_Back l R p e below s args y 3 W9 Pre Post PostX)
    {g : JFrame} (hg : g.method = m) (hsize : g.locals.size = c.maxLocals) {argsL rest : List Value} (hlen : ∀ sig, parseMethodDescriptor y.desc = some sig → argsL.length = sig.parameters.length)
    (hstack : g.stack = argsL.reverse ++ rest) (hW : 2 * g.monitorRoom + (rest.map fun v => v.category).sum ≤ W9) (hdg : decode c.code g.pc = .ok (.invokestatic index, 3))
    (hpre : ∀ vm₁, s.WarmedH vm₁ → Pre ⟨T.setVm vm₁, locs, cells, slots⟩ argsL.toArray) :
    (∃ (v : Option Value) (vm₁ : Vm) (B : Pt), s.WarmedH vm₁ ∧ Stand p l e R s m args below meth c B.U B.locs B.cells B.slots ∧ Post ⟨T.setVm vm₁, locs, cells, slots⟩ argsL.toArray v B ∧
      ∀ target, Steps p.tables e below (B.U.setTop { g with pc := g.pc + 3, stack := v.toList ++ rest }) target → Steps p.tables e below (T.setTop g) target) ∨
    (∃ (q : Addr) (vm₁ : Vm) (B : Pt), s.WarmedH vm₁ ∧ Stand p l e R s m args below meth c B.U B.locs B.cells B.slots ∧ PostX ⟨T.setVm vm₁, locs, cells, slots⟩ argsL.toArray q B ∧
      Steps p.tables e below (T.setTop g) ((B.U.setTop { g with stack := rest }).pushFrame (.throwing q))) := by
  obtain ⟨mk, hnamed⟩ := Cond.code_named hcode
  obtain ⟨methM, cM, hmethM, -, -, -, -, -, -, hsigM⟩ := Cond.code_spec hnamed hcode
  have hstatic : methM.isStatic = true := Cond.static_spec hnamed hmethM hstat
  obtain ⟨kP, hkP, -⟩ := className_of_methodNamed hnamed
  have hinitP : kP.init = .initialized := Cond.initialized_spec (findClass_of_methodNamed hnamed) hkP hinit
  obtain ⟨vm₁, X₁, hstep₁⟩ := X.invokestatic hexec hown hlink hnamed hmethM hstatic hkP hinitP hy (g := g) hg (argsL := argsL) (rest := rest) (hlen _ hsigM) hstack hdg
  rcases hK m meth c ⟨T.setVm vm₁, locs, cells, slots⟩ { g with stack := rest } (.invokestatic index) mk argsL.toArray X₁ hg hsize hdg hW (X₁.named hnamed) (hpre vm₁ X₁.warmed) with ⟨v, B, X', hpost, hsteps⟩ | ⟨q, B, X', hpost, hsteps⟩
  · exact Or.inl ⟨v, vm₁, B, X₁.warmed, X', hpost, fun target h => hstep₁ _ fun acts => by rw [doInvoke_state]; exact hsteps.trans h⟩
  · exact Or.inr ⟨q, vm₁, B, X₁.warmed, X', hpost, hstep₁ _ fun acts => by rw [doInvoke_state]; exact hsteps⟩
end Calls
theorem vx_cls {s : State} {T : State} {vm₁ : Vm} {E : String} {k : ClassId} (hW : s.WarmedH vm₁) (h : (T.setVm vm₁).vm.findClass E = some k) : s.vm.findClass E = some k := by
  have h1 : vm₁.findClass E = some k := h
  rw [hW.alike.findClass] at h1
  exact h1
/-- the method's frame g, with q thrown over it -/
def vx_W (p : Program) (l : Launch) (e : Env) (R : Room) (s : State) (m : MethodId) (args : Array Value) (below : List Frame) (meth : Method) (c : Code) (H : Heap) (locs : List Loc) (cells slots : Nat) (Q : State → Prop) (g : JFrame) (q : Addr) : Prop :=
  ∀ T : State, T.heap = H → Stand p l e R s m args below meth c T locs cells slots → ∃ t, Steps p.tables e below ((T.setTop g).pushFrame (.throwing q)) t ∧ Q t
def vx_Run (p : Program) (l : Launch) (e : Env) (R : Room) (s : State) (m : MethodId) (args : Array Value) (below : List Frame) (meth : Method) (c : Code) (H : Heap) (locs : List Loc) (cells slots mc ms : Nat) (g : JFrame) (rest : List Value) (Qa : State → Outcome → State → Prop) (XC : String → State → State → Prop) (free : Addr → Prop) : Prop :=
  ∀ T : State, T.heap = H → Stand p l e R s m args below meth c T locs cells slots →
    (∃ (v : Option Value) (st₀ t T' : State) (L : List Loc), st₀.heap = H ∧ Stand p l e R s m args below meth c T' (locs ++ L) (cells + mc) (slots + ms) ∧ (∀ q ∈ L, free q.base) ∧ T'.heap = t.heap ∧ T'.vm = t.vm ∧ Qa st₀ (.returned v) t ∧
      Goes p e below T g T' { g with pc := g.pc + 3, stack := v.toList ++ rest }) ∨
    (∃ (q : Addr) (st₀ t T' : State) (L : List Loc) (E : String) (ce : Cell), st₀.heap = H ∧ Stand p l e R s m args below meth c T' (locs ++ L) (cells + mc) (slots + ms) ∧ (∀ z ∈ L, free z.base) ∧ T'.heap = t.heap ∧ T'.vm = t.vm ∧ XC E st₀ t ∧ t.heap[q]? = some ce ∧ ce.vm = .none ∧ s.vm.findClass E = some ce.cls ∧
      Steps p.tables e below (T.setTop g) ((T'.setTop { g with stack := rest }).pushFrame (.throwing q)))
def vx_X {S : Type} (px : S → Prop) (B : String → S → State → Prop) (A : Nat → Prop) : String → State → State → Prop := fun E st t => ∃ u : S, px u ∧ B E u t ∧ va_F A st t
section Runs
variable {p : Program} {l : Launch} {e : Env} {R : Room} {s : State} {m : MethodId} {args : Array Value} {below : List Frame} {meth : Method} {c : Code} {H : Heap} {locs : List Loc} {cells slots : Nat}
variable {y : MethodName} {bytes cc : ByteArray} {maxL nL mc ms n index : Nat} {ret : Option FieldType} {ws : List Cond} {rm : Room} {Pc : Array Value → State → Prop} {Qc : Array Value → State → Outcome → State → Prop} {XC : String → State → State → Prop} {free : Addr → Prop} {Ts : List Cond} {own C : String} {b : Addr} {As rest : List Value} {g : JFrame}
theorem vx_callBack (cb : CallB R s args own index y bytes maxL ret ws rm mc ms n) (hM : vx_Met l y ws rm Pc Qc XC mc ms free) (hbl : FrameBlind Pc) : vx_Back l R p e below s args y 3 8 (PreOf R mc ms Pc) (PostOf Qc mc ms free) (vx_Post XC mc ms free) := by
  obtain ⟨hrc, hrs, hfr, hlo, hws, hcw, -, hini, -⟩ := cb
  exact vx_back (bytes := bytes) (maxL := maxL) (ret := ret) hM hbl hrc hrs hfr hlo hws hcw (fun a' U hW => word_at hW (Or.inl (by first | rfl | simp [Cond.onTables, Cond.keeps, Cond.steady])) hini)
theorem vx_runV (S : CallFix p m c cc nL s args Ts own) (hM : vx_Met l y ws rm Pc Qc XC mc ms free) (cw : CallW R s args own C index y bytes maxL ret ws rm mc ms n) (hp : PreV s H C b Pc As)
    (hg : g.method = m) (hn : As.length = n) (hsize : g.locals.size = nL) (hstack : g.stack = As.reverse ++ .ref b :: rest) (hW : 2 * g.monitorRoom + (rest.map fun v => v.category).sum ≤ 8) (hdg : decode cc g.pc = .ok (.invokevirtual index, 3)) (hf : cells + mc ≤ R.cells ∧ slots + ms ≤ R.slots) :
    vx_Run p l e R s m args below meth c H locs cells slots mc ms g rest (Qc (Value.ref b :: As).toArray) XC free := by
  have hK : vx_Back l R p e below s args y 3 8 (PreOf R mc ms Pc) (PostOf Qc mc ms free) (vx_Post XC mc ms free) := vx_callBack cw.1 hM hp.1
  obtain ⟨⟨-, -, -, -, -, -, hcode, -, hy, hlen, hl⟩, hin, hse⟩ := cw
  obtain ⟨hx, hb, hml, ho, -⟩ := S
  obtain ⟨-, ⟨cellB, hcB, hoB, hclB⟩, hPc⟩ := hp
  intro T hT X
  rcases vx_callV X hx (C := C) (bytes := bytes) (maxL := maxL) (ret := ret) ho hl hin hse hcode hy hK (by rw [hT]; exact hcB) hoB hclB hg (hsize.trans hml.symm) (argsL := As) (rest := rest) (fun sig h => hn.trans (hlen sig h)) hstack hW (by rw [hb]; exact hdg)
    (fun vm₁ hW₁ => ⟨hf.1, hf.2, hPc (T.setVm vm₁) hT hW₁⟩) with ⟨v, vm₁, ⟨U', l2, c2, s2⟩, hW₁, X', ⟨g', mk, t, L, e1, e2, hq, h1, hL, h2, h3⟩, st⟩ | ⟨q, vm₁, ⟨U', l2, c2, s2⟩, hW₁, X', ⟨g', mk, t, L, E, ce, e1, e2, hq, hce, hcv, hcl, h1, hL, h2, h3⟩, st⟩
  · dsimp only [Pt.U, Pt.locs, Pt.cells, Pt.slots] at X' e1 e2 h1 h2 h3 st
    subst h1; subst h2; subst h3
    exact Or.inl ⟨v, (T.setVm vm₁).calling g' mk (Value.ref b :: As).toArray, t, U', L, hT, X', hL, e1, e2, hq, st⟩
  · dsimp only [Pt.U, Pt.locs, Pt.cells, Pt.slots] at X' e1 e2 h1 h2 h3 st hcl
    subst h1; subst h2; subst h3
    exact Or.inr ⟨q, (T.setVm vm₁).calling g' mk (Value.ref b :: As).toArray, t, U', L, E, ce, hT, X', hL, e1, e2, hq, hce, hcv, vx_cls hW₁ hcl, st⟩
theorem vx_runS (S : CallFix p m c cc nL s args Ts own) (hM : vx_Met l y ws rm Pc Qc XC mc ms free) (cw : CallB R s args own index y bytes maxL ret ws rm mc ms n ∧ (Cond.static y).before args s = true) (hp : PreS s H Pc As)
    (hg : g.method = m) (hn : As.length = n) (hsize : g.locals.size = nL) (hstack : g.stack = As.reverse ++ rest) (hW : 2 * g.monitorRoom + (rest.map fun v => v.category).sum ≤ 8) (hdg : decode cc g.pc = .ok (.invokestatic index, 3)) (hf : cells + mc ≤ R.cells ∧ slots + ms ≤ R.slots) :
    vx_Run p l e R s m args below meth c H locs cells slots mc ms g rest (Qc As.toArray) XC free := by
  have hK : vx_Back l R p e below s args y 3 8 (PreOf R mc ms Pc) (PostOf Qc mc ms free) (vx_Post XC mc ms free) := vx_callBack cw.1 hM hp.1
  obtain ⟨⟨-, -, -, -, -, -, hcode, hini, hy, hlen, hl⟩, hstt⟩ := cw
  obtain ⟨hx, hb, hml, ho, -⟩ := S
  intro T hT X
  rcases vx_callS X hx (bytes := bytes) (maxL := maxL) (ret := ret) ho hl hstt hini hcode hy hK hg (hsize.trans hml.symm) (argsL := As) (rest := rest) (fun sig h => hn.trans (hlen sig h)) hstack hW (by rw [hb]; exact hdg)
    (fun vm₁ hW₁ => ⟨hf.1, hf.2, hp.2 (T.setVm vm₁) hT hW₁⟩) with ⟨v, vm₁, ⟨U', l2, c2, s2⟩, hW₁, X', ⟨g', mk, t, L, e1, e2, hq, h1, hL, h2, h3⟩, st⟩ | ⟨q, vm₁, ⟨U', l2, c2, s2⟩, hW₁, X', ⟨g', mk, t, L, E, ce, e1, e2, hq, hce, hcv, hcl, h1, hL, h2, h3⟩, st⟩
  · dsimp only [Pt.U, Pt.locs, Pt.cells, Pt.slots] at X' e1 e2 h1 h2 h3 st
    subst h1; subst h2; subst h3
    exact Or.inl ⟨v, (T.setVm vm₁).calling g' mk As.toArray, t, U', L, hT, X', hL, e1, e2, hq, st⟩
  · dsimp only [Pt.U, Pt.locs, Pt.cells, Pt.slots] at X' e1 e2 h1 h2 h3 st hcl
    subst h1; subst h2; subst h3
    exact Or.inr ⟨q, (T.setVm vm₁).calling g' mk As.toArray, t, U', L, E, ce, hT, X', hL, e1, e2, hq, hce, hcv, vx_cls hW₁ hcl, st⟩
end Runs
section Rows
variable {p : Program} {l : Launch} {e : Env} {R : Room} {s : State} {m : MethodId} {args : Array Value} {below : List Frame} {meth : Method} {c : Code} {H : Heap} {locs : List Loc} {cells slots : Nat} {Q : State → Prop}
variable {mc ms : Nat} {free : Addr → Prop} {A0 A1 : Nat → Prop} {H0 : Heap} {a : Array Value} {pc : Nat} {ls : Array Slot} {st0 rest : List Value}
theorem vx_keep {st₀ t T' : State} {L : List Loc} (h0 : st₀.heap = H) (e1 : T'.heap = t.heap) (hS : va_S A0 H0 H locs) (hA : ∀ q, q < H.size → A1 q → A0 q) (hf : ∀ q, free q → A0 q) (hL : ∀ q ∈ L, free q.base) (hF : va_F A1 st₀ t) :
    H.size ≤ T'.heap.size ∧ (∀ q : Nat, q < H.size → ¬ A1 q → T'.heap[q]? = H[q]?) ∧ va_S A0 H0 T'.heap (locs ++ L) := by
  obtain ⟨hz, hk⟩ := hF
  rw [h0] at hz hk
  exact ⟨by rw [e1]; exact hz, fun q h1 h2 => by rw [e1]; exact hk q h1 h2,
    ⟨Nat.le_trans hS.1 (by rw [e1]; exact hz), fun q h1 h2 => by rw [e1, hk q (Nat.lt_of_lt_of_le h1 hS.1) (fun z => h2 (hA q (Nat.lt_of_lt_of_le h1 hS.1) z))]; exact hS.2.1 q h1 h2, fun q hq => by
      rcases List.mem_append.mp hq with h | h
      · exact hS.2.2 q h
      · exact hf _ (hL q h)⟩⟩
theorem vx_calli {S SX : Type} {post : Int32 → S → Prop} {px : SX → Prop} {B : S → State → Prop} {BX : String → SX → State → Prop} {AX : Nat → Prop} (hr : vx_Run p l e R s m args below meth c H locs cells slots mc ms (F0 m pc ls st0) rest (va_Qi post B A1 a) (vx_X px BX AX) free) (hS : va_S A0 H0 H locs) (hA : ∀ q, q < H.size → A1 q → A0 q) (hf : ∀ q, free q → A0 q) (hAX : ∀ q, q < H.size → AX q → A0 q)
    (kx : ∀ (E : String) (ce : Cell) (q9 : Addr) (u : SX) (t : State) (H1 : Heap) (locs1 : List Loc), t.heap = H1 → s.vm.Alike t.vm → px u → BX E u t → H.size ≤ H1.size → (∀ q : Nat, q < H.size → ¬ AX q → H1[q]? = H[q]?) → va_S A0 H0 H1 locs1 → H1[q9]? = some ce → ce.vm = .none → s.vm.findClass E = some ce.cls → vx_W p l e R s m args below meth c H1 locs1 (cells + mc) (slots + ms) Q (F0 m pc ls rest) q9)
    (kk : ∀ (r : Int32) (u : S) (t : State) (H1 : Heap) (locs1 : List Loc), t.heap = H1 → s.vm.Alike t.vm → post r u → B u t → H.size ≤ H1.size → (∀ q : Nat, q < H.size → ¬ A1 q → H1[q]? = H[q]?) → va_S A0 H0 H1 locs1 → W p l e R s m args below meth c H1 locs1 (cells + mc) (slots + ms) Q (F0 m (pc + 3) ls (.int r :: rest))) : W p l e R s m args below meth c H locs cells slots Q (F0 m pc ls st0) := by
  intro T hT X
  rcases hr T hT X with ⟨v, st₀, t, T', L, h0, X', hL, e1, e2, ⟨⟨r, u, hv, hp, hb⟩, hF⟩, st⟩ | ⟨q, st₀, t, T', L, E, ce, h0, X', hL, e1, e2, ⟨u, hp, hb, hF⟩, hce, hcv, hcl, st⟩
  · cases hv
    obtain ⟨k1, k2, k3⟩ := vx_keep h0 e1 hS hA hf hL hF
    obtain ⟨t2, a1, b1⟩ := kk r u t T'.heap (locs ++ L) e1.symm (by rw [← e2]; exact X'.warmed.alike) hp hb k1 k2 k3 T' rfl X'
    exact ⟨t2, st t2 a1, b1⟩
  · obtain ⟨k1, k2, k3⟩ := vx_keep h0 e1 hS hAX hf hL hF
    obtain ⟨t2, a1, b1⟩ := kx E ce q u t T'.heap (locs ++ L) e1.symm (by rw [← e2]; exact X'.warmed.alike) hp hb k1 k2 k3 (by rw [e1]; exact hce) hcv hcl T' rfl X'
    exact ⟨t2, st.trans a1, b1⟩
theorem vx_calll {S SX : Type} {post : Int64 → S → Prop} {px : SX → Prop} {B : S → State → Prop} {BX : String → SX → State → Prop} {AX : Nat → Prop} (hr : vx_Run p l e R s m args below meth c H locs cells slots mc ms (F0 m pc ls st0) rest (va_Ql post B A1 a) (vx_X px BX AX) free) (hS : va_S A0 H0 H locs) (hA : ∀ q, q < H.size → A1 q → A0 q) (hf : ∀ q, free q → A0 q) (hAX : ∀ q, q < H.size → AX q → A0 q)
    (kx : ∀ (E : String) (ce : Cell) (q9 : Addr) (u : SX) (t : State) (H1 : Heap) (locs1 : List Loc), t.heap = H1 → s.vm.Alike t.vm → px u → BX E u t → H.size ≤ H1.size → (∀ q : Nat, q < H.size → ¬ AX q → H1[q]? = H[q]?) → va_S A0 H0 H1 locs1 → H1[q9]? = some ce → ce.vm = .none → s.vm.findClass E = some ce.cls → vx_W p l e R s m args below meth c H1 locs1 (cells + mc) (slots + ms) Q (F0 m pc ls rest) q9)
    (kk : ∀ (r : Int64) (u : S) (t : State) (H1 : Heap) (locs1 : List Loc), t.heap = H1 → s.vm.Alike t.vm → post r u → B u t → H.size ≤ H1.size → (∀ q : Nat, q < H.size → ¬ A1 q → H1[q]? = H[q]?) → va_S A0 H0 H1 locs1 → W p l e R s m args below meth c H1 locs1 (cells + mc) (slots + ms) Q (F0 m (pc + 3) ls (.long r :: rest))) : W p l e R s m args below meth c H locs cells slots Q (F0 m pc ls st0) := by
  intro T hT X
  rcases hr T hT X with ⟨v, st₀, t, T', L, h0, X', hL, e1, e2, ⟨⟨r, u, hv, hp, hb⟩, hF⟩, st⟩ | ⟨q, st₀, t, T', L, E, ce, h0, X', hL, e1, e2, ⟨u, hp, hb, hF⟩, hce, hcv, hcl, st⟩
  · cases hv
    obtain ⟨k1, k2, k3⟩ := vx_keep h0 e1 hS hA hf hL hF
    obtain ⟨t2, a1, b1⟩ := kk r u t T'.heap (locs ++ L) e1.symm (by rw [← e2]; exact X'.warmed.alike) hp hb k1 k2 k3 T' rfl X'
    exact ⟨t2, st t2 a1, b1⟩
  · obtain ⟨k1, k2, k3⟩ := vx_keep h0 e1 hS hAX hf hL hF
    obtain ⟨t2, a1, b1⟩ := kx E ce q u t T'.heap (locs ++ L) e1.symm (by rw [← e2]; exact X'.warmed.alike) hp hb k1 k2 k3 (by rw [e1]; exact hce) hcv hcl T' rfl X'
    exact ⟨t2, st.trans a1, b1⟩
theorem vx_callf {S SX : Type} {post : UInt32 → S → Prop} {px : SX → Prop} {B : S → State → Prop} {BX : String → SX → State → Prop} {AX : Nat → Prop} (hr : vx_Run p l e R s m args below meth c H locs cells slots mc ms (F0 m pc ls st0) rest (va_Qf post B A1 a) (vx_X px BX AX) free) (hS : va_S A0 H0 H locs) (hA : ∀ q, q < H.size → A1 q → A0 q) (hf : ∀ q, free q → A0 q) (hAX : ∀ q, q < H.size → AX q → A0 q)
    (kx : ∀ (E : String) (ce : Cell) (q9 : Addr) (u : SX) (t : State) (H1 : Heap) (locs1 : List Loc), t.heap = H1 → s.vm.Alike t.vm → px u → BX E u t → H.size ≤ H1.size → (∀ q : Nat, q < H.size → ¬ AX q → H1[q]? = H[q]?) → va_S A0 H0 H1 locs1 → H1[q9]? = some ce → ce.vm = .none → s.vm.findClass E = some ce.cls → vx_W p l e R s m args below meth c H1 locs1 (cells + mc) (slots + ms) Q (F0 m pc ls rest) q9)
    (kk : ∀ (r : UInt32) (u : S) (t : State) (H1 : Heap) (locs1 : List Loc), t.heap = H1 → s.vm.Alike t.vm → post r u → B u t → H.size ≤ H1.size → (∀ q : Nat, q < H.size → ¬ A1 q → H1[q]? = H[q]?) → va_S A0 H0 H1 locs1 → W p l e R s m args below meth c H1 locs1 (cells + mc) (slots + ms) Q (F0 m (pc + 3) ls (.float r :: rest))) : W p l e R s m args below meth c H locs cells slots Q (F0 m pc ls st0) := by
  intro T hT X
  rcases hr T hT X with ⟨v, st₀, t, T', L, h0, X', hL, e1, e2, ⟨⟨r, u, hv, hp, hb⟩, hF⟩, st⟩ | ⟨q, st₀, t, T', L, E, ce, h0, X', hL, e1, e2, ⟨u, hp, hb, hF⟩, hce, hcv, hcl, st⟩
  · cases hv
    obtain ⟨k1, k2, k3⟩ := vx_keep h0 e1 hS hA hf hL hF
    obtain ⟨t2, a1, b1⟩ := kk r u t T'.heap (locs ++ L) e1.symm (by rw [← e2]; exact X'.warmed.alike) hp hb k1 k2 k3 T' rfl X'
    exact ⟨t2, st t2 a1, b1⟩
  · obtain ⟨k1, k2, k3⟩ := vx_keep h0 e1 hS hAX hf hL hF
    obtain ⟨t2, a1, b1⟩ := kx E ce q u t T'.heap (locs ++ L) e1.symm (by rw [← e2]; exact X'.warmed.alike) hp hb k1 k2 k3 (by rw [e1]; exact hce) hcv hcl T' rfl X'
    exact ⟨t2, st.trans a1, b1⟩
theorem vx_calld {S SX : Type} {post : UInt64 → S → Prop} {px : SX → Prop} {B : S → State → Prop} {BX : String → SX → State → Prop} {AX : Nat → Prop} (hr : vx_Run p l e R s m args below meth c H locs cells slots mc ms (F0 m pc ls st0) rest (va_Qd post B A1 a) (vx_X px BX AX) free) (hS : va_S A0 H0 H locs) (hA : ∀ q, q < H.size → A1 q → A0 q) (hf : ∀ q, free q → A0 q) (hAX : ∀ q, q < H.size → AX q → A0 q)
    (kx : ∀ (E : String) (ce : Cell) (q9 : Addr) (u : SX) (t : State) (H1 : Heap) (locs1 : List Loc), t.heap = H1 → s.vm.Alike t.vm → px u → BX E u t → H.size ≤ H1.size → (∀ q : Nat, q < H.size → ¬ AX q → H1[q]? = H[q]?) → va_S A0 H0 H1 locs1 → H1[q9]? = some ce → ce.vm = .none → s.vm.findClass E = some ce.cls → vx_W p l e R s m args below meth c H1 locs1 (cells + mc) (slots + ms) Q (F0 m pc ls rest) q9)
    (kk : ∀ (r : UInt64) (u : S) (t : State) (H1 : Heap) (locs1 : List Loc), t.heap = H1 → s.vm.Alike t.vm → post r u → B u t → H.size ≤ H1.size → (∀ q : Nat, q < H.size → ¬ A1 q → H1[q]? = H[q]?) → va_S A0 H0 H1 locs1 → W p l e R s m args below meth c H1 locs1 (cells + mc) (slots + ms) Q (F0 m (pc + 3) ls (.double r :: rest))) : W p l e R s m args below meth c H locs cells slots Q (F0 m pc ls st0) := by
  intro T hT X
  rcases hr T hT X with ⟨v, st₀, t, T', L, h0, X', hL, e1, e2, ⟨⟨r, u, hv, hp, hb⟩, hF⟩, st⟩ | ⟨q, st₀, t, T', L, E, ce, h0, X', hL, e1, e2, ⟨u, hp, hb, hF⟩, hce, hcv, hcl, st⟩
  · cases hv
    obtain ⟨k1, k2, k3⟩ := vx_keep h0 e1 hS hA hf hL hF
    obtain ⟨t2, a1, b1⟩ := kk r u t T'.heap (locs ++ L) e1.symm (by rw [← e2]; exact X'.warmed.alike) hp hb k1 k2 k3 T' rfl X'
    exact ⟨t2, st t2 a1, b1⟩
  · obtain ⟨k1, k2, k3⟩ := vx_keep h0 e1 hS hAX hf hL hF
    obtain ⟨t2, a1, b1⟩ := kx E ce q u t T'.heap (locs ++ L) e1.symm (by rw [← e2]; exact X'.warmed.alike) hp hb k1 k2 k3 (by rw [e1]; exact hce) hcv hcl T' rfl X'
    exact ⟨t2, st.trans a1, b1⟩
theorem vx_callv {S SX : Type} {post : S → Prop} {px : SX → Prop} {B : S → State → Prop} {BX : String → SX → State → Prop} {AX : Nat → Prop} (hr : vx_Run p l e R s m args below meth c H locs cells slots mc ms (F0 m pc ls st0) rest (va_Qv post B A1 a) (vx_X px BX AX) free) (hS : va_S A0 H0 H locs) (hA : ∀ q, q < H.size → A1 q → A0 q) (hf : ∀ q, free q → A0 q) (hAX : ∀ q, q < H.size → AX q → A0 q)
    (kx : ∀ (E : String) (ce : Cell) (q9 : Addr) (u : SX) (t : State) (H1 : Heap) (locs1 : List Loc), t.heap = H1 → s.vm.Alike t.vm → px u → BX E u t → H.size ≤ H1.size → (∀ q : Nat, q < H.size → ¬ AX q → H1[q]? = H[q]?) → va_S A0 H0 H1 locs1 → H1[q9]? = some ce → ce.vm = .none → s.vm.findClass E = some ce.cls → vx_W p l e R s m args below meth c H1 locs1 (cells + mc) (slots + ms) Q (F0 m pc ls rest) q9)
    (kk : ∀ (u : S) (t : State) (H1 : Heap) (locs1 : List Loc), t.heap = H1 → s.vm.Alike t.vm → post u → B u t → H.size ≤ H1.size → (∀ q : Nat, q < H.size → ¬ A1 q → H1[q]? = H[q]?) → va_S A0 H0 H1 locs1 → W p l e R s m args below meth c H1 locs1 (cells + mc) (slots + ms) Q (F0 m (pc + 3) ls (rest))) : W p l e R s m args below meth c H locs cells slots Q (F0 m pc ls st0) := by
  intro T hT X
  rcases hr T hT X with ⟨v, st₀, t, T', L, h0, X', hL, e1, e2, ⟨⟨u, hv, hp, hb⟩, hF⟩, st⟩ | ⟨q, st₀, t, T', L, E, ce, h0, X', hL, e1, e2, ⟨u, hp, hb, hF⟩, hce, hcv, hcl, st⟩
  · cases hv
    obtain ⟨k1, k2, k3⟩ := vx_keep h0 e1 hS hA hf hL hF
    obtain ⟨t2, a1, b1⟩ := kk u t T'.heap (locs ++ L) e1.symm (by rw [← e2]; exact X'.warmed.alike) hp hb k1 k2 k3 T' rfl X'
    exact ⟨t2, st t2 a1, b1⟩
  · obtain ⟨k1, k2, k3⟩ := vx_keep h0 e1 hS hAX hf hL hF
    obtain ⟨t2, a1, b1⟩ := kx E ce q u t T'.heap (locs ++ L) e1.symm (by rw [← e2]; exact X'.warmed.alike) hp hb k1 k2 k3 (by rw [e1]; exact hce) hcv hcl T' rfl X'
    exact ⟨t2, st.trans a1, b1⟩
/-- caught by the row x of this method's table; the rows ahead don't take it -/
theorem vx_catch {own name : String} {E : String} {ce : Cell} {q : Addr} (hown : s.vm.findClass own = some m.cls) (pre : List ExceptionTableEntry) (x : ExceptionTableEntry) (suf : List ExceptionTableEntry) (hsplit : c.exceptionTable.toList = pre ++ x :: suf)
    (hpass : ∀ z ∈ pre, covers z pc = false ∨ (z.catchType ≠ 0 ∧ ∃ nm : String, (Cond.classLink own z.catchType nm).before args s = true ∧ va_Nc E nm s)) (hx : covers x pc = true) (h0 : x.catchType ≠ 0)
    (hlink : (Cond.classLink own x.catchType name).before args s = true) (hcast : (Cond.castable E name).before args s = true) (hcell : H[q]? = some ce) (hv : ce.vm = .none) (hcl : s.vm.findClass E = some ce.cls)
    (kk : W p l e R s m args below meth c H locs cells slots Q (F0 m x.handlerPc ls [.ref q])) : vx_W p l e R s m args below meth c H locs cells slots Q (F0 m pc ls rest) q := by
  intro T hT X
  have hpl : e.platform.magicAccessors = ({} : Platform).magicAccessors := by rw [X.admits.platform]
  obtain ⟨c3, c4, hc3, hc4, hasg⟩ := Cond.castable_spec hcast
  cases Option.some.inj (hc3.symm.trans hcl)
  obtain ⟨c5, hc5, hcl5⟩ := Cond.classLink_spec hown hlink e.platform hpl
  cases Option.some.inj (hc4.symm.trans hc5)
  obtain ⟨vm', X', st⟩ := X.thenCaughtThrough q (g := F0 m pc ls rest) rfl (Steps.refl _) (by rw [hT]; exact hcell) (by rw [hv]; rfl) (by obtain ⟨k9, h9, -⟩ := Vm.findClass_spec hcl; exact ⟨k9, h9⟩) pre x suf hsplit
    (fun z hz => by
      rcases hpass z hz with h | ⟨hz0, nm, hl1, hn1⟩
      · exact Or.inl h
      · obtain ⟨c6, hc6, hcl6⟩ := Cond.classLink_spec hown hl1 e.platform hpl
        obtain ⟨a8, b8, h1, h2, h3⟩ := hn1
        cases Option.some.inj (h1.symm.trans hcl)
        cases Option.some.inj (h2.symm.trans hc6)
        exact Or.inr ⟨hz0, _, hcl6, h3⟩) hx (Or.inr ⟨h0, c4, hcl5, hasg⟩)
  obtain ⟨t, a1, b1⟩ := kk (T.setVm vm') hT X'
  exact ⟨t, st.trans a1, b1⟩
end Rows
section Ends
variable {p : Program} {l : Launch} {e : Env} {R : Room} {s : State} {m : MethodId} {args : Array Value} {below : List Frame} {meth : Method} {c : Code} {H : Heap} {locs : List Loc} {cells slots : Nat} {Q : State → Prop}
variable {mc ms : Nat} {free : Addr → Prop} {A0 A1 : Nat → Prop} {H0 : Heap} {a : Array Value} {ls : Array Slot} {st0 rest : List Value}
variable {Qc : Array Value → State → Outcome → State → Prop} {XC : String → State → State → Prop}
/-- what a body that may throw owes at its end -/
def vx_MQ (below : List Frame) (Qc : Array Value → State → Outcome → State → Prop) (XC : String → State → State → Prop) (a : Array Value) (s : State) (mc ms : Nat) (free : Addr → Prop) : State → Prop := fun t =>
  ∃ o, t.status = .running ∧ Ended t below o ∧ vx_Q Qc XC mc ms free a s o t
theorem vx_ret {g : JFrame} {mc ms : Nat} (k : W p l e R s m args below meth c H locs cells slots (MQ below Qc args s mc ms free) g) : W p l e R s m args below meth c H locs cells slots (vx_MQ below Qc XC args s mc ms free) g := by
  intro T hT X
  obtain ⟨t, a1, o, b1, b2, b3, b4⟩ := k T hT X
  exact ⟨t, a1, o, b1, b2, Or.inl ⟨b3, b4⟩⟩
/-- not caught here: it goes on to the caller -/
theorem vx_widen {g : JFrame} {q : Addr} {k n : Nat} (h1 : cells ≤ k) (h2 : slots ≤ n) (kk : vx_W p l e R s m args below meth c H locs k n Q g q) : vx_W p l e R s m args below meth c H locs cells slots Q g q := fun T hT X => kk T hT (stand_widen X h1 h2)
theorem vx_out {pc : Nat} {E : String} {ce : Cell} {q : Addr} {mc ms : Nat} (hout : ∀ x ∈ c.exceptionTable.toList, covers x pc = false) (hlocks : meth.locks = false) (hcell : H[q]? = some ce) (hv : ce.vm = .none) (hcl : s.vm.findClass E = some ce.cls)
    (hx : ∀ t : State, t.heap = H → s.vm.Alike t.vm → XC E s t) (hf : ∀ z ∈ locs, free z.base) (hc : cells ≤ mc) (hs : slots ≤ ms) :
    vx_W p l e R s m args below meth c H locs cells slots (vx_MQ below Qc XC args s mc ms free) (F0 m pc ls rest) q := by
  intro T hT X
  obtain ⟨st1, hrun, hend, hW, hsm⟩ := X.leaveThrown q (g := F0 m pc ls rest) rfl rfl rfl hout hlocks
  have hcell9 : (T.setFrames (.throwing q :: below)).heap[q]? = some ce := by
    show T.heap[q]? = some ce
    rw [hT]; exact hcell
  exact ⟨_, st1, .threw q, hrun, hend, Or.inr ⟨q, rfl, E, ce, locs, hx _ hT hW.alike, hcell9, hv, hcl, hW, hsm.mono hc hs, hf⟩⟩
theorem vx_frame {U : State} {k n : Nat} (h : s.sameButNew ({ U with vm := s.vm } : State) locs k n) : s.heap.size ≤ U.heap.size ∧ ∀ q : Nat, q < s.heap.size → (∀ z ∈ locs, z.base ≠ q) → U.heap[q]? = s.heap[q]? := by
  obtain ⟨-, h2, -, -, -, h6⟩ := h
  refine ⟨h2, fun q hq hz => ?_⟩
  obtain ⟨c9, e1, e2, e3, e4⟩ := h6 q _ (Array.getElem?_eq_getElem hq)
  have hs : c9.slots = (s.heap[q]).slots := Array.ext_getElem? fun i => e4 i fun hm => hz _ hm rfl
  have h9 : c9 = s.heap[q] := by
    rw [hs] at e2
    exact e2
  have e5 : U.heap[q]? = some c9 := e1
  rw [e5, h9, Array.getElem?_eq_getElem hq]
/-- the words of a throw but the four that speak of the heap -/
def vx_no (w : Cond) : Bool := decide (w ≠ .isRef (.static Bundle.tN "UNASSIGNED_STACK" Bundle.steD)) && decide (w ≠ .isRef (.static Bundle.tN "SUPPRESSED_SENTINEL" Bundle.listD)) && decide (w ≠ .laysStatic Bundle.tN "UNASSIGNED_STACK" Bundle.steD) && decide (w ≠ .laysStatic Bundle.tN "SUPPRESSED_SENTINEL" Bundle.listD)
def vx_at0 (own : String) (ic : Nat) (X : String) (names : List String) : List Cond := (Bundle.ownAtoms0 own ic X names).filter vx_no
def vx_atS (own : String) (ic : Nat) (X : String) (names : List String) : List Cond := (Bundle.ownAtoms own ic X names).filter vx_no
/-- a word that the tables alone decide, or a good one -/
def vx_ot (w : Cond) : Bool := w.onTables || goodWord w
theorem vx_ot_at {args a' : Array Value} {s U : State} {w : Cond} (hW : s.WarmedH U.vm) (hvm : s.vm = U.vm) (hg : vx_ot w = true) (h : w.before args s = true) : w.before a' U = true := by
  simp only [vx_ot, Bool.or_eq_true] at hg
  rcases hg with hg | hg
  · exact va_tabs hg hvm h
  · exact word_at hW (good_of_word hg) h
/-- a list's words: the good ones out of the method's own list, the others by premises of their own -/
theorem vx_hat {args : Array Value} {s : State} {L B : List Cond} (h1 : ∀ w ∈ L.filter goodWord, w.before args s = true) (h2 : ∀ w ∈ L.filter (fun w => !goodWord w), w ∈ B) (h3 : ∀ w ∈ B, w.before args s = true) : ∀ w ∈ L, w.before args s = true := by
  intro w hw
  by_cases g : goodWord w = true
  · exact h1 w (List.mem_filter.mpr ⟨hw, g⟩)
  · refine h3 w (h2 w (List.mem_filter.mpr ⟨hw, ?_⟩))
    show (!goodWord w) = true
    cases hgw : goodWord w
    · rfl
    · exact absurd hgw g
theorem vx_c {args : Array Value} {s : State} {w : Cond} {B : List Cond} (h : w.before args s = true) (t : ∀ w ∈ B, w.before args s = true) : ∀ w' ∈ w :: B, w'.before args s = true := fun w' h' => (List.mem_cons.mp h').elim (fun e => by rw [e]; exact h) (t w')
theorem vx_n {args : Array Value} {s : State} : ∀ w ∈ ([] : List Cond), w.before args s = true := fun _ h => nomatch h
theorem vx_own {args : Array Value} {s : State} {L : List Cond} (h1 : ∀ w ∈ L.filter vx_no, w.before args s = true)
    (hU : (Cond.isRef (.static Bundle.tN "UNASSIGNED_STACK" Bundle.steD)).before args s = true) (hN : (Cond.isRef (.static Bundle.tN "SUPPRESSED_SENTINEL" Bundle.listD)).before args s = true)
    (lU : (Cond.laysStatic Bundle.tN "UNASSIGNED_STACK" Bundle.steD).before args s = true) (lN : (Cond.laysStatic Bundle.tN "SUPPRESSED_SENTINEL" Bundle.listD).before args s = true) : ∀ w ∈ L, w.before args s = true := by
  intro w hw
  by_cases e1 : w = .isRef (.static Bundle.tN "UNASSIGNED_STACK" Bundle.steD)
  · rw [e1]; exact hU
  · by_cases e2 : w = .isRef (.static Bundle.tN "SUPPRESSED_SENTINEL" Bundle.listD)
    · rw [e2]; exact hN
    · by_cases e3 : w = .laysStatic Bundle.tN "UNASSIGNED_STACK" Bundle.steD
      · rw [e3]; exact lU
      · by_cases e4 : w = .laysStatic Bundle.tN "SUPPRESSED_SENTINEL" Bundle.listD
        · rw [e4]; exact lN
        · exact h1 w (List.mem_filter.mpr ⟨hw, by unfold vx_no; rw [decide_eq_true e1, decide_eq_true e2, decide_eq_true e3, decide_eq_true e4]; rfl⟩)
/-- where a static field lies, its class's statics cell in H -/
def vx_L (C n d : String) (A : Nat → Prop) (U : State) (H : Heap) : Prop := ∃ (c : ClassId) (k : Class) (i : Nat) (f : Field) (a : Nat) (cell : Cell), U.vm.findClass C = some c ∧ U.fieldFound? C n d = some (c, k, i, f) ∧ f.isStatic = true ∧ k.statics = some a ∧ H[a]? = some cell ∧ cell.vm.isStatics = true ∧ cell.cls = c ∧ f.slot < cell.slots.size ∧ k.staticTypes[f.slot]? = some f.type ∧ ¬ A a
theorem vx_L.moved {C n d : String} {A : Nat → Prop} {u U : State} {H : Heap} (hvm : u.vm.Alike U.vm) (h : vx_L C n d A u H) : vx_L C n d A U H := by
  obtain ⟨c, k, i, f, a, cell, h1, h2, h3, h4, h5, h6, h7, h8, h9, h10⟩ := h
  obtain ⟨k', hi', he⟩ := State.fieldFound?_setVm hvm h2
  exact ⟨c, k', i, f, a, cell, by rw [hvm.findClass]; exact h1, hi', h3, by rw [he]; exact h4, h5, h6, h7, h8, by rw [he]; exact h9, h10⟩
theorem vx_L.kept {C n d : String} {A : Nat → Prop} {U : State} {H H1 : Heap} (h : vx_L C n d A U H) (hq : ∀ a : Nat, a < H.size → ¬ A a → H1[a]? = H[a]?) : vx_L C n d A U H1 := by
  obtain ⟨c, k, i, f, a, cell, h1, h2, h3, h4, h5, h6, h7, h8, h9, h10⟩ := h
  exact ⟨c, k, i, f, a, cell, h1, h2, h3, h4, by rw [hq a (Array.getElem?_eq_some_iff.mp h5).1 h10]; exact h5, h6, h7, h8, h9, h10⟩
theorem vx_L.narrow {C n d : String} {A B : Nat → Prop} {U : State} {H : Heap} (h : vx_L C n d A U H) (hAB : ∀ q, B q → A q) : vx_L C n d B U H := by
  obtain ⟨c, k, i, f, a, cell, h1, h2, h3, h4, h5, h6, h7, h8, h9, h10⟩ := h
  exact ⟨c, k, i, f, a, cell, h1, h2, h3, h4, h5, h6, h7, h8, h9, fun z => h10 (hAB _ z)⟩
theorem vx_L.word {C n d : String} {A : Nat → Prop} {s : State} {args : Array Value} (h : vx_L C n d A s s.heap) : (Cond.laysStatic C n d).before args s = true := by
  obtain ⟨c, k, i, f, a, cell, h1, h2, h3, h4, h5, h6, h7, h8, h9, -⟩ := h
  show (Cond.laysStatic C n d).holds args s none s [] = true
  exact Cond.laysStatic_of h1 h2 h3 h4 h5 h6 h7 h8 h9
/-- .. and what it holds: null or some reference -/
def vx_Zq (C n d : String) (A : Nat → Prop) (U : State) (H : Heap) : Prop := va_Zq C n d A U H ∧ vx_L C n d A U H
theorem vx_Zq.moved {C n d : String} {A : Nat → Prop} {u U : State} {H : Heap} (hvm : u.vm.Alike U.vm) (h : vx_Zq C n d A u H) : vx_Zq C n d A U H := ⟨va_Zq.moved hvm h.1, vx_L.moved hvm h.2⟩
theorem vx_Zq.kept {C n d : String} {A : Nat → Prop} {U : State} {H H1 : Heap} (h : vx_Zq C n d A U H) (hq : ∀ a : Nat, a < H.size → ¬ A a → H1[a]? = H[a]?) : vx_Zq C n d A U H1 := ⟨va_Zq.kept h.1 hq, vx_L.kept h.2 hq⟩
theorem vx_Zq.narrow {C n d : String} {A B : Nat → Prop} {U : State} {H : Heap} (h : vx_Zq C n d A U H) (hAB : ∀ q, B q → A q) : vx_Zq C n d B U H := ⟨va_Zq.narrow h.1 hAB, vx_L.narrow h.2 hAB⟩
theorem vx_Zqof {args : Array Value} {s : State} {C n d : String} {A : Nat → Prop} (hl : (Cond.laysStatic C n d).before args s = true) (hini : (Cond.initialized C).before args s = true) (h : (Cond.isRef (.static C n d)).before args s = true) (hA : ∀ a : Nat, a < s.heap.size → ¬ A a) : vx_Zq C n d A s s.heap := by
  refine ⟨va_Zqof hl hini h hA, ?_⟩
  obtain ⟨c, k, i, f, a, cell, h1, h2, h3, h4, h5, h6, h7, h8, h9⟩ := Cond.laysStatic_spec hl
  exact ⟨c, k, i, f, a, cell, h1, h2, h3, h4, h5, h6, h7, h8, h9, hA a (Array.getElem?_eq_some_iff.mp h5).1⟩
theorem vx_isRef {C n d : String} {v : Value} {A : Nat → Prop} {s : State} {args : Array Value} (h : va_Z C n d v A s s.heap) (hv : v.isRef = true) : (Cond.isRef (.static C n d)).before args s = true := by
  obtain ⟨cf, kf, fi, f, a, cell, h1, h2, h3, h4, h5, h6, h7, -⟩ := h
  have he : (Term.static C n d).eval args s none [] s = some v := by
    simp [Term.eval, State.fieldNamed?, h1, h2, h4, h5, h6, h7]
  simp only [Cond.before, Cond.holds, Cond.value, he]
  cases v <;> simp_all [Value.isRef]
theorem vx_isRefq {C n d : String} {A : Nat → Prop} {s : State} {args : Array Value} (h : va_Zq C n d A s s.heap) : (Cond.isRef (.static C n d)).before args s = true := by
  rcases h with h | ⟨t, h⟩
  · exact vx_isRef h rfl
  · exact vx_isRef h rfl
/-- the same frame, seen from here: as if the method were called anew in this heap -/
theorem vx_rebase {T : State} (X : Stand p l e R s m args below meth c T locs cells slots) {R' : Room} (hf : R'.frames ≤ R.frames) (hl : R'.locals ≤ R.locals) (hc : cells + R'.cells ≤ R.cells) (hs : slots + R'.slots ≤ R.slots) :
    Stand p l e R' ((T.setVm s.vm).setFrames (.invoking m args :: below)) m args below meth c T [] 0 0 := by
  have htop : (T.setVm s.vm).topJava?.isSome := X.here.top
  have hF : ((T.setVm s.vm).setFrames (.invoking m args :: below)).frames = .invoking m args :: below := State.frames_setFrames _ (State.cur_lt_of_top htop)
  obtain ⟨g₀, hg0⟩ := Option.isSome_iff_exists.mp htop
  obtain ⟨r, hr⟩ := State.topJava?_eq_some.mp hg0
  have hl9 : e.platform.stackLimits (T.setVm s.vm).me = e.platform.stackLimits s.me := X.limits
  have hb9 : (T.setVm s.vm).me.stackBytes = s.me.stackBytes := X.bytes
  refine ⟨X.admits, X.cas, X.clock, hF, ?_, X.hears, X.method, X.code, X.here, X.tail, X.warmed, ?_, ?_, ?_⟩
  · have h := X.room
    have hU : ((T.setVm s.vm).setFrames (.invoking m args :: below)).localsInUse = s.localsInUse := by
      rw [State.localsInUse_invoking hF (meth := meth) (c := c) X.method X.code, State.localsInUse_invoking X.frames X.method X.code]
    simp only [State.hasRoom, Bool.and_eq_true, decide_eq_true_eq] at h ⊢
    obtain ⟨⟨⟨⟨h1, h2, h3, h4, h5, h6⟩, h7⟩, h8⟩, h9⟩ := h
    rw [X.frames, List.length_cons] at h2 h3
    have q1 := X.heapSize
    have q2 := X.used
    simp only [hF, hU, List.length_cons, State.stackLimits_setFrames, State.stackBytes_setFrames, hl9, hb9]
    refine ⟨⟨⟨⟨by omega, by omega, by omega, by omega, by omega, h6⟩, ?_⟩, ?_⟩, X.book⟩
    · show T.heap.size + R'.cells ≤ e.platform.maxCells
      omega
    · show T.slotsUsed + R'.slots ≤ e.platform.maxSlots
      omega
  · rw [State.stackLimits_setFrames]; rfl
  · rw [State.stackBytes_setFrames]; rfl
  · refine ⟨?_, Nat.le_refl _, Nat.le_refl _, ?_, ?_, fun a c9 h9 => ⟨c9, h9, rfl, rfl, fun _ _ => rfl⟩⟩
    · obtain ⟨t, ht, -⟩ := State.frames_cons hr
      show T.setVm s.vm = { ((T.setVm s.vm).setFrames (.invoking m args :: below)).setFrames (T.setVm s.vm).frames with heap := T.heap, slotsUsed := T.slotsUsed }
      rw [State.setFrames_setFrames, State.setFrames_self ht]
      rfl
    · show T.slotsUsed = T.slotsUsed + ((T.heap.toList.drop T.heap.size).map (·.slots.size)).sum
      rw [List.drop_eq_nil_of_le (Nat.le_of_eq Array.length_toList)]
      rfl
    · show ((T.heap.toList.drop T.heap.size).map (·.slots.size)).sum ≤ 0
      rw [List.drop_eq_nil_of_le (Nat.le_of_eq Array.length_toList)]
      exact Nat.le_refl _
/-- 'throw new E()': new; dup; invokespecial; athrow -/
theorem vx_throw0 {cc : ByteArray} {pc : Nat} (hexec : p.tables.exec = Jvm.exec) (hb : c.code = cc) (hl : l.stackTraces = false) {own cls : String} {names : List String} {ik ic mc ms : Nat} {A : Nat → Prop}
    (hown : s.vm.findClass own = some m.cls) (hcls : Bundle.fit cls = true) (hnames : ∀ n ∈ names, Bundle.fit n = true)
    (hk : (Cond.classLink own ik cls).before args s = true) (hini : (Cond.initialized cls).before args s = true) (hat : ∀ w ∈ vx_at0 own ic cls names, w.before args s = true)
    (hgood : ∀ w ∈ Cond.classLink own ik cls :: Cond.initialized cls :: vx_at0 own ic cls names, vx_ot w = true)
    (hU : vx_Zq Bundle.tN "UNASSIGNED_STACK" Bundle.steD A s s.heap) (hN : vx_Zq Bundle.tN "SUPPRESSED_SENTINEL" Bundle.listD A s s.heap) (hS : va_S A s.heap H locs) (hsize : ls.size = c.maxLocals)
    (d0 : decode cc pc = .ok (.new ik, 3)) (d3 : decode cc (pc + 3) = .ok (.dup, 1)) (d4 : decode cc (pc + 4) = .ok (.invokespecial ic, 3)) (d7 : decode cc (pc + 7) = .ok (.athrow, 1))
    (hout : ∀ x ∈ c.exceptionTable.toList, covers x (pc + 7) = false)
    (hRframes : names.length + 3 < R.frames) (hRlocals : (rest.map fun v => v.category).sum + (13 * (names.length + 1) + 42) ≤ R.locals) (hRcells : cells + 1 ≤ R.cells) (hRslots : slots + 6 ≤ R.slots) (hlocks : meth.locks = false)
    (hx : ∀ t : State, s.vm.Alike t.vm → H.size ≤ t.heap.size → (∀ q : Nat, q < H.size → t.heap[q]? = H[q]?) → XC cls s t)
    (hf : ∀ z ∈ locs, free z.base) (hc : cells + 1 ≤ mc) (hs : slots + 6 ≤ ms) :
    W p l e R s m args below meth c H locs cells slots (vx_MQ below Qc XC args s mc ms free) (F0 m pc ls rest) := by
  intro T hT X
  have htr : e.platform.stackTraces = false := (show e.platform.stackTraces = l.stackTraces by rw [X.admits.platform]).trans hl
  have Y := vx_rebase X (R' := { frames := R.frames, locals := R.locals, cells := 1, slots := 6 }) (Nat.le_refl _) (Nat.le_refl _) hRcells hRslots
  obtain ⟨s', hA⟩ : ∃ z, z = (T.setVm s.vm).setFrames (.invoking m args :: below) := ⟨_, rfl⟩
  rw [← hA] at Y
  have hvm : s'.vm = s.vm := by rw [hA]; rfl
  have hhp : s'.heap = H := by rw [hA]; exact hT
  have hW0 : s.WarmedH s'.vm := by rw [hvm]; exact State.WarmedH.refl s
  have hat' : ∀ w ∈ vx_at0 own ic cls names, w.before args s' = true := fun w hw => vx_ot_at hW0 hvm.symm (hgood w (List.mem_cons_of_mem _ (List.mem_cons_of_mem _ hw))) (hat w hw)
  have hk' : (Cond.classLink own ik cls).before args s' = true := vx_ot_at hW0 hvm.symm (hgood _ List.mem_cons_self) hk
  have hini' : (Cond.initialized cls).before args s' = true := vx_ot_at hW0 hvm.symm (hgood _ (List.mem_cons_of_mem _ List.mem_cons_self)) hini
  have hU' : vx_Zq Bundle.tN "UNASSIGNED_STACK" Bundle.steD A s' s'.heap := by rw [hhp]; exact vx_Zq.moved hW0.alike (hU.kept hS.2.1)
  have hN' : vx_Zq Bundle.tN "SUPPRESSED_SENTINEL" Bundle.listD A s' s'.heap := by rw [hhp]; exact vx_Zq.moved hW0.alike (hN.kept hS.2.1)
  have h : ∀ w ∈ Bundle.ownAtoms0 own ic cls names, w.before args s' = true := vx_own hat' (vx_isRefq hU'.1) (vx_isRefq hN'.1) hU'.2.word hN'.2.word
  have hown' : s'.vm.findClass own = some m.cls := by rw [hvm]; exact hown
  have hins : (Cond.instantiable cls 6).before args s' = true := h _ (by simp [Bundle.ownAtoms0])
  obtain ⟨vm₁, cX, kX, hfX, hkX, -, -, X₁, st1⟩ := Y.newCold hexec (own := own) (C := cls) (index := ik) (n := 6) hown' hk' hins hini'
    (g := F0 m pc ls rest) rfl (by rw [hb]; exact d0) (Nat.le_refl _) (Nat.le_refl _)
  generalize hT1 : (T.setVm vm₁).pushCell { cls := cX, slots := kX.instanceTypes.map defaultValue, vm := .none } = T1 at X₁ st1
  have hcat : (Value.ref T.heap.size).category = 1 := rfl
  have hcellA : T1.heap[T.heap.size]? = some (freshCell cX kX) := by rw [← hT1]; exact State.heap_pushCell_size _ _
  have d3' : decode c.code (pc + 3) = .ok (.dup, 1) := by rw [hb]; exact d3
  obtain ⟨U, hsteps, hrun, hend, hW, hsame, ce, hce, hO⟩ := X₁.ctorThrow0 hexec htr (own := own) (cls := cls) (names := names) (ic := ic) hown' hcls hnames h (fun x hx => nomatch hx) hfX hkX hcellA (by rw [hhp, hT]; exact Nat.le_refl _)
    (g := { method := m, pc := pc + 4, locals := ls, stack := .ref T.heap.size :: .ref T.heap.size :: rest, locked := none }) rfl hsize rfl rfl (rest := rest) rfl
    (by rw [hb]; exact d4) (by rw [hb]; exact d7) hout hRframes (by simp only [List.map_cons, List.sum_cons, hcat]; omega) hlocks
  obtain ⟨f1, f2⟩ := vx_frame hsame
  rw [hhp] at f1 f2
  have hWs : s.WarmedH U.vm := State.WarmedH.trans hW0 hW
  have hcl : s.vm.findClass cls = some ce.cls := by
    have h9 := hO.cls
    rw [hvm] at h9
    exact h9
  have hall : s.sameButNew ({ U with vm := s.vm } : State) locs mc ms := by
    subst hA
    obtain ⟨e1, e2⟩ := hsame
    rw [State.setFrames_setFrames] at e1
    have h2 : (T.setVm s.vm).sameButNew ({ U with vm := s.vm } : State) [] (0 + 1) (0 + 6) := ⟨e1, e2⟩
    have h3 := X.same.trans h2
    rw [List.append_nil] at h3
    exact h3.mono hc hs
  refine ⟨U, ?_, .threw T.heap.size, hrun, hend, Or.inr ⟨T.heap.size, rfl, cls, ce, locs, hx U hWs.alike f1 (fun q hq => f2 q hq (fun z hz => nomatch hz)), hce, hO.vm, hcl, hWs, hall, hf⟩⟩
  refine st1 _ ?_
  show Steps p.tables e below (T1.setTop { method := m, pc := pc + 3, locals := ls, stack := .ref T.heap.size :: rest, locked := none }) _
  jvm_step X₁.here [X₁.here.top, hexec, d3', Value.category]
  exact hsteps
/-- 'throw new E("text")': new; dup; ldc; invokespecial; athrow -/
theorem vx_throwS {cc : ByteArray} {pc : Nat} (hexec : p.tables.exec = Jvm.exec) (hb : c.code = cc) (hl : l.stackTraces = false) {own cls text : String} {names : List String} {ik is ic mc ms sa : Nat} {A : Nat → Prop}
    (hown : s.vm.findClass own = some m.cls) (hcls : Bundle.fit cls = true) (hnames : ∀ n ∈ names, Bundle.fit n = true)
    (hk : (Cond.classLink own ik cls).before args s = true) (hini : (Cond.initialized cls).before args s = true) (hstr : vk_R own is text sa s) (hat : ∀ w ∈ vx_atS own ic cls names, w.before args s = true)
    (hgood : ∀ w ∈ Cond.classLink own ik cls :: Cond.initialized cls :: vx_atS own ic cls names, vx_ot w = true)
    (hU : vx_Zq Bundle.tN "UNASSIGNED_STACK" Bundle.steD A s s.heap) (hN : vx_Zq Bundle.tN "SUPPRESSED_SENTINEL" Bundle.listD A s s.heap) (hS : va_S A s.heap H locs) (hsize : ls.size = c.maxLocals)
    (d0 : decode cc pc = .ok (.new ik, 3)) (d3 : decode cc (pc + 3) = .ok (.dup, 1)) (d4 : decode cc (pc + 4) = .ok (.ldc is, 2)) (d6 : decode cc (pc + 6) = .ok (.invokespecial ic, 3)) (d9 : decode cc (pc + 9) = .ok (.athrow, 1))
    (hout : ∀ x ∈ c.exceptionTable.toList, covers x (pc + 9) = false)
    (hRframes : names.length + 3 < R.frames) (hRlocals : (rest.map fun v => v.category).sum + (13 * (names.length + 1) + 43) ≤ R.locals) (hRcells : cells + 1 ≤ R.cells) (hRslots : slots + 6 ≤ R.slots) (hlocks : meth.locks = false)
    (hx : ∀ t : State, s.vm.Alike t.vm → H.size ≤ t.heap.size → (∀ q : Nat, q < H.size → t.heap[q]? = H[q]?) → XC cls s t)
    (hf : ∀ z ∈ locs, free z.base) (hc : cells + 1 ≤ mc) (hs : slots + 6 ≤ ms) :
    W p l e R s m args below meth c H locs cells slots (vx_MQ below Qc XC args s mc ms free) (F0 m pc ls rest) := by
  intro T hT X
  have htr : e.platform.stackTraces = false := (show e.platform.stackTraces = l.stackTraces by rw [X.admits.platform]).trans hl
  have Y := vx_rebase X (R' := { frames := R.frames, locals := R.locals, cells := 1, slots := 6 }) (Nat.le_refl _) (Nat.le_refl _) hRcells hRslots
  obtain ⟨s', hA⟩ : ∃ z, z = (T.setVm s.vm).setFrames (.invoking m args :: below) := ⟨_, rfl⟩
  rw [← hA] at Y
  have hvm : s'.vm = s.vm := by rw [hA]; rfl
  have hhp : s'.heap = H := by rw [hA]; exact hT
  have hW0 : s.WarmedH s'.vm := by rw [hvm]; exact State.WarmedH.refl s
  have hat' : ∀ w ∈ vx_atS own ic cls names, w.before args s' = true := fun w hw => vx_ot_at hW0 hvm.symm (hgood w (List.mem_cons_of_mem _ (List.mem_cons_of_mem _ hw))) (hat w hw)
  have hk' : (Cond.classLink own ik cls).before args s' = true := vx_ot_at hW0 hvm.symm (hgood _ List.mem_cons_self) hk
  have hini' : (Cond.initialized cls).before args s' = true := vx_ot_at hW0 hvm.symm (hgood _ (List.mem_cons_of_mem _ List.mem_cons_self)) hini
  have hU' : vx_Zq Bundle.tN "UNASSIGNED_STACK" Bundle.steD A s' s'.heap := by rw [hhp]; exact vx_Zq.moved hW0.alike (hU.kept hS.2.1)
  have hN' : vx_Zq Bundle.tN "SUPPRESSED_SENTINEL" Bundle.listD A s' s'.heap := by rw [hhp]; exact vx_Zq.moved hW0.alike (hN.kept hS.2.1)
  have h : ∀ w ∈ Bundle.ownAtoms own ic cls names, w.before args s' = true := vx_own hat' (vx_isRefq hU'.1) (vx_isRefq hN'.1) hU'.2.word hN'.2.word
  have hown' : s'.vm.findClass own = some m.cls := by rw [hvm]; exact hown
  have hins : (Cond.instantiable cls 6).before args s' = true := h _ (by simp [Bundle.ownAtoms])
  obtain ⟨vm₁, cX, kX, hfX, hkX, -, -, X₁, st1⟩ := Y.newCold hexec (own := own) (C := cls) (index := ik) (n := 6) hown' hk' hins hini'
    (g := F0 m pc ls rest) rfl (by rw [hb]; exact d0) (Nat.le_refl _) (Nat.le_refl _)
  generalize hT1 : (T.setVm vm₁).pushCell { cls := cX, slots := kX.instanceTypes.map defaultValue, vm := .none } = T1 at X₁ st1
  have hcat : (Value.ref T.heap.size).category = 1 := rfl
  have hcellA : T1.heap[T.heap.size]? = some (freshCell cX kX) := by rw [← hT1]; exact State.heap_pushCell_size _ _
  have d3' : decode c.code (pc + 3) = .ok (.dup, 1) := by rw [hb]; exact d3
  have d4' : decode c.code (pc + 4) = .ok (.ldc is, 2) := by rw [hb]; exact d4
  have hstr' : vk_R own is text sa s' := vk_R.warm hW0 hstr
  obtain ⟨U, hsteps, hrun, hend, hW, hsame, ce, hce, hO⟩ := X₁.ctorThrowS hexec htr (own := own) (cls := cls) (names := names) (ic := ic) hown' hcls hnames h (fun x hx => nomatch hx) hfX hkX hcellA (by rw [hhp, hT]; exact Nat.le_refl _) (msg := .ref sa) rfl
    (g := { method := m, pc := pc + 6, locals := ls, stack := .ref sa :: .ref T.heap.size :: .ref T.heap.size :: rest, locked := none }) rfl hsize rfl rfl (rest := rest) rfl
    (by rw [hb]; exact d6) (by rw [hb]; exact d9) hout hRframes (by simp only [List.map_cons, List.sum_cons, hcat]; omega) hlocks
  obtain ⟨f1, f2⟩ := vx_frame hsame
  rw [hhp] at f1 f2
  have hWs : s.WarmedH U.vm := State.WarmedH.trans hW0 hW
  have hcl : s.vm.findClass cls = some ce.cls := by
    have h9 := hO.cls
    rw [hvm] at h9
    exact h9
  have hall : s.sameButNew ({ U with vm := s.vm } : State) locs mc ms := by
    subst hA
    obtain ⟨e1, e2⟩ := hsame
    rw [State.setFrames_setFrames] at e1
    have h2 : (T.setVm s.vm).sameButNew ({ U with vm := s.vm } : State) [] (0 + 1) (0 + 6) := ⟨e1, e2⟩
    have h3 := X.same.trans h2
    rw [List.append_nil] at h3
    exact h3.mono hc hs
  refine ⟨U, ?_, .threw T.heap.size, hrun, hend, Or.inr ⟨T.heap.size, rfl, cls, ce, locs, hx U hWs.alike f1 (fun q hq => f2 q hq (fun z hz => nomatch hz)), hce, hO.vm, hcl, hWs, hall, hf⟩⟩
  refine st1 _ ?_
  show Steps p.tables e below (T1.setTop { method := m, pc := pc + 3, locals := ls, stack := .ref T.heap.size :: rest, locked := none }) _
  jvm_step X₁.here [X₁.here.top, hexec, d3', Value.category]
  exact X₁.ldcString hexec (own := own) (text := text) (index := is) (a := sa) hown' hstr'.1 hstr'.2
    (g := { method := m, pc := pc + 4, locals := ls, stack := .ref T.heap.size :: .ref T.heap.size :: rest, locked := none }) rfl d4' _ hsteps
/-- 'throw new E("text")', the text by a wide index -/
theorem vx_throwSW {cc : ByteArray} {pc : Nat} (hexec : p.tables.exec = Jvm.exec) (hb : c.code = cc) (hl : l.stackTraces = false) {own cls text : String} {names : List String} {ik is ic mc ms sa : Nat} {A : Nat → Prop}
    (hown : s.vm.findClass own = some m.cls) (hcls : Bundle.fit cls = true) (hnames : ∀ n ∈ names, Bundle.fit n = true)
    (hk : (Cond.classLink own ik cls).before args s = true) (hini : (Cond.initialized cls).before args s = true) (hstr : vk_R own is text sa s) (hat : ∀ w ∈ vx_atS own ic cls names, w.before args s = true)
    (hgood : ∀ w ∈ Cond.classLink own ik cls :: Cond.initialized cls :: vx_atS own ic cls names, vx_ot w = true)
    (hU : vx_Zq Bundle.tN "UNASSIGNED_STACK" Bundle.steD A s s.heap) (hN : vx_Zq Bundle.tN "SUPPRESSED_SENTINEL" Bundle.listD A s s.heap) (hS : va_S A s.heap H locs) (hsize : ls.size = c.maxLocals)
    (d0 : decode cc pc = .ok (.new ik, 3)) (d3 : decode cc (pc + 3) = .ok (.dup, 1)) (d4 : decode cc (pc + 4) = .ok (.ldc_w is, 3)) (d7 : decode cc (pc + 7) = .ok (.invokespecial ic, 3)) (d10 : decode cc (pc + 10) = .ok (.athrow, 1))
    (hout : ∀ x ∈ c.exceptionTable.toList, covers x (pc + 10) = false)
    (hRframes : names.length + 3 < R.frames) (hRlocals : (rest.map fun v => v.category).sum + (13 * (names.length + 1) + 43) ≤ R.locals) (hRcells : cells + 1 ≤ R.cells) (hRslots : slots + 6 ≤ R.slots) (hlocks : meth.locks = false)
    (hx : ∀ t : State, s.vm.Alike t.vm → H.size ≤ t.heap.size → (∀ q : Nat, q < H.size → t.heap[q]? = H[q]?) → XC cls s t)
    (hf : ∀ z ∈ locs, free z.base) (hc : cells + 1 ≤ mc) (hs : slots + 6 ≤ ms) :
    W p l e R s m args below meth c H locs cells slots (vx_MQ below Qc XC args s mc ms free) (F0 m pc ls rest) := by
  intro T hT X
  have htr : e.platform.stackTraces = false := (show e.platform.stackTraces = l.stackTraces by rw [X.admits.platform]).trans hl
  have Y := vx_rebase X (R' := { frames := R.frames, locals := R.locals, cells := 1, slots := 6 }) (Nat.le_refl _) (Nat.le_refl _) hRcells hRslots
  obtain ⟨s', hA⟩ : ∃ z, z = (T.setVm s.vm).setFrames (.invoking m args :: below) := ⟨_, rfl⟩
  rw [← hA] at Y
  have hvm : s'.vm = s.vm := by rw [hA]; rfl
  have hhp : s'.heap = H := by rw [hA]; exact hT
  have hW0 : s.WarmedH s'.vm := by rw [hvm]; exact State.WarmedH.refl s
  have hat' : ∀ w ∈ vx_atS own ic cls names, w.before args s' = true := fun w hw => vx_ot_at hW0 hvm.symm (hgood w (List.mem_cons_of_mem _ (List.mem_cons_of_mem _ hw))) (hat w hw)
  have hk' : (Cond.classLink own ik cls).before args s' = true := vx_ot_at hW0 hvm.symm (hgood _ List.mem_cons_self) hk
  have hini' : (Cond.initialized cls).before args s' = true := vx_ot_at hW0 hvm.symm (hgood _ (List.mem_cons_of_mem _ List.mem_cons_self)) hini
  have hU' : vx_Zq Bundle.tN "UNASSIGNED_STACK" Bundle.steD A s' s'.heap := by rw [hhp]; exact vx_Zq.moved hW0.alike (hU.kept hS.2.1)
  have hN' : vx_Zq Bundle.tN "SUPPRESSED_SENTINEL" Bundle.listD A s' s'.heap := by rw [hhp]; exact vx_Zq.moved hW0.alike (hN.kept hS.2.1)
  have h : ∀ w ∈ Bundle.ownAtoms own ic cls names, w.before args s' = true := vx_own hat' (vx_isRefq hU'.1) (vx_isRefq hN'.1) hU'.2.word hN'.2.word
  have hown' : s'.vm.findClass own = some m.cls := by rw [hvm]; exact hown
  have hins : (Cond.instantiable cls 6).before args s' = true := h _ (by simp [Bundle.ownAtoms])
  obtain ⟨vm₁, cX, kX, hfX, hkX, -, -, X₁, st1⟩ := Y.newCold hexec (own := own) (C := cls) (index := ik) (n := 6) hown' hk' hins hini'
    (g := F0 m pc ls rest) rfl (by rw [hb]; exact d0) (Nat.le_refl _) (Nat.le_refl _)
  generalize hT1 : (T.setVm vm₁).pushCell { cls := cX, slots := kX.instanceTypes.map defaultValue, vm := .none } = T1 at X₁ st1
  have hcat : (Value.ref T.heap.size).category = 1 := rfl
  have hcellA : T1.heap[T.heap.size]? = some (freshCell cX kX) := by rw [← hT1]; exact State.heap_pushCell_size _ _
  have d3' : decode c.code (pc + 3) = .ok (.dup, 1) := by rw [hb]; exact d3
  have d4' : decode c.code (pc + 4) = .ok (.ldc_w is, 3) := by rw [hb]; exact d4
  have hstr' : vk_R own is text sa s' := vk_R.warm hW0 hstr
  obtain ⟨U, hsteps, hrun, hend, hW, hsame, ce, hce, hO⟩ := X₁.ctorThrowS hexec htr (own := own) (cls := cls) (names := names) (ic := ic) hown' hcls hnames h (fun x hx => nomatch hx) hfX hkX hcellA (by rw [hhp, hT]; exact Nat.le_refl _) (msg := .ref sa) rfl
    (g := { method := m, pc := pc + 7, locals := ls, stack := .ref sa :: .ref T.heap.size :: .ref T.heap.size :: rest, locked := none }) rfl hsize rfl rfl (rest := rest) rfl
    (by rw [hb]; exact d7) (by rw [hb]; exact d10) hout hRframes (by simp only [List.map_cons, List.sum_cons, hcat]; omega) hlocks
  obtain ⟨f1, f2⟩ := vx_frame hsame
  rw [hhp] at f1 f2
  have hWs : s.WarmedH U.vm := State.WarmedH.trans hW0 hW
  have hcl : s.vm.findClass cls = some ce.cls := by
    have h9 := hO.cls
    rw [hvm] at h9
    exact h9
  have hall : s.sameButNew ({ U with vm := s.vm } : State) locs mc ms := by
    subst hA
    obtain ⟨e1, e2⟩ := hsame
    rw [State.setFrames_setFrames] at e1
    have h2 : (T.setVm s.vm).sameButNew ({ U with vm := s.vm } : State) [] (0 + 1) (0 + 6) := ⟨e1, e2⟩
    have h3 := X.same.trans h2
    rw [List.append_nil] at h3
    exact h3.mono hc hs
  refine ⟨U, ?_, .threw T.heap.size, hrun, hend, Or.inr ⟨T.heap.size, rfl, cls, ce, locs, hx U hWs.alike f1 (fun q hq => f2 q hq (fun z hz => nomatch hz)), hce, hO.vm, hcl, hWs, hall, hf⟩⟩
  refine st1 _ ?_
  show Steps p.tables e below (T1.setTop { method := m, pc := pc + 3, locals := ls, stack := .ref T.heap.size :: rest, locked := none }) _
  jvm_step X₁.here [X₁.here.top, hexec, d3', Value.category]
  exact X₁.ldcStringW hexec (own := own) (text := text) (index := is) (a := sa) hown' hstr'.1 hstr'.2
    (g := { method := m, pc := pc + 4, locals := ls, stack := .ref T.heap.size :: .ref T.heap.size :: rest, locked := none }) rfl d4' _ hsteps
end Ends
section Bodies
variable {l : Launch}
theorem vx_ofW {y : MethodName} {ws ws' : List Cond} {rm : Room} {Pc : Array Value → State → Prop} {Qc : Array Value → State → Outcome → State → Prop} {XC : String → State → State → Prop} {mc ms : Nat} {free : Addr → Prop} {cc : ByteArray} {maxL : Nat} {ret : Option FieldType}
    (hy : plainName y.cls = true) (hw : ws = Cond.code y cc maxL ret :: ws')
    (body : ∀ p e s m args below meth c s₁, BodyLoose p l y (headSpec ws rm) cc maxL ret e s m args below meth c s₁ → c.maxLocals = maxL → (∀ x ∈ c.exceptionTable.toList, False) → Pc args s →
      W p l e (headSpec ws rm).room s m args below meth c s.heap [] 0 0 (vx_MQ below Qc XC args s mc ms free) (entryFrame m args maxL)) : vx_Met l y ws rm Pc Qc XC mc ms free := by
  refine MetFree.of_bodyS (code := cc) (maxLocals := maxL) (ret := ret) hy ?_ ?_
  · intro args s m h hn
    obtain ⟨meth, c, h1, h2, h3, h4, h5, h6, -, -⟩ := Cond.code_spec hn (atoms_spec (ws := ws) h _ (by rw [hw]; exact List.mem_cons_self))
    exact ⟨meth, c, h1, h2, h3, h4, h5, h6⟩
  · intro p e s m args below meth c s₁ B hml hP _
    have hh0 : s₁.heap = s.heap := by rw [B.state]; rfl
    have ht : ∀ x ∈ c.exceptionTable.toList, False := by
      obtain ⟨meth9, c9, h1, h2, -, -, -, -, h7, -⟩ := Cond.code_spec B.named (atoms_spec (ws := ws) B.pre _ (by rw [hw]; exact List.mem_cons_self))
      cases Option.some.inj (h1.symm.trans B.method)
      cases Option.some.inj (h2.symm.trans (Stand.of_body B).code)
      intro x hx
      rw [Array.isEmpty_iff.mp h7] at hx
      cases hx
    obtain ⟨t, a1, o, b1, b2, b3⟩ := body p e s m args below meth c s₁ B hml ht hP s₁ hh0 (Stand.of_body B)
    exact ⟨t, o, a1, b1, b2, b3⟩
/-- the table of a body with handlers -/
theorem vx_table {p : Program} {x y : MethodName} {S : Spec} {cc bytes : ByteArray} {maxL maxL' : Nat} {ret ret' : Option FieldType} {e : Env} {s s₁ : State} {m : MethodId} {args : Array Value} {below : List Frame} {meth : Method} {c : Code} {hh : List (Nat × Nat × Nat × Nat)}
    (B : BodyLoose p l y S cc maxL ret e s m args below meth c s₁) (h : (Cond.codeWith y bytes maxL' ret' hh).before args s = true) : c.exceptionTable.toList = tableOf hh := by
  obtain ⟨m9, meth9, c9, hn9, h1, h2, -, -, h6, -⟩ := Cond.codeWith_spec h
  cases Option.some.inj (hn9.symm.trans B.named)
  cases Option.some.inj (h1.symm.trans B.method)
  cases Option.some.inj (h2.symm.trans (Stand.of_body B).code)
  rw [← h6, table_eq]
end Bodies
end VXA
/-! ===== END ===== -/
/-! ===== BEGIN a static call of a method with an exception table ===== -/
section VXS
variable {p : Program} {l : Launch} {e : Env} {R : Room} {s : State} {m : MethodId} {args : Array Value} {below : List Frame} {meth : Method} {c : Code} {T : State} {H : Heap} {locs : List Loc} {cells slots : Nat}
abbrev vx_CSW (R : Room) (s : State) (args : Array Value) (own : String) (index : Nat) (y : MethodName) (bytes : ByteArray) (maxL : Nat) (ret : Option FieldType) (hh : List (Nat × Nat × Nat × Nat)) (ws : List Cond) (rm : Room) (mc ms n : Nat) : Prop :=
  (rm.cells = mc ∧ rm.slots = ms ∧ rm.frames + 1 ≤ R.frames ∧ 8 + (maxL + 11) + rm.locals ≤ R.locals ∧ (∀ w ∈ ws, ∀ (a' : Array Value) (U : State), s.WarmedH U.vm → w.before a' U = true) ∧ Cond.codeWith y bytes maxL ret hh ∈ ws) ∧
  (Cond.codeWith y bytes maxL ret hh).before args s = true ∧ (Cond.initialized y.cls).before args s = true ∧ (y.cls ≠ "java/lang/invoke/MethodHandle" ∧ y.cls ≠ "java/lang/invoke/VarHandle") ∧
  (∀ sig, parseMethodDescriptor y.desc = some sig → n = sig.parameters.length) ∧ (Cond.methodLink own index y).before args s = true ∧ (Cond.static y).before args s = true
theorem vx_cwSW {own : String} {index maxL mc ms : Nat} {y : MethodName} {bytes : ByteArray} {ret : Option FieldType} {hh : List (Nat × Nat × Nat × Nat)} {Ts ws ws' : List Cond} {rm : Room} (n : Nat) (ht : ∀ w ∈ Ts, w.before args s = true) (hT : GoodIn Ts (va_wsS own index y ws)) (hw : ws = Cond.codeWith y bytes maxL ret hh :: ws') (hrc : rm.cells = mc) (hrs : rm.slots = ms)
    (hd : y.cls ≠ "java/lang/invoke/MethodHandle" ∧ y.cls ≠ "java/lang/invoke/VarHandle" ∧ (parseMethodDescriptor y.desc).map (fun d => d.parameters.length) = some n) (hR : rm.frames + 1 ≤ R.frames ∧ 8 + (maxL + 11) + rm.locals ≤ R.locals) :
    vx_CSW R s args own index y bytes maxL ret hh ws rm mc ms n := by
  have ok : ∀ w ∈ va_wsS own index y ws, w.before args s = true := fun w h => ht w (hT w h).1
  have hG : GoodIn Ts ws := fun w h => hT w (by unfold va_wsS; exact List.mem_append_right _ h)
  have hc : Cond.codeWith y bytes maxL ret hh ∈ ws := by rw [hw]; exact List.mem_cons_self
  refine ⟨⟨hrc, hrs, hR.1, hR.2, pay_in ht hG, hc⟩, ht _ (hG _ hc).1, ok _ (by simp [va_wsS]), ⟨hd.1, hd.2.1⟩, fun sig h => ?_, ok _ (by simp [va_wsS]), ok _ (by simp [va_wsS])⟩
  have h2 := hd.2.2
  rw [h] at h2
  exact (Option.some.inj h2).symm
theorem vx_callSW (X : Stand p l e R s m args below meth c T locs cells slots) (hexec : p.tables.exec = Jvm.exec) {own : String} {index : Nat} {y : MethodName} {bytes : ByteArray} {maxL : Nat} {ret : Option FieldType} {hh : List (Nat × Nat × Nat × Nat)}
    (hown : s.vm.findClass own = some m.cls) (hlink : (Cond.methodLink own index y).before args s = true) (hstat : (Cond.static y).before args s = true) (hinit : (Cond.initialized y.cls).before args s = true)
    (hcode : (Cond.codeWith y bytes maxL ret hh).before args s = true) (hy : y.cls ≠ "java/lang/invoke/MethodHandle" ∧ y.cls ≠ "java/lang/invoke/VarHandle")
    {W9 : Nat} {Pre : Pt → Array Value → Prop} {Post : Pt → Array Value → Option Value → Pt → Prop} (hK : Back l R p e below s args y 3 W9 Pre Post)
    {g : JFrame} (hg : g.method = m) (hsize : g.locals.size = c.maxLocals) {argsL rest : List Value} (hlen : ∀ sig, parseMethodDescriptor y.desc = some sig → argsL.length = sig.parameters.length)
    (hstack : g.stack = argsL.reverse ++ rest) (hW : 2 * g.monitorRoom + (rest.map fun v => v.category).sum ≤ W9) (hdg : decode c.code g.pc = .ok (.invokestatic index, 3))
    (hpre : ∀ vm₁, s.WarmedH vm₁ → Pre ⟨T.setVm vm₁, locs, cells, slots⟩ argsL.toArray) :
    ∃ (v : Option Value) (vm₁ : Vm) (B : Pt), s.WarmedH vm₁ ∧ Stand p l e R s m args below meth c B.U B.locs B.cells B.slots ∧ Post ⟨T.setVm vm₁, locs, cells, slots⟩ argsL.toArray v B ∧
      ∀ target, Steps p.tables e below (B.U.setTop { g with pc := g.pc + 3, stack := v.toList ++ rest }) target → Steps p.tables e below (T.setTop g) target := by
  obtain ⟨mk, methM, cM, hnamed, hmethM, -, -, -, -, -, -, hsigM⟩ := Cond.codeWith_spec hcode
  have hstatic : methM.isStatic = true := Cond.static_spec hnamed hmethM hstat
  obtain ⟨kP, hkP, -⟩ := className_of_methodNamed hnamed
  have hinitP : kP.init = .initialized := Cond.initialized_spec (findClass_of_methodNamed hnamed) hkP hinit
  obtain ⟨vm₁, X₁, hstep₁⟩ := X.invokestatic hexec hown hlink hnamed hmethM hstatic hkP hinitP hy (g := g) hg (argsL := argsL) (rest := rest) (hlen _ hsigM) hstack hdg
  obtain ⟨v, B, X', hpost, hsteps⟩ := hK m meth c ⟨T.setVm vm₁, locs, cells, slots⟩ { g with stack := rest } (.invokestatic index) mk argsL.toArray X₁ hg hsize hdg hW (X₁.named hnamed) (hpre vm₁ X₁.warmed)
  exact ⟨v, vm₁, B, X₁.warmed, X', hpost, fun target h => hstep₁ _ fun acts => by rw [doInvoke_state]; exact hsteps.trans h⟩
theorem vx_runSW {y : MethodName} {bytes cc : ByteArray} {maxL nL mc ms n index : Nat} {ret : Option FieldType} {hh : List (Nat × Nat × Nat × Nat)} {ws : List Cond} {rm : Room} {Pc : Array Value → State → Prop} {Qc : Array Value → State → Outcome → State → Prop} {free : Addr → Prop} {Ts : List Cond} {own : String} {As rest : List Value} {g : JFrame}
    (S : CallFix p m c cc nL s args Ts own) (hM : Met l y ws rm Pc Qc mc ms free) (cw : vx_CSW R s args own index y bytes maxL ret hh ws rm mc ms n) (hp : PreS s H Pc As)
    (hg : g.method = m) (hn : As.length = n) (hsize : g.locals.size = nL) (hstack : g.stack = As.reverse ++ rest) (hW : 2 * g.monitorRoom + (rest.map fun v => v.category).sum ≤ 8) (hdg : decode cc g.pc = .ok (.invokestatic index, 3)) (hf : cells + mc ≤ R.cells ∧ slots + ms ≤ R.slots) :
    va_Run p l e R s m args below meth c H locs cells slots mc ms g rest (Qc As.toArray) (free) := by
  obtain ⟨⟨hrc, hrs, hfr, hlo, hws, hcw⟩, hcode, hini, hy, hlen, hl, hstt⟩ := cw
  have hK : Back l R p e below s args y 3 8 (PreOf R mc ms Pc) (PostOf Qc mc ms free) := va_backW (hh := hh) (bytes := bytes) (maxL := maxL) (ret := ret) hM hp.1 hrc hrs hfr hlo hws hcw (fun a' U hW => word_at hW (Or.inl (by first | rfl | simp [Cond.onTables, Cond.keeps, Cond.steady])) hini)
  obtain ⟨hx, hb, hml, ho, -⟩ := S
  intro T hT X
  obtain ⟨v, vm₁, ⟨U', l2, c2, s2⟩, hW₁, X', ⟨g', mk, t, L, e1, e2, hq, h1, hL, h2, h3⟩, st⟩ := vx_callSW X hx (hh := hh) (bytes := bytes) (maxL := maxL) (ret := ret) ho hl hstt hini hcode hy hK hg (hsize.trans hml.symm) (argsL := As) (rest := rest) (fun sig h => hn.trans (hlen sig h)) hstack hW (by rw [hb]; exact hdg)
    (fun vm₁ hW₁ => ⟨hf.1, hf.2, hp.2 (T.setVm vm₁) hT hW₁⟩)
  dsimp only [Pt.U, Pt.locs, Pt.cells, Pt.slots] at X' e1 e2 h1 h2 h3 st
  subst h1; subst h2; subst h3
  exact ⟨v, (T.setVm vm₁).calling g' mk As.toArray, t, U', L, hT, X', hL, e1, e2, hq, st⟩
/-- not caught here, past rows that name other classes: it goes on to the caller -/
theorem vx_outP {p : Program} {l : Launch} {e : Env} {R : Room} {s : State} {m : MethodId} {args : Array Value} {below : List Frame} {meth : Method} {c : Code} {H : Heap} {locs : List Loc} {cells slots : Nat} {free : Addr → Prop} {ls : Array Slot} {rest : List Value} {Qc : Array Value → State → Outcome → State → Prop} {XC : String → State → State → Prop}
    {pc : Nat} {own E : String} {ce : Cell} {q : Addr} {mc ms : Nat} (hown : s.vm.findClass own = some m.cls) (hlocks : meth.locks = false)
    (hpass : ∀ z ∈ c.exceptionTable.toList, covers z pc = false ∨ (z.catchType ≠ 0 ∧ ∃ nm : String, (Cond.classLink own z.catchType nm).before args s = true ∧ va_Nc E nm s)) (hcell : H[q]? = some ce) (hv : ce.vm = .none) (hcl : s.vm.findClass E = some ce.cls)
    (hx : ∀ t : State, t.heap = H → s.vm.Alike t.vm → XC E s t) (hf : ∀ z ∈ locs, free z.base) (hc : cells ≤ mc) (hs : slots ≤ ms) :
    vx_W p l e R s m args below meth c H locs cells slots (vx_MQ below Qc XC args s mc ms free) (F0 m pc ls rest) q := by
  intro T hT X
  have hpl : e.platform.magicAccessors = ({} : Platform).magicAccessors := by rw [X.admits.platform]
  obtain ⟨vm', hW', X', st⟩ := X.outThrough hlocks q (g := F0 m pc ls rest) rfl rfl rfl (cell := ce) (by rw [hT]; exact hcell) (by rw [hv]; rfl)
    (by obtain ⟨k9, h9, -⟩ := Vm.findClass_spec hcl; exact ⟨k9, h9⟩) (fun z hz => by
      rcases hpass z hz with h | ⟨hz0, nm, hl1, hn1⟩
      · exact Or.inl h
      · obtain ⟨c6, hc6, hcl6⟩ := Cond.classLink_spec hown hl1 e.platform hpl
        obtain ⟨a8, b8, h1, h2, h3⟩ := hn1
        cases Option.some.inj (h1.symm.trans hcl)
        cases Option.some.inj (h2.symm.trans hc6)
        exact Or.inr ⟨hz0, _, hcl6, h3⟩)
  obtain ⟨g₀, hfr⟩ := X'.frames_eq
  have hcell9 : ((T.setVm vm').setFrames (.throwing q :: below)).heap[q]? = some ce := by
    show T.heap[q]? = some ce
    rw [hT]; exact hcell
  have hend : Ended ((T.setVm vm').setFrames (.throwing q :: below)) below (.threw q) := State.frames_setFrames _ (State.cur_lt_of_frames hfr)
  refine ⟨(T.setVm vm').setFrames (.throwing q :: below), ?_, .threw q, X'.here.running, hend, Or.inr ⟨q, rfl, E, ce, locs, hx _ hT (X'.ends _).1.alike, hcell9, hv, hcl, (X'.ends _).1, (X'.ends _).2.mono hc hs, hf⟩⟩
  rw [X.pushThrowing_eq]
  exact st
/-- a thing of a world lies in the heap -/
theorem vx_lt {D : va_G} {cl : List vw_C} {ws : va_W} {H1 : Heap} (h : va_P D cl ws H1) {k : Nat} {q : Nat × va_E} (hk : ws[k]? = some q) : q.1 < H1.size := (h k q hk).lt
end VXS
/-! ===== END ===== -/
/-! ===== BEGIN methods with a table of their own: called by a name, returning or throwing ===== -/
section VXH
/-! vx_backW, vx_callVX, vx_callSX, vx_callVW, vx_runVW, vx_runVX, vx_runSX, vx_ofWH follow the same proofs as their sisters above (Free/Laws.lean, Shelf42/LK1.lean); vx_outP calls Shelf42/NT130.lean (outThrough). -/
section
variable {l : Launch} {R : Room} {p : Program} {e : Env} {below : List Frame} {s : State} {sargs : Array Value} {y : MethodName} {len W9 : Nat}
theorem vx_backW {ws : List Cond} {rm : Room} {Pc : Array Value → State → Prop} {Qc : Array Value → State → Outcome → State → Prop} {XC : String → State → State → Prop} {mc ms : Nat} {free : Addr → Prop} {bytes : ByteArray} {maxL : Nat} {ret : Option FieldType} {hh : List (Nat × Nat × Nat × Nat)}
    (hM : vx_Met l y ws rm Pc Qc XC mc ms free) (hblind : FrameBlind Pc) (hrc : rm.cells = mc) (hrs : rm.slots = ms)
    (hframes : rm.frames + 1 ≤ R.frames) (hlocals : W9 + (maxL + 11) + rm.locals ≤ R.locals)
    (hws : ∀ w ∈ ws, ∀ a' U, s.WarmedH U.vm → w.before a' U = true) (hcode : Cond.codeWith y bytes maxL ret hh ∈ ws) (hinit : ∀ a' U, s.WarmedH U.vm → (Cond.initialized y.cls).before a' U = true) :
    vx_Back l R p e below s sargs y len W9 (PreOf R mc ms Pc) (PostOf Qc mc ms free) (vx_Post XC mc ms free) := by
  intro m meth c A g ig mk a X hg hsize hdg hW hn hp
  have h1 : (headSpec ws rm).pre.before a A.U = true := atoms_intro fun w hw => hws w hw _ _ X.warmed
  have h2 : (Cond.codeWith y bytes maxL ret hh).before a A.U = true := hws _ hcode _ _ X.warmed
  have h3 : (Cond.initialized y.cls).before a A.U = true := hinit _ _ X.warmed
  have h4 : A.cells + (headSpec ws rm).room.cells ≤ R.cells := by rw [show (headSpec ws rm).room.cells = mc from hrc]; exact hp.1
  have h5 : A.slots + (headSpec ws rm).room.slots ≤ R.slots := by rw [show (headSpec ws rm).room.slots = ms from hrs]; exact hp.2.1
  have hPc : Pc a (A.U.calling g mk a) := hblind _ _ _ _ hp.2.2
  obtain ⟨U, Ls, c0, s0⟩ := A
  dsimp only [Pt.U, Pt.locs, Pt.cells, Pt.slots] at h1 h2 h3 h4 h5 X hn hPc ⊢
  obtain ⟨m9, methY, cY, hn9, hmY, hcY, -, hlY, -⟩ := Cond.codeWith_spec h2
  cases Option.some.inj (hn9.symm.trans hn)
  obtain ⟨kY, hkY, -⟩ := className_of_methodNamed hn
  have hinitY : kY.init = .initialized := Cond.initialized_spec (findClass_of_methodNamed hn) hkY h3
  have h : At U g.method c below := by rw [hg]; exact X.here
  have hlocals9 : W9 + (maxL + 11) + (headSpec ws rm).room.locals ≤ R.locals := hlocals
  have happ : (headSpec ws rm).appliesLoose y e.platform (U.calling g mk a) = true :=
    Spec.appliesLoose_calling (g := g) h hdg hn hkY hinitY
      (X.room_calling (g := g) (R' := (headSpec ws rm).room) hsize hmY hcY hframes (by rw [hlY]; omega) h4 h5) h1
  obtain ⟨mid, hmid⟩ := h.above
  have hfr : (U.setTop g).frames = (.java g :: mid) ++ below := by rw [State.frames_setTop' g h.top, hmid]; rfl
  obtain ⟨o, s₂, hsteps, -, hend, hq⟩ := Steps.callFree hM p X.admits X.cas X.clock (acts := []) hfr happ hPc trivial
  have hq' : vx_Q Qc XC mc ms free a (U.calling g mk a) o s₂ := hq
  rw [State.frames_setTop' g h.top] at hend
  obtain ⟨g₀, hg0⟩ := Option.isSome_iff_exists.mp h.top
  obtain ⟨r, hr⟩ := State.topJava?_eq_some.mp hg0
  have hr' : (({ U with heap := s₂.heap, slotsUsed := s₂.slotsUsed } : State).setVm s₂.vm).frames = .java g₀ :: r := hr
  rcases hq' with ⟨hqc, L, hfe, hL⟩ | ⟨q, rfl, E, ce, L, hx, hce, hcv, hcl, hW₂, hsm, hL⟩
  · obtain ⟨⟨v, rfl⟩, hW₂, e2, q2, q3, q4, q5, q6⟩ := id hfe
    have e3 : s₂ = ({ (U.calling g mk a).setFrames s₂.frames with heap := s₂.heap, slotsUsed := s₂.slotsUsed } : State).setVm s₂.vm := by
      have : s₂ = ({ s₂ with vm := (U.calling g mk a).vm } : State).setVm s₂.vm := rfl
      rw [e2] at this
      exact this
    obtain ⟨c₂, i₂, len₂, hc₂, hd₂, hf₂⟩ := hend
    have hW' : U.WarmedH s₂.vm := hW₂
    have hcc : c₂ = c := by
      have h1 : s₂.code? g.method = U.code? g.method := by
        rw [State.code?_eq, State.code?_eq, hW'.alike.method?]
      exact Option.some.inj (hc₂.symm.trans (h1.trans h.code))
    subst hcc
    have hlen : len₂ = len := by rw [hdg] at hd₂; cases hd₂; rfl
    subst hlen
    have hs₂ : s₂ = (({ U with heap := s₂.heap, slotsUsed := s₂.slotsUsed } : State).setVm s₂.vm).setTop { g with pc := g.pc + len₂, stack := v.toList ++ g.stack } := by
      refine e3.trans ?_
      rw [hf₂, State.calling_eq h.top, State.setFrames_setFrames, State.setTop_of_frames _ hr', hr]
      rfl
    have hsame : U.sameButNew ({ U with heap := s₂.heap, slotsUsed := s₂.slotsUsed } : State) L mc ms := by
      refine ⟨?_, q2, q3, q4, q5, q6⟩
      obtain ⟨t, ht, -⟩ := State.frames_cons hr
      show ({ U with heap := s₂.heap, slotsUsed := s₂.slotsUsed } : State) = { U.setFrames U.frames with heap := s₂.heap, slotsUsed := s₂.slotsUsed }
      rw [State.setFrames_self ht]
    subst hg
    refine Or.inl ⟨v, ⟨(({ U with heap := s₂.heap, slotsUsed := s₂.slotsUsed } : State).setVm s₂.vm), Ls ++ L, c0 + mc, s0 + ms⟩,
      ⟨X.admits, X.cas, X.clock, X.frames, X.room, X.hears, X.method, X.code, (X.here.setHeapUsed s₂.heap s₂.slotsUsed).setVm hW'.alike, X.tail, State.WarmedH.trans X.warmed hW', X.limits, X.bytes, X.same.trans (hsame.setVm s.vm)⟩,
      ⟨g, mk, s₂, L, rfl, rfl, hqc, rfl, hL, rfl, rfl⟩, ?_⟩
    show Steps p.tables e below _ ((({ U with heap := s₂.heap, slotsUsed := s₂.slotsUsed } : State).setVm s₂.vm).setTop { g with pc := g.pc + len₂, stack := v.toList ++ g.stack })
    rw [← hs₂]
    exact hsteps
  · obtain ⟨e2, q2, q3, q4, q5, q6⟩ := id hsm
    have e3 : s₂ = ({ (U.calling g mk a).setFrames s₂.frames with heap := s₂.heap, slotsUsed := s₂.slotsUsed } : State).setVm s₂.vm := by
      have : s₂ = ({ s₂ with vm := (U.calling g mk a).vm } : State).setVm s₂.vm := rfl
      rw [e2] at this
      exact this
    have hf₂ : s₂.frames = .throwing q :: .java g :: U.frames.tail := hend
    have hW' : U.WarmedH s₂.vm := hW₂
    have hs₂ : s₂ = ((({ U with heap := s₂.heap, slotsUsed := s₂.slotsUsed } : State).setVm s₂.vm).setTop g).pushFrame (.throwing q) := by
      refine e3.trans ?_
      rw [hf₂, State.calling_eq h.top, State.setFrames_setFrames, State.pushFrame, State.frames_setTop _ hr', State.setTop_of_frames _ hr', State.setFrames_setFrames, hr]
      rfl
    have hsame : U.sameButNew ({ U with heap := s₂.heap, slotsUsed := s₂.slotsUsed } : State) L mc ms := by
      refine ⟨?_, q2, q3, q4, q5, q6⟩
      obtain ⟨t, ht, -⟩ := State.frames_cons hr
      show ({ U with heap := s₂.heap, slotsUsed := s₂.slotsUsed } : State) = { U.setFrames U.frames with heap := s₂.heap, slotsUsed := s₂.slotsUsed }
      rw [State.setFrames_self ht]
    subst hg
    refine Or.inr ⟨q, ⟨(({ U with heap := s₂.heap, slotsUsed := s₂.slotsUsed } : State).setVm s₂.vm), Ls ++ L, c0 + mc, s0 + ms⟩,
      ⟨X.admits, X.cas, X.clock, X.frames, X.room, X.hears, X.method, X.code, (X.here.setHeapUsed s₂.heap s₂.slotsUsed).setVm hW'.alike, X.tail, State.WarmedH.trans X.warmed hW', X.limits, X.bytes, X.same.trans (hsame.setVm s.vm)⟩,
      ⟨g, mk, s₂, L, E, ce, rfl, rfl, hx, hce, hcv, hcl, rfl, hL, rfl, rfl⟩, ?_⟩
    show Steps p.tables e below _ (((({ U with heap := s₂.heap, slotsUsed := s₂.slotsUsed } : State).setVm s₂.vm).setTop g).pushFrame (.throwing q))
    rw [← hs₂]
    exact hsteps
end
variable {p : Program} {l : Launch} {e : Env} {R : Room} {s : State} {m : MethodId} {args : Array Value} {below : List Frame} {meth : Method} {c : Code} {T : State} {H : Heap} {locs : List Loc} {cells slots : Nat}
theorem vx_callVX (X : Stand p l e R s m args below meth c T locs cells slots) (hexec : p.tables.exec = Jvm.exec) {own C : String} {index : Nat} {y : MethodName} {bytes : ByteArray} {maxL : Nat} {ret : Option FieldType} {hh : List (Nat × Nat × Nat × Nat)}
    (hown : s.vm.findClass own = some m.cls) (hlink : (Cond.methodLink own index y).before args s = true) (hinst : (Cond.instanceMethod y).before args s = true) (hsel : (Cond.selects C y y).before args s = true)
    (hcode : (Cond.codeWith y bytes maxL ret hh).before args s = true) (hy : y.cls ≠ "java/lang/invoke/MethodHandle" ∧ y.cls ≠ "java/lang/invoke/VarHandle")
    {W9 : Nat} {Pre : Pt → Array Value → Prop} {Post : Pt → Array Value → Option Value → Pt → Prop} {PostX : Pt → Array Value → Addr → Pt → Prop} (hK : vx_Back l R p e below s args y 3 W9 Pre Post PostX)
    {b : Addr} {cellB : Cell} (hcell : T.heap[b]? = some cellB) (hobj : cellB.vm.isStatics = false) (hcls : s.vm.findClass C = some cellB.cls)
    {g : JFrame} (hg : g.method = m) (hsize : g.locals.size = c.maxLocals) {argsL rest : List Value} (hlen : ∀ sig, parseMethodDescriptor y.desc = some sig → argsL.length = sig.parameters.length)
    (hstack : g.stack = argsL.reverse ++ .ref b :: rest) (hW : 2 * g.monitorRoom + (rest.map fun v => v.category).sum ≤ W9) (hdg : decode c.code g.pc = .ok (.invokevirtual index, 3))
    (hpre : ∀ vm₁, s.WarmedH vm₁ → Pre ⟨T.setVm vm₁, locs, cells, slots⟩ (Value.ref b :: argsL).toArray) :
    (∃ (v : Option Value) (vm₁ : Vm) (B : Pt), s.WarmedH vm₁ ∧ Stand p l e R s m args below meth c B.U B.locs B.cells B.slots ∧ Post ⟨T.setVm vm₁, locs, cells, slots⟩ (Value.ref b :: argsL).toArray v B ∧
      ∀ target, Steps p.tables e below (B.U.setTop { g with pc := g.pc + 3, stack := v.toList ++ rest }) target → Steps p.tables e below (T.setTop g) target) ∨
    (∃ (q : Addr) (vm₁ : Vm) (B : Pt), s.WarmedH vm₁ ∧ Stand p l e R s m args below meth c B.U B.locs B.cells B.slots ∧ PostX ⟨T.setVm vm₁, locs, cells, slots⟩ (Value.ref b :: argsL).toArray q B ∧
      Steps p.tables e below (T.setTop g) ((B.U.setTop { g with stack := rest }).pushFrame (.throwing q))) := by
  obtain ⟨mk, methM, hnamed, hmethM, hstM, habM⟩ := Cond.instanceMethod_spec hinst
  obtain ⟨m8, methM', cM, hn8, hmethM', -, -, -, -, -, -, hsigM⟩ := Cond.codeWith_spec hcode
  cases Option.some.inj (hn8.symm.trans hnamed)
  cases hmethM.symm.trans hmethM'
  obtain ⟨c2, r2, m2, q1, q2, q3, q4, kP, hkP, hkPi⟩ := Cond.selects_spec hsel
  cases hcls.symm.trans q1
  cases (State.methodFound?_of_named hnamed hy).symm.trans q2
  cases hnamed.symm.trans q3
  have hselP : selectMethod e.platform s.vm cellB.cls mk = .method mk := by rw [Launch.admits_selectMethod X.admits]; exact q4
  obtain ⟨vm₁, X₁, hstep₁⟩ := X.invokevirtual hexec hown hlink hnamed hmethM hstM hkP hkPi hy (a := b) (cell := cellB) hcell
    (fun z h => by rw [h] at hobj; cases hobj) hselP hmethM habM hkP hkPi (g := g) hg (argsL := argsL) (rest := rest) (hlen _ hsigM) hstack hdg
  rcases hK m meth c ⟨T.setVm vm₁, locs, cells, slots⟩ { g with stack := rest } (.invokevirtual index) mk (Value.ref b :: argsL).toArray X₁ hg hsize hdg hW (X₁.named hnamed) (hpre vm₁ X₁.warmed) with ⟨v, B, X', hpost, hsteps⟩ | ⟨q, B, X', hpost, hsteps⟩
  · exact Or.inl ⟨v, vm₁, B, X₁.warmed, X', hpost, fun target h => hstep₁ _ fun acts => by rw [doInvoke_state]; exact hsteps.trans h⟩
  · exact Or.inr ⟨q, vm₁, B, X₁.warmed, X', hpost, hstep₁ _ fun acts => by rw [doInvoke_state]; exact hsteps⟩
theorem vx_callSX (X : Stand p l e R s m args below meth c T locs cells slots) (hexec : p.tables.exec = Jvm.exec) {own : String} {index : Nat} {y : MethodName} {bytes : ByteArray} {maxL : Nat} {ret : Option FieldType} {hh : List (Nat × Nat × Nat × Nat)}
    (hown : s.vm.findClass own = some m.cls) (hlink : (Cond.methodLink own index y).before args s = true) (hstat : (Cond.static y).before args s = true) (hinit : (Cond.initialized y.cls).before args s = true)
    (hcode : (Cond.codeWith y bytes maxL ret hh).before args s = true) (hy : y.cls ≠ "java/lang/invoke/MethodHandle" ∧ y.cls ≠ "java/lang/invoke/VarHandle")
    {W9 : Nat} {Pre : Pt → Array Value → Prop} {Post : Pt → Array Value → Option Value → Pt → Prop} {PostX : Pt → Array Value → Addr → Pt → Prop} (hK : vx_Back l R p e below s args y 3 W9 Pre Post PostX)
    {g : JFrame} (hg : g.method = m) (hsize : g.locals.size = c.maxLocals) {argsL rest : List Value} (hlen : ∀ sig, parseMethodDescriptor y.desc = some sig → argsL.length = sig.parameters.length)
    (hstack : g.stack = argsL.reverse ++ rest) (hW : 2 * g.monitorRoom + (rest.map fun v => v.category).sum ≤ W9) (hdg : decode c.code g.pc = .ok (.invokestatic index, 3))
    (hpre : ∀ vm₁, s.WarmedH vm₁ → Pre ⟨T.setVm vm₁, locs, cells, slots⟩ argsL.toArray) :
    (∃ (v : Option Value) (vm₁ : Vm) (B : Pt), s.WarmedH vm₁ ∧ Stand p l e R s m args below meth c B.U B.locs B.cells B.slots ∧ Post ⟨T.setVm vm₁, locs, cells, slots⟩ argsL.toArray v B ∧
      ∀ target, Steps p.tables e below (B.U.setTop { g with pc := g.pc + 3, stack := v.toList ++ rest }) target → Steps p.tables e below (T.setTop g) target) ∨
    (∃ (q : Addr) (vm₁ : Vm) (B : Pt), s.WarmedH vm₁ ∧ Stand p l e R s m args below meth c B.U B.locs B.cells B.slots ∧ PostX ⟨T.setVm vm₁, locs, cells, slots⟩ argsL.toArray q B ∧
      Steps p.tables e below (T.setTop g) ((B.U.setTop { g with stack := rest }).pushFrame (.throwing q))) := by
  obtain ⟨mk, methM, cM, hnamed, hmethM, -, -, -, -, -, -, hsigM⟩ := Cond.codeWith_spec hcode
  have hstatic : methM.isStatic = true := Cond.static_spec hnamed hmethM hstat
  obtain ⟨kP, hkP, -⟩ := className_of_methodNamed hnamed
  have hinitP : kP.init = .initialized := Cond.initialized_spec (findClass_of_methodNamed hnamed) hkP hinit
  obtain ⟨vm₁, X₁, hstep₁⟩ := X.invokestatic hexec hown hlink hnamed hmethM hstatic hkP hinitP hy (g := g) hg (argsL := argsL) (rest := rest) (hlen _ hsigM) hstack hdg
  rcases hK m meth c ⟨T.setVm vm₁, locs, cells, slots⟩ { g with stack := rest } (.invokestatic index) mk argsL.toArray X₁ hg hsize hdg hW (X₁.named hnamed) (hpre vm₁ X₁.warmed) with ⟨v, B, X', hpost, hsteps⟩ | ⟨q, B, X', hpost, hsteps⟩
  · exact Or.inl ⟨v, vm₁, B, X₁.warmed, X', hpost, fun target h => hstep₁ _ fun acts => by rw [doInvoke_state]; exact hsteps.trans h⟩
  · exact Or.inr ⟨q, vm₁, B, X₁.warmed, X', hpost, hstep₁ _ fun acts => by rw [doInvoke_state]; exact hsteps⟩
theorem vx_callVW (X : Stand p l e R s m args below meth c T locs cells slots) (hexec : p.tables.exec = Jvm.exec) {own C : String} {index : Nat} {y : MethodName} {bytes : ByteArray} {maxL : Nat} {ret : Option FieldType} {hh : List (Nat × Nat × Nat × Nat)}
    (hown : s.vm.findClass own = some m.cls) (hlink : (Cond.methodLink own index y).before args s = true) (hinst : (Cond.instanceMethod y).before args s = true) (hsel : (Cond.selects C y y).before args s = true)
    (hcode : (Cond.codeWith y bytes maxL ret hh).before args s = true) (hy : y.cls ≠ "java/lang/invoke/MethodHandle" ∧ y.cls ≠ "java/lang/invoke/VarHandle")
    {W9 : Nat} {Pre : Pt → Array Value → Prop} {Post : Pt → Array Value → Option Value → Pt → Prop} (hK : Back l R p e below s args y 3 W9 Pre Post)
    {b : Addr} {cellB : Cell} (hcell : T.heap[b]? = some cellB) (hobj : cellB.vm.isStatics = false) (hcls : s.vm.findClass C = some cellB.cls)
    {g : JFrame} (hg : g.method = m) (hsize : g.locals.size = c.maxLocals) {argsL rest : List Value} (hlen : ∀ sig, parseMethodDescriptor y.desc = some sig → argsL.length = sig.parameters.length)
    (hstack : g.stack = argsL.reverse ++ .ref b :: rest) (hW : 2 * g.monitorRoom + (rest.map fun v => v.category).sum ≤ W9) (hdg : decode c.code g.pc = .ok (.invokevirtual index, 3))
    (hpre : ∀ vm₁, s.WarmedH vm₁ → Pre ⟨T.setVm vm₁, locs, cells, slots⟩ (Value.ref b :: argsL).toArray) :
    ∃ (v : Option Value) (vm₁ : Vm) (B : Pt), s.WarmedH vm₁ ∧ Stand p l e R s m args below meth c B.U B.locs B.cells B.slots ∧ Post ⟨T.setVm vm₁, locs, cells, slots⟩ (Value.ref b :: argsL).toArray v B ∧
      ∀ target, Steps p.tables e below (B.U.setTop { g with pc := g.pc + 3, stack := v.toList ++ rest }) target → Steps p.tables e below (T.setTop g) target := by
  obtain ⟨mk, methM, hnamed, hmethM, hstM, habM⟩ := Cond.instanceMethod_spec hinst
  obtain ⟨m8, methM', cM, hn8, hmethM', -, -, -, -, -, -, hsigM⟩ := Cond.codeWith_spec hcode
  cases Option.some.inj (hn8.symm.trans hnamed)
  cases hmethM.symm.trans hmethM'
  obtain ⟨c2, r2, m2, q1, q2, q3, q4, kP, hkP, hkPi⟩ := Cond.selects_spec hsel
  cases hcls.symm.trans q1
  cases (State.methodFound?_of_named hnamed hy).symm.trans q2
  cases hnamed.symm.trans q3
  have hselP : selectMethod e.platform s.vm cellB.cls mk = .method mk := by rw [Launch.admits_selectMethod X.admits]; exact q4
  obtain ⟨vm₁, X₁, hstep₁⟩ := X.invokevirtual hexec hown hlink hnamed hmethM hstM hkP hkPi hy (a := b) (cell := cellB) hcell
    (fun z h => by rw [h] at hobj; cases hobj) hselP hmethM habM hkP hkPi (g := g) hg (argsL := argsL) (rest := rest) (hlen _ hsigM) hstack hdg
  obtain ⟨v, B, X', hpost, hsteps⟩ := hK m meth c ⟨T.setVm vm₁, locs, cells, slots⟩ { g with stack := rest } (.invokevirtual index) mk (Value.ref b :: argsL).toArray X₁ hg hsize hdg hW (X₁.named hnamed) (hpre vm₁ X₁.warmed)
  exact ⟨v, vm₁, B, X₁.warmed, X', hpost, fun target h => hstep₁ _ fun acts => by rw [doInvoke_state]; exact hsteps.trans h⟩
abbrev vx_CVW (R : Room) (s : State) (args : Array Value) (own C : String) (index : Nat) (y : MethodName) (bytes : ByteArray) (maxL : Nat) (ret : Option FieldType) (hh : List (Nat × Nat × Nat × Nat)) (ws : List Cond) (rm : Room) (mc ms n : Nat) : Prop :=
  (rm.cells = mc ∧ rm.slots = ms ∧ rm.frames + 1 ≤ R.frames ∧ 8 + (maxL + 11) + rm.locals ≤ R.locals ∧ (∀ w ∈ ws, ∀ (a' : Array Value) (U : State), s.WarmedH U.vm → w.before a' U = true) ∧ Cond.codeWith y bytes maxL ret hh ∈ ws) ∧
  (Cond.codeWith y bytes maxL ret hh).before args s = true ∧ (Cond.initialized y.cls).before args s = true ∧ (y.cls ≠ "java/lang/invoke/MethodHandle" ∧ y.cls ≠ "java/lang/invoke/VarHandle") ∧
  (∀ sig, parseMethodDescriptor y.desc = some sig → n = sig.parameters.length) ∧ (Cond.methodLink own index y).before args s = true ∧ (Cond.instanceMethod y).before args s = true ∧ (Cond.selects C y y).before args s = true
theorem vx_cwVW {own C : String} {index maxL mc ms : Nat} {y : MethodName} {bytes : ByteArray} {ret : Option FieldType} {hh : List (Nat × Nat × Nat × Nat)} {Ts ws ws' : List Cond} {rm : Room} (n : Nat) (ht : ∀ w ∈ Ts, w.before args s = true) (hT : GoodIn Ts (wsV own index C y ws)) (hw : ws = Cond.codeWith y bytes maxL ret hh :: ws') (hrc : rm.cells = mc) (hrs : rm.slots = ms)
    (hd : y.cls = C ∧ y.cls ≠ "java/lang/invoke/MethodHandle" ∧ y.cls ≠ "java/lang/invoke/VarHandle" ∧ (parseMethodDescriptor y.desc).map (fun d => d.parameters.length) = some n) (hR : rm.frames + 1 ≤ R.frames ∧ 8 + (maxL + 11) + rm.locals ≤ R.locals) :
    vx_CVW R s args own C index y bytes maxL ret hh ws rm mc ms n := by
  obtain ⟨hC, hd⟩ := hd
  subst hC
  have ok : ∀ w ∈ wsV own index y.cls y ws, w.before args s = true := fun w h => ht w (hT w h).1
  have hG : GoodIn Ts ws := fun w h => hT w (by unfold wsV; exact List.mem_append_right _ h)
  have hc : Cond.codeWith y bytes maxL ret hh ∈ ws := by rw [hw]; exact List.mem_cons_self
  refine ⟨⟨hrc, hrs, hR.1, hR.2, pay_in ht hG, hc⟩, ht _ (hG _ hc).1, ok _ (by simp [wsV]), ⟨hd.1, hd.2.1⟩, fun sig h => ?_, ok _ (by simp [wsV]), ok _ (by simp [wsV]), ok _ (by simp [wsV])⟩
  have h2 := hd.2.2
  rw [h] at h2
  exact (Option.some.inj h2).symm
theorem vx_runVW {y : MethodName} {bytes cc : ByteArray} {maxL nL mc ms n index : Nat} {ret : Option FieldType} {hh : List (Nat × Nat × Nat × Nat)} {ws : List Cond} {rm : Room} {Pc : Array Value → State → Prop} {Qc : Array Value → State → Outcome → State → Prop} {free : Addr → Prop} {Ts : List Cond} {own C : String} {b : Addr} {As rest : List Value} {g : JFrame}
    (S : CallFix p m c cc nL s args Ts own) (hM : Met l y ws rm Pc Qc mc ms free) (cw : vx_CVW R s args own C index y bytes maxL ret hh ws rm mc ms n) (hp : PreV s H C b Pc As)
    (hg : g.method = m) (hn : As.length = n) (hsize : g.locals.size = nL) (hstack : g.stack = As.reverse ++ .ref b :: rest) (hW : 2 * g.monitorRoom + (rest.map fun v => v.category).sum ≤ 8) (hdg : decode cc g.pc = .ok (.invokevirtual index, 3)) (hf : cells + mc ≤ R.cells ∧ slots + ms ≤ R.slots) :
    va_Run p l e R s m args below meth c H locs cells slots mc ms g rest (Qc (Value.ref b :: As).toArray) free := by
  obtain ⟨⟨hrc, hrs, hfr, hlo, hws, hcw⟩, hcode, hini, hy, hlen, hl, hin, hse⟩ := cw
  have hK : Back l R p e below s args y 3 8 (PreOf R mc ms Pc) (PostOf Qc mc ms free) := va_backW (hh := hh) (bytes := bytes) (maxL := maxL) (ret := ret) hM hp.1 hrc hrs hfr hlo hws hcw (fun a' U hW => word_at hW (Or.inl (by first | rfl | simp [Cond.onTables, Cond.keeps, Cond.steady])) hini)
  obtain ⟨hx, hb, hml, ho, -⟩ := S
  obtain ⟨-, ⟨cellB, hcB, hoB, hclB⟩, hPc⟩ := hp
  intro T hT X
  obtain ⟨v, vm₁, ⟨U', l2, c2, s2⟩, hW₁, X', ⟨g', mk, t, L, e1, e2, hq, h1, hL, h2, h3⟩, st⟩ := vx_callVW X hx (C := C) (hh := hh) (bytes := bytes) (maxL := maxL) (ret := ret) ho hl hin hse hcode hy hK (by rw [hT]; exact hcB) hoB hclB hg (hsize.trans hml.symm) (argsL := As) (rest := rest) (fun sig h => hn.trans (hlen sig h)) hstack hW (by rw [hb]; exact hdg)
    (fun vm₁ hW₁ => ⟨hf.1, hf.2, hPc (T.setVm vm₁) hT hW₁⟩)
  dsimp only [Pt.U, Pt.locs, Pt.cells, Pt.slots] at X' e1 e2 h1 h2 h3 st
  subst h1; subst h2; subst h3
  exact ⟨v, (T.setVm vm₁).calling g' mk (Value.ref b :: As).toArray, t, U', L, hT, X', hL, e1, e2, hq, st⟩
section
variable {y : MethodName} {bytes cc : ByteArray} {maxL nL mc ms n index : Nat} {ret : Option FieldType} {ws : List Cond} {rm : Room} {Pc : Array Value → State → Prop} {Qc : Array Value → State → Outcome → State → Prop} {XC : String → State → State → Prop} {free : Addr → Prop} {Ts : List Cond} {own C : String} {b : Addr} {As rest : List Value} {g : JFrame}
theorem vx_runVX {hh : List (Nat × Nat × Nat × Nat)} (S : CallFix p m c cc nL s args Ts own) (hM : vx_Met l y ws rm Pc Qc XC mc ms free) (cw : vx_CVW R s args own C index y bytes maxL ret hh ws rm mc ms n) (hp : PreV s H C b Pc As)
    (hg : g.method = m) (hn : As.length = n) (hsize : g.locals.size = nL) (hstack : g.stack = As.reverse ++ .ref b :: rest) (hW : 2 * g.monitorRoom + (rest.map fun v => v.category).sum ≤ 8) (hdg : decode cc g.pc = .ok (.invokevirtual index, 3)) (hf : cells + mc ≤ R.cells ∧ slots + ms ≤ R.slots) :
    vx_Run p l e R s m args below meth c H locs cells slots mc ms g rest (Qc (Value.ref b :: As).toArray) XC free := by
  obtain ⟨⟨hrc, hrs, hfr, hlo, hws, hcw⟩, hcode, hini, hy, hlen, hl, hin, hse⟩ := cw
  have hK : vx_Back l R p e below s args y 3 8 (PreOf R mc ms Pc) (PostOf Qc mc ms free) (vx_Post XC mc ms free) := vx_backW (hh := hh) (bytes := bytes) (maxL := maxL) (ret := ret) hM hp.1 hrc hrs hfr hlo hws hcw (fun a' U hW => word_at hW (Or.inl (by first | rfl | simp [Cond.onTables, Cond.keeps, Cond.steady])) hini)
  obtain ⟨hx, hb, hml, ho, -⟩ := S
  obtain ⟨-, ⟨cellB, hcB, hoB, hclB⟩, hPc⟩ := hp
  intro T hT X
  rcases vx_callVX X hx (C := C) (hh := hh) (bytes := bytes) (maxL := maxL) (ret := ret) ho hl hin hse hcode hy hK (by rw [hT]; exact hcB) hoB hclB hg (hsize.trans hml.symm) (argsL := As) (rest := rest) (fun sig h => hn.trans (hlen sig h)) hstack hW (by rw [hb]; exact hdg)
    (fun vm₁ hW₁ => ⟨hf.1, hf.2, hPc (T.setVm vm₁) hT hW₁⟩) with ⟨v, vm₁, ⟨U', l2, c2, s2⟩, hW₁, X', ⟨g', mk, t, L, e1, e2, hq, h1, hL, h2, h3⟩, st⟩ | ⟨q, vm₁, ⟨U', l2, c2, s2⟩, hW₁, X', ⟨g', mk, t, L, E, ce, e1, e2, hq, hce, hcv, hcl, h1, hL, h2, h3⟩, st⟩
  · dsimp only [Pt.U, Pt.locs, Pt.cells, Pt.slots] at X' e1 e2 h1 h2 h3 st
    subst h1; subst h2; subst h3
    exact Or.inl ⟨v, (T.setVm vm₁).calling g' mk (Value.ref b :: As).toArray, t, U', L, hT, X', hL, e1, e2, hq, st⟩
  · dsimp only [Pt.U, Pt.locs, Pt.cells, Pt.slots] at X' e1 e2 h1 h2 h3 st hcl
    subst h1; subst h2; subst h3
    exact Or.inr ⟨q, (T.setVm vm₁).calling g' mk (Value.ref b :: As).toArray, t, U', L, E, ce, hT, X', hL, e1, e2, hq, hce, hcv, vx_cls hW₁ hcl, st⟩
theorem vx_runSX {hh : List (Nat × Nat × Nat × Nat)} (S : CallFix p m c cc nL s args Ts own) (hM : vx_Met l y ws rm Pc Qc XC mc ms free) (cw : vx_CSW R s args own index y bytes maxL ret hh ws rm mc ms n) (hp : PreS s H Pc As)
    (hg : g.method = m) (hn : As.length = n) (hsize : g.locals.size = nL) (hstack : g.stack = As.reverse ++ rest) (hW : 2 * g.monitorRoom + (rest.map fun v => v.category).sum ≤ 8) (hdg : decode cc g.pc = .ok (.invokestatic index, 3)) (hf : cells + mc ≤ R.cells ∧ slots + ms ≤ R.slots) :
    vx_Run p l e R s m args below meth c H locs cells slots mc ms g rest (Qc As.toArray) XC free := by
  obtain ⟨⟨hrc, hrs, hfr, hlo, hws, hcw⟩, hcode, hini, hy, hlen, hl, hstt⟩ := cw
  have hK : vx_Back l R p e below s args y 3 8 (PreOf R mc ms Pc) (PostOf Qc mc ms free) (vx_Post XC mc ms free) := vx_backW (hh := hh) (bytes := bytes) (maxL := maxL) (ret := ret) hM hp.1 hrc hrs hfr hlo hws hcw (fun a' U hW => word_at hW (Or.inl (by first | rfl | simp [Cond.onTables, Cond.keeps, Cond.steady])) hini)
  obtain ⟨hx, hb, hml, ho, -⟩ := S
  intro T hT X
  rcases vx_callSX X hx (hh := hh) (bytes := bytes) (maxL := maxL) (ret := ret) ho hl hstt hini hcode hy hK hg (hsize.trans hml.symm) (argsL := As) (rest := rest) (fun sig h => hn.trans (hlen sig h)) hstack hW (by rw [hb]; exact hdg)
    (fun vm₁ hW₁ => ⟨hf.1, hf.2, hp.2 (T.setVm vm₁) hT hW₁⟩) with ⟨v, vm₁, ⟨U', l2, c2, s2⟩, hW₁, X', ⟨g', mk, t, L, e1, e2, hq, h1, hL, h2, h3⟩, st⟩ | ⟨q, vm₁, ⟨U', l2, c2, s2⟩, hW₁, X', ⟨g', mk, t, L, E, ce, e1, e2, hq, hce, hcv, hcl, h1, hL, h2, h3⟩, st⟩
  · dsimp only [Pt.U, Pt.locs, Pt.cells, Pt.slots] at X' e1 e2 h1 h2 h3 st
    subst h1; subst h2; subst h3
    exact Or.inl ⟨v, (T.setVm vm₁).calling g' mk As.toArray, t, U', L, hT, X', hL, e1, e2, hq, st⟩
  · dsimp only [Pt.U, Pt.locs, Pt.cells, Pt.slots] at X' e1 e2 h1 h2 h3 st hcl
    subst h1; subst h2; subst h3
    exact Or.inr ⟨q, (T.setVm vm₁).calling g' mk As.toArray, t, U', L, E, ce, hT, X', hL, e1, e2, hq, hce, hcv, vx_cls hW₁ hcl, st⟩
end
end VXH
theorem vx_ofWH {l : Launch} {y : MethodName} {ws ws' : List Cond} {rm : Room} {Pc : Array Value → State → Prop} {Qc : Array Value → State → Outcome → State → Prop} {XC : String → State → State → Prop} {mc ms : Nat} {free : Addr → Prop} {cc : ByteArray} {maxL : Nat} {ret : Option FieldType} {hh : List (Nat × Nat × Nat × Nat)}
    (hy : plainName y.cls = true) (hw : ws = Cond.codeWith y cc maxL ret hh :: ws')
    (body : ∀ p e s m args below meth c s₁, BodyLoose p l y (headSpec ws rm) cc maxL ret e s m args below meth c s₁ → c.maxLocals = maxL → Pc args s →
      W p l e (headSpec ws rm).room s m args below meth c s.heap [] 0 0 (vx_MQ below Qc XC args s mc ms free) (entryFrame m args maxL)) : vx_Met l y ws rm Pc Qc XC mc ms free := by
  refine MetFree.of_bodyS (code := cc) (maxLocals := maxL) (ret := ret) hy ?_ ?_
  · intro args s m h hn
    obtain ⟨m9, meth, c, hn9, h1, h2, h3, h4, -, h5, h6, -⟩ := Cond.codeWith_spec (atoms_spec (ws := ws) h _ (by rw [hw]; exact List.mem_cons_self))
    cases hn.symm.trans hn9
    exact ⟨meth, c, h1, h2, h3, h4, h5, h6⟩
  · intro p e s m args below meth c s₁ B hml hP _
    have hh0 : s₁.heap = s.heap := by rw [B.state]; rfl
    obtain ⟨t, a1, o, b1, b2, b3⟩ := body p e s m args below meth c s₁ B hml hP s₁ hh0 (Stand.of_body B)
    exact ⟨t, o, a1, b1, b2, b3⟩
/-! ===== END ===== -/

/-! ===== BEGIN printed: names, fields, word lists, decode rows ===== -/
end
section
def RX0 : String := "OasisBooks$Channel"
def TX0 : u_T := fun k => match k with
  | 0 => ("OasisBooks$Channel", "table", "I", false)
  | 1 => ("OasisBooks$Channel", "length", "I", false)
  | 2 => ("OasisBooks$Channel", "mud", "I", false)
  | _ => ("OasisBooks$Channel", "draw", "I", false)
def tyX0 : Nat → FieldType := fun k => match k with
  | 0 => .int
  | 1 => .int
  | 2 => .int
  | _ => .int
abbrev wsX00 : List Cond := u_ws RX0 TX0 4
theorem nmX0 : ∀ a, a < 4 → ∀ b, b < 4 → a ≠ b → (TX0 a).2.1 ≠ (TX0 b).2.1 := by decide +kernel
theorem tyX0_ok : ∀ k, k < 4 → parseFieldDescriptor (TX0 k).2.2.1 = some (tyX0 k) := by decide +kernel
abbrev cX0_init : ByteArray := prog_2_method_1_code
def yX0_init : MethodName := ⟨RX0, "<init>", "()V"⟩
abbrev cX0_becomeLike : ByteArray := prog_2_method_2_code
def yX0_becomeLike : MethodName := ⟨RX0, "becomeLike", "(LOasisBooks$Channel;)V"⟩
abbrev cX0_flow : ByteArray := prog_2_method_3_code
def yX0_flow : MethodName := ⟨RX0, "flow", "()I"⟩
abbrev cX0_letDayGoBy : ByteArray := prog_2_method_4_code
def yX0_letDayGoBy : MethodName := ⟨RX0, "letDayGoBy", "(IZ)V"⟩
abbrev cX0_addMud : ByteArray := prog_2_method_5_code
def yX0_addMud : MethodName := ⟨RX0, "addMud", "(I)V"⟩
def RX1 : String := "OasisBooks$Deals"
def TX1 : u_T := fun k => match k with
  | 0 => ("OasisBooks$Deals", "cells", "[I", true)
  | _ => ("OasisBooks$Deals", "count", "I", false)
def tyX1 : Nat → FieldType := fun k => match k with
  | 0 => .array .int
  | _ => .int
abbrev wsX10 : List Cond := u_ws RX1 TX1 2
theorem nmX1 : ∀ a, a < 2 → ∀ b, b < 2 → a ≠ b → (TX1 a).2.1 ≠ (TX1 b).2.1 := by decide +kernel
theorem tyX1_ok : ∀ k, k < 2 → parseFieldDescriptor (TX1 k).2.2.1 = some (tyX1 k) := by decide +kernel
abbrev cX1_init : ByteArray := prog_3_method_1_code
def yX1_init : MethodName := ⟨RX1, "<init>", "()V"⟩
abbrev cX1_becomeLike : ByteArray := prog_3_method_2_code
def yX1_becomeLike : MethodName := ⟨RX1, "becomeLike", "(LOasisBooks$Deals;)V"⟩
abbrev cX1_get : ByteArray := prog_3_method_3_code
def yX1_get : MethodName := ⟨RX1, "get", "(II)I"⟩
abbrev cX1_set : ByteArray := prog_3_method_4_code
def yX1_set : MethodName := ⟨RX1, "set", "(III)V"⟩
abbrev cX1_count : ByteArray := prog_3_method_5_code
def yX1_count : MethodName := ⟨RX1, "count", "()I"⟩
abbrev cX1_isFull : ByteArray := prog_3_method_6_code
def yX1_isFull : MethodName := ⟨RX1, "isFull", "()Z"⟩
abbrev cX1_add : ByteArray := prog_3_method_7_code
def yX1_add : MethodName := ⟨RX1, "add", "(IIII)V"⟩
abbrev cX1_clear : ByteArray := prog_3_method_8_code
def yX1_clear : MethodName := ⟨RX1, "clear", "()V"⟩
abbrev cX1_amountOf : ByteArray := prog_3_method_9_code
def yX1_amountOf : MethodName := ⟨RX1, "amountOf", "(II)I"⟩
abbrev cX1_shorten : ByteArray := prog_3_method_10_code
def yX1_shorten : MethodName := ⟨RX1, "shorten", "()V"⟩
abbrev cX1_endThoseOf : ByteArray := prog_3_method_11_code
def yX1_endThoseOf : MethodName := ⟨RX1, "endThoseOf", "(I)V"⟩
abbrev cX1_moveTo : ByteArray := prog_3_method_12_code
def yX1_moveTo : MethodName := ⟨RX1, "moveTo", "(II)V"⟩
abbrev cX1_passOn : ByteArray := prog_3_method_13_code
def yX1_passOn : MethodName := ⟨RX1, "passOn", "(II)V"⟩
def RX2 : String := "OasisBooks$Oasis"
def TX2 : u_T := fun k => match k with
  | 0 => ("OasisBooks$Oasis", "channel", "LOasisBooks$Channel;", true)
  | 1 => ("OasisBooks$Oasis", "people", "LOasisBooks$People;", true)
  | 2 => ("OasisBooks$Oasis", "loans", "LOasisBooks$Deals;", true)
  | 3 => ("OasisBooks$Oasis", "sales", "LOasisBooks$Deals;", true)
  | 4 => ("OasisBooks$Oasis", "day", "I", false)
  | 5 => ("OasisBooks$Oasis", "letOut", "I", false)
  | 6 => ("OasisBooks$Oasis", "lost", "I", false)
  | _ => ("OasisBooks$Oasis", "harvested", "I", false)
def tyX2 : Nat → FieldType := fun k => match k with
  | 0 => .object "OasisBooks$Channel"
  | 1 => .object "OasisBooks$People"
  | 2 => .object "OasisBooks$Deals"
  | 3 => .object "OasisBooks$Deals"
  | 4 => .int
  | 5 => .int
  | 6 => .int
  | _ => .int
abbrev wsX20 : List Cond := u_ws RX2 TX2 8
theorem nmX2 : ∀ a, a < 8 → ∀ b, b < 8 → a ≠ b → (TX2 a).2.1 ≠ (TX2 b).2.1 := by decide +kernel
theorem tyX2_ok : ∀ k, k < 8 → parseFieldDescriptor (TX2 k).2.2.1 = some (tyX2 k) := by decide +kernel
abbrev cX2_init : ByteArray := prog_4_method_1_code
def yX2_init : MethodName := ⟨RX2, "<init>", "()V"⟩
abbrev cX2_becomeLike : ByteArray := prog_4_method_2_code
def yX2_becomeLike : MethodName := ⟨RX2, "becomeLike", "(LOasisBooks$Oasis;)V"⟩
abbrev cX2_date : ByteArray := prog_4_method_3_code
def yX2_date : MethodName := ⟨RX2, "date", "()I"⟩
abbrev cX2_daysToHarvest : ByteArray := prog_4_method_4_code
def yX2_daysToHarvest : MethodName := ⟨RX2, "daysToHarvest", "()I"⟩
abbrev cX2_letDaysGoBy : ByteArray := prog_4_method_5_code
def yX2_letDaysGoBy : MethodName := ⟨RX2, "letDaysGoBy", "(II)I"⟩
abbrev cX2_letDayGoBy : ByteArray := prog_4_method_6_code
def yX2_letDayGoBy : MethodName := ⟨RX2, "letDayGoBy", "(I)I"⟩
abbrev cX2_giveWater : ByteArray := prog_4_method_7_code
def yX2_giveWater : MethodName := ⟨RX2, "giveWater", "()I"⟩
abbrev cX2_giveLentWater : ByteArray := prog_4_method_8_code
def yX2_giveLentWater : MethodName := ⟨RX2, "giveLentWater", "(LOasisBooks$Owner;III)I"⟩
abbrev cX2_bowlsOfDay : ByteArray := prog_4_method_9_code
def yX2_bowlsOfDay : MethodName := ⟨RX2, "bowlsOfDay", "(III)I"⟩
abbrev cX2_deliverSales : ByteArray := prog_4_method_10_code
def yX2_deliverSales : MethodName := ⟨RX2, "deliverSales", "()V"⟩
abbrev cX2_leaveToHeirs : ByteArray := prog_4_method_11_code
def yX2_leaveToHeirs : MethodName := ⟨RX2, "leaveToHeirs", "(III)I"⟩
abbrev cX2_unlentBowls : ByteArray := prog_4_method_12_code
def yX2_unlentBowls : MethodName := ⟨RX2, "unlentBowls", "(LOasisBooks$Owner;)I"⟩
abbrev cX2_userOf : ByteArray := prog_4_method_13_code
def yX2_userOf : MethodName := ⟨RX2, "userOf", "(I)I"⟩
abbrev cX2_askOwner : ByteArray := prog_4_method_14_code
def yX2_askOwner : MethodName := ⟨RX2, "askOwner", "(LOasisBooks$Owner;I)I"⟩
abbrev cX2_askAll : ByteArray := prog_4_method_15_code
def yX2_askAll : MethodName := ⟨RX2, "askAll", "(I)I"⟩
def RX3 : String := "OasisBooks$Owner"
def TX3 : u_T := fun k => match k with
  | 0 => ("OasisBooks$Owner", "number", "I", true)
  | 1 => ("OasisBooks$Owner", "lives", "Z", false)
  | 2 => ("OasisBooks$Owner", "bowls", "I", false)
  | 3 => ("OasisBooks$Owner", "coins", "I", false)
  | 4 => ("OasisBooks$Owner", "palms", "I", false)
  | 5 => ("OasisBooks$Owner", "males", "I", false)
  | 6 => ("OasisBooks$Owner", "moist", "I", false)
  | 7 => ("OasisBooks$Owner", "salt", "I", false)
  | 8 => ("OasisBooks$Owner", "dates", "I", false)
  | 9 => ("OasisBooks$Owner", "pollinated", "I", false)
  | 10 => ("OasisBooks$Owner", "boughtPollen", "I", false)
  | 11 => ("OasisBooks$Owner", "flowing", "I", false)
  | 12 => ("OasisBooks$Owner", "cameLatest", "I", false)
  | 13 => ("OasisBooks$Owner", "cameEver", "I", false)
  | _ => ("OasisBooks$Owner", "reaped", "I", false)
def tyX3 : Nat → FieldType := fun k => match k with
  | 0 => .int
  | 1 => .boolean
  | 2 => .int
  | 3 => .int
  | 4 => .int
  | 5 => .int
  | 6 => .int
  | 7 => .int
  | 8 => .int
  | 9 => .int
  | 10 => .int
  | 11 => .int
  | 12 => .int
  | 13 => .int
  | _ => .int
abbrev wsX30 : List Cond := u_ws RX3 TX3 15
theorem nmX3 : ∀ a, a < 15 → ∀ b, b < 15 → a ≠ b → (TX3 a).2.1 ≠ (TX3 b).2.1 := by decide +kernel
theorem tyX3_ok : ∀ k, k < 15 → parseFieldDescriptor (TX3 k).2.2.1 = some (tyX3 k) := by decide +kernel
abbrev cX3_init : ByteArray := prog_5_method_1_code
def yX3_init : MethodName := ⟨RX3, "<init>", "(I)V"⟩
abbrev cX3_becomeLike : ByteArray := prog_5_method_2_code
def yX3_becomeLike : MethodName := ⟨RX3, "becomeLike", "(LOasisBooks$Owner;)V"⟩
abbrev cX3_settle : ByteArray := prog_5_method_3_code
def yX3_settle : MethodName := ⟨RX3, "settle", "(IIII)V"⟩
abbrev cX3_inherit : ByteArray := prog_5_method_4_code
def yX3_inherit : MethodName := ⟨RX3, "inherit", "(LOasisBooks$Owner;III)V"⟩
abbrev cX3_partOf : ByteArray := prog_5_method_5_code
def yX3_partOf : MethodName := ⟨RX3, "partOf", "(IIII)I"⟩
abbrev cX3_payTo : ByteArray := prog_5_method_6_code
def yX3_payTo : MethodName := ⟨RX3, "payTo", "(LOasisBooks$Owner;I)V"⟩
abbrev cX3_pollenPalms : ByteArray := prog_5_method_7_code
def yX3_pollenPalms : MethodName := ⟨RX3, "pollenPalms", "()I"⟩
abbrev cX3_takeFlowing : ByteArray := prog_5_method_8_code
def yX3_takeFlowing : MethodName := ⟨RX3, "takeFlowing", "(I)V"⟩
abbrev cX3_growPalms : ByteArray := prog_5_method_9_code
def yX3_growPalms : MethodName := ⟨RX3, "growPalms", "(Z)V"⟩
abbrev cX3_reap : ByteArray := prog_5_method_10_code
def yX3_reap : MethodName := ⟨RX3, "reap", "()V"⟩
def RX4 : String := "OasisBooks$People"
def TX4 : u_T := fun k => match k with
  | 0 => ("OasisBooks$People", "owners", "[LOasisBooks$Owner;", true)
  | 1 => ("OasisBooks$People", "row", "[I", true)
  | 2 => ("OasisBooks$People", "nobody", "LOasisBooks$Owner;", true)
  | 3 => ("OasisBooks$People", "ever", "I", false)
  | _ => ("OasisBooks$People", "living", "I", false)
def tyX4 : Nat → FieldType := fun k => match k with
  | 0 => .array (.object "OasisBooks$Owner")
  | 1 => .array .int
  | 2 => .object "OasisBooks$Owner"
  | 3 => .int
  | _ => .int
abbrev wsX40 : List Cond := u_ws RX4 TX4 5
theorem nmX4 : ∀ a, a < 5 → ∀ b, b < 5 → a ≠ b → (TX4 a).2.1 ≠ (TX4 b).2.1 := by decide +kernel
theorem tyX4_ok : ∀ k, k < 5 → parseFieldDescriptor (TX4 k).2.2.1 = some (tyX4 k) := by decide +kernel
abbrev cX4_init : ByteArray := prog_6_method_1_code
def yX4_init : MethodName := ⟨RX4, "<init>", "()V"⟩
abbrev cX4_becomeLike : ByteArray := prog_6_method_2_code
def yX4_becomeLike : MethodName := ⟨RX4, "becomeLike", "(LOasisBooks$People;)V"⟩
abbrev cX4_numbered : ByteArray := prog_6_method_3_code
def yX4_numbered : MethodName := ⟨RX4, "numbered", "(I)LOasisBooks$Owner;"⟩
abbrev cX4_standing : ByteArray := prog_6_method_4_code
def yX4_standing : MethodName := ⟨RX4, "standing", "(I)LOasisBooks$Owner;"⟩
abbrev cX4_putAt : ByteArray := prog_6_method_5_code
def yX4_putAt : MethodName := ⟨RX4, "putAt", "(II)V"⟩
abbrev cX4_isLiving : ByteArray := prog_6_method_6_code
def yX4_isLiving : MethodName := ⟨RX4, "isLiving", "(I)Z"⟩
abbrev cX4_countLiving : ByteArray := prog_6_method_7_code
def yX4_countLiving : MethodName := ⟨RX4, "countLiving", "()I"⟩
abbrev cX4_countEver : ByteArray := prog_6_method_8_code
def yX4_countEver : MethodName := ⟨RX4, "countEver", "()I"⟩
abbrev cX4_hasRoomFor : ByteArray := prog_6_method_9_code
def yX4_hasRoomFor : MethodName := ⟨RX4, "hasRoomFor", "(I)Z"⟩
abbrev cX4_addLast : ByteArray := prog_6_method_10_code
def yX4_addLast : MethodName := ⟨RX4, "addLast", "(IIII)I"⟩
abbrev cX4_putHeirsFor : ByteArray := prog_6_method_11_code
def yX4_putHeirsFor : MethodName := ⟨RX4, "putHeirsFor", "(LOasisBooks$Owner;I)I"⟩
abbrev cX4_placeOf : ByteArray := prog_6_method_12_code
def yX4_placeOf : MethodName := ⟨RX4, "placeOf", "(LOasisBooks$Owner;)I"⟩
abbrev cX4_firstBowl : ByteArray := prog_6_method_13_code
def yX4_firstBowl : MethodName := ⟨RX4, "firstBowl", "(LOasisBooks$Owner;)I"⟩
abbrev cX4_holderOf : ByteArray := prog_6_method_14_code
def yX4_holderOf : MethodName := ⟨RX4, "holderOf", "(I)I"⟩
abbrev cX4_ownedBowls : ByteArray := prog_6_method_15_code
def yX4_ownedBowls : MethodName := ⟨RX4, "ownedBowls", "()I"⟩
abbrev cX4_commonBowls : ByteArray := prog_6_method_16_code
def yX4_commonBowls : MethodName := ⟨RX4, "commonBowls", "()I"⟩
abbrev cX4_sumOfCoins : ByteArray := prog_6_method_17_code
def yX4_sumOfCoins : MethodName := ⟨RX4, "sumOfCoins", "()I"⟩
abbrev cX4_sumOfMoist : ByteArray := prog_6_method_18_code
def yX4_sumOfMoist : MethodName := ⟨RX4, "sumOfMoist", "()I"⟩
abbrev cX4_shareCost : ByteArray := prog_6_method_19_code
def yX4_shareCost : MethodName := ⟨RX4, "shareCost", "(I)V"⟩
abbrev cX4_growPalms : ByteArray := prog_6_method_20_code
def yX4_growPalms : MethodName := ⟨RX4, "growPalms", "(Z)V"⟩
abbrev cX4_reap : ByteArray := prog_6_method_21_code
def yX4_reap : MethodName := ⟨RX4, "reap", "()I"⟩
def RX5 : String := "OasisBooks"
def TX5 : u_T := fun k => match k with
  | 0 => ("OasisBooks", "now", "LOasisBooks$Oasis;", true)
  | 1 => ("OasisBooks", "later", "LOasisBooks$Oasis;", true)
  | _ => ("OasisBooks", "atHarvest", "LOasisBooks$Oasis;", true)
def tyX5 : Nat → FieldType := fun k => match k with
  | 0 => .object "OasisBooks$Oasis"
  | 1 => .object "OasisBooks$Oasis"
  | _ => .object "OasisBooks$Oasis"
abbrev wsX50 : List Cond := u_ws RX5 TX5 3
theorem nmX5 : ∀ a, a < 3 → ∀ b, b < 3 → a ≠ b → (TX5 a).2.1 ≠ (TX5 b).2.1 := by decide +kernel
theorem tyX5_ok : ∀ k, k < 3 → parseFieldDescriptor (TX5 k).2.2.1 = some (tyX5 k) := by decide +kernel
abbrev cX5_init : ByteArray := prog_1_method_1_code
def yX5_init : MethodName := ⟨RX5, "<init>", "()V"⟩
abbrev cX5_owner : ByteArray := prog_1_method_2_code
def yX5_owner : MethodName := ⟨RX5, "owner", "(IIII)I"⟩
abbrev cX5_sell : ByteArray := prog_1_method_3_code
def yX5_sell : MethodName := ⟨RX5, "sell", "(IIII)I"⟩
abbrev cX5_lend : ByteArray := prog_1_method_4_code
def yX5_lend : MethodName := ⟨RX5, "lend", "(IIII)I"⟩
abbrev cX5_die : ByteArray := prog_1_method_5_code
def yX5_die : MethodName := ⟨RX5, "die", "(III)I"⟩
abbrev cX5_dig : ByteArray := prog_1_method_6_code
def yX5_dig : MethodName := ⟨RX5, "dig", "(I)I"⟩
abbrev cX5_clean : ByteArray := prog_1_method_7_code
def yX5_clean : MethodName := ⟨RX5, "clean", "(I)I"⟩
abbrev cX5_fall : ByteArray := prog_1_method_8_code
def yX5_fall : MethodName := ⟨RX5, "fall", "(I)I"⟩
abbrev cX5_pump : ByteArray := prog_1_method_9_code
def yX5_pump : MethodName := ⟨RX5, "pump", "(I)I"⟩
abbrev cX5_pollinate : ByteArray := prog_1_method_10_code
def yX5_pollinate : MethodName := ⟨RX5, "pollinate", "(II)I"⟩
abbrev cX5_pollen : ByteArray := prog_1_method_11_code
def yX5_pollen : MethodName := ⟨RX5, "pollen", "(III)I"⟩
abbrev cX5_ahead : ByteArray := prog_1_method_12_code
def yX5_ahead : MethodName := ⟨RX5, "ahead", "(IIII)I"⟩
abbrev cX5_pass : ByteArray := prog_1_method_13_code
def yX5_pass : MethodName := ⟨RX5, "pass", "(II)I"⟩
abbrev cX5_of : ByteArray := prog_1_method_14_code
def yX5_of : MethodName := ⟨RX5, "of", "(II)I"⟩
abbrev cX5_ofBowl : ByteArray := prog_1_method_15_code
def yX5_ofBowl : MethodName := ⟨RX5, "ofBowl", "(II)I"⟩
abbrev cX5_ofLoan : ByteArray := prog_1_method_16_code
def yX5_ofLoan : MethodName := ⟨RX5, "ofLoan", "(II)I"⟩
abbrev cX5_ofSale : ByteArray := prog_1_method_17_code
def yX5_ofSale : MethodName := ⟨RX5, "ofSale", "(II)I"⟩
abbrev cX5_many : ByteArray := prog_1_method_18_code
def yX5_many : MethodName := ⟨RX5, "many", "(I)I"⟩
abbrev cX5_meanMoist : ByteArray := prog_1_method_19_code
def yX5_meanMoist : MethodName := ⟨RX5, "meanMoist", "()D"⟩
abbrev cX5_wouldCome : ByteArray := prog_1_method_20_code
def yX5_wouldCome : MethodName := ⟨RX5, "wouldCome", "(III)I"⟩
abbrev cX5_bestDig : ByteArray := prog_1_method_21_code
def yX5_bestDig : MethodName := ⟨RX5, "bestDig", "(II)I"⟩
abbrev cX5_pumpTakes : ByteArray := prog_1_method_22_code
def yX5_pumpTakes : MethodName := ⟨RX5, "pumpTakes", "(III)I"⟩
abbrev cX5_wouldReap : ByteArray := prog_1_method_23_code
def yX5_wouldReap : MethodName := ⟨RX5, "wouldReap", "(II)I"⟩
abbrev cX5_digest : ByteArray := prog_1_method_24_code
def yX5_digest : MethodName := ⟨RX5, "digest", "()J"⟩
abbrev cX5_digestOwners : ByteArray := prog_1_method_25_code
def yX5_digestOwners : MethodName := ⟨RX5, "digestOwners", "(J)J"⟩
abbrev cX5_imagineLater : ByteArray := prog_1_method_26_code
def yX5_imagineLater : MethodName := ⟨RX5, "imagineLater", "(II)V"⟩
abbrev cX5_cameUntilLater : ByteArray := prog_1_method_27_code
def yX5_cameUntilLater : MethodName := ⟨RX5, "cameUntilLater", "(I)I"⟩
abbrev cX5_imagineHarvest : ByteArray := prog_1_method_28_code
def yX5_imagineHarvest : MethodName := ⟨RX5, "imagineHarvest", "(I)V"⟩
abbrev cX5_reapedAtHarvest : ByteArray := prog_1_method_29_code
def yX5_reapedAtHarvest : MethodName := ⟨RX5, "reapedAtHarvest", "(I)I"⟩
abbrev cX5_isWithin : ByteArray := prog_1_method_30_code
def yX5_isWithin : MethodName := ⟨RX5, "isWithin", "(III)Z"⟩
abbrev cX5_mustBeRight : ByteArray := prog_1_method_31_code
def yX5_mustBeRight : MethodName := ⟨RX5, "mustBeRight", "(Z)V"⟩
abbrev cX5_mustBePossible : ByteArray := prog_1_method_32_code
def yX5_mustBePossible : MethodName := ⟨RX5, "mustBePossible", "(Z)V"⟩
abbrev cX5_mustExist : ByteArray := prog_1_method_33_code
def yX5_mustExist : MethodName := ⟨RX5, "mustExist", "(Z)V"⟩
abbrev cX5_mustLive : ByteArray := prog_1_method_34_code
def yX5_mustLive : MethodName := ⟨RX5, "mustLive", "(I)V"⟩
def RX6 : String := "OasisBooksModel$Oasis"
def TX6 : u_T := fun k => match k with
  | 0 => ("OasisBooksModel$Oasis", "owners", "[[I", true)
  | 1 => ("OasisBooksModel$Oasis", "row", "[I", true)
  | 2 => ("OasisBooksModel$Oasis", "loans", "[[I", true)
  | 3 => ("OasisBooksModel$Oasis", "sales", "[[I", true)
  | 4 => ("OasisBooksModel$Oasis", "litres", "[I", true)
  | 5 => ("OasisBooksModel$Oasis", "ever", "I", false)
  | 6 => ("OasisBooksModel$Oasis", "living", "I", false)
  | 7 => ("OasisBooksModel$Oasis", "loanCount", "I", false)
  | 8 => ("OasisBooksModel$Oasis", "saleCount", "I", false)
  | 9 => ("OasisBooksModel$Oasis", "day", "I", false)
  | 10 => ("OasisBooksModel$Oasis", "table", "I", false)
  | 11 => ("OasisBooksModel$Oasis", "length", "I", false)
  | 12 => ("OasisBooksModel$Oasis", "mud", "I", false)
  | 13 => ("OasisBooksModel$Oasis", "draw", "I", false)
  | 14 => ("OasisBooksModel$Oasis", "letOut", "I", false)
  | 15 => ("OasisBooksModel$Oasis", "lost", "I", false)
  | _ => ("OasisBooksModel$Oasis", "harvested", "I", false)
def tyX6 : Nat → FieldType := fun k => match k with
  | 0 => .array (.array .int)
  | 1 => .array .int
  | 2 => .array (.array .int)
  | 3 => .array (.array .int)
  | 4 => .array .int
  | 5 => .int
  | 6 => .int
  | 7 => .int
  | 8 => .int
  | 9 => .int
  | 10 => .int
  | 11 => .int
  | 12 => .int
  | 13 => .int
  | 14 => .int
  | 15 => .int
  | _ => .int
abbrev wsX60 : List Cond := u_ws RX6 TX6 17
theorem nmX6 : ∀ a, a < 17 → ∀ b, b < 17 → a ≠ b → (TX6 a).2.1 ≠ (TX6 b).2.1 := by decide +kernel
theorem tyX6_ok : ∀ k, k < 17 → parseFieldDescriptor (TX6 k).2.2.1 = some (tyX6 k) := by decide +kernel
abbrev cX6_init : ByteArray := prog_9_method_1_code
def yX6_init : MethodName := ⟨RX6, "<init>", "()V"⟩
abbrev cX6_copy : ByteArray := prog_9_method_2_code
def yX6_copy : MethodName := ⟨RX6, "copy", "()LOasisBooksModel$Oasis;"⟩
abbrev cX6_flow : ByteArray := prog_9_method_3_code
def yX6_flow : MethodName := ⟨RX6, "flow", "()I"⟩
abbrev cX6_lent : ByteArray := prog_9_method_4_code
def yX6_lent : MethodName := ⟨RX6, "lent", "(I)I"⟩
abbrev cX6_used : ByteArray := prog_9_method_5_code
def yX6_used : MethodName := ⟨RX6, "used", "(I)I"⟩
abbrev cX6_all : ByteArray := prog_9_method_6_code
def yX6_all : MethodName := ⟨RX6, "all", "()I"⟩
abbrev cX6_place : ByteArray := prog_9_method_7_code
def yX6_place : MethodName := ⟨RX6, "place", "(I)I"⟩
abbrev cX6_first : ByteArray := prog_9_method_8_code
def yX6_first : MethodName := ⟨RX6, "first", "(I)I"⟩
abbrev cX6_ownerOf : ByteArray := prog_9_method_9_code
def yX6_ownerOf : MethodName := ⟨RX6, "ownerOf", "(I)I"⟩
abbrev cX6_userOf : ByteArray := prog_9_method_10_code
def yX6_userOf : MethodName := ⟨RX6, "userOf", "(I)I"⟩
abbrev cX6_today : ByteArray := prog_9_method_11_code
def yX6_today : MethodName := ⟨RX6, "today", "(II)I"⟩
abbrev cX6_go : ByteArray := prog_9_method_12_code
def yX6_go : MethodName := ⟨RX6, "go", "(I)I"⟩
abbrev cX6_water : ByteArray := prog_9_method_13_code
def yX6_water : MethodName := ⟨RX6, "water", "(I)I"⟩
abbrev cX6_palms : ByteArray := prog_9_method_14_code
def yX6_palms : MethodName := ⟨RX6, "palms", "([I)V"⟩
abbrev cX6_reaped : ByteArray := prog_9_method_15_code
def yX6_reaped : MethodName := ⟨RX6, "reaped", "([I)I"⟩
abbrev cX6_harvest : ByteArray := prog_9_method_16_code
def yX6_harvest : MethodName := ⟨RX6, "harvest", "()V"⟩
abbrev cX6_age : ByteArray := prog_9_method_17_code
def yX6_age : MethodName := ⟨RX6, "age", "()V"⟩
abbrev cX6_run : ByteArray := prog_9_method_18_code
def yX6_run : MethodName := ⟨RX6, "run", "(II)I"⟩
def RX7 : String := "OasisBooksModel"
def TX7 : u_T := fun k => match k with
  | 0 => ("OasisBooksModel", "thrown", "I", false)
  | _ => ("OasisBooksModel", "oasis", "LOasisBooksModel$Oasis;", true)
def tyX7 : Nat → FieldType := fun k => match k with
  | 0 => .int
  | _ => .object "OasisBooksModel$Oasis"
abbrev wsX70 : List Cond := u_ws RX7 TX7 2
theorem nmX7 : ∀ a, a < 2 → ∀ b, b < 2 → a ≠ b → (TX7 a).2.1 ≠ (TX7 b).2.1 := by decide +kernel
theorem tyX7_ok : ∀ k, k < 2 → parseFieldDescriptor (TX7 k).2.2.1 = some (tyX7 k) := by decide +kernel
abbrev cX7_init : ByteArray := prog_8_method_1_code
def yX7_init : MethodName := ⟨RX7, "<init>", "()V"⟩
abbrev cX7_thrown : ByteArray := prog_8_method_2_code
def yX7_thrown : MethodName := ⟨RX7, "thrown", "()I"⟩
abbrev cX7_no : ByteArray := prog_8_method_3_code
def yX7_no : MethodName := ⟨RX7, "no", "(I)I"⟩
abbrev cX7_in : ByteArray := prog_8_method_4_code
def yX7_in : MethodName := ⟨RX7, "in", "(III)Z"⟩
abbrev cX7_lower : ByteArray := prog_8_method_5_code
def yX7_lower : MethodName := ⟨RX7, "lower", "(II)I"⟩
abbrev cX7_lives : ByteArray := prog_8_method_6_code
def yX7_lives : MethodName := ⟨RX7, "lives", "(I)Z"⟩
abbrev cX7_at : ByteArray := prog_8_method_7_code
def yX7_at : MethodName := ⟨RX7, "at", "(I)[I"⟩
abbrev cX7_owner : ByteArray := prog_8_method_8_code
def yX7_owner : MethodName := ⟨RX7, "owner", "(IIII)I"⟩
abbrev cX7_sell : ByteArray := prog_8_method_9_code
def yX7_sell : MethodName := ⟨RX7, "sell", "(IIII)I"⟩
abbrev cX7_lend : ByteArray := prog_8_method_10_code
def yX7_lend : MethodName := ⟨RX7, "lend", "(IIII)I"⟩
abbrev cX7_die : ByteArray := prog_8_method_11_code
def yX7_die : MethodName := ⟨RX7, "die", "(III)I"⟩
abbrev cX7_pay : ByteArray := prog_8_method_12_code
def yX7_pay : MethodName := ⟨RX7, "pay", "(I)I"⟩
abbrev cX7_dig : ByteArray := prog_8_method_13_code
def yX7_dig : MethodName := ⟨RX7, "dig", "(I)I"⟩
abbrev cX7_clean : ByteArray := prog_8_method_14_code
def yX7_clean : MethodName := ⟨RX7, "clean", "(I)I"⟩
abbrev cX7_fall : ByteArray := prog_8_method_15_code
def yX7_fall : MethodName := ⟨RX7, "fall", "(I)I"⟩
abbrev cX7_pump : ByteArray := prog_8_method_16_code
def yX7_pump : MethodName := ⟨RX7, "pump", "(I)I"⟩
abbrev cX7_pollenOf : ByteArray := prog_8_method_17_code
def yX7_pollenOf : MethodName := ⟨RX7, "pollenOf", "([I)I"⟩
abbrev cX7_pollinate : ByteArray := prog_8_method_18_code
def yX7_pollinate : MethodName := ⟨RX7, "pollinate", "(II)I"⟩
abbrev cX7_pollen : ByteArray := prog_8_method_19_code
def yX7_pollen : MethodName := ⟨RX7, "pollen", "(III)I"⟩
abbrev cX7_ahead : ByteArray := prog_8_method_20_code
def yX7_ahead : MethodName := ⟨RX7, "ahead", "(IIII)I"⟩
abbrev cX7_isTime : ByteArray := prog_8_method_21_code
def yX7_isTime : MethodName := ⟨RX7, "isTime", "(III)Z"⟩
abbrev cX7_pass : ByteArray := prog_8_method_22_code
def yX7_pass : MethodName := ⟨RX7, "pass", "(II)I"⟩
abbrev cX7_ownerNow : ByteArray := prog_8_method_23_code
def yX7_ownerNow : MethodName := ⟨RX7, "ownerNow", "(II)I"⟩
abbrev cX7_of : ByteArray := prog_8_method_24_code
def yX7_of : MethodName := ⟨RX7, "of", "(II)I"⟩
abbrev cX7_ofBowl : ByteArray := prog_8_method_25_code
def yX7_ofBowl : MethodName := ⟨RX7, "ofBowl", "(II)I"⟩
abbrev cX7_ofLoan : ByteArray := prog_8_method_26_code
def yX7_ofLoan : MethodName := ⟨RX7, "ofLoan", "(II)I"⟩
abbrev cX7_ofSale : ByteArray := prog_8_method_27_code
def yX7_ofSale : MethodName := ⟨RX7, "ofSale", "(II)I"⟩
abbrev cX7_manyNow : ByteArray := prog_8_method_28_code
def yX7_manyNow : MethodName := ⟨RX7, "manyNow", "(I)I"⟩
abbrev cX7_many : ByteArray := prog_8_method_29_code
def yX7_many : MethodName := ⟨RX7, "many", "(I)I"⟩
abbrev cX7_meanMoist : ByteArray := prog_8_method_30_code
def yX7_meanMoist : MethodName := ⟨RX7, "meanMoist", "()D"⟩
abbrev cX7_comeNow : ByteArray := prog_8_method_31_code
def yX7_comeNow : MethodName := ⟨RX7, "comeNow", "(III)I"⟩
abbrev cX7_wouldCome : ByteArray := prog_8_method_32_code
def yX7_wouldCome : MethodName := ⟨RX7, "wouldCome", "(III)I"⟩
abbrev cX7_digNow : ByteArray := prog_8_method_33_code
def yX7_digNow : MethodName := ⟨RX7, "digNow", "(II)I"⟩
abbrev cX7_bestDig : ByteArray := prog_8_method_34_code
def yX7_bestDig : MethodName := ⟨RX7, "bestDig", "(II)I"⟩
abbrev cX7_takesNow : ByteArray := prog_8_method_35_code
def yX7_takesNow : MethodName := ⟨RX7, "takesNow", "(III)I"⟩
abbrev cX7_pumpTakes : ByteArray := prog_8_method_36_code
def yX7_pumpTakes : MethodName := ⟨RX7, "pumpTakes", "(III)I"⟩
abbrev cX7_reapNow : ByteArray := prog_8_method_37_code
def yX7_reapNow : MethodName := ⟨RX7, "reapNow", "(II)I"⟩
abbrev cX7_wouldReap : ByteArray := prog_8_method_38_code
def yX7_wouldReap : MethodName := ⟨RX7, "wouldReap", "(II)I"⟩
abbrev cX7_digest : ByteArray := prog_8_method_39_code
def yX7_digest : MethodName := ⟨RX7, "digest", "()J"⟩
def RJ9 : String := "java/lang/Math"
def TJ9 : u_T := fun k => match k with
  | _ => ("", "", "", false)
def tyJ9 : Nat → FieldType := fun k => match k with
  | _ => .int
abbrev wsJ90 : List Cond := u_ws RJ9 TJ9 0
theorem nmJ9 : ∀ a, a < 0 → ∀ b, b < 0 → a ≠ b → (TJ9 a).2.1 ≠ (TJ9 b).2.1 := by decide +kernel
theorem tyJ9_ok : ∀ k, k < 0 → parseFieldDescriptor (TJ9 k).2.2.1 = some (tyJ9 k) := by decide +kernel
abbrev cJ9_floorDiv_7cf53 : ByteArray := prog_14_method_47_code
def yJ9_floorDiv_7cf53 : MethodName := ⟨RJ9, "floorDiv", "(II)I"⟩
abbrev cJ9_max_7cf53 : ByteArray := prog_14_method_65_code
def yJ9_max_7cf53 : MethodName := ⟨RJ9, "max", "(II)I"⟩
abbrev cJ9_min_7cf53 : ByteArray := prog_14_method_69_code
def yJ9_min_7cf53 : MethodName := ⟨RJ9, "min", "(II)I"⟩
def RJ10 : String := "java/lang/System"
def TJ10 : u_T := fun k => match k with
  | _ => ("", "", "", false)
def tyJ10 : Nat → FieldType := fun k => match k with
  | _ => .int
abbrev wsJ100 : List Cond := u_ws RJ10 TJ10 0
theorem nmJ10 : ∀ a, a < 0 → ∀ b, b < 0 → a ≠ b → (TJ10 a).2.1 ≠ (TJ10 b).2.1 := by decide +kernel
theorem tyJ10_ok : ∀ k, k < 0 → parseFieldDescriptor (TJ10 k).2.2.1 = some (tyJ10 k) := by decide +kernel
def RL : String := "OasisBooksLaw"
abbrev cL_owner : ByteArray := method_3_code
def yL_owner : MethodName := ⟨RL, "owner", "(LOasisBooks;IIII[J)I"⟩
abbrev cL_sell : ByteArray := method_4_code
def yL_sell : MethodName := ⟨RL, "sell", "(LOasisBooks;IIII[J)I"⟩
abbrev cL_lend : ByteArray := method_5_code
def yL_lend : MethodName := ⟨RL, "lend", "(LOasisBooks;IIII[J)I"⟩
abbrev cL_die : ByteArray := method_6_code
def yL_die : MethodName := ⟨RL, "die", "(LOasisBooks;III[J)I"⟩
abbrev cL_dig : ByteArray := method_7_code
def yL_dig : MethodName := ⟨RL, "dig", "(LOasisBooks;I[J)I"⟩
abbrev cL_clean : ByteArray := method_8_code
def yL_clean : MethodName := ⟨RL, "clean", "(LOasisBooks;I[J)I"⟩
abbrev cL_fall : ByteArray := method_9_code
def yL_fall : MethodName := ⟨RL, "fall", "(LOasisBooks;I[J)I"⟩
abbrev cL_pump : ByteArray := method_10_code
def yL_pump : MethodName := ⟨RL, "pump", "(LOasisBooks;I[J)I"⟩
abbrev cL_pollinate : ByteArray := method_11_code
def yL_pollinate : MethodName := ⟨RL, "pollinate", "(LOasisBooks;II[J)I"⟩
abbrev cL_pollen : ByteArray := method_12_code
def yL_pollen : MethodName := ⟨RL, "pollen", "(LOasisBooks;III[J)I"⟩
abbrev cL_ahead : ByteArray := method_13_code
def yL_ahead : MethodName := ⟨RL, "ahead", "(LOasisBooks;IIII[J)I"⟩
abbrev cL_pass : ByteArray := method_14_code
def yL_pass : MethodName := ⟨RL, "pass", "(LOasisBooks;II[J)I"⟩
abbrev cL_of : ByteArray := method_15_code
def yL_of : MethodName := ⟨RL, "of", "(LOasisBooks;II[J)I"⟩
abbrev cL_ofBowl : ByteArray := method_16_code
def yL_ofBowl : MethodName := ⟨RL, "ofBowl", "(LOasisBooks;II[J)I"⟩
abbrev cL_ofLoan : ByteArray := method_17_code
def yL_ofLoan : MethodName := ⟨RL, "ofLoan", "(LOasisBooks;II[J)I"⟩
abbrev cL_ofSale : ByteArray := method_18_code
def yL_ofSale : MethodName := ⟨RL, "ofSale", "(LOasisBooks;II[J)I"⟩
abbrev cL_many : ByteArray := method_19_code
def yL_many : MethodName := ⟨RL, "many", "(LOasisBooks;I[J)I"⟩
abbrev cL_wouldCome : ByteArray := method_20_code
def yL_wouldCome : MethodName := ⟨RL, "wouldCome", "(LOasisBooks;III[J)I"⟩
abbrev cL_bestDig : ByteArray := method_21_code
def yL_bestDig : MethodName := ⟨RL, "bestDig", "(LOasisBooks;II[J)I"⟩
abbrev cL_pumpTakes : ByteArray := method_22_code
def yL_pumpTakes : MethodName := ⟨RL, "pumpTakes", "(LOasisBooks;III[J)I"⟩
abbrev cL_wouldReap : ByteArray := method_23_code
def yL_wouldReap : MethodName := ⟨RL, "wouldReap", "(LOasisBooks;II[J)I"⟩
abbrev cL_law : ByteArray := code
def yL_law : MethodName := ⟨RL, "law", "([I)Z"⟩
abbrev vwCl : List vw_C := [(RX0, TX0, 4), (RX1, TX1, 2), (RX2, TX2, 8), (RX3, TX3, 15), (RX4, TX4, 5), (RX5, TX5, 3), (RX6, TX6, 17), (RX7, TX7, 2)]
end
section
theorem dX0_init_0 : decode cX0_init 0 = .ok (.aload_n 0, 1) := by decide +kernel
theorem dX0_init_1 : decode cX0_init 1 = .ok (.invokespecial 3, 3) := by decide +kernel
theorem dX0_init_4 : decode cX0_init 4 = .ok (.aload_n 0, 1) := by decide +kernel
theorem dX0_init_5 : decode cX0_init 5 = .ok (.sipush 200, 3) := by decide +kernel
theorem dX0_init_8 : decode cX0_init 8 = .ok (.putfield 9, 3) := by decide +kernel
theorem dX0_init_11 : decode cX0_init 11 = .ok (.aload_n 0, 1) := by decide +kernel
theorem dX0_init_12 : decode cX0_init 12 = .ok (.bipush 40, 2) := by decide +kernel
theorem dX0_init_14 : decode cX0_init 14 = .ok (.putfield 15, 3) := by decide +kernel
theorem dX0_init_17 : decode cX0_init 17 = .ok (.return_, 1) := by decide +kernel
theorem dX0_becomeLike_0 : decode cX0_becomeLike 0 = .ok (.aload_n 0, 1) := by decide +kernel
theorem dX0_becomeLike_1 : decode cX0_becomeLike 1 = .ok (.aload_n 1, 1) := by decide +kernel
theorem dX0_becomeLike_2 : decode cX0_becomeLike 2 = .ok (.getfield 9, 3) := by decide +kernel
theorem dX0_becomeLike_5 : decode cX0_becomeLike 5 = .ok (.putfield 9, 3) := by decide +kernel
theorem dX0_becomeLike_8 : decode cX0_becomeLike 8 = .ok (.aload_n 0, 1) := by decide +kernel
theorem dX0_becomeLike_9 : decode cX0_becomeLike 9 = .ok (.aload_n 1, 1) := by decide +kernel
theorem dX0_becomeLike_10 : decode cX0_becomeLike 10 = .ok (.getfield 15, 3) := by decide +kernel
theorem dX0_becomeLike_13 : decode cX0_becomeLike 13 = .ok (.putfield 15, 3) := by decide +kernel
theorem dX0_becomeLike_16 : decode cX0_becomeLike 16 = .ok (.aload_n 0, 1) := by decide +kernel
theorem dX0_becomeLike_17 : decode cX0_becomeLike 17 = .ok (.aload_n 1, 1) := by decide +kernel
theorem dX0_becomeLike_18 : decode cX0_becomeLike 18 = .ok (.getfield 18, 3) := by decide +kernel
theorem dX0_becomeLike_21 : decode cX0_becomeLike 21 = .ok (.putfield 18, 3) := by decide +kernel
theorem dX0_becomeLike_24 : decode cX0_becomeLike 24 = .ok (.aload_n 0, 1) := by decide +kernel
theorem dX0_becomeLike_25 : decode cX0_becomeLike 25 = .ok (.aload_n 1, 1) := by decide +kernel
theorem dX0_becomeLike_26 : decode cX0_becomeLike 26 = .ok (.getfield 21, 3) := by decide +kernel
theorem dX0_becomeLike_29 : decode cX0_becomeLike 29 = .ok (.putfield 21, 3) := by decide +kernel
theorem dX0_becomeLike_32 : decode cX0_becomeLike 32 = .ok (.return_, 1) := by decide +kernel
theorem dX0_flow_0 : decode cX0_flow 0 = .ok (.iconst 0, 1) := by decide +kernel
theorem dX0_flow_1 : decode cX0_flow 1 = .ok (.aload_n 0, 1) := by decide +kernel
theorem dX0_flow_2 : decode cX0_flow 2 = .ok (.getfield 9, 3) := by decide +kernel
theorem dX0_flow_5 : decode cX0_flow 5 = .ok (.aload_n 0, 1) := by decide +kernel
theorem dX0_flow_6 : decode cX0_flow 6 = .ok (.getfield 15, 3) := by decide +kernel
theorem dX0_flow_9 : decode cX0_flow 9 = .ok (.iadd, 1) := by decide +kernel
theorem dX0_flow_10 : decode cX0_flow 10 = .ok (.bipush 120, 2) := by decide +kernel
theorem dX0_flow_12 : decode cX0_flow 12 = .ok (.isub, 1) := by decide +kernel
theorem dX0_flow_13 : decode cX0_flow 13 = .ok (.iconst 2, 1) := by decide +kernel
theorem dX0_flow_14 : decode cX0_flow 14 = .ok (.aload_n 0, 1) := by decide +kernel
theorem dX0_flow_15 : decode cX0_flow 15 = .ok (.getfield 18, 3) := by decide +kernel
theorem dX0_flow_18 : decode cX0_flow 18 = .ok (.imul, 1) := by decide +kernel
theorem dX0_flow_19 : decode cX0_flow 19 = .ok (.isub, 1) := by decide +kernel
theorem dX0_flow_20 : decode cX0_flow 20 = .ok (.bipush 10, 2) := by decide +kernel
theorem dX0_flow_22 : decode cX0_flow 22 = .ok (.idiv, 1) := by decide +kernel
theorem dX0_flow_23 : decode cX0_flow 23 = .ok (.invokestatic 24, 3) := by decide +kernel
theorem dX0_flow_26 : decode cX0_flow 26 = .ok (.ireturn, 1) := by decide +kernel
theorem dX0_letDayGoBy_0 : decode cX0_letDayGoBy 0 = .ok (.aload_n 0, 1) := by decide +kernel
theorem dX0_letDayGoBy_1 : decode cX0_letDayGoBy 1 = .ok (.iconst 0, 1) := by decide +kernel
theorem dX0_letDayGoBy_2 : decode cX0_letDayGoBy 2 = .ok (.sipush 400, 3) := by decide +kernel
theorem dX0_letDayGoBy_5 : decode cX0_letDayGoBy 5 = .ok (.aload_n 0, 1) := by decide +kernel
theorem dX0_letDayGoBy_6 : decode cX0_letDayGoBy 6 = .ok (.getfield 9, 3) := by decide +kernel
theorem dX0_letDayGoBy_9 : decode cX0_letDayGoBy 9 = .ok (.iload_n 1, 1) := by decide +kernel
theorem dX0_letDayGoBy_10 : decode cX0_letDayGoBy 10 = .ok (.iconst 3, 1) := by decide +kernel
theorem dX0_letDayGoBy_11 : decode cX0_letDayGoBy 11 = .ok (.idiv, 1) := by decide +kernel
theorem dX0_letDayGoBy_12 : decode cX0_letDayGoBy 12 = .ok (.iadd, 1) := by decide +kernel
theorem dX0_letDayGoBy_13 : decode cX0_letDayGoBy 13 = .ok (.aload_n 0, 1) := by decide +kernel
theorem dX0_letDayGoBy_14 : decode cX0_letDayGoBy 14 = .ok (.invokevirtual 30, 3) := by decide +kernel
theorem dX0_letDayGoBy_17 : decode cX0_letDayGoBy 17 = .ok (.isub, 1) := by decide +kernel
theorem dX0_letDayGoBy_18 : decode cX0_letDayGoBy 18 = .ok (.aload_n 0, 1) := by decide +kernel
theorem dX0_letDayGoBy_19 : decode cX0_letDayGoBy 19 = .ok (.getfield 21, 3) := by decide +kernel
theorem dX0_letDayGoBy_22 : decode cX0_letDayGoBy 22 = .ok (.isub, 1) := by decide +kernel
theorem dX0_letDayGoBy_23 : decode cX0_letDayGoBy 23 = .ok (.invokestatic 34, 3) := by decide +kernel
theorem dX0_letDayGoBy_26 : decode cX0_letDayGoBy 26 = .ok (.invokestatic 24, 3) := by decide +kernel
theorem dX0_letDayGoBy_29 : decode cX0_letDayGoBy 29 = .ok (.putfield 9, 3) := by decide +kernel
theorem dX0_letDayGoBy_32 : decode cX0_letDayGoBy 32 = .ok (.iload_n 2, 1) := by decide +kernel
theorem dX0_letDayGoBy_33 : decode cX0_letDayGoBy 33 = .ok (.ifCond .eq 8, 3) := by decide +kernel
theorem dX0_letDayGoBy_36 : decode cX0_letDayGoBy 36 = .ok (.aload_n 0, 1) := by decide +kernel
theorem dX0_letDayGoBy_37 : decode cX0_letDayGoBy 37 = .ok (.iconst 1, 1) := by decide +kernel
theorem dX0_letDayGoBy_38 : decode cX0_letDayGoBy 38 = .ok (.invokevirtual 37, 3) := by decide +kernel
theorem dX0_letDayGoBy_41 : decode cX0_letDayGoBy 41 = .ok (.return_, 1) := by decide +kernel
theorem dX0_addMud_0 : decode cX0_addMud 0 = .ok (.aload_n 0, 1) := by decide +kernel
theorem dX0_addMud_1 : decode cX0_addMud 1 = .ok (.bipush 30, 2) := by decide +kernel
theorem dX0_addMud_3 : decode cX0_addMud 3 = .ok (.aload_n 0, 1) := by decide +kernel
theorem dX0_addMud_4 : decode cX0_addMud 4 = .ok (.getfield 18, 3) := by decide +kernel
theorem dX0_addMud_7 : decode cX0_addMud 7 = .ok (.iload_n 1, 1) := by decide +kernel
theorem dX0_addMud_8 : decode cX0_addMud 8 = .ok (.iadd, 1) := by decide +kernel
theorem dX0_addMud_9 : decode cX0_addMud 9 = .ok (.invokestatic 34, 3) := by decide +kernel
theorem dX0_addMud_12 : decode cX0_addMud 12 = .ok (.putfield 18, 3) := by decide +kernel
theorem dX0_addMud_15 : decode cX0_addMud 15 = .ok (.return_, 1) := by decide +kernel
theorem dX1_init_0 : decode cX1_init 0 = .ok (.aload_n 0, 1) := by decide +kernel
theorem dX1_init_1 : decode cX1_init 1 = .ok (.invokespecial 3, 3) := by decide +kernel
theorem dX1_init_4 : decode cX1_init 4 = .ok (.aload_n 0, 1) := by decide +kernel
theorem dX1_init_5 : decode cX1_init 5 = .ok (.bipush 32, 2) := by decide +kernel
theorem dX1_init_7 : decode cX1_init 7 = .ok (.newarray .int, 2) := by decide +kernel
theorem dX1_init_9 : decode cX1_init 9 = .ok (.putfield 11, 3) := by decide +kernel
theorem dX1_init_12 : decode cX1_init 12 = .ok (.return_, 1) := by decide +kernel
theorem dX1_becomeLike_0 : decode cX1_becomeLike 0 = .ok (.aload_n 0, 1) := by decide +kernel
theorem dX1_becomeLike_1 : decode cX1_becomeLike 1 = .ok (.aload_n 1, 1) := by decide +kernel
theorem dX1_becomeLike_2 : decode cX1_becomeLike 2 = .ok (.getfield 15, 3) := by decide +kernel
theorem dX1_becomeLike_5 : decode cX1_becomeLike 5 = .ok (.putfield 15, 3) := by decide +kernel
theorem dX1_becomeLike_8 : decode cX1_becomeLike 8 = .ok (.iconst 0, 1) := by decide +kernel
theorem dX1_becomeLike_9 : decode cX1_becomeLike 9 = .ok (.istore_n 2, 1) := by decide +kernel
theorem dX1_becomeLike_10 : decode cX1_becomeLike 10 = .ok (.iload_n 2, 1) := by decide +kernel
theorem dX1_becomeLike_11 : decode cX1_becomeLike 11 = .ok (.aload_n 0, 1) := by decide +kernel
theorem dX1_becomeLike_12 : decode cX1_becomeLike 12 = .ok (.getfield 15, 3) := by decide +kernel
theorem dX1_becomeLike_15 : decode cX1_becomeLike 15 = .ok (.if_icmp .ge 34, 3) := by decide +kernel
theorem dX1_becomeLike_18 : decode cX1_becomeLike 18 = .ok (.iconst 0, 1) := by decide +kernel
theorem dX1_becomeLike_19 : decode cX1_becomeLike 19 = .ok (.istore_n 3, 1) := by decide +kernel
theorem dX1_becomeLike_20 : decode cX1_becomeLike 20 = .ok (.iload_n 3, 1) := by decide +kernel
theorem dX1_becomeLike_21 : decode cX1_becomeLike 21 = .ok (.iconst 4, 1) := by decide +kernel
theorem dX1_becomeLike_22 : decode cX1_becomeLike 22 = .ok (.if_icmp .ge 21, 3) := by decide +kernel
theorem dX1_becomeLike_25 : decode cX1_becomeLike 25 = .ok (.aload_n 0, 1) := by decide +kernel
theorem dX1_becomeLike_26 : decode cX1_becomeLike 26 = .ok (.iload_n 2, 1) := by decide +kernel
theorem dX1_becomeLike_27 : decode cX1_becomeLike 27 = .ok (.iload_n 3, 1) := by decide +kernel
theorem dX1_becomeLike_28 : decode cX1_becomeLike 28 = .ok (.aload_n 1, 1) := by decide +kernel
theorem dX1_becomeLike_29 : decode cX1_becomeLike 29 = .ok (.iload_n 2, 1) := by decide +kernel
theorem dX1_becomeLike_30 : decode cX1_becomeLike 30 = .ok (.iload_n 3, 1) := by decide +kernel
theorem dX1_becomeLike_31 : decode cX1_becomeLike 31 = .ok (.invokevirtual 19, 3) := by decide +kernel
theorem dX1_becomeLike_34 : decode cX1_becomeLike 34 = .ok (.invokevirtual 23, 3) := by decide +kernel
theorem dX1_becomeLike_37 : decode cX1_becomeLike 37 = .ok (.iinc 3 1, 3) := by decide +kernel
theorem dX1_becomeLike_40 : decode cX1_becomeLike 40 = .ok (.goto (-20), 3) := by decide +kernel
theorem dX1_becomeLike_43 : decode cX1_becomeLike 43 = .ok (.iinc 2 1, 3) := by decide +kernel
theorem dX1_becomeLike_46 : decode cX1_becomeLike 46 = .ok (.goto (-36), 3) := by decide +kernel
theorem dX1_becomeLike_49 : decode cX1_becomeLike 49 = .ok (.return_, 1) := by decide +kernel
theorem dX1_get_0 : decode cX1_get 0 = .ok (.iload_n 1, 1) := by decide +kernel
theorem dX1_get_1 : decode cX1_get 1 = .ok (.iconst 4, 1) := by decide +kernel
theorem dX1_get_2 : decode cX1_get 2 = .ok (.imul, 1) := by decide +kernel
theorem dX1_get_3 : decode cX1_get 3 = .ok (.iload_n 2, 1) := by decide +kernel
theorem dX1_get_4 : decode cX1_get 4 = .ok (.iadd, 1) := by decide +kernel
theorem dX1_get_5 : decode cX1_get 5 = .ok (.istore_n 3, 1) := by decide +kernel
theorem dX1_get_6 : decode cX1_get 6 = .ok (.iload_n 3, 1) := by decide +kernel
theorem dX1_get_7 : decode cX1_get 7 = .ok (.ifCond .lt 21, 3) := by decide +kernel
theorem dX1_get_10 : decode cX1_get 10 = .ok (.iload_n 3, 1) := by decide +kernel
theorem dX1_get_11 : decode cX1_get 11 = .ok (.aload_n 0, 1) := by decide +kernel
theorem dX1_get_12 : decode cX1_get 12 = .ok (.getfield 11, 3) := by decide +kernel
theorem dX1_get_15 : decode cX1_get 15 = .ok (.arraylength, 1) := by decide +kernel
theorem dX1_get_16 : decode cX1_get 16 = .ok (.if_icmp .ge 12, 3) := by decide +kernel
theorem dX1_get_19 : decode cX1_get 19 = .ok (.aload_n 0, 1) := by decide +kernel
theorem dX1_get_20 : decode cX1_get 20 = .ok (.getfield 11, 3) := by decide +kernel
theorem dX1_get_23 : decode cX1_get 23 = .ok (.iload_n 3, 1) := by decide +kernel
theorem dX1_get_24 : decode cX1_get 24 = .ok (.iaload, 1) := by decide +kernel
theorem dX1_get_25 : decode cX1_get 25 = .ok (.goto 4, 3) := by decide +kernel
theorem dX1_get_28 : decode cX1_get 28 = .ok (.iconst (-1), 1) := by decide +kernel
theorem dX1_get_29 : decode cX1_get 29 = .ok (.ireturn, 1) := by decide +kernel
theorem dX1_set_0 : decode cX1_set 0 = .ok (.iload_n 1, 1) := by decide +kernel
theorem dX1_set_1 : decode cX1_set 1 = .ok (.iconst 4, 1) := by decide +kernel
theorem dX1_set_2 : decode cX1_set 2 = .ok (.imul, 1) := by decide +kernel
theorem dX1_set_3 : decode cX1_set 3 = .ok (.iload_n 2, 1) := by decide +kernel
theorem dX1_set_4 : decode cX1_set 4 = .ok (.iadd, 1) := by decide +kernel
theorem dX1_set_5 : decode cX1_set 5 = .ok (.istore 4, 2) := by decide +kernel
theorem dX1_set_7 : decode cX1_set 7 = .ok (.iload 4, 2) := by decide +kernel
theorem dX1_set_9 : decode cX1_set 9 = .ok (.ifCond .lt 21, 3) := by decide +kernel
theorem dX1_set_12 : decode cX1_set 12 = .ok (.iload 4, 2) := by decide +kernel
theorem dX1_set_14 : decode cX1_set 14 = .ok (.aload_n 0, 1) := by decide +kernel
theorem dX1_set_15 : decode cX1_set 15 = .ok (.getfield 11, 3) := by decide +kernel
theorem dX1_set_18 : decode cX1_set 18 = .ok (.arraylength, 1) := by decide +kernel
theorem dX1_set_19 : decode cX1_set 19 = .ok (.if_icmp .ge 11, 3) := by decide +kernel
theorem dX1_set_22 : decode cX1_set 22 = .ok (.aload_n 0, 1) := by decide +kernel
theorem dX1_set_23 : decode cX1_set 23 = .ok (.getfield 11, 3) := by decide +kernel
theorem dX1_set_26 : decode cX1_set 26 = .ok (.iload 4, 2) := by decide +kernel
theorem dX1_set_28 : decode cX1_set 28 = .ok (.iload_n 3, 1) := by decide +kernel
theorem dX1_set_29 : decode cX1_set 29 = .ok (.iastore, 1) := by decide +kernel
theorem dX1_set_30 : decode cX1_set 30 = .ok (.return_, 1) := by decide +kernel
theorem dX1_count_0 : decode cX1_count 0 = .ok (.aload_n 0, 1) := by decide +kernel
theorem dX1_count_1 : decode cX1_count 1 = .ok (.getfield 15, 3) := by decide +kernel
theorem dX1_count_4 : decode cX1_count 4 = .ok (.ireturn, 1) := by decide +kernel
theorem dX1_isFull_0 : decode cX1_isFull 0 = .ok (.aload_n 0, 1) := by decide +kernel
theorem dX1_isFull_1 : decode cX1_isFull 1 = .ok (.getfield 15, 3) := by decide +kernel
theorem dX1_isFull_4 : decode cX1_isFull 4 = .ok (.bipush 8, 2) := by decide +kernel
theorem dX1_isFull_6 : decode cX1_isFull 6 = .ok (.if_icmp .lt 7, 3) := by decide +kernel
theorem dX1_isFull_9 : decode cX1_isFull 9 = .ok (.iconst 1, 1) := by decide +kernel
theorem dX1_isFull_10 : decode cX1_isFull 10 = .ok (.goto 4, 3) := by decide +kernel
theorem dX1_isFull_13 : decode cX1_isFull 13 = .ok (.iconst 0, 1) := by decide +kernel
theorem dX1_isFull_14 : decode cX1_isFull 14 = .ok (.ireturn, 1) := by decide +kernel
theorem dX1_add_0 : decode cX1_add 0 = .ok (.aload_n 0, 1) := by decide +kernel
theorem dX1_add_1 : decode cX1_add 1 = .ok (.aload_n 0, 1) := by decide +kernel
theorem dX1_add_2 : decode cX1_add 2 = .ok (.getfield 15, 3) := by decide +kernel
theorem dX1_add_5 : decode cX1_add 5 = .ok (.iconst 0, 1) := by decide +kernel
theorem dX1_add_6 : decode cX1_add 6 = .ok (.iload_n 1, 1) := by decide +kernel
theorem dX1_add_7 : decode cX1_add 7 = .ok (.invokevirtual 23, 3) := by decide +kernel
theorem dX1_add_10 : decode cX1_add 10 = .ok (.aload_n 0, 1) := by decide +kernel
theorem dX1_add_11 : decode cX1_add 11 = .ok (.aload_n 0, 1) := by decide +kernel
theorem dX1_add_12 : decode cX1_add 12 = .ok (.getfield 15, 3) := by decide +kernel
theorem dX1_add_15 : decode cX1_add 15 = .ok (.iconst 1, 1) := by decide +kernel
theorem dX1_add_16 : decode cX1_add 16 = .ok (.iload_n 2, 1) := by decide +kernel
theorem dX1_add_17 : decode cX1_add 17 = .ok (.invokevirtual 23, 3) := by decide +kernel
theorem dX1_add_20 : decode cX1_add 20 = .ok (.aload_n 0, 1) := by decide +kernel
theorem dX1_add_21 : decode cX1_add 21 = .ok (.aload_n 0, 1) := by decide +kernel
theorem dX1_add_22 : decode cX1_add 22 = .ok (.getfield 15, 3) := by decide +kernel
theorem dX1_add_25 : decode cX1_add 25 = .ok (.iconst 2, 1) := by decide +kernel
theorem dX1_add_26 : decode cX1_add 26 = .ok (.iload_n 3, 1) := by decide +kernel
theorem dX1_add_27 : decode cX1_add 27 = .ok (.invokevirtual 23, 3) := by decide +kernel
theorem dX1_add_30 : decode cX1_add 30 = .ok (.aload_n 0, 1) := by decide +kernel
theorem dX1_add_31 : decode cX1_add 31 = .ok (.aload_n 0, 1) := by decide +kernel
theorem dX1_add_32 : decode cX1_add 32 = .ok (.getfield 15, 3) := by decide +kernel
theorem dX1_add_35 : decode cX1_add 35 = .ok (.iconst 3, 1) := by decide +kernel
theorem dX1_add_36 : decode cX1_add 36 = .ok (.iload 4, 2) := by decide +kernel
theorem dX1_add_38 : decode cX1_add 38 = .ok (.invokevirtual 23, 3) := by decide +kernel
theorem dX1_add_41 : decode cX1_add 41 = .ok (.aload_n 0, 1) := by decide +kernel
theorem dX1_add_42 : decode cX1_add 42 = .ok (.dup, 1) := by decide +kernel
theorem dX1_add_43 : decode cX1_add 43 = .ok (.getfield 15, 3) := by decide +kernel
theorem dX1_add_46 : decode cX1_add 46 = .ok (.iconst 1, 1) := by decide +kernel
theorem dX1_add_47 : decode cX1_add 47 = .ok (.iadd, 1) := by decide +kernel
theorem dX1_add_48 : decode cX1_add 48 = .ok (.putfield 15, 3) := by decide +kernel
theorem dX1_add_51 : decode cX1_add 51 = .ok (.return_, 1) := by decide +kernel
theorem dX1_clear_0 : decode cX1_clear 0 = .ok (.aload_n 0, 1) := by decide +kernel
theorem dX1_clear_1 : decode cX1_clear 1 = .ok (.iconst 0, 1) := by decide +kernel
theorem dX1_clear_2 : decode cX1_clear 2 = .ok (.putfield 15, 3) := by decide +kernel
theorem dX1_clear_5 : decode cX1_clear 5 = .ok (.return_, 1) := by decide +kernel
theorem dX1_amountOf_0 : decode cX1_amountOf 0 = .ok (.iconst 0, 1) := by decide +kernel
theorem dX1_amountOf_1 : decode cX1_amountOf 1 = .ok (.istore_n 3, 1) := by decide +kernel
theorem dX1_amountOf_2 : decode cX1_amountOf 2 = .ok (.iconst 0, 1) := by decide +kernel
theorem dX1_amountOf_3 : decode cX1_amountOf 3 = .ok (.istore 4, 2) := by decide +kernel
theorem dX1_amountOf_5 : decode cX1_amountOf 5 = .ok (.iload 4, 2) := by decide +kernel
theorem dX1_amountOf_7 : decode cX1_amountOf 7 = .ok (.aload_n 0, 1) := by decide +kernel
theorem dX1_amountOf_8 : decode cX1_amountOf 8 = .ok (.getfield 15, 3) := by decide +kernel
theorem dX1_amountOf_11 : decode cX1_amountOf 11 = .ok (.if_icmp .ge 30, 3) := by decide +kernel
theorem dX1_amountOf_14 : decode cX1_amountOf 14 = .ok (.aload_n 0, 1) := by decide +kernel
theorem dX1_amountOf_15 : decode cX1_amountOf 15 = .ok (.iload 4, 2) := by decide +kernel
theorem dX1_amountOf_17 : decode cX1_amountOf 17 = .ok (.iload_n 1, 1) := by decide +kernel
theorem dX1_amountOf_18 : decode cX1_amountOf 18 = .ok (.invokevirtual 19, 3) := by decide +kernel
theorem dX1_amountOf_21 : decode cX1_amountOf 21 = .ok (.iload_n 2, 1) := by decide +kernel
theorem dX1_amountOf_22 : decode cX1_amountOf 22 = .ok (.if_icmp .ne 13, 3) := by decide +kernel
theorem dX1_amountOf_25 : decode cX1_amountOf 25 = .ok (.iload_n 3, 1) := by decide +kernel
theorem dX1_amountOf_26 : decode cX1_amountOf 26 = .ok (.aload_n 0, 1) := by decide +kernel
theorem dX1_amountOf_27 : decode cX1_amountOf 27 = .ok (.iload 4, 2) := by decide +kernel
theorem dX1_amountOf_29 : decode cX1_amountOf 29 = .ok (.iconst 2, 1) := by decide +kernel
theorem dX1_amountOf_30 : decode cX1_amountOf 30 = .ok (.invokevirtual 19, 3) := by decide +kernel
theorem dX1_amountOf_33 : decode cX1_amountOf 33 = .ok (.iadd, 1) := by decide +kernel
theorem dX1_amountOf_34 : decode cX1_amountOf 34 = .ok (.istore_n 3, 1) := by decide +kernel
theorem dX1_amountOf_35 : decode cX1_amountOf 35 = .ok (.iinc 4 1, 3) := by decide +kernel
theorem dX1_amountOf_38 : decode cX1_amountOf 38 = .ok (.goto (-33), 3) := by decide +kernel
theorem dX1_amountOf_41 : decode cX1_amountOf 41 = .ok (.iload_n 3, 1) := by decide +kernel
theorem dX1_amountOf_42 : decode cX1_amountOf 42 = .ok (.ireturn, 1) := by decide +kernel
theorem dX1_shorten_0 : decode cX1_shorten 0 = .ok (.iconst 0, 1) := by decide +kernel
theorem dX1_shorten_1 : decode cX1_shorten 1 = .ok (.istore_n 1, 1) := by decide +kernel
theorem dX1_shorten_2 : decode cX1_shorten 2 = .ok (.iconst 0, 1) := by decide +kernel
theorem dX1_shorten_3 : decode cX1_shorten 3 = .ok (.istore_n 2, 1) := by decide +kernel
theorem dX1_shorten_4 : decode cX1_shorten 4 = .ok (.iload_n 2, 1) := by decide +kernel
theorem dX1_shorten_5 : decode cX1_shorten 5 = .ok (.aload_n 0, 1) := by decide +kernel
theorem dX1_shorten_6 : decode cX1_shorten 6 = .ok (.getfield 15, 3) := by decide +kernel
theorem dX1_shorten_9 : decode cX1_shorten 9 = .ok (.if_icmp .ge 38, 3) := by decide +kernel
theorem dX1_shorten_12 : decode cX1_shorten 12 = .ok (.aload_n 0, 1) := by decide +kernel
theorem dX1_shorten_13 : decode cX1_shorten 13 = .ok (.iload_n 2, 1) := by decide +kernel
theorem dX1_shorten_14 : decode cX1_shorten 14 = .ok (.iconst 3, 1) := by decide +kernel
theorem dX1_shorten_15 : decode cX1_shorten 15 = .ok (.invokevirtual 19, 3) := by decide +kernel
theorem dX1_shorten_18 : decode cX1_shorten 18 = .ok (.iconst 1, 1) := by decide +kernel
theorem dX1_shorten_19 : decode cX1_shorten 19 = .ok (.isub, 1) := by decide +kernel
theorem dX1_shorten_20 : decode cX1_shorten 20 = .ok (.istore_n 3, 1) := by decide +kernel
theorem dX1_shorten_21 : decode cX1_shorten 21 = .ok (.aload_n 0, 1) := by decide +kernel
theorem dX1_shorten_22 : decode cX1_shorten 22 = .ok (.iload_n 2, 1) := by decide +kernel
theorem dX1_shorten_23 : decode cX1_shorten 23 = .ok (.iconst 3, 1) := by decide +kernel
theorem dX1_shorten_24 : decode cX1_shorten 24 = .ok (.iload_n 3, 1) := by decide +kernel
theorem dX1_shorten_25 : decode cX1_shorten 25 = .ok (.invokevirtual 23, 3) := by decide +kernel
theorem dX1_shorten_28 : decode cX1_shorten 28 = .ok (.iload_n 3, 1) := by decide +kernel
theorem dX1_shorten_29 : decode cX1_shorten 29 = .ok (.ifCond .le 12, 3) := by decide +kernel
theorem dX1_shorten_32 : decode cX1_shorten 32 = .ok (.aload_n 0, 1) := by decide +kernel
theorem dX1_shorten_33 : decode cX1_shorten 33 = .ok (.iload_n 1, 1) := by decide +kernel
theorem dX1_shorten_34 : decode cX1_shorten 34 = .ok (.iload_n 2, 1) := by decide +kernel
theorem dX1_shorten_35 : decode cX1_shorten 35 = .ok (.invokevirtual 27, 3) := by decide +kernel
theorem dX1_shorten_38 : decode cX1_shorten 38 = .ok (.iinc 1 1, 3) := by decide +kernel
theorem dX1_shorten_41 : decode cX1_shorten 41 = .ok (.iinc 2 1, 3) := by decide +kernel
theorem dX1_shorten_44 : decode cX1_shorten 44 = .ok (.goto (-40), 3) := by decide +kernel
theorem dX1_shorten_47 : decode cX1_shorten 47 = .ok (.aload_n 0, 1) := by decide +kernel
theorem dX1_shorten_48 : decode cX1_shorten 48 = .ok (.iload_n 1, 1) := by decide +kernel
theorem dX1_shorten_49 : decode cX1_shorten 49 = .ok (.putfield 15, 3) := by decide +kernel
theorem dX1_shorten_52 : decode cX1_shorten 52 = .ok (.return_, 1) := by decide +kernel
theorem dX1_endThoseOf_0 : decode cX1_endThoseOf 0 = .ok (.iconst 0, 1) := by decide +kernel
theorem dX1_endThoseOf_1 : decode cX1_endThoseOf 1 = .ok (.istore_n 2, 1) := by decide +kernel
theorem dX1_endThoseOf_2 : decode cX1_endThoseOf 2 = .ok (.iconst 0, 1) := by decide +kernel
theorem dX1_endThoseOf_3 : decode cX1_endThoseOf 3 = .ok (.istore_n 3, 1) := by decide +kernel
theorem dX1_endThoseOf_4 : decode cX1_endThoseOf 4 = .ok (.iload_n 3, 1) := by decide +kernel
theorem dX1_endThoseOf_5 : decode cX1_endThoseOf 5 = .ok (.aload_n 0, 1) := by decide +kernel
theorem dX1_endThoseOf_6 : decode cX1_endThoseOf 6 = .ok (.getfield 15, 3) := by decide +kernel
theorem dX1_endThoseOf_9 : decode cX1_endThoseOf 9 = .ok (.if_icmp .ge 38, 3) := by decide +kernel
theorem dX1_endThoseOf_12 : decode cX1_endThoseOf 12 = .ok (.aload_n 0, 1) := by decide +kernel
theorem dX1_endThoseOf_13 : decode cX1_endThoseOf 13 = .ok (.iload_n 3, 1) := by decide +kernel
theorem dX1_endThoseOf_14 : decode cX1_endThoseOf 14 = .ok (.iconst 0, 1) := by decide +kernel
theorem dX1_endThoseOf_15 : decode cX1_endThoseOf 15 = .ok (.invokevirtual 19, 3) := by decide +kernel
theorem dX1_endThoseOf_18 : decode cX1_endThoseOf 18 = .ok (.iload_n 1, 1) := by decide +kernel
theorem dX1_endThoseOf_19 : decode cX1_endThoseOf 19 = .ok (.if_icmp .eq 22, 3) := by decide +kernel
theorem dX1_endThoseOf_22 : decode cX1_endThoseOf 22 = .ok (.aload_n 0, 1) := by decide +kernel
theorem dX1_endThoseOf_23 : decode cX1_endThoseOf 23 = .ok (.iload_n 3, 1) := by decide +kernel
theorem dX1_endThoseOf_24 : decode cX1_endThoseOf 24 = .ok (.iconst 1, 1) := by decide +kernel
theorem dX1_endThoseOf_25 : decode cX1_endThoseOf 25 = .ok (.invokevirtual 19, 3) := by decide +kernel
theorem dX1_endThoseOf_28 : decode cX1_endThoseOf 28 = .ok (.iload_n 1, 1) := by decide +kernel
theorem dX1_endThoseOf_29 : decode cX1_endThoseOf 29 = .ok (.if_icmp .eq 12, 3) := by decide +kernel
theorem dX1_endThoseOf_32 : decode cX1_endThoseOf 32 = .ok (.aload_n 0, 1) := by decide +kernel
theorem dX1_endThoseOf_33 : decode cX1_endThoseOf 33 = .ok (.iload_n 2, 1) := by decide +kernel
theorem dX1_endThoseOf_34 : decode cX1_endThoseOf 34 = .ok (.iload_n 3, 1) := by decide +kernel
theorem dX1_endThoseOf_35 : decode cX1_endThoseOf 35 = .ok (.invokevirtual 27, 3) := by decide +kernel
theorem dX1_endThoseOf_38 : decode cX1_endThoseOf 38 = .ok (.iinc 2 1, 3) := by decide +kernel
theorem dX1_endThoseOf_41 : decode cX1_endThoseOf 41 = .ok (.iinc 3 1, 3) := by decide +kernel
theorem dX1_endThoseOf_44 : decode cX1_endThoseOf 44 = .ok (.goto (-40), 3) := by decide +kernel
theorem dX1_endThoseOf_47 : decode cX1_endThoseOf 47 = .ok (.aload_n 0, 1) := by decide +kernel
theorem dX1_endThoseOf_48 : decode cX1_endThoseOf 48 = .ok (.iload_n 2, 1) := by decide +kernel
theorem dX1_endThoseOf_49 : decode cX1_endThoseOf 49 = .ok (.putfield 15, 3) := by decide +kernel
theorem dX1_endThoseOf_52 : decode cX1_endThoseOf 52 = .ok (.return_, 1) := by decide +kernel
theorem dX1_moveTo_0 : decode cX1_moveTo 0 = .ok (.iconst 0, 1) := by decide +kernel
theorem dX1_moveTo_1 : decode cX1_moveTo 1 = .ok (.istore_n 3, 1) := by decide +kernel
theorem dX1_moveTo_2 : decode cX1_moveTo 2 = .ok (.iload_n 3, 1) := by decide +kernel
theorem dX1_moveTo_3 : decode cX1_moveTo 3 = .ok (.iconst 4, 1) := by decide +kernel
theorem dX1_moveTo_4 : decode cX1_moveTo 4 = .ok (.if_icmp .ge 21, 3) := by decide +kernel
theorem dX1_moveTo_7 : decode cX1_moveTo 7 = .ok (.aload_n 0, 1) := by decide +kernel
theorem dX1_moveTo_8 : decode cX1_moveTo 8 = .ok (.iload_n 1, 1) := by decide +kernel
theorem dX1_moveTo_9 : decode cX1_moveTo 9 = .ok (.iload_n 3, 1) := by decide +kernel
theorem dX1_moveTo_10 : decode cX1_moveTo 10 = .ok (.aload_n 0, 1) := by decide +kernel
theorem dX1_moveTo_11 : decode cX1_moveTo 11 = .ok (.iload_n 2, 1) := by decide +kernel
theorem dX1_moveTo_12 : decode cX1_moveTo 12 = .ok (.iload_n 3, 1) := by decide +kernel
theorem dX1_moveTo_13 : decode cX1_moveTo 13 = .ok (.invokevirtual 19, 3) := by decide +kernel
theorem dX1_moveTo_16 : decode cX1_moveTo 16 = .ok (.invokevirtual 23, 3) := by decide +kernel
theorem dX1_moveTo_19 : decode cX1_moveTo 19 = .ok (.iinc 3 1, 3) := by decide +kernel
theorem dX1_moveTo_22 : decode cX1_moveTo 22 = .ok (.goto (-20), 3) := by decide +kernel
theorem dX1_moveTo_25 : decode cX1_moveTo 25 = .ok (.return_, 1) := by decide +kernel
theorem dX1_passOn_0 : decode cX1_passOn 0 = .ok (.iconst 0, 1) := by decide +kernel
theorem dX1_passOn_1 : decode cX1_passOn 1 = .ok (.istore_n 3, 1) := by decide +kernel
theorem dX1_passOn_2 : decode cX1_passOn 2 = .ok (.iload_n 3, 1) := by decide +kernel
theorem dX1_passOn_3 : decode cX1_passOn 3 = .ok (.aload_n 0, 1) := by decide +kernel
theorem dX1_passOn_4 : decode cX1_passOn 4 = .ok (.getfield 15, 3) := by decide +kernel
theorem dX1_passOn_7 : decode cX1_passOn 7 = .ok (.if_icmp .ge 43, 3) := by decide +kernel
theorem dX1_passOn_10 : decode cX1_passOn 10 = .ok (.aload_n 0, 1) := by decide +kernel
theorem dX1_passOn_11 : decode cX1_passOn 11 = .ok (.iload_n 3, 1) := by decide +kernel
theorem dX1_passOn_12 : decode cX1_passOn 12 = .ok (.iconst 0, 1) := by decide +kernel
theorem dX1_passOn_13 : decode cX1_passOn 13 = .ok (.invokevirtual 19, 3) := by decide +kernel
theorem dX1_passOn_16 : decode cX1_passOn 16 = .ok (.iload_n 1, 1) := by decide +kernel
theorem dX1_passOn_17 : decode cX1_passOn 17 = .ok (.if_icmp .ne 10, 3) := by decide +kernel
theorem dX1_passOn_20 : decode cX1_passOn 20 = .ok (.aload_n 0, 1) := by decide +kernel
theorem dX1_passOn_21 : decode cX1_passOn 21 = .ok (.iload_n 3, 1) := by decide +kernel
theorem dX1_passOn_22 : decode cX1_passOn 22 = .ok (.iconst 0, 1) := by decide +kernel
theorem dX1_passOn_23 : decode cX1_passOn 23 = .ok (.iload_n 2, 1) := by decide +kernel
theorem dX1_passOn_24 : decode cX1_passOn 24 = .ok (.invokevirtual 23, 3) := by decide +kernel
theorem dX1_passOn_27 : decode cX1_passOn 27 = .ok (.aload_n 0, 1) := by decide +kernel
theorem dX1_passOn_28 : decode cX1_passOn 28 = .ok (.iload_n 3, 1) := by decide +kernel
theorem dX1_passOn_29 : decode cX1_passOn 29 = .ok (.iconst 1, 1) := by decide +kernel
theorem dX1_passOn_30 : decode cX1_passOn 30 = .ok (.invokevirtual 19, 3) := by decide +kernel
theorem dX1_passOn_33 : decode cX1_passOn 33 = .ok (.iload_n 1, 1) := by decide +kernel
theorem dX1_passOn_34 : decode cX1_passOn 34 = .ok (.if_icmp .ne 10, 3) := by decide +kernel
theorem dX1_passOn_37 : decode cX1_passOn 37 = .ok (.aload_n 0, 1) := by decide +kernel
theorem dX1_passOn_38 : decode cX1_passOn 38 = .ok (.iload_n 3, 1) := by decide +kernel
theorem dX1_passOn_39 : decode cX1_passOn 39 = .ok (.iconst 1, 1) := by decide +kernel
theorem dX1_passOn_40 : decode cX1_passOn 40 = .ok (.iload_n 2, 1) := by decide +kernel
theorem dX1_passOn_41 : decode cX1_passOn 41 = .ok (.invokevirtual 23, 3) := by decide +kernel
theorem dX1_passOn_44 : decode cX1_passOn 44 = .ok (.iinc 3 1, 3) := by decide +kernel
theorem dX1_passOn_47 : decode cX1_passOn 47 = .ok (.goto (-45), 3) := by decide +kernel
theorem dX1_passOn_50 : decode cX1_passOn 50 = .ok (.return_, 1) := by decide +kernel
theorem dX2_init_0 : decode cX2_init 0 = .ok (.aload_n 0, 1) := by decide +kernel
theorem dX2_init_1 : decode cX2_init 1 = .ok (.invokespecial 3, 3) := by decide +kernel
theorem dX2_init_4 : decode cX2_init 4 = .ok (.aload_n 0, 1) := by decide +kernel
theorem dX2_init_5 : decode cX2_init 5 = .ok (.new 9, 3) := by decide +kernel
theorem dX2_init_8 : decode cX2_init 8 = .ok (.dup, 1) := by decide +kernel
theorem dX2_init_9 : decode cX2_init 9 = .ok (.invokespecial 11, 3) := by decide +kernel
theorem dX2_init_12 : decode cX2_init 12 = .ok (.putfield 12, 3) := by decide +kernel
theorem dX2_init_15 : decode cX2_init 15 = .ok (.aload_n 0, 1) := by decide +kernel
theorem dX2_init_16 : decode cX2_init 16 = .ok (.new 18, 3) := by decide +kernel
theorem dX2_init_19 : decode cX2_init 19 = .ok (.dup, 1) := by decide +kernel
theorem dX2_init_20 : decode cX2_init 20 = .ok (.invokespecial 20, 3) := by decide +kernel
theorem dX2_init_23 : decode cX2_init 23 = .ok (.putfield 21, 3) := by decide +kernel
theorem dX2_init_26 : decode cX2_init 26 = .ok (.aload_n 0, 1) := by decide +kernel
theorem dX2_init_27 : decode cX2_init 27 = .ok (.new 25, 3) := by decide +kernel
theorem dX2_init_30 : decode cX2_init 30 = .ok (.dup, 1) := by decide +kernel
theorem dX2_init_31 : decode cX2_init 31 = .ok (.invokespecial 27, 3) := by decide +kernel
theorem dX2_init_34 : decode cX2_init 34 = .ok (.putfield 28, 3) := by decide +kernel
theorem dX2_init_37 : decode cX2_init 37 = .ok (.aload_n 0, 1) := by decide +kernel
theorem dX2_init_38 : decode cX2_init 38 = .ok (.new 25, 3) := by decide +kernel
theorem dX2_init_41 : decode cX2_init 41 = .ok (.dup, 1) := by decide +kernel
theorem dX2_init_42 : decode cX2_init 42 = .ok (.invokespecial 27, 3) := by decide +kernel
theorem dX2_init_45 : decode cX2_init 45 = .ok (.putfield 32, 3) := by decide +kernel
theorem dX2_init_48 : decode cX2_init 48 = .ok (.return_, 1) := by decide +kernel
theorem dX2_becomeLike_0 : decode cX2_becomeLike 0 = .ok (.aload_n 0, 1) := by decide +kernel
theorem dX2_becomeLike_1 : decode cX2_becomeLike 1 = .ok (.getfield 12, 3) := by decide +kernel
theorem dX2_becomeLike_4 : decode cX2_becomeLike 4 = .ok (.aload_n 1, 1) := by decide +kernel
theorem dX2_becomeLike_5 : decode cX2_becomeLike 5 = .ok (.getfield 12, 3) := by decide +kernel
theorem dX2_becomeLike_8 : decode cX2_becomeLike 8 = .ok (.invokevirtual 35, 3) := by decide +kernel
theorem dX2_becomeLike_11 : decode cX2_becomeLike 11 = .ok (.aload_n 0, 1) := by decide +kernel
theorem dX2_becomeLike_12 : decode cX2_becomeLike 12 = .ok (.getfield 21, 3) := by decide +kernel
theorem dX2_becomeLike_15 : decode cX2_becomeLike 15 = .ok (.aload_n 1, 1) := by decide +kernel
theorem dX2_becomeLike_16 : decode cX2_becomeLike 16 = .ok (.getfield 21, 3) := by decide +kernel
theorem dX2_becomeLike_19 : decode cX2_becomeLike 19 = .ok (.invokevirtual 39, 3) := by decide +kernel
theorem dX2_becomeLike_22 : decode cX2_becomeLike 22 = .ok (.aload_n 0, 1) := by decide +kernel
theorem dX2_becomeLike_23 : decode cX2_becomeLike 23 = .ok (.getfield 28, 3) := by decide +kernel
theorem dX2_becomeLike_26 : decode cX2_becomeLike 26 = .ok (.aload_n 1, 1) := by decide +kernel
theorem dX2_becomeLike_27 : decode cX2_becomeLike 27 = .ok (.getfield 28, 3) := by decide +kernel
theorem dX2_becomeLike_30 : decode cX2_becomeLike 30 = .ok (.invokevirtual 42, 3) := by decide +kernel
theorem dX2_becomeLike_33 : decode cX2_becomeLike 33 = .ok (.aload_n 0, 1) := by decide +kernel
theorem dX2_becomeLike_34 : decode cX2_becomeLike 34 = .ok (.getfield 32, 3) := by decide +kernel
theorem dX2_becomeLike_37 : decode cX2_becomeLike 37 = .ok (.aload_n 1, 1) := by decide +kernel
theorem dX2_becomeLike_38 : decode cX2_becomeLike 38 = .ok (.getfield 32, 3) := by decide +kernel
theorem dX2_becomeLike_41 : decode cX2_becomeLike 41 = .ok (.invokevirtual 42, 3) := by decide +kernel
theorem dX2_becomeLike_44 : decode cX2_becomeLike 44 = .ok (.aload_n 0, 1) := by decide +kernel
theorem dX2_becomeLike_45 : decode cX2_becomeLike 45 = .ok (.aload_n 1, 1) := by decide +kernel
theorem dX2_becomeLike_46 : decode cX2_becomeLike 46 = .ok (.getfield 45, 3) := by decide +kernel
theorem dX2_becomeLike_49 : decode cX2_becomeLike 49 = .ok (.putfield 45, 3) := by decide +kernel
theorem dX2_becomeLike_52 : decode cX2_becomeLike 52 = .ok (.aload_n 0, 1) := by decide +kernel
theorem dX2_becomeLike_53 : decode cX2_becomeLike 53 = .ok (.aload_n 1, 1) := by decide +kernel
theorem dX2_becomeLike_54 : decode cX2_becomeLike 54 = .ok (.getfield 49, 3) := by decide +kernel
theorem dX2_becomeLike_57 : decode cX2_becomeLike 57 = .ok (.putfield 49, 3) := by decide +kernel
theorem dX2_becomeLike_60 : decode cX2_becomeLike 60 = .ok (.aload_n 0, 1) := by decide +kernel
theorem dX2_becomeLike_61 : decode cX2_becomeLike 61 = .ok (.aload_n 1, 1) := by decide +kernel
theorem dX2_becomeLike_62 : decode cX2_becomeLike 62 = .ok (.getfield 52, 3) := by decide +kernel
theorem dX2_becomeLike_65 : decode cX2_becomeLike 65 = .ok (.putfield 52, 3) := by decide +kernel
theorem dX2_becomeLike_68 : decode cX2_becomeLike 68 = .ok (.aload_n 0, 1) := by decide +kernel
theorem dX2_becomeLike_69 : decode cX2_becomeLike 69 = .ok (.aload_n 1, 1) := by decide +kernel
theorem dX2_becomeLike_70 : decode cX2_becomeLike 70 = .ok (.getfield 55, 3) := by decide +kernel
theorem dX2_becomeLike_73 : decode cX2_becomeLike 73 = .ok (.putfield 55, 3) := by decide +kernel
theorem dX2_becomeLike_76 : decode cX2_becomeLike 76 = .ok (.return_, 1) := by decide +kernel
theorem dX2_date_0 : decode cX2_date 0 = .ok (.aload_n 0, 1) := by decide +kernel
theorem dX2_date_1 : decode cX2_date 1 = .ok (.getfield 45, 3) := by decide +kernel
theorem dX2_date_4 : decode cX2_date 4 = .ok (.bipush 70, 2) := by decide +kernel
theorem dX2_date_6 : decode cX2_date 6 = .ok (.irem, 1) := by decide +kernel
theorem dX2_date_7 : decode cX2_date 7 = .ok (.ireturn, 1) := by decide +kernel
theorem dX2_daysToHarvest_0 : decode cX2_daysToHarvest 0 = .ok (.bipush 60, 2) := by decide +kernel
theorem dX2_daysToHarvest_2 : decode cX2_daysToHarvest 2 = .ok (.aload_n 0, 1) := by decide +kernel
theorem dX2_daysToHarvest_3 : decode cX2_daysToHarvest 3 = .ok (.invokevirtual 58, 3) := by decide +kernel
theorem dX2_daysToHarvest_6 : decode cX2_daysToHarvest 6 = .ok (.isub, 1) := by decide +kernel
theorem dX2_daysToHarvest_7 : decode cX2_daysToHarvest 7 = .ok (.istore_n 1, 1) := by decide +kernel
theorem dX2_daysToHarvest_8 : decode cX2_daysToHarvest 8 = .ok (.iload_n 1, 1) := by decide +kernel
theorem dX2_daysToHarvest_9 : decode cX2_daysToHarvest 9 = .ok (.ifCond .le 7, 3) := by decide +kernel
theorem dX2_daysToHarvest_12 : decode cX2_daysToHarvest 12 = .ok (.iload_n 1, 1) := by decide +kernel
theorem dX2_daysToHarvest_13 : decode cX2_daysToHarvest 13 = .ok (.goto 7, 3) := by decide +kernel
theorem dX2_daysToHarvest_16 : decode cX2_daysToHarvest 16 = .ok (.iload_n 1, 1) := by decide +kernel
theorem dX2_daysToHarvest_17 : decode cX2_daysToHarvest 17 = .ok (.bipush 70, 2) := by decide +kernel
theorem dX2_daysToHarvest_19 : decode cX2_daysToHarvest 19 = .ok (.iadd, 1) := by decide +kernel
theorem dX2_daysToHarvest_20 : decode cX2_daysToHarvest 20 = .ok (.ireturn, 1) := by decide +kernel
theorem dX2_letDaysGoBy_0 : decode cX2_letDaysGoBy 0 = .ok (.iconst 0, 1) := by decide +kernel
theorem dX2_letDaysGoBy_1 : decode cX2_letDaysGoBy 1 = .ok (.istore_n 3, 1) := by decide +kernel
theorem dX2_letDaysGoBy_2 : decode cX2_letDaysGoBy 2 = .ok (.iconst 0, 1) := by decide +kernel
theorem dX2_letDaysGoBy_3 : decode cX2_letDaysGoBy 3 = .ok (.istore 4, 2) := by decide +kernel
theorem dX2_letDaysGoBy_5 : decode cX2_letDaysGoBy 5 = .ok (.iload 4, 2) := by decide +kernel
theorem dX2_letDaysGoBy_7 : decode cX2_letDaysGoBy 7 = .ok (.iload_n 2, 1) := by decide +kernel
theorem dX2_letDaysGoBy_8 : decode cX2_letDaysGoBy 8 = .ok (.if_icmp .ge 17, 3) := by decide +kernel
theorem dX2_letDaysGoBy_11 : decode cX2_letDaysGoBy 11 = .ok (.iload_n 3, 1) := by decide +kernel
theorem dX2_letDaysGoBy_12 : decode cX2_letDaysGoBy 12 = .ok (.aload_n 0, 1) := by decide +kernel
theorem dX2_letDaysGoBy_13 : decode cX2_letDaysGoBy 13 = .ok (.iload_n 1, 1) := by decide +kernel
theorem dX2_letDaysGoBy_14 : decode cX2_letDaysGoBy 14 = .ok (.invokevirtual 62, 3) := by decide +kernel
theorem dX2_letDaysGoBy_17 : decode cX2_letDaysGoBy 17 = .ok (.iadd, 1) := by decide +kernel
theorem dX2_letDaysGoBy_18 : decode cX2_letDaysGoBy 18 = .ok (.istore_n 3, 1) := by decide +kernel
theorem dX2_letDaysGoBy_19 : decode cX2_letDaysGoBy 19 = .ok (.iinc 4 1, 3) := by decide +kernel
theorem dX2_letDaysGoBy_22 : decode cX2_letDaysGoBy 22 = .ok (.goto (-17), 3) := by decide +kernel
theorem dX2_letDaysGoBy_25 : decode cX2_letDaysGoBy 25 = .ok (.iload_n 3, 1) := by decide +kernel
theorem dX2_letDaysGoBy_26 : decode cX2_letDaysGoBy 26 = .ok (.ireturn, 1) := by decide +kernel
theorem dX2_letDayGoBy_0 : decode cX2_letDayGoBy 0 = .ok (.aload_n 0, 1) := by decide +kernel
theorem dX2_letDayGoBy_1 : decode cX2_letDayGoBy 1 = .ok (.dup, 1) := by decide +kernel
theorem dX2_letDayGoBy_2 : decode cX2_letDayGoBy 2 = .ok (.getfield 45, 3) := by decide +kernel
theorem dX2_letDayGoBy_5 : decode cX2_letDayGoBy 5 = .ok (.iconst 1, 1) := by decide +kernel
theorem dX2_letDayGoBy_6 : decode cX2_letDayGoBy 6 = .ok (.iadd, 1) := by decide +kernel
theorem dX2_letDayGoBy_7 : decode cX2_letDayGoBy 7 = .ok (.putfield 45, 3) := by decide +kernel
theorem dX2_letDayGoBy_10 : decode cX2_letDayGoBy 10 = .ok (.aload_n 0, 1) := by decide +kernel
theorem dX2_letDayGoBy_11 : decode cX2_letDayGoBy 11 = .ok (.invokevirtual 58, 3) := by decide +kernel
theorem dX2_letDayGoBy_14 : decode cX2_letDayGoBy 14 = .ok (.bipush 10, 2) := by decide +kernel
theorem dX2_letDayGoBy_16 : decode cX2_letDayGoBy 16 = .ok (.irem, 1) := by decide +kernel
theorem dX2_letDayGoBy_17 : decode cX2_letDayGoBy 17 = .ok (.ifCond .ne 7, 3) := by decide +kernel
theorem dX2_letDayGoBy_20 : decode cX2_letDayGoBy 20 = .ok (.iconst 1, 1) := by decide +kernel
theorem dX2_letDayGoBy_21 : decode cX2_letDayGoBy 21 = .ok (.goto 4, 3) := by decide +kernel
theorem dX2_letDayGoBy_24 : decode cX2_letDayGoBy 24 = .ok (.iconst 0, 1) := by decide +kernel
theorem dX2_letDayGoBy_25 : decode cX2_letDayGoBy 25 = .ok (.istore_n 2, 1) := by decide +kernel
theorem dX2_letDayGoBy_26 : decode cX2_letDayGoBy 26 = .ok (.aload_n 0, 1) := by decide +kernel
theorem dX2_letDayGoBy_27 : decode cX2_letDayGoBy 27 = .ok (.getfield 12, 3) := by decide +kernel
theorem dX2_letDayGoBy_30 : decode cX2_letDayGoBy 30 = .ok (.iload_n 1, 1) := by decide +kernel
theorem dX2_letDayGoBy_31 : decode cX2_letDayGoBy 31 = .ok (.iload_n 2, 1) := by decide +kernel
theorem dX2_letDayGoBy_32 : decode cX2_letDayGoBy 32 = .ok (.invokevirtual 66, 3) := by decide +kernel
theorem dX2_letDayGoBy_35 : decode cX2_letDayGoBy 35 = .ok (.aload_n 0, 1) := by decide +kernel
theorem dX2_letDayGoBy_36 : decode cX2_letDayGoBy 36 = .ok (.invokevirtual 69, 3) := by decide +kernel
theorem dX2_letDayGoBy_39 : decode cX2_letDayGoBy 39 = .ok (.istore_n 3, 1) := by decide +kernel
theorem dX2_letDayGoBy_40 : decode cX2_letDayGoBy 40 = .ok (.aload_n 0, 1) := by decide +kernel
theorem dX2_letDayGoBy_41 : decode cX2_letDayGoBy 41 = .ok (.getfield 21, 3) := by decide +kernel
theorem dX2_letDayGoBy_44 : decode cX2_letDayGoBy 44 = .ok (.iload_n 2, 1) := by decide +kernel
theorem dX2_letDayGoBy_45 : decode cX2_letDayGoBy 45 = .ok (.invokevirtual 72, 3) := by decide +kernel
theorem dX2_letDayGoBy_48 : decode cX2_letDayGoBy 48 = .ok (.aload_n 0, 1) := by decide +kernel
theorem dX2_letDayGoBy_49 : decode cX2_letDayGoBy 49 = .ok (.invokevirtual 58, 3) := by decide +kernel
theorem dX2_letDayGoBy_52 : decode cX2_letDayGoBy 52 = .ok (.bipush 60, 2) := by decide +kernel
theorem dX2_letDayGoBy_54 : decode cX2_letDayGoBy 54 = .ok (.if_icmp .ne 23, 3) := by decide +kernel
theorem dX2_letDayGoBy_57 : decode cX2_letDayGoBy 57 = .ok (.aload_n 0, 1) := by decide +kernel
theorem dX2_letDayGoBy_58 : decode cX2_letDayGoBy 58 = .ok (.dup, 1) := by decide +kernel
theorem dX2_letDayGoBy_59 : decode cX2_letDayGoBy 59 = .ok (.getfield 55, 3) := by decide +kernel
theorem dX2_letDayGoBy_62 : decode cX2_letDayGoBy 62 = .ok (.aload_n 0, 1) := by decide +kernel
theorem dX2_letDayGoBy_63 : decode cX2_letDayGoBy 63 = .ok (.getfield 21, 3) := by decide +kernel
theorem dX2_letDayGoBy_66 : decode cX2_letDayGoBy 66 = .ok (.invokevirtual 76, 3) := by decide +kernel
theorem dX2_letDayGoBy_69 : decode cX2_letDayGoBy 69 = .ok (.iadd, 1) := by decide +kernel
theorem dX2_letDayGoBy_70 : decode cX2_letDayGoBy 70 = .ok (.putfield 55, 3) := by decide +kernel
theorem dX2_letDayGoBy_73 : decode cX2_letDayGoBy 73 = .ok (.aload_n 0, 1) := by decide +kernel
theorem dX2_letDayGoBy_74 : decode cX2_letDayGoBy 74 = .ok (.invokevirtual 79, 3) := by decide +kernel
theorem dX2_letDayGoBy_77 : decode cX2_letDayGoBy 77 = .ok (.aload_n 0, 1) := by decide +kernel
theorem dX2_letDayGoBy_78 : decode cX2_letDayGoBy 78 = .ok (.getfield 45, 3) := by decide +kernel
theorem dX2_letDayGoBy_81 : decode cX2_letDayGoBy 81 = .ok (.bipush 7, 2) := by decide +kernel
theorem dX2_letDayGoBy_83 : decode cX2_letDayGoBy 83 = .ok (.irem, 1) := by decide +kernel
theorem dX2_letDayGoBy_84 : decode cX2_letDayGoBy 84 = .ok (.ifCond .ne 10, 3) := by decide +kernel
theorem dX2_letDayGoBy_87 : decode cX2_letDayGoBy 87 = .ok (.aload_n 0, 1) := by decide +kernel
theorem dX2_letDayGoBy_88 : decode cX2_letDayGoBy 88 = .ok (.getfield 28, 3) := by decide +kernel
theorem dX2_letDayGoBy_91 : decode cX2_letDayGoBy 91 = .ok (.invokevirtual 82, 3) := by decide +kernel
theorem dX2_letDayGoBy_94 : decode cX2_letDayGoBy 94 = .ok (.iload_n 3, 1) := by decide +kernel
theorem dX2_letDayGoBy_95 : decode cX2_letDayGoBy 95 = .ok (.ireturn, 1) := by decide +kernel
theorem dX2_giveWater_0 : decode cX2_giveWater 0 = .ok (.aload_n 0, 1) := by decide +kernel
theorem dX2_giveWater_1 : decode cX2_giveWater 1 = .ok (.getfield 12, 3) := by decide +kernel
theorem dX2_giveWater_4 : decode cX2_giveWater 4 = .ok (.invokevirtual 85, 3) := by decide +kernel
theorem dX2_giveWater_7 : decode cX2_giveWater 7 = .ok (.istore_n 1, 1) := by decide +kernel
theorem dX2_giveWater_8 : decode cX2_giveWater 8 = .ok (.aload_n 0, 1) := by decide +kernel
theorem dX2_giveWater_9 : decode cX2_giveWater 9 = .ok (.getfield 45, 3) := by decide +kernel
theorem dX2_giveWater_12 : decode cX2_giveWater 12 = .ok (.bipush 7, 2) := by decide +kernel
theorem dX2_giveWater_14 : decode cX2_giveWater 14 = .ok (.irem, 1) := by decide +kernel
theorem dX2_giveWater_15 : decode cX2_giveWater 15 = .ok (.sipush 720, 3) := by decide +kernel
theorem dX2_giveWater_18 : decode cX2_giveWater 18 = .ok (.imul, 1) := by decide +kernel
theorem dX2_giveWater_19 : decode cX2_giveWater 19 = .ok (.istore_n 2, 1) := by decide +kernel
theorem dX2_giveWater_20 : decode cX2_giveWater 20 = .ok (.iconst 0, 1) := by decide +kernel
theorem dX2_giveWater_21 : decode cX2_giveWater 21 = .ok (.istore_n 3, 1) := by decide +kernel
theorem dX2_giveWater_22 : decode cX2_giveWater 22 = .ok (.iconst 0, 1) := by decide +kernel
theorem dX2_giveWater_23 : decode cX2_giveWater 23 = .ok (.istore 4, 2) := by decide +kernel
theorem dX2_giveWater_25 : decode cX2_giveWater 25 = .ok (.iload 4, 2) := by decide +kernel
theorem dX2_giveWater_27 : decode cX2_giveWater 27 = .ok (.aload_n 0, 1) := by decide +kernel
theorem dX2_giveWater_28 : decode cX2_giveWater 28 = .ok (.getfield 21, 3) := by decide +kernel
theorem dX2_giveWater_31 : decode cX2_giveWater 31 = .ok (.invokevirtual 88, 3) := by decide +kernel
theorem dX2_giveWater_34 : decode cX2_giveWater 34 = .ok (.if_icmp .ge 63, 3) := by decide +kernel
theorem dX2_giveWater_37 : decode cX2_giveWater 37 = .ok (.aload_n 0, 1) := by decide +kernel
theorem dX2_giveWater_38 : decode cX2_giveWater 38 = .ok (.getfield 21, 3) := by decide +kernel
theorem dX2_giveWater_41 : decode cX2_giveWater 41 = .ok (.iload 4, 2) := by decide +kernel
theorem dX2_giveWater_43 : decode cX2_giveWater 43 = .ok (.invokevirtual 91, 3) := by decide +kernel
theorem dX2_giveWater_46 : decode cX2_giveWater 46 = .ok (.astore 5, 2) := by decide +kernel
theorem dX2_giveWater_48 : decode cX2_giveWater 48 = .ok (.iload_n 3, 1) := by decide +kernel
theorem dX2_giveWater_49 : decode cX2_giveWater 49 = .ok (.aload 5, 2) := by decide +kernel
theorem dX2_giveWater_51 : decode cX2_giveWater 51 = .ok (.getfield 95, 3) := by decide +kernel
theorem dX2_giveWater_54 : decode cX2_giveWater 54 = .ok (.iadd, 1) := by decide +kernel
theorem dX2_giveWater_55 : decode cX2_giveWater 55 = .ok (.istore 6, 2) := by decide +kernel
theorem dX2_giveWater_57 : decode cX2_giveWater 57 = .ok (.aload_n 0, 1) := by decide +kernel
theorem dX2_giveWater_58 : decode cX2_giveWater 58 = .ok (.aload 5, 2) := by decide +kernel
theorem dX2_giveWater_60 : decode cX2_giveWater 60 = .ok (.iload 6, 2) := by decide +kernel
theorem dX2_giveWater_62 : decode cX2_giveWater 62 = .ok (.iload_n 2, 1) := by decide +kernel
theorem dX2_giveWater_63 : decode cX2_giveWater 63 = .ok (.iload_n 1, 1) := by decide +kernel
theorem dX2_giveWater_64 : decode cX2_giveWater 64 = .ok (.invokevirtual 100, 3) := by decide +kernel
theorem dX2_giveWater_67 : decode cX2_giveWater 67 = .ok (.istore 7, 2) := by decide +kernel
theorem dX2_giveWater_69 : decode cX2_giveWater 69 = .ok (.aload 5, 2) := by decide +kernel
theorem dX2_giveWater_71 : decode cX2_giveWater 71 = .ok (.dup, 1) := by decide +kernel
theorem dX2_giveWater_72 : decode cX2_giveWater 72 = .ok (.getfield 104, 3) := by decide +kernel
theorem dX2_giveWater_75 : decode cX2_giveWater 75 = .ok (.iload_n 3, 1) := by decide +kernel
theorem dX2_giveWater_76 : decode cX2_giveWater 76 = .ok (.iload 7, 2) := by decide +kernel
theorem dX2_giveWater_78 : decode cX2_giveWater 78 = .ok (.iload_n 2, 1) := by decide +kernel
theorem dX2_giveWater_79 : decode cX2_giveWater 79 = .ok (.invokestatic 107, 3) := by decide +kernel
theorem dX2_giveWater_82 : decode cX2_giveWater 82 = .ok (.iload_n 1, 1) := by decide +kernel
theorem dX2_giveWater_83 : decode cX2_giveWater 83 = .ok (.imul, 1) := by decide +kernel
theorem dX2_giveWater_84 : decode cX2_giveWater 84 = .ok (.iadd, 1) := by decide +kernel
theorem dX2_giveWater_85 : decode cX2_giveWater 85 = .ok (.putfield 104, 3) := by decide +kernel
theorem dX2_giveWater_88 : decode cX2_giveWater 88 = .ok (.iload 6, 2) := by decide +kernel
theorem dX2_giveWater_90 : decode cX2_giveWater 90 = .ok (.istore_n 3, 1) := by decide +kernel
theorem dX2_giveWater_91 : decode cX2_giveWater 91 = .ok (.iinc 4 1, 3) := by decide +kernel
theorem dX2_giveWater_94 : decode cX2_giveWater 94 = .ok (.goto (-69), 3) := by decide +kernel
theorem dX2_giveWater_97 : decode cX2_giveWater 97 = .ok (.aload_n 0, 1) := by decide +kernel
theorem dX2_giveWater_98 : decode cX2_giveWater 98 = .ok (.dup, 1) := by decide +kernel
theorem dX2_giveWater_99 : decode cX2_giveWater 99 = .ok (.getfield 49, 3) := by decide +kernel
theorem dX2_giveWater_102 : decode cX2_giveWater 102 = .ok (.iload_n 3, 1) := by decide +kernel
theorem dX2_giveWater_103 : decode cX2_giveWater 103 = .ok (.sipush 5040, 3) := by decide +kernel
theorem dX2_giveWater_106 : decode cX2_giveWater 106 = .ok (.iload_n 2, 1) := by decide +kernel
theorem dX2_giveWater_107 : decode cX2_giveWater 107 = .ok (.invokestatic 107, 3) := by decide +kernel
theorem dX2_giveWater_110 : decode cX2_giveWater 110 = .ok (.iload_n 1, 1) := by decide +kernel
theorem dX2_giveWater_111 : decode cX2_giveWater 111 = .ok (.imul, 1) := by decide +kernel
theorem dX2_giveWater_112 : decode cX2_giveWater 112 = .ok (.iadd, 1) := by decide +kernel
theorem dX2_giveWater_113 : decode cX2_giveWater 113 = .ok (.putfield 49, 3) := by decide +kernel
theorem dX2_giveWater_116 : decode cX2_giveWater 116 = .ok (.iconst 0, 1) := by decide +kernel
theorem dX2_giveWater_117 : decode cX2_giveWater 117 = .ok (.istore 4, 2) := by decide +kernel
theorem dX2_giveWater_119 : decode cX2_giveWater 119 = .ok (.iconst 0, 1) := by decide +kernel
theorem dX2_giveWater_120 : decode cX2_giveWater 120 = .ok (.istore 5, 2) := by decide +kernel
theorem dX2_giveWater_122 : decode cX2_giveWater 122 = .ok (.iload 5, 2) := by decide +kernel
theorem dX2_giveWater_124 : decode cX2_giveWater 124 = .ok (.aload_n 0, 1) := by decide +kernel
theorem dX2_giveWater_125 : decode cX2_giveWater 125 = .ok (.getfield 21, 3) := by decide +kernel
theorem dX2_giveWater_128 : decode cX2_giveWater 128 = .ok (.invokevirtual 88, 3) := by decide +kernel
theorem dX2_giveWater_131 : decode cX2_giveWater 131 = .ok (.if_icmp .ge 65, 3) := by decide +kernel
theorem dX2_giveWater_134 : decode cX2_giveWater 134 = .ok (.aload_n 0, 1) := by decide +kernel
theorem dX2_giveWater_135 : decode cX2_giveWater 135 = .ok (.getfield 21, 3) := by decide +kernel
theorem dX2_giveWater_138 : decode cX2_giveWater 138 = .ok (.iload 5, 2) := by decide +kernel
theorem dX2_giveWater_140 : decode cX2_giveWater 140 = .ok (.invokevirtual 91, 3) := by decide +kernel
theorem dX2_giveWater_143 : decode cX2_giveWater 143 = .ok (.astore 6, 2) := by decide +kernel
theorem dX2_giveWater_145 : decode cX2_giveWater 145 = .ok (.aload_n 0, 1) := by decide +kernel
theorem dX2_giveWater_146 : decode cX2_giveWater 146 = .ok (.dup, 1) := by decide +kernel
theorem dX2_giveWater_147 : decode cX2_giveWater 147 = .ok (.getfield 52, 3) := by decide +kernel
theorem dX2_giveWater_150 : decode cX2_giveWater 150 = .ok (.aload 6, 2) := by decide +kernel
theorem dX2_giveWater_152 : decode cX2_giveWater 152 = .ok (.getfield 104, 3) := by decide +kernel
theorem dX2_giveWater_155 : decode cX2_giveWater 155 = .ok (.iadd, 1) := by decide +kernel
theorem dX2_giveWater_156 : decode cX2_giveWater 156 = .ok (.putfield 52, 3) := by decide +kernel
theorem dX2_giveWater_159 : decode cX2_giveWater 159 = .ok (.aload 6, 2) := by decide +kernel
theorem dX2_giveWater_161 : decode cX2_giveWater 161 = .ok (.iload 5, 2) := by decide +kernel
theorem dX2_giveWater_163 : decode cX2_giveWater 163 = .ok (.invokevirtual 111, 3) := by decide +kernel
theorem dX2_giveWater_166 : decode cX2_giveWater 166 = .ok (.aload_n 0, 1) := by decide +kernel
theorem dX2_giveWater_167 : decode cX2_giveWater 167 = .ok (.dup, 1) := by decide +kernel
theorem dX2_giveWater_168 : decode cX2_giveWater 168 = .ok (.getfield 52, 3) := by decide +kernel
theorem dX2_giveWater_171 : decode cX2_giveWater 171 = .ok (.aload 6, 2) := by decide +kernel
theorem dX2_giveWater_173 : decode cX2_giveWater 173 = .ok (.getfield 115, 3) := by decide +kernel
theorem dX2_giveWater_176 : decode cX2_giveWater 176 = .ok (.isub, 1) := by decide +kernel
theorem dX2_giveWater_177 : decode cX2_giveWater 177 = .ok (.putfield 52, 3) := by decide +kernel
theorem dX2_giveWater_180 : decode cX2_giveWater 180 = .ok (.iload 4, 2) := by decide +kernel
theorem dX2_giveWater_182 : decode cX2_giveWater 182 = .ok (.aload 6, 2) := by decide +kernel
theorem dX2_giveWater_184 : decode cX2_giveWater 184 = .ok (.getfield 115, 3) := by decide +kernel
theorem dX2_giveWater_187 : decode cX2_giveWater 187 = .ok (.iadd, 1) := by decide +kernel
theorem dX2_giveWater_188 : decode cX2_giveWater 188 = .ok (.istore 4, 2) := by decide +kernel
theorem dX2_giveWater_190 : decode cX2_giveWater 190 = .ok (.iinc 5 1, 3) := by decide +kernel
theorem dX2_giveWater_193 : decode cX2_giveWater 193 = .ok (.goto (-71), 3) := by decide +kernel
theorem dX2_giveWater_196 : decode cX2_giveWater 196 = .ok (.iload 4, 2) := by decide +kernel
theorem dX2_giveWater_198 : decode cX2_giveWater 198 = .ok (.ireturn, 1) := by decide +kernel
theorem dX2_giveLentWater_0 : decode cX2_giveLentWater 0 = .ok (.iload_n 2, 1) := by decide +kernel
theorem dX2_giveLentWater_1 : decode cX2_giveLentWater 1 = .ok (.istore 5, 2) := by decide +kernel
theorem dX2_giveLentWater_3 : decode cX2_giveLentWater 3 = .ok (.iconst 0, 1) := by decide +kernel
theorem dX2_giveLentWater_4 : decode cX2_giveLentWater 4 = .ok (.istore 6, 2) := by decide +kernel
theorem dX2_giveLentWater_6 : decode cX2_giveLentWater 6 = .ok (.iload 6, 2) := by decide +kernel
theorem dX2_giveLentWater_8 : decode cX2_giveLentWater 8 = .ok (.aload_n 0, 1) := by decide +kernel
theorem dX2_giveLentWater_9 : decode cX2_giveLentWater 9 = .ok (.getfield 28, 3) := by decide +kernel
theorem dX2_giveLentWater_12 : decode cX2_giveLentWater 12 = .ok (.invokevirtual 118, 3) := by decide +kernel
theorem dX2_giveLentWater_15 : decode cX2_giveLentWater 15 = .ok (.if_icmp .ge 85, 3) := by decide +kernel
theorem dX2_giveLentWater_18 : decode cX2_giveLentWater 18 = .ok (.aload_n 0, 1) := by decide +kernel
theorem dX2_giveLentWater_19 : decode cX2_giveLentWater 19 = .ok (.getfield 28, 3) := by decide +kernel
theorem dX2_giveLentWater_22 : decode cX2_giveLentWater 22 = .ok (.iload 6, 2) := by decide +kernel
theorem dX2_giveLentWater_24 : decode cX2_giveLentWater 24 = .ok (.iconst 0, 1) := by decide +kernel
theorem dX2_giveLentWater_25 : decode cX2_giveLentWater 25 = .ok (.invokevirtual 121, 3) := by decide +kernel
theorem dX2_giveLentWater_28 : decode cX2_giveLentWater 28 = .ok (.aload_n 1, 1) := by decide +kernel
theorem dX2_giveLentWater_29 : decode cX2_giveLentWater 29 = .ok (.getfield 125, 3) := by decide +kernel
theorem dX2_giveLentWater_32 : decode cX2_giveLentWater 32 = .ok (.if_icmp .ne 62, 3) := by decide +kernel
theorem dX2_giveLentWater_35 : decode cX2_giveLentWater 35 = .ok (.iload 5, 2) := by decide +kernel
theorem dX2_giveLentWater_37 : decode cX2_giveLentWater 37 = .ok (.aload_n 0, 1) := by decide +kernel
theorem dX2_giveLentWater_38 : decode cX2_giveLentWater 38 = .ok (.getfield 28, 3) := by decide +kernel
theorem dX2_giveLentWater_41 : decode cX2_giveLentWater 41 = .ok (.iload 6, 2) := by decide +kernel
theorem dX2_giveLentWater_43 : decode cX2_giveLentWater 43 = .ok (.iconst 2, 1) := by decide +kernel
theorem dX2_giveLentWater_44 : decode cX2_giveLentWater 44 = .ok (.invokevirtual 121, 3) := by decide +kernel
theorem dX2_giveLentWater_47 : decode cX2_giveLentWater 47 = .ok (.isub, 1) := by decide +kernel
theorem dX2_giveLentWater_48 : decode cX2_giveLentWater 48 = .ok (.istore 7, 2) := by decide +kernel
theorem dX2_giveLentWater_50 : decode cX2_giveLentWater 50 = .ok (.aload_n 0, 1) := by decide +kernel
theorem dX2_giveLentWater_51 : decode cX2_giveLentWater 51 = .ok (.getfield 21, 3) := by decide +kernel
theorem dX2_giveLentWater_54 : decode cX2_giveLentWater 54 = .ok (.aload_n 0, 1) := by decide +kernel
theorem dX2_giveLentWater_55 : decode cX2_giveLentWater 55 = .ok (.getfield 28, 3) := by decide +kernel
theorem dX2_giveLentWater_58 : decode cX2_giveLentWater 58 = .ok (.iload 6, 2) := by decide +kernel
theorem dX2_giveLentWater_60 : decode cX2_giveLentWater 60 = .ok (.iconst 1, 1) := by decide +kernel
theorem dX2_giveLentWater_61 : decode cX2_giveLentWater 61 = .ok (.invokevirtual 121, 3) := by decide +kernel
theorem dX2_giveLentWater_64 : decode cX2_giveLentWater 64 = .ok (.invokevirtual 128, 3) := by decide +kernel
theorem dX2_giveLentWater_67 : decode cX2_giveLentWater 67 = .ok (.astore 8, 2) := by decide +kernel
theorem dX2_giveLentWater_69 : decode cX2_giveLentWater 69 = .ok (.aload 8, 2) := by decide +kernel
theorem dX2_giveLentWater_71 : decode cX2_giveLentWater 71 = .ok (.dup, 1) := by decide +kernel
theorem dX2_giveLentWater_72 : decode cX2_giveLentWater 72 = .ok (.getfield 104, 3) := by decide +kernel
theorem dX2_giveLentWater_75 : decode cX2_giveLentWater 75 = .ok (.iload 7, 2) := by decide +kernel
theorem dX2_giveLentWater_77 : decode cX2_giveLentWater 77 = .ok (.iload 5, 2) := by decide +kernel
theorem dX2_giveLentWater_79 : decode cX2_giveLentWater 79 = .ok (.iload_n 3, 1) := by decide +kernel
theorem dX2_giveLentWater_80 : decode cX2_giveLentWater 80 = .ok (.invokestatic 107, 3) := by decide +kernel
theorem dX2_giveLentWater_83 : decode cX2_giveLentWater 83 = .ok (.iload 4, 2) := by decide +kernel
theorem dX2_giveLentWater_85 : decode cX2_giveLentWater 85 = .ok (.imul, 1) := by decide +kernel
theorem dX2_giveLentWater_86 : decode cX2_giveLentWater 86 = .ok (.iadd, 1) := by decide +kernel
theorem dX2_giveLentWater_87 : decode cX2_giveLentWater 87 = .ok (.putfield 104, 3) := by decide +kernel
theorem dX2_giveLentWater_90 : decode cX2_giveLentWater 90 = .ok (.iload 7, 2) := by decide +kernel
theorem dX2_giveLentWater_92 : decode cX2_giveLentWater 92 = .ok (.istore 5, 2) := by decide +kernel
theorem dX2_giveLentWater_94 : decode cX2_giveLentWater 94 = .ok (.iinc 6 1, 3) := by decide +kernel
theorem dX2_giveLentWater_97 : decode cX2_giveLentWater 97 = .ok (.goto (-91), 3) := by decide +kernel
theorem dX2_giveLentWater_100 : decode cX2_giveLentWater 100 = .ok (.iload 5, 2) := by decide +kernel
theorem dX2_giveLentWater_102 : decode cX2_giveLentWater 102 = .ok (.ireturn, 1) := by decide +kernel
theorem dX2_bowlsOfDay_0 : decode cX2_bowlsOfDay 0 = .ok (.iload_n 0, 1) := by decide +kernel
theorem dX2_bowlsOfDay_1 : decode cX2_bowlsOfDay 1 = .ok (.iload_n 2, 1) := by decide +kernel
theorem dX2_bowlsOfDay_2 : decode cX2_bowlsOfDay 2 = .ok (.invokestatic 131, 3) := by decide +kernel
theorem dX2_bowlsOfDay_5 : decode cX2_bowlsOfDay 5 = .ok (.istore_n 3, 1) := by decide +kernel
theorem dX2_bowlsOfDay_6 : decode cX2_bowlsOfDay 6 = .ok (.iload_n 1, 1) := by decide +kernel
theorem dX2_bowlsOfDay_7 : decode cX2_bowlsOfDay 7 = .ok (.iload_n 2, 1) := by decide +kernel
theorem dX2_bowlsOfDay_8 : decode cX2_bowlsOfDay 8 = .ok (.sipush 720, 3) := by decide +kernel
theorem dX2_bowlsOfDay_11 : decode cX2_bowlsOfDay 11 = .ok (.iadd, 1) := by decide +kernel
theorem dX2_bowlsOfDay_12 : decode cX2_bowlsOfDay 12 = .ok (.invokestatic 136, 3) := by decide +kernel
theorem dX2_bowlsOfDay_15 : decode cX2_bowlsOfDay 15 = .ok (.istore 4, 2) := by decide +kernel
theorem dX2_bowlsOfDay_17 : decode cX2_bowlsOfDay 17 = .ok (.iconst 0, 1) := by decide +kernel
theorem dX2_bowlsOfDay_18 : decode cX2_bowlsOfDay 18 = .ok (.iload 4, 2) := by decide +kernel
theorem dX2_bowlsOfDay_20 : decode cX2_bowlsOfDay 20 = .ok (.iload_n 3, 1) := by decide +kernel
theorem dX2_bowlsOfDay_21 : decode cX2_bowlsOfDay 21 = .ok (.isub, 1) := by decide +kernel
theorem dX2_bowlsOfDay_22 : decode cX2_bowlsOfDay 22 = .ok (.invokestatic 131, 3) := by decide +kernel
theorem dX2_bowlsOfDay_25 : decode cX2_bowlsOfDay 25 = .ok (.ireturn, 1) := by decide +kernel
theorem dX2_deliverSales_0 : decode cX2_deliverSales 0 = .ok (.iconst 0, 1) := by decide +kernel
theorem dX2_deliverSales_1 : decode cX2_deliverSales 1 = .ok (.istore_n 1, 1) := by decide +kernel
theorem dX2_deliverSales_2 : decode cX2_deliverSales 2 = .ok (.iload_n 1, 1) := by decide +kernel
theorem dX2_deliverSales_3 : decode cX2_deliverSales 3 = .ok (.aload_n 0, 1) := by decide +kernel
theorem dX2_deliverSales_4 : decode cX2_deliverSales 4 = .ok (.getfield 32, 3) := by decide +kernel
theorem dX2_deliverSales_7 : decode cX2_deliverSales 7 = .ok (.invokevirtual 118, 3) := by decide +kernel
theorem dX2_deliverSales_10 : decode cX2_deliverSales 10 = .ok (.if_icmp .ge 99, 3) := by decide +kernel
theorem dX2_deliverSales_13 : decode cX2_deliverSales 13 = .ok (.aload_n 0, 1) := by decide +kernel
theorem dX2_deliverSales_14 : decode cX2_deliverSales 14 = .ok (.getfield 21, 3) := by decide +kernel
theorem dX2_deliverSales_17 : decode cX2_deliverSales 17 = .ok (.aload_n 0, 1) := by decide +kernel
theorem dX2_deliverSales_18 : decode cX2_deliverSales 18 = .ok (.getfield 32, 3) := by decide +kernel
theorem dX2_deliverSales_21 : decode cX2_deliverSales 21 = .ok (.iload_n 1, 1) := by decide +kernel
theorem dX2_deliverSales_22 : decode cX2_deliverSales 22 = .ok (.iconst 0, 1) := by decide +kernel
theorem dX2_deliverSales_23 : decode cX2_deliverSales 23 = .ok (.invokevirtual 121, 3) := by decide +kernel
theorem dX2_deliverSales_26 : decode cX2_deliverSales 26 = .ok (.invokevirtual 128, 3) := by decide +kernel
theorem dX2_deliverSales_29 : decode cX2_deliverSales 29 = .ok (.astore_n 2, 1) := by decide +kernel
theorem dX2_deliverSales_30 : decode cX2_deliverSales 30 = .ok (.aload_n 0, 1) := by decide +kernel
theorem dX2_deliverSales_31 : decode cX2_deliverSales 31 = .ok (.getfield 21, 3) := by decide +kernel
theorem dX2_deliverSales_34 : decode cX2_deliverSales 34 = .ok (.aload_n 0, 1) := by decide +kernel
theorem dX2_deliverSales_35 : decode cX2_deliverSales 35 = .ok (.getfield 32, 3) := by decide +kernel
theorem dX2_deliverSales_38 : decode cX2_deliverSales 38 = .ok (.iload_n 1, 1) := by decide +kernel
theorem dX2_deliverSales_39 : decode cX2_deliverSales 39 = .ok (.iconst 1, 1) := by decide +kernel
theorem dX2_deliverSales_40 : decode cX2_deliverSales 40 = .ok (.invokevirtual 121, 3) := by decide +kernel
theorem dX2_deliverSales_43 : decode cX2_deliverSales 43 = .ok (.invokevirtual 128, 3) := by decide +kernel
theorem dX2_deliverSales_46 : decode cX2_deliverSales 46 = .ok (.astore_n 3, 1) := by decide +kernel
theorem dX2_deliverSales_47 : decode cX2_deliverSales 47 = .ok (.aload_n 0, 1) := by decide +kernel
theorem dX2_deliverSales_48 : decode cX2_deliverSales 48 = .ok (.getfield 32, 3) := by decide +kernel
theorem dX2_deliverSales_51 : decode cX2_deliverSales 51 = .ok (.iload_n 1, 1) := by decide +kernel
theorem dX2_deliverSales_52 : decode cX2_deliverSales 52 = .ok (.iconst 2, 1) := by decide +kernel
theorem dX2_deliverSales_53 : decode cX2_deliverSales 53 = .ok (.invokevirtual 121, 3) := by decide +kernel
theorem dX2_deliverSales_56 : decode cX2_deliverSales 56 = .ok (.istore 4, 2) := by decide +kernel
theorem dX2_deliverSales_58 : decode cX2_deliverSales 58 = .ok (.iload 4, 2) := by decide +kernel
theorem dX2_deliverSales_60 : decode cX2_deliverSales 60 = .ok (.aload_n 2, 1) := by decide +kernel
theorem dX2_deliverSales_61 : decode cX2_deliverSales 61 = .ok (.getfield 139, 3) := by decide +kernel
theorem dX2_deliverSales_64 : decode cX2_deliverSales 64 = .ok (.invokestatic 136, 3) := by decide +kernel
theorem dX2_deliverSales_67 : decode cX2_deliverSales 67 = .ok (.istore 5, 2) := by decide +kernel
theorem dX2_deliverSales_69 : decode cX2_deliverSales 69 = .ok (.aload_n 2, 1) := by decide +kernel
theorem dX2_deliverSales_70 : decode cX2_deliverSales 70 = .ok (.dup, 1) := by decide +kernel
theorem dX2_deliverSales_71 : decode cX2_deliverSales 71 = .ok (.getfield 139, 3) := by decide +kernel
theorem dX2_deliverSales_74 : decode cX2_deliverSales 74 = .ok (.iload 5, 2) := by decide +kernel
theorem dX2_deliverSales_76 : decode cX2_deliverSales 76 = .ok (.isub, 1) := by decide +kernel
theorem dX2_deliverSales_77 : decode cX2_deliverSales 77 = .ok (.putfield 139, 3) := by decide +kernel
theorem dX2_deliverSales_80 : decode cX2_deliverSales 80 = .ok (.aload_n 3, 1) := by decide +kernel
theorem dX2_deliverSales_81 : decode cX2_deliverSales 81 = .ok (.dup, 1) := by decide +kernel
theorem dX2_deliverSales_82 : decode cX2_deliverSales 82 = .ok (.getfield 139, 3) := by decide +kernel
theorem dX2_deliverSales_85 : decode cX2_deliverSales 85 = .ok (.iload 5, 2) := by decide +kernel
theorem dX2_deliverSales_87 : decode cX2_deliverSales 87 = .ok (.iadd, 1) := by decide +kernel
theorem dX2_deliverSales_88 : decode cX2_deliverSales 88 = .ok (.putfield 139, 3) := by decide +kernel
theorem dX2_deliverSales_91 : decode cX2_deliverSales 91 = .ok (.aload_n 2, 1) := by decide +kernel
theorem dX2_deliverSales_92 : decode cX2_deliverSales 92 = .ok (.aload_n 3, 1) := by decide +kernel
theorem dX2_deliverSales_93 : decode cX2_deliverSales 93 = .ok (.iconst 2, 1) := by decide +kernel
theorem dX2_deliverSales_94 : decode cX2_deliverSales 94 = .ok (.iload 4, 2) := by decide +kernel
theorem dX2_deliverSales_96 : decode cX2_deliverSales 96 = .ok (.iload 5, 2) := by decide +kernel
theorem dX2_deliverSales_98 : decode cX2_deliverSales 98 = .ok (.isub, 1) := by decide +kernel
theorem dX2_deliverSales_99 : decode cX2_deliverSales 99 = .ok (.imul, 1) := by decide +kernel
theorem dX2_deliverSales_100 : decode cX2_deliverSales 100 = .ok (.invokevirtual 142, 3) := by decide +kernel
theorem dX2_deliverSales_103 : decode cX2_deliverSales 103 = .ok (.iinc 1 1, 3) := by decide +kernel
theorem dX2_deliverSales_106 : decode cX2_deliverSales 106 = .ok (.goto (-104), 3) := by decide +kernel
theorem dX2_deliverSales_109 : decode cX2_deliverSales 109 = .ok (.aload_n 0, 1) := by decide +kernel
theorem dX2_deliverSales_110 : decode cX2_deliverSales 110 = .ok (.getfield 32, 3) := by decide +kernel
theorem dX2_deliverSales_113 : decode cX2_deliverSales 113 = .ok (.invokevirtual 146, 3) := by decide +kernel
theorem dX2_deliverSales_116 : decode cX2_deliverSales 116 = .ok (.return_, 1) := by decide +kernel
theorem dX2_leaveToHeirs_0 : decode cX2_leaveToHeirs 0 = .ok (.aload_n 0, 1) := by decide +kernel
theorem dX2_leaveToHeirs_1 : decode cX2_leaveToHeirs 1 = .ok (.getfield 21, 3) := by decide +kernel
theorem dX2_leaveToHeirs_4 : decode cX2_leaveToHeirs 4 = .ok (.iload_n 1, 1) := by decide +kernel
theorem dX2_leaveToHeirs_5 : decode cX2_leaveToHeirs 5 = .ok (.invokevirtual 128, 3) := by decide +kernel
theorem dX2_leaveToHeirs_8 : decode cX2_leaveToHeirs 8 = .ok (.astore 4, 2) := by decide +kernel
theorem dX2_leaveToHeirs_10 : decode cX2_leaveToHeirs 10 = .ok (.aload_n 0, 1) := by decide +kernel
theorem dX2_leaveToHeirs_11 : decode cX2_leaveToHeirs 11 = .ok (.getfield 21, 3) := by decide +kernel
theorem dX2_leaveToHeirs_14 : decode cX2_leaveToHeirs 14 = .ok (.aload 4, 2) := by decide +kernel
theorem dX2_leaveToHeirs_16 : decode cX2_leaveToHeirs 16 = .ok (.iload_n 2, 1) := by decide +kernel
theorem dX2_leaveToHeirs_17 : decode cX2_leaveToHeirs 17 = .ok (.iload_n 3, 1) := by decide +kernel
theorem dX2_leaveToHeirs_18 : decode cX2_leaveToHeirs 18 = .ok (.iadd, 1) := by decide +kernel
theorem dX2_leaveToHeirs_19 : decode cX2_leaveToHeirs 19 = .ok (.invokevirtual 149, 3) := by decide +kernel
theorem dX2_leaveToHeirs_22 : decode cX2_leaveToHeirs 22 = .ok (.istore 5, 2) := by decide +kernel
theorem dX2_leaveToHeirs_24 : decode cX2_leaveToHeirs 24 = .ok (.iconst 0, 1) := by decide +kernel
theorem dX2_leaveToHeirs_25 : decode cX2_leaveToHeirs 25 = .ok (.istore 6, 2) := by decide +kernel
theorem dX2_leaveToHeirs_27 : decode cX2_leaveToHeirs 27 = .ok (.iload 6, 2) := by decide +kernel
theorem dX2_leaveToHeirs_29 : decode cX2_leaveToHeirs 29 = .ok (.iload_n 2, 1) := by decide +kernel
theorem dX2_leaveToHeirs_30 : decode cX2_leaveToHeirs 30 = .ok (.iload_n 3, 1) := by decide +kernel
theorem dX2_leaveToHeirs_31 : decode cX2_leaveToHeirs 31 = .ok (.iadd, 1) := by decide +kernel
theorem dX2_leaveToHeirs_32 : decode cX2_leaveToHeirs 32 = .ok (.if_icmp .ge 30, 3) := by decide +kernel
theorem dX2_leaveToHeirs_35 : decode cX2_leaveToHeirs 35 = .ok (.aload_n 0, 1) := by decide +kernel
theorem dX2_leaveToHeirs_36 : decode cX2_leaveToHeirs 36 = .ok (.getfield 21, 3) := by decide +kernel
theorem dX2_leaveToHeirs_39 : decode cX2_leaveToHeirs 39 = .ok (.iload 5, 2) := by decide +kernel
theorem dX2_leaveToHeirs_41 : decode cX2_leaveToHeirs 41 = .ok (.iload 6, 2) := by decide +kernel
theorem dX2_leaveToHeirs_43 : decode cX2_leaveToHeirs 43 = .ok (.iadd, 1) := by decide +kernel
theorem dX2_leaveToHeirs_44 : decode cX2_leaveToHeirs 44 = .ok (.invokevirtual 128, 3) := by decide +kernel
theorem dX2_leaveToHeirs_47 : decode cX2_leaveToHeirs 47 = .ok (.aload 4, 2) := by decide +kernel
theorem dX2_leaveToHeirs_49 : decode cX2_leaveToHeirs 49 = .ok (.iload_n 2, 1) := by decide +kernel
theorem dX2_leaveToHeirs_50 : decode cX2_leaveToHeirs 50 = .ok (.iload_n 3, 1) := by decide +kernel
theorem dX2_leaveToHeirs_51 : decode cX2_leaveToHeirs 51 = .ok (.iload 6, 2) := by decide +kernel
theorem dX2_leaveToHeirs_53 : decode cX2_leaveToHeirs 53 = .ok (.invokevirtual 153, 3) := by decide +kernel
theorem dX2_leaveToHeirs_56 : decode cX2_leaveToHeirs 56 = .ok (.iinc 6 1, 3) := by decide +kernel
theorem dX2_leaveToHeirs_59 : decode cX2_leaveToHeirs 59 = .ok (.goto (-32), 3) := by decide +kernel
theorem dX2_leaveToHeirs_62 : decode cX2_leaveToHeirs 62 = .ok (.aload_n 0, 1) := by decide +kernel
theorem dX2_leaveToHeirs_63 : decode cX2_leaveToHeirs 63 = .ok (.getfield 28, 3) := by decide +kernel
theorem dX2_leaveToHeirs_66 : decode cX2_leaveToHeirs 66 = .ok (.iload_n 1, 1) := by decide +kernel
theorem dX2_leaveToHeirs_67 : decode cX2_leaveToHeirs 67 = .ok (.invokevirtual 157, 3) := by decide +kernel
theorem dX2_leaveToHeirs_70 : decode cX2_leaveToHeirs 70 = .ok (.aload_n 0, 1) := by decide +kernel
theorem dX2_leaveToHeirs_71 : decode cX2_leaveToHeirs 71 = .ok (.getfield 32, 3) := by decide +kernel
theorem dX2_leaveToHeirs_74 : decode cX2_leaveToHeirs 74 = .ok (.iload_n 1, 1) := by decide +kernel
theorem dX2_leaveToHeirs_75 : decode cX2_leaveToHeirs 75 = .ok (.iload 5, 2) := by decide +kernel
theorem dX2_leaveToHeirs_77 : decode cX2_leaveToHeirs 77 = .ok (.invokevirtual 160, 3) := by decide +kernel
theorem dX2_leaveToHeirs_80 : decode cX2_leaveToHeirs 80 = .ok (.iload 5, 2) := by decide +kernel
theorem dX2_leaveToHeirs_82 : decode cX2_leaveToHeirs 82 = .ok (.ireturn, 1) := by decide +kernel
theorem dX2_unlentBowls_0 : decode cX2_unlentBowls 0 = .ok (.aload_n 1, 1) := by decide +kernel
theorem dX2_unlentBowls_1 : decode cX2_unlentBowls 1 = .ok (.getfield 95, 3) := by decide +kernel
theorem dX2_unlentBowls_4 : decode cX2_unlentBowls 4 = .ok (.aload_n 0, 1) := by decide +kernel
theorem dX2_unlentBowls_5 : decode cX2_unlentBowls 5 = .ok (.getfield 28, 3) := by decide +kernel
theorem dX2_unlentBowls_8 : decode cX2_unlentBowls 8 = .ok (.iconst 0, 1) := by decide +kernel
theorem dX2_unlentBowls_9 : decode cX2_unlentBowls 9 = .ok (.aload_n 1, 1) := by decide +kernel
theorem dX2_unlentBowls_10 : decode cX2_unlentBowls 10 = .ok (.getfield 125, 3) := by decide +kernel
theorem dX2_unlentBowls_13 : decode cX2_unlentBowls 13 = .ok (.invokevirtual 164, 3) := by decide +kernel
theorem dX2_unlentBowls_16 : decode cX2_unlentBowls 16 = .ok (.isub, 1) := by decide +kernel
theorem dX2_unlentBowls_17 : decode cX2_unlentBowls 17 = .ok (.ireturn, 1) := by decide +kernel
theorem dX2_userOf_0 : decode cX2_userOf 0 = .ok (.aload_n 0, 1) := by decide +kernel
theorem dX2_userOf_1 : decode cX2_userOf 1 = .ok (.getfield 21, 3) := by decide +kernel
theorem dX2_userOf_4 : decode cX2_userOf 4 = .ok (.iload_n 1, 1) := by decide +kernel
theorem dX2_userOf_5 : decode cX2_userOf 5 = .ok (.invokevirtual 167, 3) := by decide +kernel
theorem dX2_userOf_8 : decode cX2_userOf 8 = .ok (.istore_n 2, 1) := by decide +kernel
theorem dX2_userOf_9 : decode cX2_userOf 9 = .ok (.iload_n 2, 1) := by decide +kernel
theorem dX2_userOf_10 : decode cX2_userOf 10 = .ok (.iconst (-1), 1) := by decide +kernel
theorem dX2_userOf_11 : decode cX2_userOf 11 = .ok (.if_icmp .ne 5, 3) := by decide +kernel
theorem dX2_userOf_14 : decode cX2_userOf 14 = .ok (.iconst (-1), 1) := by decide +kernel
theorem dX2_userOf_15 : decode cX2_userOf 15 = .ok (.ireturn, 1) := by decide +kernel
theorem dX2_userOf_16 : decode cX2_userOf 16 = .ok (.aload_n 0, 1) := by decide +kernel
theorem dX2_userOf_17 : decode cX2_userOf 17 = .ok (.getfield 21, 3) := by decide +kernel
theorem dX2_userOf_20 : decode cX2_userOf 20 = .ok (.iload_n 2, 1) := by decide +kernel
theorem dX2_userOf_21 : decode cX2_userOf 21 = .ok (.invokevirtual 128, 3) := by decide +kernel
theorem dX2_userOf_24 : decode cX2_userOf 24 = .ok (.astore_n 3, 1) := by decide +kernel
theorem dX2_userOf_25 : decode cX2_userOf 25 = .ok (.aload_n 0, 1) := by decide +kernel
theorem dX2_userOf_26 : decode cX2_userOf 26 = .ok (.getfield 21, 3) := by decide +kernel
theorem dX2_userOf_29 : decode cX2_userOf 29 = .ok (.aload_n 3, 1) := by decide +kernel
theorem dX2_userOf_30 : decode cX2_userOf 30 = .ok (.invokevirtual 170, 3) := by decide +kernel
theorem dX2_userOf_33 : decode cX2_userOf 33 = .ok (.aload_n 3, 1) := by decide +kernel
theorem dX2_userOf_34 : decode cX2_userOf 34 = .ok (.getfield 95, 3) := by decide +kernel
theorem dX2_userOf_37 : decode cX2_userOf 37 = .ok (.iadd, 1) := by decide +kernel
theorem dX2_userOf_38 : decode cX2_userOf 38 = .ok (.iconst 1, 1) := by decide +kernel
theorem dX2_userOf_39 : decode cX2_userOf 39 = .ok (.isub, 1) := by decide +kernel
theorem dX2_userOf_40 : decode cX2_userOf 40 = .ok (.iload_n 1, 1) := by decide +kernel
theorem dX2_userOf_41 : decode cX2_userOf 41 = .ok (.isub, 1) := by decide +kernel
theorem dX2_userOf_42 : decode cX2_userOf 42 = .ok (.istore 4, 2) := by decide +kernel
theorem dX2_userOf_44 : decode cX2_userOf 44 = .ok (.iconst 0, 1) := by decide +kernel
theorem dX2_userOf_45 : decode cX2_userOf 45 = .ok (.istore 5, 2) := by decide +kernel
theorem dX2_userOf_47 : decode cX2_userOf 47 = .ok (.iload 5, 2) := by decide +kernel
theorem dX2_userOf_49 : decode cX2_userOf 49 = .ok (.aload_n 0, 1) := by decide +kernel
theorem dX2_userOf_50 : decode cX2_userOf 50 = .ok (.getfield 28, 3) := by decide +kernel
theorem dX2_userOf_53 : decode cX2_userOf 53 = .ok (.invokevirtual 118, 3) := by decide +kernel
theorem dX2_userOf_56 : decode cX2_userOf 56 = .ok (.if_icmp .ge 64, 3) := by decide +kernel
theorem dX2_userOf_59 : decode cX2_userOf 59 = .ok (.aload_n 0, 1) := by decide +kernel
theorem dX2_userOf_60 : decode cX2_userOf 60 = .ok (.getfield 28, 3) := by decide +kernel
theorem dX2_userOf_63 : decode cX2_userOf 63 = .ok (.iload 5, 2) := by decide +kernel
theorem dX2_userOf_65 : decode cX2_userOf 65 = .ok (.iconst 0, 1) := by decide +kernel
theorem dX2_userOf_66 : decode cX2_userOf 66 = .ok (.invokevirtual 121, 3) := by decide +kernel
theorem dX2_userOf_69 : decode cX2_userOf 69 = .ok (.iload_n 2, 1) := by decide +kernel
theorem dX2_userOf_70 : decode cX2_userOf 70 = .ok (.if_icmp .ne 44, 3) := by decide +kernel
theorem dX2_userOf_73 : decode cX2_userOf 73 = .ok (.iload 4, 2) := by decide +kernel
theorem dX2_userOf_75 : decode cX2_userOf 75 = .ok (.aload_n 0, 1) := by decide +kernel
theorem dX2_userOf_76 : decode cX2_userOf 76 = .ok (.getfield 28, 3) := by decide +kernel
theorem dX2_userOf_79 : decode cX2_userOf 79 = .ok (.iload 5, 2) := by decide +kernel
theorem dX2_userOf_81 : decode cX2_userOf 81 = .ok (.iconst 2, 1) := by decide +kernel
theorem dX2_userOf_82 : decode cX2_userOf 82 = .ok (.invokevirtual 121, 3) := by decide +kernel
theorem dX2_userOf_85 : decode cX2_userOf 85 = .ok (.if_icmp .ge 14, 3) := by decide +kernel
theorem dX2_userOf_88 : decode cX2_userOf 88 = .ok (.aload_n 0, 1) := by decide +kernel
theorem dX2_userOf_89 : decode cX2_userOf 89 = .ok (.getfield 28, 3) := by decide +kernel
theorem dX2_userOf_92 : decode cX2_userOf 92 = .ok (.iload 5, 2) := by decide +kernel
theorem dX2_userOf_94 : decode cX2_userOf 94 = .ok (.iconst 1, 1) := by decide +kernel
theorem dX2_userOf_95 : decode cX2_userOf 95 = .ok (.invokevirtual 121, 3) := by decide +kernel
theorem dX2_userOf_98 : decode cX2_userOf 98 = .ok (.ireturn, 1) := by decide +kernel
theorem dX2_userOf_99 : decode cX2_userOf 99 = .ok (.iload 4, 2) := by decide +kernel
theorem dX2_userOf_101 : decode cX2_userOf 101 = .ok (.aload_n 0, 1) := by decide +kernel
theorem dX2_userOf_102 : decode cX2_userOf 102 = .ok (.getfield 28, 3) := by decide +kernel
theorem dX2_userOf_105 : decode cX2_userOf 105 = .ok (.iload 5, 2) := by decide +kernel
theorem dX2_userOf_107 : decode cX2_userOf 107 = .ok (.iconst 2, 1) := by decide +kernel
theorem dX2_userOf_108 : decode cX2_userOf 108 = .ok (.invokevirtual 121, 3) := by decide +kernel
theorem dX2_userOf_111 : decode cX2_userOf 111 = .ok (.isub, 1) := by decide +kernel
theorem dX2_userOf_112 : decode cX2_userOf 112 = .ok (.istore 4, 2) := by decide +kernel
theorem dX2_userOf_114 : decode cX2_userOf 114 = .ok (.iinc 5 1, 3) := by decide +kernel
theorem dX2_userOf_117 : decode cX2_userOf 117 = .ok (.goto (-70), 3) := by decide +kernel
theorem dX2_userOf_120 : decode cX2_userOf 120 = .ok (.iload_n 2, 1) := by decide +kernel
theorem dX2_userOf_121 : decode cX2_userOf 121 = .ok (.ireturn, 1) := by decide +kernel
theorem dX2_askOwner_0 : decode cX2_askOwner 0 = .ok (.iload_n 2, 1) := by decide +kernel
theorem dX2_askOwner_1 : decode cX2_askOwner 1 = .ok (.tableswitch 174 0 13 #[71, 76, 81, 86, 91, 96, 101, 106, 115, 135, 154, 159, 164, 169], 71) := by decide +kernel
theorem dX2_askOwner_72 : decode cX2_askOwner 72 = .ok (.aload_n 1, 1) := by decide +kernel
theorem dX2_askOwner_73 : decode cX2_askOwner 73 = .ok (.getfield 95, 3) := by decide +kernel
theorem dX2_askOwner_76 : decode cX2_askOwner 76 = .ok (.ireturn, 1) := by decide +kernel
theorem dX2_askOwner_77 : decode cX2_askOwner 77 = .ok (.aload_n 1, 1) := by decide +kernel
theorem dX2_askOwner_78 : decode cX2_askOwner 78 = .ok (.getfield 174, 3) := by decide +kernel
theorem dX2_askOwner_81 : decode cX2_askOwner 81 = .ok (.ireturn, 1) := by decide +kernel
theorem dX2_askOwner_82 : decode cX2_askOwner 82 = .ok (.aload_n 1, 1) := by decide +kernel
theorem dX2_askOwner_83 : decode cX2_askOwner 83 = .ok (.getfield 177, 3) := by decide +kernel
theorem dX2_askOwner_86 : decode cX2_askOwner 86 = .ok (.ireturn, 1) := by decide +kernel
theorem dX2_askOwner_87 : decode cX2_askOwner 87 = .ok (.aload_n 1, 1) := by decide +kernel
theorem dX2_askOwner_88 : decode cX2_askOwner 88 = .ok (.getfield 180, 3) := by decide +kernel
theorem dX2_askOwner_91 : decode cX2_askOwner 91 = .ok (.ireturn, 1) := by decide +kernel
theorem dX2_askOwner_92 : decode cX2_askOwner 92 = .ok (.aload_n 1, 1) := by decide +kernel
theorem dX2_askOwner_93 : decode cX2_askOwner 93 = .ok (.getfield 183, 3) := by decide +kernel
theorem dX2_askOwner_96 : decode cX2_askOwner 96 = .ok (.ireturn, 1) := by decide +kernel
theorem dX2_askOwner_97 : decode cX2_askOwner 97 = .ok (.aload_n 1, 1) := by decide +kernel
theorem dX2_askOwner_98 : decode cX2_askOwner 98 = .ok (.getfield 186, 3) := by decide +kernel
theorem dX2_askOwner_101 : decode cX2_askOwner 101 = .ok (.ireturn, 1) := by decide +kernel
theorem dX2_askOwner_102 : decode cX2_askOwner 102 = .ok (.aload_n 1, 1) := by decide +kernel
theorem dX2_askOwner_103 : decode cX2_askOwner 103 = .ok (.getfield 139, 3) := by decide +kernel
theorem dX2_askOwner_106 : decode cX2_askOwner 106 = .ok (.ireturn, 1) := by decide +kernel
theorem dX2_askOwner_107 : decode cX2_askOwner 107 = .ok (.aload_n 0, 1) := by decide +kernel
theorem dX2_askOwner_108 : decode cX2_askOwner 108 = .ok (.getfield 21, 3) := by decide +kernel
theorem dX2_askOwner_111 : decode cX2_askOwner 111 = .ok (.aload_n 1, 1) := by decide +kernel
theorem dX2_askOwner_112 : decode cX2_askOwner 112 = .ok (.invokevirtual 189, 3) := by decide +kernel
theorem dX2_askOwner_115 : decode cX2_askOwner 115 = .ok (.ireturn, 1) := by decide +kernel
theorem dX2_askOwner_116 : decode cX2_askOwner 116 = .ok (.aload_n 1, 1) := by decide +kernel
theorem dX2_askOwner_117 : decode cX2_askOwner 117 = .ok (.getfield 95, 3) := by decide +kernel
theorem dX2_askOwner_120 : decode cX2_askOwner 120 = .ok (.ifCond .le 14, 3) := by decide +kernel
theorem dX2_askOwner_123 : decode cX2_askOwner 123 = .ok (.aload_n 0, 1) := by decide +kernel
theorem dX2_askOwner_124 : decode cX2_askOwner 124 = .ok (.getfield 21, 3) := by decide +kernel
theorem dX2_askOwner_127 : decode cX2_askOwner 127 = .ok (.aload_n 1, 1) := by decide +kernel
theorem dX2_askOwner_128 : decode cX2_askOwner 128 = .ok (.invokevirtual 170, 3) := by decide +kernel
theorem dX2_askOwner_131 : decode cX2_askOwner 131 = .ok (.goto 4, 3) := by decide +kernel
theorem dX2_askOwner_134 : decode cX2_askOwner 134 = .ok (.iconst (-1), 1) := by decide +kernel
theorem dX2_askOwner_135 : decode cX2_askOwner 135 = .ok (.ireturn, 1) := by decide +kernel
theorem dX2_askOwner_136 : decode cX2_askOwner 136 = .ok (.aload_n 0, 1) := by decide +kernel
theorem dX2_askOwner_137 : decode cX2_askOwner 137 = .ok (.aload_n 1, 1) := by decide +kernel
theorem dX2_askOwner_138 : decode cX2_askOwner 138 = .ok (.invokevirtual 192, 3) := by decide +kernel
theorem dX2_askOwner_141 : decode cX2_askOwner 141 = .ok (.aload_n 0, 1) := by decide +kernel
theorem dX2_askOwner_142 : decode cX2_askOwner 142 = .ok (.getfield 28, 3) := by decide +kernel
theorem dX2_askOwner_145 : decode cX2_askOwner 145 = .ok (.iconst 1, 1) := by decide +kernel
theorem dX2_askOwner_146 : decode cX2_askOwner 146 = .ok (.aload_n 1, 1) := by decide +kernel
theorem dX2_askOwner_147 : decode cX2_askOwner 147 = .ok (.getfield 125, 3) := by decide +kernel
theorem dX2_askOwner_150 : decode cX2_askOwner 150 = .ok (.invokevirtual 164, 3) := by decide +kernel
theorem dX2_askOwner_153 : decode cX2_askOwner 153 = .ok (.iadd, 1) := by decide +kernel
theorem dX2_askOwner_154 : decode cX2_askOwner 154 = .ok (.ireturn, 1) := by decide +kernel
theorem dX2_askOwner_155 : decode cX2_askOwner 155 = .ok (.aload_n 1, 1) := by decide +kernel
theorem dX2_askOwner_156 : decode cX2_askOwner 156 = .ok (.getfield 195, 3) := by decide +kernel
theorem dX2_askOwner_159 : decode cX2_askOwner 159 = .ok (.ireturn, 1) := by decide +kernel
theorem dX2_askOwner_160 : decode cX2_askOwner 160 = .ok (.aload_n 1, 1) := by decide +kernel
theorem dX2_askOwner_161 : decode cX2_askOwner 161 = .ok (.invokevirtual 198, 3) := by decide +kernel
theorem dX2_askOwner_164 : decode cX2_askOwner 164 = .ok (.ireturn, 1) := by decide +kernel
theorem dX2_askOwner_165 : decode cX2_askOwner 165 = .ok (.aload_n 1, 1) := by decide +kernel
theorem dX2_askOwner_166 : decode cX2_askOwner 166 = .ok (.getfield 115, 3) := by decide +kernel
theorem dX2_askOwner_169 : decode cX2_askOwner 169 = .ok (.ireturn, 1) := by decide +kernel
theorem dX2_askOwner_170 : decode cX2_askOwner 170 = .ok (.aload_n 1, 1) := by decide +kernel
theorem dX2_askOwner_171 : decode cX2_askOwner 171 = .ok (.getfield 201, 3) := by decide +kernel
theorem dX2_askOwner_174 : decode cX2_askOwner 174 = .ok (.ireturn, 1) := by decide +kernel
theorem dX2_askOwner_175 : decode cX2_askOwner 175 = .ok (.iconst (-1), 1) := by decide +kernel
theorem dX2_askOwner_176 : decode cX2_askOwner 176 = .ok (.ireturn, 1) := by decide +kernel
theorem dX2_askAll_0 : decode cX2_askAll 0 = .ok (.iload_n 1, 1) := by decide +kernel
theorem dX2_askAll_1 : decode cX2_askAll 1 = .ok (.tableswitch 192 0 15 #[79, 84, 89, 97, 105, 113, 121, 129, 137, 145, 153, 161, 169, 174, 179, 184], 79) := by decide +kernel
theorem dX2_askAll_80 : decode cX2_askAll 80 = .ok (.aload_n 0, 1) := by decide +kernel
theorem dX2_askAll_81 : decode cX2_askAll 81 = .ok (.getfield 45, 3) := by decide +kernel
theorem dX2_askAll_84 : decode cX2_askAll 84 = .ok (.ireturn, 1) := by decide +kernel
theorem dX2_askAll_85 : decode cX2_askAll 85 = .ok (.aload_n 0, 1) := by decide +kernel
theorem dX2_askAll_86 : decode cX2_askAll 86 = .ok (.invokevirtual 58, 3) := by decide +kernel
theorem dX2_askAll_89 : decode cX2_askAll 89 = .ok (.ireturn, 1) := by decide +kernel
theorem dX2_askAll_90 : decode cX2_askAll 90 = .ok (.aload_n 0, 1) := by decide +kernel
theorem dX2_askAll_91 : decode cX2_askAll 91 = .ok (.getfield 12, 3) := by decide +kernel
theorem dX2_askAll_94 : decode cX2_askAll 94 = .ok (.getfield 204, 3) := by decide +kernel
theorem dX2_askAll_97 : decode cX2_askAll 97 = .ok (.ireturn, 1) := by decide +kernel
theorem dX2_askAll_98 : decode cX2_askAll 98 = .ok (.aload_n 0, 1) := by decide +kernel
theorem dX2_askAll_99 : decode cX2_askAll 99 = .ok (.getfield 12, 3) := by decide +kernel
theorem dX2_askAll_102 : decode cX2_askAll 102 = .ok (.invokevirtual 85, 3) := by decide +kernel
theorem dX2_askAll_105 : decode cX2_askAll 105 = .ok (.ireturn, 1) := by decide +kernel
theorem dX2_askAll_106 : decode cX2_askAll 106 = .ok (.aload_n 0, 1) := by decide +kernel
theorem dX2_askAll_107 : decode cX2_askAll 107 = .ok (.getfield 12, 3) := by decide +kernel
theorem dX2_askAll_110 : decode cX2_askAll 110 = .ok (.getfield 207, 3) := by decide +kernel
theorem dX2_askAll_113 : decode cX2_askAll 113 = .ok (.ireturn, 1) := by decide +kernel
theorem dX2_askAll_114 : decode cX2_askAll 114 = .ok (.aload_n 0, 1) := by decide +kernel
theorem dX2_askAll_115 : decode cX2_askAll 115 = .ok (.getfield 12, 3) := by decide +kernel
theorem dX2_askAll_118 : decode cX2_askAll 118 = .ok (.getfield 210, 3) := by decide +kernel
theorem dX2_askAll_121 : decode cX2_askAll 121 = .ok (.ireturn, 1) := by decide +kernel
theorem dX2_askAll_122 : decode cX2_askAll 122 = .ok (.aload_n 0, 1) := by decide +kernel
theorem dX2_askAll_123 : decode cX2_askAll 123 = .ok (.getfield 12, 3) := by decide +kernel
theorem dX2_askAll_126 : decode cX2_askAll 126 = .ok (.getfield 213, 3) := by decide +kernel
theorem dX2_askAll_129 : decode cX2_askAll 129 = .ok (.ireturn, 1) := by decide +kernel
theorem dX2_askAll_130 : decode cX2_askAll 130 = .ok (.aload_n 0, 1) := by decide +kernel
theorem dX2_askAll_131 : decode cX2_askAll 131 = .ok (.getfield 21, 3) := by decide +kernel
theorem dX2_askAll_134 : decode cX2_askAll 134 = .ok (.invokevirtual 88, 3) := by decide +kernel
theorem dX2_askAll_137 : decode cX2_askAll 137 = .ok (.ireturn, 1) := by decide +kernel
theorem dX2_askAll_138 : decode cX2_askAll 138 = .ok (.aload_n 0, 1) := by decide +kernel
theorem dX2_askAll_139 : decode cX2_askAll 139 = .ok (.getfield 21, 3) := by decide +kernel
theorem dX2_askAll_142 : decode cX2_askAll 142 = .ok (.invokevirtual 216, 3) := by decide +kernel
theorem dX2_askAll_145 : decode cX2_askAll 145 = .ok (.ireturn, 1) := by decide +kernel
theorem dX2_askAll_146 : decode cX2_askAll 146 = .ok (.aload_n 0, 1) := by decide +kernel
theorem dX2_askAll_147 : decode cX2_askAll 147 = .ok (.getfield 21, 3) := by decide +kernel
theorem dX2_askAll_150 : decode cX2_askAll 150 = .ok (.invokevirtual 219, 3) := by decide +kernel
theorem dX2_askAll_153 : decode cX2_askAll 153 = .ok (.ireturn, 1) := by decide +kernel
theorem dX2_askAll_154 : decode cX2_askAll 154 = .ok (.aload_n 0, 1) := by decide +kernel
theorem dX2_askAll_155 : decode cX2_askAll 155 = .ok (.getfield 28, 3) := by decide +kernel
theorem dX2_askAll_158 : decode cX2_askAll 158 = .ok (.invokevirtual 118, 3) := by decide +kernel
theorem dX2_askAll_161 : decode cX2_askAll 161 = .ok (.ireturn, 1) := by decide +kernel
theorem dX2_askAll_162 : decode cX2_askAll 162 = .ok (.aload_n 0, 1) := by decide +kernel
theorem dX2_askAll_163 : decode cX2_askAll 163 = .ok (.getfield 32, 3) := by decide +kernel
theorem dX2_askAll_166 : decode cX2_askAll 166 = .ok (.invokevirtual 118, 3) := by decide +kernel
theorem dX2_askAll_169 : decode cX2_askAll 169 = .ok (.ireturn, 1) := by decide +kernel
theorem dX2_askAll_170 : decode cX2_askAll 170 = .ok (.aload_n 0, 1) := by decide +kernel
theorem dX2_askAll_171 : decode cX2_askAll 171 = .ok (.getfield 49, 3) := by decide +kernel
theorem dX2_askAll_174 : decode cX2_askAll 174 = .ok (.ireturn, 1) := by decide +kernel
theorem dX2_askAll_175 : decode cX2_askAll 175 = .ok (.aload_n 0, 1) := by decide +kernel
theorem dX2_askAll_176 : decode cX2_askAll 176 = .ok (.getfield 52, 3) := by decide +kernel
theorem dX2_askAll_179 : decode cX2_askAll 179 = .ok (.ireturn, 1) := by decide +kernel
theorem dX2_askAll_180 : decode cX2_askAll 180 = .ok (.aload_n 0, 1) := by decide +kernel
theorem dX2_askAll_181 : decode cX2_askAll 181 = .ok (.getfield 55, 3) := by decide +kernel
theorem dX2_askAll_184 : decode cX2_askAll 184 = .ok (.ireturn, 1) := by decide +kernel
theorem dX2_askAll_185 : decode cX2_askAll 185 = .ok (.aload_n 0, 1) := by decide +kernel
theorem dX2_askAll_186 : decode cX2_askAll 186 = .ok (.getfield 21, 3) := by decide +kernel
theorem dX2_askAll_189 : decode cX2_askAll 189 = .ok (.invokevirtual 222, 3) := by decide +kernel
theorem dX2_askAll_192 : decode cX2_askAll 192 = .ok (.ireturn, 1) := by decide +kernel
theorem dX2_askAll_193 : decode cX2_askAll 193 = .ok (.iconst (-1), 1) := by decide +kernel
theorem dX2_askAll_194 : decode cX2_askAll 194 = .ok (.ireturn, 1) := by decide +kernel
theorem dX3_init_0 : decode cX3_init 0 = .ok (.aload_n 0, 1) := by decide +kernel
theorem dX3_init_1 : decode cX3_init 1 = .ok (.invokespecial 3, 3) := by decide +kernel
theorem dX3_init_4 : decode cX3_init 4 = .ok (.aload_n 0, 1) := by decide +kernel
theorem dX3_init_5 : decode cX3_init 5 = .ok (.iload_n 1, 1) := by decide +kernel
theorem dX3_init_6 : decode cX3_init 6 = .ok (.putfield 9, 3) := by decide +kernel
theorem dX3_init_9 : decode cX3_init 9 = .ok (.return_, 1) := by decide +kernel
theorem dX3_becomeLike_0 : decode cX3_becomeLike 0 = .ok (.aload_n 0, 1) := by decide +kernel
theorem dX3_becomeLike_1 : decode cX3_becomeLike 1 = .ok (.aload_n 1, 1) := by decide +kernel
theorem dX3_becomeLike_2 : decode cX3_becomeLike 2 = .ok (.getfield 15, 3) := by decide +kernel
theorem dX3_becomeLike_5 : decode cX3_becomeLike 5 = .ok (.putfield 15, 3) := by decide +kernel
theorem dX3_becomeLike_8 : decode cX3_becomeLike 8 = .ok (.aload_n 0, 1) := by decide +kernel
theorem dX3_becomeLike_9 : decode cX3_becomeLike 9 = .ok (.aload_n 1, 1) := by decide +kernel
theorem dX3_becomeLike_10 : decode cX3_becomeLike 10 = .ok (.getfield 19, 3) := by decide +kernel
theorem dX3_becomeLike_13 : decode cX3_becomeLike 13 = .ok (.putfield 19, 3) := by decide +kernel
theorem dX3_becomeLike_16 : decode cX3_becomeLike 16 = .ok (.aload_n 0, 1) := by decide +kernel
theorem dX3_becomeLike_17 : decode cX3_becomeLike 17 = .ok (.aload_n 1, 1) := by decide +kernel
theorem dX3_becomeLike_18 : decode cX3_becomeLike 18 = .ok (.getfield 22, 3) := by decide +kernel
theorem dX3_becomeLike_21 : decode cX3_becomeLike 21 = .ok (.putfield 22, 3) := by decide +kernel
theorem dX3_becomeLike_24 : decode cX3_becomeLike 24 = .ok (.aload_n 0, 1) := by decide +kernel
theorem dX3_becomeLike_25 : decode cX3_becomeLike 25 = .ok (.aload_n 1, 1) := by decide +kernel
theorem dX3_becomeLike_26 : decode cX3_becomeLike 26 = .ok (.getfield 25, 3) := by decide +kernel
theorem dX3_becomeLike_29 : decode cX3_becomeLike 29 = .ok (.putfield 25, 3) := by decide +kernel
theorem dX3_becomeLike_32 : decode cX3_becomeLike 32 = .ok (.aload_n 0, 1) := by decide +kernel
theorem dX3_becomeLike_33 : decode cX3_becomeLike 33 = .ok (.aload_n 1, 1) := by decide +kernel
theorem dX3_becomeLike_34 : decode cX3_becomeLike 34 = .ok (.getfield 28, 3) := by decide +kernel
theorem dX3_becomeLike_37 : decode cX3_becomeLike 37 = .ok (.putfield 28, 3) := by decide +kernel
theorem dX3_becomeLike_40 : decode cX3_becomeLike 40 = .ok (.aload_n 0, 1) := by decide +kernel
theorem dX3_becomeLike_41 : decode cX3_becomeLike 41 = .ok (.aload_n 1, 1) := by decide +kernel
theorem dX3_becomeLike_42 : decode cX3_becomeLike 42 = .ok (.getfield 31, 3) := by decide +kernel
theorem dX3_becomeLike_45 : decode cX3_becomeLike 45 = .ok (.putfield 31, 3) := by decide +kernel
theorem dX3_becomeLike_48 : decode cX3_becomeLike 48 = .ok (.aload_n 0, 1) := by decide +kernel
theorem dX3_becomeLike_49 : decode cX3_becomeLike 49 = .ok (.aload_n 1, 1) := by decide +kernel
theorem dX3_becomeLike_50 : decode cX3_becomeLike 50 = .ok (.getfield 34, 3) := by decide +kernel
theorem dX3_becomeLike_53 : decode cX3_becomeLike 53 = .ok (.putfield 34, 3) := by decide +kernel
theorem dX3_becomeLike_56 : decode cX3_becomeLike 56 = .ok (.aload_n 0, 1) := by decide +kernel
theorem dX3_becomeLike_57 : decode cX3_becomeLike 57 = .ok (.aload_n 1, 1) := by decide +kernel
theorem dX3_becomeLike_58 : decode cX3_becomeLike 58 = .ok (.getfield 37, 3) := by decide +kernel
theorem dX3_becomeLike_61 : decode cX3_becomeLike 61 = .ok (.putfield 37, 3) := by decide +kernel
theorem dX3_becomeLike_64 : decode cX3_becomeLike 64 = .ok (.aload_n 0, 1) := by decide +kernel
theorem dX3_becomeLike_65 : decode cX3_becomeLike 65 = .ok (.aload_n 1, 1) := by decide +kernel
theorem dX3_becomeLike_66 : decode cX3_becomeLike 66 = .ok (.getfield 40, 3) := by decide +kernel
theorem dX3_becomeLike_69 : decode cX3_becomeLike 69 = .ok (.putfield 40, 3) := by decide +kernel
theorem dX3_becomeLike_72 : decode cX3_becomeLike 72 = .ok (.aload_n 0, 1) := by decide +kernel
theorem dX3_becomeLike_73 : decode cX3_becomeLike 73 = .ok (.aload_n 1, 1) := by decide +kernel
theorem dX3_becomeLike_74 : decode cX3_becomeLike 74 = .ok (.getfield 43, 3) := by decide +kernel
theorem dX3_becomeLike_77 : decode cX3_becomeLike 77 = .ok (.putfield 43, 3) := by decide +kernel
theorem dX3_becomeLike_80 : decode cX3_becomeLike 80 = .ok (.aload_n 0, 1) := by decide +kernel
theorem dX3_becomeLike_81 : decode cX3_becomeLike 81 = .ok (.aload_n 1, 1) := by decide +kernel
theorem dX3_becomeLike_82 : decode cX3_becomeLike 82 = .ok (.getfield 46, 3) := by decide +kernel
theorem dX3_becomeLike_85 : decode cX3_becomeLike 85 = .ok (.putfield 46, 3) := by decide +kernel
theorem dX3_becomeLike_88 : decode cX3_becomeLike 88 = .ok (.aload_n 0, 1) := by decide +kernel
theorem dX3_becomeLike_89 : decode cX3_becomeLike 89 = .ok (.aload_n 1, 1) := by decide +kernel
theorem dX3_becomeLike_90 : decode cX3_becomeLike 90 = .ok (.getfield 49, 3) := by decide +kernel
theorem dX3_becomeLike_93 : decode cX3_becomeLike 93 = .ok (.putfield 49, 3) := by decide +kernel
theorem dX3_becomeLike_96 : decode cX3_becomeLike 96 = .ok (.aload_n 0, 1) := by decide +kernel
theorem dX3_becomeLike_97 : decode cX3_becomeLike 97 = .ok (.aload_n 1, 1) := by decide +kernel
theorem dX3_becomeLike_98 : decode cX3_becomeLike 98 = .ok (.getfield 52, 3) := by decide +kernel
theorem dX3_becomeLike_101 : decode cX3_becomeLike 101 = .ok (.putfield 52, 3) := by decide +kernel
theorem dX3_becomeLike_104 : decode cX3_becomeLike 104 = .ok (.aload_n 0, 1) := by decide +kernel
theorem dX3_becomeLike_105 : decode cX3_becomeLike 105 = .ok (.aload_n 1, 1) := by decide +kernel
theorem dX3_becomeLike_106 : decode cX3_becomeLike 106 = .ok (.getfield 55, 3) := by decide +kernel
theorem dX3_becomeLike_109 : decode cX3_becomeLike 109 = .ok (.putfield 55, 3) := by decide +kernel
theorem dX3_becomeLike_112 : decode cX3_becomeLike 112 = .ok (.return_, 1) := by decide +kernel
theorem dX3_settle_0 : decode cX3_settle 0 = .ok (.aload_n 0, 1) := by decide +kernel
theorem dX3_settle_1 : decode cX3_settle 1 = .ok (.iload_n 1, 1) := by decide +kernel
theorem dX3_settle_2 : decode cX3_settle 2 = .ok (.putfield 19, 3) := by decide +kernel
theorem dX3_settle_5 : decode cX3_settle 5 = .ok (.aload_n 0, 1) := by decide +kernel
theorem dX3_settle_6 : decode cX3_settle 6 = .ok (.iload_n 2, 1) := by decide +kernel
theorem dX3_settle_7 : decode cX3_settle 7 = .ok (.putfield 22, 3) := by decide +kernel
theorem dX3_settle_10 : decode cX3_settle 10 = .ok (.aload_n 0, 1) := by decide +kernel
theorem dX3_settle_11 : decode cX3_settle 11 = .ok (.iload_n 3, 1) := by decide +kernel
theorem dX3_settle_12 : decode cX3_settle 12 = .ok (.putfield 25, 3) := by decide +kernel
theorem dX3_settle_15 : decode cX3_settle 15 = .ok (.aload_n 0, 1) := by decide +kernel
theorem dX3_settle_16 : decode cX3_settle 16 = .ok (.iload 4, 2) := by decide +kernel
theorem dX3_settle_18 : decode cX3_settle 18 = .ok (.putfield 28, 3) := by decide +kernel
theorem dX3_settle_21 : decode cX3_settle 21 = .ok (.aload_n 0, 1) := by decide +kernel
theorem dX3_settle_22 : decode cX3_settle 22 = .ok (.bipush 50, 2) := by decide +kernel
theorem dX3_settle_24 : decode cX3_settle 24 = .ok (.putfield 31, 3) := by decide +kernel
theorem dX3_settle_27 : decode cX3_settle 27 = .ok (.return_, 1) := by decide +kernel
theorem dX3_inherit_0 : decode cX3_inherit 0 = .ok (.aload_n 0, 1) := by decide +kernel
theorem dX3_inherit_1 : decode cX3_inherit 1 = .ok (.aload_n 1, 1) := by decide +kernel
theorem dX3_inherit_2 : decode cX3_inherit 2 = .ok (.getfield 19, 3) := by decide +kernel
theorem dX3_inherit_5 : decode cX3_inherit 5 = .ok (.iload_n 2, 1) := by decide +kernel
theorem dX3_inherit_6 : decode cX3_inherit 6 = .ok (.iload_n 3, 1) := by decide +kernel
theorem dX3_inherit_7 : decode cX3_inherit 7 = .ok (.iload 4, 2) := by decide +kernel
theorem dX3_inherit_9 : decode cX3_inherit 9 = .ok (.invokestatic 58, 3) := by decide +kernel
theorem dX3_inherit_12 : decode cX3_inherit 12 = .ok (.putfield 19, 3) := by decide +kernel
theorem dX3_inherit_15 : decode cX3_inherit 15 = .ok (.aload_n 0, 1) := by decide +kernel
theorem dX3_inherit_16 : decode cX3_inherit 16 = .ok (.aload_n 1, 1) := by decide +kernel
theorem dX3_inherit_17 : decode cX3_inherit 17 = .ok (.getfield 22, 3) := by decide +kernel
theorem dX3_inherit_20 : decode cX3_inherit 20 = .ok (.iload_n 2, 1) := by decide +kernel
theorem dX3_inherit_21 : decode cX3_inherit 21 = .ok (.iload_n 3, 1) := by decide +kernel
theorem dX3_inherit_22 : decode cX3_inherit 22 = .ok (.iload 4, 2) := by decide +kernel
theorem dX3_inherit_24 : decode cX3_inherit 24 = .ok (.invokestatic 58, 3) := by decide +kernel
theorem dX3_inherit_27 : decode cX3_inherit 27 = .ok (.putfield 22, 3) := by decide +kernel
theorem dX3_inherit_30 : decode cX3_inherit 30 = .ok (.aload_n 0, 1) := by decide +kernel
theorem dX3_inherit_31 : decode cX3_inherit 31 = .ok (.aload_n 1, 1) := by decide +kernel
theorem dX3_inherit_32 : decode cX3_inherit 32 = .ok (.getfield 25, 3) := by decide +kernel
theorem dX3_inherit_35 : decode cX3_inherit 35 = .ok (.iload_n 2, 1) := by decide +kernel
theorem dX3_inherit_36 : decode cX3_inherit 36 = .ok (.iload_n 3, 1) := by decide +kernel
theorem dX3_inherit_37 : decode cX3_inherit 37 = .ok (.iload 4, 2) := by decide +kernel
theorem dX3_inherit_39 : decode cX3_inherit 39 = .ok (.invokestatic 58, 3) := by decide +kernel
theorem dX3_inherit_42 : decode cX3_inherit 42 = .ok (.putfield 25, 3) := by decide +kernel
theorem dX3_inherit_45 : decode cX3_inherit 45 = .ok (.aload_n 0, 1) := by decide +kernel
theorem dX3_inherit_46 : decode cX3_inherit 46 = .ok (.aload_n 1, 1) := by decide +kernel
theorem dX3_inherit_47 : decode cX3_inherit 47 = .ok (.getfield 28, 3) := by decide +kernel
theorem dX3_inherit_50 : decode cX3_inherit 50 = .ok (.iload_n 2, 1) := by decide +kernel
theorem dX3_inherit_51 : decode cX3_inherit 51 = .ok (.iload_n 3, 1) := by decide +kernel
theorem dX3_inherit_52 : decode cX3_inherit 52 = .ok (.iload 4, 2) := by decide +kernel
theorem dX3_inherit_54 : decode cX3_inherit 54 = .ok (.invokestatic 58, 3) := by decide +kernel
theorem dX3_inherit_57 : decode cX3_inherit 57 = .ok (.putfield 28, 3) := by decide +kernel
theorem dX3_inherit_60 : decode cX3_inherit 60 = .ok (.aload_n 0, 1) := by decide +kernel
theorem dX3_inherit_61 : decode cX3_inherit 61 = .ok (.aload_n 1, 1) := by decide +kernel
theorem dX3_inherit_62 : decode cX3_inherit 62 = .ok (.getfield 37, 3) := by decide +kernel
theorem dX3_inherit_65 : decode cX3_inherit 65 = .ok (.iload_n 2, 1) := by decide +kernel
theorem dX3_inherit_66 : decode cX3_inherit 66 = .ok (.iload_n 3, 1) := by decide +kernel
theorem dX3_inherit_67 : decode cX3_inherit 67 = .ok (.iload 4, 2) := by decide +kernel
theorem dX3_inherit_69 : decode cX3_inherit 69 = .ok (.invokestatic 58, 3) := by decide +kernel
theorem dX3_inherit_72 : decode cX3_inherit 72 = .ok (.putfield 37, 3) := by decide +kernel
theorem dX3_inherit_75 : decode cX3_inherit 75 = .ok (.aload_n 0, 1) := by decide +kernel
theorem dX3_inherit_76 : decode cX3_inherit 76 = .ok (.aload_n 1, 1) := by decide +kernel
theorem dX3_inherit_77 : decode cX3_inherit 77 = .ok (.getfield 31, 3) := by decide +kernel
theorem dX3_inherit_80 : decode cX3_inherit 80 = .ok (.putfield 31, 3) := by decide +kernel
theorem dX3_inherit_83 : decode cX3_inherit 83 = .ok (.aload_n 0, 1) := by decide +kernel
theorem dX3_inherit_84 : decode cX3_inherit 84 = .ok (.aload_n 1, 1) := by decide +kernel
theorem dX3_inherit_85 : decode cX3_inherit 85 = .ok (.getfield 34, 3) := by decide +kernel
theorem dX3_inherit_88 : decode cX3_inherit 88 = .ok (.putfield 34, 3) := by decide +kernel
theorem dX3_inherit_91 : decode cX3_inherit 91 = .ok (.return_, 1) := by decide +kernel
theorem dX3_partOf_0 : decode cX3_partOf 0 = .ok (.iconst 2, 1) := by decide +kernel
theorem dX3_partOf_1 : decode cX3_partOf 1 = .ok (.iload_n 1, 1) := by decide +kernel
theorem dX3_partOf_2 : decode cX3_partOf 2 = .ok (.imul, 1) := by decide +kernel
theorem dX3_partOf_3 : decode cX3_partOf 3 = .ok (.iload_n 2, 1) := by decide +kernel
theorem dX3_partOf_4 : decode cX3_partOf 4 = .ok (.iadd, 1) := by decide +kernel
theorem dX3_partOf_5 : decode cX3_partOf 5 = .ok (.istore 4, 2) := by decide +kernel
theorem dX3_partOf_7 : decode cX3_partOf 7 = .ok (.iload 4, 2) := by decide +kernel
theorem dX3_partOf_9 : decode cX3_partOf 9 = .ok (.iconst 1, 1) := by decide +kernel
theorem dX3_partOf_10 : decode cX3_partOf 10 = .ok (.if_icmp .ge 5, 3) := by decide +kernel
theorem dX3_partOf_13 : decode cX3_partOf 13 = .ok (.iconst 0, 1) := by decide +kernel
theorem dX3_partOf_14 : decode cX3_partOf 14 = .ok (.ireturn, 1) := by decide +kernel
theorem dX3_partOf_15 : decode cX3_partOf 15 = .ok (.iconst 2, 1) := by decide +kernel
theorem dX3_partOf_16 : decode cX3_partOf 16 = .ok (.iload_n 0, 1) := by decide +kernel
theorem dX3_partOf_17 : decode cX3_partOf 17 = .ok (.imul, 1) := by decide +kernel
theorem dX3_partOf_18 : decode cX3_partOf 18 = .ok (.iload 4, 2) := by decide +kernel
theorem dX3_partOf_20 : decode cX3_partOf 20 = .ok (.invokestatic 62, 3) := by decide +kernel
theorem dX3_partOf_23 : decode cX3_partOf 23 = .ok (.istore 5, 2) := by decide +kernel
theorem dX3_partOf_25 : decode cX3_partOf 25 = .ok (.iload_n 0, 1) := by decide +kernel
theorem dX3_partOf_26 : decode cX3_partOf 26 = .ok (.iload 4, 2) := by decide +kernel
theorem dX3_partOf_28 : decode cX3_partOf 28 = .ok (.invokestatic 62, 3) := by decide +kernel
theorem dX3_partOf_31 : decode cX3_partOf 31 = .ok (.istore 6, 2) := by decide +kernel
theorem dX3_partOf_33 : decode cX3_partOf 33 = .ok (.iload_n 0, 1) := by decide +kernel
theorem dX3_partOf_34 : decode cX3_partOf 34 = .ok (.iload_n 1, 1) := by decide +kernel
theorem dX3_partOf_35 : decode cX3_partOf 35 = .ok (.iload 5, 2) := by decide +kernel
theorem dX3_partOf_37 : decode cX3_partOf 37 = .ok (.imul, 1) := by decide +kernel
theorem dX3_partOf_38 : decode cX3_partOf 38 = .ok (.isub, 1) := by decide +kernel
theorem dX3_partOf_39 : decode cX3_partOf 39 = .ok (.iload_n 2, 1) := by decide +kernel
theorem dX3_partOf_40 : decode cX3_partOf 40 = .ok (.iload 6, 2) := by decide +kernel
theorem dX3_partOf_42 : decode cX3_partOf 42 = .ok (.imul, 1) := by decide +kernel
theorem dX3_partOf_43 : decode cX3_partOf 43 = .ok (.isub, 1) := by decide +kernel
theorem dX3_partOf_44 : decode cX3_partOf 44 = .ok (.istore 7, 2) := by decide +kernel
theorem dX3_partOf_46 : decode cX3_partOf 46 = .ok (.iload_n 3, 1) := by decide +kernel
theorem dX3_partOf_47 : decode cX3_partOf 47 = .ok (.iload_n 1, 1) := by decide +kernel
theorem dX3_partOf_48 : decode cX3_partOf 48 = .ok (.if_icmp .ge 8, 3) := by decide +kernel
theorem dX3_partOf_51 : decode cX3_partOf 51 = .ok (.iload 5, 2) := by decide +kernel
theorem dX3_partOf_53 : decode cX3_partOf 53 = .ok (.goto 5, 3) := by decide +kernel
theorem dX3_partOf_56 : decode cX3_partOf 56 = .ok (.iload 6, 2) := by decide +kernel
theorem dX3_partOf_58 : decode cX3_partOf 58 = .ok (.iload_n 3, 1) := by decide +kernel
theorem dX3_partOf_59 : decode cX3_partOf 59 = .ok (.iload 7, 2) := by decide +kernel
theorem dX3_partOf_61 : decode cX3_partOf 61 = .ok (.if_icmp .ge 7, 3) := by decide +kernel
theorem dX3_partOf_64 : decode cX3_partOf 64 = .ok (.iconst 1, 1) := by decide +kernel
theorem dX3_partOf_65 : decode cX3_partOf 65 = .ok (.goto 4, 3) := by decide +kernel
theorem dX3_partOf_68 : decode cX3_partOf 68 = .ok (.iconst 0, 1) := by decide +kernel
theorem dX3_partOf_69 : decode cX3_partOf 69 = .ok (.iadd, 1) := by decide +kernel
theorem dX3_partOf_70 : decode cX3_partOf 70 = .ok (.ireturn, 1) := by decide +kernel
theorem dX3_payTo_0 : decode cX3_payTo 0 = .ok (.aload_n 0, 1) := by decide +kernel
theorem dX3_payTo_1 : decode cX3_payTo 1 = .ok (.dup, 1) := by decide +kernel
theorem dX3_payTo_2 : decode cX3_payTo 2 = .ok (.getfield 22, 3) := by decide +kernel
theorem dX3_payTo_5 : decode cX3_payTo 5 = .ok (.iload_n 2, 1) := by decide +kernel
theorem dX3_payTo_6 : decode cX3_payTo 6 = .ok (.isub, 1) := by decide +kernel
theorem dX3_payTo_7 : decode cX3_payTo 7 = .ok (.putfield 22, 3) := by decide +kernel
theorem dX3_payTo_10 : decode cX3_payTo 10 = .ok (.aload_n 1, 1) := by decide +kernel
theorem dX3_payTo_11 : decode cX3_payTo 11 = .ok (.dup, 1) := by decide +kernel
theorem dX3_payTo_12 : decode cX3_payTo 12 = .ok (.getfield 22, 3) := by decide +kernel
theorem dX3_payTo_15 : decode cX3_payTo 15 = .ok (.iload_n 2, 1) := by decide +kernel
theorem dX3_payTo_16 : decode cX3_payTo 16 = .ok (.iadd, 1) := by decide +kernel
theorem dX3_payTo_17 : decode cX3_payTo 17 = .ok (.putfield 22, 3) := by decide +kernel
theorem dX3_payTo_20 : decode cX3_payTo 20 = .ok (.return_, 1) := by decide +kernel
theorem dX3_pollenPalms_0 : decode cX3_pollenPalms 0 = .ok (.aload_n 0, 1) := by decide +kernel
theorem dX3_pollenPalms_1 : decode cX3_pollenPalms 1 = .ok (.getfield 28, 3) := by decide +kernel
theorem dX3_pollenPalms_4 : decode cX3_pollenPalms 4 = .ok (.bipush 20, 2) := by decide +kernel
theorem dX3_pollenPalms_6 : decode cX3_pollenPalms 6 = .ok (.imul, 1) := by decide +kernel
theorem dX3_pollenPalms_7 : decode cX3_pollenPalms 7 = .ok (.aload_n 0, 1) := by decide +kernel
theorem dX3_pollenPalms_8 : decode cX3_pollenPalms 8 = .ok (.getfield 43, 3) := by decide +kernel
theorem dX3_pollenPalms_11 : decode cX3_pollenPalms 11 = .ok (.iadd, 1) := by decide +kernel
theorem dX3_pollenPalms_12 : decode cX3_pollenPalms 12 = .ok (.ireturn, 1) := by decide +kernel
theorem dX3_takeFlowing_0 : decode cX3_takeFlowing 0 = .ok (.aload_n 0, 1) := by decide +kernel
theorem dX3_takeFlowing_1 : decode cX3_takeFlowing 1 = .ok (.aload_n 0, 1) := by decide +kernel
theorem dX3_takeFlowing_2 : decode cX3_takeFlowing 2 = .ok (.getfield 46, 3) := by decide +kernel
theorem dX3_takeFlowing_5 : decode cX3_takeFlowing 5 = .ok (.bipush 100, 2) := by decide +kernel
theorem dX3_takeFlowing_7 : decode cX3_takeFlowing 7 = .ok (.iconst 2, 1) := by decide +kernel
theorem dX3_takeFlowing_8 : decode cX3_takeFlowing 8 = .ok (.iload_n 1, 1) := by decide +kernel
theorem dX3_takeFlowing_9 : decode cX3_takeFlowing 9 = .ok (.imul, 1) := by decide +kernel
theorem dX3_takeFlowing_10 : decode cX3_takeFlowing 10 = .ok (.isub, 1) := by decide +kernel
theorem dX3_takeFlowing_11 : decode cX3_takeFlowing 11 = .ok (.imul, 1) := by decide +kernel
theorem dX3_takeFlowing_12 : decode cX3_takeFlowing 12 = .ok (.bipush 100, 2) := by decide +kernel
theorem dX3_takeFlowing_14 : decode cX3_takeFlowing 14 = .ok (.idiv, 1) := by decide +kernel
theorem dX3_takeFlowing_15 : decode cX3_takeFlowing 15 = .ok (.putfield 49, 3) := by decide +kernel
theorem dX3_takeFlowing_18 : decode cX3_takeFlowing 18 = .ok (.aload_n 0, 1) := by decide +kernel
theorem dX3_takeFlowing_19 : decode cX3_takeFlowing 19 = .ok (.dup, 1) := by decide +kernel
theorem dX3_takeFlowing_20 : decode cX3_takeFlowing 20 = .ok (.getfield 52, 3) := by decide +kernel
theorem dX3_takeFlowing_23 : decode cX3_takeFlowing 23 = .ok (.aload_n 0, 1) := by decide +kernel
theorem dX3_takeFlowing_24 : decode cX3_takeFlowing 24 = .ok (.getfield 49, 3) := by decide +kernel
theorem dX3_takeFlowing_27 : decode cX3_takeFlowing 27 = .ok (.iadd, 1) := by decide +kernel
theorem dX3_takeFlowing_28 : decode cX3_takeFlowing 28 = .ok (.putfield 52, 3) := by decide +kernel
theorem dX3_takeFlowing_31 : decode cX3_takeFlowing 31 = .ok (.aload_n 0, 1) := by decide +kernel
theorem dX3_takeFlowing_32 : decode cX3_takeFlowing 32 = .ok (.iconst 0, 1) := by decide +kernel
theorem dX3_takeFlowing_33 : decode cX3_takeFlowing 33 = .ok (.putfield 46, 3) := by decide +kernel
theorem dX3_takeFlowing_36 : decode cX3_takeFlowing 36 = .ok (.return_, 1) := by decide +kernel
theorem dX3_growPalms_0 : decode cX3_growPalms 0 = .ok (.aload_n 0, 1) := by decide +kernel
theorem dX3_growPalms_1 : decode cX3_growPalms 1 = .ok (.getfield 25, 3) := by decide +kernel
theorem dX3_growPalms_4 : decode cX3_growPalms 4 = .ok (.bipush 20, 2) := by decide +kernel
theorem dX3_growPalms_6 : decode cX3_growPalms 6 = .ok (.imul, 1) := by decide +kernel
theorem dX3_growPalms_7 : decode cX3_growPalms 7 = .ok (.istore_n 2, 1) := by decide +kernel
theorem dX3_growPalms_8 : decode cX3_growPalms 8 = .ok (.iload_n 2, 1) := by decide +kernel
theorem dX3_growPalms_9 : decode cX3_growPalms 9 = .ok (.iconst 1, 1) := by decide +kernel
theorem dX3_growPalms_10 : decode cX3_growPalms 10 = .ok (.if_icmp .ge 4, 3) := by decide +kernel
theorem dX3_growPalms_13 : decode cX3_growPalms 13 = .ok (.return_, 1) := by decide +kernel
theorem dX3_growPalms_14 : decode cX3_growPalms 14 = .ok (.bipush 40, 2) := by decide +kernel
theorem dX3_growPalms_16 : decode cX3_growPalms 16 = .ok (.aload_n 0, 1) := by decide +kernel
theorem dX3_growPalms_17 : decode cX3_growPalms 17 = .ok (.getfield 49, 3) := by decide +kernel
theorem dX3_growPalms_20 : decode cX3_growPalms 20 = .ok (.bipush 30, 2) := by decide +kernel
theorem dX3_growPalms_22 : decode cX3_growPalms 22 = .ok (.imul, 1) := by decide +kernel
theorem dX3_growPalms_23 : decode cX3_growPalms 23 = .ok (.iload_n 2, 1) := by decide +kernel
theorem dX3_growPalms_24 : decode cX3_growPalms 24 = .ok (.idiv, 1) := by decide +kernel
theorem dX3_growPalms_25 : decode cX3_growPalms 25 = .ok (.invokestatic 68, 3) := by decide +kernel
theorem dX3_growPalms_28 : decode cX3_growPalms 28 = .ok (.istore_n 3, 1) := by decide +kernel
theorem dX3_growPalms_29 : decode cX3_growPalms 29 = .ok (.aload_n 0, 1) := by decide +kernel
theorem dX3_growPalms_30 : decode cX3_growPalms 30 = .ok (.iconst 0, 1) := by decide +kernel
theorem dX3_growPalms_31 : decode cX3_growPalms 31 = .ok (.bipush 99, 2) := by decide +kernel
theorem dX3_growPalms_33 : decode cX3_growPalms 33 = .ok (.aload_n 0, 1) := by decide +kernel
theorem dX3_growPalms_34 : decode cX3_growPalms 34 = .ok (.getfield 31, 3) := by decide +kernel
theorem dX3_growPalms_37 : decode cX3_growPalms 37 = .ok (.iload_n 3, 1) := by decide +kernel
theorem dX3_growPalms_38 : decode cX3_growPalms 38 = .ok (.iadd, 1) := by decide +kernel
theorem dX3_growPalms_39 : decode cX3_growPalms 39 = .ok (.invokestatic 68, 3) := by decide +kernel
theorem dX3_growPalms_42 : decode cX3_growPalms 42 = .ok (.bipush 6, 2) := by decide +kernel
theorem dX3_growPalms_44 : decode cX3_growPalms 44 = .ok (.isub, 1) := by decide +kernel
theorem dX3_growPalms_45 : decode cX3_growPalms 45 = .ok (.invokestatic 71, 3) := by decide +kernel
theorem dX3_growPalms_48 : decode cX3_growPalms 48 = .ok (.putfield 31, 3) := by decide +kernel
theorem dX3_growPalms_51 : decode cX3_growPalms 51 = .ok (.aload_n 0, 1) := by decide +kernel
theorem dX3_growPalms_52 : decode cX3_growPalms 52 = .ok (.getfield 49, 3) := by decide +kernel
theorem dX3_growPalms_55 : decode cX3_growPalms 55 = .ok (.iconst 2, 1) := by decide +kernel
theorem dX3_growPalms_56 : decode cX3_growPalms 56 = .ok (.iload_n 2, 1) := by decide +kernel
theorem dX3_growPalms_57 : decode cX3_growPalms 57 = .ok (.imul, 1) := by decide +kernel
theorem dX3_growPalms_58 : decode cX3_growPalms 58 = .ok (.if_icmp .le 18, 3) := by decide +kernel
theorem dX3_growPalms_61 : decode cX3_growPalms 61 = .ok (.aload_n 0, 1) := by decide +kernel
theorem dX3_growPalms_62 : decode cX3_growPalms 62 = .ok (.bipush 99, 2) := by decide +kernel
theorem dX3_growPalms_64 : decode cX3_growPalms 64 = .ok (.aload_n 0, 1) := by decide +kernel
theorem dX3_growPalms_65 : decode cX3_growPalms 65 = .ok (.getfield 34, 3) := by decide +kernel
theorem dX3_growPalms_68 : decode cX3_growPalms 68 = .ok (.iconst 1, 1) := by decide +kernel
theorem dX3_growPalms_69 : decode cX3_growPalms 69 = .ok (.iadd, 1) := by decide +kernel
theorem dX3_growPalms_70 : decode cX3_growPalms 70 = .ok (.invokestatic 68, 3) := by decide +kernel
theorem dX3_growPalms_73 : decode cX3_growPalms 73 = .ok (.putfield 34, 3) := by decide +kernel
theorem dX3_growPalms_76 : decode cX3_growPalms 76 = .ok (.iload_n 1, 1) := by decide +kernel
theorem dX3_growPalms_77 : decode cX3_growPalms 77 = .ok (.ifCond .eq 45, 3) := by decide +kernel
theorem dX3_growPalms_80 : decode cX3_growPalms 80 = .ok (.aload_n 0, 1) := by decide +kernel
theorem dX3_growPalms_81 : decode cX3_growPalms 81 = .ok (.getfield 31, 3) := by decide +kernel
theorem dX3_growPalms_84 : decode cX3_growPalms 84 = .ok (.bipush 15, 2) := by decide +kernel
theorem dX3_growPalms_86 : decode cX3_growPalms 86 = .ok (.if_icmp .ge 36, 3) := by decide +kernel
theorem dX3_growPalms_89 : decode cX3_growPalms 89 = .ok (.aload_n 0, 1) := by decide +kernel
theorem dX3_growPalms_90 : decode cX3_growPalms 90 = .ok (.dup, 1) := by decide +kernel
theorem dX3_growPalms_91 : decode cX3_growPalms 91 = .ok (.getfield 25, 3) := by decide +kernel
theorem dX3_growPalms_94 : decode cX3_growPalms 94 = .ok (.aload_n 0, 1) := by decide +kernel
theorem dX3_growPalms_95 : decode cX3_growPalms 95 = .ok (.getfield 25, 3) := by decide +kernel
theorem dX3_growPalms_98 : decode cX3_growPalms 98 = .ok (.bipush 10, 2) := by decide +kernel
theorem dX3_growPalms_100 : decode cX3_growPalms 100 = .ok (.idiv, 1) := by decide +kernel
theorem dX3_growPalms_101 : decode cX3_growPalms 101 = .ok (.iconst 1, 1) := by decide +kernel
theorem dX3_growPalms_102 : decode cX3_growPalms 102 = .ok (.iadd, 1) := by decide +kernel
theorem dX3_growPalms_103 : decode cX3_growPalms 103 = .ok (.isub, 1) := by decide +kernel
theorem dX3_growPalms_104 : decode cX3_growPalms 104 = .ok (.putfield 25, 3) := by decide +kernel
theorem dX3_growPalms_107 : decode cX3_growPalms 107 = .ok (.aload_n 0, 1) := by decide +kernel
theorem dX3_growPalms_108 : decode cX3_growPalms 108 = .ok (.aload_n 0, 1) := by decide +kernel
theorem dX3_growPalms_109 : decode cX3_growPalms 109 = .ok (.getfield 40, 3) := by decide +kernel
theorem dX3_growPalms_112 : decode cX3_growPalms 112 = .ok (.aload_n 0, 1) := by decide +kernel
theorem dX3_growPalms_113 : decode cX3_growPalms 113 = .ok (.getfield 25, 3) := by decide +kernel
theorem dX3_growPalms_116 : decode cX3_growPalms 116 = .ok (.invokestatic 68, 3) := by decide +kernel
theorem dX3_growPalms_119 : decode cX3_growPalms 119 = .ok (.putfield 40, 3) := by decide +kernel
theorem dX3_growPalms_122 : decode cX3_growPalms 122 = .ok (.return_, 1) := by decide +kernel
theorem dX3_reap_0 : decode cX3_reap 0 = .ok (.aload_n 0, 1) := by decide +kernel
theorem dX3_reap_1 : decode cX3_reap 1 = .ok (.aload_n 0, 1) := by decide +kernel
theorem dX3_reap_2 : decode cX3_reap 2 = .ok (.getfield 40, 3) := by decide +kernel
theorem dX3_reap_5 : decode cX3_reap 5 = .ok (.aload_n 0, 1) := by decide +kernel
theorem dX3_reap_6 : decode cX3_reap 6 = .ok (.getfield 31, 3) := by decide +kernel
theorem dX3_reap_9 : decode cX3_reap 9 = .ok (.imul, 1) := by decide +kernel
theorem dX3_reap_10 : decode cX3_reap 10 = .ok (.bipush 100, 2) := by decide +kernel
theorem dX3_reap_12 : decode cX3_reap 12 = .ok (.aload_n 0, 1) := by decide +kernel
theorem dX3_reap_13 : decode cX3_reap 13 = .ok (.getfield 34, 3) := by decide +kernel
theorem dX3_reap_16 : decode cX3_reap 16 = .ok (.isub, 1) := by decide +kernel
theorem dX3_reap_17 : decode cX3_reap 17 = .ok (.imul, 1) := by decide +kernel
theorem dX3_reap_18 : decode cX3_reap 18 = .ok (.sipush 1000, 3) := by decide +kernel
theorem dX3_reap_21 : decode cX3_reap 21 = .ok (.idiv, 1) := by decide +kernel
theorem dX3_reap_22 : decode cX3_reap 22 = .ok (.putfield 55, 3) := by decide +kernel
theorem dX3_reap_25 : decode cX3_reap 25 = .ok (.aload_n 0, 1) := by decide +kernel
theorem dX3_reap_26 : decode cX3_reap 26 = .ok (.dup, 1) := by decide +kernel
theorem dX3_reap_27 : decode cX3_reap 27 = .ok (.getfield 37, 3) := by decide +kernel
theorem dX3_reap_30 : decode cX3_reap 30 = .ok (.aload_n 0, 1) := by decide +kernel
theorem dX3_reap_31 : decode cX3_reap 31 = .ok (.getfield 55, 3) := by decide +kernel
theorem dX3_reap_34 : decode cX3_reap 34 = .ok (.iadd, 1) := by decide +kernel
theorem dX3_reap_35 : decode cX3_reap 35 = .ok (.putfield 37, 3) := by decide +kernel
theorem dX3_reap_38 : decode cX3_reap 38 = .ok (.aload_n 0, 1) := by decide +kernel
theorem dX3_reap_39 : decode cX3_reap 39 = .ok (.iconst 0, 1) := by decide +kernel
theorem dX3_reap_40 : decode cX3_reap 40 = .ok (.putfield 40, 3) := by decide +kernel
theorem dX3_reap_43 : decode cX3_reap 43 = .ok (.aload_n 0, 1) := by decide +kernel
theorem dX3_reap_44 : decode cX3_reap 44 = .ok (.iconst 0, 1) := by decide +kernel
theorem dX3_reap_45 : decode cX3_reap 45 = .ok (.putfield 43, 3) := by decide +kernel
theorem dX3_reap_48 : decode cX3_reap 48 = .ok (.return_, 1) := by decide +kernel
theorem dX4_init_0 : decode cX4_init 0 = .ok (.aload_n 0, 1) := by decide +kernel
theorem dX4_init_1 : decode cX4_init 1 = .ok (.invokespecial 3, 3) := by decide +kernel
theorem dX4_init_4 : decode cX4_init 4 = .ok (.aload_n 0, 1) := by decide +kernel
theorem dX4_init_5 : decode cX4_init 5 = .ok (.bipush 10, 2) := by decide +kernel
theorem dX4_init_7 : decode cX4_init 7 = .ok (.anewarray 9, 3) := by decide +kernel
theorem dX4_init_10 : decode cX4_init 10 = .ok (.putfield 11, 3) := by decide +kernel
theorem dX4_init_13 : decode cX4_init 13 = .ok (.aload_n 0, 1) := by decide +kernel
theorem dX4_init_14 : decode cX4_init 14 = .ok (.bipush 10, 2) := by decide +kernel
theorem dX4_init_16 : decode cX4_init 16 = .ok (.newarray .int, 2) := by decide +kernel
theorem dX4_init_18 : decode cX4_init 18 = .ok (.putfield 17, 3) := by decide +kernel
theorem dX4_init_21 : decode cX4_init 21 = .ok (.aload_n 0, 1) := by decide +kernel
theorem dX4_init_22 : decode cX4_init 22 = .ok (.new 9, 3) := by decide +kernel
theorem dX4_init_25 : decode cX4_init 25 = .ok (.dup, 1) := by decide +kernel
theorem dX4_init_26 : decode cX4_init 26 = .ok (.iconst (-1), 1) := by decide +kernel
theorem dX4_init_27 : decode cX4_init 27 = .ok (.invokespecial 21, 3) := by decide +kernel
theorem dX4_init_30 : decode cX4_init 30 = .ok (.putfield 24, 3) := by decide +kernel
theorem dX4_init_33 : decode cX4_init 33 = .ok (.iconst 0, 1) := by decide +kernel
theorem dX4_init_34 : decode cX4_init 34 = .ok (.istore_n 1, 1) := by decide +kernel
theorem dX4_init_35 : decode cX4_init 35 = .ok (.iload_n 1, 1) := by decide +kernel
theorem dX4_init_36 : decode cX4_init 36 = .ok (.aload_n 0, 1) := by decide +kernel
theorem dX4_init_37 : decode cX4_init 37 = .ok (.getfield 11, 3) := by decide +kernel
theorem dX4_init_40 : decode cX4_init 40 = .ok (.arraylength, 1) := by decide +kernel
theorem dX4_init_41 : decode cX4_init 41 = .ok (.if_icmp .ge 23, 3) := by decide +kernel
theorem dX4_init_44 : decode cX4_init 44 = .ok (.aload_n 0, 1) := by decide +kernel
theorem dX4_init_45 : decode cX4_init 45 = .ok (.getfield 11, 3) := by decide +kernel
theorem dX4_init_48 : decode cX4_init 48 = .ok (.iload_n 1, 1) := by decide +kernel
theorem dX4_init_49 : decode cX4_init 49 = .ok (.new 9, 3) := by decide +kernel
theorem dX4_init_52 : decode cX4_init 52 = .ok (.dup, 1) := by decide +kernel
theorem dX4_init_53 : decode cX4_init 53 = .ok (.iload_n 1, 1) := by decide +kernel
theorem dX4_init_54 : decode cX4_init 54 = .ok (.invokespecial 21, 3) := by decide +kernel
theorem dX4_init_57 : decode cX4_init 57 = .ok (.aastore, 1) := by decide +kernel
theorem dX4_init_58 : decode cX4_init 58 = .ok (.iinc 1 1, 3) := by decide +kernel
theorem dX4_init_61 : decode cX4_init 61 = .ok (.goto (-26), 3) := by decide +kernel
theorem dX4_init_64 : decode cX4_init 64 = .ok (.return_, 1) := by decide +kernel
theorem dX4_becomeLike_0 : decode cX4_becomeLike 0 = .ok (.iconst 0, 1) := by decide +kernel
theorem dX4_becomeLike_1 : decode cX4_becomeLike 1 = .ok (.istore_n 2, 1) := by decide +kernel
theorem dX4_becomeLike_2 : decode cX4_becomeLike 2 = .ok (.iload_n 2, 1) := by decide +kernel
theorem dX4_becomeLike_3 : decode cX4_becomeLike 3 = .ok (.bipush 10, 2) := by decide +kernel
theorem dX4_becomeLike_5 : decode cX4_becomeLike 5 = .ok (.if_icmp .ge 22, 3) := by decide +kernel
theorem dX4_becomeLike_8 : decode cX4_becomeLike 8 = .ok (.aload_n 0, 1) := by decide +kernel
theorem dX4_becomeLike_9 : decode cX4_becomeLike 9 = .ok (.iload_n 2, 1) := by decide +kernel
theorem dX4_becomeLike_10 : decode cX4_becomeLike 10 = .ok (.invokevirtual 28, 3) := by decide +kernel
theorem dX4_becomeLike_13 : decode cX4_becomeLike 13 = .ok (.aload_n 1, 1) := by decide +kernel
theorem dX4_becomeLike_14 : decode cX4_becomeLike 14 = .ok (.iload_n 2, 1) := by decide +kernel
theorem dX4_becomeLike_15 : decode cX4_becomeLike 15 = .ok (.invokevirtual 28, 3) := by decide +kernel
theorem dX4_becomeLike_18 : decode cX4_becomeLike 18 = .ok (.invokevirtual 32, 3) := by decide +kernel
theorem dX4_becomeLike_21 : decode cX4_becomeLike 21 = .ok (.iinc 2 1, 3) := by decide +kernel
theorem dX4_becomeLike_24 : decode cX4_becomeLike 24 = .ok (.goto (-22), 3) := by decide +kernel
theorem dX4_becomeLike_27 : decode cX4_becomeLike 27 = .ok (.aload_n 0, 1) := by decide +kernel
theorem dX4_becomeLike_28 : decode cX4_becomeLike 28 = .ok (.aload_n 1, 1) := by decide +kernel
theorem dX4_becomeLike_29 : decode cX4_becomeLike 29 = .ok (.getfield 36, 3) := by decide +kernel
theorem dX4_becomeLike_32 : decode cX4_becomeLike 32 = .ok (.putfield 36, 3) := by decide +kernel
theorem dX4_becomeLike_35 : decode cX4_becomeLike 35 = .ok (.iconst 0, 1) := by decide +kernel
theorem dX4_becomeLike_36 : decode cX4_becomeLike 36 = .ok (.istore_n 2, 1) := by decide +kernel
theorem dX4_becomeLike_37 : decode cX4_becomeLike 37 = .ok (.iload_n 2, 1) := by decide +kernel
theorem dX4_becomeLike_38 : decode cX4_becomeLike 38 = .ok (.aload_n 0, 1) := by decide +kernel
theorem dX4_becomeLike_39 : decode cX4_becomeLike 39 = .ok (.getfield 36, 3) := by decide +kernel
theorem dX4_becomeLike_42 : decode cX4_becomeLike 42 = .ok (.if_icmp .ge 22, 3) := by decide +kernel
theorem dX4_becomeLike_45 : decode cX4_becomeLike 45 = .ok (.aload_n 0, 1) := by decide +kernel
theorem dX4_becomeLike_46 : decode cX4_becomeLike 46 = .ok (.iload_n 2, 1) := by decide +kernel
theorem dX4_becomeLike_47 : decode cX4_becomeLike 47 = .ok (.aload_n 1, 1) := by decide +kernel
theorem dX4_becomeLike_48 : decode cX4_becomeLike 48 = .ok (.iload_n 2, 1) := by decide +kernel
theorem dX4_becomeLike_49 : decode cX4_becomeLike 49 = .ok (.invokevirtual 40, 3) := by decide +kernel
theorem dX4_becomeLike_52 : decode cX4_becomeLike 52 = .ok (.getfield 43, 3) := by decide +kernel
theorem dX4_becomeLike_55 : decode cX4_becomeLike 55 = .ok (.invokevirtual 46, 3) := by decide +kernel
theorem dX4_becomeLike_58 : decode cX4_becomeLike 58 = .ok (.iinc 2 1, 3) := by decide +kernel
theorem dX4_becomeLike_61 : decode cX4_becomeLike 61 = .ok (.goto (-24), 3) := by decide +kernel
theorem dX4_becomeLike_64 : decode cX4_becomeLike 64 = .ok (.aload_n 0, 1) := by decide +kernel
theorem dX4_becomeLike_65 : decode cX4_becomeLike 65 = .ok (.aload_n 1, 1) := by decide +kernel
theorem dX4_becomeLike_66 : decode cX4_becomeLike 66 = .ok (.getfield 50, 3) := by decide +kernel
theorem dX4_becomeLike_69 : decode cX4_becomeLike 69 = .ok (.putfield 50, 3) := by decide +kernel
theorem dX4_becomeLike_72 : decode cX4_becomeLike 72 = .ok (.return_, 1) := by decide +kernel
theorem dX4_numbered_0 : decode cX4_numbered 0 = .ok (.iload_n 1, 1) := by decide +kernel
theorem dX4_numbered_1 : decode cX4_numbered 1 = .ok (.ifCond .lt 21, 3) := by decide +kernel
theorem dX4_numbered_4 : decode cX4_numbered 4 = .ok (.iload_n 1, 1) := by decide +kernel
theorem dX4_numbered_5 : decode cX4_numbered 5 = .ok (.aload_n 0, 1) := by decide +kernel
theorem dX4_numbered_6 : decode cX4_numbered 6 = .ok (.getfield 11, 3) := by decide +kernel
theorem dX4_numbered_9 : decode cX4_numbered 9 = .ok (.arraylength, 1) := by decide +kernel
theorem dX4_numbered_10 : decode cX4_numbered 10 = .ok (.if_icmp .ge 12, 3) := by decide +kernel
theorem dX4_numbered_13 : decode cX4_numbered 13 = .ok (.aload_n 0, 1) := by decide +kernel
theorem dX4_numbered_14 : decode cX4_numbered 14 = .ok (.getfield 11, 3) := by decide +kernel
theorem dX4_numbered_17 : decode cX4_numbered 17 = .ok (.iload_n 1, 1) := by decide +kernel
theorem dX4_numbered_18 : decode cX4_numbered 18 = .ok (.aaload, 1) := by decide +kernel
theorem dX4_numbered_19 : decode cX4_numbered 19 = .ok (.goto 7, 3) := by decide +kernel
theorem dX4_numbered_22 : decode cX4_numbered 22 = .ok (.aload_n 0, 1) := by decide +kernel
theorem dX4_numbered_23 : decode cX4_numbered 23 = .ok (.getfield 24, 3) := by decide +kernel
theorem dX4_numbered_26 : decode cX4_numbered 26 = .ok (.areturn, 1) := by decide +kernel
theorem dX4_standing_0 : decode cX4_standing 0 = .ok (.iload_n 1, 1) := by decide +kernel
theorem dX4_standing_1 : decode cX4_standing 1 = .ok (.ifCond .lt 33, 3) := by decide +kernel
theorem dX4_standing_4 : decode cX4_standing 4 = .ok (.iload_n 1, 1) := by decide +kernel
theorem dX4_standing_5 : decode cX4_standing 5 = .ok (.aload_n 0, 1) := by decide +kernel
theorem dX4_standing_6 : decode cX4_standing 6 = .ok (.getfield 36, 3) := by decide +kernel
theorem dX4_standing_9 : decode cX4_standing 9 = .ok (.if_icmp .ge 25, 3) := by decide +kernel
theorem dX4_standing_12 : decode cX4_standing 12 = .ok (.iload_n 1, 1) := by decide +kernel
theorem dX4_standing_13 : decode cX4_standing 13 = .ok (.aload_n 0, 1) := by decide +kernel
theorem dX4_standing_14 : decode cX4_standing 14 = .ok (.getfield 17, 3) := by decide +kernel
theorem dX4_standing_17 : decode cX4_standing 17 = .ok (.arraylength, 1) := by decide +kernel
theorem dX4_standing_18 : decode cX4_standing 18 = .ok (.if_icmp .ge 16, 3) := by decide +kernel
theorem dX4_standing_21 : decode cX4_standing 21 = .ok (.aload_n 0, 1) := by decide +kernel
theorem dX4_standing_22 : decode cX4_standing 22 = .ok (.aload_n 0, 1) := by decide +kernel
theorem dX4_standing_23 : decode cX4_standing 23 = .ok (.getfield 17, 3) := by decide +kernel
theorem dX4_standing_26 : decode cX4_standing 26 = .ok (.iload_n 1, 1) := by decide +kernel
theorem dX4_standing_27 : decode cX4_standing 27 = .ok (.iaload, 1) := by decide +kernel
theorem dX4_standing_28 : decode cX4_standing 28 = .ok (.invokevirtual 28, 3) := by decide +kernel
theorem dX4_standing_31 : decode cX4_standing 31 = .ok (.goto 7, 3) := by decide +kernel
theorem dX4_standing_34 : decode cX4_standing 34 = .ok (.aload_n 0, 1) := by decide +kernel
theorem dX4_standing_35 : decode cX4_standing 35 = .ok (.getfield 24, 3) := by decide +kernel
theorem dX4_standing_38 : decode cX4_standing 38 = .ok (.areturn, 1) := by decide +kernel
theorem dX4_putAt_0 : decode cX4_putAt 0 = .ok (.iload_n 1, 1) := by decide +kernel
theorem dX4_putAt_1 : decode cX4_putAt 1 = .ok (.ifCond .lt 19, 3) := by decide +kernel
theorem dX4_putAt_4 : decode cX4_putAt 4 = .ok (.iload_n 1, 1) := by decide +kernel
theorem dX4_putAt_5 : decode cX4_putAt 5 = .ok (.aload_n 0, 1) := by decide +kernel
theorem dX4_putAt_6 : decode cX4_putAt 6 = .ok (.getfield 17, 3) := by decide +kernel
theorem dX4_putAt_9 : decode cX4_putAt 9 = .ok (.arraylength, 1) := by decide +kernel
theorem dX4_putAt_10 : decode cX4_putAt 10 = .ok (.if_icmp .ge 10, 3) := by decide +kernel
theorem dX4_putAt_13 : decode cX4_putAt 13 = .ok (.aload_n 0, 1) := by decide +kernel
theorem dX4_putAt_14 : decode cX4_putAt 14 = .ok (.getfield 17, 3) := by decide +kernel
theorem dX4_putAt_17 : decode cX4_putAt 17 = .ok (.iload_n 1, 1) := by decide +kernel
theorem dX4_putAt_18 : decode cX4_putAt 18 = .ok (.iload_n 2, 1) := by decide +kernel
theorem dX4_putAt_19 : decode cX4_putAt 19 = .ok (.iastore, 1) := by decide +kernel
theorem dX4_putAt_20 : decode cX4_putAt 20 = .ok (.return_, 1) := by decide +kernel
theorem dX4_isLiving_0 : decode cX4_isLiving 0 = .ok (.aload_n 0, 1) := by decide +kernel
theorem dX4_isLiving_1 : decode cX4_isLiving 1 = .ok (.iload_n 1, 1) := by decide +kernel
theorem dX4_isLiving_2 : decode cX4_isLiving 2 = .ok (.invokevirtual 28, 3) := by decide +kernel
theorem dX4_isLiving_5 : decode cX4_isLiving 5 = .ok (.getfield 53, 3) := by decide +kernel
theorem dX4_isLiving_8 : decode cX4_isLiving 8 = .ok (.ireturn, 1) := by decide +kernel
theorem dX4_countLiving_0 : decode cX4_countLiving 0 = .ok (.aload_n 0, 1) := by decide +kernel
theorem dX4_countLiving_1 : decode cX4_countLiving 1 = .ok (.getfield 36, 3) := by decide +kernel
theorem dX4_countLiving_4 : decode cX4_countLiving 4 = .ok (.ireturn, 1) := by decide +kernel
theorem dX4_countEver_0 : decode cX4_countEver 0 = .ok (.aload_n 0, 1) := by decide +kernel
theorem dX4_countEver_1 : decode cX4_countEver 1 = .ok (.getfield 50, 3) := by decide +kernel
theorem dX4_countEver_4 : decode cX4_countEver 4 = .ok (.ireturn, 1) := by decide +kernel
theorem dX4_hasRoomFor_0 : decode cX4_hasRoomFor 0 = .ok (.aload_n 0, 1) := by decide +kernel
theorem dX4_hasRoomFor_1 : decode cX4_hasRoomFor 1 = .ok (.getfield 50, 3) := by decide +kernel
theorem dX4_hasRoomFor_4 : decode cX4_hasRoomFor 4 = .ok (.iload_n 1, 1) := by decide +kernel
theorem dX4_hasRoomFor_5 : decode cX4_hasRoomFor 5 = .ok (.iadd, 1) := by decide +kernel
theorem dX4_hasRoomFor_6 : decode cX4_hasRoomFor 6 = .ok (.bipush 10, 2) := by decide +kernel
theorem dX4_hasRoomFor_8 : decode cX4_hasRoomFor 8 = .ok (.if_icmp .gt 7, 3) := by decide +kernel
theorem dX4_hasRoomFor_11 : decode cX4_hasRoomFor 11 = .ok (.iconst 1, 1) := by decide +kernel
theorem dX4_hasRoomFor_12 : decode cX4_hasRoomFor 12 = .ok (.goto 4, 3) := by decide +kernel
theorem dX4_hasRoomFor_15 : decode cX4_hasRoomFor 15 = .ok (.iconst 0, 1) := by decide +kernel
theorem dX4_hasRoomFor_16 : decode cX4_hasRoomFor 16 = .ok (.ireturn, 1) := by decide +kernel
theorem dX4_addLast_0 : decode cX4_addLast 0 = .ok (.aload_n 0, 1) := by decide +kernel
theorem dX4_addLast_1 : decode cX4_addLast 1 = .ok (.getfield 50, 3) := by decide +kernel
theorem dX4_addLast_4 : decode cX4_addLast 4 = .ok (.istore 5, 2) := by decide +kernel
theorem dX4_addLast_6 : decode cX4_addLast 6 = .ok (.aload_n 0, 1) := by decide +kernel
theorem dX4_addLast_7 : decode cX4_addLast 7 = .ok (.iload 5, 2) := by decide +kernel
theorem dX4_addLast_9 : decode cX4_addLast 9 = .ok (.invokevirtual 28, 3) := by decide +kernel
theorem dX4_addLast_12 : decode cX4_addLast 12 = .ok (.astore 6, 2) := by decide +kernel
theorem dX4_addLast_14 : decode cX4_addLast 14 = .ok (.aload 6, 2) := by decide +kernel
theorem dX4_addLast_16 : decode cX4_addLast 16 = .ok (.iload_n 1, 1) := by decide +kernel
theorem dX4_addLast_17 : decode cX4_addLast 17 = .ok (.iload_n 2, 1) := by decide +kernel
theorem dX4_addLast_18 : decode cX4_addLast 18 = .ok (.iload_n 3, 1) := by decide +kernel
theorem dX4_addLast_19 : decode cX4_addLast 19 = .ok (.iload 4, 2) := by decide +kernel
theorem dX4_addLast_21 : decode cX4_addLast 21 = .ok (.invokevirtual 57, 3) := by decide +kernel
theorem dX4_addLast_24 : decode cX4_addLast 24 = .ok (.aload 6, 2) := by decide +kernel
theorem dX4_addLast_26 : decode cX4_addLast 26 = .ok (.iconst 1, 1) := by decide +kernel
theorem dX4_addLast_27 : decode cX4_addLast 27 = .ok (.putfield 53, 3) := by decide +kernel
theorem dX4_addLast_30 : decode cX4_addLast 30 = .ok (.aload_n 0, 1) := by decide +kernel
theorem dX4_addLast_31 : decode cX4_addLast 31 = .ok (.aload_n 0, 1) := by decide +kernel
theorem dX4_addLast_32 : decode cX4_addLast 32 = .ok (.getfield 36, 3) := by decide +kernel
theorem dX4_addLast_35 : decode cX4_addLast 35 = .ok (.iload 5, 2) := by decide +kernel
theorem dX4_addLast_37 : decode cX4_addLast 37 = .ok (.invokevirtual 46, 3) := by decide +kernel
theorem dX4_addLast_40 : decode cX4_addLast 40 = .ok (.aload_n 0, 1) := by decide +kernel
theorem dX4_addLast_41 : decode cX4_addLast 41 = .ok (.dup, 1) := by decide +kernel
theorem dX4_addLast_42 : decode cX4_addLast 42 = .ok (.getfield 36, 3) := by decide +kernel
theorem dX4_addLast_45 : decode cX4_addLast 45 = .ok (.iconst 1, 1) := by decide +kernel
theorem dX4_addLast_46 : decode cX4_addLast 46 = .ok (.iadd, 1) := by decide +kernel
theorem dX4_addLast_47 : decode cX4_addLast 47 = .ok (.putfield 36, 3) := by decide +kernel
theorem dX4_addLast_50 : decode cX4_addLast 50 = .ok (.aload_n 0, 1) := by decide +kernel
theorem dX4_addLast_51 : decode cX4_addLast 51 = .ok (.dup, 1) := by decide +kernel
theorem dX4_addLast_52 : decode cX4_addLast 52 = .ok (.getfield 50, 3) := by decide +kernel
theorem dX4_addLast_55 : decode cX4_addLast 55 = .ok (.iconst 1, 1) := by decide +kernel
theorem dX4_addLast_56 : decode cX4_addLast 56 = .ok (.iadd, 1) := by decide +kernel
theorem dX4_addLast_57 : decode cX4_addLast 57 = .ok (.putfield 50, 3) := by decide +kernel
theorem dX4_addLast_60 : decode cX4_addLast 60 = .ok (.iload 5, 2) := by decide +kernel
theorem dX4_addLast_62 : decode cX4_addLast 62 = .ok (.ireturn, 1) := by decide +kernel
theorem dX4_putHeirsFor_0 : decode cX4_putHeirsFor 0 = .ok (.aload_n 0, 1) := by decide +kernel
theorem dX4_putHeirsFor_1 : decode cX4_putHeirsFor 1 = .ok (.getfield 50, 3) := by decide +kernel
theorem dX4_putHeirsFor_4 : decode cX4_putHeirsFor 4 = .ok (.istore_n 3, 1) := by decide +kernel
theorem dX4_putHeirsFor_5 : decode cX4_putHeirsFor 5 = .ok (.aload_n 0, 1) := by decide +kernel
theorem dX4_putHeirsFor_6 : decode cX4_putHeirsFor 6 = .ok (.aload_n 1, 1) := by decide +kernel
theorem dX4_putHeirsFor_7 : decode cX4_putHeirsFor 7 = .ok (.invokevirtual 61, 3) := by decide +kernel
theorem dX4_putHeirsFor_10 : decode cX4_putHeirsFor 10 = .ok (.istore 4, 2) := by decide +kernel
theorem dX4_putHeirsFor_12 : decode cX4_putHeirsFor 12 = .ok (.aload_n 0, 1) := by decide +kernel
theorem dX4_putHeirsFor_13 : decode cX4_putHeirsFor 13 = .ok (.getfield 36, 3) := by decide +kernel
theorem dX4_putHeirsFor_16 : decode cX4_putHeirsFor 16 = .ok (.iconst 1, 1) := by decide +kernel
theorem dX4_putHeirsFor_17 : decode cX4_putHeirsFor 17 = .ok (.isub, 1) := by decide +kernel
theorem dX4_putHeirsFor_18 : decode cX4_putHeirsFor 18 = .ok (.istore 5, 2) := by decide +kernel
theorem dX4_putHeirsFor_20 : decode cX4_putHeirsFor 20 = .ok (.iload 5, 2) := by decide +kernel
theorem dX4_putHeirsFor_22 : decode cX4_putHeirsFor 22 = .ok (.iload 4, 2) := by decide +kernel
theorem dX4_putHeirsFor_24 : decode cX4_putHeirsFor 24 = .ok (.if_icmp .le 28, 3) := by decide +kernel
theorem dX4_putHeirsFor_27 : decode cX4_putHeirsFor 27 = .ok (.aload_n 0, 1) := by decide +kernel
theorem dX4_putHeirsFor_28 : decode cX4_putHeirsFor 28 = .ok (.iload 5, 2) := by decide +kernel
theorem dX4_putHeirsFor_30 : decode cX4_putHeirsFor 30 = .ok (.iload_n 2, 1) := by decide +kernel
theorem dX4_putHeirsFor_31 : decode cX4_putHeirsFor 31 = .ok (.iadd, 1) := by decide +kernel
theorem dX4_putHeirsFor_32 : decode cX4_putHeirsFor 32 = .ok (.iconst 1, 1) := by decide +kernel
theorem dX4_putHeirsFor_33 : decode cX4_putHeirsFor 33 = .ok (.isub, 1) := by decide +kernel
theorem dX4_putHeirsFor_34 : decode cX4_putHeirsFor 34 = .ok (.aload_n 0, 1) := by decide +kernel
theorem dX4_putHeirsFor_35 : decode cX4_putHeirsFor 35 = .ok (.iload 5, 2) := by decide +kernel
theorem dX4_putHeirsFor_37 : decode cX4_putHeirsFor 37 = .ok (.invokevirtual 40, 3) := by decide +kernel
theorem dX4_putHeirsFor_40 : decode cX4_putHeirsFor 40 = .ok (.getfield 43, 3) := by decide +kernel
theorem dX4_putHeirsFor_43 : decode cX4_putHeirsFor 43 = .ok (.invokevirtual 46, 3) := by decide +kernel
theorem dX4_putHeirsFor_46 : decode cX4_putHeirsFor 46 = .ok (.iinc 5 (-1), 3) := by decide +kernel
theorem dX4_putHeirsFor_49 : decode cX4_putHeirsFor 49 = .ok (.goto (-29), 3) := by decide +kernel
theorem dX4_putHeirsFor_52 : decode cX4_putHeirsFor 52 = .ok (.iconst 0, 1) := by decide +kernel
theorem dX4_putHeirsFor_53 : decode cX4_putHeirsFor 53 = .ok (.istore 5, 2) := by decide +kernel
theorem dX4_putHeirsFor_55 : decode cX4_putHeirsFor 55 = .ok (.iload 5, 2) := by decide +kernel
theorem dX4_putHeirsFor_57 : decode cX4_putHeirsFor 57 = .ok (.iload_n 2, 1) := by decide +kernel
theorem dX4_putHeirsFor_58 : decode cX4_putHeirsFor 58 = .ok (.if_icmp .ge 34, 3) := by decide +kernel
theorem dX4_putHeirsFor_61 : decode cX4_putHeirsFor 61 = .ok (.aload_n 0, 1) := by decide +kernel
theorem dX4_putHeirsFor_62 : decode cX4_putHeirsFor 62 = .ok (.iload_n 3, 1) := by decide +kernel
theorem dX4_putHeirsFor_63 : decode cX4_putHeirsFor 63 = .ok (.iload 5, 2) := by decide +kernel
theorem dX4_putHeirsFor_65 : decode cX4_putHeirsFor 65 = .ok (.iadd, 1) := by decide +kernel
theorem dX4_putHeirsFor_66 : decode cX4_putHeirsFor 66 = .ok (.invokevirtual 28, 3) := by decide +kernel
theorem dX4_putHeirsFor_69 : decode cX4_putHeirsFor 69 = .ok (.iconst 1, 1) := by decide +kernel
theorem dX4_putHeirsFor_70 : decode cX4_putHeirsFor 70 = .ok (.putfield 53, 3) := by decide +kernel
theorem dX4_putHeirsFor_73 : decode cX4_putHeirsFor 73 = .ok (.aload_n 0, 1) := by decide +kernel
theorem dX4_putHeirsFor_74 : decode cX4_putHeirsFor 74 = .ok (.iload 4, 2) := by decide +kernel
theorem dX4_putHeirsFor_76 : decode cX4_putHeirsFor 76 = .ok (.iload 5, 2) := by decide +kernel
theorem dX4_putHeirsFor_78 : decode cX4_putHeirsFor 78 = .ok (.iadd, 1) := by decide +kernel
theorem dX4_putHeirsFor_79 : decode cX4_putHeirsFor 79 = .ok (.iload_n 3, 1) := by decide +kernel
theorem dX4_putHeirsFor_80 : decode cX4_putHeirsFor 80 = .ok (.iload 5, 2) := by decide +kernel
theorem dX4_putHeirsFor_82 : decode cX4_putHeirsFor 82 = .ok (.iadd, 1) := by decide +kernel
theorem dX4_putHeirsFor_83 : decode cX4_putHeirsFor 83 = .ok (.invokevirtual 46, 3) := by decide +kernel
theorem dX4_putHeirsFor_86 : decode cX4_putHeirsFor 86 = .ok (.iinc 5 1, 3) := by decide +kernel
theorem dX4_putHeirsFor_89 : decode cX4_putHeirsFor 89 = .ok (.goto (-34), 3) := by decide +kernel
theorem dX4_putHeirsFor_92 : decode cX4_putHeirsFor 92 = .ok (.aload_n 1, 1) := by decide +kernel
theorem dX4_putHeirsFor_93 : decode cX4_putHeirsFor 93 = .ok (.iconst 0, 1) := by decide +kernel
theorem dX4_putHeirsFor_94 : decode cX4_putHeirsFor 94 = .ok (.putfield 53, 3) := by decide +kernel
theorem dX4_putHeirsFor_97 : decode cX4_putHeirsFor 97 = .ok (.aload_n 0, 1) := by decide +kernel
theorem dX4_putHeirsFor_98 : decode cX4_putHeirsFor 98 = .ok (.dup, 1) := by decide +kernel
theorem dX4_putHeirsFor_99 : decode cX4_putHeirsFor 99 = .ok (.getfield 36, 3) := by decide +kernel
theorem dX4_putHeirsFor_102 : decode cX4_putHeirsFor 102 = .ok (.iload_n 2, 1) := by decide +kernel
theorem dX4_putHeirsFor_103 : decode cX4_putHeirsFor 103 = .ok (.iconst 1, 1) := by decide +kernel
theorem dX4_putHeirsFor_104 : decode cX4_putHeirsFor 104 = .ok (.isub, 1) := by decide +kernel
theorem dX4_putHeirsFor_105 : decode cX4_putHeirsFor 105 = .ok (.iadd, 1) := by decide +kernel
theorem dX4_putHeirsFor_106 : decode cX4_putHeirsFor 106 = .ok (.putfield 36, 3) := by decide +kernel
theorem dX4_putHeirsFor_109 : decode cX4_putHeirsFor 109 = .ok (.aload_n 0, 1) := by decide +kernel
theorem dX4_putHeirsFor_110 : decode cX4_putHeirsFor 110 = .ok (.dup, 1) := by decide +kernel
theorem dX4_putHeirsFor_111 : decode cX4_putHeirsFor 111 = .ok (.getfield 50, 3) := by decide +kernel
theorem dX4_putHeirsFor_114 : decode cX4_putHeirsFor 114 = .ok (.iload_n 2, 1) := by decide +kernel
theorem dX4_putHeirsFor_115 : decode cX4_putHeirsFor 115 = .ok (.iadd, 1) := by decide +kernel
theorem dX4_putHeirsFor_116 : decode cX4_putHeirsFor 116 = .ok (.putfield 50, 3) := by decide +kernel
theorem dX4_putHeirsFor_119 : decode cX4_putHeirsFor 119 = .ok (.iload_n 3, 1) := by decide +kernel
theorem dX4_putHeirsFor_120 : decode cX4_putHeirsFor 120 = .ok (.ireturn, 1) := by decide +kernel
theorem dX4_placeOf_0 : decode cX4_placeOf 0 = .ok (.iconst 0, 1) := by decide +kernel
theorem dX4_placeOf_1 : decode cX4_placeOf 1 = .ok (.istore_n 2, 1) := by decide +kernel
theorem dX4_placeOf_2 : decode cX4_placeOf 2 = .ok (.iload_n 2, 1) := by decide +kernel
theorem dX4_placeOf_3 : decode cX4_placeOf 3 = .ok (.aload_n 0, 1) := by decide +kernel
theorem dX4_placeOf_4 : decode cX4_placeOf 4 = .ok (.getfield 36, 3) := by decide +kernel
theorem dX4_placeOf_7 : decode cX4_placeOf 7 = .ok (.if_icmp .ge 20, 3) := by decide +kernel
theorem dX4_placeOf_10 : decode cX4_placeOf 10 = .ok (.aload_n 0, 1) := by decide +kernel
theorem dX4_placeOf_11 : decode cX4_placeOf 11 = .ok (.iload_n 2, 1) := by decide +kernel
theorem dX4_placeOf_12 : decode cX4_placeOf 12 = .ok (.invokevirtual 40, 3) := by decide +kernel
theorem dX4_placeOf_15 : decode cX4_placeOf 15 = .ok (.aload_n 1, 1) := by decide +kernel
theorem dX4_placeOf_16 : decode cX4_placeOf 16 = .ok (.if_acmp .ne 5, 3) := by decide +kernel
theorem dX4_placeOf_19 : decode cX4_placeOf 19 = .ok (.iload_n 2, 1) := by decide +kernel
theorem dX4_placeOf_20 : decode cX4_placeOf 20 = .ok (.ireturn, 1) := by decide +kernel
theorem dX4_placeOf_21 : decode cX4_placeOf 21 = .ok (.iinc 2 1, 3) := by decide +kernel
theorem dX4_placeOf_24 : decode cX4_placeOf 24 = .ok (.goto (-22), 3) := by decide +kernel
theorem dX4_placeOf_27 : decode cX4_placeOf 27 = .ok (.iconst (-1), 1) := by decide +kernel
theorem dX4_placeOf_28 : decode cX4_placeOf 28 = .ok (.ireturn, 1) := by decide +kernel
theorem dX4_firstBowl_0 : decode cX4_firstBowl 0 = .ok (.iconst 0, 1) := by decide +kernel
theorem dX4_firstBowl_1 : decode cX4_firstBowl 1 = .ok (.istore_n 2, 1) := by decide +kernel
theorem dX4_firstBowl_2 : decode cX4_firstBowl 2 = .ok (.iconst 0, 1) := by decide +kernel
theorem dX4_firstBowl_3 : decode cX4_firstBowl 3 = .ok (.istore_n 3, 1) := by decide +kernel
theorem dX4_firstBowl_4 : decode cX4_firstBowl 4 = .ok (.iload_n 3, 1) := by decide +kernel
theorem dX4_firstBowl_5 : decode cX4_firstBowl 5 = .ok (.aload_n 0, 1) := by decide +kernel
theorem dX4_firstBowl_6 : decode cX4_firstBowl 6 = .ok (.getfield 36, 3) := by decide +kernel
theorem dX4_firstBowl_9 : decode cX4_firstBowl 9 = .ok (.if_icmp .ge 29, 3) := by decide +kernel
theorem dX4_firstBowl_12 : decode cX4_firstBowl 12 = .ok (.aload_n 0, 1) := by decide +kernel
theorem dX4_firstBowl_13 : decode cX4_firstBowl 13 = .ok (.iload_n 3, 1) := by decide +kernel
theorem dX4_firstBowl_14 : decode cX4_firstBowl 14 = .ok (.invokevirtual 40, 3) := by decide +kernel
theorem dX4_firstBowl_17 : decode cX4_firstBowl 17 = .ok (.aload_n 1, 1) := by decide +kernel
theorem dX4_firstBowl_18 : decode cX4_firstBowl 18 = .ok (.if_acmp .eq 20, 3) := by decide +kernel
theorem dX4_firstBowl_21 : decode cX4_firstBowl 21 = .ok (.iload_n 2, 1) := by decide +kernel
theorem dX4_firstBowl_22 : decode cX4_firstBowl 22 = .ok (.aload_n 0, 1) := by decide +kernel
theorem dX4_firstBowl_23 : decode cX4_firstBowl 23 = .ok (.iload_n 3, 1) := by decide +kernel
theorem dX4_firstBowl_24 : decode cX4_firstBowl 24 = .ok (.invokevirtual 40, 3) := by decide +kernel
theorem dX4_firstBowl_27 : decode cX4_firstBowl 27 = .ok (.getfield 65, 3) := by decide +kernel
theorem dX4_firstBowl_30 : decode cX4_firstBowl 30 = .ok (.iadd, 1) := by decide +kernel
theorem dX4_firstBowl_31 : decode cX4_firstBowl 31 = .ok (.istore_n 2, 1) := by decide +kernel
theorem dX4_firstBowl_32 : decode cX4_firstBowl 32 = .ok (.iinc 3 1, 3) := by decide +kernel
theorem dX4_firstBowl_35 : decode cX4_firstBowl 35 = .ok (.goto (-31), 3) := by decide +kernel
theorem dX4_firstBowl_38 : decode cX4_firstBowl 38 = .ok (.iload_n 2, 1) := by decide +kernel
theorem dX4_firstBowl_39 : decode cX4_firstBowl 39 = .ok (.ireturn, 1) := by decide +kernel
theorem dX4_holderOf_0 : decode cX4_holderOf 0 = .ok (.iconst 0, 1) := by decide +kernel
theorem dX4_holderOf_1 : decode cX4_holderOf 1 = .ok (.istore_n 2, 1) := by decide +kernel
theorem dX4_holderOf_2 : decode cX4_holderOf 2 = .ok (.iconst 0, 1) := by decide +kernel
theorem dX4_holderOf_3 : decode cX4_holderOf 3 = .ok (.istore_n 3, 1) := by decide +kernel
theorem dX4_holderOf_4 : decode cX4_holderOf 4 = .ok (.iload_n 3, 1) := by decide +kernel
theorem dX4_holderOf_5 : decode cX4_holderOf 5 = .ok (.aload_n 0, 1) := by decide +kernel
theorem dX4_holderOf_6 : decode cX4_holderOf 6 = .ok (.getfield 36, 3) := by decide +kernel
theorem dX4_holderOf_9 : decode cX4_holderOf 9 = .ok (.if_icmp .ge 34, 3) := by decide +kernel
theorem dX4_holderOf_12 : decode cX4_holderOf 12 = .ok (.iload_n 2, 1) := by decide +kernel
theorem dX4_holderOf_13 : decode cX4_holderOf 13 = .ok (.aload_n 0, 1) := by decide +kernel
theorem dX4_holderOf_14 : decode cX4_holderOf 14 = .ok (.iload_n 3, 1) := by decide +kernel
theorem dX4_holderOf_15 : decode cX4_holderOf 15 = .ok (.invokevirtual 40, 3) := by decide +kernel
theorem dX4_holderOf_18 : decode cX4_holderOf 18 = .ok (.getfield 65, 3) := by decide +kernel
theorem dX4_holderOf_21 : decode cX4_holderOf 21 = .ok (.iadd, 1) := by decide +kernel
theorem dX4_holderOf_22 : decode cX4_holderOf 22 = .ok (.istore_n 2, 1) := by decide +kernel
theorem dX4_holderOf_23 : decode cX4_holderOf 23 = .ok (.iload_n 1, 1) := by decide +kernel
theorem dX4_holderOf_24 : decode cX4_holderOf 24 = .ok (.iload_n 2, 1) := by decide +kernel
theorem dX4_holderOf_25 : decode cX4_holderOf 25 = .ok (.if_icmp .ge 12, 3) := by decide +kernel
theorem dX4_holderOf_28 : decode cX4_holderOf 28 = .ok (.aload_n 0, 1) := by decide +kernel
theorem dX4_holderOf_29 : decode cX4_holderOf 29 = .ok (.iload_n 3, 1) := by decide +kernel
theorem dX4_holderOf_30 : decode cX4_holderOf 30 = .ok (.invokevirtual 40, 3) := by decide +kernel
theorem dX4_holderOf_33 : decode cX4_holderOf 33 = .ok (.getfield 43, 3) := by decide +kernel
theorem dX4_holderOf_36 : decode cX4_holderOf 36 = .ok (.ireturn, 1) := by decide +kernel
theorem dX4_holderOf_37 : decode cX4_holderOf 37 = .ok (.iinc 3 1, 3) := by decide +kernel
theorem dX4_holderOf_40 : decode cX4_holderOf 40 = .ok (.goto (-36), 3) := by decide +kernel
theorem dX4_holderOf_43 : decode cX4_holderOf 43 = .ok (.iconst (-1), 1) := by decide +kernel
theorem dX4_holderOf_44 : decode cX4_holderOf 44 = .ok (.ireturn, 1) := by decide +kernel
theorem dX4_ownedBowls_0 : decode cX4_ownedBowls 0 = .ok (.iconst 0, 1) := by decide +kernel
theorem dX4_ownedBowls_1 : decode cX4_ownedBowls 1 = .ok (.istore_n 1, 1) := by decide +kernel
theorem dX4_ownedBowls_2 : decode cX4_ownedBowls 2 = .ok (.iconst 0, 1) := by decide +kernel
theorem dX4_ownedBowls_3 : decode cX4_ownedBowls 3 = .ok (.istore_n 2, 1) := by decide +kernel
theorem dX4_ownedBowls_4 : decode cX4_ownedBowls 4 = .ok (.iload_n 2, 1) := by decide +kernel
theorem dX4_ownedBowls_5 : decode cX4_ownedBowls 5 = .ok (.aload_n 0, 1) := by decide +kernel
theorem dX4_ownedBowls_6 : decode cX4_ownedBowls 6 = .ok (.getfield 36, 3) := by decide +kernel
theorem dX4_ownedBowls_9 : decode cX4_ownedBowls 9 = .ok (.if_icmp .ge 20, 3) := by decide +kernel
theorem dX4_ownedBowls_12 : decode cX4_ownedBowls 12 = .ok (.iload_n 1, 1) := by decide +kernel
theorem dX4_ownedBowls_13 : decode cX4_ownedBowls 13 = .ok (.aload_n 0, 1) := by decide +kernel
theorem dX4_ownedBowls_14 : decode cX4_ownedBowls 14 = .ok (.iload_n 2, 1) := by decide +kernel
theorem dX4_ownedBowls_15 : decode cX4_ownedBowls 15 = .ok (.invokevirtual 40, 3) := by decide +kernel
theorem dX4_ownedBowls_18 : decode cX4_ownedBowls 18 = .ok (.getfield 65, 3) := by decide +kernel
theorem dX4_ownedBowls_21 : decode cX4_ownedBowls 21 = .ok (.iadd, 1) := by decide +kernel
theorem dX4_ownedBowls_22 : decode cX4_ownedBowls 22 = .ok (.istore_n 1, 1) := by decide +kernel
theorem dX4_ownedBowls_23 : decode cX4_ownedBowls 23 = .ok (.iinc 2 1, 3) := by decide +kernel
theorem dX4_ownedBowls_26 : decode cX4_ownedBowls 26 = .ok (.goto (-22), 3) := by decide +kernel
theorem dX4_ownedBowls_29 : decode cX4_ownedBowls 29 = .ok (.iload_n 1, 1) := by decide +kernel
theorem dX4_ownedBowls_30 : decode cX4_ownedBowls 30 = .ok (.ireturn, 1) := by decide +kernel
theorem dX4_commonBowls_0 : decode cX4_commonBowls 0 = .ok (.sipush 5040, 3) := by decide +kernel
theorem dX4_commonBowls_3 : decode cX4_commonBowls 3 = .ok (.aload_n 0, 1) := by decide +kernel
theorem dX4_commonBowls_4 : decode cX4_commonBowls 4 = .ok (.invokevirtual 68, 3) := by decide +kernel
theorem dX4_commonBowls_7 : decode cX4_commonBowls 7 = .ok (.isub, 1) := by decide +kernel
theorem dX4_commonBowls_8 : decode cX4_commonBowls 8 = .ok (.ireturn, 1) := by decide +kernel
theorem dX4_sumOfCoins_0 : decode cX4_sumOfCoins 0 = .ok (.iconst 0, 1) := by decide +kernel
theorem dX4_sumOfCoins_1 : decode cX4_sumOfCoins 1 = .ok (.istore_n 1, 1) := by decide +kernel
theorem dX4_sumOfCoins_2 : decode cX4_sumOfCoins 2 = .ok (.iconst 0, 1) := by decide +kernel
theorem dX4_sumOfCoins_3 : decode cX4_sumOfCoins 3 = .ok (.istore_n 2, 1) := by decide +kernel
theorem dX4_sumOfCoins_4 : decode cX4_sumOfCoins 4 = .ok (.iload_n 2, 1) := by decide +kernel
theorem dX4_sumOfCoins_5 : decode cX4_sumOfCoins 5 = .ok (.aload_n 0, 1) := by decide +kernel
theorem dX4_sumOfCoins_6 : decode cX4_sumOfCoins 6 = .ok (.getfield 36, 3) := by decide +kernel
theorem dX4_sumOfCoins_9 : decode cX4_sumOfCoins 9 = .ok (.if_icmp .ge 20, 3) := by decide +kernel
theorem dX4_sumOfCoins_12 : decode cX4_sumOfCoins 12 = .ok (.iload_n 1, 1) := by decide +kernel
theorem dX4_sumOfCoins_13 : decode cX4_sumOfCoins 13 = .ok (.aload_n 0, 1) := by decide +kernel
theorem dX4_sumOfCoins_14 : decode cX4_sumOfCoins 14 = .ok (.iload_n 2, 1) := by decide +kernel
theorem dX4_sumOfCoins_15 : decode cX4_sumOfCoins 15 = .ok (.invokevirtual 40, 3) := by decide +kernel
theorem dX4_sumOfCoins_18 : decode cX4_sumOfCoins 18 = .ok (.getfield 72, 3) := by decide +kernel
theorem dX4_sumOfCoins_21 : decode cX4_sumOfCoins 21 = .ok (.iadd, 1) := by decide +kernel
theorem dX4_sumOfCoins_22 : decode cX4_sumOfCoins 22 = .ok (.istore_n 1, 1) := by decide +kernel
theorem dX4_sumOfCoins_23 : decode cX4_sumOfCoins 23 = .ok (.iinc 2 1, 3) := by decide +kernel
theorem dX4_sumOfCoins_26 : decode cX4_sumOfCoins 26 = .ok (.goto (-22), 3) := by decide +kernel
theorem dX4_sumOfCoins_29 : decode cX4_sumOfCoins 29 = .ok (.iload_n 1, 1) := by decide +kernel
theorem dX4_sumOfCoins_30 : decode cX4_sumOfCoins 30 = .ok (.ireturn, 1) := by decide +kernel
theorem dX4_sumOfMoist_0 : decode cX4_sumOfMoist 0 = .ok (.iconst 0, 1) := by decide +kernel
theorem dX4_sumOfMoist_1 : decode cX4_sumOfMoist 1 = .ok (.istore_n 1, 1) := by decide +kernel
theorem dX4_sumOfMoist_2 : decode cX4_sumOfMoist 2 = .ok (.iconst 0, 1) := by decide +kernel
theorem dX4_sumOfMoist_3 : decode cX4_sumOfMoist 3 = .ok (.istore_n 2, 1) := by decide +kernel
theorem dX4_sumOfMoist_4 : decode cX4_sumOfMoist 4 = .ok (.iload_n 2, 1) := by decide +kernel
theorem dX4_sumOfMoist_5 : decode cX4_sumOfMoist 5 = .ok (.aload_n 0, 1) := by decide +kernel
theorem dX4_sumOfMoist_6 : decode cX4_sumOfMoist 6 = .ok (.getfield 36, 3) := by decide +kernel
theorem dX4_sumOfMoist_9 : decode cX4_sumOfMoist 9 = .ok (.if_icmp .ge 20, 3) := by decide +kernel
theorem dX4_sumOfMoist_12 : decode cX4_sumOfMoist 12 = .ok (.iload_n 1, 1) := by decide +kernel
theorem dX4_sumOfMoist_13 : decode cX4_sumOfMoist 13 = .ok (.aload_n 0, 1) := by decide +kernel
theorem dX4_sumOfMoist_14 : decode cX4_sumOfMoist 14 = .ok (.iload_n 2, 1) := by decide +kernel
theorem dX4_sumOfMoist_15 : decode cX4_sumOfMoist 15 = .ok (.invokevirtual 40, 3) := by decide +kernel
theorem dX4_sumOfMoist_18 : decode cX4_sumOfMoist 18 = .ok (.getfield 75, 3) := by decide +kernel
theorem dX4_sumOfMoist_21 : decode cX4_sumOfMoist 21 = .ok (.iadd, 1) := by decide +kernel
theorem dX4_sumOfMoist_22 : decode cX4_sumOfMoist 22 = .ok (.istore_n 1, 1) := by decide +kernel
theorem dX4_sumOfMoist_23 : decode cX4_sumOfMoist 23 = .ok (.iinc 2 1, 3) := by decide +kernel
theorem dX4_sumOfMoist_26 : decode cX4_sumOfMoist 26 = .ok (.goto (-22), 3) := by decide +kernel
theorem dX4_sumOfMoist_29 : decode cX4_sumOfMoist 29 = .ok (.iload_n 1, 1) := by decide +kernel
theorem dX4_sumOfMoist_30 : decode cX4_sumOfMoist 30 = .ok (.ireturn, 1) := by decide +kernel
theorem dX4_shareCost_0 : decode cX4_shareCost 0 = .ok (.aload_n 0, 1) := by decide +kernel
theorem dX4_shareCost_1 : decode cX4_shareCost 1 = .ok (.invokevirtual 68, 3) := by decide +kernel
theorem dX4_shareCost_4 : decode cX4_shareCost 4 = .ok (.istore_n 2, 1) := by decide +kernel
theorem dX4_shareCost_5 : decode cX4_shareCost 5 = .ok (.iload_n 2, 1) := by decide +kernel
theorem dX4_shareCost_6 : decode cX4_shareCost 6 = .ok (.iconst 1, 1) := by decide +kernel
theorem dX4_shareCost_7 : decode cX4_shareCost 7 = .ok (.if_icmp .ge 4, 3) := by decide +kernel
theorem dX4_shareCost_10 : decode cX4_shareCost 10 = .ok (.return_, 1) := by decide +kernel
theorem dX4_shareCost_11 : decode cX4_shareCost 11 = .ok (.iload_n 1, 1) := by decide +kernel
theorem dX4_shareCost_12 : decode cX4_shareCost 12 = .ok (.istore_n 3, 1) := by decide +kernel
theorem dX4_shareCost_13 : decode cX4_shareCost 13 = .ok (.iconst 0, 1) := by decide +kernel
theorem dX4_shareCost_14 : decode cX4_shareCost 14 = .ok (.istore 4, 2) := by decide +kernel
theorem dX4_shareCost_16 : decode cX4_shareCost 16 = .ok (.iload 4, 2) := by decide +kernel
theorem dX4_shareCost_18 : decode cX4_shareCost 18 = .ok (.aload_n 0, 1) := by decide +kernel
theorem dX4_shareCost_19 : decode cX4_shareCost 19 = .ok (.getfield 36, 3) := by decide +kernel
theorem dX4_shareCost_22 : decode cX4_shareCost 22 = .ok (.if_icmp .ge 45, 3) := by decide +kernel
theorem dX4_shareCost_25 : decode cX4_shareCost 25 = .ok (.aload_n 0, 1) := by decide +kernel
theorem dX4_shareCost_26 : decode cX4_shareCost 26 = .ok (.iload 4, 2) := by decide +kernel
theorem dX4_shareCost_28 : decode cX4_shareCost 28 = .ok (.invokevirtual 40, 3) := by decide +kernel
theorem dX4_shareCost_31 : decode cX4_shareCost 31 = .ok (.astore 5, 2) := by decide +kernel
theorem dX4_shareCost_33 : decode cX4_shareCost 33 = .ok (.iload_n 1, 1) := by decide +kernel
theorem dX4_shareCost_34 : decode cX4_shareCost 34 = .ok (.aload 5, 2) := by decide +kernel
theorem dX4_shareCost_36 : decode cX4_shareCost 36 = .ok (.getfield 65, 3) := by decide +kernel
theorem dX4_shareCost_39 : decode cX4_shareCost 39 = .ok (.imul, 1) := by decide +kernel
theorem dX4_shareCost_40 : decode cX4_shareCost 40 = .ok (.iload_n 2, 1) := by decide +kernel
theorem dX4_shareCost_41 : decode cX4_shareCost 41 = .ok (.idiv, 1) := by decide +kernel
theorem dX4_shareCost_42 : decode cX4_shareCost 42 = .ok (.istore 6, 2) := by decide +kernel
theorem dX4_shareCost_44 : decode cX4_shareCost 44 = .ok (.aload 5, 2) := by decide +kernel
theorem dX4_shareCost_46 : decode cX4_shareCost 46 = .ok (.dup, 1) := by decide +kernel
theorem dX4_shareCost_47 : decode cX4_shareCost 47 = .ok (.getfield 72, 3) := by decide +kernel
theorem dX4_shareCost_50 : decode cX4_shareCost 50 = .ok (.iload 6, 2) := by decide +kernel
theorem dX4_shareCost_52 : decode cX4_shareCost 52 = .ok (.isub, 1) := by decide +kernel
theorem dX4_shareCost_53 : decode cX4_shareCost 53 = .ok (.putfield 72, 3) := by decide +kernel
theorem dX4_shareCost_56 : decode cX4_shareCost 56 = .ok (.iload_n 3, 1) := by decide +kernel
theorem dX4_shareCost_57 : decode cX4_shareCost 57 = .ok (.iload 6, 2) := by decide +kernel
theorem dX4_shareCost_59 : decode cX4_shareCost 59 = .ok (.isub, 1) := by decide +kernel
theorem dX4_shareCost_60 : decode cX4_shareCost 60 = .ok (.istore_n 3, 1) := by decide +kernel
theorem dX4_shareCost_61 : decode cX4_shareCost 61 = .ok (.iinc 4 1, 3) := by decide +kernel
theorem dX4_shareCost_64 : decode cX4_shareCost 64 = .ok (.goto (-48), 3) := by decide +kernel
theorem dX4_shareCost_67 : decode cX4_shareCost 67 = .ok (.aload_n 0, 1) := by decide +kernel
theorem dX4_shareCost_68 : decode cX4_shareCost 68 = .ok (.iconst 0, 1) := by decide +kernel
theorem dX4_shareCost_69 : decode cX4_shareCost 69 = .ok (.invokevirtual 40, 3) := by decide +kernel
theorem dX4_shareCost_72 : decode cX4_shareCost 72 = .ok (.dup, 1) := by decide +kernel
theorem dX4_shareCost_73 : decode cX4_shareCost 73 = .ok (.getfield 72, 3) := by decide +kernel
theorem dX4_shareCost_76 : decode cX4_shareCost 76 = .ok (.iload_n 3, 1) := by decide +kernel
theorem dX4_shareCost_77 : decode cX4_shareCost 77 = .ok (.isub, 1) := by decide +kernel
theorem dX4_shareCost_78 : decode cX4_shareCost 78 = .ok (.putfield 72, 3) := by decide +kernel
theorem dX4_shareCost_81 : decode cX4_shareCost 81 = .ok (.return_, 1) := by decide +kernel
theorem dX4_growPalms_0 : decode cX4_growPalms 0 = .ok (.iconst 0, 1) := by decide +kernel
theorem dX4_growPalms_1 : decode cX4_growPalms 1 = .ok (.istore_n 2, 1) := by decide +kernel
theorem dX4_growPalms_2 : decode cX4_growPalms 2 = .ok (.iload_n 2, 1) := by decide +kernel
theorem dX4_growPalms_3 : decode cX4_growPalms 3 = .ok (.aload_n 0, 1) := by decide +kernel
theorem dX4_growPalms_4 : decode cX4_growPalms 4 = .ok (.getfield 36, 3) := by decide +kernel
theorem dX4_growPalms_7 : decode cX4_growPalms 7 = .ok (.if_icmp .ge 18, 3) := by decide +kernel
theorem dX4_growPalms_10 : decode cX4_growPalms 10 = .ok (.aload_n 0, 1) := by decide +kernel
theorem dX4_growPalms_11 : decode cX4_growPalms 11 = .ok (.iload_n 2, 1) := by decide +kernel
theorem dX4_growPalms_12 : decode cX4_growPalms 12 = .ok (.invokevirtual 40, 3) := by decide +kernel
theorem dX4_growPalms_15 : decode cX4_growPalms 15 = .ok (.iload_n 1, 1) := by decide +kernel
theorem dX4_growPalms_16 : decode cX4_growPalms 16 = .ok (.invokevirtual 78, 3) := by decide +kernel
theorem dX4_growPalms_19 : decode cX4_growPalms 19 = .ok (.iinc 2 1, 3) := by decide +kernel
theorem dX4_growPalms_22 : decode cX4_growPalms 22 = .ok (.goto (-20), 3) := by decide +kernel
theorem dX4_growPalms_25 : decode cX4_growPalms 25 = .ok (.return_, 1) := by decide +kernel
theorem dX4_reap_0 : decode cX4_reap 0 = .ok (.iconst 0, 1) := by decide +kernel
theorem dX4_reap_1 : decode cX4_reap 1 = .ok (.istore_n 1, 1) := by decide +kernel
theorem dX4_reap_2 : decode cX4_reap 2 = .ok (.iconst 0, 1) := by decide +kernel
theorem dX4_reap_3 : decode cX4_reap 3 = .ok (.istore_n 2, 1) := by decide +kernel
theorem dX4_reap_4 : decode cX4_reap 4 = .ok (.iload_n 2, 1) := by decide +kernel
theorem dX4_reap_5 : decode cX4_reap 5 = .ok (.aload_n 0, 1) := by decide +kernel
theorem dX4_reap_6 : decode cX4_reap 6 = .ok (.getfield 36, 3) := by decide +kernel
theorem dX4_reap_9 : decode cX4_reap 9 = .ok (.if_icmp .ge 28, 3) := by decide +kernel
theorem dX4_reap_12 : decode cX4_reap 12 = .ok (.aload_n 0, 1) := by decide +kernel
theorem dX4_reap_13 : decode cX4_reap 13 = .ok (.iload_n 2, 1) := by decide +kernel
theorem dX4_reap_14 : decode cX4_reap 14 = .ok (.invokevirtual 40, 3) := by decide +kernel
theorem dX4_reap_17 : decode cX4_reap 17 = .ok (.invokevirtual 82, 3) := by decide +kernel
theorem dX4_reap_20 : decode cX4_reap 20 = .ok (.iload_n 1, 1) := by decide +kernel
theorem dX4_reap_21 : decode cX4_reap 21 = .ok (.aload_n 0, 1) := by decide +kernel
theorem dX4_reap_22 : decode cX4_reap 22 = .ok (.iload_n 2, 1) := by decide +kernel
theorem dX4_reap_23 : decode cX4_reap 23 = .ok (.invokevirtual 40, 3) := by decide +kernel
theorem dX4_reap_26 : decode cX4_reap 26 = .ok (.getfield 85, 3) := by decide +kernel
theorem dX4_reap_29 : decode cX4_reap 29 = .ok (.iadd, 1) := by decide +kernel
theorem dX4_reap_30 : decode cX4_reap 30 = .ok (.istore_n 1, 1) := by decide +kernel
theorem dX4_reap_31 : decode cX4_reap 31 = .ok (.iinc 2 1, 3) := by decide +kernel
theorem dX4_reap_34 : decode cX4_reap 34 = .ok (.goto (-30), 3) := by decide +kernel
theorem dX4_reap_37 : decode cX4_reap 37 = .ok (.iload_n 1, 1) := by decide +kernel
theorem dX4_reap_38 : decode cX4_reap 38 = .ok (.ireturn, 1) := by decide +kernel
theorem dX5_init_0 : decode cX5_init 0 = .ok (.aload_n 0, 1) := by decide +kernel
theorem dX5_init_1 : decode cX5_init 1 = .ok (.invokespecial 1, 3) := by decide +kernel
theorem dX5_init_4 : decode cX5_init 4 = .ok (.aload_n 0, 1) := by decide +kernel
theorem dX5_init_5 : decode cX5_init 5 = .ok (.new 7, 3) := by decide +kernel
theorem dX5_init_8 : decode cX5_init 8 = .ok (.dup, 1) := by decide +kernel
theorem dX5_init_9 : decode cX5_init 9 = .ok (.invokespecial 9, 3) := by decide +kernel
theorem dX5_init_12 : decode cX5_init 12 = .ok (.putfield 10, 3) := by decide +kernel
theorem dX5_init_15 : decode cX5_init 15 = .ok (.aload_n 0, 1) := by decide +kernel
theorem dX5_init_16 : decode cX5_init 16 = .ok (.new 7, 3) := by decide +kernel
theorem dX5_init_19 : decode cX5_init 19 = .ok (.dup, 1) := by decide +kernel
theorem dX5_init_20 : decode cX5_init 20 = .ok (.invokespecial 9, 3) := by decide +kernel
theorem dX5_init_23 : decode cX5_init 23 = .ok (.putfield 16, 3) := by decide +kernel
theorem dX5_init_26 : decode cX5_init 26 = .ok (.aload_n 0, 1) := by decide +kernel
theorem dX5_init_27 : decode cX5_init 27 = .ok (.new 7, 3) := by decide +kernel
theorem dX5_init_30 : decode cX5_init 30 = .ok (.dup, 1) := by decide +kernel
theorem dX5_init_31 : decode cX5_init 31 = .ok (.invokespecial 9, 3) := by decide +kernel
theorem dX5_init_34 : decode cX5_init 34 = .ok (.putfield 19, 3) := by decide +kernel
theorem dX5_init_37 : decode cX5_init 37 = .ok (.return_, 1) := by decide +kernel
theorem dX5_owner_0 : decode cX5_owner 0 = .ok (.iload_n 1, 1) := by decide +kernel
theorem dX5_owner_1 : decode cX5_owner 1 = .ok (.iconst 0, 1) := by decide +kernel
theorem dX5_owner_2 : decode cX5_owner 2 = .ok (.sipush 5040, 3) := by decide +kernel
theorem dX5_owner_5 : decode cX5_owner 5 = .ok (.invokestatic 22, 3) := by decide +kernel
theorem dX5_owner_8 : decode cX5_owner 8 = .ok (.ifCond .eq 40, 3) := by decide +kernel
theorem dX5_owner_11 : decode cX5_owner 11 = .ok (.iload_n 2, 1) := by decide +kernel
theorem dX5_owner_12 : decode cX5_owner 12 = .ok (.iconst 0, 1) := by decide +kernel
theorem dX5_owner_13 : decode cX5_owner 13 = .ok (.sipush 9999, 3) := by decide +kernel
theorem dX5_owner_16 : decode cX5_owner 16 = .ok (.invokestatic 22, 3) := by decide +kernel
theorem dX5_owner_19 : decode cX5_owner 19 = .ok (.ifCond .eq 29, 3) := by decide +kernel
theorem dX5_owner_22 : decode cX5_owner 22 = .ok (.iload_n 3, 1) := by decide +kernel
theorem dX5_owner_23 : decode cX5_owner 23 = .ok (.iconst 0, 1) := by decide +kernel
theorem dX5_owner_24 : decode cX5_owner 24 = .ok (.sipush 200, 3) := by decide +kernel
theorem dX5_owner_27 : decode cX5_owner 27 = .ok (.invokestatic 22, 3) := by decide +kernel
theorem dX5_owner_30 : decode cX5_owner 30 = .ok (.ifCond .eq 18, 3) := by decide +kernel
theorem dX5_owner_33 : decode cX5_owner 33 = .ok (.iload 4, 2) := by decide +kernel
theorem dX5_owner_35 : decode cX5_owner 35 = .ok (.iconst 0, 1) := by decide +kernel
theorem dX5_owner_36 : decode cX5_owner 36 = .ok (.bipush 20, 2) := by decide +kernel
theorem dX5_owner_38 : decode cX5_owner 38 = .ok (.invokestatic 22, 3) := by decide +kernel
theorem dX5_owner_41 : decode cX5_owner 41 = .ok (.ifCond .eq 7, 3) := by decide +kernel
theorem dX5_owner_44 : decode cX5_owner 44 = .ok (.iconst 1, 1) := by decide +kernel
theorem dX5_owner_45 : decode cX5_owner 45 = .ok (.goto 4, 3) := by decide +kernel
theorem dX5_owner_48 : decode cX5_owner 48 = .ok (.iconst 0, 1) := by decide +kernel
theorem dX5_owner_49 : decode cX5_owner 49 = .ok (.invokestatic 26, 3) := by decide +kernel
theorem dX5_owner_52 : decode cX5_owner 52 = .ok (.aload_n 0, 1) := by decide +kernel
theorem dX5_owner_53 : decode cX5_owner 53 = .ok (.getfield 10, 3) := by decide +kernel
theorem dX5_owner_56 : decode cX5_owner 56 = .ok (.getfield 30, 3) := by decide +kernel
theorem dX5_owner_59 : decode cX5_owner 59 = .ok (.iconst 1, 1) := by decide +kernel
theorem dX5_owner_60 : decode cX5_owner 60 = .ok (.invokevirtual 34, 3) := by decide +kernel
theorem dX5_owner_63 : decode cX5_owner 63 = .ok (.ifCond .eq 21, 3) := by decide +kernel
theorem dX5_owner_66 : decode cX5_owner 66 = .ok (.iload_n 1, 1) := by decide +kernel
theorem dX5_owner_67 : decode cX5_owner 67 = .ok (.aload_n 0, 1) := by decide +kernel
theorem dX5_owner_68 : decode cX5_owner 68 = .ok (.getfield 10, 3) := by decide +kernel
theorem dX5_owner_71 : decode cX5_owner 71 = .ok (.getfield 30, 3) := by decide +kernel
theorem dX5_owner_74 : decode cX5_owner 74 = .ok (.invokevirtual 40, 3) := by decide +kernel
theorem dX5_owner_77 : decode cX5_owner 77 = .ok (.if_icmp .gt 7, 3) := by decide +kernel
theorem dX5_owner_80 : decode cX5_owner 80 = .ok (.iconst 1, 1) := by decide +kernel
theorem dX5_owner_81 : decode cX5_owner 81 = .ok (.goto 4, 3) := by decide +kernel
theorem dX5_owner_84 : decode cX5_owner 84 = .ok (.iconst 0, 1) := by decide +kernel
theorem dX5_owner_85 : decode cX5_owner 85 = .ok (.invokestatic 44, 3) := by decide +kernel
theorem dX5_owner_88 : decode cX5_owner 88 = .ok (.aload_n 0, 1) := by decide +kernel
theorem dX5_owner_89 : decode cX5_owner 89 = .ok (.getfield 10, 3) := by decide +kernel
theorem dX5_owner_92 : decode cX5_owner 92 = .ok (.getfield 30, 3) := by decide +kernel
theorem dX5_owner_95 : decode cX5_owner 95 = .ok (.iload_n 1, 1) := by decide +kernel
theorem dX5_owner_96 : decode cX5_owner 96 = .ok (.iload_n 2, 1) := by decide +kernel
theorem dX5_owner_97 : decode cX5_owner 97 = .ok (.iload_n 3, 1) := by decide +kernel
theorem dX5_owner_98 : decode cX5_owner 98 = .ok (.iload 4, 2) := by decide +kernel
theorem dX5_owner_100 : decode cX5_owner 100 = .ok (.invokevirtual 47, 3) := by decide +kernel
theorem dX5_owner_103 : decode cX5_owner 103 = .ok (.ireturn, 1) := by decide +kernel
theorem dX5_sell_0 : decode cX5_sell 0 = .ok (.aload_n 0, 1) := by decide +kernel
theorem dX5_sell_1 : decode cX5_sell 1 = .ok (.iload_n 1, 1) := by decide +kernel
theorem dX5_sell_2 : decode cX5_sell 2 = .ok (.invokevirtual 51, 3) := by decide +kernel
theorem dX5_sell_5 : decode cX5_sell 5 = .ok (.aload_n 0, 1) := by decide +kernel
theorem dX5_sell_6 : decode cX5_sell 6 = .ok (.iload_n 2, 1) := by decide +kernel
theorem dX5_sell_7 : decode cX5_sell 7 = .ok (.invokevirtual 51, 3) := by decide +kernel
theorem dX5_sell_10 : decode cX5_sell 10 = .ok (.iload_n 1, 1) := by decide +kernel
theorem dX5_sell_11 : decode cX5_sell 11 = .ok (.iload_n 2, 1) := by decide +kernel
theorem dX5_sell_12 : decode cX5_sell 12 = .ok (.if_icmp .eq 30, 3) := by decide +kernel
theorem dX5_sell_15 : decode cX5_sell 15 = .ok (.iload_n 3, 1) := by decide +kernel
theorem dX5_sell_16 : decode cX5_sell 16 = .ok (.iconst 1, 1) := by decide +kernel
theorem dX5_sell_17 : decode cX5_sell 17 = .ok (.sipush 5040, 3) := by decide +kernel
theorem dX5_sell_20 : decode cX5_sell 20 = .ok (.invokestatic 22, 3) := by decide +kernel
theorem dX5_sell_23 : decode cX5_sell 23 = .ok (.ifCond .eq 19, 3) := by decide +kernel
theorem dX5_sell_26 : decode cX5_sell 26 = .ok (.iload 4, 2) := by decide +kernel
theorem dX5_sell_28 : decode cX5_sell 28 = .ok (.iconst 0, 1) := by decide +kernel
theorem dX5_sell_29 : decode cX5_sell 29 = .ok (.sipush 9999, 3) := by decide +kernel
theorem dX5_sell_32 : decode cX5_sell 32 = .ok (.invokestatic 22, 3) := by decide +kernel
theorem dX5_sell_35 : decode cX5_sell 35 = .ok (.ifCond .eq 7, 3) := by decide +kernel
theorem dX5_sell_38 : decode cX5_sell 38 = .ok (.iconst 1, 1) := by decide +kernel
theorem dX5_sell_39 : decode cX5_sell 39 = .ok (.goto 4, 3) := by decide +kernel
theorem dX5_sell_42 : decode cX5_sell 42 = .ok (.iconst 0, 1) := by decide +kernel
theorem dX5_sell_43 : decode cX5_sell 43 = .ok (.invokestatic 26, 3) := by decide +kernel
theorem dX5_sell_46 : decode cX5_sell 46 = .ok (.aload_n 0, 1) := by decide +kernel
theorem dX5_sell_47 : decode cX5_sell 47 = .ok (.getfield 10, 3) := by decide +kernel
theorem dX5_sell_50 : decode cX5_sell 50 = .ok (.getfield 30, 3) := by decide +kernel
theorem dX5_sell_53 : decode cX5_sell 53 = .ok (.iload_n 1, 1) := by decide +kernel
theorem dX5_sell_54 : decode cX5_sell 54 = .ok (.invokevirtual 55, 3) := by decide +kernel
theorem dX5_sell_57 : decode cX5_sell 57 = .ok (.astore 5, 2) := by decide +kernel
theorem dX5_sell_59 : decode cX5_sell 59 = .ok (.aload_n 0, 1) := by decide +kernel
theorem dX5_sell_60 : decode cX5_sell 60 = .ok (.getfield 10, 3) := by decide +kernel
theorem dX5_sell_63 : decode cX5_sell 63 = .ok (.getfield 30, 3) := by decide +kernel
theorem dX5_sell_66 : decode cX5_sell 66 = .ok (.iload_n 2, 1) := by decide +kernel
theorem dX5_sell_67 : decode cX5_sell 67 = .ok (.invokevirtual 55, 3) := by decide +kernel
theorem dX5_sell_70 : decode cX5_sell 70 = .ok (.astore 6, 2) := by decide +kernel
theorem dX5_sell_72 : decode cX5_sell 72 = .ok (.iload_n 3, 1) := by decide +kernel
theorem dX5_sell_73 : decode cX5_sell 73 = .ok (.aload_n 0, 1) := by decide +kernel
theorem dX5_sell_74 : decode cX5_sell 74 = .ok (.getfield 10, 3) := by decide +kernel
theorem dX5_sell_77 : decode cX5_sell 77 = .ok (.aload 5, 2) := by decide +kernel
theorem dX5_sell_79 : decode cX5_sell 79 = .ok (.invokevirtual 59, 3) := by decide +kernel
theorem dX5_sell_82 : decode cX5_sell 82 = .ok (.if_icmp .le 6, 3) := by decide +kernel
theorem dX5_sell_85 : decode cX5_sell 85 = .ok (.bipush (-2), 2) := by decide +kernel
theorem dX5_sell_87 : decode cX5_sell 87 = .ok (.ireturn, 1) := by decide +kernel
theorem dX5_sell_88 : decode cX5_sell 88 = .ok (.iload 4, 2) := by decide +kernel
theorem dX5_sell_90 : decode cX5_sell 90 = .ok (.aload 6, 2) := by decide +kernel
theorem dX5_sell_92 : decode cX5_sell 92 = .ok (.getfield 63, 3) := by decide +kernel
theorem dX5_sell_95 : decode cX5_sell 95 = .ok (.if_icmp .le 6, 3) := by decide +kernel
theorem dX5_sell_98 : decode cX5_sell 98 = .ok (.bipush (-3), 2) := by decide +kernel
theorem dX5_sell_100 : decode cX5_sell 100 = .ok (.ireturn, 1) := by decide +kernel
theorem dX5_sell_101 : decode cX5_sell 101 = .ok (.aload 6, 2) := by decide +kernel
theorem dX5_sell_103 : decode cX5_sell 103 = .ok (.aload 5, 2) := by decide +kernel
theorem dX5_sell_105 : decode cX5_sell 105 = .ok (.iload 4, 2) := by decide +kernel
theorem dX5_sell_107 : decode cX5_sell 107 = .ok (.invokevirtual 69, 3) := by decide +kernel
theorem dX5_sell_110 : decode cX5_sell 110 = .ok (.aload 5, 2) := by decide +kernel
theorem dX5_sell_112 : decode cX5_sell 112 = .ok (.dup, 1) := by decide +kernel
theorem dX5_sell_113 : decode cX5_sell 113 = .ok (.getfield 73, 3) := by decide +kernel
theorem dX5_sell_116 : decode cX5_sell 116 = .ok (.iload_n 3, 1) := by decide +kernel
theorem dX5_sell_117 : decode cX5_sell 117 = .ok (.isub, 1) := by decide +kernel
theorem dX5_sell_118 : decode cX5_sell 118 = .ok (.putfield 73, 3) := by decide +kernel
theorem dX5_sell_121 : decode cX5_sell 121 = .ok (.aload 6, 2) := by decide +kernel
theorem dX5_sell_123 : decode cX5_sell 123 = .ok (.dup, 1) := by decide +kernel
theorem dX5_sell_124 : decode cX5_sell 124 = .ok (.getfield 73, 3) := by decide +kernel
theorem dX5_sell_127 : decode cX5_sell 127 = .ok (.iload_n 3, 1) := by decide +kernel
theorem dX5_sell_128 : decode cX5_sell 128 = .ok (.iadd, 1) := by decide +kernel
theorem dX5_sell_129 : decode cX5_sell 129 = .ok (.putfield 73, 3) := by decide +kernel
theorem dX5_sell_132 : decode cX5_sell 132 = .ok (.aload 6, 2) := by decide +kernel
theorem dX5_sell_134 : decode cX5_sell 134 = .ok (.getfield 73, 3) := by decide +kernel
theorem dX5_sell_137 : decode cX5_sell 137 = .ok (.ireturn, 1) := by decide +kernel
theorem dX5_lend_0 : decode cX5_lend 0 = .ok (.aload_n 0, 1) := by decide +kernel
theorem dX5_lend_1 : decode cX5_lend 1 = .ok (.iload_n 1, 1) := by decide +kernel
theorem dX5_lend_2 : decode cX5_lend 2 = .ok (.invokevirtual 51, 3) := by decide +kernel
theorem dX5_lend_5 : decode cX5_lend 5 = .ok (.aload_n 0, 1) := by decide +kernel
theorem dX5_lend_6 : decode cX5_lend 6 = .ok (.iload_n 2, 1) := by decide +kernel
theorem dX5_lend_7 : decode cX5_lend 7 = .ok (.invokevirtual 51, 3) := by decide +kernel
theorem dX5_lend_10 : decode cX5_lend 10 = .ok (.iload_n 1, 1) := by decide +kernel
theorem dX5_lend_11 : decode cX5_lend 11 = .ok (.iload_n 2, 1) := by decide +kernel
theorem dX5_lend_12 : decode cX5_lend 12 = .ok (.if_icmp .eq 29, 3) := by decide +kernel
theorem dX5_lend_15 : decode cX5_lend 15 = .ok (.iload_n 3, 1) := by decide +kernel
theorem dX5_lend_16 : decode cX5_lend 16 = .ok (.iconst 1, 1) := by decide +kernel
theorem dX5_lend_17 : decode cX5_lend 17 = .ok (.sipush 5040, 3) := by decide +kernel
theorem dX5_lend_20 : decode cX5_lend 20 = .ok (.invokestatic 22, 3) := by decide +kernel
theorem dX5_lend_23 : decode cX5_lend 23 = .ok (.ifCond .eq 18, 3) := by decide +kernel
theorem dX5_lend_26 : decode cX5_lend 26 = .ok (.iload 4, 2) := by decide +kernel
theorem dX5_lend_28 : decode cX5_lend 28 = .ok (.iconst 1, 1) := by decide +kernel
theorem dX5_lend_29 : decode cX5_lend 29 = .ok (.bipush 20, 2) := by decide +kernel
theorem dX5_lend_31 : decode cX5_lend 31 = .ok (.invokestatic 22, 3) := by decide +kernel
theorem dX5_lend_34 : decode cX5_lend 34 = .ok (.ifCond .eq 7, 3) := by decide +kernel
theorem dX5_lend_37 : decode cX5_lend 37 = .ok (.iconst 1, 1) := by decide +kernel
theorem dX5_lend_38 : decode cX5_lend 38 = .ok (.goto 4, 3) := by decide +kernel
theorem dX5_lend_41 : decode cX5_lend 41 = .ok (.iconst 0, 1) := by decide +kernel
theorem dX5_lend_42 : decode cX5_lend 42 = .ok (.invokestatic 26, 3) := by decide +kernel
theorem dX5_lend_45 : decode cX5_lend 45 = .ok (.aload_n 0, 1) := by decide +kernel
theorem dX5_lend_46 : decode cX5_lend 46 = .ok (.getfield 10, 3) := by decide +kernel
theorem dX5_lend_49 : decode cX5_lend 49 = .ok (.getfield 76, 3) := by decide +kernel
theorem dX5_lend_52 : decode cX5_lend 52 = .ok (.invokevirtual 80, 3) := by decide +kernel
theorem dX5_lend_55 : decode cX5_lend 55 = .ok (.ifCond .ne 7, 3) := by decide +kernel
theorem dX5_lend_58 : decode cX5_lend 58 = .ok (.iconst 1, 1) := by decide +kernel
theorem dX5_lend_59 : decode cX5_lend 59 = .ok (.goto 4, 3) := by decide +kernel
theorem dX5_lend_62 : decode cX5_lend 62 = .ok (.iconst 0, 1) := by decide +kernel
theorem dX5_lend_63 : decode cX5_lend 63 = .ok (.invokestatic 44, 3) := by decide +kernel
theorem dX5_lend_66 : decode cX5_lend 66 = .ok (.iload_n 3, 1) := by decide +kernel
theorem dX5_lend_67 : decode cX5_lend 67 = .ok (.aload_n 0, 1) := by decide +kernel
theorem dX5_lend_68 : decode cX5_lend 68 = .ok (.getfield 10, 3) := by decide +kernel
theorem dX5_lend_71 : decode cX5_lend 71 = .ok (.aload_n 0, 1) := by decide +kernel
theorem dX5_lend_72 : decode cX5_lend 72 = .ok (.getfield 10, 3) := by decide +kernel
theorem dX5_lend_75 : decode cX5_lend 75 = .ok (.getfield 30, 3) := by decide +kernel
theorem dX5_lend_78 : decode cX5_lend 78 = .ok (.iload_n 1, 1) := by decide +kernel
theorem dX5_lend_79 : decode cX5_lend 79 = .ok (.invokevirtual 55, 3) := by decide +kernel
theorem dX5_lend_82 : decode cX5_lend 82 = .ok (.invokevirtual 59, 3) := by decide +kernel
theorem dX5_lend_85 : decode cX5_lend 85 = .ok (.if_icmp .le 6, 3) := by decide +kernel
theorem dX5_lend_88 : decode cX5_lend 88 = .ok (.bipush (-2), 2) := by decide +kernel
theorem dX5_lend_90 : decode cX5_lend 90 = .ok (.ireturn, 1) := by decide +kernel
theorem dX5_lend_91 : decode cX5_lend 91 = .ok (.aload_n 0, 1) := by decide +kernel
theorem dX5_lend_92 : decode cX5_lend 92 = .ok (.getfield 10, 3) := by decide +kernel
theorem dX5_lend_95 : decode cX5_lend 95 = .ok (.getfield 76, 3) := by decide +kernel
theorem dX5_lend_98 : decode cX5_lend 98 = .ok (.iload_n 1, 1) := by decide +kernel
theorem dX5_lend_99 : decode cX5_lend 99 = .ok (.iload_n 2, 1) := by decide +kernel
theorem dX5_lend_100 : decode cX5_lend 100 = .ok (.iload_n 3, 1) := by decide +kernel
theorem dX5_lend_101 : decode cX5_lend 101 = .ok (.iload 4, 2) := by decide +kernel
theorem dX5_lend_103 : decode cX5_lend 103 = .ok (.invokevirtual 86, 3) := by decide +kernel
theorem dX5_lend_106 : decode cX5_lend 106 = .ok (.aload_n 0, 1) := by decide +kernel
theorem dX5_lend_107 : decode cX5_lend 107 = .ok (.getfield 10, 3) := by decide +kernel
theorem dX5_lend_110 : decode cX5_lend 110 = .ok (.getfield 76, 3) := by decide +kernel
theorem dX5_lend_113 : decode cX5_lend 113 = .ok (.invokevirtual 90, 3) := by decide +kernel
theorem dX5_lend_116 : decode cX5_lend 116 = .ok (.ireturn, 1) := by decide +kernel
theorem dX5_die_0 : decode cX5_die 0 = .ok (.aload_n 0, 1) := by decide +kernel
theorem dX5_die_1 : decode cX5_die 1 = .ok (.iload_n 1, 1) := by decide +kernel
theorem dX5_die_2 : decode cX5_die 2 = .ok (.invokevirtual 51, 3) := by decide +kernel
theorem dX5_die_5 : decode cX5_die 5 = .ok (.iload_n 2, 1) := by decide +kernel
theorem dX5_die_6 : decode cX5_die 6 = .ok (.iconst 0, 1) := by decide +kernel
theorem dX5_die_7 : decode cX5_die 7 = .ok (.iconst 4, 1) := by decide +kernel
theorem dX5_die_8 : decode cX5_die 8 = .ok (.invokestatic 22, 3) := by decide +kernel
theorem dX5_die_11 : decode cX5_die 11 = .ok (.ifCond .eq 27, 3) := by decide +kernel
theorem dX5_die_14 : decode cX5_die 14 = .ok (.iload_n 3, 1) := by decide +kernel
theorem dX5_die_15 : decode cX5_die 15 = .ok (.iconst 0, 1) := by decide +kernel
theorem dX5_die_16 : decode cX5_die 16 = .ok (.iconst 4, 1) := by decide +kernel
theorem dX5_die_17 : decode cX5_die 17 = .ok (.invokestatic 22, 3) := by decide +kernel
theorem dX5_die_20 : decode cX5_die 20 = .ok (.ifCond .eq 18, 3) := by decide +kernel
theorem dX5_die_23 : decode cX5_die 23 = .ok (.iload_n 2, 1) := by decide +kernel
theorem dX5_die_24 : decode cX5_die 24 = .ok (.iload_n 3, 1) := by decide +kernel
theorem dX5_die_25 : decode cX5_die 25 = .ok (.iadd, 1) := by decide +kernel
theorem dX5_die_26 : decode cX5_die 26 = .ok (.iconst 1, 1) := by decide +kernel
theorem dX5_die_27 : decode cX5_die 27 = .ok (.iconst 4, 1) := by decide +kernel
theorem dX5_die_28 : decode cX5_die 28 = .ok (.invokestatic 22, 3) := by decide +kernel
theorem dX5_die_31 : decode cX5_die 31 = .ok (.ifCond .eq 7, 3) := by decide +kernel
theorem dX5_die_34 : decode cX5_die 34 = .ok (.iconst 1, 1) := by decide +kernel
theorem dX5_die_35 : decode cX5_die 35 = .ok (.goto 4, 3) := by decide +kernel
theorem dX5_die_38 : decode cX5_die 38 = .ok (.iconst 0, 1) := by decide +kernel
theorem dX5_die_39 : decode cX5_die 39 = .ok (.invokestatic 26, 3) := by decide +kernel
theorem dX5_die_42 : decode cX5_die 42 = .ok (.aload_n 0, 1) := by decide +kernel
theorem dX5_die_43 : decode cX5_die 43 = .ok (.getfield 10, 3) := by decide +kernel
theorem dX5_die_46 : decode cX5_die 46 = .ok (.getfield 30, 3) := by decide +kernel
theorem dX5_die_49 : decode cX5_die 49 = .ok (.iload_n 2, 1) := by decide +kernel
theorem dX5_die_50 : decode cX5_die 50 = .ok (.iload_n 3, 1) := by decide +kernel
theorem dX5_die_51 : decode cX5_die 51 = .ok (.iadd, 1) := by decide +kernel
theorem dX5_die_52 : decode cX5_die 52 = .ok (.invokevirtual 34, 3) := by decide +kernel
theorem dX5_die_55 : decode cX5_die 55 = .ok (.invokestatic 44, 3) := by decide +kernel
theorem dX5_die_58 : decode cX5_die 58 = .ok (.aload_n 0, 1) := by decide +kernel
theorem dX5_die_59 : decode cX5_die 59 = .ok (.getfield 10, 3) := by decide +kernel
theorem dX5_die_62 : decode cX5_die 62 = .ok (.iload_n 1, 1) := by decide +kernel
theorem dX5_die_63 : decode cX5_die 63 = .ok (.iload_n 2, 1) := by decide +kernel
theorem dX5_die_64 : decode cX5_die 64 = .ok (.iload_n 3, 1) := by decide +kernel
theorem dX5_die_65 : decode cX5_die 65 = .ok (.invokevirtual 93, 3) := by decide +kernel
theorem dX5_die_68 : decode cX5_die 68 = .ok (.ireturn, 1) := by decide +kernel
theorem dX5_dig_0 : decode cX5_dig 0 = .ok (.iload_n 1, 1) := by decide +kernel
theorem dX5_dig_1 : decode cX5_dig 1 = .ok (.iconst 1, 1) := by decide +kernel
theorem dX5_dig_2 : decode cX5_dig 2 = .ok (.bipush 80, 2) := by decide +kernel
theorem dX5_dig_4 : decode cX5_dig 4 = .ok (.invokestatic 22, 3) := by decide +kernel
theorem dX5_dig_7 : decode cX5_dig 7 = .ok (.invokestatic 26, 3) := by decide +kernel
theorem dX5_dig_10 : decode cX5_dig 10 = .ok (.aload_n 0, 1) := by decide +kernel
theorem dX5_dig_11 : decode cX5_dig 11 = .ok (.getfield 10, 3) := by decide +kernel
theorem dX5_dig_14 : decode cX5_dig 14 = .ok (.getfield 97, 3) := by decide +kernel
theorem dX5_dig_17 : decode cX5_dig 17 = .ok (.getfield 101, 3) := by decide +kernel
theorem dX5_dig_20 : decode cX5_dig 20 = .ok (.iload_n 1, 1) := by decide +kernel
theorem dX5_dig_21 : decode cX5_dig 21 = .ok (.iadd, 1) := by decide +kernel
theorem dX5_dig_22 : decode cX5_dig 22 = .ok (.bipush 90, 2) := by decide +kernel
theorem dX5_dig_24 : decode cX5_dig 24 = .ok (.if_icmp .gt 20, 3) := by decide +kernel
theorem dX5_dig_27 : decode cX5_dig 27 = .ok (.aload_n 0, 1) := by decide +kernel
theorem dX5_dig_28 : decode cX5_dig 28 = .ok (.getfield 10, 3) := by decide +kernel
theorem dX5_dig_31 : decode cX5_dig 31 = .ok (.getfield 30, 3) := by decide +kernel
theorem dX5_dig_34 : decode cX5_dig 34 = .ok (.invokevirtual 106, 3) := by decide +kernel
theorem dX5_dig_37 : decode cX5_dig 37 = .ok (.ifCond .le 7, 3) := by decide +kernel
theorem dX5_dig_40 : decode cX5_dig 40 = .ok (.iconst 1, 1) := by decide +kernel
theorem dX5_dig_41 : decode cX5_dig 41 = .ok (.goto 4, 3) := by decide +kernel
theorem dX5_dig_44 : decode cX5_dig 44 = .ok (.iconst 0, 1) := by decide +kernel
theorem dX5_dig_45 : decode cX5_dig 45 = .ok (.invokestatic 44, 3) := by decide +kernel
theorem dX5_dig_48 : decode cX5_dig 48 = .ok (.iconst 5, 1) := by decide +kernel
theorem dX5_dig_49 : decode cX5_dig 49 = .ok (.aload_n 0, 1) := by decide +kernel
theorem dX5_dig_50 : decode cX5_dig 50 = .ok (.getfield 10, 3) := by decide +kernel
theorem dX5_dig_53 : decode cX5_dig 53 = .ok (.getfield 97, 3) := by decide +kernel
theorem dX5_dig_56 : decode cX5_dig 56 = .ok (.getfield 101, 3) := by decide +kernel
theorem dX5_dig_59 : decode cX5_dig 59 = .ok (.bipush 10, 2) := by decide +kernel
theorem dX5_dig_61 : decode cX5_dig 61 = .ok (.idiv, 1) := by decide +kernel
theorem dX5_dig_62 : decode cX5_dig 62 = .ok (.iadd, 1) := by decide +kernel
theorem dX5_dig_63 : decode cX5_dig 63 = .ok (.iload_n 1, 1) := by decide +kernel
theorem dX5_dig_64 : decode cX5_dig 64 = .ok (.imul, 1) := by decide +kernel
theorem dX5_dig_65 : decode cX5_dig 65 = .ok (.istore_n 2, 1) := by decide +kernel
theorem dX5_dig_66 : decode cX5_dig 66 = .ok (.aload_n 0, 1) := by decide +kernel
theorem dX5_dig_67 : decode cX5_dig 67 = .ok (.getfield 10, 3) := by decide +kernel
theorem dX5_dig_70 : decode cX5_dig 70 = .ok (.getfield 30, 3) := by decide +kernel
theorem dX5_dig_73 : decode cX5_dig 73 = .ok (.iload_n 2, 1) := by decide +kernel
theorem dX5_dig_74 : decode cX5_dig 74 = .ok (.invokevirtual 109, 3) := by decide +kernel
theorem dX5_dig_77 : decode cX5_dig 77 = .ok (.aload_n 0, 1) := by decide +kernel
theorem dX5_dig_78 : decode cX5_dig 78 = .ok (.getfield 10, 3) := by decide +kernel
theorem dX5_dig_81 : decode cX5_dig 81 = .ok (.getfield 97, 3) := by decide +kernel
theorem dX5_dig_84 : decode cX5_dig 84 = .ok (.dup, 1) := by decide +kernel
theorem dX5_dig_85 : decode cX5_dig 85 = .ok (.getfield 101, 3) := by decide +kernel
theorem dX5_dig_88 : decode cX5_dig 88 = .ok (.iload_n 1, 1) := by decide +kernel
theorem dX5_dig_89 : decode cX5_dig 89 = .ok (.iadd, 1) := by decide +kernel
theorem dX5_dig_90 : decode cX5_dig 90 = .ok (.putfield 101, 3) := by decide +kernel
theorem dX5_dig_93 : decode cX5_dig 93 = .ok (.iload_n 2, 1) := by decide +kernel
theorem dX5_dig_94 : decode cX5_dig 94 = .ok (.ireturn, 1) := by decide +kernel
theorem dX5_clean_0 : decode cX5_clean 0 = .ok (.iload_n 1, 1) := by decide +kernel
theorem dX5_clean_1 : decode cX5_clean 1 = .ok (.iconst 1, 1) := by decide +kernel
theorem dX5_clean_2 : decode cX5_clean 2 = .ok (.bipush 30, 2) := by decide +kernel
theorem dX5_clean_4 : decode cX5_clean 4 = .ok (.invokestatic 22, 3) := by decide +kernel
theorem dX5_clean_7 : decode cX5_clean 7 = .ok (.invokestatic 26, 3) := by decide +kernel
theorem dX5_clean_10 : decode cX5_clean 10 = .ok (.iload_n 1, 1) := by decide +kernel
theorem dX5_clean_11 : decode cX5_clean 11 = .ok (.aload_n 0, 1) := by decide +kernel
theorem dX5_clean_12 : decode cX5_clean 12 = .ok (.getfield 10, 3) := by decide +kernel
theorem dX5_clean_15 : decode cX5_clean 15 = .ok (.getfield 97, 3) := by decide +kernel
theorem dX5_clean_18 : decode cX5_clean 18 = .ok (.getfield 112, 3) := by decide +kernel
theorem dX5_clean_21 : decode cX5_clean 21 = .ok (.if_icmp .gt 20, 3) := by decide +kernel
theorem dX5_clean_24 : decode cX5_clean 24 = .ok (.aload_n 0, 1) := by decide +kernel
theorem dX5_clean_25 : decode cX5_clean 25 = .ok (.getfield 10, 3) := by decide +kernel
theorem dX5_clean_28 : decode cX5_clean 28 = .ok (.getfield 30, 3) := by decide +kernel
theorem dX5_clean_31 : decode cX5_clean 31 = .ok (.invokevirtual 106, 3) := by decide +kernel
theorem dX5_clean_34 : decode cX5_clean 34 = .ok (.ifCond .le 7, 3) := by decide +kernel
theorem dX5_clean_37 : decode cX5_clean 37 = .ok (.iconst 1, 1) := by decide +kernel
theorem dX5_clean_38 : decode cX5_clean 38 = .ok (.goto 4, 3) := by decide +kernel
theorem dX5_clean_41 : decode cX5_clean 41 = .ok (.iconst 0, 1) := by decide +kernel
theorem dX5_clean_42 : decode cX5_clean 42 = .ok (.invokestatic 44, 3) := by decide +kernel
theorem dX5_clean_45 : decode cX5_clean 45 = .ok (.iconst 3, 1) := by decide +kernel
theorem dX5_clean_46 : decode cX5_clean 46 = .ok (.iload_n 1, 1) := by decide +kernel
theorem dX5_clean_47 : decode cX5_clean 47 = .ok (.imul, 1) := by decide +kernel
theorem dX5_clean_48 : decode cX5_clean 48 = .ok (.istore_n 2, 1) := by decide +kernel
theorem dX5_clean_49 : decode cX5_clean 49 = .ok (.aload_n 0, 1) := by decide +kernel
theorem dX5_clean_50 : decode cX5_clean 50 = .ok (.getfield 10, 3) := by decide +kernel
theorem dX5_clean_53 : decode cX5_clean 53 = .ok (.getfield 30, 3) := by decide +kernel
theorem dX5_clean_56 : decode cX5_clean 56 = .ok (.iload_n 2, 1) := by decide +kernel
theorem dX5_clean_57 : decode cX5_clean 57 = .ok (.invokevirtual 109, 3) := by decide +kernel
theorem dX5_clean_60 : decode cX5_clean 60 = .ok (.aload_n 0, 1) := by decide +kernel
theorem dX5_clean_61 : decode cX5_clean 61 = .ok (.getfield 10, 3) := by decide +kernel
theorem dX5_clean_64 : decode cX5_clean 64 = .ok (.getfield 97, 3) := by decide +kernel
theorem dX5_clean_67 : decode cX5_clean 67 = .ok (.dup, 1) := by decide +kernel
theorem dX5_clean_68 : decode cX5_clean 68 = .ok (.getfield 112, 3) := by decide +kernel
theorem dX5_clean_71 : decode cX5_clean 71 = .ok (.iload_n 1, 1) := by decide +kernel
theorem dX5_clean_72 : decode cX5_clean 72 = .ok (.isub, 1) := by decide +kernel
theorem dX5_clean_73 : decode cX5_clean 73 = .ok (.putfield 112, 3) := by decide +kernel
theorem dX5_clean_76 : decode cX5_clean 76 = .ok (.iload_n 2, 1) := by decide +kernel
theorem dX5_clean_77 : decode cX5_clean 77 = .ok (.ireturn, 1) := by decide +kernel
theorem dX5_fall_0 : decode cX5_fall 0 = .ok (.iload_n 1, 1) := by decide +kernel
theorem dX5_fall_1 : decode cX5_fall 1 = .ok (.iconst 1, 1) := by decide +kernel
theorem dX5_fall_2 : decode cX5_fall 2 = .ok (.bipush 30, 2) := by decide +kernel
theorem dX5_fall_4 : decode cX5_fall 4 = .ok (.invokestatic 22, 3) := by decide +kernel
theorem dX5_fall_7 : decode cX5_fall 7 = .ok (.invokestatic 26, 3) := by decide +kernel
theorem dX5_fall_10 : decode cX5_fall 10 = .ok (.aload_n 0, 1) := by decide +kernel
theorem dX5_fall_11 : decode cX5_fall 11 = .ok (.getfield 10, 3) := by decide +kernel
theorem dX5_fall_14 : decode cX5_fall 14 = .ok (.getfield 97, 3) := by decide +kernel
theorem dX5_fall_17 : decode cX5_fall 17 = .ok (.iload_n 1, 1) := by decide +kernel
theorem dX5_fall_18 : decode cX5_fall 18 = .ok (.invokevirtual 115, 3) := by decide +kernel
theorem dX5_fall_21 : decode cX5_fall 21 = .ok (.aload_n 0, 1) := by decide +kernel
theorem dX5_fall_22 : decode cX5_fall 22 = .ok (.getfield 10, 3) := by decide +kernel
theorem dX5_fall_25 : decode cX5_fall 25 = .ok (.getfield 97, 3) := by decide +kernel
theorem dX5_fall_28 : decode cX5_fall 28 = .ok (.getfield 112, 3) := by decide +kernel
theorem dX5_fall_31 : decode cX5_fall 31 = .ok (.ireturn, 1) := by decide +kernel
theorem dX5_pump_0 : decode cX5_pump 0 = .ok (.iload_n 1, 1) := by decide +kernel
theorem dX5_pump_1 : decode cX5_pump 1 = .ok (.iconst 0, 1) := by decide +kernel
theorem dX5_pump_2 : decode cX5_pump 2 = .ok (.bipush 20, 2) := by decide +kernel
theorem dX5_pump_4 : decode cX5_pump 4 = .ok (.invokestatic 22, 3) := by decide +kernel
theorem dX5_pump_7 : decode cX5_pump 7 = .ok (.invokestatic 26, 3) := by decide +kernel
theorem dX5_pump_10 : decode cX5_pump 10 = .ok (.aload_n 0, 1) := by decide +kernel
theorem dX5_pump_11 : decode cX5_pump 11 = .ok (.getfield 10, 3) := by decide +kernel
theorem dX5_pump_14 : decode cX5_pump 14 = .ok (.getfield 97, 3) := by decide +kernel
theorem dX5_pump_17 : decode cX5_pump 17 = .ok (.getfield 118, 3) := by decide +kernel
theorem dX5_pump_20 : decode cX5_pump 20 = .ok (.istore_n 2, 1) := by decide +kernel
theorem dX5_pump_21 : decode cX5_pump 21 = .ok (.aload_n 0, 1) := by decide +kernel
theorem dX5_pump_22 : decode cX5_pump 22 = .ok (.getfield 10, 3) := by decide +kernel
theorem dX5_pump_25 : decode cX5_pump 25 = .ok (.getfield 97, 3) := by decide +kernel
theorem dX5_pump_28 : decode cX5_pump 28 = .ok (.iload_n 1, 1) := by decide +kernel
theorem dX5_pump_29 : decode cX5_pump 29 = .ok (.putfield 118, 3) := by decide +kernel
theorem dX5_pump_32 : decode cX5_pump 32 = .ok (.iload_n 2, 1) := by decide +kernel
theorem dX5_pump_33 : decode cX5_pump 33 = .ok (.ireturn, 1) := by decide +kernel
theorem dX5_pollinate_0 : decode cX5_pollinate 0 = .ok (.aload_n 0, 1) := by decide +kernel
theorem dX5_pollinate_1 : decode cX5_pollinate 1 = .ok (.iload_n 1, 1) := by decide +kernel
theorem dX5_pollinate_2 : decode cX5_pollinate 2 = .ok (.invokevirtual 51, 3) := by decide +kernel
theorem dX5_pollinate_5 : decode cX5_pollinate 5 = .ok (.iload_n 2, 1) := by decide +kernel
theorem dX5_pollinate_6 : decode cX5_pollinate 6 = .ok (.iconst 1, 1) := by decide +kernel
theorem dX5_pollinate_7 : decode cX5_pollinate 7 = .ok (.sipush 200, 3) := by decide +kernel
theorem dX5_pollinate_10 : decode cX5_pollinate 10 = .ok (.invokestatic 22, 3) := by decide +kernel
theorem dX5_pollinate_13 : decode cX5_pollinate 13 = .ok (.invokestatic 26, 3) := by decide +kernel
theorem dX5_pollinate_16 : decode cX5_pollinate 16 = .ok (.aload_n 0, 1) := by decide +kernel
theorem dX5_pollinate_17 : decode cX5_pollinate 17 = .ok (.getfield 10, 3) := by decide +kernel
theorem dX5_pollinate_20 : decode cX5_pollinate 20 = .ok (.getfield 30, 3) := by decide +kernel
theorem dX5_pollinate_23 : decode cX5_pollinate 23 = .ok (.iload_n 1, 1) := by decide +kernel
theorem dX5_pollinate_24 : decode cX5_pollinate 24 = .ok (.invokevirtual 55, 3) := by decide +kernel
theorem dX5_pollinate_27 : decode cX5_pollinate 27 = .ok (.astore_n 3, 1) := by decide +kernel
theorem dX5_pollinate_28 : decode cX5_pollinate 28 = .ok (.aload_n 3, 1) := by decide +kernel
theorem dX5_pollinate_29 : decode cX5_pollinate 29 = .ok (.getfield 121, 3) := by decide +kernel
theorem dX5_pollinate_32 : decode cX5_pollinate 32 = .ok (.iload_n 2, 1) := by decide +kernel
theorem dX5_pollinate_33 : decode cX5_pollinate 33 = .ok (.iadd, 1) := by decide +kernel
theorem dX5_pollinate_34 : decode cX5_pollinate 34 = .ok (.istore 4, 2) := by decide +kernel
theorem dX5_pollinate_36 : decode cX5_pollinate 36 = .ok (.aload_n 0, 1) := by decide +kernel
theorem dX5_pollinate_37 : decode cX5_pollinate 37 = .ok (.getfield 10, 3) := by decide +kernel
theorem dX5_pollinate_40 : decode cX5_pollinate 40 = .ok (.invokevirtual 124, 3) := by decide +kernel
theorem dX5_pollinate_43 : decode cX5_pollinate 43 = .ok (.bipush 13, 2) := by decide +kernel
theorem dX5_pollinate_45 : decode cX5_pollinate 45 = .ok (.if_icmp .le 6, 3) := by decide +kernel
theorem dX5_pollinate_48 : decode cX5_pollinate 48 = .ok (.bipush (-2), 2) := by decide +kernel
theorem dX5_pollinate_50 : decode cX5_pollinate 50 = .ok (.ireturn, 1) := by decide +kernel
theorem dX5_pollinate_51 : decode cX5_pollinate 51 = .ok (.iload 4, 2) := by decide +kernel
theorem dX5_pollinate_53 : decode cX5_pollinate 53 = .ok (.aload_n 3, 1) := by decide +kernel
theorem dX5_pollinate_54 : decode cX5_pollinate 54 = .ok (.getfield 127, 3) := by decide +kernel
theorem dX5_pollinate_57 : decode cX5_pollinate 57 = .ok (.if_icmp .le 6, 3) := by decide +kernel
theorem dX5_pollinate_60 : decode cX5_pollinate 60 = .ok (.bipush (-3), 2) := by decide +kernel
theorem dX5_pollinate_62 : decode cX5_pollinate 62 = .ok (.ireturn, 1) := by decide +kernel
theorem dX5_pollinate_63 : decode cX5_pollinate 63 = .ok (.iload 4, 2) := by decide +kernel
theorem dX5_pollinate_65 : decode cX5_pollinate 65 = .ok (.aload_n 3, 1) := by decide +kernel
theorem dX5_pollinate_66 : decode cX5_pollinate 66 = .ok (.invokevirtual 130, 3) := by decide +kernel
theorem dX5_pollinate_69 : decode cX5_pollinate 69 = .ok (.if_icmp .le 6, 3) := by decide +kernel
theorem dX5_pollinate_72 : decode cX5_pollinate 72 = .ok (.bipush (-4), 2) := by decide +kernel
theorem dX5_pollinate_74 : decode cX5_pollinate 74 = .ok (.ireturn, 1) := by decide +kernel
theorem dX5_pollinate_75 : decode cX5_pollinate 75 = .ok (.aload_n 3, 1) := by decide +kernel
theorem dX5_pollinate_76 : decode cX5_pollinate 76 = .ok (.iload 4, 2) := by decide +kernel
theorem dX5_pollinate_78 : decode cX5_pollinate 78 = .ok (.putfield 121, 3) := by decide +kernel
theorem dX5_pollinate_81 : decode cX5_pollinate 81 = .ok (.iload 4, 2) := by decide +kernel
theorem dX5_pollinate_83 : decode cX5_pollinate 83 = .ok (.ireturn, 1) := by decide +kernel
theorem dX5_pollen_0 : decode cX5_pollen 0 = .ok (.aload_n 0, 1) := by decide +kernel
theorem dX5_pollen_1 : decode cX5_pollen 1 = .ok (.iload_n 1, 1) := by decide +kernel
theorem dX5_pollen_2 : decode cX5_pollen 2 = .ok (.invokevirtual 51, 3) := by decide +kernel
theorem dX5_pollen_5 : decode cX5_pollen 5 = .ok (.aload_n 0, 1) := by decide +kernel
theorem dX5_pollen_6 : decode cX5_pollen 6 = .ok (.iload_n 2, 1) := by decide +kernel
theorem dX5_pollen_7 : decode cX5_pollen 7 = .ok (.invokevirtual 51, 3) := by decide +kernel
theorem dX5_pollen_10 : decode cX5_pollen 10 = .ok (.iload_n 1, 1) := by decide +kernel
theorem dX5_pollen_11 : decode cX5_pollen 11 = .ok (.iload_n 2, 1) := by decide +kernel
theorem dX5_pollen_12 : decode cX5_pollen 12 = .ok (.if_icmp .eq 18, 3) := by decide +kernel
theorem dX5_pollen_15 : decode cX5_pollen 15 = .ok (.iload_n 3, 1) := by decide +kernel
theorem dX5_pollen_16 : decode cX5_pollen 16 = .ok (.iconst 1, 1) := by decide +kernel
theorem dX5_pollen_17 : decode cX5_pollen 17 = .ok (.sipush 200, 3) := by decide +kernel
theorem dX5_pollen_20 : decode cX5_pollen 20 = .ok (.invokestatic 22, 3) := by decide +kernel
theorem dX5_pollen_23 : decode cX5_pollen 23 = .ok (.ifCond .eq 7, 3) := by decide +kernel
theorem dX5_pollen_26 : decode cX5_pollen 26 = .ok (.iconst 1, 1) := by decide +kernel
theorem dX5_pollen_27 : decode cX5_pollen 27 = .ok (.goto 4, 3) := by decide +kernel
theorem dX5_pollen_30 : decode cX5_pollen 30 = .ok (.iconst 0, 1) := by decide +kernel
theorem dX5_pollen_31 : decode cX5_pollen 31 = .ok (.invokestatic 26, 3) := by decide +kernel
theorem dX5_pollen_34 : decode cX5_pollen 34 = .ok (.aload_n 0, 1) := by decide +kernel
theorem dX5_pollen_35 : decode cX5_pollen 35 = .ok (.getfield 10, 3) := by decide +kernel
theorem dX5_pollen_38 : decode cX5_pollen 38 = .ok (.getfield 30, 3) := by decide +kernel
theorem dX5_pollen_41 : decode cX5_pollen 41 = .ok (.iload_n 1, 1) := by decide +kernel
theorem dX5_pollen_42 : decode cX5_pollen 42 = .ok (.invokevirtual 55, 3) := by decide +kernel
theorem dX5_pollen_45 : decode cX5_pollen 45 = .ok (.astore 4, 2) := by decide +kernel
theorem dX5_pollen_47 : decode cX5_pollen 47 = .ok (.aload_n 0, 1) := by decide +kernel
theorem dX5_pollen_48 : decode cX5_pollen 48 = .ok (.getfield 10, 3) := by decide +kernel
theorem dX5_pollen_51 : decode cX5_pollen 51 = .ok (.getfield 30, 3) := by decide +kernel
theorem dX5_pollen_54 : decode cX5_pollen 54 = .ok (.iload_n 2, 1) := by decide +kernel
theorem dX5_pollen_55 : decode cX5_pollen 55 = .ok (.invokevirtual 55, 3) := by decide +kernel
theorem dX5_pollen_58 : decode cX5_pollen 58 = .ok (.astore 5, 2) := by decide +kernel
theorem dX5_pollen_60 : decode cX5_pollen 60 = .ok (.iload_n 3, 1) := by decide +kernel
theorem dX5_pollen_61 : decode cX5_pollen 61 = .ok (.aload 5, 2) := by decide +kernel
theorem dX5_pollen_63 : decode cX5_pollen 63 = .ok (.getfield 63, 3) := by decide +kernel
theorem dX5_pollen_66 : decode cX5_pollen 66 = .ok (.if_icmp .le 6, 3) := by decide +kernel
theorem dX5_pollen_69 : decode cX5_pollen 69 = .ok (.bipush (-3), 2) := by decide +kernel
theorem dX5_pollen_71 : decode cX5_pollen 71 = .ok (.ireturn, 1) := by decide +kernel
theorem dX5_pollen_72 : decode cX5_pollen 72 = .ok (.iload_n 3, 1) := by decide +kernel
theorem dX5_pollen_73 : decode cX5_pollen 73 = .ok (.aload 4, 2) := by decide +kernel
theorem dX5_pollen_75 : decode cX5_pollen 75 = .ok (.invokevirtual 130, 3) := by decide +kernel
theorem dX5_pollen_78 : decode cX5_pollen 78 = .ok (.aload 4, 2) := by decide +kernel
theorem dX5_pollen_80 : decode cX5_pollen 80 = .ok (.getfield 121, 3) := by decide +kernel
theorem dX5_pollen_83 : decode cX5_pollen 83 = .ok (.isub, 1) := by decide +kernel
theorem dX5_pollen_84 : decode cX5_pollen 84 = .ok (.if_icmp .le 6, 3) := by decide +kernel
theorem dX5_pollen_87 : decode cX5_pollen 87 = .ok (.bipush (-4), 2) := by decide +kernel
theorem dX5_pollen_89 : decode cX5_pollen 89 = .ok (.ireturn, 1) := by decide +kernel
theorem dX5_pollen_90 : decode cX5_pollen 90 = .ok (.aload 5, 2) := by decide +kernel
theorem dX5_pollen_92 : decode cX5_pollen 92 = .ok (.aload 4, 2) := by decide +kernel
theorem dX5_pollen_94 : decode cX5_pollen 94 = .ok (.iload_n 3, 1) := by decide +kernel
theorem dX5_pollen_95 : decode cX5_pollen 95 = .ok (.invokevirtual 69, 3) := by decide +kernel
theorem dX5_pollen_98 : decode cX5_pollen 98 = .ok (.aload 4, 2) := by decide +kernel
theorem dX5_pollen_100 : decode cX5_pollen 100 = .ok (.dup, 1) := by decide +kernel
theorem dX5_pollen_101 : decode cX5_pollen 101 = .ok (.getfield 133, 3) := by decide +kernel
theorem dX5_pollen_104 : decode cX5_pollen 104 = .ok (.iload_n 3, 1) := by decide +kernel
theorem dX5_pollen_105 : decode cX5_pollen 105 = .ok (.isub, 1) := by decide +kernel
theorem dX5_pollen_106 : decode cX5_pollen 106 = .ok (.putfield 133, 3) := by decide +kernel
theorem dX5_pollen_109 : decode cX5_pollen 109 = .ok (.aload 5, 2) := by decide +kernel
theorem dX5_pollen_111 : decode cX5_pollen 111 = .ok (.dup, 1) := by decide +kernel
theorem dX5_pollen_112 : decode cX5_pollen 112 = .ok (.getfield 133, 3) := by decide +kernel
theorem dX5_pollen_115 : decode cX5_pollen 115 = .ok (.iload_n 3, 1) := by decide +kernel
theorem dX5_pollen_116 : decode cX5_pollen 116 = .ok (.iadd, 1) := by decide +kernel
theorem dX5_pollen_117 : decode cX5_pollen 117 = .ok (.putfield 133, 3) := by decide +kernel
theorem dX5_pollen_120 : decode cX5_pollen 120 = .ok (.aload 5, 2) := by decide +kernel
theorem dX5_pollen_122 : decode cX5_pollen 122 = .ok (.invokevirtual 130, 3) := by decide +kernel
theorem dX5_pollen_125 : decode cX5_pollen 125 = .ok (.ireturn, 1) := by decide +kernel
theorem dX5_ahead_0 : decode cX5_ahead 0 = .ok (.aload_n 0, 1) := by decide +kernel
theorem dX5_ahead_1 : decode cX5_ahead 1 = .ok (.iload_n 1, 1) := by decide +kernel
theorem dX5_ahead_2 : decode cX5_ahead 2 = .ok (.invokevirtual 51, 3) := by decide +kernel
theorem dX5_ahead_5 : decode cX5_ahead 5 = .ok (.aload_n 0, 1) := by decide +kernel
theorem dX5_ahead_6 : decode cX5_ahead 6 = .ok (.iload_n 2, 1) := by decide +kernel
theorem dX5_ahead_7 : decode cX5_ahead 7 = .ok (.invokevirtual 51, 3) := by decide +kernel
theorem dX5_ahead_10 : decode cX5_ahead 10 = .ok (.iload_n 1, 1) := by decide +kernel
theorem dX5_ahead_11 : decode cX5_ahead 11 = .ok (.iload_n 2, 1) := by decide +kernel
theorem dX5_ahead_12 : decode cX5_ahead 12 = .ok (.if_icmp .eq 30, 3) := by decide +kernel
theorem dX5_ahead_15 : decode cX5_ahead 15 = .ok (.iload_n 3, 1) := by decide +kernel
theorem dX5_ahead_16 : decode cX5_ahead 16 = .ok (.iconst 1, 1) := by decide +kernel
theorem dX5_ahead_17 : decode cX5_ahead 17 = .ok (.sipush 999, 3) := by decide +kernel
theorem dX5_ahead_20 : decode cX5_ahead 20 = .ok (.invokestatic 22, 3) := by decide +kernel
theorem dX5_ahead_23 : decode cX5_ahead 23 = .ok (.ifCond .eq 19, 3) := by decide +kernel
theorem dX5_ahead_26 : decode cX5_ahead 26 = .ok (.iload 4, 2) := by decide +kernel
theorem dX5_ahead_28 : decode cX5_ahead 28 = .ok (.iconst 0, 1) := by decide +kernel
theorem dX5_ahead_29 : decode cX5_ahead 29 = .ok (.sipush 9999, 3) := by decide +kernel
theorem dX5_ahead_32 : decode cX5_ahead 32 = .ok (.invokestatic 22, 3) := by decide +kernel
theorem dX5_ahead_35 : decode cX5_ahead 35 = .ok (.ifCond .eq 7, 3) := by decide +kernel
theorem dX5_ahead_38 : decode cX5_ahead 38 = .ok (.iconst 1, 1) := by decide +kernel
theorem dX5_ahead_39 : decode cX5_ahead 39 = .ok (.goto 4, 3) := by decide +kernel
theorem dX5_ahead_42 : decode cX5_ahead 42 = .ok (.iconst 0, 1) := by decide +kernel
theorem dX5_ahead_43 : decode cX5_ahead 43 = .ok (.invokestatic 26, 3) := by decide +kernel
theorem dX5_ahead_46 : decode cX5_ahead 46 = .ok (.aload_n 0, 1) := by decide +kernel
theorem dX5_ahead_47 : decode cX5_ahead 47 = .ok (.getfield 10, 3) := by decide +kernel
theorem dX5_ahead_50 : decode cX5_ahead 50 = .ok (.getfield 136, 3) := by decide +kernel
theorem dX5_ahead_53 : decode cX5_ahead 53 = .ok (.invokevirtual 80, 3) := by decide +kernel
theorem dX5_ahead_56 : decode cX5_ahead 56 = .ok (.ifCond .ne 7, 3) := by decide +kernel
theorem dX5_ahead_59 : decode cX5_ahead 59 = .ok (.iconst 1, 1) := by decide +kernel
theorem dX5_ahead_60 : decode cX5_ahead 60 = .ok (.goto 4, 3) := by decide +kernel
theorem dX5_ahead_63 : decode cX5_ahead 63 = .ok (.iconst 0, 1) := by decide +kernel
theorem dX5_ahead_64 : decode cX5_ahead 64 = .ok (.invokestatic 44, 3) := by decide +kernel
theorem dX5_ahead_67 : decode cX5_ahead 67 = .ok (.aload_n 0, 1) := by decide +kernel
theorem dX5_ahead_68 : decode cX5_ahead 68 = .ok (.getfield 10, 3) := by decide +kernel
theorem dX5_ahead_71 : decode cX5_ahead 71 = .ok (.getfield 30, 3) := by decide +kernel
theorem dX5_ahead_74 : decode cX5_ahead 74 = .ok (.iload_n 2, 1) := by decide +kernel
theorem dX5_ahead_75 : decode cX5_ahead 75 = .ok (.invokevirtual 55, 3) := by decide +kernel
theorem dX5_ahead_78 : decode cX5_ahead 78 = .ok (.astore 5, 2) := by decide +kernel
theorem dX5_ahead_80 : decode cX5_ahead 80 = .ok (.iload 4, 2) := by decide +kernel
theorem dX5_ahead_82 : decode cX5_ahead 82 = .ok (.aload 5, 2) := by decide +kernel
theorem dX5_ahead_84 : decode cX5_ahead 84 = .ok (.getfield 63, 3) := by decide +kernel
theorem dX5_ahead_87 : decode cX5_ahead 87 = .ok (.if_icmp .le 6, 3) := by decide +kernel
theorem dX5_ahead_90 : decode cX5_ahead 90 = .ok (.bipush (-3), 2) := by decide +kernel
theorem dX5_ahead_92 : decode cX5_ahead 92 = .ok (.ireturn, 1) := by decide +kernel
theorem dX5_ahead_93 : decode cX5_ahead 93 = .ok (.aload 5, 2) := by decide +kernel
theorem dX5_ahead_95 : decode cX5_ahead 95 = .ok (.aload_n 0, 1) := by decide +kernel
theorem dX5_ahead_96 : decode cX5_ahead 96 = .ok (.getfield 10, 3) := by decide +kernel
theorem dX5_ahead_99 : decode cX5_ahead 99 = .ok (.getfield 30, 3) := by decide +kernel
theorem dX5_ahead_102 : decode cX5_ahead 102 = .ok (.iload_n 1, 1) := by decide +kernel
theorem dX5_ahead_103 : decode cX5_ahead 103 = .ok (.invokevirtual 55, 3) := by decide +kernel
theorem dX5_ahead_106 : decode cX5_ahead 106 = .ok (.iload 4, 2) := by decide +kernel
theorem dX5_ahead_108 : decode cX5_ahead 108 = .ok (.invokevirtual 69, 3) := by decide +kernel
theorem dX5_ahead_111 : decode cX5_ahead 111 = .ok (.aload_n 0, 1) := by decide +kernel
theorem dX5_ahead_112 : decode cX5_ahead 112 = .ok (.getfield 10, 3) := by decide +kernel
theorem dX5_ahead_115 : decode cX5_ahead 115 = .ok (.getfield 136, 3) := by decide +kernel
theorem dX5_ahead_118 : decode cX5_ahead 118 = .ok (.iload_n 1, 1) := by decide +kernel
theorem dX5_ahead_119 : decode cX5_ahead 119 = .ok (.iload_n 2, 1) := by decide +kernel
theorem dX5_ahead_120 : decode cX5_ahead 120 = .ok (.iload_n 3, 1) := by decide +kernel
theorem dX5_ahead_121 : decode cX5_ahead 121 = .ok (.iconst 0, 1) := by decide +kernel
theorem dX5_ahead_122 : decode cX5_ahead 122 = .ok (.invokevirtual 86, 3) := by decide +kernel
theorem dX5_ahead_125 : decode cX5_ahead 125 = .ok (.aload_n 0, 1) := by decide +kernel
theorem dX5_ahead_126 : decode cX5_ahead 126 = .ok (.getfield 10, 3) := by decide +kernel
theorem dX5_ahead_129 : decode cX5_ahead 129 = .ok (.getfield 136, 3) := by decide +kernel
theorem dX5_ahead_132 : decode cX5_ahead 132 = .ok (.invokevirtual 90, 3) := by decide +kernel
theorem dX5_ahead_135 : decode cX5_ahead 135 = .ok (.ireturn, 1) := by decide +kernel
theorem dX5_pass_0 : decode cX5_pass 0 = .ok (.iload_n 1, 1) := by decide +kernel
theorem dX5_pass_1 : decode cX5_pass 1 = .ok (.iconst 0, 1) := by decide +kernel
theorem dX5_pass_2 : decode cX5_pass 2 = .ok (.bipush 99, 2) := by decide +kernel
theorem dX5_pass_4 : decode cX5_pass 4 = .ok (.invokestatic 22, 3) := by decide +kernel
theorem dX5_pass_7 : decode cX5_pass 7 = .ok (.ifCond .eq 17, 3) := by decide +kernel
theorem dX5_pass_10 : decode cX5_pass 10 = .ok (.iload_n 2, 1) := by decide +kernel
theorem dX5_pass_11 : decode cX5_pass 11 = .ok (.iconst 1, 1) := by decide +kernel
theorem dX5_pass_12 : decode cX5_pass 12 = .ok (.bipush 70, 2) := by decide +kernel
theorem dX5_pass_14 : decode cX5_pass 14 = .ok (.invokestatic 22, 3) := by decide +kernel
theorem dX5_pass_17 : decode cX5_pass 17 = .ok (.ifCond .eq 7, 3) := by decide +kernel
theorem dX5_pass_20 : decode cX5_pass 20 = .ok (.iconst 1, 1) := by decide +kernel
theorem dX5_pass_21 : decode cX5_pass 21 = .ok (.goto 4, 3) := by decide +kernel
theorem dX5_pass_24 : decode cX5_pass 24 = .ok (.iconst 0, 1) := by decide +kernel
theorem dX5_pass_25 : decode cX5_pass 25 = .ok (.invokestatic 26, 3) := by decide +kernel
theorem dX5_pass_28 : decode cX5_pass 28 = .ok (.aload_n 0, 1) := by decide +kernel
theorem dX5_pass_29 : decode cX5_pass 29 = .ok (.getfield 10, 3) := by decide +kernel
theorem dX5_pass_32 : decode cX5_pass 32 = .ok (.getfield 139, 3) := by decide +kernel
theorem dX5_pass_35 : decode cX5_pass 35 = .ok (.iload_n 2, 1) := by decide +kernel
theorem dX5_pass_36 : decode cX5_pass 36 = .ok (.iadd, 1) := by decide +kernel
theorem dX5_pass_37 : decode cX5_pass 37 = .ok (.sipush 2000, 3) := by decide +kernel
theorem dX5_pass_40 : decode cX5_pass 40 = .ok (.if_icmp .gt 7, 3) := by decide +kernel
theorem dX5_pass_43 : decode cX5_pass 43 = .ok (.iconst 1, 1) := by decide +kernel
theorem dX5_pass_44 : decode cX5_pass 44 = .ok (.goto 4, 3) := by decide +kernel
theorem dX5_pass_47 : decode cX5_pass 47 = .ok (.iconst 0, 1) := by decide +kernel
theorem dX5_pass_48 : decode cX5_pass 48 = .ok (.invokestatic 44, 3) := by decide +kernel
theorem dX5_pass_51 : decode cX5_pass 51 = .ok (.aload_n 0, 1) := by decide +kernel
theorem dX5_pass_52 : decode cX5_pass 52 = .ok (.getfield 10, 3) := by decide +kernel
theorem dX5_pass_55 : decode cX5_pass 55 = .ok (.iload_n 1, 1) := by decide +kernel
theorem dX5_pass_56 : decode cX5_pass 56 = .ok (.iload_n 2, 1) := by decide +kernel
theorem dX5_pass_57 : decode cX5_pass 57 = .ok (.invokevirtual 142, 3) := by decide +kernel
theorem dX5_pass_60 : decode cX5_pass 60 = .ok (.ireturn, 1) := by decide +kernel
theorem dX5_of_0 : decode cX5_of 0 = .ok (.aload_n 0, 1) := by decide +kernel
theorem dX5_of_1 : decode cX5_of 1 = .ok (.iload_n 1, 1) := by decide +kernel
theorem dX5_of_2 : decode cX5_of 2 = .ok (.invokevirtual 51, 3) := by decide +kernel
theorem dX5_of_5 : decode cX5_of 5 = .ok (.iload_n 2, 1) := by decide +kernel
theorem dX5_of_6 : decode cX5_of 6 = .ok (.iconst 0, 1) := by decide +kernel
theorem dX5_of_7 : decode cX5_of 7 = .ok (.bipush 13, 2) := by decide +kernel
theorem dX5_of_9 : decode cX5_of 9 = .ok (.invokestatic 22, 3) := by decide +kernel
theorem dX5_of_12 : decode cX5_of 12 = .ok (.invokestatic 26, 3) := by decide +kernel
theorem dX5_of_15 : decode cX5_of 15 = .ok (.aload_n 0, 1) := by decide +kernel
theorem dX5_of_16 : decode cX5_of 16 = .ok (.getfield 10, 3) := by decide +kernel
theorem dX5_of_19 : decode cX5_of 19 = .ok (.aload_n 0, 1) := by decide +kernel
theorem dX5_of_20 : decode cX5_of 20 = .ok (.getfield 10, 3) := by decide +kernel
theorem dX5_of_23 : decode cX5_of 23 = .ok (.getfield 30, 3) := by decide +kernel
theorem dX5_of_26 : decode cX5_of 26 = .ok (.iload_n 1, 1) := by decide +kernel
theorem dX5_of_27 : decode cX5_of 27 = .ok (.invokevirtual 55, 3) := by decide +kernel
theorem dX5_of_30 : decode cX5_of 30 = .ok (.iload_n 2, 1) := by decide +kernel
theorem dX5_of_31 : decode cX5_of 31 = .ok (.invokevirtual 146, 3) := by decide +kernel
theorem dX5_of_34 : decode cX5_of 34 = .ok (.ireturn, 1) := by decide +kernel
theorem dX5_ofBowl_0 : decode cX5_ofBowl 0 = .ok (.iload_n 1, 1) := by decide +kernel
theorem dX5_ofBowl_1 : decode cX5_ofBowl 1 = .ok (.iconst 0, 1) := by decide +kernel
theorem dX5_ofBowl_2 : decode cX5_ofBowl 2 = .ok (.sipush 5039, 3) := by decide +kernel
theorem dX5_ofBowl_5 : decode cX5_ofBowl 5 = .ok (.invokestatic 22, 3) := by decide +kernel
theorem dX5_ofBowl_8 : decode cX5_ofBowl 8 = .ok (.invokestatic 150, 3) := by decide +kernel
theorem dX5_ofBowl_11 : decode cX5_ofBowl 11 = .ok (.iload_n 2, 1) := by decide +kernel
theorem dX5_ofBowl_12 : decode cX5_ofBowl 12 = .ok (.iconst 0, 1) := by decide +kernel
theorem dX5_ofBowl_13 : decode cX5_ofBowl 13 = .ok (.iconst 1, 1) := by decide +kernel
theorem dX5_ofBowl_14 : decode cX5_ofBowl 14 = .ok (.invokestatic 22, 3) := by decide +kernel
theorem dX5_ofBowl_17 : decode cX5_ofBowl 17 = .ok (.invokestatic 26, 3) := by decide +kernel
theorem dX5_ofBowl_20 : decode cX5_ofBowl 20 = .ok (.iload_n 2, 1) := by decide +kernel
theorem dX5_ofBowl_21 : decode cX5_ofBowl 21 = .ok (.ifCond .ne 17, 3) := by decide +kernel
theorem dX5_ofBowl_24 : decode cX5_ofBowl 24 = .ok (.aload_n 0, 1) := by decide +kernel
theorem dX5_ofBowl_25 : decode cX5_ofBowl 25 = .ok (.getfield 10, 3) := by decide +kernel
theorem dX5_ofBowl_28 : decode cX5_ofBowl 28 = .ok (.getfield 30, 3) := by decide +kernel
theorem dX5_ofBowl_31 : decode cX5_ofBowl 31 = .ok (.iload_n 1, 1) := by decide +kernel
theorem dX5_ofBowl_32 : decode cX5_ofBowl 32 = .ok (.invokevirtual 153, 3) := by decide +kernel
theorem dX5_ofBowl_35 : decode cX5_ofBowl 35 = .ok (.goto 11, 3) := by decide +kernel
theorem dX5_ofBowl_38 : decode cX5_ofBowl 38 = .ok (.aload_n 0, 1) := by decide +kernel
theorem dX5_ofBowl_39 : decode cX5_ofBowl 39 = .ok (.getfield 10, 3) := by decide +kernel
theorem dX5_ofBowl_42 : decode cX5_ofBowl 42 = .ok (.iload_n 1, 1) := by decide +kernel
theorem dX5_ofBowl_43 : decode cX5_ofBowl 43 = .ok (.invokevirtual 157, 3) := by decide +kernel
theorem dX5_ofBowl_46 : decode cX5_ofBowl 46 = .ok (.ireturn, 1) := by decide +kernel
theorem dX5_ofLoan_0 : decode cX5_ofLoan 0 = .ok (.iload_n 1, 1) := by decide +kernel
theorem dX5_ofLoan_1 : decode cX5_ofLoan 1 = .ok (.iconst 0, 1) := by decide +kernel
theorem dX5_ofLoan_2 : decode cX5_ofLoan 2 = .ok (.aload_n 0, 1) := by decide +kernel
theorem dX5_ofLoan_3 : decode cX5_ofLoan 3 = .ok (.getfield 10, 3) := by decide +kernel
theorem dX5_ofLoan_6 : decode cX5_ofLoan 6 = .ok (.getfield 76, 3) := by decide +kernel
theorem dX5_ofLoan_9 : decode cX5_ofLoan 9 = .ok (.invokevirtual 90, 3) := by decide +kernel
theorem dX5_ofLoan_12 : decode cX5_ofLoan 12 = .ok (.iconst 1, 1) := by decide +kernel
theorem dX5_ofLoan_13 : decode cX5_ofLoan 13 = .ok (.isub, 1) := by decide +kernel
theorem dX5_ofLoan_14 : decode cX5_ofLoan 14 = .ok (.invokestatic 22, 3) := by decide +kernel
theorem dX5_ofLoan_17 : decode cX5_ofLoan 17 = .ok (.invokestatic 150, 3) := by decide +kernel
theorem dX5_ofLoan_20 : decode cX5_ofLoan 20 = .ok (.iload_n 2, 1) := by decide +kernel
theorem dX5_ofLoan_21 : decode cX5_ofLoan 21 = .ok (.iconst 0, 1) := by decide +kernel
theorem dX5_ofLoan_22 : decode cX5_ofLoan 22 = .ok (.iconst 3, 1) := by decide +kernel
theorem dX5_ofLoan_23 : decode cX5_ofLoan 23 = .ok (.invokestatic 22, 3) := by decide +kernel
theorem dX5_ofLoan_26 : decode cX5_ofLoan 26 = .ok (.invokestatic 26, 3) := by decide +kernel
theorem dX5_ofLoan_29 : decode cX5_ofLoan 29 = .ok (.aload_n 0, 1) := by decide +kernel
theorem dX5_ofLoan_30 : decode cX5_ofLoan 30 = .ok (.getfield 10, 3) := by decide +kernel
theorem dX5_ofLoan_33 : decode cX5_ofLoan 33 = .ok (.getfield 76, 3) := by decide +kernel
theorem dX5_ofLoan_36 : decode cX5_ofLoan 36 = .ok (.iload_n 1, 1) := by decide +kernel
theorem dX5_ofLoan_37 : decode cX5_ofLoan 37 = .ok (.iload_n 2, 1) := by decide +kernel
theorem dX5_ofLoan_38 : decode cX5_ofLoan 38 = .ok (.invokevirtual 160, 3) := by decide +kernel
theorem dX5_ofLoan_41 : decode cX5_ofLoan 41 = .ok (.ireturn, 1) := by decide +kernel
theorem dX5_ofSale_0 : decode cX5_ofSale 0 = .ok (.iload_n 1, 1) := by decide +kernel
theorem dX5_ofSale_1 : decode cX5_ofSale 1 = .ok (.iconst 0, 1) := by decide +kernel
theorem dX5_ofSale_2 : decode cX5_ofSale 2 = .ok (.aload_n 0, 1) := by decide +kernel
theorem dX5_ofSale_3 : decode cX5_ofSale 3 = .ok (.getfield 10, 3) := by decide +kernel
theorem dX5_ofSale_6 : decode cX5_ofSale 6 = .ok (.getfield 136, 3) := by decide +kernel
theorem dX5_ofSale_9 : decode cX5_ofSale 9 = .ok (.invokevirtual 90, 3) := by decide +kernel
theorem dX5_ofSale_12 : decode cX5_ofSale 12 = .ok (.iconst 1, 1) := by decide +kernel
theorem dX5_ofSale_13 : decode cX5_ofSale 13 = .ok (.isub, 1) := by decide +kernel
theorem dX5_ofSale_14 : decode cX5_ofSale 14 = .ok (.invokestatic 22, 3) := by decide +kernel
theorem dX5_ofSale_17 : decode cX5_ofSale 17 = .ok (.invokestatic 150, 3) := by decide +kernel
theorem dX5_ofSale_20 : decode cX5_ofSale 20 = .ok (.iload_n 2, 1) := by decide +kernel
theorem dX5_ofSale_21 : decode cX5_ofSale 21 = .ok (.iconst 0, 1) := by decide +kernel
theorem dX5_ofSale_22 : decode cX5_ofSale 22 = .ok (.iconst 2, 1) := by decide +kernel
theorem dX5_ofSale_23 : decode cX5_ofSale 23 = .ok (.invokestatic 22, 3) := by decide +kernel
theorem dX5_ofSale_26 : decode cX5_ofSale 26 = .ok (.invokestatic 26, 3) := by decide +kernel
theorem dX5_ofSale_29 : decode cX5_ofSale 29 = .ok (.aload_n 0, 1) := by decide +kernel
theorem dX5_ofSale_30 : decode cX5_ofSale 30 = .ok (.getfield 10, 3) := by decide +kernel
theorem dX5_ofSale_33 : decode cX5_ofSale 33 = .ok (.getfield 136, 3) := by decide +kernel
theorem dX5_ofSale_36 : decode cX5_ofSale 36 = .ok (.iload_n 1, 1) := by decide +kernel
theorem dX5_ofSale_37 : decode cX5_ofSale 37 = .ok (.iload_n 2, 1) := by decide +kernel
theorem dX5_ofSale_38 : decode cX5_ofSale 38 = .ok (.invokevirtual 160, 3) := by decide +kernel
theorem dX5_ofSale_41 : decode cX5_ofSale 41 = .ok (.ireturn, 1) := by decide +kernel
theorem dX5_many_0 : decode cX5_many 0 = .ok (.iload_n 1, 1) := by decide +kernel
theorem dX5_many_1 : decode cX5_many 1 = .ok (.iconst 0, 1) := by decide +kernel
theorem dX5_many_2 : decode cX5_many 2 = .ok (.bipush 15, 2) := by decide +kernel
theorem dX5_many_4 : decode cX5_many 4 = .ok (.invokestatic 22, 3) := by decide +kernel
theorem dX5_many_7 : decode cX5_many 7 = .ok (.invokestatic 26, 3) := by decide +kernel
theorem dX5_many_10 : decode cX5_many 10 = .ok (.aload_n 0, 1) := by decide +kernel
theorem dX5_many_11 : decode cX5_many 11 = .ok (.getfield 10, 3) := by decide +kernel
theorem dX5_many_14 : decode cX5_many 14 = .ok (.iload_n 1, 1) := by decide +kernel
theorem dX5_many_15 : decode cX5_many 15 = .ok (.invokevirtual 163, 3) := by decide +kernel
theorem dX5_many_18 : decode cX5_many 18 = .ok (.ireturn, 1) := by decide +kernel
theorem dX5_meanMoist_0 : decode cX5_meanMoist 0 = .ok (.aload_n 0, 1) := by decide +kernel
theorem dX5_meanMoist_1 : decode cX5_meanMoist 1 = .ok (.getfield 10, 3) := by decide +kernel
theorem dX5_meanMoist_4 : decode cX5_meanMoist 4 = .ok (.getfield 30, 3) := by decide +kernel
theorem dX5_meanMoist_7 : decode cX5_meanMoist 7 = .ok (.invokevirtual 166, 3) := by decide +kernel
theorem dX5_meanMoist_10 : decode cX5_meanMoist 10 = .ok (.istore_n 1, 1) := by decide +kernel
theorem dX5_meanMoist_11 : decode cX5_meanMoist 11 = .ok (.iload_n 1, 1) := by decide +kernel
theorem dX5_meanMoist_12 : decode cX5_meanMoist 12 = .ok (.ifCond .le 20, 3) := by decide +kernel
theorem dX5_meanMoist_15 : decode cX5_meanMoist 15 = .ok (.aload_n 0, 1) := by decide +kernel
theorem dX5_meanMoist_16 : decode cX5_meanMoist 16 = .ok (.getfield 10, 3) := by decide +kernel
theorem dX5_meanMoist_19 : decode cX5_meanMoist 19 = .ok (.getfield 30, 3) := by decide +kernel
theorem dX5_meanMoist_22 : decode cX5_meanMoist 22 = .ok (.invokevirtual 169, 3) := by decide +kernel
theorem dX5_meanMoist_25 : decode cX5_meanMoist 25 = .ok (.i2d, 1) := by decide +kernel
theorem dX5_meanMoist_26 : decode cX5_meanMoist 26 = .ok (.iload_n 1, 1) := by decide +kernel
theorem dX5_meanMoist_27 : decode cX5_meanMoist 27 = .ok (.i2d, 1) := by decide +kernel
theorem dX5_meanMoist_28 : decode cX5_meanMoist 28 = .ok (.ddiv, 1) := by decide +kernel
theorem dX5_meanMoist_29 : decode cX5_meanMoist 29 = .ok (.goto 4, 3) := by decide +kernel
theorem dX5_meanMoist_32 : decode cX5_meanMoist 32 = .ok (.dconst 0, 1) := by decide +kernel
theorem dX5_meanMoist_33 : decode cX5_meanMoist 33 = .ok (.dreturn, 1) := by decide +kernel
theorem dX5_wouldCome_0 : decode cX5_wouldCome 0 = .ok (.aload_n 0, 1) := by decide +kernel
theorem dX5_wouldCome_1 : decode cX5_wouldCome 1 = .ok (.iload_n 1, 1) := by decide +kernel
theorem dX5_wouldCome_2 : decode cX5_wouldCome 2 = .ok (.invokevirtual 51, 3) := by decide +kernel
theorem dX5_wouldCome_5 : decode cX5_wouldCome 5 = .ok (.iload_n 2, 1) := by decide +kernel
theorem dX5_wouldCome_6 : decode cX5_wouldCome 6 = .ok (.iconst 0, 1) := by decide +kernel
theorem dX5_wouldCome_7 : decode cX5_wouldCome 7 = .ok (.bipush 99, 2) := by decide +kernel
theorem dX5_wouldCome_9 : decode cX5_wouldCome 9 = .ok (.invokestatic 22, 3) := by decide +kernel
theorem dX5_wouldCome_12 : decode cX5_wouldCome 12 = .ok (.ifCond .eq 17, 3) := by decide +kernel
theorem dX5_wouldCome_15 : decode cX5_wouldCome 15 = .ok (.iload_n 3, 1) := by decide +kernel
theorem dX5_wouldCome_16 : decode cX5_wouldCome 16 = .ok (.iconst 1, 1) := by decide +kernel
theorem dX5_wouldCome_17 : decode cX5_wouldCome 17 = .ok (.bipush 70, 2) := by decide +kernel
theorem dX5_wouldCome_19 : decode cX5_wouldCome 19 = .ok (.invokestatic 22, 3) := by decide +kernel
theorem dX5_wouldCome_22 : decode cX5_wouldCome 22 = .ok (.ifCond .eq 7, 3) := by decide +kernel
theorem dX5_wouldCome_25 : decode cX5_wouldCome 25 = .ok (.iconst 1, 1) := by decide +kernel
theorem dX5_wouldCome_26 : decode cX5_wouldCome 26 = .ok (.goto 4, 3) := by decide +kernel
theorem dX5_wouldCome_29 : decode cX5_wouldCome 29 = .ok (.iconst 0, 1) := by decide +kernel
theorem dX5_wouldCome_30 : decode cX5_wouldCome 30 = .ok (.invokestatic 26, 3) := by decide +kernel
theorem dX5_wouldCome_33 : decode cX5_wouldCome 33 = .ok (.aload_n 0, 1) := by decide +kernel
theorem dX5_wouldCome_34 : decode cX5_wouldCome 34 = .ok (.iload_n 2, 1) := by decide +kernel
theorem dX5_wouldCome_35 : decode cX5_wouldCome 35 = .ok (.iload_n 3, 1) := by decide +kernel
theorem dX5_wouldCome_36 : decode cX5_wouldCome 36 = .ok (.invokevirtual 172, 3) := by decide +kernel
theorem dX5_wouldCome_39 : decode cX5_wouldCome 39 = .ok (.aload_n 0, 1) := by decide +kernel
theorem dX5_wouldCome_40 : decode cX5_wouldCome 40 = .ok (.iload_n 1, 1) := by decide +kernel
theorem dX5_wouldCome_41 : decode cX5_wouldCome 41 = .ok (.invokevirtual 176, 3) := by decide +kernel
theorem dX5_wouldCome_44 : decode cX5_wouldCome 44 = .ok (.ireturn, 1) := by decide +kernel
theorem dX5_bestDig_0 : decode cX5_bestDig 0 = .ok (.iload_n 1, 1) := by decide +kernel
theorem dX5_bestDig_1 : decode cX5_bestDig 1 = .ok (.iconst 0, 1) := by decide +kernel
theorem dX5_bestDig_2 : decode cX5_bestDig 2 = .ok (.bipush 99, 2) := by decide +kernel
theorem dX5_bestDig_4 : decode cX5_bestDig 4 = .ok (.invokestatic 22, 3) := by decide +kernel
theorem dX5_bestDig_7 : decode cX5_bestDig 7 = .ok (.ifCond .eq 17, 3) := by decide +kernel
theorem dX5_bestDig_10 : decode cX5_bestDig 10 = .ok (.iload_n 2, 1) := by decide +kernel
theorem dX5_bestDig_11 : decode cX5_bestDig 11 = .ok (.iconst 1, 1) := by decide +kernel
theorem dX5_bestDig_12 : decode cX5_bestDig 12 = .ok (.bipush 35, 2) := by decide +kernel
theorem dX5_bestDig_14 : decode cX5_bestDig 14 = .ok (.invokestatic 22, 3) := by decide +kernel
theorem dX5_bestDig_17 : decode cX5_bestDig 17 = .ok (.ifCond .eq 7, 3) := by decide +kernel
theorem dX5_bestDig_20 : decode cX5_bestDig 20 = .ok (.iconst 1, 1) := by decide +kernel
theorem dX5_bestDig_21 : decode cX5_bestDig 21 = .ok (.goto 4, 3) := by decide +kernel
theorem dX5_bestDig_24 : decode cX5_bestDig 24 = .ok (.iconst 0, 1) := by decide +kernel
theorem dX5_bestDig_25 : decode cX5_bestDig 25 = .ok (.invokestatic 26, 3) := by decide +kernel
theorem dX5_bestDig_28 : decode cX5_bestDig 28 = .ok (.iconst 0, 1) := by decide +kernel
theorem dX5_bestDig_29 : decode cX5_bestDig 29 = .ok (.istore_n 3, 1) := by decide +kernel
theorem dX5_bestDig_30 : decode cX5_bestDig 30 = .ok (.iconst (-1), 1) := by decide +kernel
theorem dX5_bestDig_31 : decode cX5_bestDig 31 = .ok (.istore 4, 2) := by decide +kernel
theorem dX5_bestDig_33 : decode cX5_bestDig 33 = .ok (.iconst 0, 1) := by decide +kernel
theorem dX5_bestDig_34 : decode cX5_bestDig 34 = .ok (.istore 5, 2) := by decide +kernel
theorem dX5_bestDig_36 : decode cX5_bestDig 36 = .ok (.iload 5, 2) := by decide +kernel
theorem dX5_bestDig_38 : decode cX5_bestDig 38 = .ok (.bipush 20, 2) := by decide +kernel
theorem dX5_bestDig_40 : decode cX5_bestDig 40 = .ok (.if_icmp .gt 80, 3) := by decide +kernel
theorem dX5_bestDig_43 : decode cX5_bestDig 43 = .ok (.aload_n 0, 1) := by decide +kernel
theorem dX5_bestDig_44 : decode cX5_bestDig 44 = .ok (.getfield 10, 3) := by decide +kernel
theorem dX5_bestDig_47 : decode cX5_bestDig 47 = .ok (.getfield 97, 3) := by decide +kernel
theorem dX5_bestDig_50 : decode cX5_bestDig 50 = .ok (.getfield 101, 3) := by decide +kernel
theorem dX5_bestDig_53 : decode cX5_bestDig 53 = .ok (.iload 5, 2) := by decide +kernel
theorem dX5_bestDig_55 : decode cX5_bestDig 55 = .ok (.iadd, 1) := by decide +kernel
theorem dX5_bestDig_56 : decode cX5_bestDig 56 = .ok (.bipush 90, 2) := by decide +kernel
theorem dX5_bestDig_58 : decode cX5_bestDig 58 = .ok (.if_icmp .gt 56, 3) := by decide +kernel
theorem dX5_bestDig_61 : decode cX5_bestDig 61 = .ok (.aload_n 0, 1) := by decide +kernel
theorem dX5_bestDig_62 : decode cX5_bestDig 62 = .ok (.getfield 16, 3) := by decide +kernel
theorem dX5_bestDig_65 : decode cX5_bestDig 65 = .ok (.aload_n 0, 1) := by decide +kernel
theorem dX5_bestDig_66 : decode cX5_bestDig 66 = .ok (.getfield 10, 3) := by decide +kernel
theorem dX5_bestDig_69 : decode cX5_bestDig 69 = .ok (.invokevirtual 179, 3) := by decide +kernel
theorem dX5_bestDig_72 : decode cX5_bestDig 72 = .ok (.aload_n 0, 1) := by decide +kernel
theorem dX5_bestDig_73 : decode cX5_bestDig 73 = .ok (.getfield 16, 3) := by decide +kernel
theorem dX5_bestDig_76 : decode cX5_bestDig 76 = .ok (.getfield 97, 3) := by decide +kernel
theorem dX5_bestDig_79 : decode cX5_bestDig 79 = .ok (.dup, 1) := by decide +kernel
theorem dX5_bestDig_80 : decode cX5_bestDig 80 = .ok (.getfield 101, 3) := by decide +kernel
theorem dX5_bestDig_83 : decode cX5_bestDig 83 = .ok (.iload 5, 2) := by decide +kernel
theorem dX5_bestDig_85 : decode cX5_bestDig 85 = .ok (.iadd, 1) := by decide +kernel
theorem dX5_bestDig_86 : decode cX5_bestDig 86 = .ok (.putfield 101, 3) := by decide +kernel
theorem dX5_bestDig_89 : decode cX5_bestDig 89 = .ok (.aload_n 0, 1) := by decide +kernel
theorem dX5_bestDig_90 : decode cX5_bestDig 90 = .ok (.getfield 16, 3) := by decide +kernel
theorem dX5_bestDig_93 : decode cX5_bestDig 93 = .ok (.iload_n 1, 1) := by decide +kernel
theorem dX5_bestDig_94 : decode cX5_bestDig 94 = .ok (.iload_n 2, 1) := by decide +kernel
theorem dX5_bestDig_95 : decode cX5_bestDig 95 = .ok (.invokevirtual 142, 3) := by decide +kernel
theorem dX5_bestDig_98 : decode cX5_bestDig 98 = .ok (.istore 6, 2) := by decide +kernel
theorem dX5_bestDig_100 : decode cX5_bestDig 100 = .ok (.iload 6, 2) := by decide +kernel
theorem dX5_bestDig_102 : decode cX5_bestDig 102 = .ok (.iload 4, 2) := by decide +kernel
theorem dX5_bestDig_104 : decode cX5_bestDig 104 = .ok (.if_icmp .le 10, 3) := by decide +kernel
theorem dX5_bestDig_107 : decode cX5_bestDig 107 = .ok (.iload 6, 2) := by decide +kernel
theorem dX5_bestDig_109 : decode cX5_bestDig 109 = .ok (.istore 4, 2) := by decide +kernel
theorem dX5_bestDig_111 : decode cX5_bestDig 111 = .ok (.iload 5, 2) := by decide +kernel
theorem dX5_bestDig_113 : decode cX5_bestDig 113 = .ok (.istore_n 3, 1) := by decide +kernel
theorem dX5_bestDig_114 : decode cX5_bestDig 114 = .ok (.iinc 5 1, 3) := by decide +kernel
theorem dX5_bestDig_117 : decode cX5_bestDig 117 = .ok (.goto (-81), 3) := by decide +kernel
theorem dX5_bestDig_120 : decode cX5_bestDig 120 = .ok (.iload_n 3, 1) := by decide +kernel
theorem dX5_bestDig_121 : decode cX5_bestDig 121 = .ok (.ireturn, 1) := by decide +kernel
theorem dX5_pumpTakes_0 : decode cX5_pumpTakes 0 = .ok (.iload_n 1, 1) := by decide +kernel
theorem dX5_pumpTakes_1 : decode cX5_pumpTakes 1 = .ok (.iconst 0, 1) := by decide +kernel
theorem dX5_pumpTakes_2 : decode cX5_pumpTakes 2 = .ok (.bipush 20, 2) := by decide +kernel
theorem dX5_pumpTakes_4 : decode cX5_pumpTakes 4 = .ok (.invokestatic 22, 3) := by decide +kernel
theorem dX5_pumpTakes_7 : decode cX5_pumpTakes 7 = .ok (.ifCond .eq 27, 3) := by decide +kernel
theorem dX5_pumpTakes_10 : decode cX5_pumpTakes 10 = .ok (.iload_n 2, 1) := by decide +kernel
theorem dX5_pumpTakes_11 : decode cX5_pumpTakes 11 = .ok (.iconst 0, 1) := by decide +kernel
theorem dX5_pumpTakes_12 : decode cX5_pumpTakes 12 = .ok (.bipush 99, 2) := by decide +kernel
theorem dX5_pumpTakes_14 : decode cX5_pumpTakes 14 = .ok (.invokestatic 22, 3) := by decide +kernel
theorem dX5_pumpTakes_17 : decode cX5_pumpTakes 17 = .ok (.ifCond .eq 17, 3) := by decide +kernel
theorem dX5_pumpTakes_20 : decode cX5_pumpTakes 20 = .ok (.iload_n 3, 1) := by decide +kernel
theorem dX5_pumpTakes_21 : decode cX5_pumpTakes 21 = .ok (.iconst 1, 1) := by decide +kernel
theorem dX5_pumpTakes_22 : decode cX5_pumpTakes 22 = .ok (.bipush 70, 2) := by decide +kernel
theorem dX5_pumpTakes_24 : decode cX5_pumpTakes 24 = .ok (.invokestatic 22, 3) := by decide +kernel
theorem dX5_pumpTakes_27 : decode cX5_pumpTakes 27 = .ok (.ifCond .eq 7, 3) := by decide +kernel
theorem dX5_pumpTakes_30 : decode cX5_pumpTakes 30 = .ok (.iconst 1, 1) := by decide +kernel
theorem dX5_pumpTakes_31 : decode cX5_pumpTakes 31 = .ok (.goto 4, 3) := by decide +kernel
theorem dX5_pumpTakes_34 : decode cX5_pumpTakes 34 = .ok (.iconst 0, 1) := by decide +kernel
theorem dX5_pumpTakes_35 : decode cX5_pumpTakes 35 = .ok (.invokestatic 26, 3) := by decide +kernel
theorem dX5_pumpTakes_38 : decode cX5_pumpTakes 38 = .ok (.aload_n 0, 1) := by decide +kernel
theorem dX5_pumpTakes_39 : decode cX5_pumpTakes 39 = .ok (.getfield 16, 3) := by decide +kernel
theorem dX5_pumpTakes_42 : decode cX5_pumpTakes 42 = .ok (.aload_n 0, 1) := by decide +kernel
theorem dX5_pumpTakes_43 : decode cX5_pumpTakes 43 = .ok (.getfield 10, 3) := by decide +kernel
theorem dX5_pumpTakes_46 : decode cX5_pumpTakes 46 = .ok (.invokevirtual 179, 3) := by decide +kernel
theorem dX5_pumpTakes_49 : decode cX5_pumpTakes 49 = .ok (.aload_n 0, 1) := by decide +kernel
theorem dX5_pumpTakes_50 : decode cX5_pumpTakes 50 = .ok (.getfield 16, 3) := by decide +kernel
theorem dX5_pumpTakes_53 : decode cX5_pumpTakes 53 = .ok (.iload_n 2, 1) := by decide +kernel
theorem dX5_pumpTakes_54 : decode cX5_pumpTakes 54 = .ok (.iload_n 3, 1) := by decide +kernel
theorem dX5_pumpTakes_55 : decode cX5_pumpTakes 55 = .ok (.invokevirtual 142, 3) := by decide +kernel
theorem dX5_pumpTakes_58 : decode cX5_pumpTakes 58 = .ok (.istore 4, 2) := by decide +kernel
theorem dX5_pumpTakes_60 : decode cX5_pumpTakes 60 = .ok (.aload_n 0, 1) := by decide +kernel
theorem dX5_pumpTakes_61 : decode cX5_pumpTakes 61 = .ok (.getfield 16, 3) := by decide +kernel
theorem dX5_pumpTakes_64 : decode cX5_pumpTakes 64 = .ok (.aload_n 0, 1) := by decide +kernel
theorem dX5_pumpTakes_65 : decode cX5_pumpTakes 65 = .ok (.getfield 10, 3) := by decide +kernel
theorem dX5_pumpTakes_68 : decode cX5_pumpTakes 68 = .ok (.invokevirtual 179, 3) := by decide +kernel
theorem dX5_pumpTakes_71 : decode cX5_pumpTakes 71 = .ok (.aload_n 0, 1) := by decide +kernel
theorem dX5_pumpTakes_72 : decode cX5_pumpTakes 72 = .ok (.getfield 16, 3) := by decide +kernel
theorem dX5_pumpTakes_75 : decode cX5_pumpTakes 75 = .ok (.getfield 97, 3) := by decide +kernel
theorem dX5_pumpTakes_78 : decode cX5_pumpTakes 78 = .ok (.iload_n 1, 1) := by decide +kernel
theorem dX5_pumpTakes_79 : decode cX5_pumpTakes 79 = .ok (.putfield 118, 3) := by decide +kernel
theorem dX5_pumpTakes_82 : decode cX5_pumpTakes 82 = .ok (.iload 4, 2) := by decide +kernel
theorem dX5_pumpTakes_84 : decode cX5_pumpTakes 84 = .ok (.aload_n 0, 1) := by decide +kernel
theorem dX5_pumpTakes_85 : decode cX5_pumpTakes 85 = .ok (.getfield 16, 3) := by decide +kernel
theorem dX5_pumpTakes_88 : decode cX5_pumpTakes 88 = .ok (.iload_n 2, 1) := by decide +kernel
theorem dX5_pumpTakes_89 : decode cX5_pumpTakes 89 = .ok (.iload_n 3, 1) := by decide +kernel
theorem dX5_pumpTakes_90 : decode cX5_pumpTakes 90 = .ok (.invokevirtual 142, 3) := by decide +kernel
theorem dX5_pumpTakes_93 : decode cX5_pumpTakes 93 = .ok (.isub, 1) := by decide +kernel
theorem dX5_pumpTakes_94 : decode cX5_pumpTakes 94 = .ok (.ireturn, 1) := by decide +kernel
theorem dX5_wouldReap_0 : decode cX5_wouldReap 0 = .ok (.aload_n 0, 1) := by decide +kernel
theorem dX5_wouldReap_1 : decode cX5_wouldReap 1 = .ok (.iload_n 1, 1) := by decide +kernel
theorem dX5_wouldReap_2 : decode cX5_wouldReap 2 = .ok (.invokevirtual 51, 3) := by decide +kernel
theorem dX5_wouldReap_5 : decode cX5_wouldReap 5 = .ok (.iload_n 2, 1) := by decide +kernel
theorem dX5_wouldReap_6 : decode cX5_wouldReap 6 = .ok (.iconst 0, 1) := by decide +kernel
theorem dX5_wouldReap_7 : decode cX5_wouldReap 7 = .ok (.bipush 99, 2) := by decide +kernel
theorem dX5_wouldReap_9 : decode cX5_wouldReap 9 = .ok (.invokestatic 22, 3) := by decide +kernel
theorem dX5_wouldReap_12 : decode cX5_wouldReap 12 = .ok (.invokestatic 26, 3) := by decide +kernel
theorem dX5_wouldReap_15 : decode cX5_wouldReap 15 = .ok (.aload_n 0, 1) := by decide +kernel
theorem dX5_wouldReap_16 : decode cX5_wouldReap 16 = .ok (.iload_n 2, 1) := by decide +kernel
theorem dX5_wouldReap_17 : decode cX5_wouldReap 17 = .ok (.invokevirtual 183, 3) := by decide +kernel
theorem dX5_wouldReap_20 : decode cX5_wouldReap 20 = .ok (.aload_n 0, 1) := by decide +kernel
theorem dX5_wouldReap_21 : decode cX5_wouldReap 21 = .ok (.iload_n 1, 1) := by decide +kernel
theorem dX5_wouldReap_22 : decode cX5_wouldReap 22 = .ok (.invokevirtual 186, 3) := by decide +kernel
theorem dX5_wouldReap_25 : decode cX5_wouldReap 25 = .ok (.ireturn, 1) := by decide +kernel
theorem dX5_digest_0 : decode cX5_digest 0 = .ok (.ldc2_w 189, 3) := by decide +kernel
theorem dX5_digest_3 : decode cX5_digest 3 = .ok (.lstore_n 1, 1) := by decide +kernel
theorem dX5_digest_4 : decode cX5_digest 4 = .ok (.iconst 0, 1) := by decide +kernel
theorem dX5_digest_5 : decode cX5_digest 5 = .ok (.istore_n 3, 1) := by decide +kernel
theorem dX5_digest_6 : decode cX5_digest 6 = .ok (.iload_n 3, 1) := by decide +kernel
theorem dX5_digest_7 : decode cX5_digest 7 = .ok (.bipush 15, 2) := by decide +kernel
theorem dX5_digest_9 : decode cX5_digest 9 = .ok (.if_icmp .gt 22, 3) := by decide +kernel
theorem dX5_digest_12 : decode cX5_digest 12 = .ok (.lload_n 1, 1) := by decide +kernel
theorem dX5_digest_13 : decode cX5_digest 13 = .ok (.ldc2_w 191, 3) := by decide +kernel
theorem dX5_digest_16 : decode cX5_digest 16 = .ok (.lmul, 1) := by decide +kernel
theorem dX5_digest_17 : decode cX5_digest 17 = .ok (.aload_n 0, 1) := by decide +kernel
theorem dX5_digest_18 : decode cX5_digest 18 = .ok (.iload_n 3, 1) := by decide +kernel
theorem dX5_digest_19 : decode cX5_digest 19 = .ok (.invokevirtual 193, 3) := by decide +kernel
theorem dX5_digest_22 : decode cX5_digest 22 = .ok (.i2l, 1) := by decide +kernel
theorem dX5_digest_23 : decode cX5_digest 23 = .ok (.ladd, 1) := by decide +kernel
theorem dX5_digest_24 : decode cX5_digest 24 = .ok (.lstore_n 1, 1) := by decide +kernel
theorem dX5_digest_25 : decode cX5_digest 25 = .ok (.iinc 3 1, 3) := by decide +kernel
theorem dX5_digest_28 : decode cX5_digest 28 = .ok (.goto (-22), 3) := by decide +kernel
theorem dX5_digest_31 : decode cX5_digest 31 = .ok (.aload_n 0, 1) := by decide +kernel
theorem dX5_digest_32 : decode cX5_digest 32 = .ok (.iconst 0, 1) := by decide +kernel
theorem dX5_digest_33 : decode cX5_digest 33 = .ok (.bipush 7, 2) := by decide +kernel
theorem dX5_digest_35 : decode cX5_digest 35 = .ok (.invokevirtual 172, 3) := by decide +kernel
theorem dX5_digest_38 : decode cX5_digest 38 = .ok (.aload_n 0, 1) := by decide +kernel
theorem dX5_digest_39 : decode cX5_digest 39 = .ok (.iconst 3, 1) := by decide +kernel
theorem dX5_digest_40 : decode cX5_digest 40 = .ok (.invokevirtual 183, 3) := by decide +kernel
theorem dX5_digest_43 : decode cX5_digest 43 = .ok (.aload_n 0, 1) := by decide +kernel
theorem dX5_digest_44 : decode cX5_digest 44 = .ok (.lload_n 1, 1) := by decide +kernel
theorem dX5_digest_45 : decode cX5_digest 45 = .ok (.invokevirtual 196, 3) := by decide +kernel
theorem dX5_digest_48 : decode cX5_digest 48 = .ok (.lstore_n 1, 1) := by decide +kernel
theorem dX5_digest_49 : decode cX5_digest 49 = .ok (.iconst 0, 1) := by decide +kernel
theorem dX5_digest_50 : decode cX5_digest 50 = .ok (.istore_n 3, 1) := by decide +kernel
theorem dX5_digest_51 : decode cX5_digest 51 = .ok (.iload_n 3, 1) := by decide +kernel
theorem dX5_digest_52 : decode cX5_digest 52 = .ok (.sipush 5040, 3) := by decide +kernel
theorem dX5_digest_55 : decode cX5_digest 55 = .ok (.if_icmp .ge 40, 3) := by decide +kernel
theorem dX5_digest_58 : decode cX5_digest 58 = .ok (.lload_n 1, 1) := by decide +kernel
theorem dX5_digest_59 : decode cX5_digest 59 = .ok (.ldc2_w 191, 3) := by decide +kernel
theorem dX5_digest_62 : decode cX5_digest 62 = .ok (.lmul, 1) := by decide +kernel
theorem dX5_digest_63 : decode cX5_digest 63 = .ok (.aload_n 0, 1) := by decide +kernel
theorem dX5_digest_64 : decode cX5_digest 64 = .ok (.iload_n 3, 1) := by decide +kernel
theorem dX5_digest_65 : decode cX5_digest 65 = .ok (.iconst 0, 1) := by decide +kernel
theorem dX5_digest_66 : decode cX5_digest 66 = .ok (.invokevirtual 200, 3) := by decide +kernel
theorem dX5_digest_69 : decode cX5_digest 69 = .ok (.i2l, 1) := by decide +kernel
theorem dX5_digest_70 : decode cX5_digest 70 = .ok (.ladd, 1) := by decide +kernel
theorem dX5_digest_71 : decode cX5_digest 71 = .ok (.lstore_n 1, 1) := by decide +kernel
theorem dX5_digest_72 : decode cX5_digest 72 = .ok (.lload_n 1, 1) := by decide +kernel
theorem dX5_digest_73 : decode cX5_digest 73 = .ok (.ldc2_w 191, 3) := by decide +kernel
theorem dX5_digest_76 : decode cX5_digest 76 = .ok (.lmul, 1) := by decide +kernel
theorem dX5_digest_77 : decode cX5_digest 77 = .ok (.aload_n 0, 1) := by decide +kernel
theorem dX5_digest_78 : decode cX5_digest 78 = .ok (.iload_n 3, 1) := by decide +kernel
theorem dX5_digest_79 : decode cX5_digest 79 = .ok (.iconst 1, 1) := by decide +kernel
theorem dX5_digest_80 : decode cX5_digest 80 = .ok (.invokevirtual 200, 3) := by decide +kernel
theorem dX5_digest_83 : decode cX5_digest 83 = .ok (.i2l, 1) := by decide +kernel
theorem dX5_digest_84 : decode cX5_digest 84 = .ok (.ladd, 1) := by decide +kernel
theorem dX5_digest_85 : decode cX5_digest 85 = .ok (.lstore_n 1, 1) := by decide +kernel
theorem dX5_digest_86 : decode cX5_digest 86 = .ok (.iinc 3 720, 6) := by decide +kernel
theorem dX5_digest_92 : decode cX5_digest 92 = .ok (.goto (-41), 3) := by decide +kernel
theorem dX5_digest_95 : decode cX5_digest 95 = .ok (.iconst 0, 1) := by decide +kernel
theorem dX5_digest_96 : decode cX5_digest 96 = .ok (.istore_n 3, 1) := by decide +kernel
theorem dX5_digest_97 : decode cX5_digest 97 = .ok (.iload_n 3, 1) := by decide +kernel
theorem dX5_digest_98 : decode cX5_digest 98 = .ok (.aload_n 0, 1) := by decide +kernel
theorem dX5_digest_99 : decode cX5_digest 99 = .ok (.getfield 10, 3) := by decide +kernel
theorem dX5_digest_102 : decode cX5_digest 102 = .ok (.getfield 76, 3) := by decide +kernel
theorem dX5_digest_105 : decode cX5_digest 105 = .ok (.invokevirtual 90, 3) := by decide +kernel
theorem dX5_digest_108 : decode cX5_digest 108 = .ok (.if_icmp .ge 39, 3) := by decide +kernel
theorem dX5_digest_111 : decode cX5_digest 111 = .ok (.iconst 0, 1) := by decide +kernel
theorem dX5_digest_112 : decode cX5_digest 112 = .ok (.istore 4, 2) := by decide +kernel
theorem dX5_digest_114 : decode cX5_digest 114 = .ok (.iload 4, 2) := by decide +kernel
theorem dX5_digest_116 : decode cX5_digest 116 = .ok (.iconst 3, 1) := by decide +kernel
theorem dX5_digest_117 : decode cX5_digest 117 = .ok (.if_icmp .gt 24, 3) := by decide +kernel
theorem dX5_digest_120 : decode cX5_digest 120 = .ok (.lload_n 1, 1) := by decide +kernel
theorem dX5_digest_121 : decode cX5_digest 121 = .ok (.ldc2_w 191, 3) := by decide +kernel
theorem dX5_digest_124 : decode cX5_digest 124 = .ok (.lmul, 1) := by decide +kernel
theorem dX5_digest_125 : decode cX5_digest 125 = .ok (.aload_n 0, 1) := by decide +kernel
theorem dX5_digest_126 : decode cX5_digest 126 = .ok (.iload_n 3, 1) := by decide +kernel
theorem dX5_digest_127 : decode cX5_digest 127 = .ok (.iload 4, 2) := by decide +kernel
theorem dX5_digest_129 : decode cX5_digest 129 = .ok (.invokevirtual 203, 3) := by decide +kernel
theorem dX5_digest_132 : decode cX5_digest 132 = .ok (.i2l, 1) := by decide +kernel
theorem dX5_digest_133 : decode cX5_digest 133 = .ok (.ladd, 1) := by decide +kernel
theorem dX5_digest_134 : decode cX5_digest 134 = .ok (.lstore_n 1, 1) := by decide +kernel
theorem dX5_digest_135 : decode cX5_digest 135 = .ok (.iinc 4 1, 3) := by decide +kernel
theorem dX5_digest_138 : decode cX5_digest 138 = .ok (.goto (-24), 3) := by decide +kernel
theorem dX5_digest_141 : decode cX5_digest 141 = .ok (.iinc 3 1, 3) := by decide +kernel
theorem dX5_digest_144 : decode cX5_digest 144 = .ok (.goto (-47), 3) := by decide +kernel
theorem dX5_digest_147 : decode cX5_digest 147 = .ok (.iconst 0, 1) := by decide +kernel
theorem dX5_digest_148 : decode cX5_digest 148 = .ok (.istore_n 3, 1) := by decide +kernel
theorem dX5_digest_149 : decode cX5_digest 149 = .ok (.iload_n 3, 1) := by decide +kernel
theorem dX5_digest_150 : decode cX5_digest 150 = .ok (.aload_n 0, 1) := by decide +kernel
theorem dX5_digest_151 : decode cX5_digest 151 = .ok (.getfield 10, 3) := by decide +kernel
theorem dX5_digest_154 : decode cX5_digest 154 = .ok (.getfield 136, 3) := by decide +kernel
theorem dX5_digest_157 : decode cX5_digest 157 = .ok (.invokevirtual 90, 3) := by decide +kernel
theorem dX5_digest_160 : decode cX5_digest 160 = .ok (.if_icmp .ge 39, 3) := by decide +kernel
theorem dX5_digest_163 : decode cX5_digest 163 = .ok (.iconst 0, 1) := by decide +kernel
theorem dX5_digest_164 : decode cX5_digest 164 = .ok (.istore 4, 2) := by decide +kernel
theorem dX5_digest_166 : decode cX5_digest 166 = .ok (.iload 4, 2) := by decide +kernel
theorem dX5_digest_168 : decode cX5_digest 168 = .ok (.iconst 2, 1) := by decide +kernel
theorem dX5_digest_169 : decode cX5_digest 169 = .ok (.if_icmp .gt 24, 3) := by decide +kernel
theorem dX5_digest_172 : decode cX5_digest 172 = .ok (.lload_n 1, 1) := by decide +kernel
theorem dX5_digest_173 : decode cX5_digest 173 = .ok (.ldc2_w 191, 3) := by decide +kernel
theorem dX5_digest_176 : decode cX5_digest 176 = .ok (.lmul, 1) := by decide +kernel
theorem dX5_digest_177 : decode cX5_digest 177 = .ok (.aload_n 0, 1) := by decide +kernel
theorem dX5_digest_178 : decode cX5_digest 178 = .ok (.iload_n 3, 1) := by decide +kernel
theorem dX5_digest_179 : decode cX5_digest 179 = .ok (.iload 4, 2) := by decide +kernel
theorem dX5_digest_181 : decode cX5_digest 181 = .ok (.invokevirtual 206, 3) := by decide +kernel
theorem dX5_digest_184 : decode cX5_digest 184 = .ok (.i2l, 1) := by decide +kernel
theorem dX5_digest_185 : decode cX5_digest 185 = .ok (.ladd, 1) := by decide +kernel
theorem dX5_digest_186 : decode cX5_digest 186 = .ok (.lstore_n 1, 1) := by decide +kernel
theorem dX5_digest_187 : decode cX5_digest 187 = .ok (.iinc 4 1, 3) := by decide +kernel
theorem dX5_digest_190 : decode cX5_digest 190 = .ok (.goto (-24), 3) := by decide +kernel
theorem dX5_digest_193 : decode cX5_digest 193 = .ok (.iinc 3 1, 3) := by decide +kernel
theorem dX5_digest_196 : decode cX5_digest 196 = .ok (.goto (-47), 3) := by decide +kernel
theorem dX5_digest_199 : decode cX5_digest 199 = .ok (.lload_n 1, 1) := by decide +kernel
theorem dX5_digest_200 : decode cX5_digest 200 = .ok (.ldc2_w 191, 3) := by decide +kernel
theorem dX5_digest_203 : decode cX5_digest 203 = .ok (.lmul, 1) := by decide +kernel
theorem dX5_digest_204 : decode cX5_digest 204 = .ok (.aload_n 0, 1) := by decide +kernel
theorem dX5_digest_205 : decode cX5_digest 205 = .ok (.iconst 0, 1) := by decide +kernel
theorem dX5_digest_206 : decode cX5_digest 206 = .ok (.iconst 3, 1) := by decide +kernel
theorem dX5_digest_207 : decode cX5_digest 207 = .ok (.invokevirtual 209, 3) := by decide +kernel
theorem dX5_digest_210 : decode cX5_digest 210 = .ok (.i2l, 1) := by decide +kernel
theorem dX5_digest_211 : decode cX5_digest 211 = .ok (.ladd, 1) := by decide +kernel
theorem dX5_digest_212 : decode cX5_digest 212 = .ok (.lstore_n 1, 1) := by decide +kernel
theorem dX5_digest_213 : decode cX5_digest 213 = .ok (.lload_n 1, 1) := by decide +kernel
theorem dX5_digest_214 : decode cX5_digest 214 = .ok (.ldc2_w 191, 3) := by decide +kernel
theorem dX5_digest_217 : decode cX5_digest 217 = .ok (.lmul, 1) := by decide +kernel
theorem dX5_digest_218 : decode cX5_digest 218 = .ok (.aload_n 0, 1) := by decide +kernel
theorem dX5_digest_219 : decode cX5_digest 219 = .ok (.iconst 5, 1) := by decide +kernel
theorem dX5_digest_220 : decode cX5_digest 220 = .ok (.iconst 0, 1) := by decide +kernel
theorem dX5_digest_221 : decode cX5_digest 221 = .ok (.bipush 9, 2) := by decide +kernel
theorem dX5_digest_223 : decode cX5_digest 223 = .ok (.invokevirtual 212, 3) := by decide +kernel
theorem dX5_digest_226 : decode cX5_digest 226 = .ok (.i2l, 1) := by decide +kernel
theorem dX5_digest_227 : decode cX5_digest 227 = .ok (.ladd, 1) := by decide +kernel
theorem dX5_digest_228 : decode cX5_digest 228 = .ok (.lreturn, 1) := by decide +kernel
theorem dX5_digestOwners_0 : decode cX5_digestOwners 0 = .ok (.lload_n 1, 1) := by decide +kernel
theorem dX5_digestOwners_1 : decode cX5_digestOwners 1 = .ok (.lstore_n 3, 1) := by decide +kernel
theorem dX5_digestOwners_2 : decode cX5_digestOwners 2 = .ok (.iconst 0, 1) := by decide +kernel
theorem dX5_digestOwners_3 : decode cX5_digestOwners 3 = .ok (.istore 5, 2) := by decide +kernel
theorem dX5_digestOwners_5 : decode cX5_digestOwners 5 = .ok (.iload 5, 2) := by decide +kernel
theorem dX5_digestOwners_7 : decode cX5_digestOwners 7 = .ok (.bipush 10, 2) := by decide +kernel
theorem dX5_digestOwners_9 : decode cX5_digestOwners 9 = .ok (.if_icmp .ge 84, 3) := by decide +kernel
theorem dX5_digestOwners_12 : decode cX5_digestOwners 12 = .ok (.aload_n 0, 1) := by decide +kernel
theorem dX5_digestOwners_13 : decode cX5_digestOwners 13 = .ok (.getfield 10, 3) := by decide +kernel
theorem dX5_digestOwners_16 : decode cX5_digestOwners 16 = .ok (.getfield 30, 3) := by decide +kernel
theorem dX5_digestOwners_19 : decode cX5_digestOwners 19 = .ok (.iload 5, 2) := by decide +kernel
theorem dX5_digestOwners_21 : decode cX5_digestOwners 21 = .ok (.invokevirtual 215, 3) := by decide +kernel
theorem dX5_digestOwners_24 : decode cX5_digestOwners 24 = .ok (.ifCond .eq 63, 3) := by decide +kernel
theorem dX5_digestOwners_27 : decode cX5_digestOwners 27 = .ok (.iconst 0, 1) := by decide +kernel
theorem dX5_digestOwners_28 : decode cX5_digestOwners 28 = .ok (.istore 6, 2) := by decide +kernel
theorem dX5_digestOwners_30 : decode cX5_digestOwners 30 = .ok (.iload 6, 2) := by decide +kernel
theorem dX5_digestOwners_32 : decode cX5_digestOwners 32 = .ok (.bipush 13, 2) := by decide +kernel
theorem dX5_digestOwners_34 : decode cX5_digestOwners 34 = .ok (.if_icmp .gt 25, 3) := by decide +kernel
theorem dX5_digestOwners_37 : decode cX5_digestOwners 37 = .ok (.lload_n 3, 1) := by decide +kernel
theorem dX5_digestOwners_38 : decode cX5_digestOwners 38 = .ok (.ldc2_w 191, 3) := by decide +kernel
theorem dX5_digestOwners_41 : decode cX5_digestOwners 41 = .ok (.lmul, 1) := by decide +kernel
theorem dX5_digestOwners_42 : decode cX5_digestOwners 42 = .ok (.aload_n 0, 1) := by decide +kernel
theorem dX5_digestOwners_43 : decode cX5_digestOwners 43 = .ok (.iload 5, 2) := by decide +kernel
theorem dX5_digestOwners_45 : decode cX5_digestOwners 45 = .ok (.iload 6, 2) := by decide +kernel
theorem dX5_digestOwners_47 : decode cX5_digestOwners 47 = .ok (.invokevirtual 218, 3) := by decide +kernel
theorem dX5_digestOwners_50 : decode cX5_digestOwners 50 = .ok (.i2l, 1) := by decide +kernel
theorem dX5_digestOwners_51 : decode cX5_digestOwners 51 = .ok (.ladd, 1) := by decide +kernel
theorem dX5_digestOwners_52 : decode cX5_digestOwners 52 = .ok (.lstore_n 3, 1) := by decide +kernel
theorem dX5_digestOwners_53 : decode cX5_digestOwners 53 = .ok (.iinc 6 1, 3) := by decide +kernel
theorem dX5_digestOwners_56 : decode cX5_digestOwners 56 = .ok (.goto (-26), 3) := by decide +kernel
theorem dX5_digestOwners_59 : decode cX5_digestOwners 59 = .ok (.lload_n 3, 1) := by decide +kernel
theorem dX5_digestOwners_60 : decode cX5_digestOwners 60 = .ok (.ldc2_w 191, 3) := by decide +kernel
theorem dX5_digestOwners_63 : decode cX5_digestOwners 63 = .ok (.lmul, 1) := by decide +kernel
theorem dX5_digestOwners_64 : decode cX5_digestOwners 64 = .ok (.aload_n 0, 1) := by decide +kernel
theorem dX5_digestOwners_65 : decode cX5_digestOwners 65 = .ok (.iload 5, 2) := by decide +kernel
theorem dX5_digestOwners_67 : decode cX5_digestOwners 67 = .ok (.invokevirtual 176, 3) := by decide +kernel
theorem dX5_digestOwners_70 : decode cX5_digestOwners 70 = .ok (.i2l, 1) := by decide +kernel
theorem dX5_digestOwners_71 : decode cX5_digestOwners 71 = .ok (.ladd, 1) := by decide +kernel
theorem dX5_digestOwners_72 : decode cX5_digestOwners 72 = .ok (.lstore_n 3, 1) := by decide +kernel
theorem dX5_digestOwners_73 : decode cX5_digestOwners 73 = .ok (.lload_n 3, 1) := by decide +kernel
theorem dX5_digestOwners_74 : decode cX5_digestOwners 74 = .ok (.ldc2_w 191, 3) := by decide +kernel
theorem dX5_digestOwners_77 : decode cX5_digestOwners 77 = .ok (.lmul, 1) := by decide +kernel
theorem dX5_digestOwners_78 : decode cX5_digestOwners 78 = .ok (.aload_n 0, 1) := by decide +kernel
theorem dX5_digestOwners_79 : decode cX5_digestOwners 79 = .ok (.iload 5, 2) := by decide +kernel
theorem dX5_digestOwners_81 : decode cX5_digestOwners 81 = .ok (.invokevirtual 186, 3) := by decide +kernel
theorem dX5_digestOwners_84 : decode cX5_digestOwners 84 = .ok (.i2l, 1) := by decide +kernel
theorem dX5_digestOwners_85 : decode cX5_digestOwners 85 = .ok (.ladd, 1) := by decide +kernel
theorem dX5_digestOwners_86 : decode cX5_digestOwners 86 = .ok (.lstore_n 3, 1) := by decide +kernel
theorem dX5_digestOwners_87 : decode cX5_digestOwners 87 = .ok (.iinc 5 1, 3) := by decide +kernel
theorem dX5_digestOwners_90 : decode cX5_digestOwners 90 = .ok (.goto (-85), 3) := by decide +kernel
theorem dX5_digestOwners_93 : decode cX5_digestOwners 93 = .ok (.lload_n 3, 1) := by decide +kernel
theorem dX5_digestOwners_94 : decode cX5_digestOwners 94 = .ok (.lreturn, 1) := by decide +kernel
theorem dX5_imagineLater_0 : decode cX5_imagineLater 0 = .ok (.aload_n 0, 1) := by decide +kernel
theorem dX5_imagineLater_1 : decode cX5_imagineLater 1 = .ok (.getfield 16, 3) := by decide +kernel
theorem dX5_imagineLater_4 : decode cX5_imagineLater 4 = .ok (.aload_n 0, 1) := by decide +kernel
theorem dX5_imagineLater_5 : decode cX5_imagineLater 5 = .ok (.getfield 10, 3) := by decide +kernel
theorem dX5_imagineLater_8 : decode cX5_imagineLater 8 = .ok (.invokevirtual 179, 3) := by decide +kernel
theorem dX5_imagineLater_11 : decode cX5_imagineLater 11 = .ok (.aload_n 0, 1) := by decide +kernel
theorem dX5_imagineLater_12 : decode cX5_imagineLater 12 = .ok (.getfield 16, 3) := by decide +kernel
theorem dX5_imagineLater_15 : decode cX5_imagineLater 15 = .ok (.iload_n 1, 1) := by decide +kernel
theorem dX5_imagineLater_16 : decode cX5_imagineLater 16 = .ok (.iload_n 2, 1) := by decide +kernel
theorem dX5_imagineLater_17 : decode cX5_imagineLater 17 = .ok (.invokevirtual 142, 3) := by decide +kernel
theorem dX5_imagineLater_20 : decode cX5_imagineLater 20 = .ok (.pop, 1) := by decide +kernel
theorem dX5_imagineLater_21 : decode cX5_imagineLater 21 = .ok (.return_, 1) := by decide +kernel
theorem dX5_cameUntilLater_0 : decode cX5_cameUntilLater 0 = .ok (.aload_n 0, 1) := by decide +kernel
theorem dX5_cameUntilLater_1 : decode cX5_cameUntilLater 1 = .ok (.getfield 16, 3) := by decide +kernel
theorem dX5_cameUntilLater_4 : decode cX5_cameUntilLater 4 = .ok (.getfield 30, 3) := by decide +kernel
theorem dX5_cameUntilLater_7 : decode cX5_cameUntilLater 7 = .ok (.iload_n 1, 1) := by decide +kernel
theorem dX5_cameUntilLater_8 : decode cX5_cameUntilLater 8 = .ok (.invokevirtual 55, 3) := by decide +kernel
theorem dX5_cameUntilLater_11 : decode cX5_cameUntilLater 11 = .ok (.getfield 221, 3) := by decide +kernel
theorem dX5_cameUntilLater_14 : decode cX5_cameUntilLater 14 = .ok (.aload_n 0, 1) := by decide +kernel
theorem dX5_cameUntilLater_15 : decode cX5_cameUntilLater 15 = .ok (.getfield 10, 3) := by decide +kernel
theorem dX5_cameUntilLater_18 : decode cX5_cameUntilLater 18 = .ok (.getfield 30, 3) := by decide +kernel
theorem dX5_cameUntilLater_21 : decode cX5_cameUntilLater 21 = .ok (.iload_n 1, 1) := by decide +kernel
theorem dX5_cameUntilLater_22 : decode cX5_cameUntilLater 22 = .ok (.invokevirtual 55, 3) := by decide +kernel
theorem dX5_cameUntilLater_25 : decode cX5_cameUntilLater 25 = .ok (.getfield 221, 3) := by decide +kernel
theorem dX5_cameUntilLater_28 : decode cX5_cameUntilLater 28 = .ok (.isub, 1) := by decide +kernel
theorem dX5_cameUntilLater_29 : decode cX5_cameUntilLater 29 = .ok (.ireturn, 1) := by decide +kernel
theorem dX5_imagineHarvest_0 : decode cX5_imagineHarvest 0 = .ok (.aload_n 0, 1) := by decide +kernel
theorem dX5_imagineHarvest_1 : decode cX5_imagineHarvest 1 = .ok (.getfield 19, 3) := by decide +kernel
theorem dX5_imagineHarvest_4 : decode cX5_imagineHarvest 4 = .ok (.aload_n 0, 1) := by decide +kernel
theorem dX5_imagineHarvest_5 : decode cX5_imagineHarvest 5 = .ok (.getfield 10, 3) := by decide +kernel
theorem dX5_imagineHarvest_8 : decode cX5_imagineHarvest 8 = .ok (.invokevirtual 179, 3) := by decide +kernel
theorem dX5_imagineHarvest_11 : decode cX5_imagineHarvest 11 = .ok (.aload_n 0, 1) := by decide +kernel
theorem dX5_imagineHarvest_12 : decode cX5_imagineHarvest 12 = .ok (.getfield 19, 3) := by decide +kernel
theorem dX5_imagineHarvest_15 : decode cX5_imagineHarvest 15 = .ok (.iload_n 1, 1) := by decide +kernel
theorem dX5_imagineHarvest_16 : decode cX5_imagineHarvest 16 = .ok (.aload_n 0, 1) := by decide +kernel
theorem dX5_imagineHarvest_17 : decode cX5_imagineHarvest 17 = .ok (.getfield 10, 3) := by decide +kernel
theorem dX5_imagineHarvest_20 : decode cX5_imagineHarvest 20 = .ok (.invokevirtual 224, 3) := by decide +kernel
theorem dX5_imagineHarvest_23 : decode cX5_imagineHarvest 23 = .ok (.invokevirtual 142, 3) := by decide +kernel
theorem dX5_imagineHarvest_26 : decode cX5_imagineHarvest 26 = .ok (.pop, 1) := by decide +kernel
theorem dX5_imagineHarvest_27 : decode cX5_imagineHarvest 27 = .ok (.return_, 1) := by decide +kernel
theorem dX5_reapedAtHarvest_0 : decode cX5_reapedAtHarvest 0 = .ok (.aload_n 0, 1) := by decide +kernel
theorem dX5_reapedAtHarvest_1 : decode cX5_reapedAtHarvest 1 = .ok (.getfield 19, 3) := by decide +kernel
theorem dX5_reapedAtHarvest_4 : decode cX5_reapedAtHarvest 4 = .ok (.getfield 30, 3) := by decide +kernel
theorem dX5_reapedAtHarvest_7 : decode cX5_reapedAtHarvest 7 = .ok (.iload_n 1, 1) := by decide +kernel
theorem dX5_reapedAtHarvest_8 : decode cX5_reapedAtHarvest 8 = .ok (.invokevirtual 55, 3) := by decide +kernel
theorem dX5_reapedAtHarvest_11 : decode cX5_reapedAtHarvest 11 = .ok (.getfield 227, 3) := by decide +kernel
theorem dX5_reapedAtHarvest_14 : decode cX5_reapedAtHarvest 14 = .ok (.ireturn, 1) := by decide +kernel
theorem dX5_isWithin_0 : decode cX5_isWithin 0 = .ok (.iload_n 1, 1) := by decide +kernel
theorem dX5_isWithin_1 : decode cX5_isWithin 1 = .ok (.iload_n 0, 1) := by decide +kernel
theorem dX5_isWithin_2 : decode cX5_isWithin 2 = .ok (.if_icmp .gt 12, 3) := by decide +kernel
theorem dX5_isWithin_5 : decode cX5_isWithin 5 = .ok (.iload_n 0, 1) := by decide +kernel
theorem dX5_isWithin_6 : decode cX5_isWithin 6 = .ok (.iload_n 2, 1) := by decide +kernel
theorem dX5_isWithin_7 : decode cX5_isWithin 7 = .ok (.if_icmp .gt 7, 3) := by decide +kernel
theorem dX5_isWithin_10 : decode cX5_isWithin 10 = .ok (.iconst 1, 1) := by decide +kernel
theorem dX5_isWithin_11 : decode cX5_isWithin 11 = .ok (.goto 4, 3) := by decide +kernel
theorem dX5_isWithin_14 : decode cX5_isWithin 14 = .ok (.iconst 0, 1) := by decide +kernel
theorem dX5_isWithin_15 : decode cX5_isWithin 15 = .ok (.ireturn, 1) := by decide +kernel
theorem dX5_mustBeRight_0 : decode cX5_mustBeRight 0 = .ok (.iload_n 0, 1) := by decide +kernel
theorem dX5_mustBeRight_1 : decode cX5_mustBeRight 1 = .ok (.ifCond .ne 11, 3) := by decide +kernel
theorem dX5_mustBeRight_4 : decode cX5_mustBeRight 4 = .ok (.new 230, 3) := by decide +kernel
theorem dX5_mustBeRight_7 : decode cX5_mustBeRight 7 = .ok (.dup, 1) := by decide +kernel
theorem dX5_mustBeRight_8 : decode cX5_mustBeRight 8 = .ok (.invokespecial 232, 3) := by decide +kernel
theorem dX5_mustBeRight_11 : decode cX5_mustBeRight 11 = .ok (.athrow, 1) := by decide +kernel
theorem dX5_mustBeRight_12 : decode cX5_mustBeRight 12 = .ok (.return_, 1) := by decide +kernel
theorem dX5_mustBePossible_0 : decode cX5_mustBePossible 0 = .ok (.iload_n 0, 1) := by decide +kernel
theorem dX5_mustBePossible_1 : decode cX5_mustBePossible 1 = .ok (.ifCond .ne 11, 3) := by decide +kernel
theorem dX5_mustBePossible_4 : decode cX5_mustBePossible 4 = .ok (.new 233, 3) := by decide +kernel
theorem dX5_mustBePossible_7 : decode cX5_mustBePossible 7 = .ok (.dup, 1) := by decide +kernel
theorem dX5_mustBePossible_8 : decode cX5_mustBePossible 8 = .ok (.invokespecial 235, 3) := by decide +kernel
theorem dX5_mustBePossible_11 : decode cX5_mustBePossible 11 = .ok (.athrow, 1) := by decide +kernel
theorem dX5_mustBePossible_12 : decode cX5_mustBePossible 12 = .ok (.return_, 1) := by decide +kernel
theorem dX5_mustExist_0 : decode cX5_mustExist 0 = .ok (.iload_n 0, 1) := by decide +kernel
theorem dX5_mustExist_1 : decode cX5_mustExist 1 = .ok (.ifCond .ne 11, 3) := by decide +kernel
theorem dX5_mustExist_4 : decode cX5_mustExist 4 = .ok (.new 236, 3) := by decide +kernel
theorem dX5_mustExist_7 : decode cX5_mustExist 7 = .ok (.dup, 1) := by decide +kernel
theorem dX5_mustExist_8 : decode cX5_mustExist 8 = .ok (.invokespecial 238, 3) := by decide +kernel
theorem dX5_mustExist_11 : decode cX5_mustExist 11 = .ok (.athrow, 1) := by decide +kernel
theorem dX5_mustExist_12 : decode cX5_mustExist 12 = .ok (.return_, 1) := by decide +kernel
theorem dX5_mustLive_0 : decode cX5_mustLive 0 = .ok (.aload_n 0, 1) := by decide +kernel
theorem dX5_mustLive_1 : decode cX5_mustLive 1 = .ok (.getfield 10, 3) := by decide +kernel
theorem dX5_mustLive_4 : decode cX5_mustLive 4 = .ok (.getfield 30, 3) := by decide +kernel
theorem dX5_mustLive_7 : decode cX5_mustLive 7 = .ok (.iload_n 1, 1) := by decide +kernel
theorem dX5_mustLive_8 : decode cX5_mustLive 8 = .ok (.invokevirtual 215, 3) := by decide +kernel
theorem dX5_mustLive_11 : decode cX5_mustLive 11 = .ok (.invokestatic 150, 3) := by decide +kernel
theorem dX5_mustLive_14 : decode cX5_mustLive 14 = .ok (.return_, 1) := by decide +kernel
end
section
theorem dX6_init_0 : decode cX6_init 0 = .ok (.aload_n 0, 1) := by decide +kernel
theorem dX6_init_1 : decode cX6_init 1 = .ok (.invokespecial 3, 3) := by decide +kernel
theorem dX6_init_4 : decode cX6_init 4 = .ok (.aload_n 0, 1) := by decide +kernel
theorem dX6_init_5 : decode cX6_init 5 = .ok (.bipush 10, 2) := by decide +kernel
theorem dX6_init_7 : decode cX6_init 7 = .ok (.bipush 12, 2) := by decide +kernel
theorem dX6_init_9 : decode cX6_init 9 = .ok (.multianewarray 9 2, 4) := by decide +kernel
theorem dX6_init_13 : decode cX6_init 13 = .ok (.putfield 11, 3) := by decide +kernel
theorem dX6_init_16 : decode cX6_init 16 = .ok (.aload_n 0, 1) := by decide +kernel
theorem dX6_init_17 : decode cX6_init 17 = .ok (.bipush 10, 2) := by decide +kernel
theorem dX6_init_19 : decode cX6_init 19 = .ok (.newarray .int, 2) := by decide +kernel
theorem dX6_init_21 : decode cX6_init 21 = .ok (.putfield 16, 3) := by decide +kernel
theorem dX6_init_24 : decode cX6_init 24 = .ok (.aload_n 0, 1) := by decide +kernel
theorem dX6_init_25 : decode cX6_init 25 = .ok (.bipush 8, 2) := by decide +kernel
theorem dX6_init_27 : decode cX6_init 27 = .ok (.iconst 4, 1) := by decide +kernel
theorem dX6_init_28 : decode cX6_init 28 = .ok (.multianewarray 9 2, 4) := by decide +kernel
theorem dX6_init_32 : decode cX6_init 32 = .ok (.putfield 20, 3) := by decide +kernel
theorem dX6_init_35 : decode cX6_init 35 = .ok (.aload_n 0, 1) := by decide +kernel
theorem dX6_init_36 : decode cX6_init 36 = .ok (.bipush 8, 2) := by decide +kernel
theorem dX6_init_38 : decode cX6_init 38 = .ok (.iconst 3, 1) := by decide +kernel
theorem dX6_init_39 : decode cX6_init 39 = .ok (.multianewarray 9 2, 4) := by decide +kernel
theorem dX6_init_43 : decode cX6_init 43 = .ok (.putfield 23, 3) := by decide +kernel
theorem dX6_init_46 : decode cX6_init 46 = .ok (.aload_n 0, 1) := by decide +kernel
theorem dX6_init_47 : decode cX6_init 47 = .ok (.bipush 10, 2) := by decide +kernel
theorem dX6_init_49 : decode cX6_init 49 = .ok (.newarray .int, 2) := by decide +kernel
theorem dX6_init_51 : decode cX6_init 51 = .ok (.putfield 26, 3) := by decide +kernel
theorem dX6_init_54 : decode cX6_init 54 = .ok (.aload_n 0, 1) := by decide +kernel
theorem dX6_init_55 : decode cX6_init 55 = .ok (.sipush 200, 3) := by decide +kernel
theorem dX6_init_58 : decode cX6_init 58 = .ok (.putfield 29, 3) := by decide +kernel
theorem dX6_init_61 : decode cX6_init 61 = .ok (.aload_n 0, 1) := by decide +kernel
theorem dX6_init_62 : decode cX6_init 62 = .ok (.bipush 40, 2) := by decide +kernel
theorem dX6_init_64 : decode cX6_init 64 = .ok (.putfield 33, 3) := by decide +kernel
theorem dX6_init_67 : decode cX6_init 67 = .ok (.return_, 1) := by decide +kernel
theorem dX6_copy_0 : decode cX6_copy 0 = .ok (.new 12, 3) := by decide +kernel
theorem dX6_copy_3 : decode cX6_copy 3 = .ok (.dup, 1) := by decide +kernel
theorem dX6_copy_4 : decode cX6_copy 4 = .ok (.invokespecial 36, 3) := by decide +kernel
theorem dX6_copy_7 : decode cX6_copy 7 = .ok (.astore_n 1, 1) := by decide +kernel
theorem dX6_copy_8 : decode cX6_copy 8 = .ok (.iconst 0, 1) := by decide +kernel
theorem dX6_copy_9 : decode cX6_copy 9 = .ok (.istore_n 2, 1) := by decide +kernel
theorem dX6_copy_10 : decode cX6_copy 10 = .ok (.iload_n 2, 1) := by decide +kernel
theorem dX6_copy_11 : decode cX6_copy 11 = .ok (.aload_n 0, 1) := by decide +kernel
theorem dX6_copy_12 : decode cX6_copy 12 = .ok (.getfield 37, 3) := by decide +kernel
theorem dX6_copy_15 : decode cX6_copy 15 = .ok (.if_icmp .ge 28, 3) := by decide +kernel
theorem dX6_copy_18 : decode cX6_copy 18 = .ok (.aload_n 0, 1) := by decide +kernel
theorem dX6_copy_19 : decode cX6_copy 19 = .ok (.getfield 11, 3) := by decide +kernel
theorem dX6_copy_22 : decode cX6_copy 22 = .ok (.iload_n 2, 1) := by decide +kernel
theorem dX6_copy_23 : decode cX6_copy 23 = .ok (.aaload, 1) := by decide +kernel
theorem dX6_copy_24 : decode cX6_copy 24 = .ok (.iconst 0, 1) := by decide +kernel
theorem dX6_copy_25 : decode cX6_copy 25 = .ok (.aload_n 1, 1) := by decide +kernel
theorem dX6_copy_26 : decode cX6_copy 26 = .ok (.getfield 11, 3) := by decide +kernel
theorem dX6_copy_29 : decode cX6_copy 29 = .ok (.iload_n 2, 1) := by decide +kernel
theorem dX6_copy_30 : decode cX6_copy 30 = .ok (.aaload, 1) := by decide +kernel
theorem dX6_copy_31 : decode cX6_copy 31 = .ok (.iconst 0, 1) := by decide +kernel
theorem dX6_copy_32 : decode cX6_copy 32 = .ok (.bipush 12, 2) := by decide +kernel
theorem dX6_copy_34 : decode cX6_copy 34 = .ok (.invokestatic 40, 3) := by decide +kernel
theorem dX6_copy_37 : decode cX6_copy 37 = .ok (.iinc 2 1, 3) := by decide +kernel
theorem dX6_copy_40 : decode cX6_copy 40 = .ok (.goto (-30), 3) := by decide +kernel
theorem dX6_copy_43 : decode cX6_copy 43 = .ok (.aload_n 0, 1) := by decide +kernel
theorem dX6_copy_44 : decode cX6_copy 44 = .ok (.getfield 16, 3) := by decide +kernel
theorem dX6_copy_47 : decode cX6_copy 47 = .ok (.iconst 0, 1) := by decide +kernel
theorem dX6_copy_48 : decode cX6_copy 48 = .ok (.aload_n 1, 1) := by decide +kernel
theorem dX6_copy_49 : decode cX6_copy 49 = .ok (.getfield 16, 3) := by decide +kernel
theorem dX6_copy_52 : decode cX6_copy 52 = .ok (.iconst 0, 1) := by decide +kernel
theorem dX6_copy_53 : decode cX6_copy 53 = .ok (.bipush 10, 2) := by decide +kernel
theorem dX6_copy_55 : decode cX6_copy 55 = .ok (.invokestatic 40, 3) := by decide +kernel
theorem dX6_copy_58 : decode cX6_copy 58 = .ok (.iconst 0, 1) := by decide +kernel
theorem dX6_copy_59 : decode cX6_copy 59 = .ok (.istore_n 2, 1) := by decide +kernel
theorem dX6_copy_60 : decode cX6_copy 60 = .ok (.iload_n 2, 1) := by decide +kernel
theorem dX6_copy_61 : decode cX6_copy 61 = .ok (.aload_n 0, 1) := by decide +kernel
theorem dX6_copy_62 : decode cX6_copy 62 = .ok (.getfield 46, 3) := by decide +kernel
theorem dX6_copy_65 : decode cX6_copy 65 = .ok (.if_icmp .ge 27, 3) := by decide +kernel
theorem dX6_copy_68 : decode cX6_copy 68 = .ok (.aload_n 0, 1) := by decide +kernel
theorem dX6_copy_69 : decode cX6_copy 69 = .ok (.getfield 20, 3) := by decide +kernel
theorem dX6_copy_72 : decode cX6_copy 72 = .ok (.iload_n 2, 1) := by decide +kernel
theorem dX6_copy_73 : decode cX6_copy 73 = .ok (.aaload, 1) := by decide +kernel
theorem dX6_copy_74 : decode cX6_copy 74 = .ok (.iconst 0, 1) := by decide +kernel
theorem dX6_copy_75 : decode cX6_copy 75 = .ok (.aload_n 1, 1) := by decide +kernel
theorem dX6_copy_76 : decode cX6_copy 76 = .ok (.getfield 20, 3) := by decide +kernel
theorem dX6_copy_79 : decode cX6_copy 79 = .ok (.iload_n 2, 1) := by decide +kernel
theorem dX6_copy_80 : decode cX6_copy 80 = .ok (.aaload, 1) := by decide +kernel
theorem dX6_copy_81 : decode cX6_copy 81 = .ok (.iconst 0, 1) := by decide +kernel
theorem dX6_copy_82 : decode cX6_copy 82 = .ok (.iconst 4, 1) := by decide +kernel
theorem dX6_copy_83 : decode cX6_copy 83 = .ok (.invokestatic 40, 3) := by decide +kernel
theorem dX6_copy_86 : decode cX6_copy 86 = .ok (.iinc 2 1, 3) := by decide +kernel
theorem dX6_copy_89 : decode cX6_copy 89 = .ok (.goto (-29), 3) := by decide +kernel
theorem dX6_copy_92 : decode cX6_copy 92 = .ok (.iconst 0, 1) := by decide +kernel
theorem dX6_copy_93 : decode cX6_copy 93 = .ok (.istore_n 2, 1) := by decide +kernel
theorem dX6_copy_94 : decode cX6_copy 94 = .ok (.iload_n 2, 1) := by decide +kernel
theorem dX6_copy_95 : decode cX6_copy 95 = .ok (.aload_n 0, 1) := by decide +kernel
theorem dX6_copy_96 : decode cX6_copy 96 = .ok (.getfield 49, 3) := by decide +kernel
theorem dX6_copy_99 : decode cX6_copy 99 = .ok (.if_icmp .ge 27, 3) := by decide +kernel
theorem dX6_copy_102 : decode cX6_copy 102 = .ok (.aload_n 0, 1) := by decide +kernel
theorem dX6_copy_103 : decode cX6_copy 103 = .ok (.getfield 23, 3) := by decide +kernel
theorem dX6_copy_106 : decode cX6_copy 106 = .ok (.iload_n 2, 1) := by decide +kernel
theorem dX6_copy_107 : decode cX6_copy 107 = .ok (.aaload, 1) := by decide +kernel
theorem dX6_copy_108 : decode cX6_copy 108 = .ok (.iconst 0, 1) := by decide +kernel
theorem dX6_copy_109 : decode cX6_copy 109 = .ok (.aload_n 1, 1) := by decide +kernel
theorem dX6_copy_110 : decode cX6_copy 110 = .ok (.getfield 23, 3) := by decide +kernel
theorem dX6_copy_113 : decode cX6_copy 113 = .ok (.iload_n 2, 1) := by decide +kernel
theorem dX6_copy_114 : decode cX6_copy 114 = .ok (.aaload, 1) := by decide +kernel
theorem dX6_copy_115 : decode cX6_copy 115 = .ok (.iconst 0, 1) := by decide +kernel
theorem dX6_copy_116 : decode cX6_copy 116 = .ok (.iconst 3, 1) := by decide +kernel
theorem dX6_copy_117 : decode cX6_copy 117 = .ok (.invokestatic 40, 3) := by decide +kernel
theorem dX6_copy_120 : decode cX6_copy 120 = .ok (.iinc 2 1, 3) := by decide +kernel
theorem dX6_copy_123 : decode cX6_copy 123 = .ok (.goto (-29), 3) := by decide +kernel
theorem dX6_copy_126 : decode cX6_copy 126 = .ok (.aload_n 1, 1) := by decide +kernel
theorem dX6_copy_127 : decode cX6_copy 127 = .ok (.aload_n 0, 1) := by decide +kernel
theorem dX6_copy_128 : decode cX6_copy 128 = .ok (.getfield 37, 3) := by decide +kernel
theorem dX6_copy_131 : decode cX6_copy 131 = .ok (.putfield 37, 3) := by decide +kernel
theorem dX6_copy_134 : decode cX6_copy 134 = .ok (.aload_n 1, 1) := by decide +kernel
theorem dX6_copy_135 : decode cX6_copy 135 = .ok (.aload_n 0, 1) := by decide +kernel
theorem dX6_copy_136 : decode cX6_copy 136 = .ok (.getfield 52, 3) := by decide +kernel
theorem dX6_copy_139 : decode cX6_copy 139 = .ok (.putfield 52, 3) := by decide +kernel
theorem dX6_copy_142 : decode cX6_copy 142 = .ok (.aload_n 1, 1) := by decide +kernel
theorem dX6_copy_143 : decode cX6_copy 143 = .ok (.aload_n 0, 1) := by decide +kernel
theorem dX6_copy_144 : decode cX6_copy 144 = .ok (.getfield 46, 3) := by decide +kernel
theorem dX6_copy_147 : decode cX6_copy 147 = .ok (.putfield 46, 3) := by decide +kernel
theorem dX6_copy_150 : decode cX6_copy 150 = .ok (.aload_n 1, 1) := by decide +kernel
theorem dX6_copy_151 : decode cX6_copy 151 = .ok (.aload_n 0, 1) := by decide +kernel
theorem dX6_copy_152 : decode cX6_copy 152 = .ok (.getfield 49, 3) := by decide +kernel
theorem dX6_copy_155 : decode cX6_copy 155 = .ok (.putfield 49, 3) := by decide +kernel
theorem dX6_copy_158 : decode cX6_copy 158 = .ok (.aload_n 1, 1) := by decide +kernel
theorem dX6_copy_159 : decode cX6_copy 159 = .ok (.aload_n 0, 1) := by decide +kernel
theorem dX6_copy_160 : decode cX6_copy 160 = .ok (.getfield 55, 3) := by decide +kernel
theorem dX6_copy_163 : decode cX6_copy 163 = .ok (.putfield 55, 3) := by decide +kernel
theorem dX6_copy_166 : decode cX6_copy 166 = .ok (.aload_n 1, 1) := by decide +kernel
theorem dX6_copy_167 : decode cX6_copy 167 = .ok (.aload_n 0, 1) := by decide +kernel
theorem dX6_copy_168 : decode cX6_copy 168 = .ok (.getfield 29, 3) := by decide +kernel
theorem dX6_copy_171 : decode cX6_copy 171 = .ok (.putfield 29, 3) := by decide +kernel
theorem dX6_copy_174 : decode cX6_copy 174 = .ok (.aload_n 1, 1) := by decide +kernel
theorem dX6_copy_175 : decode cX6_copy 175 = .ok (.aload_n 0, 1) := by decide +kernel
theorem dX6_copy_176 : decode cX6_copy 176 = .ok (.getfield 33, 3) := by decide +kernel
theorem dX6_copy_179 : decode cX6_copy 179 = .ok (.putfield 33, 3) := by decide +kernel
theorem dX6_copy_182 : decode cX6_copy 182 = .ok (.aload_n 1, 1) := by decide +kernel
theorem dX6_copy_183 : decode cX6_copy 183 = .ok (.aload_n 0, 1) := by decide +kernel
theorem dX6_copy_184 : decode cX6_copy 184 = .ok (.getfield 58, 3) := by decide +kernel
theorem dX6_copy_187 : decode cX6_copy 187 = .ok (.putfield 58, 3) := by decide +kernel
theorem dX6_copy_190 : decode cX6_copy 190 = .ok (.aload_n 1, 1) := by decide +kernel
theorem dX6_copy_191 : decode cX6_copy 191 = .ok (.aload_n 0, 1) := by decide +kernel
theorem dX6_copy_192 : decode cX6_copy 192 = .ok (.getfield 61, 3) := by decide +kernel
theorem dX6_copy_195 : decode cX6_copy 195 = .ok (.putfield 61, 3) := by decide +kernel
theorem dX6_copy_198 : decode cX6_copy 198 = .ok (.aload_n 1, 1) := by decide +kernel
theorem dX6_copy_199 : decode cX6_copy 199 = .ok (.areturn, 1) := by decide +kernel
theorem dX6_flow_0 : decode cX6_flow 0 = .ok (.iconst 0, 1) := by decide +kernel
theorem dX6_flow_1 : decode cX6_flow 1 = .ok (.aload_n 0, 1) := by decide +kernel
theorem dX6_flow_2 : decode cX6_flow 2 = .ok (.getfield 29, 3) := by decide +kernel
theorem dX6_flow_5 : decode cX6_flow 5 = .ok (.aload_n 0, 1) := by decide +kernel
theorem dX6_flow_6 : decode cX6_flow 6 = .ok (.getfield 33, 3) := by decide +kernel
theorem dX6_flow_9 : decode cX6_flow 9 = .ok (.iadd, 1) := by decide +kernel
theorem dX6_flow_10 : decode cX6_flow 10 = .ok (.bipush 120, 2) := by decide +kernel
theorem dX6_flow_12 : decode cX6_flow 12 = .ok (.isub, 1) := by decide +kernel
theorem dX6_flow_13 : decode cX6_flow 13 = .ok (.iconst 2, 1) := by decide +kernel
theorem dX6_flow_14 : decode cX6_flow 14 = .ok (.aload_n 0, 1) := by decide +kernel
theorem dX6_flow_15 : decode cX6_flow 15 = .ok (.getfield 58, 3) := by decide +kernel
theorem dX6_flow_18 : decode cX6_flow 18 = .ok (.imul, 1) := by decide +kernel
theorem dX6_flow_19 : decode cX6_flow 19 = .ok (.isub, 1) := by decide +kernel
theorem dX6_flow_20 : decode cX6_flow 20 = .ok (.bipush 10, 2) := by decide +kernel
theorem dX6_flow_22 : decode cX6_flow 22 = .ok (.idiv, 1) := by decide +kernel
theorem dX6_flow_23 : decode cX6_flow 23 = .ok (.invokestatic 64, 3) := by decide +kernel
theorem dX6_flow_26 : decode cX6_flow 26 = .ok (.ireturn, 1) := by decide +kernel
theorem dX6_lent_0 : decode cX6_lent 0 = .ok (.iconst 0, 1) := by decide +kernel
theorem dX6_lent_1 : decode cX6_lent 1 = .ok (.istore_n 2, 1) := by decide +kernel
theorem dX6_lent_2 : decode cX6_lent 2 = .ok (.iconst 0, 1) := by decide +kernel
theorem dX6_lent_3 : decode cX6_lent 3 = .ok (.istore_n 3, 1) := by decide +kernel
theorem dX6_lent_4 : decode cX6_lent 4 = .ok (.iload_n 3, 1) := by decide +kernel
theorem dX6_lent_5 : decode cX6_lent 5 = .ok (.aload_n 0, 1) := by decide +kernel
theorem dX6_lent_6 : decode cX6_lent 6 = .ok (.getfield 46, 3) := by decide +kernel
theorem dX6_lent_9 : decode cX6_lent 9 = .ok (.if_icmp .ge 36, 3) := by decide +kernel
theorem dX6_lent_12 : decode cX6_lent 12 = .ok (.iload_n 2, 1) := by decide +kernel
theorem dX6_lent_13 : decode cX6_lent 13 = .ok (.aload_n 0, 1) := by decide +kernel
theorem dX6_lent_14 : decode cX6_lent 14 = .ok (.getfield 20, 3) := by decide +kernel
theorem dX6_lent_17 : decode cX6_lent 17 = .ok (.iload_n 3, 1) := by decide +kernel
theorem dX6_lent_18 : decode cX6_lent 18 = .ok (.aaload, 1) := by decide +kernel
theorem dX6_lent_19 : decode cX6_lent 19 = .ok (.iconst 0, 1) := by decide +kernel
theorem dX6_lent_20 : decode cX6_lent 20 = .ok (.iaload, 1) := by decide +kernel
theorem dX6_lent_21 : decode cX6_lent 21 = .ok (.iload_n 1, 1) := by decide +kernel
theorem dX6_lent_22 : decode cX6_lent 22 = .ok (.if_icmp .ne 14, 3) := by decide +kernel
theorem dX6_lent_25 : decode cX6_lent 25 = .ok (.aload_n 0, 1) := by decide +kernel
theorem dX6_lent_26 : decode cX6_lent 26 = .ok (.getfield 20, 3) := by decide +kernel
theorem dX6_lent_29 : decode cX6_lent 29 = .ok (.iload_n 3, 1) := by decide +kernel
theorem dX6_lent_30 : decode cX6_lent 30 = .ok (.aaload, 1) := by decide +kernel
theorem dX6_lent_31 : decode cX6_lent 31 = .ok (.iconst 2, 1) := by decide +kernel
theorem dX6_lent_32 : decode cX6_lent 32 = .ok (.iaload, 1) := by decide +kernel
theorem dX6_lent_33 : decode cX6_lent 33 = .ok (.goto 4, 3) := by decide +kernel
theorem dX6_lent_36 : decode cX6_lent 36 = .ok (.iconst 0, 1) := by decide +kernel
theorem dX6_lent_37 : decode cX6_lent 37 = .ok (.iadd, 1) := by decide +kernel
theorem dX6_lent_38 : decode cX6_lent 38 = .ok (.istore_n 2, 1) := by decide +kernel
theorem dX6_lent_39 : decode cX6_lent 39 = .ok (.iinc 3 1, 3) := by decide +kernel
theorem dX6_lent_42 : decode cX6_lent 42 = .ok (.goto (-38), 3) := by decide +kernel
theorem dX6_lent_45 : decode cX6_lent 45 = .ok (.iload_n 2, 1) := by decide +kernel
theorem dX6_lent_46 : decode cX6_lent 46 = .ok (.ireturn, 1) := by decide +kernel
theorem dX6_used_0 : decode cX6_used 0 = .ok (.aload_n 0, 1) := by decide +kernel
theorem dX6_used_1 : decode cX6_used 1 = .ok (.getfield 11, 3) := by decide +kernel
theorem dX6_used_4 : decode cX6_used 4 = .ok (.iload_n 1, 1) := by decide +kernel
theorem dX6_used_5 : decode cX6_used 5 = .ok (.aaload, 1) := by decide +kernel
theorem dX6_used_6 : decode cX6_used 6 = .ok (.iconst 0, 1) := by decide +kernel
theorem dX6_used_7 : decode cX6_used 7 = .ok (.iaload, 1) := by decide +kernel
theorem dX6_used_8 : decode cX6_used 8 = .ok (.aload_n 0, 1) := by decide +kernel
theorem dX6_used_9 : decode cX6_used 9 = .ok (.iload_n 1, 1) := by decide +kernel
theorem dX6_used_10 : decode cX6_used 10 = .ok (.invokevirtual 70, 3) := by decide +kernel
theorem dX6_used_13 : decode cX6_used 13 = .ok (.isub, 1) := by decide +kernel
theorem dX6_used_14 : decode cX6_used 14 = .ok (.istore_n 2, 1) := by decide +kernel
theorem dX6_used_15 : decode cX6_used 15 = .ok (.iconst 0, 1) := by decide +kernel
theorem dX6_used_16 : decode cX6_used 16 = .ok (.istore_n 3, 1) := by decide +kernel
theorem dX6_used_17 : decode cX6_used 17 = .ok (.iload_n 3, 1) := by decide +kernel
theorem dX6_used_18 : decode cX6_used 18 = .ok (.aload_n 0, 1) := by decide +kernel
theorem dX6_used_19 : decode cX6_used 19 = .ok (.getfield 46, 3) := by decide +kernel
theorem dX6_used_22 : decode cX6_used 22 = .ok (.if_icmp .ge 36, 3) := by decide +kernel
theorem dX6_used_25 : decode cX6_used 25 = .ok (.iload_n 2, 1) := by decide +kernel
theorem dX6_used_26 : decode cX6_used 26 = .ok (.aload_n 0, 1) := by decide +kernel
theorem dX6_used_27 : decode cX6_used 27 = .ok (.getfield 20, 3) := by decide +kernel
theorem dX6_used_30 : decode cX6_used 30 = .ok (.iload_n 3, 1) := by decide +kernel
theorem dX6_used_31 : decode cX6_used 31 = .ok (.aaload, 1) := by decide +kernel
theorem dX6_used_32 : decode cX6_used 32 = .ok (.iconst 1, 1) := by decide +kernel
theorem dX6_used_33 : decode cX6_used 33 = .ok (.iaload, 1) := by decide +kernel
theorem dX6_used_34 : decode cX6_used 34 = .ok (.iload_n 1, 1) := by decide +kernel
theorem dX6_used_35 : decode cX6_used 35 = .ok (.if_icmp .ne 14, 3) := by decide +kernel
theorem dX6_used_38 : decode cX6_used 38 = .ok (.aload_n 0, 1) := by decide +kernel
theorem dX6_used_39 : decode cX6_used 39 = .ok (.getfield 20, 3) := by decide +kernel
theorem dX6_used_42 : decode cX6_used 42 = .ok (.iload_n 3, 1) := by decide +kernel
theorem dX6_used_43 : decode cX6_used 43 = .ok (.aaload, 1) := by decide +kernel
theorem dX6_used_44 : decode cX6_used 44 = .ok (.iconst 2, 1) := by decide +kernel
theorem dX6_used_45 : decode cX6_used 45 = .ok (.iaload, 1) := by decide +kernel
theorem dX6_used_46 : decode cX6_used 46 = .ok (.goto 4, 3) := by decide +kernel
theorem dX6_used_49 : decode cX6_used 49 = .ok (.iconst 0, 1) := by decide +kernel
theorem dX6_used_50 : decode cX6_used 50 = .ok (.iadd, 1) := by decide +kernel
theorem dX6_used_51 : decode cX6_used 51 = .ok (.istore_n 2, 1) := by decide +kernel
theorem dX6_used_52 : decode cX6_used 52 = .ok (.iinc 3 1, 3) := by decide +kernel
theorem dX6_used_55 : decode cX6_used 55 = .ok (.goto (-38), 3) := by decide +kernel
theorem dX6_used_58 : decode cX6_used 58 = .ok (.iload_n 2, 1) := by decide +kernel
theorem dX6_used_59 : decode cX6_used 59 = .ok (.ireturn, 1) := by decide +kernel
theorem dX6_all_0 : decode cX6_all 0 = .ok (.iconst 0, 1) := by decide +kernel
theorem dX6_all_1 : decode cX6_all 1 = .ok (.istore_n 1, 1) := by decide +kernel
theorem dX6_all_2 : decode cX6_all 2 = .ok (.iconst 0, 1) := by decide +kernel
theorem dX6_all_3 : decode cX6_all 3 = .ok (.istore_n 2, 1) := by decide +kernel
theorem dX6_all_4 : decode cX6_all 4 = .ok (.iload_n 2, 1) := by decide +kernel
theorem dX6_all_5 : decode cX6_all 5 = .ok (.aload_n 0, 1) := by decide +kernel
theorem dX6_all_6 : decode cX6_all 6 = .ok (.getfield 52, 3) := by decide +kernel
theorem dX6_all_9 : decode cX6_all 9 = .ok (.if_icmp .ge 25, 3) := by decide +kernel
theorem dX6_all_12 : decode cX6_all 12 = .ok (.iload_n 1, 1) := by decide +kernel
theorem dX6_all_13 : decode cX6_all 13 = .ok (.aload_n 0, 1) := by decide +kernel
theorem dX6_all_14 : decode cX6_all 14 = .ok (.getfield 11, 3) := by decide +kernel
theorem dX6_all_17 : decode cX6_all 17 = .ok (.aload_n 0, 1) := by decide +kernel
theorem dX6_all_18 : decode cX6_all 18 = .ok (.getfield 16, 3) := by decide +kernel
theorem dX6_all_21 : decode cX6_all 21 = .ok (.iload_n 2, 1) := by decide +kernel
theorem dX6_all_22 : decode cX6_all 22 = .ok (.iaload, 1) := by decide +kernel
theorem dX6_all_23 : decode cX6_all 23 = .ok (.aaload, 1) := by decide +kernel
theorem dX6_all_24 : decode cX6_all 24 = .ok (.iconst 0, 1) := by decide +kernel
theorem dX6_all_25 : decode cX6_all 25 = .ok (.iaload, 1) := by decide +kernel
theorem dX6_all_26 : decode cX6_all 26 = .ok (.iadd, 1) := by decide +kernel
theorem dX6_all_27 : decode cX6_all 27 = .ok (.istore_n 1, 1) := by decide +kernel
theorem dX6_all_28 : decode cX6_all 28 = .ok (.iinc 2 1, 3) := by decide +kernel
theorem dX6_all_31 : decode cX6_all 31 = .ok (.goto (-27), 3) := by decide +kernel
theorem dX6_all_34 : decode cX6_all 34 = .ok (.iload_n 1, 1) := by decide +kernel
theorem dX6_all_35 : decode cX6_all 35 = .ok (.ireturn, 1) := by decide +kernel
theorem dX6_place_0 : decode cX6_place 0 = .ok (.iconst 0, 1) := by decide +kernel
theorem dX6_place_1 : decode cX6_place 1 = .ok (.istore_n 2, 1) := by decide +kernel
theorem dX6_place_2 : decode cX6_place 2 = .ok (.iload_n 2, 1) := by decide +kernel
theorem dX6_place_3 : decode cX6_place 3 = .ok (.aload_n 0, 1) := by decide +kernel
theorem dX6_place_4 : decode cX6_place 4 = .ok (.getfield 52, 3) := by decide +kernel
theorem dX6_place_7 : decode cX6_place 7 = .ok (.if_icmp .ge 21, 3) := by decide +kernel
theorem dX6_place_10 : decode cX6_place 10 = .ok (.aload_n 0, 1) := by decide +kernel
theorem dX6_place_11 : decode cX6_place 11 = .ok (.getfield 16, 3) := by decide +kernel
theorem dX6_place_14 : decode cX6_place 14 = .ok (.iload_n 2, 1) := by decide +kernel
theorem dX6_place_15 : decode cX6_place 15 = .ok (.iaload, 1) := by decide +kernel
theorem dX6_place_16 : decode cX6_place 16 = .ok (.iload_n 1, 1) := by decide +kernel
theorem dX6_place_17 : decode cX6_place 17 = .ok (.if_icmp .ne 5, 3) := by decide +kernel
theorem dX6_place_20 : decode cX6_place 20 = .ok (.iload_n 2, 1) := by decide +kernel
theorem dX6_place_21 : decode cX6_place 21 = .ok (.ireturn, 1) := by decide +kernel
theorem dX6_place_22 : decode cX6_place 22 = .ok (.iinc 2 1, 3) := by decide +kernel
theorem dX6_place_25 : decode cX6_place 25 = .ok (.goto (-23), 3) := by decide +kernel
theorem dX6_place_28 : decode cX6_place 28 = .ok (.iconst (-1), 1) := by decide +kernel
theorem dX6_place_29 : decode cX6_place 29 = .ok (.ireturn, 1) := by decide +kernel
theorem dX6_first_0 : decode cX6_first 0 = .ok (.iconst 0, 1) := by decide +kernel
theorem dX6_first_1 : decode cX6_first 1 = .ok (.istore_n 2, 1) := by decide +kernel
theorem dX6_first_2 : decode cX6_first 2 = .ok (.iconst 0, 1) := by decide +kernel
theorem dX6_first_3 : decode cX6_first 3 = .ok (.istore_n 3, 1) := by decide +kernel
theorem dX6_first_4 : decode cX6_first 4 = .ok (.aload_n 0, 1) := by decide +kernel
theorem dX6_first_5 : decode cX6_first 5 = .ok (.getfield 16, 3) := by decide +kernel
theorem dX6_first_8 : decode cX6_first 8 = .ok (.iload_n 3, 1) := by decide +kernel
theorem dX6_first_9 : decode cX6_first 9 = .ok (.iaload, 1) := by decide +kernel
theorem dX6_first_10 : decode cX6_first 10 = .ok (.iload_n 1, 1) := by decide +kernel
theorem dX6_first_11 : decode cX6_first 11 = .ok (.if_icmp .eq 25, 3) := by decide +kernel
theorem dX6_first_14 : decode cX6_first 14 = .ok (.iload_n 2, 1) := by decide +kernel
theorem dX6_first_15 : decode cX6_first 15 = .ok (.aload_n 0, 1) := by decide +kernel
theorem dX6_first_16 : decode cX6_first 16 = .ok (.getfield 11, 3) := by decide +kernel
theorem dX6_first_19 : decode cX6_first 19 = .ok (.aload_n 0, 1) := by decide +kernel
theorem dX6_first_20 : decode cX6_first 20 = .ok (.getfield 16, 3) := by decide +kernel
theorem dX6_first_23 : decode cX6_first 23 = .ok (.iload_n 3, 1) := by decide +kernel
theorem dX6_first_24 : decode cX6_first 24 = .ok (.iaload, 1) := by decide +kernel
theorem dX6_first_25 : decode cX6_first 25 = .ok (.aaload, 1) := by decide +kernel
theorem dX6_first_26 : decode cX6_first 26 = .ok (.iconst 0, 1) := by decide +kernel
theorem dX6_first_27 : decode cX6_first 27 = .ok (.iaload, 1) := by decide +kernel
theorem dX6_first_28 : decode cX6_first 28 = .ok (.iadd, 1) := by decide +kernel
theorem dX6_first_29 : decode cX6_first 29 = .ok (.istore_n 2, 1) := by decide +kernel
theorem dX6_first_30 : decode cX6_first 30 = .ok (.iinc 3 1, 3) := by decide +kernel
theorem dX6_first_33 : decode cX6_first 33 = .ok (.goto (-29), 3) := by decide +kernel
theorem dX6_first_36 : decode cX6_first 36 = .ok (.iload_n 2, 1) := by decide +kernel
theorem dX6_first_37 : decode cX6_first 37 = .ok (.ireturn, 1) := by decide +kernel
theorem dX6_ownerOf_0 : decode cX6_ownerOf 0 = .ok (.iconst 0, 1) := by decide +kernel
theorem dX6_ownerOf_1 : decode cX6_ownerOf 1 = .ok (.istore_n 2, 1) := by decide +kernel
theorem dX6_ownerOf_2 : decode cX6_ownerOf 2 = .ok (.iconst 0, 1) := by decide +kernel
theorem dX6_ownerOf_3 : decode cX6_ownerOf 3 = .ok (.istore_n 3, 1) := by decide +kernel
theorem dX6_ownerOf_4 : decode cX6_ownerOf 4 = .ok (.iload_n 3, 1) := by decide +kernel
theorem dX6_ownerOf_5 : decode cX6_ownerOf 5 = .ok (.aload_n 0, 1) := by decide +kernel
theorem dX6_ownerOf_6 : decode cX6_ownerOf 6 = .ok (.getfield 52, 3) := by decide +kernel
theorem dX6_ownerOf_9 : decode cX6_ownerOf 9 = .ok (.if_icmp .ge 37, 3) := by decide +kernel
theorem dX6_ownerOf_12 : decode cX6_ownerOf 12 = .ok (.iload_n 2, 1) := by decide +kernel
theorem dX6_ownerOf_13 : decode cX6_ownerOf 13 = .ok (.aload_n 0, 1) := by decide +kernel
theorem dX6_ownerOf_14 : decode cX6_ownerOf 14 = .ok (.getfield 11, 3) := by decide +kernel
theorem dX6_ownerOf_17 : decode cX6_ownerOf 17 = .ok (.aload_n 0, 1) := by decide +kernel
theorem dX6_ownerOf_18 : decode cX6_ownerOf 18 = .ok (.getfield 16, 3) := by decide +kernel
theorem dX6_ownerOf_21 : decode cX6_ownerOf 21 = .ok (.iload_n 3, 1) := by decide +kernel
theorem dX6_ownerOf_22 : decode cX6_ownerOf 22 = .ok (.iaload, 1) := by decide +kernel
theorem dX6_ownerOf_23 : decode cX6_ownerOf 23 = .ok (.aaload, 1) := by decide +kernel
theorem dX6_ownerOf_24 : decode cX6_ownerOf 24 = .ok (.iconst 0, 1) := by decide +kernel
theorem dX6_ownerOf_25 : decode cX6_ownerOf 25 = .ok (.iaload, 1) := by decide +kernel
theorem dX6_ownerOf_26 : decode cX6_ownerOf 26 = .ok (.iadd, 1) := by decide +kernel
theorem dX6_ownerOf_27 : decode cX6_ownerOf 27 = .ok (.istore_n 2, 1) := by decide +kernel
theorem dX6_ownerOf_28 : decode cX6_ownerOf 28 = .ok (.iload_n 1, 1) := by decide +kernel
theorem dX6_ownerOf_29 : decode cX6_ownerOf 29 = .ok (.iload_n 2, 1) := by decide +kernel
theorem dX6_ownerOf_30 : decode cX6_ownerOf 30 = .ok (.if_icmp .ge 10, 3) := by decide +kernel
theorem dX6_ownerOf_33 : decode cX6_ownerOf 33 = .ok (.aload_n 0, 1) := by decide +kernel
theorem dX6_ownerOf_34 : decode cX6_ownerOf 34 = .ok (.getfield 16, 3) := by decide +kernel
theorem dX6_ownerOf_37 : decode cX6_ownerOf 37 = .ok (.iload_n 3, 1) := by decide +kernel
theorem dX6_ownerOf_38 : decode cX6_ownerOf 38 = .ok (.iaload, 1) := by decide +kernel
theorem dX6_ownerOf_39 : decode cX6_ownerOf 39 = .ok (.ireturn, 1) := by decide +kernel
theorem dX6_ownerOf_40 : decode cX6_ownerOf 40 = .ok (.iinc 3 1, 3) := by decide +kernel
theorem dX6_ownerOf_43 : decode cX6_ownerOf 43 = .ok (.goto (-39), 3) := by decide +kernel
theorem dX6_ownerOf_46 : decode cX6_ownerOf 46 = .ok (.iconst (-1), 1) := by decide +kernel
theorem dX6_ownerOf_47 : decode cX6_ownerOf 47 = .ok (.ireturn, 1) := by decide +kernel
theorem dX6_userOf_0 : decode cX6_userOf 0 = .ok (.aload_n 0, 1) := by decide +kernel
theorem dX6_userOf_1 : decode cX6_userOf 1 = .ok (.iload_n 1, 1) := by decide +kernel
theorem dX6_userOf_2 : decode cX6_userOf 2 = .ok (.invokevirtual 74, 3) := by decide +kernel
theorem dX6_userOf_5 : decode cX6_userOf 5 = .ok (.istore_n 2, 1) := by decide +kernel
theorem dX6_userOf_6 : decode cX6_userOf 6 = .ok (.iload_n 2, 1) := by decide +kernel
theorem dX6_userOf_7 : decode cX6_userOf 7 = .ok (.iconst (-1), 1) := by decide +kernel
theorem dX6_userOf_8 : decode cX6_userOf 8 = .ok (.if_icmp .ne 5, 3) := by decide +kernel
theorem dX6_userOf_11 : decode cX6_userOf 11 = .ok (.iconst (-1), 1) := by decide +kernel
theorem dX6_userOf_12 : decode cX6_userOf 12 = .ok (.ireturn, 1) := by decide +kernel
theorem dX6_userOf_13 : decode cX6_userOf 13 = .ok (.aload_n 0, 1) := by decide +kernel
theorem dX6_userOf_14 : decode cX6_userOf 14 = .ok (.iload_n 2, 1) := by decide +kernel
theorem dX6_userOf_15 : decode cX6_userOf 15 = .ok (.invokevirtual 77, 3) := by decide +kernel
theorem dX6_userOf_18 : decode cX6_userOf 18 = .ok (.aload_n 0, 1) := by decide +kernel
theorem dX6_userOf_19 : decode cX6_userOf 19 = .ok (.getfield 11, 3) := by decide +kernel
theorem dX6_userOf_22 : decode cX6_userOf 22 = .ok (.iload_n 2, 1) := by decide +kernel
theorem dX6_userOf_23 : decode cX6_userOf 23 = .ok (.aaload, 1) := by decide +kernel
theorem dX6_userOf_24 : decode cX6_userOf 24 = .ok (.iconst 0, 1) := by decide +kernel
theorem dX6_userOf_25 : decode cX6_userOf 25 = .ok (.iaload, 1) := by decide +kernel
theorem dX6_userOf_26 : decode cX6_userOf 26 = .ok (.iadd, 1) := by decide +kernel
theorem dX6_userOf_27 : decode cX6_userOf 27 = .ok (.istore_n 3, 1) := by decide +kernel
theorem dX6_userOf_28 : decode cX6_userOf 28 = .ok (.iconst 0, 1) := by decide +kernel
theorem dX6_userOf_29 : decode cX6_userOf 29 = .ok (.istore 4, 2) := by decide +kernel
theorem dX6_userOf_31 : decode cX6_userOf 31 = .ok (.iload 4, 2) := by decide +kernel
theorem dX6_userOf_33 : decode cX6_userOf 33 = .ok (.aload_n 0, 1) := by decide +kernel
theorem dX6_userOf_34 : decode cX6_userOf 34 = .ok (.getfield 46, 3) := by decide +kernel
theorem dX6_userOf_37 : decode cX6_userOf 37 = .ok (.if_icmp .ge 52, 3) := by decide +kernel
theorem dX6_userOf_40 : decode cX6_userOf 40 = .ok (.aload_n 0, 1) := by decide +kernel
theorem dX6_userOf_41 : decode cX6_userOf 41 = .ok (.getfield 20, 3) := by decide +kernel
theorem dX6_userOf_44 : decode cX6_userOf 44 = .ok (.iload 4, 2) := by decide +kernel
theorem dX6_userOf_46 : decode cX6_userOf 46 = .ok (.aaload, 1) := by decide +kernel
theorem dX6_userOf_47 : decode cX6_userOf 47 = .ok (.iconst 0, 1) := by decide +kernel
theorem dX6_userOf_48 : decode cX6_userOf 48 = .ok (.iaload, 1) := by decide +kernel
theorem dX6_userOf_49 : decode cX6_userOf 49 = .ok (.iload_n 2, 1) := by decide +kernel
theorem dX6_userOf_50 : decode cX6_userOf 50 = .ok (.if_icmp .eq 6, 3) := by decide +kernel
theorem dX6_userOf_53 : decode cX6_userOf 53 = .ok (.goto 30, 3) := by decide +kernel
theorem dX6_userOf_56 : decode cX6_userOf 56 = .ok (.iload_n 3, 1) := by decide +kernel
theorem dX6_userOf_57 : decode cX6_userOf 57 = .ok (.aload_n 0, 1) := by decide +kernel
theorem dX6_userOf_58 : decode cX6_userOf 58 = .ok (.getfield 20, 3) := by decide +kernel
theorem dX6_userOf_61 : decode cX6_userOf 61 = .ok (.iload 4, 2) := by decide +kernel
theorem dX6_userOf_63 : decode cX6_userOf 63 = .ok (.aaload, 1) := by decide +kernel
theorem dX6_userOf_64 : decode cX6_userOf 64 = .ok (.iconst 2, 1) := by decide +kernel
theorem dX6_userOf_65 : decode cX6_userOf 65 = .ok (.iaload, 1) := by decide +kernel
theorem dX6_userOf_66 : decode cX6_userOf 66 = .ok (.isub, 1) := by decide +kernel
theorem dX6_userOf_67 : decode cX6_userOf 67 = .ok (.istore_n 3, 1) := by decide +kernel
theorem dX6_userOf_68 : decode cX6_userOf 68 = .ok (.iload_n 1, 1) := by decide +kernel
theorem dX6_userOf_69 : decode cX6_userOf 69 = .ok (.iload_n 3, 1) := by decide +kernel
theorem dX6_userOf_70 : decode cX6_userOf 70 = .ok (.if_icmp .lt 13, 3) := by decide +kernel
theorem dX6_userOf_73 : decode cX6_userOf 73 = .ok (.aload_n 0, 1) := by decide +kernel
theorem dX6_userOf_74 : decode cX6_userOf 74 = .ok (.getfield 20, 3) := by decide +kernel
theorem dX6_userOf_77 : decode cX6_userOf 77 = .ok (.iload 4, 2) := by decide +kernel
theorem dX6_userOf_79 : decode cX6_userOf 79 = .ok (.aaload, 1) := by decide +kernel
theorem dX6_userOf_80 : decode cX6_userOf 80 = .ok (.iconst 1, 1) := by decide +kernel
theorem dX6_userOf_81 : decode cX6_userOf 81 = .ok (.iaload, 1) := by decide +kernel
theorem dX6_userOf_82 : decode cX6_userOf 82 = .ok (.ireturn, 1) := by decide +kernel
theorem dX6_userOf_83 : decode cX6_userOf 83 = .ok (.iinc 4 1, 3) := by decide +kernel
theorem dX6_userOf_86 : decode cX6_userOf 86 = .ok (.goto (-55), 3) := by decide +kernel
theorem dX6_userOf_89 : decode cX6_userOf 89 = .ok (.iload_n 2, 1) := by decide +kernel
theorem dX6_userOf_90 : decode cX6_userOf 90 = .ok (.ireturn, 1) := by decide +kernel
theorem dX6_today_0 : decode cX6_today 0 = .ok (.aload_n 0, 1) := by decide +kernel
theorem dX6_today_1 : decode cX6_today 1 = .ok (.getfield 55, 3) := by decide +kernel
theorem dX6_today_4 : decode cX6_today 4 = .ok (.bipush 7, 2) := by decide +kernel
theorem dX6_today_6 : decode cX6_today 6 = .ok (.irem, 1) := by decide +kernel
theorem dX6_today_7 : decode cX6_today 7 = .ok (.sipush 720, 3) := by decide +kernel
theorem dX6_today_10 : decode cX6_today 10 = .ok (.imul, 1) := by decide +kernel
theorem dX6_today_11 : decode cX6_today 11 = .ok (.istore_n 3, 1) := by decide +kernel
theorem dX6_today_12 : decode cX6_today 12 = .ok (.iconst 0, 1) := by decide +kernel
theorem dX6_today_13 : decode cX6_today 13 = .ok (.iload_n 2, 1) := by decide +kernel
theorem dX6_today_14 : decode cX6_today 14 = .ok (.iload_n 3, 1) := by decide +kernel
theorem dX6_today_15 : decode cX6_today 15 = .ok (.sipush 720, 3) := by decide +kernel
theorem dX6_today_18 : decode cX6_today 18 = .ok (.iadd, 1) := by decide +kernel
theorem dX6_today_19 : decode cX6_today 19 = .ok (.invokestatic 80, 3) := by decide +kernel
theorem dX6_today_22 : decode cX6_today 22 = .ok (.iload_n 1, 1) := by decide +kernel
theorem dX6_today_23 : decode cX6_today 23 = .ok (.iload_n 3, 1) := by decide +kernel
theorem dX6_today_24 : decode cX6_today 24 = .ok (.invokestatic 64, 3) := by decide +kernel
theorem dX6_today_27 : decode cX6_today 27 = .ok (.isub, 1) := by decide +kernel
theorem dX6_today_28 : decode cX6_today 28 = .ok (.invokestatic 64, 3) := by decide +kernel
theorem dX6_today_31 : decode cX6_today 31 = .ok (.ireturn, 1) := by decide +kernel
theorem dX6_go_0 : decode cX6_go 0 = .ok (.aload_n 0, 1) := by decide +kernel
theorem dX6_go_1 : decode cX6_go 1 = .ok (.invokevirtual 83, 3) := by decide +kernel
theorem dX6_go_4 : decode cX6_go 4 = .ok (.istore_n 2, 1) := by decide +kernel
theorem dX6_go_5 : decode cX6_go 5 = .ok (.aload_n 0, 1) := by decide +kernel
theorem dX6_go_6 : decode cX6_go 6 = .ok (.dup, 1) := by decide +kernel
theorem dX6_go_7 : decode cX6_go 7 = .ok (.getfield 55, 3) := by decide +kernel
theorem dX6_go_10 : decode cX6_go 10 = .ok (.iconst 1, 1) := by decide +kernel
theorem dX6_go_11 : decode cX6_go 11 = .ok (.iadd, 1) := by decide +kernel
theorem dX6_go_12 : decode cX6_go 12 = .ok (.putfield 55, 3) := by decide +kernel
theorem dX6_go_15 : decode cX6_go 15 = .ok (.aload_n 0, 1) := by decide +kernel
theorem dX6_go_16 : decode cX6_go 16 = .ok (.iconst 0, 1) := by decide +kernel
theorem dX6_go_17 : decode cX6_go 17 = .ok (.sipush 400, 3) := by decide +kernel
theorem dX6_go_20 : decode cX6_go 20 = .ok (.aload_n 0, 1) := by decide +kernel
theorem dX6_go_21 : decode cX6_go 21 = .ok (.getfield 29, 3) := by decide +kernel
theorem dX6_go_24 : decode cX6_go 24 = .ok (.iload_n 1, 1) := by decide +kernel
theorem dX6_go_25 : decode cX6_go 25 = .ok (.iconst 3, 1) := by decide +kernel
theorem dX6_go_26 : decode cX6_go 26 = .ok (.idiv, 1) := by decide +kernel
theorem dX6_go_27 : decode cX6_go 27 = .ok (.iadd, 1) := by decide +kernel
theorem dX6_go_28 : decode cX6_go 28 = .ok (.iload_n 2, 1) := by decide +kernel
theorem dX6_go_29 : decode cX6_go 29 = .ok (.isub, 1) := by decide +kernel
theorem dX6_go_30 : decode cX6_go 30 = .ok (.aload_n 0, 1) := by decide +kernel
theorem dX6_go_31 : decode cX6_go 31 = .ok (.getfield 61, 3) := by decide +kernel
theorem dX6_go_34 : decode cX6_go 34 = .ok (.isub, 1) := by decide +kernel
theorem dX6_go_35 : decode cX6_go 35 = .ok (.invokestatic 80, 3) := by decide +kernel
theorem dX6_go_38 : decode cX6_go 38 = .ok (.invokestatic 64, 3) := by decide +kernel
theorem dX6_go_41 : decode cX6_go 41 = .ok (.putfield 29, 3) := by decide +kernel
theorem dX6_go_44 : decode cX6_go 44 = .ok (.aload_n 0, 1) := by decide +kernel
theorem dX6_go_45 : decode cX6_go 45 = .ok (.getfield 55, 3) := by decide +kernel
theorem dX6_go_48 : decode cX6_go 48 = .ok (.bipush 70, 2) := by decide +kernel
theorem dX6_go_50 : decode cX6_go 50 = .ok (.irem, 1) := by decide +kernel
theorem dX6_go_51 : decode cX6_go 51 = .ok (.bipush 10, 2) := by decide +kernel
theorem dX6_go_53 : decode cX6_go 53 = .ok (.irem, 1) := by decide +kernel
theorem dX6_go_54 : decode cX6_go 54 = .ok (.ifCond .ne 18, 3) := by decide +kernel
theorem dX6_go_57 : decode cX6_go 57 = .ok (.aload_n 0, 1) := by decide +kernel
theorem dX6_go_58 : decode cX6_go 58 = .ok (.bipush 30, 2) := by decide +kernel
theorem dX6_go_60 : decode cX6_go 60 = .ok (.aload_n 0, 1) := by decide +kernel
theorem dX6_go_61 : decode cX6_go 61 = .ok (.getfield 58, 3) := by decide +kernel
theorem dX6_go_64 : decode cX6_go 64 = .ok (.iconst 1, 1) := by decide +kernel
theorem dX6_go_65 : decode cX6_go 65 = .ok (.iadd, 1) := by decide +kernel
theorem dX6_go_66 : decode cX6_go 66 = .ok (.invokestatic 80, 3) := by decide +kernel
theorem dX6_go_69 : decode cX6_go 69 = .ok (.putfield 58, 3) := by decide +kernel
theorem dX6_go_72 : decode cX6_go 72 = .ok (.aload_n 0, 1) := by decide +kernel
theorem dX6_go_73 : decode cX6_go 73 = .ok (.aload_n 0, 1) := by decide +kernel
theorem dX6_go_74 : decode cX6_go 74 = .ok (.invokevirtual 83, 3) := by decide +kernel
theorem dX6_go_77 : decode cX6_go 77 = .ok (.invokevirtual 87, 3) := by decide +kernel
theorem dX6_go_80 : decode cX6_go 80 = .ok (.istore_n 3, 1) := by decide +kernel
theorem dX6_go_81 : decode cX6_go 81 = .ok (.iconst 0, 1) := by decide +kernel
theorem dX6_go_82 : decode cX6_go 82 = .ok (.istore 4, 2) := by decide +kernel
theorem dX6_go_84 : decode cX6_go 84 = .ok (.iload 4, 2) := by decide +kernel
theorem dX6_go_86 : decode cX6_go 86 = .ok (.aload_n 0, 1) := by decide +kernel
theorem dX6_go_87 : decode cX6_go 87 = .ok (.getfield 52, 3) := by decide +kernel
theorem dX6_go_90 : decode cX6_go 90 = .ok (.if_icmp .ge 25, 3) := by decide +kernel
theorem dX6_go_93 : decode cX6_go 93 = .ok (.aload_n 0, 1) := by decide +kernel
theorem dX6_go_94 : decode cX6_go 94 = .ok (.aload_n 0, 1) := by decide +kernel
theorem dX6_go_95 : decode cX6_go 95 = .ok (.getfield 11, 3) := by decide +kernel
theorem dX6_go_98 : decode cX6_go 98 = .ok (.aload_n 0, 1) := by decide +kernel
theorem dX6_go_99 : decode cX6_go 99 = .ok (.getfield 16, 3) := by decide +kernel
theorem dX6_go_102 : decode cX6_go 102 = .ok (.iload 4, 2) := by decide +kernel
theorem dX6_go_104 : decode cX6_go 104 = .ok (.iaload, 1) := by decide +kernel
theorem dX6_go_105 : decode cX6_go 105 = .ok (.aaload, 1) := by decide +kernel
theorem dX6_go_106 : decode cX6_go 106 = .ok (.invokevirtual 90, 3) := by decide +kernel
theorem dX6_go_109 : decode cX6_go 109 = .ok (.iinc 4 1, 3) := by decide +kernel
theorem dX6_go_112 : decode cX6_go 112 = .ok (.goto (-28), 3) := by decide +kernel
theorem dX6_go_115 : decode cX6_go 115 = .ok (.aload_n 0, 1) := by decide +kernel
theorem dX6_go_116 : decode cX6_go 116 = .ok (.getfield 55, 3) := by decide +kernel
theorem dX6_go_119 : decode cX6_go 119 = .ok (.bipush 70, 2) := by decide +kernel
theorem dX6_go_121 : decode cX6_go 121 = .ok (.irem, 1) := by decide +kernel
theorem dX6_go_122 : decode cX6_go 122 = .ok (.bipush 60, 2) := by decide +kernel
theorem dX6_go_124 : decode cX6_go 124 = .ok (.if_icmp .ne 7, 3) := by decide +kernel
theorem dX6_go_127 : decode cX6_go 127 = .ok (.aload_n 0, 1) := by decide +kernel
theorem dX6_go_128 : decode cX6_go 128 = .ok (.invokevirtual 94, 3) := by decide +kernel
theorem dX6_go_131 : decode cX6_go 131 = .ok (.aload_n 0, 1) := by decide +kernel
theorem dX6_go_132 : decode cX6_go 132 = .ok (.getfield 55, 3) := by decide +kernel
theorem dX6_go_135 : decode cX6_go 135 = .ok (.bipush 7, 2) := by decide +kernel
theorem dX6_go_137 : decode cX6_go 137 = .ok (.irem, 1) := by decide +kernel
theorem dX6_go_138 : decode cX6_go 138 = .ok (.ifCond .ne 7, 3) := by decide +kernel
theorem dX6_go_141 : decode cX6_go 141 = .ok (.aload_n 0, 1) := by decide +kernel
theorem dX6_go_142 : decode cX6_go 142 = .ok (.invokevirtual 97, 3) := by decide +kernel
theorem dX6_go_145 : decode cX6_go 145 = .ok (.iload_n 3, 1) := by decide +kernel
theorem dX6_go_146 : decode cX6_go 146 = .ok (.ireturn, 1) := by decide +kernel
theorem dX6_water_0 : decode cX6_water 0 = .ok (.iconst 0, 1) := by decide +kernel
theorem dX6_water_1 : decode cX6_water 1 = .ok (.istore_n 2, 1) := by decide +kernel
theorem dX6_water_2 : decode cX6_water 2 = .ok (.iconst 0, 1) := by decide +kernel
theorem dX6_water_3 : decode cX6_water 3 = .ok (.istore_n 3, 1) := by decide +kernel
theorem dX6_water_4 : decode cX6_water 4 = .ok (.iload_n 3, 1) := by decide +kernel
theorem dX6_water_5 : decode cX6_water 5 = .ok (.aload_n 0, 1) := by decide +kernel
theorem dX6_water_6 : decode cX6_water 6 = .ok (.getfield 52, 3) := by decide +kernel
theorem dX6_water_9 : decode cX6_water 9 = .ok (.if_icmp .ge 21, 3) := by decide +kernel
theorem dX6_water_12 : decode cX6_water 12 = .ok (.aload_n 0, 1) := by decide +kernel
theorem dX6_water_13 : decode cX6_water 13 = .ok (.getfield 26, 3) := by decide +kernel
theorem dX6_water_16 : decode cX6_water 16 = .ok (.aload_n 0, 1) := by decide +kernel
theorem dX6_water_17 : decode cX6_water 17 = .ok (.getfield 16, 3) := by decide +kernel
theorem dX6_water_20 : decode cX6_water 20 = .ok (.iload_n 3, 1) := by decide +kernel
theorem dX6_water_21 : decode cX6_water 21 = .ok (.iaload, 1) := by decide +kernel
theorem dX6_water_22 : decode cX6_water 22 = .ok (.iconst 0, 1) := by decide +kernel
theorem dX6_water_23 : decode cX6_water 23 = .ok (.iastore, 1) := by decide +kernel
theorem dX6_water_24 : decode cX6_water 24 = .ok (.iinc 3 1, 3) := by decide +kernel
theorem dX6_water_27 : decode cX6_water 27 = .ok (.goto (-23), 3) := by decide +kernel
theorem dX6_water_30 : decode cX6_water 30 = .ok (.iconst 0, 1) := by decide +kernel
theorem dX6_water_31 : decode cX6_water 31 = .ok (.istore_n 3, 1) := by decide +kernel
theorem dX6_water_32 : decode cX6_water 32 = .ok (.iload_n 3, 1) := by decide +kernel
theorem dX6_water_33 : decode cX6_water 33 = .ok (.aload_n 0, 1) := by decide +kernel
theorem dX6_water_34 : decode cX6_water 34 = .ok (.getfield 52, 3) := by decide +kernel
theorem dX6_water_37 : decode cX6_water 37 = .ok (.if_icmp .ge 141, 3) := by decide +kernel
theorem dX6_water_40 : decode cX6_water 40 = .ok (.aload_n 0, 1) := by decide +kernel
theorem dX6_water_41 : decode cX6_water 41 = .ok (.getfield 16, 3) := by decide +kernel
theorem dX6_water_44 : decode cX6_water 44 = .ok (.iload_n 3, 1) := by decide +kernel
theorem dX6_water_45 : decode cX6_water 45 = .ok (.iaload, 1) := by decide +kernel
theorem dX6_water_46 : decode cX6_water 46 = .ok (.istore 4, 2) := by decide +kernel
theorem dX6_water_48 : decode cX6_water 48 = .ok (.iload_n 2, 1) := by decide +kernel
theorem dX6_water_49 : decode cX6_water 49 = .ok (.istore 5, 2) := by decide +kernel
theorem dX6_water_51 : decode cX6_water 51 = .ok (.iload_n 2, 1) := by decide +kernel
theorem dX6_water_52 : decode cX6_water 52 = .ok (.aload_n 0, 1) := by decide +kernel
theorem dX6_water_53 : decode cX6_water 53 = .ok (.getfield 11, 3) := by decide +kernel
theorem dX6_water_56 : decode cX6_water 56 = .ok (.iload 4, 2) := by decide +kernel
theorem dX6_water_58 : decode cX6_water 58 = .ok (.aaload, 1) := by decide +kernel
theorem dX6_water_59 : decode cX6_water 59 = .ok (.iconst 0, 1) := by decide +kernel
theorem dX6_water_60 : decode cX6_water 60 = .ok (.iaload, 1) := by decide +kernel
theorem dX6_water_61 : decode cX6_water 61 = .ok (.iadd, 1) := by decide +kernel
theorem dX6_water_62 : decode cX6_water 62 = .ok (.istore_n 2, 1) := by decide +kernel
theorem dX6_water_63 : decode cX6_water 63 = .ok (.iload_n 2, 1) := by decide +kernel
theorem dX6_water_64 : decode cX6_water 64 = .ok (.istore 6, 2) := by decide +kernel
theorem dX6_water_66 : decode cX6_water 66 = .ok (.iconst 0, 1) := by decide +kernel
theorem dX6_water_67 : decode cX6_water 67 = .ok (.istore 7, 2) := by decide +kernel
theorem dX6_water_69 : decode cX6_water 69 = .ok (.iload 7, 2) := by decide +kernel
theorem dX6_water_71 : decode cX6_water 71 = .ok (.aload_n 0, 1) := by decide +kernel
theorem dX6_water_72 : decode cX6_water 72 = .ok (.getfield 46, 3) := by decide +kernel
theorem dX6_water_75 : decode cX6_water 75 = .ok (.if_icmp .ge 77, 3) := by decide +kernel
theorem dX6_water_78 : decode cX6_water 78 = .ok (.aload_n 0, 1) := by decide +kernel
theorem dX6_water_79 : decode cX6_water 79 = .ok (.getfield 20, 3) := by decide +kernel
theorem dX6_water_82 : decode cX6_water 82 = .ok (.iload 7, 2) := by decide +kernel
theorem dX6_water_84 : decode cX6_water 84 = .ok (.aaload, 1) := by decide +kernel
theorem dX6_water_85 : decode cX6_water 85 = .ok (.iconst 0, 1) := by decide +kernel
theorem dX6_water_86 : decode cX6_water 86 = .ok (.iaload, 1) := by decide +kernel
theorem dX6_water_87 : decode cX6_water 87 = .ok (.iload 4, 2) := by decide +kernel
theorem dX6_water_89 : decode cX6_water 89 = .ok (.if_icmp .eq 6, 3) := by decide +kernel
theorem dX6_water_92 : decode cX6_water 92 = .ok (.goto 54, 3) := by decide +kernel
theorem dX6_water_95 : decode cX6_water 95 = .ok (.aload_n 0, 1) := by decide +kernel
theorem dX6_water_96 : decode cX6_water 96 = .ok (.getfield 26, 3) := by decide +kernel
theorem dX6_water_99 : decode cX6_water 99 = .ok (.aload_n 0, 1) := by decide +kernel
theorem dX6_water_100 : decode cX6_water 100 = .ok (.getfield 20, 3) := by decide +kernel
theorem dX6_water_103 : decode cX6_water 103 = .ok (.iload 7, 2) := by decide +kernel
theorem dX6_water_105 : decode cX6_water 105 = .ok (.aaload, 1) := by decide +kernel
theorem dX6_water_106 : decode cX6_water 106 = .ok (.iconst 1, 1) := by decide +kernel
theorem dX6_water_107 : decode cX6_water 107 = .ok (.iaload, 1) := by decide +kernel
theorem dX6_water_108 : decode cX6_water 108 = .ok (.dup2, 1) := by decide +kernel
theorem dX6_water_109 : decode cX6_water 109 = .ok (.iaload, 1) := by decide +kernel
theorem dX6_water_110 : decode cX6_water 110 = .ok (.iload_n 1, 1) := by decide +kernel
theorem dX6_water_111 : decode cX6_water 111 = .ok (.aload_n 0, 1) := by decide +kernel
theorem dX6_water_112 : decode cX6_water 112 = .ok (.iload 6, 2) := by decide +kernel
theorem dX6_water_114 : decode cX6_water 114 = .ok (.aload_n 0, 1) := by decide +kernel
theorem dX6_water_115 : decode cX6_water 115 = .ok (.getfield 20, 3) := by decide +kernel
theorem dX6_water_118 : decode cX6_water 118 = .ok (.iload 7, 2) := by decide +kernel
theorem dX6_water_120 : decode cX6_water 120 = .ok (.aaload, 1) := by decide +kernel
theorem dX6_water_121 : decode cX6_water 121 = .ok (.iconst 2, 1) := by decide +kernel
theorem dX6_water_122 : decode cX6_water 122 = .ok (.iaload, 1) := by decide +kernel
theorem dX6_water_123 : decode cX6_water 123 = .ok (.isub, 1) := by decide +kernel
theorem dX6_water_124 : decode cX6_water 124 = .ok (.iload 6, 2) := by decide +kernel
theorem dX6_water_126 : decode cX6_water 126 = .ok (.invokevirtual 100, 3) := by decide +kernel
theorem dX6_water_129 : decode cX6_water 129 = .ok (.imul, 1) := by decide +kernel
theorem dX6_water_130 : decode cX6_water 130 = .ok (.iadd, 1) := by decide +kernel
theorem dX6_water_131 : decode cX6_water 131 = .ok (.iastore, 1) := by decide +kernel
theorem dX6_water_132 : decode cX6_water 132 = .ok (.iload 6, 2) := by decide +kernel
theorem dX6_water_134 : decode cX6_water 134 = .ok (.aload_n 0, 1) := by decide +kernel
theorem dX6_water_135 : decode cX6_water 135 = .ok (.getfield 20, 3) := by decide +kernel
theorem dX6_water_138 : decode cX6_water 138 = .ok (.iload 7, 2) := by decide +kernel
theorem dX6_water_140 : decode cX6_water 140 = .ok (.aaload, 1) := by decide +kernel
theorem dX6_water_141 : decode cX6_water 141 = .ok (.iconst 2, 1) := by decide +kernel
theorem dX6_water_142 : decode cX6_water 142 = .ok (.iaload, 1) := by decide +kernel
theorem dX6_water_143 : decode cX6_water 143 = .ok (.isub, 1) := by decide +kernel
theorem dX6_water_144 : decode cX6_water 144 = .ok (.istore 6, 2) := by decide +kernel
theorem dX6_water_146 : decode cX6_water 146 = .ok (.iinc 7 1, 3) := by decide +kernel
theorem dX6_water_149 : decode cX6_water 149 = .ok (.goto (-80), 3) := by decide +kernel
theorem dX6_water_152 : decode cX6_water 152 = .ok (.aload_n 0, 1) := by decide +kernel
theorem dX6_water_153 : decode cX6_water 153 = .ok (.getfield 26, 3) := by decide +kernel
theorem dX6_water_156 : decode cX6_water 156 = .ok (.iload 4, 2) := by decide +kernel
theorem dX6_water_158 : decode cX6_water 158 = .ok (.dup2, 1) := by decide +kernel
theorem dX6_water_159 : decode cX6_water 159 = .ok (.iaload, 1) := by decide +kernel
theorem dX6_water_160 : decode cX6_water 160 = .ok (.iload_n 1, 1) := by decide +kernel
theorem dX6_water_161 : decode cX6_water 161 = .ok (.aload_n 0, 1) := by decide +kernel
theorem dX6_water_162 : decode cX6_water 162 = .ok (.iload 5, 2) := by decide +kernel
theorem dX6_water_164 : decode cX6_water 164 = .ok (.iload 6, 2) := by decide +kernel
theorem dX6_water_166 : decode cX6_water 166 = .ok (.invokevirtual 100, 3) := by decide +kernel
theorem dX6_water_169 : decode cX6_water 169 = .ok (.imul, 1) := by decide +kernel
theorem dX6_water_170 : decode cX6_water 170 = .ok (.iadd, 1) := by decide +kernel
theorem dX6_water_171 : decode cX6_water 171 = .ok (.iastore, 1) := by decide +kernel
theorem dX6_water_172 : decode cX6_water 172 = .ok (.iinc 3 1, 3) := by decide +kernel
theorem dX6_water_175 : decode cX6_water 175 = .ok (.goto (-143), 3) := by decide +kernel
theorem dX6_water_178 : decode cX6_water 178 = .ok (.aload_n 0, 1) := by decide +kernel
theorem dX6_water_179 : decode cX6_water 179 = .ok (.dup, 1) := by decide +kernel
theorem dX6_water_180 : decode cX6_water 180 = .ok (.getfield 103, 3) := by decide +kernel
theorem dX6_water_183 : decode cX6_water 183 = .ok (.iload_n 1, 1) := by decide +kernel
theorem dX6_water_184 : decode cX6_water 184 = .ok (.aload_n 0, 1) := by decide +kernel
theorem dX6_water_185 : decode cX6_water 185 = .ok (.iload_n 2, 1) := by decide +kernel
theorem dX6_water_186 : decode cX6_water 186 = .ok (.sipush 5040, 3) := by decide +kernel
theorem dX6_water_189 : decode cX6_water 189 = .ok (.invokevirtual 100, 3) := by decide +kernel
theorem dX6_water_192 : decode cX6_water 192 = .ok (.imul, 1) := by decide +kernel
theorem dX6_water_193 : decode cX6_water 193 = .ok (.iadd, 1) := by decide +kernel
theorem dX6_water_194 : decode cX6_water 194 = .ok (.putfield 103, 3) := by decide +kernel
theorem dX6_water_197 : decode cX6_water 197 = .ok (.iconst 0, 1) := by decide +kernel
theorem dX6_water_198 : decode cX6_water 198 = .ok (.istore_n 3, 1) := by decide +kernel
theorem dX6_water_199 : decode cX6_water 199 = .ok (.iconst 0, 1) := by decide +kernel
theorem dX6_water_200 : decode cX6_water 200 = .ok (.istore 4, 2) := by decide +kernel
theorem dX6_water_202 : decode cX6_water 202 = .ok (.iload 4, 2) := by decide +kernel
theorem dX6_water_204 : decode cX6_water 204 = .ok (.aload_n 0, 1) := by decide +kernel
theorem dX6_water_205 : decode cX6_water 205 = .ok (.getfield 52, 3) := by decide +kernel
theorem dX6_water_208 : decode cX6_water 208 = .ok (.if_icmp .ge 99, 3) := by decide +kernel
theorem dX6_water_211 : decode cX6_water 211 = .ok (.aload_n 0, 1) := by decide +kernel
theorem dX6_water_212 : decode cX6_water 212 = .ok (.getfield 11, 3) := by decide +kernel
theorem dX6_water_215 : decode cX6_water 215 = .ok (.aload_n 0, 1) := by decide +kernel
theorem dX6_water_216 : decode cX6_water 216 = .ok (.getfield 16, 3) := by decide +kernel
theorem dX6_water_219 : decode cX6_water 219 = .ok (.iload 4, 2) := by decide +kernel
theorem dX6_water_221 : decode cX6_water 221 = .ok (.iaload, 1) := by decide +kernel
theorem dX6_water_222 : decode cX6_water 222 = .ok (.aaload, 1) := by decide +kernel
theorem dX6_water_223 : decode cX6_water 223 = .ok (.astore 5, 2) := by decide +kernel
theorem dX6_water_225 : decode cX6_water 225 = .ok (.aload 5, 2) := by decide +kernel
theorem dX6_water_227 : decode cX6_water 227 = .ok (.bipush 9, 2) := by decide +kernel
theorem dX6_water_229 : decode cX6_water 229 = .ok (.aload_n 0, 1) := by decide +kernel
theorem dX6_water_230 : decode cX6_water 230 = .ok (.getfield 26, 3) := by decide +kernel
theorem dX6_water_233 : decode cX6_water 233 = .ok (.aload_n 0, 1) := by decide +kernel
theorem dX6_water_234 : decode cX6_water 234 = .ok (.getfield 16, 3) := by decide +kernel
theorem dX6_water_237 : decode cX6_water 237 = .ok (.iload 4, 2) := by decide +kernel
theorem dX6_water_239 : decode cX6_water 239 = .ok (.iaload, 1) := by decide +kernel
theorem dX6_water_240 : decode cX6_water 240 = .ok (.iaload, 1) := by decide +kernel
theorem dX6_water_241 : decode cX6_water 241 = .ok (.bipush 100, 2) := by decide +kernel
theorem dX6_water_243 : decode cX6_water 243 = .ok (.iconst 2, 1) := by decide +kernel
theorem dX6_water_244 : decode cX6_water 244 = .ok (.iload 4, 2) := by decide +kernel
theorem dX6_water_246 : decode cX6_water 246 = .ok (.imul, 1) := by decide +kernel
theorem dX6_water_247 : decode cX6_water 247 = .ok (.isub, 1) := by decide +kernel
theorem dX6_water_248 : decode cX6_water 248 = .ok (.imul, 1) := by decide +kernel
theorem dX6_water_249 : decode cX6_water 249 = .ok (.bipush 100, 2) := by decide +kernel
theorem dX6_water_251 : decode cX6_water 251 = .ok (.idiv, 1) := by decide +kernel
theorem dX6_water_252 : decode cX6_water 252 = .ok (.iastore, 1) := by decide +kernel
theorem dX6_water_253 : decode cX6_water 253 = .ok (.aload 5, 2) := by decide +kernel
theorem dX6_water_255 : decode cX6_water 255 = .ok (.bipush 10, 2) := by decide +kernel
theorem dX6_water_257 : decode cX6_water 257 = .ok (.dup2, 1) := by decide +kernel
theorem dX6_water_258 : decode cX6_water 258 = .ok (.iaload, 1) := by decide +kernel
theorem dX6_water_259 : decode cX6_water 259 = .ok (.aload 5, 2) := by decide +kernel
theorem dX6_water_261 : decode cX6_water 261 = .ok (.bipush 9, 2) := by decide +kernel
theorem dX6_water_263 : decode cX6_water 263 = .ok (.iaload, 1) := by decide +kernel
theorem dX6_water_264 : decode cX6_water 264 = .ok (.iadd, 1) := by decide +kernel
theorem dX6_water_265 : decode cX6_water 265 = .ok (.iastore, 1) := by decide +kernel
theorem dX6_water_266 : decode cX6_water 266 = .ok (.aload_n 0, 1) := by decide +kernel
theorem dX6_water_267 : decode cX6_water 267 = .ok (.dup, 1) := by decide +kernel
theorem dX6_water_268 : decode cX6_water 268 = .ok (.getfield 106, 3) := by decide +kernel
theorem dX6_water_271 : decode cX6_water 271 = .ok (.aload_n 0, 1) := by decide +kernel
theorem dX6_water_272 : decode cX6_water 272 = .ok (.getfield 26, 3) := by decide +kernel
theorem dX6_water_275 : decode cX6_water 275 = .ok (.aload_n 0, 1) := by decide +kernel
theorem dX6_water_276 : decode cX6_water 276 = .ok (.getfield 16, 3) := by decide +kernel
theorem dX6_water_279 : decode cX6_water 279 = .ok (.iload 4, 2) := by decide +kernel
theorem dX6_water_281 : decode cX6_water 281 = .ok (.iaload, 1) := by decide +kernel
theorem dX6_water_282 : decode cX6_water 282 = .ok (.iaload, 1) := by decide +kernel
theorem dX6_water_283 : decode cX6_water 283 = .ok (.aload 5, 2) := by decide +kernel
theorem dX6_water_285 : decode cX6_water 285 = .ok (.bipush 9, 2) := by decide +kernel
theorem dX6_water_287 : decode cX6_water 287 = .ok (.iaload, 1) := by decide +kernel
theorem dX6_water_288 : decode cX6_water 288 = .ok (.isub, 1) := by decide +kernel
theorem dX6_water_289 : decode cX6_water 289 = .ok (.iadd, 1) := by decide +kernel
theorem dX6_water_290 : decode cX6_water 290 = .ok (.putfield 106, 3) := by decide +kernel
theorem dX6_water_293 : decode cX6_water 293 = .ok (.iload_n 3, 1) := by decide +kernel
theorem dX6_water_294 : decode cX6_water 294 = .ok (.aload 5, 2) := by decide +kernel
theorem dX6_water_296 : decode cX6_water 296 = .ok (.bipush 9, 2) := by decide +kernel
theorem dX6_water_298 : decode cX6_water 298 = .ok (.iaload, 1) := by decide +kernel
theorem dX6_water_299 : decode cX6_water 299 = .ok (.iadd, 1) := by decide +kernel
theorem dX6_water_300 : decode cX6_water 300 = .ok (.istore_n 3, 1) := by decide +kernel
theorem dX6_water_301 : decode cX6_water 301 = .ok (.iinc 4 1, 3) := by decide +kernel
theorem dX6_water_304 : decode cX6_water 304 = .ok (.goto (-102), 3) := by decide +kernel
theorem dX6_water_307 : decode cX6_water 307 = .ok (.iload_n 3, 1) := by decide +kernel
theorem dX6_water_308 : decode cX6_water 308 = .ok (.ireturn, 1) := by decide +kernel
theorem dX6_palms_0 : decode cX6_palms 0 = .ok (.aload_n 1, 1) := by decide +kernel
theorem dX6_palms_1 : decode cX6_palms 1 = .ok (.iconst 2, 1) := by decide +kernel
theorem dX6_palms_2 : decode cX6_palms 2 = .ok (.iaload, 1) := by decide +kernel
theorem dX6_palms_3 : decode cX6_palms 3 = .ok (.ifCond .ne 4, 3) := by decide +kernel
theorem dX6_palms_6 : decode cX6_palms 6 = .ok (.return_, 1) := by decide +kernel
theorem dX6_palms_7 : decode cX6_palms 7 = .ok (.bipush 20, 2) := by decide +kernel
theorem dX6_palms_9 : decode cX6_palms 9 = .ok (.aload_n 1, 1) := by decide +kernel
theorem dX6_palms_10 : decode cX6_palms 10 = .ok (.iconst 2, 1) := by decide +kernel
theorem dX6_palms_11 : decode cX6_palms 11 = .ok (.iaload, 1) := by decide +kernel
theorem dX6_palms_12 : decode cX6_palms 12 = .ok (.imul, 1) := by decide +kernel
theorem dX6_palms_13 : decode cX6_palms 13 = .ok (.istore_n 2, 1) := by decide +kernel
theorem dX6_palms_14 : decode cX6_palms 14 = .ok (.aload_n 1, 1) := by decide +kernel
theorem dX6_palms_15 : decode cX6_palms 15 = .ok (.iconst 4, 1) := by decide +kernel
theorem dX6_palms_16 : decode cX6_palms 16 = .ok (.iconst 0, 1) := by decide +kernel
theorem dX6_palms_17 : decode cX6_palms 17 = .ok (.bipush 99, 2) := by decide +kernel
theorem dX6_palms_19 : decode cX6_palms 19 = .ok (.aload_n 1, 1) := by decide +kernel
theorem dX6_palms_20 : decode cX6_palms 20 = .ok (.iconst 4, 1) := by decide +kernel
theorem dX6_palms_21 : decode cX6_palms 21 = .ok (.iaload, 1) := by decide +kernel
theorem dX6_palms_22 : decode cX6_palms 22 = .ok (.bipush 40, 2) := by decide +kernel
theorem dX6_palms_24 : decode cX6_palms 24 = .ok (.aload_n 1, 1) := by decide +kernel
theorem dX6_palms_25 : decode cX6_palms 25 = .ok (.bipush 9, 2) := by decide +kernel
theorem dX6_palms_27 : decode cX6_palms 27 = .ok (.iaload, 1) := by decide +kernel
theorem dX6_palms_28 : decode cX6_palms 28 = .ok (.bipush 30, 2) := by decide +kernel
theorem dX6_palms_30 : decode cX6_palms 30 = .ok (.imul, 1) := by decide +kernel
theorem dX6_palms_31 : decode cX6_palms 31 = .ok (.iload_n 2, 1) := by decide +kernel
theorem dX6_palms_32 : decode cX6_palms 32 = .ok (.idiv, 1) := by decide +kernel
theorem dX6_palms_33 : decode cX6_palms 33 = .ok (.invokestatic 80, 3) := by decide +kernel
theorem dX6_palms_36 : decode cX6_palms 36 = .ok (.iadd, 1) := by decide +kernel
theorem dX6_palms_37 : decode cX6_palms 37 = .ok (.invokestatic 80, 3) := by decide +kernel
theorem dX6_palms_40 : decode cX6_palms 40 = .ok (.bipush 6, 2) := by decide +kernel
theorem dX6_palms_42 : decode cX6_palms 42 = .ok (.isub, 1) := by decide +kernel
theorem dX6_palms_43 : decode cX6_palms 43 = .ok (.invokestatic 64, 3) := by decide +kernel
theorem dX6_palms_46 : decode cX6_palms 46 = .ok (.iastore, 1) := by decide +kernel
theorem dX6_palms_47 : decode cX6_palms 47 = .ok (.aload_n 1, 1) := by decide +kernel
theorem dX6_palms_48 : decode cX6_palms 48 = .ok (.bipush 9, 2) := by decide +kernel
theorem dX6_palms_50 : decode cX6_palms 50 = .ok (.iaload, 1) := by decide +kernel
theorem dX6_palms_51 : decode cX6_palms 51 = .ok (.iconst 2, 1) := by decide +kernel
theorem dX6_palms_52 : decode cX6_palms 52 = .ok (.iload_n 2, 1) := by decide +kernel
theorem dX6_palms_53 : decode cX6_palms 53 = .ok (.imul, 1) := by decide +kernel
theorem dX6_palms_54 : decode cX6_palms 54 = .ok (.if_icmp .le 16, 3) := by decide +kernel
theorem dX6_palms_57 : decode cX6_palms 57 = .ok (.aload_n 1, 1) := by decide +kernel
theorem dX6_palms_58 : decode cX6_palms 58 = .ok (.iconst 5, 1) := by decide +kernel
theorem dX6_palms_59 : decode cX6_palms 59 = .ok (.bipush 99, 2) := by decide +kernel
theorem dX6_palms_61 : decode cX6_palms 61 = .ok (.aload_n 1, 1) := by decide +kernel
theorem dX6_palms_62 : decode cX6_palms 62 = .ok (.iconst 5, 1) := by decide +kernel
theorem dX6_palms_63 : decode cX6_palms 63 = .ok (.iaload, 1) := by decide +kernel
theorem dX6_palms_64 : decode cX6_palms 64 = .ok (.iconst 1, 1) := by decide +kernel
theorem dX6_palms_65 : decode cX6_palms 65 = .ok (.iadd, 1) := by decide +kernel
theorem dX6_palms_66 : decode cX6_palms 66 = .ok (.invokestatic 80, 3) := by decide +kernel
theorem dX6_palms_69 : decode cX6_palms 69 = .ok (.iastore, 1) := by decide +kernel
theorem dX6_palms_70 : decode cX6_palms 70 = .ok (.aload_n 0, 1) := by decide +kernel
theorem dX6_palms_71 : decode cX6_palms 71 = .ok (.getfield 55, 3) := by decide +kernel
theorem dX6_palms_74 : decode cX6_palms 74 = .ok (.bipush 70, 2) := by decide +kernel
theorem dX6_palms_76 : decode cX6_palms 76 = .ok (.irem, 1) := by decide +kernel
theorem dX6_palms_77 : decode cX6_palms 77 = .ok (.bipush 10, 2) := by decide +kernel
theorem dX6_palms_79 : decode cX6_palms 79 = .ok (.irem, 1) := by decide +kernel
theorem dX6_palms_80 : decode cX6_palms 80 = .ok (.ifCond .gt 11, 3) := by decide +kernel
theorem dX6_palms_83 : decode cX6_palms 83 = .ok (.aload_n 1, 1) := by decide +kernel
theorem dX6_palms_84 : decode cX6_palms 84 = .ok (.iconst 4, 1) := by decide +kernel
theorem dX6_palms_85 : decode cX6_palms 85 = .ok (.iaload, 1) := by decide +kernel
theorem dX6_palms_86 : decode cX6_palms 86 = .ok (.bipush 15, 2) := by decide +kernel
theorem dX6_palms_88 : decode cX6_palms 88 = .ok (.if_icmp .lt 4, 3) := by decide +kernel
theorem dX6_palms_91 : decode cX6_palms 91 = .ok (.return_, 1) := by decide +kernel
theorem dX6_palms_92 : decode cX6_palms 92 = .ok (.aload_n 1, 1) := by decide +kernel
theorem dX6_palms_93 : decode cX6_palms 93 = .ok (.iconst 2, 1) := by decide +kernel
theorem dX6_palms_94 : decode cX6_palms 94 = .ok (.dup2, 1) := by decide +kernel
theorem dX6_palms_95 : decode cX6_palms 95 = .ok (.iaload, 1) := by decide +kernel
theorem dX6_palms_96 : decode cX6_palms 96 = .ok (.aload_n 1, 1) := by decide +kernel
theorem dX6_palms_97 : decode cX6_palms 97 = .ok (.iconst 2, 1) := by decide +kernel
theorem dX6_palms_98 : decode cX6_palms 98 = .ok (.iaload, 1) := by decide +kernel
theorem dX6_palms_99 : decode cX6_palms 99 = .ok (.bipush 10, 2) := by decide +kernel
theorem dX6_palms_101 : decode cX6_palms 101 = .ok (.idiv, 1) := by decide +kernel
theorem dX6_palms_102 : decode cX6_palms 102 = .ok (.iconst 1, 1) := by decide +kernel
theorem dX6_palms_103 : decode cX6_palms 103 = .ok (.iadd, 1) := by decide +kernel
theorem dX6_palms_104 : decode cX6_palms 104 = .ok (.isub, 1) := by decide +kernel
theorem dX6_palms_105 : decode cX6_palms 105 = .ok (.iastore, 1) := by decide +kernel
theorem dX6_palms_106 : decode cX6_palms 106 = .ok (.aload_n 1, 1) := by decide +kernel
theorem dX6_palms_107 : decode cX6_palms 107 = .ok (.bipush 7, 2) := by decide +kernel
theorem dX6_palms_109 : decode cX6_palms 109 = .ok (.aload_n 1, 1) := by decide +kernel
theorem dX6_palms_110 : decode cX6_palms 110 = .ok (.bipush 7, 2) := by decide +kernel
theorem dX6_palms_112 : decode cX6_palms 112 = .ok (.iaload, 1) := by decide +kernel
theorem dX6_palms_113 : decode cX6_palms 113 = .ok (.aload_n 1, 1) := by decide +kernel
theorem dX6_palms_114 : decode cX6_palms 114 = .ok (.iconst 2, 1) := by decide +kernel
theorem dX6_palms_115 : decode cX6_palms 115 = .ok (.iaload, 1) := by decide +kernel
theorem dX6_palms_116 : decode cX6_palms 116 = .ok (.invokestatic 80, 3) := by decide +kernel
theorem dX6_palms_119 : decode cX6_palms 119 = .ok (.iastore, 1) := by decide +kernel
theorem dX6_palms_120 : decode cX6_palms 120 = .ok (.return_, 1) := by decide +kernel
theorem dX6_reaped_0 : decode cX6_reaped 0 = .ok (.aload_n 1, 1) := by decide +kernel
theorem dX6_reaped_1 : decode cX6_reaped 1 = .ok (.bipush 7, 2) := by decide +kernel
theorem dX6_reaped_3 : decode cX6_reaped 3 = .ok (.iaload, 1) := by decide +kernel
theorem dX6_reaped_4 : decode cX6_reaped 4 = .ok (.aload_n 1, 1) := by decide +kernel
theorem dX6_reaped_5 : decode cX6_reaped 5 = .ok (.iconst 4, 1) := by decide +kernel
theorem dX6_reaped_6 : decode cX6_reaped 6 = .ok (.iaload, 1) := by decide +kernel
theorem dX6_reaped_7 : decode cX6_reaped 7 = .ok (.imul, 1) := by decide +kernel
theorem dX6_reaped_8 : decode cX6_reaped 8 = .ok (.bipush 100, 2) := by decide +kernel
theorem dX6_reaped_10 : decode cX6_reaped 10 = .ok (.aload_n 1, 1) := by decide +kernel
theorem dX6_reaped_11 : decode cX6_reaped 11 = .ok (.iconst 5, 1) := by decide +kernel
theorem dX6_reaped_12 : decode cX6_reaped 12 = .ok (.iaload, 1) := by decide +kernel
theorem dX6_reaped_13 : decode cX6_reaped 13 = .ok (.isub, 1) := by decide +kernel
theorem dX6_reaped_14 : decode cX6_reaped 14 = .ok (.imul, 1) := by decide +kernel
theorem dX6_reaped_15 : decode cX6_reaped 15 = .ok (.sipush 1000, 3) := by decide +kernel
theorem dX6_reaped_18 : decode cX6_reaped 18 = .ok (.idiv, 1) := by decide +kernel
theorem dX6_reaped_19 : decode cX6_reaped 19 = .ok (.ireturn, 1) := by decide +kernel
theorem dX6_harvest_0 : decode cX6_harvest 0 = .ok (.iconst 0, 1) := by decide +kernel
theorem dX6_harvest_1 : decode cX6_harvest 1 = .ok (.istore_n 1, 1) := by decide +kernel
theorem dX6_harvest_2 : decode cX6_harvest 2 = .ok (.iload_n 1, 1) := by decide +kernel
theorem dX6_harvest_3 : decode cX6_harvest 3 = .ok (.aload_n 0, 1) := by decide +kernel
theorem dX6_harvest_4 : decode cX6_harvest 4 = .ok (.getfield 52, 3) := by decide +kernel
theorem dX6_harvest_7 : decode cX6_harvest 7 = .ok (.if_icmp .ge 47, 3) := by decide +kernel
theorem dX6_harvest_10 : decode cX6_harvest 10 = .ok (.aload_n 0, 1) := by decide +kernel
theorem dX6_harvest_11 : decode cX6_harvest 11 = .ok (.getfield 11, 3) := by decide +kernel
theorem dX6_harvest_14 : decode cX6_harvest 14 = .ok (.aload_n 0, 1) := by decide +kernel
theorem dX6_harvest_15 : decode cX6_harvest 15 = .ok (.getfield 16, 3) := by decide +kernel
theorem dX6_harvest_18 : decode cX6_harvest 18 = .ok (.iload_n 1, 1) := by decide +kernel
theorem dX6_harvest_19 : decode cX6_harvest 19 = .ok (.iaload, 1) := by decide +kernel
theorem dX6_harvest_20 : decode cX6_harvest 20 = .ok (.aaload, 1) := by decide +kernel
theorem dX6_harvest_21 : decode cX6_harvest 21 = .ok (.astore_n 2, 1) := by decide +kernel
theorem dX6_harvest_22 : decode cX6_harvest 22 = .ok (.aload_n 0, 1) := by decide +kernel
theorem dX6_harvest_23 : decode cX6_harvest 23 = .ok (.dup, 1) := by decide +kernel
theorem dX6_harvest_24 : decode cX6_harvest 24 = .ok (.getfield 109, 3) := by decide +kernel
theorem dX6_harvest_27 : decode cX6_harvest 27 = .ok (.aload_n 0, 1) := by decide +kernel
theorem dX6_harvest_28 : decode cX6_harvest 28 = .ok (.aload_n 2, 1) := by decide +kernel
theorem dX6_harvest_29 : decode cX6_harvest 29 = .ok (.invokevirtual 112, 3) := by decide +kernel
theorem dX6_harvest_32 : decode cX6_harvest 32 = .ok (.iadd, 1) := by decide +kernel
theorem dX6_harvest_33 : decode cX6_harvest 33 = .ok (.putfield 109, 3) := by decide +kernel
theorem dX6_harvest_36 : decode cX6_harvest 36 = .ok (.aload_n 2, 1) := by decide +kernel
theorem dX6_harvest_37 : decode cX6_harvest 37 = .ok (.bipush 6, 2) := by decide +kernel
theorem dX6_harvest_39 : decode cX6_harvest 39 = .ok (.dup2, 1) := by decide +kernel
theorem dX6_harvest_40 : decode cX6_harvest 40 = .ok (.iaload, 1) := by decide +kernel
theorem dX6_harvest_41 : decode cX6_harvest 41 = .ok (.aload_n 0, 1) := by decide +kernel
theorem dX6_harvest_42 : decode cX6_harvest 42 = .ok (.aload_n 2, 1) := by decide +kernel
theorem dX6_harvest_43 : decode cX6_harvest 43 = .ok (.invokevirtual 112, 3) := by decide +kernel
theorem dX6_harvest_46 : decode cX6_harvest 46 = .ok (.iadd, 1) := by decide +kernel
theorem dX6_harvest_47 : decode cX6_harvest 47 = .ok (.iastore, 1) := by decide +kernel
theorem dX6_harvest_48 : decode cX6_harvest 48 = .ok (.iinc 1 1, 3) := by decide +kernel
theorem dX6_harvest_51 : decode cX6_harvest 51 = .ok (.goto (-49), 3) := by decide +kernel
theorem dX6_harvest_54 : decode cX6_harvest 54 = .ok (.iconst 0, 1) := by decide +kernel
theorem dX6_harvest_55 : decode cX6_harvest 55 = .ok (.istore_n 1, 1) := by decide +kernel
theorem dX6_harvest_56 : decode cX6_harvest 56 = .ok (.iload_n 1, 1) := by decide +kernel
theorem dX6_harvest_57 : decode cX6_harvest 57 = .ok (.aload_n 0, 1) := by decide +kernel
theorem dX6_harvest_58 : decode cX6_harvest 58 = .ok (.getfield 49, 3) := by decide +kernel
theorem dX6_harvest_61 : decode cX6_harvest 61 = .ok (.if_icmp .ge 110, 3) := by decide +kernel
theorem dX6_harvest_64 : decode cX6_harvest 64 = .ok (.aload_n 0, 1) := by decide +kernel
theorem dX6_harvest_65 : decode cX6_harvest 65 = .ok (.getfield 11, 3) := by decide +kernel
theorem dX6_harvest_68 : decode cX6_harvest 68 = .ok (.aload_n 0, 1) := by decide +kernel
theorem dX6_harvest_69 : decode cX6_harvest 69 = .ok (.getfield 23, 3) := by decide +kernel
theorem dX6_harvest_72 : decode cX6_harvest 72 = .ok (.iload_n 1, 1) := by decide +kernel
theorem dX6_harvest_73 : decode cX6_harvest 73 = .ok (.aaload, 1) := by decide +kernel
theorem dX6_harvest_74 : decode cX6_harvest 74 = .ok (.iconst 0, 1) := by decide +kernel
theorem dX6_harvest_75 : decode cX6_harvest 75 = .ok (.iaload, 1) := by decide +kernel
theorem dX6_harvest_76 : decode cX6_harvest 76 = .ok (.aaload, 1) := by decide +kernel
theorem dX6_harvest_77 : decode cX6_harvest 77 = .ok (.astore_n 2, 1) := by decide +kernel
theorem dX6_harvest_78 : decode cX6_harvest 78 = .ok (.aload_n 0, 1) := by decide +kernel
theorem dX6_harvest_79 : decode cX6_harvest 79 = .ok (.getfield 11, 3) := by decide +kernel
theorem dX6_harvest_82 : decode cX6_harvest 82 = .ok (.aload_n 0, 1) := by decide +kernel
theorem dX6_harvest_83 : decode cX6_harvest 83 = .ok (.getfield 23, 3) := by decide +kernel
theorem dX6_harvest_86 : decode cX6_harvest 86 = .ok (.iload_n 1, 1) := by decide +kernel
theorem dX6_harvest_87 : decode cX6_harvest 87 = .ok (.aaload, 1) := by decide +kernel
theorem dX6_harvest_88 : decode cX6_harvest 88 = .ok (.iconst 1, 1) := by decide +kernel
theorem dX6_harvest_89 : decode cX6_harvest 89 = .ok (.iaload, 1) := by decide +kernel
theorem dX6_harvest_90 : decode cX6_harvest 90 = .ok (.aaload, 1) := by decide +kernel
theorem dX6_harvest_91 : decode cX6_harvest 91 = .ok (.astore_n 3, 1) := by decide +kernel
theorem dX6_harvest_92 : decode cX6_harvest 92 = .ok (.aload_n 0, 1) := by decide +kernel
theorem dX6_harvest_93 : decode cX6_harvest 93 = .ok (.getfield 23, 3) := by decide +kernel
theorem dX6_harvest_96 : decode cX6_harvest 96 = .ok (.iload_n 1, 1) := by decide +kernel
theorem dX6_harvest_97 : decode cX6_harvest 97 = .ok (.aaload, 1) := by decide +kernel
theorem dX6_harvest_98 : decode cX6_harvest 98 = .ok (.iconst 2, 1) := by decide +kernel
theorem dX6_harvest_99 : decode cX6_harvest 99 = .ok (.iaload, 1) := by decide +kernel
theorem dX6_harvest_100 : decode cX6_harvest 100 = .ok (.aload_n 2, 1) := by decide +kernel
theorem dX6_harvest_101 : decode cX6_harvest 101 = .ok (.bipush 6, 2) := by decide +kernel
theorem dX6_harvest_103 : decode cX6_harvest 103 = .ok (.iaload, 1) := by decide +kernel
theorem dX6_harvest_104 : decode cX6_harvest 104 = .ok (.invokestatic 80, 3) := by decide +kernel
theorem dX6_harvest_107 : decode cX6_harvest 107 = .ok (.istore 4, 2) := by decide +kernel
theorem dX6_harvest_109 : decode cX6_harvest 109 = .ok (.aload_n 2, 1) := by decide +kernel
theorem dX6_harvest_110 : decode cX6_harvest 110 = .ok (.bipush 6, 2) := by decide +kernel
theorem dX6_harvest_112 : decode cX6_harvest 112 = .ok (.dup2, 1) := by decide +kernel
theorem dX6_harvest_113 : decode cX6_harvest 113 = .ok (.iaload, 1) := by decide +kernel
theorem dX6_harvest_114 : decode cX6_harvest 114 = .ok (.iload 4, 2) := by decide +kernel
theorem dX6_harvest_116 : decode cX6_harvest 116 = .ok (.isub, 1) := by decide +kernel
theorem dX6_harvest_117 : decode cX6_harvest 117 = .ok (.iastore, 1) := by decide +kernel
theorem dX6_harvest_118 : decode cX6_harvest 118 = .ok (.aload_n 3, 1) := by decide +kernel
theorem dX6_harvest_119 : decode cX6_harvest 119 = .ok (.bipush 6, 2) := by decide +kernel
theorem dX6_harvest_121 : decode cX6_harvest 121 = .ok (.dup2, 1) := by decide +kernel
theorem dX6_harvest_122 : decode cX6_harvest 122 = .ok (.iaload, 1) := by decide +kernel
theorem dX6_harvest_123 : decode cX6_harvest 123 = .ok (.iload 4, 2) := by decide +kernel
theorem dX6_harvest_125 : decode cX6_harvest 125 = .ok (.iadd, 1) := by decide +kernel
theorem dX6_harvest_126 : decode cX6_harvest 126 = .ok (.iastore, 1) := by decide +kernel
theorem dX6_harvest_127 : decode cX6_harvest 127 = .ok (.aload_n 2, 1) := by decide +kernel
theorem dX6_harvest_128 : decode cX6_harvest 128 = .ok (.iconst 1, 1) := by decide +kernel
theorem dX6_harvest_129 : decode cX6_harvest 129 = .ok (.dup2, 1) := by decide +kernel
theorem dX6_harvest_130 : decode cX6_harvest 130 = .ok (.iaload, 1) := by decide +kernel
theorem dX6_harvest_131 : decode cX6_harvest 131 = .ok (.iconst 2, 1) := by decide +kernel
theorem dX6_harvest_132 : decode cX6_harvest 132 = .ok (.aload_n 0, 1) := by decide +kernel
theorem dX6_harvest_133 : decode cX6_harvest 133 = .ok (.getfield 23, 3) := by decide +kernel
theorem dX6_harvest_136 : decode cX6_harvest 136 = .ok (.iload_n 1, 1) := by decide +kernel
theorem dX6_harvest_137 : decode cX6_harvest 137 = .ok (.aaload, 1) := by decide +kernel
theorem dX6_harvest_138 : decode cX6_harvest 138 = .ok (.iconst 2, 1) := by decide +kernel
theorem dX6_harvest_139 : decode cX6_harvest 139 = .ok (.iaload, 1) := by decide +kernel
theorem dX6_harvest_140 : decode cX6_harvest 140 = .ok (.iload 4, 2) := by decide +kernel
theorem dX6_harvest_142 : decode cX6_harvest 142 = .ok (.isub, 1) := by decide +kernel
theorem dX6_harvest_143 : decode cX6_harvest 143 = .ok (.imul, 1) := by decide +kernel
theorem dX6_harvest_144 : decode cX6_harvest 144 = .ok (.isub, 1) := by decide +kernel
theorem dX6_harvest_145 : decode cX6_harvest 145 = .ok (.iastore, 1) := by decide +kernel
theorem dX6_harvest_146 : decode cX6_harvest 146 = .ok (.aload_n 3, 1) := by decide +kernel
theorem dX6_harvest_147 : decode cX6_harvest 147 = .ok (.iconst 1, 1) := by decide +kernel
theorem dX6_harvest_148 : decode cX6_harvest 148 = .ok (.dup2, 1) := by decide +kernel
theorem dX6_harvest_149 : decode cX6_harvest 149 = .ok (.iaload, 1) := by decide +kernel
theorem dX6_harvest_150 : decode cX6_harvest 150 = .ok (.iconst 2, 1) := by decide +kernel
theorem dX6_harvest_151 : decode cX6_harvest 151 = .ok (.aload_n 0, 1) := by decide +kernel
theorem dX6_harvest_152 : decode cX6_harvest 152 = .ok (.getfield 23, 3) := by decide +kernel
theorem dX6_harvest_155 : decode cX6_harvest 155 = .ok (.iload_n 1, 1) := by decide +kernel
theorem dX6_harvest_156 : decode cX6_harvest 156 = .ok (.aaload, 1) := by decide +kernel
theorem dX6_harvest_157 : decode cX6_harvest 157 = .ok (.iconst 2, 1) := by decide +kernel
theorem dX6_harvest_158 : decode cX6_harvest 158 = .ok (.iaload, 1) := by decide +kernel
theorem dX6_harvest_159 : decode cX6_harvest 159 = .ok (.iload 4, 2) := by decide +kernel
theorem dX6_harvest_161 : decode cX6_harvest 161 = .ok (.isub, 1) := by decide +kernel
theorem dX6_harvest_162 : decode cX6_harvest 162 = .ok (.imul, 1) := by decide +kernel
theorem dX6_harvest_163 : decode cX6_harvest 163 = .ok (.iadd, 1) := by decide +kernel
theorem dX6_harvest_164 : decode cX6_harvest 164 = .ok (.iastore, 1) := by decide +kernel
theorem dX6_harvest_165 : decode cX6_harvest 165 = .ok (.iinc 1 1, 3) := by decide +kernel
theorem dX6_harvest_168 : decode cX6_harvest 168 = .ok (.goto (-112), 3) := by decide +kernel
theorem dX6_harvest_171 : decode cX6_harvest 171 = .ok (.aload_n 0, 1) := by decide +kernel
theorem dX6_harvest_172 : decode cX6_harvest 172 = .ok (.iconst 0, 1) := by decide +kernel
theorem dX6_harvest_173 : decode cX6_harvest 173 = .ok (.putfield 49, 3) := by decide +kernel
theorem dX6_harvest_176 : decode cX6_harvest 176 = .ok (.iconst 0, 1) := by decide +kernel
theorem dX6_harvest_177 : decode cX6_harvest 177 = .ok (.istore_n 1, 1) := by decide +kernel
theorem dX6_harvest_178 : decode cX6_harvest 178 = .ok (.iload_n 1, 1) := by decide +kernel
theorem dX6_harvest_179 : decode cX6_harvest 179 = .ok (.aload_n 0, 1) := by decide +kernel
theorem dX6_harvest_180 : decode cX6_harvest 180 = .ok (.getfield 52, 3) := by decide +kernel
theorem dX6_harvest_183 : decode cX6_harvest 183 = .ok (.if_icmp .ge 39, 3) := by decide +kernel
theorem dX6_harvest_186 : decode cX6_harvest 186 = .ok (.aload_n 0, 1) := by decide +kernel
theorem dX6_harvest_187 : decode cX6_harvest 187 = .ok (.getfield 11, 3) := by decide +kernel
theorem dX6_harvest_190 : decode cX6_harvest 190 = .ok (.aload_n 0, 1) := by decide +kernel
theorem dX6_harvest_191 : decode cX6_harvest 191 = .ok (.getfield 16, 3) := by decide +kernel
theorem dX6_harvest_194 : decode cX6_harvest 194 = .ok (.iload_n 1, 1) := by decide +kernel
theorem dX6_harvest_195 : decode cX6_harvest 195 = .ok (.iaload, 1) := by decide +kernel
theorem dX6_harvest_196 : decode cX6_harvest 196 = .ok (.aaload, 1) := by decide +kernel
theorem dX6_harvest_197 : decode cX6_harvest 197 = .ok (.bipush 7, 2) := by decide +kernel
theorem dX6_harvest_199 : decode cX6_harvest 199 = .ok (.iconst 0, 1) := by decide +kernel
theorem dX6_harvest_200 : decode cX6_harvest 200 = .ok (.iastore, 1) := by decide +kernel
theorem dX6_harvest_201 : decode cX6_harvest 201 = .ok (.aload_n 0, 1) := by decide +kernel
theorem dX6_harvest_202 : decode cX6_harvest 202 = .ok (.getfield 11, 3) := by decide +kernel
theorem dX6_harvest_205 : decode cX6_harvest 205 = .ok (.aload_n 0, 1) := by decide +kernel
theorem dX6_harvest_206 : decode cX6_harvest 206 = .ok (.getfield 16, 3) := by decide +kernel
theorem dX6_harvest_209 : decode cX6_harvest 209 = .ok (.iload_n 1, 1) := by decide +kernel
theorem dX6_harvest_210 : decode cX6_harvest 210 = .ok (.iaload, 1) := by decide +kernel
theorem dX6_harvest_211 : decode cX6_harvest 211 = .ok (.aaload, 1) := by decide +kernel
theorem dX6_harvest_212 : decode cX6_harvest 212 = .ok (.bipush 8, 2) := by decide +kernel
theorem dX6_harvest_214 : decode cX6_harvest 214 = .ok (.iconst 0, 1) := by decide +kernel
theorem dX6_harvest_215 : decode cX6_harvest 215 = .ok (.iastore, 1) := by decide +kernel
theorem dX6_harvest_216 : decode cX6_harvest 216 = .ok (.iinc 1 1, 3) := by decide +kernel
theorem dX6_harvest_219 : decode cX6_harvest 219 = .ok (.goto (-41), 3) := by decide +kernel
theorem dX6_harvest_222 : decode cX6_harvest 222 = .ok (.return_, 1) := by decide +kernel
theorem dX6_age_0 : decode cX6_age 0 = .ok (.iconst 0, 1) := by decide +kernel
theorem dX6_age_1 : decode cX6_age 1 = .ok (.istore_n 1, 1) := by decide +kernel
theorem dX6_age_2 : decode cX6_age 2 = .ok (.iconst 0, 1) := by decide +kernel
theorem dX6_age_3 : decode cX6_age 3 = .ok (.istore_n 2, 1) := by decide +kernel
theorem dX6_age_4 : decode cX6_age 4 = .ok (.iload_n 2, 1) := by decide +kernel
theorem dX6_age_5 : decode cX6_age 5 = .ok (.aload_n 0, 1) := by decide +kernel
theorem dX6_age_6 : decode cX6_age 6 = .ok (.getfield 46, 3) := by decide +kernel
theorem dX6_age_9 : decode cX6_age 9 = .ok (.if_icmp .ge 52, 3) := by decide +kernel
theorem dX6_age_12 : decode cX6_age 12 = .ok (.aload_n 0, 1) := by decide +kernel
theorem dX6_age_13 : decode cX6_age 13 = .ok (.getfield 20, 3) := by decide +kernel
theorem dX6_age_16 : decode cX6_age 16 = .ok (.iload_n 2, 1) := by decide +kernel
theorem dX6_age_17 : decode cX6_age 17 = .ok (.aaload, 1) := by decide +kernel
theorem dX6_age_18 : decode cX6_age 18 = .ok (.astore_n 3, 1) := by decide +kernel
theorem dX6_age_19 : decode cX6_age 19 = .ok (.aload_n 3, 1) := by decide +kernel
theorem dX6_age_20 : decode cX6_age 20 = .ok (.iconst 3, 1) := by decide +kernel
theorem dX6_age_21 : decode cX6_age 21 = .ok (.dup2, 1) := by decide +kernel
theorem dX6_age_22 : decode cX6_age 22 = .ok (.iaload, 1) := by decide +kernel
theorem dX6_age_23 : decode cX6_age 23 = .ok (.iconst 1, 1) := by decide +kernel
theorem dX6_age_24 : decode cX6_age 24 = .ok (.isub, 1) := by decide +kernel
theorem dX6_age_25 : decode cX6_age 25 = .ok (.dup_x2, 1) := by decide +kernel
theorem dX6_age_26 : decode cX6_age 26 = .ok (.iastore, 1) := by decide +kernel
theorem dX6_age_27 : decode cX6_age 27 = .ok (.ifCond .ne 6, 3) := by decide +kernel
theorem dX6_age_30 : decode cX6_age 30 = .ok (.goto 25, 3) := by decide +kernel
theorem dX6_age_33 : decode cX6_age 33 = .ok (.aload_n 0, 1) := by decide +kernel
theorem dX6_age_34 : decode cX6_age 34 = .ok (.getfield 20, 3) := by decide +kernel
theorem dX6_age_37 : decode cX6_age 37 = .ok (.iload_n 2, 1) := by decide +kernel
theorem dX6_age_38 : decode cX6_age 38 = .ok (.aload_n 0, 1) := by decide +kernel
theorem dX6_age_39 : decode cX6_age 39 = .ok (.getfield 20, 3) := by decide +kernel
theorem dX6_age_42 : decode cX6_age 42 = .ok (.iload_n 1, 1) := by decide +kernel
theorem dX6_age_43 : decode cX6_age 43 = .ok (.aaload, 1) := by decide +kernel
theorem dX6_age_44 : decode cX6_age 44 = .ok (.aastore, 1) := by decide +kernel
theorem dX6_age_45 : decode cX6_age 45 = .ok (.aload_n 0, 1) := by decide +kernel
theorem dX6_age_46 : decode cX6_age 46 = .ok (.getfield 20, 3) := by decide +kernel
theorem dX6_age_49 : decode cX6_age 49 = .ok (.iload_n 1, 1) := by decide +kernel
theorem dX6_age_50 : decode cX6_age 50 = .ok (.iinc 1 1, 3) := by decide +kernel
theorem dX6_age_53 : decode cX6_age 53 = .ok (.aload_n 3, 1) := by decide +kernel
theorem dX6_age_54 : decode cX6_age 54 = .ok (.aastore, 1) := by decide +kernel
theorem dX6_age_55 : decode cX6_age 55 = .ok (.iinc 2 1, 3) := by decide +kernel
theorem dX6_age_58 : decode cX6_age 58 = .ok (.goto (-54), 3) := by decide +kernel
theorem dX6_age_61 : decode cX6_age 61 = .ok (.aload_n 0, 1) := by decide +kernel
theorem dX6_age_62 : decode cX6_age 62 = .ok (.iload_n 1, 1) := by decide +kernel
theorem dX6_age_63 : decode cX6_age 63 = .ok (.putfield 46, 3) := by decide +kernel
theorem dX6_age_66 : decode cX6_age 66 = .ok (.return_, 1) := by decide +kernel
theorem dX6_run_0 : decode cX6_run 0 = .ok (.iconst 0, 1) := by decide +kernel
theorem dX6_run_1 : decode cX6_run 1 = .ok (.istore_n 3, 1) := by decide +kernel
theorem dX6_run_2 : decode cX6_run 2 = .ok (.iconst 0, 1) := by decide +kernel
theorem dX6_run_3 : decode cX6_run 3 = .ok (.istore 4, 2) := by decide +kernel
theorem dX6_run_5 : decode cX6_run 5 = .ok (.iload 4, 2) := by decide +kernel
theorem dX6_run_7 : decode cX6_run 7 = .ok (.iload_n 2, 1) := by decide +kernel
theorem dX6_run_8 : decode cX6_run 8 = .ok (.if_icmp .ge 17, 3) := by decide +kernel
theorem dX6_run_11 : decode cX6_run 11 = .ok (.iload_n 3, 1) := by decide +kernel
theorem dX6_run_12 : decode cX6_run 12 = .ok (.aload_n 0, 1) := by decide +kernel
theorem dX6_run_13 : decode cX6_run 13 = .ok (.iload_n 1, 1) := by decide +kernel
theorem dX6_run_14 : decode cX6_run 14 = .ok (.invokevirtual 116, 3) := by decide +kernel
theorem dX6_run_17 : decode cX6_run 17 = .ok (.iadd, 1) := by decide +kernel
theorem dX6_run_18 : decode cX6_run 18 = .ok (.istore_n 3, 1) := by decide +kernel
theorem dX6_run_19 : decode cX6_run 19 = .ok (.iinc 4 1, 3) := by decide +kernel
theorem dX6_run_22 : decode cX6_run 22 = .ok (.goto (-17), 3) := by decide +kernel
theorem dX6_run_25 : decode cX6_run 25 = .ok (.iload_n 3, 1) := by decide +kernel
theorem dX6_run_26 : decode cX6_run 26 = .ok (.ireturn, 1) := by decide +kernel
theorem dX7_init_0 : decode cX7_init 0 = .ok (.aload_n 0, 1) := by decide +kernel
theorem dX7_init_1 : decode cX7_init 1 = .ok (.invokespecial 1, 3) := by decide +kernel
theorem dX7_init_4 : decode cX7_init 4 = .ok (.aload_n 0, 1) := by decide +kernel
theorem dX7_init_5 : decode cX7_init 5 = .ok (.new 7, 3) := by decide +kernel
theorem dX7_init_8 : decode cX7_init 8 = .ok (.dup, 1) := by decide +kernel
theorem dX7_init_9 : decode cX7_init 9 = .ok (.invokespecial 9, 3) := by decide +kernel
theorem dX7_init_12 : decode cX7_init 12 = .ok (.putfield 10, 3) := by decide +kernel
theorem dX7_init_15 : decode cX7_init 15 = .ok (.return_, 1) := by decide +kernel
theorem dX7_thrown_0 : decode cX7_thrown 0 = .ok (.aload_n 0, 1) := by decide +kernel
theorem dX7_thrown_1 : decode cX7_thrown 1 = .ok (.getfield 16, 3) := by decide +kernel
theorem dX7_thrown_4 : decode cX7_thrown 4 = .ok (.ireturn, 1) := by decide +kernel
theorem dX7_no_0 : decode cX7_no 0 = .ok (.aload_n 0, 1) := by decide +kernel
theorem dX7_no_1 : decode cX7_no 1 = .ok (.iload_n 1, 1) := by decide +kernel
theorem dX7_no_2 : decode cX7_no 2 = .ok (.putfield 16, 3) := by decide +kernel
theorem dX7_no_5 : decode cX7_no 5 = .ok (.iconst 0, 1) := by decide +kernel
theorem dX7_no_6 : decode cX7_no 6 = .ok (.ireturn, 1) := by decide +kernel
theorem dX7_in_0 : decode cX7_in 0 = .ok (.iload_n 0, 1) := by decide +kernel
theorem dX7_in_1 : decode cX7_in 1 = .ok (.iload_n 1, 1) := by decide +kernel
theorem dX7_in_2 : decode cX7_in 2 = .ok (.if_icmp .lt 12, 3) := by decide +kernel
theorem dX7_in_5 : decode cX7_in 5 = .ok (.iload_n 0, 1) := by decide +kernel
theorem dX7_in_6 : decode cX7_in 6 = .ok (.iload_n 2, 1) := by decide +kernel
theorem dX7_in_7 : decode cX7_in 7 = .ok (.if_icmp .gt 7, 3) := by decide +kernel
theorem dX7_in_10 : decode cX7_in 10 = .ok (.iconst 1, 1) := by decide +kernel
theorem dX7_in_11 : decode cX7_in 11 = .ok (.goto 4, 3) := by decide +kernel
theorem dX7_in_14 : decode cX7_in 14 = .ok (.iconst 0, 1) := by decide +kernel
theorem dX7_in_15 : decode cX7_in 15 = .ok (.ireturn, 1) := by decide +kernel
theorem dX7_lower_0 : decode cX7_lower 0 = .ok (.iload_n 0, 1) := by decide +kernel
theorem dX7_lower_1 : decode cX7_lower 1 = .ok (.ifCond .lt 9, 3) := by decide +kernel
theorem dX7_lower_4 : decode cX7_lower 4 = .ok (.iload_n 0, 1) := by decide +kernel
theorem dX7_lower_5 : decode cX7_lower 5 = .ok (.iload_n 1, 1) := by decide +kernel
theorem dX7_lower_6 : decode cX7_lower 6 = .ok (.idiv, 1) := by decide +kernel
theorem dX7_lower_7 : decode cX7_lower 7 = .ok (.goto 11, 3) := by decide +kernel
theorem dX7_lower_10 : decode cX7_lower 10 = .ok (.iload_n 1, 1) := by decide +kernel
theorem dX7_lower_11 : decode cX7_lower 11 = .ok (.iconst 1, 1) := by decide +kernel
theorem dX7_lower_12 : decode cX7_lower 12 = .ok (.isub, 1) := by decide +kernel
theorem dX7_lower_13 : decode cX7_lower 13 = .ok (.iload_n 0, 1) := by decide +kernel
theorem dX7_lower_14 : decode cX7_lower 14 = .ok (.isub, 1) := by decide +kernel
theorem dX7_lower_15 : decode cX7_lower 15 = .ok (.iload_n 1, 1) := by decide +kernel
theorem dX7_lower_16 : decode cX7_lower 16 = .ok (.idiv, 1) := by decide +kernel
theorem dX7_lower_17 : decode cX7_lower 17 = .ok (.ineg, 1) := by decide +kernel
theorem dX7_lower_18 : decode cX7_lower 18 = .ok (.ireturn, 1) := by decide +kernel
theorem dX7_lives_0 : decode cX7_lives 0 = .ok (.iload_n 1, 1) := by decide +kernel
theorem dX7_lives_1 : decode cX7_lives 1 = .ok (.iconst 0, 1) := by decide +kernel
theorem dX7_lives_2 : decode cX7_lives 2 = .ok (.aload_n 0, 1) := by decide +kernel
theorem dX7_lives_3 : decode cX7_lives 3 = .ok (.getfield 10, 3) := by decide +kernel
theorem dX7_lives_6 : decode cX7_lives 6 = .ok (.getfield 20, 3) := by decide +kernel
theorem dX7_lives_9 : decode cX7_lives 9 = .ok (.iconst 1, 1) := by decide +kernel
theorem dX7_lives_10 : decode cX7_lives 10 = .ok (.isub, 1) := by decide +kernel
theorem dX7_lives_11 : decode cX7_lives 11 = .ok (.invokestatic 23, 3) := by decide +kernel
theorem dX7_lives_14 : decode cX7_lives 14 = .ok (.ifCond .eq 23, 3) := by decide +kernel
theorem dX7_lives_17 : decode cX7_lives 17 = .ok (.aload_n 0, 1) := by decide +kernel
theorem dX7_lives_18 : decode cX7_lives 18 = .ok (.getfield 10, 3) := by decide +kernel
theorem dX7_lives_21 : decode cX7_lives 21 = .ok (.getfield 27, 3) := by decide +kernel
theorem dX7_lives_24 : decode cX7_lives 24 = .ok (.iload_n 1, 1) := by decide +kernel
theorem dX7_lives_25 : decode cX7_lives 25 = .ok (.aaload, 1) := by decide +kernel
theorem dX7_lives_26 : decode cX7_lives 26 = .ok (.bipush 11, 2) := by decide +kernel
theorem dX7_lives_28 : decode cX7_lives 28 = .ok (.iaload, 1) := by decide +kernel
theorem dX7_lives_29 : decode cX7_lives 29 = .ok (.iconst 1, 1) := by decide +kernel
theorem dX7_lives_30 : decode cX7_lives 30 = .ok (.if_icmp .ne 7, 3) := by decide +kernel
theorem dX7_lives_33 : decode cX7_lives 33 = .ok (.iconst 1, 1) := by decide +kernel
theorem dX7_lives_34 : decode cX7_lives 34 = .ok (.goto 4, 3) := by decide +kernel
theorem dX7_lives_37 : decode cX7_lives 37 = .ok (.iconst 0, 1) := by decide +kernel
theorem dX7_lives_38 : decode cX7_lives 38 = .ok (.ireturn, 1) := by decide +kernel
theorem dX7_at_0 : decode cX7_at 0 = .ok (.aload_n 0, 1) := by decide +kernel
theorem dX7_at_1 : decode cX7_at 1 = .ok (.getfield 10, 3) := by decide +kernel
theorem dX7_at_4 : decode cX7_at 4 = .ok (.getfield 27, 3) := by decide +kernel
theorem dX7_at_7 : decode cX7_at 7 = .ok (.iload_n 1, 1) := by decide +kernel
theorem dX7_at_8 : decode cX7_at 8 = .ok (.aaload, 1) := by decide +kernel
theorem dX7_at_9 : decode cX7_at 9 = .ok (.areturn, 1) := by decide +kernel
theorem dX7_owner_0 : decode cX7_owner 0 = .ok (.aload_n 0, 1) := by decide +kernel
theorem dX7_owner_1 : decode cX7_owner 1 = .ok (.iconst 0, 1) := by decide +kernel
theorem dX7_owner_2 : decode cX7_owner 2 = .ok (.putfield 16, 3) := by decide +kernel
theorem dX7_owner_5 : decode cX7_owner 5 = .ok (.iload_n 1, 1) := by decide +kernel
theorem dX7_owner_6 : decode cX7_owner 6 = .ok (.iconst 0, 1) := by decide +kernel
theorem dX7_owner_7 : decode cX7_owner 7 = .ok (.sipush 5040, 3) := by decide +kernel
theorem dX7_owner_10 : decode cX7_owner 10 = .ok (.invokestatic 23, 3) := by decide +kernel
theorem dX7_owner_13 : decode cX7_owner 13 = .ok (.ifCond .eq 36, 3) := by decide +kernel
theorem dX7_owner_16 : decode cX7_owner 16 = .ok (.iload_n 2, 1) := by decide +kernel
theorem dX7_owner_17 : decode cX7_owner 17 = .ok (.iconst 0, 1) := by decide +kernel
theorem dX7_owner_18 : decode cX7_owner 18 = .ok (.sipush 9999, 3) := by decide +kernel
theorem dX7_owner_21 : decode cX7_owner 21 = .ok (.invokestatic 23, 3) := by decide +kernel
theorem dX7_owner_24 : decode cX7_owner 24 = .ok (.ifCond .eq 25, 3) := by decide +kernel
theorem dX7_owner_27 : decode cX7_owner 27 = .ok (.iload_n 3, 1) := by decide +kernel
theorem dX7_owner_28 : decode cX7_owner 28 = .ok (.iconst 0, 1) := by decide +kernel
theorem dX7_owner_29 : decode cX7_owner 29 = .ok (.sipush 200, 3) := by decide +kernel
theorem dX7_owner_32 : decode cX7_owner 32 = .ok (.invokestatic 23, 3) := by decide +kernel
theorem dX7_owner_35 : decode cX7_owner 35 = .ok (.ifCond .eq 14, 3) := by decide +kernel
theorem dX7_owner_38 : decode cX7_owner 38 = .ok (.iload 4, 2) := by decide +kernel
theorem dX7_owner_40 : decode cX7_owner 40 = .ok (.iconst 0, 1) := by decide +kernel
theorem dX7_owner_41 : decode cX7_owner 41 = .ok (.bipush 20, 2) := by decide +kernel
theorem dX7_owner_43 : decode cX7_owner 43 = .ok (.invokestatic 23, 3) := by decide +kernel
theorem dX7_owner_46 : decode cX7_owner 46 = .ok (.ifCond .ne 9, 3) := by decide +kernel
theorem dX7_owner_49 : decode cX7_owner 49 = .ok (.aload_n 0, 1) := by decide +kernel
theorem dX7_owner_50 : decode cX7_owner 50 = .ok (.iconst 1, 1) := by decide +kernel
theorem dX7_owner_51 : decode cX7_owner 51 = .ok (.invokevirtual 31, 3) := by decide +kernel
theorem dX7_owner_54 : decode cX7_owner 54 = .ok (.ireturn, 1) := by decide +kernel
theorem dX7_owner_55 : decode cX7_owner 55 = .ok (.aload_n 0, 1) := by decide +kernel
theorem dX7_owner_56 : decode cX7_owner 56 = .ok (.getfield 10, 3) := by decide +kernel
theorem dX7_owner_59 : decode cX7_owner 59 = .ok (.getfield 20, 3) := by decide +kernel
theorem dX7_owner_62 : decode cX7_owner 62 = .ok (.bipush 10, 2) := by decide +kernel
theorem dX7_owner_64 : decode cX7_owner 64 = .ok (.if_icmp .eq 18, 3) := by decide +kernel
theorem dX7_owner_67 : decode cX7_owner 67 = .ok (.iload_n 1, 1) := by decide +kernel
theorem dX7_owner_68 : decode cX7_owner 68 = .ok (.sipush 5040, 3) := by decide +kernel
theorem dX7_owner_71 : decode cX7_owner 71 = .ok (.aload_n 0, 1) := by decide +kernel
theorem dX7_owner_72 : decode cX7_owner 72 = .ok (.getfield 10, 3) := by decide +kernel
theorem dX7_owner_75 : decode cX7_owner 75 = .ok (.invokevirtual 35, 3) := by decide +kernel
theorem dX7_owner_78 : decode cX7_owner 78 = .ok (.isub, 1) := by decide +kernel
theorem dX7_owner_79 : decode cX7_owner 79 = .ok (.if_icmp .le 9, 3) := by decide +kernel
theorem dX7_owner_82 : decode cX7_owner 82 = .ok (.aload_n 0, 1) := by decide +kernel
theorem dX7_owner_83 : decode cX7_owner 83 = .ok (.iconst 2, 1) := by decide +kernel
theorem dX7_owner_84 : decode cX7_owner 84 = .ok (.invokevirtual 31, 3) := by decide +kernel
theorem dX7_owner_87 : decode cX7_owner 87 = .ok (.ireturn, 1) := by decide +kernel
theorem dX7_owner_88 : decode cX7_owner 88 = .ok (.bipush 12, 2) := by decide +kernel
theorem dX7_owner_90 : decode cX7_owner 90 = .ok (.newarray .int, 2) := by decide +kernel
theorem dX7_owner_92 : decode cX7_owner 92 = .ok (.dup, 1) := by decide +kernel
theorem dX7_owner_93 : decode cX7_owner 93 = .ok (.iconst 0, 1) := by decide +kernel
theorem dX7_owner_94 : decode cX7_owner 94 = .ok (.iload_n 1, 1) := by decide +kernel
theorem dX7_owner_95 : decode cX7_owner 95 = .ok (.iastore, 1) := by decide +kernel
theorem dX7_owner_96 : decode cX7_owner 96 = .ok (.dup, 1) := by decide +kernel
theorem dX7_owner_97 : decode cX7_owner 97 = .ok (.iconst 1, 1) := by decide +kernel
theorem dX7_owner_98 : decode cX7_owner 98 = .ok (.iload_n 2, 1) := by decide +kernel
theorem dX7_owner_99 : decode cX7_owner 99 = .ok (.iastore, 1) := by decide +kernel
theorem dX7_owner_100 : decode cX7_owner 100 = .ok (.dup, 1) := by decide +kernel
theorem dX7_owner_101 : decode cX7_owner 101 = .ok (.iconst 2, 1) := by decide +kernel
theorem dX7_owner_102 : decode cX7_owner 102 = .ok (.iload_n 3, 1) := by decide +kernel
theorem dX7_owner_103 : decode cX7_owner 103 = .ok (.iastore, 1) := by decide +kernel
theorem dX7_owner_104 : decode cX7_owner 104 = .ok (.dup, 1) := by decide +kernel
theorem dX7_owner_105 : decode cX7_owner 105 = .ok (.iconst 3, 1) := by decide +kernel
theorem dX7_owner_106 : decode cX7_owner 106 = .ok (.iload 4, 2) := by decide +kernel
theorem dX7_owner_108 : decode cX7_owner 108 = .ok (.iastore, 1) := by decide +kernel
theorem dX7_owner_109 : decode cX7_owner 109 = .ok (.dup, 1) := by decide +kernel
theorem dX7_owner_110 : decode cX7_owner 110 = .ok (.iconst 4, 1) := by decide +kernel
theorem dX7_owner_111 : decode cX7_owner 111 = .ok (.bipush 50, 2) := by decide +kernel
theorem dX7_owner_113 : decode cX7_owner 113 = .ok (.iastore, 1) := by decide +kernel
theorem dX7_owner_114 : decode cX7_owner 114 = .ok (.dup, 1) := by decide +kernel
theorem dX7_owner_115 : decode cX7_owner 115 = .ok (.iconst 5, 1) := by decide +kernel
theorem dX7_owner_116 : decode cX7_owner 116 = .ok (.iconst 0, 1) := by decide +kernel
theorem dX7_owner_117 : decode cX7_owner 117 = .ok (.iastore, 1) := by decide +kernel
theorem dX7_owner_118 : decode cX7_owner 118 = .ok (.dup, 1) := by decide +kernel
theorem dX7_owner_119 : decode cX7_owner 119 = .ok (.bipush 6, 2) := by decide +kernel
theorem dX7_owner_121 : decode cX7_owner 121 = .ok (.iconst 0, 1) := by decide +kernel
theorem dX7_owner_122 : decode cX7_owner 122 = .ok (.iastore, 1) := by decide +kernel
theorem dX7_owner_123 : decode cX7_owner 123 = .ok (.dup, 1) := by decide +kernel
theorem dX7_owner_124 : decode cX7_owner 124 = .ok (.bipush 7, 2) := by decide +kernel
theorem dX7_owner_126 : decode cX7_owner 126 = .ok (.iconst 0, 1) := by decide +kernel
theorem dX7_owner_127 : decode cX7_owner 127 = .ok (.iastore, 1) := by decide +kernel
theorem dX7_owner_128 : decode cX7_owner 128 = .ok (.dup, 1) := by decide +kernel
theorem dX7_owner_129 : decode cX7_owner 129 = .ok (.bipush 8, 2) := by decide +kernel
theorem dX7_owner_131 : decode cX7_owner 131 = .ok (.iconst 0, 1) := by decide +kernel
theorem dX7_owner_132 : decode cX7_owner 132 = .ok (.iastore, 1) := by decide +kernel
theorem dX7_owner_133 : decode cX7_owner 133 = .ok (.dup, 1) := by decide +kernel
theorem dX7_owner_134 : decode cX7_owner 134 = .ok (.bipush 9, 2) := by decide +kernel
theorem dX7_owner_136 : decode cX7_owner 136 = .ok (.iconst 0, 1) := by decide +kernel
theorem dX7_owner_137 : decode cX7_owner 137 = .ok (.iastore, 1) := by decide +kernel
theorem dX7_owner_138 : decode cX7_owner 138 = .ok (.dup, 1) := by decide +kernel
theorem dX7_owner_139 : decode cX7_owner 139 = .ok (.bipush 10, 2) := by decide +kernel
theorem dX7_owner_141 : decode cX7_owner 141 = .ok (.iconst 0, 1) := by decide +kernel
theorem dX7_owner_142 : decode cX7_owner 142 = .ok (.iastore, 1) := by decide +kernel
theorem dX7_owner_143 : decode cX7_owner 143 = .ok (.dup, 1) := by decide +kernel
theorem dX7_owner_144 : decode cX7_owner 144 = .ok (.bipush 11, 2) := by decide +kernel
theorem dX7_owner_146 : decode cX7_owner 146 = .ok (.iconst 1, 1) := by decide +kernel
theorem dX7_owner_147 : decode cX7_owner 147 = .ok (.iastore, 1) := by decide +kernel
theorem dX7_owner_148 : decode cX7_owner 148 = .ok (.astore 5, 2) := by decide +kernel
theorem dX7_owner_150 : decode cX7_owner 150 = .ok (.aload 5, 2) := by decide +kernel
theorem dX7_owner_152 : decode cX7_owner 152 = .ok (.iconst 0, 1) := by decide +kernel
theorem dX7_owner_153 : decode cX7_owner 153 = .ok (.aload_n 0, 1) := by decide +kernel
theorem dX7_owner_154 : decode cX7_owner 154 = .ok (.aload_n 0, 1) := by decide +kernel
theorem dX7_owner_155 : decode cX7_owner 155 = .ok (.getfield 10, 3) := by decide +kernel
theorem dX7_owner_158 : decode cX7_owner 158 = .ok (.getfield 20, 3) := by decide +kernel
theorem dX7_owner_161 : decode cX7_owner 161 = .ok (.invokevirtual 39, 3) := by decide +kernel
theorem dX7_owner_164 : decode cX7_owner 164 = .ok (.iconst 0, 1) := by decide +kernel
theorem dX7_owner_165 : decode cX7_owner 165 = .ok (.bipush 12, 2) := by decide +kernel
theorem dX7_owner_167 : decode cX7_owner 167 = .ok (.invokestatic 43, 3) := by decide +kernel
theorem dX7_owner_170 : decode cX7_owner 170 = .ok (.aload_n 0, 1) := by decide +kernel
theorem dX7_owner_171 : decode cX7_owner 171 = .ok (.getfield 10, 3) := by decide +kernel
theorem dX7_owner_174 : decode cX7_owner 174 = .ok (.getfield 49, 3) := by decide +kernel
theorem dX7_owner_177 : decode cX7_owner 177 = .ok (.aload_n 0, 1) := by decide +kernel
theorem dX7_owner_178 : decode cX7_owner 178 = .ok (.getfield 10, 3) := by decide +kernel
theorem dX7_owner_181 : decode cX7_owner 181 = .ok (.dup, 1) := by decide +kernel
theorem dX7_owner_182 : decode cX7_owner 182 = .ok (.getfield 53, 3) := by decide +kernel
theorem dX7_owner_185 : decode cX7_owner 185 = .ok (.dup_x1, 1) := by decide +kernel
theorem dX7_owner_186 : decode cX7_owner 186 = .ok (.iconst 1, 1) := by decide +kernel
theorem dX7_owner_187 : decode cX7_owner 187 = .ok (.iadd, 1) := by decide +kernel
theorem dX7_owner_188 : decode cX7_owner 188 = .ok (.putfield 53, 3) := by decide +kernel
theorem dX7_owner_191 : decode cX7_owner 191 = .ok (.aload_n 0, 1) := by decide +kernel
theorem dX7_owner_192 : decode cX7_owner 192 = .ok (.getfield 10, 3) := by decide +kernel
theorem dX7_owner_195 : decode cX7_owner 195 = .ok (.getfield 20, 3) := by decide +kernel
theorem dX7_owner_198 : decode cX7_owner 198 = .ok (.iastore, 1) := by decide +kernel
theorem dX7_owner_199 : decode cX7_owner 199 = .ok (.aload_n 0, 1) := by decide +kernel
theorem dX7_owner_200 : decode cX7_owner 200 = .ok (.getfield 10, 3) := by decide +kernel
theorem dX7_owner_203 : decode cX7_owner 203 = .ok (.dup, 1) := by decide +kernel
theorem dX7_owner_204 : decode cX7_owner 204 = .ok (.getfield 20, 3) := by decide +kernel
theorem dX7_owner_207 : decode cX7_owner 207 = .ok (.dup_x1, 1) := by decide +kernel
theorem dX7_owner_208 : decode cX7_owner 208 = .ok (.iconst 1, 1) := by decide +kernel
theorem dX7_owner_209 : decode cX7_owner 209 = .ok (.iadd, 1) := by decide +kernel
theorem dX7_owner_210 : decode cX7_owner 210 = .ok (.putfield 20, 3) := by decide +kernel
theorem dX7_owner_213 : decode cX7_owner 213 = .ok (.ireturn, 1) := by decide +kernel
theorem dX7_sell_0 : decode cX7_sell 0 = .ok (.aload_n 0, 1) := by decide +kernel
theorem dX7_sell_1 : decode cX7_sell 1 = .ok (.iconst 0, 1) := by decide +kernel
theorem dX7_sell_2 : decode cX7_sell 2 = .ok (.putfield 16, 3) := by decide +kernel
theorem dX7_sell_5 : decode cX7_sell 5 = .ok (.aload_n 0, 1) := by decide +kernel
theorem dX7_sell_6 : decode cX7_sell 6 = .ok (.iload_n 1, 1) := by decide +kernel
theorem dX7_sell_7 : decode cX7_sell 7 = .ok (.invokevirtual 56, 3) := by decide +kernel
theorem dX7_sell_10 : decode cX7_sell 10 = .ok (.ifCond .eq 11, 3) := by decide +kernel
theorem dX7_sell_13 : decode cX7_sell 13 = .ok (.aload_n 0, 1) := by decide +kernel
theorem dX7_sell_14 : decode cX7_sell 14 = .ok (.iload_n 2, 1) := by decide +kernel
theorem dX7_sell_15 : decode cX7_sell 15 = .ok (.invokevirtual 56, 3) := by decide +kernel
theorem dX7_sell_18 : decode cX7_sell 18 = .ok (.ifCond .ne 9, 3) := by decide +kernel
theorem dX7_sell_21 : decode cX7_sell 21 = .ok (.aload_n 0, 1) := by decide +kernel
theorem dX7_sell_22 : decode cX7_sell 22 = .ok (.iconst 1, 1) := by decide +kernel
theorem dX7_sell_23 : decode cX7_sell 23 = .ok (.invokevirtual 31, 3) := by decide +kernel
theorem dX7_sell_26 : decode cX7_sell 26 = .ok (.ireturn, 1) := by decide +kernel
theorem dX7_sell_27 : decode cX7_sell 27 = .ok (.iload_n 1, 1) := by decide +kernel
theorem dX7_sell_28 : decode cX7_sell 28 = .ok (.iload_n 2, 1) := by decide +kernel
theorem dX7_sell_29 : decode cX7_sell 29 = .ok (.if_icmp .eq 26, 3) := by decide +kernel
theorem dX7_sell_32 : decode cX7_sell 32 = .ok (.iload_n 3, 1) := by decide +kernel
theorem dX7_sell_33 : decode cX7_sell 33 = .ok (.iconst 1, 1) := by decide +kernel
theorem dX7_sell_34 : decode cX7_sell 34 = .ok (.sipush 5040, 3) := by decide +kernel
theorem dX7_sell_37 : decode cX7_sell 37 = .ok (.invokestatic 23, 3) := by decide +kernel
theorem dX7_sell_40 : decode cX7_sell 40 = .ok (.ifCond .eq 15, 3) := by decide +kernel
theorem dX7_sell_43 : decode cX7_sell 43 = .ok (.iload 4, 2) := by decide +kernel
theorem dX7_sell_45 : decode cX7_sell 45 = .ok (.iconst 0, 1) := by decide +kernel
theorem dX7_sell_46 : decode cX7_sell 46 = .ok (.sipush 9999, 3) := by decide +kernel
theorem dX7_sell_49 : decode cX7_sell 49 = .ok (.invokestatic 23, 3) := by decide +kernel
theorem dX7_sell_52 : decode cX7_sell 52 = .ok (.ifCond .ne 9, 3) := by decide +kernel
theorem dX7_sell_55 : decode cX7_sell 55 = .ok (.aload_n 0, 1) := by decide +kernel
theorem dX7_sell_56 : decode cX7_sell 56 = .ok (.iconst 2, 1) := by decide +kernel
theorem dX7_sell_57 : decode cX7_sell 57 = .ok (.invokevirtual 31, 3) := by decide +kernel
theorem dX7_sell_60 : decode cX7_sell 60 = .ok (.ireturn, 1) := by decide +kernel
theorem dX7_sell_61 : decode cX7_sell 61 = .ok (.aload_n 0, 1) := by decide +kernel
theorem dX7_sell_62 : decode cX7_sell 62 = .ok (.iload_n 1, 1) := by decide +kernel
theorem dX7_sell_63 : decode cX7_sell 63 = .ok (.invokevirtual 39, 3) := by decide +kernel
theorem dX7_sell_66 : decode cX7_sell 66 = .ok (.iconst 0, 1) := by decide +kernel
theorem dX7_sell_67 : decode cX7_sell 67 = .ok (.iaload, 1) := by decide +kernel
theorem dX7_sell_68 : decode cX7_sell 68 = .ok (.aload_n 0, 1) := by decide +kernel
theorem dX7_sell_69 : decode cX7_sell 69 = .ok (.getfield 10, 3) := by decide +kernel
theorem dX7_sell_72 : decode cX7_sell 72 = .ok (.iload_n 1, 1) := by decide +kernel
theorem dX7_sell_73 : decode cX7_sell 73 = .ok (.invokevirtual 60, 3) := by decide +kernel
theorem dX7_sell_76 : decode cX7_sell 76 = .ok (.isub, 1) := by decide +kernel
theorem dX7_sell_77 : decode cX7_sell 77 = .ok (.iload_n 3, 1) := by decide +kernel
theorem dX7_sell_78 : decode cX7_sell 78 = .ok (.if_icmp .ge 6, 3) := by decide +kernel
theorem dX7_sell_81 : decode cX7_sell 81 = .ok (.bipush (-2), 2) := by decide +kernel
theorem dX7_sell_83 : decode cX7_sell 83 = .ok (.ireturn, 1) := by decide +kernel
theorem dX7_sell_84 : decode cX7_sell 84 = .ok (.aload_n 0, 1) := by decide +kernel
theorem dX7_sell_85 : decode cX7_sell 85 = .ok (.iload_n 2, 1) := by decide +kernel
theorem dX7_sell_86 : decode cX7_sell 86 = .ok (.invokevirtual 39, 3) := by decide +kernel
theorem dX7_sell_89 : decode cX7_sell 89 = .ok (.iconst 1, 1) := by decide +kernel
theorem dX7_sell_90 : decode cX7_sell 90 = .ok (.iaload, 1) := by decide +kernel
theorem dX7_sell_91 : decode cX7_sell 91 = .ok (.iload 4, 2) := by decide +kernel
theorem dX7_sell_93 : decode cX7_sell 93 = .ok (.if_icmp .ge 6, 3) := by decide +kernel
theorem dX7_sell_96 : decode cX7_sell 96 = .ok (.bipush (-3), 2) := by decide +kernel
theorem dX7_sell_98 : decode cX7_sell 98 = .ok (.ireturn, 1) := by decide +kernel
theorem dX7_sell_99 : decode cX7_sell 99 = .ok (.aload_n 0, 1) := by decide +kernel
theorem dX7_sell_100 : decode cX7_sell 100 = .ok (.iload_n 1, 1) := by decide +kernel
theorem dX7_sell_101 : decode cX7_sell 101 = .ok (.invokevirtual 39, 3) := by decide +kernel
theorem dX7_sell_104 : decode cX7_sell 104 = .ok (.iconst 0, 1) := by decide +kernel
theorem dX7_sell_105 : decode cX7_sell 105 = .ok (.dup2, 1) := by decide +kernel
theorem dX7_sell_106 : decode cX7_sell 106 = .ok (.iaload, 1) := by decide +kernel
theorem dX7_sell_107 : decode cX7_sell 107 = .ok (.iload_n 3, 1) := by decide +kernel
theorem dX7_sell_108 : decode cX7_sell 108 = .ok (.isub, 1) := by decide +kernel
theorem dX7_sell_109 : decode cX7_sell 109 = .ok (.iastore, 1) := by decide +kernel
theorem dX7_sell_110 : decode cX7_sell 110 = .ok (.aload_n 0, 1) := by decide +kernel
theorem dX7_sell_111 : decode cX7_sell 111 = .ok (.iload_n 2, 1) := by decide +kernel
theorem dX7_sell_112 : decode cX7_sell 112 = .ok (.invokevirtual 39, 3) := by decide +kernel
theorem dX7_sell_115 : decode cX7_sell 115 = .ok (.iconst 0, 1) := by decide +kernel
theorem dX7_sell_116 : decode cX7_sell 116 = .ok (.dup2, 1) := by decide +kernel
theorem dX7_sell_117 : decode cX7_sell 117 = .ok (.iaload, 1) := by decide +kernel
theorem dX7_sell_118 : decode cX7_sell 118 = .ok (.iload_n 3, 1) := by decide +kernel
theorem dX7_sell_119 : decode cX7_sell 119 = .ok (.iadd, 1) := by decide +kernel
theorem dX7_sell_120 : decode cX7_sell 120 = .ok (.iastore, 1) := by decide +kernel
theorem dX7_sell_121 : decode cX7_sell 121 = .ok (.aload_n 0, 1) := by decide +kernel
theorem dX7_sell_122 : decode cX7_sell 122 = .ok (.iload_n 1, 1) := by decide +kernel
theorem dX7_sell_123 : decode cX7_sell 123 = .ok (.invokevirtual 39, 3) := by decide +kernel
theorem dX7_sell_126 : decode cX7_sell 126 = .ok (.iconst 1, 1) := by decide +kernel
theorem dX7_sell_127 : decode cX7_sell 127 = .ok (.dup2, 1) := by decide +kernel
theorem dX7_sell_128 : decode cX7_sell 128 = .ok (.iaload, 1) := by decide +kernel
theorem dX7_sell_129 : decode cX7_sell 129 = .ok (.iload 4, 2) := by decide +kernel
theorem dX7_sell_131 : decode cX7_sell 131 = .ok (.iadd, 1) := by decide +kernel
theorem dX7_sell_132 : decode cX7_sell 132 = .ok (.iastore, 1) := by decide +kernel
theorem dX7_sell_133 : decode cX7_sell 133 = .ok (.aload_n 0, 1) := by decide +kernel
theorem dX7_sell_134 : decode cX7_sell 134 = .ok (.iload_n 2, 1) := by decide +kernel
theorem dX7_sell_135 : decode cX7_sell 135 = .ok (.invokevirtual 39, 3) := by decide +kernel
theorem dX7_sell_138 : decode cX7_sell 138 = .ok (.iconst 1, 1) := by decide +kernel
theorem dX7_sell_139 : decode cX7_sell 139 = .ok (.dup2, 1) := by decide +kernel
theorem dX7_sell_140 : decode cX7_sell 140 = .ok (.iaload, 1) := by decide +kernel
theorem dX7_sell_141 : decode cX7_sell 141 = .ok (.iload 4, 2) := by decide +kernel
theorem dX7_sell_143 : decode cX7_sell 143 = .ok (.isub, 1) := by decide +kernel
theorem dX7_sell_144 : decode cX7_sell 144 = .ok (.iastore, 1) := by decide +kernel
theorem dX7_sell_145 : decode cX7_sell 145 = .ok (.aload_n 0, 1) := by decide +kernel
theorem dX7_sell_146 : decode cX7_sell 146 = .ok (.iload_n 2, 1) := by decide +kernel
theorem dX7_sell_147 : decode cX7_sell 147 = .ok (.invokevirtual 39, 3) := by decide +kernel
theorem dX7_sell_150 : decode cX7_sell 150 = .ok (.iconst 0, 1) := by decide +kernel
theorem dX7_sell_151 : decode cX7_sell 151 = .ok (.iaload, 1) := by decide +kernel
theorem dX7_sell_152 : decode cX7_sell 152 = .ok (.ireturn, 1) := by decide +kernel
theorem dX7_lend_0 : decode cX7_lend 0 = .ok (.aload_n 0, 1) := by decide +kernel
theorem dX7_lend_1 : decode cX7_lend 1 = .ok (.iconst 0, 1) := by decide +kernel
theorem dX7_lend_2 : decode cX7_lend 2 = .ok (.putfield 16, 3) := by decide +kernel
theorem dX7_lend_5 : decode cX7_lend 5 = .ok (.aload_n 0, 1) := by decide +kernel
theorem dX7_lend_6 : decode cX7_lend 6 = .ok (.iload_n 1, 1) := by decide +kernel
theorem dX7_lend_7 : decode cX7_lend 7 = .ok (.invokevirtual 56, 3) := by decide +kernel
theorem dX7_lend_10 : decode cX7_lend 10 = .ok (.ifCond .eq 11, 3) := by decide +kernel
theorem dX7_lend_13 : decode cX7_lend 13 = .ok (.aload_n 0, 1) := by decide +kernel
theorem dX7_lend_14 : decode cX7_lend 14 = .ok (.iload_n 2, 1) := by decide +kernel
theorem dX7_lend_15 : decode cX7_lend 15 = .ok (.invokevirtual 56, 3) := by decide +kernel
theorem dX7_lend_18 : decode cX7_lend 18 = .ok (.ifCond .ne 9, 3) := by decide +kernel
theorem dX7_lend_21 : decode cX7_lend 21 = .ok (.aload_n 0, 1) := by decide +kernel
theorem dX7_lend_22 : decode cX7_lend 22 = .ok (.iconst 1, 1) := by decide +kernel
theorem dX7_lend_23 : decode cX7_lend 23 = .ok (.invokevirtual 31, 3) := by decide +kernel
theorem dX7_lend_26 : decode cX7_lend 26 = .ok (.ireturn, 1) := by decide +kernel
theorem dX7_lend_27 : decode cX7_lend 27 = .ok (.iload_n 1, 1) := by decide +kernel
theorem dX7_lend_28 : decode cX7_lend 28 = .ok (.iload_n 2, 1) := by decide +kernel
theorem dX7_lend_29 : decode cX7_lend 29 = .ok (.if_icmp .eq 25, 3) := by decide +kernel
theorem dX7_lend_32 : decode cX7_lend 32 = .ok (.iload_n 3, 1) := by decide +kernel
theorem dX7_lend_33 : decode cX7_lend 33 = .ok (.iconst 1, 1) := by decide +kernel
theorem dX7_lend_34 : decode cX7_lend 34 = .ok (.sipush 5040, 3) := by decide +kernel
theorem dX7_lend_37 : decode cX7_lend 37 = .ok (.invokestatic 23, 3) := by decide +kernel
theorem dX7_lend_40 : decode cX7_lend 40 = .ok (.ifCond .eq 14, 3) := by decide +kernel
theorem dX7_lend_43 : decode cX7_lend 43 = .ok (.iload 4, 2) := by decide +kernel
theorem dX7_lend_45 : decode cX7_lend 45 = .ok (.iconst 1, 1) := by decide +kernel
theorem dX7_lend_46 : decode cX7_lend 46 = .ok (.bipush 20, 2) := by decide +kernel
theorem dX7_lend_48 : decode cX7_lend 48 = .ok (.invokestatic 23, 3) := by decide +kernel
theorem dX7_lend_51 : decode cX7_lend 51 = .ok (.ifCond .ne 9, 3) := by decide +kernel
theorem dX7_lend_54 : decode cX7_lend 54 = .ok (.aload_n 0, 1) := by decide +kernel
theorem dX7_lend_55 : decode cX7_lend 55 = .ok (.iconst 2, 1) := by decide +kernel
theorem dX7_lend_56 : decode cX7_lend 56 = .ok (.invokevirtual 31, 3) := by decide +kernel
theorem dX7_lend_59 : decode cX7_lend 59 = .ok (.ireturn, 1) := by decide +kernel
theorem dX7_lend_60 : decode cX7_lend 60 = .ok (.aload_n 0, 1) := by decide +kernel
theorem dX7_lend_61 : decode cX7_lend 61 = .ok (.getfield 10, 3) := by decide +kernel
theorem dX7_lend_64 : decode cX7_lend 64 = .ok (.getfield 63, 3) := by decide +kernel
theorem dX7_lend_67 : decode cX7_lend 67 = .ok (.bipush 8, 2) := by decide +kernel
theorem dX7_lend_69 : decode cX7_lend 69 = .ok (.if_icmp .ne 9, 3) := by decide +kernel
theorem dX7_lend_72 : decode cX7_lend 72 = .ok (.aload_n 0, 1) := by decide +kernel
theorem dX7_lend_73 : decode cX7_lend 73 = .ok (.iconst 3, 1) := by decide +kernel
theorem dX7_lend_74 : decode cX7_lend 74 = .ok (.invokevirtual 31, 3) := by decide +kernel
theorem dX7_lend_77 : decode cX7_lend 77 = .ok (.ireturn, 1) := by decide +kernel
theorem dX7_lend_78 : decode cX7_lend 78 = .ok (.aload_n 0, 1) := by decide +kernel
theorem dX7_lend_79 : decode cX7_lend 79 = .ok (.iload_n 1, 1) := by decide +kernel
theorem dX7_lend_80 : decode cX7_lend 80 = .ok (.invokevirtual 39, 3) := by decide +kernel
theorem dX7_lend_83 : decode cX7_lend 83 = .ok (.iconst 0, 1) := by decide +kernel
theorem dX7_lend_84 : decode cX7_lend 84 = .ok (.iaload, 1) := by decide +kernel
theorem dX7_lend_85 : decode cX7_lend 85 = .ok (.aload_n 0, 1) := by decide +kernel
theorem dX7_lend_86 : decode cX7_lend 86 = .ok (.getfield 10, 3) := by decide +kernel
theorem dX7_lend_89 : decode cX7_lend 89 = .ok (.iload_n 1, 1) := by decide +kernel
theorem dX7_lend_90 : decode cX7_lend 90 = .ok (.invokevirtual 60, 3) := by decide +kernel
theorem dX7_lend_93 : decode cX7_lend 93 = .ok (.isub, 1) := by decide +kernel
theorem dX7_lend_94 : decode cX7_lend 94 = .ok (.iload_n 3, 1) := by decide +kernel
theorem dX7_lend_95 : decode cX7_lend 95 = .ok (.if_icmp .ge 6, 3) := by decide +kernel
theorem dX7_lend_98 : decode cX7_lend 98 = .ok (.bipush (-2), 2) := by decide +kernel
theorem dX7_lend_100 : decode cX7_lend 100 = .ok (.ireturn, 1) := by decide +kernel
theorem dX7_lend_101 : decode cX7_lend 101 = .ok (.iconst 4, 1) := by decide +kernel
theorem dX7_lend_102 : decode cX7_lend 102 = .ok (.newarray .int, 2) := by decide +kernel
theorem dX7_lend_104 : decode cX7_lend 104 = .ok (.dup, 1) := by decide +kernel
theorem dX7_lend_105 : decode cX7_lend 105 = .ok (.iconst 0, 1) := by decide +kernel
theorem dX7_lend_106 : decode cX7_lend 106 = .ok (.iload_n 1, 1) := by decide +kernel
theorem dX7_lend_107 : decode cX7_lend 107 = .ok (.iastore, 1) := by decide +kernel
theorem dX7_lend_108 : decode cX7_lend 108 = .ok (.dup, 1) := by decide +kernel
theorem dX7_lend_109 : decode cX7_lend 109 = .ok (.iconst 1, 1) := by decide +kernel
theorem dX7_lend_110 : decode cX7_lend 110 = .ok (.iload_n 2, 1) := by decide +kernel
theorem dX7_lend_111 : decode cX7_lend 111 = .ok (.iastore, 1) := by decide +kernel
theorem dX7_lend_112 : decode cX7_lend 112 = .ok (.dup, 1) := by decide +kernel
theorem dX7_lend_113 : decode cX7_lend 113 = .ok (.iconst 2, 1) := by decide +kernel
theorem dX7_lend_114 : decode cX7_lend 114 = .ok (.iload_n 3, 1) := by decide +kernel
theorem dX7_lend_115 : decode cX7_lend 115 = .ok (.iastore, 1) := by decide +kernel
theorem dX7_lend_116 : decode cX7_lend 116 = .ok (.dup, 1) := by decide +kernel
theorem dX7_lend_117 : decode cX7_lend 117 = .ok (.iconst 3, 1) := by decide +kernel
theorem dX7_lend_118 : decode cX7_lend 118 = .ok (.iload 4, 2) := by decide +kernel
theorem dX7_lend_120 : decode cX7_lend 120 = .ok (.iastore, 1) := by decide +kernel
theorem dX7_lend_121 : decode cX7_lend 121 = .ok (.astore 5, 2) := by decide +kernel
theorem dX7_lend_123 : decode cX7_lend 123 = .ok (.aload 5, 2) := by decide +kernel
theorem dX7_lend_125 : decode cX7_lend 125 = .ok (.iconst 0, 1) := by decide +kernel
theorem dX7_lend_126 : decode cX7_lend 126 = .ok (.aload_n 0, 1) := by decide +kernel
theorem dX7_lend_127 : decode cX7_lend 127 = .ok (.getfield 10, 3) := by decide +kernel
theorem dX7_lend_130 : decode cX7_lend 130 = .ok (.getfield 66, 3) := by decide +kernel
theorem dX7_lend_133 : decode cX7_lend 133 = .ok (.aload_n 0, 1) := by decide +kernel
theorem dX7_lend_134 : decode cX7_lend 134 = .ok (.getfield 10, 3) := by decide +kernel
theorem dX7_lend_137 : decode cX7_lend 137 = .ok (.dup, 1) := by decide +kernel
theorem dX7_lend_138 : decode cX7_lend 138 = .ok (.getfield 63, 3) := by decide +kernel
theorem dX7_lend_141 : decode cX7_lend 141 = .ok (.dup_x1, 1) := by decide +kernel
theorem dX7_lend_142 : decode cX7_lend 142 = .ok (.iconst 1, 1) := by decide +kernel
theorem dX7_lend_143 : decode cX7_lend 143 = .ok (.iadd, 1) := by decide +kernel
theorem dX7_lend_144 : decode cX7_lend 144 = .ok (.putfield 63, 3) := by decide +kernel
theorem dX7_lend_147 : decode cX7_lend 147 = .ok (.aaload, 1) := by decide +kernel
theorem dX7_lend_148 : decode cX7_lend 148 = .ok (.iconst 0, 1) := by decide +kernel
theorem dX7_lend_149 : decode cX7_lend 149 = .ok (.iconst 4, 1) := by decide +kernel
theorem dX7_lend_150 : decode cX7_lend 150 = .ok (.invokestatic 43, 3) := by decide +kernel
theorem dX7_lend_153 : decode cX7_lend 153 = .ok (.aload_n 0, 1) := by decide +kernel
theorem dX7_lend_154 : decode cX7_lend 154 = .ok (.getfield 10, 3) := by decide +kernel
theorem dX7_lend_157 : decode cX7_lend 157 = .ok (.getfield 63, 3) := by decide +kernel
theorem dX7_lend_160 : decode cX7_lend 160 = .ok (.ireturn, 1) := by decide +kernel
theorem dX7_die_0 : decode cX7_die 0 = .ok (.aload_n 0, 1) := by decide +kernel
theorem dX7_die_1 : decode cX7_die 1 = .ok (.iconst 0, 1) := by decide +kernel
theorem dX7_die_2 : decode cX7_die 2 = .ok (.putfield 16, 3) := by decide +kernel
theorem dX7_die_5 : decode cX7_die 5 = .ok (.aload_n 0, 1) := by decide +kernel
theorem dX7_die_6 : decode cX7_die 6 = .ok (.iload_n 1, 1) := by decide +kernel
theorem dX7_die_7 : decode cX7_die 7 = .ok (.invokevirtual 56, 3) := by decide +kernel
theorem dX7_die_10 : decode cX7_die 10 = .ok (.ifCond .ne 9, 3) := by decide +kernel
theorem dX7_die_13 : decode cX7_die 13 = .ok (.aload_n 0, 1) := by decide +kernel
theorem dX7_die_14 : decode cX7_die 14 = .ok (.iconst 1, 1) := by decide +kernel
theorem dX7_die_15 : decode cX7_die 15 = .ok (.invokevirtual 31, 3) := by decide +kernel
theorem dX7_die_18 : decode cX7_die 18 = .ok (.ireturn, 1) := by decide +kernel
theorem dX7_die_19 : decode cX7_die 19 = .ok (.iload_n 2, 1) := by decide +kernel
theorem dX7_die_20 : decode cX7_die 20 = .ok (.ifCond .lt 28, 3) := by decide +kernel
theorem dX7_die_23 : decode cX7_die 23 = .ok (.iload_n 3, 1) := by decide +kernel
theorem dX7_die_24 : decode cX7_die 24 = .ok (.ifCond .lt 24, 3) := by decide +kernel
theorem dX7_die_27 : decode cX7_die 27 = .ok (.iload_n 2, 1) := by decide +kernel
theorem dX7_die_28 : decode cX7_die 28 = .ok (.iconst 4, 1) := by decide +kernel
theorem dX7_die_29 : decode cX7_die 29 = .ok (.if_icmp .gt 19, 3) := by decide +kernel
theorem dX7_die_32 : decode cX7_die 32 = .ok (.iload_n 3, 1) := by decide +kernel
theorem dX7_die_33 : decode cX7_die 33 = .ok (.iconst 4, 1) := by decide +kernel
theorem dX7_die_34 : decode cX7_die 34 = .ok (.if_icmp .gt 14, 3) := by decide +kernel
theorem dX7_die_37 : decode cX7_die 37 = .ok (.iload_n 2, 1) := by decide +kernel
theorem dX7_die_38 : decode cX7_die 38 = .ok (.iload_n 3, 1) := by decide +kernel
theorem dX7_die_39 : decode cX7_die 39 = .ok (.iadd, 1) := by decide +kernel
theorem dX7_die_40 : decode cX7_die 40 = .ok (.iconst 1, 1) := by decide +kernel
theorem dX7_die_41 : decode cX7_die 41 = .ok (.iconst 4, 1) := by decide +kernel
theorem dX7_die_42 : decode cX7_die 42 = .ok (.invokestatic 23, 3) := by decide +kernel
theorem dX7_die_45 : decode cX7_die 45 = .ok (.ifCond .ne 9, 3) := by decide +kernel
theorem dX7_die_48 : decode cX7_die 48 = .ok (.aload_n 0, 1) := by decide +kernel
theorem dX7_die_49 : decode cX7_die 49 = .ok (.iconst 2, 1) := by decide +kernel
theorem dX7_die_50 : decode cX7_die 50 = .ok (.invokevirtual 31, 3) := by decide +kernel
theorem dX7_die_53 : decode cX7_die 53 = .ok (.ireturn, 1) := by decide +kernel
theorem dX7_die_54 : decode cX7_die 54 = .ok (.iload_n 2, 1) := by decide +kernel
theorem dX7_die_55 : decode cX7_die 55 = .ok (.iload_n 3, 1) := by decide +kernel
theorem dX7_die_56 : decode cX7_die 56 = .ok (.iadd, 1) := by decide +kernel
theorem dX7_die_57 : decode cX7_die 57 = .ok (.istore 4, 2) := by decide +kernel
theorem dX7_die_59 : decode cX7_die 59 = .ok (.aload_n 0, 1) := by decide +kernel
theorem dX7_die_60 : decode cX7_die 60 = .ok (.getfield 10, 3) := by decide +kernel
theorem dX7_die_63 : decode cX7_die 63 = .ok (.getfield 20, 3) := by decide +kernel
theorem dX7_die_66 : decode cX7_die 66 = .ok (.iload 4, 2) := by decide +kernel
theorem dX7_die_68 : decode cX7_die 68 = .ok (.iadd, 1) := by decide +kernel
theorem dX7_die_69 : decode cX7_die 69 = .ok (.bipush 10, 2) := by decide +kernel
theorem dX7_die_71 : decode cX7_die 71 = .ok (.if_icmp .le 9, 3) := by decide +kernel
theorem dX7_die_74 : decode cX7_die 74 = .ok (.aload_n 0, 1) := by decide +kernel
theorem dX7_die_75 : decode cX7_die 75 = .ok (.iconst 3, 1) := by decide +kernel
theorem dX7_die_76 : decode cX7_die 76 = .ok (.invokevirtual 31, 3) := by decide +kernel
theorem dX7_die_79 : decode cX7_die 79 = .ok (.ireturn, 1) := by decide +kernel
theorem dX7_die_80 : decode cX7_die 80 = .ok (.iconst 2, 1) := by decide +kernel
theorem dX7_die_81 : decode cX7_die 81 = .ok (.iload_n 2, 1) := by decide +kernel
theorem dX7_die_82 : decode cX7_die 82 = .ok (.imul, 1) := by decide +kernel
theorem dX7_die_83 : decode cX7_die 83 = .ok (.iload_n 3, 1) := by decide +kernel
theorem dX7_die_84 : decode cX7_die 84 = .ok (.iadd, 1) := by decide +kernel
theorem dX7_die_85 : decode cX7_die 85 = .ok (.istore 5, 2) := by decide +kernel
theorem dX7_die_87 : decode cX7_die 87 = .ok (.aload_n 0, 1) := by decide +kernel
theorem dX7_die_88 : decode cX7_die 88 = .ok (.iload_n 1, 1) := by decide +kernel
theorem dX7_die_89 : decode cX7_die 89 = .ok (.invokevirtual 39, 3) := by decide +kernel
theorem dX7_die_92 : decode cX7_die 92 = .ok (.astore 6, 2) := by decide +kernel
theorem dX7_die_94 : decode cX7_die 94 = .ok (.aload_n 0, 1) := by decide +kernel
theorem dX7_die_95 : decode cX7_die 95 = .ok (.getfield 10, 3) := by decide +kernel
theorem dX7_die_98 : decode cX7_die 98 = .ok (.getfield 20, 3) := by decide +kernel
theorem dX7_die_101 : decode cX7_die 101 = .ok (.istore 7, 2) := by decide +kernel
theorem dX7_die_103 : decode cX7_die 103 = .ok (.iconst 0, 1) := by decide +kernel
theorem dX7_die_104 : decode cX7_die 104 = .ok (.istore 8, 2) := by decide +kernel
theorem dX7_die_106 : decode cX7_die 106 = .ok (.iload 8, 2) := by decide +kernel
theorem dX7_die_108 : decode cX7_die 108 = .ok (.bipush 7, 2) := by decide +kernel
theorem dX7_die_110 : decode cX7_die 110 = .ok (.if_icmp .ge 130, 3) := by decide +kernel
theorem dX7_die_113 : decode cX7_die 113 = .ok (.iload 8, 2) := by decide +kernel
theorem dX7_die_115 : decode cX7_die 115 = .ok (.iconst 4, 1) := by decide +kernel
theorem dX7_die_116 : decode cX7_die 116 = .ok (.if_icmp .eq 118, 3) := by decide +kernel
theorem dX7_die_119 : decode cX7_die 119 = .ok (.iload 8, 2) := by decide +kernel
theorem dX7_die_121 : decode cX7_die 121 = .ok (.iconst 5, 1) := by decide +kernel
theorem dX7_die_122 : decode cX7_die 122 = .ok (.if_icmp .ne 6, 3) := by decide +kernel
theorem dX7_die_125 : decode cX7_die 125 = .ok (.goto 109, 3) := by decide +kernel
theorem dX7_die_128 : decode cX7_die 128 = .ok (.aload 6, 2) := by decide +kernel
theorem dX7_die_130 : decode cX7_die 130 = .ok (.iload 8, 2) := by decide +kernel
theorem dX7_die_132 : decode cX7_die 132 = .ok (.iaload, 1) := by decide +kernel
theorem dX7_die_133 : decode cX7_die 133 = .ok (.istore 9, 2) := by decide +kernel
theorem dX7_die_135 : decode cX7_die 135 = .ok (.iconst 0, 1) := by decide +kernel
theorem dX7_die_136 : decode cX7_die 136 = .ok (.istore 10, 2) := by decide +kernel
theorem dX7_die_138 : decode cX7_die 138 = .ok (.iload 10, 2) := by decide +kernel
theorem dX7_die_140 : decode cX7_die 140 = .ok (.iload 4, 2) := by decide +kernel
theorem dX7_die_142 : decode cX7_die 142 = .ok (.if_icmp .ge 60, 3) := by decide +kernel
theorem dX7_die_145 : decode cX7_die 145 = .ok (.aload_n 0, 1) := by decide +kernel
theorem dX7_die_146 : decode cX7_die 146 = .ok (.iload 7, 2) := by decide +kernel
theorem dX7_die_148 : decode cX7_die 148 = .ok (.iload 10, 2) := by decide +kernel
theorem dX7_die_150 : decode cX7_die 150 = .ok (.iadd, 1) := by decide +kernel
theorem dX7_die_151 : decode cX7_die 151 = .ok (.invokevirtual 39, 3) := by decide +kernel
theorem dX7_die_154 : decode cX7_die 154 = .ok (.iload 8, 2) := by decide +kernel
theorem dX7_die_156 : decode cX7_die 156 = .ok (.aload 6, 2) := by decide +kernel
theorem dX7_die_158 : decode cX7_die 158 = .ok (.iload 8, 2) := by decide +kernel
theorem dX7_die_160 : decode cX7_die 160 = .ok (.iaload, 1) := by decide +kernel
theorem dX7_die_161 : decode cX7_die 161 = .ok (.iload 10, 2) := by decide +kernel
theorem dX7_die_163 : decode cX7_die 163 = .ok (.iload_n 2, 1) := by decide +kernel
theorem dX7_die_164 : decode cX7_die 164 = .ok (.if_icmp .ge 7, 3) := by decide +kernel
theorem dX7_die_167 : decode cX7_die 167 = .ok (.iconst 2, 1) := by decide +kernel
theorem dX7_die_168 : decode cX7_die 168 = .ok (.goto 4, 3) := by decide +kernel
theorem dX7_die_171 : decode cX7_die 171 = .ok (.iconst 1, 1) := by decide +kernel
theorem dX7_die_172 : decode cX7_die 172 = .ok (.imul, 1) := by decide +kernel
theorem dX7_die_173 : decode cX7_die 173 = .ok (.iload 5, 2) := by decide +kernel
theorem dX7_die_175 : decode cX7_die 175 = .ok (.invokestatic 69, 3) := by decide +kernel
theorem dX7_die_178 : decode cX7_die 178 = .ok (.iastore, 1) := by decide +kernel
theorem dX7_die_179 : decode cX7_die 179 = .ok (.iload 9, 2) := by decide +kernel
theorem dX7_die_181 : decode cX7_die 181 = .ok (.aload_n 0, 1) := by decide +kernel
theorem dX7_die_182 : decode cX7_die 182 = .ok (.iload 7, 2) := by decide +kernel
theorem dX7_die_184 : decode cX7_die 184 = .ok (.iload 10, 2) := by decide +kernel
theorem dX7_die_186 : decode cX7_die 186 = .ok (.iadd, 1) := by decide +kernel
theorem dX7_die_187 : decode cX7_die 187 = .ok (.invokevirtual 39, 3) := by decide +kernel
theorem dX7_die_190 : decode cX7_die 190 = .ok (.iload 8, 2) := by decide +kernel
theorem dX7_die_192 : decode cX7_die 192 = .ok (.iaload, 1) := by decide +kernel
theorem dX7_die_193 : decode cX7_die 193 = .ok (.isub, 1) := by decide +kernel
theorem dX7_die_194 : decode cX7_die 194 = .ok (.istore 9, 2) := by decide +kernel
theorem dX7_die_196 : decode cX7_die 196 = .ok (.iinc 10 1, 3) := by decide +kernel
theorem dX7_die_199 : decode cX7_die 199 = .ok (.goto (-61), 3) := by decide +kernel
theorem dX7_die_202 : decode cX7_die 202 = .ok (.iconst 0, 1) := by decide +kernel
theorem dX7_die_203 : decode cX7_die 203 = .ok (.istore 10, 2) := by decide +kernel
theorem dX7_die_205 : decode cX7_die 205 = .ok (.iload 10, 2) := by decide +kernel
theorem dX7_die_207 : decode cX7_die 207 = .ok (.iload 9, 2) := by decide +kernel
theorem dX7_die_209 : decode cX7_die 209 = .ok (.if_icmp .ge 25, 3) := by decide +kernel
theorem dX7_die_212 : decode cX7_die 212 = .ok (.aload_n 0, 1) := by decide +kernel
theorem dX7_die_213 : decode cX7_die 213 = .ok (.iload 7, 2) := by decide +kernel
theorem dX7_die_215 : decode cX7_die 215 = .ok (.iload 10, 2) := by decide +kernel
theorem dX7_die_217 : decode cX7_die 217 = .ok (.iadd, 1) := by decide +kernel
theorem dX7_die_218 : decode cX7_die 218 = .ok (.invokevirtual 39, 3) := by decide +kernel
theorem dX7_die_221 : decode cX7_die 221 = .ok (.iload 8, 2) := by decide +kernel
theorem dX7_die_223 : decode cX7_die 223 = .ok (.dup2, 1) := by decide +kernel
theorem dX7_die_224 : decode cX7_die 224 = .ok (.iaload, 1) := by decide +kernel
theorem dX7_die_225 : decode cX7_die 225 = .ok (.iconst 1, 1) := by decide +kernel
theorem dX7_die_226 : decode cX7_die 226 = .ok (.iadd, 1) := by decide +kernel
theorem dX7_die_227 : decode cX7_die 227 = .ok (.iastore, 1) := by decide +kernel
theorem dX7_die_228 : decode cX7_die 228 = .ok (.iinc 10 1, 3) := by decide +kernel
theorem dX7_die_231 : decode cX7_die 231 = .ok (.goto (-26), 3) := by decide +kernel
theorem dX7_die_234 : decode cX7_die 234 = .ok (.iinc 8 1, 3) := by decide +kernel
theorem dX7_die_237 : decode cX7_die 237 = .ok (.goto (-131), 3) := by decide +kernel
theorem dX7_die_240 : decode cX7_die 240 = .ok (.iconst 0, 1) := by decide +kernel
theorem dX7_die_241 : decode cX7_die 241 = .ok (.istore 8, 2) := by decide +kernel
theorem dX7_die_243 : decode cX7_die 243 = .ok (.iload 8, 2) := by decide +kernel
theorem dX7_die_245 : decode cX7_die 245 = .ok (.iload 4, 2) := by decide +kernel
theorem dX7_die_247 : decode cX7_die 247 = .ok (.if_icmp .ge 52, 3) := by decide +kernel
theorem dX7_die_250 : decode cX7_die 250 = .ok (.aload_n 0, 1) := by decide +kernel
theorem dX7_die_251 : decode cX7_die 251 = .ok (.iload 7, 2) := by decide +kernel
theorem dX7_die_253 : decode cX7_die 253 = .ok (.iload 8, 2) := by decide +kernel
theorem dX7_die_255 : decode cX7_die 255 = .ok (.iadd, 1) := by decide +kernel
theorem dX7_die_256 : decode cX7_die 256 = .ok (.invokevirtual 39, 3) := by decide +kernel
theorem dX7_die_259 : decode cX7_die 259 = .ok (.iconst 4, 1) := by decide +kernel
theorem dX7_die_260 : decode cX7_die 260 = .ok (.aload 6, 2) := by decide +kernel
theorem dX7_die_262 : decode cX7_die 262 = .ok (.iconst 4, 1) := by decide +kernel
theorem dX7_die_263 : decode cX7_die 263 = .ok (.iaload, 1) := by decide +kernel
theorem dX7_die_264 : decode cX7_die 264 = .ok (.iastore, 1) := by decide +kernel
theorem dX7_die_265 : decode cX7_die 265 = .ok (.aload_n 0, 1) := by decide +kernel
theorem dX7_die_266 : decode cX7_die 266 = .ok (.iload 7, 2) := by decide +kernel
theorem dX7_die_268 : decode cX7_die 268 = .ok (.iload 8, 2) := by decide +kernel
theorem dX7_die_270 : decode cX7_die 270 = .ok (.iadd, 1) := by decide +kernel
theorem dX7_die_271 : decode cX7_die 271 = .ok (.invokevirtual 39, 3) := by decide +kernel
theorem dX7_die_274 : decode cX7_die 274 = .ok (.iconst 5, 1) := by decide +kernel
theorem dX7_die_275 : decode cX7_die 275 = .ok (.aload 6, 2) := by decide +kernel
theorem dX7_die_277 : decode cX7_die 277 = .ok (.iconst 5, 1) := by decide +kernel
theorem dX7_die_278 : decode cX7_die 278 = .ok (.iaload, 1) := by decide +kernel
theorem dX7_die_279 : decode cX7_die 279 = .ok (.iastore, 1) := by decide +kernel
theorem dX7_die_280 : decode cX7_die 280 = .ok (.aload_n 0, 1) := by decide +kernel
theorem dX7_die_281 : decode cX7_die 281 = .ok (.iload 7, 2) := by decide +kernel
theorem dX7_die_283 : decode cX7_die 283 = .ok (.iload 8, 2) := by decide +kernel
theorem dX7_die_285 : decode cX7_die 285 = .ok (.iadd, 1) := by decide +kernel
theorem dX7_die_286 : decode cX7_die 286 = .ok (.invokevirtual 39, 3) := by decide +kernel
theorem dX7_die_289 : decode cX7_die 289 = .ok (.bipush 11, 2) := by decide +kernel
theorem dX7_die_291 : decode cX7_die 291 = .ok (.iconst 1, 1) := by decide +kernel
theorem dX7_die_292 : decode cX7_die 292 = .ok (.iastore, 1) := by decide +kernel
theorem dX7_die_293 : decode cX7_die 293 = .ok (.iinc 8 1, 3) := by decide +kernel
theorem dX7_die_296 : decode cX7_die 296 = .ok (.goto (-53), 3) := by decide +kernel
theorem dX7_die_299 : decode cX7_die 299 = .ok (.aload 6, 2) := by decide +kernel
theorem dX7_die_301 : decode cX7_die 301 = .ok (.bipush 11, 2) := by decide +kernel
theorem dX7_die_303 : decode cX7_die 303 = .ok (.iconst 0, 1) := by decide +kernel
theorem dX7_die_304 : decode cX7_die 304 = .ok (.iastore, 1) := by decide +kernel
theorem dX7_die_305 : decode cX7_die 305 = .ok (.aload_n 0, 1) := by decide +kernel
theorem dX7_die_306 : decode cX7_die 306 = .ok (.getfield 10, 3) := by decide +kernel
theorem dX7_die_309 : decode cX7_die 309 = .ok (.iload_n 1, 1) := by decide +kernel
theorem dX7_die_310 : decode cX7_die 310 = .ok (.invokevirtual 73, 3) := by decide +kernel
theorem dX7_die_313 : decode cX7_die 313 = .ok (.istore 8, 2) := by decide +kernel
theorem dX7_die_315 : decode cX7_die 315 = .ok (.aload_n 0, 1) := by decide +kernel
theorem dX7_die_316 : decode cX7_die 316 = .ok (.getfield 10, 3) := by decide +kernel
theorem dX7_die_319 : decode cX7_die 319 = .ok (.getfield 49, 3) := by decide +kernel
theorem dX7_die_322 : decode cX7_die 322 = .ok (.iload 8, 2) := by decide +kernel
theorem dX7_die_324 : decode cX7_die 324 = .ok (.iconst 1, 1) := by decide +kernel
theorem dX7_die_325 : decode cX7_die 325 = .ok (.iadd, 1) := by decide +kernel
theorem dX7_die_326 : decode cX7_die 326 = .ok (.aload_n 0, 1) := by decide +kernel
theorem dX7_die_327 : decode cX7_die 327 = .ok (.getfield 10, 3) := by decide +kernel
theorem dX7_die_330 : decode cX7_die 330 = .ok (.getfield 49, 3) := by decide +kernel
theorem dX7_die_333 : decode cX7_die 333 = .ok (.iload 8, 2) := by decide +kernel
theorem dX7_die_335 : decode cX7_die 335 = .ok (.iload 4, 2) := by decide +kernel
theorem dX7_die_337 : decode cX7_die 337 = .ok (.iadd, 1) := by decide +kernel
theorem dX7_die_338 : decode cX7_die 338 = .ok (.aload_n 0, 1) := by decide +kernel
theorem dX7_die_339 : decode cX7_die 339 = .ok (.getfield 10, 3) := by decide +kernel
theorem dX7_die_342 : decode cX7_die 342 = .ok (.getfield 53, 3) := by decide +kernel
theorem dX7_die_345 : decode cX7_die 345 = .ok (.iload 8, 2) := by decide +kernel
theorem dX7_die_347 : decode cX7_die 347 = .ok (.isub, 1) := by decide +kernel
theorem dX7_die_348 : decode cX7_die 348 = .ok (.iconst 1, 1) := by decide +kernel
theorem dX7_die_349 : decode cX7_die 349 = .ok (.isub, 1) := by decide +kernel
theorem dX7_die_350 : decode cX7_die 350 = .ok (.invokestatic 43, 3) := by decide +kernel
theorem dX7_die_353 : decode cX7_die 353 = .ok (.iconst 0, 1) := by decide +kernel
theorem dX7_die_354 : decode cX7_die 354 = .ok (.istore 9, 2) := by decide +kernel
theorem dX7_die_356 : decode cX7_die 356 = .ok (.iload 9, 2) := by decide +kernel
theorem dX7_die_358 : decode cX7_die 358 = .ok (.iload 4, 2) := by decide +kernel
theorem dX7_die_360 : decode cX7_die 360 = .ok (.if_icmp .ge 27, 3) := by decide +kernel
theorem dX7_die_363 : decode cX7_die 363 = .ok (.aload_n 0, 1) := by decide +kernel
theorem dX7_die_364 : decode cX7_die 364 = .ok (.getfield 10, 3) := by decide +kernel
theorem dX7_die_367 : decode cX7_die 367 = .ok (.getfield 49, 3) := by decide +kernel
theorem dX7_die_370 : decode cX7_die 370 = .ok (.iload 8, 2) := by decide +kernel
theorem dX7_die_372 : decode cX7_die 372 = .ok (.iload 9, 2) := by decide +kernel
theorem dX7_die_374 : decode cX7_die 374 = .ok (.iadd, 1) := by decide +kernel
theorem dX7_die_375 : decode cX7_die 375 = .ok (.iload 7, 2) := by decide +kernel
theorem dX7_die_377 : decode cX7_die 377 = .ok (.iload 9, 2) := by decide +kernel
theorem dX7_die_379 : decode cX7_die 379 = .ok (.iadd, 1) := by decide +kernel
theorem dX7_die_380 : decode cX7_die 380 = .ok (.iastore, 1) := by decide +kernel
theorem dX7_die_381 : decode cX7_die 381 = .ok (.iinc 9 1, 3) := by decide +kernel
theorem dX7_die_384 : decode cX7_die 384 = .ok (.goto (-28), 3) := by decide +kernel
theorem dX7_die_387 : decode cX7_die 387 = .ok (.aload_n 0, 1) := by decide +kernel
theorem dX7_die_388 : decode cX7_die 388 = .ok (.getfield 10, 3) := by decide +kernel
theorem dX7_die_391 : decode cX7_die 391 = .ok (.dup, 1) := by decide +kernel
theorem dX7_die_392 : decode cX7_die 392 = .ok (.getfield 53, 3) := by decide +kernel
theorem dX7_die_395 : decode cX7_die 395 = .ok (.iload 4, 2) := by decide +kernel
theorem dX7_die_397 : decode cX7_die 397 = .ok (.iconst 1, 1) := by decide +kernel
theorem dX7_die_398 : decode cX7_die 398 = .ok (.isub, 1) := by decide +kernel
theorem dX7_die_399 : decode cX7_die 399 = .ok (.iadd, 1) := by decide +kernel
theorem dX7_die_400 : decode cX7_die 400 = .ok (.putfield 53, 3) := by decide +kernel
theorem dX7_die_403 : decode cX7_die 403 = .ok (.aload_n 0, 1) := by decide +kernel
theorem dX7_die_404 : decode cX7_die 404 = .ok (.getfield 10, 3) := by decide +kernel
theorem dX7_die_407 : decode cX7_die 407 = .ok (.dup, 1) := by decide +kernel
theorem dX7_die_408 : decode cX7_die 408 = .ok (.getfield 20, 3) := by decide +kernel
theorem dX7_die_411 : decode cX7_die 411 = .ok (.iload 4, 2) := by decide +kernel
theorem dX7_die_413 : decode cX7_die 413 = .ok (.iadd, 1) := by decide +kernel
theorem dX7_die_414 : decode cX7_die 414 = .ok (.putfield 20, 3) := by decide +kernel
theorem dX7_die_417 : decode cX7_die 417 = .ok (.iconst 0, 1) := by decide +kernel
theorem dX7_die_418 : decode cX7_die 418 = .ok (.istore 9, 2) := by decide +kernel
theorem dX7_die_420 : decode cX7_die 420 = .ok (.iconst 0, 1) := by decide +kernel
theorem dX7_die_421 : decode cX7_die 421 = .ok (.istore 10, 2) := by decide +kernel
theorem dX7_die_423 : decode cX7_die 423 = .ok (.iload 10, 2) := by decide +kernel
theorem dX7_die_425 : decode cX7_die 425 = .ok (.aload_n 0, 1) := by decide +kernel
theorem dX7_die_426 : decode cX7_die 426 = .ok (.getfield 10, 3) := by decide +kernel
theorem dX7_die_429 : decode cX7_die 429 = .ok (.getfield 63, 3) := by decide +kernel
theorem dX7_die_432 : decode cX7_die 432 = .ok (.if_icmp .ge 75, 3) := by decide +kernel
theorem dX7_die_435 : decode cX7_die 435 = .ok (.aload_n 0, 1) := by decide +kernel
theorem dX7_die_436 : decode cX7_die 436 = .ok (.getfield 10, 3) := by decide +kernel
theorem dX7_die_439 : decode cX7_die 439 = .ok (.getfield 66, 3) := by decide +kernel
theorem dX7_die_442 : decode cX7_die 442 = .ok (.iload 10, 2) := by decide +kernel
theorem dX7_die_444 : decode cX7_die 444 = .ok (.aaload, 1) := by decide +kernel
theorem dX7_die_445 : decode cX7_die 445 = .ok (.astore 11, 2) := by decide +kernel
theorem dX7_die_447 : decode cX7_die 447 = .ok (.aload 11, 2) := by decide +kernel
theorem dX7_die_449 : decode cX7_die 449 = .ok (.iconst 0, 1) := by decide +kernel
theorem dX7_die_450 : decode cX7_die 450 = .ok (.iaload, 1) := by decide +kernel
theorem dX7_die_451 : decode cX7_die 451 = .ok (.iload_n 1, 1) := by decide +kernel
theorem dX7_die_452 : decode cX7_die 452 = .ok (.if_icmp .eq 49, 3) := by decide +kernel
theorem dX7_die_455 : decode cX7_die 455 = .ok (.aload 11, 2) := by decide +kernel
theorem dX7_die_457 : decode cX7_die 457 = .ok (.iconst 1, 1) := by decide +kernel
theorem dX7_die_458 : decode cX7_die 458 = .ok (.iaload, 1) := by decide +kernel
theorem dX7_die_459 : decode cX7_die 459 = .ok (.iload_n 1, 1) := by decide +kernel
theorem dX7_die_460 : decode cX7_die 460 = .ok (.if_icmp .ne 6, 3) := by decide +kernel
theorem dX7_die_463 : decode cX7_die 463 = .ok (.goto 38, 3) := by decide +kernel
theorem dX7_die_466 : decode cX7_die 466 = .ok (.aload_n 0, 1) := by decide +kernel
theorem dX7_die_467 : decode cX7_die 467 = .ok (.getfield 10, 3) := by decide +kernel
theorem dX7_die_470 : decode cX7_die 470 = .ok (.getfield 66, 3) := by decide +kernel
theorem dX7_die_473 : decode cX7_die 473 = .ok (.iload 10, 2) := by decide +kernel
theorem dX7_die_475 : decode cX7_die 475 = .ok (.aload_n 0, 1) := by decide +kernel
theorem dX7_die_476 : decode cX7_die 476 = .ok (.getfield 10, 3) := by decide +kernel
theorem dX7_die_479 : decode cX7_die 479 = .ok (.getfield 66, 3) := by decide +kernel
theorem dX7_die_482 : decode cX7_die 482 = .ok (.iload 9, 2) := by decide +kernel
theorem dX7_die_484 : decode cX7_die 484 = .ok (.aaload, 1) := by decide +kernel
theorem dX7_die_485 : decode cX7_die 485 = .ok (.aastore, 1) := by decide +kernel
theorem dX7_die_486 : decode cX7_die 486 = .ok (.aload_n 0, 1) := by decide +kernel
theorem dX7_die_487 : decode cX7_die 487 = .ok (.getfield 10, 3) := by decide +kernel
theorem dX7_die_490 : decode cX7_die 490 = .ok (.getfield 66, 3) := by decide +kernel
theorem dX7_die_493 : decode cX7_die 493 = .ok (.iload 9, 2) := by decide +kernel
theorem dX7_die_495 : decode cX7_die 495 = .ok (.iinc 9 1, 3) := by decide +kernel
theorem dX7_die_498 : decode cX7_die 498 = .ok (.aload 11, 2) := by decide +kernel
theorem dX7_die_500 : decode cX7_die 500 = .ok (.aastore, 1) := by decide +kernel
theorem dX7_die_501 : decode cX7_die 501 = .ok (.iinc 10 1, 3) := by decide +kernel
theorem dX7_die_504 : decode cX7_die 504 = .ok (.goto (-81), 3) := by decide +kernel
theorem dX7_die_507 : decode cX7_die 507 = .ok (.aload_n 0, 1) := by decide +kernel
theorem dX7_die_508 : decode cX7_die 508 = .ok (.getfield 10, 3) := by decide +kernel
theorem dX7_die_511 : decode cX7_die 511 = .ok (.iload 9, 2) := by decide +kernel
theorem dX7_die_513 : decode cX7_die 513 = .ok (.putfield 63, 3) := by decide +kernel
theorem dX7_die_516 : decode cX7_die 516 = .ok (.iconst 0, 1) := by decide +kernel
theorem dX7_die_517 : decode cX7_die 517 = .ok (.istore 10, 2) := by decide +kernel
theorem dX7_die_519 : decode cX7_die 519 = .ok (.iload 10, 2) := by decide +kernel
theorem dX7_die_521 : decode cX7_die 521 = .ok (.aload_n 0, 1) := by decide +kernel
theorem dX7_die_522 : decode cX7_die 522 = .ok (.getfield 10, 3) := by decide +kernel
theorem dX7_die_525 : decode cX7_die 525 = .ok (.getfield 76, 3) := by decide +kernel
theorem dX7_die_528 : decode cX7_die 528 = .ok (.if_icmp .ge 56, 3) := by decide +kernel
theorem dX7_die_531 : decode cX7_die 531 = .ok (.iconst 0, 1) := by decide +kernel
theorem dX7_die_532 : decode cX7_die 532 = .ok (.istore 11, 2) := by decide +kernel
theorem dX7_die_534 : decode cX7_die 534 = .ok (.iload 11, 2) := by decide +kernel
theorem dX7_die_536 : decode cX7_die 536 = .ok (.iconst 2, 1) := by decide +kernel
theorem dX7_die_537 : decode cX7_die 537 = .ok (.if_icmp .ge 41, 3) := by decide +kernel
theorem dX7_die_540 : decode cX7_die 540 = .ok (.aload_n 0, 1) := by decide +kernel
theorem dX7_die_541 : decode cX7_die 541 = .ok (.getfield 10, 3) := by decide +kernel
theorem dX7_die_544 : decode cX7_die 544 = .ok (.getfield 79, 3) := by decide +kernel
theorem dX7_die_547 : decode cX7_die 547 = .ok (.iload 10, 2) := by decide +kernel
theorem dX7_die_549 : decode cX7_die 549 = .ok (.aaload, 1) := by decide +kernel
theorem dX7_die_550 : decode cX7_die 550 = .ok (.iload 11, 2) := by decide +kernel
theorem dX7_die_552 : decode cX7_die 552 = .ok (.iaload, 1) := by decide +kernel
theorem dX7_die_553 : decode cX7_die 553 = .ok (.iload_n 1, 1) := by decide +kernel
theorem dX7_die_554 : decode cX7_die 554 = .ok (.if_icmp .ne 18, 3) := by decide +kernel
theorem dX7_die_557 : decode cX7_die 557 = .ok (.aload_n 0, 1) := by decide +kernel
theorem dX7_die_558 : decode cX7_die 558 = .ok (.getfield 10, 3) := by decide +kernel
theorem dX7_die_561 : decode cX7_die 561 = .ok (.getfield 79, 3) := by decide +kernel
theorem dX7_die_564 : decode cX7_die 564 = .ok (.iload 10, 2) := by decide +kernel
theorem dX7_die_566 : decode cX7_die 566 = .ok (.aaload, 1) := by decide +kernel
theorem dX7_die_567 : decode cX7_die 567 = .ok (.iload 11, 2) := by decide +kernel
theorem dX7_die_569 : decode cX7_die 569 = .ok (.iload 7, 2) := by decide +kernel
theorem dX7_die_571 : decode cX7_die 571 = .ok (.iastore, 1) := by decide +kernel
theorem dX7_die_572 : decode cX7_die 572 = .ok (.iinc 11 1, 3) := by decide +kernel
theorem dX7_die_575 : decode cX7_die 575 = .ok (.goto (-41), 3) := by decide +kernel
theorem dX7_die_578 : decode cX7_die 578 = .ok (.iinc 10 1, 3) := by decide +kernel
theorem dX7_die_581 : decode cX7_die 581 = .ok (.goto (-62), 3) := by decide +kernel
theorem dX7_die_584 : decode cX7_die 584 = .ok (.iload 7, 2) := by decide +kernel
theorem dX7_die_586 : decode cX7_die 586 = .ok (.ireturn, 1) := by decide +kernel
theorem dX7_pay_0 : decode cX7_pay 0 = .ok (.aload_n 0, 1) := by decide +kernel
theorem dX7_pay_1 : decode cX7_pay 1 = .ok (.getfield 10, 3) := by decide +kernel
theorem dX7_pay_4 : decode cX7_pay 4 = .ok (.invokevirtual 35, 3) := by decide +kernel
theorem dX7_pay_7 : decode cX7_pay 7 = .ok (.istore_n 2, 1) := by decide +kernel
theorem dX7_pay_8 : decode cX7_pay 8 = .ok (.iload_n 1, 1) := by decide +kernel
theorem dX7_pay_9 : decode cX7_pay 9 = .ok (.istore_n 3, 1) := by decide +kernel
theorem dX7_pay_10 : decode cX7_pay 10 = .ok (.iconst 0, 1) := by decide +kernel
theorem dX7_pay_11 : decode cX7_pay 11 = .ok (.istore 4, 2) := by decide +kernel
theorem dX7_pay_13 : decode cX7_pay 13 = .ok (.iload 4, 2) := by decide +kernel
theorem dX7_pay_15 : decode cX7_pay 15 = .ok (.aload_n 0, 1) := by decide +kernel
theorem dX7_pay_16 : decode cX7_pay 16 = .ok (.getfield 10, 3) := by decide +kernel
theorem dX7_pay_19 : decode cX7_pay 19 = .ok (.getfield 53, 3) := by decide +kernel
theorem dX7_pay_22 : decode cX7_pay 22 = .ok (.if_icmp .ge 51, 3) := by decide +kernel
theorem dX7_pay_25 : decode cX7_pay 25 = .ok (.aload_n 0, 1) := by decide +kernel
theorem dX7_pay_26 : decode cX7_pay 26 = .ok (.aload_n 0, 1) := by decide +kernel
theorem dX7_pay_27 : decode cX7_pay 27 = .ok (.getfield 10, 3) := by decide +kernel
theorem dX7_pay_30 : decode cX7_pay 30 = .ok (.getfield 49, 3) := by decide +kernel
theorem dX7_pay_33 : decode cX7_pay 33 = .ok (.iload 4, 2) := by decide +kernel
theorem dX7_pay_35 : decode cX7_pay 35 = .ok (.iaload, 1) := by decide +kernel
theorem dX7_pay_36 : decode cX7_pay 36 = .ok (.invokevirtual 39, 3) := by decide +kernel
theorem dX7_pay_39 : decode cX7_pay 39 = .ok (.astore 5, 2) := by decide +kernel
theorem dX7_pay_41 : decode cX7_pay 41 = .ok (.aload 5, 2) := by decide +kernel
theorem dX7_pay_43 : decode cX7_pay 43 = .ok (.iconst 1, 1) := by decide +kernel
theorem dX7_pay_44 : decode cX7_pay 44 = .ok (.dup2, 1) := by decide +kernel
theorem dX7_pay_45 : decode cX7_pay 45 = .ok (.iaload, 1) := by decide +kernel
theorem dX7_pay_46 : decode cX7_pay 46 = .ok (.iload_n 1, 1) := by decide +kernel
theorem dX7_pay_47 : decode cX7_pay 47 = .ok (.aload 5, 2) := by decide +kernel
theorem dX7_pay_49 : decode cX7_pay 49 = .ok (.iconst 0, 1) := by decide +kernel
theorem dX7_pay_50 : decode cX7_pay 50 = .ok (.iaload, 1) := by decide +kernel
theorem dX7_pay_51 : decode cX7_pay 51 = .ok (.imul, 1) := by decide +kernel
theorem dX7_pay_52 : decode cX7_pay 52 = .ok (.iload_n 2, 1) := by decide +kernel
theorem dX7_pay_53 : decode cX7_pay 53 = .ok (.idiv, 1) := by decide +kernel
theorem dX7_pay_54 : decode cX7_pay 54 = .ok (.isub, 1) := by decide +kernel
theorem dX7_pay_55 : decode cX7_pay 55 = .ok (.iastore, 1) := by decide +kernel
theorem dX7_pay_56 : decode cX7_pay 56 = .ok (.iload_n 3, 1) := by decide +kernel
theorem dX7_pay_57 : decode cX7_pay 57 = .ok (.iload_n 1, 1) := by decide +kernel
theorem dX7_pay_58 : decode cX7_pay 58 = .ok (.aload 5, 2) := by decide +kernel
theorem dX7_pay_60 : decode cX7_pay 60 = .ok (.iconst 0, 1) := by decide +kernel
theorem dX7_pay_61 : decode cX7_pay 61 = .ok (.iaload, 1) := by decide +kernel
theorem dX7_pay_62 : decode cX7_pay 62 = .ok (.imul, 1) := by decide +kernel
theorem dX7_pay_63 : decode cX7_pay 63 = .ok (.iload_n 2, 1) := by decide +kernel
theorem dX7_pay_64 : decode cX7_pay 64 = .ok (.idiv, 1) := by decide +kernel
theorem dX7_pay_65 : decode cX7_pay 65 = .ok (.isub, 1) := by decide +kernel
theorem dX7_pay_66 : decode cX7_pay 66 = .ok (.istore_n 3, 1) := by decide +kernel
theorem dX7_pay_67 : decode cX7_pay 67 = .ok (.iinc 4 1, 3) := by decide +kernel
theorem dX7_pay_70 : decode cX7_pay 70 = .ok (.goto (-57), 3) := by decide +kernel
theorem dX7_pay_73 : decode cX7_pay 73 = .ok (.aload_n 0, 1) := by decide +kernel
theorem dX7_pay_74 : decode cX7_pay 74 = .ok (.aload_n 0, 1) := by decide +kernel
theorem dX7_pay_75 : decode cX7_pay 75 = .ok (.getfield 10, 3) := by decide +kernel
theorem dX7_pay_78 : decode cX7_pay 78 = .ok (.getfield 49, 3) := by decide +kernel
theorem dX7_pay_81 : decode cX7_pay 81 = .ok (.iconst 0, 1) := by decide +kernel
theorem dX7_pay_82 : decode cX7_pay 82 = .ok (.iaload, 1) := by decide +kernel
theorem dX7_pay_83 : decode cX7_pay 83 = .ok (.invokevirtual 39, 3) := by decide +kernel
theorem dX7_pay_86 : decode cX7_pay 86 = .ok (.iconst 1, 1) := by decide +kernel
theorem dX7_pay_87 : decode cX7_pay 87 = .ok (.dup2, 1) := by decide +kernel
theorem dX7_pay_88 : decode cX7_pay 88 = .ok (.iaload, 1) := by decide +kernel
theorem dX7_pay_89 : decode cX7_pay 89 = .ok (.iload_n 3, 1) := by decide +kernel
theorem dX7_pay_90 : decode cX7_pay 90 = .ok (.isub, 1) := by decide +kernel
theorem dX7_pay_91 : decode cX7_pay 91 = .ok (.iastore, 1) := by decide +kernel
theorem dX7_pay_92 : decode cX7_pay 92 = .ok (.iload_n 1, 1) := by decide +kernel
theorem dX7_pay_93 : decode cX7_pay 93 = .ok (.ireturn, 1) := by decide +kernel
theorem dX7_dig_0 : decode cX7_dig 0 = .ok (.aload_n 0, 1) := by decide +kernel
theorem dX7_dig_1 : decode cX7_dig 1 = .ok (.iconst 0, 1) := by decide +kernel
theorem dX7_dig_2 : decode cX7_dig 2 = .ok (.putfield 16, 3) := by decide +kernel
theorem dX7_dig_5 : decode cX7_dig 5 = .ok (.iload_n 1, 1) := by decide +kernel
theorem dX7_dig_6 : decode cX7_dig 6 = .ok (.iconst 1, 1) := by decide +kernel
theorem dX7_dig_7 : decode cX7_dig 7 = .ok (.bipush 80, 2) := by decide +kernel
theorem dX7_dig_9 : decode cX7_dig 9 = .ok (.invokestatic 23, 3) := by decide +kernel
theorem dX7_dig_12 : decode cX7_dig 12 = .ok (.ifCond .ne 9, 3) := by decide +kernel
theorem dX7_dig_15 : decode cX7_dig 15 = .ok (.aload_n 0, 1) := by decide +kernel
theorem dX7_dig_16 : decode cX7_dig 16 = .ok (.iconst 1, 1) := by decide +kernel
theorem dX7_dig_17 : decode cX7_dig 17 = .ok (.invokevirtual 31, 3) := by decide +kernel
theorem dX7_dig_20 : decode cX7_dig 20 = .ok (.ireturn, 1) := by decide +kernel
theorem dX7_dig_21 : decode cX7_dig 21 = .ok (.aload_n 0, 1) := by decide +kernel
theorem dX7_dig_22 : decode cX7_dig 22 = .ok (.getfield 10, 3) := by decide +kernel
theorem dX7_dig_25 : decode cX7_dig 25 = .ok (.getfield 82, 3) := by decide +kernel
theorem dX7_dig_28 : decode cX7_dig 28 = .ok (.iload_n 1, 1) := by decide +kernel
theorem dX7_dig_29 : decode cX7_dig 29 = .ok (.iadd, 1) := by decide +kernel
theorem dX7_dig_30 : decode cX7_dig 30 = .ok (.bipush 90, 2) := by decide +kernel
theorem dX7_dig_32 : decode cX7_dig 32 = .ok (.if_icmp .gt 13, 3) := by decide +kernel
theorem dX7_dig_35 : decode cX7_dig 35 = .ok (.aload_n 0, 1) := by decide +kernel
theorem dX7_dig_36 : decode cX7_dig 36 = .ok (.getfield 10, 3) := by decide +kernel
theorem dX7_dig_39 : decode cX7_dig 39 = .ok (.invokevirtual 35, 3) := by decide +kernel
theorem dX7_dig_42 : decode cX7_dig 42 = .ok (.ifCond .ne 9, 3) := by decide +kernel
theorem dX7_dig_45 : decode cX7_dig 45 = .ok (.aload_n 0, 1) := by decide +kernel
theorem dX7_dig_46 : decode cX7_dig 46 = .ok (.iconst 2, 1) := by decide +kernel
theorem dX7_dig_47 : decode cX7_dig 47 = .ok (.invokevirtual 31, 3) := by decide +kernel
theorem dX7_dig_50 : decode cX7_dig 50 = .ok (.ireturn, 1) := by decide +kernel
theorem dX7_dig_51 : decode cX7_dig 51 = .ok (.iload_n 1, 1) := by decide +kernel
theorem dX7_dig_52 : decode cX7_dig 52 = .ok (.iconst 5, 1) := by decide +kernel
theorem dX7_dig_53 : decode cX7_dig 53 = .ok (.aload_n 0, 1) := by decide +kernel
theorem dX7_dig_54 : decode cX7_dig 54 = .ok (.getfield 10, 3) := by decide +kernel
theorem dX7_dig_57 : decode cX7_dig 57 = .ok (.getfield 82, 3) := by decide +kernel
theorem dX7_dig_60 : decode cX7_dig 60 = .ok (.bipush 10, 2) := by decide +kernel
theorem dX7_dig_62 : decode cX7_dig 62 = .ok (.idiv, 1) := by decide +kernel
theorem dX7_dig_63 : decode cX7_dig 63 = .ok (.iadd, 1) := by decide +kernel
theorem dX7_dig_64 : decode cX7_dig 64 = .ok (.imul, 1) := by decide +kernel
theorem dX7_dig_65 : decode cX7_dig 65 = .ok (.istore_n 2, 1) := by decide +kernel
theorem dX7_dig_66 : decode cX7_dig 66 = .ok (.aload_n 0, 1) := by decide +kernel
theorem dX7_dig_67 : decode cX7_dig 67 = .ok (.getfield 10, 3) := by decide +kernel
theorem dX7_dig_70 : decode cX7_dig 70 = .ok (.dup, 1) := by decide +kernel
theorem dX7_dig_71 : decode cX7_dig 71 = .ok (.getfield 82, 3) := by decide +kernel
theorem dX7_dig_74 : decode cX7_dig 74 = .ok (.iload_n 1, 1) := by decide +kernel
theorem dX7_dig_75 : decode cX7_dig 75 = .ok (.iadd, 1) := by decide +kernel
theorem dX7_dig_76 : decode cX7_dig 76 = .ok (.putfield 82, 3) := by decide +kernel
theorem dX7_dig_79 : decode cX7_dig 79 = .ok (.aload_n 0, 1) := by decide +kernel
theorem dX7_dig_80 : decode cX7_dig 80 = .ok (.iload_n 2, 1) := by decide +kernel
theorem dX7_dig_81 : decode cX7_dig 81 = .ok (.invokevirtual 85, 3) := by decide +kernel
theorem dX7_dig_84 : decode cX7_dig 84 = .ok (.ireturn, 1) := by decide +kernel
theorem dX7_clean_0 : decode cX7_clean 0 = .ok (.aload_n 0, 1) := by decide +kernel
theorem dX7_clean_1 : decode cX7_clean 1 = .ok (.iconst 0, 1) := by decide +kernel
theorem dX7_clean_2 : decode cX7_clean 2 = .ok (.putfield 16, 3) := by decide +kernel
theorem dX7_clean_5 : decode cX7_clean 5 = .ok (.iload_n 1, 1) := by decide +kernel
theorem dX7_clean_6 : decode cX7_clean 6 = .ok (.iconst 1, 1) := by decide +kernel
theorem dX7_clean_7 : decode cX7_clean 7 = .ok (.bipush 30, 2) := by decide +kernel
theorem dX7_clean_9 : decode cX7_clean 9 = .ok (.invokestatic 23, 3) := by decide +kernel
theorem dX7_clean_12 : decode cX7_clean 12 = .ok (.ifCond .ne 9, 3) := by decide +kernel
theorem dX7_clean_15 : decode cX7_clean 15 = .ok (.aload_n 0, 1) := by decide +kernel
theorem dX7_clean_16 : decode cX7_clean 16 = .ok (.iconst 1, 1) := by decide +kernel
theorem dX7_clean_17 : decode cX7_clean 17 = .ok (.invokevirtual 31, 3) := by decide +kernel
theorem dX7_clean_20 : decode cX7_clean 20 = .ok (.ireturn, 1) := by decide +kernel
theorem dX7_clean_21 : decode cX7_clean 21 = .ok (.iload_n 1, 1) := by decide +kernel
theorem dX7_clean_22 : decode cX7_clean 22 = .ok (.aload_n 0, 1) := by decide +kernel
theorem dX7_clean_23 : decode cX7_clean 23 = .ok (.getfield 10, 3) := by decide +kernel
theorem dX7_clean_26 : decode cX7_clean 26 = .ok (.getfield 88, 3) := by decide +kernel
theorem dX7_clean_29 : decode cX7_clean 29 = .ok (.if_icmp .gt 13, 3) := by decide +kernel
theorem dX7_clean_32 : decode cX7_clean 32 = .ok (.aload_n 0, 1) := by decide +kernel
theorem dX7_clean_33 : decode cX7_clean 33 = .ok (.getfield 10, 3) := by decide +kernel
theorem dX7_clean_36 : decode cX7_clean 36 = .ok (.invokevirtual 35, 3) := by decide +kernel
theorem dX7_clean_39 : decode cX7_clean 39 = .ok (.ifCond .ne 9, 3) := by decide +kernel
theorem dX7_clean_42 : decode cX7_clean 42 = .ok (.aload_n 0, 1) := by decide +kernel
theorem dX7_clean_43 : decode cX7_clean 43 = .ok (.iconst 2, 1) := by decide +kernel
theorem dX7_clean_44 : decode cX7_clean 44 = .ok (.invokevirtual 31, 3) := by decide +kernel
theorem dX7_clean_47 : decode cX7_clean 47 = .ok (.ireturn, 1) := by decide +kernel
theorem dX7_clean_48 : decode cX7_clean 48 = .ok (.aload_n 0, 1) := by decide +kernel
theorem dX7_clean_49 : decode cX7_clean 49 = .ok (.getfield 10, 3) := by decide +kernel
theorem dX7_clean_52 : decode cX7_clean 52 = .ok (.dup, 1) := by decide +kernel
theorem dX7_clean_53 : decode cX7_clean 53 = .ok (.getfield 88, 3) := by decide +kernel
theorem dX7_clean_56 : decode cX7_clean 56 = .ok (.iload_n 1, 1) := by decide +kernel
theorem dX7_clean_57 : decode cX7_clean 57 = .ok (.isub, 1) := by decide +kernel
theorem dX7_clean_58 : decode cX7_clean 58 = .ok (.putfield 88, 3) := by decide +kernel
theorem dX7_clean_61 : decode cX7_clean 61 = .ok (.aload_n 0, 1) := by decide +kernel
theorem dX7_clean_62 : decode cX7_clean 62 = .ok (.iconst 3, 1) := by decide +kernel
theorem dX7_clean_63 : decode cX7_clean 63 = .ok (.iload_n 1, 1) := by decide +kernel
theorem dX7_clean_64 : decode cX7_clean 64 = .ok (.imul, 1) := by decide +kernel
theorem dX7_clean_65 : decode cX7_clean 65 = .ok (.invokevirtual 85, 3) := by decide +kernel
theorem dX7_clean_68 : decode cX7_clean 68 = .ok (.ireturn, 1) := by decide +kernel
theorem dX7_fall_0 : decode cX7_fall 0 = .ok (.aload_n 0, 1) := by decide +kernel
theorem dX7_fall_1 : decode cX7_fall 1 = .ok (.iconst 0, 1) := by decide +kernel
theorem dX7_fall_2 : decode cX7_fall 2 = .ok (.putfield 16, 3) := by decide +kernel
theorem dX7_fall_5 : decode cX7_fall 5 = .ok (.iload_n 1, 1) := by decide +kernel
theorem dX7_fall_6 : decode cX7_fall 6 = .ok (.iconst 1, 1) := by decide +kernel
theorem dX7_fall_7 : decode cX7_fall 7 = .ok (.bipush 30, 2) := by decide +kernel
theorem dX7_fall_9 : decode cX7_fall 9 = .ok (.invokestatic 23, 3) := by decide +kernel
theorem dX7_fall_12 : decode cX7_fall 12 = .ok (.ifCond .ne 9, 3) := by decide +kernel
theorem dX7_fall_15 : decode cX7_fall 15 = .ok (.aload_n 0, 1) := by decide +kernel
theorem dX7_fall_16 : decode cX7_fall 16 = .ok (.iconst 1, 1) := by decide +kernel
theorem dX7_fall_17 : decode cX7_fall 17 = .ok (.invokevirtual 31, 3) := by decide +kernel
theorem dX7_fall_20 : decode cX7_fall 20 = .ok (.ireturn, 1) := by decide +kernel
theorem dX7_fall_21 : decode cX7_fall 21 = .ok (.aload_n 0, 1) := by decide +kernel
theorem dX7_fall_22 : decode cX7_fall 22 = .ok (.getfield 10, 3) := by decide +kernel
theorem dX7_fall_25 : decode cX7_fall 25 = .ok (.bipush 30, 2) := by decide +kernel
theorem dX7_fall_27 : decode cX7_fall 27 = .ok (.aload_n 0, 1) := by decide +kernel
theorem dX7_fall_28 : decode cX7_fall 28 = .ok (.getfield 10, 3) := by decide +kernel
theorem dX7_fall_31 : decode cX7_fall 31 = .ok (.getfield 88, 3) := by decide +kernel
theorem dX7_fall_34 : decode cX7_fall 34 = .ok (.iload_n 1, 1) := by decide +kernel
theorem dX7_fall_35 : decode cX7_fall 35 = .ok (.iadd, 1) := by decide +kernel
theorem dX7_fall_36 : decode cX7_fall 36 = .ok (.invokestatic 91, 3) := by decide +kernel
theorem dX7_fall_39 : decode cX7_fall 39 = .ok (.putfield 88, 3) := by decide +kernel
theorem dX7_fall_42 : decode cX7_fall 42 = .ok (.aload_n 0, 1) := by decide +kernel
theorem dX7_fall_43 : decode cX7_fall 43 = .ok (.getfield 10, 3) := by decide +kernel
theorem dX7_fall_46 : decode cX7_fall 46 = .ok (.getfield 88, 3) := by decide +kernel
theorem dX7_fall_49 : decode cX7_fall 49 = .ok (.ireturn, 1) := by decide +kernel
theorem dX7_pump_0 : decode cX7_pump 0 = .ok (.aload_n 0, 1) := by decide +kernel
theorem dX7_pump_1 : decode cX7_pump 1 = .ok (.iconst 0, 1) := by decide +kernel
theorem dX7_pump_2 : decode cX7_pump 2 = .ok (.putfield 16, 3) := by decide +kernel
theorem dX7_pump_5 : decode cX7_pump 5 = .ok (.iload_n 1, 1) := by decide +kernel
theorem dX7_pump_6 : decode cX7_pump 6 = .ok (.iconst 0, 1) := by decide +kernel
theorem dX7_pump_7 : decode cX7_pump 7 = .ok (.bipush 20, 2) := by decide +kernel
theorem dX7_pump_9 : decode cX7_pump 9 = .ok (.invokestatic 23, 3) := by decide +kernel
theorem dX7_pump_12 : decode cX7_pump 12 = .ok (.ifCond .ne 9, 3) := by decide +kernel
theorem dX7_pump_15 : decode cX7_pump 15 = .ok (.aload_n 0, 1) := by decide +kernel
theorem dX7_pump_16 : decode cX7_pump 16 = .ok (.iconst 1, 1) := by decide +kernel
theorem dX7_pump_17 : decode cX7_pump 17 = .ok (.invokevirtual 31, 3) := by decide +kernel
theorem dX7_pump_20 : decode cX7_pump 20 = .ok (.ireturn, 1) := by decide +kernel
theorem dX7_pump_21 : decode cX7_pump 21 = .ok (.aload_n 0, 1) := by decide +kernel
theorem dX7_pump_22 : decode cX7_pump 22 = .ok (.getfield 10, 3) := by decide +kernel
theorem dX7_pump_25 : decode cX7_pump 25 = .ok (.getfield 96, 3) := by decide +kernel
theorem dX7_pump_28 : decode cX7_pump 28 = .ok (.istore_n 2, 1) := by decide +kernel
theorem dX7_pump_29 : decode cX7_pump 29 = .ok (.aload_n 0, 1) := by decide +kernel
theorem dX7_pump_30 : decode cX7_pump 30 = .ok (.getfield 10, 3) := by decide +kernel
theorem dX7_pump_33 : decode cX7_pump 33 = .ok (.iload_n 1, 1) := by decide +kernel
theorem dX7_pump_34 : decode cX7_pump 34 = .ok (.putfield 96, 3) := by decide +kernel
theorem dX7_pump_37 : decode cX7_pump 37 = .ok (.iload_n 2, 1) := by decide +kernel
theorem dX7_pump_38 : decode cX7_pump 38 = .ok (.ireturn, 1) := by decide +kernel
theorem dX7_pollenOf_0 : decode cX7_pollenOf 0 = .ok (.bipush 20, 2) := by decide +kernel
theorem dX7_pollenOf_2 : decode cX7_pollenOf 2 = .ok (.aload_n 0, 1) := by decide +kernel
theorem dX7_pollenOf_3 : decode cX7_pollenOf 3 = .ok (.iconst 3, 1) := by decide +kernel
theorem dX7_pollenOf_4 : decode cX7_pollenOf 4 = .ok (.iaload, 1) := by decide +kernel
theorem dX7_pollenOf_5 : decode cX7_pollenOf 5 = .ok (.imul, 1) := by decide +kernel
theorem dX7_pollenOf_6 : decode cX7_pollenOf 6 = .ok (.aload_n 0, 1) := by decide +kernel
theorem dX7_pollenOf_7 : decode cX7_pollenOf 7 = .ok (.bipush 8, 2) := by decide +kernel
theorem dX7_pollenOf_9 : decode cX7_pollenOf 9 = .ok (.iaload, 1) := by decide +kernel
theorem dX7_pollenOf_10 : decode cX7_pollenOf 10 = .ok (.iadd, 1) := by decide +kernel
theorem dX7_pollenOf_11 : decode cX7_pollenOf 11 = .ok (.ireturn, 1) := by decide +kernel
theorem dX7_pollinate_0 : decode cX7_pollinate 0 = .ok (.aload_n 0, 1) := by decide +kernel
theorem dX7_pollinate_1 : decode cX7_pollinate 1 = .ok (.iconst 0, 1) := by decide +kernel
theorem dX7_pollinate_2 : decode cX7_pollinate 2 = .ok (.putfield 16, 3) := by decide +kernel
theorem dX7_pollinate_5 : decode cX7_pollinate 5 = .ok (.aload_n 0, 1) := by decide +kernel
theorem dX7_pollinate_6 : decode cX7_pollinate 6 = .ok (.iload_n 1, 1) := by decide +kernel
theorem dX7_pollinate_7 : decode cX7_pollinate 7 = .ok (.invokevirtual 56, 3) := by decide +kernel
theorem dX7_pollinate_10 : decode cX7_pollinate 10 = .ok (.ifCond .ne 9, 3) := by decide +kernel
theorem dX7_pollinate_13 : decode cX7_pollinate 13 = .ok (.aload_n 0, 1) := by decide +kernel
theorem dX7_pollinate_14 : decode cX7_pollinate 14 = .ok (.iconst 1, 1) := by decide +kernel
theorem dX7_pollinate_15 : decode cX7_pollinate 15 = .ok (.invokevirtual 31, 3) := by decide +kernel
theorem dX7_pollinate_18 : decode cX7_pollinate 18 = .ok (.ireturn, 1) := by decide +kernel
theorem dX7_pollinate_19 : decode cX7_pollinate 19 = .ok (.iload_n 2, 1) := by decide +kernel
theorem dX7_pollinate_20 : decode cX7_pollinate 20 = .ok (.iconst 1, 1) := by decide +kernel
theorem dX7_pollinate_21 : decode cX7_pollinate 21 = .ok (.sipush 200, 3) := by decide +kernel
theorem dX7_pollinate_24 : decode cX7_pollinate 24 = .ok (.invokestatic 23, 3) := by decide +kernel
theorem dX7_pollinate_27 : decode cX7_pollinate 27 = .ok (.ifCond .ne 9, 3) := by decide +kernel
theorem dX7_pollinate_30 : decode cX7_pollinate 30 = .ok (.aload_n 0, 1) := by decide +kernel
theorem dX7_pollinate_31 : decode cX7_pollinate 31 = .ok (.iconst 2, 1) := by decide +kernel
theorem dX7_pollinate_32 : decode cX7_pollinate 32 = .ok (.invokevirtual 31, 3) := by decide +kernel
theorem dX7_pollinate_35 : decode cX7_pollinate 35 = .ok (.ireturn, 1) := by decide +kernel
theorem dX7_pollinate_36 : decode cX7_pollinate 36 = .ok (.aload_n 0, 1) := by decide +kernel
theorem dX7_pollinate_37 : decode cX7_pollinate 37 = .ok (.iload_n 1, 1) := by decide +kernel
theorem dX7_pollinate_38 : decode cX7_pollinate 38 = .ok (.invokevirtual 39, 3) := by decide +kernel
theorem dX7_pollinate_41 : decode cX7_pollinate 41 = .ok (.astore_n 3, 1) := by decide +kernel
theorem dX7_pollinate_42 : decode cX7_pollinate 42 = .ok (.aload_n 0, 1) := by decide +kernel
theorem dX7_pollinate_43 : decode cX7_pollinate 43 = .ok (.getfield 10, 3) := by decide +kernel
theorem dX7_pollinate_46 : decode cX7_pollinate 46 = .ok (.getfield 99, 3) := by decide +kernel
theorem dX7_pollinate_49 : decode cX7_pollinate 49 = .ok (.bipush 70, 2) := by decide +kernel
theorem dX7_pollinate_51 : decode cX7_pollinate 51 = .ok (.irem, 1) := by decide +kernel
theorem dX7_pollinate_52 : decode cX7_pollinate 52 = .ok (.bipush 13, 2) := by decide +kernel
theorem dX7_pollinate_54 : decode cX7_pollinate 54 = .ok (.if_icmp .le 6, 3) := by decide +kernel
theorem dX7_pollinate_57 : decode cX7_pollinate 57 = .ok (.bipush (-2), 2) := by decide +kernel
theorem dX7_pollinate_59 : decode cX7_pollinate 59 = .ok (.ireturn, 1) := by decide +kernel
theorem dX7_pollinate_60 : decode cX7_pollinate 60 = .ok (.aload_n 3, 1) := by decide +kernel
theorem dX7_pollinate_61 : decode cX7_pollinate 61 = .ok (.bipush 7, 2) := by decide +kernel
theorem dX7_pollinate_63 : decode cX7_pollinate 63 = .ok (.iaload, 1) := by decide +kernel
theorem dX7_pollinate_64 : decode cX7_pollinate 64 = .ok (.iload_n 2, 1) := by decide +kernel
theorem dX7_pollinate_65 : decode cX7_pollinate 65 = .ok (.iadd, 1) := by decide +kernel
theorem dX7_pollinate_66 : decode cX7_pollinate 66 = .ok (.aload_n 3, 1) := by decide +kernel
theorem dX7_pollinate_67 : decode cX7_pollinate 67 = .ok (.iconst 2, 1) := by decide +kernel
theorem dX7_pollinate_68 : decode cX7_pollinate 68 = .ok (.iaload, 1) := by decide +kernel
theorem dX7_pollinate_69 : decode cX7_pollinate 69 = .ok (.if_icmp .le 6, 3) := by decide +kernel
theorem dX7_pollinate_72 : decode cX7_pollinate 72 = .ok (.bipush (-3), 2) := by decide +kernel
theorem dX7_pollinate_74 : decode cX7_pollinate 74 = .ok (.ireturn, 1) := by decide +kernel
theorem dX7_pollinate_75 : decode cX7_pollinate 75 = .ok (.aload_n 3, 1) := by decide +kernel
theorem dX7_pollinate_76 : decode cX7_pollinate 76 = .ok (.bipush 7, 2) := by decide +kernel
theorem dX7_pollinate_78 : decode cX7_pollinate 78 = .ok (.iaload, 1) := by decide +kernel
theorem dX7_pollinate_79 : decode cX7_pollinate 79 = .ok (.iload_n 2, 1) := by decide +kernel
theorem dX7_pollinate_80 : decode cX7_pollinate 80 = .ok (.iadd, 1) := by decide +kernel
theorem dX7_pollinate_81 : decode cX7_pollinate 81 = .ok (.aload_n 3, 1) := by decide +kernel
theorem dX7_pollinate_82 : decode cX7_pollinate 82 = .ok (.invokestatic 102, 3) := by decide +kernel
theorem dX7_pollinate_85 : decode cX7_pollinate 85 = .ok (.if_icmp .le 6, 3) := by decide +kernel
theorem dX7_pollinate_88 : decode cX7_pollinate 88 = .ok (.bipush (-4), 2) := by decide +kernel
theorem dX7_pollinate_90 : decode cX7_pollinate 90 = .ok (.ireturn, 1) := by decide +kernel
theorem dX7_pollinate_91 : decode cX7_pollinate 91 = .ok (.aload_n 3, 1) := by decide +kernel
theorem dX7_pollinate_92 : decode cX7_pollinate 92 = .ok (.bipush 7, 2) := by decide +kernel
theorem dX7_pollinate_94 : decode cX7_pollinate 94 = .ok (.dup2, 1) := by decide +kernel
theorem dX7_pollinate_95 : decode cX7_pollinate 95 = .ok (.iaload, 1) := by decide +kernel
theorem dX7_pollinate_96 : decode cX7_pollinate 96 = .ok (.iload_n 2, 1) := by decide +kernel
theorem dX7_pollinate_97 : decode cX7_pollinate 97 = .ok (.iadd, 1) := by decide +kernel
theorem dX7_pollinate_98 : decode cX7_pollinate 98 = .ok (.iastore, 1) := by decide +kernel
theorem dX7_pollinate_99 : decode cX7_pollinate 99 = .ok (.aload_n 3, 1) := by decide +kernel
theorem dX7_pollinate_100 : decode cX7_pollinate 100 = .ok (.bipush 7, 2) := by decide +kernel
theorem dX7_pollinate_102 : decode cX7_pollinate 102 = .ok (.iaload, 1) := by decide +kernel
theorem dX7_pollinate_103 : decode cX7_pollinate 103 = .ok (.ireturn, 1) := by decide +kernel
theorem dX7_pollen_0 : decode cX7_pollen 0 = .ok (.aload_n 0, 1) := by decide +kernel
theorem dX7_pollen_1 : decode cX7_pollen 1 = .ok (.iconst 0, 1) := by decide +kernel
theorem dX7_pollen_2 : decode cX7_pollen 2 = .ok (.putfield 16, 3) := by decide +kernel
theorem dX7_pollen_5 : decode cX7_pollen 5 = .ok (.aload_n 0, 1) := by decide +kernel
theorem dX7_pollen_6 : decode cX7_pollen 6 = .ok (.iload_n 1, 1) := by decide +kernel
theorem dX7_pollen_7 : decode cX7_pollen 7 = .ok (.invokevirtual 56, 3) := by decide +kernel
theorem dX7_pollen_10 : decode cX7_pollen 10 = .ok (.ifCond .eq 11, 3) := by decide +kernel
theorem dX7_pollen_13 : decode cX7_pollen 13 = .ok (.aload_n 0, 1) := by decide +kernel
theorem dX7_pollen_14 : decode cX7_pollen 14 = .ok (.iload_n 2, 1) := by decide +kernel
theorem dX7_pollen_15 : decode cX7_pollen 15 = .ok (.invokevirtual 56, 3) := by decide +kernel
theorem dX7_pollen_18 : decode cX7_pollen 18 = .ok (.ifCond .ne 9, 3) := by decide +kernel
theorem dX7_pollen_21 : decode cX7_pollen 21 = .ok (.aload_n 0, 1) := by decide +kernel
theorem dX7_pollen_22 : decode cX7_pollen 22 = .ok (.iconst 1, 1) := by decide +kernel
theorem dX7_pollen_23 : decode cX7_pollen 23 = .ok (.invokevirtual 31, 3) := by decide +kernel
theorem dX7_pollen_26 : decode cX7_pollen 26 = .ok (.ireturn, 1) := by decide +kernel
theorem dX7_pollen_27 : decode cX7_pollen 27 = .ok (.iload_n 1, 1) := by decide +kernel
theorem dX7_pollen_28 : decode cX7_pollen 28 = .ok (.iload_n 2, 1) := by decide +kernel
theorem dX7_pollen_29 : decode cX7_pollen 29 = .ok (.if_icmp .eq 14, 3) := by decide +kernel
theorem dX7_pollen_32 : decode cX7_pollen 32 = .ok (.iload_n 3, 1) := by decide +kernel
theorem dX7_pollen_33 : decode cX7_pollen 33 = .ok (.iconst 1, 1) := by decide +kernel
theorem dX7_pollen_34 : decode cX7_pollen 34 = .ok (.sipush 200, 3) := by decide +kernel
theorem dX7_pollen_37 : decode cX7_pollen 37 = .ok (.invokestatic 23, 3) := by decide +kernel
theorem dX7_pollen_40 : decode cX7_pollen 40 = .ok (.ifCond .ne 9, 3) := by decide +kernel
theorem dX7_pollen_43 : decode cX7_pollen 43 = .ok (.aload_n 0, 1) := by decide +kernel
theorem dX7_pollen_44 : decode cX7_pollen 44 = .ok (.iconst 2, 1) := by decide +kernel
theorem dX7_pollen_45 : decode cX7_pollen 45 = .ok (.invokevirtual 31, 3) := by decide +kernel
theorem dX7_pollen_48 : decode cX7_pollen 48 = .ok (.ireturn, 1) := by decide +kernel
theorem dX7_pollen_49 : decode cX7_pollen 49 = .ok (.aload_n 0, 1) := by decide +kernel
theorem dX7_pollen_50 : decode cX7_pollen 50 = .ok (.iload_n 2, 1) := by decide +kernel
theorem dX7_pollen_51 : decode cX7_pollen 51 = .ok (.invokevirtual 39, 3) := by decide +kernel
theorem dX7_pollen_54 : decode cX7_pollen 54 = .ok (.iconst 1, 1) := by decide +kernel
theorem dX7_pollen_55 : decode cX7_pollen 55 = .ok (.iaload, 1) := by decide +kernel
theorem dX7_pollen_56 : decode cX7_pollen 56 = .ok (.iload_n 3, 1) := by decide +kernel
theorem dX7_pollen_57 : decode cX7_pollen 57 = .ok (.if_icmp .ge 6, 3) := by decide +kernel
theorem dX7_pollen_60 : decode cX7_pollen 60 = .ok (.bipush (-3), 2) := by decide +kernel
theorem dX7_pollen_62 : decode cX7_pollen 62 = .ok (.ireturn, 1) := by decide +kernel
theorem dX7_pollen_63 : decode cX7_pollen 63 = .ok (.aload_n 0, 1) := by decide +kernel
theorem dX7_pollen_64 : decode cX7_pollen 64 = .ok (.iload_n 1, 1) := by decide +kernel
theorem dX7_pollen_65 : decode cX7_pollen 65 = .ok (.invokevirtual 39, 3) := by decide +kernel
theorem dX7_pollen_68 : decode cX7_pollen 68 = .ok (.invokestatic 102, 3) := by decide +kernel
theorem dX7_pollen_71 : decode cX7_pollen 71 = .ok (.aload_n 0, 1) := by decide +kernel
theorem dX7_pollen_72 : decode cX7_pollen 72 = .ok (.iload_n 1, 1) := by decide +kernel
theorem dX7_pollen_73 : decode cX7_pollen 73 = .ok (.invokevirtual 39, 3) := by decide +kernel
theorem dX7_pollen_76 : decode cX7_pollen 76 = .ok (.bipush 7, 2) := by decide +kernel
theorem dX7_pollen_78 : decode cX7_pollen 78 = .ok (.iaload, 1) := by decide +kernel
theorem dX7_pollen_79 : decode cX7_pollen 79 = .ok (.isub, 1) := by decide +kernel
theorem dX7_pollen_80 : decode cX7_pollen 80 = .ok (.iload_n 3, 1) := by decide +kernel
theorem dX7_pollen_81 : decode cX7_pollen 81 = .ok (.if_icmp .ge 6, 3) := by decide +kernel
theorem dX7_pollen_84 : decode cX7_pollen 84 = .ok (.bipush (-4), 2) := by decide +kernel
theorem dX7_pollen_86 : decode cX7_pollen 86 = .ok (.ireturn, 1) := by decide +kernel
theorem dX7_pollen_87 : decode cX7_pollen 87 = .ok (.aload_n 0, 1) := by decide +kernel
theorem dX7_pollen_88 : decode cX7_pollen 88 = .ok (.iload_n 2, 1) := by decide +kernel
theorem dX7_pollen_89 : decode cX7_pollen 89 = .ok (.invokevirtual 39, 3) := by decide +kernel
theorem dX7_pollen_92 : decode cX7_pollen 92 = .ok (.iconst 1, 1) := by decide +kernel
theorem dX7_pollen_93 : decode cX7_pollen 93 = .ok (.dup2, 1) := by decide +kernel
theorem dX7_pollen_94 : decode cX7_pollen 94 = .ok (.iaload, 1) := by decide +kernel
theorem dX7_pollen_95 : decode cX7_pollen 95 = .ok (.iload_n 3, 1) := by decide +kernel
theorem dX7_pollen_96 : decode cX7_pollen 96 = .ok (.isub, 1) := by decide +kernel
theorem dX7_pollen_97 : decode cX7_pollen 97 = .ok (.iastore, 1) := by decide +kernel
theorem dX7_pollen_98 : decode cX7_pollen 98 = .ok (.aload_n 0, 1) := by decide +kernel
theorem dX7_pollen_99 : decode cX7_pollen 99 = .ok (.iload_n 1, 1) := by decide +kernel
theorem dX7_pollen_100 : decode cX7_pollen 100 = .ok (.invokevirtual 39, 3) := by decide +kernel
theorem dX7_pollen_103 : decode cX7_pollen 103 = .ok (.iconst 1, 1) := by decide +kernel
theorem dX7_pollen_104 : decode cX7_pollen 104 = .ok (.dup2, 1) := by decide +kernel
theorem dX7_pollen_105 : decode cX7_pollen 105 = .ok (.iaload, 1) := by decide +kernel
theorem dX7_pollen_106 : decode cX7_pollen 106 = .ok (.iload_n 3, 1) := by decide +kernel
theorem dX7_pollen_107 : decode cX7_pollen 107 = .ok (.iadd, 1) := by decide +kernel
theorem dX7_pollen_108 : decode cX7_pollen 108 = .ok (.iastore, 1) := by decide +kernel
theorem dX7_pollen_109 : decode cX7_pollen 109 = .ok (.aload_n 0, 1) := by decide +kernel
theorem dX7_pollen_110 : decode cX7_pollen 110 = .ok (.iload_n 1, 1) := by decide +kernel
theorem dX7_pollen_111 : decode cX7_pollen 111 = .ok (.invokevirtual 39, 3) := by decide +kernel
theorem dX7_pollen_114 : decode cX7_pollen 114 = .ok (.bipush 8, 2) := by decide +kernel
theorem dX7_pollen_116 : decode cX7_pollen 116 = .ok (.dup2, 1) := by decide +kernel
theorem dX7_pollen_117 : decode cX7_pollen 117 = .ok (.iaload, 1) := by decide +kernel
theorem dX7_pollen_118 : decode cX7_pollen 118 = .ok (.iload_n 3, 1) := by decide +kernel
theorem dX7_pollen_119 : decode cX7_pollen 119 = .ok (.isub, 1) := by decide +kernel
theorem dX7_pollen_120 : decode cX7_pollen 120 = .ok (.iastore, 1) := by decide +kernel
theorem dX7_pollen_121 : decode cX7_pollen 121 = .ok (.aload_n 0, 1) := by decide +kernel
theorem dX7_pollen_122 : decode cX7_pollen 122 = .ok (.iload_n 2, 1) := by decide +kernel
theorem dX7_pollen_123 : decode cX7_pollen 123 = .ok (.invokevirtual 39, 3) := by decide +kernel
theorem dX7_pollen_126 : decode cX7_pollen 126 = .ok (.bipush 8, 2) := by decide +kernel
theorem dX7_pollen_128 : decode cX7_pollen 128 = .ok (.dup2, 1) := by decide +kernel
theorem dX7_pollen_129 : decode cX7_pollen 129 = .ok (.iaload, 1) := by decide +kernel
theorem dX7_pollen_130 : decode cX7_pollen 130 = .ok (.iload_n 3, 1) := by decide +kernel
theorem dX7_pollen_131 : decode cX7_pollen 131 = .ok (.iadd, 1) := by decide +kernel
theorem dX7_pollen_132 : decode cX7_pollen 132 = .ok (.iastore, 1) := by decide +kernel
theorem dX7_pollen_133 : decode cX7_pollen 133 = .ok (.aload_n 0, 1) := by decide +kernel
theorem dX7_pollen_134 : decode cX7_pollen 134 = .ok (.iload_n 2, 1) := by decide +kernel
theorem dX7_pollen_135 : decode cX7_pollen 135 = .ok (.invokevirtual 39, 3) := by decide +kernel
theorem dX7_pollen_138 : decode cX7_pollen 138 = .ok (.invokestatic 102, 3) := by decide +kernel
theorem dX7_pollen_141 : decode cX7_pollen 141 = .ok (.ireturn, 1) := by decide +kernel
theorem dX7_ahead_0 : decode cX7_ahead 0 = .ok (.aload_n 0, 1) := by decide +kernel
theorem dX7_ahead_1 : decode cX7_ahead 1 = .ok (.iconst 0, 1) := by decide +kernel
theorem dX7_ahead_2 : decode cX7_ahead 2 = .ok (.putfield 16, 3) := by decide +kernel
theorem dX7_ahead_5 : decode cX7_ahead 5 = .ok (.aload_n 0, 1) := by decide +kernel
theorem dX7_ahead_6 : decode cX7_ahead 6 = .ok (.iload_n 1, 1) := by decide +kernel
theorem dX7_ahead_7 : decode cX7_ahead 7 = .ok (.invokevirtual 56, 3) := by decide +kernel
theorem dX7_ahead_10 : decode cX7_ahead 10 = .ok (.ifCond .eq 11, 3) := by decide +kernel
theorem dX7_ahead_13 : decode cX7_ahead 13 = .ok (.aload_n 0, 1) := by decide +kernel
theorem dX7_ahead_14 : decode cX7_ahead 14 = .ok (.iload_n 2, 1) := by decide +kernel
theorem dX7_ahead_15 : decode cX7_ahead 15 = .ok (.invokevirtual 56, 3) := by decide +kernel
theorem dX7_ahead_18 : decode cX7_ahead 18 = .ok (.ifCond .ne 9, 3) := by decide +kernel
theorem dX7_ahead_21 : decode cX7_ahead 21 = .ok (.aload_n 0, 1) := by decide +kernel
theorem dX7_ahead_22 : decode cX7_ahead 22 = .ok (.iconst 1, 1) := by decide +kernel
theorem dX7_ahead_23 : decode cX7_ahead 23 = .ok (.invokevirtual 31, 3) := by decide +kernel
theorem dX7_ahead_26 : decode cX7_ahead 26 = .ok (.ireturn, 1) := by decide +kernel
theorem dX7_ahead_27 : decode cX7_ahead 27 = .ok (.iload_n 1, 1) := by decide +kernel
theorem dX7_ahead_28 : decode cX7_ahead 28 = .ok (.iload_n 2, 1) := by decide +kernel
theorem dX7_ahead_29 : decode cX7_ahead 29 = .ok (.if_icmp .eq 26, 3) := by decide +kernel
theorem dX7_ahead_32 : decode cX7_ahead 32 = .ok (.iload_n 3, 1) := by decide +kernel
theorem dX7_ahead_33 : decode cX7_ahead 33 = .ok (.iconst 1, 1) := by decide +kernel
theorem dX7_ahead_34 : decode cX7_ahead 34 = .ok (.sipush 999, 3) := by decide +kernel
theorem dX7_ahead_37 : decode cX7_ahead 37 = .ok (.invokestatic 23, 3) := by decide +kernel
theorem dX7_ahead_40 : decode cX7_ahead 40 = .ok (.ifCond .eq 15, 3) := by decide +kernel
theorem dX7_ahead_43 : decode cX7_ahead 43 = .ok (.iload 4, 2) := by decide +kernel
theorem dX7_ahead_45 : decode cX7_ahead 45 = .ok (.iconst 0, 1) := by decide +kernel
theorem dX7_ahead_46 : decode cX7_ahead 46 = .ok (.sipush 9999, 3) := by decide +kernel
theorem dX7_ahead_49 : decode cX7_ahead 49 = .ok (.invokestatic 23, 3) := by decide +kernel
theorem dX7_ahead_52 : decode cX7_ahead 52 = .ok (.ifCond .ne 9, 3) := by decide +kernel
theorem dX7_ahead_55 : decode cX7_ahead 55 = .ok (.aload_n 0, 1) := by decide +kernel
theorem dX7_ahead_56 : decode cX7_ahead 56 = .ok (.iconst 2, 1) := by decide +kernel
theorem dX7_ahead_57 : decode cX7_ahead 57 = .ok (.invokevirtual 31, 3) := by decide +kernel
theorem dX7_ahead_60 : decode cX7_ahead 60 = .ok (.ireturn, 1) := by decide +kernel
theorem dX7_ahead_61 : decode cX7_ahead 61 = .ok (.aload_n 0, 1) := by decide +kernel
theorem dX7_ahead_62 : decode cX7_ahead 62 = .ok (.getfield 10, 3) := by decide +kernel
theorem dX7_ahead_65 : decode cX7_ahead 65 = .ok (.getfield 76, 3) := by decide +kernel
theorem dX7_ahead_68 : decode cX7_ahead 68 = .ok (.bipush 8, 2) := by decide +kernel
theorem dX7_ahead_70 : decode cX7_ahead 70 = .ok (.if_icmp .ne 9, 3) := by decide +kernel
theorem dX7_ahead_73 : decode cX7_ahead 73 = .ok (.aload_n 0, 1) := by decide +kernel
theorem dX7_ahead_74 : decode cX7_ahead 74 = .ok (.iconst 3, 1) := by decide +kernel
theorem dX7_ahead_75 : decode cX7_ahead 75 = .ok (.invokevirtual 31, 3) := by decide +kernel
theorem dX7_ahead_78 : decode cX7_ahead 78 = .ok (.ireturn, 1) := by decide +kernel
theorem dX7_ahead_79 : decode cX7_ahead 79 = .ok (.aload_n 0, 1) := by decide +kernel
theorem dX7_ahead_80 : decode cX7_ahead 80 = .ok (.iload_n 2, 1) := by decide +kernel
theorem dX7_ahead_81 : decode cX7_ahead 81 = .ok (.invokevirtual 39, 3) := by decide +kernel
theorem dX7_ahead_84 : decode cX7_ahead 84 = .ok (.iconst 1, 1) := by decide +kernel
theorem dX7_ahead_85 : decode cX7_ahead 85 = .ok (.iaload, 1) := by decide +kernel
theorem dX7_ahead_86 : decode cX7_ahead 86 = .ok (.iload 4, 2) := by decide +kernel
theorem dX7_ahead_88 : decode cX7_ahead 88 = .ok (.if_icmp .ge 6, 3) := by decide +kernel
theorem dX7_ahead_91 : decode cX7_ahead 91 = .ok (.bipush (-3), 2) := by decide +kernel
theorem dX7_ahead_93 : decode cX7_ahead 93 = .ok (.ireturn, 1) := by decide +kernel
theorem dX7_ahead_94 : decode cX7_ahead 94 = .ok (.aload_n 0, 1) := by decide +kernel
theorem dX7_ahead_95 : decode cX7_ahead 95 = .ok (.iload_n 2, 1) := by decide +kernel
theorem dX7_ahead_96 : decode cX7_ahead 96 = .ok (.invokevirtual 39, 3) := by decide +kernel
theorem dX7_ahead_99 : decode cX7_ahead 99 = .ok (.iconst 1, 1) := by decide +kernel
theorem dX7_ahead_100 : decode cX7_ahead 100 = .ok (.dup2, 1) := by decide +kernel
theorem dX7_ahead_101 : decode cX7_ahead 101 = .ok (.iaload, 1) := by decide +kernel
theorem dX7_ahead_102 : decode cX7_ahead 102 = .ok (.iload 4, 2) := by decide +kernel
theorem dX7_ahead_104 : decode cX7_ahead 104 = .ok (.isub, 1) := by decide +kernel
theorem dX7_ahead_105 : decode cX7_ahead 105 = .ok (.iastore, 1) := by decide +kernel
theorem dX7_ahead_106 : decode cX7_ahead 106 = .ok (.aload_n 0, 1) := by decide +kernel
theorem dX7_ahead_107 : decode cX7_ahead 107 = .ok (.iload_n 1, 1) := by decide +kernel
theorem dX7_ahead_108 : decode cX7_ahead 108 = .ok (.invokevirtual 39, 3) := by decide +kernel
theorem dX7_ahead_111 : decode cX7_ahead 111 = .ok (.iconst 1, 1) := by decide +kernel
theorem dX7_ahead_112 : decode cX7_ahead 112 = .ok (.dup2, 1) := by decide +kernel
theorem dX7_ahead_113 : decode cX7_ahead 113 = .ok (.iaload, 1) := by decide +kernel
theorem dX7_ahead_114 : decode cX7_ahead 114 = .ok (.iload 4, 2) := by decide +kernel
theorem dX7_ahead_116 : decode cX7_ahead 116 = .ok (.iadd, 1) := by decide +kernel
theorem dX7_ahead_117 : decode cX7_ahead 117 = .ok (.iastore, 1) := by decide +kernel
theorem dX7_ahead_118 : decode cX7_ahead 118 = .ok (.iconst 3, 1) := by decide +kernel
theorem dX7_ahead_119 : decode cX7_ahead 119 = .ok (.newarray .int, 2) := by decide +kernel
theorem dX7_ahead_121 : decode cX7_ahead 121 = .ok (.dup, 1) := by decide +kernel
theorem dX7_ahead_122 : decode cX7_ahead 122 = .ok (.iconst 0, 1) := by decide +kernel
theorem dX7_ahead_123 : decode cX7_ahead 123 = .ok (.iload_n 1, 1) := by decide +kernel
theorem dX7_ahead_124 : decode cX7_ahead 124 = .ok (.iastore, 1) := by decide +kernel
theorem dX7_ahead_125 : decode cX7_ahead 125 = .ok (.dup, 1) := by decide +kernel
theorem dX7_ahead_126 : decode cX7_ahead 126 = .ok (.iconst 1, 1) := by decide +kernel
theorem dX7_ahead_127 : decode cX7_ahead 127 = .ok (.iload_n 2, 1) := by decide +kernel
theorem dX7_ahead_128 : decode cX7_ahead 128 = .ok (.iastore, 1) := by decide +kernel
theorem dX7_ahead_129 : decode cX7_ahead 129 = .ok (.dup, 1) := by decide +kernel
theorem dX7_ahead_130 : decode cX7_ahead 130 = .ok (.iconst 2, 1) := by decide +kernel
theorem dX7_ahead_131 : decode cX7_ahead 131 = .ok (.iload_n 3, 1) := by decide +kernel
theorem dX7_ahead_132 : decode cX7_ahead 132 = .ok (.iastore, 1) := by decide +kernel
theorem dX7_ahead_133 : decode cX7_ahead 133 = .ok (.astore 5, 2) := by decide +kernel
theorem dX7_ahead_135 : decode cX7_ahead 135 = .ok (.aload 5, 2) := by decide +kernel
theorem dX7_ahead_137 : decode cX7_ahead 137 = .ok (.iconst 0, 1) := by decide +kernel
theorem dX7_ahead_138 : decode cX7_ahead 138 = .ok (.aload_n 0, 1) := by decide +kernel
theorem dX7_ahead_139 : decode cX7_ahead 139 = .ok (.getfield 10, 3) := by decide +kernel
theorem dX7_ahead_142 : decode cX7_ahead 142 = .ok (.getfield 79, 3) := by decide +kernel
theorem dX7_ahead_145 : decode cX7_ahead 145 = .ok (.aload_n 0, 1) := by decide +kernel
theorem dX7_ahead_146 : decode cX7_ahead 146 = .ok (.getfield 10, 3) := by decide +kernel
theorem dX7_ahead_149 : decode cX7_ahead 149 = .ok (.dup, 1) := by decide +kernel
theorem dX7_ahead_150 : decode cX7_ahead 150 = .ok (.getfield 76, 3) := by decide +kernel
theorem dX7_ahead_153 : decode cX7_ahead 153 = .ok (.dup_x1, 1) := by decide +kernel
theorem dX7_ahead_154 : decode cX7_ahead 154 = .ok (.iconst 1, 1) := by decide +kernel
theorem dX7_ahead_155 : decode cX7_ahead 155 = .ok (.iadd, 1) := by decide +kernel
theorem dX7_ahead_156 : decode cX7_ahead 156 = .ok (.putfield 76, 3) := by decide +kernel
theorem dX7_ahead_159 : decode cX7_ahead 159 = .ok (.aaload, 1) := by decide +kernel
theorem dX7_ahead_160 : decode cX7_ahead 160 = .ok (.iconst 0, 1) := by decide +kernel
theorem dX7_ahead_161 : decode cX7_ahead 161 = .ok (.iconst 3, 1) := by decide +kernel
theorem dX7_ahead_162 : decode cX7_ahead 162 = .ok (.invokestatic 43, 3) := by decide +kernel
theorem dX7_ahead_165 : decode cX7_ahead 165 = .ok (.aload_n 0, 1) := by decide +kernel
theorem dX7_ahead_166 : decode cX7_ahead 166 = .ok (.getfield 10, 3) := by decide +kernel
theorem dX7_ahead_169 : decode cX7_ahead 169 = .ok (.getfield 76, 3) := by decide +kernel
theorem dX7_ahead_172 : decode cX7_ahead 172 = .ok (.ireturn, 1) := by decide +kernel
theorem dX7_isTime_0 : decode cX7_isTime 0 = .ok (.iload_n 0, 1) := by decide +kernel
theorem dX7_isTime_1 : decode cX7_isTime 1 = .ok (.iconst 0, 1) := by decide +kernel
theorem dX7_isTime_2 : decode cX7_isTime 2 = .ok (.bipush 99, 2) := by decide +kernel
theorem dX7_isTime_4 : decode cX7_isTime 4 = .ok (.invokestatic 23, 3) := by decide +kernel
theorem dX7_isTime_7 : decode cX7_isTime 7 = .ok (.ifCond .eq 16, 3) := by decide +kernel
theorem dX7_isTime_10 : decode cX7_isTime 10 = .ok (.iload_n 1, 1) := by decide +kernel
theorem dX7_isTime_11 : decode cX7_isTime 11 = .ok (.iconst 1, 1) := by decide +kernel
theorem dX7_isTime_12 : decode cX7_isTime 12 = .ok (.iload_n 2, 1) := by decide +kernel
theorem dX7_isTime_13 : decode cX7_isTime 13 = .ok (.invokestatic 23, 3) := by decide +kernel
theorem dX7_isTime_16 : decode cX7_isTime 16 = .ok (.ifCond .eq 7, 3) := by decide +kernel
theorem dX7_isTime_19 : decode cX7_isTime 19 = .ok (.iconst 1, 1) := by decide +kernel
theorem dX7_isTime_20 : decode cX7_isTime 20 = .ok (.goto 4, 3) := by decide +kernel
theorem dX7_isTime_23 : decode cX7_isTime 23 = .ok (.iconst 0, 1) := by decide +kernel
theorem dX7_isTime_24 : decode cX7_isTime 24 = .ok (.ireturn, 1) := by decide +kernel
theorem dX7_pass_0 : decode cX7_pass 0 = .ok (.aload_n 0, 1) := by decide +kernel
theorem dX7_pass_1 : decode cX7_pass 1 = .ok (.iconst 0, 1) := by decide +kernel
theorem dX7_pass_2 : decode cX7_pass 2 = .ok (.putfield 16, 3) := by decide +kernel
theorem dX7_pass_5 : decode cX7_pass 5 = .ok (.iload_n 1, 1) := by decide +kernel
theorem dX7_pass_6 : decode cX7_pass 6 = .ok (.iload_n 2, 1) := by decide +kernel
theorem dX7_pass_7 : decode cX7_pass 7 = .ok (.bipush 70, 2) := by decide +kernel
theorem dX7_pass_9 : decode cX7_pass 9 = .ok (.invokestatic 106, 3) := by decide +kernel
theorem dX7_pass_12 : decode cX7_pass 12 = .ok (.ifCond .ne 9, 3) := by decide +kernel
theorem dX7_pass_15 : decode cX7_pass 15 = .ok (.aload_n 0, 1) := by decide +kernel
theorem dX7_pass_16 : decode cX7_pass 16 = .ok (.iconst 1, 1) := by decide +kernel
theorem dX7_pass_17 : decode cX7_pass 17 = .ok (.invokevirtual 31, 3) := by decide +kernel
theorem dX7_pass_20 : decode cX7_pass 20 = .ok (.ireturn, 1) := by decide +kernel
theorem dX7_pass_21 : decode cX7_pass 21 = .ok (.aload_n 0, 1) := by decide +kernel
theorem dX7_pass_22 : decode cX7_pass 22 = .ok (.getfield 10, 3) := by decide +kernel
theorem dX7_pass_25 : decode cX7_pass 25 = .ok (.getfield 99, 3) := by decide +kernel
theorem dX7_pass_28 : decode cX7_pass 28 = .ok (.iload_n 2, 1) := by decide +kernel
theorem dX7_pass_29 : decode cX7_pass 29 = .ok (.iadd, 1) := by decide +kernel
theorem dX7_pass_30 : decode cX7_pass 30 = .ok (.sipush 2000, 3) := by decide +kernel
theorem dX7_pass_33 : decode cX7_pass 33 = .ok (.if_icmp .le 9, 3) := by decide +kernel
theorem dX7_pass_36 : decode cX7_pass 36 = .ok (.aload_n 0, 1) := by decide +kernel
theorem dX7_pass_37 : decode cX7_pass 37 = .ok (.iconst 2, 1) := by decide +kernel
theorem dX7_pass_38 : decode cX7_pass 38 = .ok (.invokevirtual 31, 3) := by decide +kernel
theorem dX7_pass_41 : decode cX7_pass 41 = .ok (.ireturn, 1) := by decide +kernel
theorem dX7_pass_42 : decode cX7_pass 42 = .ok (.aload_n 0, 1) := by decide +kernel
theorem dX7_pass_43 : decode cX7_pass 43 = .ok (.getfield 10, 3) := by decide +kernel
theorem dX7_pass_46 : decode cX7_pass 46 = .ok (.iload_n 1, 1) := by decide +kernel
theorem dX7_pass_47 : decode cX7_pass 47 = .ok (.iload_n 2, 1) := by decide +kernel
theorem dX7_pass_48 : decode cX7_pass 48 = .ok (.invokevirtual 109, 3) := by decide +kernel
theorem dX7_pass_51 : decode cX7_pass 51 = .ok (.ireturn, 1) := by decide +kernel
theorem dX7_ownerNow_0 : decode cX7_ownerNow 0 = .ok (.aload_n 0, 1) := by decide +kernel
theorem dX7_ownerNow_1 : decode cX7_ownerNow 1 = .ok (.iload_n 1, 1) := by decide +kernel
theorem dX7_ownerNow_2 : decode cX7_ownerNow 2 = .ok (.invokevirtual 39, 3) := by decide +kernel
theorem dX7_ownerNow_5 : decode cX7_ownerNow 5 = .ok (.astore_n 3, 1) := by decide +kernel
theorem dX7_ownerNow_6 : decode cX7_ownerNow 6 = .ok (.iload_n 2, 1) := by decide +kernel
theorem dX7_ownerNow_7 : decode cX7_ownerNow 7 = .ok (.tableswitch 98 7 13 #[41, 50, 69, 78, 83, 88, 93], 41) := by decide +kernel
theorem dX7_ownerNow_48 : decode cX7_ownerNow 48 = .ok (.aload_n 0, 1) := by decide +kernel
theorem dX7_ownerNow_49 : decode cX7_ownerNow 49 = .ok (.getfield 10, 3) := by decide +kernel
theorem dX7_ownerNow_52 : decode cX7_ownerNow 52 = .ok (.iload_n 1, 1) := by decide +kernel
theorem dX7_ownerNow_53 : decode cX7_ownerNow 53 = .ok (.invokevirtual 73, 3) := by decide +kernel
theorem dX7_ownerNow_56 : decode cX7_ownerNow 56 = .ok (.ireturn, 1) := by decide +kernel
theorem dX7_ownerNow_57 : decode cX7_ownerNow 57 = .ok (.aload_n 3, 1) := by decide +kernel
theorem dX7_ownerNow_58 : decode cX7_ownerNow 58 = .ok (.iconst 0, 1) := by decide +kernel
theorem dX7_ownerNow_59 : decode cX7_ownerNow 59 = .ok (.iaload, 1) := by decide +kernel
theorem dX7_ownerNow_60 : decode cX7_ownerNow 60 = .ok (.ifCond .ne 7, 3) := by decide +kernel
theorem dX7_ownerNow_63 : decode cX7_ownerNow 63 = .ok (.iconst (-1), 1) := by decide +kernel
theorem dX7_ownerNow_64 : decode cX7_ownerNow 64 = .ok (.goto 11, 3) := by decide +kernel
theorem dX7_ownerNow_67 : decode cX7_ownerNow 67 = .ok (.aload_n 0, 1) := by decide +kernel
theorem dX7_ownerNow_68 : decode cX7_ownerNow 68 = .ok (.getfield 10, 3) := by decide +kernel
theorem dX7_ownerNow_71 : decode cX7_ownerNow 71 = .ok (.iload_n 1, 1) := by decide +kernel
theorem dX7_ownerNow_72 : decode cX7_ownerNow 72 = .ok (.invokevirtual 112, 3) := by decide +kernel
theorem dX7_ownerNow_75 : decode cX7_ownerNow 75 = .ok (.ireturn, 1) := by decide +kernel
theorem dX7_ownerNow_76 : decode cX7_ownerNow 76 = .ok (.aload_n 0, 1) := by decide +kernel
theorem dX7_ownerNow_77 : decode cX7_ownerNow 77 = .ok (.getfield 10, 3) := by decide +kernel
theorem dX7_ownerNow_80 : decode cX7_ownerNow 80 = .ok (.iload_n 1, 1) := by decide +kernel
theorem dX7_ownerNow_81 : decode cX7_ownerNow 81 = .ok (.invokevirtual 115, 3) := by decide +kernel
theorem dX7_ownerNow_84 : decode cX7_ownerNow 84 = .ok (.ireturn, 1) := by decide +kernel
theorem dX7_ownerNow_85 : decode cX7_ownerNow 85 = .ok (.aload_n 3, 1) := by decide +kernel
theorem dX7_ownerNow_86 : decode cX7_ownerNow 86 = .ok (.bipush 7, 2) := by decide +kernel
theorem dX7_ownerNow_88 : decode cX7_ownerNow 88 = .ok (.iaload, 1) := by decide +kernel
theorem dX7_ownerNow_89 : decode cX7_ownerNow 89 = .ok (.ireturn, 1) := by decide +kernel
theorem dX7_ownerNow_90 : decode cX7_ownerNow 90 = .ok (.aload_n 3, 1) := by decide +kernel
theorem dX7_ownerNow_91 : decode cX7_ownerNow 91 = .ok (.invokestatic 102, 3) := by decide +kernel
theorem dX7_ownerNow_94 : decode cX7_ownerNow 94 = .ok (.ireturn, 1) := by decide +kernel
theorem dX7_ownerNow_95 : decode cX7_ownerNow 95 = .ok (.aload_n 3, 1) := by decide +kernel
theorem dX7_ownerNow_96 : decode cX7_ownerNow 96 = .ok (.bipush 9, 2) := by decide +kernel
theorem dX7_ownerNow_98 : decode cX7_ownerNow 98 = .ok (.iaload, 1) := by decide +kernel
theorem dX7_ownerNow_99 : decode cX7_ownerNow 99 = .ok (.ireturn, 1) := by decide +kernel
theorem dX7_ownerNow_100 : decode cX7_ownerNow 100 = .ok (.aload_n 3, 1) := by decide +kernel
theorem dX7_ownerNow_101 : decode cX7_ownerNow 101 = .ok (.bipush 10, 2) := by decide +kernel
theorem dX7_ownerNow_103 : decode cX7_ownerNow 103 = .ok (.iaload, 1) := by decide +kernel
theorem dX7_ownerNow_104 : decode cX7_ownerNow 104 = .ok (.ireturn, 1) := by decide +kernel
theorem dX7_ownerNow_105 : decode cX7_ownerNow 105 = .ok (.aload_n 3, 1) := by decide +kernel
theorem dX7_ownerNow_106 : decode cX7_ownerNow 106 = .ok (.iload_n 2, 1) := by decide +kernel
theorem dX7_ownerNow_107 : decode cX7_ownerNow 107 = .ok (.iaload, 1) := by decide +kernel
theorem dX7_ownerNow_108 : decode cX7_ownerNow 108 = .ok (.ireturn, 1) := by decide +kernel
theorem dX7_of_0 : decode cX7_of 0 = .ok (.aload_n 0, 1) := by decide +kernel
theorem dX7_of_1 : decode cX7_of 1 = .ok (.iconst 0, 1) := by decide +kernel
theorem dX7_of_2 : decode cX7_of 2 = .ok (.putfield 16, 3) := by decide +kernel
theorem dX7_of_5 : decode cX7_of 5 = .ok (.aload_n 0, 1) := by decide +kernel
theorem dX7_of_6 : decode cX7_of 6 = .ok (.iload_n 1, 1) := by decide +kernel
theorem dX7_of_7 : decode cX7_of 7 = .ok (.invokevirtual 56, 3) := by decide +kernel
theorem dX7_of_10 : decode cX7_of 10 = .ok (.ifCond .ne 9, 3) := by decide +kernel
theorem dX7_of_13 : decode cX7_of 13 = .ok (.aload_n 0, 1) := by decide +kernel
theorem dX7_of_14 : decode cX7_of 14 = .ok (.iconst 1, 1) := by decide +kernel
theorem dX7_of_15 : decode cX7_of 15 = .ok (.invokevirtual 31, 3) := by decide +kernel
theorem dX7_of_18 : decode cX7_of 18 = .ok (.ireturn, 1) := by decide +kernel
theorem dX7_of_19 : decode cX7_of 19 = .ok (.iload_n 2, 1) := by decide +kernel
theorem dX7_of_20 : decode cX7_of 20 = .ok (.iconst 0, 1) := by decide +kernel
theorem dX7_of_21 : decode cX7_of 21 = .ok (.bipush 13, 2) := by decide +kernel
theorem dX7_of_23 : decode cX7_of 23 = .ok (.invokestatic 23, 3) := by decide +kernel
theorem dX7_of_26 : decode cX7_of 26 = .ok (.ifCond .ne 9, 3) := by decide +kernel
theorem dX7_of_29 : decode cX7_of 29 = .ok (.aload_n 0, 1) := by decide +kernel
theorem dX7_of_30 : decode cX7_of 30 = .ok (.iconst 2, 1) := by decide +kernel
theorem dX7_of_31 : decode cX7_of 31 = .ok (.invokevirtual 31, 3) := by decide +kernel
theorem dX7_of_34 : decode cX7_of 34 = .ok (.ireturn, 1) := by decide +kernel
theorem dX7_of_35 : decode cX7_of 35 = .ok (.aload_n 0, 1) := by decide +kernel
theorem dX7_of_36 : decode cX7_of 36 = .ok (.iload_n 1, 1) := by decide +kernel
theorem dX7_of_37 : decode cX7_of 37 = .ok (.iload_n 2, 1) := by decide +kernel
theorem dX7_of_38 : decode cX7_of 38 = .ok (.invokevirtual 118, 3) := by decide +kernel
theorem dX7_of_41 : decode cX7_of 41 = .ok (.ireturn, 1) := by decide +kernel
theorem dX7_ofBowl_0 : decode cX7_ofBowl 0 = .ok (.aload_n 0, 1) := by decide +kernel
theorem dX7_ofBowl_1 : decode cX7_ofBowl 1 = .ok (.iconst 0, 1) := by decide +kernel
theorem dX7_ofBowl_2 : decode cX7_ofBowl 2 = .ok (.putfield 16, 3) := by decide +kernel
theorem dX7_ofBowl_5 : decode cX7_ofBowl 5 = .ok (.iload_n 1, 1) := by decide +kernel
theorem dX7_ofBowl_6 : decode cX7_ofBowl 6 = .ok (.iconst 0, 1) := by decide +kernel
theorem dX7_ofBowl_7 : decode cX7_ofBowl 7 = .ok (.sipush 5039, 3) := by decide +kernel
theorem dX7_ofBowl_10 : decode cX7_ofBowl 10 = .ok (.invokestatic 23, 3) := by decide +kernel
theorem dX7_ofBowl_13 : decode cX7_ofBowl 13 = .ok (.ifCond .ne 9, 3) := by decide +kernel
theorem dX7_ofBowl_16 : decode cX7_ofBowl 16 = .ok (.aload_n 0, 1) := by decide +kernel
theorem dX7_ofBowl_17 : decode cX7_ofBowl 17 = .ok (.iconst 1, 1) := by decide +kernel
theorem dX7_ofBowl_18 : decode cX7_ofBowl 18 = .ok (.invokevirtual 31, 3) := by decide +kernel
theorem dX7_ofBowl_21 : decode cX7_ofBowl 21 = .ok (.ireturn, 1) := by decide +kernel
theorem dX7_ofBowl_22 : decode cX7_ofBowl 22 = .ok (.iload_n 2, 1) := by decide +kernel
theorem dX7_ofBowl_23 : decode cX7_ofBowl 23 = .ok (.iconst 0, 1) := by decide +kernel
theorem dX7_ofBowl_24 : decode cX7_ofBowl 24 = .ok (.iconst 1, 1) := by decide +kernel
theorem dX7_ofBowl_25 : decode cX7_ofBowl 25 = .ok (.invokestatic 23, 3) := by decide +kernel
theorem dX7_ofBowl_28 : decode cX7_ofBowl 28 = .ok (.ifCond .ne 9, 3) := by decide +kernel
theorem dX7_ofBowl_31 : decode cX7_ofBowl 31 = .ok (.aload_n 0, 1) := by decide +kernel
theorem dX7_ofBowl_32 : decode cX7_ofBowl 32 = .ok (.iconst 2, 1) := by decide +kernel
theorem dX7_ofBowl_33 : decode cX7_ofBowl 33 = .ok (.invokevirtual 31, 3) := by decide +kernel
theorem dX7_ofBowl_36 : decode cX7_ofBowl 36 = .ok (.ireturn, 1) := by decide +kernel
theorem dX7_ofBowl_37 : decode cX7_ofBowl 37 = .ok (.iload_n 2, 1) := by decide +kernel
theorem dX7_ofBowl_38 : decode cX7_ofBowl 38 = .ok (.ifCond .ne 14, 3) := by decide +kernel
theorem dX7_ofBowl_41 : decode cX7_ofBowl 41 = .ok (.aload_n 0, 1) := by decide +kernel
theorem dX7_ofBowl_42 : decode cX7_ofBowl 42 = .ok (.getfield 10, 3) := by decide +kernel
theorem dX7_ofBowl_45 : decode cX7_ofBowl 45 = .ok (.iload_n 1, 1) := by decide +kernel
theorem dX7_ofBowl_46 : decode cX7_ofBowl 46 = .ok (.invokevirtual 121, 3) := by decide +kernel
theorem dX7_ofBowl_49 : decode cX7_ofBowl 49 = .ok (.goto 11, 3) := by decide +kernel
theorem dX7_ofBowl_52 : decode cX7_ofBowl 52 = .ok (.aload_n 0, 1) := by decide +kernel
theorem dX7_ofBowl_53 : decode cX7_ofBowl 53 = .ok (.getfield 10, 3) := by decide +kernel
theorem dX7_ofBowl_56 : decode cX7_ofBowl 56 = .ok (.iload_n 1, 1) := by decide +kernel
theorem dX7_ofBowl_57 : decode cX7_ofBowl 57 = .ok (.invokevirtual 124, 3) := by decide +kernel
theorem dX7_ofBowl_60 : decode cX7_ofBowl 60 = .ok (.ireturn, 1) := by decide +kernel
theorem dX7_ofLoan_0 : decode cX7_ofLoan 0 = .ok (.aload_n 0, 1) := by decide +kernel
theorem dX7_ofLoan_1 : decode cX7_ofLoan 1 = .ok (.iconst 0, 1) := by decide +kernel
theorem dX7_ofLoan_2 : decode cX7_ofLoan 2 = .ok (.putfield 16, 3) := by decide +kernel
theorem dX7_ofLoan_5 : decode cX7_ofLoan 5 = .ok (.iload_n 1, 1) := by decide +kernel
theorem dX7_ofLoan_6 : decode cX7_ofLoan 6 = .ok (.iconst 0, 1) := by decide +kernel
theorem dX7_ofLoan_7 : decode cX7_ofLoan 7 = .ok (.aload_n 0, 1) := by decide +kernel
theorem dX7_ofLoan_8 : decode cX7_ofLoan 8 = .ok (.getfield 10, 3) := by decide +kernel
theorem dX7_ofLoan_11 : decode cX7_ofLoan 11 = .ok (.getfield 63, 3) := by decide +kernel
theorem dX7_ofLoan_14 : decode cX7_ofLoan 14 = .ok (.iconst 1, 1) := by decide +kernel
theorem dX7_ofLoan_15 : decode cX7_ofLoan 15 = .ok (.isub, 1) := by decide +kernel
theorem dX7_ofLoan_16 : decode cX7_ofLoan 16 = .ok (.invokestatic 23, 3) := by decide +kernel
theorem dX7_ofLoan_19 : decode cX7_ofLoan 19 = .ok (.ifCond .ne 9, 3) := by decide +kernel
theorem dX7_ofLoan_22 : decode cX7_ofLoan 22 = .ok (.aload_n 0, 1) := by decide +kernel
theorem dX7_ofLoan_23 : decode cX7_ofLoan 23 = .ok (.iconst 1, 1) := by decide +kernel
theorem dX7_ofLoan_24 : decode cX7_ofLoan 24 = .ok (.invokevirtual 31, 3) := by decide +kernel
theorem dX7_ofLoan_27 : decode cX7_ofLoan 27 = .ok (.ireturn, 1) := by decide +kernel
theorem dX7_ofLoan_28 : decode cX7_ofLoan 28 = .ok (.iload_n 2, 1) := by decide +kernel
theorem dX7_ofLoan_29 : decode cX7_ofLoan 29 = .ok (.iconst 0, 1) := by decide +kernel
theorem dX7_ofLoan_30 : decode cX7_ofLoan 30 = .ok (.iconst 3, 1) := by decide +kernel
theorem dX7_ofLoan_31 : decode cX7_ofLoan 31 = .ok (.invokestatic 23, 3) := by decide +kernel
theorem dX7_ofLoan_34 : decode cX7_ofLoan 34 = .ok (.ifCond .ne 9, 3) := by decide +kernel
theorem dX7_ofLoan_37 : decode cX7_ofLoan 37 = .ok (.aload_n 0, 1) := by decide +kernel
theorem dX7_ofLoan_38 : decode cX7_ofLoan 38 = .ok (.iconst 2, 1) := by decide +kernel
theorem dX7_ofLoan_39 : decode cX7_ofLoan 39 = .ok (.invokevirtual 31, 3) := by decide +kernel
theorem dX7_ofLoan_42 : decode cX7_ofLoan 42 = .ok (.ireturn, 1) := by decide +kernel
theorem dX7_ofLoan_43 : decode cX7_ofLoan 43 = .ok (.aload_n 0, 1) := by decide +kernel
theorem dX7_ofLoan_44 : decode cX7_ofLoan 44 = .ok (.getfield 10, 3) := by decide +kernel
theorem dX7_ofLoan_47 : decode cX7_ofLoan 47 = .ok (.getfield 66, 3) := by decide +kernel
theorem dX7_ofLoan_50 : decode cX7_ofLoan 50 = .ok (.iload_n 1, 1) := by decide +kernel
theorem dX7_ofLoan_51 : decode cX7_ofLoan 51 = .ok (.aaload, 1) := by decide +kernel
theorem dX7_ofLoan_52 : decode cX7_ofLoan 52 = .ok (.iload_n 2, 1) := by decide +kernel
theorem dX7_ofLoan_53 : decode cX7_ofLoan 53 = .ok (.iaload, 1) := by decide +kernel
theorem dX7_ofLoan_54 : decode cX7_ofLoan 54 = .ok (.ireturn, 1) := by decide +kernel
theorem dX7_ofSale_0 : decode cX7_ofSale 0 = .ok (.aload_n 0, 1) := by decide +kernel
theorem dX7_ofSale_1 : decode cX7_ofSale 1 = .ok (.iconst 0, 1) := by decide +kernel
theorem dX7_ofSale_2 : decode cX7_ofSale 2 = .ok (.putfield 16, 3) := by decide +kernel
theorem dX7_ofSale_5 : decode cX7_ofSale 5 = .ok (.iload_n 1, 1) := by decide +kernel
theorem dX7_ofSale_6 : decode cX7_ofSale 6 = .ok (.iconst 0, 1) := by decide +kernel
theorem dX7_ofSale_7 : decode cX7_ofSale 7 = .ok (.aload_n 0, 1) := by decide +kernel
theorem dX7_ofSale_8 : decode cX7_ofSale 8 = .ok (.getfield 10, 3) := by decide +kernel
theorem dX7_ofSale_11 : decode cX7_ofSale 11 = .ok (.getfield 76, 3) := by decide +kernel
theorem dX7_ofSale_14 : decode cX7_ofSale 14 = .ok (.iconst 1, 1) := by decide +kernel
theorem dX7_ofSale_15 : decode cX7_ofSale 15 = .ok (.isub, 1) := by decide +kernel
theorem dX7_ofSale_16 : decode cX7_ofSale 16 = .ok (.invokestatic 23, 3) := by decide +kernel
theorem dX7_ofSale_19 : decode cX7_ofSale 19 = .ok (.ifCond .ne 9, 3) := by decide +kernel
theorem dX7_ofSale_22 : decode cX7_ofSale 22 = .ok (.aload_n 0, 1) := by decide +kernel
theorem dX7_ofSale_23 : decode cX7_ofSale 23 = .ok (.iconst 1, 1) := by decide +kernel
theorem dX7_ofSale_24 : decode cX7_ofSale 24 = .ok (.invokevirtual 31, 3) := by decide +kernel
theorem dX7_ofSale_27 : decode cX7_ofSale 27 = .ok (.ireturn, 1) := by decide +kernel
theorem dX7_ofSale_28 : decode cX7_ofSale 28 = .ok (.iload_n 2, 1) := by decide +kernel
theorem dX7_ofSale_29 : decode cX7_ofSale 29 = .ok (.iconst 0, 1) := by decide +kernel
theorem dX7_ofSale_30 : decode cX7_ofSale 30 = .ok (.iconst 2, 1) := by decide +kernel
theorem dX7_ofSale_31 : decode cX7_ofSale 31 = .ok (.invokestatic 23, 3) := by decide +kernel
theorem dX7_ofSale_34 : decode cX7_ofSale 34 = .ok (.ifCond .ne 9, 3) := by decide +kernel
theorem dX7_ofSale_37 : decode cX7_ofSale 37 = .ok (.aload_n 0, 1) := by decide +kernel
theorem dX7_ofSale_38 : decode cX7_ofSale 38 = .ok (.iconst 2, 1) := by decide +kernel
theorem dX7_ofSale_39 : decode cX7_ofSale 39 = .ok (.invokevirtual 31, 3) := by decide +kernel
theorem dX7_ofSale_42 : decode cX7_ofSale 42 = .ok (.ireturn, 1) := by decide +kernel
theorem dX7_ofSale_43 : decode cX7_ofSale 43 = .ok (.aload_n 0, 1) := by decide +kernel
theorem dX7_ofSale_44 : decode cX7_ofSale 44 = .ok (.getfield 10, 3) := by decide +kernel
theorem dX7_ofSale_47 : decode cX7_ofSale 47 = .ok (.getfield 79, 3) := by decide +kernel
theorem dX7_ofSale_50 : decode cX7_ofSale 50 = .ok (.iload_n 1, 1) := by decide +kernel
theorem dX7_ofSale_51 : decode cX7_ofSale 51 = .ok (.aaload, 1) := by decide +kernel
theorem dX7_ofSale_52 : decode cX7_ofSale 52 = .ok (.iload_n 2, 1) := by decide +kernel
theorem dX7_ofSale_53 : decode cX7_ofSale 53 = .ok (.iaload, 1) := by decide +kernel
theorem dX7_ofSale_54 : decode cX7_ofSale 54 = .ok (.ireturn, 1) := by decide +kernel
theorem dX7_manyNow_0 : decode cX7_manyNow 0 = .ok (.iconst 0, 1) := by decide +kernel
theorem dX7_manyNow_1 : decode cX7_manyNow 1 = .ok (.istore_n 2, 1) := by decide +kernel
theorem dX7_manyNow_2 : decode cX7_manyNow 2 = .ok (.iconst 0, 1) := by decide +kernel
theorem dX7_manyNow_3 : decode cX7_manyNow 3 = .ok (.istore_n 3, 1) := by decide +kernel
theorem dX7_manyNow_4 : decode cX7_manyNow 4 = .ok (.iload_n 3, 1) := by decide +kernel
theorem dX7_manyNow_5 : decode cX7_manyNow 5 = .ok (.aload_n 0, 1) := by decide +kernel
theorem dX7_manyNow_6 : decode cX7_manyNow 6 = .ok (.getfield 10, 3) := by decide +kernel
theorem dX7_manyNow_9 : decode cX7_manyNow 9 = .ok (.getfield 53, 3) := by decide +kernel
theorem dX7_manyNow_12 : decode cX7_manyNow 12 = .ok (.if_icmp .ge 27, 3) := by decide +kernel
theorem dX7_manyNow_15 : decode cX7_manyNow 15 = .ok (.iload_n 2, 1) := by decide +kernel
theorem dX7_manyNow_16 : decode cX7_manyNow 16 = .ok (.aload_n 0, 1) := by decide +kernel
theorem dX7_manyNow_17 : decode cX7_manyNow 17 = .ok (.aload_n 0, 1) := by decide +kernel
theorem dX7_manyNow_18 : decode cX7_manyNow 18 = .ok (.getfield 10, 3) := by decide +kernel
theorem dX7_manyNow_21 : decode cX7_manyNow 21 = .ok (.getfield 49, 3) := by decide +kernel
theorem dX7_manyNow_24 : decode cX7_manyNow 24 = .ok (.iload_n 3, 1) := by decide +kernel
theorem dX7_manyNow_25 : decode cX7_manyNow 25 = .ok (.iaload, 1) := by decide +kernel
theorem dX7_manyNow_26 : decode cX7_manyNow 26 = .ok (.invokevirtual 39, 3) := by decide +kernel
theorem dX7_manyNow_29 : decode cX7_manyNow 29 = .ok (.iconst 1, 1) := by decide +kernel
theorem dX7_manyNow_30 : decode cX7_manyNow 30 = .ok (.iaload, 1) := by decide +kernel
theorem dX7_manyNow_31 : decode cX7_manyNow 31 = .ok (.iadd, 1) := by decide +kernel
theorem dX7_manyNow_32 : decode cX7_manyNow 32 = .ok (.istore_n 2, 1) := by decide +kernel
theorem dX7_manyNow_33 : decode cX7_manyNow 33 = .ok (.iinc 3 1, 3) := by decide +kernel
theorem dX7_manyNow_36 : decode cX7_manyNow 36 = .ok (.goto (-32), 3) := by decide +kernel
theorem dX7_manyNow_39 : decode cX7_manyNow 39 = .ok (.bipush 16, 2) := by decide +kernel
theorem dX7_manyNow_41 : decode cX7_manyNow 41 = .ok (.newarray .int, 2) := by decide +kernel
theorem dX7_manyNow_43 : decode cX7_manyNow 43 = .ok (.dup, 1) := by decide +kernel
theorem dX7_manyNow_44 : decode cX7_manyNow 44 = .ok (.iconst 0, 1) := by decide +kernel
theorem dX7_manyNow_45 : decode cX7_manyNow 45 = .ok (.aload_n 0, 1) := by decide +kernel
theorem dX7_manyNow_46 : decode cX7_manyNow 46 = .ok (.getfield 10, 3) := by decide +kernel
theorem dX7_manyNow_49 : decode cX7_manyNow 49 = .ok (.getfield 99, 3) := by decide +kernel
theorem dX7_manyNow_52 : decode cX7_manyNow 52 = .ok (.iastore, 1) := by decide +kernel
theorem dX7_manyNow_53 : decode cX7_manyNow 53 = .ok (.dup, 1) := by decide +kernel
theorem dX7_manyNow_54 : decode cX7_manyNow 54 = .ok (.iconst 1, 1) := by decide +kernel
theorem dX7_manyNow_55 : decode cX7_manyNow 55 = .ok (.aload_n 0, 1) := by decide +kernel
theorem dX7_manyNow_56 : decode cX7_manyNow 56 = .ok (.getfield 10, 3) := by decide +kernel
theorem dX7_manyNow_59 : decode cX7_manyNow 59 = .ok (.getfield 99, 3) := by decide +kernel
theorem dX7_manyNow_62 : decode cX7_manyNow 62 = .ok (.bipush 70, 2) := by decide +kernel
theorem dX7_manyNow_64 : decode cX7_manyNow 64 = .ok (.irem, 1) := by decide +kernel
theorem dX7_manyNow_65 : decode cX7_manyNow 65 = .ok (.iastore, 1) := by decide +kernel
theorem dX7_manyNow_66 : decode cX7_manyNow 66 = .ok (.dup, 1) := by decide +kernel
theorem dX7_manyNow_67 : decode cX7_manyNow 67 = .ok (.iconst 2, 1) := by decide +kernel
theorem dX7_manyNow_68 : decode cX7_manyNow 68 = .ok (.aload_n 0, 1) := by decide +kernel
theorem dX7_manyNow_69 : decode cX7_manyNow 69 = .ok (.getfield 10, 3) := by decide +kernel
theorem dX7_manyNow_72 : decode cX7_manyNow 72 = .ok (.getfield 127, 3) := by decide +kernel
theorem dX7_manyNow_75 : decode cX7_manyNow 75 = .ok (.iastore, 1) := by decide +kernel
theorem dX7_manyNow_76 : decode cX7_manyNow 76 = .ok (.dup, 1) := by decide +kernel
theorem dX7_manyNow_77 : decode cX7_manyNow 77 = .ok (.iconst 3, 1) := by decide +kernel
theorem dX7_manyNow_78 : decode cX7_manyNow 78 = .ok (.aload_n 0, 1) := by decide +kernel
theorem dX7_manyNow_79 : decode cX7_manyNow 79 = .ok (.getfield 10, 3) := by decide +kernel
theorem dX7_manyNow_82 : decode cX7_manyNow 82 = .ok (.invokevirtual 130, 3) := by decide +kernel
theorem dX7_manyNow_85 : decode cX7_manyNow 85 = .ok (.iastore, 1) := by decide +kernel
theorem dX7_manyNow_86 : decode cX7_manyNow 86 = .ok (.dup, 1) := by decide +kernel
theorem dX7_manyNow_87 : decode cX7_manyNow 87 = .ok (.iconst 4, 1) := by decide +kernel
theorem dX7_manyNow_88 : decode cX7_manyNow 88 = .ok (.aload_n 0, 1) := by decide +kernel
theorem dX7_manyNow_89 : decode cX7_manyNow 89 = .ok (.getfield 10, 3) := by decide +kernel
theorem dX7_manyNow_92 : decode cX7_manyNow 92 = .ok (.getfield 82, 3) := by decide +kernel
theorem dX7_manyNow_95 : decode cX7_manyNow 95 = .ok (.iastore, 1) := by decide +kernel
theorem dX7_manyNow_96 : decode cX7_manyNow 96 = .ok (.dup, 1) := by decide +kernel
theorem dX7_manyNow_97 : decode cX7_manyNow 97 = .ok (.iconst 5, 1) := by decide +kernel
theorem dX7_manyNow_98 : decode cX7_manyNow 98 = .ok (.aload_n 0, 1) := by decide +kernel
theorem dX7_manyNow_99 : decode cX7_manyNow 99 = .ok (.getfield 10, 3) := by decide +kernel
theorem dX7_manyNow_102 : decode cX7_manyNow 102 = .ok (.getfield 88, 3) := by decide +kernel
theorem dX7_manyNow_105 : decode cX7_manyNow 105 = .ok (.iastore, 1) := by decide +kernel
theorem dX7_manyNow_106 : decode cX7_manyNow 106 = .ok (.dup, 1) := by decide +kernel
theorem dX7_manyNow_107 : decode cX7_manyNow 107 = .ok (.bipush 6, 2) := by decide +kernel
theorem dX7_manyNow_109 : decode cX7_manyNow 109 = .ok (.aload_n 0, 1) := by decide +kernel
theorem dX7_manyNow_110 : decode cX7_manyNow 110 = .ok (.getfield 10, 3) := by decide +kernel
theorem dX7_manyNow_113 : decode cX7_manyNow 113 = .ok (.getfield 96, 3) := by decide +kernel
theorem dX7_manyNow_116 : decode cX7_manyNow 116 = .ok (.iastore, 1) := by decide +kernel
theorem dX7_manyNow_117 : decode cX7_manyNow 117 = .ok (.dup, 1) := by decide +kernel
theorem dX7_manyNow_118 : decode cX7_manyNow 118 = .ok (.bipush 7, 2) := by decide +kernel
theorem dX7_manyNow_120 : decode cX7_manyNow 120 = .ok (.aload_n 0, 1) := by decide +kernel
theorem dX7_manyNow_121 : decode cX7_manyNow 121 = .ok (.getfield 10, 3) := by decide +kernel
theorem dX7_manyNow_124 : decode cX7_manyNow 124 = .ok (.getfield 53, 3) := by decide +kernel
theorem dX7_manyNow_127 : decode cX7_manyNow 127 = .ok (.iastore, 1) := by decide +kernel
theorem dX7_manyNow_128 : decode cX7_manyNow 128 = .ok (.dup, 1) := by decide +kernel
theorem dX7_manyNow_129 : decode cX7_manyNow 129 = .ok (.bipush 8, 2) := by decide +kernel
theorem dX7_manyNow_131 : decode cX7_manyNow 131 = .ok (.aload_n 0, 1) := by decide +kernel
theorem dX7_manyNow_132 : decode cX7_manyNow 132 = .ok (.getfield 10, 3) := by decide +kernel
theorem dX7_manyNow_135 : decode cX7_manyNow 135 = .ok (.getfield 20, 3) := by decide +kernel
theorem dX7_manyNow_138 : decode cX7_manyNow 138 = .ok (.iastore, 1) := by decide +kernel
theorem dX7_manyNow_139 : decode cX7_manyNow 139 = .ok (.dup, 1) := by decide +kernel
theorem dX7_manyNow_140 : decode cX7_manyNow 140 = .ok (.bipush 9, 2) := by decide +kernel
theorem dX7_manyNow_142 : decode cX7_manyNow 142 = .ok (.sipush 5040, 3) := by decide +kernel
theorem dX7_manyNow_145 : decode cX7_manyNow 145 = .ok (.aload_n 0, 1) := by decide +kernel
theorem dX7_manyNow_146 : decode cX7_manyNow 146 = .ok (.getfield 10, 3) := by decide +kernel
theorem dX7_manyNow_149 : decode cX7_manyNow 149 = .ok (.invokevirtual 35, 3) := by decide +kernel
theorem dX7_manyNow_152 : decode cX7_manyNow 152 = .ok (.isub, 1) := by decide +kernel
theorem dX7_manyNow_153 : decode cX7_manyNow 153 = .ok (.iastore, 1) := by decide +kernel
theorem dX7_manyNow_154 : decode cX7_manyNow 154 = .ok (.dup, 1) := by decide +kernel
theorem dX7_manyNow_155 : decode cX7_manyNow 155 = .ok (.bipush 10, 2) := by decide +kernel
theorem dX7_manyNow_157 : decode cX7_manyNow 157 = .ok (.aload_n 0, 1) := by decide +kernel
theorem dX7_manyNow_158 : decode cX7_manyNow 158 = .ok (.getfield 10, 3) := by decide +kernel
theorem dX7_manyNow_161 : decode cX7_manyNow 161 = .ok (.getfield 63, 3) := by decide +kernel
theorem dX7_manyNow_164 : decode cX7_manyNow 164 = .ok (.iastore, 1) := by decide +kernel
theorem dX7_manyNow_165 : decode cX7_manyNow 165 = .ok (.dup, 1) := by decide +kernel
theorem dX7_manyNow_166 : decode cX7_manyNow 166 = .ok (.bipush 11, 2) := by decide +kernel
theorem dX7_manyNow_168 : decode cX7_manyNow 168 = .ok (.aload_n 0, 1) := by decide +kernel
theorem dX7_manyNow_169 : decode cX7_manyNow 169 = .ok (.getfield 10, 3) := by decide +kernel
theorem dX7_manyNow_172 : decode cX7_manyNow 172 = .ok (.getfield 76, 3) := by decide +kernel
theorem dX7_manyNow_175 : decode cX7_manyNow 175 = .ok (.iastore, 1) := by decide +kernel
theorem dX7_manyNow_176 : decode cX7_manyNow 176 = .ok (.dup, 1) := by decide +kernel
theorem dX7_manyNow_177 : decode cX7_manyNow 177 = .ok (.bipush 12, 2) := by decide +kernel
theorem dX7_manyNow_179 : decode cX7_manyNow 179 = .ok (.aload_n 0, 1) := by decide +kernel
theorem dX7_manyNow_180 : decode cX7_manyNow 180 = .ok (.getfield 10, 3) := by decide +kernel
theorem dX7_manyNow_183 : decode cX7_manyNow 183 = .ok (.getfield 133, 3) := by decide +kernel
theorem dX7_manyNow_186 : decode cX7_manyNow 186 = .ok (.iastore, 1) := by decide +kernel
theorem dX7_manyNow_187 : decode cX7_manyNow 187 = .ok (.dup, 1) := by decide +kernel
theorem dX7_manyNow_188 : decode cX7_manyNow 188 = .ok (.bipush 13, 2) := by decide +kernel
theorem dX7_manyNow_190 : decode cX7_manyNow 190 = .ok (.aload_n 0, 1) := by decide +kernel
theorem dX7_manyNow_191 : decode cX7_manyNow 191 = .ok (.getfield 10, 3) := by decide +kernel
theorem dX7_manyNow_194 : decode cX7_manyNow 194 = .ok (.getfield 136, 3) := by decide +kernel
theorem dX7_manyNow_197 : decode cX7_manyNow 197 = .ok (.iastore, 1) := by decide +kernel
theorem dX7_manyNow_198 : decode cX7_manyNow 198 = .ok (.dup, 1) := by decide +kernel
theorem dX7_manyNow_199 : decode cX7_manyNow 199 = .ok (.bipush 14, 2) := by decide +kernel
theorem dX7_manyNow_201 : decode cX7_manyNow 201 = .ok (.aload_n 0, 1) := by decide +kernel
theorem dX7_manyNow_202 : decode cX7_manyNow 202 = .ok (.getfield 10, 3) := by decide +kernel
theorem dX7_manyNow_205 : decode cX7_manyNow 205 = .ok (.getfield 139, 3) := by decide +kernel
theorem dX7_manyNow_208 : decode cX7_manyNow 208 = .ok (.iastore, 1) := by decide +kernel
theorem dX7_manyNow_209 : decode cX7_manyNow 209 = .ok (.dup, 1) := by decide +kernel
theorem dX7_manyNow_210 : decode cX7_manyNow 210 = .ok (.bipush 15, 2) := by decide +kernel
theorem dX7_manyNow_212 : decode cX7_manyNow 212 = .ok (.iload_n 2, 1) := by decide +kernel
theorem dX7_manyNow_213 : decode cX7_manyNow 213 = .ok (.iastore, 1) := by decide +kernel
theorem dX7_manyNow_214 : decode cX7_manyNow 214 = .ok (.astore_n 3, 1) := by decide +kernel
theorem dX7_manyNow_215 : decode cX7_manyNow 215 = .ok (.aload_n 3, 1) := by decide +kernel
theorem dX7_manyNow_216 : decode cX7_manyNow 216 = .ok (.iload_n 1, 1) := by decide +kernel
theorem dX7_manyNow_217 : decode cX7_manyNow 217 = .ok (.iaload, 1) := by decide +kernel
theorem dX7_manyNow_218 : decode cX7_manyNow 218 = .ok (.ireturn, 1) := by decide +kernel
theorem dX7_many_0 : decode cX7_many 0 = .ok (.aload_n 0, 1) := by decide +kernel
theorem dX7_many_1 : decode cX7_many 1 = .ok (.iconst 0, 1) := by decide +kernel
theorem dX7_many_2 : decode cX7_many 2 = .ok (.putfield 16, 3) := by decide +kernel
theorem dX7_many_5 : decode cX7_many 5 = .ok (.iload_n 1, 1) := by decide +kernel
theorem dX7_many_6 : decode cX7_many 6 = .ok (.iconst 0, 1) := by decide +kernel
theorem dX7_many_7 : decode cX7_many 7 = .ok (.bipush 15, 2) := by decide +kernel
theorem dX7_many_9 : decode cX7_many 9 = .ok (.invokestatic 23, 3) := by decide +kernel
theorem dX7_many_12 : decode cX7_many 12 = .ok (.ifCond .ne 9, 3) := by decide +kernel
theorem dX7_many_15 : decode cX7_many 15 = .ok (.aload_n 0, 1) := by decide +kernel
theorem dX7_many_16 : decode cX7_many 16 = .ok (.iconst 1, 1) := by decide +kernel
theorem dX7_many_17 : decode cX7_many 17 = .ok (.invokevirtual 31, 3) := by decide +kernel
theorem dX7_many_20 : decode cX7_many 20 = .ok (.ireturn, 1) := by decide +kernel
theorem dX7_many_21 : decode cX7_many 21 = .ok (.aload_n 0, 1) := by decide +kernel
theorem dX7_many_22 : decode cX7_many 22 = .ok (.iload_n 1, 1) := by decide +kernel
theorem dX7_many_23 : decode cX7_many 23 = .ok (.invokevirtual 142, 3) := by decide +kernel
theorem dX7_many_26 : decode cX7_many 26 = .ok (.ireturn, 1) := by decide +kernel
theorem dX7_meanMoist_0 : decode cX7_meanMoist 0 = .ok (.aload_n 0, 1) := by decide +kernel
theorem dX7_meanMoist_1 : decode cX7_meanMoist 1 = .ok (.iconst 0, 1) := by decide +kernel
theorem dX7_meanMoist_2 : decode cX7_meanMoist 2 = .ok (.putfield 16, 3) := by decide +kernel
theorem dX7_meanMoist_5 : decode cX7_meanMoist 5 = .ok (.iconst 0, 1) := by decide +kernel
theorem dX7_meanMoist_6 : decode cX7_meanMoist 6 = .ok (.istore_n 1, 1) := by decide +kernel
theorem dX7_meanMoist_7 : decode cX7_meanMoist 7 = .ok (.iconst 0, 1) := by decide +kernel
theorem dX7_meanMoist_8 : decode cX7_meanMoist 8 = .ok (.istore_n 2, 1) := by decide +kernel
theorem dX7_meanMoist_9 : decode cX7_meanMoist 9 = .ok (.iload_n 2, 1) := by decide +kernel
theorem dX7_meanMoist_10 : decode cX7_meanMoist 10 = .ok (.aload_n 0, 1) := by decide +kernel
theorem dX7_meanMoist_11 : decode cX7_meanMoist 11 = .ok (.getfield 10, 3) := by decide +kernel
theorem dX7_meanMoist_14 : decode cX7_meanMoist 14 = .ok (.getfield 53, 3) := by decide +kernel
theorem dX7_meanMoist_17 : decode cX7_meanMoist 17 = .ok (.if_icmp .ge 27, 3) := by decide +kernel
theorem dX7_meanMoist_20 : decode cX7_meanMoist 20 = .ok (.iload_n 1, 1) := by decide +kernel
theorem dX7_meanMoist_21 : decode cX7_meanMoist 21 = .ok (.aload_n 0, 1) := by decide +kernel
theorem dX7_meanMoist_22 : decode cX7_meanMoist 22 = .ok (.aload_n 0, 1) := by decide +kernel
theorem dX7_meanMoist_23 : decode cX7_meanMoist 23 = .ok (.getfield 10, 3) := by decide +kernel
theorem dX7_meanMoist_26 : decode cX7_meanMoist 26 = .ok (.getfield 49, 3) := by decide +kernel
theorem dX7_meanMoist_29 : decode cX7_meanMoist 29 = .ok (.iload_n 2, 1) := by decide +kernel
theorem dX7_meanMoist_30 : decode cX7_meanMoist 30 = .ok (.iaload, 1) := by decide +kernel
theorem dX7_meanMoist_31 : decode cX7_meanMoist 31 = .ok (.invokevirtual 39, 3) := by decide +kernel
theorem dX7_meanMoist_34 : decode cX7_meanMoist 34 = .ok (.iconst 4, 1) := by decide +kernel
theorem dX7_meanMoist_35 : decode cX7_meanMoist 35 = .ok (.iaload, 1) := by decide +kernel
theorem dX7_meanMoist_36 : decode cX7_meanMoist 36 = .ok (.iadd, 1) := by decide +kernel
theorem dX7_meanMoist_37 : decode cX7_meanMoist 37 = .ok (.istore_n 1, 1) := by decide +kernel
theorem dX7_meanMoist_38 : decode cX7_meanMoist 38 = .ok (.iinc 2 1, 3) := by decide +kernel
theorem dX7_meanMoist_41 : decode cX7_meanMoist 41 = .ok (.goto (-32), 3) := by decide +kernel
theorem dX7_meanMoist_44 : decode cX7_meanMoist 44 = .ok (.aload_n 0, 1) := by decide +kernel
theorem dX7_meanMoist_45 : decode cX7_meanMoist 45 = .ok (.getfield 10, 3) := by decide +kernel
theorem dX7_meanMoist_48 : decode cX7_meanMoist 48 = .ok (.getfield 53, 3) := by decide +kernel
theorem dX7_meanMoist_51 : decode cX7_meanMoist 51 = .ok (.ifCond .ne 7, 3) := by decide +kernel
theorem dX7_meanMoist_54 : decode cX7_meanMoist 54 = .ok (.dconst 0, 1) := by decide +kernel
theorem dX7_meanMoist_55 : decode cX7_meanMoist 55 = .ok (.goto 14, 3) := by decide +kernel
theorem dX7_meanMoist_58 : decode cX7_meanMoist 58 = .ok (.iload_n 1, 1) := by decide +kernel
theorem dX7_meanMoist_59 : decode cX7_meanMoist 59 = .ok (.i2d, 1) := by decide +kernel
theorem dX7_meanMoist_60 : decode cX7_meanMoist 60 = .ok (.aload_n 0, 1) := by decide +kernel
theorem dX7_meanMoist_61 : decode cX7_meanMoist 61 = .ok (.getfield 10, 3) := by decide +kernel
theorem dX7_meanMoist_64 : decode cX7_meanMoist 64 = .ok (.getfield 53, 3) := by decide +kernel
theorem dX7_meanMoist_67 : decode cX7_meanMoist 67 = .ok (.i2d, 1) := by decide +kernel
theorem dX7_meanMoist_68 : decode cX7_meanMoist 68 = .ok (.ddiv, 1) := by decide +kernel
theorem dX7_meanMoist_69 : decode cX7_meanMoist 69 = .ok (.dreturn, 1) := by decide +kernel
theorem dX7_comeNow_0 : decode cX7_comeNow 0 = .ok (.aload_n 0, 1) := by decide +kernel
theorem dX7_comeNow_1 : decode cX7_comeNow 1 = .ok (.getfield 10, 3) := by decide +kernel
theorem dX7_comeNow_4 : decode cX7_comeNow 4 = .ok (.invokevirtual 145, 3) := by decide +kernel
theorem dX7_comeNow_7 : decode cX7_comeNow 7 = .ok (.astore 4, 2) := by decide +kernel
theorem dX7_comeNow_9 : decode cX7_comeNow 9 = .ok (.aload 4, 2) := by decide +kernel
theorem dX7_comeNow_11 : decode cX7_comeNow 11 = .ok (.iload_n 2, 1) := by decide +kernel
theorem dX7_comeNow_12 : decode cX7_comeNow 12 = .ok (.iload_n 3, 1) := by decide +kernel
theorem dX7_comeNow_13 : decode cX7_comeNow 13 = .ok (.invokevirtual 109, 3) := by decide +kernel
theorem dX7_comeNow_16 : decode cX7_comeNow 16 = .ok (.pop, 1) := by decide +kernel
theorem dX7_comeNow_17 : decode cX7_comeNow 17 = .ok (.aload 4, 2) := by decide +kernel
theorem dX7_comeNow_19 : decode cX7_comeNow 19 = .ok (.getfield 27, 3) := by decide +kernel
theorem dX7_comeNow_22 : decode cX7_comeNow 22 = .ok (.iload_n 1, 1) := by decide +kernel
theorem dX7_comeNow_23 : decode cX7_comeNow 23 = .ok (.aaload, 1) := by decide +kernel
theorem dX7_comeNow_24 : decode cX7_comeNow 24 = .ok (.bipush 10, 2) := by decide +kernel
theorem dX7_comeNow_26 : decode cX7_comeNow 26 = .ok (.iaload, 1) := by decide +kernel
theorem dX7_comeNow_27 : decode cX7_comeNow 27 = .ok (.aload_n 0, 1) := by decide +kernel
theorem dX7_comeNow_28 : decode cX7_comeNow 28 = .ok (.iload_n 1, 1) := by decide +kernel
theorem dX7_comeNow_29 : decode cX7_comeNow 29 = .ok (.invokevirtual 39, 3) := by decide +kernel
theorem dX7_comeNow_32 : decode cX7_comeNow 32 = .ok (.bipush 10, 2) := by decide +kernel
theorem dX7_comeNow_34 : decode cX7_comeNow 34 = .ok (.iaload, 1) := by decide +kernel
theorem dX7_comeNow_35 : decode cX7_comeNow 35 = .ok (.isub, 1) := by decide +kernel
theorem dX7_comeNow_36 : decode cX7_comeNow 36 = .ok (.ireturn, 1) := by decide +kernel
theorem dX7_wouldCome_0 : decode cX7_wouldCome 0 = .ok (.aload_n 0, 1) := by decide +kernel
theorem dX7_wouldCome_1 : decode cX7_wouldCome 1 = .ok (.iconst 0, 1) := by decide +kernel
theorem dX7_wouldCome_2 : decode cX7_wouldCome 2 = .ok (.putfield 16, 3) := by decide +kernel
theorem dX7_wouldCome_5 : decode cX7_wouldCome 5 = .ok (.aload_n 0, 1) := by decide +kernel
theorem dX7_wouldCome_6 : decode cX7_wouldCome 6 = .ok (.iload_n 1, 1) := by decide +kernel
theorem dX7_wouldCome_7 : decode cX7_wouldCome 7 = .ok (.invokevirtual 56, 3) := by decide +kernel
theorem dX7_wouldCome_10 : decode cX7_wouldCome 10 = .ok (.ifCond .ne 9, 3) := by decide +kernel
theorem dX7_wouldCome_13 : decode cX7_wouldCome 13 = .ok (.aload_n 0, 1) := by decide +kernel
theorem dX7_wouldCome_14 : decode cX7_wouldCome 14 = .ok (.iconst 1, 1) := by decide +kernel
theorem dX7_wouldCome_15 : decode cX7_wouldCome 15 = .ok (.invokevirtual 31, 3) := by decide +kernel
theorem dX7_wouldCome_18 : decode cX7_wouldCome 18 = .ok (.ireturn, 1) := by decide +kernel
theorem dX7_wouldCome_19 : decode cX7_wouldCome 19 = .ok (.iload_n 2, 1) := by decide +kernel
theorem dX7_wouldCome_20 : decode cX7_wouldCome 20 = .ok (.iload_n 3, 1) := by decide +kernel
theorem dX7_wouldCome_21 : decode cX7_wouldCome 21 = .ok (.bipush 70, 2) := by decide +kernel
theorem dX7_wouldCome_23 : decode cX7_wouldCome 23 = .ok (.invokestatic 106, 3) := by decide +kernel
theorem dX7_wouldCome_26 : decode cX7_wouldCome 26 = .ok (.ifCond .ne 9, 3) := by decide +kernel
theorem dX7_wouldCome_29 : decode cX7_wouldCome 29 = .ok (.aload_n 0, 1) := by decide +kernel
theorem dX7_wouldCome_30 : decode cX7_wouldCome 30 = .ok (.iconst 2, 1) := by decide +kernel
theorem dX7_wouldCome_31 : decode cX7_wouldCome 31 = .ok (.invokevirtual 31, 3) := by decide +kernel
theorem dX7_wouldCome_34 : decode cX7_wouldCome 34 = .ok (.ireturn, 1) := by decide +kernel
theorem dX7_wouldCome_35 : decode cX7_wouldCome 35 = .ok (.aload_n 0, 1) := by decide +kernel
theorem dX7_wouldCome_36 : decode cX7_wouldCome 36 = .ok (.iload_n 1, 1) := by decide +kernel
theorem dX7_wouldCome_37 : decode cX7_wouldCome 37 = .ok (.iload_n 2, 1) := by decide +kernel
theorem dX7_wouldCome_38 : decode cX7_wouldCome 38 = .ok (.iload_n 3, 1) := by decide +kernel
theorem dX7_wouldCome_39 : decode cX7_wouldCome 39 = .ok (.invokevirtual 149, 3) := by decide +kernel
theorem dX7_wouldCome_42 : decode cX7_wouldCome 42 = .ok (.ireturn, 1) := by decide +kernel
theorem dX7_digNow_0 : decode cX7_digNow 0 = .ok (.iconst 0, 1) := by decide +kernel
theorem dX7_digNow_1 : decode cX7_digNow 1 = .ok (.istore_n 3, 1) := by decide +kernel
theorem dX7_digNow_2 : decode cX7_digNow 2 = .ok (.iconst (-1), 1) := by decide +kernel
theorem dX7_digNow_3 : decode cX7_digNow 3 = .ok (.istore 4, 2) := by decide +kernel
theorem dX7_digNow_5 : decode cX7_digNow 5 = .ok (.iconst 0, 1) := by decide +kernel
theorem dX7_digNow_6 : decode cX7_digNow 6 = .ok (.istore 5, 2) := by decide +kernel
theorem dX7_digNow_8 : decode cX7_digNow 8 = .ok (.iload 5, 2) := by decide +kernel
theorem dX7_digNow_10 : decode cX7_digNow 10 = .ok (.bipush 20, 2) := by decide +kernel
theorem dX7_digNow_12 : decode cX7_digNow 12 = .ok (.if_icmp .gt 77, 3) := by decide +kernel
theorem dX7_digNow_15 : decode cX7_digNow 15 = .ok (.aload_n 0, 1) := by decide +kernel
theorem dX7_digNow_16 : decode cX7_digNow 16 = .ok (.getfield 10, 3) := by decide +kernel
theorem dX7_digNow_19 : decode cX7_digNow 19 = .ok (.getfield 82, 3) := by decide +kernel
theorem dX7_digNow_22 : decode cX7_digNow 22 = .ok (.iload 5, 2) := by decide +kernel
theorem dX7_digNow_24 : decode cX7_digNow 24 = .ok (.iadd, 1) := by decide +kernel
theorem dX7_digNow_25 : decode cX7_digNow 25 = .ok (.bipush 90, 2) := by decide +kernel
theorem dX7_digNow_27 : decode cX7_digNow 27 = .ok (.if_icmp .gt 62, 3) := by decide +kernel
theorem dX7_digNow_30 : decode cX7_digNow 30 = .ok (.aload_n 0, 1) := by decide +kernel
theorem dX7_digNow_31 : decode cX7_digNow 31 = .ok (.getfield 10, 3) := by decide +kernel
theorem dX7_digNow_34 : decode cX7_digNow 34 = .ok (.invokevirtual 145, 3) := by decide +kernel
theorem dX7_digNow_37 : decode cX7_digNow 37 = .ok (.astore 6, 2) := by decide +kernel
theorem dX7_digNow_39 : decode cX7_digNow 39 = .ok (.aload 6, 2) := by decide +kernel
theorem dX7_digNow_41 : decode cX7_digNow 41 = .ok (.dup, 1) := by decide +kernel
theorem dX7_digNow_42 : decode cX7_digNow 42 = .ok (.getfield 82, 3) := by decide +kernel
theorem dX7_digNow_45 : decode cX7_digNow 45 = .ok (.iload 5, 2) := by decide +kernel
theorem dX7_digNow_47 : decode cX7_digNow 47 = .ok (.iadd, 1) := by decide +kernel
theorem dX7_digNow_48 : decode cX7_digNow 48 = .ok (.putfield 82, 3) := by decide +kernel
theorem dX7_digNow_51 : decode cX7_digNow 51 = .ok (.aload 6, 2) := by decide +kernel
theorem dX7_digNow_53 : decode cX7_digNow 53 = .ok (.iload_n 1, 1) := by decide +kernel
theorem dX7_digNow_54 : decode cX7_digNow 54 = .ok (.iload_n 2, 1) := by decide +kernel
theorem dX7_digNow_55 : decode cX7_digNow 55 = .ok (.invokevirtual 109, 3) := by decide +kernel
theorem dX7_digNow_58 : decode cX7_digNow 58 = .ok (.istore 7, 2) := by decide +kernel
theorem dX7_digNow_60 : decode cX7_digNow 60 = .ok (.iload 7, 2) := by decide +kernel
theorem dX7_digNow_62 : decode cX7_digNow 62 = .ok (.iload 4, 2) := by decide +kernel
theorem dX7_digNow_64 : decode cX7_digNow 64 = .ok (.if_icmp .le 8, 3) := by decide +kernel
theorem dX7_digNow_67 : decode cX7_digNow 67 = .ok (.iload 5, 2) := by decide +kernel
theorem dX7_digNow_69 : decode cX7_digNow 69 = .ok (.goto 4, 3) := by decide +kernel
theorem dX7_digNow_72 : decode cX7_digNow 72 = .ok (.iload_n 3, 1) := by decide +kernel
theorem dX7_digNow_73 : decode cX7_digNow 73 = .ok (.istore_n 3, 1) := by decide +kernel
theorem dX7_digNow_74 : decode cX7_digNow 74 = .ok (.iload 4, 2) := by decide +kernel
theorem dX7_digNow_76 : decode cX7_digNow 76 = .ok (.iload 7, 2) := by decide +kernel
theorem dX7_digNow_78 : decode cX7_digNow 78 = .ok (.invokestatic 153, 3) := by decide +kernel
theorem dX7_digNow_81 : decode cX7_digNow 81 = .ok (.istore 4, 2) := by decide +kernel
theorem dX7_digNow_83 : decode cX7_digNow 83 = .ok (.iinc 5 1, 3) := by decide +kernel
theorem dX7_digNow_86 : decode cX7_digNow 86 = .ok (.goto (-78), 3) := by decide +kernel
theorem dX7_digNow_89 : decode cX7_digNow 89 = .ok (.iload_n 3, 1) := by decide +kernel
theorem dX7_digNow_90 : decode cX7_digNow 90 = .ok (.ireturn, 1) := by decide +kernel
theorem dX7_bestDig_0 : decode cX7_bestDig 0 = .ok (.aload_n 0, 1) := by decide +kernel
theorem dX7_bestDig_1 : decode cX7_bestDig 1 = .ok (.iconst 0, 1) := by decide +kernel
theorem dX7_bestDig_2 : decode cX7_bestDig 2 = .ok (.putfield 16, 3) := by decide +kernel
theorem dX7_bestDig_5 : decode cX7_bestDig 5 = .ok (.iload_n 1, 1) := by decide +kernel
theorem dX7_bestDig_6 : decode cX7_bestDig 6 = .ok (.iload_n 2, 1) := by decide +kernel
theorem dX7_bestDig_7 : decode cX7_bestDig 7 = .ok (.bipush 35, 2) := by decide +kernel
theorem dX7_bestDig_9 : decode cX7_bestDig 9 = .ok (.invokestatic 106, 3) := by decide +kernel
theorem dX7_bestDig_12 : decode cX7_bestDig 12 = .ok (.ifCond .ne 9, 3) := by decide +kernel
theorem dX7_bestDig_15 : decode cX7_bestDig 15 = .ok (.aload_n 0, 1) := by decide +kernel
theorem dX7_bestDig_16 : decode cX7_bestDig 16 = .ok (.iconst 1, 1) := by decide +kernel
theorem dX7_bestDig_17 : decode cX7_bestDig 17 = .ok (.invokevirtual 31, 3) := by decide +kernel
theorem dX7_bestDig_20 : decode cX7_bestDig 20 = .ok (.ireturn, 1) := by decide +kernel
theorem dX7_bestDig_21 : decode cX7_bestDig 21 = .ok (.aload_n 0, 1) := by decide +kernel
theorem dX7_bestDig_22 : decode cX7_bestDig 22 = .ok (.iload_n 1, 1) := by decide +kernel
theorem dX7_bestDig_23 : decode cX7_bestDig 23 = .ok (.iload_n 2, 1) := by decide +kernel
theorem dX7_bestDig_24 : decode cX7_bestDig 24 = .ok (.invokevirtual 156, 3) := by decide +kernel
theorem dX7_bestDig_27 : decode cX7_bestDig 27 = .ok (.ireturn, 1) := by decide +kernel
theorem dX7_takesNow_0 : decode cX7_takesNow 0 = .ok (.aload_n 0, 1) := by decide +kernel
theorem dX7_takesNow_1 : decode cX7_takesNow 1 = .ok (.getfield 10, 3) := by decide +kernel
theorem dX7_takesNow_4 : decode cX7_takesNow 4 = .ok (.invokevirtual 145, 3) := by decide +kernel
theorem dX7_takesNow_7 : decode cX7_takesNow 7 = .ok (.astore 4, 2) := by decide +kernel
theorem dX7_takesNow_9 : decode cX7_takesNow 9 = .ok (.aload 4, 2) := by decide +kernel
theorem dX7_takesNow_11 : decode cX7_takesNow 11 = .ok (.iload_n 1, 1) := by decide +kernel
theorem dX7_takesNow_12 : decode cX7_takesNow 12 = .ok (.putfield 96, 3) := by decide +kernel
theorem dX7_takesNow_15 : decode cX7_takesNow 15 = .ok (.aload_n 0, 1) := by decide +kernel
theorem dX7_takesNow_16 : decode cX7_takesNow 16 = .ok (.getfield 10, 3) := by decide +kernel
theorem dX7_takesNow_19 : decode cX7_takesNow 19 = .ok (.invokevirtual 145, 3) := by decide +kernel
theorem dX7_takesNow_22 : decode cX7_takesNow 22 = .ok (.iload_n 2, 1) := by decide +kernel
theorem dX7_takesNow_23 : decode cX7_takesNow 23 = .ok (.iload_n 3, 1) := by decide +kernel
theorem dX7_takesNow_24 : decode cX7_takesNow 24 = .ok (.invokevirtual 109, 3) := by decide +kernel
theorem dX7_takesNow_27 : decode cX7_takesNow 27 = .ok (.aload 4, 2) := by decide +kernel
theorem dX7_takesNow_29 : decode cX7_takesNow 29 = .ok (.iload_n 2, 1) := by decide +kernel
theorem dX7_takesNow_30 : decode cX7_takesNow 30 = .ok (.iload_n 3, 1) := by decide +kernel
theorem dX7_takesNow_31 : decode cX7_takesNow 31 = .ok (.invokevirtual 109, 3) := by decide +kernel
theorem dX7_takesNow_34 : decode cX7_takesNow 34 = .ok (.isub, 1) := by decide +kernel
theorem dX7_takesNow_35 : decode cX7_takesNow 35 = .ok (.ireturn, 1) := by decide +kernel
theorem dX7_pumpTakes_0 : decode cX7_pumpTakes 0 = .ok (.aload_n 0, 1) := by decide +kernel
theorem dX7_pumpTakes_1 : decode cX7_pumpTakes 1 = .ok (.iconst 0, 1) := by decide +kernel
theorem dX7_pumpTakes_2 : decode cX7_pumpTakes 2 = .ok (.putfield 16, 3) := by decide +kernel
theorem dX7_pumpTakes_5 : decode cX7_pumpTakes 5 = .ok (.iload_n 1, 1) := by decide +kernel
theorem dX7_pumpTakes_6 : decode cX7_pumpTakes 6 = .ok (.iconst 0, 1) := by decide +kernel
theorem dX7_pumpTakes_7 : decode cX7_pumpTakes 7 = .ok (.bipush 20, 2) := by decide +kernel
theorem dX7_pumpTakes_9 : decode cX7_pumpTakes 9 = .ok (.invokestatic 23, 3) := by decide +kernel
theorem dX7_pumpTakes_12 : decode cX7_pumpTakes 12 = .ok (.ifCond .eq 13, 3) := by decide +kernel
theorem dX7_pumpTakes_15 : decode cX7_pumpTakes 15 = .ok (.iload_n 2, 1) := by decide +kernel
theorem dX7_pumpTakes_16 : decode cX7_pumpTakes 16 = .ok (.iload_n 3, 1) := by decide +kernel
theorem dX7_pumpTakes_17 : decode cX7_pumpTakes 17 = .ok (.bipush 70, 2) := by decide +kernel
theorem dX7_pumpTakes_19 : decode cX7_pumpTakes 19 = .ok (.invokestatic 106, 3) := by decide +kernel
theorem dX7_pumpTakes_22 : decode cX7_pumpTakes 22 = .ok (.ifCond .ne 9, 3) := by decide +kernel
theorem dX7_pumpTakes_25 : decode cX7_pumpTakes 25 = .ok (.aload_n 0, 1) := by decide +kernel
theorem dX7_pumpTakes_26 : decode cX7_pumpTakes 26 = .ok (.iconst 1, 1) := by decide +kernel
theorem dX7_pumpTakes_27 : decode cX7_pumpTakes 27 = .ok (.invokevirtual 31, 3) := by decide +kernel
theorem dX7_pumpTakes_30 : decode cX7_pumpTakes 30 = .ok (.ireturn, 1) := by decide +kernel
theorem dX7_pumpTakes_31 : decode cX7_pumpTakes 31 = .ok (.aload_n 0, 1) := by decide +kernel
theorem dX7_pumpTakes_32 : decode cX7_pumpTakes 32 = .ok (.iload_n 1, 1) := by decide +kernel
theorem dX7_pumpTakes_33 : decode cX7_pumpTakes 33 = .ok (.iload_n 2, 1) := by decide +kernel
theorem dX7_pumpTakes_34 : decode cX7_pumpTakes 34 = .ok (.iload_n 3, 1) := by decide +kernel
theorem dX7_pumpTakes_35 : decode cX7_pumpTakes 35 = .ok (.invokevirtual 159, 3) := by decide +kernel
theorem dX7_pumpTakes_38 : decode cX7_pumpTakes 38 = .ok (.ireturn, 1) := by decide +kernel
theorem dX7_reapNow_0 : decode cX7_reapNow 0 = .ok (.aload_n 0, 1) := by decide +kernel
theorem dX7_reapNow_1 : decode cX7_reapNow 1 = .ok (.getfield 10, 3) := by decide +kernel
theorem dX7_reapNow_4 : decode cX7_reapNow 4 = .ok (.invokevirtual 145, 3) := by decide +kernel
theorem dX7_reapNow_7 : decode cX7_reapNow 7 = .ok (.astore_n 3, 1) := by decide +kernel
theorem dX7_reapNow_8 : decode cX7_reapNow 8 = .ok (.aload_n 0, 1) := by decide +kernel
theorem dX7_reapNow_9 : decode cX7_reapNow 9 = .ok (.iload_n 1, 1) := by decide +kernel
theorem dX7_reapNow_10 : decode cX7_reapNow 10 = .ok (.invokevirtual 39, 3) := by decide +kernel
theorem dX7_reapNow_13 : decode cX7_reapNow 13 = .ok (.bipush 6, 2) := by decide +kernel
theorem dX7_reapNow_15 : decode cX7_reapNow 15 = .ok (.iaload, 1) := by decide +kernel
theorem dX7_reapNow_16 : decode cX7_reapNow 16 = .ok (.istore 4, 2) := by decide +kernel
theorem dX7_reapNow_18 : decode cX7_reapNow 18 = .ok (.aload_n 3, 1) := by decide +kernel
theorem dX7_reapNow_19 : decode cX7_reapNow 19 = .ok (.iconst 0, 1) := by decide +kernel
theorem dX7_reapNow_20 : decode cX7_reapNow 20 = .ok (.putfield 76, 3) := by decide +kernel
theorem dX7_reapNow_23 : decode cX7_reapNow 23 = .ok (.aload_n 3, 1) := by decide +kernel
theorem dX7_reapNow_24 : decode cX7_reapNow 24 = .ok (.iload_n 2, 1) := by decide +kernel
theorem dX7_reapNow_25 : decode cX7_reapNow 25 = .ok (.invokevirtual 162, 3) := by decide +kernel
theorem dX7_reapNow_28 : decode cX7_reapNow 28 = .ok (.pop, 1) := by decide +kernel
theorem dX7_reapNow_29 : decode cX7_reapNow 29 = .ok (.aload_n 3, 1) := by decide +kernel
theorem dX7_reapNow_30 : decode cX7_reapNow 30 = .ok (.getfield 99, 3) := by decide +kernel
theorem dX7_reapNow_33 : decode cX7_reapNow 33 = .ok (.bipush 70, 2) := by decide +kernel
theorem dX7_reapNow_35 : decode cX7_reapNow 35 = .ok (.irem, 1) := by decide +kernel
theorem dX7_reapNow_36 : decode cX7_reapNow 36 = .ok (.bipush 60, 2) := by decide +kernel
theorem dX7_reapNow_38 : decode cX7_reapNow 38 = .ok (.if_icmp .eq 12, 3) := by decide +kernel
theorem dX7_reapNow_41 : decode cX7_reapNow 41 = .ok (.aload_n 3, 1) := by decide +kernel
theorem dX7_reapNow_42 : decode cX7_reapNow 42 = .ok (.iload_n 2, 1) := by decide +kernel
theorem dX7_reapNow_43 : decode cX7_reapNow 43 = .ok (.invokevirtual 162, 3) := by decide +kernel
theorem dX7_reapNow_46 : decode cX7_reapNow 46 = .ok (.pop, 1) := by decide +kernel
theorem dX7_reapNow_47 : decode cX7_reapNow 47 = .ok (.goto (-18), 3) := by decide +kernel
theorem dX7_reapNow_50 : decode cX7_reapNow 50 = .ok (.aload_n 3, 1) := by decide +kernel
theorem dX7_reapNow_51 : decode cX7_reapNow 51 = .ok (.getfield 27, 3) := by decide +kernel
theorem dX7_reapNow_54 : decode cX7_reapNow 54 = .ok (.iload_n 1, 1) := by decide +kernel
theorem dX7_reapNow_55 : decode cX7_reapNow 55 = .ok (.aaload, 1) := by decide +kernel
theorem dX7_reapNow_56 : decode cX7_reapNow 56 = .ok (.bipush 6, 2) := by decide +kernel
theorem dX7_reapNow_58 : decode cX7_reapNow 58 = .ok (.iaload, 1) := by decide +kernel
theorem dX7_reapNow_59 : decode cX7_reapNow 59 = .ok (.iload 4, 2) := by decide +kernel
theorem dX7_reapNow_61 : decode cX7_reapNow 61 = .ok (.isub, 1) := by decide +kernel
theorem dX7_reapNow_62 : decode cX7_reapNow 62 = .ok (.ireturn, 1) := by decide +kernel
theorem dX7_wouldReap_0 : decode cX7_wouldReap 0 = .ok (.aload_n 0, 1) := by decide +kernel
theorem dX7_wouldReap_1 : decode cX7_wouldReap 1 = .ok (.iconst 0, 1) := by decide +kernel
theorem dX7_wouldReap_2 : decode cX7_wouldReap 2 = .ok (.putfield 16, 3) := by decide +kernel
theorem dX7_wouldReap_5 : decode cX7_wouldReap 5 = .ok (.aload_n 0, 1) := by decide +kernel
theorem dX7_wouldReap_6 : decode cX7_wouldReap 6 = .ok (.iload_n 1, 1) := by decide +kernel
theorem dX7_wouldReap_7 : decode cX7_wouldReap 7 = .ok (.invokevirtual 56, 3) := by decide +kernel
theorem dX7_wouldReap_10 : decode cX7_wouldReap 10 = .ok (.ifCond .ne 9, 3) := by decide +kernel
theorem dX7_wouldReap_13 : decode cX7_wouldReap 13 = .ok (.aload_n 0, 1) := by decide +kernel
theorem dX7_wouldReap_14 : decode cX7_wouldReap 14 = .ok (.iconst 1, 1) := by decide +kernel
theorem dX7_wouldReap_15 : decode cX7_wouldReap 15 = .ok (.invokevirtual 31, 3) := by decide +kernel
theorem dX7_wouldReap_18 : decode cX7_wouldReap 18 = .ok (.ireturn, 1) := by decide +kernel
theorem dX7_wouldReap_19 : decode cX7_wouldReap 19 = .ok (.iload_n 2, 1) := by decide +kernel
theorem dX7_wouldReap_20 : decode cX7_wouldReap 20 = .ok (.iconst 0, 1) := by decide +kernel
theorem dX7_wouldReap_21 : decode cX7_wouldReap 21 = .ok (.bipush 99, 2) := by decide +kernel
theorem dX7_wouldReap_23 : decode cX7_wouldReap 23 = .ok (.invokestatic 23, 3) := by decide +kernel
theorem dX7_wouldReap_26 : decode cX7_wouldReap 26 = .ok (.ifCond .ne 9, 3) := by decide +kernel
theorem dX7_wouldReap_29 : decode cX7_wouldReap 29 = .ok (.aload_n 0, 1) := by decide +kernel
theorem dX7_wouldReap_30 : decode cX7_wouldReap 30 = .ok (.iconst 2, 1) := by decide +kernel
theorem dX7_wouldReap_31 : decode cX7_wouldReap 31 = .ok (.invokevirtual 31, 3) := by decide +kernel
theorem dX7_wouldReap_34 : decode cX7_wouldReap 34 = .ok (.ireturn, 1) := by decide +kernel
theorem dX7_wouldReap_35 : decode cX7_wouldReap 35 = .ok (.aload_n 0, 1) := by decide +kernel
theorem dX7_wouldReap_36 : decode cX7_wouldReap 36 = .ok (.iload_n 1, 1) := by decide +kernel
theorem dX7_wouldReap_37 : decode cX7_wouldReap 37 = .ok (.iload_n 2, 1) := by decide +kernel
theorem dX7_wouldReap_38 : decode cX7_wouldReap 38 = .ok (.invokevirtual 165, 3) := by decide +kernel
theorem dX7_wouldReap_41 : decode cX7_wouldReap 41 = .ok (.ireturn, 1) := by decide +kernel
theorem dX7_digest_0 : decode cX7_digest 0 = .ok (.aload_n 0, 1) := by decide +kernel
theorem dX7_digest_1 : decode cX7_digest 1 = .ok (.iconst 0, 1) := by decide +kernel
theorem dX7_digest_2 : decode cX7_digest 2 = .ok (.putfield 16, 3) := by decide +kernel
theorem dX7_digest_5 : decode cX7_digest 5 = .ok (.ldc2_w 168, 3) := by decide +kernel
theorem dX7_digest_8 : decode cX7_digest 8 = .ok (.lstore_n 1, 1) := by decide +kernel
theorem dX7_digest_9 : decode cX7_digest 9 = .ok (.iconst 0, 1) := by decide +kernel
theorem dX7_digest_10 : decode cX7_digest 10 = .ok (.istore_n 3, 1) := by decide +kernel
theorem dX7_digest_11 : decode cX7_digest 11 = .ok (.iload_n 3, 1) := by decide +kernel
theorem dX7_digest_12 : decode cX7_digest 12 = .ok (.bipush 15, 2) := by decide +kernel
theorem dX7_digest_14 : decode cX7_digest 14 = .ok (.if_icmp .gt 22, 3) := by decide +kernel
theorem dX7_digest_17 : decode cX7_digest 17 = .ok (.lload_n 1, 1) := by decide +kernel
theorem dX7_digest_18 : decode cX7_digest 18 = .ok (.ldc2_w 170, 3) := by decide +kernel
theorem dX7_digest_21 : decode cX7_digest 21 = .ok (.lmul, 1) := by decide +kernel
theorem dX7_digest_22 : decode cX7_digest 22 = .ok (.aload_n 0, 1) := by decide +kernel
theorem dX7_digest_23 : decode cX7_digest 23 = .ok (.iload_n 3, 1) := by decide +kernel
theorem dX7_digest_24 : decode cX7_digest 24 = .ok (.invokevirtual 142, 3) := by decide +kernel
theorem dX7_digest_27 : decode cX7_digest 27 = .ok (.i2l, 1) := by decide +kernel
theorem dX7_digest_28 : decode cX7_digest 28 = .ok (.ladd, 1) := by decide +kernel
theorem dX7_digest_29 : decode cX7_digest 29 = .ok (.lstore_n 1, 1) := by decide +kernel
theorem dX7_digest_30 : decode cX7_digest 30 = .ok (.iinc 3 1, 3) := by decide +kernel
theorem dX7_digest_33 : decode cX7_digest 33 = .ok (.goto (-22), 3) := by decide +kernel
theorem dX7_digest_36 : decode cX7_digest 36 = .ok (.iconst 0, 1) := by decide +kernel
theorem dX7_digest_37 : decode cX7_digest 37 = .ok (.istore_n 3, 1) := by decide +kernel
theorem dX7_digest_38 : decode cX7_digest 38 = .ok (.iload_n 3, 1) := by decide +kernel
theorem dX7_digest_39 : decode cX7_digest 39 = .ok (.aload_n 0, 1) := by decide +kernel
theorem dX7_digest_40 : decode cX7_digest 40 = .ok (.getfield 10, 3) := by decide +kernel
theorem dX7_digest_43 : decode cX7_digest 43 = .ok (.getfield 20, 3) := by decide +kernel
theorem dX7_digest_46 : decode cX7_digest 46 = .ok (.if_icmp .ge 84, 3) := by decide +kernel
theorem dX7_digest_49 : decode cX7_digest 49 = .ok (.aload_n 0, 1) := by decide +kernel
theorem dX7_digest_50 : decode cX7_digest 50 = .ok (.iload_n 3, 1) := by decide +kernel
theorem dX7_digest_51 : decode cX7_digest 51 = .ok (.invokevirtual 39, 3) := by decide +kernel
theorem dX7_digest_54 : decode cX7_digest 54 = .ok (.bipush 11, 2) := by decide +kernel
theorem dX7_digest_56 : decode cX7_digest 56 = .ok (.iaload, 1) := by decide +kernel
theorem dX7_digest_57 : decode cX7_digest 57 = .ok (.ifCond .ne 6, 3) := by decide +kernel
theorem dX7_digest_60 : decode cX7_digest 60 = .ok (.goto 64, 3) := by decide +kernel
theorem dX7_digest_63 : decode cX7_digest 63 = .ok (.iconst 0, 1) := by decide +kernel
theorem dX7_digest_64 : decode cX7_digest 64 = .ok (.istore 4, 2) := by decide +kernel
theorem dX7_digest_66 : decode cX7_digest 66 = .ok (.iload 4, 2) := by decide +kernel
theorem dX7_digest_68 : decode cX7_digest 68 = .ok (.bipush 13, 2) := by decide +kernel
theorem dX7_digest_70 : decode cX7_digest 70 = .ok (.if_icmp .gt 24, 3) := by decide +kernel
theorem dX7_digest_73 : decode cX7_digest 73 = .ok (.lload_n 1, 1) := by decide +kernel
theorem dX7_digest_74 : decode cX7_digest 74 = .ok (.ldc2_w 170, 3) := by decide +kernel
theorem dX7_digest_77 : decode cX7_digest 77 = .ok (.lmul, 1) := by decide +kernel
theorem dX7_digest_78 : decode cX7_digest 78 = .ok (.aload_n 0, 1) := by decide +kernel
theorem dX7_digest_79 : decode cX7_digest 79 = .ok (.iload_n 3, 1) := by decide +kernel
theorem dX7_digest_80 : decode cX7_digest 80 = .ok (.iload 4, 2) := by decide +kernel
theorem dX7_digest_82 : decode cX7_digest 82 = .ok (.invokevirtual 118, 3) := by decide +kernel
theorem dX7_digest_85 : decode cX7_digest 85 = .ok (.i2l, 1) := by decide +kernel
theorem dX7_digest_86 : decode cX7_digest 86 = .ok (.ladd, 1) := by decide +kernel
theorem dX7_digest_87 : decode cX7_digest 87 = .ok (.lstore_n 1, 1) := by decide +kernel
theorem dX7_digest_88 : decode cX7_digest 88 = .ok (.iinc 4 1, 3) := by decide +kernel
theorem dX7_digest_91 : decode cX7_digest 91 = .ok (.goto (-25), 3) := by decide +kernel
theorem dX7_digest_94 : decode cX7_digest 94 = .ok (.lload_n 1, 1) := by decide +kernel
theorem dX7_digest_95 : decode cX7_digest 95 = .ok (.ldc2_w 170, 3) := by decide +kernel
theorem dX7_digest_98 : decode cX7_digest 98 = .ok (.lmul, 1) := by decide +kernel
theorem dX7_digest_99 : decode cX7_digest 99 = .ok (.aload_n 0, 1) := by decide +kernel
theorem dX7_digest_100 : decode cX7_digest 100 = .ok (.iload_n 3, 1) := by decide +kernel
theorem dX7_digest_101 : decode cX7_digest 101 = .ok (.iconst 0, 1) := by decide +kernel
theorem dX7_digest_102 : decode cX7_digest 102 = .ok (.bipush 7, 2) := by decide +kernel
theorem dX7_digest_104 : decode cX7_digest 104 = .ok (.invokevirtual 149, 3) := by decide +kernel
theorem dX7_digest_107 : decode cX7_digest 107 = .ok (.i2l, 1) := by decide +kernel
theorem dX7_digest_108 : decode cX7_digest 108 = .ok (.ladd, 1) := by decide +kernel
theorem dX7_digest_109 : decode cX7_digest 109 = .ok (.lstore_n 1, 1) := by decide +kernel
theorem dX7_digest_110 : decode cX7_digest 110 = .ok (.lload_n 1, 1) := by decide +kernel
theorem dX7_digest_111 : decode cX7_digest 111 = .ok (.ldc2_w 170, 3) := by decide +kernel
theorem dX7_digest_114 : decode cX7_digest 114 = .ok (.lmul, 1) := by decide +kernel
theorem dX7_digest_115 : decode cX7_digest 115 = .ok (.aload_n 0, 1) := by decide +kernel
theorem dX7_digest_116 : decode cX7_digest 116 = .ok (.iload_n 3, 1) := by decide +kernel
theorem dX7_digest_117 : decode cX7_digest 117 = .ok (.iconst 3, 1) := by decide +kernel
theorem dX7_digest_118 : decode cX7_digest 118 = .ok (.invokevirtual 165, 3) := by decide +kernel
theorem dX7_digest_121 : decode cX7_digest 121 = .ok (.i2l, 1) := by decide +kernel
theorem dX7_digest_122 : decode cX7_digest 122 = .ok (.ladd, 1) := by decide +kernel
theorem dX7_digest_123 : decode cX7_digest 123 = .ok (.lstore_n 1, 1) := by decide +kernel
theorem dX7_digest_124 : decode cX7_digest 124 = .ok (.iinc 3 1, 3) := by decide +kernel
theorem dX7_digest_127 : decode cX7_digest 127 = .ok (.goto (-89), 3) := by decide +kernel
theorem dX7_digest_130 : decode cX7_digest 130 = .ok (.iconst 0, 1) := by decide +kernel
theorem dX7_digest_131 : decode cX7_digest 131 = .ok (.istore_n 3, 1) := by decide +kernel
theorem dX7_digest_132 : decode cX7_digest 132 = .ok (.iload_n 3, 1) := by decide +kernel
theorem dX7_digest_133 : decode cX7_digest 133 = .ok (.sipush 4320, 3) := by decide +kernel
theorem dX7_digest_136 : decode cX7_digest 136 = .ok (.if_icmp .gt 42, 3) := by decide +kernel
theorem dX7_digest_139 : decode cX7_digest 139 = .ok (.lload_n 1, 1) := by decide +kernel
theorem dX7_digest_140 : decode cX7_digest 140 = .ok (.ldc2_w 170, 3) := by decide +kernel
theorem dX7_digest_143 : decode cX7_digest 143 = .ok (.lmul, 1) := by decide +kernel
theorem dX7_digest_144 : decode cX7_digest 144 = .ok (.aload_n 0, 1) := by decide +kernel
theorem dX7_digest_145 : decode cX7_digest 145 = .ok (.getfield 10, 3) := by decide +kernel
theorem dX7_digest_148 : decode cX7_digest 148 = .ok (.iload_n 3, 1) := by decide +kernel
theorem dX7_digest_149 : decode cX7_digest 149 = .ok (.invokevirtual 121, 3) := by decide +kernel
theorem dX7_digest_152 : decode cX7_digest 152 = .ok (.i2l, 1) := by decide +kernel
theorem dX7_digest_153 : decode cX7_digest 153 = .ok (.ladd, 1) := by decide +kernel
theorem dX7_digest_154 : decode cX7_digest 154 = .ok (.ldc2_w 170, 3) := by decide +kernel
theorem dX7_digest_157 : decode cX7_digest 157 = .ok (.lmul, 1) := by decide +kernel
theorem dX7_digest_158 : decode cX7_digest 158 = .ok (.aload_n 0, 1) := by decide +kernel
theorem dX7_digest_159 : decode cX7_digest 159 = .ok (.getfield 10, 3) := by decide +kernel
theorem dX7_digest_162 : decode cX7_digest 162 = .ok (.iload_n 3, 1) := by decide +kernel
theorem dX7_digest_163 : decode cX7_digest 163 = .ok (.invokevirtual 124, 3) := by decide +kernel
theorem dX7_digest_166 : decode cX7_digest 166 = .ok (.i2l, 1) := by decide +kernel
theorem dX7_digest_167 : decode cX7_digest 167 = .ok (.ladd, 1) := by decide +kernel
theorem dX7_digest_168 : decode cX7_digest 168 = .ok (.lstore_n 1, 1) := by decide +kernel
theorem dX7_digest_169 : decode cX7_digest 169 = .ok (.iinc 3 720, 6) := by decide +kernel
theorem dX7_digest_175 : decode cX7_digest 175 = .ok (.goto (-43), 3) := by decide +kernel
theorem dX7_digest_178 : decode cX7_digest 178 = .ok (.iconst 0, 1) := by decide +kernel
theorem dX7_digest_179 : decode cX7_digest 179 = .ok (.istore_n 3, 1) := by decide +kernel
theorem dX7_digest_180 : decode cX7_digest 180 = .ok (.iload_n 3, 1) := by decide +kernel
theorem dX7_digest_181 : decode cX7_digest 181 = .ok (.aload_n 0, 1) := by decide +kernel
theorem dX7_digest_182 : decode cX7_digest 182 = .ok (.getfield 10, 3) := by decide +kernel
theorem dX7_digest_185 : decode cX7_digest 185 = .ok (.getfield 63, 3) := by decide +kernel
theorem dX7_digest_188 : decode cX7_digest 188 = .ok (.if_icmp .ge 44, 3) := by decide +kernel
theorem dX7_digest_191 : decode cX7_digest 191 = .ok (.iconst 0, 1) := by decide +kernel
theorem dX7_digest_192 : decode cX7_digest 192 = .ok (.istore 4, 2) := by decide +kernel
theorem dX7_digest_194 : decode cX7_digest 194 = .ok (.iload 4, 2) := by decide +kernel
theorem dX7_digest_196 : decode cX7_digest 196 = .ok (.iconst 3, 1) := by decide +kernel
theorem dX7_digest_197 : decode cX7_digest 197 = .ok (.if_icmp .gt 29, 3) := by decide +kernel
theorem dX7_digest_200 : decode cX7_digest 200 = .ok (.lload_n 1, 1) := by decide +kernel
theorem dX7_digest_201 : decode cX7_digest 201 = .ok (.ldc2_w 170, 3) := by decide +kernel
theorem dX7_digest_204 : decode cX7_digest 204 = .ok (.lmul, 1) := by decide +kernel
theorem dX7_digest_205 : decode cX7_digest 205 = .ok (.aload_n 0, 1) := by decide +kernel
theorem dX7_digest_206 : decode cX7_digest 206 = .ok (.getfield 10, 3) := by decide +kernel
theorem dX7_digest_209 : decode cX7_digest 209 = .ok (.getfield 66, 3) := by decide +kernel
theorem dX7_digest_212 : decode cX7_digest 212 = .ok (.iload_n 3, 1) := by decide +kernel
theorem dX7_digest_213 : decode cX7_digest 213 = .ok (.aaload, 1) := by decide +kernel
theorem dX7_digest_214 : decode cX7_digest 214 = .ok (.iload 4, 2) := by decide +kernel
theorem dX7_digest_216 : decode cX7_digest 216 = .ok (.iaload, 1) := by decide +kernel
theorem dX7_digest_217 : decode cX7_digest 217 = .ok (.i2l, 1) := by decide +kernel
theorem dX7_digest_218 : decode cX7_digest 218 = .ok (.ladd, 1) := by decide +kernel
theorem dX7_digest_219 : decode cX7_digest 219 = .ok (.lstore_n 1, 1) := by decide +kernel
theorem dX7_digest_220 : decode cX7_digest 220 = .ok (.iinc 4 1, 3) := by decide +kernel
theorem dX7_digest_223 : decode cX7_digest 223 = .ok (.goto (-29), 3) := by decide +kernel
theorem dX7_digest_226 : decode cX7_digest 226 = .ok (.iinc 3 1, 3) := by decide +kernel
theorem dX7_digest_229 : decode cX7_digest 229 = .ok (.goto (-49), 3) := by decide +kernel
theorem dX7_digest_232 : decode cX7_digest 232 = .ok (.iconst 0, 1) := by decide +kernel
theorem dX7_digest_233 : decode cX7_digest 233 = .ok (.istore_n 3, 1) := by decide +kernel
theorem dX7_digest_234 : decode cX7_digest 234 = .ok (.iload_n 3, 1) := by decide +kernel
theorem dX7_digest_235 : decode cX7_digest 235 = .ok (.aload_n 0, 1) := by decide +kernel
theorem dX7_digest_236 : decode cX7_digest 236 = .ok (.getfield 10, 3) := by decide +kernel
theorem dX7_digest_239 : decode cX7_digest 239 = .ok (.getfield 76, 3) := by decide +kernel
theorem dX7_digest_242 : decode cX7_digest 242 = .ok (.if_icmp .ge 44, 3) := by decide +kernel
theorem dX7_digest_245 : decode cX7_digest 245 = .ok (.iconst 0, 1) := by decide +kernel
theorem dX7_digest_246 : decode cX7_digest 246 = .ok (.istore 4, 2) := by decide +kernel
theorem dX7_digest_248 : decode cX7_digest 248 = .ok (.iload 4, 2) := by decide +kernel
theorem dX7_digest_250 : decode cX7_digest 250 = .ok (.iconst 2, 1) := by decide +kernel
theorem dX7_digest_251 : decode cX7_digest 251 = .ok (.if_icmp .gt 29, 3) := by decide +kernel
theorem dX7_digest_254 : decode cX7_digest 254 = .ok (.lload_n 1, 1) := by decide +kernel
theorem dX7_digest_255 : decode cX7_digest 255 = .ok (.ldc2_w 170, 3) := by decide +kernel
theorem dX7_digest_258 : decode cX7_digest 258 = .ok (.lmul, 1) := by decide +kernel
theorem dX7_digest_259 : decode cX7_digest 259 = .ok (.aload_n 0, 1) := by decide +kernel
theorem dX7_digest_260 : decode cX7_digest 260 = .ok (.getfield 10, 3) := by decide +kernel
theorem dX7_digest_263 : decode cX7_digest 263 = .ok (.getfield 79, 3) := by decide +kernel
theorem dX7_digest_266 : decode cX7_digest 266 = .ok (.iload_n 3, 1) := by decide +kernel
theorem dX7_digest_267 : decode cX7_digest 267 = .ok (.aaload, 1) := by decide +kernel
theorem dX7_digest_268 : decode cX7_digest 268 = .ok (.iload 4, 2) := by decide +kernel
theorem dX7_digest_270 : decode cX7_digest 270 = .ok (.iaload, 1) := by decide +kernel
theorem dX7_digest_271 : decode cX7_digest 271 = .ok (.i2l, 1) := by decide +kernel
theorem dX7_digest_272 : decode cX7_digest 272 = .ok (.ladd, 1) := by decide +kernel
theorem dX7_digest_273 : decode cX7_digest 273 = .ok (.lstore_n 1, 1) := by decide +kernel
theorem dX7_digest_274 : decode cX7_digest 274 = .ok (.iinc 4 1, 3) := by decide +kernel
theorem dX7_digest_277 : decode cX7_digest 277 = .ok (.goto (-29), 3) := by decide +kernel
theorem dX7_digest_280 : decode cX7_digest 280 = .ok (.iinc 3 1, 3) := by decide +kernel
theorem dX7_digest_283 : decode cX7_digest 283 = .ok (.goto (-49), 3) := by decide +kernel
theorem dX7_digest_286 : decode cX7_digest 286 = .ok (.lload_n 1, 1) := by decide +kernel
theorem dX7_digest_287 : decode cX7_digest 287 = .ok (.ldc2_w 170, 3) := by decide +kernel
theorem dX7_digest_290 : decode cX7_digest 290 = .ok (.lmul, 1) := by decide +kernel
theorem dX7_digest_291 : decode cX7_digest 291 = .ok (.aload_n 0, 1) := by decide +kernel
theorem dX7_digest_292 : decode cX7_digest 292 = .ok (.iconst 0, 1) := by decide +kernel
theorem dX7_digest_293 : decode cX7_digest 293 = .ok (.iconst 3, 1) := by decide +kernel
theorem dX7_digest_294 : decode cX7_digest 294 = .ok (.invokevirtual 156, 3) := by decide +kernel
theorem dX7_digest_297 : decode cX7_digest 297 = .ok (.i2l, 1) := by decide +kernel
theorem dX7_digest_298 : decode cX7_digest 298 = .ok (.ladd, 1) := by decide +kernel
theorem dX7_digest_299 : decode cX7_digest 299 = .ok (.lstore_n 1, 1) := by decide +kernel
theorem dX7_digest_300 : decode cX7_digest 300 = .ok (.lload_n 1, 1) := by decide +kernel
theorem dX7_digest_301 : decode cX7_digest 301 = .ok (.ldc2_w 170, 3) := by decide +kernel
theorem dX7_digest_304 : decode cX7_digest 304 = .ok (.lmul, 1) := by decide +kernel
theorem dX7_digest_305 : decode cX7_digest 305 = .ok (.aload_n 0, 1) := by decide +kernel
theorem dX7_digest_306 : decode cX7_digest 306 = .ok (.iconst 5, 1) := by decide +kernel
theorem dX7_digest_307 : decode cX7_digest 307 = .ok (.iconst 0, 1) := by decide +kernel
theorem dX7_digest_308 : decode cX7_digest 308 = .ok (.bipush 9, 2) := by decide +kernel
theorem dX7_digest_310 : decode cX7_digest 310 = .ok (.invokevirtual 159, 3) := by decide +kernel
theorem dX7_digest_313 : decode cX7_digest 313 = .ok (.i2l, 1) := by decide +kernel
theorem dX7_digest_314 : decode cX7_digest 314 = .ok (.ladd, 1) := by decide +kernel
theorem dX7_digest_315 : decode cX7_digest 315 = .ok (.lreturn, 1) := by decide +kernel
theorem dL_owner_0 : decode cL_owner 0 = .ok (.aload 5, 2) := by decide +kernel
theorem dL_owner_2 : decode cL_owner 2 = .ok (.iconst 0, 1) := by decide +kernel
theorem dL_owner_3 : decode cL_owner 3 = .ok (.aload_n 0, 1) := by decide +kernel
theorem dL_owner_4 : decode cL_owner 4 = .ok (.iload_n 1, 1) := by decide +kernel
theorem dL_owner_5 : decode cL_owner 5 = .ok (.iload_n 2, 1) := by decide +kernel
theorem dL_owner_6 : decode cL_owner 6 = .ok (.iload_n 3, 1) := by decide +kernel
theorem dL_owner_7 : decode cL_owner 7 = .ok (.iload 4, 2) := by decide +kernel
theorem dL_owner_9 : decode cL_owner 9 = .ok (.invokevirtual 7, 3) := by decide +kernel
theorem dL_owner_12 : decode cL_owner 12 = .ok (.i2l, 1) := by decide +kernel
theorem dL_owner_13 : decode cL_owner 13 = .ok (.lastore, 1) := by decide +kernel
theorem dL_owner_14 : decode cL_owner 14 = .ok (.goto 11, 3) := by decide +kernel
theorem dL_owner_17 : decode cL_owner 17 = .ok (.astore 6, 2) := by decide +kernel
theorem dL_owner_19 : decode cL_owner 19 = .ok (.iconst 1, 1) := by decide +kernel
theorem dL_owner_20 : decode cL_owner 20 = .ok (.ireturn, 1) := by decide +kernel
theorem dL_owner_21 : decode cL_owner 21 = .ok (.astore 6, 2) := by decide +kernel
theorem dL_owner_23 : decode cL_owner 23 = .ok (.iconst 2, 1) := by decide +kernel
theorem dL_owner_24 : decode cL_owner 24 = .ok (.ireturn, 1) := by decide +kernel
theorem dL_owner_25 : decode cL_owner 25 = .ok (.iconst 0, 1) := by decide +kernel
theorem dL_owner_26 : decode cL_owner 26 = .ok (.ireturn, 1) := by decide +kernel
theorem dL_sell_0 : decode cL_sell 0 = .ok (.aload 5, 2) := by decide +kernel
theorem dL_sell_2 : decode cL_sell 2 = .ok (.iconst 0, 1) := by decide +kernel
theorem dL_sell_3 : decode cL_sell 3 = .ok (.aload_n 0, 1) := by decide +kernel
theorem dL_sell_4 : decode cL_sell 4 = .ok (.iload_n 1, 1) := by decide +kernel
theorem dL_sell_5 : decode cL_sell 5 = .ok (.iload_n 2, 1) := by decide +kernel
theorem dL_sell_6 : decode cL_sell 6 = .ok (.iload_n 3, 1) := by decide +kernel
theorem dL_sell_7 : decode cL_sell 7 = .ok (.iload 4, 2) := by decide +kernel
theorem dL_sell_9 : decode cL_sell 9 = .ok (.invokevirtual 17, 3) := by decide +kernel
theorem dL_sell_12 : decode cL_sell 12 = .ok (.i2l, 1) := by decide +kernel
theorem dL_sell_13 : decode cL_sell 13 = .ok (.lastore, 1) := by decide +kernel
theorem dL_sell_14 : decode cL_sell 14 = .ok (.goto 11, 3) := by decide +kernel
theorem dL_sell_17 : decode cL_sell 17 = .ok (.astore 6, 2) := by decide +kernel
theorem dL_sell_19 : decode cL_sell 19 = .ok (.iconst 1, 1) := by decide +kernel
theorem dL_sell_20 : decode cL_sell 20 = .ok (.ireturn, 1) := by decide +kernel
theorem dL_sell_21 : decode cL_sell 21 = .ok (.astore 6, 2) := by decide +kernel
theorem dL_sell_23 : decode cL_sell 23 = .ok (.iconst 2, 1) := by decide +kernel
theorem dL_sell_24 : decode cL_sell 24 = .ok (.ireturn, 1) := by decide +kernel
theorem dL_sell_25 : decode cL_sell 25 = .ok (.iconst 0, 1) := by decide +kernel
theorem dL_sell_26 : decode cL_sell 26 = .ok (.ireturn, 1) := by decide +kernel
theorem dL_lend_0 : decode cL_lend 0 = .ok (.aload 5, 2) := by decide +kernel
theorem dL_lend_2 : decode cL_lend 2 = .ok (.iconst 0, 1) := by decide +kernel
theorem dL_lend_3 : decode cL_lend 3 = .ok (.aload_n 0, 1) := by decide +kernel
theorem dL_lend_4 : decode cL_lend 4 = .ok (.iload_n 1, 1) := by decide +kernel
theorem dL_lend_5 : decode cL_lend 5 = .ok (.iload_n 2, 1) := by decide +kernel
theorem dL_lend_6 : decode cL_lend 6 = .ok (.iload_n 3, 1) := by decide +kernel
theorem dL_lend_7 : decode cL_lend 7 = .ok (.iload 4, 2) := by decide +kernel
theorem dL_lend_9 : decode cL_lend 9 = .ok (.invokevirtual 22, 3) := by decide +kernel
theorem dL_lend_12 : decode cL_lend 12 = .ok (.i2l, 1) := by decide +kernel
theorem dL_lend_13 : decode cL_lend 13 = .ok (.lastore, 1) := by decide +kernel
theorem dL_lend_14 : decode cL_lend 14 = .ok (.goto 15, 3) := by decide +kernel
theorem dL_lend_17 : decode cL_lend 17 = .ok (.astore 6, 2) := by decide +kernel
theorem dL_lend_19 : decode cL_lend 19 = .ok (.iconst 1, 1) := by decide +kernel
theorem dL_lend_20 : decode cL_lend 20 = .ok (.ireturn, 1) := by decide +kernel
theorem dL_lend_21 : decode cL_lend 21 = .ok (.astore 6, 2) := by decide +kernel
theorem dL_lend_23 : decode cL_lend 23 = .ok (.iconst 2, 1) := by decide +kernel
theorem dL_lend_24 : decode cL_lend 24 = .ok (.ireturn, 1) := by decide +kernel
theorem dL_lend_25 : decode cL_lend 25 = .ok (.astore 6, 2) := by decide +kernel
theorem dL_lend_27 : decode cL_lend 27 = .ok (.iconst 3, 1) := by decide +kernel
theorem dL_lend_28 : decode cL_lend 28 = .ok (.ireturn, 1) := by decide +kernel
theorem dL_lend_29 : decode cL_lend 29 = .ok (.iconst 0, 1) := by decide +kernel
theorem dL_lend_30 : decode cL_lend 30 = .ok (.ireturn, 1) := by decide +kernel
theorem dL_die_0 : decode cL_die 0 = .ok (.aload 4, 2) := by decide +kernel
theorem dL_die_2 : decode cL_die 2 = .ok (.iconst 0, 1) := by decide +kernel
theorem dL_die_3 : decode cL_die 3 = .ok (.aload_n 0, 1) := by decide +kernel
theorem dL_die_4 : decode cL_die 4 = .ok (.iload_n 1, 1) := by decide +kernel
theorem dL_die_5 : decode cL_die 5 = .ok (.iload_n 2, 1) := by decide +kernel
theorem dL_die_6 : decode cL_die 6 = .ok (.iload_n 3, 1) := by decide +kernel
theorem dL_die_7 : decode cL_die 7 = .ok (.invokevirtual 25, 3) := by decide +kernel
theorem dL_die_10 : decode cL_die 10 = .ok (.i2l, 1) := by decide +kernel
theorem dL_die_11 : decode cL_die 11 = .ok (.lastore, 1) := by decide +kernel
theorem dL_die_12 : decode cL_die 12 = .ok (.goto 15, 3) := by decide +kernel
theorem dL_die_15 : decode cL_die 15 = .ok (.astore 5, 2) := by decide +kernel
theorem dL_die_17 : decode cL_die 17 = .ok (.iconst 1, 1) := by decide +kernel
theorem dL_die_18 : decode cL_die 18 = .ok (.ireturn, 1) := by decide +kernel
theorem dL_die_19 : decode cL_die 19 = .ok (.astore 5, 2) := by decide +kernel
theorem dL_die_21 : decode cL_die 21 = .ok (.iconst 2, 1) := by decide +kernel
theorem dL_die_22 : decode cL_die 22 = .ok (.ireturn, 1) := by decide +kernel
theorem dL_die_23 : decode cL_die 23 = .ok (.astore 5, 2) := by decide +kernel
theorem dL_die_25 : decode cL_die 25 = .ok (.iconst 3, 1) := by decide +kernel
theorem dL_die_26 : decode cL_die 26 = .ok (.ireturn, 1) := by decide +kernel
theorem dL_die_27 : decode cL_die 27 = .ok (.iconst 0, 1) := by decide +kernel
theorem dL_die_28 : decode cL_die 28 = .ok (.ireturn, 1) := by decide +kernel
theorem dL_dig_0 : decode cL_dig 0 = .ok (.aload_n 2, 1) := by decide +kernel
theorem dL_dig_1 : decode cL_dig 1 = .ok (.iconst 0, 1) := by decide +kernel
theorem dL_dig_2 : decode cL_dig 2 = .ok (.aload_n 0, 1) := by decide +kernel
theorem dL_dig_3 : decode cL_dig 3 = .ok (.iload_n 1, 1) := by decide +kernel
theorem dL_dig_4 : decode cL_dig 4 = .ok (.invokevirtual 29, 3) := by decide +kernel
theorem dL_dig_7 : decode cL_dig 7 = .ok (.i2l, 1) := by decide +kernel
theorem dL_dig_8 : decode cL_dig 8 = .ok (.lastore, 1) := by decide +kernel
theorem dL_dig_9 : decode cL_dig 9 = .ok (.goto 9, 3) := by decide +kernel
theorem dL_dig_12 : decode cL_dig 12 = .ok (.astore_n 3, 1) := by decide +kernel
theorem dL_dig_13 : decode cL_dig 13 = .ok (.iconst 1, 1) := by decide +kernel
theorem dL_dig_14 : decode cL_dig 14 = .ok (.ireturn, 1) := by decide +kernel
theorem dL_dig_15 : decode cL_dig 15 = .ok (.astore_n 3, 1) := by decide +kernel
theorem dL_dig_16 : decode cL_dig 16 = .ok (.iconst 2, 1) := by decide +kernel
theorem dL_dig_17 : decode cL_dig 17 = .ok (.ireturn, 1) := by decide +kernel
theorem dL_dig_18 : decode cL_dig 18 = .ok (.iconst 0, 1) := by decide +kernel
theorem dL_dig_19 : decode cL_dig 19 = .ok (.ireturn, 1) := by decide +kernel
theorem dL_clean_0 : decode cL_clean 0 = .ok (.aload_n 2, 1) := by decide +kernel
theorem dL_clean_1 : decode cL_clean 1 = .ok (.iconst 0, 1) := by decide +kernel
theorem dL_clean_2 : decode cL_clean 2 = .ok (.aload_n 0, 1) := by decide +kernel
theorem dL_clean_3 : decode cL_clean 3 = .ok (.iload_n 1, 1) := by decide +kernel
theorem dL_clean_4 : decode cL_clean 4 = .ok (.invokevirtual 33, 3) := by decide +kernel
theorem dL_clean_7 : decode cL_clean 7 = .ok (.i2l, 1) := by decide +kernel
theorem dL_clean_8 : decode cL_clean 8 = .ok (.lastore, 1) := by decide +kernel
theorem dL_clean_9 : decode cL_clean 9 = .ok (.goto 9, 3) := by decide +kernel
theorem dL_clean_12 : decode cL_clean 12 = .ok (.astore_n 3, 1) := by decide +kernel
theorem dL_clean_13 : decode cL_clean 13 = .ok (.iconst 1, 1) := by decide +kernel
theorem dL_clean_14 : decode cL_clean 14 = .ok (.ireturn, 1) := by decide +kernel
theorem dL_clean_15 : decode cL_clean 15 = .ok (.astore_n 3, 1) := by decide +kernel
theorem dL_clean_16 : decode cL_clean 16 = .ok (.iconst 2, 1) := by decide +kernel
theorem dL_clean_17 : decode cL_clean 17 = .ok (.ireturn, 1) := by decide +kernel
theorem dL_clean_18 : decode cL_clean 18 = .ok (.iconst 0, 1) := by decide +kernel
theorem dL_clean_19 : decode cL_clean 19 = .ok (.ireturn, 1) := by decide +kernel
theorem dL_fall_0 : decode cL_fall 0 = .ok (.aload_n 2, 1) := by decide +kernel
theorem dL_fall_1 : decode cL_fall 1 = .ok (.iconst 0, 1) := by decide +kernel
theorem dL_fall_2 : decode cL_fall 2 = .ok (.aload_n 0, 1) := by decide +kernel
theorem dL_fall_3 : decode cL_fall 3 = .ok (.iload_n 1, 1) := by decide +kernel
theorem dL_fall_4 : decode cL_fall 4 = .ok (.invokevirtual 36, 3) := by decide +kernel
theorem dL_fall_7 : decode cL_fall 7 = .ok (.i2l, 1) := by decide +kernel
theorem dL_fall_8 : decode cL_fall 8 = .ok (.lastore, 1) := by decide +kernel
theorem dL_fall_9 : decode cL_fall 9 = .ok (.goto 6, 3) := by decide +kernel
theorem dL_fall_12 : decode cL_fall 12 = .ok (.astore_n 3, 1) := by decide +kernel
theorem dL_fall_13 : decode cL_fall 13 = .ok (.iconst 1, 1) := by decide +kernel
theorem dL_fall_14 : decode cL_fall 14 = .ok (.ireturn, 1) := by decide +kernel
theorem dL_fall_15 : decode cL_fall 15 = .ok (.iconst 0, 1) := by decide +kernel
theorem dL_fall_16 : decode cL_fall 16 = .ok (.ireturn, 1) := by decide +kernel
theorem dL_pump_0 : decode cL_pump 0 = .ok (.aload_n 2, 1) := by decide +kernel
theorem dL_pump_1 : decode cL_pump 1 = .ok (.iconst 0, 1) := by decide +kernel
theorem dL_pump_2 : decode cL_pump 2 = .ok (.aload_n 0, 1) := by decide +kernel
theorem dL_pump_3 : decode cL_pump 3 = .ok (.iload_n 1, 1) := by decide +kernel
theorem dL_pump_4 : decode cL_pump 4 = .ok (.invokevirtual 39, 3) := by decide +kernel
theorem dL_pump_7 : decode cL_pump 7 = .ok (.i2l, 1) := by decide +kernel
theorem dL_pump_8 : decode cL_pump 8 = .ok (.lastore, 1) := by decide +kernel
theorem dL_pump_9 : decode cL_pump 9 = .ok (.goto 6, 3) := by decide +kernel
theorem dL_pump_12 : decode cL_pump 12 = .ok (.astore_n 3, 1) := by decide +kernel
theorem dL_pump_13 : decode cL_pump 13 = .ok (.iconst 1, 1) := by decide +kernel
theorem dL_pump_14 : decode cL_pump 14 = .ok (.ireturn, 1) := by decide +kernel
theorem dL_pump_15 : decode cL_pump 15 = .ok (.iconst 0, 1) := by decide +kernel
theorem dL_pump_16 : decode cL_pump 16 = .ok (.ireturn, 1) := by decide +kernel
theorem dL_pollinate_0 : decode cL_pollinate 0 = .ok (.aload_n 3, 1) := by decide +kernel
theorem dL_pollinate_1 : decode cL_pollinate 1 = .ok (.iconst 0, 1) := by decide +kernel
theorem dL_pollinate_2 : decode cL_pollinate 2 = .ok (.aload_n 0, 1) := by decide +kernel
theorem dL_pollinate_3 : decode cL_pollinate 3 = .ok (.iload_n 1, 1) := by decide +kernel
theorem dL_pollinate_4 : decode cL_pollinate 4 = .ok (.iload_n 2, 1) := by decide +kernel
theorem dL_pollinate_5 : decode cL_pollinate 5 = .ok (.invokevirtual 42, 3) := by decide +kernel
theorem dL_pollinate_8 : decode cL_pollinate 8 = .ok (.i2l, 1) := by decide +kernel
theorem dL_pollinate_9 : decode cL_pollinate 9 = .ok (.lastore, 1) := by decide +kernel
theorem dL_pollinate_10 : decode cL_pollinate 10 = .ok (.goto 11, 3) := by decide +kernel
theorem dL_pollinate_13 : decode cL_pollinate 13 = .ok (.astore 4, 2) := by decide +kernel
theorem dL_pollinate_15 : decode cL_pollinate 15 = .ok (.iconst 1, 1) := by decide +kernel
theorem dL_pollinate_16 : decode cL_pollinate 16 = .ok (.ireturn, 1) := by decide +kernel
theorem dL_pollinate_17 : decode cL_pollinate 17 = .ok (.astore 4, 2) := by decide +kernel
theorem dL_pollinate_19 : decode cL_pollinate 19 = .ok (.iconst 2, 1) := by decide +kernel
theorem dL_pollinate_20 : decode cL_pollinate 20 = .ok (.ireturn, 1) := by decide +kernel
theorem dL_pollinate_21 : decode cL_pollinate 21 = .ok (.iconst 0, 1) := by decide +kernel
theorem dL_pollinate_22 : decode cL_pollinate 22 = .ok (.ireturn, 1) := by decide +kernel
theorem dL_pollen_0 : decode cL_pollen 0 = .ok (.aload 4, 2) := by decide +kernel
theorem dL_pollen_2 : decode cL_pollen 2 = .ok (.iconst 0, 1) := by decide +kernel
theorem dL_pollen_3 : decode cL_pollen 3 = .ok (.aload_n 0, 1) := by decide +kernel
theorem dL_pollen_4 : decode cL_pollen 4 = .ok (.iload_n 1, 1) := by decide +kernel
theorem dL_pollen_5 : decode cL_pollen 5 = .ok (.iload_n 2, 1) := by decide +kernel
theorem dL_pollen_6 : decode cL_pollen 6 = .ok (.iload_n 3, 1) := by decide +kernel
theorem dL_pollen_7 : decode cL_pollen 7 = .ok (.invokevirtual 46, 3) := by decide +kernel
theorem dL_pollen_10 : decode cL_pollen 10 = .ok (.i2l, 1) := by decide +kernel
theorem dL_pollen_11 : decode cL_pollen 11 = .ok (.lastore, 1) := by decide +kernel
theorem dL_pollen_12 : decode cL_pollen 12 = .ok (.goto 11, 3) := by decide +kernel
theorem dL_pollen_15 : decode cL_pollen 15 = .ok (.astore 5, 2) := by decide +kernel
theorem dL_pollen_17 : decode cL_pollen 17 = .ok (.iconst 1, 1) := by decide +kernel
theorem dL_pollen_18 : decode cL_pollen 18 = .ok (.ireturn, 1) := by decide +kernel
theorem dL_pollen_19 : decode cL_pollen 19 = .ok (.astore 5, 2) := by decide +kernel
theorem dL_pollen_21 : decode cL_pollen 21 = .ok (.iconst 2, 1) := by decide +kernel
theorem dL_pollen_22 : decode cL_pollen 22 = .ok (.ireturn, 1) := by decide +kernel
theorem dL_pollen_23 : decode cL_pollen 23 = .ok (.iconst 0, 1) := by decide +kernel
theorem dL_pollen_24 : decode cL_pollen 24 = .ok (.ireturn, 1) := by decide +kernel
theorem dL_ahead_0 : decode cL_ahead 0 = .ok (.aload 5, 2) := by decide +kernel
theorem dL_ahead_2 : decode cL_ahead 2 = .ok (.iconst 0, 1) := by decide +kernel
theorem dL_ahead_3 : decode cL_ahead 3 = .ok (.aload_n 0, 1) := by decide +kernel
theorem dL_ahead_4 : decode cL_ahead 4 = .ok (.iload_n 1, 1) := by decide +kernel
theorem dL_ahead_5 : decode cL_ahead 5 = .ok (.iload_n 2, 1) := by decide +kernel
theorem dL_ahead_6 : decode cL_ahead 6 = .ok (.iload_n 3, 1) := by decide +kernel
theorem dL_ahead_7 : decode cL_ahead 7 = .ok (.iload 4, 2) := by decide +kernel
theorem dL_ahead_9 : decode cL_ahead 9 = .ok (.invokevirtual 49, 3) := by decide +kernel
theorem dL_ahead_12 : decode cL_ahead 12 = .ok (.i2l, 1) := by decide +kernel
theorem dL_ahead_13 : decode cL_ahead 13 = .ok (.lastore, 1) := by decide +kernel
theorem dL_ahead_14 : decode cL_ahead 14 = .ok (.goto 15, 3) := by decide +kernel
theorem dL_ahead_17 : decode cL_ahead 17 = .ok (.astore 6, 2) := by decide +kernel
theorem dL_ahead_19 : decode cL_ahead 19 = .ok (.iconst 1, 1) := by decide +kernel
theorem dL_ahead_20 : decode cL_ahead 20 = .ok (.ireturn, 1) := by decide +kernel
theorem dL_ahead_21 : decode cL_ahead 21 = .ok (.astore 6, 2) := by decide +kernel
theorem dL_ahead_23 : decode cL_ahead 23 = .ok (.iconst 2, 1) := by decide +kernel
theorem dL_ahead_24 : decode cL_ahead 24 = .ok (.ireturn, 1) := by decide +kernel
theorem dL_ahead_25 : decode cL_ahead 25 = .ok (.astore 6, 2) := by decide +kernel
theorem dL_ahead_27 : decode cL_ahead 27 = .ok (.iconst 3, 1) := by decide +kernel
theorem dL_ahead_28 : decode cL_ahead 28 = .ok (.ireturn, 1) := by decide +kernel
theorem dL_ahead_29 : decode cL_ahead 29 = .ok (.iconst 0, 1) := by decide +kernel
theorem dL_ahead_30 : decode cL_ahead 30 = .ok (.ireturn, 1) := by decide +kernel
theorem dL_pass_0 : decode cL_pass 0 = .ok (.aload_n 3, 1) := by decide +kernel
theorem dL_pass_1 : decode cL_pass 1 = .ok (.iconst 0, 1) := by decide +kernel
theorem dL_pass_2 : decode cL_pass 2 = .ok (.aload_n 0, 1) := by decide +kernel
theorem dL_pass_3 : decode cL_pass 3 = .ok (.iload_n 1, 1) := by decide +kernel
theorem dL_pass_4 : decode cL_pass 4 = .ok (.iload_n 2, 1) := by decide +kernel
theorem dL_pass_5 : decode cL_pass 5 = .ok (.invokevirtual 52, 3) := by decide +kernel
theorem dL_pass_8 : decode cL_pass 8 = .ok (.i2l, 1) := by decide +kernel
theorem dL_pass_9 : decode cL_pass 9 = .ok (.lastore, 1) := by decide +kernel
theorem dL_pass_10 : decode cL_pass 10 = .ok (.goto 11, 3) := by decide +kernel
theorem dL_pass_13 : decode cL_pass 13 = .ok (.astore 4, 2) := by decide +kernel
theorem dL_pass_15 : decode cL_pass 15 = .ok (.iconst 1, 1) := by decide +kernel
theorem dL_pass_16 : decode cL_pass 16 = .ok (.ireturn, 1) := by decide +kernel
theorem dL_pass_17 : decode cL_pass 17 = .ok (.astore 4, 2) := by decide +kernel
theorem dL_pass_19 : decode cL_pass 19 = .ok (.iconst 2, 1) := by decide +kernel
theorem dL_pass_20 : decode cL_pass 20 = .ok (.ireturn, 1) := by decide +kernel
theorem dL_pass_21 : decode cL_pass 21 = .ok (.iconst 0, 1) := by decide +kernel
theorem dL_pass_22 : decode cL_pass 22 = .ok (.ireturn, 1) := by decide +kernel
theorem dL_of_0 : decode cL_of 0 = .ok (.aload_n 3, 1) := by decide +kernel
theorem dL_of_1 : decode cL_of 1 = .ok (.iconst 0, 1) := by decide +kernel
theorem dL_of_2 : decode cL_of 2 = .ok (.aload_n 0, 1) := by decide +kernel
theorem dL_of_3 : decode cL_of 3 = .ok (.iload_n 1, 1) := by decide +kernel
theorem dL_of_4 : decode cL_of 4 = .ok (.iload_n 2, 1) := by decide +kernel
theorem dL_of_5 : decode cL_of 5 = .ok (.invokevirtual 55, 3) := by decide +kernel
theorem dL_of_8 : decode cL_of 8 = .ok (.i2l, 1) := by decide +kernel
theorem dL_of_9 : decode cL_of 9 = .ok (.lastore, 1) := by decide +kernel
theorem dL_of_10 : decode cL_of 10 = .ok (.goto 11, 3) := by decide +kernel
theorem dL_of_13 : decode cL_of 13 = .ok (.astore 4, 2) := by decide +kernel
theorem dL_of_15 : decode cL_of 15 = .ok (.iconst 1, 1) := by decide +kernel
theorem dL_of_16 : decode cL_of 16 = .ok (.ireturn, 1) := by decide +kernel
theorem dL_of_17 : decode cL_of 17 = .ok (.astore 4, 2) := by decide +kernel
theorem dL_of_19 : decode cL_of 19 = .ok (.iconst 2, 1) := by decide +kernel
theorem dL_of_20 : decode cL_of 20 = .ok (.ireturn, 1) := by decide +kernel
theorem dL_of_21 : decode cL_of 21 = .ok (.iconst 0, 1) := by decide +kernel
theorem dL_of_22 : decode cL_of 22 = .ok (.ireturn, 1) := by decide +kernel
theorem dL_ofBowl_0 : decode cL_ofBowl 0 = .ok (.aload_n 3, 1) := by decide +kernel
theorem dL_ofBowl_1 : decode cL_ofBowl 1 = .ok (.iconst 0, 1) := by decide +kernel
theorem dL_ofBowl_2 : decode cL_ofBowl 2 = .ok (.aload_n 0, 1) := by decide +kernel
theorem dL_ofBowl_3 : decode cL_ofBowl 3 = .ok (.iload_n 1, 1) := by decide +kernel
theorem dL_ofBowl_4 : decode cL_ofBowl 4 = .ok (.iload_n 2, 1) := by decide +kernel
theorem dL_ofBowl_5 : decode cL_ofBowl 5 = .ok (.invokevirtual 58, 3) := by decide +kernel
theorem dL_ofBowl_8 : decode cL_ofBowl 8 = .ok (.i2l, 1) := by decide +kernel
theorem dL_ofBowl_9 : decode cL_ofBowl 9 = .ok (.lastore, 1) := by decide +kernel
theorem dL_ofBowl_10 : decode cL_ofBowl 10 = .ok (.goto 11, 3) := by decide +kernel
theorem dL_ofBowl_13 : decode cL_ofBowl 13 = .ok (.astore 4, 2) := by decide +kernel
theorem dL_ofBowl_15 : decode cL_ofBowl 15 = .ok (.iconst 1, 1) := by decide +kernel
theorem dL_ofBowl_16 : decode cL_ofBowl 16 = .ok (.ireturn, 1) := by decide +kernel
theorem dL_ofBowl_17 : decode cL_ofBowl 17 = .ok (.astore 4, 2) := by decide +kernel
theorem dL_ofBowl_19 : decode cL_ofBowl 19 = .ok (.iconst 2, 1) := by decide +kernel
theorem dL_ofBowl_20 : decode cL_ofBowl 20 = .ok (.ireturn, 1) := by decide +kernel
theorem dL_ofBowl_21 : decode cL_ofBowl 21 = .ok (.iconst 0, 1) := by decide +kernel
theorem dL_ofBowl_22 : decode cL_ofBowl 22 = .ok (.ireturn, 1) := by decide +kernel
theorem dL_ofLoan_0 : decode cL_ofLoan 0 = .ok (.aload_n 3, 1) := by decide +kernel
theorem dL_ofLoan_1 : decode cL_ofLoan 1 = .ok (.iconst 0, 1) := by decide +kernel
theorem dL_ofLoan_2 : decode cL_ofLoan 2 = .ok (.aload_n 0, 1) := by decide +kernel
theorem dL_ofLoan_3 : decode cL_ofLoan 3 = .ok (.iload_n 1, 1) := by decide +kernel
theorem dL_ofLoan_4 : decode cL_ofLoan 4 = .ok (.iload_n 2, 1) := by decide +kernel
theorem dL_ofLoan_5 : decode cL_ofLoan 5 = .ok (.invokevirtual 61, 3) := by decide +kernel
theorem dL_ofLoan_8 : decode cL_ofLoan 8 = .ok (.i2l, 1) := by decide +kernel
theorem dL_ofLoan_9 : decode cL_ofLoan 9 = .ok (.lastore, 1) := by decide +kernel
theorem dL_ofLoan_10 : decode cL_ofLoan 10 = .ok (.goto 11, 3) := by decide +kernel
theorem dL_ofLoan_13 : decode cL_ofLoan 13 = .ok (.astore 4, 2) := by decide +kernel
theorem dL_ofLoan_15 : decode cL_ofLoan 15 = .ok (.iconst 1, 1) := by decide +kernel
theorem dL_ofLoan_16 : decode cL_ofLoan 16 = .ok (.ireturn, 1) := by decide +kernel
theorem dL_ofLoan_17 : decode cL_ofLoan 17 = .ok (.astore 4, 2) := by decide +kernel
theorem dL_ofLoan_19 : decode cL_ofLoan 19 = .ok (.iconst 2, 1) := by decide +kernel
theorem dL_ofLoan_20 : decode cL_ofLoan 20 = .ok (.ireturn, 1) := by decide +kernel
theorem dL_ofLoan_21 : decode cL_ofLoan 21 = .ok (.iconst 0, 1) := by decide +kernel
theorem dL_ofLoan_22 : decode cL_ofLoan 22 = .ok (.ireturn, 1) := by decide +kernel
theorem dL_ofSale_0 : decode cL_ofSale 0 = .ok (.aload_n 3, 1) := by decide +kernel
theorem dL_ofSale_1 : decode cL_ofSale 1 = .ok (.iconst 0, 1) := by decide +kernel
theorem dL_ofSale_2 : decode cL_ofSale 2 = .ok (.aload_n 0, 1) := by decide +kernel
theorem dL_ofSale_3 : decode cL_ofSale 3 = .ok (.iload_n 1, 1) := by decide +kernel
theorem dL_ofSale_4 : decode cL_ofSale 4 = .ok (.iload_n 2, 1) := by decide +kernel
theorem dL_ofSale_5 : decode cL_ofSale 5 = .ok (.invokevirtual 64, 3) := by decide +kernel
theorem dL_ofSale_8 : decode cL_ofSale 8 = .ok (.i2l, 1) := by decide +kernel
theorem dL_ofSale_9 : decode cL_ofSale 9 = .ok (.lastore, 1) := by decide +kernel
theorem dL_ofSale_10 : decode cL_ofSale 10 = .ok (.goto 11, 3) := by decide +kernel
theorem dL_ofSale_13 : decode cL_ofSale 13 = .ok (.astore 4, 2) := by decide +kernel
theorem dL_ofSale_15 : decode cL_ofSale 15 = .ok (.iconst 1, 1) := by decide +kernel
theorem dL_ofSale_16 : decode cL_ofSale 16 = .ok (.ireturn, 1) := by decide +kernel
theorem dL_ofSale_17 : decode cL_ofSale 17 = .ok (.astore 4, 2) := by decide +kernel
theorem dL_ofSale_19 : decode cL_ofSale 19 = .ok (.iconst 2, 1) := by decide +kernel
theorem dL_ofSale_20 : decode cL_ofSale 20 = .ok (.ireturn, 1) := by decide +kernel
theorem dL_ofSale_21 : decode cL_ofSale 21 = .ok (.iconst 0, 1) := by decide +kernel
theorem dL_ofSale_22 : decode cL_ofSale 22 = .ok (.ireturn, 1) := by decide +kernel
theorem dL_many_0 : decode cL_many 0 = .ok (.aload_n 2, 1) := by decide +kernel
theorem dL_many_1 : decode cL_many 1 = .ok (.iconst 0, 1) := by decide +kernel
theorem dL_many_2 : decode cL_many 2 = .ok (.aload_n 0, 1) := by decide +kernel
theorem dL_many_3 : decode cL_many 3 = .ok (.iload_n 1, 1) := by decide +kernel
theorem dL_many_4 : decode cL_many 4 = .ok (.invokevirtual 67, 3) := by decide +kernel
theorem dL_many_7 : decode cL_many 7 = .ok (.i2l, 1) := by decide +kernel
theorem dL_many_8 : decode cL_many 8 = .ok (.lastore, 1) := by decide +kernel
theorem dL_many_9 : decode cL_many 9 = .ok (.goto 6, 3) := by decide +kernel
theorem dL_many_12 : decode cL_many 12 = .ok (.astore_n 3, 1) := by decide +kernel
theorem dL_many_13 : decode cL_many 13 = .ok (.iconst 1, 1) := by decide +kernel
theorem dL_many_14 : decode cL_many 14 = .ok (.ireturn, 1) := by decide +kernel
theorem dL_many_15 : decode cL_many 15 = .ok (.iconst 0, 1) := by decide +kernel
theorem dL_many_16 : decode cL_many 16 = .ok (.ireturn, 1) := by decide +kernel
theorem dL_wouldCome_0 : decode cL_wouldCome 0 = .ok (.aload 4, 2) := by decide +kernel
theorem dL_wouldCome_2 : decode cL_wouldCome 2 = .ok (.iconst 0, 1) := by decide +kernel
theorem dL_wouldCome_3 : decode cL_wouldCome 3 = .ok (.aload_n 0, 1) := by decide +kernel
theorem dL_wouldCome_4 : decode cL_wouldCome 4 = .ok (.iload_n 1, 1) := by decide +kernel
theorem dL_wouldCome_5 : decode cL_wouldCome 5 = .ok (.iload_n 2, 1) := by decide +kernel
theorem dL_wouldCome_6 : decode cL_wouldCome 6 = .ok (.iload_n 3, 1) := by decide +kernel
theorem dL_wouldCome_7 : decode cL_wouldCome 7 = .ok (.invokevirtual 70, 3) := by decide +kernel
theorem dL_wouldCome_10 : decode cL_wouldCome 10 = .ok (.i2l, 1) := by decide +kernel
theorem dL_wouldCome_11 : decode cL_wouldCome 11 = .ok (.lastore, 1) := by decide +kernel
theorem dL_wouldCome_12 : decode cL_wouldCome 12 = .ok (.goto 11, 3) := by decide +kernel
theorem dL_wouldCome_15 : decode cL_wouldCome 15 = .ok (.astore 5, 2) := by decide +kernel
theorem dL_wouldCome_17 : decode cL_wouldCome 17 = .ok (.iconst 1, 1) := by decide +kernel
theorem dL_wouldCome_18 : decode cL_wouldCome 18 = .ok (.ireturn, 1) := by decide +kernel
theorem dL_wouldCome_19 : decode cL_wouldCome 19 = .ok (.astore 5, 2) := by decide +kernel
theorem dL_wouldCome_21 : decode cL_wouldCome 21 = .ok (.iconst 2, 1) := by decide +kernel
theorem dL_wouldCome_22 : decode cL_wouldCome 22 = .ok (.ireturn, 1) := by decide +kernel
theorem dL_wouldCome_23 : decode cL_wouldCome 23 = .ok (.iconst 0, 1) := by decide +kernel
theorem dL_wouldCome_24 : decode cL_wouldCome 24 = .ok (.ireturn, 1) := by decide +kernel
theorem dL_bestDig_0 : decode cL_bestDig 0 = .ok (.aload_n 3, 1) := by decide +kernel
theorem dL_bestDig_1 : decode cL_bestDig 1 = .ok (.iconst 0, 1) := by decide +kernel
theorem dL_bestDig_2 : decode cL_bestDig 2 = .ok (.aload_n 0, 1) := by decide +kernel
theorem dL_bestDig_3 : decode cL_bestDig 3 = .ok (.iload_n 1, 1) := by decide +kernel
theorem dL_bestDig_4 : decode cL_bestDig 4 = .ok (.iload_n 2, 1) := by decide +kernel
theorem dL_bestDig_5 : decode cL_bestDig 5 = .ok (.invokevirtual 73, 3) := by decide +kernel
theorem dL_bestDig_8 : decode cL_bestDig 8 = .ok (.i2l, 1) := by decide +kernel
theorem dL_bestDig_9 : decode cL_bestDig 9 = .ok (.lastore, 1) := by decide +kernel
theorem dL_bestDig_10 : decode cL_bestDig 10 = .ok (.goto 7, 3) := by decide +kernel
theorem dL_bestDig_13 : decode cL_bestDig 13 = .ok (.astore 4, 2) := by decide +kernel
theorem dL_bestDig_15 : decode cL_bestDig 15 = .ok (.iconst 1, 1) := by decide +kernel
theorem dL_bestDig_16 : decode cL_bestDig 16 = .ok (.ireturn, 1) := by decide +kernel
theorem dL_bestDig_17 : decode cL_bestDig 17 = .ok (.iconst 0, 1) := by decide +kernel
theorem dL_bestDig_18 : decode cL_bestDig 18 = .ok (.ireturn, 1) := by decide +kernel
theorem dL_pumpTakes_0 : decode cL_pumpTakes 0 = .ok (.aload 4, 2) := by decide +kernel
theorem dL_pumpTakes_2 : decode cL_pumpTakes 2 = .ok (.iconst 0, 1) := by decide +kernel
theorem dL_pumpTakes_3 : decode cL_pumpTakes 3 = .ok (.aload_n 0, 1) := by decide +kernel
theorem dL_pumpTakes_4 : decode cL_pumpTakes 4 = .ok (.iload_n 1, 1) := by decide +kernel
theorem dL_pumpTakes_5 : decode cL_pumpTakes 5 = .ok (.iload_n 2, 1) := by decide +kernel
theorem dL_pumpTakes_6 : decode cL_pumpTakes 6 = .ok (.iload_n 3, 1) := by decide +kernel
theorem dL_pumpTakes_7 : decode cL_pumpTakes 7 = .ok (.invokevirtual 76, 3) := by decide +kernel
theorem dL_pumpTakes_10 : decode cL_pumpTakes 10 = .ok (.i2l, 1) := by decide +kernel
theorem dL_pumpTakes_11 : decode cL_pumpTakes 11 = .ok (.lastore, 1) := by decide +kernel
theorem dL_pumpTakes_12 : decode cL_pumpTakes 12 = .ok (.goto 7, 3) := by decide +kernel
theorem dL_pumpTakes_15 : decode cL_pumpTakes 15 = .ok (.astore 5, 2) := by decide +kernel
theorem dL_pumpTakes_17 : decode cL_pumpTakes 17 = .ok (.iconst 1, 1) := by decide +kernel
theorem dL_pumpTakes_18 : decode cL_pumpTakes 18 = .ok (.ireturn, 1) := by decide +kernel
theorem dL_pumpTakes_19 : decode cL_pumpTakes 19 = .ok (.iconst 0, 1) := by decide +kernel
theorem dL_pumpTakes_20 : decode cL_pumpTakes 20 = .ok (.ireturn, 1) := by decide +kernel
theorem dL_wouldReap_0 : decode cL_wouldReap 0 = .ok (.aload_n 3, 1) := by decide +kernel
theorem dL_wouldReap_1 : decode cL_wouldReap 1 = .ok (.iconst 0, 1) := by decide +kernel
theorem dL_wouldReap_2 : decode cL_wouldReap 2 = .ok (.aload_n 0, 1) := by decide +kernel
theorem dL_wouldReap_3 : decode cL_wouldReap 3 = .ok (.iload_n 1, 1) := by decide +kernel
theorem dL_wouldReap_4 : decode cL_wouldReap 4 = .ok (.iload_n 2, 1) := by decide +kernel
theorem dL_wouldReap_5 : decode cL_wouldReap 5 = .ok (.invokevirtual 79, 3) := by decide +kernel
theorem dL_wouldReap_8 : decode cL_wouldReap 8 = .ok (.i2l, 1) := by decide +kernel
theorem dL_wouldReap_9 : decode cL_wouldReap 9 = .ok (.lastore, 1) := by decide +kernel
theorem dL_wouldReap_10 : decode cL_wouldReap 10 = .ok (.goto 11, 3) := by decide +kernel
theorem dL_wouldReap_13 : decode cL_wouldReap 13 = .ok (.astore 4, 2) := by decide +kernel
theorem dL_wouldReap_15 : decode cL_wouldReap 15 = .ok (.iconst 1, 1) := by decide +kernel
theorem dL_wouldReap_16 : decode cL_wouldReap 16 = .ok (.ireturn, 1) := by decide +kernel
theorem dL_wouldReap_17 : decode cL_wouldReap 17 = .ok (.astore 4, 2) := by decide +kernel
theorem dL_wouldReap_19 : decode cL_wouldReap 19 = .ok (.iconst 2, 1) := by decide +kernel
theorem dL_wouldReap_20 : decode cL_wouldReap 20 = .ok (.ireturn, 1) := by decide +kernel
theorem dL_wouldReap_21 : decode cL_wouldReap 21 = .ok (.iconst 0, 1) := by decide +kernel
theorem dL_wouldReap_22 : decode cL_wouldReap 22 = .ok (.ireturn, 1) := by decide +kernel
theorem dL_law_0 : decode cL_law 0 = .ok (.new 8, 3) := by decide +kernel
theorem dL_law_3 : decode cL_law 3 = .ok (.dup, 1) := by decide +kernel
theorem dL_law_4 : decode cL_law 4 = .ok (.invokespecial 82, 3) := by decide +kernel
theorem dL_law_7 : decode cL_law 7 = .ok (.astore_n 1, 1) := by decide +kernel
theorem dL_law_8 : decode cL_law 8 = .ok (.new 83, 3) := by decide +kernel
theorem dL_law_11 : decode cL_law 11 = .ok (.dup, 1) := by decide +kernel
theorem dL_law_12 : decode cL_law 12 = .ok (.invokespecial 85, 3) := by decide +kernel
theorem dL_law_15 : decode cL_law 15 = .ok (.astore_n 2, 1) := by decide +kernel
theorem dL_law_16 : decode cL_law 16 = .ok (.iconst 1, 1) := by decide +kernel
theorem dL_law_17 : decode cL_law 17 = .ok (.newarray .long, 2) := by decide +kernel
theorem dL_law_19 : decode cL_law 19 = .ok (.astore_n 3, 1) := by decide +kernel
theorem dL_law_20 : decode cL_law 20 = .ok (.iconst 0, 1) := by decide +kernel
theorem dL_law_21 : decode cL_law 21 = .ok (.istore 4, 2) := by decide +kernel
theorem dL_law_23 : decode cL_law 23 = .ok (.iload 4, 2) := by decide +kernel
theorem dL_law_25 : decode cL_law 25 = .ok (.aload_n 0, 1) := by decide +kernel
theorem dL_law_26 : decode cL_law 26 = .ok (.arraylength, 1) := by decide +kernel
theorem dL_law_27 : decode cL_law 27 = .ok (.iconst 5, 1) := by decide +kernel
theorem dL_law_28 : decode cL_law 28 = .ok (.isub, 1) := by decide +kernel
theorem dL_law_29 : decode cL_law 29 = .ok (.if_icmp .gt 1688, 3) := by decide +kernel
theorem dL_law_32 : decode cL_law 32 = .ok (.aload_n 0, 1) := by decide +kernel
theorem dL_law_33 : decode cL_law 33 = .ok (.iload 4, 2) := by decide +kernel
theorem dL_law_35 : decode cL_law 35 = .ok (.iaload, 1) := by decide +kernel
theorem dL_law_36 : decode cL_law 36 = .ok (.bipush 31, 2) := by decide +kernel
theorem dL_law_38 : decode cL_law 38 = .ok (.iand, 1) := by decide +kernel
theorem dL_law_39 : decode cL_law 39 = .ok (.tableswitch 1672 0 22 #[105, 197, 289, 381, 461, 517, 573, 629, 685, 753, 833, 925, 993, 1061, 1129, 1197, 1265, 1321, 1362, 1442, 1510, 1590, 1658], 105) := by decide +kernel
theorem dL_law_144 : decode cL_law 144 = .ok (.aload_n 1, 1) := by decide +kernel
theorem dL_law_145 : decode cL_law 145 = .ok (.aload_n 0, 1) := by decide +kernel
theorem dL_law_146 : decode cL_law 146 = .ok (.iload 4, 2) := by decide +kernel
theorem dL_law_148 : decode cL_law 148 = .ok (.iconst 1, 1) := by decide +kernel
theorem dL_law_149 : decode cL_law 149 = .ok (.iadd, 1) := by decide +kernel
theorem dL_law_150 : decode cL_law 150 = .ok (.iaload, 1) := by decide +kernel
theorem dL_law_151 : decode cL_law 151 = .ok (.aload_n 0, 1) := by decide +kernel
theorem dL_law_152 : decode cL_law 152 = .ok (.iload 4, 2) := by decide +kernel
theorem dL_law_154 : decode cL_law 154 = .ok (.iconst 2, 1) := by decide +kernel
theorem dL_law_155 : decode cL_law 155 = .ok (.iadd, 1) := by decide +kernel
theorem dL_law_156 : decode cL_law 156 = .ok (.iaload, 1) := by decide +kernel
theorem dL_law_157 : decode cL_law 157 = .ok (.aload_n 0, 1) := by decide +kernel
theorem dL_law_158 : decode cL_law 158 = .ok (.iload 4, 2) := by decide +kernel
theorem dL_law_160 : decode cL_law 160 = .ok (.iconst 3, 1) := by decide +kernel
theorem dL_law_161 : decode cL_law 161 = .ok (.iadd, 1) := by decide +kernel
theorem dL_law_162 : decode cL_law 162 = .ok (.iaload, 1) := by decide +kernel
theorem dL_law_163 : decode cL_law 163 = .ok (.aload_n 0, 1) := by decide +kernel
theorem dL_law_164 : decode cL_law 164 = .ok (.iload 4, 2) := by decide +kernel
theorem dL_law_166 : decode cL_law 166 = .ok (.iconst 4, 1) := by decide +kernel
theorem dL_law_167 : decode cL_law 167 = .ok (.iadd, 1) := by decide +kernel
theorem dL_law_168 : decode cL_law 168 = .ok (.iaload, 1) := by decide +kernel
theorem dL_law_169 : decode cL_law 169 = .ok (.aload_n 3, 1) := by decide +kernel
theorem dL_law_170 : decode cL_law 170 = .ok (.invokestatic 86, 3) := by decide +kernel
theorem dL_law_173 : decode cL_law 173 = .ok (.istore 5, 2) := by decide +kernel
theorem dL_law_175 : decode cL_law 175 = .ok (.aload_n 2, 1) := by decide +kernel
theorem dL_law_176 : decode cL_law 176 = .ok (.aload_n 0, 1) := by decide +kernel
theorem dL_law_177 : decode cL_law 177 = .ok (.iload 4, 2) := by decide +kernel
theorem dL_law_179 : decode cL_law 179 = .ok (.iconst 1, 1) := by decide +kernel
theorem dL_law_180 : decode cL_law 180 = .ok (.iadd, 1) := by decide +kernel
theorem dL_law_181 : decode cL_law 181 = .ok (.iaload, 1) := by decide +kernel
theorem dL_law_182 : decode cL_law 182 = .ok (.aload_n 0, 1) := by decide +kernel
theorem dL_law_183 : decode cL_law 183 = .ok (.iload 4, 2) := by decide +kernel
theorem dL_law_185 : decode cL_law 185 = .ok (.iconst 2, 1) := by decide +kernel
theorem dL_law_186 : decode cL_law 186 = .ok (.iadd, 1) := by decide +kernel
theorem dL_law_187 : decode cL_law 187 = .ok (.iaload, 1) := by decide +kernel
theorem dL_law_188 : decode cL_law 188 = .ok (.aload_n 0, 1) := by decide +kernel
theorem dL_law_189 : decode cL_law 189 = .ok (.iload 4, 2) := by decide +kernel
theorem dL_law_191 : decode cL_law 191 = .ok (.iconst 3, 1) := by decide +kernel
theorem dL_law_192 : decode cL_law 192 = .ok (.iadd, 1) := by decide +kernel
theorem dL_law_193 : decode cL_law 193 = .ok (.iaload, 1) := by decide +kernel
theorem dL_law_194 : decode cL_law 194 = .ok (.aload_n 0, 1) := by decide +kernel
theorem dL_law_195 : decode cL_law 195 = .ok (.iload 4, 2) := by decide +kernel
theorem dL_law_197 : decode cL_law 197 = .ok (.iconst 4, 1) := by decide +kernel
theorem dL_law_198 : decode cL_law 198 = .ok (.iadd, 1) := by decide +kernel
theorem dL_law_199 : decode cL_law 199 = .ok (.iaload, 1) := by decide +kernel
theorem dL_law_200 : decode cL_law 200 = .ok (.invokevirtual 91, 3) := by decide +kernel
theorem dL_law_203 : decode cL_law 203 = .ok (.istore 6, 2) := by decide +kernel
theorem dL_law_205 : decode cL_law 205 = .ok (.aload_n 2, 1) := by decide +kernel
theorem dL_law_206 : decode cL_law 206 = .ok (.invokevirtual 92, 3) := by decide +kernel
theorem dL_law_209 : decode cL_law 209 = .ok (.iload 5, 2) := by decide +kernel
theorem dL_law_211 : decode cL_law 211 = .ok (.if_icmp .eq 5, 3) := by decide +kernel
theorem dL_law_214 : decode cL_law 214 = .ok (.iconst 0, 1) := by decide +kernel
theorem dL_law_215 : decode cL_law 215 = .ok (.ireturn, 1) := by decide +kernel
theorem dL_law_216 : decode cL_law 216 = .ok (.iload 5, 2) := by decide +kernel
theorem dL_law_218 : decode cL_law 218 = .ok (.ifCond .ne 15, 3) := by decide +kernel
theorem dL_law_221 : decode cL_law 221 = .ok (.aload_n 3, 1) := by decide +kernel
theorem dL_law_222 : decode cL_law 222 = .ok (.iconst 0, 1) := by decide +kernel
theorem dL_law_223 : decode cL_law 223 = .ok (.laload, 1) := by decide +kernel
theorem dL_law_224 : decode cL_law 224 = .ok (.iload 6, 2) := by decide +kernel
theorem dL_law_226 : decode cL_law 226 = .ok (.i2l, 1) := by decide +kernel
theorem dL_law_227 : decode cL_law 227 = .ok (.lcmp, 1) := by decide +kernel
theorem dL_law_228 : decode cL_law 228 = .ok (.ifCond .eq 5, 3) := by decide +kernel
theorem dL_law_231 : decode cL_law 231 = .ok (.iconst 0, 1) := by decide +kernel
theorem dL_law_232 : decode cL_law 232 = .ok (.ireturn, 1) := by decide +kernel
theorem dL_law_233 : decode cL_law 233 = .ok (.goto 1478, 3) := by decide +kernel
theorem dL_law_236 : decode cL_law 236 = .ok (.aload_n 1, 1) := by decide +kernel
theorem dL_law_237 : decode cL_law 237 = .ok (.aload_n 0, 1) := by decide +kernel
theorem dL_law_238 : decode cL_law 238 = .ok (.iload 4, 2) := by decide +kernel
theorem dL_law_240 : decode cL_law 240 = .ok (.iconst 1, 1) := by decide +kernel
theorem dL_law_241 : decode cL_law 241 = .ok (.iadd, 1) := by decide +kernel
theorem dL_law_242 : decode cL_law 242 = .ok (.iaload, 1) := by decide +kernel
theorem dL_law_243 : decode cL_law 243 = .ok (.aload_n 0, 1) := by decide +kernel
theorem dL_law_244 : decode cL_law 244 = .ok (.iload 4, 2) := by decide +kernel
theorem dL_law_246 : decode cL_law 246 = .ok (.iconst 2, 1) := by decide +kernel
theorem dL_law_247 : decode cL_law 247 = .ok (.iadd, 1) := by decide +kernel
theorem dL_law_248 : decode cL_law 248 = .ok (.iaload, 1) := by decide +kernel
theorem dL_law_249 : decode cL_law 249 = .ok (.aload_n 0, 1) := by decide +kernel
theorem dL_law_250 : decode cL_law 250 = .ok (.iload 4, 2) := by decide +kernel
theorem dL_law_252 : decode cL_law 252 = .ok (.iconst 3, 1) := by decide +kernel
theorem dL_law_253 : decode cL_law 253 = .ok (.iadd, 1) := by decide +kernel
theorem dL_law_254 : decode cL_law 254 = .ok (.iaload, 1) := by decide +kernel
theorem dL_law_255 : decode cL_law 255 = .ok (.aload_n 0, 1) := by decide +kernel
theorem dL_law_256 : decode cL_law 256 = .ok (.iload 4, 2) := by decide +kernel
theorem dL_law_258 : decode cL_law 258 = .ok (.iconst 4, 1) := by decide +kernel
theorem dL_law_259 : decode cL_law 259 = .ok (.iadd, 1) := by decide +kernel
theorem dL_law_260 : decode cL_law 260 = .ok (.iaload, 1) := by decide +kernel
theorem dL_law_261 : decode cL_law 261 = .ok (.aload_n 3, 1) := by decide +kernel
theorem dL_law_262 : decode cL_law 262 = .ok (.invokestatic 96, 3) := by decide +kernel
theorem dL_law_265 : decode cL_law 265 = .ok (.istore 5, 2) := by decide +kernel
theorem dL_law_267 : decode cL_law 267 = .ok (.aload_n 2, 1) := by decide +kernel
theorem dL_law_268 : decode cL_law 268 = .ok (.aload_n 0, 1) := by decide +kernel
theorem dL_law_269 : decode cL_law 269 = .ok (.iload 4, 2) := by decide +kernel
theorem dL_law_271 : decode cL_law 271 = .ok (.iconst 1, 1) := by decide +kernel
theorem dL_law_272 : decode cL_law 272 = .ok (.iadd, 1) := by decide +kernel
theorem dL_law_273 : decode cL_law 273 = .ok (.iaload, 1) := by decide +kernel
theorem dL_law_274 : decode cL_law 274 = .ok (.aload_n 0, 1) := by decide +kernel
theorem dL_law_275 : decode cL_law 275 = .ok (.iload 4, 2) := by decide +kernel
theorem dL_law_277 : decode cL_law 277 = .ok (.iconst 2, 1) := by decide +kernel
theorem dL_law_278 : decode cL_law 278 = .ok (.iadd, 1) := by decide +kernel
theorem dL_law_279 : decode cL_law 279 = .ok (.iaload, 1) := by decide +kernel
theorem dL_law_280 : decode cL_law 280 = .ok (.aload_n 0, 1) := by decide +kernel
theorem dL_law_281 : decode cL_law 281 = .ok (.iload 4, 2) := by decide +kernel
theorem dL_law_283 : decode cL_law 283 = .ok (.iconst 3, 1) := by decide +kernel
theorem dL_law_284 : decode cL_law 284 = .ok (.iadd, 1) := by decide +kernel
theorem dL_law_285 : decode cL_law 285 = .ok (.iaload, 1) := by decide +kernel
theorem dL_law_286 : decode cL_law 286 = .ok (.aload_n 0, 1) := by decide +kernel
theorem dL_law_287 : decode cL_law 287 = .ok (.iload 4, 2) := by decide +kernel
theorem dL_law_289 : decode cL_law 289 = .ok (.iconst 4, 1) := by decide +kernel
theorem dL_law_290 : decode cL_law 290 = .ok (.iadd, 1) := by decide +kernel
theorem dL_law_291 : decode cL_law 291 = .ok (.iaload, 1) := by decide +kernel
theorem dL_law_292 : decode cL_law 292 = .ok (.invokevirtual 98, 3) := by decide +kernel
theorem dL_law_295 : decode cL_law 295 = .ok (.istore 6, 2) := by decide +kernel
theorem dL_law_297 : decode cL_law 297 = .ok (.aload_n 2, 1) := by decide +kernel
theorem dL_law_298 : decode cL_law 298 = .ok (.invokevirtual 92, 3) := by decide +kernel
theorem dL_law_301 : decode cL_law 301 = .ok (.iload 5, 2) := by decide +kernel
theorem dL_law_303 : decode cL_law 303 = .ok (.if_icmp .eq 5, 3) := by decide +kernel
theorem dL_law_306 : decode cL_law 306 = .ok (.iconst 0, 1) := by decide +kernel
theorem dL_law_307 : decode cL_law 307 = .ok (.ireturn, 1) := by decide +kernel
theorem dL_law_308 : decode cL_law 308 = .ok (.iload 5, 2) := by decide +kernel
theorem dL_law_310 : decode cL_law 310 = .ok (.ifCond .ne 15, 3) := by decide +kernel
theorem dL_law_313 : decode cL_law 313 = .ok (.aload_n 3, 1) := by decide +kernel
theorem dL_law_314 : decode cL_law 314 = .ok (.iconst 0, 1) := by decide +kernel
theorem dL_law_315 : decode cL_law 315 = .ok (.laload, 1) := by decide +kernel
theorem dL_law_316 : decode cL_law 316 = .ok (.iload 6, 2) := by decide +kernel
theorem dL_law_318 : decode cL_law 318 = .ok (.i2l, 1) := by decide +kernel
theorem dL_law_319 : decode cL_law 319 = .ok (.lcmp, 1) := by decide +kernel
theorem dL_law_320 : decode cL_law 320 = .ok (.ifCond .eq 5, 3) := by decide +kernel
theorem dL_law_323 : decode cL_law 323 = .ok (.iconst 0, 1) := by decide +kernel
theorem dL_law_324 : decode cL_law 324 = .ok (.ireturn, 1) := by decide +kernel
theorem dL_law_325 : decode cL_law 325 = .ok (.goto 1386, 3) := by decide +kernel
theorem dL_law_328 : decode cL_law 328 = .ok (.aload_n 1, 1) := by decide +kernel
theorem dL_law_329 : decode cL_law 329 = .ok (.aload_n 0, 1) := by decide +kernel
theorem dL_law_330 : decode cL_law 330 = .ok (.iload 4, 2) := by decide +kernel
theorem dL_law_332 : decode cL_law 332 = .ok (.iconst 1, 1) := by decide +kernel
theorem dL_law_333 : decode cL_law 333 = .ok (.iadd, 1) := by decide +kernel
theorem dL_law_334 : decode cL_law 334 = .ok (.iaload, 1) := by decide +kernel
theorem dL_law_335 : decode cL_law 335 = .ok (.aload_n 0, 1) := by decide +kernel
theorem dL_law_336 : decode cL_law 336 = .ok (.iload 4, 2) := by decide +kernel
theorem dL_law_338 : decode cL_law 338 = .ok (.iconst 2, 1) := by decide +kernel
theorem dL_law_339 : decode cL_law 339 = .ok (.iadd, 1) := by decide +kernel
theorem dL_law_340 : decode cL_law 340 = .ok (.iaload, 1) := by decide +kernel
theorem dL_law_341 : decode cL_law 341 = .ok (.aload_n 0, 1) := by decide +kernel
theorem dL_law_342 : decode cL_law 342 = .ok (.iload 4, 2) := by decide +kernel
theorem dL_law_344 : decode cL_law 344 = .ok (.iconst 3, 1) := by decide +kernel
theorem dL_law_345 : decode cL_law 345 = .ok (.iadd, 1) := by decide +kernel
theorem dL_law_346 : decode cL_law 346 = .ok (.iaload, 1) := by decide +kernel
theorem dL_law_347 : decode cL_law 347 = .ok (.aload_n 0, 1) := by decide +kernel
theorem dL_law_348 : decode cL_law 348 = .ok (.iload 4, 2) := by decide +kernel
theorem dL_law_350 : decode cL_law 350 = .ok (.iconst 4, 1) := by decide +kernel
theorem dL_law_351 : decode cL_law 351 = .ok (.iadd, 1) := by decide +kernel
theorem dL_law_352 : decode cL_law 352 = .ok (.iaload, 1) := by decide +kernel
theorem dL_law_353 : decode cL_law 353 = .ok (.aload_n 3, 1) := by decide +kernel
theorem dL_law_354 : decode cL_law 354 = .ok (.invokestatic 99, 3) := by decide +kernel
theorem dL_law_357 : decode cL_law 357 = .ok (.istore 5, 2) := by decide +kernel
theorem dL_law_359 : decode cL_law 359 = .ok (.aload_n 2, 1) := by decide +kernel
theorem dL_law_360 : decode cL_law 360 = .ok (.aload_n 0, 1) := by decide +kernel
theorem dL_law_361 : decode cL_law 361 = .ok (.iload 4, 2) := by decide +kernel
theorem dL_law_363 : decode cL_law 363 = .ok (.iconst 1, 1) := by decide +kernel
theorem dL_law_364 : decode cL_law 364 = .ok (.iadd, 1) := by decide +kernel
theorem dL_law_365 : decode cL_law 365 = .ok (.iaload, 1) := by decide +kernel
theorem dL_law_366 : decode cL_law 366 = .ok (.aload_n 0, 1) := by decide +kernel
theorem dL_law_367 : decode cL_law 367 = .ok (.iload 4, 2) := by decide +kernel
theorem dL_law_369 : decode cL_law 369 = .ok (.iconst 2, 1) := by decide +kernel
theorem dL_law_370 : decode cL_law 370 = .ok (.iadd, 1) := by decide +kernel
theorem dL_law_371 : decode cL_law 371 = .ok (.iaload, 1) := by decide +kernel
theorem dL_law_372 : decode cL_law 372 = .ok (.aload_n 0, 1) := by decide +kernel
theorem dL_law_373 : decode cL_law 373 = .ok (.iload 4, 2) := by decide +kernel
theorem dL_law_375 : decode cL_law 375 = .ok (.iconst 3, 1) := by decide +kernel
theorem dL_law_376 : decode cL_law 376 = .ok (.iadd, 1) := by decide +kernel
theorem dL_law_377 : decode cL_law 377 = .ok (.iaload, 1) := by decide +kernel
theorem dL_law_378 : decode cL_law 378 = .ok (.aload_n 0, 1) := by decide +kernel
theorem dL_law_379 : decode cL_law 379 = .ok (.iload 4, 2) := by decide +kernel
theorem dL_law_381 : decode cL_law 381 = .ok (.iconst 4, 1) := by decide +kernel
theorem dL_law_382 : decode cL_law 382 = .ok (.iadd, 1) := by decide +kernel
theorem dL_law_383 : decode cL_law 383 = .ok (.iaload, 1) := by decide +kernel
theorem dL_law_384 : decode cL_law 384 = .ok (.invokevirtual 101, 3) := by decide +kernel
theorem dL_law_387 : decode cL_law 387 = .ok (.istore 6, 2) := by decide +kernel
theorem dL_law_389 : decode cL_law 389 = .ok (.aload_n 2, 1) := by decide +kernel
theorem dL_law_390 : decode cL_law 390 = .ok (.invokevirtual 92, 3) := by decide +kernel
theorem dL_law_393 : decode cL_law 393 = .ok (.iload 5, 2) := by decide +kernel
theorem dL_law_395 : decode cL_law 395 = .ok (.if_icmp .eq 5, 3) := by decide +kernel
theorem dL_law_398 : decode cL_law 398 = .ok (.iconst 0, 1) := by decide +kernel
theorem dL_law_399 : decode cL_law 399 = .ok (.ireturn, 1) := by decide +kernel
theorem dL_law_400 : decode cL_law 400 = .ok (.iload 5, 2) := by decide +kernel
theorem dL_law_402 : decode cL_law 402 = .ok (.ifCond .ne 15, 3) := by decide +kernel
theorem dL_law_405 : decode cL_law 405 = .ok (.aload_n 3, 1) := by decide +kernel
theorem dL_law_406 : decode cL_law 406 = .ok (.iconst 0, 1) := by decide +kernel
theorem dL_law_407 : decode cL_law 407 = .ok (.laload, 1) := by decide +kernel
theorem dL_law_408 : decode cL_law 408 = .ok (.iload 6, 2) := by decide +kernel
theorem dL_law_410 : decode cL_law 410 = .ok (.i2l, 1) := by decide +kernel
theorem dL_law_411 : decode cL_law 411 = .ok (.lcmp, 1) := by decide +kernel
theorem dL_law_412 : decode cL_law 412 = .ok (.ifCond .eq 5, 3) := by decide +kernel
theorem dL_law_415 : decode cL_law 415 = .ok (.iconst 0, 1) := by decide +kernel
theorem dL_law_416 : decode cL_law 416 = .ok (.ireturn, 1) := by decide +kernel
theorem dL_law_417 : decode cL_law 417 = .ok (.goto 1294, 3) := by decide +kernel
theorem dL_law_420 : decode cL_law 420 = .ok (.aload_n 1, 1) := by decide +kernel
theorem dL_law_421 : decode cL_law 421 = .ok (.aload_n 0, 1) := by decide +kernel
theorem dL_law_422 : decode cL_law 422 = .ok (.iload 4, 2) := by decide +kernel
theorem dL_law_424 : decode cL_law 424 = .ok (.iconst 1, 1) := by decide +kernel
theorem dL_law_425 : decode cL_law 425 = .ok (.iadd, 1) := by decide +kernel
theorem dL_law_426 : decode cL_law 426 = .ok (.iaload, 1) := by decide +kernel
theorem dL_law_427 : decode cL_law 427 = .ok (.aload_n 0, 1) := by decide +kernel
theorem dL_law_428 : decode cL_law 428 = .ok (.iload 4, 2) := by decide +kernel
theorem dL_law_430 : decode cL_law 430 = .ok (.iconst 2, 1) := by decide +kernel
theorem dL_law_431 : decode cL_law 431 = .ok (.iadd, 1) := by decide +kernel
theorem dL_law_432 : decode cL_law 432 = .ok (.iaload, 1) := by decide +kernel
theorem dL_law_433 : decode cL_law 433 = .ok (.aload_n 0, 1) := by decide +kernel
theorem dL_law_434 : decode cL_law 434 = .ok (.iload 4, 2) := by decide +kernel
theorem dL_law_436 : decode cL_law 436 = .ok (.iconst 3, 1) := by decide +kernel
theorem dL_law_437 : decode cL_law 437 = .ok (.iadd, 1) := by decide +kernel
theorem dL_law_438 : decode cL_law 438 = .ok (.iaload, 1) := by decide +kernel
theorem dL_law_439 : decode cL_law 439 = .ok (.aload_n 3, 1) := by decide +kernel
theorem dL_law_440 : decode cL_law 440 = .ok (.invokestatic 102, 3) := by decide +kernel
theorem dL_law_443 : decode cL_law 443 = .ok (.istore 5, 2) := by decide +kernel
theorem dL_law_445 : decode cL_law 445 = .ok (.aload_n 2, 1) := by decide +kernel
theorem dL_law_446 : decode cL_law 446 = .ok (.aload_n 0, 1) := by decide +kernel
theorem dL_law_447 : decode cL_law 447 = .ok (.iload 4, 2) := by decide +kernel
theorem dL_law_449 : decode cL_law 449 = .ok (.iconst 1, 1) := by decide +kernel
theorem dL_law_450 : decode cL_law 450 = .ok (.iadd, 1) := by decide +kernel
theorem dL_law_451 : decode cL_law 451 = .ok (.iaload, 1) := by decide +kernel
theorem dL_law_452 : decode cL_law 452 = .ok (.aload_n 0, 1) := by decide +kernel
theorem dL_law_453 : decode cL_law 453 = .ok (.iload 4, 2) := by decide +kernel
theorem dL_law_455 : decode cL_law 455 = .ok (.iconst 2, 1) := by decide +kernel
theorem dL_law_456 : decode cL_law 456 = .ok (.iadd, 1) := by decide +kernel
theorem dL_law_457 : decode cL_law 457 = .ok (.iaload, 1) := by decide +kernel
theorem dL_law_458 : decode cL_law 458 = .ok (.aload_n 0, 1) := by decide +kernel
theorem dL_law_459 : decode cL_law 459 = .ok (.iload 4, 2) := by decide +kernel
theorem dL_law_461 : decode cL_law 461 = .ok (.iconst 3, 1) := by decide +kernel
theorem dL_law_462 : decode cL_law 462 = .ok (.iadd, 1) := by decide +kernel
theorem dL_law_463 : decode cL_law 463 = .ok (.iaload, 1) := by decide +kernel
theorem dL_law_464 : decode cL_law 464 = .ok (.invokevirtual 105, 3) := by decide +kernel
theorem dL_law_467 : decode cL_law 467 = .ok (.istore 6, 2) := by decide +kernel
theorem dL_law_469 : decode cL_law 469 = .ok (.aload_n 2, 1) := by decide +kernel
theorem dL_law_470 : decode cL_law 470 = .ok (.invokevirtual 92, 3) := by decide +kernel
theorem dL_law_473 : decode cL_law 473 = .ok (.iload 5, 2) := by decide +kernel
theorem dL_law_475 : decode cL_law 475 = .ok (.if_icmp .eq 5, 3) := by decide +kernel
theorem dL_law_478 : decode cL_law 478 = .ok (.iconst 0, 1) := by decide +kernel
theorem dL_law_479 : decode cL_law 479 = .ok (.ireturn, 1) := by decide +kernel
theorem dL_law_480 : decode cL_law 480 = .ok (.iload 5, 2) := by decide +kernel
theorem dL_law_482 : decode cL_law 482 = .ok (.ifCond .ne 15, 3) := by decide +kernel
theorem dL_law_485 : decode cL_law 485 = .ok (.aload_n 3, 1) := by decide +kernel
theorem dL_law_486 : decode cL_law 486 = .ok (.iconst 0, 1) := by decide +kernel
theorem dL_law_487 : decode cL_law 487 = .ok (.laload, 1) := by decide +kernel
theorem dL_law_488 : decode cL_law 488 = .ok (.iload 6, 2) := by decide +kernel
theorem dL_law_490 : decode cL_law 490 = .ok (.i2l, 1) := by decide +kernel
theorem dL_law_491 : decode cL_law 491 = .ok (.lcmp, 1) := by decide +kernel
theorem dL_law_492 : decode cL_law 492 = .ok (.ifCond .eq 5, 3) := by decide +kernel
theorem dL_law_495 : decode cL_law 495 = .ok (.iconst 0, 1) := by decide +kernel
theorem dL_law_496 : decode cL_law 496 = .ok (.ireturn, 1) := by decide +kernel
theorem dL_law_497 : decode cL_law 497 = .ok (.goto 1214, 3) := by decide +kernel
theorem dL_law_500 : decode cL_law 500 = .ok (.aload_n 1, 1) := by decide +kernel
theorem dL_law_501 : decode cL_law 501 = .ok (.aload_n 0, 1) := by decide +kernel
theorem dL_law_502 : decode cL_law 502 = .ok (.iload 4, 2) := by decide +kernel
theorem dL_law_504 : decode cL_law 504 = .ok (.iconst 1, 1) := by decide +kernel
theorem dL_law_505 : decode cL_law 505 = .ok (.iadd, 1) := by decide +kernel
theorem dL_law_506 : decode cL_law 506 = .ok (.iaload, 1) := by decide +kernel
theorem dL_law_507 : decode cL_law 507 = .ok (.aload_n 3, 1) := by decide +kernel
theorem dL_law_508 : decode cL_law 508 = .ok (.invokestatic 106, 3) := by decide +kernel
theorem dL_law_511 : decode cL_law 511 = .ok (.istore 5, 2) := by decide +kernel
theorem dL_law_513 : decode cL_law 513 = .ok (.aload_n 2, 1) := by decide +kernel
theorem dL_law_514 : decode cL_law 514 = .ok (.aload_n 0, 1) := by decide +kernel
theorem dL_law_515 : decode cL_law 515 = .ok (.iload 4, 2) := by decide +kernel
theorem dL_law_517 : decode cL_law 517 = .ok (.iconst 1, 1) := by decide +kernel
theorem dL_law_518 : decode cL_law 518 = .ok (.iadd, 1) := by decide +kernel
theorem dL_law_519 : decode cL_law 519 = .ok (.iaload, 1) := by decide +kernel
theorem dL_law_520 : decode cL_law 520 = .ok (.invokevirtual 109, 3) := by decide +kernel
theorem dL_law_523 : decode cL_law 523 = .ok (.istore 6, 2) := by decide +kernel
theorem dL_law_525 : decode cL_law 525 = .ok (.aload_n 2, 1) := by decide +kernel
theorem dL_law_526 : decode cL_law 526 = .ok (.invokevirtual 92, 3) := by decide +kernel
theorem dL_law_529 : decode cL_law 529 = .ok (.iload 5, 2) := by decide +kernel
theorem dL_law_531 : decode cL_law 531 = .ok (.if_icmp .eq 5, 3) := by decide +kernel
theorem dL_law_534 : decode cL_law 534 = .ok (.iconst 0, 1) := by decide +kernel
theorem dL_law_535 : decode cL_law 535 = .ok (.ireturn, 1) := by decide +kernel
theorem dL_law_536 : decode cL_law 536 = .ok (.iload 5, 2) := by decide +kernel
theorem dL_law_538 : decode cL_law 538 = .ok (.ifCond .ne 15, 3) := by decide +kernel
theorem dL_law_541 : decode cL_law 541 = .ok (.aload_n 3, 1) := by decide +kernel
theorem dL_law_542 : decode cL_law 542 = .ok (.iconst 0, 1) := by decide +kernel
theorem dL_law_543 : decode cL_law 543 = .ok (.laload, 1) := by decide +kernel
theorem dL_law_544 : decode cL_law 544 = .ok (.iload 6, 2) := by decide +kernel
theorem dL_law_546 : decode cL_law 546 = .ok (.i2l, 1) := by decide +kernel
theorem dL_law_547 : decode cL_law 547 = .ok (.lcmp, 1) := by decide +kernel
theorem dL_law_548 : decode cL_law 548 = .ok (.ifCond .eq 5, 3) := by decide +kernel
theorem dL_law_551 : decode cL_law 551 = .ok (.iconst 0, 1) := by decide +kernel
theorem dL_law_552 : decode cL_law 552 = .ok (.ireturn, 1) := by decide +kernel
theorem dL_law_553 : decode cL_law 553 = .ok (.goto 1158, 3) := by decide +kernel
theorem dL_law_556 : decode cL_law 556 = .ok (.aload_n 1, 1) := by decide +kernel
theorem dL_law_557 : decode cL_law 557 = .ok (.aload_n 0, 1) := by decide +kernel
theorem dL_law_558 : decode cL_law 558 = .ok (.iload 4, 2) := by decide +kernel
theorem dL_law_560 : decode cL_law 560 = .ok (.iconst 1, 1) := by decide +kernel
theorem dL_law_561 : decode cL_law 561 = .ok (.iadd, 1) := by decide +kernel
theorem dL_law_562 : decode cL_law 562 = .ok (.iaload, 1) := by decide +kernel
theorem dL_law_563 : decode cL_law 563 = .ok (.aload_n 3, 1) := by decide +kernel
theorem dL_law_564 : decode cL_law 564 = .ok (.invokestatic 110, 3) := by decide +kernel
theorem dL_law_567 : decode cL_law 567 = .ok (.istore 5, 2) := by decide +kernel
theorem dL_law_569 : decode cL_law 569 = .ok (.aload_n 2, 1) := by decide +kernel
theorem dL_law_570 : decode cL_law 570 = .ok (.aload_n 0, 1) := by decide +kernel
theorem dL_law_571 : decode cL_law 571 = .ok (.iload 4, 2) := by decide +kernel
theorem dL_law_573 : decode cL_law 573 = .ok (.iconst 1, 1) := by decide +kernel
theorem dL_law_574 : decode cL_law 574 = .ok (.iadd, 1) := by decide +kernel
theorem dL_law_575 : decode cL_law 575 = .ok (.iaload, 1) := by decide +kernel
theorem dL_law_576 : decode cL_law 576 = .ok (.invokevirtual 112, 3) := by decide +kernel
theorem dL_law_579 : decode cL_law 579 = .ok (.istore 6, 2) := by decide +kernel
theorem dL_law_581 : decode cL_law 581 = .ok (.aload_n 2, 1) := by decide +kernel
theorem dL_law_582 : decode cL_law 582 = .ok (.invokevirtual 92, 3) := by decide +kernel
theorem dL_law_585 : decode cL_law 585 = .ok (.iload 5, 2) := by decide +kernel
theorem dL_law_587 : decode cL_law 587 = .ok (.if_icmp .eq 5, 3) := by decide +kernel
theorem dL_law_590 : decode cL_law 590 = .ok (.iconst 0, 1) := by decide +kernel
theorem dL_law_591 : decode cL_law 591 = .ok (.ireturn, 1) := by decide +kernel
theorem dL_law_592 : decode cL_law 592 = .ok (.iload 5, 2) := by decide +kernel
theorem dL_law_594 : decode cL_law 594 = .ok (.ifCond .ne 15, 3) := by decide +kernel
theorem dL_law_597 : decode cL_law 597 = .ok (.aload_n 3, 1) := by decide +kernel
theorem dL_law_598 : decode cL_law 598 = .ok (.iconst 0, 1) := by decide +kernel
theorem dL_law_599 : decode cL_law 599 = .ok (.laload, 1) := by decide +kernel
theorem dL_law_600 : decode cL_law 600 = .ok (.iload 6, 2) := by decide +kernel
theorem dL_law_602 : decode cL_law 602 = .ok (.i2l, 1) := by decide +kernel
theorem dL_law_603 : decode cL_law 603 = .ok (.lcmp, 1) := by decide +kernel
theorem dL_law_604 : decode cL_law 604 = .ok (.ifCond .eq 5, 3) := by decide +kernel
theorem dL_law_607 : decode cL_law 607 = .ok (.iconst 0, 1) := by decide +kernel
theorem dL_law_608 : decode cL_law 608 = .ok (.ireturn, 1) := by decide +kernel
theorem dL_law_609 : decode cL_law 609 = .ok (.goto 1102, 3) := by decide +kernel
theorem dL_law_612 : decode cL_law 612 = .ok (.aload_n 1, 1) := by decide +kernel
theorem dL_law_613 : decode cL_law 613 = .ok (.aload_n 0, 1) := by decide +kernel
theorem dL_law_614 : decode cL_law 614 = .ok (.iload 4, 2) := by decide +kernel
theorem dL_law_616 : decode cL_law 616 = .ok (.iconst 1, 1) := by decide +kernel
theorem dL_law_617 : decode cL_law 617 = .ok (.iadd, 1) := by decide +kernel
theorem dL_law_618 : decode cL_law 618 = .ok (.iaload, 1) := by decide +kernel
theorem dL_law_619 : decode cL_law 619 = .ok (.aload_n 3, 1) := by decide +kernel
theorem dL_law_620 : decode cL_law 620 = .ok (.invokestatic 113, 3) := by decide +kernel
theorem dL_law_623 : decode cL_law 623 = .ok (.istore 5, 2) := by decide +kernel
theorem dL_law_625 : decode cL_law 625 = .ok (.aload_n 2, 1) := by decide +kernel
theorem dL_law_626 : decode cL_law 626 = .ok (.aload_n 0, 1) := by decide +kernel
theorem dL_law_627 : decode cL_law 627 = .ok (.iload 4, 2) := by decide +kernel
theorem dL_law_629 : decode cL_law 629 = .ok (.iconst 1, 1) := by decide +kernel
theorem dL_law_630 : decode cL_law 630 = .ok (.iadd, 1) := by decide +kernel
theorem dL_law_631 : decode cL_law 631 = .ok (.iaload, 1) := by decide +kernel
theorem dL_law_632 : decode cL_law 632 = .ok (.invokevirtual 115, 3) := by decide +kernel
theorem dL_law_635 : decode cL_law 635 = .ok (.istore 6, 2) := by decide +kernel
theorem dL_law_637 : decode cL_law 637 = .ok (.aload_n 2, 1) := by decide +kernel
theorem dL_law_638 : decode cL_law 638 = .ok (.invokevirtual 92, 3) := by decide +kernel
theorem dL_law_641 : decode cL_law 641 = .ok (.iload 5, 2) := by decide +kernel
theorem dL_law_643 : decode cL_law 643 = .ok (.if_icmp .eq 5, 3) := by decide +kernel
theorem dL_law_646 : decode cL_law 646 = .ok (.iconst 0, 1) := by decide +kernel
theorem dL_law_647 : decode cL_law 647 = .ok (.ireturn, 1) := by decide +kernel
theorem dL_law_648 : decode cL_law 648 = .ok (.iload 5, 2) := by decide +kernel
theorem dL_law_650 : decode cL_law 650 = .ok (.ifCond .ne 15, 3) := by decide +kernel
theorem dL_law_653 : decode cL_law 653 = .ok (.aload_n 3, 1) := by decide +kernel
theorem dL_law_654 : decode cL_law 654 = .ok (.iconst 0, 1) := by decide +kernel
theorem dL_law_655 : decode cL_law 655 = .ok (.laload, 1) := by decide +kernel
theorem dL_law_656 : decode cL_law 656 = .ok (.iload 6, 2) := by decide +kernel
theorem dL_law_658 : decode cL_law 658 = .ok (.i2l, 1) := by decide +kernel
theorem dL_law_659 : decode cL_law 659 = .ok (.lcmp, 1) := by decide +kernel
theorem dL_law_660 : decode cL_law 660 = .ok (.ifCond .eq 5, 3) := by decide +kernel
theorem dL_law_663 : decode cL_law 663 = .ok (.iconst 0, 1) := by decide +kernel
theorem dL_law_664 : decode cL_law 664 = .ok (.ireturn, 1) := by decide +kernel
theorem dL_law_665 : decode cL_law 665 = .ok (.goto 1046, 3) := by decide +kernel
theorem dL_law_668 : decode cL_law 668 = .ok (.aload_n 1, 1) := by decide +kernel
theorem dL_law_669 : decode cL_law 669 = .ok (.aload_n 0, 1) := by decide +kernel
theorem dL_law_670 : decode cL_law 670 = .ok (.iload 4, 2) := by decide +kernel
theorem dL_law_672 : decode cL_law 672 = .ok (.iconst 1, 1) := by decide +kernel
theorem dL_law_673 : decode cL_law 673 = .ok (.iadd, 1) := by decide +kernel
theorem dL_law_674 : decode cL_law 674 = .ok (.iaload, 1) := by decide +kernel
theorem dL_law_675 : decode cL_law 675 = .ok (.aload_n 3, 1) := by decide +kernel
theorem dL_law_676 : decode cL_law 676 = .ok (.invokestatic 116, 3) := by decide +kernel
theorem dL_law_679 : decode cL_law 679 = .ok (.istore 5, 2) := by decide +kernel
theorem dL_law_681 : decode cL_law 681 = .ok (.aload_n 2, 1) := by decide +kernel
theorem dL_law_682 : decode cL_law 682 = .ok (.aload_n 0, 1) := by decide +kernel
theorem dL_law_683 : decode cL_law 683 = .ok (.iload 4, 2) := by decide +kernel
theorem dL_law_685 : decode cL_law 685 = .ok (.iconst 1, 1) := by decide +kernel
theorem dL_law_686 : decode cL_law 686 = .ok (.iadd, 1) := by decide +kernel
theorem dL_law_687 : decode cL_law 687 = .ok (.iaload, 1) := by decide +kernel
theorem dL_law_688 : decode cL_law 688 = .ok (.invokevirtual 118, 3) := by decide +kernel
theorem dL_law_691 : decode cL_law 691 = .ok (.istore 6, 2) := by decide +kernel
theorem dL_law_693 : decode cL_law 693 = .ok (.aload_n 2, 1) := by decide +kernel
theorem dL_law_694 : decode cL_law 694 = .ok (.invokevirtual 92, 3) := by decide +kernel
theorem dL_law_697 : decode cL_law 697 = .ok (.iload 5, 2) := by decide +kernel
theorem dL_law_699 : decode cL_law 699 = .ok (.if_icmp .eq 5, 3) := by decide +kernel
theorem dL_law_702 : decode cL_law 702 = .ok (.iconst 0, 1) := by decide +kernel
theorem dL_law_703 : decode cL_law 703 = .ok (.ireturn, 1) := by decide +kernel
theorem dL_law_704 : decode cL_law 704 = .ok (.iload 5, 2) := by decide +kernel
theorem dL_law_706 : decode cL_law 706 = .ok (.ifCond .ne 15, 3) := by decide +kernel
theorem dL_law_709 : decode cL_law 709 = .ok (.aload_n 3, 1) := by decide +kernel
theorem dL_law_710 : decode cL_law 710 = .ok (.iconst 0, 1) := by decide +kernel
theorem dL_law_711 : decode cL_law 711 = .ok (.laload, 1) := by decide +kernel
theorem dL_law_712 : decode cL_law 712 = .ok (.iload 6, 2) := by decide +kernel
theorem dL_law_714 : decode cL_law 714 = .ok (.i2l, 1) := by decide +kernel
theorem dL_law_715 : decode cL_law 715 = .ok (.lcmp, 1) := by decide +kernel
theorem dL_law_716 : decode cL_law 716 = .ok (.ifCond .eq 5, 3) := by decide +kernel
theorem dL_law_719 : decode cL_law 719 = .ok (.iconst 0, 1) := by decide +kernel
theorem dL_law_720 : decode cL_law 720 = .ok (.ireturn, 1) := by decide +kernel
theorem dL_law_721 : decode cL_law 721 = .ok (.goto 990, 3) := by decide +kernel
theorem dL_law_724 : decode cL_law 724 = .ok (.aload_n 1, 1) := by decide +kernel
theorem dL_law_725 : decode cL_law 725 = .ok (.aload_n 0, 1) := by decide +kernel
theorem dL_law_726 : decode cL_law 726 = .ok (.iload 4, 2) := by decide +kernel
theorem dL_law_728 : decode cL_law 728 = .ok (.iconst 1, 1) := by decide +kernel
theorem dL_law_729 : decode cL_law 729 = .ok (.iadd, 1) := by decide +kernel
theorem dL_law_730 : decode cL_law 730 = .ok (.iaload, 1) := by decide +kernel
theorem dL_law_731 : decode cL_law 731 = .ok (.aload_n 0, 1) := by decide +kernel
theorem dL_law_732 : decode cL_law 732 = .ok (.iload 4, 2) := by decide +kernel
theorem dL_law_734 : decode cL_law 734 = .ok (.iconst 2, 1) := by decide +kernel
theorem dL_law_735 : decode cL_law 735 = .ok (.iadd, 1) := by decide +kernel
theorem dL_law_736 : decode cL_law 736 = .ok (.iaload, 1) := by decide +kernel
theorem dL_law_737 : decode cL_law 737 = .ok (.aload_n 3, 1) := by decide +kernel
theorem dL_law_738 : decode cL_law 738 = .ok (.invokestatic 119, 3) := by decide +kernel
theorem dL_law_741 : decode cL_law 741 = .ok (.istore 5, 2) := by decide +kernel
theorem dL_law_743 : decode cL_law 743 = .ok (.aload_n 2, 1) := by decide +kernel
theorem dL_law_744 : decode cL_law 744 = .ok (.aload_n 0, 1) := by decide +kernel
theorem dL_law_745 : decode cL_law 745 = .ok (.iload 4, 2) := by decide +kernel
theorem dL_law_747 : decode cL_law 747 = .ok (.iconst 1, 1) := by decide +kernel
theorem dL_law_748 : decode cL_law 748 = .ok (.iadd, 1) := by decide +kernel
theorem dL_law_749 : decode cL_law 749 = .ok (.iaload, 1) := by decide +kernel
theorem dL_law_750 : decode cL_law 750 = .ok (.aload_n 0, 1) := by decide +kernel
theorem dL_law_751 : decode cL_law 751 = .ok (.iload 4, 2) := by decide +kernel
theorem dL_law_753 : decode cL_law 753 = .ok (.iconst 2, 1) := by decide +kernel
theorem dL_law_754 : decode cL_law 754 = .ok (.iadd, 1) := by decide +kernel
theorem dL_law_755 : decode cL_law 755 = .ok (.iaload, 1) := by decide +kernel
theorem dL_law_756 : decode cL_law 756 = .ok (.invokevirtual 122, 3) := by decide +kernel
theorem dL_law_759 : decode cL_law 759 = .ok (.istore 6, 2) := by decide +kernel
theorem dL_law_761 : decode cL_law 761 = .ok (.aload_n 2, 1) := by decide +kernel
theorem dL_law_762 : decode cL_law 762 = .ok (.invokevirtual 92, 3) := by decide +kernel
theorem dL_law_765 : decode cL_law 765 = .ok (.iload 5, 2) := by decide +kernel
theorem dL_law_767 : decode cL_law 767 = .ok (.if_icmp .eq 5, 3) := by decide +kernel
theorem dL_law_770 : decode cL_law 770 = .ok (.iconst 0, 1) := by decide +kernel
theorem dL_law_771 : decode cL_law 771 = .ok (.ireturn, 1) := by decide +kernel
theorem dL_law_772 : decode cL_law 772 = .ok (.iload 5, 2) := by decide +kernel
theorem dL_law_774 : decode cL_law 774 = .ok (.ifCond .ne 15, 3) := by decide +kernel
theorem dL_law_777 : decode cL_law 777 = .ok (.aload_n 3, 1) := by decide +kernel
theorem dL_law_778 : decode cL_law 778 = .ok (.iconst 0, 1) := by decide +kernel
theorem dL_law_779 : decode cL_law 779 = .ok (.laload, 1) := by decide +kernel
theorem dL_law_780 : decode cL_law 780 = .ok (.iload 6, 2) := by decide +kernel
theorem dL_law_782 : decode cL_law 782 = .ok (.i2l, 1) := by decide +kernel
theorem dL_law_783 : decode cL_law 783 = .ok (.lcmp, 1) := by decide +kernel
theorem dL_law_784 : decode cL_law 784 = .ok (.ifCond .eq 5, 3) := by decide +kernel
theorem dL_law_787 : decode cL_law 787 = .ok (.iconst 0, 1) := by decide +kernel
theorem dL_law_788 : decode cL_law 788 = .ok (.ireturn, 1) := by decide +kernel
theorem dL_law_789 : decode cL_law 789 = .ok (.goto 922, 3) := by decide +kernel
theorem dL_law_792 : decode cL_law 792 = .ok (.aload_n 1, 1) := by decide +kernel
theorem dL_law_793 : decode cL_law 793 = .ok (.aload_n 0, 1) := by decide +kernel
theorem dL_law_794 : decode cL_law 794 = .ok (.iload 4, 2) := by decide +kernel
theorem dL_law_796 : decode cL_law 796 = .ok (.iconst 1, 1) := by decide +kernel
theorem dL_law_797 : decode cL_law 797 = .ok (.iadd, 1) := by decide +kernel
theorem dL_law_798 : decode cL_law 798 = .ok (.iaload, 1) := by decide +kernel
theorem dL_law_799 : decode cL_law 799 = .ok (.aload_n 0, 1) := by decide +kernel
theorem dL_law_800 : decode cL_law 800 = .ok (.iload 4, 2) := by decide +kernel
theorem dL_law_802 : decode cL_law 802 = .ok (.iconst 2, 1) := by decide +kernel
theorem dL_law_803 : decode cL_law 803 = .ok (.iadd, 1) := by decide +kernel
theorem dL_law_804 : decode cL_law 804 = .ok (.iaload, 1) := by decide +kernel
theorem dL_law_805 : decode cL_law 805 = .ok (.aload_n 0, 1) := by decide +kernel
theorem dL_law_806 : decode cL_law 806 = .ok (.iload 4, 2) := by decide +kernel
theorem dL_law_808 : decode cL_law 808 = .ok (.iconst 3, 1) := by decide +kernel
theorem dL_law_809 : decode cL_law 809 = .ok (.iadd, 1) := by decide +kernel
theorem dL_law_810 : decode cL_law 810 = .ok (.iaload, 1) := by decide +kernel
theorem dL_law_811 : decode cL_law 811 = .ok (.aload_n 3, 1) := by decide +kernel
theorem dL_law_812 : decode cL_law 812 = .ok (.invokestatic 123, 3) := by decide +kernel
theorem dL_law_815 : decode cL_law 815 = .ok (.istore 5, 2) := by decide +kernel
theorem dL_law_817 : decode cL_law 817 = .ok (.aload_n 2, 1) := by decide +kernel
theorem dL_law_818 : decode cL_law 818 = .ok (.aload_n 0, 1) := by decide +kernel
theorem dL_law_819 : decode cL_law 819 = .ok (.iload 4, 2) := by decide +kernel
theorem dL_law_821 : decode cL_law 821 = .ok (.iconst 1, 1) := by decide +kernel
theorem dL_law_822 : decode cL_law 822 = .ok (.iadd, 1) := by decide +kernel
theorem dL_law_823 : decode cL_law 823 = .ok (.iaload, 1) := by decide +kernel
theorem dL_law_824 : decode cL_law 824 = .ok (.aload_n 0, 1) := by decide +kernel
theorem dL_law_825 : decode cL_law 825 = .ok (.iload 4, 2) := by decide +kernel
theorem dL_law_827 : decode cL_law 827 = .ok (.iconst 2, 1) := by decide +kernel
theorem dL_law_828 : decode cL_law 828 = .ok (.iadd, 1) := by decide +kernel
theorem dL_law_829 : decode cL_law 829 = .ok (.iaload, 1) := by decide +kernel
theorem dL_law_830 : decode cL_law 830 = .ok (.aload_n 0, 1) := by decide +kernel
theorem dL_law_831 : decode cL_law 831 = .ok (.iload 4, 2) := by decide +kernel
theorem dL_law_833 : decode cL_law 833 = .ok (.iconst 3, 1) := by decide +kernel
theorem dL_law_834 : decode cL_law 834 = .ok (.iadd, 1) := by decide +kernel
theorem dL_law_835 : decode cL_law 835 = .ok (.iaload, 1) := by decide +kernel
theorem dL_law_836 : decode cL_law 836 = .ok (.invokevirtual 125, 3) := by decide +kernel
theorem dL_law_839 : decode cL_law 839 = .ok (.istore 6, 2) := by decide +kernel
theorem dL_law_841 : decode cL_law 841 = .ok (.aload_n 2, 1) := by decide +kernel
theorem dL_law_842 : decode cL_law 842 = .ok (.invokevirtual 92, 3) := by decide +kernel
theorem dL_law_845 : decode cL_law 845 = .ok (.iload 5, 2) := by decide +kernel
theorem dL_law_847 : decode cL_law 847 = .ok (.if_icmp .eq 5, 3) := by decide +kernel
theorem dL_law_850 : decode cL_law 850 = .ok (.iconst 0, 1) := by decide +kernel
theorem dL_law_851 : decode cL_law 851 = .ok (.ireturn, 1) := by decide +kernel
theorem dL_law_852 : decode cL_law 852 = .ok (.iload 5, 2) := by decide +kernel
theorem dL_law_854 : decode cL_law 854 = .ok (.ifCond .ne 15, 3) := by decide +kernel
theorem dL_law_857 : decode cL_law 857 = .ok (.aload_n 3, 1) := by decide +kernel
theorem dL_law_858 : decode cL_law 858 = .ok (.iconst 0, 1) := by decide +kernel
theorem dL_law_859 : decode cL_law 859 = .ok (.laload, 1) := by decide +kernel
theorem dL_law_860 : decode cL_law 860 = .ok (.iload 6, 2) := by decide +kernel
theorem dL_law_862 : decode cL_law 862 = .ok (.i2l, 1) := by decide +kernel
theorem dL_law_863 : decode cL_law 863 = .ok (.lcmp, 1) := by decide +kernel
theorem dL_law_864 : decode cL_law 864 = .ok (.ifCond .eq 5, 3) := by decide +kernel
theorem dL_law_867 : decode cL_law 867 = .ok (.iconst 0, 1) := by decide +kernel
theorem dL_law_868 : decode cL_law 868 = .ok (.ireturn, 1) := by decide +kernel
theorem dL_law_869 : decode cL_law 869 = .ok (.goto 842, 3) := by decide +kernel
theorem dL_law_872 : decode cL_law 872 = .ok (.aload_n 1, 1) := by decide +kernel
theorem dL_law_873 : decode cL_law 873 = .ok (.aload_n 0, 1) := by decide +kernel
theorem dL_law_874 : decode cL_law 874 = .ok (.iload 4, 2) := by decide +kernel
theorem dL_law_876 : decode cL_law 876 = .ok (.iconst 1, 1) := by decide +kernel
theorem dL_law_877 : decode cL_law 877 = .ok (.iadd, 1) := by decide +kernel
theorem dL_law_878 : decode cL_law 878 = .ok (.iaload, 1) := by decide +kernel
theorem dL_law_879 : decode cL_law 879 = .ok (.aload_n 0, 1) := by decide +kernel
theorem dL_law_880 : decode cL_law 880 = .ok (.iload 4, 2) := by decide +kernel
theorem dL_law_882 : decode cL_law 882 = .ok (.iconst 2, 1) := by decide +kernel
theorem dL_law_883 : decode cL_law 883 = .ok (.iadd, 1) := by decide +kernel
theorem dL_law_884 : decode cL_law 884 = .ok (.iaload, 1) := by decide +kernel
theorem dL_law_885 : decode cL_law 885 = .ok (.aload_n 0, 1) := by decide +kernel
theorem dL_law_886 : decode cL_law 886 = .ok (.iload 4, 2) := by decide +kernel
theorem dL_law_888 : decode cL_law 888 = .ok (.iconst 3, 1) := by decide +kernel
theorem dL_law_889 : decode cL_law 889 = .ok (.iadd, 1) := by decide +kernel
theorem dL_law_890 : decode cL_law 890 = .ok (.iaload, 1) := by decide +kernel
theorem dL_law_891 : decode cL_law 891 = .ok (.aload_n 0, 1) := by decide +kernel
theorem dL_law_892 : decode cL_law 892 = .ok (.iload 4, 2) := by decide +kernel
theorem dL_law_894 : decode cL_law 894 = .ok (.iconst 4, 1) := by decide +kernel
theorem dL_law_895 : decode cL_law 895 = .ok (.iadd, 1) := by decide +kernel
theorem dL_law_896 : decode cL_law 896 = .ok (.iaload, 1) := by decide +kernel
theorem dL_law_897 : decode cL_law 897 = .ok (.aload_n 3, 1) := by decide +kernel
theorem dL_law_898 : decode cL_law 898 = .ok (.invokestatic 126, 3) := by decide +kernel
theorem dL_law_901 : decode cL_law 901 = .ok (.istore 5, 2) := by decide +kernel
theorem dL_law_903 : decode cL_law 903 = .ok (.aload_n 2, 1) := by decide +kernel
theorem dL_law_904 : decode cL_law 904 = .ok (.aload_n 0, 1) := by decide +kernel
theorem dL_law_905 : decode cL_law 905 = .ok (.iload 4, 2) := by decide +kernel
theorem dL_law_907 : decode cL_law 907 = .ok (.iconst 1, 1) := by decide +kernel
theorem dL_law_908 : decode cL_law 908 = .ok (.iadd, 1) := by decide +kernel
theorem dL_law_909 : decode cL_law 909 = .ok (.iaload, 1) := by decide +kernel
theorem dL_law_910 : decode cL_law 910 = .ok (.aload_n 0, 1) := by decide +kernel
theorem dL_law_911 : decode cL_law 911 = .ok (.iload 4, 2) := by decide +kernel
theorem dL_law_913 : decode cL_law 913 = .ok (.iconst 2, 1) := by decide +kernel
theorem dL_law_914 : decode cL_law 914 = .ok (.iadd, 1) := by decide +kernel
theorem dL_law_915 : decode cL_law 915 = .ok (.iaload, 1) := by decide +kernel
theorem dL_law_916 : decode cL_law 916 = .ok (.aload_n 0, 1) := by decide +kernel
theorem dL_law_917 : decode cL_law 917 = .ok (.iload 4, 2) := by decide +kernel
theorem dL_law_919 : decode cL_law 919 = .ok (.iconst 3, 1) := by decide +kernel
theorem dL_law_920 : decode cL_law 920 = .ok (.iadd, 1) := by decide +kernel
theorem dL_law_921 : decode cL_law 921 = .ok (.iaload, 1) := by decide +kernel
theorem dL_law_922 : decode cL_law 922 = .ok (.aload_n 0, 1) := by decide +kernel
theorem dL_law_923 : decode cL_law 923 = .ok (.iload 4, 2) := by decide +kernel
theorem dL_law_925 : decode cL_law 925 = .ok (.iconst 4, 1) := by decide +kernel
theorem dL_law_926 : decode cL_law 926 = .ok (.iadd, 1) := by decide +kernel
theorem dL_law_927 : decode cL_law 927 = .ok (.iaload, 1) := by decide +kernel
theorem dL_law_928 : decode cL_law 928 = .ok (.invokevirtual 128, 3) := by decide +kernel
theorem dL_law_931 : decode cL_law 931 = .ok (.istore 6, 2) := by decide +kernel
theorem dL_law_933 : decode cL_law 933 = .ok (.aload_n 2, 1) := by decide +kernel
theorem dL_law_934 : decode cL_law 934 = .ok (.invokevirtual 92, 3) := by decide +kernel
theorem dL_law_937 : decode cL_law 937 = .ok (.iload 5, 2) := by decide +kernel
theorem dL_law_939 : decode cL_law 939 = .ok (.if_icmp .eq 5, 3) := by decide +kernel
theorem dL_law_942 : decode cL_law 942 = .ok (.iconst 0, 1) := by decide +kernel
theorem dL_law_943 : decode cL_law 943 = .ok (.ireturn, 1) := by decide +kernel
theorem dL_law_944 : decode cL_law 944 = .ok (.iload 5, 2) := by decide +kernel
theorem dL_law_946 : decode cL_law 946 = .ok (.ifCond .ne 15, 3) := by decide +kernel
theorem dL_law_949 : decode cL_law 949 = .ok (.aload_n 3, 1) := by decide +kernel
theorem dL_law_950 : decode cL_law 950 = .ok (.iconst 0, 1) := by decide +kernel
theorem dL_law_951 : decode cL_law 951 = .ok (.laload, 1) := by decide +kernel
theorem dL_law_952 : decode cL_law 952 = .ok (.iload 6, 2) := by decide +kernel
theorem dL_law_954 : decode cL_law 954 = .ok (.i2l, 1) := by decide +kernel
theorem dL_law_955 : decode cL_law 955 = .ok (.lcmp, 1) := by decide +kernel
theorem dL_law_956 : decode cL_law 956 = .ok (.ifCond .eq 5, 3) := by decide +kernel
theorem dL_law_959 : decode cL_law 959 = .ok (.iconst 0, 1) := by decide +kernel
theorem dL_law_960 : decode cL_law 960 = .ok (.ireturn, 1) := by decide +kernel
theorem dL_law_961 : decode cL_law 961 = .ok (.goto 750, 3) := by decide +kernel
theorem dL_law_964 : decode cL_law 964 = .ok (.aload_n 1, 1) := by decide +kernel
theorem dL_law_965 : decode cL_law 965 = .ok (.aload_n 0, 1) := by decide +kernel
theorem dL_law_966 : decode cL_law 966 = .ok (.iload 4, 2) := by decide +kernel
theorem dL_law_968 : decode cL_law 968 = .ok (.iconst 1, 1) := by decide +kernel
theorem dL_law_969 : decode cL_law 969 = .ok (.iadd, 1) := by decide +kernel
theorem dL_law_970 : decode cL_law 970 = .ok (.iaload, 1) := by decide +kernel
theorem dL_law_971 : decode cL_law 971 = .ok (.aload_n 0, 1) := by decide +kernel
theorem dL_law_972 : decode cL_law 972 = .ok (.iload 4, 2) := by decide +kernel
theorem dL_law_974 : decode cL_law 974 = .ok (.iconst 2, 1) := by decide +kernel
theorem dL_law_975 : decode cL_law 975 = .ok (.iadd, 1) := by decide +kernel
theorem dL_law_976 : decode cL_law 976 = .ok (.iaload, 1) := by decide +kernel
theorem dL_law_977 : decode cL_law 977 = .ok (.aload_n 3, 1) := by decide +kernel
theorem dL_law_978 : decode cL_law 978 = .ok (.invokestatic 129, 3) := by decide +kernel
theorem dL_law_981 : decode cL_law 981 = .ok (.istore 5, 2) := by decide +kernel
theorem dL_law_983 : decode cL_law 983 = .ok (.aload_n 2, 1) := by decide +kernel
theorem dL_law_984 : decode cL_law 984 = .ok (.aload_n 0, 1) := by decide +kernel
theorem dL_law_985 : decode cL_law 985 = .ok (.iload 4, 2) := by decide +kernel
theorem dL_law_987 : decode cL_law 987 = .ok (.iconst 1, 1) := by decide +kernel
theorem dL_law_988 : decode cL_law 988 = .ok (.iadd, 1) := by decide +kernel
theorem dL_law_989 : decode cL_law 989 = .ok (.iaload, 1) := by decide +kernel
theorem dL_law_990 : decode cL_law 990 = .ok (.aload_n 0, 1) := by decide +kernel
theorem dL_law_991 : decode cL_law 991 = .ok (.iload 4, 2) := by decide +kernel
theorem dL_law_993 : decode cL_law 993 = .ok (.iconst 2, 1) := by decide +kernel
theorem dL_law_994 : decode cL_law 994 = .ok (.iadd, 1) := by decide +kernel
theorem dL_law_995 : decode cL_law 995 = .ok (.iaload, 1) := by decide +kernel
theorem dL_law_996 : decode cL_law 996 = .ok (.invokevirtual 131, 3) := by decide +kernel
theorem dL_law_999 : decode cL_law 999 = .ok (.istore 6, 2) := by decide +kernel
theorem dL_law_1001 : decode cL_law 1001 = .ok (.aload_n 2, 1) := by decide +kernel
theorem dL_law_1002 : decode cL_law 1002 = .ok (.invokevirtual 92, 3) := by decide +kernel
theorem dL_law_1005 : decode cL_law 1005 = .ok (.iload 5, 2) := by decide +kernel
theorem dL_law_1007 : decode cL_law 1007 = .ok (.if_icmp .eq 5, 3) := by decide +kernel
theorem dL_law_1010 : decode cL_law 1010 = .ok (.iconst 0, 1) := by decide +kernel
theorem dL_law_1011 : decode cL_law 1011 = .ok (.ireturn, 1) := by decide +kernel
theorem dL_law_1012 : decode cL_law 1012 = .ok (.iload 5, 2) := by decide +kernel
theorem dL_law_1014 : decode cL_law 1014 = .ok (.ifCond .ne 15, 3) := by decide +kernel
theorem dL_law_1017 : decode cL_law 1017 = .ok (.aload_n 3, 1) := by decide +kernel
theorem dL_law_1018 : decode cL_law 1018 = .ok (.iconst 0, 1) := by decide +kernel
theorem dL_law_1019 : decode cL_law 1019 = .ok (.laload, 1) := by decide +kernel
theorem dL_law_1020 : decode cL_law 1020 = .ok (.iload 6, 2) := by decide +kernel
theorem dL_law_1022 : decode cL_law 1022 = .ok (.i2l, 1) := by decide +kernel
theorem dL_law_1023 : decode cL_law 1023 = .ok (.lcmp, 1) := by decide +kernel
theorem dL_law_1024 : decode cL_law 1024 = .ok (.ifCond .eq 5, 3) := by decide +kernel
theorem dL_law_1027 : decode cL_law 1027 = .ok (.iconst 0, 1) := by decide +kernel
theorem dL_law_1028 : decode cL_law 1028 = .ok (.ireturn, 1) := by decide +kernel
theorem dL_law_1029 : decode cL_law 1029 = .ok (.goto 682, 3) := by decide +kernel
theorem dL_law_1032 : decode cL_law 1032 = .ok (.aload_n 1, 1) := by decide +kernel
theorem dL_law_1033 : decode cL_law 1033 = .ok (.aload_n 0, 1) := by decide +kernel
theorem dL_law_1034 : decode cL_law 1034 = .ok (.iload 4, 2) := by decide +kernel
theorem dL_law_1036 : decode cL_law 1036 = .ok (.iconst 1, 1) := by decide +kernel
theorem dL_law_1037 : decode cL_law 1037 = .ok (.iadd, 1) := by decide +kernel
theorem dL_law_1038 : decode cL_law 1038 = .ok (.iaload, 1) := by decide +kernel
theorem dL_law_1039 : decode cL_law 1039 = .ok (.aload_n 0, 1) := by decide +kernel
theorem dL_law_1040 : decode cL_law 1040 = .ok (.iload 4, 2) := by decide +kernel
theorem dL_law_1042 : decode cL_law 1042 = .ok (.iconst 2, 1) := by decide +kernel
theorem dL_law_1043 : decode cL_law 1043 = .ok (.iadd, 1) := by decide +kernel
theorem dL_law_1044 : decode cL_law 1044 = .ok (.iaload, 1) := by decide +kernel
theorem dL_law_1045 : decode cL_law 1045 = .ok (.aload_n 3, 1) := by decide +kernel
theorem dL_law_1046 : decode cL_law 1046 = .ok (.invokestatic 132, 3) := by decide +kernel
theorem dL_law_1049 : decode cL_law 1049 = .ok (.istore 5, 2) := by decide +kernel
theorem dL_law_1051 : decode cL_law 1051 = .ok (.aload_n 2, 1) := by decide +kernel
theorem dL_law_1052 : decode cL_law 1052 = .ok (.aload_n 0, 1) := by decide +kernel
theorem dL_law_1053 : decode cL_law 1053 = .ok (.iload 4, 2) := by decide +kernel
theorem dL_law_1055 : decode cL_law 1055 = .ok (.iconst 1, 1) := by decide +kernel
theorem dL_law_1056 : decode cL_law 1056 = .ok (.iadd, 1) := by decide +kernel
theorem dL_law_1057 : decode cL_law 1057 = .ok (.iaload, 1) := by decide +kernel
theorem dL_law_1058 : decode cL_law 1058 = .ok (.aload_n 0, 1) := by decide +kernel
theorem dL_law_1059 : decode cL_law 1059 = .ok (.iload 4, 2) := by decide +kernel
theorem dL_law_1061 : decode cL_law 1061 = .ok (.iconst 2, 1) := by decide +kernel
theorem dL_law_1062 : decode cL_law 1062 = .ok (.iadd, 1) := by decide +kernel
theorem dL_law_1063 : decode cL_law 1063 = .ok (.iaload, 1) := by decide +kernel
theorem dL_law_1064 : decode cL_law 1064 = .ok (.invokevirtual 134, 3) := by decide +kernel
theorem dL_law_1067 : decode cL_law 1067 = .ok (.istore 6, 2) := by decide +kernel
theorem dL_law_1069 : decode cL_law 1069 = .ok (.aload_n 2, 1) := by decide +kernel
theorem dL_law_1070 : decode cL_law 1070 = .ok (.invokevirtual 92, 3) := by decide +kernel
theorem dL_law_1073 : decode cL_law 1073 = .ok (.iload 5, 2) := by decide +kernel
theorem dL_law_1075 : decode cL_law 1075 = .ok (.if_icmp .eq 5, 3) := by decide +kernel
theorem dL_law_1078 : decode cL_law 1078 = .ok (.iconst 0, 1) := by decide +kernel
theorem dL_law_1079 : decode cL_law 1079 = .ok (.ireturn, 1) := by decide +kernel
theorem dL_law_1080 : decode cL_law 1080 = .ok (.iload 5, 2) := by decide +kernel
theorem dL_law_1082 : decode cL_law 1082 = .ok (.ifCond .ne 15, 3) := by decide +kernel
theorem dL_law_1085 : decode cL_law 1085 = .ok (.aload_n 3, 1) := by decide +kernel
theorem dL_law_1086 : decode cL_law 1086 = .ok (.iconst 0, 1) := by decide +kernel
theorem dL_law_1087 : decode cL_law 1087 = .ok (.laload, 1) := by decide +kernel
theorem dL_law_1088 : decode cL_law 1088 = .ok (.iload 6, 2) := by decide +kernel
theorem dL_law_1090 : decode cL_law 1090 = .ok (.i2l, 1) := by decide +kernel
theorem dL_law_1091 : decode cL_law 1091 = .ok (.lcmp, 1) := by decide +kernel
theorem dL_law_1092 : decode cL_law 1092 = .ok (.ifCond .eq 5, 3) := by decide +kernel
theorem dL_law_1095 : decode cL_law 1095 = .ok (.iconst 0, 1) := by decide +kernel
theorem dL_law_1096 : decode cL_law 1096 = .ok (.ireturn, 1) := by decide +kernel
theorem dL_law_1097 : decode cL_law 1097 = .ok (.goto 614, 3) := by decide +kernel
theorem dL_law_1100 : decode cL_law 1100 = .ok (.aload_n 1, 1) := by decide +kernel
theorem dL_law_1101 : decode cL_law 1101 = .ok (.aload_n 0, 1) := by decide +kernel
theorem dL_law_1102 : decode cL_law 1102 = .ok (.iload 4, 2) := by decide +kernel
theorem dL_law_1104 : decode cL_law 1104 = .ok (.iconst 1, 1) := by decide +kernel
theorem dL_law_1105 : decode cL_law 1105 = .ok (.iadd, 1) := by decide +kernel
theorem dL_law_1106 : decode cL_law 1106 = .ok (.iaload, 1) := by decide +kernel
theorem dL_law_1107 : decode cL_law 1107 = .ok (.aload_n 0, 1) := by decide +kernel
theorem dL_law_1108 : decode cL_law 1108 = .ok (.iload 4, 2) := by decide +kernel
theorem dL_law_1110 : decode cL_law 1110 = .ok (.iconst 2, 1) := by decide +kernel
theorem dL_law_1111 : decode cL_law 1111 = .ok (.iadd, 1) := by decide +kernel
theorem dL_law_1112 : decode cL_law 1112 = .ok (.iaload, 1) := by decide +kernel
theorem dL_law_1113 : decode cL_law 1113 = .ok (.aload_n 3, 1) := by decide +kernel
theorem dL_law_1114 : decode cL_law 1114 = .ok (.invokestatic 135, 3) := by decide +kernel
theorem dL_law_1117 : decode cL_law 1117 = .ok (.istore 5, 2) := by decide +kernel
theorem dL_law_1119 : decode cL_law 1119 = .ok (.aload_n 2, 1) := by decide +kernel
theorem dL_law_1120 : decode cL_law 1120 = .ok (.aload_n 0, 1) := by decide +kernel
theorem dL_law_1121 : decode cL_law 1121 = .ok (.iload 4, 2) := by decide +kernel
theorem dL_law_1123 : decode cL_law 1123 = .ok (.iconst 1, 1) := by decide +kernel
theorem dL_law_1124 : decode cL_law 1124 = .ok (.iadd, 1) := by decide +kernel
theorem dL_law_1125 : decode cL_law 1125 = .ok (.iaload, 1) := by decide +kernel
theorem dL_law_1126 : decode cL_law 1126 = .ok (.aload_n 0, 1) := by decide +kernel
theorem dL_law_1127 : decode cL_law 1127 = .ok (.iload 4, 2) := by decide +kernel
theorem dL_law_1129 : decode cL_law 1129 = .ok (.iconst 2, 1) := by decide +kernel
theorem dL_law_1130 : decode cL_law 1130 = .ok (.iadd, 1) := by decide +kernel
theorem dL_law_1131 : decode cL_law 1131 = .ok (.iaload, 1) := by decide +kernel
theorem dL_law_1132 : decode cL_law 1132 = .ok (.invokevirtual 137, 3) := by decide +kernel
theorem dL_law_1135 : decode cL_law 1135 = .ok (.istore 6, 2) := by decide +kernel
theorem dL_law_1137 : decode cL_law 1137 = .ok (.aload_n 2, 1) := by decide +kernel
theorem dL_law_1138 : decode cL_law 1138 = .ok (.invokevirtual 92, 3) := by decide +kernel
theorem dL_law_1141 : decode cL_law 1141 = .ok (.iload 5, 2) := by decide +kernel
theorem dL_law_1143 : decode cL_law 1143 = .ok (.if_icmp .eq 5, 3) := by decide +kernel
theorem dL_law_1146 : decode cL_law 1146 = .ok (.iconst 0, 1) := by decide +kernel
theorem dL_law_1147 : decode cL_law 1147 = .ok (.ireturn, 1) := by decide +kernel
theorem dL_law_1148 : decode cL_law 1148 = .ok (.iload 5, 2) := by decide +kernel
theorem dL_law_1150 : decode cL_law 1150 = .ok (.ifCond .ne 15, 3) := by decide +kernel
theorem dL_law_1153 : decode cL_law 1153 = .ok (.aload_n 3, 1) := by decide +kernel
theorem dL_law_1154 : decode cL_law 1154 = .ok (.iconst 0, 1) := by decide +kernel
theorem dL_law_1155 : decode cL_law 1155 = .ok (.laload, 1) := by decide +kernel
theorem dL_law_1156 : decode cL_law 1156 = .ok (.iload 6, 2) := by decide +kernel
theorem dL_law_1158 : decode cL_law 1158 = .ok (.i2l, 1) := by decide +kernel
theorem dL_law_1159 : decode cL_law 1159 = .ok (.lcmp, 1) := by decide +kernel
theorem dL_law_1160 : decode cL_law 1160 = .ok (.ifCond .eq 5, 3) := by decide +kernel
theorem dL_law_1163 : decode cL_law 1163 = .ok (.iconst 0, 1) := by decide +kernel
theorem dL_law_1164 : decode cL_law 1164 = .ok (.ireturn, 1) := by decide +kernel
theorem dL_law_1165 : decode cL_law 1165 = .ok (.goto 546, 3) := by decide +kernel
theorem dL_law_1168 : decode cL_law 1168 = .ok (.aload_n 1, 1) := by decide +kernel
theorem dL_law_1169 : decode cL_law 1169 = .ok (.aload_n 0, 1) := by decide +kernel
theorem dL_law_1170 : decode cL_law 1170 = .ok (.iload 4, 2) := by decide +kernel
theorem dL_law_1172 : decode cL_law 1172 = .ok (.iconst 1, 1) := by decide +kernel
theorem dL_law_1173 : decode cL_law 1173 = .ok (.iadd, 1) := by decide +kernel
theorem dL_law_1174 : decode cL_law 1174 = .ok (.iaload, 1) := by decide +kernel
theorem dL_law_1175 : decode cL_law 1175 = .ok (.aload_n 0, 1) := by decide +kernel
theorem dL_law_1176 : decode cL_law 1176 = .ok (.iload 4, 2) := by decide +kernel
theorem dL_law_1178 : decode cL_law 1178 = .ok (.iconst 2, 1) := by decide +kernel
theorem dL_law_1179 : decode cL_law 1179 = .ok (.iadd, 1) := by decide +kernel
theorem dL_law_1180 : decode cL_law 1180 = .ok (.iaload, 1) := by decide +kernel
theorem dL_law_1181 : decode cL_law 1181 = .ok (.aload_n 3, 1) := by decide +kernel
theorem dL_law_1182 : decode cL_law 1182 = .ok (.invokestatic 138, 3) := by decide +kernel
theorem dL_law_1185 : decode cL_law 1185 = .ok (.istore 5, 2) := by decide +kernel
theorem dL_law_1187 : decode cL_law 1187 = .ok (.aload_n 2, 1) := by decide +kernel
theorem dL_law_1188 : decode cL_law 1188 = .ok (.aload_n 0, 1) := by decide +kernel
theorem dL_law_1189 : decode cL_law 1189 = .ok (.iload 4, 2) := by decide +kernel
theorem dL_law_1191 : decode cL_law 1191 = .ok (.iconst 1, 1) := by decide +kernel
theorem dL_law_1192 : decode cL_law 1192 = .ok (.iadd, 1) := by decide +kernel
theorem dL_law_1193 : decode cL_law 1193 = .ok (.iaload, 1) := by decide +kernel
theorem dL_law_1194 : decode cL_law 1194 = .ok (.aload_n 0, 1) := by decide +kernel
theorem dL_law_1195 : decode cL_law 1195 = .ok (.iload 4, 2) := by decide +kernel
theorem dL_law_1197 : decode cL_law 1197 = .ok (.iconst 2, 1) := by decide +kernel
theorem dL_law_1198 : decode cL_law 1198 = .ok (.iadd, 1) := by decide +kernel
theorem dL_law_1199 : decode cL_law 1199 = .ok (.iaload, 1) := by decide +kernel
theorem dL_law_1200 : decode cL_law 1200 = .ok (.invokevirtual 140, 3) := by decide +kernel
theorem dL_law_1203 : decode cL_law 1203 = .ok (.istore 6, 2) := by decide +kernel
theorem dL_law_1205 : decode cL_law 1205 = .ok (.aload_n 2, 1) := by decide +kernel
theorem dL_law_1206 : decode cL_law 1206 = .ok (.invokevirtual 92, 3) := by decide +kernel
theorem dL_law_1209 : decode cL_law 1209 = .ok (.iload 5, 2) := by decide +kernel
theorem dL_law_1211 : decode cL_law 1211 = .ok (.if_icmp .eq 5, 3) := by decide +kernel
theorem dL_law_1214 : decode cL_law 1214 = .ok (.iconst 0, 1) := by decide +kernel
theorem dL_law_1215 : decode cL_law 1215 = .ok (.ireturn, 1) := by decide +kernel
theorem dL_law_1216 : decode cL_law 1216 = .ok (.iload 5, 2) := by decide +kernel
theorem dL_law_1218 : decode cL_law 1218 = .ok (.ifCond .ne 15, 3) := by decide +kernel
theorem dL_law_1221 : decode cL_law 1221 = .ok (.aload_n 3, 1) := by decide +kernel
theorem dL_law_1222 : decode cL_law 1222 = .ok (.iconst 0, 1) := by decide +kernel
theorem dL_law_1223 : decode cL_law 1223 = .ok (.laload, 1) := by decide +kernel
theorem dL_law_1224 : decode cL_law 1224 = .ok (.iload 6, 2) := by decide +kernel
theorem dL_law_1226 : decode cL_law 1226 = .ok (.i2l, 1) := by decide +kernel
theorem dL_law_1227 : decode cL_law 1227 = .ok (.lcmp, 1) := by decide +kernel
theorem dL_law_1228 : decode cL_law 1228 = .ok (.ifCond .eq 5, 3) := by decide +kernel
theorem dL_law_1231 : decode cL_law 1231 = .ok (.iconst 0, 1) := by decide +kernel
theorem dL_law_1232 : decode cL_law 1232 = .ok (.ireturn, 1) := by decide +kernel
theorem dL_law_1233 : decode cL_law 1233 = .ok (.goto 478, 3) := by decide +kernel
theorem dL_law_1236 : decode cL_law 1236 = .ok (.aload_n 1, 1) := by decide +kernel
theorem dL_law_1237 : decode cL_law 1237 = .ok (.aload_n 0, 1) := by decide +kernel
theorem dL_law_1238 : decode cL_law 1238 = .ok (.iload 4, 2) := by decide +kernel
theorem dL_law_1240 : decode cL_law 1240 = .ok (.iconst 1, 1) := by decide +kernel
theorem dL_law_1241 : decode cL_law 1241 = .ok (.iadd, 1) := by decide +kernel
theorem dL_law_1242 : decode cL_law 1242 = .ok (.iaload, 1) := by decide +kernel
theorem dL_law_1243 : decode cL_law 1243 = .ok (.aload_n 0, 1) := by decide +kernel
theorem dL_law_1244 : decode cL_law 1244 = .ok (.iload 4, 2) := by decide +kernel
theorem dL_law_1246 : decode cL_law 1246 = .ok (.iconst 2, 1) := by decide +kernel
theorem dL_law_1247 : decode cL_law 1247 = .ok (.iadd, 1) := by decide +kernel
theorem dL_law_1248 : decode cL_law 1248 = .ok (.iaload, 1) := by decide +kernel
theorem dL_law_1249 : decode cL_law 1249 = .ok (.aload_n 3, 1) := by decide +kernel
theorem dL_law_1250 : decode cL_law 1250 = .ok (.invokestatic 141, 3) := by decide +kernel
theorem dL_law_1253 : decode cL_law 1253 = .ok (.istore 5, 2) := by decide +kernel
theorem dL_law_1255 : decode cL_law 1255 = .ok (.aload_n 2, 1) := by decide +kernel
theorem dL_law_1256 : decode cL_law 1256 = .ok (.aload_n 0, 1) := by decide +kernel
theorem dL_law_1257 : decode cL_law 1257 = .ok (.iload 4, 2) := by decide +kernel
theorem dL_law_1259 : decode cL_law 1259 = .ok (.iconst 1, 1) := by decide +kernel
theorem dL_law_1260 : decode cL_law 1260 = .ok (.iadd, 1) := by decide +kernel
theorem dL_law_1261 : decode cL_law 1261 = .ok (.iaload, 1) := by decide +kernel
theorem dL_law_1262 : decode cL_law 1262 = .ok (.aload_n 0, 1) := by decide +kernel
theorem dL_law_1263 : decode cL_law 1263 = .ok (.iload 4, 2) := by decide +kernel
theorem dL_law_1265 : decode cL_law 1265 = .ok (.iconst 2, 1) := by decide +kernel
theorem dL_law_1266 : decode cL_law 1266 = .ok (.iadd, 1) := by decide +kernel
theorem dL_law_1267 : decode cL_law 1267 = .ok (.iaload, 1) := by decide +kernel
theorem dL_law_1268 : decode cL_law 1268 = .ok (.invokevirtual 143, 3) := by decide +kernel
theorem dL_law_1271 : decode cL_law 1271 = .ok (.istore 6, 2) := by decide +kernel
theorem dL_law_1273 : decode cL_law 1273 = .ok (.aload_n 2, 1) := by decide +kernel
theorem dL_law_1274 : decode cL_law 1274 = .ok (.invokevirtual 92, 3) := by decide +kernel
theorem dL_law_1277 : decode cL_law 1277 = .ok (.iload 5, 2) := by decide +kernel
theorem dL_law_1279 : decode cL_law 1279 = .ok (.if_icmp .eq 5, 3) := by decide +kernel
theorem dL_law_1282 : decode cL_law 1282 = .ok (.iconst 0, 1) := by decide +kernel
theorem dL_law_1283 : decode cL_law 1283 = .ok (.ireturn, 1) := by decide +kernel
theorem dL_law_1284 : decode cL_law 1284 = .ok (.iload 5, 2) := by decide +kernel
theorem dL_law_1286 : decode cL_law 1286 = .ok (.ifCond .ne 15, 3) := by decide +kernel
theorem dL_law_1289 : decode cL_law 1289 = .ok (.aload_n 3, 1) := by decide +kernel
theorem dL_law_1290 : decode cL_law 1290 = .ok (.iconst 0, 1) := by decide +kernel
theorem dL_law_1291 : decode cL_law 1291 = .ok (.laload, 1) := by decide +kernel
theorem dL_law_1292 : decode cL_law 1292 = .ok (.iload 6, 2) := by decide +kernel
theorem dL_law_1294 : decode cL_law 1294 = .ok (.i2l, 1) := by decide +kernel
theorem dL_law_1295 : decode cL_law 1295 = .ok (.lcmp, 1) := by decide +kernel
theorem dL_law_1296 : decode cL_law 1296 = .ok (.ifCond .eq 5, 3) := by decide +kernel
theorem dL_law_1299 : decode cL_law 1299 = .ok (.iconst 0, 1) := by decide +kernel
theorem dL_law_1300 : decode cL_law 1300 = .ok (.ireturn, 1) := by decide +kernel
theorem dL_law_1301 : decode cL_law 1301 = .ok (.goto 410, 3) := by decide +kernel
theorem dL_law_1304 : decode cL_law 1304 = .ok (.aload_n 1, 1) := by decide +kernel
theorem dL_law_1305 : decode cL_law 1305 = .ok (.aload_n 0, 1) := by decide +kernel
theorem dL_law_1306 : decode cL_law 1306 = .ok (.iload 4, 2) := by decide +kernel
theorem dL_law_1308 : decode cL_law 1308 = .ok (.iconst 1, 1) := by decide +kernel
theorem dL_law_1309 : decode cL_law 1309 = .ok (.iadd, 1) := by decide +kernel
theorem dL_law_1310 : decode cL_law 1310 = .ok (.iaload, 1) := by decide +kernel
theorem dL_law_1311 : decode cL_law 1311 = .ok (.aload_n 3, 1) := by decide +kernel
theorem dL_law_1312 : decode cL_law 1312 = .ok (.invokestatic 144, 3) := by decide +kernel
theorem dL_law_1315 : decode cL_law 1315 = .ok (.istore 5, 2) := by decide +kernel
theorem dL_law_1317 : decode cL_law 1317 = .ok (.aload_n 2, 1) := by decide +kernel
theorem dL_law_1318 : decode cL_law 1318 = .ok (.aload_n 0, 1) := by decide +kernel
theorem dL_law_1319 : decode cL_law 1319 = .ok (.iload 4, 2) := by decide +kernel
theorem dL_law_1321 : decode cL_law 1321 = .ok (.iconst 1, 1) := by decide +kernel
theorem dL_law_1322 : decode cL_law 1322 = .ok (.iadd, 1) := by decide +kernel
theorem dL_law_1323 : decode cL_law 1323 = .ok (.iaload, 1) := by decide +kernel
theorem dL_law_1324 : decode cL_law 1324 = .ok (.invokevirtual 146, 3) := by decide +kernel
theorem dL_law_1327 : decode cL_law 1327 = .ok (.istore 6, 2) := by decide +kernel
theorem dL_law_1329 : decode cL_law 1329 = .ok (.aload_n 2, 1) := by decide +kernel
theorem dL_law_1330 : decode cL_law 1330 = .ok (.invokevirtual 92, 3) := by decide +kernel
theorem dL_law_1333 : decode cL_law 1333 = .ok (.iload 5, 2) := by decide +kernel
theorem dL_law_1335 : decode cL_law 1335 = .ok (.if_icmp .eq 5, 3) := by decide +kernel
theorem dL_law_1338 : decode cL_law 1338 = .ok (.iconst 0, 1) := by decide +kernel
theorem dL_law_1339 : decode cL_law 1339 = .ok (.ireturn, 1) := by decide +kernel
theorem dL_law_1340 : decode cL_law 1340 = .ok (.iload 5, 2) := by decide +kernel
theorem dL_law_1342 : decode cL_law 1342 = .ok (.ifCond .ne 15, 3) := by decide +kernel
theorem dL_law_1345 : decode cL_law 1345 = .ok (.aload_n 3, 1) := by decide +kernel
theorem dL_law_1346 : decode cL_law 1346 = .ok (.iconst 0, 1) := by decide +kernel
theorem dL_law_1347 : decode cL_law 1347 = .ok (.laload, 1) := by decide +kernel
theorem dL_law_1348 : decode cL_law 1348 = .ok (.iload 6, 2) := by decide +kernel
theorem dL_law_1350 : decode cL_law 1350 = .ok (.i2l, 1) := by decide +kernel
theorem dL_law_1351 : decode cL_law 1351 = .ok (.lcmp, 1) := by decide +kernel
theorem dL_law_1352 : decode cL_law 1352 = .ok (.ifCond .eq 5, 3) := by decide +kernel
theorem dL_law_1355 : decode cL_law 1355 = .ok (.iconst 0, 1) := by decide +kernel
theorem dL_law_1356 : decode cL_law 1356 = .ok (.ireturn, 1) := by decide +kernel
theorem dL_law_1357 : decode cL_law 1357 = .ok (.goto 354, 3) := by decide +kernel
theorem dL_law_1360 : decode cL_law 1360 = .ok (.aload_n 1, 1) := by decide +kernel
theorem dL_law_1361 : decode cL_law 1361 = .ok (.invokevirtual 147, 3) := by decide +kernel
theorem dL_law_1364 : decode cL_law 1364 = .ok (.dstore 5, 2) := by decide +kernel
theorem dL_law_1366 : decode cL_law 1366 = .ok (.aload_n 2, 1) := by decide +kernel
theorem dL_law_1367 : decode cL_law 1367 = .ok (.invokevirtual 151, 3) := by decide +kernel
theorem dL_law_1370 : decode cL_law 1370 = .ok (.dstore 7, 2) := by decide +kernel
theorem dL_law_1372 : decode cL_law 1372 = .ok (.dload 5, 2) := by decide +kernel
theorem dL_law_1374 : decode cL_law 1374 = .ok (.dload 7, 2) := by decide +kernel
theorem dL_law_1376 : decode cL_law 1376 = .ok (.dcmp .l, 1) := by decide +kernel
theorem dL_law_1377 : decode cL_law 1377 = .ok (.ifCond .eq 21, 3) := by decide +kernel
theorem dL_law_1380 : decode cL_law 1380 = .ok (.dload 5, 2) := by decide +kernel
theorem dL_law_1382 : decode cL_law 1382 = .ok (.dload 5, 2) := by decide +kernel
theorem dL_law_1384 : decode cL_law 1384 = .ok (.dcmp .l, 1) := by decide +kernel
theorem dL_law_1385 : decode cL_law 1385 = .ok (.ifCond .eq 11, 3) := by decide +kernel
theorem dL_law_1388 : decode cL_law 1388 = .ok (.dload 7, 2) := by decide +kernel
theorem dL_law_1390 : decode cL_law 1390 = .ok (.dload 7, 2) := by decide +kernel
theorem dL_law_1392 : decode cL_law 1392 = .ok (.dcmp .l, 1) := by decide +kernel
theorem dL_law_1393 : decode cL_law 1393 = .ok (.ifCond .ne 5, 3) := by decide +kernel
theorem dL_law_1396 : decode cL_law 1396 = .ok (.iconst 0, 1) := by decide +kernel
theorem dL_law_1397 : decode cL_law 1397 = .ok (.ireturn, 1) := by decide +kernel
theorem dL_law_1398 : decode cL_law 1398 = .ok (.goto 313, 3) := by decide +kernel
theorem dL_law_1401 : decode cL_law 1401 = .ok (.aload_n 1, 1) := by decide +kernel
theorem dL_law_1402 : decode cL_law 1402 = .ok (.aload_n 0, 1) := by decide +kernel
theorem dL_law_1403 : decode cL_law 1403 = .ok (.iload 4, 2) := by decide +kernel
theorem dL_law_1405 : decode cL_law 1405 = .ok (.iconst 1, 1) := by decide +kernel
theorem dL_law_1406 : decode cL_law 1406 = .ok (.iadd, 1) := by decide +kernel
theorem dL_law_1407 : decode cL_law 1407 = .ok (.iaload, 1) := by decide +kernel
theorem dL_law_1408 : decode cL_law 1408 = .ok (.aload_n 0, 1) := by decide +kernel
theorem dL_law_1409 : decode cL_law 1409 = .ok (.iload 4, 2) := by decide +kernel
theorem dL_law_1411 : decode cL_law 1411 = .ok (.iconst 2, 1) := by decide +kernel
theorem dL_law_1412 : decode cL_law 1412 = .ok (.iadd, 1) := by decide +kernel
theorem dL_law_1413 : decode cL_law 1413 = .ok (.iaload, 1) := by decide +kernel
theorem dL_law_1414 : decode cL_law 1414 = .ok (.aload_n 0, 1) := by decide +kernel
theorem dL_law_1415 : decode cL_law 1415 = .ok (.iload 4, 2) := by decide +kernel
theorem dL_law_1417 : decode cL_law 1417 = .ok (.iconst 3, 1) := by decide +kernel
theorem dL_law_1418 : decode cL_law 1418 = .ok (.iadd, 1) := by decide +kernel
theorem dL_law_1419 : decode cL_law 1419 = .ok (.iaload, 1) := by decide +kernel
theorem dL_law_1420 : decode cL_law 1420 = .ok (.aload_n 3, 1) := by decide +kernel
theorem dL_law_1421 : decode cL_law 1421 = .ok (.invokestatic 152, 3) := by decide +kernel
theorem dL_law_1424 : decode cL_law 1424 = .ok (.istore 5, 2) := by decide +kernel
theorem dL_law_1426 : decode cL_law 1426 = .ok (.aload_n 2, 1) := by decide +kernel
theorem dL_law_1427 : decode cL_law 1427 = .ok (.aload_n 0, 1) := by decide +kernel
theorem dL_law_1428 : decode cL_law 1428 = .ok (.iload 4, 2) := by decide +kernel
theorem dL_law_1430 : decode cL_law 1430 = .ok (.iconst 1, 1) := by decide +kernel
theorem dL_law_1431 : decode cL_law 1431 = .ok (.iadd, 1) := by decide +kernel
theorem dL_law_1432 : decode cL_law 1432 = .ok (.iaload, 1) := by decide +kernel
theorem dL_law_1433 : decode cL_law 1433 = .ok (.aload_n 0, 1) := by decide +kernel
theorem dL_law_1434 : decode cL_law 1434 = .ok (.iload 4, 2) := by decide +kernel
theorem dL_law_1436 : decode cL_law 1436 = .ok (.iconst 2, 1) := by decide +kernel
theorem dL_law_1437 : decode cL_law 1437 = .ok (.iadd, 1) := by decide +kernel
theorem dL_law_1438 : decode cL_law 1438 = .ok (.iaload, 1) := by decide +kernel
theorem dL_law_1439 : decode cL_law 1439 = .ok (.aload_n 0, 1) := by decide +kernel
theorem dL_law_1440 : decode cL_law 1440 = .ok (.iload 4, 2) := by decide +kernel
theorem dL_law_1442 : decode cL_law 1442 = .ok (.iconst 3, 1) := by decide +kernel
theorem dL_law_1443 : decode cL_law 1443 = .ok (.iadd, 1) := by decide +kernel
theorem dL_law_1444 : decode cL_law 1444 = .ok (.iaload, 1) := by decide +kernel
theorem dL_law_1445 : decode cL_law 1445 = .ok (.invokevirtual 154, 3) := by decide +kernel
theorem dL_law_1448 : decode cL_law 1448 = .ok (.istore 6, 2) := by decide +kernel
theorem dL_law_1450 : decode cL_law 1450 = .ok (.aload_n 2, 1) := by decide +kernel
theorem dL_law_1451 : decode cL_law 1451 = .ok (.invokevirtual 92, 3) := by decide +kernel
theorem dL_law_1454 : decode cL_law 1454 = .ok (.iload 5, 2) := by decide +kernel
theorem dL_law_1456 : decode cL_law 1456 = .ok (.if_icmp .eq 5, 3) := by decide +kernel
theorem dL_law_1459 : decode cL_law 1459 = .ok (.iconst 0, 1) := by decide +kernel
theorem dL_law_1460 : decode cL_law 1460 = .ok (.ireturn, 1) := by decide +kernel
theorem dL_law_1461 : decode cL_law 1461 = .ok (.iload 5, 2) := by decide +kernel
theorem dL_law_1463 : decode cL_law 1463 = .ok (.ifCond .ne 15, 3) := by decide +kernel
theorem dL_law_1466 : decode cL_law 1466 = .ok (.aload_n 3, 1) := by decide +kernel
theorem dL_law_1467 : decode cL_law 1467 = .ok (.iconst 0, 1) := by decide +kernel
theorem dL_law_1468 : decode cL_law 1468 = .ok (.laload, 1) := by decide +kernel
theorem dL_law_1469 : decode cL_law 1469 = .ok (.iload 6, 2) := by decide +kernel
theorem dL_law_1471 : decode cL_law 1471 = .ok (.i2l, 1) := by decide +kernel
theorem dL_law_1472 : decode cL_law 1472 = .ok (.lcmp, 1) := by decide +kernel
theorem dL_law_1473 : decode cL_law 1473 = .ok (.ifCond .eq 5, 3) := by decide +kernel
theorem dL_law_1476 : decode cL_law 1476 = .ok (.iconst 0, 1) := by decide +kernel
theorem dL_law_1477 : decode cL_law 1477 = .ok (.ireturn, 1) := by decide +kernel
theorem dL_law_1478 : decode cL_law 1478 = .ok (.goto 233, 3) := by decide +kernel
theorem dL_law_1481 : decode cL_law 1481 = .ok (.aload_n 1, 1) := by decide +kernel
theorem dL_law_1482 : decode cL_law 1482 = .ok (.aload_n 0, 1) := by decide +kernel
theorem dL_law_1483 : decode cL_law 1483 = .ok (.iload 4, 2) := by decide +kernel
theorem dL_law_1485 : decode cL_law 1485 = .ok (.iconst 1, 1) := by decide +kernel
theorem dL_law_1486 : decode cL_law 1486 = .ok (.iadd, 1) := by decide +kernel
theorem dL_law_1487 : decode cL_law 1487 = .ok (.iaload, 1) := by decide +kernel
theorem dL_law_1488 : decode cL_law 1488 = .ok (.aload_n 0, 1) := by decide +kernel
theorem dL_law_1489 : decode cL_law 1489 = .ok (.iload 4, 2) := by decide +kernel
theorem dL_law_1491 : decode cL_law 1491 = .ok (.iconst 2, 1) := by decide +kernel
theorem dL_law_1492 : decode cL_law 1492 = .ok (.iadd, 1) := by decide +kernel
theorem dL_law_1493 : decode cL_law 1493 = .ok (.iaload, 1) := by decide +kernel
theorem dL_law_1494 : decode cL_law 1494 = .ok (.aload_n 3, 1) := by decide +kernel
theorem dL_law_1495 : decode cL_law 1495 = .ok (.invokestatic 155, 3) := by decide +kernel
theorem dL_law_1498 : decode cL_law 1498 = .ok (.istore 5, 2) := by decide +kernel
theorem dL_law_1500 : decode cL_law 1500 = .ok (.aload_n 2, 1) := by decide +kernel
theorem dL_law_1501 : decode cL_law 1501 = .ok (.aload_n 0, 1) := by decide +kernel
theorem dL_law_1502 : decode cL_law 1502 = .ok (.iload 4, 2) := by decide +kernel
theorem dL_law_1504 : decode cL_law 1504 = .ok (.iconst 1, 1) := by decide +kernel
theorem dL_law_1505 : decode cL_law 1505 = .ok (.iadd, 1) := by decide +kernel
theorem dL_law_1506 : decode cL_law 1506 = .ok (.iaload, 1) := by decide +kernel
theorem dL_law_1507 : decode cL_law 1507 = .ok (.aload_n 0, 1) := by decide +kernel
theorem dL_law_1508 : decode cL_law 1508 = .ok (.iload 4, 2) := by decide +kernel
theorem dL_law_1510 : decode cL_law 1510 = .ok (.iconst 2, 1) := by decide +kernel
theorem dL_law_1511 : decode cL_law 1511 = .ok (.iadd, 1) := by decide +kernel
theorem dL_law_1512 : decode cL_law 1512 = .ok (.iaload, 1) := by decide +kernel
theorem dL_law_1513 : decode cL_law 1513 = .ok (.invokevirtual 157, 3) := by decide +kernel
theorem dL_law_1516 : decode cL_law 1516 = .ok (.istore 6, 2) := by decide +kernel
theorem dL_law_1518 : decode cL_law 1518 = .ok (.aload_n 2, 1) := by decide +kernel
theorem dL_law_1519 : decode cL_law 1519 = .ok (.invokevirtual 92, 3) := by decide +kernel
theorem dL_law_1522 : decode cL_law 1522 = .ok (.iload 5, 2) := by decide +kernel
theorem dL_law_1524 : decode cL_law 1524 = .ok (.if_icmp .eq 5, 3) := by decide +kernel
theorem dL_law_1527 : decode cL_law 1527 = .ok (.iconst 0, 1) := by decide +kernel
theorem dL_law_1528 : decode cL_law 1528 = .ok (.ireturn, 1) := by decide +kernel
theorem dL_law_1529 : decode cL_law 1529 = .ok (.iload 5, 2) := by decide +kernel
theorem dL_law_1531 : decode cL_law 1531 = .ok (.ifCond .ne 15, 3) := by decide +kernel
theorem dL_law_1534 : decode cL_law 1534 = .ok (.aload_n 3, 1) := by decide +kernel
theorem dL_law_1535 : decode cL_law 1535 = .ok (.iconst 0, 1) := by decide +kernel
theorem dL_law_1536 : decode cL_law 1536 = .ok (.laload, 1) := by decide +kernel
theorem dL_law_1537 : decode cL_law 1537 = .ok (.iload 6, 2) := by decide +kernel
theorem dL_law_1539 : decode cL_law 1539 = .ok (.i2l, 1) := by decide +kernel
theorem dL_law_1540 : decode cL_law 1540 = .ok (.lcmp, 1) := by decide +kernel
theorem dL_law_1541 : decode cL_law 1541 = .ok (.ifCond .eq 5, 3) := by decide +kernel
theorem dL_law_1544 : decode cL_law 1544 = .ok (.iconst 0, 1) := by decide +kernel
theorem dL_law_1545 : decode cL_law 1545 = .ok (.ireturn, 1) := by decide +kernel
theorem dL_law_1546 : decode cL_law 1546 = .ok (.goto 165, 3) := by decide +kernel
theorem dL_law_1549 : decode cL_law 1549 = .ok (.aload_n 1, 1) := by decide +kernel
theorem dL_law_1550 : decode cL_law 1550 = .ok (.aload_n 0, 1) := by decide +kernel
theorem dL_law_1551 : decode cL_law 1551 = .ok (.iload 4, 2) := by decide +kernel
theorem dL_law_1553 : decode cL_law 1553 = .ok (.iconst 1, 1) := by decide +kernel
theorem dL_law_1554 : decode cL_law 1554 = .ok (.iadd, 1) := by decide +kernel
theorem dL_law_1555 : decode cL_law 1555 = .ok (.iaload, 1) := by decide +kernel
theorem dL_law_1556 : decode cL_law 1556 = .ok (.aload_n 0, 1) := by decide +kernel
theorem dL_law_1557 : decode cL_law 1557 = .ok (.iload 4, 2) := by decide +kernel
theorem dL_law_1559 : decode cL_law 1559 = .ok (.iconst 2, 1) := by decide +kernel
theorem dL_law_1560 : decode cL_law 1560 = .ok (.iadd, 1) := by decide +kernel
theorem dL_law_1561 : decode cL_law 1561 = .ok (.iaload, 1) := by decide +kernel
theorem dL_law_1562 : decode cL_law 1562 = .ok (.aload_n 0, 1) := by decide +kernel
theorem dL_law_1563 : decode cL_law 1563 = .ok (.iload 4, 2) := by decide +kernel
theorem dL_law_1565 : decode cL_law 1565 = .ok (.iconst 3, 1) := by decide +kernel
theorem dL_law_1566 : decode cL_law 1566 = .ok (.iadd, 1) := by decide +kernel
theorem dL_law_1567 : decode cL_law 1567 = .ok (.iaload, 1) := by decide +kernel
theorem dL_law_1568 : decode cL_law 1568 = .ok (.aload_n 3, 1) := by decide +kernel
theorem dL_law_1569 : decode cL_law 1569 = .ok (.invokestatic 158, 3) := by decide +kernel
theorem dL_law_1572 : decode cL_law 1572 = .ok (.istore 5, 2) := by decide +kernel
theorem dL_law_1574 : decode cL_law 1574 = .ok (.aload_n 2, 1) := by decide +kernel
theorem dL_law_1575 : decode cL_law 1575 = .ok (.aload_n 0, 1) := by decide +kernel
theorem dL_law_1576 : decode cL_law 1576 = .ok (.iload 4, 2) := by decide +kernel
theorem dL_law_1578 : decode cL_law 1578 = .ok (.iconst 1, 1) := by decide +kernel
theorem dL_law_1579 : decode cL_law 1579 = .ok (.iadd, 1) := by decide +kernel
theorem dL_law_1580 : decode cL_law 1580 = .ok (.iaload, 1) := by decide +kernel
theorem dL_law_1581 : decode cL_law 1581 = .ok (.aload_n 0, 1) := by decide +kernel
theorem dL_law_1582 : decode cL_law 1582 = .ok (.iload 4, 2) := by decide +kernel
theorem dL_law_1584 : decode cL_law 1584 = .ok (.iconst 2, 1) := by decide +kernel
theorem dL_law_1585 : decode cL_law 1585 = .ok (.iadd, 1) := by decide +kernel
theorem dL_law_1586 : decode cL_law 1586 = .ok (.iaload, 1) := by decide +kernel
theorem dL_law_1587 : decode cL_law 1587 = .ok (.aload_n 0, 1) := by decide +kernel
theorem dL_law_1588 : decode cL_law 1588 = .ok (.iload 4, 2) := by decide +kernel
theorem dL_law_1590 : decode cL_law 1590 = .ok (.iconst 3, 1) := by decide +kernel
theorem dL_law_1591 : decode cL_law 1591 = .ok (.iadd, 1) := by decide +kernel
theorem dL_law_1592 : decode cL_law 1592 = .ok (.iaload, 1) := by decide +kernel
theorem dL_law_1593 : decode cL_law 1593 = .ok (.invokevirtual 160, 3) := by decide +kernel
theorem dL_law_1596 : decode cL_law 1596 = .ok (.istore 6, 2) := by decide +kernel
theorem dL_law_1598 : decode cL_law 1598 = .ok (.aload_n 2, 1) := by decide +kernel
theorem dL_law_1599 : decode cL_law 1599 = .ok (.invokevirtual 92, 3) := by decide +kernel
theorem dL_law_1602 : decode cL_law 1602 = .ok (.iload 5, 2) := by decide +kernel
theorem dL_law_1604 : decode cL_law 1604 = .ok (.if_icmp .eq 5, 3) := by decide +kernel
theorem dL_law_1607 : decode cL_law 1607 = .ok (.iconst 0, 1) := by decide +kernel
theorem dL_law_1608 : decode cL_law 1608 = .ok (.ireturn, 1) := by decide +kernel
theorem dL_law_1609 : decode cL_law 1609 = .ok (.iload 5, 2) := by decide +kernel
theorem dL_law_1611 : decode cL_law 1611 = .ok (.ifCond .ne 15, 3) := by decide +kernel
theorem dL_law_1614 : decode cL_law 1614 = .ok (.aload_n 3, 1) := by decide +kernel
theorem dL_law_1615 : decode cL_law 1615 = .ok (.iconst 0, 1) := by decide +kernel
theorem dL_law_1616 : decode cL_law 1616 = .ok (.laload, 1) := by decide +kernel
theorem dL_law_1617 : decode cL_law 1617 = .ok (.iload 6, 2) := by decide +kernel
theorem dL_law_1619 : decode cL_law 1619 = .ok (.i2l, 1) := by decide +kernel
theorem dL_law_1620 : decode cL_law 1620 = .ok (.lcmp, 1) := by decide +kernel
theorem dL_law_1621 : decode cL_law 1621 = .ok (.ifCond .eq 5, 3) := by decide +kernel
theorem dL_law_1624 : decode cL_law 1624 = .ok (.iconst 0, 1) := by decide +kernel
theorem dL_law_1625 : decode cL_law 1625 = .ok (.ireturn, 1) := by decide +kernel
theorem dL_law_1626 : decode cL_law 1626 = .ok (.goto 85, 3) := by decide +kernel
theorem dL_law_1629 : decode cL_law 1629 = .ok (.aload_n 1, 1) := by decide +kernel
theorem dL_law_1630 : decode cL_law 1630 = .ok (.aload_n 0, 1) := by decide +kernel
theorem dL_law_1631 : decode cL_law 1631 = .ok (.iload 4, 2) := by decide +kernel
theorem dL_law_1633 : decode cL_law 1633 = .ok (.iconst 1, 1) := by decide +kernel
theorem dL_law_1634 : decode cL_law 1634 = .ok (.iadd, 1) := by decide +kernel
theorem dL_law_1635 : decode cL_law 1635 = .ok (.iaload, 1) := by decide +kernel
theorem dL_law_1636 : decode cL_law 1636 = .ok (.aload_n 0, 1) := by decide +kernel
theorem dL_law_1637 : decode cL_law 1637 = .ok (.iload 4, 2) := by decide +kernel
theorem dL_law_1639 : decode cL_law 1639 = .ok (.iconst 2, 1) := by decide +kernel
theorem dL_law_1640 : decode cL_law 1640 = .ok (.iadd, 1) := by decide +kernel
theorem dL_law_1641 : decode cL_law 1641 = .ok (.iaload, 1) := by decide +kernel
theorem dL_law_1642 : decode cL_law 1642 = .ok (.aload_n 3, 1) := by decide +kernel
theorem dL_law_1643 : decode cL_law 1643 = .ok (.invokestatic 161, 3) := by decide +kernel
theorem dL_law_1646 : decode cL_law 1646 = .ok (.istore 5, 2) := by decide +kernel
theorem dL_law_1648 : decode cL_law 1648 = .ok (.aload_n 2, 1) := by decide +kernel
theorem dL_law_1649 : decode cL_law 1649 = .ok (.aload_n 0, 1) := by decide +kernel
theorem dL_law_1650 : decode cL_law 1650 = .ok (.iload 4, 2) := by decide +kernel
theorem dL_law_1652 : decode cL_law 1652 = .ok (.iconst 1, 1) := by decide +kernel
theorem dL_law_1653 : decode cL_law 1653 = .ok (.iadd, 1) := by decide +kernel
theorem dL_law_1654 : decode cL_law 1654 = .ok (.iaload, 1) := by decide +kernel
theorem dL_law_1655 : decode cL_law 1655 = .ok (.aload_n 0, 1) := by decide +kernel
theorem dL_law_1656 : decode cL_law 1656 = .ok (.iload 4, 2) := by decide +kernel
theorem dL_law_1658 : decode cL_law 1658 = .ok (.iconst 2, 1) := by decide +kernel
theorem dL_law_1659 : decode cL_law 1659 = .ok (.iadd, 1) := by decide +kernel
theorem dL_law_1660 : decode cL_law 1660 = .ok (.iaload, 1) := by decide +kernel
theorem dL_law_1661 : decode cL_law 1661 = .ok (.invokevirtual 163, 3) := by decide +kernel
theorem dL_law_1664 : decode cL_law 1664 = .ok (.istore 6, 2) := by decide +kernel
theorem dL_law_1666 : decode cL_law 1666 = .ok (.aload_n 2, 1) := by decide +kernel
theorem dL_law_1667 : decode cL_law 1667 = .ok (.invokevirtual 92, 3) := by decide +kernel
theorem dL_law_1670 : decode cL_law 1670 = .ok (.iload 5, 2) := by decide +kernel
theorem dL_law_1672 : decode cL_law 1672 = .ok (.if_icmp .eq 5, 3) := by decide +kernel
theorem dL_law_1675 : decode cL_law 1675 = .ok (.iconst 0, 1) := by decide +kernel
theorem dL_law_1676 : decode cL_law 1676 = .ok (.ireturn, 1) := by decide +kernel
theorem dL_law_1677 : decode cL_law 1677 = .ok (.iload 5, 2) := by decide +kernel
theorem dL_law_1679 : decode cL_law 1679 = .ok (.ifCond .ne 15, 3) := by decide +kernel
theorem dL_law_1682 : decode cL_law 1682 = .ok (.aload_n 3, 1) := by decide +kernel
theorem dL_law_1683 : decode cL_law 1683 = .ok (.iconst 0, 1) := by decide +kernel
theorem dL_law_1684 : decode cL_law 1684 = .ok (.laload, 1) := by decide +kernel
theorem dL_law_1685 : decode cL_law 1685 = .ok (.iload 6, 2) := by decide +kernel
theorem dL_law_1687 : decode cL_law 1687 = .ok (.i2l, 1) := by decide +kernel
theorem dL_law_1688 : decode cL_law 1688 = .ok (.lcmp, 1) := by decide +kernel
theorem dL_law_1689 : decode cL_law 1689 = .ok (.ifCond .eq 5, 3) := by decide +kernel
theorem dL_law_1692 : decode cL_law 1692 = .ok (.iconst 0, 1) := by decide +kernel
theorem dL_law_1693 : decode cL_law 1693 = .ok (.ireturn, 1) := by decide +kernel
theorem dL_law_1694 : decode cL_law 1694 = .ok (.goto 17, 3) := by decide +kernel
theorem dL_law_1697 : decode cL_law 1697 = .ok (.aload_n 1, 1) := by decide +kernel
theorem dL_law_1698 : decode cL_law 1698 = .ok (.invokevirtual 164, 3) := by decide +kernel
theorem dL_law_1701 : decode cL_law 1701 = .ok (.aload_n 2, 1) := by decide +kernel
theorem dL_law_1702 : decode cL_law 1702 = .ok (.invokevirtual 168, 3) := by decide +kernel
theorem dL_law_1705 : decode cL_law 1705 = .ok (.lcmp, 1) := by decide +kernel
theorem dL_law_1706 : decode cL_law 1706 = .ok (.ifCond .eq 5, 3) := by decide +kernel
theorem dL_law_1709 : decode cL_law 1709 = .ok (.iconst 0, 1) := by decide +kernel
theorem dL_law_1710 : decode cL_law 1710 = .ok (.ireturn, 1) := by decide +kernel
theorem dL_law_1711 : decode cL_law 1711 = .ok (.iinc 4 5, 3) := by decide +kernel
theorem dL_law_1714 : decode cL_law 1714 = .ok (.goto (-1691), 3) := by decide +kernel
theorem dL_law_1717 : decode cL_law 1717 = .ok (.iconst 1, 1) := by decide +kernel
theorem dL_law_1718 : decode cL_law 1718 = .ok (.ireturn, 1) := by decide +kernel
end
section
def mW : List Cond := lw_tbl.filter goodWord
theorem mWin {w : Cond} (i : Nat) (h : lw_tbl[i]? = some w) (hg : goodWord w = true) : w ∈ mW := List.mem_filter.mpr ⟨List.mem_of_getElem? h, hg⟩
theorem mWgood {w : Cond} (h : w ∈ mW) : goodWord w = true := (List.mem_filter.mp h).2
theorem mWtbl {w : Cond} (h : w ∈ mW) : w ∈ lw_tbl := (List.mem_filter.mp h).1
def mNest : List Cond := [.methodLinkNest RX5 9 yX2_init "OasisBooks",
  .methodLinkNest RX2 11 yX0_init "OasisBooks",
  .fieldLinkNest RX2 204 "OasisBooks$Channel" "table" "I" "OasisBooks",
  .fieldLinkNest RX5 101 "OasisBooks$Channel" "length" "I" "OasisBooks",
  .fieldLinkNest RX2 207 "OasisBooks$Channel" "length" "I" "OasisBooks",
  .fieldLinkNest RX5 112 "OasisBooks$Channel" "mud" "I" "OasisBooks",
  .fieldLinkNest RX2 210 "OasisBooks$Channel" "mud" "I" "OasisBooks",
  .fieldLinkNest RX5 118 "OasisBooks$Channel" "draw" "I" "OasisBooks",
  .fieldLinkNest RX2 213 "OasisBooks$Channel" "draw" "I" "OasisBooks",
  .fieldLinkNest RX4 43 "OasisBooks$Owner" "number" "I" "OasisBooks",
  .fieldLinkNest RX2 125 "OasisBooks$Owner" "number" "I" "OasisBooks",
  .fieldLinkNest RX4 53 "OasisBooks$Owner" "lives" "Z" "OasisBooks",
  .fieldLinkNest RX5 73 "OasisBooks$Owner" "bowls" "I" "OasisBooks",
  .fieldLinkNest RX2 95 "OasisBooks$Owner" "bowls" "I" "OasisBooks",
  .fieldLinkNest RX4 65 "OasisBooks$Owner" "bowls" "I" "OasisBooks",
  .fieldLinkNest RX5 63 "OasisBooks$Owner" "coins" "I" "OasisBooks",
  .fieldLinkNest RX2 174 "OasisBooks$Owner" "coins" "I" "OasisBooks",
  .fieldLinkNest RX4 72 "OasisBooks$Owner" "coins" "I" "OasisBooks",
  .fieldLinkNest RX5 127 "OasisBooks$Owner" "palms" "I" "OasisBooks",
  .fieldLinkNest RX2 177 "OasisBooks$Owner" "palms" "I" "OasisBooks",
  .fieldLinkNest RX2 180 "OasisBooks$Owner" "males" "I" "OasisBooks",
  .fieldLinkNest RX2 183 "OasisBooks$Owner" "moist" "I" "OasisBooks",
  .fieldLinkNest RX4 75 "OasisBooks$Owner" "moist" "I" "OasisBooks",
  .fieldLinkNest RX2 186 "OasisBooks$Owner" "salt" "I" "OasisBooks",
  .fieldLinkNest RX2 139 "OasisBooks$Owner" "dates" "I" "OasisBooks",
  .fieldLinkNest RX5 121 "OasisBooks$Owner" "pollinated" "I" "OasisBooks",
  .fieldLinkNest RX2 195 "OasisBooks$Owner" "pollinated" "I" "OasisBooks",
  .fieldLinkNest RX5 133 "OasisBooks$Owner" "boughtPollen" "I" "OasisBooks",
  .fieldLinkNest RX2 104 "OasisBooks$Owner" "flowing" "I" "OasisBooks",
  .fieldLinkNest RX2 115 "OasisBooks$Owner" "cameLatest" "I" "OasisBooks",
  .fieldLinkNest RX2 201 "OasisBooks$Owner" "cameEver" "I" "OasisBooks",
  .fieldLinkNest RX5 221 "OasisBooks$Owner" "cameEver" "I" "OasisBooks",
  .fieldLinkNest RX4 85 "OasisBooks$Owner" "reaped" "I" "OasisBooks",
  .fieldLinkNest RX5 227 "OasisBooks$Owner" "reaped" "I" "OasisBooks",
  .methodLinkNest RX2 27 yX1_init "OasisBooks",
  .fieldLinkNest RX5 97 "OasisBooks$Oasis" "channel" "LOasisBooks$Channel;" "OasisBooks",
  .fieldLinkNest RX5 30 "OasisBooks$Oasis" "people" "LOasisBooks$People;" "OasisBooks",
  .fieldLinkNest RX5 76 "OasisBooks$Oasis" "loans" "LOasisBooks$Deals;" "OasisBooks",
  .fieldLinkNest RX5 136 "OasisBooks$Oasis" "sales" "LOasisBooks$Deals;" "OasisBooks",
  .fieldLinkNest RX5 139 "OasisBooks$Oasis" "day" "I" "OasisBooks",
  .methodLinkNest RX7 9 yX6_init "OasisBooksModel"]
theorem qS_Throwable_fillInStackTrace24 : Cond.selects "java/lang/Throwable" (⟨"java/lang/Throwable", "fillInStackTrace", "(I)Ljava/lang/Throwable;"⟩ : MethodName) (⟨"java/lang/Throwable", "fillInStackTrace", "(I)Ljava/lang/Throwable;"⟩ : MethodName) ∈ mW := mWin 0 (by decide +kernel) (by decide +kernel)
theorem qS_X5_imagineLater : Cond.selects RX5 yX5_imagineLater yX5_imagineLater ∈ mW := mWin 1 (by decide +kernel) (by decide +kernel)
theorem qS_X4_putAt : Cond.selects RX4 yX4_putAt yX4_putAt ∈ mW := mWin 2 (by decide +kernel) (by decide +kernel)
theorem qS_X1_set : Cond.selects RX1 yX1_set yX1_set ∈ mW := mWin 3 (by decide +kernel) (by decide +kernel)
theorem qS_X2_letDayGoBy : Cond.selects RX2 yX2_letDayGoBy yX2_letDayGoBy ∈ mW := mWin 4 (by decide +kernel) (by decide +kernel)
theorem qS_X2_giveWater : Cond.selects RX2 yX2_giveWater yX2_giveWater ∈ mW := mWin 5 (by decide +kernel) (by decide +kernel)
theorem qS_X2_giveLentWater : Cond.selects RX2 yX2_giveLentWater yX2_giveLentWater ∈ mW := mWin 6 (by decide +kernel) (by decide +kernel)
theorem qS_X2_deliverSales : Cond.selects RX2 yX2_deliverSales yX2_deliverSales ∈ mW := mWin 7 (by decide +kernel) (by decide +kernel)
theorem qS_X1_moveTo : Cond.selects RX1 yX1_moveTo yX1_moveTo ∈ mW := mWin 8 (by decide +kernel) (by decide +kernel)
theorem qS_X5_imagineHarvest : Cond.selects RX5 yX5_imagineHarvest yX5_imagineHarvest ∈ mW := mWin 9 (by decide +kernel) (by decide +kernel)
theorem qS_X5_digestOwners : Cond.selects RX5 yX5_digestOwners yX5_digestOwners ∈ mW := mWin 10 (by decide +kernel) (by decide +kernel)
theorem qS_X5_mustLive : Cond.selects RX5 yX5_mustLive yX5_mustLive ∈ mW := mWin 11 (by decide +kernel) (by decide +kernel)
theorem qS_X5_cameUntilLater : Cond.selects RX5 yX5_cameUntilLater yX5_cameUntilLater ∈ mW := mWin 12 (by decide +kernel) (by decide +kernel)
theorem qS_X5_reapedAtHarvest : Cond.selects RX5 yX5_reapedAtHarvest yX5_reapedAtHarvest ∈ mW := mWin 13 (by decide +kernel) (by decide +kernel)
theorem qS_X7_no : Cond.selects RX7 yX7_no yX7_no ∈ mW := mWin 14 (by decide +kernel) (by decide +kernel)
theorem qS_X7_at : Cond.selects RX7 yX7_at yX7_at ∈ mW := mWin 15 (by decide +kernel) (by decide +kernel)
theorem qS_X7_lives : Cond.selects RX7 yX7_lives yX7_lives ∈ mW := mWin 16 (by decide +kernel) (by decide +kernel)
theorem qS_X7_pay : Cond.selects RX7 yX7_pay yX7_pay ∈ mW := mWin 17 (by decide +kernel) (by decide +kernel)
theorem qS_X6_water : Cond.selects RX6 yX6_water yX6_water ∈ mW := mWin 18 (by decide +kernel) (by decide +kernel)
theorem qS_X6_today : Cond.selects RX6 yX6_today yX6_today ∈ mW := mWin 19 (by decide +kernel) (by decide +kernel)
theorem qS_X6_palms : Cond.selects RX6 yX6_palms yX6_palms ∈ mW := mWin 20 (by decide +kernel) (by decide +kernel)
theorem qS_X6_harvest : Cond.selects RX6 yX6_harvest yX6_harvest ∈ mW := mWin 21 (by decide +kernel) (by decide +kernel)
theorem qS_X6_age : Cond.selects RX6 yX6_age yX6_age ∈ mW := mWin 22 (by decide +kernel) (by decide +kernel)
theorem qS_X7_ownerNow : Cond.selects RX7 yX7_ownerNow yX7_ownerNow ∈ mW := mWin 23 (by decide +kernel) (by decide +kernel)
theorem qS_X7_manyNow : Cond.selects RX7 yX7_manyNow yX7_manyNow ∈ mW := mWin 24 (by decide +kernel) (by decide +kernel)
theorem qS_X7_comeNow : Cond.selects RX7 yX7_comeNow yX7_comeNow ∈ mW := mWin 25 (by decide +kernel) (by decide +kernel)
theorem qS_X7_digNow : Cond.selects RX7 yX7_digNow yX7_digNow ∈ mW := mWin 26 (by decide +kernel) (by decide +kernel)
theorem qS_X7_takesNow : Cond.selects RX7 yX7_takesNow yX7_takesNow ∈ mW := mWin 27 (by decide +kernel) (by decide +kernel)
theorem qS_X7_reapNow : Cond.selects RX7 yX7_reapNow yX7_reapNow ∈ mW := mWin 28 (by decide +kernel) (by decide +kernel)
theorem qZ_L : Cond.initialized RL ∈ mW := mWin 29 (by decide +kernel) (by decide +kernel)
theorem qZ_X5 : Cond.initialized RX5 ∈ mW := mWin 30 (by decide +kernel) (by decide +kernel)
theorem qZ_X2 : Cond.initialized RX2 ∈ mW := mWin 31 (by decide +kernel) (by decide +kernel)
theorem qZ_X0 : Cond.initialized RX0 ∈ mW := mWin 32 (by decide +kernel) (by decide +kernel)
theorem qZ_X4 : Cond.initialized RX4 ∈ mW := mWin 33 (by decide +kernel) (by decide +kernel)
theorem qZ_X3 : Cond.initialized RX3 ∈ mW := mWin 34 (by decide +kernel) (by decide +kernel)
theorem qZ_X1 : Cond.initialized RX1 ∈ mW := mWin 35 (by decide +kernel) (by decide +kernel)
theorem qZ_X7 : Cond.initialized RX7 ∈ mW := mWin 36 (by decide +kernel) (by decide +kernel)
theorem qZ_X6 : Cond.initialized RX6 ∈ mW := mWin 37 (by decide +kernel) (by decide +kernel)
theorem qZ_Throwable : Cond.initialized "java/lang/Throwable" ∈ mW := mWin 38 (by decide +kernel) (by decide +kernel)
theorem qZ_Exception : Cond.initialized "java/lang/Exception" ∈ mW := mWin 39 (by decide +kernel) (by decide +kernel)
theorem qZ_RuntimeException : Cond.initialized "java/lang/RuntimeException" ∈ mW := mWin 40 (by decide +kernel) (by decide +kernel)
theorem qZ_IllegalArgumentException : Cond.initialized "java/lang/IllegalArgumentException" ∈ mW := mWin 41 (by decide +kernel) (by decide +kernel)
theorem qZ_IllegalStateException : Cond.initialized "java/lang/IllegalStateException" ∈ mW := mWin 42 (by decide +kernel) (by decide +kernel)
theorem qZ_System : Cond.initialized "java/lang/System" ∈ mW := mWin 43 (by decide +kernel) (by decide +kernel)
theorem qZ_IndexOutOfBoundsException : Cond.initialized "java/lang/IndexOutOfBoundsException" ∈ mW := mWin 44 (by decide +kernel) (by decide +kernel)
theorem qZ_Math : Cond.initialized "java/lang/Math" ∈ mW := mWin 45 (by decide +kernel) (by decide +kernel)
theorem qK_L_8 : Cond.classLink RL 8 RX5 ∈ mW := mWin 46 (by decide +kernel) (by decide +kernel)
theorem qN_X5 : Cond.instantiable RX5 3 ∈ mW := mWin 47 (by decide +kernel) (by decide +kernel)
theorem qL_L_82 : Cond.methodLink RL 82 yX5_init ∈ mW := mWin 48 (by decide +kernel) (by decide +kernel)
theorem qI_X5_init : Cond.instanceMethod yX5_init ∈ mW := mWin 49 (by decide +kernel) (by decide +kernel)
theorem qC_X5_init : Cond.code yX5_init prog_1_method_1_code 1 (Option.none : Option Jvm.ClassFile.FieldType) ∈ mW := mWin 50 (by decide +kernel) (by decide +kernel)
theorem qL_X5_1 : Cond.methodLink RX5 1 (⟨"java/lang/Object", "<init>", "()V"⟩ : MethodName) ∈ mW := mWin 51 (by decide +kernel) (by decide +kernel)
theorem qI_Object_init : Cond.instanceMethod (⟨"java/lang/Object", "<init>", "()V"⟩ : MethodName) ∈ mW := mWin 52 (by decide +kernel) (by decide +kernel)
theorem qC_Object_init : Cond.code (⟨"java/lang/Object", "<init>", "()V"⟩ : MethodName) object_method_1_code 1 (Option.none : Option Jvm.ClassFile.FieldType) ∈ mW := mWin 53 (by decide +kernel) (by decide +kernel)
theorem qK_X5_7 : Cond.classLink RX5 7 RX2 ∈ mW := mWin 54 (by decide +kernel) (by decide +kernel)
theorem qN_X2 : Cond.instantiable RX2 8 ∈ mW := mWin 55 (by decide +kernel) (by decide +kernel)
theorem qI_X2_init : Cond.instanceMethod yX2_init ∈ mW := mWin 57 (by decide +kernel) (by decide +kernel)
theorem qC_X2_init : Cond.code yX2_init prog_4_method_1_code 1 (Option.none : Option Jvm.ClassFile.FieldType) ∈ mW := mWin 58 (by decide +kernel) (by decide +kernel)
theorem qL_X2_3 : Cond.methodLink RX2 3 (⟨"java/lang/Object", "<init>", "()V"⟩ : MethodName) ∈ mW := mWin 59 (by decide +kernel) (by decide +kernel)
theorem qK_X2_9 : Cond.classLink RX2 9 RX0 ∈ mW := mWin 60 (by decide +kernel) (by decide +kernel)
theorem qN_X0 : Cond.instantiable RX0 4 ∈ mW := mWin 61 (by decide +kernel) (by decide +kernel)
theorem qI_X0_init : Cond.instanceMethod yX0_init ∈ mW := mWin 63 (by decide +kernel) (by decide +kernel)
theorem qC_X0_init : Cond.code yX0_init prog_2_method_1_code 1 (Option.none : Option Jvm.ClassFile.FieldType) ∈ mW := mWin 64 (by decide +kernel) (by decide +kernel)
theorem qL_X0_3 : Cond.methodLink RX0 3 (⟨"java/lang/Object", "<init>", "()V"⟩ : MethodName) ∈ mW := mWin 65 (by decide +kernel) (by decide +kernel)
theorem qF_X0_9 : Cond.fieldLink RX0 9 "OasisBooks$Channel" "table" "I" ∈ mW := mWin 66 (by decide +kernel) (by decide +kernel)
theorem qF_X0_15 : Cond.fieldLink RX0 15 "OasisBooks$Channel" "length" "I" ∈ mW := mWin 68 (by decide +kernel) (by decide +kernel)
theorem qF_X0_18 : Cond.fieldLink RX0 18 "OasisBooks$Channel" "mud" "I" ∈ mW := mWin 71 (by decide +kernel) (by decide +kernel)
theorem qF_X0_21 : Cond.fieldLink RX0 21 "OasisBooks$Channel" "draw" "I" ∈ mW := mWin 74 (by decide +kernel) (by decide +kernel)
theorem qK_X2_18 : Cond.classLink RX2 18 RX4 ∈ mW := mWin 86 (by decide +kernel) (by decide +kernel)
theorem qN_X4 : Cond.instantiable RX4 5 ∈ mW := mWin 87 (by decide +kernel) (by decide +kernel)
theorem qL_X2_20 : Cond.methodLink RX2 20 yX4_init ∈ mW := mWin 88 (by decide +kernel) (by decide +kernel)
theorem qI_X4_init : Cond.instanceMethod yX4_init ∈ mW := mWin 89 (by decide +kernel) (by decide +kernel)
theorem qC_X4_init : Cond.code yX4_init prog_6_method_1_code 2 (Option.none : Option Jvm.ClassFile.FieldType) ∈ mW := mWin 90 (by decide +kernel) (by decide +kernel)
theorem qL_X4_3 : Cond.methodLink RX4 3 (⟨"java/lang/Object", "<init>", "()V"⟩ : MethodName) ∈ mW := mWin 91 (by decide +kernel) (by decide +kernel)
theorem qK_X4_9 : Cond.classLink RX4 9 RX3 ∈ mW := mWin 92 (by decide +kernel) (by decide +kernel)
theorem qN_X3 : Cond.instantiable RX3 15 ∈ mW := mWin 94 (by decide +kernel) (by decide +kernel)
theorem qL_X4_21 : Cond.methodLink RX4 21 yX3_init ∈ mW := mWin 95 (by decide +kernel) (by decide +kernel)
theorem qI_X3_init : Cond.instanceMethod yX3_init ∈ mW := mWin 96 (by decide +kernel) (by decide +kernel)
theorem qC_X3_init : Cond.code yX3_init prog_5_method_1_code 2 (Option.none : Option Jvm.ClassFile.FieldType) ∈ mW := mWin 97 (by decide +kernel) (by decide +kernel)
theorem qL_X3_3 : Cond.methodLink RX3 3 (⟨"java/lang/Object", "<init>", "()V"⟩ : MethodName) ∈ mW := mWin 98 (by decide +kernel) (by decide +kernel)
theorem qF_X3_9 : Cond.fieldLink RX3 9 "OasisBooks$Owner" "number" "I" ∈ mW := mWin 99 (by decide +kernel) (by decide +kernel)
theorem qF_X3_15 : Cond.fieldLink RX3 15 "OasisBooks$Owner" "lives" "Z" ∈ mW := mWin 102 (by decide +kernel) (by decide +kernel)
theorem qF_X3_19 : Cond.fieldLink RX3 19 "OasisBooks$Owner" "bowls" "I" ∈ mW := mWin 104 (by decide +kernel) (by decide +kernel)
theorem qF_X3_22 : Cond.fieldLink RX3 22 "OasisBooks$Owner" "coins" "I" ∈ mW := mWin 108 (by decide +kernel) (by decide +kernel)
theorem qF_X3_25 : Cond.fieldLink RX3 25 "OasisBooks$Owner" "palms" "I" ∈ mW := mWin 112 (by decide +kernel) (by decide +kernel)
theorem qF_X3_28 : Cond.fieldLink RX3 28 "OasisBooks$Owner" "males" "I" ∈ mW := mWin 115 (by decide +kernel) (by decide +kernel)
theorem qF_X3_31 : Cond.fieldLink RX3 31 "OasisBooks$Owner" "moist" "I" ∈ mW := mWin 117 (by decide +kernel) (by decide +kernel)
theorem qF_X3_34 : Cond.fieldLink RX3 34 "OasisBooks$Owner" "salt" "I" ∈ mW := mWin 120 (by decide +kernel) (by decide +kernel)
theorem qF_X3_37 : Cond.fieldLink RX3 37 "OasisBooks$Owner" "dates" "I" ∈ mW := mWin 122 (by decide +kernel) (by decide +kernel)
theorem qF_X3_40 : Cond.fieldLink RX3 40 "OasisBooks$Owner" "pollinated" "I" ∈ mW := mWin 124 (by decide +kernel) (by decide +kernel)
theorem qF_X3_43 : Cond.fieldLink RX3 43 "OasisBooks$Owner" "boughtPollen" "I" ∈ mW := mWin 127 (by decide +kernel) (by decide +kernel)
theorem qF_X3_46 : Cond.fieldLink RX3 46 "OasisBooks$Owner" "flowing" "I" ∈ mW := mWin 129 (by decide +kernel) (by decide +kernel)
theorem qF_X3_49 : Cond.fieldLink RX3 49 "OasisBooks$Owner" "cameLatest" "I" ∈ mW := mWin 131 (by decide +kernel) (by decide +kernel)
theorem qF_X3_52 : Cond.fieldLink RX3 52 "OasisBooks$Owner" "cameEver" "I" ∈ mW := mWin 133 (by decide +kernel) (by decide +kernel)
theorem qF_X3_55 : Cond.fieldLink RX3 55 "OasisBooks$Owner" "reaped" "I" ∈ mW := mWin 136 (by decide +kernel) (by decide +kernel)
theorem qarrayClass_170 : Cond.arrayClass Jvm.ClassFile.FieldType.int ∈ mW := mWin 170 (by decide +kernel) (by decide +kernel)
theorem qF_X4_11 : Cond.fieldLink RX4 11 "OasisBooks$People" "owners" "[LOasisBooks$Owner;" ∈ mW := mWin 171 (by decide +kernel) (by decide +kernel)
theorem qF_X4_17 : Cond.fieldLink RX4 17 "OasisBooks$People" "row" "[I" ∈ mW := mWin 172 (by decide +kernel) (by decide +kernel)
theorem qF_X4_24 : Cond.fieldLink RX4 24 "OasisBooks$People" "nobody" "LOasisBooks$Owner;" ∈ mW := mWin 173 (by decide +kernel) (by decide +kernel)
theorem qF_X4_50 : Cond.fieldLink RX4 50 "OasisBooks$People" "ever" "I" ∈ mW := mWin 174 (by decide +kernel) (by decide +kernel)
theorem qF_X4_36 : Cond.fieldLink RX4 36 "OasisBooks$People" "living" "I" ∈ mW := mWin 175 (by decide +kernel) (by decide +kernel)
theorem qK_X2_25 : Cond.classLink RX2 25 RX1 ∈ mW := mWin 187 (by decide +kernel) (by decide +kernel)
theorem qN_X1 : Cond.instantiable RX1 2 ∈ mW := mWin 188 (by decide +kernel) (by decide +kernel)
theorem qI_X1_init : Cond.instanceMethod yX1_init ∈ mW := mWin 190 (by decide +kernel) (by decide +kernel)
theorem qC_X1_init : Cond.code yX1_init prog_3_method_1_code 1 (Option.none : Option Jvm.ClassFile.FieldType) ∈ mW := mWin 191 (by decide +kernel) (by decide +kernel)
theorem qL_X1_3 : Cond.methodLink RX1 3 (⟨"java/lang/Object", "<init>", "()V"⟩ : MethodName) ∈ mW := mWin 192 (by decide +kernel) (by decide +kernel)
theorem qF_X1_11 : Cond.fieldLink RX1 11 "OasisBooks$Deals" "cells" "[I" ∈ mW := mWin 193 (by decide +kernel) (by decide +kernel)
theorem qF_X1_15 : Cond.fieldLink RX1 15 "OasisBooks$Deals" "count" "I" ∈ mW := mWin 194 (by decide +kernel) (by decide +kernel)
theorem qF_X2_12 : Cond.fieldLink RX2 12 "OasisBooks$Oasis" "channel" "LOasisBooks$Channel;" ∈ mW := mWin 200 (by decide +kernel) (by decide +kernel)
theorem qF_X2_21 : Cond.fieldLink RX2 21 "OasisBooks$Oasis" "people" "LOasisBooks$People;" ∈ mW := mWin 202 (by decide +kernel) (by decide +kernel)
theorem qF_X2_28 : Cond.fieldLink RX2 28 "OasisBooks$Oasis" "loans" "LOasisBooks$Deals;" ∈ mW := mWin 204 (by decide +kernel) (by decide +kernel)
theorem qF_X2_32 : Cond.fieldLink RX2 32 "OasisBooks$Oasis" "sales" "LOasisBooks$Deals;" ∈ mW := mWin 206 (by decide +kernel) (by decide +kernel)
theorem qF_X2_45 : Cond.fieldLink RX2 45 "OasisBooks$Oasis" "day" "I" ∈ mW := mWin 208 (by decide +kernel) (by decide +kernel)
theorem qF_X2_49 : Cond.fieldLink RX2 49 "OasisBooks$Oasis" "letOut" "I" ∈ mW := mWin 210 (by decide +kernel) (by decide +kernel)
theorem qF_X2_52 : Cond.fieldLink RX2 52 "OasisBooks$Oasis" "lost" "I" ∈ mW := mWin 211 (by decide +kernel) (by decide +kernel)
theorem qF_X2_55 : Cond.fieldLink RX2 55 "OasisBooks$Oasis" "harvested" "I" ∈ mW := mWin 212 (by decide +kernel) (by decide +kernel)
theorem qF_X5_10 : Cond.fieldLink RX5 10 "OasisBooks" "now" "LOasisBooks$Oasis;" ∈ mW := mWin 230 (by decide +kernel) (by decide +kernel)
theorem qF_X5_16 : Cond.fieldLink RX5 16 "OasisBooks" "later" "LOasisBooks$Oasis;" ∈ mW := mWin 231 (by decide +kernel) (by decide +kernel)
theorem qF_X5_19 : Cond.fieldLink RX5 19 "OasisBooks" "atHarvest" "LOasisBooks$Oasis;" ∈ mW := mWin 232 (by decide +kernel) (by decide +kernel)
theorem qL_L_147 : Cond.methodLink RL 147 yX5_meanMoist ∈ mW := mWin 240 (by decide +kernel) (by decide +kernel)
theorem qI_X5_meanMoist : Cond.instanceMethod yX5_meanMoist ∈ mW := mWin 241 (by decide +kernel) (by decide +kernel)
theorem qS_X5_meanMoist : Cond.selects RX5 yX5_meanMoist yX5_meanMoist ∈ mW := mWin 242 (by decide +kernel) (by decide +kernel)
theorem qC_X5_meanMoist : Cond.code yX5_meanMoist prog_1_method_19_code 2 (Option.some Jvm.ClassFile.FieldType.double) ∈ mW := mWin 243 (by decide +kernel) (by decide +kernel)
theorem qL_X5_166 : Cond.methodLink RX5 166 yX4_countLiving ∈ mW := mWin 244 (by decide +kernel) (by decide +kernel)
theorem qI_X4_countLiving : Cond.instanceMethod yX4_countLiving ∈ mW := mWin 245 (by decide +kernel) (by decide +kernel)
theorem qS_X4_countLiving : Cond.selects RX4 yX4_countLiving yX4_countLiving ∈ mW := mWin 246 (by decide +kernel) (by decide +kernel)
theorem qC_X4_countLiving : Cond.code yX4_countLiving prog_6_method_7_code 1 (Option.some Jvm.ClassFile.FieldType.int) ∈ mW := mWin 247 (by decide +kernel) (by decide +kernel)
theorem qL_X5_169 : Cond.methodLink RX5 169 yX4_sumOfMoist ∈ mW := mWin 248 (by decide +kernel) (by decide +kernel)
theorem qI_X4_sumOfMoist : Cond.instanceMethod yX4_sumOfMoist ∈ mW := mWin 249 (by decide +kernel) (by decide +kernel)
theorem qS_X4_sumOfMoist : Cond.selects RX4 yX4_sumOfMoist yX4_sumOfMoist ∈ mW := mWin 250 (by decide +kernel) (by decide +kernel)
theorem qC_X4_sumOfMoist : Cond.code yX4_sumOfMoist prog_6_method_18_code 3 (Option.some Jvm.ClassFile.FieldType.int) ∈ mW := mWin 251 (by decide +kernel) (by decide +kernel)
theorem qL_X4_40 : Cond.methodLink RX4 40 yX4_standing ∈ mW := mWin 252 (by decide +kernel) (by decide +kernel)
theorem qI_X4_standing : Cond.instanceMethod yX4_standing ∈ mW := mWin 253 (by decide +kernel) (by decide +kernel)
theorem qS_X4_standing : Cond.selects RX4 yX4_standing yX4_standing ∈ mW := mWin 254 (by decide +kernel) (by decide +kernel)
theorem qC_X4_standing : Cond.code yX4_standing prog_6_method_4_code 2 (Option.some (Jvm.ClassFile.FieldType.object "OasisBooks$Owner")) ∈ mW := mWin 255 (by decide +kernel) (by decide +kernel)
theorem qL_X4_28 : Cond.methodLink RX4 28 yX4_numbered ∈ mW := mWin 256 (by decide +kernel) (by decide +kernel)
theorem qI_X4_numbered : Cond.instanceMethod yX4_numbered ∈ mW := mWin 257 (by decide +kernel) (by decide +kernel)
theorem qS_X4_numbered : Cond.selects RX4 yX4_numbered yX4_numbered ∈ mW := mWin 258 (by decide +kernel) (by decide +kernel)
theorem qC_X4_numbered : Cond.code yX4_numbered prog_6_method_3_code 2 (Option.some (Jvm.ClassFile.FieldType.object "OasisBooks$Owner")) ∈ mW := mWin 259 (by decide +kernel) (by decide +kernel)
theorem qL_L_164 : Cond.methodLink RL 164 yX5_digest ∈ mW := mWin 260 (by decide +kernel) (by decide +kernel)
theorem qI_X5_digest : Cond.instanceMethod yX5_digest ∈ mW := mWin 261 (by decide +kernel) (by decide +kernel)
theorem qS_X5_digest : Cond.selects RX5 yX5_digest yX5_digest ∈ mW := mWin 262 (by decide +kernel) (by decide +kernel)
theorem qC_X5_digest : Cond.code yX5_digest prog_1_method_24_code 5 (Option.some Jvm.ClassFile.FieldType.long) ∈ mW := mWin 263 (by decide +kernel) (by decide +kernel)
theorem qG_X5_189 : Cond.constantLong RX5 189 (7803 : Int64) ∈ mW := mWin 264 (by decide +kernel) (by decide +kernel)
theorem qG_X5_191 : Cond.constantLong RX5 191 (31 : Int64) ∈ mW := mWin 265 (by decide +kernel) (by decide +kernel)
theorem qL_X5_193 : Cond.methodLink RX5 193 yX5_many ∈ mW := mWin 266 (by decide +kernel) (by decide +kernel)
theorem qI_X5_many : Cond.instanceMethod yX5_many ∈ mW := mWin 267 (by decide +kernel) (by decide +kernel)
theorem qS_X5_many : Cond.selects RX5 yX5_many yX5_many ∈ mW := mWin 268 (by decide +kernel) (by decide +kernel)
theorem qC_X5_many : Cond.code yX5_many prog_1_method_18_code 2 (Option.some Jvm.ClassFile.FieldType.int) ∈ mW := mWin 269 (by decide +kernel) (by decide +kernel)
theorem qL_X5_22 : Cond.methodLink RX5 22 yX5_isWithin ∈ mW := mWin 270 (by decide +kernel) (by decide +kernel)
theorem qT_X5_isWithin : Cond.static yX5_isWithin ∈ mW := mWin 271 (by decide +kernel) (by decide +kernel)
theorem qC_X5_isWithin : Cond.code yX5_isWithin prog_1_method_30_code 3 (Option.some Jvm.ClassFile.FieldType.boolean) ∈ mW := mWin 272 (by decide +kernel) (by decide +kernel)
theorem qL_X5_26 : Cond.methodLink RX5 26 yX5_mustBeRight ∈ mW := mWin 273 (by decide +kernel) (by decide +kernel)
theorem qT_X5_mustBeRight : Cond.static yX5_mustBeRight ∈ mW := mWin 274 (by decide +kernel) (by decide +kernel)
theorem qC_X5_mustBeRight : Cond.code yX5_mustBeRight prog_1_method_31_code 1 (Option.none : Option Jvm.ClassFile.FieldType) ∈ mW := mWin 275 (by decide +kernel) (by decide +kernel)
theorem qK_X5_230 : Cond.classLink RX5 230 "java/lang/IllegalArgumentException" ∈ mW := mWin 276 (by decide +kernel) (by decide +kernel)
theorem qN_IllegalArgumentException : Cond.instantiable "java/lang/IllegalArgumentException" 6 ∈ mW := mWin 277 (by decide +kernel) (by decide +kernel)
theorem qF_Throwable_198 : Cond.fieldLink "java/lang/Throwable" 198 "java/lang/Throwable" "backtrace" "Ljava/lang/Object;" ∈ mW := mWin 297 (by decide +kernel) (by decide +kernel)
theorem qI_Throwable_init : Cond.instanceMethod (⟨"java/lang/Throwable", "<init>", "()V"⟩ : MethodName) ∈ mW := mWin 299 (by decide +kernel) (by decide +kernel)
theorem qC_Throwable_init : Cond.code (⟨"java/lang/Throwable", "<init>", "()V"⟩ : MethodName) prog_17_method_1_code 1 (Option.none : Option Jvm.ClassFile.FieldType) ∈ mW := mWin 300 (by decide +kernel) (by decide +kernel)
theorem qL_Throwable_1 : Cond.methodLink "java/lang/Throwable" 1 (⟨"java/lang/Object", "<init>", "()V"⟩ : MethodName) ∈ mW := mWin 301 (by decide +kernel) (by decide +kernel)
theorem qF_Throwable_13 : Cond.fieldLink "java/lang/Throwable" 13 "java/lang/Throwable" "UNASSIGNED_STACK" "[Ljava/lang/StackTraceElement;" ∈ mW := mWin 302 (by decide +kernel) (by decide +kernel)
theorem qF_Throwable_20 : Cond.fieldLink "java/lang/Throwable" 20 "java/lang/Throwable" "SUPPRESSED_SENTINEL" "Ljava/util/List;" ∈ mW := mWin 304 (by decide +kernel) (by decide +kernel)
theorem qL_Throwable_27 : Cond.methodLink "java/lang/Throwable" 27 (⟨"java/lang/Throwable", "fillInStackTrace", "()Ljava/lang/Throwable;"⟩ : MethodName) ∈ mW := mWin 306 (by decide +kernel) (by decide +kernel)
theorem qI_Throwable_fillInStackTrace23 : Cond.instanceMethod (⟨"java/lang/Throwable", "fillInStackTrace", "()Ljava/lang/Throwable;"⟩ : MethodName) ∈ mW := mWin 307 (by decide +kernel) (by decide +kernel)
theorem qL_Throwable_202 : Cond.methodLink "java/lang/Throwable" 202 (⟨"java/lang/Throwable", "fillInStackTrace", "(I)Ljava/lang/Throwable;"⟩ : MethodName) ∈ mW := mWin 312 (by decide +kernel) (by decide +kernel)
theorem qI_Throwable_fillInStackTrace24 : Cond.instanceMethod (⟨"java/lang/Throwable", "fillInStackTrace", "(I)Ljava/lang/Throwable;"⟩ : MethodName) ∈ mW := mWin 314 (by decide +kernel) (by decide +kernel)
theorem qN_Throwable : Cond.instantiable "java/lang/Throwable" 6 ∈ mW := mWin 315 (by decide +kernel) (by decide +kernel)
theorem qV_Throwable_fillInStackTrace24 : Cond.native (⟨"java/lang/Throwable", "fillInStackTrace", "(I)Ljava/lang/Throwable;"⟩ : MethodName) ∈ mW := mWin 316 (by decide +kernel) (by decide +kernel)
theorem qL_X5_232 : Cond.methodLink RX5 232 (⟨"java/lang/IllegalArgumentException", "<init>", "()V"⟩ : MethodName) ∈ mW := mWin 317 (by decide +kernel) (by decide +kernel)
theorem qI_IllegalArgumentException_init : Cond.instanceMethod (⟨"java/lang/IllegalArgumentException", "<init>", "()V"⟩ : MethodName) ∈ mW := mWin 318 (by decide +kernel) (by decide +kernel)
theorem qC_IllegalArgumentException_init : Cond.code (⟨"java/lang/IllegalArgumentException", "<init>", "()V"⟩ : MethodName) prog_11_method_1_code 1 (Option.none : Option Jvm.ClassFile.FieldType) ∈ mW := mWin 319 (by decide +kernel) (by decide +kernel)
theorem qL_IllegalArgumentException_1 : Cond.methodLink "java/lang/IllegalArgumentException" 1 (⟨"java/lang/RuntimeException", "<init>", "()V"⟩ : MethodName) ∈ mW := mWin 320 (by decide +kernel) (by decide +kernel)
theorem qI_RuntimeException_init : Cond.instanceMethod (⟨"java/lang/RuntimeException", "<init>", "()V"⟩ : MethodName) ∈ mW := mWin 321 (by decide +kernel) (by decide +kernel)
theorem qC_RuntimeException_init : Cond.code (⟨"java/lang/RuntimeException", "<init>", "()V"⟩ : MethodName) prog_15_method_1_code 1 (Option.none : Option Jvm.ClassFile.FieldType) ∈ mW := mWin 322 (by decide +kernel) (by decide +kernel)
theorem qL_RuntimeException_1 : Cond.methodLink "java/lang/RuntimeException" 1 (⟨"java/lang/Exception", "<init>", "()V"⟩ : MethodName) ∈ mW := mWin 323 (by decide +kernel) (by decide +kernel)
theorem qI_Exception_init : Cond.instanceMethod (⟨"java/lang/Exception", "<init>", "()V"⟩ : MethodName) ∈ mW := mWin 324 (by decide +kernel) (by decide +kernel)
theorem qC_Exception_init : Cond.code (⟨"java/lang/Exception", "<init>", "()V"⟩ : MethodName) prog_10_method_1_code 1 (Option.none : Option Jvm.ClassFile.FieldType) ∈ mW := mWin 325 (by decide +kernel) (by decide +kernel)
theorem qL_Exception_1 : Cond.methodLink "java/lang/Exception" 1 (⟨"java/lang/Throwable", "<init>", "()V"⟩ : MethodName) ∈ mW := mWin 326 (by decide +kernel) (by decide +kernel)
theorem qF_Throwable_7 : Cond.fieldLink "java/lang/Throwable" 7 "java/lang/Throwable" "cause" "Ljava/lang/Throwable;" ∈ mW := mWin 328 (by decide +kernel) (by decide +kernel)
theorem qF_Throwable_17 : Cond.fieldLink "java/lang/Throwable" 17 "java/lang/Throwable" "stackTrace" "[Ljava/lang/StackTraceElement;" ∈ mW := mWin 329 (by decide +kernel) (by decide +kernel)
theorem qF_Throwable_24 : Cond.fieldLink "java/lang/Throwable" 24 "java/lang/Throwable" "suppressedExceptions" "Ljava/util/List;" ∈ mW := mWin 330 (by decide +kernel) (by decide +kernel)
theorem qL_X5_163 : Cond.methodLink RX5 163 yX2_askAll ∈ mW := mWin 339 (by decide +kernel) (by decide +kernel)
theorem qI_X2_askAll : Cond.instanceMethod yX2_askAll ∈ mW := mWin 340 (by decide +kernel) (by decide +kernel)
theorem qS_X2_askAll : Cond.selects RX2 yX2_askAll yX2_askAll ∈ mW := mWin 341 (by decide +kernel) (by decide +kernel)
theorem qC_X2_askAll : Cond.code yX2_askAll prog_4_method_15_code 2 (Option.some Jvm.ClassFile.FieldType.int) ∈ mW := mWin 342 (by decide +kernel) (by decide +kernel)
theorem qL_X2_58 : Cond.methodLink RX2 58 yX2_date ∈ mW := mWin 343 (by decide +kernel) (by decide +kernel)
theorem qI_X2_date : Cond.instanceMethod yX2_date ∈ mW := mWin 344 (by decide +kernel) (by decide +kernel)
theorem qS_X2_date : Cond.selects RX2 yX2_date yX2_date ∈ mW := mWin 345 (by decide +kernel) (by decide +kernel)
theorem qC_X2_date : Cond.code yX2_date prog_4_method_3_code 1 (Option.some Jvm.ClassFile.FieldType.int) ∈ mW := mWin 346 (by decide +kernel) (by decide +kernel)
theorem qL_X2_85 : Cond.methodLink RX2 85 yX0_flow ∈ mW := mWin 347 (by decide +kernel) (by decide +kernel)
theorem qI_X0_flow : Cond.instanceMethod yX0_flow ∈ mW := mWin 348 (by decide +kernel) (by decide +kernel)
theorem qS_X0_flow : Cond.selects RX0 yX0_flow yX0_flow ∈ mW := mWin 349 (by decide +kernel) (by decide +kernel)
theorem qC_X0_flow : Cond.code yX0_flow prog_2_method_3_code 1 (Option.some Jvm.ClassFile.FieldType.int) ∈ mW := mWin 350 (by decide +kernel) (by decide +kernel)
theorem qL_X0_24 : Cond.methodLink RX0 24 (⟨"java/lang/Math", "max", "(II)I"⟩ : MethodName) ∈ mW := mWin 351 (by decide +kernel) (by decide +kernel)
theorem qT_Math_max : Cond.static (⟨"java/lang/Math", "max", "(II)I"⟩ : MethodName) ∈ mW := mWin 352 (by decide +kernel) (by decide +kernel)
theorem qC_Math_max : Cond.code (⟨"java/lang/Math", "max", "(II)I"⟩ : MethodName) prog_14_method_65_code 2 (Option.some Jvm.ClassFile.FieldType.int) ∈ mW := mWin 353 (by decide +kernel) (by decide +kernel)
theorem qL_X2_88 : Cond.methodLink RX2 88 yX4_countLiving ∈ mW := mWin 354 (by decide +kernel) (by decide +kernel)
theorem qL_X2_216 : Cond.methodLink RX2 216 yX4_countEver ∈ mW := mWin 355 (by decide +kernel) (by decide +kernel)
theorem qI_X4_countEver : Cond.instanceMethod yX4_countEver ∈ mW := mWin 356 (by decide +kernel) (by decide +kernel)
theorem qS_X4_countEver : Cond.selects RX4 yX4_countEver yX4_countEver ∈ mW := mWin 357 (by decide +kernel) (by decide +kernel)
theorem qC_X4_countEver : Cond.code yX4_countEver prog_6_method_8_code 1 (Option.some Jvm.ClassFile.FieldType.int) ∈ mW := mWin 358 (by decide +kernel) (by decide +kernel)
theorem qL_X2_219 : Cond.methodLink RX2 219 yX4_commonBowls ∈ mW := mWin 359 (by decide +kernel) (by decide +kernel)
theorem qI_X4_commonBowls : Cond.instanceMethod yX4_commonBowls ∈ mW := mWin 360 (by decide +kernel) (by decide +kernel)
theorem qS_X4_commonBowls : Cond.selects RX4 yX4_commonBowls yX4_commonBowls ∈ mW := mWin 361 (by decide +kernel) (by decide +kernel)
theorem qC_X4_commonBowls : Cond.code yX4_commonBowls prog_6_method_16_code 1 (Option.some Jvm.ClassFile.FieldType.int) ∈ mW := mWin 362 (by decide +kernel) (by decide +kernel)
theorem qL_X4_68 : Cond.methodLink RX4 68 yX4_ownedBowls ∈ mW := mWin 363 (by decide +kernel) (by decide +kernel)
theorem qI_X4_ownedBowls : Cond.instanceMethod yX4_ownedBowls ∈ mW := mWin 364 (by decide +kernel) (by decide +kernel)
theorem qS_X4_ownedBowls : Cond.selects RX4 yX4_ownedBowls yX4_ownedBowls ∈ mW := mWin 365 (by decide +kernel) (by decide +kernel)
theorem qC_X4_ownedBowls : Cond.code yX4_ownedBowls prog_6_method_15_code 3 (Option.some Jvm.ClassFile.FieldType.int) ∈ mW := mWin 366 (by decide +kernel) (by decide +kernel)
theorem qL_X2_118 : Cond.methodLink RX2 118 yX1_count ∈ mW := mWin 367 (by decide +kernel) (by decide +kernel)
theorem qI_X1_count : Cond.instanceMethod yX1_count ∈ mW := mWin 368 (by decide +kernel) (by decide +kernel)
theorem qS_X1_count : Cond.selects RX1 yX1_count yX1_count ∈ mW := mWin 369 (by decide +kernel) (by decide +kernel)
theorem qC_X1_count : Cond.code yX1_count prog_3_method_5_code 1 (Option.some Jvm.ClassFile.FieldType.int) ∈ mW := mWin 370 (by decide +kernel) (by decide +kernel)
theorem qL_X2_222 : Cond.methodLink RX2 222 yX4_sumOfCoins ∈ mW := mWin 371 (by decide +kernel) (by decide +kernel)
theorem qI_X4_sumOfCoins : Cond.instanceMethod yX4_sumOfCoins ∈ mW := mWin 372 (by decide +kernel) (by decide +kernel)
theorem qS_X4_sumOfCoins : Cond.selects RX4 yX4_sumOfCoins yX4_sumOfCoins ∈ mW := mWin 373 (by decide +kernel) (by decide +kernel)
theorem qC_X4_sumOfCoins : Cond.code yX4_sumOfCoins prog_6_method_17_code 3 (Option.some Jvm.ClassFile.FieldType.int) ∈ mW := mWin 374 (by decide +kernel) (by decide +kernel)
theorem qL_X5_172 : Cond.methodLink RX5 172 yX5_imagineLater ∈ mW := mWin 375 (by decide +kernel) (by decide +kernel)
theorem qI_X5_imagineLater : Cond.instanceMethod yX5_imagineLater ∈ mW := mWin 377 (by decide +kernel) (by decide +kernel)
theorem qC_X5_imagineLater : Cond.code yX5_imagineLater prog_1_method_26_code 3 (Option.none : Option Jvm.ClassFile.FieldType) ∈ mW := mWin 378 (by decide +kernel) (by decide +kernel)
theorem qL_X5_179 : Cond.methodLink RX5 179 yX2_becomeLike ∈ mW := mWin 379 (by decide +kernel) (by decide +kernel)
theorem qI_X2_becomeLike : Cond.instanceMethod yX2_becomeLike ∈ mW := mWin 380 (by decide +kernel) (by decide +kernel)
theorem qS_X2_becomeLike : Cond.selects RX2 yX2_becomeLike yX2_becomeLike ∈ mW := mWin 381 (by decide +kernel) (by decide +kernel)
theorem qC_X2_becomeLike : Cond.code yX2_becomeLike prog_4_method_2_code 2 (Option.none : Option Jvm.ClassFile.FieldType) ∈ mW := mWin 382 (by decide +kernel) (by decide +kernel)
theorem qL_X2_35 : Cond.methodLink RX2 35 yX0_becomeLike ∈ mW := mWin 383 (by decide +kernel) (by decide +kernel)
theorem qI_X0_becomeLike : Cond.instanceMethod yX0_becomeLike ∈ mW := mWin 384 (by decide +kernel) (by decide +kernel)
theorem qS_X0_becomeLike : Cond.selects RX0 yX0_becomeLike yX0_becomeLike ∈ mW := mWin 385 (by decide +kernel) (by decide +kernel)
theorem qC_X0_becomeLike : Cond.code yX0_becomeLike prog_2_method_2_code 2 (Option.none : Option Jvm.ClassFile.FieldType) ∈ mW := mWin 386 (by decide +kernel) (by decide +kernel)
theorem qL_X2_39 : Cond.methodLink RX2 39 yX4_becomeLike ∈ mW := mWin 387 (by decide +kernel) (by decide +kernel)
theorem qI_X4_becomeLike : Cond.instanceMethod yX4_becomeLike ∈ mW := mWin 388 (by decide +kernel) (by decide +kernel)
theorem qS_X4_becomeLike : Cond.selects RX4 yX4_becomeLike yX4_becomeLike ∈ mW := mWin 389 (by decide +kernel) (by decide +kernel)
theorem qC_X4_becomeLike : Cond.code yX4_becomeLike prog_6_method_2_code 3 (Option.none : Option Jvm.ClassFile.FieldType) ∈ mW := mWin 390 (by decide +kernel) (by decide +kernel)
theorem qL_X4_32 : Cond.methodLink RX4 32 yX3_becomeLike ∈ mW := mWin 391 (by decide +kernel) (by decide +kernel)
theorem qI_X3_becomeLike : Cond.instanceMethod yX3_becomeLike ∈ mW := mWin 392 (by decide +kernel) (by decide +kernel)
theorem qS_X3_becomeLike : Cond.selects RX3 yX3_becomeLike yX3_becomeLike ∈ mW := mWin 393 (by decide +kernel) (by decide +kernel)
theorem qC_X3_becomeLike : Cond.code yX3_becomeLike prog_5_method_2_code 2 (Option.none : Option Jvm.ClassFile.FieldType) ∈ mW := mWin 394 (by decide +kernel) (by decide +kernel)
theorem qL_X4_46 : Cond.methodLink RX4 46 yX4_putAt ∈ mW := mWin 395 (by decide +kernel) (by decide +kernel)
theorem qI_X4_putAt : Cond.instanceMethod yX4_putAt ∈ mW := mWin 397 (by decide +kernel) (by decide +kernel)
theorem qC_X4_putAt : Cond.code yX4_putAt prog_6_method_5_code 3 (Option.none : Option Jvm.ClassFile.FieldType) ∈ mW := mWin 398 (by decide +kernel) (by decide +kernel)
theorem qL_X2_42 : Cond.methodLink RX2 42 yX1_becomeLike ∈ mW := mWin 399 (by decide +kernel) (by decide +kernel)
theorem qI_X1_becomeLike : Cond.instanceMethod yX1_becomeLike ∈ mW := mWin 400 (by decide +kernel) (by decide +kernel)
theorem qS_X1_becomeLike : Cond.selects RX1 yX1_becomeLike yX1_becomeLike ∈ mW := mWin 401 (by decide +kernel) (by decide +kernel)
theorem qC_X1_becomeLike : Cond.code yX1_becomeLike prog_3_method_2_code 4 (Option.none : Option Jvm.ClassFile.FieldType) ∈ mW := mWin 402 (by decide +kernel) (by decide +kernel)
theorem qL_X1_19 : Cond.methodLink RX1 19 yX1_get ∈ mW := mWin 403 (by decide +kernel) (by decide +kernel)
theorem qI_X1_get : Cond.instanceMethod yX1_get ∈ mW := mWin 404 (by decide +kernel) (by decide +kernel)
theorem qS_X1_get : Cond.selects RX1 yX1_get yX1_get ∈ mW := mWin 405 (by decide +kernel) (by decide +kernel)
theorem qC_X1_get : Cond.code yX1_get prog_3_method_3_code 4 (Option.some Jvm.ClassFile.FieldType.int) ∈ mW := mWin 406 (by decide +kernel) (by decide +kernel)
theorem qL_X1_23 : Cond.methodLink RX1 23 yX1_set ∈ mW := mWin 407 (by decide +kernel) (by decide +kernel)
theorem qI_X1_set : Cond.instanceMethod yX1_set ∈ mW := mWin 409 (by decide +kernel) (by decide +kernel)
theorem qC_X1_set : Cond.code yX1_set prog_3_method_4_code 5 (Option.none : Option Jvm.ClassFile.FieldType) ∈ mW := mWin 410 (by decide +kernel) (by decide +kernel)
theorem qL_X5_142 : Cond.methodLink RX5 142 yX2_letDaysGoBy ∈ mW := mWin 411 (by decide +kernel) (by decide +kernel)
theorem qI_X2_letDaysGoBy : Cond.instanceMethod yX2_letDaysGoBy ∈ mW := mWin 412 (by decide +kernel) (by decide +kernel)
theorem qS_X2_letDaysGoBy : Cond.selects RX2 yX2_letDaysGoBy yX2_letDaysGoBy ∈ mW := mWin 413 (by decide +kernel) (by decide +kernel)
theorem qC_X2_letDaysGoBy : Cond.code yX2_letDaysGoBy prog_4_method_5_code 5 (Option.some Jvm.ClassFile.FieldType.int) ∈ mW := mWin 414 (by decide +kernel) (by decide +kernel)
theorem qL_X2_62 : Cond.methodLink RX2 62 yX2_letDayGoBy ∈ mW := mWin 415 (by decide +kernel) (by decide +kernel)
theorem qI_X2_letDayGoBy : Cond.instanceMethod yX2_letDayGoBy ∈ mW := mWin 417 (by decide +kernel) (by decide +kernel)
theorem qC_X2_letDayGoBy : Cond.code yX2_letDayGoBy prog_4_method_6_code 4 (Option.some Jvm.ClassFile.FieldType.int) ∈ mW := mWin 418 (by decide +kernel) (by decide +kernel)
theorem qL_X2_66 : Cond.methodLink RX2 66 yX0_letDayGoBy ∈ mW := mWin 419 (by decide +kernel) (by decide +kernel)
theorem qI_X0_letDayGoBy : Cond.instanceMethod yX0_letDayGoBy ∈ mW := mWin 420 (by decide +kernel) (by decide +kernel)
theorem qS_X0_letDayGoBy : Cond.selects RX0 yX0_letDayGoBy yX0_letDayGoBy ∈ mW := mWin 421 (by decide +kernel) (by decide +kernel)
theorem qC_X0_letDayGoBy : Cond.code yX0_letDayGoBy prog_2_method_4_code 3 (Option.none : Option Jvm.ClassFile.FieldType) ∈ mW := mWin 422 (by decide +kernel) (by decide +kernel)
theorem qL_X0_30 : Cond.methodLink RX0 30 yX0_flow ∈ mW := mWin 423 (by decide +kernel) (by decide +kernel)
theorem qL_X0_34 : Cond.methodLink RX0 34 (⟨"java/lang/Math", "min", "(II)I"⟩ : MethodName) ∈ mW := mWin 424 (by decide +kernel) (by decide +kernel)
theorem qT_Math_min : Cond.static (⟨"java/lang/Math", "min", "(II)I"⟩ : MethodName) ∈ mW := mWin 425 (by decide +kernel) (by decide +kernel)
theorem qC_Math_min : Cond.code (⟨"java/lang/Math", "min", "(II)I"⟩ : MethodName) prog_14_method_69_code 2 (Option.some Jvm.ClassFile.FieldType.int) ∈ mW := mWin 426 (by decide +kernel) (by decide +kernel)
theorem qL_X0_37 : Cond.methodLink RX0 37 yX0_addMud ∈ mW := mWin 427 (by decide +kernel) (by decide +kernel)
theorem qI_X0_addMud : Cond.instanceMethod yX0_addMud ∈ mW := mWin 428 (by decide +kernel) (by decide +kernel)
theorem qS_X0_addMud : Cond.selects RX0 yX0_addMud yX0_addMud ∈ mW := mWin 429 (by decide +kernel) (by decide +kernel)
theorem qC_X0_addMud : Cond.code yX0_addMud prog_2_method_5_code 2 (Option.none : Option Jvm.ClassFile.FieldType) ∈ mW := mWin 430 (by decide +kernel) (by decide +kernel)
theorem qL_X2_69 : Cond.methodLink RX2 69 yX2_giveWater ∈ mW := mWin 431 (by decide +kernel) (by decide +kernel)
theorem qI_X2_giveWater : Cond.instanceMethod yX2_giveWater ∈ mW := mWin 433 (by decide +kernel) (by decide +kernel)
theorem qC_X2_giveWater : Cond.code yX2_giveWater prog_4_method_7_code 8 (Option.some Jvm.ClassFile.FieldType.int) ∈ mW := mWin 434 (by decide +kernel) (by decide +kernel)
theorem qL_X2_91 : Cond.methodLink RX2 91 yX4_standing ∈ mW := mWin 435 (by decide +kernel) (by decide +kernel)
theorem qL_X2_100 : Cond.methodLink RX2 100 yX2_giveLentWater ∈ mW := mWin 436 (by decide +kernel) (by decide +kernel)
theorem qI_X2_giveLentWater : Cond.instanceMethod yX2_giveLentWater ∈ mW := mWin 438 (by decide +kernel) (by decide +kernel)
theorem qC_X2_giveLentWater : Cond.code yX2_giveLentWater prog_4_method_8_code 9 (Option.some Jvm.ClassFile.FieldType.int) ∈ mW := mWin 439 (by decide +kernel) (by decide +kernel)
theorem qL_X2_121 : Cond.methodLink RX2 121 yX1_get ∈ mW := mWin 440 (by decide +kernel) (by decide +kernel)
theorem qL_X2_128 : Cond.methodLink RX2 128 yX4_numbered ∈ mW := mWin 441 (by decide +kernel) (by decide +kernel)
theorem qL_X2_107 : Cond.methodLink RX2 107 yX2_bowlsOfDay ∈ mW := mWin 442 (by decide +kernel) (by decide +kernel)
theorem qT_X2_bowlsOfDay : Cond.static yX2_bowlsOfDay ∈ mW := mWin 443 (by decide +kernel) (by decide +kernel)
theorem qC_X2_bowlsOfDay : Cond.code yX2_bowlsOfDay prog_4_method_9_code 5 (Option.some Jvm.ClassFile.FieldType.int) ∈ mW := mWin 444 (by decide +kernel) (by decide +kernel)
theorem qL_X2_131 : Cond.methodLink RX2 131 (⟨"java/lang/Math", "max", "(II)I"⟩ : MethodName) ∈ mW := mWin 445 (by decide +kernel) (by decide +kernel)
theorem qL_X2_136 : Cond.methodLink RX2 136 (⟨"java/lang/Math", "min", "(II)I"⟩ : MethodName) ∈ mW := mWin 446 (by decide +kernel) (by decide +kernel)
theorem qL_X2_111 : Cond.methodLink RX2 111 yX3_takeFlowing ∈ mW := mWin 447 (by decide +kernel) (by decide +kernel)
theorem qI_X3_takeFlowing : Cond.instanceMethod yX3_takeFlowing ∈ mW := mWin 448 (by decide +kernel) (by decide +kernel)
theorem qS_X3_takeFlowing : Cond.selects RX3 yX3_takeFlowing yX3_takeFlowing ∈ mW := mWin 449 (by decide +kernel) (by decide +kernel)
theorem qC_X3_takeFlowing : Cond.code yX3_takeFlowing prog_5_method_8_code 2 (Option.none : Option Jvm.ClassFile.FieldType) ∈ mW := mWin 450 (by decide +kernel) (by decide +kernel)
theorem qL_X2_72 : Cond.methodLink RX2 72 yX4_growPalms ∈ mW := mWin 451 (by decide +kernel) (by decide +kernel)
theorem qI_X4_growPalms : Cond.instanceMethod yX4_growPalms ∈ mW := mWin 452 (by decide +kernel) (by decide +kernel)
theorem qS_X4_growPalms : Cond.selects RX4 yX4_growPalms yX4_growPalms ∈ mW := mWin 453 (by decide +kernel) (by decide +kernel)
theorem qC_X4_growPalms : Cond.code yX4_growPalms prog_6_method_20_code 3 (Option.none : Option Jvm.ClassFile.FieldType) ∈ mW := mWin 454 (by decide +kernel) (by decide +kernel)
theorem qL_X4_78 : Cond.methodLink RX4 78 yX3_growPalms ∈ mW := mWin 455 (by decide +kernel) (by decide +kernel)
theorem qI_X3_growPalms : Cond.instanceMethod yX3_growPalms ∈ mW := mWin 456 (by decide +kernel) (by decide +kernel)
theorem qS_X3_growPalms : Cond.selects RX3 yX3_growPalms yX3_growPalms ∈ mW := mWin 457 (by decide +kernel) (by decide +kernel)
theorem qC_X3_growPalms : Cond.code yX3_growPalms prog_5_method_9_code 4 (Option.none : Option Jvm.ClassFile.FieldType) ∈ mW := mWin 458 (by decide +kernel) (by decide +kernel)
theorem qL_X3_68 : Cond.methodLink RX3 68 (⟨"java/lang/Math", "min", "(II)I"⟩ : MethodName) ∈ mW := mWin 459 (by decide +kernel) (by decide +kernel)
theorem qL_X3_71 : Cond.methodLink RX3 71 (⟨"java/lang/Math", "max", "(II)I"⟩ : MethodName) ∈ mW := mWin 460 (by decide +kernel) (by decide +kernel)
theorem qL_X2_76 : Cond.methodLink RX2 76 yX4_reap ∈ mW := mWin 461 (by decide +kernel) (by decide +kernel)
theorem qI_X4_reap : Cond.instanceMethod yX4_reap ∈ mW := mWin 462 (by decide +kernel) (by decide +kernel)
theorem qS_X4_reap : Cond.selects RX4 yX4_reap yX4_reap ∈ mW := mWin 463 (by decide +kernel) (by decide +kernel)
theorem qC_X4_reap : Cond.code yX4_reap prog_6_method_21_code 3 (Option.some Jvm.ClassFile.FieldType.int) ∈ mW := mWin 464 (by decide +kernel) (by decide +kernel)
theorem qL_X4_82 : Cond.methodLink RX4 82 yX3_reap ∈ mW := mWin 465 (by decide +kernel) (by decide +kernel)
theorem qI_X3_reap : Cond.instanceMethod yX3_reap ∈ mW := mWin 466 (by decide +kernel) (by decide +kernel)
theorem qS_X3_reap : Cond.selects RX3 yX3_reap yX3_reap ∈ mW := mWin 467 (by decide +kernel) (by decide +kernel)
theorem qC_X3_reap : Cond.code yX3_reap prog_5_method_10_code 1 (Option.none : Option Jvm.ClassFile.FieldType) ∈ mW := mWin 468 (by decide +kernel) (by decide +kernel)
theorem qL_X2_79 : Cond.methodLink RX2 79 yX2_deliverSales ∈ mW := mWin 469 (by decide +kernel) (by decide +kernel)
theorem qI_X2_deliverSales : Cond.instanceMethod yX2_deliverSales ∈ mW := mWin 471 (by decide +kernel) (by decide +kernel)
theorem qC_X2_deliverSales : Cond.code yX2_deliverSales prog_4_method_10_code 6 (Option.none : Option Jvm.ClassFile.FieldType) ∈ mW := mWin 472 (by decide +kernel) (by decide +kernel)
theorem qL_X2_142 : Cond.methodLink RX2 142 yX3_payTo ∈ mW := mWin 473 (by decide +kernel) (by decide +kernel)
theorem qI_X3_payTo : Cond.instanceMethod yX3_payTo ∈ mW := mWin 474 (by decide +kernel) (by decide +kernel)
theorem qS_X3_payTo : Cond.selects RX3 yX3_payTo yX3_payTo ∈ mW := mWin 475 (by decide +kernel) (by decide +kernel)
theorem qC_X3_payTo : Cond.code yX3_payTo prog_5_method_6_code 3 (Option.none : Option Jvm.ClassFile.FieldType) ∈ mW := mWin 476 (by decide +kernel) (by decide +kernel)
theorem qL_X2_146 : Cond.methodLink RX2 146 yX1_clear ∈ mW := mWin 477 (by decide +kernel) (by decide +kernel)
theorem qI_X1_clear : Cond.instanceMethod yX1_clear ∈ mW := mWin 478 (by decide +kernel) (by decide +kernel)
theorem qS_X1_clear : Cond.selects RX1 yX1_clear yX1_clear ∈ mW := mWin 479 (by decide +kernel) (by decide +kernel)
theorem qC_X1_clear : Cond.code yX1_clear prog_3_method_8_code 1 (Option.none : Option Jvm.ClassFile.FieldType) ∈ mW := mWin 480 (by decide +kernel) (by decide +kernel)
theorem qL_X2_82 : Cond.methodLink RX2 82 yX1_shorten ∈ mW := mWin 481 (by decide +kernel) (by decide +kernel)
theorem qI_X1_shorten : Cond.instanceMethod yX1_shorten ∈ mW := mWin 482 (by decide +kernel) (by decide +kernel)
theorem qS_X1_shorten : Cond.selects RX1 yX1_shorten yX1_shorten ∈ mW := mWin 483 (by decide +kernel) (by decide +kernel)
theorem qC_X1_shorten : Cond.code yX1_shorten prog_3_method_10_code 4 (Option.none : Option Jvm.ClassFile.FieldType) ∈ mW := mWin 484 (by decide +kernel) (by decide +kernel)
theorem qL_X1_27 : Cond.methodLink RX1 27 yX1_moveTo ∈ mW := mWin 485 (by decide +kernel) (by decide +kernel)
theorem qI_X1_moveTo : Cond.instanceMethod yX1_moveTo ∈ mW := mWin 487 (by decide +kernel) (by decide +kernel)
theorem qC_X1_moveTo : Cond.code yX1_moveTo prog_3_method_12_code 4 (Option.none : Option Jvm.ClassFile.FieldType) ∈ mW := mWin 488 (by decide +kernel) (by decide +kernel)
theorem qL_X5_183 : Cond.methodLink RX5 183 yX5_imagineHarvest ∈ mW := mWin 489 (by decide +kernel) (by decide +kernel)
theorem qI_X5_imagineHarvest : Cond.instanceMethod yX5_imagineHarvest ∈ mW := mWin 491 (by decide +kernel) (by decide +kernel)
theorem qC_X5_imagineHarvest : Cond.code yX5_imagineHarvest prog_1_method_28_code 2 (Option.none : Option Jvm.ClassFile.FieldType) ∈ mW := mWin 492 (by decide +kernel) (by decide +kernel)
theorem qL_X5_224 : Cond.methodLink RX5 224 yX2_daysToHarvest ∈ mW := mWin 493 (by decide +kernel) (by decide +kernel)
theorem qI_X2_daysToHarvest : Cond.instanceMethod yX2_daysToHarvest ∈ mW := mWin 494 (by decide +kernel) (by decide +kernel)
theorem qS_X2_daysToHarvest : Cond.selects RX2 yX2_daysToHarvest yX2_daysToHarvest ∈ mW := mWin 495 (by decide +kernel) (by decide +kernel)
theorem qC_X2_daysToHarvest : Cond.code yX2_daysToHarvest prog_4_method_4_code 2 (Option.some Jvm.ClassFile.FieldType.int) ∈ mW := mWin 496 (by decide +kernel) (by decide +kernel)
theorem qL_X5_196 : Cond.methodLink RX5 196 yX5_digestOwners ∈ mW := mWin 497 (by decide +kernel) (by decide +kernel)
theorem qI_X5_digestOwners : Cond.instanceMethod yX5_digestOwners ∈ mW := mWin 499 (by decide +kernel) (by decide +kernel)
theorem qC_X5_digestOwners : Cond.code yX5_digestOwners prog_1_method_25_code 7 (Option.some Jvm.ClassFile.FieldType.long) ∈ mW := mWin 500 (by decide +kernel) (by decide +kernel)
theorem qL_X5_215 : Cond.methodLink RX5 215 yX4_isLiving ∈ mW := mWin 501 (by decide +kernel) (by decide +kernel)
theorem qI_X4_isLiving : Cond.instanceMethod yX4_isLiving ∈ mW := mWin 502 (by decide +kernel) (by decide +kernel)
theorem qS_X4_isLiving : Cond.selects RX4 yX4_isLiving yX4_isLiving ∈ mW := mWin 503 (by decide +kernel) (by decide +kernel)
theorem qC_X4_isLiving : Cond.code yX4_isLiving prog_6_method_6_code 2 (Option.some Jvm.ClassFile.FieldType.boolean) ∈ mW := mWin 504 (by decide +kernel) (by decide +kernel)
theorem qL_X5_218 : Cond.methodLink RX5 218 yX5_of ∈ mW := mWin 505 (by decide +kernel) (by decide +kernel)
theorem qI_X5_of : Cond.instanceMethod yX5_of ∈ mW := mWin 506 (by decide +kernel) (by decide +kernel)
theorem qS_X5_of : Cond.selects RX5 yX5_of yX5_of ∈ mW := mWin 507 (by decide +kernel) (by decide +kernel)
theorem qC_X5_of : Cond.code yX5_of prog_1_method_14_code 3 (Option.some Jvm.ClassFile.FieldType.int) ∈ mW := mWin 508 (by decide +kernel) (by decide +kernel)
theorem qL_X5_51 : Cond.methodLink RX5 51 yX5_mustLive ∈ mW := mWin 509 (by decide +kernel) (by decide +kernel)
theorem qI_X5_mustLive : Cond.instanceMethod yX5_mustLive ∈ mW := mWin 511 (by decide +kernel) (by decide +kernel)
theorem qC_X5_mustLive : Cond.code yX5_mustLive prog_1_method_34_code 2 (Option.none : Option Jvm.ClassFile.FieldType) ∈ mW := mWin 512 (by decide +kernel) (by decide +kernel)
theorem qL_X5_150 : Cond.methodLink RX5 150 yX5_mustExist ∈ mW := mWin 513 (by decide +kernel) (by decide +kernel)
theorem qT_X5_mustExist : Cond.static yX5_mustExist ∈ mW := mWin 514 (by decide +kernel) (by decide +kernel)
theorem qC_X5_mustExist : Cond.code yX5_mustExist prog_1_method_33_code 1 (Option.none : Option Jvm.ClassFile.FieldType) ∈ mW := mWin 515 (by decide +kernel) (by decide +kernel)
theorem qK_X5_236 : Cond.classLink RX5 236 "java/lang/IndexOutOfBoundsException" ∈ mW := mWin 516 (by decide +kernel) (by decide +kernel)
theorem qN_IndexOutOfBoundsException : Cond.instantiable "java/lang/IndexOutOfBoundsException" 6 ∈ mW := mWin 517 (by decide +kernel) (by decide +kernel)
theorem qL_X5_238 : Cond.methodLink RX5 238 (⟨"java/lang/IndexOutOfBoundsException", "<init>", "()V"⟩ : MethodName) ∈ mW := mWin 525 (by decide +kernel) (by decide +kernel)
theorem qI_IndexOutOfBoundsException_init : Cond.instanceMethod (⟨"java/lang/IndexOutOfBoundsException", "<init>", "()V"⟩ : MethodName) ∈ mW := mWin 526 (by decide +kernel) (by decide +kernel)
theorem qC_IndexOutOfBoundsException_init : Cond.code (⟨"java/lang/IndexOutOfBoundsException", "<init>", "()V"⟩ : MethodName) prog_13_method_1_code 1 (Option.none : Option Jvm.ClassFile.FieldType) ∈ mW := mWin 527 (by decide +kernel) (by decide +kernel)
theorem qL_IndexOutOfBoundsException_1 : Cond.methodLink "java/lang/IndexOutOfBoundsException" 1 (⟨"java/lang/RuntimeException", "<init>", "()V"⟩ : MethodName) ∈ mW := mWin 528 (by decide +kernel) (by decide +kernel)
theorem qL_X5_55 : Cond.methodLink RX5 55 yX4_numbered ∈ mW := mWin 531 (by decide +kernel) (by decide +kernel)
theorem qL_X5_146 : Cond.methodLink RX5 146 yX2_askOwner ∈ mW := mWin 532 (by decide +kernel) (by decide +kernel)
theorem qI_X2_askOwner : Cond.instanceMethod yX2_askOwner ∈ mW := mWin 533 (by decide +kernel) (by decide +kernel)
theorem qS_X2_askOwner : Cond.selects RX2 yX2_askOwner yX2_askOwner ∈ mW := mWin 534 (by decide +kernel) (by decide +kernel)
theorem qC_X2_askOwner : Cond.code yX2_askOwner prog_4_method_14_code 3 (Option.some Jvm.ClassFile.FieldType.int) ∈ mW := mWin 535 (by decide +kernel) (by decide +kernel)
theorem qL_X2_189 : Cond.methodLink RX2 189 yX4_placeOf ∈ mW := mWin 536 (by decide +kernel) (by decide +kernel)
theorem qI_X4_placeOf : Cond.instanceMethod yX4_placeOf ∈ mW := mWin 537 (by decide +kernel) (by decide +kernel)
theorem qS_X4_placeOf : Cond.selects RX4 yX4_placeOf yX4_placeOf ∈ mW := mWin 538 (by decide +kernel) (by decide +kernel)
theorem qC_X4_placeOf : Cond.code yX4_placeOf prog_6_method_12_code 3 (Option.some Jvm.ClassFile.FieldType.int) ∈ mW := mWin 539 (by decide +kernel) (by decide +kernel)
theorem qL_X2_170 : Cond.methodLink RX2 170 yX4_firstBowl ∈ mW := mWin 540 (by decide +kernel) (by decide +kernel)
theorem qI_X4_firstBowl : Cond.instanceMethod yX4_firstBowl ∈ mW := mWin 541 (by decide +kernel) (by decide +kernel)
theorem qS_X4_firstBowl : Cond.selects RX4 yX4_firstBowl yX4_firstBowl ∈ mW := mWin 542 (by decide +kernel) (by decide +kernel)
theorem qC_X4_firstBowl : Cond.code yX4_firstBowl prog_6_method_13_code 4 (Option.some Jvm.ClassFile.FieldType.int) ∈ mW := mWin 543 (by decide +kernel) (by decide +kernel)
theorem qL_X2_192 : Cond.methodLink RX2 192 yX2_unlentBowls ∈ mW := mWin 544 (by decide +kernel) (by decide +kernel)
theorem qI_X2_unlentBowls : Cond.instanceMethod yX2_unlentBowls ∈ mW := mWin 545 (by decide +kernel) (by decide +kernel)
theorem qS_X2_unlentBowls : Cond.selects RX2 yX2_unlentBowls yX2_unlentBowls ∈ mW := mWin 546 (by decide +kernel) (by decide +kernel)
theorem qC_X2_unlentBowls : Cond.code yX2_unlentBowls prog_4_method_12_code 2 (Option.some Jvm.ClassFile.FieldType.int) ∈ mW := mWin 547 (by decide +kernel) (by decide +kernel)
theorem qL_X2_164 : Cond.methodLink RX2 164 yX1_amountOf ∈ mW := mWin 548 (by decide +kernel) (by decide +kernel)
theorem qI_X1_amountOf : Cond.instanceMethod yX1_amountOf ∈ mW := mWin 549 (by decide +kernel) (by decide +kernel)
theorem qS_X1_amountOf : Cond.selects RX1 yX1_amountOf yX1_amountOf ∈ mW := mWin 550 (by decide +kernel) (by decide +kernel)
theorem qC_X1_amountOf : Cond.code yX1_amountOf prog_3_method_9_code 5 (Option.some Jvm.ClassFile.FieldType.int) ∈ mW := mWin 551 (by decide +kernel) (by decide +kernel)
theorem qL_X2_198 : Cond.methodLink RX2 198 yX3_pollenPalms ∈ mW := mWin 552 (by decide +kernel) (by decide +kernel)
theorem qI_X3_pollenPalms : Cond.instanceMethod yX3_pollenPalms ∈ mW := mWin 553 (by decide +kernel) (by decide +kernel)
theorem qS_X3_pollenPalms : Cond.selects RX3 yX3_pollenPalms yX3_pollenPalms ∈ mW := mWin 554 (by decide +kernel) (by decide +kernel)
theorem qC_X3_pollenPalms : Cond.code yX3_pollenPalms prog_5_method_7_code 1 (Option.some Jvm.ClassFile.FieldType.int) ∈ mW := mWin 555 (by decide +kernel) (by decide +kernel)
theorem qL_X5_176 : Cond.methodLink RX5 176 yX5_cameUntilLater ∈ mW := mWin 556 (by decide +kernel) (by decide +kernel)
theorem qI_X5_cameUntilLater : Cond.instanceMethod yX5_cameUntilLater ∈ mW := mWin 558 (by decide +kernel) (by decide +kernel)
theorem qC_X5_cameUntilLater : Cond.code yX5_cameUntilLater prog_1_method_27_code 2 (Option.some Jvm.ClassFile.FieldType.int) ∈ mW := mWin 559 (by decide +kernel) (by decide +kernel)
theorem qL_X5_186 : Cond.methodLink RX5 186 yX5_reapedAtHarvest ∈ mW := mWin 560 (by decide +kernel) (by decide +kernel)
theorem qI_X5_reapedAtHarvest : Cond.instanceMethod yX5_reapedAtHarvest ∈ mW := mWin 562 (by decide +kernel) (by decide +kernel)
theorem qC_X5_reapedAtHarvest : Cond.code yX5_reapedAtHarvest prog_1_method_29_code 2 (Option.some Jvm.ClassFile.FieldType.int) ∈ mW := mWin 563 (by decide +kernel) (by decide +kernel)
theorem qL_X5_200 : Cond.methodLink RX5 200 yX5_ofBowl ∈ mW := mWin 564 (by decide +kernel) (by decide +kernel)
theorem qI_X5_ofBowl : Cond.instanceMethod yX5_ofBowl ∈ mW := mWin 565 (by decide +kernel) (by decide +kernel)
theorem qS_X5_ofBowl : Cond.selects RX5 yX5_ofBowl yX5_ofBowl ∈ mW := mWin 566 (by decide +kernel) (by decide +kernel)
theorem qC_X5_ofBowl : Cond.code yX5_ofBowl prog_1_method_15_code 3 (Option.some Jvm.ClassFile.FieldType.int) ∈ mW := mWin 567 (by decide +kernel) (by decide +kernel)
theorem qL_X5_153 : Cond.methodLink RX5 153 yX4_holderOf ∈ mW := mWin 568 (by decide +kernel) (by decide +kernel)
theorem qI_X4_holderOf : Cond.instanceMethod yX4_holderOf ∈ mW := mWin 569 (by decide +kernel) (by decide +kernel)
theorem qS_X4_holderOf : Cond.selects RX4 yX4_holderOf yX4_holderOf ∈ mW := mWin 570 (by decide +kernel) (by decide +kernel)
theorem qC_X4_holderOf : Cond.code yX4_holderOf prog_6_method_14_code 4 (Option.some Jvm.ClassFile.FieldType.int) ∈ mW := mWin 571 (by decide +kernel) (by decide +kernel)
theorem qL_X5_157 : Cond.methodLink RX5 157 yX2_userOf ∈ mW := mWin 572 (by decide +kernel) (by decide +kernel)
theorem qI_X2_userOf : Cond.instanceMethod yX2_userOf ∈ mW := mWin 573 (by decide +kernel) (by decide +kernel)
theorem qS_X2_userOf : Cond.selects RX2 yX2_userOf yX2_userOf ∈ mW := mWin 574 (by decide +kernel) (by decide +kernel)
theorem qC_X2_userOf : Cond.code yX2_userOf prog_4_method_13_code 6 (Option.some Jvm.ClassFile.FieldType.int) ∈ mW := mWin 575 (by decide +kernel) (by decide +kernel)
theorem qL_X2_167 : Cond.methodLink RX2 167 yX4_holderOf ∈ mW := mWin 576 (by decide +kernel) (by decide +kernel)
theorem qL_X5_90 : Cond.methodLink RX5 90 yX1_count ∈ mW := mWin 577 (by decide +kernel) (by decide +kernel)
theorem qL_X5_203 : Cond.methodLink RX5 203 yX5_ofLoan ∈ mW := mWin 578 (by decide +kernel) (by decide +kernel)
theorem qI_X5_ofLoan : Cond.instanceMethod yX5_ofLoan ∈ mW := mWin 579 (by decide +kernel) (by decide +kernel)
theorem qS_X5_ofLoan : Cond.selects RX5 yX5_ofLoan yX5_ofLoan ∈ mW := mWin 580 (by decide +kernel) (by decide +kernel)
theorem qC_X5_ofLoan : Cond.code yX5_ofLoan prog_1_method_16_code 3 (Option.some Jvm.ClassFile.FieldType.int) ∈ mW := mWin 581 (by decide +kernel) (by decide +kernel)
theorem qL_X5_160 : Cond.methodLink RX5 160 yX1_get ∈ mW := mWin 582 (by decide +kernel) (by decide +kernel)
theorem qL_X5_206 : Cond.methodLink RX5 206 yX5_ofSale ∈ mW := mWin 583 (by decide +kernel) (by decide +kernel)
theorem qI_X5_ofSale : Cond.instanceMethod yX5_ofSale ∈ mW := mWin 584 (by decide +kernel) (by decide +kernel)
theorem qS_X5_ofSale : Cond.selects RX5 yX5_ofSale yX5_ofSale ∈ mW := mWin 585 (by decide +kernel) (by decide +kernel)
theorem qC_X5_ofSale : Cond.code yX5_ofSale prog_1_method_17_code 3 (Option.some Jvm.ClassFile.FieldType.int) ∈ mW := mWin 586 (by decide +kernel) (by decide +kernel)
theorem qL_X5_209 : Cond.methodLink RX5 209 yX5_bestDig ∈ mW := mWin 587 (by decide +kernel) (by decide +kernel)
theorem qI_X5_bestDig : Cond.instanceMethod yX5_bestDig ∈ mW := mWin 588 (by decide +kernel) (by decide +kernel)
theorem qS_X5_bestDig : Cond.selects RX5 yX5_bestDig yX5_bestDig ∈ mW := mWin 589 (by decide +kernel) (by decide +kernel)
theorem qC_X5_bestDig : Cond.code yX5_bestDig prog_1_method_21_code 7 (Option.some Jvm.ClassFile.FieldType.int) ∈ mW := mWin 590 (by decide +kernel) (by decide +kernel)
theorem qL_X5_212 : Cond.methodLink RX5 212 yX5_pumpTakes ∈ mW := mWin 591 (by decide +kernel) (by decide +kernel)
theorem qI_X5_pumpTakes : Cond.instanceMethod yX5_pumpTakes ∈ mW := mWin 592 (by decide +kernel) (by decide +kernel)
theorem qS_X5_pumpTakes : Cond.selects RX5 yX5_pumpTakes yX5_pumpTakes ∈ mW := mWin 593 (by decide +kernel) (by decide +kernel)
theorem qC_X5_pumpTakes : Cond.code yX5_pumpTakes prog_1_method_22_code 5 (Option.some Jvm.ClassFile.FieldType.int) ∈ mW := mWin 594 (by decide +kernel) (by decide +kernel)
theorem qL_L_86 : Cond.methodLink RL 86 yL_owner ∈ mW := mWin 595 (by decide +kernel) (by decide +kernel)
theorem qT_L_owner : Cond.static yL_owner ∈ mW := mWin 596 (by decide +kernel) (by decide +kernel)
theorem qW_L_owner : Cond.codeWith yL_owner method_3_code (7 : Nat) (Option.some Jvm.ClassFile.FieldType.int) [((0 : Nat), (14 : Nat), (17 : Nat), (13 : Nat)), ((0 : Nat), (14 : Nat), (21 : Nat), (15 : Nat))] ∈ mW := mWin 597 (by decide +kernel) (by decide +kernel)
theorem qK_L_13 : Cond.classLink RL 13 "java/lang/IllegalArgumentException" ∈ mW := mWin 598 (by decide +kernel) (by decide +kernel)
theorem qK_L_15 : Cond.classLink RL 15 "java/lang/IllegalStateException" ∈ mW := mWin 599 (by decide +kernel) (by decide +kernel)
theorem qL_L_7 : Cond.methodLink RL 7 yX5_owner ∈ mW := mWin 600 (by decide +kernel) (by decide +kernel)
theorem qI_X5_owner : Cond.instanceMethod yX5_owner ∈ mW := mWin 601 (by decide +kernel) (by decide +kernel)
theorem qS_X5_owner : Cond.selects RX5 yX5_owner yX5_owner ∈ mW := mWin 602 (by decide +kernel) (by decide +kernel)
theorem qC_X5_owner : Cond.code yX5_owner prog_1_method_2_code 5 (Option.some Jvm.ClassFile.FieldType.int) ∈ mW := mWin 603 (by decide +kernel) (by decide +kernel)
theorem qL_X5_34 : Cond.methodLink RX5 34 yX4_hasRoomFor ∈ mW := mWin 604 (by decide +kernel) (by decide +kernel)
theorem qI_X4_hasRoomFor : Cond.instanceMethod yX4_hasRoomFor ∈ mW := mWin 605 (by decide +kernel) (by decide +kernel)
theorem qS_X4_hasRoomFor : Cond.selects RX4 yX4_hasRoomFor yX4_hasRoomFor ∈ mW := mWin 606 (by decide +kernel) (by decide +kernel)
theorem qC_X4_hasRoomFor : Cond.code yX4_hasRoomFor prog_6_method_9_code 2 (Option.some Jvm.ClassFile.FieldType.boolean) ∈ mW := mWin 607 (by decide +kernel) (by decide +kernel)
theorem qL_X5_40 : Cond.methodLink RX5 40 yX4_commonBowls ∈ mW := mWin 608 (by decide +kernel) (by decide +kernel)
theorem qL_X5_44 : Cond.methodLink RX5 44 yX5_mustBePossible ∈ mW := mWin 609 (by decide +kernel) (by decide +kernel)
theorem qT_X5_mustBePossible : Cond.static yX5_mustBePossible ∈ mW := mWin 610 (by decide +kernel) (by decide +kernel)
theorem qC_X5_mustBePossible : Cond.code yX5_mustBePossible prog_1_method_32_code 1 (Option.none : Option Jvm.ClassFile.FieldType) ∈ mW := mWin 611 (by decide +kernel) (by decide +kernel)
theorem qK_X5_233 : Cond.classLink RX5 233 "java/lang/IllegalStateException" ∈ mW := mWin 612 (by decide +kernel) (by decide +kernel)
theorem qN_IllegalStateException : Cond.instantiable "java/lang/IllegalStateException" 6 ∈ mW := mWin 613 (by decide +kernel) (by decide +kernel)
theorem qL_X5_235 : Cond.methodLink RX5 235 (⟨"java/lang/IllegalStateException", "<init>", "()V"⟩ : MethodName) ∈ mW := mWin 621 (by decide +kernel) (by decide +kernel)
theorem qI_IllegalStateException_init : Cond.instanceMethod (⟨"java/lang/IllegalStateException", "<init>", "()V"⟩ : MethodName) ∈ mW := mWin 622 (by decide +kernel) (by decide +kernel)
theorem qC_IllegalStateException_init : Cond.code (⟨"java/lang/IllegalStateException", "<init>", "()V"⟩ : MethodName) prog_12_method_1_code 1 (Option.none : Option Jvm.ClassFile.FieldType) ∈ mW := mWin 623 (by decide +kernel) (by decide +kernel)
theorem qL_IllegalStateException_1 : Cond.methodLink "java/lang/IllegalStateException" 1 (⟨"java/lang/RuntimeException", "<init>", "()V"⟩ : MethodName) ∈ mW := mWin 624 (by decide +kernel) (by decide +kernel)
theorem qL_X5_47 : Cond.methodLink RX5 47 yX4_addLast ∈ mW := mWin 627 (by decide +kernel) (by decide +kernel)
theorem qI_X4_addLast : Cond.instanceMethod yX4_addLast ∈ mW := mWin 628 (by decide +kernel) (by decide +kernel)
theorem qS_X4_addLast : Cond.selects RX4 yX4_addLast yX4_addLast ∈ mW := mWin 629 (by decide +kernel) (by decide +kernel)
theorem qC_X4_addLast : Cond.code yX4_addLast prog_6_method_10_code 7 (Option.some Jvm.ClassFile.FieldType.int) ∈ mW := mWin 630 (by decide +kernel) (by decide +kernel)
theorem qL_X4_57 : Cond.methodLink RX4 57 yX3_settle ∈ mW := mWin 631 (by decide +kernel) (by decide +kernel)
theorem qI_X3_settle : Cond.instanceMethod yX3_settle ∈ mW := mWin 632 (by decide +kernel) (by decide +kernel)
theorem qS_X3_settle : Cond.selects RX3 yX3_settle yX3_settle ∈ mW := mWin 633 (by decide +kernel) (by decide +kernel)
theorem qC_X3_settle : Cond.code yX3_settle prog_5_method_3_code 5 (Option.none : Option Jvm.ClassFile.FieldType) ∈ mW := mWin 634 (by decide +kernel) (by decide +kernel)
theorem qL_L_96 : Cond.methodLink RL 96 yL_sell ∈ mW := mWin 635 (by decide +kernel) (by decide +kernel)
theorem qT_L_sell : Cond.static yL_sell ∈ mW := mWin 636 (by decide +kernel) (by decide +kernel)
theorem qW_L_sell : Cond.codeWith yL_sell method_4_code (7 : Nat) (Option.some Jvm.ClassFile.FieldType.int) [((0 : Nat), (14 : Nat), (17 : Nat), (20 : Nat)), ((0 : Nat), (14 : Nat), (21 : Nat), (13 : Nat))] ∈ mW := mWin 637 (by decide +kernel) (by decide +kernel)
theorem qK_L_20 : Cond.classLink RL 20 "java/lang/IndexOutOfBoundsException" ∈ mW := mWin 638 (by decide +kernel) (by decide +kernel)
theorem qL_L_17 : Cond.methodLink RL 17 yX5_sell ∈ mW := mWin 639 (by decide +kernel) (by decide +kernel)
theorem qI_X5_sell : Cond.instanceMethod yX5_sell ∈ mW := mWin 640 (by decide +kernel) (by decide +kernel)
theorem qS_X5_sell : Cond.selects RX5 yX5_sell yX5_sell ∈ mW := mWin 641 (by decide +kernel) (by decide +kernel)
theorem qC_X5_sell : Cond.code yX5_sell prog_1_method_3_code 7 (Option.some Jvm.ClassFile.FieldType.int) ∈ mW := mWin 642 (by decide +kernel) (by decide +kernel)
theorem qL_X5_59 : Cond.methodLink RX5 59 yX2_unlentBowls ∈ mW := mWin 643 (by decide +kernel) (by decide +kernel)
theorem qL_X5_69 : Cond.methodLink RX5 69 yX3_payTo ∈ mW := mWin 644 (by decide +kernel) (by decide +kernel)
theorem qL_L_99 : Cond.methodLink RL 99 yL_lend ∈ mW := mWin 645 (by decide +kernel) (by decide +kernel)
theorem qT_L_lend : Cond.static yL_lend ∈ mW := mWin 646 (by decide +kernel) (by decide +kernel)
theorem qW_L_lend : Cond.codeWith yL_lend method_5_code (7 : Nat) (Option.some Jvm.ClassFile.FieldType.int) [((0 : Nat), (14 : Nat), (17 : Nat), (20 : Nat)), ((0 : Nat), (14 : Nat), (21 : Nat), (13 : Nat)), ((0 : Nat), (14 : Nat), (25 : Nat), (15 : Nat))] ∈ mW := mWin 647 (by decide +kernel) (by decide +kernel)
theorem qL_L_22 : Cond.methodLink RL 22 yX5_lend ∈ mW := mWin 648 (by decide +kernel) (by decide +kernel)
theorem qI_X5_lend : Cond.instanceMethod yX5_lend ∈ mW := mWin 649 (by decide +kernel) (by decide +kernel)
theorem qS_X5_lend : Cond.selects RX5 yX5_lend yX5_lend ∈ mW := mWin 650 (by decide +kernel) (by decide +kernel)
theorem qC_X5_lend : Cond.code yX5_lend prog_1_method_4_code 5 (Option.some Jvm.ClassFile.FieldType.int) ∈ mW := mWin 651 (by decide +kernel) (by decide +kernel)
theorem qL_X5_80 : Cond.methodLink RX5 80 yX1_isFull ∈ mW := mWin 652 (by decide +kernel) (by decide +kernel)
theorem qI_X1_isFull : Cond.instanceMethod yX1_isFull ∈ mW := mWin 653 (by decide +kernel) (by decide +kernel)
theorem qS_X1_isFull : Cond.selects RX1 yX1_isFull yX1_isFull ∈ mW := mWin 654 (by decide +kernel) (by decide +kernel)
theorem qC_X1_isFull : Cond.code yX1_isFull prog_3_method_6_code 1 (Option.some Jvm.ClassFile.FieldType.boolean) ∈ mW := mWin 655 (by decide +kernel) (by decide +kernel)
theorem qL_X5_86 : Cond.methodLink RX5 86 yX1_add ∈ mW := mWin 656 (by decide +kernel) (by decide +kernel)
theorem qI_X1_add : Cond.instanceMethod yX1_add ∈ mW := mWin 657 (by decide +kernel) (by decide +kernel)
theorem qS_X1_add : Cond.selects RX1 yX1_add yX1_add ∈ mW := mWin 658 (by decide +kernel) (by decide +kernel)
theorem qC_X1_add : Cond.code yX1_add prog_3_method_7_code 5 (Option.none : Option Jvm.ClassFile.FieldType) ∈ mW := mWin 659 (by decide +kernel) (by decide +kernel)
theorem qL_L_102 : Cond.methodLink RL 102 yL_die ∈ mW := mWin 660 (by decide +kernel) (by decide +kernel)
theorem qT_L_die : Cond.static yL_die ∈ mW := mWin 661 (by decide +kernel) (by decide +kernel)
theorem qW_L_die : Cond.codeWith yL_die method_6_code (6 : Nat) (Option.some Jvm.ClassFile.FieldType.int) [((0 : Nat), (12 : Nat), (15 : Nat), (20 : Nat)), ((0 : Nat), (12 : Nat), (19 : Nat), (13 : Nat)), ((0 : Nat), (12 : Nat), (23 : Nat), (15 : Nat))] ∈ mW := mWin 662 (by decide +kernel) (by decide +kernel)
theorem qL_L_25 : Cond.methodLink RL 25 yX5_die ∈ mW := mWin 663 (by decide +kernel) (by decide +kernel)
theorem qI_X5_die : Cond.instanceMethod yX5_die ∈ mW := mWin 664 (by decide +kernel) (by decide +kernel)
theorem qS_X5_die : Cond.selects RX5 yX5_die yX5_die ∈ mW := mWin 665 (by decide +kernel) (by decide +kernel)
theorem qC_X5_die : Cond.code yX5_die prog_1_method_5_code 4 (Option.some Jvm.ClassFile.FieldType.int) ∈ mW := mWin 666 (by decide +kernel) (by decide +kernel)
theorem qL_X5_93 : Cond.methodLink RX5 93 yX2_leaveToHeirs ∈ mW := mWin 667 (by decide +kernel) (by decide +kernel)
theorem qI_X2_leaveToHeirs : Cond.instanceMethod yX2_leaveToHeirs ∈ mW := mWin 668 (by decide +kernel) (by decide +kernel)
theorem qS_X2_leaveToHeirs : Cond.selects RX2 yX2_leaveToHeirs yX2_leaveToHeirs ∈ mW := mWin 669 (by decide +kernel) (by decide +kernel)
theorem qC_X2_leaveToHeirs : Cond.code yX2_leaveToHeirs prog_4_method_11_code 7 (Option.some Jvm.ClassFile.FieldType.int) ∈ mW := mWin 670 (by decide +kernel) (by decide +kernel)
theorem qL_X2_149 : Cond.methodLink RX2 149 yX4_putHeirsFor ∈ mW := mWin 671 (by decide +kernel) (by decide +kernel)
theorem qI_X4_putHeirsFor : Cond.instanceMethod yX4_putHeirsFor ∈ mW := mWin 672 (by decide +kernel) (by decide +kernel)
theorem qS_X4_putHeirsFor : Cond.selects RX4 yX4_putHeirsFor yX4_putHeirsFor ∈ mW := mWin 673 (by decide +kernel) (by decide +kernel)
theorem qC_X4_putHeirsFor : Cond.code yX4_putHeirsFor prog_6_method_11_code 6 (Option.some Jvm.ClassFile.FieldType.int) ∈ mW := mWin 674 (by decide +kernel) (by decide +kernel)
theorem qL_X4_61 : Cond.methodLink RX4 61 yX4_placeOf ∈ mW := mWin 675 (by decide +kernel) (by decide +kernel)
theorem qL_X2_153 : Cond.methodLink RX2 153 yX3_inherit ∈ mW := mWin 676 (by decide +kernel) (by decide +kernel)
theorem qI_X3_inherit : Cond.instanceMethod yX3_inherit ∈ mW := mWin 677 (by decide +kernel) (by decide +kernel)
theorem qS_X3_inherit : Cond.selects RX3 yX3_inherit yX3_inherit ∈ mW := mWin 678 (by decide +kernel) (by decide +kernel)
theorem qC_X3_inherit : Cond.code yX3_inherit prog_5_method_4_code 5 (Option.none : Option Jvm.ClassFile.FieldType) ∈ mW := mWin 679 (by decide +kernel) (by decide +kernel)
theorem qL_X3_58 : Cond.methodLink RX3 58 yX3_partOf ∈ mW := mWin 680 (by decide +kernel) (by decide +kernel)
theorem qT_X3_partOf : Cond.static yX3_partOf ∈ mW := mWin 681 (by decide +kernel) (by decide +kernel)
theorem qC_X3_partOf : Cond.code yX3_partOf prog_5_method_5_code 8 (Option.some Jvm.ClassFile.FieldType.int) ∈ mW := mWin 682 (by decide +kernel) (by decide +kernel)
theorem qL_X3_62 : Cond.methodLink RX3 62 (⟨"java/lang/Math", "floorDiv", "(II)I"⟩ : MethodName) ∈ mW := mWin 683 (by decide +kernel) (by decide +kernel)
theorem qT_Math_floorDiv : Cond.static (⟨"java/lang/Math", "floorDiv", "(II)I"⟩ : MethodName) ∈ mW := mWin 684 (by decide +kernel) (by decide +kernel)
theorem qC_Math_floorDiv : Cond.code (⟨"java/lang/Math", "floorDiv", "(II)I"⟩ : MethodName) prog_14_method_47_code 3 (Option.some Jvm.ClassFile.FieldType.int) ∈ mW := mWin 685 (by decide +kernel) (by decide +kernel)
theorem qL_X2_157 : Cond.methodLink RX2 157 yX1_endThoseOf ∈ mW := mWin 686 (by decide +kernel) (by decide +kernel)
theorem qI_X1_endThoseOf : Cond.instanceMethod yX1_endThoseOf ∈ mW := mWin 687 (by decide +kernel) (by decide +kernel)
theorem qS_X1_endThoseOf : Cond.selects RX1 yX1_endThoseOf yX1_endThoseOf ∈ mW := mWin 688 (by decide +kernel) (by decide +kernel)
theorem qC_X1_endThoseOf : Cond.code yX1_endThoseOf prog_3_method_11_code 4 (Option.none : Option Jvm.ClassFile.FieldType) ∈ mW := mWin 689 (by decide +kernel) (by decide +kernel)
theorem qL_X2_160 : Cond.methodLink RX2 160 yX1_passOn ∈ mW := mWin 690 (by decide +kernel) (by decide +kernel)
theorem qI_X1_passOn : Cond.instanceMethod yX1_passOn ∈ mW := mWin 691 (by decide +kernel) (by decide +kernel)
theorem qS_X1_passOn : Cond.selects RX1 yX1_passOn yX1_passOn ∈ mW := mWin 692 (by decide +kernel) (by decide +kernel)
theorem qC_X1_passOn : Cond.code yX1_passOn prog_3_method_13_code 4 (Option.none : Option Jvm.ClassFile.FieldType) ∈ mW := mWin 693 (by decide +kernel) (by decide +kernel)
theorem qL_L_106 : Cond.methodLink RL 106 yL_dig ∈ mW := mWin 694 (by decide +kernel) (by decide +kernel)
theorem qT_L_dig : Cond.static yL_dig ∈ mW := mWin 695 (by decide +kernel) (by decide +kernel)
theorem qW_L_dig : Cond.codeWith yL_dig method_7_code (4 : Nat) (Option.some Jvm.ClassFile.FieldType.int) [((0 : Nat), (9 : Nat), (12 : Nat), (13 : Nat)), ((0 : Nat), (9 : Nat), (15 : Nat), (15 : Nat))] ∈ mW := mWin 696 (by decide +kernel) (by decide +kernel)
theorem qL_L_29 : Cond.methodLink RL 29 yX5_dig ∈ mW := mWin 697 (by decide +kernel) (by decide +kernel)
theorem qI_X5_dig : Cond.instanceMethod yX5_dig ∈ mW := mWin 698 (by decide +kernel) (by decide +kernel)
theorem qS_X5_dig : Cond.selects RX5 yX5_dig yX5_dig ∈ mW := mWin 699 (by decide +kernel) (by decide +kernel)
theorem qC_X5_dig : Cond.code yX5_dig prog_1_method_6_code 3 (Option.some Jvm.ClassFile.FieldType.int) ∈ mW := mWin 700 (by decide +kernel) (by decide +kernel)
theorem qL_X5_106 : Cond.methodLink RX5 106 yX4_ownedBowls ∈ mW := mWin 701 (by decide +kernel) (by decide +kernel)
theorem qL_X5_109 : Cond.methodLink RX5 109 yX4_shareCost ∈ mW := mWin 702 (by decide +kernel) (by decide +kernel)
theorem qI_X4_shareCost : Cond.instanceMethod yX4_shareCost ∈ mW := mWin 703 (by decide +kernel) (by decide +kernel)
theorem qS_X4_shareCost : Cond.selects RX4 yX4_shareCost yX4_shareCost ∈ mW := mWin 704 (by decide +kernel) (by decide +kernel)
theorem qC_X4_shareCost : Cond.code yX4_shareCost prog_6_method_19_code 7 (Option.none : Option Jvm.ClassFile.FieldType) ∈ mW := mWin 705 (by decide +kernel) (by decide +kernel)
theorem qL_L_110 : Cond.methodLink RL 110 yL_clean ∈ mW := mWin 706 (by decide +kernel) (by decide +kernel)
theorem qT_L_clean : Cond.static yL_clean ∈ mW := mWin 707 (by decide +kernel) (by decide +kernel)
theorem qW_L_clean : Cond.codeWith yL_clean method_8_code (4 : Nat) (Option.some Jvm.ClassFile.FieldType.int) [((0 : Nat), (9 : Nat), (12 : Nat), (13 : Nat)), ((0 : Nat), (9 : Nat), (15 : Nat), (15 : Nat))] ∈ mW := mWin 708 (by decide +kernel) (by decide +kernel)
theorem qL_L_33 : Cond.methodLink RL 33 yX5_clean ∈ mW := mWin 709 (by decide +kernel) (by decide +kernel)
theorem qI_X5_clean : Cond.instanceMethod yX5_clean ∈ mW := mWin 710 (by decide +kernel) (by decide +kernel)
theorem qS_X5_clean : Cond.selects RX5 yX5_clean yX5_clean ∈ mW := mWin 711 (by decide +kernel) (by decide +kernel)
theorem qC_X5_clean : Cond.code yX5_clean prog_1_method_7_code 3 (Option.some Jvm.ClassFile.FieldType.int) ∈ mW := mWin 712 (by decide +kernel) (by decide +kernel)
theorem qL_L_113 : Cond.methodLink RL 113 yL_fall ∈ mW := mWin 713 (by decide +kernel) (by decide +kernel)
theorem qT_L_fall : Cond.static yL_fall ∈ mW := mWin 714 (by decide +kernel) (by decide +kernel)
theorem qW_L_fall : Cond.codeWith yL_fall method_9_code (4 : Nat) (Option.some Jvm.ClassFile.FieldType.int) [((0 : Nat), (9 : Nat), (12 : Nat), (13 : Nat))] ∈ mW := mWin 715 (by decide +kernel) (by decide +kernel)
theorem qL_L_36 : Cond.methodLink RL 36 yX5_fall ∈ mW := mWin 716 (by decide +kernel) (by decide +kernel)
theorem qI_X5_fall : Cond.instanceMethod yX5_fall ∈ mW := mWin 717 (by decide +kernel) (by decide +kernel)
theorem qS_X5_fall : Cond.selects RX5 yX5_fall yX5_fall ∈ mW := mWin 718 (by decide +kernel) (by decide +kernel)
theorem qC_X5_fall : Cond.code yX5_fall prog_1_method_8_code 2 (Option.some Jvm.ClassFile.FieldType.int) ∈ mW := mWin 719 (by decide +kernel) (by decide +kernel)
theorem qL_X5_115 : Cond.methodLink RX5 115 yX0_addMud ∈ mW := mWin 720 (by decide +kernel) (by decide +kernel)
theorem qL_L_116 : Cond.methodLink RL 116 yL_pump ∈ mW := mWin 721 (by decide +kernel) (by decide +kernel)
theorem qT_L_pump : Cond.static yL_pump ∈ mW := mWin 722 (by decide +kernel) (by decide +kernel)
theorem qW_L_pump : Cond.codeWith yL_pump method_10_code (4 : Nat) (Option.some Jvm.ClassFile.FieldType.int) [((0 : Nat), (9 : Nat), (12 : Nat), (13 : Nat))] ∈ mW := mWin 723 (by decide +kernel) (by decide +kernel)
theorem qL_L_39 : Cond.methodLink RL 39 yX5_pump ∈ mW := mWin 724 (by decide +kernel) (by decide +kernel)
theorem qI_X5_pump : Cond.instanceMethod yX5_pump ∈ mW := mWin 725 (by decide +kernel) (by decide +kernel)
theorem qS_X5_pump : Cond.selects RX5 yX5_pump yX5_pump ∈ mW := mWin 726 (by decide +kernel) (by decide +kernel)
theorem qC_X5_pump : Cond.code yX5_pump prog_1_method_9_code 3 (Option.some Jvm.ClassFile.FieldType.int) ∈ mW := mWin 727 (by decide +kernel) (by decide +kernel)
theorem qL_L_119 : Cond.methodLink RL 119 yL_pollinate ∈ mW := mWin 728 (by decide +kernel) (by decide +kernel)
theorem qT_L_pollinate : Cond.static yL_pollinate ∈ mW := mWin 729 (by decide +kernel) (by decide +kernel)
theorem qW_L_pollinate : Cond.codeWith yL_pollinate method_11_code (5 : Nat) (Option.some Jvm.ClassFile.FieldType.int) [((0 : Nat), (10 : Nat), (13 : Nat), (20 : Nat)), ((0 : Nat), (10 : Nat), (17 : Nat), (13 : Nat))] ∈ mW := mWin 730 (by decide +kernel) (by decide +kernel)
theorem qL_L_42 : Cond.methodLink RL 42 yX5_pollinate ∈ mW := mWin 731 (by decide +kernel) (by decide +kernel)
theorem qI_X5_pollinate : Cond.instanceMethod yX5_pollinate ∈ mW := mWin 732 (by decide +kernel) (by decide +kernel)
theorem qS_X5_pollinate : Cond.selects RX5 yX5_pollinate yX5_pollinate ∈ mW := mWin 733 (by decide +kernel) (by decide +kernel)
theorem qC_X5_pollinate : Cond.code yX5_pollinate prog_1_method_10_code 5 (Option.some Jvm.ClassFile.FieldType.int) ∈ mW := mWin 734 (by decide +kernel) (by decide +kernel)
theorem qL_X5_124 : Cond.methodLink RX5 124 yX2_date ∈ mW := mWin 735 (by decide +kernel) (by decide +kernel)
theorem qL_X5_130 : Cond.methodLink RX5 130 yX3_pollenPalms ∈ mW := mWin 736 (by decide +kernel) (by decide +kernel)
theorem qL_L_123 : Cond.methodLink RL 123 yL_pollen ∈ mW := mWin 737 (by decide +kernel) (by decide +kernel)
theorem qT_L_pollen : Cond.static yL_pollen ∈ mW := mWin 738 (by decide +kernel) (by decide +kernel)
theorem qW_L_pollen : Cond.codeWith yL_pollen method_12_code (6 : Nat) (Option.some Jvm.ClassFile.FieldType.int) [((0 : Nat), (12 : Nat), (15 : Nat), (20 : Nat)), ((0 : Nat), (12 : Nat), (19 : Nat), (13 : Nat))] ∈ mW := mWin 739 (by decide +kernel) (by decide +kernel)
theorem qL_L_46 : Cond.methodLink RL 46 yX5_pollen ∈ mW := mWin 740 (by decide +kernel) (by decide +kernel)
theorem qI_X5_pollen : Cond.instanceMethod yX5_pollen ∈ mW := mWin 741 (by decide +kernel) (by decide +kernel)
theorem qS_X5_pollen : Cond.selects RX5 yX5_pollen yX5_pollen ∈ mW := mWin 742 (by decide +kernel) (by decide +kernel)
theorem qC_X5_pollen : Cond.code yX5_pollen prog_1_method_11_code 6 (Option.some Jvm.ClassFile.FieldType.int) ∈ mW := mWin 743 (by decide +kernel) (by decide +kernel)
theorem qL_L_126 : Cond.methodLink RL 126 yL_ahead ∈ mW := mWin 744 (by decide +kernel) (by decide +kernel)
theorem qT_L_ahead : Cond.static yL_ahead ∈ mW := mWin 745 (by decide +kernel) (by decide +kernel)
theorem qW_L_ahead : Cond.codeWith yL_ahead method_13_code (7 : Nat) (Option.some Jvm.ClassFile.FieldType.int) [((0 : Nat), (14 : Nat), (17 : Nat), (20 : Nat)), ((0 : Nat), (14 : Nat), (21 : Nat), (13 : Nat)), ((0 : Nat), (14 : Nat), (25 : Nat), (15 : Nat))] ∈ mW := mWin 746 (by decide +kernel) (by decide +kernel)
theorem qL_L_49 : Cond.methodLink RL 49 yX5_ahead ∈ mW := mWin 747 (by decide +kernel) (by decide +kernel)
theorem qI_X5_ahead : Cond.instanceMethod yX5_ahead ∈ mW := mWin 748 (by decide +kernel) (by decide +kernel)
theorem qS_X5_ahead : Cond.selects RX5 yX5_ahead yX5_ahead ∈ mW := mWin 749 (by decide +kernel) (by decide +kernel)
theorem qC_X5_ahead : Cond.code yX5_ahead prog_1_method_12_code 6 (Option.some Jvm.ClassFile.FieldType.int) ∈ mW := mWin 750 (by decide +kernel) (by decide +kernel)
theorem qL_L_129 : Cond.methodLink RL 129 yL_pass ∈ mW := mWin 751 (by decide +kernel) (by decide +kernel)
theorem qT_L_pass : Cond.static yL_pass ∈ mW := mWin 752 (by decide +kernel) (by decide +kernel)
theorem qW_L_pass : Cond.codeWith yL_pass method_14_code (5 : Nat) (Option.some Jvm.ClassFile.FieldType.int) [((0 : Nat), (10 : Nat), (13 : Nat), (13 : Nat)), ((0 : Nat), (10 : Nat), (17 : Nat), (15 : Nat))] ∈ mW := mWin 753 (by decide +kernel) (by decide +kernel)
theorem qL_L_52 : Cond.methodLink RL 52 yX5_pass ∈ mW := mWin 754 (by decide +kernel) (by decide +kernel)
theorem qI_X5_pass : Cond.instanceMethod yX5_pass ∈ mW := mWin 755 (by decide +kernel) (by decide +kernel)
theorem qS_X5_pass : Cond.selects RX5 yX5_pass yX5_pass ∈ mW := mWin 756 (by decide +kernel) (by decide +kernel)
theorem qC_X5_pass : Cond.code yX5_pass prog_1_method_13_code 3 (Option.some Jvm.ClassFile.FieldType.int) ∈ mW := mWin 757 (by decide +kernel) (by decide +kernel)
theorem qL_L_132 : Cond.methodLink RL 132 yL_of ∈ mW := mWin 758 (by decide +kernel) (by decide +kernel)
theorem qT_L_of : Cond.static yL_of ∈ mW := mWin 759 (by decide +kernel) (by decide +kernel)
theorem qW_L_of : Cond.codeWith yL_of method_15_code (5 : Nat) (Option.some Jvm.ClassFile.FieldType.int) [((0 : Nat), (10 : Nat), (13 : Nat), (20 : Nat)), ((0 : Nat), (10 : Nat), (17 : Nat), (13 : Nat))] ∈ mW := mWin 760 (by decide +kernel) (by decide +kernel)
theorem qL_L_55 : Cond.methodLink RL 55 yX5_of ∈ mW := mWin 761 (by decide +kernel) (by decide +kernel)
theorem qL_L_135 : Cond.methodLink RL 135 yL_ofBowl ∈ mW := mWin 762 (by decide +kernel) (by decide +kernel)
theorem qT_L_ofBowl : Cond.static yL_ofBowl ∈ mW := mWin 763 (by decide +kernel) (by decide +kernel)
theorem qW_L_ofBowl : Cond.codeWith yL_ofBowl method_16_code (5 : Nat) (Option.some Jvm.ClassFile.FieldType.int) [((0 : Nat), (10 : Nat), (13 : Nat), (20 : Nat)), ((0 : Nat), (10 : Nat), (17 : Nat), (13 : Nat))] ∈ mW := mWin 764 (by decide +kernel) (by decide +kernel)
theorem qL_L_58 : Cond.methodLink RL 58 yX5_ofBowl ∈ mW := mWin 765 (by decide +kernel) (by decide +kernel)
theorem qL_L_138 : Cond.methodLink RL 138 yL_ofLoan ∈ mW := mWin 766 (by decide +kernel) (by decide +kernel)
theorem qT_L_ofLoan : Cond.static yL_ofLoan ∈ mW := mWin 767 (by decide +kernel) (by decide +kernel)
theorem qW_L_ofLoan : Cond.codeWith yL_ofLoan method_17_code (5 : Nat) (Option.some Jvm.ClassFile.FieldType.int) [((0 : Nat), (10 : Nat), (13 : Nat), (20 : Nat)), ((0 : Nat), (10 : Nat), (17 : Nat), (13 : Nat))] ∈ mW := mWin 768 (by decide +kernel) (by decide +kernel)
theorem qL_L_61 : Cond.methodLink RL 61 yX5_ofLoan ∈ mW := mWin 769 (by decide +kernel) (by decide +kernel)
theorem qL_L_141 : Cond.methodLink RL 141 yL_ofSale ∈ mW := mWin 770 (by decide +kernel) (by decide +kernel)
theorem qT_L_ofSale : Cond.static yL_ofSale ∈ mW := mWin 771 (by decide +kernel) (by decide +kernel)
theorem qW_L_ofSale : Cond.codeWith yL_ofSale method_18_code (5 : Nat) (Option.some Jvm.ClassFile.FieldType.int) [((0 : Nat), (10 : Nat), (13 : Nat), (20 : Nat)), ((0 : Nat), (10 : Nat), (17 : Nat), (13 : Nat))] ∈ mW := mWin 772 (by decide +kernel) (by decide +kernel)
theorem qL_L_64 : Cond.methodLink RL 64 yX5_ofSale ∈ mW := mWin 773 (by decide +kernel) (by decide +kernel)
theorem qL_L_144 : Cond.methodLink RL 144 yL_many ∈ mW := mWin 774 (by decide +kernel) (by decide +kernel)
theorem qT_L_many : Cond.static yL_many ∈ mW := mWin 775 (by decide +kernel) (by decide +kernel)
theorem qW_L_many : Cond.codeWith yL_many method_19_code (4 : Nat) (Option.some Jvm.ClassFile.FieldType.int) [((0 : Nat), (9 : Nat), (12 : Nat), (13 : Nat))] ∈ mW := mWin 776 (by decide +kernel) (by decide +kernel)
theorem qL_L_67 : Cond.methodLink RL 67 yX5_many ∈ mW := mWin 777 (by decide +kernel) (by decide +kernel)
theorem qL_L_152 : Cond.methodLink RL 152 yL_wouldCome ∈ mW := mWin 778 (by decide +kernel) (by decide +kernel)
theorem qT_L_wouldCome : Cond.static yL_wouldCome ∈ mW := mWin 779 (by decide +kernel) (by decide +kernel)
theorem qW_L_wouldCome : Cond.codeWith yL_wouldCome method_20_code (6 : Nat) (Option.some Jvm.ClassFile.FieldType.int) [((0 : Nat), (12 : Nat), (15 : Nat), (20 : Nat)), ((0 : Nat), (12 : Nat), (19 : Nat), (13 : Nat))] ∈ mW := mWin 780 (by decide +kernel) (by decide +kernel)
theorem qL_L_70 : Cond.methodLink RL 70 yX5_wouldCome ∈ mW := mWin 781 (by decide +kernel) (by decide +kernel)
theorem qI_X5_wouldCome : Cond.instanceMethod yX5_wouldCome ∈ mW := mWin 782 (by decide +kernel) (by decide +kernel)
theorem qS_X5_wouldCome : Cond.selects RX5 yX5_wouldCome yX5_wouldCome ∈ mW := mWin 783 (by decide +kernel) (by decide +kernel)
theorem qC_X5_wouldCome : Cond.code yX5_wouldCome prog_1_method_20_code 4 (Option.some Jvm.ClassFile.FieldType.int) ∈ mW := mWin 784 (by decide +kernel) (by decide +kernel)
theorem qL_L_155 : Cond.methodLink RL 155 yL_bestDig ∈ mW := mWin 785 (by decide +kernel) (by decide +kernel)
theorem qT_L_bestDig : Cond.static yL_bestDig ∈ mW := mWin 786 (by decide +kernel) (by decide +kernel)
theorem qW_L_bestDig : Cond.codeWith yL_bestDig method_21_code (5 : Nat) (Option.some Jvm.ClassFile.FieldType.int) [((0 : Nat), (10 : Nat), (13 : Nat), (13 : Nat))] ∈ mW := mWin 787 (by decide +kernel) (by decide +kernel)
theorem qL_L_73 : Cond.methodLink RL 73 yX5_bestDig ∈ mW := mWin 788 (by decide +kernel) (by decide +kernel)
theorem qL_L_158 : Cond.methodLink RL 158 yL_pumpTakes ∈ mW := mWin 789 (by decide +kernel) (by decide +kernel)
theorem qT_L_pumpTakes : Cond.static yL_pumpTakes ∈ mW := mWin 790 (by decide +kernel) (by decide +kernel)
theorem qW_L_pumpTakes : Cond.codeWith yL_pumpTakes method_22_code (6 : Nat) (Option.some Jvm.ClassFile.FieldType.int) [((0 : Nat), (12 : Nat), (15 : Nat), (13 : Nat))] ∈ mW := mWin 791 (by decide +kernel) (by decide +kernel)
theorem qL_L_76 : Cond.methodLink RL 76 yX5_pumpTakes ∈ mW := mWin 792 (by decide +kernel) (by decide +kernel)
theorem qL_L_161 : Cond.methodLink RL 161 yL_wouldReap ∈ mW := mWin 793 (by decide +kernel) (by decide +kernel)
theorem qT_L_wouldReap : Cond.static yL_wouldReap ∈ mW := mWin 794 (by decide +kernel) (by decide +kernel)
theorem qW_L_wouldReap : Cond.codeWith yL_wouldReap method_23_code (5 : Nat) (Option.some Jvm.ClassFile.FieldType.int) [((0 : Nat), (10 : Nat), (13 : Nat), (20 : Nat)), ((0 : Nat), (10 : Nat), (17 : Nat), (13 : Nat))] ∈ mW := mWin 795 (by decide +kernel) (by decide +kernel)
theorem qL_L_79 : Cond.methodLink RL 79 yX5_wouldReap ∈ mW := mWin 796 (by decide +kernel) (by decide +kernel)
theorem qI_X5_wouldReap : Cond.instanceMethod yX5_wouldReap ∈ mW := mWin 797 (by decide +kernel) (by decide +kernel)
theorem qS_X5_wouldReap : Cond.selects RX5 yX5_wouldReap yX5_wouldReap ∈ mW := mWin 798 (by decide +kernel) (by decide +kernel)
theorem qC_X5_wouldReap : Cond.code yX5_wouldReap prog_1_method_23_code 3 (Option.some Jvm.ClassFile.FieldType.int) ∈ mW := mWin 799 (by decide +kernel) (by decide +kernel)
theorem qK_L_83 : Cond.classLink RL 83 RX7 ∈ mW := mWin 800 (by decide +kernel) (by decide +kernel)
theorem qN_X7 : Cond.instantiable RX7 2 ∈ mW := mWin 801 (by decide +kernel) (by decide +kernel)
theorem qL_L_85 : Cond.methodLink RL 85 yX7_init ∈ mW := mWin 802 (by decide +kernel) (by decide +kernel)
theorem qI_X7_init : Cond.instanceMethod yX7_init ∈ mW := mWin 803 (by decide +kernel) (by decide +kernel)
theorem qC_X7_init : Cond.code yX7_init prog_8_method_1_code 1 (Option.none : Option Jvm.ClassFile.FieldType) ∈ mW := mWin 804 (by decide +kernel) (by decide +kernel)
theorem qL_X7_1 : Cond.methodLink RX7 1 (⟨"java/lang/Object", "<init>", "()V"⟩ : MethodName) ∈ mW := mWin 805 (by decide +kernel) (by decide +kernel)
theorem qK_X7_7 : Cond.classLink RX7 7 RX6 ∈ mW := mWin 806 (by decide +kernel) (by decide +kernel)
theorem qN_X6 : Cond.instantiable RX6 17 ∈ mW := mWin 807 (by decide +kernel) (by decide +kernel)
theorem qI_X6_init : Cond.instanceMethod yX6_init ∈ mW := mWin 809 (by decide +kernel) (by decide +kernel)
theorem qC_X6_init : Cond.code yX6_init prog_9_method_1_code 1 (Option.none : Option Jvm.ClassFile.FieldType) ∈ mW := mWin 810 (by decide +kernel) (by decide +kernel)
theorem qL_X6_3 : Cond.methodLink RX6 3 (⟨"java/lang/Object", "<init>", "()V"⟩ : MethodName) ∈ mW := mWin 811 (by decide +kernel) (by decide +kernel)
theorem qK_X6_9 : Cond.classLink RX6 9 "[[I" ∈ mW := mWin 812 (by decide +kernel) (by decide +kernel)
theorem qF_X6_11 : Cond.fieldLink RX6 11 "OasisBooksModel$Oasis" "owners" "[[I" ∈ mW := mWin 814 (by decide +kernel) (by decide +kernel)
theorem qF_X7_27 : Cond.fieldLink RX7 27 "OasisBooksModel$Oasis" "owners" "[[I" ∈ mW := mWin 815 (by decide +kernel) (by decide +kernel)
theorem qF_X6_16 : Cond.fieldLink RX6 16 "OasisBooksModel$Oasis" "row" "[I" ∈ mW := mWin 816 (by decide +kernel) (by decide +kernel)
theorem qF_X7_49 : Cond.fieldLink RX7 49 "OasisBooksModel$Oasis" "row" "[I" ∈ mW := mWin 817 (by decide +kernel) (by decide +kernel)
theorem qF_X6_20 : Cond.fieldLink RX6 20 "OasisBooksModel$Oasis" "loans" "[[I" ∈ mW := mWin 818 (by decide +kernel) (by decide +kernel)
theorem qF_X7_66 : Cond.fieldLink RX7 66 "OasisBooksModel$Oasis" "loans" "[[I" ∈ mW := mWin 819 (by decide +kernel) (by decide +kernel)
theorem qF_X6_23 : Cond.fieldLink RX6 23 "OasisBooksModel$Oasis" "sales" "[[I" ∈ mW := mWin 820 (by decide +kernel) (by decide +kernel)
theorem qF_X7_79 : Cond.fieldLink RX7 79 "OasisBooksModel$Oasis" "sales" "[[I" ∈ mW := mWin 821 (by decide +kernel) (by decide +kernel)
theorem qF_X6_26 : Cond.fieldLink RX6 26 "OasisBooksModel$Oasis" "litres" "[I" ∈ mW := mWin 822 (by decide +kernel) (by decide +kernel)
theorem qF_X6_37 : Cond.fieldLink RX6 37 "OasisBooksModel$Oasis" "ever" "I" ∈ mW := mWin 823 (by decide +kernel) (by decide +kernel)
theorem qF_X7_20 : Cond.fieldLink RX7 20 "OasisBooksModel$Oasis" "ever" "I" ∈ mW := mWin 824 (by decide +kernel) (by decide +kernel)
theorem qF_X6_52 : Cond.fieldLink RX6 52 "OasisBooksModel$Oasis" "living" "I" ∈ mW := mWin 825 (by decide +kernel) (by decide +kernel)
theorem qF_X7_53 : Cond.fieldLink RX7 53 "OasisBooksModel$Oasis" "living" "I" ∈ mW := mWin 826 (by decide +kernel) (by decide +kernel)
theorem qF_X6_46 : Cond.fieldLink RX6 46 "OasisBooksModel$Oasis" "loanCount" "I" ∈ mW := mWin 827 (by decide +kernel) (by decide +kernel)
theorem qF_X7_63 : Cond.fieldLink RX7 63 "OasisBooksModel$Oasis" "loanCount" "I" ∈ mW := mWin 828 (by decide +kernel) (by decide +kernel)
theorem qF_X6_49 : Cond.fieldLink RX6 49 "OasisBooksModel$Oasis" "saleCount" "I" ∈ mW := mWin 829 (by decide +kernel) (by decide +kernel)
theorem qF_X7_76 : Cond.fieldLink RX7 76 "OasisBooksModel$Oasis" "saleCount" "I" ∈ mW := mWin 830 (by decide +kernel) (by decide +kernel)
theorem qF_X6_55 : Cond.fieldLink RX6 55 "OasisBooksModel$Oasis" "day" "I" ∈ mW := mWin 831 (by decide +kernel) (by decide +kernel)
theorem qF_X7_99 : Cond.fieldLink RX7 99 "OasisBooksModel$Oasis" "day" "I" ∈ mW := mWin 832 (by decide +kernel) (by decide +kernel)
theorem qF_X6_29 : Cond.fieldLink RX6 29 "OasisBooksModel$Oasis" "table" "I" ∈ mW := mWin 833 (by decide +kernel) (by decide +kernel)
theorem qF_X7_127 : Cond.fieldLink RX7 127 "OasisBooksModel$Oasis" "table" "I" ∈ mW := mWin 834 (by decide +kernel) (by decide +kernel)
theorem qF_X6_33 : Cond.fieldLink RX6 33 "OasisBooksModel$Oasis" "length" "I" ∈ mW := mWin 835 (by decide +kernel) (by decide +kernel)
theorem qF_X7_82 : Cond.fieldLink RX7 82 "OasisBooksModel$Oasis" "length" "I" ∈ mW := mWin 836 (by decide +kernel) (by decide +kernel)
theorem qF_X6_58 : Cond.fieldLink RX6 58 "OasisBooksModel$Oasis" "mud" "I" ∈ mW := mWin 837 (by decide +kernel) (by decide +kernel)
theorem qF_X7_88 : Cond.fieldLink RX7 88 "OasisBooksModel$Oasis" "mud" "I" ∈ mW := mWin 838 (by decide +kernel) (by decide +kernel)
theorem qF_X6_61 : Cond.fieldLink RX6 61 "OasisBooksModel$Oasis" "draw" "I" ∈ mW := mWin 839 (by decide +kernel) (by decide +kernel)
theorem qF_X7_96 : Cond.fieldLink RX7 96 "OasisBooksModel$Oasis" "draw" "I" ∈ mW := mWin 840 (by decide +kernel) (by decide +kernel)
theorem qF_X6_103 : Cond.fieldLink RX6 103 "OasisBooksModel$Oasis" "letOut" "I" ∈ mW := mWin 841 (by decide +kernel) (by decide +kernel)
theorem qF_X7_133 : Cond.fieldLink RX7 133 "OasisBooksModel$Oasis" "letOut" "I" ∈ mW := mWin 842 (by decide +kernel) (by decide +kernel)
theorem qF_X6_106 : Cond.fieldLink RX6 106 "OasisBooksModel$Oasis" "lost" "I" ∈ mW := mWin 843 (by decide +kernel) (by decide +kernel)
theorem qF_X7_136 : Cond.fieldLink RX7 136 "OasisBooksModel$Oasis" "lost" "I" ∈ mW := mWin 844 (by decide +kernel) (by decide +kernel)
theorem qF_X6_109 : Cond.fieldLink RX6 109 "OasisBooksModel$Oasis" "harvested" "I" ∈ mW := mWin 845 (by decide +kernel) (by decide +kernel)
theorem qF_X7_139 : Cond.fieldLink RX7 139 "OasisBooksModel$Oasis" "harvested" "I" ∈ mW := mWin 846 (by decide +kernel) (by decide +kernel)
theorem qF_X7_16 : Cond.fieldLink RX7 16 "OasisBooksModel" "thrown" "I" ∈ mW := mWin 882 (by decide +kernel) (by decide +kernel)
theorem qF_X7_10 : Cond.fieldLink RX7 10 "OasisBooksModel" "oasis" "LOasisBooksModel$Oasis;" ∈ mW := mWin 883 (by decide +kernel) (by decide +kernel)
theorem qL_L_92 : Cond.methodLink RL 92 yX7_thrown ∈ mW := mWin 889 (by decide +kernel) (by decide +kernel)
theorem qI_X7_thrown : Cond.instanceMethod yX7_thrown ∈ mW := mWin 890 (by decide +kernel) (by decide +kernel)
theorem qS_X7_thrown : Cond.selects RX7 yX7_thrown yX7_thrown ∈ mW := mWin 891 (by decide +kernel) (by decide +kernel)
theorem qC_X7_thrown : Cond.code yX7_thrown prog_8_method_2_code 1 (Option.some Jvm.ClassFile.FieldType.int) ∈ mW := mWin 892 (by decide +kernel) (by decide +kernel)
theorem qL_L_91 : Cond.methodLink RL 91 yX7_owner ∈ mW := mWin 893 (by decide +kernel) (by decide +kernel)
theorem qI_X7_owner : Cond.instanceMethod yX7_owner ∈ mW := mWin 894 (by decide +kernel) (by decide +kernel)
theorem qS_X7_owner : Cond.selects RX7 yX7_owner yX7_owner ∈ mW := mWin 895 (by decide +kernel) (by decide +kernel)
theorem qC_X7_owner : Cond.code yX7_owner prog_8_method_8_code 6 (Option.some Jvm.ClassFile.FieldType.int) ∈ mW := mWin 896 (by decide +kernel) (by decide +kernel)
theorem qL_X7_23 : Cond.methodLink RX7 23 yX7_in ∈ mW := mWin 897 (by decide +kernel) (by decide +kernel)
theorem qT_X7_in : Cond.static yX7_in ∈ mW := mWin 898 (by decide +kernel) (by decide +kernel)
theorem qC_X7_in : Cond.code yX7_in prog_8_method_4_code 3 (Option.some Jvm.ClassFile.FieldType.boolean) ∈ mW := mWin 899 (by decide +kernel) (by decide +kernel)
theorem qL_X7_31 : Cond.methodLink RX7 31 yX7_no ∈ mW := mWin 900 (by decide +kernel) (by decide +kernel)
theorem qI_X7_no : Cond.instanceMethod yX7_no ∈ mW := mWin 902 (by decide +kernel) (by decide +kernel)
theorem qC_X7_no : Cond.code yX7_no prog_8_method_3_code 2 (Option.some Jvm.ClassFile.FieldType.int) ∈ mW := mWin 903 (by decide +kernel) (by decide +kernel)
theorem qL_X7_35 : Cond.methodLink RX7 35 yX6_all ∈ mW := mWin 904 (by decide +kernel) (by decide +kernel)
theorem qI_X6_all : Cond.instanceMethod yX6_all ∈ mW := mWin 905 (by decide +kernel) (by decide +kernel)
theorem qS_X6_all : Cond.selects RX6 yX6_all yX6_all ∈ mW := mWin 906 (by decide +kernel) (by decide +kernel)
theorem qC_X6_all : Cond.code yX6_all prog_9_method_6_code 3 (Option.some Jvm.ClassFile.FieldType.int) ∈ mW := mWin 907 (by decide +kernel) (by decide +kernel)
theorem qL_X7_39 : Cond.methodLink RX7 39 yX7_at ∈ mW := mWin 908 (by decide +kernel) (by decide +kernel)
theorem qI_X7_at : Cond.instanceMethod yX7_at ∈ mW := mWin 910 (by decide +kernel) (by decide +kernel)
theorem qC_X7_at : Cond.code yX7_at prog_8_method_7_code 2 (Option.some (Jvm.ClassFile.FieldType.array Jvm.ClassFile.FieldType.int)) ∈ mW := mWin 911 (by decide +kernel) (by decide +kernel)
theorem qL_X7_43 : Cond.methodLink RX7 43 (⟨"java/lang/System", "arraycopy", "(Ljava/lang/Object;ILjava/lang/Object;II)V"⟩ : MethodName) ∈ mW := mWin 912 (by decide +kernel) (by decide +kernel)
theorem qT_System_arraycopy : Cond.static (⟨"java/lang/System", "arraycopy", "(Ljava/lang/Object;ILjava/lang/Object;II)V"⟩ : MethodName) ∈ mW := mWin 913 (by decide +kernel) (by decide +kernel)
theorem qV_System_arraycopy : Cond.native (⟨"java/lang/System", "arraycopy", "(Ljava/lang/Object;ILjava/lang/Object;II)V"⟩ : MethodName) ∈ mW := mWin 914 (by decide +kernel) (by decide +kernel)
theorem qL_L_98 : Cond.methodLink RL 98 yX7_sell ∈ mW := mWin 915 (by decide +kernel) (by decide +kernel)
theorem qI_X7_sell : Cond.instanceMethod yX7_sell ∈ mW := mWin 916 (by decide +kernel) (by decide +kernel)
theorem qS_X7_sell : Cond.selects RX7 yX7_sell yX7_sell ∈ mW := mWin 917 (by decide +kernel) (by decide +kernel)
theorem qC_X7_sell : Cond.code yX7_sell prog_8_method_9_code 5 (Option.some Jvm.ClassFile.FieldType.int) ∈ mW := mWin 918 (by decide +kernel) (by decide +kernel)
theorem qL_X7_56 : Cond.methodLink RX7 56 yX7_lives ∈ mW := mWin 919 (by decide +kernel) (by decide +kernel)
theorem qI_X7_lives : Cond.instanceMethod yX7_lives ∈ mW := mWin 921 (by decide +kernel) (by decide +kernel)
theorem qC_X7_lives : Cond.code yX7_lives prog_8_method_6_code 2 (Option.some Jvm.ClassFile.FieldType.boolean) ∈ mW := mWin 922 (by decide +kernel) (by decide +kernel)
theorem qL_X7_60 : Cond.methodLink RX7 60 yX6_lent ∈ mW := mWin 923 (by decide +kernel) (by decide +kernel)
theorem qI_X6_lent : Cond.instanceMethod yX6_lent ∈ mW := mWin 924 (by decide +kernel) (by decide +kernel)
theorem qS_X6_lent : Cond.selects RX6 yX6_lent yX6_lent ∈ mW := mWin 925 (by decide +kernel) (by decide +kernel)
theorem qC_X6_lent : Cond.code yX6_lent prog_9_method_4_code 4 (Option.some Jvm.ClassFile.FieldType.int) ∈ mW := mWin 926 (by decide +kernel) (by decide +kernel)
theorem qL_L_101 : Cond.methodLink RL 101 yX7_lend ∈ mW := mWin 927 (by decide +kernel) (by decide +kernel)
theorem qI_X7_lend : Cond.instanceMethod yX7_lend ∈ mW := mWin 928 (by decide +kernel) (by decide +kernel)
theorem qS_X7_lend : Cond.selects RX7 yX7_lend yX7_lend ∈ mW := mWin 929 (by decide +kernel) (by decide +kernel)
theorem qC_X7_lend : Cond.code yX7_lend prog_8_method_10_code 6 (Option.some Jvm.ClassFile.FieldType.int) ∈ mW := mWin 930 (by decide +kernel) (by decide +kernel)
theorem qL_L_105 : Cond.methodLink RL 105 yX7_die ∈ mW := mWin 931 (by decide +kernel) (by decide +kernel)
theorem qI_X7_die : Cond.instanceMethod yX7_die ∈ mW := mWin 932 (by decide +kernel) (by decide +kernel)
theorem qS_X7_die : Cond.selects RX7 yX7_die yX7_die ∈ mW := mWin 933 (by decide +kernel) (by decide +kernel)
theorem qC_X7_die : Cond.code yX7_die prog_8_method_11_code 12 (Option.some Jvm.ClassFile.FieldType.int) ∈ mW := mWin 934 (by decide +kernel) (by decide +kernel)
theorem qL_X7_69 : Cond.methodLink RX7 69 yX7_lower ∈ mW := mWin 935 (by decide +kernel) (by decide +kernel)
theorem qT_X7_lower : Cond.static yX7_lower ∈ mW := mWin 936 (by decide +kernel) (by decide +kernel)
theorem qC_X7_lower : Cond.code yX7_lower prog_8_method_5_code 2 (Option.some Jvm.ClassFile.FieldType.int) ∈ mW := mWin 937 (by decide +kernel) (by decide +kernel)
theorem qL_X7_73 : Cond.methodLink RX7 73 yX6_place ∈ mW := mWin 938 (by decide +kernel) (by decide +kernel)
theorem qI_X6_place : Cond.instanceMethod yX6_place ∈ mW := mWin 939 (by decide +kernel) (by decide +kernel)
theorem qS_X6_place : Cond.selects RX6 yX6_place yX6_place ∈ mW := mWin 940 (by decide +kernel) (by decide +kernel)
theorem qC_X6_place : Cond.code yX6_place prog_9_method_7_code 3 (Option.some Jvm.ClassFile.FieldType.int) ∈ mW := mWin 941 (by decide +kernel) (by decide +kernel)
theorem qL_L_109 : Cond.methodLink RL 109 yX7_dig ∈ mW := mWin 942 (by decide +kernel) (by decide +kernel)
theorem qI_X7_dig : Cond.instanceMethod yX7_dig ∈ mW := mWin 943 (by decide +kernel) (by decide +kernel)
theorem qS_X7_dig : Cond.selects RX7 yX7_dig yX7_dig ∈ mW := mWin 944 (by decide +kernel) (by decide +kernel)
theorem qC_X7_dig : Cond.code yX7_dig prog_8_method_13_code 3 (Option.some Jvm.ClassFile.FieldType.int) ∈ mW := mWin 945 (by decide +kernel) (by decide +kernel)
theorem qL_X7_85 : Cond.methodLink RX7 85 yX7_pay ∈ mW := mWin 946 (by decide +kernel) (by decide +kernel)
theorem qI_X7_pay : Cond.instanceMethod yX7_pay ∈ mW := mWin 948 (by decide +kernel) (by decide +kernel)
theorem qC_X7_pay : Cond.code yX7_pay prog_8_method_12_code 6 (Option.some Jvm.ClassFile.FieldType.int) ∈ mW := mWin 949 (by decide +kernel) (by decide +kernel)
theorem qL_L_112 : Cond.methodLink RL 112 yX7_clean ∈ mW := mWin 950 (by decide +kernel) (by decide +kernel)
theorem qI_X7_clean : Cond.instanceMethod yX7_clean ∈ mW := mWin 951 (by decide +kernel) (by decide +kernel)
theorem qS_X7_clean : Cond.selects RX7 yX7_clean yX7_clean ∈ mW := mWin 952 (by decide +kernel) (by decide +kernel)
theorem qC_X7_clean : Cond.code yX7_clean prog_8_method_14_code 2 (Option.some Jvm.ClassFile.FieldType.int) ∈ mW := mWin 953 (by decide +kernel) (by decide +kernel)
theorem qL_L_115 : Cond.methodLink RL 115 yX7_fall ∈ mW := mWin 954 (by decide +kernel) (by decide +kernel)
theorem qI_X7_fall : Cond.instanceMethod yX7_fall ∈ mW := mWin 955 (by decide +kernel) (by decide +kernel)
theorem qS_X7_fall : Cond.selects RX7 yX7_fall yX7_fall ∈ mW := mWin 956 (by decide +kernel) (by decide +kernel)
theorem qC_X7_fall : Cond.code yX7_fall prog_8_method_15_code 2 (Option.some Jvm.ClassFile.FieldType.int) ∈ mW := mWin 957 (by decide +kernel) (by decide +kernel)
theorem qL_X7_91 : Cond.methodLink RX7 91 (⟨"java/lang/Math", "min", "(II)I"⟩ : MethodName) ∈ mW := mWin 958 (by decide +kernel) (by decide +kernel)
theorem qL_L_118 : Cond.methodLink RL 118 yX7_pump ∈ mW := mWin 959 (by decide +kernel) (by decide +kernel)
theorem qI_X7_pump : Cond.instanceMethod yX7_pump ∈ mW := mWin 960 (by decide +kernel) (by decide +kernel)
theorem qS_X7_pump : Cond.selects RX7 yX7_pump yX7_pump ∈ mW := mWin 961 (by decide +kernel) (by decide +kernel)
theorem qC_X7_pump : Cond.code yX7_pump prog_8_method_16_code 3 (Option.some Jvm.ClassFile.FieldType.int) ∈ mW := mWin 962 (by decide +kernel) (by decide +kernel)
theorem qL_L_122 : Cond.methodLink RL 122 yX7_pollinate ∈ mW := mWin 963 (by decide +kernel) (by decide +kernel)
theorem qI_X7_pollinate : Cond.instanceMethod yX7_pollinate ∈ mW := mWin 964 (by decide +kernel) (by decide +kernel)
theorem qS_X7_pollinate : Cond.selects RX7 yX7_pollinate yX7_pollinate ∈ mW := mWin 965 (by decide +kernel) (by decide +kernel)
theorem qC_X7_pollinate : Cond.code yX7_pollinate prog_8_method_18_code 4 (Option.some Jvm.ClassFile.FieldType.int) ∈ mW := mWin 966 (by decide +kernel) (by decide +kernel)
theorem qL_X7_102 : Cond.methodLink RX7 102 yX7_pollenOf ∈ mW := mWin 967 (by decide +kernel) (by decide +kernel)
theorem qT_X7_pollenOf : Cond.static yX7_pollenOf ∈ mW := mWin 968 (by decide +kernel) (by decide +kernel)
theorem qC_X7_pollenOf : Cond.code yX7_pollenOf prog_8_method_17_code 1 (Option.some Jvm.ClassFile.FieldType.int) ∈ mW := mWin 969 (by decide +kernel) (by decide +kernel)
theorem qL_L_125 : Cond.methodLink RL 125 yX7_pollen ∈ mW := mWin 970 (by decide +kernel) (by decide +kernel)
theorem qI_X7_pollen : Cond.instanceMethod yX7_pollen ∈ mW := mWin 971 (by decide +kernel) (by decide +kernel)
theorem qS_X7_pollen : Cond.selects RX7 yX7_pollen yX7_pollen ∈ mW := mWin 972 (by decide +kernel) (by decide +kernel)
theorem qC_X7_pollen : Cond.code yX7_pollen prog_8_method_19_code 4 (Option.some Jvm.ClassFile.FieldType.int) ∈ mW := mWin 973 (by decide +kernel) (by decide +kernel)
theorem qL_L_128 : Cond.methodLink RL 128 yX7_ahead ∈ mW := mWin 974 (by decide +kernel) (by decide +kernel)
theorem qI_X7_ahead : Cond.instanceMethod yX7_ahead ∈ mW := mWin 975 (by decide +kernel) (by decide +kernel)
theorem qS_X7_ahead : Cond.selects RX7 yX7_ahead yX7_ahead ∈ mW := mWin 976 (by decide +kernel) (by decide +kernel)
theorem qC_X7_ahead : Cond.code yX7_ahead prog_8_method_20_code 6 (Option.some Jvm.ClassFile.FieldType.int) ∈ mW := mWin 977 (by decide +kernel) (by decide +kernel)
theorem qL_L_131 : Cond.methodLink RL 131 yX7_pass ∈ mW := mWin 978 (by decide +kernel) (by decide +kernel)
theorem qI_X7_pass : Cond.instanceMethod yX7_pass ∈ mW := mWin 979 (by decide +kernel) (by decide +kernel)
theorem qS_X7_pass : Cond.selects RX7 yX7_pass yX7_pass ∈ mW := mWin 980 (by decide +kernel) (by decide +kernel)
theorem qC_X7_pass : Cond.code yX7_pass prog_8_method_22_code 3 (Option.some Jvm.ClassFile.FieldType.int) ∈ mW := mWin 981 (by decide +kernel) (by decide +kernel)
theorem qL_X7_106 : Cond.methodLink RX7 106 yX7_isTime ∈ mW := mWin 982 (by decide +kernel) (by decide +kernel)
theorem qT_X7_isTime : Cond.static yX7_isTime ∈ mW := mWin 983 (by decide +kernel) (by decide +kernel)
theorem qC_X7_isTime : Cond.code yX7_isTime prog_8_method_21_code 3 (Option.some Jvm.ClassFile.FieldType.boolean) ∈ mW := mWin 984 (by decide +kernel) (by decide +kernel)
theorem qL_X7_109 : Cond.methodLink RX7 109 yX6_run ∈ mW := mWin 985 (by decide +kernel) (by decide +kernel)
theorem qI_X6_run : Cond.instanceMethod yX6_run ∈ mW := mWin 986 (by decide +kernel) (by decide +kernel)
theorem qS_X6_run : Cond.selects RX6 yX6_run yX6_run ∈ mW := mWin 987 (by decide +kernel) (by decide +kernel)
theorem qC_X6_run : Cond.code yX6_run prog_9_method_18_code 5 (Option.some Jvm.ClassFile.FieldType.int) ∈ mW := mWin 988 (by decide +kernel) (by decide +kernel)
theorem qL_X6_116 : Cond.methodLink RX6 116 yX6_go ∈ mW := mWin 989 (by decide +kernel) (by decide +kernel)
theorem qI_X6_go : Cond.instanceMethod yX6_go ∈ mW := mWin 990 (by decide +kernel) (by decide +kernel)
theorem qS_X6_go : Cond.selects RX6 yX6_go yX6_go ∈ mW := mWin 991 (by decide +kernel) (by decide +kernel)
theorem qC_X6_go : Cond.code yX6_go prog_9_method_12_code 5 (Option.some Jvm.ClassFile.FieldType.int) ∈ mW := mWin 992 (by decide +kernel) (by decide +kernel)
theorem qL_X6_83 : Cond.methodLink RX6 83 yX6_flow ∈ mW := mWin 993 (by decide +kernel) (by decide +kernel)
theorem qI_X6_flow : Cond.instanceMethod yX6_flow ∈ mW := mWin 994 (by decide +kernel) (by decide +kernel)
theorem qS_X6_flow : Cond.selects RX6 yX6_flow yX6_flow ∈ mW := mWin 995 (by decide +kernel) (by decide +kernel)
theorem qC_X6_flow : Cond.code yX6_flow prog_9_method_3_code 1 (Option.some Jvm.ClassFile.FieldType.int) ∈ mW := mWin 996 (by decide +kernel) (by decide +kernel)
theorem qL_X6_64 : Cond.methodLink RX6 64 (⟨"java/lang/Math", "max", "(II)I"⟩ : MethodName) ∈ mW := mWin 997 (by decide +kernel) (by decide +kernel)
theorem qL_X6_80 : Cond.methodLink RX6 80 (⟨"java/lang/Math", "min", "(II)I"⟩ : MethodName) ∈ mW := mWin 998 (by decide +kernel) (by decide +kernel)
theorem qL_X6_87 : Cond.methodLink RX6 87 yX6_water ∈ mW := mWin 999 (by decide +kernel) (by decide +kernel)
theorem qI_X6_water : Cond.instanceMethod yX6_water ∈ mW := mWin 1001 (by decide +kernel) (by decide +kernel)
theorem qC_X6_water : Cond.code yX6_water prog_9_method_13_code 8 (Option.some Jvm.ClassFile.FieldType.int) ∈ mW := mWin 1002 (by decide +kernel) (by decide +kernel)
theorem qL_X6_100 : Cond.methodLink RX6 100 yX6_today ∈ mW := mWin 1003 (by decide +kernel) (by decide +kernel)
theorem qI_X6_today : Cond.instanceMethod yX6_today ∈ mW := mWin 1005 (by decide +kernel) (by decide +kernel)
theorem qC_X6_today : Cond.code yX6_today prog_9_method_11_code 4 (Option.some Jvm.ClassFile.FieldType.int) ∈ mW := mWin 1006 (by decide +kernel) (by decide +kernel)
theorem qL_X6_90 : Cond.methodLink RX6 90 yX6_palms ∈ mW := mWin 1007 (by decide +kernel) (by decide +kernel)
theorem qI_X6_palms : Cond.instanceMethod yX6_palms ∈ mW := mWin 1009 (by decide +kernel) (by decide +kernel)
theorem qC_X6_palms : Cond.code yX6_palms prog_9_method_14_code 3 (Option.none : Option Jvm.ClassFile.FieldType) ∈ mW := mWin 1010 (by decide +kernel) (by decide +kernel)
theorem qL_X6_94 : Cond.methodLink RX6 94 yX6_harvest ∈ mW := mWin 1011 (by decide +kernel) (by decide +kernel)
theorem qI_X6_harvest : Cond.instanceMethod yX6_harvest ∈ mW := mWin 1013 (by decide +kernel) (by decide +kernel)
theorem qC_X6_harvest : Cond.code yX6_harvest prog_9_method_16_code 5 (Option.none : Option Jvm.ClassFile.FieldType) ∈ mW := mWin 1014 (by decide +kernel) (by decide +kernel)
theorem qL_X6_112 : Cond.methodLink RX6 112 yX6_reaped ∈ mW := mWin 1015 (by decide +kernel) (by decide +kernel)
theorem qI_X6_reaped : Cond.instanceMethod yX6_reaped ∈ mW := mWin 1016 (by decide +kernel) (by decide +kernel)
theorem qS_X6_reaped : Cond.selects RX6 yX6_reaped yX6_reaped ∈ mW := mWin 1017 (by decide +kernel) (by decide +kernel)
theorem qC_X6_reaped : Cond.code yX6_reaped prog_9_method_15_code 2 (Option.some Jvm.ClassFile.FieldType.int) ∈ mW := mWin 1018 (by decide +kernel) (by decide +kernel)
theorem qL_X6_97 : Cond.methodLink RX6 97 yX6_age ∈ mW := mWin 1019 (by decide +kernel) (by decide +kernel)
theorem qI_X6_age : Cond.instanceMethod yX6_age ∈ mW := mWin 1021 (by decide +kernel) (by decide +kernel)
theorem qC_X6_age : Cond.code yX6_age prog_9_method_17_code 4 (Option.none : Option Jvm.ClassFile.FieldType) ∈ mW := mWin 1022 (by decide +kernel) (by decide +kernel)
theorem qL_L_134 : Cond.methodLink RL 134 yX7_of ∈ mW := mWin 1023 (by decide +kernel) (by decide +kernel)
theorem qI_X7_of : Cond.instanceMethod yX7_of ∈ mW := mWin 1024 (by decide +kernel) (by decide +kernel)
theorem qS_X7_of : Cond.selects RX7 yX7_of yX7_of ∈ mW := mWin 1025 (by decide +kernel) (by decide +kernel)
theorem qC_X7_of : Cond.code yX7_of prog_8_method_24_code 3 (Option.some Jvm.ClassFile.FieldType.int) ∈ mW := mWin 1026 (by decide +kernel) (by decide +kernel)
theorem qL_X7_118 : Cond.methodLink RX7 118 yX7_ownerNow ∈ mW := mWin 1027 (by decide +kernel) (by decide +kernel)
theorem qI_X7_ownerNow : Cond.instanceMethod yX7_ownerNow ∈ mW := mWin 1029 (by decide +kernel) (by decide +kernel)
theorem qC_X7_ownerNow : Cond.code yX7_ownerNow prog_8_method_23_code 4 (Option.some Jvm.ClassFile.FieldType.int) ∈ mW := mWin 1030 (by decide +kernel) (by decide +kernel)
theorem qL_X7_112 : Cond.methodLink RX7 112 yX6_first ∈ mW := mWin 1031 (by decide +kernel) (by decide +kernel)
theorem qI_X6_first : Cond.instanceMethod yX6_first ∈ mW := mWin 1032 (by decide +kernel) (by decide +kernel)
theorem qS_X6_first : Cond.selects RX6 yX6_first yX6_first ∈ mW := mWin 1033 (by decide +kernel) (by decide +kernel)
theorem qC_X6_first : Cond.code yX6_first prog_9_method_8_code 4 (Option.some Jvm.ClassFile.FieldType.int) ∈ mW := mWin 1034 (by decide +kernel) (by decide +kernel)
theorem qL_X7_115 : Cond.methodLink RX7 115 yX6_used ∈ mW := mWin 1035 (by decide +kernel) (by decide +kernel)
theorem qI_X6_used : Cond.instanceMethod yX6_used ∈ mW := mWin 1036 (by decide +kernel) (by decide +kernel)
theorem qS_X6_used : Cond.selects RX6 yX6_used yX6_used ∈ mW := mWin 1037 (by decide +kernel) (by decide +kernel)
theorem qC_X6_used : Cond.code yX6_used prog_9_method_5_code 4 (Option.some Jvm.ClassFile.FieldType.int) ∈ mW := mWin 1038 (by decide +kernel) (by decide +kernel)
theorem qL_X6_70 : Cond.methodLink RX6 70 yX6_lent ∈ mW := mWin 1039 (by decide +kernel) (by decide +kernel)
theorem qL_L_137 : Cond.methodLink RL 137 yX7_ofBowl ∈ mW := mWin 1040 (by decide +kernel) (by decide +kernel)
theorem qI_X7_ofBowl : Cond.instanceMethod yX7_ofBowl ∈ mW := mWin 1041 (by decide +kernel) (by decide +kernel)
theorem qS_X7_ofBowl : Cond.selects RX7 yX7_ofBowl yX7_ofBowl ∈ mW := mWin 1042 (by decide +kernel) (by decide +kernel)
theorem qC_X7_ofBowl : Cond.code yX7_ofBowl prog_8_method_25_code 3 (Option.some Jvm.ClassFile.FieldType.int) ∈ mW := mWin 1043 (by decide +kernel) (by decide +kernel)
theorem qL_X7_121 : Cond.methodLink RX7 121 yX6_ownerOf ∈ mW := mWin 1044 (by decide +kernel) (by decide +kernel)
theorem qI_X6_ownerOf : Cond.instanceMethod yX6_ownerOf ∈ mW := mWin 1045 (by decide +kernel) (by decide +kernel)
theorem qS_X6_ownerOf : Cond.selects RX6 yX6_ownerOf yX6_ownerOf ∈ mW := mWin 1046 (by decide +kernel) (by decide +kernel)
theorem qC_X6_ownerOf : Cond.code yX6_ownerOf prog_9_method_9_code 4 (Option.some Jvm.ClassFile.FieldType.int) ∈ mW := mWin 1047 (by decide +kernel) (by decide +kernel)
theorem qL_X7_124 : Cond.methodLink RX7 124 yX6_userOf ∈ mW := mWin 1048 (by decide +kernel) (by decide +kernel)
theorem qI_X6_userOf : Cond.instanceMethod yX6_userOf ∈ mW := mWin 1049 (by decide +kernel) (by decide +kernel)
theorem qS_X6_userOf : Cond.selects RX6 yX6_userOf yX6_userOf ∈ mW := mWin 1050 (by decide +kernel) (by decide +kernel)
theorem qC_X6_userOf : Cond.code yX6_userOf prog_9_method_10_code 5 (Option.some Jvm.ClassFile.FieldType.int) ∈ mW := mWin 1051 (by decide +kernel) (by decide +kernel)
theorem qL_X6_74 : Cond.methodLink RX6 74 yX6_ownerOf ∈ mW := mWin 1052 (by decide +kernel) (by decide +kernel)
theorem qL_X6_77 : Cond.methodLink RX6 77 yX6_first ∈ mW := mWin 1053 (by decide +kernel) (by decide +kernel)
theorem qL_L_140 : Cond.methodLink RL 140 yX7_ofLoan ∈ mW := mWin 1054 (by decide +kernel) (by decide +kernel)
theorem qI_X7_ofLoan : Cond.instanceMethod yX7_ofLoan ∈ mW := mWin 1055 (by decide +kernel) (by decide +kernel)
theorem qS_X7_ofLoan : Cond.selects RX7 yX7_ofLoan yX7_ofLoan ∈ mW := mWin 1056 (by decide +kernel) (by decide +kernel)
theorem qC_X7_ofLoan : Cond.code yX7_ofLoan prog_8_method_26_code 3 (Option.some Jvm.ClassFile.FieldType.int) ∈ mW := mWin 1057 (by decide +kernel) (by decide +kernel)
theorem qL_L_143 : Cond.methodLink RL 143 yX7_ofSale ∈ mW := mWin 1058 (by decide +kernel) (by decide +kernel)
theorem qI_X7_ofSale : Cond.instanceMethod yX7_ofSale ∈ mW := mWin 1059 (by decide +kernel) (by decide +kernel)
theorem qS_X7_ofSale : Cond.selects RX7 yX7_ofSale yX7_ofSale ∈ mW := mWin 1060 (by decide +kernel) (by decide +kernel)
theorem qC_X7_ofSale : Cond.code yX7_ofSale prog_8_method_27_code 3 (Option.some Jvm.ClassFile.FieldType.int) ∈ mW := mWin 1061 (by decide +kernel) (by decide +kernel)
theorem qL_L_146 : Cond.methodLink RL 146 yX7_many ∈ mW := mWin 1062 (by decide +kernel) (by decide +kernel)
theorem qI_X7_many : Cond.instanceMethod yX7_many ∈ mW := mWin 1063 (by decide +kernel) (by decide +kernel)
theorem qS_X7_many : Cond.selects RX7 yX7_many yX7_many ∈ mW := mWin 1064 (by decide +kernel) (by decide +kernel)
theorem qC_X7_many : Cond.code yX7_many prog_8_method_29_code 2 (Option.some Jvm.ClassFile.FieldType.int) ∈ mW := mWin 1065 (by decide +kernel) (by decide +kernel)
theorem qL_X7_142 : Cond.methodLink RX7 142 yX7_manyNow ∈ mW := mWin 1066 (by decide +kernel) (by decide +kernel)
theorem qI_X7_manyNow : Cond.instanceMethod yX7_manyNow ∈ mW := mWin 1068 (by decide +kernel) (by decide +kernel)
theorem qC_X7_manyNow : Cond.code yX7_manyNow prog_8_method_28_code 4 (Option.some Jvm.ClassFile.FieldType.int) ∈ mW := mWin 1069 (by decide +kernel) (by decide +kernel)
theorem qL_X7_130 : Cond.methodLink RX7 130 yX6_flow ∈ mW := mWin 1070 (by decide +kernel) (by decide +kernel)
theorem qL_L_151 : Cond.methodLink RL 151 yX7_meanMoist ∈ mW := mWin 1071 (by decide +kernel) (by decide +kernel)
theorem qI_X7_meanMoist : Cond.instanceMethod yX7_meanMoist ∈ mW := mWin 1072 (by decide +kernel) (by decide +kernel)
theorem qS_X7_meanMoist : Cond.selects RX7 yX7_meanMoist yX7_meanMoist ∈ mW := mWin 1073 (by decide +kernel) (by decide +kernel)
theorem qC_X7_meanMoist : Cond.code yX7_meanMoist prog_8_method_30_code 3 (Option.some Jvm.ClassFile.FieldType.double) ∈ mW := mWin 1074 (by decide +kernel) (by decide +kernel)
theorem qL_L_154 : Cond.methodLink RL 154 yX7_wouldCome ∈ mW := mWin 1075 (by decide +kernel) (by decide +kernel)
theorem qI_X7_wouldCome : Cond.instanceMethod yX7_wouldCome ∈ mW := mWin 1076 (by decide +kernel) (by decide +kernel)
theorem qS_X7_wouldCome : Cond.selects RX7 yX7_wouldCome yX7_wouldCome ∈ mW := mWin 1077 (by decide +kernel) (by decide +kernel)
theorem qC_X7_wouldCome : Cond.code yX7_wouldCome prog_8_method_32_code 4 (Option.some Jvm.ClassFile.FieldType.int) ∈ mW := mWin 1078 (by decide +kernel) (by decide +kernel)
theorem qL_X7_149 : Cond.methodLink RX7 149 yX7_comeNow ∈ mW := mWin 1079 (by decide +kernel) (by decide +kernel)
theorem qI_X7_comeNow : Cond.instanceMethod yX7_comeNow ∈ mW := mWin 1081 (by decide +kernel) (by decide +kernel)
theorem qC_X7_comeNow : Cond.code yX7_comeNow prog_8_method_31_code 5 (Option.some Jvm.ClassFile.FieldType.int) ∈ mW := mWin 1082 (by decide +kernel) (by decide +kernel)
theorem qL_X7_145 : Cond.methodLink RX7 145 yX6_copy ∈ mW := mWin 1083 (by decide +kernel) (by decide +kernel)
theorem qI_X6_copy : Cond.instanceMethod yX6_copy ∈ mW := mWin 1084 (by decide +kernel) (by decide +kernel)
theorem qS_X6_copy : Cond.selects RX6 yX6_copy yX6_copy ∈ mW := mWin 1085 (by decide +kernel) (by decide +kernel)
theorem qC_X6_copy : Cond.code yX6_copy prog_9_method_2_code 3 (Option.some (Jvm.ClassFile.FieldType.object "OasisBooksModel$Oasis")) ∈ mW := mWin 1086 (by decide +kernel) (by decide +kernel)
theorem qK_X6_12 : Cond.classLink RX6 12 RX6 ∈ mW := mWin 1087 (by decide +kernel) (by decide +kernel)
theorem qL_X6_36 : Cond.methodLink RX6 36 yX6_init ∈ mW := mWin 1088 (by decide +kernel) (by decide +kernel)
theorem qL_X6_40 : Cond.methodLink RX6 40 (⟨"java/lang/System", "arraycopy", "(Ljava/lang/Object;ILjava/lang/Object;II)V"⟩ : MethodName) ∈ mW := mWin 1089 (by decide +kernel) (by decide +kernel)
theorem qL_L_157 : Cond.methodLink RL 157 yX7_bestDig ∈ mW := mWin 1090 (by decide +kernel) (by decide +kernel)
theorem qI_X7_bestDig : Cond.instanceMethod yX7_bestDig ∈ mW := mWin 1091 (by decide +kernel) (by decide +kernel)
theorem qS_X7_bestDig : Cond.selects RX7 yX7_bestDig yX7_bestDig ∈ mW := mWin 1092 (by decide +kernel) (by decide +kernel)
theorem qC_X7_bestDig : Cond.code yX7_bestDig prog_8_method_34_code 3 (Option.some Jvm.ClassFile.FieldType.int) ∈ mW := mWin 1093 (by decide +kernel) (by decide +kernel)
theorem qL_X7_156 : Cond.methodLink RX7 156 yX7_digNow ∈ mW := mWin 1094 (by decide +kernel) (by decide +kernel)
theorem qI_X7_digNow : Cond.instanceMethod yX7_digNow ∈ mW := mWin 1096 (by decide +kernel) (by decide +kernel)
theorem qC_X7_digNow : Cond.code yX7_digNow prog_8_method_33_code 8 (Option.some Jvm.ClassFile.FieldType.int) ∈ mW := mWin 1097 (by decide +kernel) (by decide +kernel)
theorem qL_X7_153 : Cond.methodLink RX7 153 (⟨"java/lang/Math", "max", "(II)I"⟩ : MethodName) ∈ mW := mWin 1098 (by decide +kernel) (by decide +kernel)
theorem qL_L_160 : Cond.methodLink RL 160 yX7_pumpTakes ∈ mW := mWin 1099 (by decide +kernel) (by decide +kernel)
theorem qI_X7_pumpTakes : Cond.instanceMethod yX7_pumpTakes ∈ mW := mWin 1100 (by decide +kernel) (by decide +kernel)
theorem qS_X7_pumpTakes : Cond.selects RX7 yX7_pumpTakes yX7_pumpTakes ∈ mW := mWin 1101 (by decide +kernel) (by decide +kernel)
theorem qC_X7_pumpTakes : Cond.code yX7_pumpTakes prog_8_method_36_code 4 (Option.some Jvm.ClassFile.FieldType.int) ∈ mW := mWin 1102 (by decide +kernel) (by decide +kernel)
theorem qL_X7_159 : Cond.methodLink RX7 159 yX7_takesNow ∈ mW := mWin 1103 (by decide +kernel) (by decide +kernel)
theorem qI_X7_takesNow : Cond.instanceMethod yX7_takesNow ∈ mW := mWin 1105 (by decide +kernel) (by decide +kernel)
theorem qC_X7_takesNow : Cond.code yX7_takesNow prog_8_method_35_code 5 (Option.some Jvm.ClassFile.FieldType.int) ∈ mW := mWin 1106 (by decide +kernel) (by decide +kernel)
theorem qL_L_163 : Cond.methodLink RL 163 yX7_wouldReap ∈ mW := mWin 1107 (by decide +kernel) (by decide +kernel)
theorem qI_X7_wouldReap : Cond.instanceMethod yX7_wouldReap ∈ mW := mWin 1108 (by decide +kernel) (by decide +kernel)
theorem qS_X7_wouldReap : Cond.selects RX7 yX7_wouldReap yX7_wouldReap ∈ mW := mWin 1109 (by decide +kernel) (by decide +kernel)
theorem qC_X7_wouldReap : Cond.code yX7_wouldReap prog_8_method_38_code 3 (Option.some Jvm.ClassFile.FieldType.int) ∈ mW := mWin 1110 (by decide +kernel) (by decide +kernel)
theorem qL_X7_165 : Cond.methodLink RX7 165 yX7_reapNow ∈ mW := mWin 1111 (by decide +kernel) (by decide +kernel)
theorem qI_X7_reapNow : Cond.instanceMethod yX7_reapNow ∈ mW := mWin 1113 (by decide +kernel) (by decide +kernel)
theorem qC_X7_reapNow : Cond.code yX7_reapNow prog_8_method_37_code 5 (Option.some Jvm.ClassFile.FieldType.int) ∈ mW := mWin 1114 (by decide +kernel) (by decide +kernel)
theorem qL_X7_162 : Cond.methodLink RX7 162 yX6_go ∈ mW := mWin 1115 (by decide +kernel) (by decide +kernel)
theorem qL_L_168 : Cond.methodLink RL 168 yX7_digest ∈ mW := mWin 1116 (by decide +kernel) (by decide +kernel)
theorem qI_X7_digest : Cond.instanceMethod yX7_digest ∈ mW := mWin 1117 (by decide +kernel) (by decide +kernel)
theorem qS_X7_digest : Cond.selects RX7 yX7_digest yX7_digest ∈ mW := mWin 1118 (by decide +kernel) (by decide +kernel)
theorem qC_X7_digest : Cond.code yX7_digest prog_8_method_39_code 5 (Option.some Jvm.ClassFile.FieldType.long) ∈ mW := mWin 1119 (by decide +kernel) (by decide +kernel)
theorem qG_X7_168 : Cond.constantLong RX7 168 (7803 : Int64) ∈ mW := mWin 1120 (by decide +kernel) (by decide +kernel)
theorem qG_X7_170 : Cond.constantLong RX7 170 (31 : Int64) ∈ mW := mWin 1121 (by decide +kernel) (by decide +kernel)
theorem qarrayClass_1122 : Cond.arrayClass Jvm.ClassFile.FieldType.long ∈ mW := mWin 1122 (by decide +kernel) (by decide +kernel)
theorem qU_X0 : ∀ w ∈ u_ws RX0 TX0 4, w ∈ mW := by decide +kernel
theorem qU_X1 : ∀ w ∈ u_ws RX1 TX1 2, w ∈ mW := by decide +kernel
theorem qU_X2 : ∀ w ∈ u_ws RX2 TX2 8, w ∈ mW := by decide +kernel
theorem qU_X3 : ∀ w ∈ u_ws RX3 TX3 15, w ∈ mW := by decide +kernel
theorem qU_X4 : ∀ w ∈ u_ws RX4 TX4 5, w ∈ mW := by decide +kernel
theorem qU_X5 : ∀ w ∈ u_ws RX5 TX5 3, w ∈ mW := by decide +kernel
theorem qU_X6 : ∀ w ∈ u_ws RX6 TX6 17, w ∈ mW := by decide +kernel
theorem qU_X7 : ∀ w ∈ u_ws RX7 TX7 2, w ∈ mW := by decide +kernel
end
section
/-! the memory: sh a = what stands at the address a (an object of a class of vwCl, or an array of a kind and a length), P its references, D its ints, E its longs -/
abbrev mX : Type := Nat ⊕ (Nat × Nat)
abbrev mSh : Type := Nat → Option mX
abbrev mPt : Type := Nat → Nat → Option Nat
abbrev mDt : Type := Nat → Nat → Int32
abbrev mEt : Type := Nat → Nat → Int64
def mN (ci : Nat) : Nat := [4, 2, 8, 15, 5, 3, 17, 2].getD ci 0
def mrk (ci k : Nat) : Bool := if ci = 7 then k == 1 else decide (k < [0, 1, 4, 0, 3, 3, 5].getD ci 0)
def mfl (ci : Nat) (p : Nat → Option Nat) (d : Nat → Int32) : List Value := (List.range (mN ci)).map fun k => if mrk ci k = true then va_rf (p k) else .int (d k)
def mcell (Y : Nat → ClassId) (x : mX) (p : Nat → Option Nat) (d : Nat → Int32) (q : Nat → Int64) : va_E := match x with
  | .inl ci => .inr (ci, mfl ci p d)
  | .inr (0, len) => .inl (Y 0, len, .inl d)
  | .inr (3, len) => .inl (Y 3, len, .inr (.inl q))
  | .inr (t, len) => .inl (Y t, len, .inr (.inr (.inr (.inr p))))
def upd2 (D : mDt) (a k : Nat) (x : Int32) : mDt := fun b j => if b = a ∧ j = k then x else D b j
def updP (P : mPt) (a k : Nat) (x : Option Nat) : mPt := fun b j => if b = a ∧ j = k then x else P b j
def updE (E : mEt) (a k : Nat) (x : Int64) : mEt := fun b j => if b = a ∧ j = k then x else E b j
def updS (sh : mSh) (a : Nat) (x : mX) : mSh := fun b => if b = a then some x else sh b
def mR (G : va_G) (Y : Nat → ClassId) (base n : Nat) (sh : mSh) (P : mPt) (D : mDt) (E : mEt) (H : Heap) : Prop :=
  H.size = n ∧ ∀ (a : Nat) (x : mX), sh a = some x → base ≤ a ∧ va_at G vwCl (a, mcell Y x (P a) (D a) (E a)) H
def mtys (Y : Nat → ClassId) : List (ClassId × FieldType) := [(Y 0, .int), (Y 1, .object RX3), (Y 2, .array .int), (Y 3, .long)]
/-- the tables, as a state knows them -/
def mKx (G : va_G) (Y : Nat → ClassId) (U : State) : Prop := va_K G vwCl (mtys Y) U ∧ (∀ w ∈ mNest, va_Nw w U)
abbrev mKp : Type := Launch × va_G × (Nat → ClassId) × Nat
abbrev mC : Type := (Program × Launch × Env × Room × State × MethodId × Array Value × List Frame × Method × Code) × (va_G × (Nat → ClassId) × Nat)
def mOk (Γ : mC) (κ : mKp) (own : String) (cc : ByteArray) (nL : Nat) (ret : Option FieldType) (R' : Room) : Prop := match Γ with
  | ((p, l, e, R, s, m, args, below, meth, c), (G, Y, base)) => p.tables.exec = Jvm.exec ∧ c.code = cc ∧ c.maxLocals = nL ∧ s.vm.findClass own = some m.cls ∧ (∀ w ∈ mW, w.before args s = true) ∧ mKx G Y s ∧ meth.locks = false ∧ meth.sig.returnType = ret ∧ R = R' ∧ base ≤ s.heap.size ∧ (l, G, Y, base) = κ
def mV (Γ : mC) (Q : State → Prop) (kc ks n : Nat) (sh : mSh) (P : mPt) (D : mDt) (E : mEt) (lv : List (Nat × Value)) (st : List Value) (pc : Nat) : Prop := match Γ with
  | ((p, l, e, R, s, m, args, below, meth, c), (G, Y, base)) => ∀ (H : Heap) (locs : List Loc) (ls : Array Slot), mR G Y base n sh P D E H → va_S (fun q => base ≤ q) s.heap H locs → lv_has ls c.maxLocals lv → W p l e R s m args below meth c H locs kc ks Q (F0 m pc ls st)
theorem upd2_eq {D : mDt} {a k : Nat} {x : Int32} : upd2 D a k x a k = x := by simp [upd2]
theorem upd2_na {D : mDt} {a k b j : Nat} {x : Int32} (h : b ≠ a) : upd2 D a k x b j = D b j := by simp [upd2, h]
theorem upd2_nk {D : mDt} {a k b j : Nat} {x : Int32} (h : j ≠ k) : upd2 D a k x b j = D b j := by simp [upd2, h]
theorem upd2_ra {D : mDt} {a k b : Nat} {x : Int32} (h : b ≠ a) : upd2 D a k x b = D b := by funext j; simp [upd2, h]
theorem upd2_row {D : mDt} {a k : Nat} {x : Int32} : upd2 D a k x a = upd (D a) k x := by funext j; simp [upd2, upd]
theorem updP_row {P : mPt} {a k : Nat} {x : Option Nat} : updP P a k x a = va_up (P a) k x := by funext j; simp [updP, va_up]
theorem updP_ra {P : mPt} {a k b : Nat} {x : Option Nat} (h : b ≠ a) : updP P a k x b = P b := by funext j; simp [updP, h]
theorem updE_ra {E : mEt} {a k b : Nat} {x : Int64} (h : b ≠ a) : updE E a k x b = E b := by funext j; simp [updE, h]
theorem updE_row {E : mEt} {a k : Nat} {x : Int64} : updE E a k x a = vp_updL (E a) k x := by funext j; simp [updE, vp_updL]
theorem mfl_len (ci : Nat) (p : Nat → Option Nat) (d : Nat → Int32) : (mfl ci p d).length = mN ci := by simp [mfl]
theorem mfl_get {ci k : Nat} {p : Nat → Option Nat} {d : Nat → Int32} (hk : k < mN ci) : (mfl ci p d)[k]? = some (if mrk ci k = true then va_rf (p k) else .int (d k)) := by simp [mfl, hk]
theorem mfl_geti {ci k : Nat} {p : Nat → Option Nat} {d : Nat → Int32} (hk : k < mN ci) (hr : mrk ci k = false) : (mfl ci p d)[k]? = some (.int (d k)) := by rw [mfl_get hk, hr]; rfl
theorem mfl_getr {ci k b : Nat} {p : Nat → Option Nat} {d : Nat → Int32} (hk : k < mN ci) (hr : mrk ci k = true) (hb : p k = some b) : (mfl ci p d)[k]? = some (.ref b) := by rw [mfl_get hk, hr, hb]; rfl
theorem mfl_seti {ci k : Nat} {p : Nat → Option Nat} {d : Nat → Int32} {x : Int32} (hr : mrk ci k = false) : (mfl ci p d).set k (.int x) = mfl ci p (upd d k x) := by
  apply List.ext_getElem?
  intro j
  rw [List.getElem?_set]
  by_cases hj : k = j
  · subst hj
    by_cases hl : k < mN ci
    · rw [if_pos rfl, if_pos (by rw [mfl_len]; exact hl), mfl_geti hl hr]; simp [upd]
    · rw [if_pos rfl, if_neg (by rw [mfl_len]; exact hl), List.getElem?_eq_none (by rw [mfl_len]; omega)]
  · rw [if_neg hj]
    by_cases hl : j < mN ci
    · rw [mfl_get hl, mfl_get hl]; simp [upd, Ne.symm hj]
    · rw [List.getElem?_eq_none (by rw [mfl_len]; omega), List.getElem?_eq_none (by rw [mfl_len]; omega)]
theorem mfl_setr {ci k : Nat} {p : Nat → Option Nat} {d : Nat → Int32} {x : Option Nat} (hr : mrk ci k = true) : (mfl ci p d).set k (va_rf x) = mfl ci (va_up p k x) d := by
  apply List.ext_getElem?
  intro j
  rw [List.getElem?_set]
  by_cases hj : k = j
  · subst hj
    by_cases hl : k < mN ci
    · rw [if_pos rfl, if_pos (by rw [mfl_len]; exact hl), mfl_get hl, hr]; simp [va_up]
    · rw [if_pos rfl, if_neg (by rw [mfl_len]; exact hl), List.getElem?_eq_none (by rw [mfl_len]; omega)]
  · rw [if_neg hj]
    by_cases hl : j < mN ci
    · rw [mfl_get hl, mfl_get hl]; simp [va_up, Ne.symm hj]
    · rw [List.getElem?_eq_none (by rw [mfl_len]; omega), List.getElem?_eq_none (by rw [mfl_len]; omega)]
theorem mR_one {G : va_G} {Y : Nat → ClassId} {base n : Nat} {sh : mSh} {P : mPt} {D : mDt} {E : mEt} {H : Heap} (h : mR G Y base n sh P D E H) {a : Nat} {x : mX} (hs : sh a = some x) : va_P G vwCl [(a, mcell Y x (P a) (D a) (E a))] H := by
  intro k q hk
  match k, hk with
  | 0, hk => cases hk; exact (h.2 a x hs).2
  | k + 1, hk => simp at hk
theorem mD_one {A : Nat → Prop} {a : Nat} {e : va_E} (h : A a) : va_D A [(a, e)] := by
  refine ⟨fun i j p q hi hj _ => ?_, fun k q hk => ?_⟩
  · have h1 : i < 1 := (List.getElem?_eq_some_iff.mp hi).1
    have h2 : j < 1 := (List.getElem?_eq_some_iff.mp hj).1
    omega
  · match k, hk with
    | 0, hk => cases hk; exact h
    | k + 1, hk => simp at hk
/-- one cell is written -/
theorem mR_set {G : va_G} {Y : Nat → ClassId} {base n : Nat} {sh : mSh} {P P' : mPt} {D D' : mDt} {E E' : mEt} {H H1 : Heap} (h : mR G Y base n sh P D E H) {a : Nat} {x : mX} (hs : sh a = some x) (hz : H1.size = H.size) (hat : va_at G vwCl (a, mcell Y x (P' a) (D' a) (E' a)) H1) (oq : ∀ q : Nat, q ≠ a → H1[q]? = H[q]?)
    (hP : ∀ b, b ≠ a → P' b = P b) (hD : ∀ b, b ≠ a → D' b = D b) (hE : ∀ b, b ≠ a → E' b = E b) : mR G Y base n sh P' D' E' H1 := by
  refine ⟨hz.trans h.1, fun b y hb => ?_⟩
  by_cases e : b = a
  · subst e
    rw [hs] at hb
    cases hb
    exact ⟨(h.2 b x hs).1, hat⟩
  · obtain ⟨h1, h2⟩ := h.2 b y hb
    refine ⟨h1, ?_⟩
    rw [hP b e, hD b e, hE b e]
    exact h2.kept (oq b e)
/-- one cell is made -/
theorem mR_new {G : va_G} {Y : Nat → ClassId} {base n : Nat} {sh : mSh} {P P' : mPt} {D D' : mDt} {E E' : mEt} {H H1 : Heap} (h : mR G Y base n sh P D E H) {x : mX} (hb : base ≤ n) (hz : H1.size = n + 1) (hat : va_at G vwCl (n, mcell Y x (P' n) (D' n) (E' n)) H1) (oq : ∀ q : Nat, q < n → H1[q]? = H[q]?)
    (hP : ∀ b, b ≠ n → P' b = P b) (hD : ∀ b, b ≠ n → D' b = D b) (hE : ∀ b, b ≠ n → E' b = E b) : mR G Y base (n + 1) (updS sh n x) P' D' E' H1 := by
  refine ⟨hz, fun b y hy => ?_⟩
  unfold updS at hy
  by_cases e : b = n
  · subst e
    rw [if_pos rfl] at hy
    cases hy
    exact ⟨hb, hat⟩
  · rw [if_neg e] at hy
    obtain ⟨h1, h2⟩ := h.2 b y hy
    refine ⟨h1, ?_⟩
    rw [hP b e, hD b e, hE b e]
    exact h2.kept (oq b (by have := h2.lt; rw [h.1] at this; exact this))
/-- what is said of no cell is left out -/
theorem mR_less {G : va_G} {Y : Nat → ClassId} {base n : Nat} {sh sh' : mSh} {P : mPt} {D : mDt} {E : mEt} {H : Heap} (h : mR G Y base n sh P D E H) (hs : ∀ a x, sh' a = some x → sh a = some x) : mR G Y base n sh' P D E H := ⟨h.1, fun a x hx => h.2 a x (hs a x hx)⟩
theorem mR_lt {G : va_G} {Y : Nat → ClassId} {base n : Nat} {sh : mSh} {P : mPt} {D : mDt} {E : mEt} {H : Heap} (h : mR G Y base n sh P D E H) {a : Nat} {x : mX} (hs : sh a = some x) : a < n := by
  have := (h.2 a x hs).2.lt
  rw [h.1] at this
  exact this
/-- memories that hold the same where something is said -/
theorem mR_same {G : va_G} {Y : Nat → ClassId} {base n : Nat} {sh : mSh} {P P' : mPt} {D D' : mDt} {E E' : mEt} {H : Heap} (h : mR G Y base n sh P D E H) (hP : ∀ a x, sh a = some x → P' a = P a) (hD : ∀ a x, sh a = some x → D' a = D a) (hE : ∀ a x, sh a = some x → E' a = E a) : mR G Y base n sh P' D' E' H := by
  refine ⟨h.1, fun a x hx => ?_⟩
  rw [hP a x hx, hD a x hx, hE a x hx]
  exact h.2 a x hx
def imax (x y : Int32) : Int32 := if x < y then y else x
def imin (x y : Int32) : Int32 := if y < x then y else x
section MV
variable {Γ : mC} {κ : mKp} {Q : State → Prop} {kc ks n : Nat} {sh : mSh} {P : mPt} {D : mDt} {E : mEt} {lv : List (Nat × Value)} {st : List Value} {pc : Nat} {own : String} {cc : ByteArray} {nL : Nat} {ret : Option FieldType} {R : Room}
theorem V_iconst (h : mOk Γ κ own cc nL ret R) (pc' : Nat) {z : Int} {v : Int32} (hv : Int32.ofInt z = v) (d : decode cc pc = .ok (.iconst z, 1)) (hp : pc + 1 = pc') (k : mV Γ Q kc ks n sh P D E lv (.int v :: st) pc') : mV Γ Q kc ks n sh P D E lv (st) pc := by
  obtain ⟨⟨p, l, e, R0, s, m, args, below, meth, c⟩, G, Y, base⟩ := Γ
  obtain ⟨hx, hb, hml, hown, hts, hK, hlk, hrt, hR, hbs, -⟩ := h
  subst hp
  intro H locs ls hR1 hS hl
  exact lv_iconst hx hb d hv (k H locs ls hR1 hS hl)
theorem V_bipush (h : mOk Γ κ own cc nL ret R) (pc' : Nat) {z : Int} {v : Int32} (hv : (Int8.ofInt z).toInt32 = v) (d : decode cc pc = .ok (.bipush z, 2)) (hp : pc + 2 = pc') (k : mV Γ Q kc ks n sh P D E lv (.int v :: st) pc') : mV Γ Q kc ks n sh P D E lv (st) pc := by
  obtain ⟨⟨p, l, e, R0, s, m, args, below, meth, c⟩, G, Y, base⟩ := Γ
  obtain ⟨hx, hb, hml, hown, hts, hK, hlk, hrt, hR, hbs, -⟩ := h
  subst hp
  intro H locs ls hR1 hS hl
  exact lv_bipush hx hb d hv (k H locs ls hR1 hS hl)
theorem V_sipush (h : mOk Γ κ own cc nL ret R) (pc' : Nat) {z : Int} {v : Int32} (hv : (Int16.ofInt z).toInt32 = v) (d : decode cc pc = .ok (.sipush z, 3)) (hp : pc + 3 = pc') (k : mV Γ Q kc ks n sh P D E lv (.int v :: st) pc') : mV Γ Q kc ks n sh P D E lv (st) pc := by
  obtain ⟨⟨p, l, e, R0, s, m, args, below, meth, c⟩, G, Y, base⟩ := Γ
  obtain ⟨hx, hb, hml, hown, hts, hK, hlk, hrt, hR, hbs, -⟩ := h
  subst hp
  intro H locs ls hR1 hS hl
  exact lv_sipush hx hb d hv (k H locs ls hR1 hS hl)
theorem V_iload (h : mOk Γ κ own cc nL ret R) (pc' : Nat) {i : Nat} {x : Int32} (k0 : Nat) (hk : lv[k0]? = some (i, .int x)) (d : decode cc pc = .ok (.iload i, 2)) (hp : pc + 2 = pc') (k : mV Γ Q kc ks n sh P D E lv (.int x :: st) pc') : mV Γ Q kc ks n sh P D E lv (st) pc := by
  obtain ⟨⟨p, l, e, R0, s, m, args, below, meth, c⟩, G, Y, base⟩ := Γ
  obtain ⟨hx, hb, hml, hown, hts, hK, hlk, hrt, hR, hbs, -⟩ := h
  subst hp
  intro H locs ls hR1 hS hl
  exact lv_iload hx hb d (lv_at hl k0 hk) (k H locs ls hR1 hS hl)
theorem V_iload_n (h : mOk Γ κ own cc nL ret R) (pc' : Nat) {i : Fin 4} {x : Int32} (k0 : Nat) (hk : lv[k0]? = some ((i : Nat), .int x)) (d : decode cc pc = .ok (.iload_n i, 1)) (hp : pc + 1 = pc') (k : mV Γ Q kc ks n sh P D E lv (.int x :: st) pc') : mV Γ Q kc ks n sh P D E lv (st) pc := by
  obtain ⟨⟨p, l, e, R0, s, m, args, below, meth, c⟩, G, Y, base⟩ := Γ
  obtain ⟨hx, hb, hml, hown, hts, hK, hlk, hrt, hR, hbs, -⟩ := h
  subst hp
  intro H locs ls hR1 hS hl
  exact lv_iload_n hx hb d rfl (lv_at hl k0 hk) (k H locs ls hR1 hS hl)
theorem V_aload (h : mOk Γ κ own cc nL ret R) (pc' : Nat) {i : Nat} {x : Nat} (k0 : Nat) (hk : lv[k0]? = some (i, .ref x)) (d : decode cc pc = .ok (.aload i, 2)) (hp : pc + 2 = pc') (k : mV Γ Q kc ks n sh P D E lv (.ref x :: st) pc') : mV Γ Q kc ks n sh P D E lv (st) pc := by
  obtain ⟨⟨p, l, e, R0, s, m, args, below, meth, c⟩, G, Y, base⟩ := Γ
  obtain ⟨hx, hb, hml, hown, hts, hK, hlk, hrt, hR, hbs, -⟩ := h
  subst hp
  intro H locs ls hR1 hS hl
  exact lv_aload hx hb d (lv_at hl k0 hk) (k H locs ls hR1 hS hl)
theorem V_aload_n (h : mOk Γ κ own cc nL ret R) (pc' : Nat) {i : Fin 4} {x : Nat} (k0 : Nat) (hk : lv[k0]? = some ((i : Nat), .ref x)) (d : decode cc pc = .ok (.aload_n i, 1)) (hp : pc + 1 = pc') (k : mV Γ Q kc ks n sh P D E lv (.ref x :: st) pc') : mV Γ Q kc ks n sh P D E lv (st) pc := by
  obtain ⟨⟨p, l, e, R0, s, m, args, below, meth, c⟩, G, Y, base⟩ := Γ
  obtain ⟨hx, hb, hml, hown, hts, hK, hlk, hrt, hR, hbs, -⟩ := h
  subst hp
  intro H locs ls hR1 hS hl
  exact lv_aload_n hx hb d rfl (lv_at hl k0 hk) (k H locs ls hR1 hS hl)
theorem V_lload_n (h : mOk Γ κ own cc nL ret R) (pc' : Nat) {i : Fin 4} {x : Int64} (k0 : Nat) (hk : lv[k0]? = some ((i : Nat), .long x)) (d : decode cc pc = .ok (.lload_n i, 1)) (hp : pc + 1 = pc') (k : mV Γ Q kc ks n sh P D E lv (.long x :: st) pc') : mV Γ Q kc ks n sh P D E lv (st) pc := by
  obtain ⟨⟨p, l, e, R0, s, m, args, below, meth, c⟩, G, Y, base⟩ := Γ
  obtain ⟨hx, hb, hml, hown, hts, hK, hlk, hrt, hR, hbs, -⟩ := h
  subst hp
  intro H locs ls hR1 hS hl
  exact lv_lload_n hx hb d rfl (lv_at hl k0 hk) (k H locs ls hR1 hS hl)
theorem V_dload (h : mOk Γ κ own cc nL ret R) (pc' : Nat) {i : Nat} {x : UInt64} (k0 : Nat) (hk : lv[k0]? = some (i, .double x)) (d : decode cc pc = .ok (.dload i, 2)) (hp : pc + 2 = pc') (k : mV Γ Q kc ks n sh P D E lv (.double x :: st) pc') : mV Γ Q kc ks n sh P D E lv (st) pc := by
  obtain ⟨⟨p, l, e, R0, s, m, args, below, meth, c⟩, G, Y, base⟩ := Γ
  obtain ⟨hx, hb, hml, hown, hts, hK, hlk, hrt, hR, hbs, -⟩ := h
  subst hp
  intro H locs ls hR1 hS hl
  exact lv_dload hx hb d (lv_at hl k0 hk) (k H locs ls hR1 hS hl)
theorem V_istore (h : mOk Γ κ own cc nL ret R) (pc' : Nat) (lv' : List (Nat × Value)) {i : Nat} {x : Int32} (hi : i < nL) (he : (i, Value.int x) :: lv.filter (fun q => !(q.1 == i) && !(q.1 + 1 == i && q.2.category == 2)) = lv') (d : decode cc pc = .ok (.istore i, 2)) (hp : pc + 2 = pc') (k : mV Γ Q kc ks n sh P D E lv' st pc') : mV Γ Q kc ks n sh P D E lv (.int x :: st) pc := by
  obtain ⟨⟨p, l, e, R0, s, m, args, below, meth, c⟩, G, Y, base⟩ := Γ
  obtain ⟨hx, hb, hml, hown, hts, hK, hlk, hrt, hR, hbs, -⟩ := h
  subst hp
  intro H locs ls hR1 hS hl
  exact lv_istore hx hb d hl (by rw [hml]; exact hi) he (fun ls hl => k H locs ls hR1 hS hl)
theorem V_istore_n (h : mOk Γ κ own cc nL ret R) (pc' : Nat) (lv' : List (Nat × Value)) {i : Fin 4} {x : Int32} (hi : (i : Nat) < nL) (he : ((i : Nat), Value.int x) :: lv.filter (fun q => !(q.1 == (i : Nat)) && !(q.1 + 1 == (i : Nat) && q.2.category == 2)) = lv') (d : decode cc pc = .ok (.istore_n i, 1)) (hp : pc + 1 = pc') (k : mV Γ Q kc ks n sh P D E lv' st pc') : mV Γ Q kc ks n sh P D E lv (.int x :: st) pc := by
  obtain ⟨⟨p, l, e, R0, s, m, args, below, meth, c⟩, G, Y, base⟩ := Γ
  obtain ⟨hx, hb, hml, hown, hts, hK, hlk, hrt, hR, hbs, -⟩ := h
  subst hp
  intro H locs ls hR1 hS hl
  exact lv_istore_n hx hb d rfl hl (by rw [hml]; exact hi) he (fun ls hl => k H locs ls hR1 hS hl)
theorem V_astore (h : mOk Γ κ own cc nL ret R) (pc' : Nat) (lv' : List (Nat × Value)) {i : Nat} {x : Nat} (hi : i < nL) (he : (i, Value.ref x) :: lv.filter (fun q => !(q.1 == i) && !(q.1 + 1 == i && q.2.category == 2)) = lv') (d : decode cc pc = .ok (.astore i, 2)) (hp : pc + 2 = pc') (k : mV Γ Q kc ks n sh P D E lv' st pc') : mV Γ Q kc ks n sh P D E lv (.ref x :: st) pc := by
  obtain ⟨⟨p, l, e, R0, s, m, args, below, meth, c⟩, G, Y, base⟩ := Γ
  obtain ⟨hx, hb, hml, hown, hts, hK, hlk, hrt, hR, hbs, -⟩ := h
  subst hp
  intro H locs ls hR1 hS hl
  exact lv_astore hx hb d hl (by rw [hml]; exact hi) he (fun ls hl => k H locs ls hR1 hS hl)
theorem V_astore_n (h : mOk Γ κ own cc nL ret R) (pc' : Nat) (lv' : List (Nat × Value)) {i : Fin 4} {x : Nat} (hi : (i : Nat) < nL) (he : ((i : Nat), Value.ref x) :: lv.filter (fun q => !(q.1 == (i : Nat)) && !(q.1 + 1 == (i : Nat) && q.2.category == 2)) = lv') (d : decode cc pc = .ok (.astore_n i, 1)) (hp : pc + 1 = pc') (k : mV Γ Q kc ks n sh P D E lv' st pc') : mV Γ Q kc ks n sh P D E lv (.ref x :: st) pc := by
  obtain ⟨⟨p, l, e, R0, s, m, args, below, meth, c⟩, G, Y, base⟩ := Γ
  obtain ⟨hx, hb, hml, hown, hts, hK, hlk, hrt, hR, hbs, -⟩ := h
  subst hp
  intro H locs ls hR1 hS hl
  exact lv_astore_n hx hb d rfl hl (by rw [hml]; exact hi) he (fun ls hl => k H locs ls hR1 hS hl)
theorem V_lstore_n (h : mOk Γ κ own cc nL ret R) (pc' : Nat) (lv' : List (Nat × Value)) {i : Fin 4} {x : Int64} (hi : (i : Nat) + 1 < nL) (he : ((i : Nat), Value.long x) :: lv.filter (fun q => !(q.1 == (i : Nat)) && (!(q.1 == (i : Nat) + 1) && !(q.1 + 1 == (i : Nat) && q.2.category == 2))) = lv') (d : decode cc pc = .ok (.lstore_n i, 1)) (hp : pc + 1 = pc') (k : mV Γ Q kc ks n sh P D E lv' st pc') : mV Γ Q kc ks n sh P D E lv (.long x :: st) pc := by
  obtain ⟨⟨p, l, e, R0, s, m, args, below, meth, c⟩, G, Y, base⟩ := Γ
  obtain ⟨hx, hb, hml, hown, hts, hK, hlk, hrt, hR, hbs, -⟩ := h
  subst hp
  intro H locs ls hR1 hS hl
  exact lv_lstore_n hx hb d rfl hl (by rw [hml]; exact hi) he (fun ls hl => k H locs ls hR1 hS hl)
theorem V_dstore (h : mOk Γ κ own cc nL ret R) (pc' : Nat) (lv' : List (Nat × Value)) {i : Nat} {x : UInt64} (hi : i + 1 < nL) (he : (i, Value.double x) :: lv.filter (fun q => !(q.1 == i) && (!(q.1 == i + 1) && !(q.1 + 1 == i && q.2.category == 2))) = lv') (d : decode cc pc = .ok (.dstore i, 2)) (hp : pc + 2 = pc') (k : mV Γ Q kc ks n sh P D E lv' st pc') : mV Γ Q kc ks n sh P D E lv (.double x :: st) pc := by
  obtain ⟨⟨p, l, e, R0, s, m, args, below, meth, c⟩, G, Y, base⟩ := Γ
  obtain ⟨hx, hb, hml, hown, hts, hK, hlk, hrt, hR, hbs, -⟩ := h
  subst hp
  intro H locs ls hR1 hS hl
  exact lv_dstore hx hb d hl (by rw [hml]; exact hi) he (fun ls hl => k H locs ls hR1 hS hl)
theorem V_iinc (h : mOk Γ κ own cc nL ret R) (pc' : Nat) (lv' : List (Nat × Value)) {i : Nat} {z : Int} {x v : Int32} (k0 : Nat) (hk : lv[k0]? = some (i, .int x)) (hv : x + Int32.ofInt z = v) (hi : i < nL) (he : (i, Value.int v) :: lv.filter (fun q => !(q.1 == i) && !(q.1 + 1 == i && q.2.category == 2)) = lv') (d : decode cc pc = .ok (.iinc i z, 3)) (hp : pc + 3 = pc') (k : mV Γ Q kc ks n sh P D E lv' st pc') : mV Γ Q kc ks n sh P D E lv (st) pc := by
  obtain ⟨⟨p, l, e, R0, s, m, args, below, meth, c⟩, G, Y, base⟩ := Γ
  obtain ⟨hx, hb, hml, hown, hts, hK, hlk, hrt, hR, hbs, -⟩ := h
  subst hp
  intro H locs ls hR1 hS hl
  exact lv_iinc hx hb d hl hk hv (by rw [hml]; exact hi) he (fun ls hl => k H locs ls hR1 hS hl)
theorem V_iadd (h : mOk Γ κ own cc nL ret R) (pc' : Nat) {x y : Int32} (d : decode cc pc = .ok (.iadd, 1)) (hp : pc + 1 = pc') (k : mV Γ Q kc ks n sh P D E lv (.int (x + y) :: st) pc') : mV Γ Q kc ks n sh P D E lv (.int y :: .int x :: st) pc := by
  obtain ⟨⟨p, l, e, R0, s, m, args, below, meth, c⟩, G, Y, base⟩ := Γ
  obtain ⟨hx, hb, hml, hown, hts, hK, hlk, hrt, hR, hbs, -⟩ := h
  subst hp
  intro H locs ls hR1 hS hl
  exact lv_iadd hx hb d (k H locs ls hR1 hS hl)
theorem V_isub (h : mOk Γ κ own cc nL ret R) (pc' : Nat) {x y : Int32} (d : decode cc pc = .ok (.isub, 1)) (hp : pc + 1 = pc') (k : mV Γ Q kc ks n sh P D E lv (.int (x - y) :: st) pc') : mV Γ Q kc ks n sh P D E lv (.int y :: .int x :: st) pc := by
  obtain ⟨⟨p, l, e, R0, s, m, args, below, meth, c⟩, G, Y, base⟩ := Γ
  obtain ⟨hx, hb, hml, hown, hts, hK, hlk, hrt, hR, hbs, -⟩ := h
  subst hp
  intro H locs ls hR1 hS hl
  exact lv_isub hx hb d (k H locs ls hR1 hS hl)
theorem V_imul (h : mOk Γ κ own cc nL ret R) (pc' : Nat) {x y : Int32} (d : decode cc pc = .ok (.imul, 1)) (hp : pc + 1 = pc') (k : mV Γ Q kc ks n sh P D E lv (.int (x * y) :: st) pc') : mV Γ Q kc ks n sh P D E lv (.int y :: .int x :: st) pc := by
  obtain ⟨⟨p, l, e, R0, s, m, args, below, meth, c⟩, G, Y, base⟩ := Γ
  obtain ⟨hx, hb, hml, hown, hts, hK, hlk, hrt, hR, hbs, -⟩ := h
  subst hp
  intro H locs ls hR1 hS hl
  exact lv_imul hx hb d (k H locs ls hR1 hS hl)
theorem V_iand (h : mOk Γ κ own cc nL ret R) (pc' : Nat) {x y : Int32} (d : decode cc pc = .ok (.iand, 1)) (hp : pc + 1 = pc') (k : mV Γ Q kc ks n sh P D E lv (.int (x &&& y) :: st) pc') : mV Γ Q kc ks n sh P D E lv (.int y :: .int x :: st) pc := by
  obtain ⟨⟨p, l, e, R0, s, m, args, below, meth, c⟩, G, Y, base⟩ := Γ
  obtain ⟨hx, hb, hml, hown, hts, hK, hlk, hrt, hR, hbs, -⟩ := h
  subst hp
  intro H locs ls hR1 hS hl
  exact lv_iand hx hb d (k H locs ls hR1 hS hl)
theorem V_idiv (h : mOk Γ κ own cc nL ret R) (pc' : Nat) {x y : Int32} (hne : ¬ y = 0) (d : decode cc pc = .ok (.idiv, 1)) (hp : pc + 1 = pc') (k : mV Γ Q kc ks n sh P D E lv (.int (x / y) :: st) pc') : mV Γ Q kc ks n sh P D E lv (.int y :: .int x :: st) pc := by
  obtain ⟨⟨p, l, e, R0, s, m, args, below, meth, c⟩, G, Y, base⟩ := Γ
  obtain ⟨hx, hb, hml, hown, hts, hK, hlk, hrt, hR, hbs, -⟩ := h
  subst hp
  intro H locs ls hR1 hS hl
  exact lv_idiv hx hb d hne (k H locs ls hR1 hS hl)
theorem V_irem (h : mOk Γ κ own cc nL ret R) (pc' : Nat) {x y : Int32} (hne : ¬ y = 0) (d : decode cc pc = .ok (.irem, 1)) (hp : pc + 1 = pc') (k : mV Γ Q kc ks n sh P D E lv (.int (x - x / y * y) :: st) pc') : mV Γ Q kc ks n sh P D E lv (.int y :: .int x :: st) pc := by
  obtain ⟨⟨p, l, e, R0, s, m, args, below, meth, c⟩, G, Y, base⟩ := Γ
  obtain ⟨hx, hb, hml, hown, hts, hK, hlk, hrt, hR, hbs, -⟩ := h
  subst hp
  intro H locs ls hR1 hS hl
  exact lv_irem hx hb d hne (k H locs ls hR1 hS hl)
theorem V_ineg (h : mOk Γ κ own cc nL ret R) (pc' : Nat) {x : Int32} (d : decode cc pc = .ok (.ineg, 1)) (hp : pc + 1 = pc') (k : mV Γ Q kc ks n sh P D E lv (.int (-x) :: st) pc') : mV Γ Q kc ks n sh P D E lv (.int x :: st) pc := by
  obtain ⟨⟨p, l, e, R0, s, m, args, below, meth, c⟩, G, Y, base⟩ := Γ
  obtain ⟨hx, hb, hml, hown, hts, hK, hlk, hrt, hR, hbs, -⟩ := h
  subst hp
  intro H locs ls hR1 hS hl
  exact lv_ineg hx hb d (k H locs ls hR1 hS hl)
theorem V_i2l (h : mOk Γ κ own cc nL ret R) (pc' : Nat) {x : Int32} (d : decode cc pc = .ok (.i2l, 1)) (hp : pc + 1 = pc') (k : mV Γ Q kc ks n sh P D E lv (.long x.toInt64 :: st) pc') : mV Γ Q kc ks n sh P D E lv (.int x :: st) pc := by
  obtain ⟨⟨p, l, e, R0, s, m, args, below, meth, c⟩, G, Y, base⟩ := Γ
  obtain ⟨hx, hb, hml, hown, hts, hK, hlk, hrt, hR, hbs, -⟩ := h
  subst hp
  intro H locs ls hR1 hS hl
  exact lv_i2l hx hb d rfl (k H locs ls hR1 hS hl)
theorem V_ladd (h : mOk Γ κ own cc nL ret R) (pc' : Nat) {x y : Int64} (d : decode cc pc = .ok (.ladd, 1)) (hp : pc + 1 = pc') (k : mV Γ Q kc ks n sh P D E lv (.long (x + y) :: st) pc') : mV Γ Q kc ks n sh P D E lv (.long y :: .long x :: st) pc := by
  obtain ⟨⟨p, l, e, R0, s, m, args, below, meth, c⟩, G, Y, base⟩ := Γ
  obtain ⟨hx, hb, hml, hown, hts, hK, hlk, hrt, hR, hbs, -⟩ := h
  subst hp
  intro H locs ls hR1 hS hl
  exact lv_ladd hx hb d (k H locs ls hR1 hS hl)
theorem V_lmul (h : mOk Γ κ own cc nL ret R) (pc' : Nat) {x y : Int64} (d : decode cc pc = .ok (.lmul, 1)) (hp : pc + 1 = pc') (k : mV Γ Q kc ks n sh P D E lv (.long (x * y) :: st) pc') : mV Γ Q kc ks n sh P D E lv (.long y :: .long x :: st) pc := by
  obtain ⟨⟨p, l, e, R0, s, m, args, below, meth, c⟩, G, Y, base⟩ := Γ
  obtain ⟨hx, hb, hml, hown, hts, hK, hlk, hrt, hR, hbs, -⟩ := h
  subst hp
  intro H locs ls hR1 hS hl
  exact lv_lmul hx hb d (k H locs ls hR1 hS hl)
theorem V_lcmp (h : mOk Γ κ own cc nL ret R) (pc' : Nat) {x y : Int64} (d : decode cc pc = .ok (.lcmp, 1)) (hp : pc + 1 = pc') (k : mV Γ Q kc ks n sh P D E lv (.int (lg_cmp x y) :: st) pc') : mV Γ Q kc ks n sh P D E lv (.long y :: .long x :: st) pc := by
  obtain ⟨⟨p, l, e, R0, s, m, args, below, meth, c⟩, G, Y, base⟩ := Γ
  obtain ⟨hx, hb, hml, hown, hts, hK, hlk, hrt, hR, hbs, -⟩ := h
  subst hp
  intro H locs ls hR1 hS hl
  exact W.lcmp hx hb d (k H locs ls hR1 hS hl)
theorem V_dup (h : mOk Γ κ own cc nL ret R) (pc' : Nat) {va : Value} (hva : va.category = 1) (d : decode cc pc = .ok (.dup, 1)) (hp : pc + 1 = pc') (k : mV Γ Q kc ks n sh P D E lv (va :: va :: st) pc') : mV Γ Q kc ks n sh P D E lv (va :: st) pc := by
  obtain ⟨⟨p, l, e, R0, s, m, args, below, meth, c⟩, G, Y, base⟩ := Γ
  obtain ⟨hx, hb, hml, hown, hts, hK, hlk, hrt, hR, hbs, -⟩ := h
  subst hp
  intro H locs ls hR1 hS hl
  exact lv_dup hx hb d hva (k H locs ls hR1 hS hl)
theorem V_dup_x1 (h : mOk Γ κ own cc nL ret R) (pc' : Nat) {va vb : Value} (hva : va.category = 1) (hvb : vb.category = 1) (d : decode cc pc = .ok (.dup_x1, 1)) (hp : pc + 1 = pc') (k : mV Γ Q kc ks n sh P D E lv (va :: vb :: va :: st) pc') : mV Γ Q kc ks n sh P D E lv (va :: vb :: st) pc := by
  obtain ⟨⟨p, l, e, R0, s, m, args, below, meth, c⟩, G, Y, base⟩ := Γ
  obtain ⟨hx, hb, hml, hown, hts, hK, hlk, hrt, hR, hbs, -⟩ := h
  subst hp
  intro H locs ls hR1 hS hl
  exact lv_dup_x1 hx hb d hva hvb (k H locs ls hR1 hS hl)
theorem V_dup_x2 (h : mOk Γ κ own cc nL ret R) (pc' : Nat) {va vb vd : Value} (hva : va.category = 1) (hvb : vb.category = 1) (hvd : vd.category = 1) (d : decode cc pc = .ok (.dup_x2, 1)) (hp : pc + 1 = pc') (k : mV Γ Q kc ks n sh P D E lv (va :: vb :: vd :: va :: st) pc') : mV Γ Q kc ks n sh P D E lv (va :: vb :: vd :: st) pc := by
  obtain ⟨⟨p, l, e, R0, s, m, args, below, meth, c⟩, G, Y, base⟩ := Γ
  obtain ⟨hx, hb, hml, hown, hts, hK, hlk, hrt, hR, hbs, -⟩ := h
  subst hp
  intro H locs ls hR1 hS hl
  exact lv_dup_x2 hx hb d hva hvb hvd (k H locs ls hR1 hS hl)
theorem V_dup2 (h : mOk Γ κ own cc nL ret R) (pc' : Nat) {va vb : Value} (hva : va.category = 1) (hvb : vb.category = 1) (d : decode cc pc = .ok (.dup2, 1)) (hp : pc + 1 = pc') (k : mV Γ Q kc ks n sh P D E lv (va :: vb :: va :: vb :: st) pc') : mV Γ Q kc ks n sh P D E lv (va :: vb :: st) pc := by
  obtain ⟨⟨p, l, e, R0, s, m, args, below, meth, c⟩, G, Y, base⟩ := Γ
  obtain ⟨hx, hb, hml, hown, hts, hK, hlk, hrt, hR, hbs, -⟩ := h
  subst hp
  intro H locs ls hR1 hS hl
  exact lv_dup2_11 hx hb d hva hvb (k H locs ls hR1 hS hl)
theorem V_pop (h : mOk Γ κ own cc nL ret R) (pc' : Nat) {va : Value} (hva : va.category = 1) (d : decode cc pc = .ok (.pop, 1)) (hp : pc + 1 = pc') (k : mV Γ Q kc ks n sh P D E lv (st) pc') : mV Γ Q kc ks n sh P D E lv (va :: st) pc := by
  obtain ⟨⟨p, l, e, R0, s, m, args, below, meth, c⟩, G, Y, base⟩ := Γ
  obtain ⟨hx, hb, hml, hown, hts, hK, hlk, hrt, hR, hbs, -⟩ := h
  subst hp
  intro H locs ls hR1 hS hl
  exact lv_pop hx hb d hva (k H locs ls hR1 hS hl)
theorem V_goto (h : mOk Γ κ own cc nL ret R) (tgt : Nat) {off : Int} (d : decode cc pc = .ok (.goto off, 3)) (ht : (pc : Int) + off = (tgt : Int)) (k : mV Γ Q kc ks n sh P D E lv st tgt) : mV Γ Q kc ks n sh P D E lv st pc := by
  obtain ⟨⟨p, l, e, R0, s, m, args, below, meth, c⟩, G, Y, base⟩ := Γ
  obtain ⟨hx, hb, hml, hown, hts, hK, hlk, hrt, hR, hbs, -⟩ := h
  intro H locs ls hR1 hS hl
  exact lv_goto hx hb d ht (k H locs ls hR1 hS hl)
theorem V_icmp_ge (h : mOk Γ κ own cc nL ret R) (tgt pc' : Nat) {x y : Int32} {off : Int} (d : decode cc pc = .ok (.if_icmp .ge off, 3)) (ht : (pc : Int) + off = (tgt : Int)) (hp : pc + 3 = pc') (kt : y ≤ x → mV Γ Q kc ks n sh P D E lv st tgt) (kf : ¬ (y ≤ x) → mV Γ Q kc ks n sh P D E lv st pc') : mV Γ Q kc ks n sh P D E lv (.int y :: .int x :: st) pc := by
  obtain ⟨⟨p, l, e, R0, s, m, args, below, meth, c⟩, G, Y, base⟩ := Γ
  obtain ⟨hx, hb, hml, hown, hts, hK, hlk, hrt, hR, hbs, -⟩ := h
  subst hp
  intro H locs ls hR1 hS hl
  exact lv_icmp_ge hx hb d ht (fun q => kt q H locs ls hR1 hS hl) (fun q => kf q H locs ls hR1 hS hl)
theorem V_icmp_eq (h : mOk Γ κ own cc nL ret R) (tgt pc' : Nat) {x y : Int32} {off : Int} (d : decode cc pc = .ok (.if_icmp .eq off, 3)) (ht : (pc : Int) + off = (tgt : Int)) (hp : pc + 3 = pc') (kt : x = y → mV Γ Q kc ks n sh P D E lv st tgt) (kf : ¬ (x = y) → mV Γ Q kc ks n sh P D E lv st pc') : mV Γ Q kc ks n sh P D E lv (.int y :: .int x :: st) pc := by
  obtain ⟨⟨p, l, e, R0, s, m, args, below, meth, c⟩, G, Y, base⟩ := Γ
  obtain ⟨hx, hb, hml, hown, hts, hK, hlk, hrt, hR, hbs, -⟩ := h
  subst hp
  intro H locs ls hR1 hS hl
  exact lv_icmp_eq hx hb d ht (fun q => kt q H locs ls hR1 hS hl) (fun q => kf q H locs ls hR1 hS hl)
theorem V_icmp_gt (h : mOk Γ κ own cc nL ret R) (tgt pc' : Nat) {x y : Int32} {off : Int} (d : decode cc pc = .ok (.if_icmp .gt off, 3)) (ht : (pc : Int) + off = (tgt : Int)) (hp : pc + 3 = pc') (kt : y < x → mV Γ Q kc ks n sh P D E lv st tgt) (kf : ¬ (y < x) → mV Γ Q kc ks n sh P D E lv st pc') : mV Γ Q kc ks n sh P D E lv (.int y :: .int x :: st) pc := by
  obtain ⟨⟨p, l, e, R0, s, m, args, below, meth, c⟩, G, Y, base⟩ := Γ
  obtain ⟨hx, hb, hml, hown, hts, hK, hlk, hrt, hR, hbs, -⟩ := h
  subst hp
  intro H locs ls hR1 hS hl
  exact lv_icmp_gt hx hb d ht (fun q => kt q H locs ls hR1 hS hl) (fun q => kf q H locs ls hR1 hS hl)
theorem V_icmp_le (h : mOk Γ κ own cc nL ret R) (tgt pc' : Nat) {x y : Int32} {off : Int} (d : decode cc pc = .ok (.if_icmp .le off, 3)) (ht : (pc : Int) + off = (tgt : Int)) (hp : pc + 3 = pc') (kt : x ≤ y → mV Γ Q kc ks n sh P D E lv st tgt) (kf : ¬ (x ≤ y) → mV Γ Q kc ks n sh P D E lv st pc') : mV Γ Q kc ks n sh P D E lv (.int y :: .int x :: st) pc := by
  obtain ⟨⟨p, l, e, R0, s, m, args, below, meth, c⟩, G, Y, base⟩ := Γ
  obtain ⟨hx, hb, hml, hown, hts, hK, hlk, hrt, hR, hbs, -⟩ := h
  subst hp
  intro H locs ls hR1 hS hl
  exact lv_icmp_le hx hb d ht (fun q => kt q H locs ls hR1 hS hl) (fun q => kf q H locs ls hR1 hS hl)
theorem V_icmp_lt (h : mOk Γ κ own cc nL ret R) (tgt pc' : Nat) {x y : Int32} {off : Int} (d : decode cc pc = .ok (.if_icmp .lt off, 3)) (ht : (pc : Int) + off = (tgt : Int)) (hp : pc + 3 = pc') (kt : x < y → mV Γ Q kc ks n sh P D E lv st tgt) (kf : ¬ (x < y) → mV Γ Q kc ks n sh P D E lv st pc') : mV Γ Q kc ks n sh P D E lv (.int y :: .int x :: st) pc := by
  obtain ⟨⟨p, l, e, R0, s, m, args, below, meth, c⟩, G, Y, base⟩ := Γ
  obtain ⟨hx, hb, hml, hown, hts, hK, hlk, hrt, hR, hbs, -⟩ := h
  subst hp
  intro H locs ls hR1 hS hl
  exact lv_icmp_lt hx hb d ht (fun q => kt q H locs ls hR1 hS hl) (fun q => kf q H locs ls hR1 hS hl)
theorem V_icmp_ne (h : mOk Γ κ own cc nL ret R) (tgt pc' : Nat) {x y : Int32} {off : Int} (d : decode cc pc = .ok (.if_icmp .ne off, 3)) (ht : (pc : Int) + off = (tgt : Int)) (hp : pc + 3 = pc') (kt : ¬ x = y → mV Γ Q kc ks n sh P D E lv st tgt) (kf : x = y → mV Γ Q kc ks n sh P D E lv st pc') : mV Γ Q kc ks n sh P D E lv (.int y :: .int x :: st) pc := by
  obtain ⟨⟨p, l, e, R0, s, m, args, below, meth, c⟩, G, Y, base⟩ := Γ
  obtain ⟨hx, hb, hml, hown, hts, hK, hlk, hrt, hR, hbs, -⟩ := h
  subst hp
  intro H locs ls hR1 hS hl
  exact lv_icmp_ne hx hb d ht (fun q => kt q H locs ls hR1 hS hl) (fun q => kf q H locs ls hR1 hS hl)
theorem V_if_eq (h : mOk Γ κ own cc nL ret R) (tgt pc' : Nat) {x : Int32} {off : Int} (d : decode cc pc = .ok (.ifCond .eq off, 3)) (ht : (pc : Int) + off = (tgt : Int)) (hp : pc + 3 = pc') (kt : x = 0 → mV Γ Q kc ks n sh P D E lv st tgt) (kf : ¬ (x = 0) → mV Γ Q kc ks n sh P D E lv st pc') : mV Γ Q kc ks n sh P D E lv (.int x :: st) pc := by
  obtain ⟨⟨p, l, e, R0, s, m, args, below, meth, c⟩, G, Y, base⟩ := Γ
  obtain ⟨hx, hb, hml, hown, hts, hK, hlk, hrt, hR, hbs, -⟩ := h
  subst hp
  intro H locs ls hR1 hS hl
  exact lv_if_eq hx hb d ht (fun q => kt q H locs ls hR1 hS hl) (fun q => kf q H locs ls hR1 hS hl)
theorem V_if_lt (h : mOk Γ κ own cc nL ret R) (tgt pc' : Nat) {x : Int32} {off : Int} (d : decode cc pc = .ok (.ifCond .lt off, 3)) (ht : (pc : Int) + off = (tgt : Int)) (hp : pc + 3 = pc') (kt : x < 0 → mV Γ Q kc ks n sh P D E lv st tgt) (kf : ¬ (x < 0) → mV Γ Q kc ks n sh P D E lv st pc') : mV Γ Q kc ks n sh P D E lv (.int x :: st) pc := by
  obtain ⟨⟨p, l, e, R0, s, m, args, below, meth, c⟩, G, Y, base⟩ := Γ
  obtain ⟨hx, hb, hml, hown, hts, hK, hlk, hrt, hR, hbs, -⟩ := h
  subst hp
  intro H locs ls hR1 hS hl
  exact lv_if_lt hx hb d ht (fun q => kt q H locs ls hR1 hS hl) (fun q => kf q H locs ls hR1 hS hl)
theorem V_if_le (h : mOk Γ κ own cc nL ret R) (tgt pc' : Nat) {x : Int32} {off : Int} (d : decode cc pc = .ok (.ifCond .le off, 3)) (ht : (pc : Int) + off = (tgt : Int)) (hp : pc + 3 = pc') (kt : x ≤ 0 → mV Γ Q kc ks n sh P D E lv st tgt) (kf : ¬ (x ≤ 0) → mV Γ Q kc ks n sh P D E lv st pc') : mV Γ Q kc ks n sh P D E lv (.int x :: st) pc := by
  obtain ⟨⟨p, l, e, R0, s, m, args, below, meth, c⟩, G, Y, base⟩ := Γ
  obtain ⟨hx, hb, hml, hown, hts, hK, hlk, hrt, hR, hbs, -⟩ := h
  subst hp
  intro H locs ls hR1 hS hl
  exact lv_if_le hx hb d ht (fun q => kt q H locs ls hR1 hS hl) (fun q => kf q H locs ls hR1 hS hl)
theorem V_if_gt (h : mOk Γ κ own cc nL ret R) (tgt pc' : Nat) {x : Int32} {off : Int} (d : decode cc pc = .ok (.ifCond .gt off, 3)) (ht : (pc : Int) + off = (tgt : Int)) (hp : pc + 3 = pc') (kt : 0 < x → mV Γ Q kc ks n sh P D E lv st tgt) (kf : ¬ (0 < x) → mV Γ Q kc ks n sh P D E lv st pc') : mV Γ Q kc ks n sh P D E lv (.int x :: st) pc := by
  obtain ⟨⟨p, l, e, R0, s, m, args, below, meth, c⟩, G, Y, base⟩ := Γ
  obtain ⟨hx, hb, hml, hown, hts, hK, hlk, hrt, hR, hbs, -⟩ := h
  subst hp
  intro H locs ls hR1 hS hl
  exact lv_if_gt hx hb d ht (fun q => kt q H locs ls hR1 hS hl) (fun q => kf q H locs ls hR1 hS hl)
theorem V_if_ne (h : mOk Γ κ own cc nL ret R) (tgt pc' : Nat) {x : Int32} {off : Int} (d : decode cc pc = .ok (.ifCond .ne off, 3)) (ht : (pc : Int) + off = (tgt : Int)) (hp : pc + 3 = pc') (kt : ¬ x = 0 → mV Γ Q kc ks n sh P D E lv st tgt) (kf : x = 0 → mV Γ Q kc ks n sh P D E lv st pc') : mV Γ Q kc ks n sh P D E lv (.int x :: st) pc := by
  obtain ⟨⟨p, l, e, R0, s, m, args, below, meth, c⟩, G, Y, base⟩ := Γ
  obtain ⟨hx, hb, hml, hown, hts, hK, hlk, hrt, hR, hbs, -⟩ := h
  subst hp
  intro H locs ls hR1 hS hl
  exact lv_if_ne hx hb d ht (fun q => kt q H locs ls hR1 hS hl) (fun q => kf q H locs ls hR1 hS hl)
theorem V_acmp_eq (h : mOk Γ κ own cc nL ret R) (tgt pc' : Nat) {rx ry : Nat} {off : Int} (d : decode cc pc = .ok (.if_acmp .eq off, 3)) (ht : (pc : Int) + off = (tgt : Int)) (hp : pc + 3 = pc') (kt : rx = ry → mV Γ Q kc ks n sh P D E lv st tgt) (kf : ¬ rx = ry → mV Γ Q kc ks n sh P D E lv st pc') : mV Γ Q kc ks n sh P D E lv (.ref ry :: .ref rx :: st) pc := by
  obtain ⟨⟨p, l, e, R0, s, m, args, below, meth, c⟩, G, Y, base⟩ := Γ
  obtain ⟨hx, hb, hml, hown, hts, hK, hlk, hrt, hR, hbs, -⟩ := h
  subst hp
  intro H locs ls hR1 hS hl
  exact lv_acmp_eq (rx := some rx) (ry := some ry) hx hb d ht (fun q => kt (by simpa using q) H locs ls hR1 hS hl) (fun q => kf (by simpa using q) H locs ls hR1 hS hl)
theorem V_acmp_ne (h : mOk Γ κ own cc nL ret R) (tgt pc' : Nat) {rx ry : Nat} {off : Int} (d : decode cc pc = .ok (.if_acmp .ne off, 3)) (ht : (pc : Int) + off = (tgt : Int)) (hp : pc + 3 = pc') (kt : ¬ rx = ry → mV Γ Q kc ks n sh P D E lv st tgt) (kf : rx = ry → mV Γ Q kc ks n sh P D E lv st pc') : mV Γ Q kc ks n sh P D E lv (.ref ry :: .ref rx :: st) pc := by
  obtain ⟨⟨p, l, e, R0, s, m, args, below, meth, c⟩, G, Y, base⟩ := Γ
  obtain ⟨hx, hb, hml, hown, hts, hK, hlk, hrt, hR, hbs, -⟩ := h
  subst hp
  intro H locs ls hR1 hS hl
  exact lv_acmp_ne (rx := some rx) (ry := some ry) hx hb d ht (fun q => kt (by simpa using q) H locs ls hR1 hS hl) (fun q => kf (by simpa using q) H locs ls hR1 hS hl)
theorem V_tabIn (h : mOk Γ κ own cc nL ret R) (tgt : Nat) {dflt lo hi : Int} {offs : Array Int} {len : Nat} {x : Int32} {off : Int} (d : decode cc pc = .ok (.tableswitch dflt lo hi offs, len)) (h1 : ¬ x.toInt < lo) (h2 : ¬ hi < x.toInt) (ho : offs[(x.toInt - lo).toNat]? = some off) (ht : (pc : Int) + off = (tgt : Int)) (k : mV Γ Q kc ks n sh P D E lv st tgt) : mV Γ Q kc ks n sh P D E lv (.int x :: st) pc := by
  obtain ⟨⟨p, l, e, R0, s, m, args, below, meth, c⟩, G, Y, base⟩ := Γ
  obtain ⟨hx, hb, hml, hown, hts, hK, hlk, hrt, hR, hbs, -⟩ := h
  intro H locs ls hR1 hS hl
  exact lv_tableIn hx hb d h1 h2 ho ht (k H locs ls hR1 hS hl)
theorem V_tabOut (h : mOk Γ κ own cc nL ret R) (tgt : Nat) {dflt lo hi : Int} {offs : Array Int} {len : Nat} {x : Int32} (d : decode cc pc = .ok (.tableswitch dflt lo hi offs, len)) (h1 : x.toInt < lo ∨ hi < x.toInt) (ht : (pc : Int) + dflt = (tgt : Int)) (k : mV Γ Q kc ks n sh P D E lv st tgt) : mV Γ Q kc ks n sh P D E lv (.int x :: st) pc := by
  obtain ⟨⟨p, l, e, R0, s, m, args, below, meth, c⟩, G, Y, base⟩ := Γ
  obtain ⟨hx, hb, hml, hown, hts, hK, hlk, hrt, hR, hbs, -⟩ := h
  intro H locs ls hR1 hS hl
  exact lv_tableOut hx hb d h1 ht (k H locs ls hR1 hS hl)
theorem V_ldc2 (h : mOk Γ κ own cc nL ret R) (pc' : Nat) {idx : Nat} {v : Int64} (hq : Cond.constantLong own idx v ∈ mW) (d : decode cc pc = .ok (.ldc2_w idx, 3)) (hp : pc + 3 = pc') (k : mV Γ Q kc ks n sh P D E lv (.long v :: st) pc') : mV Γ Q kc ks n sh P D E lv st pc := by
  obtain ⟨⟨p, l, e, R0, s, m, args, below, meth, c⟩, G, Y, base⟩ := Γ
  obtain ⟨hx, hb, hml, hown, hts, hK, hlk, hrt, hR, hbs, -⟩ := h
  subst hp
  intro H locs ls hR1 hS hl
  exact lv_ldc2 hx hb hown (hts _ hq) d (k H locs ls hR1 hS hl)
theorem V_top {x : Int32} {y : Int32} (e : x = y) (k : mV Γ Q kc ks n sh P D E lv (.int y :: st) pc) : mV Γ Q kc ks n sh P D E lv (.int x :: st) pc := by rw [e]; exact k
theorem V_topi {x : Int32} (k : ∀ y : Int32, y = x → mV Γ Q kc ks n sh P D E lv (.int y :: st) pc) : mV Γ Q kc ks n sh P D E lv (.int x :: st) pc := k x rfl
theorem V_objInit (h : mOk Γ κ own cc nL ret R) (pc' : Nat) {idx a : Nat} (w1 : Cond.methodLink own idx Lib.objectInit ∈ mW) (hf : 1 ≤ R.frames) (hlo : (st.map fun v => v.category).sum + 12 ≤ R.locals) (d : decode cc pc = .ok (.invokespecial idx, 3)) (hp : pc + 3 = pc') (k : mV Γ Q kc ks n sh P D E lv st pc') : mV Γ Q kc ks n sh P D E lv (.ref a :: st) pc := by
  obtain ⟨⟨p, l, e, R0, s, m, args, below, meth, c⟩, G, Y, base⟩ := Γ
  obtain ⟨hx, hb, hml, hown, hts, hK, hlk, hrt, hR, hbs, -⟩ := h
  subst hp
  subst hR
  intro H locs ls hR1 hS hl
  exact W.objInit hx hb hown (hts _ w1) (hts _ qI_Object_init) (hts _ qC_Object_init) rfl hl.1 rfl d hf (by show 2 * 0 + _ + 12 ≤ _; omega) (k H locs ls hR1 hS hl)
theorem V_lsub (lv' : List (Nat × Value)) (is : List Nat) (he : lv_pick lv is = lv') (k : mV Γ Q kc ks n sh P D E lv' st pc) : mV Γ Q kc ks n sh P D E lv st pc := by
  obtain ⟨⟨p, l, e, R0, s, m, args, below, meth, c⟩, G, Y, base⟩ := Γ
  intro H locs ls hR1 hS hl
  exact k H locs ls hR1 hS (lv_sub hl is he)
theorem V_widen (kc' ks' : Nat) (h1 : kc ≤ kc') (h2 : ks ≤ ks') (k : mV Γ Q kc' ks' n sh P D E lv st pc) : mV Γ Q kc ks n sh P D E lv st pc := by
  obtain ⟨⟨p, l, e, R0, s, m, args, below, meth, c⟩, G, Y, base⟩ := Γ
  intro H locs ls hR1 hS hl
  exact W.widen h1 h2 (k H locs ls hR1 hS hl)
theorem V_less (sh' : mSh) (hs : ∀ a x, sh' a = some x → sh a = some x) (k : mV Γ Q kc ks n sh' P D E lv st pc) : mV Γ Q kc ks n sh P D E lv st pc := by
  obtain ⟨⟨p, l, e, R0, s, m, args, below, meth, c⟩, G, Y, base⟩ := Γ
  intro H locs ls hR1 hS hl
  exact k H locs ls (mR_less hR1 hs) hS hl
theorem V_get (h : mOk Γ κ own cc nL ret R) (pc' : Nat) {ci k N idx a : Nat} {C : String} {T : u_T} (hU : ∀ w ∈ u_ws C T N, w ∈ mW) (hc : vwCl[ci]? = some (C, T, N)) (hN : mN ci = N) (hk : k < N) (hq : Cond.fieldLink own idx (T k).1 (T k).2.1 (T k).2.2.1 ∈ mW) (hr : mrk ci k = false) (hs : sh a = some (.inl ci)) (d : decode cc pc = .ok (.getfield idx, 3)) (hp : pc + 3 = pc') (kk : mV Γ Q kc ks n sh P D E lv (.int (D a k) :: st) pc') : mV Γ Q kc ks n sh P D E lv (.ref a :: st) pc := by
  obtain ⟨⟨p, l, e, R0, s, m, args, below, meth, c⟩, G, Y, base⟩ := Γ
  obtain ⟨hx, hb, hml, hown, hts, hK, hlk, hrt, hR, hbs, -⟩ := h
  subst hp
  intro H locs ls hR1 hS hl
  exact va_get hx hb (fun w hw => hts w hw) hU hown hK.1 (mR_one hR1 hs) 0 rfl hc k hk (hts _ hq) (fun _ h9 => h9) (mfl_geti (by rw [hN]; exact hk) hr) d (kk H locs ls hR1 hS hl)
theorem V_getr (h : mOk Γ κ own cc nL ret R) (pc' : Nat) {ci k N idx a b : Nat} {C : String} {T : u_T} (hU : ∀ w ∈ u_ws C T N, w ∈ mW) (hc : vwCl[ci]? = some (C, T, N)) (hN : mN ci = N) (hk : k < N) (hq : Cond.fieldLink own idx (T k).1 (T k).2.1 (T k).2.2.1 ∈ mW) (hr : mrk ci k = true) (hs : sh a = some (.inl ci)) (hPa : P a k = some b) (d : decode cc pc = .ok (.getfield idx, 3)) (hp : pc + 3 = pc') (kk : mV Γ Q kc ks n sh P D E lv (.ref b :: st) pc') : mV Γ Q kc ks n sh P D E lv (.ref a :: st) pc := by
  obtain ⟨⟨p, l, e, R0, s, m, args, below, meth, c⟩, G, Y, base⟩ := Γ
  obtain ⟨hx, hb, hml, hown, hts, hK, hlk, hrt, hR, hbs, -⟩ := h
  subst hp
  intro H locs ls hR1 hS hl
  exact va_get hx hb (fun w hw => hts w hw) hU hown hK.1 (mR_one hR1 hs) 0 rfl hc k hk (hts _ hq) (fun _ h9 => h9) (mfl_getr (by rw [hN]; exact hk) hr hPa) d (kk H locs ls hR1 hS hl)
theorem V_getN (h : mOk Γ κ own cc nL ret R) (pc' : Nat) {ci k N idx a : Nat} {C host : String} {T : u_T} (hU : ∀ w ∈ u_ws C T N, w ∈ mW) (hc : vwCl[ci]? = some (C, T, N)) (hN : mN ci = N) (hk : k < N) (hq : Cond.fieldLinkNest own idx (T k).1 (T k).2.1 (T k).2.2.1 host ∈ mNest) (hr : mrk ci k = false) (hs : sh a = some (.inl ci)) (d : decode cc pc = .ok (.getfield idx, 3)) (hp : pc + 3 = pc') (kk : mV Γ Q kc ks n sh P D E lv (.int (D a k) :: st) pc') : mV Γ Q kc ks n sh P D E lv (.ref a :: st) pc := by
  obtain ⟨⟨p, l, e, R0, s, m, args, below, meth, c⟩, G, Y, base⟩ := Γ
  obtain ⟨hx, hb, hml, hown, hts, hK, hlk, hrt, hR, hbs, -⟩ := h
  subst hp
  intro H locs ls hR1 hS hl
  exact va_getN hx hb (fun w hw => hts w hw) hU hown hK.1 (mR_one hR1 hs) 0 rfl hc k hk (va_Nw.use rfl (hK.2 _ hq)) (fun _ h9 => h9) (mfl_geti (by rw [hN]; exact hk) hr) d (kk H locs ls hR1 hS hl)
theorem V_getrN (h : mOk Γ κ own cc nL ret R) (pc' : Nat) {ci k N idx a b : Nat} {C host : String} {T : u_T} (hU : ∀ w ∈ u_ws C T N, w ∈ mW) (hc : vwCl[ci]? = some (C, T, N)) (hN : mN ci = N) (hk : k < N) (hq : Cond.fieldLinkNest own idx (T k).1 (T k).2.1 (T k).2.2.1 host ∈ mNest) (hr : mrk ci k = true) (hs : sh a = some (.inl ci)) (hPa : P a k = some b) (d : decode cc pc = .ok (.getfield idx, 3)) (hp : pc + 3 = pc') (kk : mV Γ Q kc ks n sh P D E lv (.ref b :: st) pc') : mV Γ Q kc ks n sh P D E lv (.ref a :: st) pc := by
  obtain ⟨⟨p, l, e, R0, s, m, args, below, meth, c⟩, G, Y, base⟩ := Γ
  obtain ⟨hx, hb, hml, hown, hts, hK, hlk, hrt, hR, hbs, -⟩ := h
  subst hp
  intro H locs ls hR1 hS hl
  exact va_getN hx hb (fun w hw => hts w hw) hU hown hK.1 (mR_one hR1 hs) 0 rfl hc k hk (va_Nw.use rfl (hK.2 _ hq)) (fun _ h9 => h9) (mfl_getr (by rw [hN]; exact hk) hr hPa) d (kk H locs ls hR1 hS hl)
/-- a cell whose field is written, and the rest of the memory -/
theorem mR_put {G : va_G} {Y : Nat → ClassId} {base n : Nat} {sh : mSh} {P : mPt} {D : mDt} {E : mEt} {H H1 : Heap} (h : mR G Y base n sh P D E H) {a ci k : Nat} {x : Int32} (hs : sh a = some (.inl ci)) (hr : mrk ci k = false) (hz : H1.size = H.size) (hat : va_at G vwCl (a, .inr (ci, (mfl ci (P a) (D a)).set k (.int x))) H1) (oq : ∀ q : Nat, q ≠ a → H1[q]? = H[q]?) : mR G Y base n sh P (upd2 D a k x) E H1 := by
  refine mR_set h hs hz ?_ oq (fun _ _ => rfl) (fun b hb => upd2_ra hb) (fun _ _ => rfl)
  rw [upd2_row]
  rw [mfl_seti hr] at hat
  exact hat
theorem mR_putr {G : va_G} {Y : Nat → ClassId} {base n : Nat} {sh : mSh} {P : mPt} {D : mDt} {E : mEt} {H H1 : Heap} (h : mR G Y base n sh P D E H) {a ci k b : Nat} (hs : sh a = some (.inl ci)) (hr : mrk ci k = true) (hz : H1.size = H.size) (hat : va_at G vwCl (a, .inr (ci, (mfl ci (P a) (D a)).set k (.ref b))) H1) (oq : ∀ q : Nat, q ≠ a → H1[q]? = H[q]?) : mR G Y base n sh (updP P a k (some b)) D E H1 := by
  refine mR_set h hs hz ?_ oq (fun b hb => updP_ra hb) (fun _ _ => rfl) (fun _ _ => rfl)
  rw [updP_row]
  rw [show Value.ref b = va_rf (some b) from rfl, mfl_setr hr] at hat
  exact hat

def mInit (Γ : mC) : Prop := match Γ with
  | ((p, l, e, R, s, m, args, below, meth, c), (G, Y, base)) => meth.name = "<init>"
theorem V_put (h : mOk Γ κ own cc nL ret R) (pc' : Nat) {ci k N idx a : Nat} {x : Int32} {C host : String} {T : u_T} {ty : FieldType} (ty0 : Nat → FieldType) (hty : ∀ k, k < N → parseFieldDescriptor (T k).2.2.1 = some (ty0 k)) (hnm : ∀ a, a < N → ∀ b, b < N → a ≠ b → (T a).2.1 ≠ (T b).2.1) (hU : ∀ w ∈ u_ws C T N, w ∈ mW) (hc : vwCl[ci]? = some (C, T, N)) (hN : mN ci = N) (hk : k < N) (hq : Cond.fieldLink own idx (T k).1 (T k).2.1 (T k).2.2.1 ∈ mW) (hr : mrk ci k = false) (hfin : (T k).2.2.2 = false) (hd : parseFieldDescriptor (T k).2.2.1 = some ty) (hn : narrow ty (.int x) = .int x) (hfit : fits ty (.int x) = true) (hs : sh a = some (.inl ci)) (d : decode cc pc = .ok (.putfield idx, 3)) (hp : pc + 3 = pc') (kk : mV Γ Q kc ks n sh P (upd2 D a k x) E lv st pc') : mV Γ Q kc ks n sh P D E lv (.int x :: .ref a :: st) pc := by
  obtain ⟨⟨p, l, e, R0, s, m, args, below, meth, c⟩, G, Y, base⟩ := Γ
  obtain ⟨hx, hb, hml, hown, hts, hK, hlk, hrt, hR, hbs, -⟩ := h
  subst hp
  intro H locs ls hR1 hS hl
  have hap := va_apart (own := own) (fun w hw => hts w hw) hU ty0 hty hnm hK.1 hc
  obtain ⟨hba, r, h1, cell, q1, q2, q3, q4⟩ := hR1.2 a _ hs
  have hr1 : r = (C, T, N) := Option.some.inj (h1.symm.trans hc)
  subst hr1
  obtain ⟨hS1, hfc, kC, hkC, hkind⟩ := hK.1.1 ci _ hc
  obtain ⟨cf, kf, fi, f, hi, hsl⟩ := hS1 k hk
  have hlay := hts _ (hU _ (u_in_lay hk))
  unfold u_lay at hlay
  rw [if_neg (by rw [hfin]; decide)] at hlay
  have hst := (u_facts hfc hkC (u_lays (fun w hw => hts w hw) hU hk) hi).1
  have h6 := u_store hfc hkC hkind hlay hi hd hn hfit
  refine W.putK hx hb (f := f) ⟨hown, hts _ hq, ⟨_, _, _, hi⟩, hst⟩ (by rw [q2]; exact h6) q1 q3 (by rw [hsl]; exact k2_hasslot (q4 k hk)) rfl rfl d fun H' e1 e2 e3 => ?_
  rw [hsl] at e1 ⊢
  exact kk H' _ ls (mR_put hR1 hs hr e2 ⟨_, hc, t_OB.to (V := updV (vp_V (mfl ci (P a) (D a))) k (.int x)) ⟨_, e1, q2, q3, t_set q4 hap hk (.int x)⟩ (fun j _ => vp_updV_set (by rw [mfl_len, hN]; exact hk) (.int x) j)⟩ e3) (hS.put e2 e3 hba) hl

theorem V_putN (h : mOk Γ κ own cc nL ret R) (pc' : Nat) {ci k N idx a : Nat} {x : Int32} {C host : String} {T : u_T} {ty : FieldType} (ty0 : Nat → FieldType) (hty : ∀ k, k < N → parseFieldDescriptor (T k).2.2.1 = some (ty0 k)) (hnm : ∀ a, a < N → ∀ b, b < N → a ≠ b → (T a).2.1 ≠ (T b).2.1) (hU : ∀ w ∈ u_ws C T N, w ∈ mW) (hc : vwCl[ci]? = some (C, T, N)) (hN : mN ci = N) (hk : k < N) (hq : Cond.fieldLinkNest own idx (T k).1 (T k).2.1 (T k).2.2.1 host ∈ mNest) (hr : mrk ci k = false) (hfin : (T k).2.2.2 = false) (hd : parseFieldDescriptor (T k).2.2.1 = some ty) (hn : narrow ty (.int x) = .int x) (hfit : fits ty (.int x) = true) (hs : sh a = some (.inl ci)) (d : decode cc pc = .ok (.putfield idx, 3)) (hp : pc + 3 = pc') (kk : mV Γ Q kc ks n sh P (upd2 D a k x) E lv st pc') : mV Γ Q kc ks n sh P D E lv (.int x :: .ref a :: st) pc := by
  obtain ⟨⟨p, l, e, R0, s, m, args, below, meth, c⟩, G, Y, base⟩ := Γ
  obtain ⟨hx, hb, hml, hown, hts, hK, hlk, hrt, hR, hbs, -⟩ := h
  subst hp
  intro H locs ls hR1 hS hl
  have hap := va_apart (own := own) (fun w hw => hts w hw) hU ty0 hty hnm hK.1 hc
  obtain ⟨hba, r, h1, cell, q1, q2, q3, q4⟩ := hR1.2 a _ hs
  have hr1 : r = (C, T, N) := Option.some.inj (h1.symm.trans hc)
  subst hr1
  obtain ⟨hS1, hfc, kC, hkC, hkind⟩ := hK.1.1 ci _ hc
  obtain ⟨cf, kf, fi, f, hi, hsl⟩ := hS1 k hk
  have hlay := hts _ (hU _ (u_in_lay hk))
  unfold u_lay at hlay
  rw [if_neg (by rw [hfin]; decide)] at hlay
  have hst := (u_facts hfc hkC (u_lays (fun w hw => hts w hw) hU hk) hi).1
  have h6 := u_store hfc hkC hkind hlay hi hd hn hfit
  refine va_WputK hx hb (f := f) hown (va_Nw.use rfl (hK.2 _ hq)) hi hst (by rw [q2]; exact h6) q1 q3 (by rw [hsl]; exact k2_hasslot (q4 k hk)) rfl rfl d fun H' e1 e2 e3 => ?_
  rw [hsl] at e1 ⊢
  exact kk H' _ ls (mR_put hR1 hs hr e2 ⟨_, hc, t_OB.to (V := updV (vp_V (mfl ci (P a) (D a))) k (.int x)) ⟨_, e1, q2, q3, t_set q4 hap hk (.int x)⟩ (fun j _ => vp_updV_set (by rw [mfl_len, hN]; exact hk) (.int x) j)⟩ e3) (hS.put e2 e3 hba) hl

theorem V_putF (h : mOk Γ κ own cc nL ret R) (pc' : Nat) {ci k N idx a : Nat} {x : Int32} {C host : String} {T : u_T} {ty : FieldType} (ty0 : Nat → FieldType) (hty : ∀ k, k < N → parseFieldDescriptor (T k).2.2.1 = some (ty0 k)) (hnm : ∀ a, a < N → ∀ b, b < N → a ≠ b → (T a).2.1 ≠ (T b).2.1) (hU : ∀ w ∈ u_ws C T N, w ∈ mW) (hc : vwCl[ci]? = some (C, T, N)) (hN : mN ci = N) (hk : k < N) (hq : Cond.fieldLink own idx (T k).1 (T k).2.1 (T k).2.2.1 ∈ mW) (hr : mrk ci k = false) (hfin : (T k).2.2.2 = true) (hin2 : mInit Γ) (hdecl : (T k).1 = own) (hd : parseFieldDescriptor (T k).2.2.1 = some ty) (hn : narrow ty (.int x) = .int x) (hfit : fits ty (.int x) = true) (hs : sh a = some (.inl ci)) (d : decode cc pc = .ok (.putfield idx, 3)) (hp : pc + 3 = pc') (kk : mV Γ Q kc ks n sh P (upd2 D a k x) E lv st pc') : mV Γ Q kc ks n sh P D E lv (.int x :: .ref a :: st) pc := by
  obtain ⟨⟨p, l, e, R0, s, m, args, below, meth, c⟩, G, Y, base⟩ := Γ
  obtain ⟨hx, hb, hml, hown, hts, hK, hlk, hrt, hR, hbs, -⟩ := h
  subst hp
  intro H locs ls hR1 hS hl
  have hap := va_apart (own := own) (fun w hw => hts w hw) hU ty0 hty hnm hK.1 hc
  obtain ⟨hba, r, h1, cell, q1, q2, q3, q4⟩ := hR1.2 a _ hs
  have hr1 : r = (C, T, N) := Option.some.inj (h1.symm.trans hc)
  subst hr1
  obtain ⟨hS1, hfc, kC, hkC, hkind⟩ := hK.1.1 ci _ hc
  obtain ⟨cf, kf, fi, f, hi, hsl⟩ := hS1 k hk
  have hlay := hts _ (hU _ (u_in_lay hk))
  unfold u_lay at hlay
  rw [if_pos hfin] at hlay
  have hst := (u_facts hfc hkC (u_lays (fun w hw => hts w hw) hU hk) hi).1
  have hcf : m.cls = cf := by
    obtain ⟨_, _, c', _, _, _, -, -, hf', -, -, -, hown2, -⟩ := Cond.laysFinal_spec hlay
    have e1 : c' = cf := by have := hi.symm.trans hf'; simp at this; exact this.1.symm
    rw [hdecl] at hown2
    rw [← e1]; exact Option.some.inj (hown.symm.trans hown2)
  have h6 := u_fits hfc hkC hkind (Or.inr hlay) hi hd hn hfit
  refine W.putFinK hx hb hown (hts _ hq) hi hst hcf hin2 (by rw [q2]; exact h6) q1 q3 (by rw [hsl]; exact k2_hasslot (q4 k hk)) rfl rfl d fun H' e1 e2 e3 => ?_
  rw [hsl] at e1 ⊢
  exact kk H' _ ls (mR_put hR1 hs hr e2 ⟨_, hc, t_OB.to (V := updV (vp_V (mfl ci (P a) (D a))) k (.int x)) ⟨_, e1, q2, q3, t_set q4 hap hk (.int x)⟩ (fun j _ => vp_updV_set (by rw [mfl_len, hN]; exact hk) (.int x) j)⟩ e3) (hS.put e2 e3 hba) hl

theorem V_putFr (h : mOk Γ κ own cc nL ret R) (pc' : Nat) {ci k N idx a : Nat} {b : Nat} {C host : String} {T : u_T} {ty : FieldType} (ty0 : Nat → FieldType) (hty : ∀ k, k < N → parseFieldDescriptor (T k).2.2.1 = some (ty0 k)) (hnm : ∀ a, a < N → ∀ b, b < N → a ≠ b → (T a).2.1 ≠ (T b).2.1) (hU : ∀ w ∈ u_ws C T N, w ∈ mW) (hc : vwCl[ci]? = some (C, T, N)) (hN : mN ci = N) (hk : k < N) (hq : Cond.fieldLink own idx (T k).1 (T k).2.1 (T k).2.2.1 ∈ mW) (hr : mrk ci k = true) (hfin : (T k).2.2.2 = true) (hin2 : mInit Γ) (hdecl : (T k).1 = own) (hd : parseFieldDescriptor (T k).2.2.1 = some ty) (hn : narrow ty (.ref b) = .ref b) (hfit : fits ty (.ref b) = true) (hs : sh a = some (.inl ci)) (d : decode cc pc = .ok (.putfield idx, 3)) (hp : pc + 3 = pc') (kk : mV Γ Q kc ks n sh (updP P a k (some b)) D E lv st pc') : mV Γ Q kc ks n sh P D E lv (.ref b :: .ref a :: st) pc := by
  obtain ⟨⟨p, l, e, R0, s, m, args, below, meth, c⟩, G, Y, base⟩ := Γ
  obtain ⟨hx, hb, hml, hown, hts, hK, hlk, hrt, hR, hbs, -⟩ := h
  subst hp
  intro H locs ls hR1 hS hl
  have hap := va_apart (own := own) (fun w hw => hts w hw) hU ty0 hty hnm hK.1 hc
  obtain ⟨hba, r, h1, cell, q1, q2, q3, q4⟩ := hR1.2 a _ hs
  have hr1 : r = (C, T, N) := Option.some.inj (h1.symm.trans hc)
  subst hr1
  obtain ⟨hS1, hfc, kC, hkC, hkind⟩ := hK.1.1 ci _ hc
  obtain ⟨cf, kf, fi, f, hi, hsl⟩ := hS1 k hk
  have hlay := hts _ (hU _ (u_in_lay hk))
  unfold u_lay at hlay
  rw [if_pos hfin] at hlay
  have hst := (u_facts hfc hkC (u_lays (fun w hw => hts w hw) hU hk) hi).1
  have hcf : m.cls = cf := by
    obtain ⟨_, _, c', _, _, _, -, -, hf', -, -, -, hown2, -⟩ := Cond.laysFinal_spec hlay
    have e1 : c' = cf := by have := hi.symm.trans hf'; simp at this; exact this.1.symm
    rw [hdecl] at hown2
    rw [← e1]; exact Option.some.inj (hown.symm.trans hown2)
  have h6 := u_fits hfc hkC hkind (Or.inr hlay) hi hd hn hfit
  refine W.putFinK hx hb hown (hts _ hq) hi hst hcf hin2 (by rw [q2]; exact h6) q1 q3 (by rw [hsl]; exact k2_hasslot (q4 k hk)) rfl rfl d fun H' e1 e2 e3 => ?_
  rw [hsl] at e1 ⊢
  exact kk H' _ ls (mR_putr hR1 hs hr e2 ⟨_, hc, t_OB.to (V := updV (vp_V (mfl ci (P a) (D a))) k (.ref b)) ⟨_, e1, q2, q3, t_set q4 hap hk (.ref b)⟩ (fun j _ => vp_updV_set (by rw [mfl_len, hN]; exact hk) (.ref b) j)⟩ e3) (hS.put e2 e3 hba) hl

theorem V_iald (h : mOk Γ κ own cc nL ret R) (pc' : Nat) {a len : Nat} (j : Nat) {i : Int32} (hs : sh a = some (.inr (0, len))) (hi : i = nI j) (hj : j < len) (hlen : len < 2 ^ 31) (d : decode cc pc = .ok (.iaload, 1)) (hp : pc + 1 = pc') (kk : mV Γ Q kc ks n sh P D E lv (.int (D a j) :: st) pc') : mV Γ Q kc ks n sh P D E lv (.int i :: .ref a :: st) pc := by
  obtain ⟨⟨p, l, e, R0, s, m, args, below, meth, c⟩, G, Y, base⟩ := Γ
  obtain ⟨hx, hb, hml, hown, hts, hK, hlk, hrt, hR, hbs, -⟩ := h
  subst hp
  subst hi
  intro H locs ls hR1 hS hl
  have h1 := kk H locs ls hR1 hS hl
  refine va_iald hx hb hK.1 (mR_one hR1 hs) 0 0 rfl rfl (vp_in_nI hj hlen) d ?_
  rw [nI_clamp (show j < 2 ^ 31 by omega)]
  exact h1
theorem V_aald (h : mOk Γ κ own cc nL ret R) (pc' : Nat) {a len b t : Nat} (j : Nat) {i : Int32} (ht : t = 1 ∨ t = 2) (hs : sh a = some (.inr (t, len))) (hi : i = nI j) (hj : j < len) (hlen : len < 2 ^ 31) (hPa : P a j = some b) (d : decode cc pc = .ok (.aaload, 1)) (hp : pc + 1 = pc') (kk : mV Γ Q kc ks n sh P D E lv (.ref b :: st) pc') : mV Γ Q kc ks n sh P D E lv (.int i :: .ref a :: st) pc := by
  obtain ⟨⟨p, l, e, R0, s, m, args, below, meth, c⟩, G, Y, base⟩ := Γ
  obtain ⟨hx, hb, hml, hown, hts, hK, hlk, hrt, hR, hbs, -⟩ := h
  subst hp
  subst hi
  intro H locs ls hR1 hS hl
  have h1 := kk H locs ls hR1 hS hl
  have e1 : (nI j).toNatClampNeg = j := nI_clamp (show j < 2 ^ 31 by omega)
  have hin := vp_in_nI hj hlen
  have hv : va_rf (P a (nI j).toNatClampNeg) = .ref b := by rw [e1, hPa]; rfl
  rcases ht with rfl | rfl
  · exact W.aald (v := .ref b) (ty := .object RX3) hx hb ((mR_one hR1 hs) 0 _ rfl) ((hK.1.2 1 _ rfl).1 len (fun j => va_rf (P a j))) rfl (fun q => by cases q) (by show ¬ ((nI j) < 0 ∨ (arrV _ _ _).slots.size ≤ _); rw [arrV_size]; exact hin) (by show (arrV _ _ _).slots[_]? = _; rw [arrV_read _ _ (by rw [e1]; exact hj), hv]) rfl rfl d h1
  · exact W.aald (v := .ref b) (ty := .array .int) hx hb ((mR_one hR1 hs) 0 _ rfl) ((hK.1.2 2 _ rfl).1 len (fun j => va_rf (P a j))) rfl (fun q => by cases q) (by show ¬ ((nI j) < 0 ∨ (arrV _ _ _).slots.size ≤ _); rw [arrV_size]; exact hin) (by show (arrV _ _ _).slots[_]? = _; rw [arrV_read _ _ (by rw [e1]; exact hj), hv]) rfl rfl d h1
theorem V_iast (h : mOk Γ κ own cc nL ret R) (pc' : Nat) {a len : Nat} (j : Nat) {i x : Int32} (hs : sh a = some (.inr (0, len))) (hi : i = nI j) (hj : j < len) (hlen : len < 2 ^ 31) (d : decode cc pc = .ok (.iastore, 1)) (hp : pc + 1 = pc') (kk : mV Γ Q kc ks n sh P (upd2 D a j x) E lv st pc') : mV Γ Q kc ks n sh P D E lv (.int x :: .int i :: .ref a :: st) pc := by
  obtain ⟨⟨p, l, e, R0, s, m, args, below, meth, c⟩, G, Y, base⟩ := Γ
  obtain ⟨hx, hb, hml, hown, hts, hK, hlk, hrt, hR, hbs, -⟩ := h
  subst hp
  subst hi
  intro H locs ls hR1 hS hl
  have e1 : (nI j).toNatClampNeg = j := nI_clamp (show j < 2 ^ 31 by omega)
  obtain ⟨hba, hat⟩ := hR1.2 a _ hs
  refine W.iast hx hb ((mR_one hR1 hs) 0 _ rfl) ((hK.1.2 0 _ rfl).1 len (fun j => .int (D a j))) (fun q => by cases q) (by show ¬ ((nI j) < 0 ∨ (arrV _ _ _).slots.size ≤ _); rw [arrV_size]; exact vp_in_nI hj hlen) rfl rfl d fun H1 e z oq => ?_
  refine kk H1 _ ls (mR_set hR1 hs z ?_ oq (fun _ _ => rfl) (fun b hb => upd2_ra hb) (fun _ _ => rfl)) (hS.put z oq hba) hl
  show H1[a]? = some (vp_cell _ _)
  rw [e, e1, upd2_row]
  show some ((arrV (Y 0) len (fun q => .int (D a q))).setSlot j (.int x)) = some (arrV (Y 0) len (fun q => .int (upd (D a) j x q)))
  rw [arrV_store]
  congr 2
  funext q
  by_cases hq : q = j
  · subst hq
    simp [updV, upd]
  · simp [updV, upd, hq]
theorem V_alen (h : mOk Γ κ own cc nL ret R) (pc' : Nat) {a len : Nat} {v : Int32} (t : Nat) (ht : t = 0 ∨ t = 1) (hs : sh a = some (.inr (t, len))) (hv : Int32.ofNat len = v) (d : decode cc pc = .ok (.arraylength, 1)) (hp : pc + 1 = pc') (kk : mV Γ Q kc ks n sh P D E lv (.int v :: st) pc') : mV Γ Q kc ks n sh P D E lv (.ref a :: st) pc := by
  obtain ⟨⟨p, l, e, R0, s, m, args, below, meth, c⟩, G, Y, base⟩ := Γ
  obtain ⟨hx, hb, hml, hown, hts, hK, hlk, hrt, hR, hbs, -⟩ := h
  subst hp
  intro H locs ls hR1 hS hl
  rcases ht with rfl | rfl
  · exact va_alen (x := (len, .inl (D a))) hx hb hK.1 (mR_one hR1 hs) 0 0 rfl rfl hv d (kk H locs ls hR1 hS hl)
  · exact va_alen (x := (len, .inr (.inr (.inr (.inr (P a)))))) hx hb hK.1 (mR_one hR1 hs) 0 1 rfl rfl hv d (kk H locs ls hR1 hS hl)

end MV
end
section
def mNk : Cond → Bool
  | .fieldLinkNest _ _ _ _ _ _ => true
  | .methodLinkNest _ _ _ _ => true
  | _ => false
theorem mNest_k : ∀ w ∈ mNest, mNk w = true := by decide +kernel
theorem mNk_on {w : Cond} (h : mNk w = true) : w.onTables = true := by
  cases w <;> first | rfl | exact absurd h (by simp [mNk])
theorem mNk_warm {w : Cond} (h : mNk w = true) {s U : State} (hW : s.WarmedH U.vm) (hZ : va_Nw w s) : va_Nw w U := by
  cases w <;> first | exact va_Nw.warmF hW hZ | exact va_Nw.warmM hW hZ | exact absurd h (by simp [mNk])
theorem mKx_warm {G : va_G} {Y : Nat → ClassId} {s U : State} (hW : s.WarmedH U.vm) (h : mKx G Y s) : mKx G Y U := ⟨va_K.moved hW.alike h.1, fun w hw => mNk_warm (mNest_k w hw) hW (h.2 w hw)⟩
theorem mKx_same {G : va_G} {Y : Nat → ClassId} {s U : State} (hv : s.vm = U.vm) (h : mKx G Y s) : mKx G Y U := ⟨va_K.moved (by rw [hv]; exact Vm.Alike.refl _) h.1, fun w hw => va_Nw.same (mNk_on (mNest_k w hw)) hv (h.2 w hw)⟩
abbrev mPost : Type := Option Value → Nat → mSh → mPt → mDt → mEt → Prop
def mPre (G : va_G) (Y : Nat → ClassId) (base n : Nat) (sh : mSh) (P : mPt) (D : mDt) (E : mEt) (U : State) : Prop := mKx G Y U ∧ base ≤ n ∧ mR G Y base n sh P D E U.heap
def mQ (G : va_G) (Y : Nat → ClassId) (base : Nat) (post : mPost) : Array Value → State → Outcome → State → Prop := fun _ st o t => (∃ (v : Option Value) (n' : Nat) (sh' : mSh) (P' : mPt) (D' : mDt) (E' : mEt), o = .returned v ∧ post v n' sh' P' D' E' ∧ mR G Y base n' sh' P' D' E' t.heap) ∧ va_F (fun q => base ≤ q) st t
/-- y's contract: from the memory (n, sh, P, D, E), with the arguments As, it returns, and post holds of its answer and the memory behind it -/
def mMet (κ : mKp) (y : MethodName) (cc : ByteArray) (nL : Nat) (ret : Option FieldType) (rm : Room) (As : List Value) (n : Nat) (sh : mSh) (P : mPt) (D : mDt) (E : mEt) (post : mPost) : Prop := match κ with
  | (l, G, Y, base) => Met l y (.code y cc nL ret :: mW) rm (va_Pc As (mPre G Y base n sh P D E)) (mQ G Y base post) rm.cells rm.slots (fun q => base ≤ q)
def mEnd (Γ : mC) (post : mPost) (mc ms : Nat) : State → Prop := match Γ with
  | ((p, l, e, R, s, m, args, below, meth, c), (G, Y, base)) => MQ below (mQ G Y base post) args s mc ms (fun q => base ≤ q)
theorem mBlind {As : List Value} {G : va_G} {Y : Nat → ClassId} {base n : Nat} {sh : mSh} {P : mPt} {D : mDt} {E : mEt} : FrameBlind (va_Pc As (mPre G Y base n sh P D E)) := fun a U g mk q => by
  obtain ⟨q0, qK, q1, q2⟩ := q
  exact ⟨q0, mKx_same (s := U) (U := U.calling g mk a) rfl qK, q1, q2⟩
theorem mGood {y : MethodName} {cc : ByteArray} {nL : Nat} {ret : Option FieldType} (h : Cond.code y cc nL ret ∈ mW) : GoodIn mW (.code y cc nL ret :: mW) := by
  intro w hw
  have hm : w ∈ mW := by
    rcases List.mem_cons.mp hw with h1 | h1
    · rw [h1]; exact h
    · exact h1
  exact ⟨hm, good_of_word (mWgood hm)⟩
theorem mMet_of {κ : mKp} {y : MethodName} {cc : ByteArray} {nL : Nat} {ret : Option FieldType} {rm : Room} {As : List Value} {n : Nat} {sh : mSh} {P : mPt} {D : mDt} {E : mEt} {post : mPost} (hy : plainName y.cls = true) (hlen : (lg_sl As).length ≤ nL)
    (body : ∀ (Γ : mC) (Q : State → Prop), Q = mEnd Γ post rm.cells rm.slots → mOk Γ κ y.cls cc nL ret rm → (y.name = "<init>" → mInit Γ) → mV Γ Q 0 0 n sh P D E (lv_args 0 As) [] 0) : mMet κ y cc nL ret rm As n sh P D E post := by
  obtain ⟨l, G, Y, base⟩ := κ
  refine Met.ofW (cc := cc) (maxL := nL) (ret := ret) hy rfl ?_
  intro p e s m args below meth c s₁ B hml hv
  obtain ⟨rfl, hK, hbn, hR⟩ := hv
  have hts := atoms_spec (ws := Cond.code y cc nL ret :: mW) B.pre
  have hown : s.vm.findClass y.cls = some m.cls := findClass_of_methodNamed B.named
  have hbs : base ≤ s.heap.size := by rw [hR.1]; exact hbn
  have hok : mOk ((p, l, e, (headSpec (Cond.code y cc nL ret :: mW) rm).room, s, m, As.toArray, below, meth, c), (G, Y, base)) (l, G, Y, base) y.cls cc nL ret rm := ⟨B.exec, B.bytes, hml, hown, fun w hw => hts w (List.mem_cons_of_mem _ hw), hK, B.notSynchronized, B.returns, rfl, hbs, rfl⟩
  have hin : y.name = "<init>" → meth.name = "<init>" := fun h => by rw [(name_of_methodNamed B.named B.method).1]; exact h
  have hl := lv_entry As (n := nL) hlen
  rw [lg_entry_eq]
  have hb0 := body _ _ rfl hok hin s.heap [] _ hR va_S.rf (show lv_has _ c.maxLocals _ by rw [hml]; exact hl)
  exact hb0
section MC
variable {Γ : mC} {κ : mKp} {Q : State → Prop} {kc ks n : Nat} {sh : mSh} {P : mPt} {D : mDt} {E : mEt} {lv : List (Nat × Value)} {st : List Value} {pc : Nat} {own : String} {cc : ByteArray} {nL : Nat} {ret : Option FieldType} {R : Room} {post : mPost} {mc ms : Nat}

theorem V_iret {ty : FieldType} (h : mOk Γ κ own cc nL (some ty) R) {v : Int32} (hn : narrow ty (.int v) = .int v) (hQ : Q = mEnd Γ post mc ms) (hc : kc ≤ mc) (hs : ks ≤ ms) (hpost : post (some (.int v)) n sh P D E) (d : decode cc pc = .ok (.ireturn, 1)) : mV Γ Q kc ks n sh P D E lv [.int v] pc := by
  obtain ⟨⟨p, l, e, R0, s, m, args, below, meth, c⟩, G, Y, base⟩ := Γ
  obtain ⟨hx, hb, hml, hown, hts, hK, hlk, hrt, hR, hbs, hκ⟩ := h
  subst hQ
  intro H locs ls hR1 hS hl
  refine W.widen hc hs ?_
  exact W.zret hx hb hrt hn (fun t ht hW => ⟨⟨_, _, _, _, _, _, rfl, hpost, by rw [ht]; exact hR1⟩, hS.F ht⟩) (fun q hq => hS.2.2 q hq) d hlk
theorem V_lret {ty : FieldType} (h : mOk Γ κ own cc nL (some ty) R) {v : Int64} (hn : ty = .long) (hQ : Q = mEnd Γ post mc ms) (hc : kc ≤ mc) (hs : ks ≤ ms) (hpost : post (some (.long v)) n sh P D E) (d : decode cc pc = .ok (.lreturn, 1)) : mV Γ Q kc ks n sh P D E lv [.long v] pc := by
  obtain ⟨⟨p, l, e, R0, s, m, args, below, meth, c⟩, G, Y, base⟩ := Γ
  obtain ⟨hx, hb, hml, hown, hts, hK, hlk, hrt, hR, hbs, hκ⟩ := h
  subst hQ
  intro H locs ls hR1 hS hl
  refine W.widen hc hs ?_
  exact W.lret hx hb (by rw [hrt, hn]) (fun t ht hW => ⟨⟨_, _, _, _, _, _, rfl, hpost, by rw [ht]; exact hR1⟩, hS.F ht⟩) (fun q hq => hS.2.2 q hq) d hlk
theorem V_aret {ty : FieldType} (h : mOk Γ κ own cc nL (some ty) R) {v : Nat} (hn : (∃ q, ty = .object q) ∨ ∃ t, ty = .array t) (hQ : Q = mEnd Γ post mc ms) (hc : kc ≤ mc) (hs : ks ≤ ms) (hpost : post (some (.ref v)) n sh P D E) (d : decode cc pc = .ok (.areturn, 1)) : mV Γ Q kc ks n sh P D E lv [.ref v] pc := by
  obtain ⟨⟨p, l, e, R0, s, m, args, below, meth, c⟩, G, Y, base⟩ := Γ
  obtain ⟨hx, hb, hml, hown, hts, hK, hlk, hrt, hR, hbs, hκ⟩ := h
  subst hQ
  intro H locs ls hR1 hS hl
  refine W.widen hc hs ?_
  exact W.aret hx hb hrt hn (Or.inr ⟨_, rfl⟩) (fun t ht hW => ⟨⟨_, _, _, _, _, _, rfl, hpost, by rw [ht]; exact hR1⟩, hS.F ht⟩) (fun q hq => hS.2.2 q hq) d hlk
theorem V_ret (h : mOk Γ κ own cc nL none R) (hQ : Q = mEnd Γ post mc ms) (hc : kc ≤ mc) (hs : ks ≤ ms) (hpost : post none n sh P D E) (d : decode cc pc = .ok (.return_, 1)) : mV Γ Q kc ks n sh P D E lv [] pc := by
  obtain ⟨⟨p, l, e, R0, s, m, args, below, meth, c⟩, G, Y, base⟩ := Γ
  obtain ⟨hx, hb, hml, hown, hts, hK, hlk, hrt, hR, hbs, hκ⟩ := h
  subst hQ
  intro H locs ls hR1 hS hl
  refine W.widen hc hs ?_
  exact W.vret hx hb hrt (fun t ht hW => ⟨⟨_, _, _, _, _, _, rfl, hpost, by rw [ht]; exact hR1⟩, hS.F ht⟩) (fun q hq => hS.2.2 q hq) d hlk
/-- behind a call -/
theorem mAfter {p : Program} {l : Launch} {e : Env} {R0 : Room} {s : State} {m : MethodId} {args : Array Value} {below : List Frame} {meth : Method} {c : Code} {G : va_G} {Y : Nat → ClassId} {base mc' ms' pc' : Nat} {H : Heap} {locs : List Loc} {ls : Array Slot} {stk : List Value} {a : Array Value} (hp : pc + 3 = pc') (hS : va_S (fun q => base ≤ q) s.heap H locs) (hl : lv_has ls c.maxLocals lv)
    (hr : va_Run p l e R0 s m args below meth c H locs kc ks mc' ms' (F0 m pc ls stk) st (mQ G Y base post a) (fun q => base ≤ q))
    (kk : ∀ (v : Option Value) (n' : Nat) (sh' : mSh) (P' : mPt) (D' : mDt) (E' : mEt), post v n' sh' P' D' E' → mV ((p, l, e, R0, s, m, args, below, meth, c), (G, Y, base)) Q (kc + mc') (ks + ms') n' sh' P' D' E' lv (v.toList ++ st) pc') : W p l e R0 s m args below meth c H locs kc ks Q (F0 m pc ls stk) := by
  subst hp
  intro T hT X
  obtain ⟨v, st₀, t, T', L, h0, X', hL, e1, e2, ⟨⟨v', n', sh', P', D', E', hv, hpo, hR'⟩, hz, hk⟩, stp⟩ := hr T hT X
  cases hv
  rw [h0] at hz hk
  have hS' : va_S (fun q => base ≤ q) s.heap T'.heap (locs ++ L) := ⟨Nat.le_trans hS.1 (by rw [e1]; exact hz), fun q h1 h2 => by rw [e1, hk q (Nat.lt_of_lt_of_le h1 hS.1) h2]; exact hS.2.1 q h1 h2, fun q hq => by
      rcases List.mem_append.mp hq with h | h
      · exact hS.2.2 q h
      · exact hL q h⟩
  obtain ⟨t2, a1, b1⟩ := kk v n' sh' P' D' E' hpo T'.heap (locs ++ L) ls (by rw [e1]; exact hR') hS' hl T' rfl X'
  exact ⟨t2, stp t2 a1, b1⟩
theorem mPreOf {G : va_G} {Y : Nat → ClassId} {base : Nat} {s : State} {H : Heap} {locs : List Loc} {As : List Value} (hK : mKx G Y s) (hbs : base ≤ s.heap.size) (hS : va_S (fun q => base ≤ q) s.heap H locs) (hR1 : mR G Y base n sh P D E H) : ∀ U : State, U.heap = H → s.WarmedH U.vm → va_Pc As (mPre G Y base n sh P D E) As.toArray U := fun U hU hW => ⟨rfl, mKx_warm hW hK, by rw [← hR1.1]; exact Nat.le_trans hbs hS.1, by rw [hU]; exact hR1⟩

theorem V_callV (h : mOk Γ κ own cc nL ret R) (pc' : Nat) {y : MethodName} {cc2 : ByteArray} {nL2 : Nat} {ret2 : Option FieldType} {rm : Room} {idx : Nat} {As stk : List Value} {ci b N : Nat} {T : u_T} (hM : mMet κ y cc2 nL2 ret2 rm (.ref b :: As) n sh P D E post) (hC : vwCl[ci]? = some (y.cls, T, N)) (hs : sh b = some (.inl ci)) (w1 : Cond.methodLink own idx y ∈ mW) (w2 : Cond.instanceMethod y ∈ mW) (w3 : Cond.selects y.cls y y ∈ mW) (w4 : Cond.initialized y.cls ∈ mW) (w5 : Cond.code y cc2 nL2 ret2 ∈ mW) (hd : y.cls ≠ "java/lang/invoke/MethodHandle" ∧ y.cls ≠ "java/lang/invoke/VarHandle" ∧ (parseMethodDescriptor y.desc).map (fun d => d.parameters.length) = some As.length) (hR : rm.frames + 1 ≤ R.frames ∧ 8 + (nL2 + 11) + rm.locals ≤ R.locals) (hcat : (st.map fun v => v.category).sum ≤ 8) (hp : pc + 3 = pc') (hstk : stk = As.reverse ++ .ref b :: st) (d : decode cc pc = .ok (.invokevirtual idx, 3)) (hroom : kc + rm.cells ≤ R.cells ∧ ks + rm.slots ≤ R.slots) (kk : ∀ (v : Option Value) (n' : Nat) (sh' : mSh) (P' : mPt) (D' : mDt) (E' : mEt), post v n' sh' P' D' E' → mV Γ Q (kc + rm.cells) (ks + rm.slots) n' sh' P' D' E' lv (v.toList ++ st) pc') : mV Γ Q kc ks n sh P D E lv stk pc := by
  obtain ⟨⟨p, l, e, R0, s, m, args, below, meth, c⟩, G, Y, base⟩ := Γ
  obtain ⟨hx, hb, hml, hown, hts, hK, hlk, hrt, hR, hbs, hκ⟩ := h
  subst hκ
  subst hR
  intro H locs ls hR1 hS hl
  refine mAfter (a := (Value.ref b :: As).toArray) hp hS hl ?_ kk
  exact va_runV (As := As) (rest := st) (nL := nL) (n := As.length) (Ts := mW) ⟨hx, hb, hml, hown, hts⟩ hM ⟨callB_of As.length hts (mGood w5) rfl rfl rfl (hts _ w4) (hts _ w1) hd hR, hts _ w2, hts _ w3⟩ ⟨mBlind, va_recv hK.1 (mR_one hR1 hs) (ci := ci) (q0 := 0) hC rfl, mPreOf hK hbs hS hR1⟩ rfl rfl (by rw [← hml]; exact hl.1) hstk (lv_room hcat) d hroom
theorem V_callS (h : mOk Γ κ own cc nL ret R) (pc' : Nat) {y : MethodName} {cc2 : ByteArray} {nL2 : Nat} {ret2 : Option FieldType} {rm : Room} {idx : Nat} {As stk : List Value} (hM : mMet κ y cc2 nL2 ret2 rm As n sh P D E post) (w1 : Cond.methodLink own idx y ∈ mW) (w2 : Cond.static y ∈ mW) (w4 : Cond.initialized y.cls ∈ mW) (w5 : Cond.code y cc2 nL2 ret2 ∈ mW) (hd : y.cls ≠ "java/lang/invoke/MethodHandle" ∧ y.cls ≠ "java/lang/invoke/VarHandle" ∧ (parseMethodDescriptor y.desc).map (fun d => d.parameters.length) = some As.length) (hR : rm.frames + 1 ≤ R.frames ∧ 8 + (nL2 + 11) + rm.locals ≤ R.locals) (hcat : (st.map fun v => v.category).sum ≤ 8) (hp : pc + 3 = pc') (hstk : stk = As.reverse ++ st) (d : decode cc pc = .ok (.invokestatic idx, 3)) (hroom : kc + rm.cells ≤ R.cells ∧ ks + rm.slots ≤ R.slots) (kk : ∀ (v : Option Value) (n' : Nat) (sh' : mSh) (P' : mPt) (D' : mDt) (E' : mEt), post v n' sh' P' D' E' → mV Γ Q (kc + rm.cells) (ks + rm.slots) n' sh' P' D' E' lv (v.toList ++ st) pc') : mV Γ Q kc ks n sh P D E lv stk pc := by
  obtain ⟨⟨p, l, e, R0, s, m, args, below, meth, c⟩, G, Y, base⟩ := Γ
  obtain ⟨hx, hb, hml, hown, hts, hK, hlk, hrt, hR, hbs, hκ⟩ := h
  subst hκ
  subst hR
  intro H locs ls hR1 hS hl
  refine mAfter (a := As.toArray) hp hS hl ?_ kk
  exact va_runS (As := As) (rest := st) (nL := nL) (n := As.length) (Ts := mW) ⟨hx, hb, hml, hown, hts⟩ hM ⟨callB_of As.length hts (mGood w5) rfl rfl rfl (hts _ w4) (hts _ w1) hd hR, hts _ w2⟩ ⟨mBlind, mPreOf hK hbs hS hR1⟩ rfl rfl (by rw [← hml]; exact hl.1) hstk (lv_room hcat) d hroom
theorem V_callI (h : mOk Γ κ own cc nL ret R) (pc' : Nat) {y : MethodName} {cc2 : ByteArray} {nL2 : Nat} {ret2 : Option FieldType} {rm : Room} {idx : Nat} {As stk : List Value} {b : Nat} (hM : mMet κ y cc2 nL2 none rm (.ref b :: As) n sh P D E post) (hin : y.name = "<init>") (w1 : Cond.methodLink own idx y ∈ mW) (w2 : Cond.instanceMethod y ∈ mW) (w4 : Cond.initialized y.cls ∈ mW) (w5 : Cond.code y cc2 nL2 none ∈ mW) (hd : y.cls ≠ "java/lang/invoke/MethodHandle" ∧ y.cls ≠ "java/lang/invoke/VarHandle" ∧ (parseMethodDescriptor y.desc).map (fun d => d.parameters.length) = some As.length) (hR : rm.frames + 1 ≤ R.frames ∧ 8 + (nL2 + 11) + rm.locals ≤ R.locals) (hcat : (st.map fun v => v.category).sum ≤ 8) (hp : pc + 3 = pc') (hstk : stk = As.reverse ++ .ref b :: st) (d : decode cc pc = .ok (.invokespecial idx, 3)) (hroom : kc + rm.cells ≤ R.cells ∧ ks + rm.slots ≤ R.slots) (kk : ∀ (v : Option Value) (n' : Nat) (sh' : mSh) (P' : mPt) (D' : mDt) (E' : mEt), post v n' sh' P' D' E' → mV Γ Q (kc + rm.cells) (ks + rm.slots) n' sh' P' D' E' lv (v.toList ++ st) pc') : mV Γ Q kc ks n sh P D E lv stk pc := by
  obtain ⟨⟨p, l, e, R0, s, m, args, below, meth, c⟩, G, Y, base⟩ := Γ
  obtain ⟨hx, hb, hml, hown, hts, hK, hlk, hrt, hR, hbs, hκ⟩ := h
  subst hκ
  subst hR
  intro H locs ls hR1 hS hl
  refine mAfter (a := (Value.ref b :: As).toArray) hp hS hl ?_ kk
  exact va_runI (As := As) (rest := st) (nL := nL) (n := As.length) (Ts := mW) ⟨hx, hb, hml, hown, hts⟩ hM ⟨callB_of As.length hts (mGood w5) rfl rfl rfl (hts _ w4) (hts _ w1) hd hR, hin, hts _ w2⟩ ⟨mBlind, mPreOf hK hbs hS hR1⟩ rfl rfl (by rw [← hml]; exact hl.1) hstk (lv_room hcat) d hroom
theorem V_callIN (h : mOk Γ κ own cc nL ret R) (pc' : Nat) {y : MethodName} {cc2 : ByteArray} {nL2 : Nat} {ret2 : Option FieldType} {rm : Room} {idx : Nat} {As stk : List Value} {b : Nat} {host : String} (hM : mMet κ y cc2 nL2 none rm (.ref b :: As) n sh P D E post) (hin : y.name = "<init>") (w1 : Cond.methodLinkNest own idx y host ∈ mNest) (w2 : Cond.instanceMethod y ∈ mW) (w4 : Cond.initialized y.cls ∈ mW) (w5 : Cond.code y cc2 nL2 none ∈ mW) (hd : y.cls ≠ "java/lang/invoke/MethodHandle" ∧ y.cls ≠ "java/lang/invoke/VarHandle" ∧ (parseMethodDescriptor y.desc).map (fun d => d.parameters.length) = some As.length) (hR : rm.frames + 1 ≤ R.frames ∧ 8 + (nL2 + 11) + rm.locals ≤ R.locals) (hcat : (st.map fun v => v.category).sum ≤ 8) (hp : pc + 3 = pc') (hstk : stk = As.reverse ++ .ref b :: st) (d : decode cc pc = .ok (.invokespecial idx, 3)) (hroom : kc + rm.cells ≤ R.cells ∧ ks + rm.slots ≤ R.slots) (kk : ∀ (v : Option Value) (n' : Nat) (sh' : mSh) (P' : mPt) (D' : mDt) (E' : mEt), post v n' sh' P' D' E' → mV Γ Q (kc + rm.cells) (ks + rm.slots) n' sh' P' D' E' lv (v.toList ++ st) pc') : mV Γ Q kc ks n sh P D E lv stk pc := by
  obtain ⟨⟨p, l, e, R0, s, m, args, below, meth, c⟩, G, Y, base⟩ := Γ
  obtain ⟨hx, hb, hml, hown, hts, hK, hlk, hrt, hR, hbs, hκ⟩ := h
  subst hκ
  subst hR
  intro H locs ls hR1 hS hl
  refine mAfter (a := (Value.ref b :: As).toArray) hp hS hl ?_ kk
  exact va_runIN (As := As) (rest := st) (nL := nL) (n := As.length) (Ts := mW) ⟨hx, hb, hml, hown, hts⟩ hM ⟨va_cnB As.length hts (mGood w5) rfl rfl rfl (hK.2 _ w1) (hts _ w4) hd hR, hin, hts _ w2⟩ ⟨mBlind, mPreOf hK hbs hS hR1⟩ rfl rfl (by rw [← hml]; exact hl.1) hstk (lv_room hcat) d hroom
theorem V_mmax (h : mOk Γ κ own cc nL ret R) (pc' : Nat) {idx : Nat} {x y : Int32} (w1 : Cond.methodLink own idx Lib.Math.max.name ∈ mW) (hf : 1 ≤ R.frames) (hlo : (st.map fun v => v.category).sum + 13 ≤ R.locals) (hc : kc ≤ R.cells) (hs : ks ≤ R.slots) (d : decode cc pc = .ok (.invokestatic idx, 3)) (hp : pc + 3 = pc') (kk : mV Γ Q kc ks n sh P D E lv (.int (imax x y) :: st) pc') : mV Γ Q kc ks n sh P D E lv (.int y :: .int x :: st) pc := by
  obtain ⟨⟨p, l, e, R0, s, m, args, below, meth, c⟩, G, Y, base⟩ := Γ
  obtain ⟨hx, hb, hml, hown, hts, hK, hlk, hrt, hR, hbs, hκ⟩ := h
  subst hp
  subst hR
  intro H locs ls hR1 hS hl
  exact va_mmax hx hb hl.1.symm hown (hts _ w1) (hts _ qT_Math_max) (hts _ qZ_Math) (hts _ qC_Math_max) hf hlo hc hs d (kk H locs ls hR1 hS hl)
theorem V_mmin (h : mOk Γ κ own cc nL ret R) (pc' : Nat) {idx : Nat} {x y : Int32} (w1 : Cond.methodLink own idx Lib.Math.min.name ∈ mW) (hf : 1 ≤ R.frames) (hlo : (st.map fun v => v.category).sum + 13 ≤ R.locals) (hc : kc ≤ R.cells) (hs : ks ≤ R.slots) (d : decode cc pc = .ok (.invokestatic idx, 3)) (hp : pc + 3 = pc') (kk : mV Γ Q kc ks n sh P D E lv (.int (imin x y) :: st) pc') : mV Γ Q kc ks n sh P D E lv (.int y :: .int x :: st) pc := by
  obtain ⟨⟨p, l, e, R0, s, m, args, below, meth, c⟩, G, Y, base⟩ := Γ
  obtain ⟨hx, hb, hml, hown, hts, hK, hlk, hrt, hR, hbs, hκ⟩ := h
  subst hp
  subst hR
  intro H locs ls hR1 hS hl
  exact va_mmin hx hb hl.1.symm hown (hts _ w1) (hts _ qT_Math_min) (hts _ qZ_Math) (hts _ qC_Math_min) hf hlo hc hs d (kk H locs ls hR1 hS hl)
end MC
/-- a contract of a method that makes nothing and writes ints alone -/
def mFn (κ : mKp) (y : MethodName) (cc : ByteArray) (nL : Nat) (ret : Option FieldType) (fr lo : Nat) (As : List Value) (n : Nat) (sh : mSh) (P : mPt) (D : mDt) (E : mEt) (post : Option Value → mDt → Prop) : Prop := mMet κ y cc nL ret { frames := fr, cells := 0, slots := 0, locals := lo } As n sh P D E (fun v n' sh' P' D' E' => n' = n ∧ sh' = sh ∧ P' = P ∧ E' = E ∧ post v D')
def mFnI (κ : mKp) (y : MethodName) (cc : ByteArray) (nL : Nat) (ret : Option FieldType) (fr lo : Nat) (As : List Value) (n : Nat) (sh : mSh) (P : mPt) (D : mDt) (E : mEt) (post : Int32 → mDt → Prop) : Prop := mFn κ y cc nL ret fr lo As n sh P D E (fun v D' => ∃ r : Int32, v = some (.int r) ∧ post r D')
def mFnR (κ : mKp) (y : MethodName) (cc : ByteArray) (nL : Nat) (ret : Option FieldType) (fr lo : Nat) (As : List Value) (n : Nat) (sh : mSh) (P : mPt) (D : mDt) (E : mEt) (post : Nat → mDt → Prop) : Prop := mFn κ y cc nL ret fr lo As n sh P D E (fun v D' => ∃ r : Nat, v = some (.ref r) ∧ post r D')
def mFnV (κ : mKp) (y : MethodName) (cc : ByteArray) (nL : Nat) (fr lo : Nat) (As : List Value) (n : Nat) (sh : mSh) (P : mPt) (D : mDt) (E : mEt) (post : mDt → Prop) : Prop := mFn κ y cc nL none fr lo As n sh P D E (fun v D' => v = none ∧ post D')
section MF
variable {Γ : mC} {κ : mKp} {Q : State → Prop} {kc ks n : Nat} {sh : mSh} {P : mPt} {D : mDt} {E : mEt} {lv : List (Nat × Value)} {st : List Value} {pc : Nat} {own : String} {cc : ByteArray} {nL : Nat} {ret : Option FieldType} {R : Room}

theorem CVI (h : mOk Γ κ own cc nL ret R) (pc' : Nat) {y : MethodName} {cc2 : ByteArray} {nL2 : Nat} {ret2 : Option FieldType} {fr lo : Nat} {idx : Nat} {As stk : List Value} {ci b N : Nat} {T : u_T} {post : Int32 → mDt → Prop} (hM : mFnI κ y cc2 nL2 ret2 fr lo (.ref b :: As) n sh P D E post) (hC : vwCl[ci]? = some (y.cls, T, N)) (hs : sh b = some (.inl ci)) (w1 : Cond.methodLink own idx y ∈ mW) (w2 : Cond.instanceMethod y ∈ mW) (w3 : Cond.selects y.cls y y ∈ mW) (w4 : Cond.initialized y.cls ∈ mW) (w5 : Cond.code y cc2 nL2 ret2 ∈ mW) (hd : y.cls ≠ "java/lang/invoke/MethodHandle" ∧ y.cls ≠ "java/lang/invoke/VarHandle" ∧ (parseMethodDescriptor y.desc).map (fun d => d.parameters.length) = some As.length) (hR : fr + 1 ≤ R.frames ∧ 8 + (nL2 + 11) + lo ≤ R.locals) (hcat : (st.map fun v => v.category).sum ≤ 8) (hp : pc + 3 = pc') (hstk : stk = As.reverse ++ .ref b :: st) (d : decode cc pc = .ok (.invokevirtual idx, 3)) (hkc : kc ≤ R.cells) (hks : ks ≤ R.slots) (kk : ∀ (r : Int32) (D' : mDt), post r D' → mV Γ Q kc ks n sh P D' E lv (.int r :: st) pc') : mV Γ Q kc ks n sh P D E lv stk pc := by
  refine V_callV h pc' (rm := { frames := fr, cells := 0, slots := 0, locals := lo }) hM hC hs w1 w2 w3 w4 w5 hd hR hcat hp hstk d ⟨hkc, hks⟩ ?_
  · intro v n' sh' P' D' E' hq
    obtain ⟨rfl, rfl, rfl, rfl, r, rfl, hq⟩ := hq
    exact kk r D' hq
theorem CVR (h : mOk Γ κ own cc nL ret R) (pc' : Nat) {y : MethodName} {cc2 : ByteArray} {nL2 : Nat} {ret2 : Option FieldType} {fr lo : Nat} {idx : Nat} {As stk : List Value} {ci b N : Nat} {T : u_T} {post : Nat → mDt → Prop} (hM : mFnR κ y cc2 nL2 ret2 fr lo (.ref b :: As) n sh P D E post) (hC : vwCl[ci]? = some (y.cls, T, N)) (hs : sh b = some (.inl ci)) (w1 : Cond.methodLink own idx y ∈ mW) (w2 : Cond.instanceMethod y ∈ mW) (w3 : Cond.selects y.cls y y ∈ mW) (w4 : Cond.initialized y.cls ∈ mW) (w5 : Cond.code y cc2 nL2 ret2 ∈ mW) (hd : y.cls ≠ "java/lang/invoke/MethodHandle" ∧ y.cls ≠ "java/lang/invoke/VarHandle" ∧ (parseMethodDescriptor y.desc).map (fun d => d.parameters.length) = some As.length) (hR : fr + 1 ≤ R.frames ∧ 8 + (nL2 + 11) + lo ≤ R.locals) (hcat : (st.map fun v => v.category).sum ≤ 8) (hp : pc + 3 = pc') (hstk : stk = As.reverse ++ .ref b :: st) (d : decode cc pc = .ok (.invokevirtual idx, 3)) (hkc : kc ≤ R.cells) (hks : ks ≤ R.slots) (kk : ∀ (r : Nat) (D' : mDt), post r D' → mV Γ Q kc ks n sh P D' E lv (.ref r :: st) pc') : mV Γ Q kc ks n sh P D E lv stk pc := by
  refine V_callV h pc' (rm := { frames := fr, cells := 0, slots := 0, locals := lo }) hM hC hs w1 w2 w3 w4 w5 hd hR hcat hp hstk d ⟨hkc, hks⟩ ?_
  · intro v n' sh' P' D' E' hq
    obtain ⟨rfl, rfl, rfl, rfl, r, rfl, hq⟩ := hq
    exact kk r D' hq
theorem CVV (h : mOk Γ κ own cc nL ret R) (pc' : Nat) {y : MethodName} {cc2 : ByteArray} {nL2 : Nat} {ret2 : Option FieldType} {fr lo : Nat} {idx : Nat} {As stk : List Value} {ci b N : Nat} {T : u_T} {post : mDt → Prop} (hM : mFnV κ y cc2 nL2 fr lo (.ref b :: As) n sh P D E post) (hC : vwCl[ci]? = some (y.cls, T, N)) (hs : sh b = some (.inl ci)) (w1 : Cond.methodLink own idx y ∈ mW) (w2 : Cond.instanceMethod y ∈ mW) (w3 : Cond.selects y.cls y y ∈ mW) (w4 : Cond.initialized y.cls ∈ mW) (w5 : Cond.code y cc2 nL2 none ∈ mW) (hd : y.cls ≠ "java/lang/invoke/MethodHandle" ∧ y.cls ≠ "java/lang/invoke/VarHandle" ∧ (parseMethodDescriptor y.desc).map (fun d => d.parameters.length) = some As.length) (hR : fr + 1 ≤ R.frames ∧ 8 + (nL2 + 11) + lo ≤ R.locals) (hcat : (st.map fun v => v.category).sum ≤ 8) (hp : pc + 3 = pc') (hstk : stk = As.reverse ++ .ref b :: st) (d : decode cc pc = .ok (.invokevirtual idx, 3)) (hkc : kc ≤ R.cells) (hks : ks ≤ R.slots) (kk : ∀ (D' : mDt), post D' → mV Γ Q kc ks n sh P D' E lv st pc') : mV Γ Q kc ks n sh P D E lv stk pc := by
  refine V_callV h pc' (rm := { frames := fr, cells := 0, slots := 0, locals := lo }) hM hC hs w1 w2 w3 w4 w5 hd hR hcat hp hstk d ⟨hkc, hks⟩ ?_
  · intro v n' sh' P' D' E' hq
    obtain ⟨rfl, rfl, rfl, rfl, rfl, hq⟩ := hq
    exact kk D' hq
theorem CSI (h : mOk Γ κ own cc nL ret R) (pc' : Nat) {y : MethodName} {cc2 : ByteArray} {nL2 : Nat} {ret2 : Option FieldType} {fr lo : Nat} {idx : Nat} {As stk : List Value} {post : Int32 → mDt → Prop} (hM : mFnI κ y cc2 nL2 ret2 fr lo As n sh P D E post) (w1 : Cond.methodLink own idx y ∈ mW) (w2 : Cond.static y ∈ mW) (w4 : Cond.initialized y.cls ∈ mW) (w5 : Cond.code y cc2 nL2 ret2 ∈ mW) (hd : y.cls ≠ "java/lang/invoke/MethodHandle" ∧ y.cls ≠ "java/lang/invoke/VarHandle" ∧ (parseMethodDescriptor y.desc).map (fun d => d.parameters.length) = some As.length) (hR : fr + 1 ≤ R.frames ∧ 8 + (nL2 + 11) + lo ≤ R.locals) (hcat : (st.map fun v => v.category).sum ≤ 8) (hp : pc + 3 = pc') (hstk : stk = As.reverse ++ st) (d : decode cc pc = .ok (.invokestatic idx, 3)) (hkc : kc ≤ R.cells) (hks : ks ≤ R.slots) (kk : ∀ (r : Int32) (D' : mDt), post r D' → mV Γ Q kc ks n sh P D' E lv (.int r :: st) pc') : mV Γ Q kc ks n sh P D E lv stk pc := by
  refine V_callS h pc' (rm := { frames := fr, cells := 0, slots := 0, locals := lo }) hM w1 w2 w4 w5 hd hR hcat hp hstk d ⟨hkc, hks⟩ ?_
  · intro v n' sh' P' D' E' hq
    obtain ⟨rfl, rfl, rfl, rfl, r, rfl, hq⟩ := hq
    exact kk r D' hq
theorem CSR (h : mOk Γ κ own cc nL ret R) (pc' : Nat) {y : MethodName} {cc2 : ByteArray} {nL2 : Nat} {ret2 : Option FieldType} {fr lo : Nat} {idx : Nat} {As stk : List Value} {post : Nat → mDt → Prop} (hM : mFnR κ y cc2 nL2 ret2 fr lo As n sh P D E post) (w1 : Cond.methodLink own idx y ∈ mW) (w2 : Cond.static y ∈ mW) (w4 : Cond.initialized y.cls ∈ mW) (w5 : Cond.code y cc2 nL2 ret2 ∈ mW) (hd : y.cls ≠ "java/lang/invoke/MethodHandle" ∧ y.cls ≠ "java/lang/invoke/VarHandle" ∧ (parseMethodDescriptor y.desc).map (fun d => d.parameters.length) = some As.length) (hR : fr + 1 ≤ R.frames ∧ 8 + (nL2 + 11) + lo ≤ R.locals) (hcat : (st.map fun v => v.category).sum ≤ 8) (hp : pc + 3 = pc') (hstk : stk = As.reverse ++ st) (d : decode cc pc = .ok (.invokestatic idx, 3)) (hkc : kc ≤ R.cells) (hks : ks ≤ R.slots) (kk : ∀ (r : Nat) (D' : mDt), post r D' → mV Γ Q kc ks n sh P D' E lv (.ref r :: st) pc') : mV Γ Q kc ks n sh P D E lv stk pc := by
  refine V_callS h pc' (rm := { frames := fr, cells := 0, slots := 0, locals := lo }) hM w1 w2 w4 w5 hd hR hcat hp hstk d ⟨hkc, hks⟩ ?_
  · intro v n' sh' P' D' E' hq
    obtain ⟨rfl, rfl, rfl, rfl, r, rfl, hq⟩ := hq
    exact kk r D' hq
theorem CSV (h : mOk Γ κ own cc nL ret R) (pc' : Nat) {y : MethodName} {cc2 : ByteArray} {nL2 : Nat} {ret2 : Option FieldType} {fr lo : Nat} {idx : Nat} {As stk : List Value} {post : mDt → Prop} (hM : mFnV κ y cc2 nL2 fr lo As n sh P D E post) (w1 : Cond.methodLink own idx y ∈ mW) (w2 : Cond.static y ∈ mW) (w4 : Cond.initialized y.cls ∈ mW) (w5 : Cond.code y cc2 nL2 none ∈ mW) (hd : y.cls ≠ "java/lang/invoke/MethodHandle" ∧ y.cls ≠ "java/lang/invoke/VarHandle" ∧ (parseMethodDescriptor y.desc).map (fun d => d.parameters.length) = some As.length) (hR : fr + 1 ≤ R.frames ∧ 8 + (nL2 + 11) + lo ≤ R.locals) (hcat : (st.map fun v => v.category).sum ≤ 8) (hp : pc + 3 = pc') (hstk : stk = As.reverse ++ st) (d : decode cc pc = .ok (.invokestatic idx, 3)) (hkc : kc ≤ R.cells) (hks : ks ≤ R.slots) (kk : ∀ (D' : mDt), post D' → mV Γ Q kc ks n sh P D' E lv st pc') : mV Γ Q kc ks n sh P D E lv stk pc := by
  refine V_callS h pc' (rm := { frames := fr, cells := 0, slots := 0, locals := lo }) hM w1 w2 w4 w5 hd hR hcat hp hstk d ⟨hkc, hks⟩ ?_
  · intro v n' sh' P' D' E' hq
    obtain ⟨rfl, rfl, rfl, rfl, rfl, hq⟩ := hq
    exact kk D' hq
end MF
end
